section
variable {l : Launch} {D : va_G} {cI cZ cJ : ClassId} {ad bd : Nat → Nat} {a0 : Nat} {ws : va_W} {nn mm : Nat} {th bm : Int} {tT tB tE tL : Nat → Int} {oO oR oQ : Nat → Nat} {zS zM zN : Nat → Int} {oJ fF : Nat → Nat}
set_option maxHeartbeats 4000000 in
set_option maxRecDepth 100000 in
theorem mX1_orderByInsertion (hT : ∀ k, 0 ≤ tT k ∧ tT k ≤ 99) (hn : nn ≤ 7) (hm : 1 ≤ mm ∧ mm ≤ 5) : IM l yX1_orderByInsertion wsX1_orderByInsertion (rmx 5 116) D (tyk cI cZ cJ) (mw bd cI th nn mm bm tT oO tB tL oR oJ) [.ref (bd 0)] (QI D (tyk cI cZ cJ) (fun u : (Nat → Nat) × (Nat → Int) × (Nat → Nat) => mw bd cI 0 nn mm bm tT u.1 u.2.1 tL u.2.2 oJ) (fun y u => y = iI (mk 0 mm tT (rin tT mm nn nn) nn) ∧ eqn nn u.1 (rin tT mm nn nn))) := by
  refine imI_of (cc := cX1_orderByInsertion) (maxL := 7) (by decide) rfl (Nat.le_of_ble_eq_true rfl) ?_
  intro p e s m args below meth c A Q hx hb hml hown hts hA hK hP hD hS hret ls hl
  have hown : s.vm.findClass RX1 = some m.cls := hown
  have hl : lv_has ls 7 [(0, .ref (bd 0))] := hl
  have inW : ∀ w ∈ wsX10, w ∈ wsX1_orderByInsertion := by first | exact (fun w h => List.mem_cons_of_mem _ (List.mem_append_right _ h)) | exact (fun w h => List.mem_cons_of_mem _ (List.mem_append_left _ (List.mem_append_right _ h))) | exact (fun w h => List.mem_cons_of_mem _ (List.mem_append_left _ (List.mem_append_left _ (List.mem_append_right _ h)))) | decide +kernel
  refine lv_aload_n hx hb dX1_orderByInsertion_0 rfl (lv_at hl 0 rfl) ?_
  refine lv_iconst (v := iI 0) hx hb dX1_orderByInsertion_1 rfl ?_
  refine va_put (D := D) (ci := 1) (ty := .int) (C := RX1) (T := TX1) (N := 10) hx hb hts inW tyX1 tyX1_ok nmX1 hown hK hP hD hS 0 rfl rfl 0 (by decide) (hts (.fieldLink RX1 32 "FlowforgeModel" "thrown" "I") (List.mem_of_getElem? (i := 1) rfl)) (fun _ h9 => h9) rfl (by decide +kernel) rfl rfl (Nat.le_of_ble_eq_true rfl) dX1_orderByInsertion_2 (fun H locs hP hD hS => ?_)
  have hP : va_P D vwCl (mw bd cI 0 nn mm bm tT oO tB tL oR oJ) H := hP
  have hD : va_D A (mw bd cI 0 nn mm bm tT oO tB tL oR oJ) := hD
  refine lv_iconst (v := iI 0) hx hb dX1_orderByInsertion_5 rfl ?_
  refine lv_istore_n (lv' := [(1, .int (iI 0)), (0, .ref (bd 0))]) hx hb dX1_orderByInsertion_6 rfl hl (by decide) rfl (fun ls hl => ?_)
  have L7 : ∀ (fu : Nat) (i : Nat) (wstarts7 : Nat → Int) (wtrial7 : Nat → Nat) (x1_7 : Int), (i ≤ nn) → (eqn i wtrial7 (rin tT mm nn i)) → (x1_7 = (i : Int)) → nn - i < fu → ∀ (H : Heap) (locs : List Loc), va_P D vwCl (mw bd cI 0 nn mm bm tT oO wstarts7 tL wtrial7 oJ) H → va_D A (mw bd cI 0 nn mm bm tT oO wstarts7 tL wtrial7 oJ) → va_S A s.heap H locs → ∀ ls : Array Slot, lv_has ls 7 [(1, .int (iI (x1_7))), (0, .ref (bd 0))] → W p l e (rmx 5 116) s m args below meth c H locs 0 0 Q (F0 m 7 ls []) := by
    intro fu
    induction fu with
    | zero =>
      intro i wstarts7 wtrial7 x1_7 hi hT9 hq0 hfu
      exact absurd hfu (Nat.not_lt_zero _)
    | succ fu ih =>
      intro i wstarts7 wtrial7 x1_7 hi hT9 hq0 hfu H locs hP hD hS ls hl
      subst hq0
      have ih7 := ih
      refine lv_iload_n hx hb dX1_orderByInsertion_7 rfl (lv_at hl 0 rfl) ?_
      refine lv_aload_n hx hb dX1_orderByInsertion_8 rfl (lv_at hl 1 rfl) ?_
      refine va_get (D := D) (ci := 1) (C := RX1) (T := TX1) (N := 10) hx hb hts inW hown hK hP 0 rfl rfl 1 (by decide) (hts (.fieldLink RX1 35 "FlowforgeModel" "many" "I") (List.mem_of_getElem? (i := 2) rfl)) (fun _ h9 => h9) rfl dX1_orderByInsertion_9 ?_
      refine w_icmp_ge (tgt := 114) hx hb dX1_orderByInsertion_12 (by decide) ⟨by omega, by omega⟩ ⟨by omega, by omega⟩ (fun c12 => ?_) (fun c12 => ?_)
      · obtain rfl : nn = i := by omega
        have hO9 : ∀ k, k < nn → ovr wtrial7 oO nn k < 7 := fun k hk => by rw [ovr_in hk, hT9 k hk]; exact rin_lt hm hT hn nn (Nat.le_refl _) k hk
        refine lv_aload_n hx hb dX1_orderByInsertion_114 rfl (lv_at hl 1 rfl) ?_
        refine w_iVv (As := []) (rest := []) (wf := fun u : Unit => mw bd cI 0 nn mm bm tT (ovr wtrial7 oO nn) wstarts7 tL wtrial7 oJ) (wr := []) ⟨hx, hb, hml, hown, hts⟩ hK hP hD hS hA (mX1_takesTrial  hn) (cwV 0 hts gX1_orderByInsertion_X1_takesTrial rfl rfl rfl (by decide +kernel) ⟨Nat.le_of_ble_eq_true rfl, Nat.le_of_ble_eq_true rfl⟩) [0, 1, 2, 3, 4, 5, 6] [] [0, 1, 2, 3, 4, 5, 6] rfl rfl (by decide) (by decide) (by decide) (hwf := fun _ => rfl) (by decide) (ci := 1) rfl rfl rfl rfl hl.1 rfl (Nat.le_of_ble_eq_true rfl) dX1_orderByInsertion_115 ⟨Nat.zero_le _, Nat.zero_le _⟩ (fun u H locs hr115 hP hD hS => ?_)
        refine lv_aload_n hx hb dX1_orderByInsertion_118 rfl (lv_at hl 1 rfl) ?_
        refine w_iV (As := []) (rest := []) (wf := fun u : (Nat → Int) => mw bd cI 0 nn mm bm tT (ovr wtrial7 oO nn) u tL wtrial7 oJ) (wr := []) ⟨hx, hb, hml, hown, hts⟩ hK hP hD hS hA (mX1_plain  hT hn hm hO9) (cwV 0 hts gX1_orderByInsertion_X1_plain rfl rfl rfl (by decide +kernel) ⟨Nat.le_of_ble_eq_true rfl, Nat.le_of_ble_eq_true rfl⟩) [0, 1, 2, 3, 4, 5, 6] [] [0, 1, 2, 3, 4, 5, 6] rfl rfl (by decide) (by decide) (by decide) (hwf := fun _ => rfl) (by decide) (ci := 1) rfl rfl rfl rfl hl.1 rfl (Nat.le_of_ble_eq_true rfl) dX1_orderByInsertion_119 ⟨Nat.zero_le _, Nat.zero_le _⟩ (fun r119 u H locs hr119 hP hD hS => ?_)
        obtain ⟨uB, huB⟩ : ∃ z, z = u := ⟨_, rfl⟩
        subst huB
        obtain ⟨hq119, hI⟩ := hr119
        have hP : va_P D vwCl (mw bd cI 0 nn mm bm tT (ovr wtrial7 oO nn) uB tL wtrial7 oJ) H := hP
        have hD : va_D A (mw bd cI 0 nn mm bm tT (ovr wtrial7 oO nn) uB tL wtrial7 oJ) := hD
        refine w_top (v := iI ((mk 0 mm tT (rin tT mm nn nn) nn))) (hq119.trans (congrArg iI (mk_cg (fun k hk => (ovr_in hk).trans (hT9 k hk))))) ?_
        exact hret _ _ 122 ls _ ((ovr wtrial7 oO nn, uB, wtrial7)) hP hD hS (⟨rfl, fun k hk => (ovr_in hk).trans (hT9 k hk)⟩) dX1_orderByInsertion_122
      · refine lv_aload_n hx hb dX1_orderByInsertion_15 rfl (lv_at hl 1 rfl) ?_
        refine lv_iload_n hx hb dX1_orderByInsertion_16 rfl (lv_at hl 0 rfl) ?_
        refine w_pV (As := [.int (iI ((i : Int)))]) (rest := []) ⟨hx, hb, hml, hown, hts⟩ hK hP (mX1_bySum  hT hn hm (by omega)) (cwV 1 hts gX1_orderByInsertion_X1_bySum rfl rfl rfl (by decide +kernel) ⟨Nat.le_of_ble_eq_true rfl, Nat.le_of_ble_eq_true rfl⟩) (ci := 1) rfl rfl rfl rfl hl.1 rfl (Nat.le_of_ble_eq_true rfl) dX1_orderByInsertion_17 ⟨Nat.zero_le _, Nat.zero_le _⟩ (fun r17 hr17 => ?_)
        have hbl := bsr_le tT mm nn i nn
        refine w_top (v := iI (((bsr tT mm nn i nn : Nat) : Int))) (hr17) ?_
        refine lv_istore_n (lv' := [(2, .int (iI (((bsr tT mm nn i nn : Nat) : Int)))), (1, .int (iI ((i : Int)))), (0, .ref (bd 0))]) hx hb dX1_orderByInsertion_20 rfl hl (by decide) rfl (fun ls hl => ?_)
        refine lv_iconst (v := iI 0) hx hb dX1_orderByInsertion_21 rfl ?_
        refine lv_istore_n (lv' := [(3, .int (iI 0)), (2, .int (iI (((bsr tT mm nn i nn : Nat) : Int)))), (1, .int (iI ((i : Int)))), (0, .ref (bd 0))]) hx hb dX1_orderByInsertion_22 rfl hl (by decide) rfl (fun ls hl => ?_)
        refine lv_ldc (v := 1000000) hx hb hown (hts (.constant RX1 100 (1000000)) (List.mem_of_getElem? (i := 3) rfl)) dX1_orderByInsertion_23 ?_
        refine w_top (v := iI 1000000) (by decide +kernel) ?_
        refine lv_istore (lv' := [(4, .int (iI 1000000)), (3, .int (iI 0)), (2, .int (iI (((bsr tT mm nn i nn : Nat) : Int)))), (1, .int (iI ((i : Int)))), (0, .ref (bd 0))]) hx hb dX1_orderByInsertion_25 hl (by decide) rfl (fun ls hl => ?_)
        refine lv_iconst (v := iI 0) hx hb dX1_orderByInsertion_27 rfl ?_
        refine lv_istore (lv' := [(5, .int (iI 0)), (4, .int (iI 1000000)), (3, .int (iI 0)), (2, .int (iI (((bsr tT mm nn i nn : Nat) : Int)))), (1, .int (iI ((i : Int)))), (0, .ref (bd 0))]) hx hb dX1_orderByInsertion_28 hl (by decide) rfl (fun ls hl => ?_)
        have L30 : ∀ (fu : Nat) (q : Nat) (wstarts30 : Nat → Int) (wtrial30 : Nat → Nat) (x5_30 : Int) (x4_30 : Int) (x3_30 : Int), (q ≤ i + 1) → (eqn i wtrial30 (rin tT mm nn i)) → (x5_30 = (q : Int)) → (x4_30 = ((fmn (rG tT mm (rin tT mm nn i) i (bsr tT mm nn i nn)) q).1)) → (x3_30 = (((fmn (rG tT mm (rin tT mm nn i) i (bsr tT mm nn i nn)) q).2 : Nat) : Int)) → i + 1 - q < fu → ∀ (H : Heap) (locs : List Loc), va_P D vwCl (mw bd cI 0 nn mm bm tT oO wstarts30 tL wtrial30 oJ) H → va_D A (mw bd cI 0 nn mm bm tT oO wstarts30 tL wtrial30 oJ) → va_S A s.heap H locs → ∀ ls : Array Slot, lv_has ls 7 [(5, .int (iI (x5_30))), (4, .int (iI (x4_30))), (3, .int (iI (x3_30))), (2, .int (iI (((bsr tT mm nn i nn : Nat) : Int)))), (1, .int (iI ((i : Int)))), (0, .ref (bd 0))] → W p l e (rmx 5 116) s m args below meth c H locs 0 0 Q (F0 m 30 ls []) := by
          intro fu
          induction fu with
          | zero =>
            intro q wstarts30 wtrial30 x5_30 x4_30 x3_30 hq hT8 hq0 hq1 hq2 hfu
            exact absurd hfu (Nat.not_lt_zero _)
          | succ fu ih =>
            intro q wstarts30 wtrial30 x5_30 x4_30 x3_30 hq hT8 hq0 hq1 hq2 hfu H locs hP hD hS ls hl
            subst hq0
            subst hq1
            subst hq2
            have ih30 := ih
            have h9 := fmn_rg (by omega) (rG_rg (r := rin tT mm nn i) (j := bsr tT mm nn i nn) hm hT (show i + 1 ≤ 7 by omega)) q
            have h8 := rG_rg (r := rin tT mm nn i) (j := bsr tT mm nn i nn) hm hT (show i + 1 ≤ 7 by omega) q
            refine lv_iload hx hb dX1_orderByInsertion_30 (lv_at hl 0 rfl) ?_
            refine lv_iload_n hx hb dX1_orderByInsertion_32 rfl (lv_at hl 4 rfl) ?_
            refine w_icmp_gt (tgt := 101) hx hb dX1_orderByInsertion_33 (by decide) ⟨by omega, by omega⟩ ⟨by omega, by omega⟩ (fun c33 => ?_) (fun c33 => ?_)
            · have hpp : q = i + 1 := by omega
              have h7 : (fmn (rG tT mm (rin tT mm nn i) i (bsr tT mm nn i nn)) q).2 ≤ i := by omega
              refine lv_aload_n hx hb dX1_orderByInsertion_101 rfl (lv_at hl 5 rfl) ?_
              refine lv_iload_n hx hb dX1_orderByInsertion_102 rfl (lv_at hl 3 rfl) ?_
              refine lv_iload_n hx hb dX1_orderByInsertion_103 rfl (lv_at hl 2 rfl) ?_
              refine lv_iload_n hx hb dX1_orderByInsertion_104 rfl (lv_at hl 4 rfl) ?_
              refine w_iVv (As := [.int (iI (((((bsr tT mm nn i nn)) : Nat) : Int))), .int (iI ((((((fmn (rG tT mm (rin tT mm nn i) i (bsr tT mm nn i nn)) q).2)) : Nat) : Int))), .int (iI ((i : Int)))]) (rest := []) (wf := fun u : Unit => mw bd cI 0 nn mm bm tT oO wstarts30 tL (pin wtrial30 i (((fmn (rG tT mm (rin tT mm nn i) i (bsr tT mm nn i nn)) q).2)) ((bsr tT mm nn i nn))) oJ) (wr := []) ⟨hx, hb, hml, hown, hts⟩ hK hP hD hS hA (mX1_puts  (by omega) h7) (cwV 3 hts gX1_orderByInsertion_X1_puts rfl rfl rfl (by decide +kernel) ⟨Nat.le_of_ble_eq_true rfl, Nat.le_of_ble_eq_true rfl⟩) [0, 1, 2, 3, 4, 5, 6] [] [0, 1, 2, 3, 4, 5, 6] rfl rfl (by decide) (by decide) (by decide) (hwf := fun _ => rfl) (by decide) (ci := 1) rfl rfl rfl rfl hl.1 (by rw [show ((((bsr tT mm nn i nn : Nat) : Int)) : Int) = ((((bsr tT mm nn i nn)) : Nat) : Int) by omega]; rw [show (((((fmn (rG tT mm (rin tT mm nn i) i (bsr tT mm nn i nn)) q).2 : Nat) : Int)) : Int) = (((((fmn (rG tT mm (rin tT mm nn i) i (bsr tT mm nn i nn)) q).2)) : Nat) : Int) by omega]; try rfl) (Nat.le_of_ble_eq_true rfl) dX1_orderByInsertion_105 ⟨Nat.zero_le _, Nat.zero_le _⟩ (fun u H locs hr105 hP hD hS => ?_)
              refine lv_iinc (v := iI ((i : Int) + 1)) (lv' := [(1, .int (iI ((i : Int) + 1))), (5, .int (iI ((q : Int)))), (4, .int (iI (((fmn (rG tT mm (rin tT mm nn i) i (bsr tT mm nn i nn)) q).1)))), (3, .int (iI ((((fmn (rG tT mm (rin tT mm nn i) i (bsr tT mm nn i nn)) q).2 : Nat) : Int)))), (2, .int (iI (((bsr tT mm nn i nn : Nat) : Int)))), (0, .ref (bd 0))]) hx hb dX1_orderByInsertion_108 hl (k := 4) rfl (iI_inc (by omega)) (by decide) rfl (fun ls hl => ?_)
              refine lv_goto (tgt := 7) hx hb dX1_orderByInsertion_111 (by decide) ?_
              exact ih7 (i + 1) wstarts30 (pin wtrial30 i (((fmn (rG tT mm (rin tT mm nn i) i (bsr tT mm nn i nn)) q).2)) ((bsr tT mm nn i nn))) ((i : Int) + 1) (by omega) (by have e6 := pin_cg (j := bsr tT mm nn i nn) h7 hT8; rw [hpp] at e6; rw [hpp]; exact e6) (by omega) (by omega) _ _ hP hD hS ls (lv_sub hl [0, 5] rfl)
            · refine lv_aload_n hx hb dX1_orderByInsertion_36 rfl (lv_at hl 5 rfl) ?_
              refine lv_iload_n hx hb dX1_orderByInsertion_37 rfl (lv_at hl 3 rfl) ?_
              refine lv_iload hx hb dX1_orderByInsertion_38 (lv_at hl 0 rfl) ?_
              refine lv_iload_n hx hb dX1_orderByInsertion_40 rfl (lv_at hl 4 rfl) ?_
              refine w_iVv (As := [.int (iI (((((bsr tT mm nn i nn)) : Nat) : Int))), .int (iI ((q : Int))), .int (iI ((i : Int)))]) (rest := []) (wf := fun u : Unit => mw bd cI 0 nn mm bm tT oO wstarts30 tL (pin wtrial30 i q ((bsr tT mm nn i nn))) oJ) (wr := []) ⟨hx, hb, hml, hown, hts⟩ hK hP hD hS hA (mX1_puts  (by omega) (by omega)) (cwV 3 hts gX1_orderByInsertion_X1_puts rfl rfl rfl (by decide +kernel) ⟨Nat.le_of_ble_eq_true rfl, Nat.le_of_ble_eq_true rfl⟩) [0, 1, 2, 3, 4, 5, 6] [] [0, 1, 2, 3, 4, 5, 6] rfl rfl (by decide) (by decide) (by decide) (hwf := fun _ => rfl) (by decide) (ci := 1) rfl rfl rfl rfl hl.1 (by rw [show ((((bsr tT mm nn i nn : Nat) : Int)) : Int) = ((((bsr tT mm nn i nn)) : Nat) : Int) by omega]; try rfl) (Nat.le_of_ble_eq_true rfl) dX1_orderByInsertion_41 ⟨Nat.zero_le _, Nat.zero_le _⟩ (fun u H locs hr41 hP hD hS => ?_)
              refine lv_aload_n hx hb dX1_orderByInsertion_44 rfl (lv_at hl 5 rfl) ?_
              refine lv_iconst (v := iI 0) hx hb dX1_orderByInsertion_45 rfl ?_
              refine lv_aload_n hx hb dX1_orderByInsertion_46 rfl (lv_at hl 5 rfl) ?_
              refine va_get (D := D) (ci := 1) (C := RX1) (T := TX1) (N := 10) hx hb hts inW hown hK hP 0 rfl rfl 7 (by decide) (hts (.fieldLink RX1 26 "FlowforgeModel" "trial" "[I") (List.mem_of_getElem? (i := 4) rfl)) (fun _ h9 => h9) rfl dX1_orderByInsertion_47 ?_
              refine lv_iload_n hx hb dX1_orderByInsertion_50 rfl (lv_at hl 4 rfl) ?_
              refine lv_iconst (v := iI 1) hx hb dX1_orderByInsertion_51 rfl ?_
              refine w_iadd (z := (i : Int) + 1) hx hb dX1_orderByInsertion_52 (by omega) ?_
              refine w_iV (As := [.int (iI 0), .ref (bd 5), .int (iI ((((i + 1) : Nat) : Int)))]) (rest := []) (wf := fun u : (Nat → Int) => mw bd cI 0 nn mm bm tT oO u tL (pin wtrial30 i q ((bsr tT mm nn i nn))) oJ) (wr := []) ⟨hx, hb, hml, hown, hts⟩ hK hP hD hS hA (mX1_lays_t (v := 0) (c0 := i + 1) hT hm (by omega) (by omega) (pin_lt (by omega) (by omega) (fun k hk => by rw [hT8 k hk]; exact rin_lt hm hT hn i hi k hk))) (cwV 3 hts gX1_orderByInsertion_X1_lays rfl rfl rfl (by decide +kernel) ⟨Nat.le_of_ble_eq_true rfl, Nat.le_of_ble_eq_true rfl⟩) [0, 1, 2, 3, 4, 5, 6] [] [0, 1, 2, 3, 4, 5, 6] rfl rfl (by decide) (by decide) (by decide) (hwf := fun _ => rfl) (by decide) (ci := 1) rfl rfl rfl rfl hl.1 (by rw [show (((i : Int) + 1) : Int) = (((i + 1) : Nat) : Int) by omega]; try rfl) (Nat.le_of_ble_eq_true rfl) dX1_orderByInsertion_53 ⟨Nat.zero_le _, Nat.zero_le _⟩ (fun r53 u H locs hr53 hP hD hS => ?_)
              obtain ⟨uB, huB⟩ : ∃ z, z = u := ⟨_, rfl⟩
              subst huB
              obtain ⟨hq53, hI⟩ := hr53
              have hP : va_P D vwCl (mw bd cI 0 nn mm bm tT oO uB tL (pin wtrial30 i q ((bsr tT mm nn i nn))) oJ) H := hP
              have hD : va_D A (mw bd cI 0 nn mm bm tT oO uB tL (pin wtrial30 i q ((bsr tT mm nn i nn))) oJ) := hD
              refine w_top (v := iI ((rG tT mm (rin tT mm nn i) i (bsr tT mm nn i nn) q))) (hq53.trans (congrArg iI (rG_cg (by omega) hT8))) ?_
              refine lv_istore (lv' := [(6, .int (iI ((rG tT mm (rin tT mm nn i) i (bsr tT mm nn i nn) q)))), (5, .int (iI ((q : Int)))), (4, .int (iI (((fmn (rG tT mm (rin tT mm nn i) i (bsr tT mm nn i nn)) q).1)))), (3, .int (iI ((((fmn (rG tT mm (rin tT mm nn i) i (bsr tT mm nn i nn)) q).2 : Nat) : Int)))), (2, .int (iI (((bsr tT mm nn i nn : Nat) : Int)))), (1, .int (iI ((i : Int)))), (0, .ref (bd 0))]) hx hb dX1_orderByInsertion_56 hl (by decide) rfl (fun ls hl => ?_)
              refine lv_iload hx hb dX1_orderByInsertion_58 (lv_at hl 0 rfl) ?_
              refine lv_iload hx hb dX1_orderByInsertion_60 (lv_at hl 2 rfl) ?_
              refine w_icmp_ge (tgt := 70) hx hb dX1_orderByInsertion_62 (by decide) ⟨by omega, by omega⟩ ⟨by omega, by omega⟩ (fun c62 => ?_) (fun c62 => ?_)
              · have e7 : fmn (rG tT mm (rin tT mm nn i) i (bsr tT mm nn i nn)) (q + 1) = fmn (rG tT mm (rin tT mm nn i) i (bsr tT mm nn i nn)) q := fmn_n (by omega)
                refine lv_iload_n hx hb dX1_orderByInsertion_70 rfl (lv_at hl 3 rfl) ?_
                refine lv_istore_n (lv' := [(3, .int (iI ((((fmn (rG tT mm (rin tT mm nn i) i (bsr tT mm nn i nn)) q).2 : Nat) : Int)))), (6, .int (iI ((rG tT mm (rin tT mm nn i) i (bsr tT mm nn i nn) q)))), (5, .int (iI ((q : Int)))), (4, .int (iI (((fmn (rG tT mm (rin tT mm nn i) i (bsr tT mm nn i nn)) q).1)))), (2, .int (iI (((bsr tT mm nn i nn : Nat) : Int)))), (1, .int (iI ((i : Int)))), (0, .ref (bd 0))]) hx hb dX1_orderByInsertion_71 rfl hl (by decide) rfl (fun ls hl => ?_)
                refine lv_iload hx hb dX1_orderByInsertion_72 (lv_at hl 1 rfl) ?_
                refine lv_iload hx hb dX1_orderByInsertion_74 (lv_at hl 3 rfl) ?_
                refine w_icmp_ge (tgt := 84) hx hb dX1_orderByInsertion_76 (by decide) ⟨by omega, by omega⟩ ⟨by omega, by omega⟩ (fun c76 => ?_) (fun c76 => absurd c76 (by omega))
                refine lv_iload hx hb dX1_orderByInsertion_84 (lv_at hl 3 rfl) ?_
                refine lv_istore (lv' := [(4, .int (iI (((fmn (rG tT mm (rin tT mm nn i) i (bsr tT mm nn i nn)) q).1)))), (3, .int (iI ((((fmn (rG tT mm (rin tT mm nn i) i (bsr tT mm nn i nn)) q).2 : Nat) : Int)))), (6, .int (iI ((rG tT mm (rin tT mm nn i) i (bsr tT mm nn i nn) q)))), (5, .int (iI ((q : Int)))), (2, .int (iI (((bsr tT mm nn i nn : Nat) : Int)))), (1, .int (iI ((i : Int)))), (0, .ref (bd 0))]) hx hb dX1_orderByInsertion_86 hl (by decide) rfl (fun ls hl => ?_)
                refine lv_aload_n hx hb dX1_orderByInsertion_88 rfl (lv_at hl 6 rfl) ?_
                refine lv_iload hx hb dX1_orderByInsertion_89 (lv_at hl 3 rfl) ?_
                refine lv_iload_n hx hb dX1_orderByInsertion_91 rfl (lv_at hl 5 rfl) ?_
                refine w_iVv (As := [.int (iI ((q : Int))), .int (iI ((i : Int)))]) (rest := []) (wf := fun u : Unit => mw bd cI 0 nn mm bm tT oO uB tL (sh1 (pin wtrial30 i q ((bsr tT mm nn i nn))) q (i - q)) oJ) (wr := []) ⟨hx, hb, hml, hown, hts⟩ hK hP hD hS hA (mX1_takesOut  (by omega) (by omega)) (cwV 2 hts gX1_orderByInsertion_X1_takesOut rfl rfl rfl (by decide +kernel) ⟨Nat.le_of_ble_eq_true rfl, Nat.le_of_ble_eq_true rfl⟩) [0, 1, 2, 3, 4, 5, 6] [] [0, 1, 2, 3, 4, 5, 6] rfl rfl (by decide) (by decide) (by decide) (hwf := fun _ => rfl) (by decide) (ci := 1) rfl rfl rfl rfl hl.1 rfl (Nat.le_of_ble_eq_true rfl) dX1_orderByInsertion_92 ⟨Nat.zero_le _, Nat.zero_le _⟩ (fun u H locs hr92 hP hD hS => ?_)
                refine lv_iinc (v := iI ((q : Int) + 1)) (lv' := [(5, .int (iI ((q : Int) + 1))), (4, .int (iI (((fmn (rG tT mm (rin tT mm nn i) i (bsr tT mm nn i nn)) q).1)))), (3, .int (iI ((((fmn (rG tT mm (rin tT mm nn i) i (bsr tT mm nn i nn)) q).2 : Nat) : Int)))), (6, .int (iI ((rG tT mm (rin tT mm nn i) i (bsr tT mm nn i nn) q)))), (2, .int (iI (((bsr tT mm nn i nn : Nat) : Int)))), (1, .int (iI ((i : Int)))), (0, .ref (bd 0))]) hx hb dX1_orderByInsertion_95 hl (k := 3) rfl (iI_inc (by omega)) (by decide) rfl (fun ls hl => ?_)
                refine lv_goto (tgt := 30) hx hb dX1_orderByInsertion_98 (by decide) ?_
                exact ih30 (q + 1) uB (sh1 (pin wtrial30 i q ((bsr tT mm nn i nn))) q (i - q)) ((q : Int) + 1) (((fmn (rG tT mm (rin tT mm nn i) i (bsr tT mm nn i nn)) q).1)) ((((fmn (rG tT mm (rin tT mm nn i) i (bsr tT mm nn i nn)) q).2 : Nat) : Int)) (by omega) (pin_out (by omega) hT8) (by omega) (by rw [e7]; try rfl) (by rw [e7]; try rfl) (by omega) _ _ hP hD hS ls (lv_sub hl [0, 1, 2, 4, 5, 6] rfl)
              · have e7 : fmn (rG tT mm (rin tT mm nn i) i (bsr tT mm nn i nn)) (q + 1) = (rG tT mm (rin tT mm nn i) i (bsr tT mm nn i nn) q, q) := fmn_y (by omega)
                refine lv_iload hx hb dX1_orderByInsertion_65 (lv_at hl 1 rfl) ?_
                refine lv_goto (tgt := 71) hx hb dX1_orderByInsertion_67 (by decide) ?_
                refine lv_istore_n (lv' := [(3, .int (iI ((q : Int)))), (6, .int (iI ((rG tT mm (rin tT mm nn i) i (bsr tT mm nn i nn) q)))), (5, .int (iI ((q : Int)))), (4, .int (iI (((fmn (rG tT mm (rin tT mm nn i) i (bsr tT mm nn i nn)) q).1)))), (2, .int (iI (((bsr tT mm nn i nn : Nat) : Int)))), (1, .int (iI ((i : Int)))), (0, .ref (bd 0))]) hx hb dX1_orderByInsertion_71 rfl hl (by decide) rfl (fun ls hl => ?_)
                refine lv_iload hx hb dX1_orderByInsertion_72 (lv_at hl 1 rfl) ?_
                refine lv_iload hx hb dX1_orderByInsertion_74 (lv_at hl 3 rfl) ?_
                refine w_icmp_ge (tgt := 84) hx hb dX1_orderByInsertion_76 (by decide) ⟨by omega, by omega⟩ ⟨by omega, by omega⟩ (fun c76 => absurd c76 (by omega)) (fun c76 => ?_)
                refine lv_iload hx hb dX1_orderByInsertion_79 (lv_at hl 1 rfl) ?_
                refine lv_goto (tgt := 86) hx hb dX1_orderByInsertion_81 (by decide) ?_
                refine lv_istore (lv' := [(4, .int (iI ((rG tT mm (rin tT mm nn i) i (bsr tT mm nn i nn) q)))), (3, .int (iI ((q : Int)))), (6, .int (iI ((rG tT mm (rin tT mm nn i) i (bsr tT mm nn i nn) q)))), (5, .int (iI ((q : Int)))), (2, .int (iI (((bsr tT mm nn i nn : Nat) : Int)))), (1, .int (iI ((i : Int)))), (0, .ref (bd 0))]) hx hb dX1_orderByInsertion_86 hl (by decide) rfl (fun ls hl => ?_)
                refine lv_aload_n hx hb dX1_orderByInsertion_88 rfl (lv_at hl 6 rfl) ?_
                refine lv_iload hx hb dX1_orderByInsertion_89 (lv_at hl 3 rfl) ?_
                refine lv_iload_n hx hb dX1_orderByInsertion_91 rfl (lv_at hl 5 rfl) ?_
                refine w_iVv (As := [.int (iI ((q : Int))), .int (iI ((i : Int)))]) (rest := []) (wf := fun u : Unit => mw bd cI 0 nn mm bm tT oO uB tL (sh1 (pin wtrial30 i q ((bsr tT mm nn i nn))) q (i - q)) oJ) (wr := []) ⟨hx, hb, hml, hown, hts⟩ hK hP hD hS hA (mX1_takesOut  (by omega) (by omega)) (cwV 2 hts gX1_orderByInsertion_X1_takesOut rfl rfl rfl (by decide +kernel) ⟨Nat.le_of_ble_eq_true rfl, Nat.le_of_ble_eq_true rfl⟩) [0, 1, 2, 3, 4, 5, 6] [] [0, 1, 2, 3, 4, 5, 6] rfl rfl (by decide) (by decide) (by decide) (hwf := fun _ => rfl) (by decide) (ci := 1) rfl rfl rfl rfl hl.1 rfl (Nat.le_of_ble_eq_true rfl) dX1_orderByInsertion_92 ⟨Nat.zero_le _, Nat.zero_le _⟩ (fun u H locs hr92 hP hD hS => ?_)
                refine lv_iinc (v := iI ((q : Int) + 1)) (lv' := [(5, .int (iI ((q : Int) + 1))), (4, .int (iI ((rG tT mm (rin tT mm nn i) i (bsr tT mm nn i nn) q)))), (3, .int (iI ((q : Int)))), (6, .int (iI ((rG tT mm (rin tT mm nn i) i (bsr tT mm nn i nn) q)))), (2, .int (iI (((bsr tT mm nn i nn : Nat) : Int)))), (1, .int (iI ((i : Int)))), (0, .ref (bd 0))]) hx hb dX1_orderByInsertion_95 hl (k := 3) rfl (iI_inc (by omega)) (by decide) rfl (fun ls hl => ?_)
                refine lv_goto (tgt := 30) hx hb dX1_orderByInsertion_98 (by decide) ?_
                exact ih30 (q + 1) uB (sh1 (pin wtrial30 i q ((bsr tT mm nn i nn))) q (i - q)) ((q : Int) + 1) ((rG tT mm (rin tT mm nn i) i (bsr tT mm nn i nn) q)) ((q : Int)) (by omega) (pin_out (by omega) hT8) (by omega) (by rw [e7]; try rfl) (by rw [e7]; try rfl) (by omega) _ _ hP hD hS ls (lv_sub hl [0, 1, 2, 4, 5, 6] rfl)
        exact L30 (i + 1 - 0 + 1) 0 wstarts7 wtrial7 (0) (1000000) (0) (by omega) (hT9) (by omega) (rfl) (rfl) (Nat.lt_succ_self _) _ _ hP hD hS ls (lv_sub hl [0, 1, 2, 3, 4, 5] rfl)
  exact L7 (nn - 0 + 1) 0 tB oR (0) (by omega) (fun k hk => absurd hk (Nat.not_lt_zero _)) (by omega) (Nat.lt_succ_self _) _ _ hP hD hS ls (lv_sub hl [0, 1] rfl)
set_option maxHeartbeats 4000000 in
set_option maxRecDepth 100000 in
theorem mX1_improve (hT : ∀ k, 0 ≤ tT k ∧ tT k ≤ 99) (hn : nn ≤ 7) (hm : 1 ≤ mm ∧ mm ≤ 5) (hO : ∀ k, k < nn → oO k < 7) : IM l yX1_improve wsX1_improve (rmx 5 116) D (tyk cI cZ cJ) (mw bd cI th nn mm bm tT oO tB tL oR oJ) [.ref (bd 0)] (QI D (tyk cI cZ cJ) (fun u : (Nat → Nat) × (Nat → Int) × (Nat → Nat) => mw bd cI 0 nn mm bm tT u.1 u.2.1 tL u.2.2 oJ) (fun y u => y = iI (rmV tT mm nn oO) ∧ eqn nn u.1 (rmO tT mm nn oO))) := by
  refine imI_of (cc := cX1_improve) (maxL := 8) (by decide) rfl (Nat.le_of_ble_eq_true rfl) ?_
  intro p e s m args below meth c A Q hx hb hml hown hts hA hK hP hD hS hret ls hl
  have hown : s.vm.findClass RX1 = some m.cls := hown
  have hl : lv_has ls 8 [(0, .ref (bd 0))] := hl
  have inW : ∀ w ∈ wsX10, w ∈ wsX1_improve := by first | exact (fun w h => List.mem_cons_of_mem _ (List.mem_append_right _ h)) | exact (fun w h => List.mem_cons_of_mem _ (List.mem_append_left _ (List.mem_append_right _ h))) | exact (fun w h => List.mem_cons_of_mem _ (List.mem_append_left _ (List.mem_append_left _ (List.mem_append_right _ h)))) | decide +kernel
  refine lv_aload_n hx hb dX1_improve_0 rfl (lv_at hl 0 rfl) ?_
  refine lv_iconst (v := iI 0) hx hb dX1_improve_1 rfl ?_
  refine va_put (D := D) (ci := 1) (ty := .int) (C := RX1) (T := TX1) (N := 10) hx hb hts inW tyX1 tyX1_ok nmX1 hown hK hP hD hS 0 rfl rfl 0 (by decide) (hts (.fieldLink RX1 32 "FlowforgeModel" "thrown" "I") (List.mem_of_getElem? (i := 1) rfl)) (fun _ h9 => h9) rfl (by decide +kernel) rfl rfl (Nat.le_of_ble_eq_true rfl) dX1_improve_2 (fun H locs hP hD hS => ?_)
  have hP : va_P D vwCl (mw bd cI 0 nn mm bm tT oO tB tL oR oJ) H := hP
  have hD : va_D A (mw bd cI 0 nn mm bm tT oO tB tL oR oJ) := hD
  refine lv_aload_n hx hb dX1_improve_5 rfl (lv_at hl 0 rfl) ?_
  refine w_iV (As := []) (rest := []) (wf := fun u : (Nat → Int) => mw bd cI 0 nn mm bm tT oO u tL oR oJ) (wr := []) ⟨hx, hb, hml, hown, hts⟩ hK hP hD hS hA (mX1_plain  hT hn hm hO) (cwV 0 hts gX1_improve_X1_plain rfl rfl rfl (by decide +kernel) ⟨Nat.le_of_ble_eq_true rfl, Nat.le_of_ble_eq_true rfl⟩) [0, 1, 2, 3, 4, 5, 6] [] [0, 1, 2, 3, 4, 5, 6] rfl rfl (by decide) (by decide) (by decide) (hwf := fun _ => rfl) (by decide) (ci := 1) rfl rfl rfl rfl hl.1 rfl (Nat.le_of_ble_eq_true rfl) dX1_improve_6 ⟨Nat.zero_le _, Nat.zero_le _⟩ (fun r6 u H locs hr6 hP hD hS => ?_)
  obtain ⟨uB, huB⟩ : ∃ z, z = u := ⟨_, rfl⟩
  subst huB
  obtain ⟨hq6, hI⟩ := hr6
  have hP : va_P D vwCl (mw bd cI 0 nn mm bm tT oO uB tL oR oJ) H := hP
  have hD : va_D A (mw bd cI 0 nn mm bm tT oO uB tL oR oJ) := hD
  refine w_top (v := iI ((mk 0 mm tT oO nn))) (hq6) ?_
  refine lv_istore_n (lv' := [(1, .int (iI ((mk 0 mm tT oO nn)))), (0, .ref (bd 0))]) hx hb dX1_improve_9 rfl hl (by decide) rfl (fun ls hl => ?_)
  have h9 := mk_rg (v := 0) (o := oO) hm.1 hm.2 hT hn
  refine lv_ldc (v := 1000000) hx hb hown (hts (.constant RX1 100 (1000000)) (List.mem_of_getElem? (i := 2) rfl)) dX1_improve_10 ?_
  refine w_top (v := iI 1000000) (by decide +kernel) ?_
  refine lv_istore_n (lv' := [(2, .int (iI 1000000)), (1, .int (iI ((mk 0 mm tT oO nn)))), (0, .ref (bd 0))]) hx hb dX1_improve_12 rfl hl (by decide) rfl (fun ls hl => ?_)
  refine lv_iconst (v := iI 0) hx hb dX1_improve_13 rfl ?_
  refine lv_istore_n (lv' := [(3, .int (iI 0)), (2, .int (iI 1000000)), (1, .int (iI ((mk 0 mm tT oO nn)))), (0, .ref (bd 0))]) hx hb dX1_improve_14 rfl hl (by decide) rfl (fun ls hl => ?_)
  refine lv_iconst (v := iI 0) hx hb dX1_improve_15 rfl ?_
  refine lv_istore (lv' := [(4, .int (iI 0)), (3, .int (iI 0)), (2, .int (iI 1000000)), (1, .int (iI ((mk 0 mm tT oO nn)))), (0, .ref (bd 0))]) hx hb dX1_improve_16 hl (by decide) rfl (fun ls hl => ?_)
  refine lv_iconst (v := iI 0) hx hb dX1_improve_18 rfl ?_
  refine lv_istore (lv' := [(5, .int (iI 0)), (4, .int (iI 0)), (3, .int (iI 0)), (2, .int (iI 1000000)), (1, .int (iI ((mk 0 mm tT oO nn)))), (0, .ref (bd 0))]) hx hb dX1_improve_19 hl (by decide) rfl (fun ls hl => ?_)
  have L21 : ∀ (fu : Nat) (i : Nat) (wstarts21 : Nat → Int) (wtrial21 : Nat → Nat) (x5_21 : Int) (x4_21 : Int) (x3_21 : Int) (x2_21 : Int), (i ≤ nn) → (x5_21 = (i : Int)) → (x4_21 = (((rmS tT mm oO nn i).2.2 : Nat) : Int)) → (x3_21 = (((rmS tT mm oO nn i).2.1 : Nat) : Int)) → (x2_21 = ((rmS tT mm oO nn i).1)) → nn - i < fu → ∀ (H : Heap) (locs : List Loc), va_P D vwCl (mw bd cI 0 nn mm bm tT oO wstarts21 tL wtrial21 oJ) H → va_D A (mw bd cI 0 nn mm bm tT oO wstarts21 tL wtrial21 oJ) → va_S A s.heap H locs → ∀ ls : Array Slot, lv_has ls 8 [(5, .int (iI (x5_21))), (4, .int (iI (x4_21))), (3, .int (iI (x3_21))), (2, .int (iI (x2_21))), (1, .int (iI ((mk 0 mm tT oO nn)))), (0, .ref (bd 0))] → W p l e (rmx 5 116) s m args below meth c H locs 0 0 Q (F0 m 21 ls []) := by
    intro fu
    induction fu with
    | zero =>
      intro i wstarts21 wtrial21 x5_21 x4_21 x3_21 x2_21 hi hq0 hq1 hq2 hq3 hfu
      exact absurd hfu (Nat.not_lt_zero _)
    | succ fu ih =>
      intro i wstarts21 wtrial21 x5_21 x4_21 x3_21 x2_21 hi hq0 hq1 hq2 hq3 hfu H locs hP hD hS ls hl
      subst hq0
      subst hq1
      subst hq2
      subst hq3
      have ih21 := ih
      have h8 := rmS_ok (o := oO) hm hT hn hi
      refine lv_iload hx hb dX1_improve_21 (lv_at hl 0 rfl) ?_
      refine lv_aload_n hx hb dX1_improve_23 rfl (lv_at hl 5 rfl) ?_
      refine va_get (D := D) (ci := 1) (C := RX1) (T := TX1) (N := 10) hx hb hts inW hown hK hP 0 rfl rfl 1 (by decide) (hts (.fieldLink RX1 35 "FlowforgeModel" "many" "I") (List.mem_of_getElem? (i := 3) rfl)) (fun _ h9 => h9) rfl dX1_improve_24 ?_
      refine w_icmp_ge (tgt := 130) hx hb dX1_improve_27 (by decide) ⟨by omega, by omega⟩ ⟨by omega, by omega⟩ (fun c27 => ?_) (fun c27 => ?_)
      · obtain rfl : nn = i := by omega
        have h8a := h8.1
        refine lv_iload_n hx hb dX1_improve_130 rfl (lv_at hl 3 rfl) ?_
        refine lv_iload_n hx hb dX1_improve_131 rfl (lv_at hl 4 rfl) ?_
        refine w_icmp_lt (tgt := 137) hx hb dX1_improve_132 (by decide) ⟨by omega, by omega⟩ ⟨by omega, by omega⟩ (fun c132 => ?_) (fun c132 => ?_)
        · have h3 := h8.2.1 (by omega)
          have e9 : rmO tT mm nn oO = shf oO (rmS tT mm oO nn nn).2.1 (rmS tT mm oO nn nn).2.2 := if_pos (by omega)
          have e8 : rmV tT mm nn oO = mk 0 mm tT oO nn - (rmS tT mm oO nn nn).1 := if_pos (by omega)
          refine lv_aload_n hx hb dX1_improve_137 rfl (lv_at hl 5 rfl) ?_
          refine lv_iload_n hx hb dX1_improve_138 rfl (lv_at hl 2 rfl) ?_
          refine lv_iload hx hb dX1_improve_139 (lv_at hl 1 rfl) ?_
          refine w_iVv (As := [.int (iI ((((((rmS tT mm oO nn nn).2.1)) : Nat) : Int))), .int (iI ((((((rmS tT mm oO nn nn).2.2)) : Nat) : Int)))]) (rest := []) (wf := fun u : Unit => mw bd cI 0 nn mm bm tT oO wstarts21 tL (shf (ovr oO wtrial21 nn) (((rmS tT mm oO nn nn).2.1)) (((rmS tT mm oO nn nn).2.2))) oJ) (wr := []) ⟨hx, hb, hml, hown, hts⟩ hK hP hD hS hA (mX1_triesMove  hn h3.1 h3.2) (cwV 2 hts gX1_improve_X1_triesMove rfl rfl rfl (by decide +kernel) ⟨Nat.le_of_ble_eq_true rfl, Nat.le_of_ble_eq_true rfl⟩) [0, 1, 2, 3, 4, 5, 6] [] [0, 1, 2, 3, 4, 5, 6] rfl rfl (by decide) (by decide) (by decide) (hwf := fun _ => rfl) (by decide) (ci := 1) rfl rfl rfl rfl hl.1 (by rw [show (((((rmS tT mm oO nn nn).2.1 : Nat) : Int)) : Int) = (((((rmS tT mm oO nn nn).2.1)) : Nat) : Int) by omega]; rw [show (((((rmS tT mm oO nn nn).2.2 : Nat) : Int)) : Int) = (((((rmS tT mm oO nn nn).2.2)) : Nat) : Int) by omega]; try rfl) (Nat.le_of_ble_eq_true rfl) dX1_improve_141 ⟨Nat.zero_le _, Nat.zero_le _⟩ (fun u H locs hr141 hP hD hS => ?_)
          refine lv_aload_n hx hb dX1_improve_144 rfl (lv_at hl 5 rfl) ?_
          refine w_iVv (As := []) (rest := []) (wf := fun u : Unit => mw bd cI 0 nn mm bm tT (ovr (shf (ovr oO wtrial21 nn) (((rmS tT mm oO nn nn).2.1)) (((rmS tT mm oO nn nn).2.2))) oO nn) wstarts21 tL (shf (ovr oO wtrial21 nn) (((rmS tT mm oO nn nn).2.1)) (((rmS tT mm oO nn nn).2.2))) oJ) (wr := []) ⟨hx, hb, hml, hown, hts⟩ hK hP hD hS hA (mX1_takesTrial  hn) (cwV 0 hts gX1_improve_X1_takesTrial rfl rfl rfl (by decide +kernel) ⟨Nat.le_of_ble_eq_true rfl, Nat.le_of_ble_eq_true rfl⟩) [0, 1, 2, 3, 4, 5, 6] [] [0, 1, 2, 3, 4, 5, 6] rfl rfl (by decide) (by decide) (by decide) (hwf := fun _ => rfl) (by decide) (ci := 1) rfl rfl rfl rfl hl.1 rfl (Nat.le_of_ble_eq_true rfl) dX1_improve_145 ⟨Nat.zero_le _, Nat.zero_le _⟩ (fun u H locs hr145 hP hD hS => ?_)
          refine lv_iload_n hx hb dX1_improve_148 rfl (lv_at hl 4 rfl) ?_
          refine lv_iload_n hx hb dX1_improve_149 rfl (lv_at hl 3 rfl) ?_
          refine w_isub (z := (mk 0 mm tT oO nn) - ((rmS tT mm oO nn nn).1)) hx hb dX1_improve_150 (by omega) ?_
          exact hret _ _ 151 ls _ ((ovr (shf (ovr oO wtrial21 nn) (rmS tT mm oO nn nn).2.1 (rmS tT mm oO nn nn).2.2) oO nn, wstarts21, shf (ovr oO wtrial21 nn) (rmS tT mm oO nn nn).2.1 (rmS tT mm oO nn nn).2.2)) hP hD hS (⟨by rw [e8], by rw [e9]; exact fun k hk => (ovr_in hk).trans (shf_cg h3.1 h3.2 (fun k hk => ovr_in hk) k hk)⟩) dX1_improve_151
        · have e9 : rmO tT mm nn oO = oO := if_neg (by omega)
          have e8 : rmV tT mm nn oO = 0 := if_neg (by omega)
          refine lv_iconst (v := iI 0) hx hb dX1_improve_135 rfl ?_
          exact hret _ _ 136 ls _ ((oO, wstarts21, wtrial21)) hP hD hS (⟨by rw [e8], by rw [e9]; exact fun k hk => rfl⟩) dX1_improve_136
      · refine lv_iconst (v := iI 0) hx hb dX1_improve_30 rfl ?_
        refine lv_istore (lv' := [(6, .int (iI 0)), (5, .int (iI ((i : Int)))), (4, .int (iI ((((rmS tT mm oO nn i).2.2 : Nat) : Int)))), (3, .int (iI ((((rmS tT mm oO nn i).2.1 : Nat) : Int)))), (2, .int (iI (((rmS tT mm oO nn i).1)))), (1, .int (iI ((mk 0 mm tT oO nn)))), (0, .ref (bd 0))]) hx hb dX1_improve_31 hl (by decide) rfl (fun ls hl => ?_)
        have L33 : ∀ (fu : Nat) (j : Nat) (wstarts33 : Nat → Int) (wtrial33 : Nat → Nat) (x6_33 : Int) (x4_33 : Int) (x3_33 : Int) (x2_33 : Int), (j ≤ nn) → (x6_33 = (j : Int)) → (x4_33 = (((rmT tT mm oO nn i j).2.2 : Nat) : Int)) → (x3_33 = (((rmT tT mm oO nn i j).2.1 : Nat) : Int)) → (x2_33 = ((rmT tT mm oO nn i j).1)) → nn - j < fu → ∀ (H : Heap) (locs : List Loc), va_P D vwCl (mw bd cI 0 nn mm bm tT oO wstarts33 tL wtrial33 oJ) H → va_D A (mw bd cI 0 nn mm bm tT oO wstarts33 tL wtrial33 oJ) → va_S A s.heap H locs → ∀ ls : Array Slot, lv_has ls 8 [(6, .int (iI (x6_33))), (5, .int (iI ((i : Int)))), (4, .int (iI (x4_33))), (3, .int (iI (x3_33))), (2, .int (iI (x2_33))), (1, .int (iI ((mk 0 mm tT oO nn)))), (0, .ref (bd 0))] → W p l e (rmx 5 116) s m args below meth c H locs 0 0 Q (F0 m 33 ls []) := by
          intro fu
          induction fu with
          | zero =>
            intro j wstarts33 wtrial33 x6_33 x4_33 x3_33 x2_33 hj hq0 hq1 hq2 hq3 hfu
            exact absurd hfu (Nat.not_lt_zero _)
          | succ fu ih =>
            intro j wstarts33 wtrial33 x6_33 x4_33 x3_33 x2_33 hj hq0 hq1 hq2 hq3 hfu H locs hP hD hS ls hl
            subst hq0
            subst hq1
            subst hq2
            subst hq3
            have ih33 := ih
            have h7 := rmT_ok (o := oO) hm hT hn (show i < nn by omega) hj
            have h5 := h7.1
            refine lv_iload hx hb dX1_improve_33 (lv_at hl 0 rfl) ?_
            refine lv_aload_n hx hb dX1_improve_35 rfl (lv_at hl 6 rfl) ?_
            refine va_get (D := D) (ci := 1) (C := RX1) (T := TX1) (N := 10) hx hb hts inW hown hK hP 0 rfl rfl 1 (by decide) (hts (.fieldLink RX1 35 "FlowforgeModel" "many" "I") (List.mem_of_getElem? (i := 3) rfl)) (fun _ h9 => h9) rfl dX1_improve_36 ?_
            refine w_icmp_ge (tgt := 124) hx hb dX1_improve_39 (by decide) ⟨by omega, by omega⟩ ⟨by omega, by omega⟩ (fun c39 => ?_) (fun c39 => ?_)
            · have hjn : j = nn := by omega
              refine lv_iinc (v := iI ((i : Int) + 1)) (lv' := [(5, .int (iI ((i : Int) + 1))), (6, .int (iI ((j : Int)))), (4, .int (iI ((((rmT tT mm oO nn i j).2.2 : Nat) : Int)))), (3, .int (iI ((((rmT tT mm oO nn i j).2.1 : Nat) : Int)))), (2, .int (iI (((rmT tT mm oO nn i j).1)))), (1, .int (iI ((mk 0 mm tT oO nn)))), (0, .ref (bd 0))]) hx hb dX1_improve_124 hl (k := 1) rfl (iI_inc (by omega)) (by decide) rfl (fun ls hl => ?_)
              refine lv_goto (tgt := 21) hx hb dX1_improve_127 (by decide) ?_
              exact ih21 (i + 1) wstarts33 wtrial33 ((i : Int) + 1) ((((rmT tT mm oO nn i j).2.2 : Nat) : Int)) ((((rmT tT mm oO nn i j).2.1 : Nat) : Int)) (((rmT tT mm oO nn i j).1)) (by omega) (by omega) (by rw [hjn]; rfl) (by rw [hjn]; rfl) (by rw [hjn]; rfl) (by omega) _ _ hP hD hS ls (lv_sub hl [0, 2, 3, 4, 5, 6] rfl)
            · refine lv_aload_n hx hb dX1_improve_42 rfl (lv_at hl 6 rfl) ?_
              refine lv_iload hx hb dX1_improve_43 (lv_at hl 1 rfl) ?_
              refine lv_iload hx hb dX1_improve_45 (lv_at hl 0 rfl) ?_
              refine w_iVv (As := [.int (iI ((i : Int))), .int (iI ((j : Int)))]) (rest := []) (wf := fun u : Unit => mw bd cI 0 nn mm bm tT oO wstarts33 tL (shf (ovr oO wtrial33 nn) i j) oJ) (wr := []) ⟨hx, hb, hml, hown, hts⟩ hK hP hD hS hA (mX1_triesMove (a := i) (b := j) hn (by omega) (by omega)) (cwV 2 hts gX1_improve_X1_triesMove rfl rfl rfl (by decide +kernel) ⟨Nat.le_of_ble_eq_true rfl, Nat.le_of_ble_eq_true rfl⟩) [0, 1, 2, 3, 4, 5, 6] [] [0, 1, 2, 3, 4, 5, 6] rfl rfl (by decide) (by decide) (by decide) (hwf := fun _ => rfl) (by decide) (ci := 1) rfl rfl rfl rfl hl.1 rfl (Nat.le_of_ble_eq_true rfl) dX1_improve_47 ⟨Nat.zero_le _, Nat.zero_le _⟩ (fun u H locs hr47 hP hD hS => ?_)
              refine lv_iload hx hb dX1_improve_50 (lv_at hl 1 rfl) ?_
              refine lv_iload hx hb dX1_improve_52 (lv_at hl 0 rfl) ?_
              refine w_icmp_ne (tgt := 62) hx hb dX1_improve_54 (by decide) ⟨by omega, by omega⟩ ⟨by omega, by omega⟩ (fun c54 => ?_) (fun c54 => ?_)
              · have e6 : rmF tT mm oO nn i j = mkS tT mm oO i nn j := if_neg (by omega)
                have h4 := rmF_rg (o := oO) hm hT hn i j
                refine lv_aload_n hx hb dX1_improve_62 rfl (lv_at hl 6 rfl) ?_
                refine lv_iconst (v := iI 0) hx hb dX1_improve_63 rfl ?_
                refine lv_aload_n hx hb dX1_improve_64 rfl (lv_at hl 6 rfl) ?_
                refine va_get (D := D) (ci := 1) (C := RX1) (T := TX1) (N := 10) hx hb hts inW hown hK hP 0 rfl rfl 7 (by decide) (hts (.fieldLink RX1 26 "FlowforgeModel" "trial" "[I") (List.mem_of_getElem? (i := 4) rfl)) (fun _ h9 => h9) rfl dX1_improve_65 ?_
                refine lv_aload_n hx hb dX1_improve_68 rfl (lv_at hl 6 rfl) ?_
                refine va_get (D := D) (ci := 1) (C := RX1) (T := TX1) (N := 10) hx hb hts inW hown hK hP 0 rfl rfl 1 (by decide) (hts (.fieldLink RX1 35 "FlowforgeModel" "many" "I") (List.mem_of_getElem? (i := 3) rfl)) (fun _ h9 => h9) rfl dX1_improve_69 ?_
                refine w_iV (As := [.int (iI 0), .ref (bd 5), .int (iI ((nn : Int)))]) (rest := []) (wf := fun u : (Nat → Int) => mw bd cI 0 nn mm bm tT oO u tL (shf (ovr oO wtrial33 nn) i j) oJ) (wr := []) ⟨hx, hb, hml, hown, hts⟩ hK hP hD hS hA (mX1_lays_t (v := 0) hT hm (by omega) hn (shf_lt (by omega) (by omega) (fun k hk => by rw [ovr_in hk]; exact hO k hk))) (cwV 3 hts gX1_improve_X1_lays rfl rfl rfl (by decide +kernel) ⟨Nat.le_of_ble_eq_true rfl, Nat.le_of_ble_eq_true rfl⟩) [0, 1, 2, 3, 4, 5, 6] [] [0, 1, 2, 3, 4, 5, 6] rfl rfl (by decide) (by decide) (by decide) (hwf := fun _ => rfl) (by decide) (ci := 1) rfl rfl rfl rfl hl.1 rfl (Nat.le_of_ble_eq_true rfl) dX1_improve_72 ⟨Nat.zero_le _, Nat.zero_le _⟩ (fun r72 u H locs hr72 hP hD hS => ?_)
                obtain ⟨uB, huB⟩ : ∃ z, z = u := ⟨_, rfl⟩
                subst huB
                obtain ⟨hq72, hI⟩ := hr72
                have hP : va_P D vwCl (mw bd cI 0 nn mm bm tT oO uB tL (shf (ovr oO wtrial33 nn) i j) oJ) H := hP
                have hD : va_D A (mw bd cI 0 nn mm bm tT oO uB tL (shf (ovr oO wtrial33 nn) i j) oJ) := hD
                refine w_top (v := iI ((rmF tT mm oO nn i j))) (hq72.trans (congrArg iI ((mk_cg (shf_cg (by omega) (by omega) (fun k hk => ovr_in hk))).trans e6.symm))) ?_
                refine lv_istore (lv' := [(7, .int (iI ((rmF tT mm oO nn i j)))), (6, .int (iI ((j : Int)))), (5, .int (iI ((i : Int)))), (4, .int (iI ((((rmT tT mm oO nn i j).2.2 : Nat) : Int)))), (3, .int (iI ((((rmT tT mm oO nn i j).2.1 : Nat) : Int)))), (2, .int (iI (((rmT tT mm oO nn i j).1)))), (1, .int (iI ((mk 0 mm tT oO nn)))), (0, .ref (bd 0))]) hx hb dX1_improve_75 hl (by decide) rfl (fun ls hl => ?_)
                refine lv_iload hx hb dX1_improve_77 (lv_at hl 0 rfl) ?_
                refine lv_iload_n hx hb dX1_improve_79 rfl (lv_at hl 5 rfl) ?_
                refine w_icmp_ge (tgt := 88) hx hb dX1_improve_80 (by decide) ⟨by omega, by omega⟩ ⟨by omega, by omega⟩ (fun c80 => ?_) (fun c80 => ?_)
                · have e7 := rmT_n (t := tT) (mm := mm) (o := oO) (nn := nn) (i := i) (j := j) (by omega)
                  refine lv_iload_n hx hb dX1_improve_88 rfl (lv_at hl 4 rfl) ?_
                  refine lv_istore_n (lv' := [(3, .int (iI ((((rmT tT mm oO nn i j).2.1 : Nat) : Int)))), (7, .int (iI ((rmF tT mm oO nn i j)))), (6, .int (iI ((j : Int)))), (5, .int (iI ((i : Int)))), (4, .int (iI ((((rmT tT mm oO nn i j).2.2 : Nat) : Int)))), (2, .int (iI (((rmT tT mm oO nn i j).1)))), (1, .int (iI ((mk 0 mm tT oO nn)))), (0, .ref (bd 0))]) hx hb dX1_improve_89 rfl hl (by decide) rfl (fun ls hl => ?_)
                  refine lv_iload hx hb dX1_improve_90 (lv_at hl 1 rfl) ?_
                  refine lv_iload_n hx hb dX1_improve_92 rfl (lv_at hl 5 rfl) ?_
                  refine w_icmp_ge (tgt := 101) hx hb dX1_improve_93 (by decide) ⟨by omega, by omega⟩ ⟨by omega, by omega⟩ (fun c93 => ?_) (fun c93 => absurd c93 (by omega))
                  refine lv_iload hx hb dX1_improve_101 (lv_at hl 4 rfl) ?_
                  refine lv_istore (lv' := [(4, .int (iI ((((rmT tT mm oO nn i j).2.2 : Nat) : Int)))), (3, .int (iI ((((rmT tT mm oO nn i j).2.1 : Nat) : Int)))), (7, .int (iI ((rmF tT mm oO nn i j)))), (6, .int (iI ((j : Int)))), (5, .int (iI ((i : Int)))), (2, .int (iI (((rmT tT mm oO nn i j).1)))), (1, .int (iI ((mk 0 mm tT oO nn)))), (0, .ref (bd 0))]) hx hb dX1_improve_103 hl (by decide) rfl (fun ls hl => ?_)
                  refine lv_iload hx hb dX1_improve_105 (lv_at hl 2 rfl) ?_
                  refine lv_iload_n hx hb dX1_improve_107 rfl (lv_at hl 5 rfl) ?_
                  refine w_icmp_ge (tgt := 116) hx hb dX1_improve_108 (by decide) ⟨by omega, by omega⟩ ⟨by omega, by omega⟩ (fun c108 => ?_) (fun c108 => absurd c108 (by omega))
                  refine lv_iload_n hx hb dX1_improve_116 rfl (lv_at hl 5 rfl) ?_
                  refine lv_istore_n (lv' := [(2, .int (iI (((rmT tT mm oO nn i j).1)))), (4, .int (iI ((((rmT tT mm oO nn i j).2.2 : Nat) : Int)))), (3, .int (iI ((((rmT tT mm oO nn i j).2.1 : Nat) : Int)))), (7, .int (iI ((rmF tT mm oO nn i j)))), (6, .int (iI ((j : Int)))), (5, .int (iI ((i : Int)))), (1, .int (iI ((mk 0 mm tT oO nn)))), (0, .ref (bd 0))]) hx hb dX1_improve_117 rfl hl (by decide) rfl (fun ls hl => ?_)
                  refine lv_iinc (v := iI ((j : Int) + 1)) (lv' := [(6, .int (iI ((j : Int) + 1))), (2, .int (iI (((rmT tT mm oO nn i j).1)))), (4, .int (iI ((((rmT tT mm oO nn i j).2.2 : Nat) : Int)))), (3, .int (iI ((((rmT tT mm oO nn i j).2.1 : Nat) : Int)))), (7, .int (iI ((rmF tT mm oO nn i j)))), (5, .int (iI ((i : Int)))), (1, .int (iI ((mk 0 mm tT oO nn)))), (0, .ref (bd 0))]) hx hb dX1_improve_118 hl (k := 4) rfl (iI_inc (by omega)) (by decide) rfl (fun ls hl => ?_)
                  refine lv_goto (tgt := 33) hx hb dX1_improve_121 (by decide) ?_
                  exact ih33 (j + 1) uB (shf (ovr oO wtrial33 nn) i j) ((j : Int) + 1) ((((rmT tT mm oO nn i j).2.2 : Nat) : Int)) ((((rmT tT mm oO nn i j).2.1 : Nat) : Int)) (((rmT tT mm oO nn i j).1)) (by omega) (by omega) (by rw [e7]; try rfl) (by rw [e7]; try rfl) (by rw [e7]; try first | rfl | (show (1000000 : Int) = rmF tT mm oO nn i j; omega)) (by omega) _ _ hP hD hS ls (lv_sub hl [0, 5, 2, 3, 1, 6, 7] rfl)
                · have e7 := rmT_y (t := tT) (mm := mm) (o := oO) (nn := nn) (i := i) (j := j) (by omega)
                  refine lv_iload hx hb dX1_improve_83 (lv_at hl 2 rfl) ?_
                  refine lv_goto (tgt := 89) hx hb dX1_improve_85 (by decide) ?_
                  refine lv_istore_n (lv' := [(3, .int (iI ((i : Int)))), (7, .int (iI ((rmF tT mm oO nn i j)))), (6, .int (iI ((j : Int)))), (5, .int (iI ((i : Int)))), (4, .int (iI ((((rmT tT mm oO nn i j).2.2 : Nat) : Int)))), (2, .int (iI (((rmT tT mm oO nn i j).1)))), (1, .int (iI ((mk 0 mm tT oO nn)))), (0, .ref (bd 0))]) hx hb dX1_improve_89 rfl hl (by decide) rfl (fun ls hl => ?_)
                  refine lv_iload hx hb dX1_improve_90 (lv_at hl 1 rfl) ?_
                  refine lv_iload_n hx hb dX1_improve_92 rfl (lv_at hl 5 rfl) ?_
                  refine w_icmp_ge (tgt := 101) hx hb dX1_improve_93 (by decide) ⟨by omega, by omega⟩ ⟨by omega, by omega⟩ (fun c93 => absurd c93 (by omega)) (fun c93 => ?_)
                  refine lv_iload hx hb dX1_improve_96 (lv_at hl 2 rfl) ?_
                  refine lv_goto (tgt := 103) hx hb dX1_improve_98 (by decide) ?_
                  refine lv_istore (lv' := [(4, .int (iI ((j : Int)))), (3, .int (iI ((i : Int)))), (7, .int (iI ((rmF tT mm oO nn i j)))), (6, .int (iI ((j : Int)))), (5, .int (iI ((i : Int)))), (2, .int (iI (((rmT tT mm oO nn i j).1)))), (1, .int (iI ((mk 0 mm tT oO nn)))), (0, .ref (bd 0))]) hx hb dX1_improve_103 hl (by decide) rfl (fun ls hl => ?_)
                  refine lv_iload hx hb dX1_improve_105 (lv_at hl 2 rfl) ?_
                  refine lv_iload_n hx hb dX1_improve_107 rfl (lv_at hl 5 rfl) ?_
                  refine w_icmp_ge (tgt := 116) hx hb dX1_improve_108 (by decide) ⟨by omega, by omega⟩ ⟨by omega, by omega⟩ (fun c108 => absurd c108 (by omega)) (fun c108 => ?_)
                  refine lv_iload hx hb dX1_improve_111 (lv_at hl 2 rfl) ?_
                  refine lv_goto (tgt := 117) hx hb dX1_improve_113 (by decide) ?_
                  refine lv_istore_n (lv' := [(2, .int (iI ((rmF tT mm oO nn i j)))), (4, .int (iI ((j : Int)))), (3, .int (iI ((i : Int)))), (7, .int (iI ((rmF tT mm oO nn i j)))), (6, .int (iI ((j : Int)))), (5, .int (iI ((i : Int)))), (1, .int (iI ((mk 0 mm tT oO nn)))), (0, .ref (bd 0))]) hx hb dX1_improve_117 rfl hl (by decide) rfl (fun ls hl => ?_)
                  refine lv_iinc (v := iI ((j : Int) + 1)) (lv' := [(6, .int (iI ((j : Int) + 1))), (2, .int (iI ((rmF tT mm oO nn i j)))), (4, .int (iI ((j : Int)))), (3, .int (iI ((i : Int)))), (7, .int (iI ((rmF tT mm oO nn i j)))), (5, .int (iI ((i : Int)))), (1, .int (iI ((mk 0 mm tT oO nn)))), (0, .ref (bd 0))]) hx hb dX1_improve_118 hl (k := 4) rfl (iI_inc (by omega)) (by decide) rfl (fun ls hl => ?_)
                  refine lv_goto (tgt := 33) hx hb dX1_improve_121 (by decide) ?_
                  exact ih33 (j + 1) uB (shf (ovr oO wtrial33 nn) i j) ((j : Int) + 1) ((j : Int)) ((i : Int)) ((rmF tT mm oO nn i j)) (by omega) (by omega) (by rw [e7]; try rfl) (by rw [e7]; try rfl) (by rw [e7]; try first | rfl | (show (1000000 : Int) = rmF tT mm oO nn i j; omega)) (by omega) _ _ hP hD hS ls (lv_sub hl [0, 5, 2, 3, 1, 6, 7] rfl)
              · have e6 : rmF tT mm oO nn i j = 1000000 := if_pos (by omega)
                refine lv_ldc (v := 1000000) hx hb hown (hts (.constant RX1 100 (1000000)) (List.mem_of_getElem? (i := 2) rfl)) dX1_improve_57 ?_
                refine w_top (v := iI 1000000) (by decide +kernel) ?_
                refine lv_goto (tgt := 75) hx hb dX1_improve_59 (by decide) ?_
                refine lv_istore (lv' := [(7, .int (iI 1000000)), (6, .int (iI ((j : Int)))), (5, .int (iI ((i : Int)))), (4, .int (iI ((((rmT tT mm oO nn i j).2.2 : Nat) : Int)))), (3, .int (iI ((((rmT tT mm oO nn i j).2.1 : Nat) : Int)))), (2, .int (iI (((rmT tT mm oO nn i j).1)))), (1, .int (iI ((mk 0 mm tT oO nn)))), (0, .ref (bd 0))]) hx hb dX1_improve_75 hl (by decide) rfl (fun ls hl => ?_)
                refine lv_iload hx hb dX1_improve_77 (lv_at hl 0 rfl) ?_
                refine lv_iload_n hx hb dX1_improve_79 rfl (lv_at hl 5 rfl) ?_
                refine w_icmp_ge (tgt := 88) hx hb dX1_improve_80 (by decide) ⟨by omega, by omega⟩ ⟨by omega, by omega⟩ (fun c80 => ?_) (fun c80 => ?_)
                · have e7 := rmT_n (t := tT) (mm := mm) (o := oO) (nn := nn) (i := i) (j := j) (by omega)
                  refine lv_iload_n hx hb dX1_improve_88 rfl (lv_at hl 4 rfl) ?_
                  refine lv_istore_n (lv' := [(3, .int (iI ((((rmT tT mm oO nn i j).2.1 : Nat) : Int)))), (7, .int (iI 1000000)), (6, .int (iI ((j : Int)))), (5, .int (iI ((i : Int)))), (4, .int (iI ((((rmT tT mm oO nn i j).2.2 : Nat) : Int)))), (2, .int (iI (((rmT tT mm oO nn i j).1)))), (1, .int (iI ((mk 0 mm tT oO nn)))), (0, .ref (bd 0))]) hx hb dX1_improve_89 rfl hl (by decide) rfl (fun ls hl => ?_)
                  refine lv_iload hx hb dX1_improve_90 (lv_at hl 1 rfl) ?_
                  refine lv_iload_n hx hb dX1_improve_92 rfl (lv_at hl 5 rfl) ?_
                  refine w_icmp_ge (tgt := 101) hx hb dX1_improve_93 (by decide) ⟨by omega, by omega⟩ ⟨by omega, by omega⟩ (fun c93 => ?_) (fun c93 => absurd c93 (by omega))
                  refine lv_iload hx hb dX1_improve_101 (lv_at hl 4 rfl) ?_
                  refine lv_istore (lv' := [(4, .int (iI ((((rmT tT mm oO nn i j).2.2 : Nat) : Int)))), (3, .int (iI ((((rmT tT mm oO nn i j).2.1 : Nat) : Int)))), (7, .int (iI 1000000)), (6, .int (iI ((j : Int)))), (5, .int (iI ((i : Int)))), (2, .int (iI (((rmT tT mm oO nn i j).1)))), (1, .int (iI ((mk 0 mm tT oO nn)))), (0, .ref (bd 0))]) hx hb dX1_improve_103 hl (by decide) rfl (fun ls hl => ?_)
                  refine lv_iload hx hb dX1_improve_105 (lv_at hl 2 rfl) ?_
                  refine lv_iload_n hx hb dX1_improve_107 rfl (lv_at hl 5 rfl) ?_
                  refine w_icmp_ge (tgt := 116) hx hb dX1_improve_108 (by decide) ⟨by omega, by omega⟩ ⟨by omega, by omega⟩ (fun c108 => ?_) (fun c108 => absurd c108 (by omega))
                  refine lv_iload_n hx hb dX1_improve_116 rfl (lv_at hl 5 rfl) ?_
                  refine lv_istore_n (lv' := [(2, .int (iI (((rmT tT mm oO nn i j).1)))), (4, .int (iI ((((rmT tT mm oO nn i j).2.2 : Nat) : Int)))), (3, .int (iI ((((rmT tT mm oO nn i j).2.1 : Nat) : Int)))), (7, .int (iI 1000000)), (6, .int (iI ((j : Int)))), (5, .int (iI ((i : Int)))), (1, .int (iI ((mk 0 mm tT oO nn)))), (0, .ref (bd 0))]) hx hb dX1_improve_117 rfl hl (by decide) rfl (fun ls hl => ?_)
                  refine lv_iinc (v := iI ((j : Int) + 1)) (lv' := [(6, .int (iI ((j : Int) + 1))), (2, .int (iI (((rmT tT mm oO nn i j).1)))), (4, .int (iI ((((rmT tT mm oO nn i j).2.2 : Nat) : Int)))), (3, .int (iI ((((rmT tT mm oO nn i j).2.1 : Nat) : Int)))), (7, .int (iI 1000000)), (5, .int (iI ((i : Int)))), (1, .int (iI ((mk 0 mm tT oO nn)))), (0, .ref (bd 0))]) hx hb dX1_improve_118 hl (k := 4) rfl (iI_inc (by omega)) (by decide) rfl (fun ls hl => ?_)
                  refine lv_goto (tgt := 33) hx hb dX1_improve_121 (by decide) ?_
                  exact ih33 (j + 1) wstarts33 (shf (ovr oO wtrial33 nn) i j) ((j : Int) + 1) ((((rmT tT mm oO nn i j).2.2 : Nat) : Int)) ((((rmT tT mm oO nn i j).2.1 : Nat) : Int)) (((rmT tT mm oO nn i j).1)) (by omega) (by omega) (by rw [e7]; try rfl) (by rw [e7]; try rfl) (by rw [e7]; try first | rfl | (show (1000000 : Int) = rmF tT mm oO nn i j; omega)) (by omega) _ _ hP hD hS ls (lv_sub hl [0, 5, 2, 3, 1, 6, 7] rfl)
                · have e7 := rmT_y (t := tT) (mm := mm) (o := oO) (nn := nn) (i := i) (j := j) (by omega)
                  refine lv_iload hx hb dX1_improve_83 (lv_at hl 2 rfl) ?_
                  refine lv_goto (tgt := 89) hx hb dX1_improve_85 (by decide) ?_
                  refine lv_istore_n (lv' := [(3, .int (iI ((i : Int)))), (7, .int (iI 1000000)), (6, .int (iI ((j : Int)))), (5, .int (iI ((i : Int)))), (4, .int (iI ((((rmT tT mm oO nn i j).2.2 : Nat) : Int)))), (2, .int (iI (((rmT tT mm oO nn i j).1)))), (1, .int (iI ((mk 0 mm tT oO nn)))), (0, .ref (bd 0))]) hx hb dX1_improve_89 rfl hl (by decide) rfl (fun ls hl => ?_)
                  refine lv_iload hx hb dX1_improve_90 (lv_at hl 1 rfl) ?_
                  refine lv_iload_n hx hb dX1_improve_92 rfl (lv_at hl 5 rfl) ?_
                  refine w_icmp_ge (tgt := 101) hx hb dX1_improve_93 (by decide) ⟨by omega, by omega⟩ ⟨by omega, by omega⟩ (fun c93 => absurd c93 (by omega)) (fun c93 => ?_)
                  refine lv_iload hx hb dX1_improve_96 (lv_at hl 2 rfl) ?_
                  refine lv_goto (tgt := 103) hx hb dX1_improve_98 (by decide) ?_
                  refine lv_istore (lv' := [(4, .int (iI ((j : Int)))), (3, .int (iI ((i : Int)))), (7, .int (iI 1000000)), (6, .int (iI ((j : Int)))), (5, .int (iI ((i : Int)))), (2, .int (iI (((rmT tT mm oO nn i j).1)))), (1, .int (iI ((mk 0 mm tT oO nn)))), (0, .ref (bd 0))]) hx hb dX1_improve_103 hl (by decide) rfl (fun ls hl => ?_)
                  refine lv_iload hx hb dX1_improve_105 (lv_at hl 2 rfl) ?_
                  refine lv_iload_n hx hb dX1_improve_107 rfl (lv_at hl 5 rfl) ?_
                  refine w_icmp_ge (tgt := 116) hx hb dX1_improve_108 (by decide) ⟨by omega, by omega⟩ ⟨by omega, by omega⟩ (fun c108 => absurd c108 (by omega)) (fun c108 => ?_)
                  refine lv_iload hx hb dX1_improve_111 (lv_at hl 2 rfl) ?_
                  refine lv_goto (tgt := 117) hx hb dX1_improve_113 (by decide) ?_
                  refine lv_istore_n (lv' := [(2, .int (iI 1000000)), (4, .int (iI ((j : Int)))), (3, .int (iI ((i : Int)))), (7, .int (iI 1000000)), (6, .int (iI ((j : Int)))), (5, .int (iI ((i : Int)))), (1, .int (iI ((mk 0 mm tT oO nn)))), (0, .ref (bd 0))]) hx hb dX1_improve_117 rfl hl (by decide) rfl (fun ls hl => ?_)
                  refine lv_iinc (v := iI ((j : Int) + 1)) (lv' := [(6, .int (iI ((j : Int) + 1))), (2, .int (iI 1000000)), (4, .int (iI ((j : Int)))), (3, .int (iI ((i : Int)))), (7, .int (iI 1000000)), (5, .int (iI ((i : Int)))), (1, .int (iI ((mk 0 mm tT oO nn)))), (0, .ref (bd 0))]) hx hb dX1_improve_118 hl (k := 4) rfl (iI_inc (by omega)) (by decide) rfl (fun ls hl => ?_)
                  refine lv_goto (tgt := 33) hx hb dX1_improve_121 (by decide) ?_
                  exact ih33 (j + 1) wstarts33 (shf (ovr oO wtrial33 nn) i j) ((j : Int) + 1) ((j : Int)) ((i : Int)) (1000000) (by omega) (by omega) (by rw [e7]; try rfl) (by rw [e7]; try rfl) (by rw [e7]; try first | rfl | (show (1000000 : Int) = rmF tT mm oO nn i j; omega)) (by omega) _ _ hP hD hS ls (lv_sub hl [0, 5, 2, 3, 1, 6, 7] rfl)
        exact L33 (nn - 0 + 1) 0 wstarts21 wtrial21 (0) ((((rmS tT mm oO nn i).2.2 : Nat) : Int)) ((((rmS tT mm oO nn i).2.1 : Nat) : Int)) (((rmS tT mm oO nn i).1)) (by omega) (by omega) (rfl) (rfl) (rfl) (Nat.lt_succ_self _) _ _ hP hD hS ls (lv_sub hl [0, 1, 2, 3, 4, 5, 6] rfl)
  exact L21 (nn - 0 + 1) 0 uB oR (0) (0) (0) (1000000) (by omega) (by omega) (rfl) (rfl) (rfl) (Nat.lt_succ_self _) _ _ hP hD hS ls (lv_sub hl [0, 1, 2, 3, 4, 5] rfl)
set_option maxHeartbeats 4000000 in
set_option maxRecDepth 100000 in
theorem mX1_pairBound {a b : Nat} (hT : ∀ k, 0 ≤ tT k ∧ tT k ≤ 99) (hn : nn ≤ 7) (hm : 1 ≤ mm ∧ mm ≤ 5) (hab : a < b) (hbm : b < mm) (hE : Enu nn) : IM l yX1_pairBound wsX1_pairBound (rmx 3 71) D (tyk cI cZ cJ) (mw bd cI th nn mm bm tT oO tB tL oR oJ) [.ref (bd 0), .int (iI ((a : Int))), .int (iI ((b : Int)))] (QI D (tyk cI cZ cJ) (fun u : (Nat → Nat) => mw bd cI 0 nn mm bm tT oO tB tL u oJ) (fun y _ => y = iI (if nn = 0 then 0 else pbm (fun yy => opS tT (sq (idr oR nn) nn yy) a b nn) (fac nn) + lsM tT 0 a nn + lsM tT (b + 1) mm nn))) := by
  refine imI_of (cc := cX1_pairBound) (maxL := 5) (by decide) rfl (Nat.le_of_ble_eq_true rfl) ?_
  intro p e s m args below meth c A Q hx hb hml hown hts hA hK hP hD hS hret ls hl
  have hown : s.vm.findClass RX1 = some m.cls := hown
  have hl : lv_has ls 5 [(0, .ref (bd 0)), (1, .int (iI ((a : Int)))), (2, .int (iI ((b : Int))))] := hl
  have inW : ∀ w ∈ wsX10, w ∈ wsX1_pairBound := by first | exact (fun w h => List.mem_cons_of_mem _ (List.mem_append_right _ h)) | exact (fun w h => List.mem_cons_of_mem _ (List.mem_append_left _ (List.mem_append_right _ h))) | exact (fun w h => List.mem_cons_of_mem _ (List.mem_append_left _ (List.mem_append_left _ (List.mem_append_right _ h)))) | decide +kernel
  refine lv_aload_n hx hb dX1_pairBound_0 rfl (lv_at hl 0 rfl) ?_
  refine lv_iload_n hx hb dX1_pairBound_1 rfl (lv_at hl 1 rfl) ?_
  refine lv_iconst (v := iI 0) hx hb dX1_pairBound_2 rfl ?_
  refine lv_aload_n hx hb dX1_pairBound_3 rfl (lv_at hl 0 rfl) ?_
  refine va_get (D := D) (ci := 1) (C := RX1) (T := TX1) (N := 10) hx hb hts inW hown hK hP 0 rfl rfl 2 (by decide) (hts (.fieldLink RX1 7 "FlowforgeModel" "wide" "I") (List.mem_of_getElem? (i := 1) rfl)) (fun _ h9 => h9) rfl dX1_pairBound_4 ?_
  refine lv_iconst (v := iI 1) hx hb dX1_pairBound_7 rfl ?_
  refine w_isub (z := (mm : Int) - 1) hx hb dX1_pairBound_8 (by omega) ?_
  refine w_pS (As := [.int (iI ((a : Int))), .int (iI 0), .int (iI ((mm : Int) - 1))]) (rest := [.ref (bd 0)]) ⟨hx, hb, hml, hown, hts⟩ hK hP (mX1_in_y  (by omega) (by omega)) (va_cwS 3 hts gX1_pairBound_X1_in rfl rfl rfl (by decide +kernel) ⟨Nat.le_of_ble_eq_true rfl, Nat.le_of_ble_eq_true rfl⟩) rfl hl.1 rfl (Nat.le_of_ble_eq_true rfl) dX1_pairBound_9 ⟨Nat.zero_le _, Nat.zero_le _⟩ (fun r9 hr9 => ?_)
  refine w_top (v := iI (1)) (hr9.trans (congrArg iI (by omega))) ?_
  refine w_if_eq (tgt := 29) hx hb dX1_pairBound_12 (by decide) ⟨by omega, by omega⟩ (fun c12 => absurd c12 (by omega)) (fun c12 => ?_)
  refine lv_iload_n hx hb dX1_pairBound_15 rfl (lv_at hl 2 rfl) ?_
  refine lv_iconst (v := iI 0) hx hb dX1_pairBound_16 rfl ?_
  refine lv_aload_n hx hb dX1_pairBound_17 rfl (lv_at hl 0 rfl) ?_
  refine va_get (D := D) (ci := 1) (C := RX1) (T := TX1) (N := 10) hx hb hts inW hown hK hP 0 rfl rfl 2 (by decide) (hts (.fieldLink RX1 7 "FlowforgeModel" "wide" "I") (List.mem_of_getElem? (i := 1) rfl)) (fun _ h9 => h9) rfl dX1_pairBound_18 ?_
  refine lv_iconst (v := iI 1) hx hb dX1_pairBound_21 rfl ?_
  refine w_isub (z := (mm : Int) - 1) hx hb dX1_pairBound_22 (by omega) ?_
  refine w_pS (As := [.int (iI ((b : Int))), .int (iI 0), .int (iI ((mm : Int) - 1))]) (rest := [.ref (bd 0)]) ⟨hx, hb, hml, hown, hts⟩ hK hP (mX1_in_y  (by omega) (by omega)) (va_cwS 3 hts gX1_pairBound_X1_in rfl rfl rfl (by decide +kernel) ⟨Nat.le_of_ble_eq_true rfl, Nat.le_of_ble_eq_true rfl⟩) rfl hl.1 rfl (Nat.le_of_ble_eq_true rfl) dX1_pairBound_23 ⟨Nat.zero_le _, Nat.zero_le _⟩ (fun r23 hr23 => ?_)
  refine w_top (v := iI (1)) (hr23.trans (congrArg iI (by omega))) ?_
  refine w_if_ne (tgt := 33) hx hb dX1_pairBound_26 (by decide) ⟨by omega, by omega⟩ (fun c26 => ?_) (fun c26 => absurd c26 (by omega))
  refine lv_iload_n hx hb dX1_pairBound_33 rfl (lv_at hl 1 rfl) ?_
  refine lv_iload_n hx hb dX1_pairBound_34 rfl (lv_at hl 2 rfl) ?_
  refine w_icmp_ge (tgt := 42) hx hb dX1_pairBound_35 (by decide) ⟨by omega, by omega⟩ ⟨by omega, by omega⟩ (fun c35 => absurd c35 (by omega)) (fun c35 => ?_)
  refine lv_iconst (v := iI 0) hx hb dX1_pairBound_38 rfl ?_
  refine lv_goto (tgt := 43) hx hb dX1_pairBound_39 (by decide) ?_
  refine va_put (D := D) (ci := 1) (ty := .int) (C := RX1) (T := TX1) (N := 10) hx hb hts inW tyX1 tyX1_ok nmX1 hown hK hP hD hS 0 rfl rfl 0 (by decide) (hts (.fieldLink RX1 32 "FlowforgeModel" "thrown" "I") (List.mem_of_getElem? (i := 2) rfl)) (fun _ h9 => h9) rfl (by decide +kernel) rfl rfl (Nat.le_of_ble_eq_true rfl) dX1_pairBound_43 (fun H locs hP hD hS => ?_)
  have hP : va_P D vwCl (mw bd cI 0 nn mm bm tT oO tB tL oR oJ) H := hP
  have hD : va_D A (mw bd cI 0 nn mm bm tT oO tB tL oR oJ) := hD
  refine lv_aload_n hx hb dX1_pairBound_46 rfl (lv_at hl 0 rfl) ?_
  refine va_get (D := D) (ci := 1) (C := RX1) (T := TX1) (N := 10) hx hb hts inW hown hK hP 0 rfl rfl 0 (by decide) (hts (.fieldLink RX1 32 "FlowforgeModel" "thrown" "I") (List.mem_of_getElem? (i := 2) rfl)) (fun _ h9 => h9) rfl dX1_pairBound_47 ?_
  refine w_if_gt (tgt := 60) hx hb dX1_pairBound_50 (by decide) ⟨by omega, by omega⟩ (fun c50 => absurd c50 (by omega)) (fun c50 => ?_)
  refine lv_aload_n hx hb dX1_pairBound_53 rfl (lv_at hl 0 rfl) ?_
  refine va_get (D := D) (ci := 1) (C := RX1) (T := TX1) (N := 10) hx hb hts inW hown hK hP 0 rfl rfl 1 (by decide) (hts (.fieldLink RX1 35 "FlowforgeModel" "many" "I") (List.mem_of_getElem? (i := 3) rfl)) (fun _ h9 => h9) rfl dX1_pairBound_54 ?_
  refine w_if_ne (tgt := 62) hx hb dX1_pairBound_57 (by decide) ⟨by omega, by omega⟩ (fun c57 => ?_) (fun c57 => ?_)
  · refine lv_ldc (v := 1000000) hx hb hown (hts (.constant RX1 100 (1000000)) (List.mem_of_getElem? (i := 4) rfl)) dX1_pairBound_62 ?_
    refine w_top (v := iI 1000000) (by decide +kernel) ?_
    refine lv_istore_n (lv' := [(3, .int (iI 1000000)), (0, .ref (bd 0)), (1, .int (iI ((a : Int)))), (2, .int (iI ((b : Int))))]) hx hb dX1_pairBound_64 rfl hl (by decide) rfl (fun ls hl => ?_)
    refine lv_iconst (v := iI 1) hx hb dX1_pairBound_65 rfl ?_
    refine lv_istore (lv' := [(4, .int (iI 1)), (3, .int (iI 1000000)), (0, .ref (bd 0)), (1, .int (iI ((a : Int)))), (2, .int (iI ((b : Int))))]) hx hb dX1_pairBound_66 hl (by decide) rfl (fun ls hl => ?_)
    refine lv_aload_n hx hb dX1_pairBound_68 rfl (lv_at hl 2 rfl) ?_
    refine w_iVv (As := []) (rest := []) (wf := fun u : Unit => mw bd cI 0 nn mm bm tT oO tB tL (idr oR nn) oJ) (wr := []) ⟨hx, hb, hml, hown, hts⟩ hK hP hD hS hA (mX1_startsTrial  hn) (cwV 0 hts gX1_pairBound_X1_startsTrial rfl rfl rfl (by decide +kernel) ⟨Nat.le_of_ble_eq_true rfl, Nat.le_of_ble_eq_true rfl⟩) [0, 1, 2, 3, 4, 5, 6] [] [0, 1, 2, 3, 4, 5, 6] rfl rfl (by decide) (by decide) (by decide) (hwf := fun _ => rfl) (by decide) (ci := 1) rfl rfl rfl rfl hl.1 rfl (Nat.le_of_ble_eq_true rfl) dX1_pairBound_69 ⟨Nat.zero_le _, Nat.zero_le _⟩ (fun u H locs hr69 hP hD hS => ?_)
    have hf := fac_le hn
    have hr9 : ∀ y k, k < nn → sq (idr oR nn) nn y k < 7 := fun y => sq_lt (fun k hk => by show idr oR nn k < 7; rw [idr_id k hk]; show k < 7; omega) y
    have hg9 : ∀ y, 0 ≤ (fun yy => opS tT (sq (idr oR nn) nn yy) a b nn) y := fun y => (opS_rg hT (sq (idr oR nn) nn y) a b nn).1
    have L72 : ∀ (fu : Nat) (y : Nat) (cc : Nat) (wtrial72 : Nat → Nat) (x4_72 : Int) (x3_72 : Int), (y ≤ fac nn) → (y < fac nn → 1 ≤ cc) → (y = fac nn → cc = 0) → (cc ≤ 1) → (wtrial72 = sq (idr oR nn) nn y) → (x4_72 = (cc : Int)) → (x3_72 = (pbm (fun yy => opS tT (sq (idr oR nn) nn yy) a b nn) y)) → fac nn - y < fu → ∀ (H : Heap) (locs : List Loc), va_P D vwCl (mw bd cI 0 nn mm bm tT oO tB tL wtrial72 oJ) H → va_D A (mw bd cI 0 nn mm bm tT oO tB tL wtrial72 oJ) → va_S A s.heap H locs → ∀ ls : Array Slot, lv_has ls 5 [(4, .int (iI (x4_72))), (3, .int (iI (x3_72))), (0, .ref (bd 0)), (1, .int (iI ((a : Int)))), (2, .int (iI ((b : Int))))] → W p l e (rmx 3 71) s m args below meth c H locs 0 0 Q (F0 m 72 ls []) := by
      intro fu
      induction fu with
      | zero =>
        intro y cc wtrial72 x4_72 x3_72 hy hlt heq hcn hq0 hq1 hq2 hfu
        exact absurd hfu (Nat.not_lt_zero _)
      | succ fu ih =>
        intro y cc wtrial72 x4_72 x3_72 hy hlt heq hcn hq0 hq1 hq2 hfu H locs hP hD hS ls hl
        subst hq0
        subst hq1
        subst hq2
        have ih72 := ih
        have h9 := pbm_rg hg9 y
        have h8 := opS_rg hT (sq (idr oR nn) nn y) a b nn
        refine lv_iload hx hb dX1_pairBound_72 (lv_at hl 0 rfl) ?_
        refine w_if_eq (tgt := 107) hx hb dX1_pairBound_74 (by decide) ⟨by omega, by omega⟩ (fun c74 => ?_) (fun c74 => ?_)
        · obtain rfl : y = fac nn := by omega
          refine lv_iload_n hx hb dX1_pairBound_107 rfl (lv_at hl 1 rfl) ?_
          refine lv_aload_n hx hb dX1_pairBound_108 rfl (lv_at hl 2 rfl) ?_
          refine lv_iconst (v := iI 0) hx hb dX1_pairBound_109 rfl ?_
          refine lv_iload_n hx hb dX1_pairBound_110 rfl (lv_at hl 3 rfl) ?_
          refine w_pV (As := [.int (iI 0), .int (iI ((a : Int)))]) (rest := [.int (iI ((pbm (fun yy => opS tT (sq (idr oR nn) nn yy) a b nn) (fac nn))))]) ⟨hx, hb, hml, hown, hts⟩ hK hP (mX1_leastSum  (fr := 0) (to := a) hT hn (by omega) (by omega)) (cwV 2 hts gX1_pairBound_X1_leastSum rfl rfl rfl (by decide +kernel) ⟨Nat.le_of_ble_eq_true rfl, Nat.le_of_ble_eq_true rfl⟩) (ci := 1) rfl rfl rfl rfl hl.1 rfl (Nat.le_of_ble_eq_true rfl) dX1_pairBound_111 ⟨Nat.zero_le _, Nat.zero_le _⟩ (fun r111 hr111 => ?_)
          refine w_top (v := iI ((lsM tT 0 a nn))) (hr111) ?_
          refine w_iadd (z := (pbm (fun yy => opS tT (sq (idr oR nn) nn yy) a b nn) (fac nn)) + (lsM tT 0 a nn)) hx hb dX1_pairBound_114 (by omega) ?_
          refine lv_aload_n hx hb dX1_pairBound_115 rfl (lv_at hl 2 rfl) ?_
          refine lv_iload_n hx hb dX1_pairBound_116 rfl (lv_at hl 4 rfl) ?_
          refine lv_iconst (v := iI 1) hx hb dX1_pairBound_117 rfl ?_
          refine w_iadd (z := (b : Int) + 1) hx hb dX1_pairBound_118 (by omega) ?_
          refine lv_aload_n hx hb dX1_pairBound_119 rfl (lv_at hl 2 rfl) ?_
          refine va_get (D := D) (ci := 1) (C := RX1) (T := TX1) (N := 10) hx hb hts inW hown hK hP 0 rfl rfl 2 (by decide) (hts (.fieldLink RX1 7 "FlowforgeModel" "wide" "I") (List.mem_of_getElem? (i := 1) rfl)) (fun _ h9 => h9) rfl dX1_pairBound_120 ?_
          refine w_pV (As := [.int (iI ((((b + 1) : Nat) : Int))), .int (iI ((mm : Int)))]) (rest := [.int (iI ((pbm (fun yy => opS tT (sq (idr oR nn) nn yy) a b nn) (fac nn)) + (lsM tT 0 a nn)))]) ⟨hx, hb, hml, hown, hts⟩ hK hP (mX1_leastSum  (fr := b + 1) (to := mm) hT hn (by omega) (by omega)) (cwV 2 hts gX1_pairBound_X1_leastSum rfl rfl rfl (by decide +kernel) ⟨Nat.le_of_ble_eq_true rfl, Nat.le_of_ble_eq_true rfl⟩) (ci := 1) rfl rfl rfl rfl hl.1 (by rw [show (((b : Int) + 1) : Int) = (((b + 1) : Nat) : Int) by omega]; try rfl) (Nat.le_of_ble_eq_true rfl) dX1_pairBound_123 ⟨Nat.zero_le _, Nat.zero_le _⟩ (fun r123 hr123 => ?_)
          refine w_top (v := iI ((lsM tT (b + 1) mm nn))) (hr123) ?_
          refine w_iadd (z := (pbm (fun yy => opS tT (sq (idr oR nn) nn yy) a b nn) (fac nn)) + (lsM tT 0 a nn) + (lsM tT (b + 1) mm nn)) hx hb dX1_pairBound_126 (by omega) ?_
          exact hret _ _ 127 ls _ (sq (idr oR nn) nn (fac nn)) hP hD hS (by rw [if_neg (by omega)]) dX1_pairBound_127
        · have hyl : y < fac nn := (Nat.lt_or_ge y (fac nn)).elim id (fun q => absurd (heq (by omega)) (by omega))
          refine lv_aload_n hx hb dX1_pairBound_77 rfl (lv_at hl 2 rfl) ?_
          refine lv_iload_n hx hb dX1_pairBound_78 rfl (lv_at hl 3 rfl) ?_
          refine lv_iload_n hx hb dX1_pairBound_79 rfl (lv_at hl 4 rfl) ?_
          refine w_pV (As := [.int (iI ((a : Int))), .int (iI ((b : Int)))]) (rest := []) ⟨hx, hb, hml, hown, hts⟩ hK hP (mX1_onTwo  hT hn (by omega) (by omega) (hr9 y)) (cwV 2 hts gX1_pairBound_X1_onTwo rfl rfl rfl (by decide +kernel) ⟨Nat.le_of_ble_eq_true rfl, Nat.le_of_ble_eq_true rfl⟩) (ci := 1) rfl rfl rfl rfl hl.1 rfl (Nat.le_of_ble_eq_true rfl) dX1_pairBound_80 ⟨Nat.zero_le _, Nat.zero_le _⟩ (fun r80 hr80 => ?_)
          refine w_top (v := iI ((opS tT (sq (idr oR nn) nn y) a b nn))) (hr80) ?_
          refine lv_iload_n hx hb dX1_pairBound_83 rfl (lv_at hl 1 rfl) ?_
          refine w_icmp_ge (tgt := 96) hx hb dX1_pairBound_84 (by decide) ⟨by omega, by omega⟩ ⟨by omega, by omega⟩ (fun c84 => ?_) (fun c84 => ?_)
          · refine lv_iload_n hx hb dX1_pairBound_96 rfl (lv_at hl 1 rfl) ?_
            refine lv_istore_n (lv' := [(3, .int (iI ((pbm (fun yy => opS tT (sq (idr oR nn) nn yy) a b nn) y)))), (4, .int (iI ((cc : Int)))), (0, .ref (bd 0)), (1, .int (iI ((a : Int)))), (2, .int (iI ((b : Int))))]) hx hb dX1_pairBound_97 rfl hl (by decide) rfl (fun ls hl => ?_)
            refine lv_aload_n hx hb dX1_pairBound_98 rfl (lv_at hl 2 rfl) ?_
            have hp1 := pvt_le (sq (idr oR nn) nn y) (nn - 1)
            have hp2 := sq_pvt (r := idr oR nn) (nn := nn) (i := y) idr_id
            refine w_iV (As := []) (rest := []) (wf := fun u : Unit => mw bd cI 0 nn mm bm tT oO tB tL (nxT (sq (idr oR nn) nn y) nn) oJ) (wr := []) ⟨hx, hb, hml, hown, hts⟩ hK hP hD hS hA (mX1_goesOn  hn (hr9 y)) (cwV 0 hts gX1_pairBound_X1_goesOn rfl rfl rfl (by decide +kernel) ⟨Nat.le_of_ble_eq_true rfl, Nat.le_of_ble_eq_true rfl⟩) [0, 1, 2, 3, 4, 5, 6] [] [0, 1, 2, 3, 4, 5, 6] rfl rfl (by decide) (by decide) (by decide) (hwf := fun _ => rfl) (by decide) (ci := 1) rfl rfl rfl rfl hl.1 rfl (Nat.le_of_ble_eq_true rfl) dX1_pairBound_99 ⟨Nat.zero_le _, Nat.zero_le _⟩ (fun r99 u H locs hr99 hP hD hS => ?_)
            refine w_top (v := iI (((min 1 (pvt (sq (idr oR nn) nn y) (nn - 1)) : Nat) : Int))) (hr99) ?_
            refine lv_istore (lv' := [(4, .int (iI (((min 1 (pvt (sq (idr oR nn) nn y) (nn - 1)) : Nat) : Int)))), (3, .int (iI ((pbm (fun yy => opS tT (sq (idr oR nn) nn yy) a b nn) y)))), (0, .ref (bd 0)), (1, .int (iI ((a : Int)))), (2, .int (iI ((b : Int))))]) hx hb dX1_pairBound_102 hl (by decide) rfl (fun ls hl => ?_)
            refine lv_goto (tgt := 72) hx hb dX1_pairBound_104 (by decide) ?_
            exact ih72 (y + 1) (min 1 (pvt (sq (idr oR nn) nn y) (nn - 1))) (nxT (sq (idr oR nn) nn y) nn) (((min 1 (pvt (sq (idr oR nn) nn y) (nn - 1)) : Nat) : Int)) ((pbm (fun yy => opS tT (sq (idr oR nn) nn yy) a b nn) y)) (by omega) (fun q => by have e5 := hE.1 y q; omega) (fun q => by have e5 := hE.2; rw [show fac nn - 1 = y by omega] at e5; omega) (by omega) (rfl) (by omega) (by show _ = min _ (opS tT _ a b nn); omega) (by omega) _ _ hP hD hS ls (lv_sub hl [0, 1, 2, 3, 4] rfl)
          · refine lv_aload_n hx hb dX1_pairBound_87 rfl (lv_at hl 2 rfl) ?_
            refine lv_iload_n hx hb dX1_pairBound_88 rfl (lv_at hl 3 rfl) ?_
            refine lv_iload_n hx hb dX1_pairBound_89 rfl (lv_at hl 4 rfl) ?_
            refine w_pV (As := [.int (iI ((a : Int))), .int (iI ((b : Int)))]) (rest := []) ⟨hx, hb, hml, hown, hts⟩ hK hP (mX1_onTwo  hT hn (by omega) (by omega) (hr9 y)) (cwV 2 hts gX1_pairBound_X1_onTwo rfl rfl rfl (by decide +kernel) ⟨Nat.le_of_ble_eq_true rfl, Nat.le_of_ble_eq_true rfl⟩) (ci := 1) rfl rfl rfl rfl hl.1 rfl (Nat.le_of_ble_eq_true rfl) dX1_pairBound_90 ⟨Nat.zero_le _, Nat.zero_le _⟩ (fun r90 hr90 => ?_)
            refine w_top (v := iI ((opS tT (sq (idr oR nn) nn y) a b nn))) (hr90) ?_
            refine lv_goto (tgt := 97) hx hb dX1_pairBound_93 (by decide) ?_
            refine lv_istore_n (lv' := [(3, .int (iI ((opS tT (sq (idr oR nn) nn y) a b nn)))), (4, .int (iI ((cc : Int)))), (0, .ref (bd 0)), (1, .int (iI ((a : Int)))), (2, .int (iI ((b : Int))))]) hx hb dX1_pairBound_97 rfl hl (by decide) rfl (fun ls hl => ?_)
            refine lv_aload_n hx hb dX1_pairBound_98 rfl (lv_at hl 2 rfl) ?_
            have hp1 := pvt_le (sq (idr oR nn) nn y) (nn - 1)
            have hp2 := sq_pvt (r := idr oR nn) (nn := nn) (i := y) idr_id
            refine w_iV (As := []) (rest := []) (wf := fun u : Unit => mw bd cI 0 nn mm bm tT oO tB tL (nxT (sq (idr oR nn) nn y) nn) oJ) (wr := []) ⟨hx, hb, hml, hown, hts⟩ hK hP hD hS hA (mX1_goesOn  hn (hr9 y)) (cwV 0 hts gX1_pairBound_X1_goesOn rfl rfl rfl (by decide +kernel) ⟨Nat.le_of_ble_eq_true rfl, Nat.le_of_ble_eq_true rfl⟩) [0, 1, 2, 3, 4, 5, 6] [] [0, 1, 2, 3, 4, 5, 6] rfl rfl (by decide) (by decide) (by decide) (hwf := fun _ => rfl) (by decide) (ci := 1) rfl rfl rfl rfl hl.1 rfl (Nat.le_of_ble_eq_true rfl) dX1_pairBound_99 ⟨Nat.zero_le _, Nat.zero_le _⟩ (fun r99 u H locs hr99 hP hD hS => ?_)
            refine w_top (v := iI (((min 1 (pvt (sq (idr oR nn) nn y) (nn - 1)) : Nat) : Int))) (hr99) ?_
            refine lv_istore (lv' := [(4, .int (iI (((min 1 (pvt (sq (idr oR nn) nn y) (nn - 1)) : Nat) : Int)))), (3, .int (iI ((opS tT (sq (idr oR nn) nn y) a b nn)))), (0, .ref (bd 0)), (1, .int (iI ((a : Int)))), (2, .int (iI ((b : Int))))]) hx hb dX1_pairBound_102 hl (by decide) rfl (fun ls hl => ?_)
            refine lv_goto (tgt := 72) hx hb dX1_pairBound_104 (by decide) ?_
            exact ih72 (y + 1) (min 1 (pvt (sq (idr oR nn) nn y) (nn - 1))) (nxT (sq (idr oR nn) nn y) nn) (((min 1 (pvt (sq (idr oR nn) nn y) (nn - 1)) : Nat) : Int)) ((opS tT (sq (idr oR nn) nn y) a b nn)) (by omega) (fun q => by have e5 := hE.1 y q; omega) (fun q => by have e5 := hE.2; rw [show fac nn - 1 = y by omega] at e5; omega) (by omega) (rfl) (by omega) (by show _ = min _ (opS tT _ a b nn); omega) (by omega) _ _ hP hD hS ls (lv_sub hl [0, 1, 2, 3, 4] rfl)
    exact L72 (fac nn - 0 + 1) 0 1 (idr oR nn) (1) (1000000) (by omega) (by omega) (by omega) (by omega) (rfl) (by omega) (rfl) (Nat.lt_succ_self _) _ _ hP hD hS ls (lv_sub hl [0, 1, 2, 3, 4] rfl)
  · refine lv_iconst (v := iI 0) hx hb dX1_pairBound_60 rfl ?_
    exact hret _ _ 61 ls _ (oR) hP hD hS (by rw [if_pos (by omega)]) dX1_pairBound_61
set_option maxHeartbeats 4000000 in
set_option maxRecDepth 100000 in
theorem mX1_pairBound_e1 {x y : Int} (hn : nn ≤ 7) (hm : 1 ≤ mm ∧ mm ≤ 5) (hr9 : -2147483648 ≤ x ∧ x ≤ 2147483647 ∧ -2147483648 ≤ y ∧ y ≤ 2147483647) (hbad : ¬ ((0 ≤ x ∧ x < (mm : Int)) ∧ 0 ≤ y ∧ y < (mm : Int))) : IM l yX1_pairBound wsX1_pairBound (rmx 1 22) D (tyk cI cZ cJ) (mw bd cI th nn mm bm tT oO tB tL oR oJ) [.ref (bd 0), .int (iI (x)), .int (iI (y))] (QI D (tyk cI cZ cJ) (fun u : Unit => mw bd cI 1 nn mm bm tT oO tB tL oR oJ) (fun x _ => x = iI 0)) := by
  refine imI_of (cc := cX1_pairBound) (maxL := 5) (by decide) rfl (Nat.le_of_ble_eq_true rfl) ?_
  intro p e s m args below meth c A Q hx hb hml hown hts hA hK hP hD hS hret ls hl
  have hown : s.vm.findClass RX1 = some m.cls := hown
  have hl : lv_has ls 5 [(0, .ref (bd 0)), (1, .int (iI (x))), (2, .int (iI (y)))] := hl
  have inW : ∀ w ∈ wsX10, w ∈ wsX1_pairBound := by first | exact (fun w h => List.mem_cons_of_mem _ (List.mem_append_right _ h)) | exact (fun w h => List.mem_cons_of_mem _ (List.mem_append_left _ (List.mem_append_right _ h))) | exact (fun w h => List.mem_cons_of_mem _ (List.mem_append_left _ (List.mem_append_left _ (List.mem_append_right _ h)))) | decide +kernel
  by_cases hc : 0 ≤ x ∧ x < (mm : Int)
  · refine lv_aload_n hx hb dX1_pairBound_0 rfl (lv_at hl 0 rfl) ?_
    refine lv_iload_n hx hb dX1_pairBound_1 rfl (lv_at hl 1 rfl) ?_
    refine lv_iconst (v := iI 0) hx hb dX1_pairBound_2 rfl ?_
    refine lv_aload_n hx hb dX1_pairBound_3 rfl (lv_at hl 0 rfl) ?_
    refine va_get (D := D) (ci := 1) (C := RX1) (T := TX1) (N := 10) hx hb hts inW hown hK hP 0 rfl rfl 2 (by decide) (hts (.fieldLink RX1 7 "FlowforgeModel" "wide" "I") (List.mem_of_getElem? (i := 1) rfl)) (fun _ h9 => h9) rfl dX1_pairBound_4 ?_
    refine lv_iconst (v := iI 1) hx hb dX1_pairBound_7 rfl ?_
    refine w_isub (z := (mm : Int) - 1) hx hb dX1_pairBound_8 (by omega) ?_
    refine w_pS (As := [.int (iI (x)), .int (iI 0), .int (iI ((mm : Int) - 1))]) (rest := [.ref (bd 0)]) ⟨hx, hb, hml, hown, hts⟩ hK hP (mX1_in_y  (by omega) (by omega)) (va_cwS 3 hts gX1_pairBound_X1_in rfl rfl rfl (by decide +kernel) ⟨Nat.le_of_ble_eq_true rfl, Nat.le_of_ble_eq_true rfl⟩) rfl hl.1 rfl (Nat.le_of_ble_eq_true rfl) dX1_pairBound_9 ⟨Nat.zero_le _, Nat.zero_le _⟩ (fun r9 hr9 => ?_)
    refine w_top (v := iI (1)) (hr9.trans (congrArg iI (by omega))) ?_
    refine w_if_eq (tgt := 29) hx hb dX1_pairBound_12 (by decide) ⟨by omega, by omega⟩ (fun c12 => absurd c12 (by omega)) (fun c12 => ?_)
    refine lv_iload_n hx hb dX1_pairBound_15 rfl (lv_at hl 2 rfl) ?_
    refine lv_iconst (v := iI 0) hx hb dX1_pairBound_16 rfl ?_
    refine lv_aload_n hx hb dX1_pairBound_17 rfl (lv_at hl 0 rfl) ?_
    refine va_get (D := D) (ci := 1) (C := RX1) (T := TX1) (N := 10) hx hb hts inW hown hK hP 0 rfl rfl 2 (by decide) (hts (.fieldLink RX1 7 "FlowforgeModel" "wide" "I") (List.mem_of_getElem? (i := 1) rfl)) (fun _ h9 => h9) rfl dX1_pairBound_18 ?_
    refine lv_iconst (v := iI 1) hx hb dX1_pairBound_21 rfl ?_
    refine w_isub (z := (mm : Int) - 1) hx hb dX1_pairBound_22 (by omega) ?_
    refine w_pS (As := [.int (iI (y)), .int (iI 0), .int (iI ((mm : Int) - 1))]) (rest := [.ref (bd 0)]) ⟨hx, hb, hml, hown, hts⟩ hK hP (mX1_in_n  (by omega) (by omega)) (va_cwS 3 hts gX1_pairBound_X1_in rfl rfl rfl (by decide +kernel) ⟨Nat.le_of_ble_eq_true rfl, Nat.le_of_ble_eq_true rfl⟩) rfl hl.1 rfl (Nat.le_of_ble_eq_true rfl) dX1_pairBound_23 ⟨Nat.zero_le _, Nat.zero_le _⟩ (fun r23 hr23 => ?_)
    refine w_top (v := iI (0)) (hr23.trans (congrArg iI (by omega))) ?_
    refine w_if_ne (tgt := 33) hx hb dX1_pairBound_26 (by decide) ⟨by omega, by omega⟩ (fun c26 => absurd c26 (by omega)) (fun c26 => ?_)
    refine lv_iconst (v := iI 1) hx hb dX1_pairBound_29 rfl ?_
    refine lv_goto (tgt := 43) hx hb dX1_pairBound_30 (by decide) ?_
    refine va_put (D := D) (ci := 1) (ty := .int) (C := RX1) (T := TX1) (N := 10) hx hb hts inW tyX1 tyX1_ok nmX1 hown hK hP hD hS 0 rfl rfl 0 (by decide) (hts (.fieldLink RX1 32 "FlowforgeModel" "thrown" "I") (List.mem_of_getElem? (i := 2) rfl)) (fun _ h9 => h9) rfl (by decide +kernel) rfl rfl (Nat.le_of_ble_eq_true rfl) dX1_pairBound_43 (fun H locs hP hD hS => ?_)
    have hP : va_P D vwCl (mw bd cI 1 nn mm bm tT oO tB tL oR oJ) H := hP
    have hD : va_D A (mw bd cI 1 nn mm bm tT oO tB tL oR oJ) := hD
    refine lv_aload_n hx hb dX1_pairBound_46 rfl (lv_at hl 0 rfl) ?_
    refine va_get (D := D) (ci := 1) (C := RX1) (T := TX1) (N := 10) hx hb hts inW hown hK hP 0 rfl rfl 0 (by decide) (hts (.fieldLink RX1 32 "FlowforgeModel" "thrown" "I") (List.mem_of_getElem? (i := 2) rfl)) (fun _ h9 => h9) rfl dX1_pairBound_47 ?_
    refine w_if_gt (tgt := 60) hx hb dX1_pairBound_50 (by decide) ⟨by omega, by omega⟩ (fun c50 => ?_) (fun c50 => absurd c50 (by omega))
    refine lv_iconst (v := iI 0) hx hb dX1_pairBound_60 rfl ?_
    exact hret _ _ 61 ls _ (()) hP hD hS (rfl) dX1_pairBound_61
  · refine lv_aload_n hx hb dX1_pairBound_0 rfl (lv_at hl 0 rfl) ?_
    refine lv_iload_n hx hb dX1_pairBound_1 rfl (lv_at hl 1 rfl) ?_
    refine lv_iconst (v := iI 0) hx hb dX1_pairBound_2 rfl ?_
    refine lv_aload_n hx hb dX1_pairBound_3 rfl (lv_at hl 0 rfl) ?_
    refine va_get (D := D) (ci := 1) (C := RX1) (T := TX1) (N := 10) hx hb hts inW hown hK hP 0 rfl rfl 2 (by decide) (hts (.fieldLink RX1 7 "FlowforgeModel" "wide" "I") (List.mem_of_getElem? (i := 1) rfl)) (fun _ h9 => h9) rfl dX1_pairBound_4 ?_
    refine lv_iconst (v := iI 1) hx hb dX1_pairBound_7 rfl ?_
    refine w_isub (z := (mm : Int) - 1) hx hb dX1_pairBound_8 (by omega) ?_
    refine w_pS (As := [.int (iI (x)), .int (iI 0), .int (iI ((mm : Int) - 1))]) (rest := [.ref (bd 0)]) ⟨hx, hb, hml, hown, hts⟩ hK hP (mX1_in_n  (by omega) (by omega)) (va_cwS 3 hts gX1_pairBound_X1_in rfl rfl rfl (by decide +kernel) ⟨Nat.le_of_ble_eq_true rfl, Nat.le_of_ble_eq_true rfl⟩) rfl hl.1 rfl (Nat.le_of_ble_eq_true rfl) dX1_pairBound_9 ⟨Nat.zero_le _, Nat.zero_le _⟩ (fun r9 hr9 => ?_)
    refine w_top (v := iI (0)) (hr9.trans (congrArg iI (by omega))) ?_
    refine w_if_eq (tgt := 29) hx hb dX1_pairBound_12 (by decide) ⟨by omega, by omega⟩ (fun c12 => ?_) (fun c12 => absurd c12 (by omega))
    refine lv_iconst (v := iI 1) hx hb dX1_pairBound_29 rfl ?_
    refine lv_goto (tgt := 43) hx hb dX1_pairBound_30 (by decide) ?_
    refine va_put (D := D) (ci := 1) (ty := .int) (C := RX1) (T := TX1) (N := 10) hx hb hts inW tyX1 tyX1_ok nmX1 hown hK hP hD hS 0 rfl rfl 0 (by decide) (hts (.fieldLink RX1 32 "FlowforgeModel" "thrown" "I") (List.mem_of_getElem? (i := 2) rfl)) (fun _ h9 => h9) rfl (by decide +kernel) rfl rfl (Nat.le_of_ble_eq_true rfl) dX1_pairBound_43 (fun H locs hP hD hS => ?_)
    have hP : va_P D vwCl (mw bd cI 1 nn mm bm tT oO tB tL oR oJ) H := hP
    have hD : va_D A (mw bd cI 1 nn mm bm tT oO tB tL oR oJ) := hD
    refine lv_aload_n hx hb dX1_pairBound_46 rfl (lv_at hl 0 rfl) ?_
    refine va_get (D := D) (ci := 1) (C := RX1) (T := TX1) (N := 10) hx hb hts inW hown hK hP 0 rfl rfl 0 (by decide) (hts (.fieldLink RX1 32 "FlowforgeModel" "thrown" "I") (List.mem_of_getElem? (i := 2) rfl)) (fun _ h9 => h9) rfl dX1_pairBound_47 ?_
    refine w_if_gt (tgt := 60) hx hb dX1_pairBound_50 (by decide) ⟨by omega, by omega⟩ (fun c50 => ?_) (fun c50 => absurd c50 (by omega))
    refine lv_iconst (v := iI 0) hx hb dX1_pairBound_60 rfl ?_
    exact hret _ _ 61 ls _ (()) hP hD hS (rfl) dX1_pairBound_61
set_option maxHeartbeats 4000000 in
set_option maxRecDepth 100000 in
theorem mX1_pairBound_e2 {a b : Nat} (hn : nn ≤ 7) (hm : 1 ≤ mm ∧ mm ≤ 5) (ha : a < mm) (hb7 : b < mm) (hab : b ≤ a) : IM l yX1_pairBound wsX1_pairBound (rmx 1 22) D (tyk cI cZ cJ) (mw bd cI th nn mm bm tT oO tB tL oR oJ) [.ref (bd 0), .int (iI ((a : Int))), .int (iI ((b : Int)))] (QI D (tyk cI cZ cJ) (fun u : Unit => mw bd cI 2 nn mm bm tT oO tB tL oR oJ) (fun x _ => x = iI 0)) := by
  refine imI_of (cc := cX1_pairBound) (maxL := 5) (by decide) rfl (Nat.le_of_ble_eq_true rfl) ?_
  intro p e s m args below meth c A Q hx hb hml hown hts hA hK hP hD hS hret ls hl
  have hown : s.vm.findClass RX1 = some m.cls := hown
  have hl : lv_has ls 5 [(0, .ref (bd 0)), (1, .int (iI ((a : Int)))), (2, .int (iI ((b : Int))))] := hl
  have inW : ∀ w ∈ wsX10, w ∈ wsX1_pairBound := by first | exact (fun w h => List.mem_cons_of_mem _ (List.mem_append_right _ h)) | exact (fun w h => List.mem_cons_of_mem _ (List.mem_append_left _ (List.mem_append_right _ h))) | exact (fun w h => List.mem_cons_of_mem _ (List.mem_append_left _ (List.mem_append_left _ (List.mem_append_right _ h)))) | decide +kernel
  refine lv_aload_n hx hb dX1_pairBound_0 rfl (lv_at hl 0 rfl) ?_
  refine lv_iload_n hx hb dX1_pairBound_1 rfl (lv_at hl 1 rfl) ?_
  refine lv_iconst (v := iI 0) hx hb dX1_pairBound_2 rfl ?_
  refine lv_aload_n hx hb dX1_pairBound_3 rfl (lv_at hl 0 rfl) ?_
  refine va_get (D := D) (ci := 1) (C := RX1) (T := TX1) (N := 10) hx hb hts inW hown hK hP 0 rfl rfl 2 (by decide) (hts (.fieldLink RX1 7 "FlowforgeModel" "wide" "I") (List.mem_of_getElem? (i := 1) rfl)) (fun _ h9 => h9) rfl dX1_pairBound_4 ?_
  refine lv_iconst (v := iI 1) hx hb dX1_pairBound_7 rfl ?_
  refine w_isub (z := (mm : Int) - 1) hx hb dX1_pairBound_8 (by omega) ?_
  refine w_pS (As := [.int (iI ((a : Int))), .int (iI 0), .int (iI ((mm : Int) - 1))]) (rest := [.ref (bd 0)]) ⟨hx, hb, hml, hown, hts⟩ hK hP (mX1_in_y  (by omega) (by omega)) (va_cwS 3 hts gX1_pairBound_X1_in rfl rfl rfl (by decide +kernel) ⟨Nat.le_of_ble_eq_true rfl, Nat.le_of_ble_eq_true rfl⟩) rfl hl.1 rfl (Nat.le_of_ble_eq_true rfl) dX1_pairBound_9 ⟨Nat.zero_le _, Nat.zero_le _⟩ (fun r9 hr9 => ?_)
  refine w_top (v := iI (1)) (hr9.trans (congrArg iI (by omega))) ?_
  refine w_if_eq (tgt := 29) hx hb dX1_pairBound_12 (by decide) ⟨by omega, by omega⟩ (fun c12 => absurd c12 (by omega)) (fun c12 => ?_)
  refine lv_iload_n hx hb dX1_pairBound_15 rfl (lv_at hl 2 rfl) ?_
  refine lv_iconst (v := iI 0) hx hb dX1_pairBound_16 rfl ?_
  refine lv_aload_n hx hb dX1_pairBound_17 rfl (lv_at hl 0 rfl) ?_
  refine va_get (D := D) (ci := 1) (C := RX1) (T := TX1) (N := 10) hx hb hts inW hown hK hP 0 rfl rfl 2 (by decide) (hts (.fieldLink RX1 7 "FlowforgeModel" "wide" "I") (List.mem_of_getElem? (i := 1) rfl)) (fun _ h9 => h9) rfl dX1_pairBound_18 ?_
  refine lv_iconst (v := iI 1) hx hb dX1_pairBound_21 rfl ?_
  refine w_isub (z := (mm : Int) - 1) hx hb dX1_pairBound_22 (by omega) ?_
  refine w_pS (As := [.int (iI ((b : Int))), .int (iI 0), .int (iI ((mm : Int) - 1))]) (rest := [.ref (bd 0)]) ⟨hx, hb, hml, hown, hts⟩ hK hP (mX1_in_y  (by omega) (by omega)) (va_cwS 3 hts gX1_pairBound_X1_in rfl rfl rfl (by decide +kernel) ⟨Nat.le_of_ble_eq_true rfl, Nat.le_of_ble_eq_true rfl⟩) rfl hl.1 rfl (Nat.le_of_ble_eq_true rfl) dX1_pairBound_23 ⟨Nat.zero_le _, Nat.zero_le _⟩ (fun r23 hr23 => ?_)
  refine w_top (v := iI (1)) (hr23.trans (congrArg iI (by omega))) ?_
  refine w_if_ne (tgt := 33) hx hb dX1_pairBound_26 (by decide) ⟨by omega, by omega⟩ (fun c26 => ?_) (fun c26 => absurd c26 (by omega))
  refine lv_iload_n hx hb dX1_pairBound_33 rfl (lv_at hl 1 rfl) ?_
  refine lv_iload_n hx hb dX1_pairBound_34 rfl (lv_at hl 2 rfl) ?_
  refine w_icmp_ge (tgt := 42) hx hb dX1_pairBound_35 (by decide) ⟨by omega, by omega⟩ ⟨by omega, by omega⟩ (fun c35 => ?_) (fun c35 => absurd c35 (by omega))
  refine lv_iconst (v := iI 2) hx hb dX1_pairBound_42 rfl ?_
  refine va_put (D := D) (ci := 1) (ty := .int) (C := RX1) (T := TX1) (N := 10) hx hb hts inW tyX1 tyX1_ok nmX1 hown hK hP hD hS 0 rfl rfl 0 (by decide) (hts (.fieldLink RX1 32 "FlowforgeModel" "thrown" "I") (List.mem_of_getElem? (i := 2) rfl)) (fun _ h9 => h9) rfl (by decide +kernel) rfl rfl (Nat.le_of_ble_eq_true rfl) dX1_pairBound_43 (fun H locs hP hD hS => ?_)
  have hP : va_P D vwCl (mw bd cI 2 nn mm bm tT oO tB tL oR oJ) H := hP
  have hD : va_D A (mw bd cI 2 nn mm bm tT oO tB tL oR oJ) := hD
  refine lv_aload_n hx hb dX1_pairBound_46 rfl (lv_at hl 0 rfl) ?_
  refine va_get (D := D) (ci := 1) (C := RX1) (T := TX1) (N := 10) hx hb hts inW hown hK hP 0 rfl rfl 0 (by decide) (hts (.fieldLink RX1 32 "FlowforgeModel" "thrown" "I") (List.mem_of_getElem? (i := 2) rfl)) (fun _ h9 => h9) rfl dX1_pairBound_47 ?_
  refine w_if_gt (tgt := 60) hx hb dX1_pairBound_50 (by decide) ⟨by omega, by omega⟩ (fun c50 => ?_) (fun c50 => absurd c50 (by omega))
  refine lv_iconst (v := iI 0) hx hb dX1_pairBound_60 rfl ?_
  exact hret _ _ 61 ls _ (()) hP hD hS (rfl) dX1_pairBound_61
set_option maxHeartbeats 4000000 in
set_option maxRecDepth 100000 in
theorem mX1_searches {v : Nat} (hT : ∀ k, 0 ≤ tT k ∧ tT k ≤ 99) (hn : nn ≤ 7) (hm : 1 ≤ mm ∧ mm ≤ 5) (hv : v ≤ 2) (hE : Enu nn) : IM l yX1_searches wsX1_searches (rmx 4 96) D (tyk cI cZ cJ) (mw bd cI th nn mm bm tT oO tB tL oR oJ) [.ref (bd 0), .int (iI ((v : Int)))] (QI D (tyk cI cZ cJ) (fun u : (Nat → Int) × (Nat → Nat) × (Nat → Nat) => mw bd cI th nn mm (((sol v mm tT nn).2.1 : Int)) tT oO u.1 tL u.2.1 u.2.2) (fun y u => y = iI (sol v mm tT nn).1 ∧ eqn nn u.2.2 (solJ v mm tT nn))) := by
  refine imI_of (cc := cX1_searches) (maxL := 6) (by decide) rfl (Nat.le_of_ble_eq_true rfl) ?_
  intro p e s m args below meth c A Q hx hb hml hown hts hA hK hP hD hS hret ls hl
  have hown : s.vm.findClass RX1 = some m.cls := hown
  have hl : lv_has ls 6 [(0, .ref (bd 0)), (1, .int (iI ((v : Int))))] := hl
  have inW : ∀ w ∈ wsX10, w ∈ wsX1_searches := by first | exact (fun w h => List.mem_cons_of_mem _ (List.mem_append_right _ h)) | exact (fun w h => List.mem_cons_of_mem _ (List.mem_append_left _ (List.mem_append_right _ h))) | exact (fun w h => List.mem_cons_of_mem _ (List.mem_append_left _ (List.mem_append_left _ (List.mem_append_right _ h)))) | decide +kernel
  refine lv_ldc (v := 1000000) hx hb hown (hts (.constant RX1 100 (1000000)) (List.mem_of_getElem? (i := 1) rfl)) dX1_searches_0 ?_
  refine w_top (v := iI 1000000) (by decide +kernel) ?_
  refine lv_istore_n (lv' := [(2, .int (iI 1000000)), (0, .ref (bd 0)), (1, .int (iI ((v : Int))))]) hx hb dX1_searches_2 rfl hl (by decide) rfl (fun ls hl => ?_)
  refine lv_iconst (v := iI 1) hx hb dX1_searches_3 rfl ?_
  refine lv_istore_n (lv' := [(3, .int (iI 1)), (2, .int (iI 1000000)), (0, .ref (bd 0)), (1, .int (iI ((v : Int))))]) hx hb dX1_searches_4 rfl hl (by decide) rfl (fun ls hl => ?_)
  refine lv_aload_n hx hb dX1_searches_5 rfl (lv_at hl 2 rfl) ?_
  refine lv_iconst (v := iI 0) hx hb dX1_searches_6 rfl ?_
  refine va_put (D := D) (ci := 1) (ty := .int) (C := RX1) (T := TX1) (N := 10) hx hb hts inW tyX1 tyX1_ok nmX1 hown hK hP hD hS 0 rfl rfl 9 (by decide) (hts (.fieldLink RX1 131 "FlowforgeModel" "bestMany" "I") (List.mem_of_getElem? (i := 2) rfl)) (fun _ h9 => h9) rfl (by decide +kernel) rfl rfl (Nat.le_of_ble_eq_true rfl) dX1_searches_7 (fun H locs hP hD hS => ?_)
  have hP : va_P D vwCl (mw bd cI th nn mm 0 tT oO tB tL oR oJ) H := hP
  have hD : va_D A (mw bd cI th nn mm 0 tT oO tB tL oR oJ) := hD
  refine lv_aload_n hx hb dX1_searches_10 rfl (lv_at hl 2 rfl) ?_
  refine w_iVv (As := []) (rest := []) (wf := fun u : Unit => mw bd cI th nn mm 0 tT oO tB tL (idr oR nn) oJ) (wr := []) ⟨hx, hb, hml, hown, hts⟩ hK hP hD hS hA (mX1_startsTrial  hn) (cwV 0 hts gX1_searches_X1_startsTrial rfl rfl rfl (by decide +kernel) ⟨Nat.le_of_ble_eq_true rfl, Nat.le_of_ble_eq_true rfl⟩) [0, 1, 2, 3, 4, 5, 6] [] [0, 1, 2, 3, 4, 5, 6] rfl rfl (by decide) (by decide) (by decide) (hwf := fun _ => rfl) (by decide) (ci := 1) rfl rfl rfl rfl hl.1 rfl (Nat.le_of_ble_eq_true rfl) dX1_searches_11 ⟨Nat.zero_le _, Nat.zero_le _⟩ (fun u H locs hr11 hP hD hS => ?_)
  have hf := fac_le hn
  have hr9 : ∀ y k, k < nn → sq (idr oR nn) nn y k < 7 := fun y => sq_lt (fun k hk => by show idr oR nn k < 7; rw [idr_id k hk]; show k < 7; omega) y
  have hG : gsq v mm tT (idr oR nn) nn = gsq v mm tT nId nn := gsq_cg idr_id
  have hg9 := gsq_rg (v := v) (r := idr oR nn) (nn := nn) hm hT hn
  have L14 : ∀ (fu : Nat) (y : Nat) (cc : Nat) (wtrial14 : Nat → Nat) (wbestMany14 : Int) (wstarts14 : Nat → Int) (wfirstBest14 : Nat → Nat) (x3_14 : Int) (x2_14 : Int), (y ≤ fac nn) → (y < fac nn → 1 ≤ cc) → (y = fac nn → cc = 0) → (cc ≤ 1) → (0 ≤ (rbs (gsq v mm tT (idr oR nn) nn) y).1 ∧ (rbs (gsq v mm tT (idr oR nn) nn) y).1 ≤ 1000000) → (0 < y → eqn nn wfirstBest14 (sq (idr oR nn) nn (rbs (gsq v mm tT (idr oR nn) nn) y).2.2)) → (wtrial14 = sq (idr oR nn) nn y) → (wbestMany14 = (((rbs (gsq v mm tT (idr oR nn) nn) y).2.1 : Nat) : Int)) → (x3_14 = (cc : Int)) → (x2_14 = ((rbs (gsq v mm tT (idr oR nn) nn) y).1)) → fac nn - y < fu → ∀ (H : Heap) (locs : List Loc), va_P D vwCl (mw bd cI th nn mm wbestMany14 tT oO wstarts14 tL wtrial14 wfirstBest14) H → va_D A (mw bd cI th nn mm wbestMany14 tT oO wstarts14 tL wtrial14 wfirstBest14) → va_S A s.heap H locs → ∀ ls : Array Slot, lv_has ls 6 [(3, .int (iI (x3_14))), (2, .int (iI (x2_14))), (0, .ref (bd 0)), (1, .int (iI ((v : Int))))] → W p l e (rmx 4 96) s m args below meth c H locs 0 0 Q (F0 m 14 ls []) := by
    intro fu
    induction fu with
    | zero =>
      intro y cc wtrial14 wbestMany14 wstarts14 wfirstBest14 x3_14 x2_14 hy hlt heq hcn hL hF hq0 hq1 hq2 hq3 hfu
      exact absurd hfu (Nat.not_lt_zero _)
    | succ fu ih =>
      intro y cc wtrial14 wbestMany14 wstarts14 wfirstBest14 x3_14 x2_14 hy hlt heq hcn hL hF hq0 hq1 hq2 hq3 hfu H locs hP hD hS ls hl
      subst hq0
      subst hq1
      subst hq2
      subst hq3
      have ih14 := ih
      have h8 := hg9 y
      refine lv_iload_n hx hb dX1_searches_14 rfl (lv_at hl 0 rfl) ?_
      refine w_if_eq (tgt := 125) hx hb dX1_searches_15 (by decide) ⟨by omega, by omega⟩ (fun c15 => ?_) (fun c15 => ?_)
      · obtain rfl : y = fac nn := by omega
        refine lv_iload_n hx hb dX1_searches_125 rfl (lv_at hl 1 rfl) ?_
        have e9 : rbs (gsq v mm tT (idr oR nn) nn) (fac nn) = sol v mm tT nn := by rw [show fac nn = fac nn - 1 + 1 by omega, rbs_bst hg9, hG]; unfold sol; rw [show fac nn - 1 + 1 = fac nn by omega]
        rw [e9] at hP hD
        exact hret _ _ 126 ls _ ((wstarts14, sq (idr oR nn) nn (fac nn), wfirstBest14)) hP hD hS (⟨by rw [e9], fun k hk => (hF (by omega) k hk).trans (by rw [e9]; exact sq_cg idr_id _ k hk)⟩) dX1_searches_126
      · have hyl : y < fac nn := (Nat.lt_or_ge y (fac nn)).elim id (fun q => absurd (heq (by omega)) (by omega))
        refine lv_aload_n hx hb dX1_searches_18 rfl (lv_at hl 2 rfl) ?_
        refine lv_iload_n hx hb dX1_searches_19 rfl (lv_at hl 3 rfl) ?_
        refine lv_aload_n hx hb dX1_searches_20 rfl (lv_at hl 2 rfl) ?_
        refine va_get (D := D) (ci := 1) (C := RX1) (T := TX1) (N := 10) hx hb hts inW hown hK hP 0 rfl rfl 7 (by decide) (hts (.fieldLink RX1 26 "FlowforgeModel" "trial" "[I") (List.mem_of_getElem? (i := 3) rfl)) (fun _ h9 => h9) rfl dX1_searches_21 ?_
        refine lv_aload_n hx hb dX1_searches_24 rfl (lv_at hl 2 rfl) ?_
        refine va_get (D := D) (ci := 1) (C := RX1) (T := TX1) (N := 10) hx hb hts inW hown hK hP 0 rfl rfl 1 (by decide) (hts (.fieldLink RX1 35 "FlowforgeModel" "many" "I") (List.mem_of_getElem? (i := 4) rfl)) (fun _ h9 => h9) rfl dX1_searches_25 ?_
        refine w_iV (As := [.int (iI ((v : Int))), .ref (bd 5), .int (iI ((nn : Int)))]) (rest := []) (wf := fun u : (Nat → Int) => mw bd cI th nn mm ((((rbs (gsq v mm tT (idr oR nn) nn) y).2.1 : Nat) : Int)) tT oO u tL (sq (idr oR nn) nn y) wfirstBest14) (wr := []) ⟨hx, hb, hml, hown, hts⟩ hK hP hD hS hA (mX1_lays_t  hT hm hv hn (hr9 y)) (cwV 3 hts gX1_searches_X1_lays rfl rfl rfl (by decide +kernel) ⟨Nat.le_of_ble_eq_true rfl, Nat.le_of_ble_eq_true rfl⟩) [0, 1, 2, 3, 4, 5, 6] [] [0, 1, 2, 3, 4, 5, 6] rfl rfl (by decide) (by decide) (by decide) (hwf := fun _ => rfl) (by decide) (ci := 1) rfl rfl rfl rfl hl.1 rfl (Nat.le_of_ble_eq_true rfl) dX1_searches_28 ⟨Nat.zero_le _, Nat.zero_le _⟩ (fun r28 u H locs hr28 hP hD hS => ?_)
        obtain ⟨uB, huB⟩ : ∃ z, z = u := ⟨_, rfl⟩
        subst huB
        obtain ⟨hq28, hI⟩ := hr28
        have hP : va_P D vwCl (mw bd cI th nn mm ((((rbs (gsq v mm tT (idr oR nn) nn) y).2.1 : Nat) : Int)) tT oO uB tL (sq (idr oR nn) nn y) wfirstBest14) H := hP
        have hD : va_D A (mw bd cI th nn mm ((((rbs (gsq v mm tT (idr oR nn) nn) y).2.1 : Nat) : Int)) tT oO uB tL (sq (idr oR nn) nn y) wfirstBest14) := hD
        refine w_top (v := iI ((gsq v mm tT (idr oR nn) nn y))) (hq28) ?_
        refine lv_istore (lv' := [(4, .int (iI ((gsq v mm tT (idr oR nn) nn y)))), (3, .int (iI ((cc : Int)))), (2, .int (iI (((rbs (gsq v mm tT (idr oR nn) nn) y).1)))), (0, .ref (bd 0)), (1, .int (iI ((v : Int))))]) hx hb dX1_searches_31 hl (by decide) rfl (fun ls hl => ?_)
        refine lv_aload_n hx hb dX1_searches_33 rfl (lv_at hl 3 rfl) ?_
        have J63 : ∀ (H : Heap) (locs : List Loc), va_P D vwCl (mw bd cI th nn mm ((((rbs (gsq v mm tT (idr oR nn) nn) y).2.1 : Nat) : Int)) tT oO uB tL (sq (idr oR nn) nn y) wfirstBest14) H → va_D A (mw bd cI th nn mm ((((rbs (gsq v mm tT (idr oR nn) nn) y).2.1 : Nat) : Int)) tT oO uB tL (sq (idr oR nn) nn y) wfirstBest14) → va_S A s.heap H locs → ∀ ls : Array Slot, lv_has ls 6 [(4, .int (iI ((gsq v mm tT (idr oR nn) nn y)))), (3, .int (iI ((cc : Int)))), (2, .int (iI (((rbs (gsq v mm tT (idr oR nn) nn) y).1)))), (0, .ref (bd 0)), (1, .int (iI ((v : Int))))] → W p l e (rmx 4 96) s m args below meth c H locs 0 0 Q (F0 m 63 ls [.int (iI (((((rbs (gsq v mm tT (idr oR nn) nn) (y + 1)).2.1 : Nat) : Int)))), .ref (bd 0)]) := by
          intro H locs hP hD hS ls hl
          refine va_put (D := D) (ci := 1) (ty := .int) (C := RX1) (T := TX1) (N := 10) hx hb hts inW tyX1 tyX1_ok nmX1 hown hK hP hD hS 0 rfl rfl 9 (by decide) (hts (.fieldLink RX1 131 "FlowforgeModel" "bestMany" "I") (List.mem_of_getElem? (i := 2) rfl)) (fun _ h9 => h9) rfl (by decide +kernel) rfl rfl (Nat.le_of_ble_eq_true rfl) dX1_searches_63 (fun H locs hP hD hS => ?_)
          have hP : va_P D vwCl (mw bd cI th nn mm (((((rbs (gsq v mm tT (idr oR nn) nn) (y + 1)).2.1 : Nat) : Int))) tT oO uB tL (sq (idr oR nn) nn y) wfirstBest14) H := hP
          have hD : va_D A (mw bd cI th nn mm (((((rbs (gsq v mm tT (idr oR nn) nn) (y + 1)).2.1 : Nat) : Int))) tT oO uB tL (sq (idr oR nn) nn y) wfirstBest14) := hD
          refine lv_iconst (v := iI 0) hx hb dX1_searches_66 rfl ?_
          refine lv_istore (lv' := [(5, .int (iI 0)), (4, .int (iI ((gsq v mm tT (idr oR nn) nn y)))), (3, .int (iI ((cc : Int)))), (2, .int (iI (((rbs (gsq v mm tT (idr oR nn) nn) y).1)))), (0, .ref (bd 0)), (1, .int (iI ((v : Int))))]) hx hb dX1_searches_67 hl (by decide) rfl (fun ls hl => ?_)
          have L69 : ∀ (fu : Nat) (z : Nat) (wfirstBest69 : Nat → Nat) (x5_69 : Int), (z ≤ nn) → (gsq v mm tT (idr oR nn) nn y < (rbs (gsq v mm tT (idr oR nn) nn) y).1 ∨ z = 0) → (wfirstBest69 = ovr (sq (idr oR nn) nn y) wfirstBest14 z) → (x5_69 = (z : Int)) → nn - z < fu → ∀ (H : Heap) (locs : List Loc), va_P D vwCl (mw bd cI th nn mm (((((rbs (gsq v mm tT (idr oR nn) nn) (y + 1)).2.1 : Nat) : Int))) tT oO uB tL (sq (idr oR nn) nn y) wfirstBest69) H → va_D A (mw bd cI th nn mm (((((rbs (gsq v mm tT (idr oR nn) nn) (y + 1)).2.1 : Nat) : Int))) tT oO uB tL (sq (idr oR nn) nn y) wfirstBest69) → va_S A s.heap H locs → ∀ ls : Array Slot, lv_has ls 6 [(5, .int (iI (x5_69))), (4, .int (iI ((gsq v mm tT (idr oR nn) nn y)))), (3, .int (iI ((cc : Int)))), (2, .int (iI (((rbs (gsq v mm tT (idr oR nn) nn) y).1)))), (0, .ref (bd 0)), (1, .int (iI ((v : Int))))] → W p l e (rmx 4 96) s m args below meth c H locs 0 0 Q (F0 m 69 ls []) := by
            intro fu
            induction fu with
            | zero =>
              intro z wfirstBest69 x5_69 hz hzl hq0 hq1 hfu
              exact absurd hfu (Nat.not_lt_zero _)
            | succ fu ih =>
              intro z wfirstBest69 x5_69 hz hzl hq0 hq1 hfu H locs hP hD hS ls hl
              subst hq0
              subst hq1
              have ih69 := ih
              refine lv_iload hx hb dX1_searches_69 (lv_at hl 0 rfl) ?_
              refine lv_aload_n hx hb dX1_searches_71 rfl (lv_at hl 4 rfl) ?_
              refine va_get (D := D) (ci := 1) (C := RX1) (T := TX1) (N := 10) hx hb hts inW hown hK hP 0 rfl rfl 1 (by decide) (hts (.fieldLink RX1 35 "FlowforgeModel" "many" "I") (List.mem_of_getElem? (i := 4) rfl)) (fun _ h9 => h9) rfl dX1_searches_72 ?_
              refine w_icmp_ge (tgt := 104) hx hb dX1_searches_75 (by decide) ⟨by omega, by omega⟩ ⟨by omega, by omega⟩ (fun c75 => ?_) (fun c75 => ?_)
              · have hzn : z = nn := by omega
                refine lv_iload hx hb dX1_searches_104 (lv_at hl 1 rfl) ?_
                refine lv_iload_n hx hb dX1_searches_106 rfl (lv_at hl 3 rfl) ?_
                refine w_icmp_ge (tgt := 115) hx hb dX1_searches_107 (by decide) ⟨by omega, by omega⟩ ⟨by omega, by omega⟩ (fun c107 => ?_) (fun c107 => ?_)
                · have hF2 : eqn nn (ovr (sq (idr oR nn) nn y) wfirstBest14 z) (sq (idr oR nn) nn (rbs (gsq v mm tT (idr oR nn) nn) (y + 1)).2.2) := fb_b (by omega) (by omega) (by omega) hF
                  have e8 : (rbs (gsq v mm tT (idr oR nn) nn) (y + 1)).1 = (rbs (gsq v mm tT (idr oR nn) nn) y).1 := (rbs_n (by omega)).1
                  refine lv_iload_n hx hb dX1_searches_115 rfl (lv_at hl 3 rfl) ?_
                  refine lv_istore_n (lv' := [(2, .int (iI (((rbs (gsq v mm tT (idr oR nn) nn) y).1)))), (5, .int (iI ((z : Int)))), (4, .int (iI ((gsq v mm tT (idr oR nn) nn y)))), (3, .int (iI ((cc : Int)))), (0, .ref (bd 0)), (1, .int (iI ((v : Int))))]) hx hb dX1_searches_116 rfl hl (by decide) rfl (fun ls hl => ?_)
                  refine lv_aload_n hx hb dX1_searches_117 rfl (lv_at hl 4 rfl) ?_
                  have hp1 := pvt_le (sq (idr oR nn) nn y) (nn - 1)
                  have hp2 := sq_pvt (r := idr oR nn) (nn := nn) (i := y) idr_id
                  refine w_iV (As := []) (rest := []) (wf := fun u : Unit => mw bd cI th nn mm (((((rbs (gsq v mm tT (idr oR nn) nn) (y + 1)).2.1 : Nat) : Int))) tT oO uB tL (nxT (sq (idr oR nn) nn y) nn) (ovr (sq (idr oR nn) nn y) wfirstBest14 z)) (wr := []) ⟨hx, hb, hml, hown, hts⟩ hK hP hD hS hA (mX1_goesOn  hn (hr9 y)) (cwV 0 hts gX1_searches_X1_goesOn rfl rfl rfl (by decide +kernel) ⟨Nat.le_of_ble_eq_true rfl, Nat.le_of_ble_eq_true rfl⟩) [0, 1, 2, 3, 4, 5, 6] [] [0, 1, 2, 3, 4, 5, 6] rfl rfl (by decide) (by decide) (by decide) (hwf := fun _ => rfl) (by decide) (ci := 1) rfl rfl rfl rfl hl.1 rfl (Nat.le_of_ble_eq_true rfl) dX1_searches_118 ⟨Nat.zero_le _, Nat.zero_le _⟩ (fun r118 u H locs hr118 hP hD hS => ?_)
                  refine w_top (v := iI (((min 1 (pvt (sq (idr oR nn) nn y) (nn - 1)) : Nat) : Int))) (hr118) ?_
                  refine lv_istore_n (lv' := [(3, .int (iI (((min 1 (pvt (sq (idr oR nn) nn y) (nn - 1)) : Nat) : Int)))), (2, .int (iI (((rbs (gsq v mm tT (idr oR nn) nn) y).1)))), (5, .int (iI ((z : Int)))), (4, .int (iI ((gsq v mm tT (idr oR nn) nn y)))), (0, .ref (bd 0)), (1, .int (iI ((v : Int))))]) hx hb dX1_searches_121 rfl hl (by decide) rfl (fun ls hl => ?_)
                  refine lv_goto (tgt := 14) hx hb dX1_searches_122 (by decide) ?_
                  exact ih14 (y + 1) (min 1 (pvt (sq (idr oR nn) nn y) (nn - 1))) (nxT (sq (idr oR nn) nn y) nn) (((((rbs (gsq v mm tT (idr oR nn) nn) (y + 1)).2.1 : Nat) : Int))) uB (ovr (sq (idr oR nn) nn y) wfirstBest14 z) (((min 1 (pvt (sq (idr oR nn) nn y) (nn - 1)) : Nat) : Int)) (((rbs (gsq v mm tT (idr oR nn) nn) y).1)) (by omega) (fun q => by have e5 := hE.1 y q; omega) (fun q => by have e5 := hE.2; rw [show fac nn - 1 = y by omega] at e5; omega) (by omega) (by rw [e8]; omega) (fun _ => hF2) (rfl) (rfl) (by omega) (by rw [e8]) (by omega) _ _ hP hD hS ls (lv_sub hl [0, 1, 4, 5] rfl)
                · have hF2 : eqn nn (ovr (sq (idr oR nn) nn y) wfirstBest14 z) (sq (idr oR nn) nn (rbs (gsq v mm tT (idr oR nn) nn) (y + 1)).2.2) := by rw [hzn]; exact fb_a (s := sq (idr oR nn) nn) (by omega)
                  have e8 : (rbs (gsq v mm tT (idr oR nn) nn) (y + 1)).1 = gsq v mm tT (idr oR nn) nn y := by rw [rbs_a (by omega)]
                  refine lv_iload hx hb dX1_searches_110 (lv_at hl 1 rfl) ?_
                  refine lv_goto (tgt := 116) hx hb dX1_searches_112 (by decide) ?_
                  refine lv_istore_n (lv' := [(2, .int (iI ((gsq v mm tT (idr oR nn) nn y)))), (5, .int (iI ((z : Int)))), (4, .int (iI ((gsq v mm tT (idr oR nn) nn y)))), (3, .int (iI ((cc : Int)))), (0, .ref (bd 0)), (1, .int (iI ((v : Int))))]) hx hb dX1_searches_116 rfl hl (by decide) rfl (fun ls hl => ?_)
                  refine lv_aload_n hx hb dX1_searches_117 rfl (lv_at hl 4 rfl) ?_
                  have hp1 := pvt_le (sq (idr oR nn) nn y) (nn - 1)
                  have hp2 := sq_pvt (r := idr oR nn) (nn := nn) (i := y) idr_id
                  refine w_iV (As := []) (rest := []) (wf := fun u : Unit => mw bd cI th nn mm (((((rbs (gsq v mm tT (idr oR nn) nn) (y + 1)).2.1 : Nat) : Int))) tT oO uB tL (nxT (sq (idr oR nn) nn y) nn) (ovr (sq (idr oR nn) nn y) wfirstBest14 z)) (wr := []) ⟨hx, hb, hml, hown, hts⟩ hK hP hD hS hA (mX1_goesOn  hn (hr9 y)) (cwV 0 hts gX1_searches_X1_goesOn rfl rfl rfl (by decide +kernel) ⟨Nat.le_of_ble_eq_true rfl, Nat.le_of_ble_eq_true rfl⟩) [0, 1, 2, 3, 4, 5, 6] [] [0, 1, 2, 3, 4, 5, 6] rfl rfl (by decide) (by decide) (by decide) (hwf := fun _ => rfl) (by decide) (ci := 1) rfl rfl rfl rfl hl.1 rfl (Nat.le_of_ble_eq_true rfl) dX1_searches_118 ⟨Nat.zero_le _, Nat.zero_le _⟩ (fun r118 u H locs hr118 hP hD hS => ?_)
                  refine w_top (v := iI (((min 1 (pvt (sq (idr oR nn) nn y) (nn - 1)) : Nat) : Int))) (hr118) ?_
                  refine lv_istore_n (lv' := [(3, .int (iI (((min 1 (pvt (sq (idr oR nn) nn y) (nn - 1)) : Nat) : Int)))), (2, .int (iI ((gsq v mm tT (idr oR nn) nn y)))), (5, .int (iI ((z : Int)))), (4, .int (iI ((gsq v mm tT (idr oR nn) nn y)))), (0, .ref (bd 0)), (1, .int (iI ((v : Int))))]) hx hb dX1_searches_121 rfl hl (by decide) rfl (fun ls hl => ?_)
                  refine lv_goto (tgt := 14) hx hb dX1_searches_122 (by decide) ?_
                  exact ih14 (y + 1) (min 1 (pvt (sq (idr oR nn) nn y) (nn - 1))) (nxT (sq (idr oR nn) nn y) nn) (((((rbs (gsq v mm tT (idr oR nn) nn) (y + 1)).2.1 : Nat) : Int))) uB (ovr (sq (idr oR nn) nn y) wfirstBest14 z) (((min 1 (pvt (sq (idr oR nn) nn y) (nn - 1)) : Nat) : Int)) ((gsq v mm tT (idr oR nn) nn y)) (by omega) (fun q => by have e5 := hE.1 y q; omega) (fun q => by have e5 := hE.2; rw [show fac nn - 1 = y by omega] at e5; omega) (by omega) (by rw [e8]; omega) (fun _ => hF2) (rfl) (rfl) (by omega) (by rw [e8]) (by omega) _ _ hP hD hS ls (lv_sub hl [0, 1, 4, 5] rfl)
              · refine lv_iload hx hb dX1_searches_78 (lv_at hl 1 rfl) ?_
                refine lv_iload_n hx hb dX1_searches_80 rfl (lv_at hl 3 rfl) ?_
                refine w_icmp_ge (tgt := 104) hx hb dX1_searches_81 (by decide) ⟨by omega, by omega⟩ ⟨by omega, by omega⟩ (fun c81 => ?_) (fun c81 => ?_)
                · refine lv_iload hx hb dX1_searches_104 (lv_at hl 1 rfl) ?_
                  refine lv_iload_n hx hb dX1_searches_106 rfl (lv_at hl 3 rfl) ?_
                  refine w_icmp_ge (tgt := 115) hx hb dX1_searches_107 (by decide) ⟨by omega, by omega⟩ ⟨by omega, by omega⟩ (fun c107 => ?_) (fun c107 => absurd c107 (by omega))
                  have hF2 : eqn nn (ovr (sq (idr oR nn) nn y) wfirstBest14 z) (sq (idr oR nn) nn (rbs (gsq v mm tT (idr oR nn) nn) (y + 1)).2.2) := fb_b (by omega) (by omega) (by omega) hF
                  have e8 : (rbs (gsq v mm tT (idr oR nn) nn) (y + 1)).1 = (rbs (gsq v mm tT (idr oR nn) nn) y).1 := (rbs_n (by omega)).1
                  refine lv_iload_n hx hb dX1_searches_115 rfl (lv_at hl 3 rfl) ?_
                  refine lv_istore_n (lv' := [(2, .int (iI (((rbs (gsq v mm tT (idr oR nn) nn) y).1)))), (5, .int (iI ((z : Int)))), (4, .int (iI ((gsq v mm tT (idr oR nn) nn y)))), (3, .int (iI ((cc : Int)))), (0, .ref (bd 0)), (1, .int (iI ((v : Int))))]) hx hb dX1_searches_116 rfl hl (by decide) rfl (fun ls hl => ?_)
                  refine lv_aload_n hx hb dX1_searches_117 rfl (lv_at hl 4 rfl) ?_
                  have hp1 := pvt_le (sq (idr oR nn) nn y) (nn - 1)
                  have hp2 := sq_pvt (r := idr oR nn) (nn := nn) (i := y) idr_id
                  refine w_iV (As := []) (rest := []) (wf := fun u : Unit => mw bd cI th nn mm (((((rbs (gsq v mm tT (idr oR nn) nn) (y + 1)).2.1 : Nat) : Int))) tT oO uB tL (nxT (sq (idr oR nn) nn y) nn) (ovr (sq (idr oR nn) nn y) wfirstBest14 z)) (wr := []) ⟨hx, hb, hml, hown, hts⟩ hK hP hD hS hA (mX1_goesOn  hn (hr9 y)) (cwV 0 hts gX1_searches_X1_goesOn rfl rfl rfl (by decide +kernel) ⟨Nat.le_of_ble_eq_true rfl, Nat.le_of_ble_eq_true rfl⟩) [0, 1, 2, 3, 4, 5, 6] [] [0, 1, 2, 3, 4, 5, 6] rfl rfl (by decide) (by decide) (by decide) (hwf := fun _ => rfl) (by decide) (ci := 1) rfl rfl rfl rfl hl.1 rfl (Nat.le_of_ble_eq_true rfl) dX1_searches_118 ⟨Nat.zero_le _, Nat.zero_le _⟩ (fun r118 u H locs hr118 hP hD hS => ?_)
                  refine w_top (v := iI (((min 1 (pvt (sq (idr oR nn) nn y) (nn - 1)) : Nat) : Int))) (hr118) ?_
                  refine lv_istore_n (lv' := [(3, .int (iI (((min 1 (pvt (sq (idr oR nn) nn y) (nn - 1)) : Nat) : Int)))), (2, .int (iI (((rbs (gsq v mm tT (idr oR nn) nn) y).1)))), (5, .int (iI ((z : Int)))), (4, .int (iI ((gsq v mm tT (idr oR nn) nn y)))), (0, .ref (bd 0)), (1, .int (iI ((v : Int))))]) hx hb dX1_searches_121 rfl hl (by decide) rfl (fun ls hl => ?_)
                  refine lv_goto (tgt := 14) hx hb dX1_searches_122 (by decide) ?_
                  exact ih14 (y + 1) (min 1 (pvt (sq (idr oR nn) nn y) (nn - 1))) (nxT (sq (idr oR nn) nn y) nn) (((((rbs (gsq v mm tT (idr oR nn) nn) (y + 1)).2.1 : Nat) : Int))) uB (ovr (sq (idr oR nn) nn y) wfirstBest14 z) (((min 1 (pvt (sq (idr oR nn) nn y) (nn - 1)) : Nat) : Int)) (((rbs (gsq v mm tT (idr oR nn) nn) y).1)) (by omega) (fun q => by have e5 := hE.1 y q; omega) (fun q => by have e5 := hE.2; rw [show fac nn - 1 = y by omega] at e5; omega) (by omega) (by rw [e8]; omega) (fun _ => hF2) (rfl) (rfl) (by omega) (by rw [e8]) (by omega) _ _ hP hD hS ls (lv_sub hl [0, 1, 4, 5] rfl)
                · refine lv_aload_n hx hb dX1_searches_84 rfl (lv_at hl 4 rfl) ?_
                  refine va_get (D := D) (ci := 1) (C := RX1) (T := TX1) (N := 10) hx hb hts inW hown hK hP 0 rfl rfl 8 (by decide) (hts (.fieldLink RX1 29 "FlowforgeModel" "firstBest" "[I") (List.mem_of_getElem? (i := 5) rfl)) (fun _ h9 => h9) rfl dX1_searches_85 ?_
                  refine lv_iload hx hb dX1_searches_88 (lv_at hl 0 rfl) ?_
                  refine lv_aload_n hx hb dX1_searches_90 rfl (lv_at hl 4 rfl) ?_
                  refine va_get (D := D) (ci := 1) (C := RX1) (T := TX1) (N := 10) hx hb hts inW hown hK hP 0 rfl rfl 7 (by decide) (hts (.fieldLink RX1 26 "FlowforgeModel" "trial" "[I") (List.mem_of_getElem? (i := 3) rfl)) (fun _ h9 => h9) rfl dX1_searches_91 ?_
                  refine lv_iload hx hb dX1_searches_94 (lv_at hl 0 rfl) ?_
                  refine w_iald (v := iI (((sq (idr oR nn) nn y) z : Nat) : Int)) hx hb hK hP 5 0 rfl rfl (z) (by omega) (by omega) (by decide) rfl dX1_searches_96 ?_
                  refine w_iast (g := jI (va_up (ovr (sq (idr oR nn) nn y) wfirstBest14 z) z (((sq (idr oR nn) nn y) z)))) (ws' := mw bd cI th nn mm (((((rbs (gsq v mm tT (idr oR nn) nn) (y + 1)).2.1 : Nat) : Int))) tT oO uB tL (sq (idr oR nn) nn y) (va_up (ovr (sq (idr oR nn) nn y) wfirstBest14 z) z (((sq (idr oR nn) nn y) z)))) hx hb hK hP hD hS 6 0 rfl rfl (z) (by omega) (by omega) (by decide) (hg := jI_up) (hw := rfl) (hd := dX1_searches_97) (kk := fun H locs hP hD hS => ?_)
                  refine lv_iinc (v := iI ((z : Int) + 1)) (lv' := [(5, .int (iI ((z : Int) + 1))), (4, .int (iI ((gsq v mm tT (idr oR nn) nn y)))), (3, .int (iI ((cc : Int)))), (2, .int (iI (((rbs (gsq v mm tT (idr oR nn) nn) y).1)))), (0, .ref (bd 0)), (1, .int (iI ((v : Int))))]) hx hb dX1_searches_98 hl (k := 0) rfl (iI_inc (by omega)) (by decide) rfl (fun ls hl => ?_)
                  refine lv_goto (tgt := 69) hx hb dX1_searches_101 (by decide) ?_
                  exact ih69 (z + 1) (va_up (ovr (sq (idr oR nn) nn y) wfirstBest14 z) z (((sq (idr oR nn) nn y) z))) ((z : Int) + 1) (by omega) (by omega) (ovr_s) (by omega) (by omega) _ _ hP hD hS ls (lv_sub hl [0, 1, 2, 3, 4, 5] rfl)
          exact L69 (nn - 0 + 1) 0 wfirstBest14 (0) (by omega) (by omega) ((ovr_0 _ _).symm) (by omega) (Nat.lt_succ_self _) _ _ hP hD hS ls (lv_sub hl [0, 1, 2, 3, 4, 5] rfl)
        refine lv_iload hx hb dX1_searches_34 (lv_at hl 0 rfl) ?_
        refine lv_iload_n hx hb dX1_searches_36 rfl (lv_at hl 2 rfl) ?_
        refine w_icmp_ge (tgt := 44) hx hb dX1_searches_37 (by decide) ⟨by omega, by omega⟩ ⟨by omega, by omega⟩ (fun c37 => ?_) (fun c37 => ?_)
        · refine lv_iload hx hb dX1_searches_44 (lv_at hl 0 rfl) ?_
          refine lv_iload_n hx hb dX1_searches_46 rfl (lv_at hl 2 rfl) ?_
          refine w_icmp_ne (tgt := 59) hx hb dX1_searches_47 (by decide) ⟨by omega, by omega⟩ ⟨by omega, by omega⟩ (fun c47 => ?_) (fun c47 => ?_)
          · have e7 : (rbs (gsq v mm tT (idr oR nn) nn) (y + 1)).2.1 = (rbs (gsq v mm tT (idr oR nn) nn) y).2.1 := by rw [rbs_c (by omega)]
            refine lv_aload_n hx hb dX1_searches_59 rfl (lv_at hl 3 rfl) ?_
            refine va_get (D := D) (ci := 1) (C := RX1) (T := TX1) (N := 10) hx hb hts inW hown hK hP 0 rfl rfl 9 (by decide) (hts (.fieldLink RX1 131 "FlowforgeModel" "bestMany" "I") (List.mem_of_getElem? (i := 2) rfl)) (fun _ h9 => h9) rfl dX1_searches_60 ?_
            refine w_top (v := iI (((((rbs (gsq v mm tT (idr oR nn) nn) (y + 1)).2.1 : Nat) : Int)))) (congrArg iI (by rw [e7])) ?_
            exact J63  _ _ hP hD hS ls (lv_sub hl [0, 1, 2, 3, 4] rfl)
          · have e7 : (rbs (gsq v mm tT (idr oR nn) nn) (y + 1)).2.1 = (rbs (gsq v mm tT (idr oR nn) nn) y).2.1 + 1 := by rw [rbs_b (by omega)]
            refine lv_aload_n hx hb dX1_searches_50 rfl (lv_at hl 3 rfl) ?_
            refine va_get (D := D) (ci := 1) (C := RX1) (T := TX1) (N := 10) hx hb hts inW hown hK hP 0 rfl rfl 9 (by decide) (hts (.fieldLink RX1 131 "FlowforgeModel" "bestMany" "I") (List.mem_of_getElem? (i := 2) rfl)) (fun _ h9 => h9) rfl dX1_searches_51 ?_
            refine lv_iconst (v := iI 1) hx hb dX1_searches_54 rfl ?_
            refine w_iadd (z := ((((rbs (gsq v mm tT (idr oR nn) nn) y).2.1 : Nat) : Int)) + 1) hx hb dX1_searches_55 (by omega) ?_
            refine lv_goto (tgt := 63) hx hb dX1_searches_56 (by decide) ?_
            refine w_top (v := iI (((((rbs (gsq v mm tT (idr oR nn) nn) (y + 1)).2.1 : Nat) : Int)))) (congrArg iI (by rw [e7]; omega)) ?_
            exact J63  _ _ hP hD hS ls (lv_sub hl [0, 1, 2, 3, 4] rfl)
        · have e7 : (rbs (gsq v mm tT (idr oR nn) nn) (y + 1)).2.1 = 1 := by rw [rbs_a (by omega)]
          refine lv_iconst (v := iI 1) hx hb dX1_searches_40 rfl ?_
          refine lv_goto (tgt := 63) hx hb dX1_searches_41 (by decide) ?_
          refine w_top (v := iI (((((rbs (gsq v mm tT (idr oR nn) nn) (y + 1)).2.1 : Nat) : Int)))) (congrArg iI (by rw [e7]; rfl)) ?_
          exact J63  _ _ hP hD hS ls (lv_sub hl [0, 1, 2, 3, 4] rfl)
  exact L14 (fac nn - 0 + 1) 0 1 (idr oR nn) 0 tB oJ (1) (1000000) (by omega) (by omega) (by omega) (by omega) (⟨by show (0 : Int) ≤ 1000000; omega, Int.le_refl _⟩) (fun h => absurd h (Nat.lt_irrefl _)) (rfl) (rfl) (by omega) (rfl) (Nat.lt_succ_self _) _ _ hP hD hS ls (lv_sub hl [0, 1, 2, 3] rfl)
end
