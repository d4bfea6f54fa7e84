section
variable {l : Launch} {D : va_G} {cI cZ cJ : ClassId} {ad bd : Nat → Nat} {a0 : Nat} {ws : va_W} {nn mm : Nat} {th bm : Int} {tT tB tE tL : Nat → Int} {oO oR oQ : Nat → Nat} {zS zM zN : Nat → Int} {oJ fF : Nat → Nat}
set_option maxHeartbeats 4000000 in
set_option maxRecDepth 100000 in
theorem mX0_findBestOrder_B {v : Nat} (hT : ∀ k, 0 ≤ tT k ∧ tT k ≤ 99) (hn : nn ≤ 7) (hm : 1 ≤ mm ∧ mm ≤ 5) (hv : v ≤ 2) (hE : Enu nn) (hS0 : zS v = 0) (hCK : CK mm tT nn zS zM zN oJ) (hMb : ∀ k, k ≤ 2 → 0 ≤ zM k ∧ zM k ≤ 1000000) : IM l yX0_findBestOrder wsX0_findBestOrder (rmx 4 95) D (tyk cI cZ cJ) (xw ad cI cZ nn mm tT tB tE tL oO oR oQ zS zM zN oJ) [.ref (ad 0), .int (iI ((v : Int)))] (QV D (tyk cI cZ cJ) (fun u : (Nat → Int) × (Nat → Int) × (Nat → Nat) × (Nat → Int) × (Nat → Int) × (Nat → Nat) × (Nat → Int) => xw ad cI cZ nn mm tT u.1 u.2.1 tL oO u.2.2.1 oQ u.2.2.2.2.2.2 u.2.2.2.1 u.2.2.2.2.1 u.2.2.2.2.2.1) (fun u => CK mm tT nn u.2.2.2.2.2.2 u.2.2.2.1 u.2.2.2.2.1 u.2.2.2.2.2.1 ∧ CV v mm tT nn u.2.2.2.1 u.2.2.2.2.1 u.2.2.2.2.2.1 ∧ ∀ k, k ≤ 2 → 0 ≤ u.2.2.2.1 k ∧ u.2.2.2.1 k ≤ 1000000)) := by
  refine imV_of (cc := cX0_findBestOrder) (maxL := 5) (by decide) rfl (Nat.le_of_ble_eq_true rfl) ?_
  intro p e s m args below meth c A Q hx hb hml hown hts hA hK hP hD hS hret ls hl
  have hown : s.vm.findClass RX0 = some m.cls := hown
  have hl : lv_has ls 5 [(0, .ref (ad 0)), (1, .int (iI ((v : Int))))] := hl
  have inW : ∀ w ∈ wsX00, w ∈ wsX0_findBestOrder := by first | exact (fun w h => List.mem_cons_of_mem _ (List.mem_append_right _ h)) | exact (fun w h => List.mem_cons_of_mem _ (List.mem_append_left _ (List.mem_append_right _ h))) | exact (fun w h => List.mem_cons_of_mem _ (List.mem_append_left _ (List.mem_append_left _ (List.mem_append_right _ h)))) | decide +kernel
  refine lv_aload_n hx hb dX0_findBestOrder_0 rfl (lv_at hl 0 rfl) ?_
  refine va_get (D := D) (ci := 0) (C := RX0) (T := TX0) (N := 13) hx hb hts inW hown hK hP 0 rfl rfl 9 (by decide) (hts (.fieldLink RX0 38 "Flowforge" "solved" "[Z") (List.mem_of_getElem? (i := 1) rfl)) (fun _ h9 => h9) rfl dX0_findBestOrder_1 ?_
  refine lv_iload_n hx hb dX0_findBestOrder_4 rfl (lv_at hl 1 rfl) ?_
  refine w_zald (v := iI (zS v)) hx hb hK hP 8 1 rfl rfl (v) (by omega) (by omega) (by decide) rfl dX0_findBestOrder_5 ?_
  refine w_if_eq (tgt := 10) hx hb dX0_findBestOrder_6 (by decide) ⟨by omega, by omega⟩ (fun c6 => ?_) (fun c6 => absurd hS0 c6)
  refine lv_aload_n hx hb dX0_findBestOrder_10 rfl (lv_at hl 0 rfl) ?_
  refine va_get (D := D) (ci := 0) (C := RX0) (T := TX0) (N := 13) hx hb hts inW hown hK hP 0 rfl rfl 11 (by decide) (hts (.fieldLink RX0 45 "Flowforge" "leastCounts" "[I") (List.mem_of_getElem? (i := 2) rfl)) (fun _ h9 => h9) rfl dX0_findBestOrder_11 ?_
  refine lv_iload_n hx hb dX0_findBestOrder_14 rfl (lv_at hl 1 rfl) ?_
  refine lv_iconst (v := iI 0) hx hb dX0_findBestOrder_15 rfl ?_
  refine w_iast (g := tI (va_up zN v 0)) (ws' := xw ad cI cZ nn mm tT tB tE tL oO oR oQ zS zM (va_up zN v 0) oJ) hx hb hK hP hD hS 10 0 rfl rfl (v) (by omega) (by omega) (by decide) (hg := tI_up) (hw := rfl) (hd := dX0_findBestOrder_16) (kk := fun H locs hP hD hS => ?_)
  refine lv_iconst (v := iI 0) hx hb dX0_findBestOrder_17 rfl ?_
  refine lv_istore_n (lv' := [(2, .int (iI 0)), (0, .ref (ad 0)), (1, .int (iI ((v : Int))))]) hx hb dX0_findBestOrder_18 rfl hl (by decide) rfl (fun ls hl => ?_)
  have L19 : ∀ (fu : Nat) (i : Nat) (wtrial19 : Nat → Nat) (x2_19 : Int), (i ≤ nn) → (wtrial19 = idr oR i) → (x2_19 = (i : Int)) → nn - i < fu → ∀ (H : Heap) (locs : List Loc), va_P D vwCl (xw ad cI cZ nn mm tT tB tE tL oO wtrial19 oQ zS zM (va_up zN v 0) oJ) H → va_D A (xw ad cI cZ nn mm tT tB tE tL oO wtrial19 oQ zS zM (va_up zN v 0) oJ) → va_S A s.heap H locs → ∀ ls : Array Slot, lv_has ls 5 [(2, .int (iI (x2_19))), (0, .ref (ad 0)), (1, .int (iI ((v : Int))))] → W p l e (rmx 4 95) s m args below meth c H locs 0 0 Q (F0 m 19 ls []) := by
    intro fu
    induction fu with
    | zero =>
      intro i wtrial19 x2_19 hi hq0 hq1 hfu
      exact absurd hfu (Nat.not_lt_zero _)
    | succ fu ih =>
      intro i wtrial19 x2_19 hi hq0 hq1 hfu H locs hP hD hS ls hl
      subst hq0
      subst hq1
      have ih19 := ih
      refine lv_iload_n hx hb dX0_findBestOrder_19 rfl (lv_at hl 0 rfl) ?_
      refine lv_aload_n hx hb dX0_findBestOrder_20 rfl (lv_at hl 1 rfl) ?_
      refine va_get (D := D) (ci := 0) (C := RX0) (T := TX0) (N := 13) hx hb hts inW hown hK hP 0 rfl rfl 0 (by decide) (hts (.fieldLink RX0 7 "Flowforge" "jobCount" "I") (List.mem_of_getElem? (i := 3) rfl)) (fun _ h9 => h9) rfl dX0_findBestOrder_21 ?_
      refine w_icmp_ge (tgt := 40) hx hb dX0_findBestOrder_24 (by decide) ⟨by omega, by omega⟩ ⟨by omega, by omega⟩ (fun c24 => ?_) (fun c24 => ?_)
      · obtain rfl : nn = i := by omega
        have hf := fac_le hn
        have hr9 : ∀ y k, k < nn → sq (idr oR nn) nn y k < 7 := fun y => sq_lt (fun k hk => by show idr oR nn k < 7; rw [idr_id k hk]; show k < 7; omega) y
        refine lv_iconst (v := iI 0) hx hb dX0_findBestOrder_40 rfl ?_
        refine lv_istore_n (lv' := [(2, .int (iI 0)), (0, .ref (ad 0)), (1, .int (iI ((v : Int))))]) hx hb dX0_findBestOrder_41 rfl hl (by decide) rfl (fun ls hl => ?_)
        refine lv_iconst (v := iI 0) hx hb dX0_findBestOrder_42 rfl ?_
        refine lv_istore_n (lv' := [(3, .int (iI 0)), (2, .int (iI 0)), (0, .ref (ad 0)), (1, .int (iI ((v : Int))))]) hx hb dX0_findBestOrder_43 rfl hl (by decide) rfl (fun ls hl => ?_)
        have L44 : ∀ (fu : Nat) (y : Nat) (cc : Nat) (wtrial44 : Nat → Nat) (wbegins44 : Nat → Int) (wends44 : Nat → Int) (wleastMakespans44 : Nat → Int) (wleastCounts44 : Nat → Int) (wbestJobs44 : Nat → Nat) (x3_44 : Int) (x2_44 : Int), (y ≤ fac nn) → (y < fac nn → 1 ≤ cc) → (y = fac nn → cc = 0) → (cc ≤ nn + 1) → (rows v mm tT (sq (idr oR nn) nn y) wbegins44 wends44 (cc - 1)) → (0 ≤ wleastMakespans44 v ∧ wleastMakespans44 v ≤ 1000000) → (BS v nn zM zN oJ (idr oR nn) (gsq v mm tT (idr oR nn) nn) y wleastMakespans44 wleastCounts44 wbestJobs44) → (wtrial44 = sq (idr oR nn) nn y) → (x3_44 = (y : Int)) → (x2_44 = (cc : Int) - 1) → fac nn - y < fu → ∀ (H : Heap) (locs : List Loc), va_P D vwCl (xw ad cI cZ nn mm tT wbegins44 wends44 tL oO wtrial44 oQ zS wleastMakespans44 wleastCounts44 wbestJobs44) H → va_D A (xw ad cI cZ nn mm tT wbegins44 wends44 tL oO wtrial44 oQ zS wleastMakespans44 wleastCounts44 wbestJobs44) → va_S A s.heap H locs → ∀ ls : Array Slot, lv_has ls 5 [(3, .int (iI (x3_44))), (2, .int (iI (x2_44))), (0, .ref (ad 0)), (1, .int (iI ((v : Int))))] → W p l e (rmx 4 95) s m args below meth c H locs 0 0 Q (F0 m 44 ls []) := by
          intro fu
          induction fu with
          | zero =>
            intro y cc wtrial44 wbegins44 wends44 wleastMakespans44 wleastCounts44 wbestJobs44 x3_44 x2_44 hy hlt heq hcn hI hMv hBS hq0 hq1 hq2 hfu
            exact absurd hfu (Nat.not_lt_zero _)
          | succ fu ih =>
            intro y cc wtrial44 wbegins44 wends44 wleastMakespans44 wleastCounts44 wbestJobs44 x3_44 x2_44 hy hlt heq hcn hI hMv hBS hq0 hq1 hq2 hfu H locs hP hD hS ls hl
            subst hq0
            subst hq1
            subst hq2
            have ih44 := ih
            have h9 := gsq_rg (v := v) (r := idr oR nn) (nn := nn) hm hT hn y
            have h8 := bst_rg (g := gsq v mm tT (idr oR nn) nn) (K := 3465) (by omega) (gsq_rg hm hT hn) y
            refine lv_iload_n hx hb dX0_findBestOrder_44 rfl (lv_at hl 0 rfl) ?_
            refine lv_sipush (v := iI 5040) hx hb dX0_findBestOrder_45 (by decide) ?_
            refine w_icmp_ge (tgt := 111) hx hb dX0_findBestOrder_48 (by decide) ⟨by omega, by omega⟩ ⟨by omega, by omega⟩ (fun c48 => ?_) (fun c48 => ?_)
            · obtain rfl : y = fac nn := by omega
              refine lv_aload_n hx hb dX0_findBestOrder_111 rfl (lv_at hl 2 rfl) ?_
              refine va_get (D := D) (ci := 0) (C := RX0) (T := TX0) (N := 13) hx hb hts inW hown hK hP 0 rfl rfl 9 (by decide) (hts (.fieldLink RX0 38 "Flowforge" "solved" "[Z") (List.mem_of_getElem? (i := 1) rfl)) (fun _ h9 => h9) rfl dX0_findBestOrder_112 ?_
              refine lv_iload_n hx hb dX0_findBestOrder_115 rfl (lv_at hl 3 rfl) ?_
              refine lv_iconst (v := iI 1) hx hb dX0_findBestOrder_116 rfl ?_
              refine w_zast (g := tI (va_up zS v 1)) (ws' := xw ad cI cZ nn mm tT wbegins44 wends44 tL oO (sq (idr oR nn) nn (fac nn)) oQ (va_up zS v 1) wleastMakespans44 wleastCounts44 wbestJobs44) hx hb hK hP hD hS 8 1 rfl rfl (v) (by omega) (by omega) (by decide) (by rfl) (hg := tI_up) (hw := rfl) (hd := dX0_findBestOrder_117) (kk := fun H locs hP hD hS => ?_)
              have hCK2 := CK_s hn hv (r := idr oR nn) idr_id hCK hBS
              exact hret _ _ 118 ls ((wbegins44, wends44, sq (idr oR nn) nn (fac nn), wleastMakespans44, wleastCounts44, wbestJobs44, va_up zS v 1)) hP hD hS (⟨hCK2.1, hCK2.2, BS_M hBS hMv hMb⟩) dX0_findBestOrder_118
            · refine lv_iload_n hx hb dX0_findBestOrder_51 rfl (lv_at hl 1 rfl) ?_
              refine w_if_lt (tgt := 111) hx hb dX0_findBestOrder_52 (by decide) ⟨by omega, by omega⟩ (fun c52 => ?_) (fun c52 => ?_)
              · obtain rfl : y = fac nn := by omega
                refine lv_aload_n hx hb dX0_findBestOrder_111 rfl (lv_at hl 2 rfl) ?_
                refine va_get (D := D) (ci := 0) (C := RX0) (T := TX0) (N := 13) hx hb hts inW hown hK hP 0 rfl rfl 9 (by decide) (hts (.fieldLink RX0 38 "Flowforge" "solved" "[Z") (List.mem_of_getElem? (i := 1) rfl)) (fun _ h9 => h9) rfl dX0_findBestOrder_112 ?_
                refine lv_iload_n hx hb dX0_findBestOrder_115 rfl (lv_at hl 3 rfl) ?_
                refine lv_iconst (v := iI 1) hx hb dX0_findBestOrder_116 rfl ?_
                refine w_zast (g := tI (va_up zS v 1)) (ws' := xw ad cI cZ nn mm tT wbegins44 wends44 tL oO (sq (idr oR nn) nn (fac nn)) oQ (va_up zS v 1) wleastMakespans44 wleastCounts44 wbestJobs44) hx hb hK hP hD hS 8 1 rfl rfl (v) (by omega) (by omega) (by decide) (by rfl) (hg := tI_up) (hw := rfl) (hd := dX0_findBestOrder_117) (kk := fun H locs hP hD hS => ?_)
                have hCK2 := CK_s hn hv (r := idr oR nn) idr_id hCK hBS
                exact hret _ _ 118 ls ((wbegins44, wends44, sq (idr oR nn) nn (fac nn), wleastMakespans44, wleastCounts44, wbestJobs44, va_up zS v 1)) hP hD hS (⟨hCK2.1, hCK2.2, BS_M hBS hMv hMb⟩) dX0_findBestOrder_118
              · have hyl : y < fac nn := (Nat.lt_or_ge y (fac nn)).elim id (fun q => absurd (heq (by omega)) (by omega))
                refine lv_iload_n hx hb dX0_findBestOrder_55 rfl (lv_at hl 1 rfl) ?_
                refine lv_istore (lv' := [(4, .int (iI ((cc : Int) - 1))), (3, .int (iI ((y : Int)))), (2, .int (iI ((cc : Int) - 1))), (0, .ref (ad 0)), (1, .int (iI ((v : Int))))]) hx hb dX0_findBestOrder_56 hl (by decide) rfl (fun ls hl => ?_)
                have L58 : ∀ (fu : Nat) (pl : Nat) (wbegins58 : Nat → Int) (wends58 : Nat → Int) (x4_58 : Int), (pl ≤ nn) → (rows v mm tT (sq (idr oR nn) nn y) wbegins58 wends58 pl) → (x4_58 = (pl : Int)) → nn - pl < fu → ∀ (H : Heap) (locs : List Loc), va_P D vwCl (xw ad cI cZ nn mm tT wbegins58 wends58 tL oO (sq (idr oR nn) nn y) oQ zS wleastMakespans44 wleastCounts44 wbestJobs44) H → va_D A (xw ad cI cZ nn mm tT wbegins58 wends58 tL oO (sq (idr oR nn) nn y) oQ zS wleastMakespans44 wleastCounts44 wbestJobs44) → va_S A s.heap H locs → ∀ ls : Array Slot, lv_has ls 5 [(4, .int (iI (x4_58))), (3, .int (iI ((y : Int)))), (2, .int (iI ((cc : Int) - 1))), (0, .ref (ad 0)), (1, .int (iI ((v : Int))))] → W p l e (rmx 4 95) s m args below meth c H locs 0 0 Q (F0 m 58 ls []) := by
                  intro fu
                  induction fu with
                  | zero =>
                    intro pl wbegins58 wends58 x4_58 hpl hI2 hq0 hfu
                    exact absurd hfu (Nat.not_lt_zero _)
                  | succ fu ih =>
                    intro pl wbegins58 wends58 x4_58 hpl hI2 hq0 hfu H locs hP hD hS ls hl
                    subst hq0
                    have ih58 := ih
                    refine lv_iload hx hb dX0_findBestOrder_58 (lv_at hl 0 rfl) ?_
                    refine lv_aload_n hx hb dX0_findBestOrder_60 rfl (lv_at hl 3 rfl) ?_
                    refine va_get (D := D) (ci := 0) (C := RX0) (T := TX0) (N := 13) hx hb hts inW hown hK hP 0 rfl rfl 0 (by decide) (hts (.fieldLink RX0 7 "Flowforge" "jobCount" "I") (List.mem_of_getElem? (i := 3) rfl)) (fun _ h9 => h9) rfl dX0_findBestOrder_61 ?_
                    refine w_icmp_ge (tgt := 87) hx hb dX0_findBestOrder_64 (by decide) ⟨by omega, by omega⟩ ⟨by omega, by omega⟩ (fun c64 => ?_) (fun c64 => ?_)
                    · obtain rfl : nn = pl := by omega
                      refine lv_aload_n hx hb dX0_findBestOrder_87 rfl (lv_at hl 3 rfl) ?_
                      refine lv_iload_n hx hb dX0_findBestOrder_88 rfl (lv_at hl 4 rfl) ?_
                      refine lv_aload_n hx hb dX0_findBestOrder_89 rfl (lv_at hl 3 rfl) ?_
                      refine lv_aload_n hx hb dX0_findBestOrder_90 rfl (lv_at hl 3 rfl) ?_
                      refine va_get (D := D) (ci := 0) (C := RX0) (T := TX0) (N := 13) hx hb hts inW hown hK hP 0 rfl rfl 0 (by decide) (hts (.fieldLink RX0 7 "Flowforge" "jobCount" "I") (List.mem_of_getElem? (i := 3) rfl)) (fun _ h9 => h9) rfl dX0_findBestOrder_91 ?_
                      refine w_pV (As := [.int (iI ((nn : Int)))]) (rest := [.int (iI ((v : Int))), .ref (ad 0)]) ⟨hx, hb, hml, hown, hts⟩ hK hP (mX0_lastEnd  hm hn) (cwV 1 hts gX0_findBestOrder_X0_lastEnd rfl rfl rfl (by decide +kernel) ⟨Nat.le_of_ble_eq_true rfl, Nat.le_of_ble_eq_true rfl⟩) (ci := 0) rfl rfl rfl rfl hl.1 rfl (Nat.le_of_ble_eq_true rfl) dX0_findBestOrder_94 ⟨Nat.zero_le _, Nat.zero_le _⟩ (fun r94 hr94 => ?_)
                      refine w_top (v := iI ((gsq v mm tT (idr oR nn) nn y))) (hr94.trans (congrArg iI (lstE_rows hm.1 hI2))) ?_
                      have q4 := hBS.2.2.2.1
                      have q3 : 0 ≤ wleastMakespans44 v ∧ wleastMakespans44 v ≤ 1000000 := hMv
                      by_cases hC : wleastCounts44 v = 0 ∨ gsq v mm tT (idr oR nn) nn y < wleastMakespans44 v
                      · refine w_iVv (As := [.int (iI ((v : Int))), .int (iI ((gsq v mm tT (idr oR nn) nn y)))]) (rest := []) (wf := fun u : Unit => xw ad cI cZ nn mm tT wbegins58 wends58 tL oO (sq (idr oR nn) nn y) oQ zS (va_up wleastMakespans44 v ((gsq v mm tT (idr oR nn) nn y))) (va_up (va_up wleastCounts44 v 0) v 1) (va_cpy (sq (idr oR nn) nn y) wbestJobs44 0 (7 * v) nn)) (wr := []) ⟨hx, hb, hml, hown, hts⟩ hK hP hD hS hA (mX0_countTrial_A  hn hv q3 (by omega) (by omega) hC) (cwV 2 hts gX0_findBestOrder_X0_countTrial rfl rfl rfl (by decide +kernel) ⟨Nat.le_of_ble_eq_true rfl, Nat.le_of_ble_eq_true rfl⟩) [0, 1, 2, 3, 4, 5, 6, 7, 8, 9, 10, 11] [] [0, 1, 2, 3, 4, 5, 6, 7, 8, 9, 10, 11] rfl rfl (by decide) (by decide) (by decide) (hwf := fun _ => rfl) (by decide) (ci := 0) rfl rfl rfl rfl hl.1 rfl (Nat.le_of_ble_eq_true rfl) dX0_findBestOrder_97 ⟨Nat.zero_le _, Nat.zero_le _⟩ (fun u H locs hr97 hP hD hS => ?_)
                        have hBS2 := BS_A hBS hC
                        refine lv_aload_n hx hb dX0_findBestOrder_100 rfl (lv_at hl 3 rfl) ?_
                        have hp1 := pvt_le (sq (idr oR nn) nn y) (nn - 1)
                        have hp2 := sq_pvt (r := idr oR nn) (nn := nn) (i := y) idr_id
                        refine w_iV (As := []) (rest := []) (wf := fun u : Unit => xw ad cI cZ nn mm tT wbegins58 wends58 tL oO (nxT (sq (idr oR nn) nn y) nn) oQ zS (va_up wleastMakespans44 v ((gsq v mm tT (idr oR nn) nn y))) (va_up (va_up wleastCounts44 v 0) v 1) (va_cpy (sq (idr oR nn) nn y) wbestJobs44 0 (7 * v) nn)) (wr := []) ⟨hx, hb, hml, hown, hts⟩ hK hP hD hS hA (mX0_stepTrial  hn (hr9 y)) (cwV 0 hts gX0_findBestOrder_X0_stepTrial rfl rfl rfl (by decide +kernel) ⟨Nat.le_of_ble_eq_true rfl, Nat.le_of_ble_eq_true rfl⟩) [0, 1, 2, 3, 4, 5, 6, 7, 8, 9, 10, 11] [] [0, 1, 2, 3, 4, 5, 6, 7, 8, 9, 10, 11] rfl rfl (by decide) (by decide) (by decide) (hwf := fun _ => rfl) (by decide) (ci := 0) rfl rfl rfl rfl hl.1 rfl (Nat.le_of_ble_eq_true rfl) dX0_findBestOrder_101 ⟨Nat.zero_le _, Nat.zero_le _⟩ (fun r101 u H locs hr101 hP hD hS => ?_)
                        refine w_top (v := iI (((pvt (sq (idr oR nn) nn y) (nn - 1) : Nat) : Int) - 1)) (hr101) ?_
                        refine lv_istore_n (lv' := [(2, .int (iI (((pvt (sq (idr oR nn) nn y) (nn - 1) : Nat) : Int) - 1))), (4, .int (iI ((nn : Int)))), (3, .int (iI ((y : Int)))), (0, .ref (ad 0)), (1, .int (iI ((v : Int))))]) hx hb dX0_findBestOrder_104 rfl hl (by decide) rfl (fun ls hl => ?_)
                        refine lv_iinc (v := iI ((y : Int) + 1)) (lv' := [(3, .int (iI ((y : Int) + 1))), (2, .int (iI (((pvt (sq (idr oR nn) nn y) (nn - 1) : Nat) : Int) - 1))), (4, .int (iI ((nn : Int)))), (0, .ref (ad 0)), (1, .int (iI ((v : Int))))]) hx hb dX0_findBestOrder_105 hl (k := 2) rfl (iI_inc (by omega)) (by decide) rfl (fun ls hl => ?_)
                        refine lv_goto (tgt := 44) hx hb dX0_findBestOrder_108 (by decide) ?_
                        exact ih44 (y + 1) (pvt (sq (idr oR nn) nn y) (nn - 1)) (nxT (sq (idr oR nn) nn y) nn) wbegins58 wends58 (va_up wleastMakespans44 v ((gsq v mm tT (idr oR nn) nn y))) (va_up (va_up wleastCounts44 v 0) v 1) (va_cpy (sq (idr oR nn) nn y) wbestJobs44 0 (7 * v) nn) ((y : Int) + 1) (((pvt (sq (idr oR nn) nn y) (nn - 1) : Nat) : Int) - 1) (by omega) (fun q => by rw [hp2]; exact hE.1 y q) (fun q => by rw [hp2, show y = fac nn - 1 by omega]; exact hE.2) (by omega) (rows_cg (rows_le hI2 (by omega)) (fun k hk => (nxT_lo (by omega)).symm)) (by first | exact hMv | (unfold va_up; rw [if_pos rfl]; omega)) (hBS2) (rfl) (by omega) (by omega) (by omega) _ _ hP hD hS ls (lv_sub hl [0, 1, 3, 4] rfl)
                      · refine w_iVv (As := [.int (iI ((v : Int))), .int (iI ((gsq v mm tT (idr oR nn) nn y)))]) (rest := []) (wf := fun u : Unit => xw ad cI cZ nn mm tT wbegins58 wends58 tL oO (sq (idr oR nn) nn y) oQ zS wleastMakespans44 ((if ((gsq v mm tT (idr oR nn) nn y)) = wleastMakespans44 v then va_up wleastCounts44 v (wleastCounts44 v + 1) else wleastCounts44)) wbestJobs44) (wr := []) ⟨hx, hb, hml, hown, hts⟩ hK hP hD hS hA (mX0_countTrial_B  hn hv q3 (by omega) (by omega) hC) (cwV 2 hts gX0_findBestOrder_X0_countTrial rfl rfl rfl (by decide +kernel) ⟨Nat.le_of_ble_eq_true rfl, Nat.le_of_ble_eq_true rfl⟩) [0, 1, 2, 3, 4, 5, 6, 7, 8, 9, 10, 11] [] [0, 1, 2, 3, 4, 5, 6, 7, 8, 9, 10, 11] rfl rfl (by decide) (by decide) (by decide) (hwf := fun _ => rfl) (by decide) (ci := 0) rfl rfl rfl rfl hl.1 rfl (Nat.le_of_ble_eq_true rfl) dX0_findBestOrder_97 ⟨Nat.zero_le _, Nat.zero_le _⟩ (fun u H locs hr97 hP hD hS => ?_)
                        have hBS2 := BS_B hBS hC
                        refine lv_aload_n hx hb dX0_findBestOrder_100 rfl (lv_at hl 3 rfl) ?_
                        have hp1 := pvt_le (sq (idr oR nn) nn y) (nn - 1)
                        have hp2 := sq_pvt (r := idr oR nn) (nn := nn) (i := y) idr_id
                        refine w_iV (As := []) (rest := []) (wf := fun u : Unit => xw ad cI cZ nn mm tT wbegins58 wends58 tL oO (nxT (sq (idr oR nn) nn y) nn) oQ zS wleastMakespans44 ((if ((gsq v mm tT (idr oR nn) nn y)) = wleastMakespans44 v then va_up wleastCounts44 v (wleastCounts44 v + 1) else wleastCounts44)) wbestJobs44) (wr := []) ⟨hx, hb, hml, hown, hts⟩ hK hP hD hS hA (mX0_stepTrial  hn (hr9 y)) (cwV 0 hts gX0_findBestOrder_X0_stepTrial rfl rfl rfl (by decide +kernel) ⟨Nat.le_of_ble_eq_true rfl, Nat.le_of_ble_eq_true rfl⟩) [0, 1, 2, 3, 4, 5, 6, 7, 8, 9, 10, 11] [] [0, 1, 2, 3, 4, 5, 6, 7, 8, 9, 10, 11] rfl rfl (by decide) (by decide) (by decide) (hwf := fun _ => rfl) (by decide) (ci := 0) rfl rfl rfl rfl hl.1 rfl (Nat.le_of_ble_eq_true rfl) dX0_findBestOrder_101 ⟨Nat.zero_le _, Nat.zero_le _⟩ (fun r101 u H locs hr101 hP hD hS => ?_)
                        refine w_top (v := iI (((pvt (sq (idr oR nn) nn y) (nn - 1) : Nat) : Int) - 1)) (hr101) ?_
                        refine lv_istore_n (lv' := [(2, .int (iI (((pvt (sq (idr oR nn) nn y) (nn - 1) : Nat) : Int) - 1))), (4, .int (iI ((nn : Int)))), (3, .int (iI ((y : Int)))), (0, .ref (ad 0)), (1, .int (iI ((v : Int))))]) hx hb dX0_findBestOrder_104 rfl hl (by decide) rfl (fun ls hl => ?_)
                        refine lv_iinc (v := iI ((y : Int) + 1)) (lv' := [(3, .int (iI ((y : Int) + 1))), (2, .int (iI (((pvt (sq (idr oR nn) nn y) (nn - 1) : Nat) : Int) - 1))), (4, .int (iI ((nn : Int)))), (0, .ref (ad 0)), (1, .int (iI ((v : Int))))]) hx hb dX0_findBestOrder_105 hl (k := 2) rfl (iI_inc (by omega)) (by decide) rfl (fun ls hl => ?_)
                        refine lv_goto (tgt := 44) hx hb dX0_findBestOrder_108 (by decide) ?_
                        exact ih44 (y + 1) (pvt (sq (idr oR nn) nn y) (nn - 1)) (nxT (sq (idr oR nn) nn y) nn) wbegins58 wends58 wleastMakespans44 ((if ((gsq v mm tT (idr oR nn) nn y)) = wleastMakespans44 v then va_up wleastCounts44 v (wleastCounts44 v + 1) else wleastCounts44)) wbestJobs44 ((y : Int) + 1) (((pvt (sq (idr oR nn) nn y) (nn - 1) : Nat) : Int) - 1) (by omega) (fun q => by rw [hp2]; exact hE.1 y q) (fun q => by rw [hp2, show y = fac nn - 1 by omega]; exact hE.2) (by omega) (rows_cg (rows_le hI2 (by omega)) (fun k hk => (nxT_lo (by omega)).symm)) (by first | exact hMv | (unfold va_up; rw [if_pos rfl]; omega)) (hBS2) (rfl) (by omega) (by omega) (by omega) _ _ hP hD hS ls (lv_sub hl [0, 1, 3, 4] rfl)
                    · refine lv_aload_n hx hb dX0_findBestOrder_67 rfl (lv_at hl 3 rfl) ?_
                      refine lv_iload_n hx hb dX0_findBestOrder_68 rfl (lv_at hl 4 rfl) ?_
                      refine lv_iload hx hb dX0_findBestOrder_69 (lv_at hl 0 rfl) ?_
                      refine lv_aload_n hx hb dX0_findBestOrder_71 rfl (lv_at hl 3 rfl) ?_
                      refine va_get (D := D) (ci := 0) (C := RX0) (T := TX0) (N := 13) hx hb hts inW hown hK hP 0 rfl rfl 7 (by decide) (hts (.fieldLink RX0 32 "Flowforge" "trial" "[I") (List.mem_of_getElem? (i := 4) rfl)) (fun _ h9 => h9) rfl dX0_findBestOrder_72 ?_
                      refine lv_iload hx hb dX0_findBestOrder_75 (lv_at hl 0 rfl) ?_
                      refine w_iald (v := iI (((sq (idr oR nn) nn y) pl : Nat) : Int)) hx hb hK hP 6 0 rfl rfl (pl) (by omega) (by omega) (by decide) rfl dX0_findBestOrder_77 ?_
                      refine w_iVv (As := [.int (iI ((v : Int))), .int (iI ((pl : Int))), .int (iI ((((((sq (idr oR nn) nn y) pl)) : Nat) : Int)))]) (rest := []) (wf := fun u : Unit => xw ad cI cZ nn mm tT (pt wbegins58 (sjB v mm tT pl (((sq (idr oR nn) nn y) pl)) wbegins58 wends58) (5 * pl) mm) (pt wends58 (sjE v mm tT pl (((sq (idr oR nn) nn y) pl)) wbegins58 wends58) (5 * pl) mm) tL oO (sq (idr oR nn) nn y) oQ zS wleastMakespans44 wleastCounts44 wbestJobs44) (wr := []) ⟨hx, hb, hml, hown, hts⟩ hK hP hD hS hA (mX0_scheduleJob  hT hm hv (by omega) (hr9 y _ (by omega)) (rows_rg hm.2 hT (by omega) hI2)) (cwV 3 hts gX0_findBestOrder_X0_scheduleJob rfl rfl rfl (by decide +kernel) ⟨Nat.le_of_ble_eq_true rfl, Nat.le_of_ble_eq_true rfl⟩) [0, 1, 2, 3, 4, 5, 6, 7, 8, 9, 10, 11] [] [0, 1, 2, 3, 4, 5, 6, 7, 8, 9, 10, 11] rfl rfl (by decide) (by decide) (by decide) (hwf := fun _ => rfl) (by decide) (ci := 0) rfl rfl rfl rfl hl.1 (by rw [show (((((sq (idr oR nn) nn y) pl : Nat) : Int)) : Int) = (((((sq (idr oR nn) nn y) pl)) : Nat) : Int) by omega]; try rfl) (Nat.le_of_ble_eq_true rfl) dX0_findBestOrder_78 ⟨Nat.zero_le _, Nat.zero_le _⟩ (fun u H locs hr78 hP hD hS => ?_)
                      refine lv_iinc (v := iI ((pl : Int) + 1)) (lv' := [(4, .int (iI ((pl : Int) + 1))), (3, .int (iI ((y : Int)))), (2, .int (iI ((cc : Int) - 1))), (0, .ref (ad 0)), (1, .int (iI ((v : Int))))]) hx hb dX0_findBestOrder_81 hl (k := 0) rfl (iI_inc (by omega)) (by decide) rfl (fun ls hl => ?_)
                      refine lv_goto (tgt := 58) hx hb dX0_findBestOrder_84 (by decide) ?_
                      exact ih58 (pl + 1) (pt wbegins58 (sjB v mm tT pl (((sq (idr oR nn) nn y) pl)) wbegins58 wends58) (5 * pl) mm) (pt wends58 (sjE v mm tT pl (((sq (idr oR nn) nn y) pl)) wbegins58 wends58) (5 * pl) mm) ((pl : Int) + 1) (by omega) (rows_s hm.2 hI2) (by omega) (by omega) _ _ hP hD hS ls (lv_sub hl [0, 1, 2, 3, 4] rfl)
                exact L58 (nn - (cc - 1) + 1) (cc - 1) wbegins44 wends44 ((cc : Int) - 1) (by omega) (hI) (by omega) (Nat.lt_succ_self _) _ _ hP hD hS ls (lv_sub hl [0, 1, 2, 3, 4] rfl)
        exact L44 (fac nn - 0 + 1) 0 1 (idr oR nn) tB tE zM (va_up zN v 0) oJ (0) (0) (by omega) (by omega) (by omega) (by omega) (rows_0) (hMb v hv) (BS_0) (rfl) (by omega) (by omega) (Nat.lt_succ_self _) _ _ hP hD hS ls (lv_sub hl [0, 1, 2, 3] rfl)
      · refine lv_aload_n hx hb dX0_findBestOrder_27 rfl (lv_at hl 1 rfl) ?_
        refine va_get (D := D) (ci := 0) (C := RX0) (T := TX0) (N := 13) hx hb hts inW hown hK hP 0 rfl rfl 7 (by decide) (hts (.fieldLink RX0 32 "Flowforge" "trial" "[I") (List.mem_of_getElem? (i := 4) rfl)) (fun _ h9 => h9) rfl dX0_findBestOrder_28 ?_
        refine lv_iload_n hx hb dX0_findBestOrder_31 rfl (lv_at hl 0 rfl) ?_
        refine lv_iload_n hx hb dX0_findBestOrder_32 rfl (lv_at hl 0 rfl) ?_
        refine w_iast (g := jI (va_up (idr oR i) i i)) (ws' := xw ad cI cZ nn mm tT tB tE tL oO (va_up (idr oR i) i i) oQ zS zM (va_up zN v 0) oJ) hx hb hK hP hD hS 6 0 rfl rfl (i) (by omega) (by omega) (by decide) (hg := jI_up) (hw := rfl) (hd := dX0_findBestOrder_33) (kk := fun H locs hP hD hS => ?_)
        refine lv_iinc (v := iI ((i : Int) + 1)) (lv' := [(2, .int (iI ((i : Int) + 1))), (0, .ref (ad 0)), (1, .int (iI ((v : Int))))]) hx hb dX0_findBestOrder_34 hl (k := 0) rfl (iI_inc (by omega)) (by decide) rfl (fun ls hl => ?_)
        refine lv_goto (tgt := 19) hx hb dX0_findBestOrder_37 (by decide) ?_
        exact ih19 (i + 1) (va_up (idr oR i) i i) ((i : Int) + 1) (by omega) (idr_s) (by omega) (by omega) _ _ hP hD hS ls (lv_sub hl [0, 1, 2] rfl)
  exact L19 (nn - 0 + 1) 0 oR (0) (by omega) ((idr_0 _).symm) (by omega) (Nat.lt_succ_self _) _ _ hP hD hS ls (lv_sub hl [0, 1, 2] rfl)
set_option maxHeartbeats 4000000 in
set_option maxRecDepth 100000 in
theorem mX0_findBestOrder_A {v : Nat} (hv : v ≤ 2) (hS1 : zS v = 1) (hCV : CV v mm tT nn zM zN oJ) (hCK : CK mm tT nn zS zM zN oJ) (hMb : ∀ k, k ≤ 2 → 0 ≤ zM k ∧ zM k ≤ 1000000) : IM l yX0_findBestOrder wsX0_findBestOrder (rmx 4 95) D (tyk cI cZ cJ) (xw ad cI cZ nn mm tT tB tE tL oO oR oQ zS zM zN oJ) [.ref (ad 0), .int (iI ((v : Int)))] (QV D (tyk cI cZ cJ) (fun u : (Nat → Int) × (Nat → Int) × (Nat → Nat) × (Nat → Int) × (Nat → Int) × (Nat → Nat) × (Nat → Int) => xw ad cI cZ nn mm tT u.1 u.2.1 tL oO u.2.2.1 oQ u.2.2.2.2.2.2 u.2.2.2.1 u.2.2.2.2.1 u.2.2.2.2.2.1) (fun u => CK mm tT nn u.2.2.2.2.2.2 u.2.2.2.1 u.2.2.2.2.1 u.2.2.2.2.2.1 ∧ CV v mm tT nn u.2.2.2.1 u.2.2.2.2.1 u.2.2.2.2.2.1 ∧ ∀ k, k ≤ 2 → 0 ≤ u.2.2.2.1 k ∧ u.2.2.2.1 k ≤ 1000000)) := by
  refine imV_of (cc := cX0_findBestOrder) (maxL := 5) (by decide) rfl (Nat.le_of_ble_eq_true rfl) ?_
  intro p e s m args below meth c A Q hx hb hml hown hts hA hK hP hD hS hret ls hl
  have hown : s.vm.findClass RX0 = some m.cls := hown
  have hl : lv_has ls 5 [(0, .ref (ad 0)), (1, .int (iI ((v : Int))))] := hl
  have inW : ∀ w ∈ wsX00, w ∈ wsX0_findBestOrder := by first | exact (fun w h => List.mem_cons_of_mem _ (List.mem_append_right _ h)) | exact (fun w h => List.mem_cons_of_mem _ (List.mem_append_left _ (List.mem_append_right _ h))) | exact (fun w h => List.mem_cons_of_mem _ (List.mem_append_left _ (List.mem_append_left _ (List.mem_append_right _ h)))) | decide +kernel
  refine lv_aload_n hx hb dX0_findBestOrder_0 rfl (lv_at hl 0 rfl) ?_
  refine va_get (D := D) (ci := 0) (C := RX0) (T := TX0) (N := 13) hx hb hts inW hown hK hP 0 rfl rfl 9 (by decide) (hts (.fieldLink RX0 38 "Flowforge" "solved" "[Z") (List.mem_of_getElem? (i := 1) rfl)) (fun _ h9 => h9) rfl dX0_findBestOrder_1 ?_
  refine lv_iload_n hx hb dX0_findBestOrder_4 rfl (lv_at hl 1 rfl) ?_
  refine w_zald (v := iI (zS v)) hx hb hK hP 8 1 rfl rfl (v) (by omega) (by omega) (by decide) rfl dX0_findBestOrder_5 ?_
  refine w_if_eq (tgt := 10) hx hb dX0_findBestOrder_6 (by decide) ⟨by omega, by omega⟩ (fun c6 => absurd c6 (by omega)) (fun c6 => ?_)
  exact hret _ _ 9 ls ((tB, tE, oR, zM, zN, oJ, zS)) hP hD hS (⟨hCK, hCV, hMb⟩) dX0_findBestOrder_9
set_option maxRecDepth 100000 in
theorem mX0_findBestOrder {v : Nat} (hT : ∀ k, 0 ≤ tT k ∧ tT k ≤ 99) (hn : nn ≤ 7) (hm : 1 ≤ mm ∧ mm ≤ 5) (hv : v ≤ 2) (hE : Enu nn) (hCK : CK mm tT nn zS zM zN oJ) (hMb : ∀ k, k ≤ 2 → 0 ≤ zM k ∧ zM k ≤ 1000000) : IM l yX0_findBestOrder wsX0_findBestOrder (rmx 4 95) D (tyk cI cZ cJ) (xw ad cI cZ nn mm tT tB tE tL oO oR oQ zS zM zN oJ) [.ref (ad 0), .int (iI ((v : Int)))] (QV D (tyk cI cZ cJ) (fun u : (Nat → Int) × (Nat → Int) × (Nat → Nat) × (Nat → Int) × (Nat → Int) × (Nat → Nat) × (Nat → Int) => xw ad cI cZ nn mm tT u.1 u.2.1 tL oO u.2.2.1 oQ u.2.2.2.2.2.2 u.2.2.2.1 u.2.2.2.2.1 u.2.2.2.2.2.1) (fun u => CK mm tT nn u.2.2.2.2.2.2 u.2.2.2.1 u.2.2.2.2.1 u.2.2.2.2.2.1 ∧ CV v mm tT nn u.2.2.2.1 u.2.2.2.2.1 u.2.2.2.2.2.1 ∧ ∀ k, k ≤ 2 → 0 ≤ u.2.2.2.1 k ∧ u.2.2.2.1 k ≤ 1000000)) := by
  rcases hCK v hv with h | h
  · exact mX0_findBestOrder_B hT hn hm hv hE h hCK hMb
  · exact mX0_findBestOrder_A hv h.1 h.2 hCK hMb
end
