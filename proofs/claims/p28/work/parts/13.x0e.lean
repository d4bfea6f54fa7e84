section
variable {l : Launch} {D : va_G} {cI cZ cJ : ClassId} {ad bd : Nat → Nat} {a0 : Nat} {ws : va_W} {nn mm : Nat} {th bm : Int} {tT tB tE tL : Nat → Int} {oO oR oQ : Nat → Nat} {zS zM zN : Nat → Int} {oJ fF : Nat → Nat}
set_option maxHeartbeats 4000000 in
set_option maxRecDepth 100000 in
theorem mX0_addJob (h7 : nn < 7) : IM l yX0_addJob wsX0_addJob (rmx 1 21) D (tyk cI cZ cJ) (xw ad cI cZ nn mm tT tB tE tL oO oR oQ zS zM zN oJ) [.ref (ad 0)] (QI D (tyk cI cZ cJ) (fun u : Unit => xw ad cI cZ (nn + 1) mm tT tB tE tL (va_up oO nn nn) oR oQ (zfl zS 3) zM zN oJ) (fun x _ => x = iI (nn : Int))) := by
  refine imI_of (cc := cX0_addJob) (maxL := 2) (by decide) rfl (Nat.le_of_ble_eq_true rfl) ?_
  intro p e s m args below meth c A Q hx hb hml hown hts hA hK hP hD hS hret ls hl
  have hown : s.vm.findClass RX0 = some m.cls := hown
  have hl : lv_has ls 2 [(0, .ref (ad 0))] := hl
  have inW : ∀ w ∈ wsX00, w ∈ wsX0_addJob := by first | exact (fun w h => List.mem_cons_of_mem _ (List.mem_append_right _ h)) | exact (fun w h => List.mem_cons_of_mem _ (List.mem_append_left _ (List.mem_append_right _ h))) | exact (fun w h => List.mem_cons_of_mem _ (List.mem_append_left _ (List.mem_append_left _ (List.mem_append_right _ h)))) | decide +kernel
  refine lv_aload_n hx hb dX0_addJob_0 rfl (lv_at hl 0 rfl) ?_
  refine va_get (D := D) (ci := 0) (C := RX0) (T := TX0) (N := 13) hx hb hts inW hown hK hP 0 rfl rfl 0 (by decide) (hts (.fieldLink RX0 7 "Flowforge" "jobCount" "I") (List.mem_of_getElem? (i := 3) rfl)) (fun _ h9 => h9) rfl dX0_addJob_1 ?_
  refine lv_bipush (v := iI 7) hx hb dX0_addJob_4 (by decide) ?_
  refine w_icmp_lt (tgt := 19) hx hb dX0_addJob_6 (by decide) ⟨by omega, by omega⟩ ⟨by omega, by omega⟩ (fun c6 => ?_) (fun c6 => absurd c6 (by omega))
  refine lv_aload_n hx hb dX0_addJob_19 rfl (lv_at hl 0 rfl) ?_
  refine va_get (D := D) (ci := 0) (C := RX0) (T := TX0) (N := 13) hx hb hts inW hown hK hP 0 rfl rfl 0 (by decide) (hts (.fieldLink RX0 7 "Flowforge" "jobCount" "I") (List.mem_of_getElem? (i := 3) rfl)) (fun _ h9 => h9) rfl dX0_addJob_20 ?_
  refine lv_istore_n (lv' := [(1, .int (iI ((nn : Int)))), (0, .ref (ad 0))]) hx hb dX0_addJob_23 rfl hl (by decide) rfl (fun ls hl => ?_)
  refine lv_aload_n hx hb dX0_addJob_24 rfl (lv_at hl 1 rfl) ?_
  refine va_get (D := D) (ci := 0) (C := RX0) (T := TX0) (N := 13) hx hb hts inW hown hK hP 0 rfl rfl 6 (by decide) (hts (.fieldLink RX0 29 "Flowforge" "order" "[I") (List.mem_of_getElem? (i := 4) rfl)) (fun _ h9 => h9) rfl dX0_addJob_25 ?_
  refine lv_iload_n hx hb dX0_addJob_28 rfl (lv_at hl 0 rfl) ?_
  refine lv_iload_n hx hb dX0_addJob_29 rfl (lv_at hl 0 rfl) ?_
  refine w_iast (g := jI (va_up oO nn nn)) (ws' := xw ad cI cZ nn mm tT tB tE tL (va_up oO nn nn) oR oQ zS zM zN oJ) hx hb hK hP hD hS 5 0 rfl rfl (nn) (by omega) (by omega) (by decide) (hg := jI_up) (hw := rfl) (hd := dX0_addJob_30) (kk := fun H locs hP hD hS => ?_)
  refine lv_aload_n hx hb dX0_addJob_31 rfl (lv_at hl 1 rfl) ?_
  refine lv_iload_n hx hb dX0_addJob_32 rfl (lv_at hl 0 rfl) ?_
  refine lv_iconst (v := iI 1) hx hb dX0_addJob_33 rfl ?_
  refine w_iadd (z := (nn : Int) + 1) hx hb dX0_addJob_34 (by omega) ?_
  refine w_top (v := iI (((nn + 1 : Nat) : Int))) (congrArg iI (by omega)) ?_
  refine va_put (D := D) (ci := 0) (ty := .int) (C := RX0) (T := TX0) (N := 13) hx hb hts inW tyX0 tyX0_ok nmX0 hown hK hP hD hS 0 rfl rfl 0 (by decide) (hts (.fieldLink RX0 7 "Flowforge" "jobCount" "I") (List.mem_of_getElem? (i := 3) rfl)) (fun _ h9 => h9) rfl (by decide +kernel) rfl rfl (Nat.le_of_ble_eq_true rfl) dX0_addJob_35 (fun H locs hP hD hS => ?_)
  have hP : va_P D vwCl (xw ad cI cZ (nn + 1) mm tT tB tE tL (va_up oO nn nn) oR oQ zS zM zN oJ) H := hP
  have hD : va_D A (xw ad cI cZ (nn + 1) mm tT tB tE tL (va_up oO nn nn) oR oQ zS zM zN oJ) := hD
  refine lv_aload_n hx hb dX0_addJob_38 rfl (lv_at hl 1 rfl) ?_
  refine w_iVv (As := []) (rest := []) (wf := fun u : Unit => xw ad cI cZ (nn + 1) mm tT tB tE tL (va_up oO nn nn) oR oQ (zfl zS 3) zM zN oJ) (wr := []) ⟨hx, hb, hml, hown, hts⟩ hK hP hD hS hA (mX0_forgetBestOrders  ) (cwV 0 hts gX0_addJob_X0_forgetBestOrders rfl rfl rfl (by decide +kernel) ⟨Nat.le_of_ble_eq_true rfl, Nat.le_of_ble_eq_true rfl⟩) [0, 1, 2, 3, 4, 5, 6, 7, 8, 9, 10, 11] [] [0, 1, 2, 3, 4, 5, 6, 7, 8, 9, 10, 11] rfl rfl (by decide) (by decide) (by decide) (hwf := fun _ => rfl) (by decide) (ci := 0) rfl rfl rfl rfl hl.1 rfl (Nat.le_of_ble_eq_true rfl) dX0_addJob_39 ⟨Nat.zero_le _, Nat.zero_le _⟩ (fun u H locs hr39 hP hD hS => ?_)
  refine lv_iload_n hx hb dX0_addJob_42 rfl (lv_at hl 0 rfl) ?_
  exact hret _ _ 43 ls _ (()) hP hD hS (rfl) dX0_addJob_43
set_option maxHeartbeats 4000000 in
set_option maxRecDepth 100000 in
theorem mX0_setMachines {w : Nat} (hn : nn ≤ 7) (hm : 1 ≤ mm ∧ mm ≤ 5) (hw : 1 ≤ w ∧ w ≤ 5) : IM l yX0_setMachines wsX0_setMachines (rmx 1 21) D (tyk cI cZ cJ) (xw ad cI cZ nn mm tT tB tE tL oO oR oQ zS zM zN oJ) [.ref (ad 0), .int (iI ((w : Int)))] (QI D (tyk cI cZ cJ) (fun u : Unit => xw ad cI cZ nn w (tzr tT w nn 0) tB tE tL oO oR oQ (zfl zS 3) zM zN oJ) (fun x _ => x = iI (mm : Int))) := by
  refine imI_of (cc := cX0_setMachines) (maxL := 5) (by decide) rfl (Nat.le_of_ble_eq_true rfl) ?_
  intro p e s m args below meth c A Q hx hb hml hown hts hA hK hP hD hS hret ls hl
  have hown : s.vm.findClass RX0 = some m.cls := hown
  have hl : lv_has ls 5 [(0, .ref (ad 0)), (1, .int (iI ((w : Int))))] := hl
  have inW : ∀ w ∈ wsX00, w ∈ wsX0_setMachines := by first | exact (fun w h => List.mem_cons_of_mem _ (List.mem_append_right _ h)) | exact (fun w h => List.mem_cons_of_mem _ (List.mem_append_left _ (List.mem_append_right _ h))) | exact (fun w h => List.mem_cons_of_mem _ (List.mem_append_left _ (List.mem_append_left _ (List.mem_append_right _ h)))) | decide +kernel
  refine lv_iload_n hx hb dX0_setMachines_0 rfl (lv_at hl 1 rfl) ?_
  refine lv_iconst (v := iI 1) hx hb dX0_setMachines_1 rfl ?_
  refine w_icmp_lt (tgt := 10) hx hb dX0_setMachines_2 (by decide) ⟨by omega, by omega⟩ ⟨by omega, by omega⟩ (fun c2 => absurd c2 (by omega)) (fun c2 => ?_)
  refine lv_iload_n hx hb dX0_setMachines_5 rfl (lv_at hl 1 rfl) ?_
  refine lv_iconst (v := iI 5) hx hb dX0_setMachines_6 rfl ?_
  refine w_icmp_le (tgt := 20) hx hb dX0_setMachines_7 (by decide) ⟨by omega, by omega⟩ ⟨by omega, by omega⟩ (fun c7 => ?_) (fun c7 => absurd c7 (by omega))
  refine lv_aload_n hx hb dX0_setMachines_20 rfl (lv_at hl 0 rfl) ?_
  refine va_get (D := D) (ci := 0) (C := RX0) (T := TX0) (N := 13) hx hb hts inW hown hK hP 0 rfl rfl 1 (by decide) (hts (.fieldLink RX0 13 "Flowforge" "machineCount" "I") (List.mem_of_getElem? (i := 3) rfl)) (fun _ h9 => h9) rfl dX0_setMachines_21 ?_
  refine lv_istore_n (lv' := [(2, .int (iI ((mm : Int)))), (0, .ref (ad 0)), (1, .int (iI ((w : Int))))]) hx hb dX0_setMachines_24 rfl hl (by decide) rfl (fun ls hl => ?_)
  refine lv_iconst (v := iI 0) hx hb dX0_setMachines_25 rfl ?_
  refine lv_istore_n (lv' := [(3, .int (iI 0)), (2, .int (iI ((mm : Int)))), (0, .ref (ad 0)), (1, .int (iI ((w : Int))))]) hx hb dX0_setMachines_26 rfl hl (by decide) rfl (fun ls hl => ?_)
  have L27 : ∀ (fu : Nat) (i : Nat) (wtimes27 : Nat → Int) (x3_27 : Int), (i ≤ nn) → (wtimes27 = tzr tT w i 0) → (x3_27 = (i : Int)) → nn - i < fu → ∀ (H : Heap) (locs : List Loc), va_P D vwCl (xw ad cI cZ nn mm wtimes27 tB tE tL oO oR oQ zS zM zN oJ) H → va_D A (xw ad cI cZ nn mm wtimes27 tB tE tL oO oR oQ zS zM zN oJ) → va_S A s.heap H locs → ∀ ls : Array Slot, lv_has ls 5 [(3, .int (iI (x3_27))), (2, .int (iI ((mm : Int)))), (0, .ref (ad 0)), (1, .int (iI ((w : Int))))] → W p l e (rmx 1 21) s m args below meth c H locs 0 0 Q (F0 m 27 ls []) := by
    intro fu
    induction fu with
    | zero =>
      intro i wtimes27 x3_27 hi hq0 hq1 hfu
      exact absurd hfu (Nat.not_lt_zero _)
    | succ fu ih =>
      intro i wtimes27 x3_27 hi hq0 hq1 hfu H locs hP hD hS ls hl
      subst hq0
      subst hq1
      have ih27 := ih
      refine lv_iload_n hx hb dX0_setMachines_27 rfl (lv_at hl 0 rfl) ?_
      refine lv_aload_n hx hb dX0_setMachines_28 rfl (lv_at hl 2 rfl) ?_
      refine va_get (D := D) (ci := 0) (C := RX0) (T := TX0) (N := 13) hx hb hts inW hown hK hP 0 rfl rfl 0 (by decide) (hts (.fieldLink RX0 7 "Flowforge" "jobCount" "I") (List.mem_of_getElem? (i := 4) rfl)) (fun _ h9 => h9) rfl dX0_setMachines_29 ?_
      refine w_icmp_ge (tgt := 68) hx hb dX0_setMachines_32 (by decide) ⟨by omega, by omega⟩ ⟨by omega, by omega⟩ (fun c32 => ?_) (fun c32 => ?_)
      · obtain rfl : nn = i := by omega
        refine lv_aload_n hx hb dX0_setMachines_68 rfl (lv_at hl 2 rfl) ?_
        refine lv_iload_n hx hb dX0_setMachines_69 rfl (lv_at hl 3 rfl) ?_
        refine va_put (D := D) (ci := 0) (ty := .int) (C := RX0) (T := TX0) (N := 13) hx hb hts inW tyX0 tyX0_ok nmX0 hown hK hP hD hS 0 rfl rfl 1 (by decide) (hts (.fieldLink RX0 13 "Flowforge" "machineCount" "I") (List.mem_of_getElem? (i := 3) rfl)) (fun _ h9 => h9) rfl (by decide +kernel) rfl rfl (Nat.le_of_ble_eq_true rfl) dX0_setMachines_70 (fun H locs hP hD hS => ?_)
        have hP : va_P D vwCl (xw ad cI cZ nn w (tzr tT w nn 0) tB tE tL oO oR oQ zS zM zN oJ) H := hP
        have hD : va_D A (xw ad cI cZ nn w (tzr tT w nn 0) tB tE tL oO oR oQ zS zM zN oJ) := hD
        refine lv_aload_n hx hb dX0_setMachines_73 rfl (lv_at hl 2 rfl) ?_
        refine w_iVv (As := []) (rest := []) (wf := fun u : Unit => xw ad cI cZ nn w (tzr tT w nn 0) tB tE tL oO oR oQ (zfl zS 3) zM zN oJ) (wr := []) ⟨hx, hb, hml, hown, hts⟩ hK hP hD hS hA (mX0_forgetBestOrders  ) (cwV 0 hts gX0_setMachines_X0_forgetBestOrders rfl rfl rfl (by decide +kernel) ⟨Nat.le_of_ble_eq_true rfl, Nat.le_of_ble_eq_true rfl⟩) [0, 1, 2, 3, 4, 5, 6, 7, 8, 9, 10, 11] [] [0, 1, 2, 3, 4, 5, 6, 7, 8, 9, 10, 11] rfl rfl (by decide) (by decide) (by decide) (hwf := fun _ => rfl) (by decide) (ci := 0) rfl rfl rfl rfl hl.1 rfl (Nat.le_of_ble_eq_true rfl) dX0_setMachines_74 ⟨Nat.zero_le _, Nat.zero_le _⟩ (fun u H locs hr74 hP hD hS => ?_)
        refine lv_iload_n hx hb dX0_setMachines_77 rfl (lv_at hl 1 rfl) ?_
        exact hret _ _ 78 ls _ (()) hP hD hS (rfl) dX0_setMachines_78
      · refine lv_iload_n hx hb dX0_setMachines_35 rfl (lv_at hl 3 rfl) ?_
        refine lv_istore (lv' := [(4, .int (iI ((w : Int)))), (3, .int (iI ((i : Int)))), (2, .int (iI ((mm : Int)))), (0, .ref (ad 0)), (1, .int (iI ((w : Int))))]) hx hb dX0_setMachines_36 hl (by decide) rfl (fun ls hl => ?_)
        have L38 : ∀ (fu : Nat) (c0 : Nat) (wtimes38 : Nat → Int) (x4_38 : Int), (c0 ≤ 5 - w) → (wtimes38 = tzr tT w i c0) → (x4_38 = (w : Int) + (c0 : Int)) → 5 - w - c0 < fu → ∀ (H : Heap) (locs : List Loc), va_P D vwCl (xw ad cI cZ nn mm wtimes38 tB tE tL oO oR oQ zS zM zN oJ) H → va_D A (xw ad cI cZ nn mm wtimes38 tB tE tL oO oR oQ zS zM zN oJ) → va_S A s.heap H locs → ∀ ls : Array Slot, lv_has ls 5 [(4, .int (iI (x4_38))), (3, .int (iI ((i : Int)))), (2, .int (iI ((mm : Int)))), (0, .ref (ad 0)), (1, .int (iI ((w : Int))))] → W p l e (rmx 1 21) s m args below meth c H locs 0 0 Q (F0 m 38 ls []) := by
          intro fu
          induction fu with
          | zero =>
            intro c0 wtimes38 x4_38 hc hq0 hq1 hfu
            exact absurd hfu (Nat.not_lt_zero _)
          | succ fu ih =>
            intro c0 wtimes38 x4_38 hc hq0 hq1 hfu H locs hP hD hS ls hl
            subst hq0
            subst hq1
            have ih38 := ih
            refine lv_iload hx hb dX0_setMachines_38 (lv_at hl 0 rfl) ?_
            refine lv_iconst (v := iI 5) hx hb dX0_setMachines_40 rfl ?_
            refine w_icmp_ge (tgt := 62) hx hb dX0_setMachines_41 (by decide) ⟨by omega, by omega⟩ ⟨by omega, by omega⟩ (fun c41 => ?_) (fun c41 => ?_)
            · obtain rfl : c0 = 5 - w := by omega
              refine lv_iinc (v := iI ((i : Int) + 1)) (lv' := [(3, .int (iI ((i : Int) + 1))), (4, .int (iI ((w : Int) + (((5 - w) : Nat) : Int)))), (2, .int (iI ((mm : Int)))), (0, .ref (ad 0)), (1, .int (iI ((w : Int))))]) hx hb dX0_setMachines_62 hl (k := 1) rfl (iI_inc (by omega)) (by decide) rfl (fun ls hl => ?_)
              refine lv_goto (tgt := 27) hx hb dX0_setMachines_65 (by decide) ?_
              exact ih27 (i + 1) (tzr tT w i (5 - w)) ((i : Int) + 1) (by omega) (tzr_n (by omega)) (by omega) (by omega) _ _ hP hD hS ls (lv_sub hl [0, 2, 3, 4] rfl)
            · refine lv_aload_n hx hb dX0_setMachines_44 rfl (lv_at hl 3 rfl) ?_
              refine va_get (D := D) (ci := 0) (C := RX0) (T := TX0) (N := 13) hx hb hts inW hown hK hP 0 rfl rfl 2 (by decide) (hts (.fieldLink RX0 16 "Flowforge" "times" "[I") (List.mem_of_getElem? (i := 5) rfl)) (fun _ h9 => h9) rfl dX0_setMachines_45 ?_
              refine lv_iload_n hx hb dX0_setMachines_48 rfl (lv_at hl 1 rfl) ?_
              refine lv_iload hx hb dX0_setMachines_49 (lv_at hl 0 rfl) ?_
              refine w_pS (As := [.int (iI ((i : Int))), .int (iI ((w : Int) + (c0 : Int)))]) (rest := [.ref (ad 1)]) ⟨hx, hb, hml, hown, hts⟩ hK hP (mX0_cell  ) (va_cwS 2 hts gX0_setMachines_X0_cell rfl rfl rfl (by decide +kernel) ⟨Nat.le_of_ble_eq_true rfl, Nat.le_of_ble_eq_true rfl⟩) rfl hl.1 rfl (Nat.le_of_ble_eq_true rfl) dX0_setMachines_51 ⟨Nat.zero_le _, Nat.zero_le _⟩ (fun r51 hr51 => ?_)
              refine w_top (v := iI (5 * (i : Int) + (w : Int) + (c0 : Int))) (hr51.trans (congrArg iI (by omega))) ?_
              refine lv_iconst (v := iI 0) hx hb dX0_setMachines_54 rfl ?_
              refine w_iast (g := tI (tzr tT w i (c0 + 1))) (ws' := xw ad cI cZ nn mm (tzr tT w i (c0 + 1)) tB tE tL oO oR oQ zS zM zN oJ) hx hb hK hP hD hS 1 0 rfl rfl (5 * i + (w + c0)) (by omega) (by omega) (by decide) (hg := (tI_up.trans (congrArg tI (tzr_s (by omega))))) (hw := rfl) (hd := dX0_setMachines_55) (kk := fun H locs hP hD hS => ?_)
              refine lv_iinc (v := iI ((w : Int) + (c0 : Int) + 1)) (lv' := [(4, .int (iI ((w : Int) + (c0 : Int) + 1))), (3, .int (iI ((i : Int)))), (2, .int (iI ((mm : Int)))), (0, .ref (ad 0)), (1, .int (iI ((w : Int))))]) hx hb dX0_setMachines_56 hl (k := 0) rfl (iI_inc (by omega)) (by decide) rfl (fun ls hl => ?_)
              refine lv_goto (tgt := 38) hx hb dX0_setMachines_59 (by decide) ?_
              exact ih38 (c0 + 1) (tzr tT w i (c0 + 1)) ((w : Int) + (c0 : Int) + 1) (by omega) (rfl) (by omega) (by omega) _ _ hP hD hS ls (lv_sub hl [0, 1, 2, 3, 4] rfl)
        exact L38 (5 - w - 0 + 1) 0 (tzr tT w i 0) ((w : Int)) (by omega) (rfl) (by omega) (Nat.lt_succ_self _) _ _ hP hD hS ls (lv_sub hl [0, 1, 2, 3, 4] rfl)
  exact L27 (nn - 0 + 1) 0 tT (0) (by omega) ((tzr_0 _ _).symm) (by omega) (Nat.lt_succ_self _) _ _ hP hD hS ls (lv_sub hl [0, 1, 2, 3] rfl)
set_option maxHeartbeats 4000000 in
set_option maxRecDepth 100000 in
theorem mX0_setTime {j k : Nat} {x : Int} (hn : nn ≤ 7) (hm : 1 ≤ mm ∧ mm ≤ 5) (hj : j < nn) (hk : k < mm) (hx9 : 0 ≤ x ∧ x ≤ 99) : IM l yX0_setTime wsX0_setTime (rmx 1 21) D (tyk cI cZ cJ) (xw ad cI cZ nn mm tT tB tE tL oO oR oQ zS zM zN oJ) [.ref (ad 0), .int (iI ((j : Int))), .int (iI ((k : Int))), .int (iI (x))] (QI D (tyk cI cZ cJ) (fun u : Unit => xw ad cI cZ nn mm (va_up tT (5 * j + k) x) tB tE tL oO oR oQ (zfl zS 3) zM zN oJ) (fun y _ => y = iI (tT (5 * j + k)))) := by
  refine imI_of (cc := cX0_setTime) (maxL := 5) (by decide) rfl (Nat.le_of_ble_eq_true rfl) ?_
  intro p e s m args below meth c A Q hx hb hml hown hts hA hK hP hD hS hret ls hl
  have hown : s.vm.findClass RX0 = some m.cls := hown
  have hl : lv_has ls 5 [(0, .ref (ad 0)), (1, .int (iI ((j : Int)))), (2, .int (iI ((k : Int)))), (3, .int (iI (x)))] := hl
  have inW : ∀ w ∈ wsX00, w ∈ wsX0_setTime := by first | exact (fun w h => List.mem_cons_of_mem _ (List.mem_append_right _ h)) | exact (fun w h => List.mem_cons_of_mem _ (List.mem_append_left _ (List.mem_append_right _ h))) | exact (fun w h => List.mem_cons_of_mem _ (List.mem_append_left _ (List.mem_append_left _ (List.mem_append_right _ h)))) | decide +kernel
  refine lv_aload_n hx hb dX0_setTime_0 rfl (lv_at hl 0 rfl) ?_
  refine lv_iload_n hx hb dX0_setTime_1 rfl (lv_at hl 1 rfl) ?_
  refine w_pVv (As := [.int (iI ((j : Int)))]) (rest := []) ⟨hx, hb, hml, hown, hts⟩ hK hP (mX0_requireJob  (x := (j : Int)) hn hm.2 (by omega) (by omega)) (cwV 1 hts gX0_setTime_X0_requireJob rfl rfl rfl (by decide +kernel) ⟨Nat.le_of_ble_eq_true rfl, Nat.le_of_ble_eq_true rfl⟩) (ci := 0) rfl rfl rfl rfl hl.1 rfl (Nat.le_of_ble_eq_true rfl) dX0_setTime_2 ⟨Nat.zero_le _, Nat.zero_le _⟩ (fun hr2 => ?_)
  refine lv_aload_n hx hb dX0_setTime_5 rfl (lv_at hl 0 rfl) ?_
  refine lv_iload_n hx hb dX0_setTime_6 rfl (lv_at hl 2 rfl) ?_
  refine w_pVv (As := [.int (iI ((k : Int)))]) (rest := []) ⟨hx, hb, hml, hown, hts⟩ hK hP (mX0_requireMachine  (x := (k : Int)) hn hm.2 (by omega) (by omega)) (cwV 1 hts gX0_setTime_X0_requireMachine rfl rfl rfl (by decide +kernel) ⟨Nat.le_of_ble_eq_true rfl, Nat.le_of_ble_eq_true rfl⟩) (ci := 0) rfl rfl rfl rfl hl.1 rfl (Nat.le_of_ble_eq_true rfl) dX0_setTime_7 ⟨Nat.zero_le _, Nat.zero_le _⟩ (fun hr7 => ?_)
  refine lv_iload_n hx hb dX0_setTime_10 rfl (lv_at hl 3 rfl) ?_
  refine w_if_lt (tgt := 20) hx hb dX0_setTime_11 (by decide) ⟨by omega, by omega⟩ (fun c11 => absurd c11 (by omega)) (fun c11 => ?_)
  refine lv_iload_n hx hb dX0_setTime_14 rfl (lv_at hl 3 rfl) ?_
  refine lv_bipush (v := iI 99) hx hb dX0_setTime_15 (by decide) ?_
  refine w_icmp_le (tgt := 30) hx hb dX0_setTime_17 (by decide) ⟨by omega, by omega⟩ ⟨by omega, by omega⟩ (fun c17 => ?_) (fun c17 => absurd c17 (by omega))
  refine lv_aload_n hx hb dX0_setTime_30 rfl (lv_at hl 0 rfl) ?_
  refine va_get (D := D) (ci := 0) (C := RX0) (T := TX0) (N := 13) hx hb hts inW hown hK hP 0 rfl rfl 2 (by decide) (hts (.fieldLink RX0 16 "Flowforge" "times" "[I") (List.mem_of_getElem? (i := 3) rfl)) (fun _ h9 => h9) rfl dX0_setTime_31 ?_
  refine lv_iload_n hx hb dX0_setTime_34 rfl (lv_at hl 1 rfl) ?_
  refine lv_iload_n hx hb dX0_setTime_35 rfl (lv_at hl 2 rfl) ?_
  refine w_pS (As := [.int (iI ((j : Int))), .int (iI ((k : Int)))]) (rest := [.ref (ad 1)]) ⟨hx, hb, hml, hown, hts⟩ hK hP (mX0_cell  ) (va_cwS 2 hts gX0_setTime_X0_cell rfl rfl rfl (by decide +kernel) ⟨Nat.le_of_ble_eq_true rfl, Nat.le_of_ble_eq_true rfl⟩) rfl hl.1 rfl (Nat.le_of_ble_eq_true rfl) dX0_setTime_36 ⟨Nat.zero_le _, Nat.zero_le _⟩ (fun r36 hr36 => ?_)
  refine w_top (v := iI (5 * (j : Int) + (k : Int))) (hr36.trans (congrArg iI (by omega))) ?_
  refine w_iald (v := iI (tT (5 * j + k))) hx hb hK hP 1 0 rfl rfl (5 * j + k) (by omega) (by omega) (by decide) rfl dX0_setTime_39 ?_
  refine lv_istore (lv' := [(4, .int (iI ((tT (5 * j + k))))), (0, .ref (ad 0)), (1, .int (iI ((j : Int)))), (2, .int (iI ((k : Int)))), (3, .int (iI (x)))]) hx hb dX0_setTime_40 hl (by decide) rfl (fun ls hl => ?_)
  refine lv_aload_n hx hb dX0_setTime_42 rfl (lv_at hl 1 rfl) ?_
  refine va_get (D := D) (ci := 0) (C := RX0) (T := TX0) (N := 13) hx hb hts inW hown hK hP 0 rfl rfl 2 (by decide) (hts (.fieldLink RX0 16 "Flowforge" "times" "[I") (List.mem_of_getElem? (i := 3) rfl)) (fun _ h9 => h9) rfl dX0_setTime_43 ?_
  refine lv_iload_n hx hb dX0_setTime_46 rfl (lv_at hl 2 rfl) ?_
  refine lv_iload_n hx hb dX0_setTime_47 rfl (lv_at hl 3 rfl) ?_
  refine w_pS (As := [.int (iI ((j : Int))), .int (iI ((k : Int)))]) (rest := [.ref (ad 1)]) ⟨hx, hb, hml, hown, hts⟩ hK hP (mX0_cell  ) (va_cwS 2 hts gX0_setTime_X0_cell rfl rfl rfl (by decide +kernel) ⟨Nat.le_of_ble_eq_true rfl, Nat.le_of_ble_eq_true rfl⟩) rfl hl.1 rfl (Nat.le_of_ble_eq_true rfl) dX0_setTime_48 ⟨Nat.zero_le _, Nat.zero_le _⟩ (fun r48 hr48 => ?_)
  refine w_top (v := iI (5 * (j : Int) + (k : Int))) (hr48.trans (congrArg iI (by omega))) ?_
  refine lv_iload_n hx hb dX0_setTime_51 rfl (lv_at hl 4 rfl) ?_
  refine w_iast (g := tI (va_up tT (5 * j + k) x)) (ws' := xw ad cI cZ nn mm (va_up tT (5 * j + k) x) tB tE tL oO oR oQ zS zM zN oJ) hx hb hK hP hD hS 1 0 rfl rfl (5 * j + k) (by omega) (by omega) (by decide) (hg := tI_up) (hw := rfl) (hd := dX0_setTime_52) (kk := fun H locs hP hD hS => ?_)
  refine lv_aload_n hx hb dX0_setTime_53 rfl (lv_at hl 1 rfl) ?_
  refine w_iVv (As := []) (rest := []) (wf := fun u : Unit => xw ad cI cZ nn mm (va_up tT (5 * j + k) x) tB tE tL oO oR oQ (zfl zS 3) zM zN oJ) (wr := []) ⟨hx, hb, hml, hown, hts⟩ hK hP hD hS hA (mX0_forgetBestOrders  ) (cwV 0 hts gX0_setTime_X0_forgetBestOrders rfl rfl rfl (by decide +kernel) ⟨Nat.le_of_ble_eq_true rfl, Nat.le_of_ble_eq_true rfl⟩) [0, 1, 2, 3, 4, 5, 6, 7, 8, 9, 10, 11] [] [0, 1, 2, 3, 4, 5, 6, 7, 8, 9, 10, 11] rfl rfl (by decide) (by decide) (by decide) (hwf := fun _ => rfl) (by decide) (ci := 0) rfl rfl rfl rfl hl.1 rfl (Nat.le_of_ble_eq_true rfl) dX0_setTime_54 ⟨Nat.zero_le _, Nat.zero_le _⟩ (fun u H locs hr54 hP hD hS => ?_)
  refine lv_iload hx hb dX0_setTime_57 (lv_at hl 0 rfl) ?_
  exact hret _ _ 59 ls _ (()) hP hD hS (rfl) dX0_setTime_59
set_option maxHeartbeats 4000000 in
set_option maxRecDepth 100000 in
theorem mX0_jobs  : PM l yX0_jobs wsX0_jobs (rmx 0 0) D (tyk cI cZ cJ) (xw ad cI cZ nn mm tT tB tE tL oO oR oQ zS zM zN oJ) [.ref (ad 0)] (vp_Si (fun y => y = iI (nn : Int))) := by
  refine pmI_of (cc := cX0_jobs) (maxL := 1) (by decide) rfl (Nat.le_of_ble_eq_true rfl) ?_
  intro p e s m args below meth c Q hx hb hml hown hts hK hP hret ls hl
  have hown : s.vm.findClass RX0 = some m.cls := hown
  have hl : lv_has ls 1 [(0, .ref (ad 0))] := hl
  have inW : ∀ w ∈ wsX00, w ∈ wsX0_jobs := by first | exact (fun w h => List.mem_cons_of_mem _ (List.mem_append_right _ h)) | exact (fun w h => List.mem_cons_of_mem _ (List.mem_append_left _ (List.mem_append_right _ h))) | exact (fun w h => List.mem_cons_of_mem _ (List.mem_append_left _ (List.mem_append_left _ (List.mem_append_right _ h)))) | decide +kernel
  refine lv_aload_n hx hb dX0_jobs_0 rfl (lv_at hl 0 rfl) ?_
  refine va_get (D := D) (ci := 0) (C := RX0) (T := TX0) (N := 13) hx hb hts inW hown hK hP 0 rfl rfl 0 (by decide) (hts (.fieldLink RX0 7 "Flowforge" "jobCount" "I") (List.mem_of_getElem? (i := 1) rfl)) (fun _ h9 => h9) rfl dX0_jobs_1 ?_
  exact hret 4 ls _ (rfl) dX0_jobs_4
set_option maxHeartbeats 4000000 in
set_option maxRecDepth 100000 in
theorem mX0_machines  : PM l yX0_machines wsX0_machines (rmx 0 0) D (tyk cI cZ cJ) (xw ad cI cZ nn mm tT tB tE tL oO oR oQ zS zM zN oJ) [.ref (ad 0)] (vp_Si (fun y => y = iI (mm : Int))) := by
  refine pmI_of (cc := cX0_machines) (maxL := 1) (by decide) rfl (Nat.le_of_ble_eq_true rfl) ?_
  intro p e s m args below meth c Q hx hb hml hown hts hK hP hret ls hl
  have hown : s.vm.findClass RX0 = some m.cls := hown
  have hl : lv_has ls 1 [(0, .ref (ad 0))] := hl
  have inW : ∀ w ∈ wsX00, w ∈ wsX0_machines := by first | exact (fun w h => List.mem_cons_of_mem _ (List.mem_append_right _ h)) | exact (fun w h => List.mem_cons_of_mem _ (List.mem_append_left _ (List.mem_append_right _ h))) | exact (fun w h => List.mem_cons_of_mem _ (List.mem_append_left _ (List.mem_append_left _ (List.mem_append_right _ h)))) | decide +kernel
  refine lv_aload_n hx hb dX0_machines_0 rfl (lv_at hl 0 rfl) ?_
  refine va_get (D := D) (ci := 0) (C := RX0) (T := TX0) (N := 13) hx hb hts inW hown hK hP 0 rfl rfl 1 (by decide) (hts (.fieldLink RX0 13 "Flowforge" "machineCount" "I") (List.mem_of_getElem? (i := 1) rfl)) (fun _ h9 => h9) rfl dX0_machines_1 ?_
  exact hret 4 ls _ (rfl) dX0_machines_4
set_option maxHeartbeats 4000000 in
set_option maxRecDepth 100000 in
theorem mX0_move {j q b : Nat} (hn : nn ≤ 7) (hm : 1 ≤ mm ∧ mm ≤ 5) (hO : ∀ k, k < nn → oO k < 7) (hjn : j < nn) (hq : q < nn) (hj : j = oO q) (hw : ∀ k, k < q → oO k ≠ j) (hbn : b < nn) : IM l yX0_move wsX0_move (rmx 1 24) D (tyk cI cZ cJ) (xw ad cI cZ nn mm tT tB tE tL oO oR oQ zS zM zN oJ) [.ref (ad 0), .int (iI ((j : Int))), .int (iI ((b : Int)))] (QI D (tyk cI cZ cJ) (fun u : Unit => xw ad cI cZ nn mm tT tB tE tL (shf oO q b) oR oQ zS zM zN oJ) (fun y _ => y = iI (q : Int))) := by
  refine imI_of (cc := cX0_move) (maxL := 4) (by decide) rfl (Nat.le_of_ble_eq_true rfl) ?_
  intro p e s m args below meth c A Q hx hb hml hown hts hA hK hP hD hS hret ls hl
  have hown : s.vm.findClass RX0 = some m.cls := hown
  have hl : lv_has ls 4 [(0, .ref (ad 0)), (1, .int (iI ((j : Int)))), (2, .int (iI ((b : Int))))] := hl
  have inW : ∀ w ∈ wsX00, w ∈ wsX0_move := by first | exact (fun w h => List.mem_cons_of_mem _ (List.mem_append_right _ h)) | exact (fun w h => List.mem_cons_of_mem _ (List.mem_append_left _ (List.mem_append_right _ h))) | exact (fun w h => List.mem_cons_of_mem _ (List.mem_append_left _ (List.mem_append_left _ (List.mem_append_right _ h)))) | decide +kernel
  refine lv_aload_n hx hb dX0_move_0 rfl (lv_at hl 0 rfl) ?_
  refine lv_iload_n hx hb dX0_move_1 rfl (lv_at hl 1 rfl) ?_
  refine w_pVv (As := [.int (iI ((j : Int)))]) (rest := []) ⟨hx, hb, hml, hown, hts⟩ hK hP (mX0_requireJob  (x := (j : Int)) hn hm.2 (by omega) (by omega)) (cwV 1 hts gX0_move_X0_requireJob rfl rfl rfl (by decide +kernel) ⟨Nat.le_of_ble_eq_true rfl, Nat.le_of_ble_eq_true rfl⟩) (ci := 0) rfl rfl rfl rfl hl.1 rfl (Nat.le_of_ble_eq_true rfl) dX0_move_2 ⟨Nat.zero_le _, Nat.zero_le _⟩ (fun hr2 => ?_)
  refine lv_aload_n hx hb dX0_move_5 rfl (lv_at hl 0 rfl) ?_
  refine lv_iload_n hx hb dX0_move_6 rfl (lv_at hl 2 rfl) ?_
  refine w_pVv (As := [.int (iI ((b : Int)))]) (rest := []) ⟨hx, hb, hml, hown, hts⟩ hK hP (mX0_requirePlace  (x := (b : Int)) hn hm.2 (by omega) (by omega)) (cwV 1 hts gX0_move_X0_requirePlace rfl rfl rfl (by decide +kernel) ⟨Nat.le_of_ble_eq_true rfl, Nat.le_of_ble_eq_true rfl⟩) (ci := 0) rfl rfl rfl rfl hl.1 rfl (Nat.le_of_ble_eq_true rfl) dX0_move_7 ⟨Nat.zero_le _, Nat.zero_le _⟩ (fun hr7 => ?_)
  refine lv_aload_n hx hb dX0_move_10 rfl (lv_at hl 0 rfl) ?_
  refine lv_iload_n hx hb dX0_move_11 rfl (lv_at hl 1 rfl) ?_
  refine w_pV (As := [.int (iI ((j : Int)))]) (rest := []) ⟨hx, hb, hml, hown, hts⟩ hK hP (mX0_placeOf  (q := q) hn hq hj hw hO) (cwV 1 hts gX0_move_X0_placeOf rfl rfl rfl (by decide +kernel) ⟨Nat.le_of_ble_eq_true rfl, Nat.le_of_ble_eq_true rfl⟩) (ci := 0) rfl rfl rfl rfl hl.1 rfl (Nat.le_of_ble_eq_true rfl) dX0_move_12 ⟨Nat.zero_le _, Nat.zero_le _⟩ (fun r12 hr12 => ?_)
  refine w_top (v := iI ((q : Int))) (hr12) ?_
  refine lv_istore_n (lv' := [(3, .int (iI ((q : Int)))), (0, .ref (ad 0)), (1, .int (iI ((j : Int)))), (2, .int (iI ((b : Int))))]) hx hb dX0_move_15 rfl hl (by decide) rfl (fun ls hl => ?_)
  refine lv_aload_n hx hb dX0_move_16 rfl (lv_at hl 1 rfl) ?_
  refine va_get (D := D) (ci := 0) (C := RX0) (T := TX0) (N := 13) hx hb hts inW hown hK hP 0 rfl rfl 6 (by decide) (hts (.fieldLink RX0 29 "Flowforge" "order" "[I") (List.mem_of_getElem? (i := 1) rfl)) (fun _ h9 => h9) rfl dX0_move_17 ?_
  refine lv_iload_n hx hb dX0_move_20 rfl (lv_at hl 0 rfl) ?_
  refine lv_iload_n hx hb dX0_move_21 rfl (lv_at hl 3 rfl) ?_
  refine w_iSv (As := [.ref (ad 5), .int (iI ((q : Int))), .int (iI ((b : Int)))]) (rest := []) (wf := fun u : Unit => xw ad cI cZ nn mm tT tB tE tL (shf oO q b) oR oQ zS zM zN oJ) (wr := (xw ad cI cZ nn mm tT tB tE tL oO oR oQ zS zM zN oJ).eraseIdx 5) ⟨hx, hb, hml, hown, hts⟩ hK hP hD hS hA (mX0_shift  (by omega) (by omega)) (va_cwS 3 hts gX0_move_X0_shift rfl rfl rfl (by decide +kernel) ⟨Nat.le_of_ble_eq_true rfl, Nat.le_of_ble_eq_true rfl⟩) [5] [0, 1, 2, 3, 4, 6, 7, 8, 9, 10, 11] [0, 1, 2, 3, 4, 11, 5, 6, 7, 8, 9, 10] rfl rfl (by decide) (by decide) (by decide) (hwf := fun _ => rfl) (by decide) rfl hl.1 rfl (Nat.le_of_ble_eq_true rfl) dX0_move_22 ⟨Nat.zero_le _, Nat.zero_le _⟩ (fun u H locs hr22 hP hD hS => ?_)
  refine lv_iload_n hx hb dX0_move_25 rfl (lv_at hl 0 rfl) ?_
  exact hret _ _ 26 ls _ (()) hP hD hS (rfl) dX0_move_26
set_option maxHeartbeats 4000000 in
set_option maxRecDepth 100000 in
theorem mX0_orderByRule (hT : ∀ k, 0 ≤ tT k ∧ tT k ≤ 99) (hn : nn ≤ 7) (h2 : mm = 2) : IM l yX0_orderByRule wsX0_orderByRule (rmx 5 117) D (tyk cI cZ cJ) (xw ad cI cZ nn mm tT tB tE tL oO oR oQ zS zM zN oJ) [.ref (ad 0)] (QI D (tyk cI cZ cJ) (fun u : (Nat → Int) × (Nat → Int) => xw ad cI cZ nn mm tT u.1 u.2 tL (srt (gbr tT 0 1) oO nn) oR oQ zS zM zN oJ) (fun y u => y = iI (mk 0 mm tT (srt (gbr tT 0 1) oO nn) nn))) := by
  refine imI_of (cc := cX0_orderByRule) (maxL := 1) (by decide) rfl (Nat.le_of_ble_eq_true rfl) ?_
  intro p e s m args below meth c A Q hx hb hml hown hts hA hK hP hD hS hret ls hl
  have hown : s.vm.findClass RX0 = some m.cls := hown
  have hl : lv_has ls 1 [(0, .ref (ad 0))] := hl
  have inW : ∀ w ∈ wsX00, w ∈ wsX0_orderByRule := by first | exact (fun w h => List.mem_cons_of_mem _ (List.mem_append_right _ h)) | exact (fun w h => List.mem_cons_of_mem _ (List.mem_append_left _ (List.mem_append_right _ h))) | exact (fun w h => List.mem_cons_of_mem _ (List.mem_append_left _ (List.mem_append_left _ (List.mem_append_right _ h)))) | decide +kernel
  have hm : 1 ≤ mm ∧ mm ≤ 5 := by omega
  have hO : ∀ k, k < nn → srt (gbr tT 0 1) oO nn k < 7 := fun k hk => Nat.lt_of_lt_of_le (srt_lt hk) hn
  refine lv_aload_n hx hb dX0_orderByRule_0 rfl (lv_at hl 0 rfl) ?_
  refine va_get (D := D) (ci := 0) (C := RX0) (T := TX0) (N := 13) hx hb hts inW hown hK hP 0 rfl rfl 1 (by decide) (hts (.fieldLink RX0 13 "Flowforge" "machineCount" "I") (List.mem_of_getElem? (i := 3) rfl)) (fun _ h9 => h9) rfl dX0_orderByRule_1 ?_
  refine lv_iconst (v := iI 2) hx hb dX0_orderByRule_4 rfl ?_
  refine w_icmp_eq (tgt := 18) hx hb dX0_orderByRule_5 (by decide) ⟨by omega, by omega⟩ ⟨by omega, by omega⟩ (fun c5 => ?_) (fun c5 => absurd c5 (by omega))
  refine lv_aload_n hx hb dX0_orderByRule_18 rfl (lv_at hl 0 rfl) ?_
  refine lv_aload_n hx hb dX0_orderByRule_19 rfl (lv_at hl 0 rfl) ?_
  refine va_get (D := D) (ci := 0) (C := RX0) (T := TX0) (N := 13) hx hb hts inW hown hK hP 0 rfl rfl 6 (by decide) (hts (.fieldLink RX0 29 "Flowforge" "order" "[I") (List.mem_of_getElem? (i := 4) rfl)) (fun _ h9 => h9) rfl dX0_orderByRule_20 ?_
  refine lv_iconst (v := iI 0) hx hb dX0_orderByRule_23 rfl ?_
  refine lv_iconst (v := iI 1) hx hb dX0_orderByRule_24 rfl ?_
  refine w_iVv (As := [.ref (ad 5), .int (iI 0), .int (iI 1)]) (rest := []) (wf := fun u : Unit => xw ad cI cZ nn mm tT tB tE tL (srt (gbr tT 0 1) oO nn) oR oQ zS zM zN oJ) (wr := []) ⟨hx, hb, hml, hown, hts⟩ hK hP hD hS hA (mX0_fillByRule_o (a := 0) (b := 1) hT hn (by omega) (by omega)) (cwV 3 hts gX0_orderByRule_X0_fillByRule rfl rfl rfl (by decide +kernel) ⟨Nat.le_of_ble_eq_true rfl, Nat.le_of_ble_eq_true rfl⟩) [0, 1, 2, 3, 4, 5, 6, 7, 8, 9, 10, 11] [] [0, 1, 2, 3, 4, 5, 6, 7, 8, 9, 10, 11] rfl rfl (by decide) (by decide) (by decide) (hwf := fun _ => rfl) (by decide) (ci := 0) rfl rfl rfl rfl hl.1 rfl (Nat.le_of_ble_eq_true rfl) dX0_orderByRule_25 ⟨Nat.zero_le _, Nat.zero_le _⟩ (fun u H locs hr25 hP hD hS => ?_)
  refine lv_aload_n hx hb dX0_orderByRule_28 rfl (lv_at hl 0 rfl) ?_
  refine lv_iconst (v := iI 0) hx hb dX0_orderByRule_29 rfl ?_
  refine w_iV (As := [.int (iI 0)]) (rest := []) (wf := fun u : (Nat → Int) × (Nat → Int) => xw ad cI cZ nn mm tT u.1 u.2 tL (srt (gbr tT 0 1) oO nn) oR oQ zS zM zN oJ) (wr := []) ⟨hx, hb, hml, hown, hts⟩ hK hP hD hS hA (mX0_scheduleOrder (v := 0) hT hn hm (by omega) hO) (cwV 1 hts gX0_orderByRule_X0_scheduleOrder rfl rfl rfl (by decide +kernel) ⟨Nat.le_of_ble_eq_true rfl, Nat.le_of_ble_eq_true rfl⟩) [0, 1, 2, 3, 4, 5, 6, 7, 8, 9, 10, 11] [] [0, 1, 2, 3, 4, 5, 6, 7, 8, 9, 10, 11] rfl rfl (by decide) (by decide) (by decide) (hwf := fun _ => rfl) (by decide) (ci := 0) rfl rfl rfl rfl hl.1 rfl (Nat.le_of_ble_eq_true rfl) dX0_orderByRule_30 ⟨Nat.zero_le _, Nat.zero_le _⟩ (fun r30 u H locs hr30 hP hD hS => ?_)
  obtain ⟨uB, uE⟩ := u
  obtain ⟨hq30, hR⟩ := hr30
  have hP : va_P D vwCl (xw ad cI cZ nn mm tT uB uE tL (srt (gbr tT 0 1) oO nn) oR oQ zS zM zN oJ) H := hP
  have hD : va_D A (xw ad cI cZ nn mm tT uB uE tL (srt (gbr tT 0 1) oO nn) oR oQ zS zM zN oJ) := hD
  refine w_top (v := iI ((mk 0 mm tT (srt (gbr tT 0 1) oO nn) nn))) (hq30) ?_
  exact hret _ _ 33 ls _ ((uB, uE)) hP hD hS (rfl) dX0_orderByRule_33
set_option maxHeartbeats 4000000 in
set_option maxRecDepth 100000 in
theorem mX0_makespan {v : Nat} (hT : ∀ k, 0 ≤ tT k ∧ tT k ≤ 99) (hn : nn ≤ 7) (hm : 1 ≤ mm ∧ mm ≤ 5) (hv : v ≤ 2) (hO : ∀ k, k < nn → oO k < 7) : IM l yX0_makespan wsX0_makespan (rmx 5 117) D (tyk cI cZ cJ) (xw ad cI cZ nn mm tT tB tE tL oO oR oQ zS zM zN oJ) [.ref (ad 0), .int (iI ((v : Int)))] (QI D (tyk cI cZ cJ) (fun u : (Nat → Int) × (Nat → Int) => xw ad cI cZ nn mm tT u.1 u.2 tL oO oR oQ zS zM zN oJ) (fun y u => y = iI (mk v mm tT oO nn))) := by
  refine imI_of (cc := cX0_makespan) (maxL := 2) (by decide) rfl (Nat.le_of_ble_eq_true rfl) ?_
  intro p e s m args below meth c A Q hx hb hml hown hts hA hK hP hD hS hret ls hl
  have hown : s.vm.findClass RX0 = some m.cls := hown
  have hl : lv_has ls 2 [(0, .ref (ad 0)), (1, .int (iI ((v : Int))))] := hl
  refine lv_iload_n hx hb dX0_makespan_0 rfl (lv_at hl 1 rfl) ?_
  refine w_pSv (As := [.int (iI ((v : Int)))]) (rest := []) ⟨hx, hb, hml, hown, hts⟩ hK hP (mX0_requireVariant  (x := (v : Int)) (by omega) (by omega)) (va_cwS 1 hts gX0_makespan_X0_requireVariant rfl rfl rfl (by decide +kernel) ⟨Nat.le_of_ble_eq_true rfl, Nat.le_of_ble_eq_true rfl⟩) rfl hl.1 rfl (Nat.le_of_ble_eq_true rfl) dX0_makespan_1 ⟨Nat.zero_le _, Nat.zero_le _⟩ (fun hr1 => ?_)
  refine lv_aload_n hx hb dX0_makespan_4 rfl (lv_at hl 0 rfl) ?_
  refine lv_iload_n hx hb dX0_makespan_5 rfl (lv_at hl 1 rfl) ?_
  refine w_iV (As := [.int (iI ((v : Int)))]) (rest := []) (wf := fun u : (Nat → Int) × (Nat → Int) => xw ad cI cZ nn mm tT u.1 u.2 tL oO oR oQ zS zM zN oJ) (wr := []) ⟨hx, hb, hml, hown, hts⟩ hK hP hD hS hA (mX0_scheduleOrder  hT hn hm hv hO) (cwV 1 hts gX0_makespan_X0_scheduleOrder rfl rfl rfl (by decide +kernel) ⟨Nat.le_of_ble_eq_true rfl, Nat.le_of_ble_eq_true rfl⟩) [0, 1, 2, 3, 4, 5, 6, 7, 8, 9, 10, 11] [] [0, 1, 2, 3, 4, 5, 6, 7, 8, 9, 10, 11] rfl rfl (by decide) (by decide) (by decide) (hwf := fun _ => rfl) (by decide) (ci := 0) rfl rfl rfl rfl hl.1 rfl (Nat.le_of_ble_eq_true rfl) dX0_makespan_6 ⟨Nat.zero_le _, Nat.zero_le _⟩ (fun r6 u H locs hr6 hP hD hS => ?_)
  obtain ⟨uB, uE⟩ := u
  obtain ⟨hq6, hR⟩ := hr6
  have hP : va_P D vwCl (xw ad cI cZ nn mm tT uB uE tL oO oR oQ zS zM zN oJ) H := hP
  have hD : va_D A (xw ad cI cZ nn mm tT uB uE tL oO oR oQ zS zM zN oJ) := hD
  refine w_top (v := iI ((mk v mm tT oO nn))) (hq6) ?_
  exact hret _ _ 9 ls _ ((uB, uE)) hP hD hS (rfl) dX0_makespan_9
set_option maxHeartbeats 4000000 in
set_option maxRecDepth 100000 in
theorem mX0_machineBound {k : Nat} (hT : ∀ k, 0 ≤ tT k ∧ tT k ≤ 99) (hn : nn ≤ 7) (hm : 1 ≤ mm ∧ mm ≤ 5) (hk : k < mm) : PM l yX0_machineBound wsX0_machineBound (rmx 4 92) D (tyk cI cZ cJ) (xw ad cI cZ nn mm tT tB tE tL oO oR oQ zS zM zN oJ) [.ref (ad 0), .int (iI ((k : Int)))] (vp_Si (fun y => y = iI (ldC tT k nn + lsX tT 0 k (nn - 1) + lsX tT (k + 1) mm (nn - 1)))) := by
  refine pmI_of (cc := cX0_machineBound) (maxL := 2) (by decide) rfl (Nat.le_of_ble_eq_true rfl) ?_
  intro p e s m args below meth c Q hx hb hml hown hts hK hP hret ls hl
  have hown : s.vm.findClass RX0 = some m.cls := hown
  have hl : lv_has ls 2 [(0, .ref (ad 0)), (1, .int (iI ((k : Int))))] := hl
  have inW : ∀ w ∈ wsX00, w ∈ wsX0_machineBound := by first | exact (fun w h => List.mem_cons_of_mem _ (List.mem_append_right _ h)) | exact (fun w h => List.mem_cons_of_mem _ (List.mem_append_left _ (List.mem_append_right _ h))) | exact (fun w h => List.mem_cons_of_mem _ (List.mem_append_left _ (List.mem_append_left _ (List.mem_append_right _ h)))) | decide +kernel
  refine lv_aload_n hx hb dX0_machineBound_0 rfl (lv_at hl 0 rfl) ?_
  refine lv_iload_n hx hb dX0_machineBound_1 rfl (lv_at hl 1 rfl) ?_
  refine w_pVv (As := [.int (iI ((k : Int)))]) (rest := []) ⟨hx, hb, hml, hown, hts⟩ hK hP (mX0_requireMachine  (x := (k : Int)) hn hm.2 (by omega) (by omega)) (cwV 1 hts gX0_machineBound_X0_requireMachine rfl rfl rfl (by decide +kernel) ⟨Nat.le_of_ble_eq_true rfl, Nat.le_of_ble_eq_true rfl⟩) (ci := 0) rfl rfl rfl rfl hl.1 rfl (Nat.le_of_ble_eq_true rfl) dX0_machineBound_2 ⟨Nat.zero_le _, Nat.zero_le _⟩ (fun hr2 => ?_)
  refine lv_aload_n hx hb dX0_machineBound_5 rfl (lv_at hl 0 rfl) ?_
  refine lv_iload_n hx hb dX0_machineBound_6 rfl (lv_at hl 1 rfl) ?_
  refine w_pV (As := [.int (iI ((k : Int)))]) (rest := []) ⟨hx, hb, hml, hown, hts⟩ hK hP (mX0_loadOf  hT hn (by omega)) (cwV 1 hts gX0_machineBound_X0_loadOf rfl rfl rfl (by decide +kernel) ⟨Nat.le_of_ble_eq_true rfl, Nat.le_of_ble_eq_true rfl⟩) (ci := 0) rfl rfl rfl rfl hl.1 rfl (Nat.le_of_ble_eq_true rfl) dX0_machineBound_7 ⟨Nat.zero_le _, Nat.zero_le _⟩ (fun r7 hr7 => ?_)
  refine w_top (v := iI ((ldC tT k nn))) (hr7) ?_
  refine lv_aload_n hx hb dX0_machineBound_10 rfl (lv_at hl 0 rfl) ?_
  refine lv_iconst (v := iI 0) hx hb dX0_machineBound_11 rfl ?_
  refine lv_iload_n hx hb dX0_machineBound_12 rfl (lv_at hl 1 rfl) ?_
  refine w_pV (As := [.int (iI 0), .int (iI ((k : Int)))]) (rest := [.int (iI ((ldC tT k nn)))]) ⟨hx, hb, hml, hown, hts⟩ hK hP (mX0_leastSum  (fr := 0) (to := k) hT hn (by omega) (by omega)) (cwV 2 hts gX0_machineBound_X0_leastSum rfl rfl rfl (by decide +kernel) ⟨Nat.le_of_ble_eq_true rfl, Nat.le_of_ble_eq_true rfl⟩) (ci := 0) rfl rfl rfl rfl hl.1 rfl (Nat.le_of_ble_eq_true rfl) dX0_machineBound_13 ⟨Nat.zero_le _, Nat.zero_le _⟩ (fun r13 hr13 => ?_)
  refine w_top (v := iI ((lsX tT 0 k (nn - 1)))) (hr13) ?_
  refine w_iadd (z := (ldC tT k nn) + (lsX tT 0 k (nn - 1))) hx hb dX0_machineBound_16 (by omega) ?_
  refine lv_aload_n hx hb dX0_machineBound_17 rfl (lv_at hl 0 rfl) ?_
  refine lv_iload_n hx hb dX0_machineBound_18 rfl (lv_at hl 1 rfl) ?_
  refine lv_iconst (v := iI 1) hx hb dX0_machineBound_19 rfl ?_
  refine w_iadd (z := (k : Int) + 1) hx hb dX0_machineBound_20 (by omega) ?_
  refine lv_aload_n hx hb dX0_machineBound_21 rfl (lv_at hl 0 rfl) ?_
  refine va_get (D := D) (ci := 0) (C := RX0) (T := TX0) (N := 13) hx hb hts inW hown hK hP 0 rfl rfl 1 (by decide) (hts (.fieldLink RX0 13 "Flowforge" "machineCount" "I") (List.mem_of_getElem? (i := 1) rfl)) (fun _ h9 => h9) rfl dX0_machineBound_22 ?_
  refine w_pV (As := [.int (iI ((((k + 1) : Nat) : Int))), .int (iI ((mm : Int)))]) (rest := [.int (iI ((ldC tT k nn) + (lsX tT 0 k (nn - 1))))]) ⟨hx, hb, hml, hown, hts⟩ hK hP (mX0_leastSum  (fr := k + 1) (to := mm) hT hn (by omega) hm.2) (cwV 2 hts gX0_machineBound_X0_leastSum rfl rfl rfl (by decide +kernel) ⟨Nat.le_of_ble_eq_true rfl, Nat.le_of_ble_eq_true rfl⟩) (ci := 0) rfl rfl rfl rfl hl.1 (by rw [show (((k : Int) + 1) : Int) = (((k + 1) : Nat) : Int) by omega]; try rfl) (Nat.le_of_ble_eq_true rfl) dX0_machineBound_25 ⟨Nat.zero_le _, Nat.zero_le _⟩ (fun r25 hr25 => ?_)
  refine w_top (v := iI ((lsX tT (k + 1) mm (nn - 1)))) (hr25) ?_
  refine w_iadd (z := (ldC tT k nn) + (lsX tT 0 k (nn - 1)) + (lsX tT (k + 1) mm (nn - 1))) hx hb dX0_machineBound_28 (by omega) ?_
  exact hret 29 ls _ (rfl) dX0_machineBound_29
set_option maxHeartbeats 4000000 in
set_option maxRecDepth 100000 in
theorem mX0_pairBound {a b : Nat} (hT : ∀ k, 0 ≤ tT k ∧ tT k ≤ 99) (hn : nn ≤ 7) (hm : 1 ≤ mm ∧ mm ≤ 5) (hab : a < b) (hbm : b < mm) : IM l yX0_pairBound wsX0_pairBound (rmx 5 119) D (tyk cI cZ cJ) (xw ad cI cZ nn mm tT tB tE tL oO oR oQ zS zM zN oJ) [.ref (ad 0), .int (iI ((a : Int))), .int (iI ((b : Int)))] (QI D (tyk cI cZ cJ) (fun u : Unit => xw ad cI cZ nn mm tT tB tE tL oO (srt (gbr tT a b) oR nn) oQ zS zM zN oJ) (fun y _ => y = iI (opS tT (srt (gbr tT a b) oR nn) a b nn + lsX tT 0 a (nn - 1) + lsX tT (b + 1) mm (nn - 1)))) := by
  refine imI_of (cc := cX0_pairBound) (maxL := 3) (by decide) rfl (Nat.le_of_ble_eq_true rfl) ?_
  intro p e s m args below meth c A Q hx hb hml hown hts hA hK hP hD hS hret ls hl
  have hown : s.vm.findClass RX0 = some m.cls := hown
  have hl : lv_has ls 3 [(0, .ref (ad 0)), (1, .int (iI ((a : Int)))), (2, .int (iI ((b : Int))))] := hl
  have inW : ∀ w ∈ wsX00, w ∈ wsX0_pairBound := by first | exact (fun w h => List.mem_cons_of_mem _ (List.mem_append_right _ h)) | exact (fun w h => List.mem_cons_of_mem _ (List.mem_append_left _ (List.mem_append_right _ h))) | exact (fun w h => List.mem_cons_of_mem _ (List.mem_append_left _ (List.mem_append_left _ (List.mem_append_right _ h)))) | decide +kernel
  refine lv_aload_n hx hb dX0_pairBound_0 rfl (lv_at hl 0 rfl) ?_
  refine lv_iload_n hx hb dX0_pairBound_1 rfl (lv_at hl 1 rfl) ?_
  refine w_pVv (As := [.int (iI ((a : Int)))]) (rest := []) ⟨hx, hb, hml, hown, hts⟩ hK hP (mX0_requireMachine  (x := (a : Int)) hn hm.2 (by omega) (by omega)) (cwV 1 hts gX0_pairBound_X0_requireMachine rfl rfl rfl (by decide +kernel) ⟨Nat.le_of_ble_eq_true rfl, Nat.le_of_ble_eq_true rfl⟩) (ci := 0) rfl rfl rfl rfl hl.1 rfl (Nat.le_of_ble_eq_true rfl) dX0_pairBound_2 ⟨Nat.zero_le _, Nat.zero_le _⟩ (fun hr2 => ?_)
  refine lv_aload_n hx hb dX0_pairBound_5 rfl (lv_at hl 0 rfl) ?_
  refine lv_iload_n hx hb dX0_pairBound_6 rfl (lv_at hl 2 rfl) ?_
  refine w_pVv (As := [.int (iI ((b : Int)))]) (rest := []) ⟨hx, hb, hml, hown, hts⟩ hK hP (mX0_requireMachine  (x := (b : Int)) hn hm.2 (by omega) (by omega)) (cwV 1 hts gX0_pairBound_X0_requireMachine rfl rfl rfl (by decide +kernel) ⟨Nat.le_of_ble_eq_true rfl, Nat.le_of_ble_eq_true rfl⟩) (ci := 0) rfl rfl rfl rfl hl.1 rfl (Nat.le_of_ble_eq_true rfl) dX0_pairBound_7 ⟨Nat.zero_le _, Nat.zero_le _⟩ (fun hr7 => ?_)
  refine lv_iload_n hx hb dX0_pairBound_10 rfl (lv_at hl 1 rfl) ?_
  refine lv_iload_n hx hb dX0_pairBound_11 rfl (lv_at hl 2 rfl) ?_
  refine w_icmp_lt (tgt := 25) hx hb dX0_pairBound_12 (by decide) ⟨by omega, by omega⟩ ⟨by omega, by omega⟩ (fun c12 => ?_) (fun c12 => absurd c12 (by omega))
  refine lv_aload_n hx hb dX0_pairBound_25 rfl (lv_at hl 0 rfl) ?_
  refine lv_iload_n hx hb dX0_pairBound_26 rfl (lv_at hl 1 rfl) ?_
  refine lv_iload_n hx hb dX0_pairBound_27 rfl (lv_at hl 2 rfl) ?_
  refine w_iV (As := [.int (iI ((a : Int))), .int (iI ((b : Int)))]) (rest := []) (wf := fun u : Unit => xw ad cI cZ nn mm tT tB tE tL oO (srt (gbr tT a b) oR nn) oQ zS zM zN oJ) (wr := []) ⟨hx, hb, hml, hown, hts⟩ hK hP hD hS hA (mX0_leastOfPair  hT hn (by omega) (by omega)) (cwV 2 hts gX0_pairBound_X0_leastOfPair rfl rfl rfl (by decide +kernel) ⟨Nat.le_of_ble_eq_true rfl, Nat.le_of_ble_eq_true rfl⟩) [0, 1, 2, 3, 4, 5, 6, 7, 8, 9, 10, 11] [] [0, 1, 2, 3, 4, 5, 6, 7, 8, 9, 10, 11] rfl rfl (by decide) (by decide) (by decide) (hwf := fun _ => rfl) (by decide) (ci := 0) rfl rfl rfl rfl hl.1 rfl (Nat.le_of_ble_eq_true rfl) dX0_pairBound_28 ⟨Nat.zero_le _, Nat.zero_le _⟩ (fun r28 u H locs hr28 hP hD hS => ?_)
  refine w_top (v := iI ((opS tT (srt (gbr tT a b) oR nn) a b nn))) (hr28) ?_
  refine lv_aload_n hx hb dX0_pairBound_31 rfl (lv_at hl 0 rfl) ?_
  refine lv_iconst (v := iI 0) hx hb dX0_pairBound_32 rfl ?_
  refine lv_iload_n hx hb dX0_pairBound_33 rfl (lv_at hl 1 rfl) ?_
  refine w_pV (As := [.int (iI 0), .int (iI ((a : Int)))]) (rest := [.int (iI ((opS tT (srt (gbr tT a b) oR nn) a b nn)))]) ⟨hx, hb, hml, hown, hts⟩ hK hP (mX0_leastSum  (fr := 0) (to := a) hT hn (by omega) (by omega)) (cwV 2 hts gX0_pairBound_X0_leastSum rfl rfl rfl (by decide +kernel) ⟨Nat.le_of_ble_eq_true rfl, Nat.le_of_ble_eq_true rfl⟩) (ci := 0) rfl rfl rfl rfl hl.1 rfl (Nat.le_of_ble_eq_true rfl) dX0_pairBound_34 ⟨Nat.zero_le _, Nat.zero_le _⟩ (fun r34 hr34 => ?_)
  refine w_top (v := iI ((lsX tT 0 a (nn - 1)))) (hr34) ?_
  refine w_iadd (z := (opS tT (srt (gbr tT a b) oR nn) a b nn) + (lsX tT 0 a (nn - 1))) hx hb dX0_pairBound_37 (by omega) ?_
  refine lv_aload_n hx hb dX0_pairBound_38 rfl (lv_at hl 0 rfl) ?_
  refine lv_iload_n hx hb dX0_pairBound_39 rfl (lv_at hl 2 rfl) ?_
  refine lv_iconst (v := iI 1) hx hb dX0_pairBound_40 rfl ?_
  refine w_iadd (z := (b : Int) + 1) hx hb dX0_pairBound_41 (by omega) ?_
  refine lv_aload_n hx hb dX0_pairBound_42 rfl (lv_at hl 0 rfl) ?_
  refine va_get (D := D) (ci := 0) (C := RX0) (T := TX0) (N := 13) hx hb hts inW hown hK hP 0 rfl rfl 1 (by decide) (hts (.fieldLink RX0 13 "Flowforge" "machineCount" "I") (List.mem_of_getElem? (i := 3) rfl)) (fun _ h9 => h9) rfl dX0_pairBound_43 ?_
  refine w_pV (As := [.int (iI ((((b + 1) : Nat) : Int))), .int (iI ((mm : Int)))]) (rest := [.int (iI ((opS tT (srt (gbr tT a b) oR nn) a b nn) + (lsX tT 0 a (nn - 1))))]) ⟨hx, hb, hml, hown, hts⟩ hK hP (mX0_leastSum  (fr := b + 1) (to := mm) hT hn (by omega) hm.2) (cwV 2 hts gX0_pairBound_X0_leastSum rfl rfl rfl (by decide +kernel) ⟨Nat.le_of_ble_eq_true rfl, Nat.le_of_ble_eq_true rfl⟩) (ci := 0) rfl rfl rfl rfl hl.1 (by rw [show (((b : Int) + 1) : Int) = (((b + 1) : Nat) : Int) by omega]; try rfl) (Nat.le_of_ble_eq_true rfl) dX0_pairBound_46 ⟨Nat.zero_le _, Nat.zero_le _⟩ (fun r46 hr46 => ?_)
  refine w_top (v := iI ((lsX tT (b + 1) mm (nn - 1)))) (hr46) ?_
  refine w_iadd (z := (opS tT (srt (gbr tT a b) oR nn) a b nn) + (lsX tT 0 a (nn - 1)) + (lsX tT (b + 1) mm (nn - 1))) hx hb dX0_pairBound_49 (by omega) ?_
  exact hret _ _ 50 ls _ (()) hP hD hS (rfl) dX0_pairBound_50
set_option maxHeartbeats 4000000 in
set_option maxRecDepth 100000 in
theorem mX0_best {v : Nat} (hT : ∀ k, 0 ≤ tT k ∧ tT k ≤ 99) (hn : nn ≤ 7) (hm : 1 ≤ mm ∧ mm ≤ 5) (hv : v ≤ 2) (hE : Enu nn) (hCK : CK mm tT nn zS zM zN oJ) (hMb : ∀ k, k ≤ 2 → 0 ≤ zM k ∧ zM k ≤ 1000000) : IM l yX0_best wsX0_best (rmx 5 119) D (tyk cI cZ cJ) (xw ad cI cZ nn mm tT tB tE tL oO oR oQ zS zM zN oJ) [.ref (ad 0), .int (iI ((v : Int)))] (QI D (tyk cI cZ cJ) (fun u : (Nat → Int) × (Nat → Int) × (Nat → Nat) × (Nat → Int) × (Nat → Int) × (Nat → Nat) × (Nat → Int) => xw ad cI cZ nn mm tT u.1 u.2.1 tL oO u.2.2.1 oQ u.2.2.2.2.2.2 u.2.2.2.1 u.2.2.2.2.1 u.2.2.2.2.2.1) (fun y u => y = iI (sol v mm tT nn).1 ∧ CK mm tT nn u.2.2.2.2.2.2 u.2.2.2.1 u.2.2.2.2.1 u.2.2.2.2.2.1 ∧ ∀ k, k ≤ 2 → 0 ≤ u.2.2.2.1 k ∧ u.2.2.2.1 k ≤ 1000000)) := by
  refine imI_of (cc := cX0_best) (maxL := 2) (by decide) rfl (Nat.le_of_ble_eq_true rfl) ?_
  intro p e s m args below meth c A Q hx hb hml hown hts hA hK hP hD hS hret ls hl
  have hown : s.vm.findClass RX0 = some m.cls := hown
  have hl : lv_has ls 2 [(0, .ref (ad 0)), (1, .int (iI ((v : Int))))] := hl
  have inW : ∀ w ∈ wsX00, w ∈ wsX0_best := by first | exact (fun w h => List.mem_cons_of_mem _ (List.mem_append_right _ h)) | exact (fun w h => List.mem_cons_of_mem _ (List.mem_append_left _ (List.mem_append_right _ h))) | exact (fun w h => List.mem_cons_of_mem _ (List.mem_append_left _ (List.mem_append_left _ (List.mem_append_right _ h)))) | decide +kernel
  refine lv_iload_n hx hb dX0_best_0 rfl (lv_at hl 1 rfl) ?_
  refine w_pSv (As := [.int (iI ((v : Int)))]) (rest := []) ⟨hx, hb, hml, hown, hts⟩ hK hP (mX0_requireVariant  (x := (v : Int)) (by omega) (by omega)) (va_cwS 1 hts gX0_best_X0_requireVariant rfl rfl rfl (by decide +kernel) ⟨Nat.le_of_ble_eq_true rfl, Nat.le_of_ble_eq_true rfl⟩) rfl hl.1 rfl (Nat.le_of_ble_eq_true rfl) dX0_best_1 ⟨Nat.zero_le _, Nat.zero_le _⟩ (fun hr1 => ?_)
  refine lv_aload_n hx hb dX0_best_4 rfl (lv_at hl 0 rfl) ?_
  refine lv_iload_n hx hb dX0_best_5 rfl (lv_at hl 1 rfl) ?_
  refine w_iVv (As := [.int (iI ((v : Int)))]) (rest := []) (wf := fun u : (Nat → Int) × (Nat → Int) × (Nat → Nat) × (Nat → Int) × (Nat → Int) × (Nat → Nat) × (Nat → Int) => xw ad cI cZ nn mm tT u.1 u.2.1 tL oO u.2.2.1 oQ u.2.2.2.2.2.2 u.2.2.2.1 u.2.2.2.2.1 u.2.2.2.2.2.1) (wr := []) ⟨hx, hb, hml, hown, hts⟩ hK hP hD hS hA (mX0_findBestOrder  hT hn hm hv hE hCK hMb) (cwV 1 hts gX0_best_X0_findBestOrder rfl rfl rfl (by decide +kernel) ⟨Nat.le_of_ble_eq_true rfl, Nat.le_of_ble_eq_true rfl⟩) [0, 1, 2, 3, 4, 5, 6, 7, 8, 9, 10, 11] [] [0, 1, 2, 3, 4, 5, 6, 7, 8, 9, 10, 11] rfl rfl (by decide) (by decide) (by decide) (hwf := fun _ => rfl) (by decide) (ci := 0) rfl rfl rfl rfl hl.1 rfl (Nat.le_of_ble_eq_true rfl) dX0_best_6 ⟨Nat.zero_le _, Nat.zero_le _⟩ (fun u H locs hr6 hP hD hS => ?_)
  obtain ⟨uB, uE, uR, uM, uN, uJ, uS⟩ := u
  obtain ⟨hC2, hV2, hM2⟩ := hr6
  have hP : va_P D vwCl (xw ad cI cZ nn mm tT uB uE tL oO uR oQ uS uM uN uJ) H := hP
  have hD : va_D A (xw ad cI cZ nn mm tT uB uE tL oO uR oQ uS uM uN uJ) := hD
  refine lv_aload_n hx hb dX0_best_9 rfl (lv_at hl 0 rfl) ?_
  refine va_get (D := D) (ci := 0) (C := RX0) (T := TX0) (N := 13) hx hb hts inW hown hK hP 0 rfl rfl 10 (by decide) (hts (.fieldLink RX0 42 "Flowforge" "leastMakespans" "[I") (List.mem_of_getElem? (i := 1) rfl)) (fun _ h9 => h9) rfl dX0_best_10 ?_
  refine lv_iload_n hx hb dX0_best_13 rfl (lv_at hl 1 rfl) ?_
  refine w_iald (v := iI ((sol v mm tT nn).1)) hx hb hK hP 9 0 rfl rfl (v) (by omega) (by omega) (by decide) (congrArg iI hV2.1) dX0_best_14 ?_
  exact hret _ _ 15 ls _ ((uB, uE, uR, uM, uN, uJ, uS)) hP hD hS (⟨rfl, hC2, hM2⟩) dX0_best_15
set_option maxHeartbeats 4000000 in
set_option maxRecDepth 100000 in
theorem mX0_bestAt {v q : Nat} (hT : ∀ k, 0 ≤ tT k ∧ tT k ≤ 99) (hn : nn ≤ 7) (hm : 1 ≤ mm ∧ mm ≤ 5) (hv : v ≤ 2) (hq : q < nn) (hE : Enu nn) (hCK : CK mm tT nn zS zM zN oJ) (hMb : ∀ k, k ≤ 2 → 0 ≤ zM k ∧ zM k ≤ 1000000) : IM l yX0_bestAt wsX0_bestAt (rmx 5 119) D (tyk cI cZ cJ) (xw ad cI cZ nn mm tT tB tE tL oO oR oQ zS zM zN oJ) [.ref (ad 0), .int (iI ((v : Int))), .int (iI ((q : Int)))] (QI D (tyk cI cZ cJ) (fun u : (Nat → Int) × (Nat → Int) × (Nat → Nat) × (Nat → Int) × (Nat → Int) × (Nat → Nat) × (Nat → Int) => xw ad cI cZ nn mm tT u.1 u.2.1 tL oO u.2.2.1 oQ u.2.2.2.2.2.2 u.2.2.2.1 u.2.2.2.2.1 u.2.2.2.2.2.1) (fun y u => y = iI ((solJ v mm tT nn q : Nat) : Int) ∧ CK mm tT nn u.2.2.2.2.2.2 u.2.2.2.1 u.2.2.2.2.1 u.2.2.2.2.2.1 ∧ ∀ k, k ≤ 2 → 0 ≤ u.2.2.2.1 k ∧ u.2.2.2.1 k ≤ 1000000)) := by
  refine imI_of (cc := cX0_bestAt) (maxL := 3) (by decide) rfl (Nat.le_of_ble_eq_true rfl) ?_
  intro p e s m args below meth c A Q hx hb hml hown hts hA hK hP hD hS hret ls hl
  have hown : s.vm.findClass RX0 = some m.cls := hown
  have hl : lv_has ls 3 [(0, .ref (ad 0)), (1, .int (iI ((v : Int)))), (2, .int (iI ((q : Int))))] := hl
  have inW : ∀ w ∈ wsX00, w ∈ wsX0_bestAt := by first | exact (fun w h => List.mem_cons_of_mem _ (List.mem_append_right _ h)) | exact (fun w h => List.mem_cons_of_mem _ (List.mem_append_left _ (List.mem_append_right _ h))) | exact (fun w h => List.mem_cons_of_mem _ (List.mem_append_left _ (List.mem_append_left _ (List.mem_append_right _ h)))) | decide +kernel
  refine lv_iload_n hx hb dX0_bestAt_0 rfl (lv_at hl 1 rfl) ?_
  refine w_pSv (As := [.int (iI ((v : Int)))]) (rest := []) ⟨hx, hb, hml, hown, hts⟩ hK hP (mX0_requireVariant  (x := (v : Int)) (by omega) (by omega)) (va_cwS 1 hts gX0_bestAt_X0_requireVariant rfl rfl rfl (by decide +kernel) ⟨Nat.le_of_ble_eq_true rfl, Nat.le_of_ble_eq_true rfl⟩) rfl hl.1 rfl (Nat.le_of_ble_eq_true rfl) dX0_bestAt_1 ⟨Nat.zero_le _, Nat.zero_le _⟩ (fun hr1 => ?_)
  refine lv_aload_n hx hb dX0_bestAt_4 rfl (lv_at hl 0 rfl) ?_
  refine lv_iload_n hx hb dX0_bestAt_5 rfl (lv_at hl 2 rfl) ?_
  refine w_pVv (As := [.int (iI ((q : Int)))]) (rest := []) ⟨hx, hb, hml, hown, hts⟩ hK hP (mX0_requirePlace  (x := (q : Int)) hn hm.2 (by omega) (by omega)) (cwV 1 hts gX0_bestAt_X0_requirePlace rfl rfl rfl (by decide +kernel) ⟨Nat.le_of_ble_eq_true rfl, Nat.le_of_ble_eq_true rfl⟩) (ci := 0) rfl rfl rfl rfl hl.1 rfl (Nat.le_of_ble_eq_true rfl) dX0_bestAt_6 ⟨Nat.zero_le _, Nat.zero_le _⟩ (fun hr6 => ?_)
  refine lv_aload_n hx hb dX0_bestAt_9 rfl (lv_at hl 0 rfl) ?_
  refine lv_iload_n hx hb dX0_bestAt_10 rfl (lv_at hl 1 rfl) ?_
  refine w_iVv (As := [.int (iI ((v : Int)))]) (rest := []) (wf := fun u : (Nat → Int) × (Nat → Int) × (Nat → Nat) × (Nat → Int) × (Nat → Int) × (Nat → Nat) × (Nat → Int) => xw ad cI cZ nn mm tT u.1 u.2.1 tL oO u.2.2.1 oQ u.2.2.2.2.2.2 u.2.2.2.1 u.2.2.2.2.1 u.2.2.2.2.2.1) (wr := []) ⟨hx, hb, hml, hown, hts⟩ hK hP hD hS hA (mX0_findBestOrder  hT hn hm hv hE hCK hMb) (cwV 1 hts gX0_bestAt_X0_findBestOrder rfl rfl rfl (by decide +kernel) ⟨Nat.le_of_ble_eq_true rfl, Nat.le_of_ble_eq_true rfl⟩) [0, 1, 2, 3, 4, 5, 6, 7, 8, 9, 10, 11] [] [0, 1, 2, 3, 4, 5, 6, 7, 8, 9, 10, 11] rfl rfl (by decide) (by decide) (by decide) (hwf := fun _ => rfl) (by decide) (ci := 0) rfl rfl rfl rfl hl.1 rfl (Nat.le_of_ble_eq_true rfl) dX0_bestAt_11 ⟨Nat.zero_le _, Nat.zero_le _⟩ (fun u H locs hr11 hP hD hS => ?_)
  obtain ⟨uB, uE, uR, uM, uN, uJ, uS⟩ := u
  obtain ⟨hC2, hV2, hM2⟩ := hr11
  have hP : va_P D vwCl (xw ad cI cZ nn mm tT uB uE tL oO uR oQ uS uM uN uJ) H := hP
  have hD : va_D A (xw ad cI cZ nn mm tT uB uE tL oO uR oQ uS uM uN uJ) := hD
  refine lv_aload_n hx hb dX0_bestAt_14 rfl (lv_at hl 0 rfl) ?_
  refine va_get (D := D) (ci := 0) (C := RX0) (T := TX0) (N := 13) hx hb hts inW hown hK hP 0 rfl rfl 12 (by decide) (hts (.fieldLink RX0 48 "Flowforge" "bestJobs" "[I") (List.mem_of_getElem? (i := 1) rfl)) (fun _ h9 => h9) rfl dX0_bestAt_15 ?_
  refine lv_iload_n hx hb dX0_bestAt_18 rfl (lv_at hl 1 rfl) ?_
  refine lv_bipush (v := iI 7) hx hb dX0_bestAt_19 (by decide) ?_
  refine w_imul (z := 7 * (v : Int)) hx hb dX0_bestAt_21 (by omega) ?_
  refine lv_iload_n hx hb dX0_bestAt_22 rfl (lv_at hl 2 rfl) ?_
  refine w_iadd (z := 7 * (v : Int) + (q : Int)) hx hb dX0_bestAt_23 (by omega) ?_
  refine w_iald (v := iI ((solJ v mm tT nn q : Nat) : Int)) hx hb hK hP 11 0 rfl rfl (7 * v + q) (by omega) (by omega) (by decide) (congrArg (fun q : Nat => iI (q : Int)) (hV2.2.2 q hq)) dX0_bestAt_24 ?_
  exact hret _ _ 25 ls _ ((uB, uE, uR, uM, uN, uJ, uS)) hP hD hS (⟨rfl, hC2, hM2⟩) dX0_bestAt_25
set_option maxHeartbeats 4000000 in
set_option maxRecDepth 100000 in
theorem mX0_bestOrders {v : Nat} (hT : ∀ k, 0 ≤ tT k ∧ tT k ≤ 99) (hn : nn ≤ 7) (hm : 1 ≤ mm ∧ mm ≤ 5) (hv : v ≤ 2) (hE : Enu nn) (hCK : CK mm tT nn zS zM zN oJ) (hMb : ∀ k, k ≤ 2 → 0 ≤ zM k ∧ zM k ≤ 1000000) : IM l yX0_bestOrders wsX0_bestOrders (rmx 5 119) D (tyk cI cZ cJ) (xw ad cI cZ nn mm tT tB tE tL oO oR oQ zS zM zN oJ) [.ref (ad 0), .int (iI ((v : Int)))] (QI D (tyk cI cZ cJ) (fun u : (Nat → Int) × (Nat → Int) × (Nat → Nat) × (Nat → Int) × (Nat → Int) × (Nat → Nat) × (Nat → Int) => xw ad cI cZ nn mm tT u.1 u.2.1 tL oO u.2.2.1 oQ u.2.2.2.2.2.2 u.2.2.2.1 u.2.2.2.2.1 u.2.2.2.2.2.1) (fun y u => y = iI ((sol v mm tT nn).2.1 : Int) ∧ CK mm tT nn u.2.2.2.2.2.2 u.2.2.2.1 u.2.2.2.2.1 u.2.2.2.2.2.1 ∧ ∀ k, k ≤ 2 → 0 ≤ u.2.2.2.1 k ∧ u.2.2.2.1 k ≤ 1000000)) := by
  refine imI_of (cc := cX0_bestOrders) (maxL := 2) (by decide) rfl (Nat.le_of_ble_eq_true rfl) ?_
  intro p e s m args below meth c A Q hx hb hml hown hts hA hK hP hD hS hret ls hl
  have hown : s.vm.findClass RX0 = some m.cls := hown
  have hl : lv_has ls 2 [(0, .ref (ad 0)), (1, .int (iI ((v : Int))))] := hl
  have inW : ∀ w ∈ wsX00, w ∈ wsX0_bestOrders := by first | exact (fun w h => List.mem_cons_of_mem _ (List.mem_append_right _ h)) | exact (fun w h => List.mem_cons_of_mem _ (List.mem_append_left _ (List.mem_append_right _ h))) | exact (fun w h => List.mem_cons_of_mem _ (List.mem_append_left _ (List.mem_append_left _ (List.mem_append_right _ h)))) | decide +kernel
  refine lv_iload_n hx hb dX0_bestOrders_0 rfl (lv_at hl 1 rfl) ?_
  refine w_pSv (As := [.int (iI ((v : Int)))]) (rest := []) ⟨hx, hb, hml, hown, hts⟩ hK hP (mX0_requireVariant  (x := (v : Int)) (by omega) (by omega)) (va_cwS 1 hts gX0_bestOrders_X0_requireVariant rfl rfl rfl (by decide +kernel) ⟨Nat.le_of_ble_eq_true rfl, Nat.le_of_ble_eq_true rfl⟩) rfl hl.1 rfl (Nat.le_of_ble_eq_true rfl) dX0_bestOrders_1 ⟨Nat.zero_le _, Nat.zero_le _⟩ (fun hr1 => ?_)
  refine lv_aload_n hx hb dX0_bestOrders_4 rfl (lv_at hl 0 rfl) ?_
  refine lv_iload_n hx hb dX0_bestOrders_5 rfl (lv_at hl 1 rfl) ?_
  refine w_iVv (As := [.int (iI ((v : Int)))]) (rest := []) (wf := fun u : (Nat → Int) × (Nat → Int) × (Nat → Nat) × (Nat → Int) × (Nat → Int) × (Nat → Nat) × (Nat → Int) => xw ad cI cZ nn mm tT u.1 u.2.1 tL oO u.2.2.1 oQ u.2.2.2.2.2.2 u.2.2.2.1 u.2.2.2.2.1 u.2.2.2.2.2.1) (wr := []) ⟨hx, hb, hml, hown, hts⟩ hK hP hD hS hA (mX0_findBestOrder  hT hn hm hv hE hCK hMb) (cwV 1 hts gX0_bestOrders_X0_findBestOrder rfl rfl rfl (by decide +kernel) ⟨Nat.le_of_ble_eq_true rfl, Nat.le_of_ble_eq_true rfl⟩) [0, 1, 2, 3, 4, 5, 6, 7, 8, 9, 10, 11] [] [0, 1, 2, 3, 4, 5, 6, 7, 8, 9, 10, 11] rfl rfl (by decide) (by decide) (by decide) (hwf := fun _ => rfl) (by decide) (ci := 0) rfl rfl rfl rfl hl.1 rfl (Nat.le_of_ble_eq_true rfl) dX0_bestOrders_6 ⟨Nat.zero_le _, Nat.zero_le _⟩ (fun u H locs hr6 hP hD hS => ?_)
  obtain ⟨uB, uE, uR, uM, uN, uJ, uS⟩ := u
  obtain ⟨hC2, hV2, hM2⟩ := hr6
  have hP : va_P D vwCl (xw ad cI cZ nn mm tT uB uE tL oO uR oQ uS uM uN uJ) H := hP
  have hD : va_D A (xw ad cI cZ nn mm tT uB uE tL oO uR oQ uS uM uN uJ) := hD
  refine lv_aload_n hx hb dX0_bestOrders_9 rfl (lv_at hl 0 rfl) ?_
  refine va_get (D := D) (ci := 0) (C := RX0) (T := TX0) (N := 13) hx hb hts inW hown hK hP 0 rfl rfl 11 (by decide) (hts (.fieldLink RX0 45 "Flowforge" "leastCounts" "[I") (List.mem_of_getElem? (i := 1) rfl)) (fun _ h9 => h9) rfl dX0_bestOrders_10 ?_
  refine lv_iload_n hx hb dX0_bestOrders_13 rfl (lv_at hl 1 rfl) ?_
  refine w_iald (v := iI (((sol v mm tT nn).2.1 : Int))) hx hb hK hP 10 0 rfl rfl (v) (by omega) (by omega) (by decide) (congrArg iI hV2.2.1) dX0_bestOrders_14 ?_
  exact hret _ _ 15 ls _ ((uB, uE, uR, uM, uN, uJ, uS)) hP hD hS (⟨rfl, hC2, hM2⟩) dX0_bestOrders_15
set_option maxHeartbeats 4000000 in
set_option maxRecDepth 100000 in
theorem mX0_gap (hT : ∀ k, 0 ≤ tT k ∧ tT k ≤ 99) (hn : nn ≤ 7) (hm : 1 ≤ mm ∧ mm ≤ 5) (hO : ∀ k, k < nn → oO k < 7) (hE : Enu nn) (hCK : CK mm tT nn zS zM zN oJ) (hMb : ∀ k, k ≤ 2 → 0 ≤ zM k ∧ zM k ≤ 1000000) : IM l yX0_gap wsX0_gap (rmx 5 119) D (tyk cI cZ cJ) (xw ad cI cZ nn mm tT tB tE tL oO oR oQ zS zM zN oJ) [.ref (ad 0)] (QD D (tyk cI cZ cJ) (fun u : (Nat → Int) × (Nat → Int) × (Nat → Nat) × (Nat → Int) × (Nat → Int) × (Nat → Nat) × (Nat → Int) => xw ad cI cZ nn mm tT u.1 u.2.1 tL oO u.2.2.1 oQ u.2.2.2.2.2.2 u.2.2.2.1 u.2.2.2.2.1 u.2.2.2.2.2.1) (fun y u => y = gapD (mk 0 mm tT oO nn) (sol 0 mm tT nn).1 ∧ CK mm tT nn u.2.2.2.2.2.2 u.2.2.2.1 u.2.2.2.2.1 u.2.2.2.2.2.1 ∧ ∀ k, k ≤ 2 → 0 ≤ u.2.2.2.1 k ∧ u.2.2.2.1 k ≤ 1000000)) := by
  refine imD_of (cc := cX0_gap) (maxL := 3) (by decide) rfl (Nat.le_of_ble_eq_true rfl) ?_
  intro p e s m args below meth c A Q hx hb hml hown hts hA hK hP hD hS hret ls hl
  have hown : s.vm.findClass RX0 = some m.cls := hown
  have hl : lv_has ls 3 [(0, .ref (ad 0))] := hl
  have inW : ∀ w ∈ wsX00, w ∈ wsX0_gap := by first | exact (fun w h => List.mem_cons_of_mem _ (List.mem_append_right _ h)) | exact (fun w h => List.mem_cons_of_mem _ (List.mem_append_left _ (List.mem_append_right _ h))) | exact (fun w h => List.mem_cons_of_mem _ (List.mem_append_left _ (List.mem_append_left _ (List.mem_append_right _ h)))) | decide +kernel
  refine lv_aload_n hx hb dX0_gap_0 rfl (lv_at hl 0 rfl) ?_
  refine lv_iconst (v := iI 0) hx hb dX0_gap_1 rfl ?_
  refine w_iV (As := [.int (iI 0)]) (rest := []) (wf := fun u : (Nat → Int) × (Nat → Int) => xw ad cI cZ nn mm tT u.1 u.2 tL oO oR oQ zS zM zN oJ) (wr := []) ⟨hx, hb, hml, hown, hts⟩ hK hP hD hS hA (mX0_scheduleOrder (v := 0) hT hn hm (by omega) hO) (cwV 1 hts gX0_gap_X0_scheduleOrder rfl rfl rfl (by decide +kernel) ⟨Nat.le_of_ble_eq_true rfl, Nat.le_of_ble_eq_true rfl⟩) [0, 1, 2, 3, 4, 5, 6, 7, 8, 9, 10, 11] [] [0, 1, 2, 3, 4, 5, 6, 7, 8, 9, 10, 11] rfl rfl (by decide) (by decide) (by decide) (hwf := fun _ => rfl) (by decide) (ci := 0) rfl rfl rfl rfl hl.1 rfl (Nat.le_of_ble_eq_true rfl) dX0_gap_2 ⟨Nat.zero_le _, Nat.zero_le _⟩ (fun r2 u H locs hr2 hP hD hS => ?_)
  obtain ⟨uB, uE⟩ := u
  obtain ⟨hq2, hR⟩ := hr2
  have hP : va_P D vwCl (xw ad cI cZ nn mm tT uB uE tL oO oR oQ zS zM zN oJ) H := hP
  have hD : va_D A (xw ad cI cZ nn mm tT uB uE tL oO oR oQ zS zM zN oJ) := hD
  refine w_top (v := iI ((mk 0 mm tT oO nn))) (hq2) ?_
  refine lv_istore_n (lv' := [(1, .int (iI ((mk 0 mm tT oO nn)))), (0, .ref (ad 0))]) hx hb dX0_gap_5 rfl hl (by decide) rfl (fun ls hl => ?_)
  refine lv_aload_n hx hb dX0_gap_6 rfl (lv_at hl 1 rfl) ?_
  refine lv_iconst (v := iI 0) hx hb dX0_gap_7 rfl ?_
  refine w_iVv (As := [.int (iI 0)]) (rest := []) (wf := fun u : (Nat → Int) × (Nat → Int) × (Nat → Nat) × (Nat → Int) × (Nat → Int) × (Nat → Nat) × (Nat → Int) => xw ad cI cZ nn mm tT u.1 u.2.1 tL oO u.2.2.1 oQ u.2.2.2.2.2.2 u.2.2.2.1 u.2.2.2.2.1 u.2.2.2.2.2.1) (wr := []) ⟨hx, hb, hml, hown, hts⟩ hK hP hD hS hA (mX0_findBestOrder (v := 0) hT hn hm (by omega) hE hCK hMb) (cwV 1 hts gX0_gap_X0_findBestOrder rfl rfl rfl (by decide +kernel) ⟨Nat.le_of_ble_eq_true rfl, Nat.le_of_ble_eq_true rfl⟩) [0, 1, 2, 3, 4, 5, 6, 7, 8, 9, 10, 11] [] [0, 1, 2, 3, 4, 5, 6, 7, 8, 9, 10, 11] rfl rfl (by decide) (by decide) (by decide) (hwf := fun _ => rfl) (by decide) (ci := 0) rfl rfl rfl rfl hl.1 rfl (Nat.le_of_ble_eq_true rfl) dX0_gap_8 ⟨Nat.zero_le _, Nat.zero_le _⟩ (fun u H locs hr8 hP hD hS => ?_)
  obtain ⟨uB, uE, uR, uM, uN, uJ, uS⟩ := u
  obtain ⟨hC2, hV2, hM2⟩ := hr8
  have hP : va_P D vwCl (xw ad cI cZ nn mm tT uB uE tL oO uR oQ uS uM uN uJ) H := hP
  have hD : va_D A (xw ad cI cZ nn mm tT uB uE tL oO uR oQ uS uM uN uJ) := hD
  refine lv_aload_n hx hb dX0_gap_11 rfl (lv_at hl 1 rfl) ?_
  refine va_get (D := D) (ci := 0) (C := RX0) (T := TX0) (N := 13) hx hb hts inW hown hK hP 0 rfl rfl 10 (by decide) (hts (.fieldLink RX0 42 "Flowforge" "leastMakespans" "[I") (List.mem_of_getElem? (i := 1) rfl)) (fun _ h9 => h9) rfl dX0_gap_12 ?_
  refine lv_iconst (v := iI 0) hx hb dX0_gap_15 rfl ?_
  refine w_iald (v := iI ((sol 0 mm tT nn).1)) hx hb hK hP 9 0 rfl rfl (0) (by omega) (by omega) (by decide) (congrArg iI hV2.1) dX0_gap_16 ?_
  refine lv_istore_n (lv' := [(2, .int (iI (((sol 0 mm tT nn).1)))), (1, .int (iI ((mk 0 mm tT oO nn)))), (0, .ref (ad 0))]) hx hb dX0_gap_17 rfl hl (by decide) rfl (fun ls hl => ?_)
  have h9 := (sol_rg (v := 0) hm hT hn).1
  refine lv_iload_n hx hb dX0_gap_18 rfl (lv_at hl 0 rfl) ?_
  refine w_if_ne (tgt := 24) hx hb dX0_gap_19 (by decide) ⟨by omega, by omega⟩ (fun c19 => ?_) (fun c19 => ?_)
  · refine lv_iload_n hx hb dX0_gap_24 rfl (lv_at hl 1 rfl) ?_
    refine lv_iload_n hx hb dX0_gap_25 rfl (lv_at hl 0 rfl) ?_
    refine w_isub (z := (mk 0 mm tT oO nn) - ((sol 0 mm tT nn).1)) hx hb dX0_gap_26 (by omega) ?_
    refine lv_i2d hx hb dX0_gap_27 ?_
    refine lv_iload_n hx hb dX0_gap_28 rfl (lv_at hl 0 rfl) ?_
    refine lv_i2d hx hb dX0_gap_29 ?_
    refine lv_ddiv hx hb dX0_gap_30 (gp_nan (fun q => c19 ((iI_eq (b := 0) ⟨by omega, by omega⟩ ⟨by omega, by omega⟩).mp q))) ?_
    exact hret _ _ 31 ls _ ((uB, uE, uR, uM, uN, uJ, uS)) hP hD hS (⟨by unfold gapD; rw [if_neg (by omega)], hC2, hM2⟩) dX0_gap_31
  · refine lv_dconst0 hx hb dX0_gap_22 ?_
    exact hret _ _ 23 ls _ ((uB, uE, uR, uM, uN, uJ, uS)) hP hD hS (⟨by unfold gapD; rw [if_pos (by omega)], hC2, hM2⟩) dX0_gap_23
set_option maxHeartbeats 4000000 in
set_option maxRecDepth 100000 in
theorem mX0_orderByInsertion (hT : ∀ k, 0 ≤ tT k ∧ tT k ≤ 99) (hn : nn ≤ 7) (hm : 1 ≤ mm ∧ mm ≤ 5) (hO : ∀ k, k < nn → oO k < 7) : IM l yX0_orderByInsertion wsX0_orderByInsertion (rmx 6 144) D (tyk cI cZ cJ) (xw ad cI cZ nn mm tT tB tE tL oO oR oQ zS zM zN oJ) [.ref (ad 0)] (QI D (tyk cI cZ cJ) (fun u : (Nat → Nat) × (Nat → Int) × (Nat → Int) => xw ad cI cZ nn mm tT u.2.1 u.2.2 tL (insO tT mm nn oO oQ) u.1 (srt (bqs tT mm) oQ nn) zS zM zN oJ) (fun y u => y = iI (mk 0 mm tT (insO tT mm nn oO oQ) nn))) := by
  refine imI_of (cc := cX0_orderByInsertion) (maxL := 2) (by decide) rfl (Nat.le_of_ble_eq_true rfl) ?_
  intro p e s m args below meth c A Q hx hb hml hown hts hA hK hP hD hS hret ls hl
  have hown : s.vm.findClass RX0 = some m.cls := hown
  have hl : lv_has ls 2 [(0, .ref (ad 0))] := hl
  have inW : ∀ w ∈ wsX00, w ∈ wsX0_orderByInsertion := by first | exact (fun w h => List.mem_cons_of_mem _ (List.mem_append_right _ h)) | exact (fun w h => List.mem_cons_of_mem _ (List.mem_append_left _ (List.mem_append_right _ h))) | exact (fun w h => List.mem_cons_of_mem _ (List.mem_append_left _ (List.mem_append_left _ (List.mem_append_right _ h)))) | decide +kernel
  refine lv_aload_n hx hb dX0_orderByInsertion_0 rfl (lv_at hl 0 rfl) ?_
  refine w_iVv (As := []) (rest := []) (wf := fun u : Unit => xw ad cI cZ nn mm tT tB tE tL oO oR (srt (bqs tT mm) oQ nn) zS zM zN oJ) (wr := []) ⟨hx, hb, hml, hown, hts⟩ hK hP hD hS hA (mX0_fillQueueBySum  hT hn hm) (cwV 0 hts gX0_orderByInsertion_X0_fillQueueBySum rfl rfl rfl (by decide +kernel) ⟨Nat.le_of_ble_eq_true rfl, Nat.le_of_ble_eq_true rfl⟩) [0, 1, 2, 3, 4, 5, 6, 7, 8, 9, 10, 11] [] [0, 1, 2, 3, 4, 5, 6, 7, 8, 9, 10, 11] rfl rfl (by decide) (by decide) (by decide) (hwf := fun _ => rfl) (by decide) (ci := 0) rfl rfl rfl rfl hl.1 rfl (Nat.le_of_ble_eq_true rfl) dX0_orderByInsertion_1 ⟨Nat.zero_le _, Nat.zero_le _⟩ (fun u H locs hr1 hP hD hS => ?_)
  have hq9 : ∀ k, k < nn → (srt (bqs tT mm) oQ nn) k < 7 := fun k hk => Nat.lt_of_lt_of_le (srt_lt hk) hn
  have hi9 : ∀ i, i ≤ nn → ∀ k, k < nn → ini tT mm oO (srt (bqs tT mm) oQ nn) i k < 7 := ini_lt hO hq9
  refine lv_iconst (v := iI 0) hx hb dX0_orderByInsertion_4 rfl ?_
  refine lv_istore_n (lv' := [(1, .int (iI 0)), (0, .ref (ad 0))]) hx hb dX0_orderByInsertion_5 rfl hl (by decide) rfl (fun ls hl => ?_)
  have L6 : ∀ (fu : Nat) (i : Nat) (worder6 : Nat → Nat) (wtrial6 : Nat → Nat) (wbegins6 : Nat → Int) (wends6 : Nat → Int) (x1_6 : Int), (i ≤ nn) → (worder6 = ini tT mm oO (srt (bqs tT mm) oQ nn) i) → (x1_6 = (i : Int)) → nn - i < fu → ∀ (H : Heap) (locs : List Loc), va_P D vwCl (xw ad cI cZ nn mm tT wbegins6 wends6 tL worder6 wtrial6 (srt (bqs tT mm) oQ nn) zS zM zN oJ) H → va_D A (xw ad cI cZ nn mm tT wbegins6 wends6 tL worder6 wtrial6 (srt (bqs tT mm) oQ nn) zS zM zN oJ) → va_S A s.heap H locs → ∀ ls : Array Slot, lv_has ls 2 [(1, .int (iI (x1_6))), (0, .ref (ad 0))] → W p l e (rmx 6 144) s m args below meth c H locs 0 0 Q (F0 m 6 ls []) := by
    intro fu
    induction fu with
    | zero =>
      intro i worder6 wtrial6 wbegins6 wends6 x1_6 hi hq0 hq1 hfu
      exact absurd hfu (Nat.not_lt_zero _)
    | succ fu ih =>
      intro i worder6 wtrial6 wbegins6 wends6 x1_6 hi hq0 hq1 hfu H locs hP hD hS ls hl
      subst hq0
      subst hq1
      have ih6 := ih
      refine lv_iload_n hx hb dX0_orderByInsertion_6 rfl (lv_at hl 0 rfl) ?_
      refine lv_aload_n hx hb dX0_orderByInsertion_7 rfl (lv_at hl 1 rfl) ?_
      refine va_get (D := D) (ci := 0) (C := RX0) (T := TX0) (N := 13) hx hb hts inW hown hK hP 0 rfl rfl 0 (by decide) (hts (.fieldLink RX0 7 "Flowforge" "jobCount" "I") (List.mem_of_getElem? (i := 1) rfl)) (fun _ h9 => h9) rfl dX0_orderByInsertion_8 ?_
      refine w_icmp_ge (tgt := 45) hx hb dX0_orderByInsertion_11 (by decide) ⟨by omega, by omega⟩ ⟨by omega, by omega⟩ (fun c11 => ?_) (fun c11 => ?_)
      · obtain rfl : nn = i := by omega
        refine lv_aload_n hx hb dX0_orderByInsertion_45 rfl (lv_at hl 1 rfl) ?_
        refine lv_iconst (v := iI 0) hx hb dX0_orderByInsertion_46 rfl ?_
        refine w_iV (As := [.int (iI 0)]) (rest := []) (wf := fun u : (Nat → Int) × (Nat → Int) => xw ad cI cZ nn mm tT u.1 u.2 tL (ini tT mm oO (srt (bqs tT mm) oQ nn) nn) wtrial6 (srt (bqs tT mm) oQ nn) zS zM zN oJ) (wr := []) ⟨hx, hb, hml, hown, hts⟩ hK hP hD hS hA (mX0_scheduleOrder (v := 0) hT hn hm (by omega) (hi9 nn (Nat.le_refl _))) (cwV 1 hts gX0_orderByInsertion_X0_scheduleOrder rfl rfl rfl (by decide +kernel) ⟨Nat.le_of_ble_eq_true rfl, Nat.le_of_ble_eq_true rfl⟩) [0, 1, 2, 3, 4, 5, 6, 7, 8, 9, 10, 11] [] [0, 1, 2, 3, 4, 5, 6, 7, 8, 9, 10, 11] rfl rfl (by decide) (by decide) (by decide) (hwf := fun _ => rfl) (by decide) (ci := 0) rfl rfl rfl rfl hl.1 rfl (Nat.le_of_ble_eq_true rfl) dX0_orderByInsertion_47 ⟨Nat.zero_le _, Nat.zero_le _⟩ (fun r47 u H locs hr47 hP hD hS => ?_)
        obtain ⟨uB, uE⟩ := u
        obtain ⟨hq47, hR⟩ := hr47
        have hP : va_P D vwCl (xw ad cI cZ nn mm tT uB uE tL (ini tT mm oO (srt (bqs tT mm) oQ nn) nn) wtrial6 (srt (bqs tT mm) oQ nn) zS zM zN oJ) H := hP
        have hD : va_D A (xw ad cI cZ nn mm tT uB uE tL (ini tT mm oO (srt (bqs tT mm) oQ nn) nn) wtrial6 (srt (bqs tT mm) oQ nn) zS zM zN oJ) := hD
        refine w_top (v := iI ((mk 0 mm tT (ini tT mm oO (srt (bqs tT mm) oQ nn) nn) nn))) (hq47) ?_
        exact hret _ _ 50 ls _ ((wtrial6, uB, uE)) hP hD hS (rfl) dX0_orderByInsertion_50
      · refine lv_aload_n hx hb dX0_orderByInsertion_14 rfl (lv_at hl 1 rfl) ?_
        refine va_get (D := D) (ci := 0) (C := RX0) (T := TX0) (N := 13) hx hb hts inW hown hK hP 0 rfl rfl 6 (by decide) (hts (.fieldLink RX0 29 "Flowforge" "order" "[I") (List.mem_of_getElem? (i := 2) rfl)) (fun _ h9 => h9) rfl dX0_orderByInsertion_15 ?_
        refine lv_iload_n hx hb dX0_orderByInsertion_18 rfl (lv_at hl 0 rfl) ?_
        refine lv_aload_n hx hb dX0_orderByInsertion_19 rfl (lv_at hl 1 rfl) ?_
        refine va_get (D := D) (ci := 0) (C := RX0) (T := TX0) (N := 13) hx hb hts inW hown hK hP 0 rfl rfl 8 (by decide) (hts (.fieldLink RX0 35 "Flowforge" "queue" "[I") (List.mem_of_getElem? (i := 3) rfl)) (fun _ h9 => h9) rfl dX0_orderByInsertion_20 ?_
        refine lv_iload_n hx hb dX0_orderByInsertion_23 rfl (lv_at hl 0 rfl) ?_
        refine w_iald (v := iI (((srt (bqs tT mm) oQ nn) i : Nat) : Int)) hx hb hK hP 7 0 rfl rfl (i) (by omega) (by omega) (by decide) rfl dX0_orderByInsertion_24 ?_
        refine w_iast (g := jI (va_up (ini tT mm oO (srt (bqs tT mm) oQ nn) i) i (((srt (bqs tT mm) oQ nn) i)))) (ws' := xw ad cI cZ nn mm tT wbegins6 wends6 tL (va_up (ini tT mm oO (srt (bqs tT mm) oQ nn) i) i (((srt (bqs tT mm) oQ nn) i))) wtrial6 (srt (bqs tT mm) oQ nn) zS zM zN oJ) hx hb hK hP hD hS 5 0 rfl rfl (i) (by omega) (by omega) (by decide) (hg := jI_up) (hw := rfl) (hd := dX0_orderByInsertion_25) (kk := fun H locs hP hD hS => ?_)
        refine lv_aload_n hx hb dX0_orderByInsertion_26 rfl (lv_at hl 1 rfl) ?_
        refine va_get (D := D) (ci := 0) (C := RX0) (T := TX0) (N := 13) hx hb hts inW hown hK hP 0 rfl rfl 6 (by decide) (hts (.fieldLink RX0 29 "Flowforge" "order" "[I") (List.mem_of_getElem? (i := 2) rfl)) (fun _ h9 => h9) rfl dX0_orderByInsertion_27 ?_
        refine lv_iload_n hx hb dX0_orderByInsertion_30 rfl (lv_at hl 0 rfl) ?_
        refine lv_aload_n hx hb dX0_orderByInsertion_31 rfl (lv_at hl 1 rfl) ?_
        refine lv_iload_n hx hb dX0_orderByInsertion_32 rfl (lv_at hl 0 rfl) ?_
        refine w_iV (As := [.int (iI ((i : Int)))]) (rest := [.int (iI ((i : Int))), .ref (ad 5)]) (wf := fun u : (Nat → Nat) × (Nat → Int) × (Nat → Int) => xw ad cI cZ nn mm tT u.2.1 u.2.2 tL (va_up (ini tT mm oO (srt (bqs tT mm) oQ nn) i) i (((srt (bqs tT mm) oQ nn) i))) u.1 (srt (bqs tT mm) oQ nn) zS zM zN oJ) (wr := []) ⟨hx, hb, hml, hown, hts⟩ hK hP hD hS hA (mX0_placeForLast  hT hn hm (by omega) (up_lt (hq9 i (by omega)) (hi9 i hi))) (cwV 1 hts gX0_orderByInsertion_X0_placeForLast rfl rfl rfl (by decide +kernel) ⟨Nat.le_of_ble_eq_true rfl, Nat.le_of_ble_eq_true rfl⟩) [0, 1, 2, 3, 4, 5, 6, 7, 8, 9, 10, 11] [] [0, 1, 2, 3, 4, 5, 6, 7, 8, 9, 10, 11] rfl rfl (by decide) (by decide) (by decide) (hwf := fun _ => rfl) (by decide) (ci := 0) rfl rfl rfl rfl hl.1 rfl (Nat.le_of_ble_eq_true rfl) dX0_orderByInsertion_33 ⟨Nat.zero_le _, Nat.zero_le _⟩ (fun r33 u H locs hr33 hP hD hS => ?_)
        obtain ⟨uR, uB, uE⟩ := u
        have hP : va_P D vwCl (xw ad cI cZ nn mm tT uB uE tL (va_up (ini tT mm oO (srt (bqs tT mm) oQ nn) i) i (((srt (bqs tT mm) oQ nn) i))) uR (srt (bqs tT mm) oQ nn) zS zM zN oJ) H := hP
        have hD : va_D A (xw ad cI cZ nn mm tT uB uE tL (va_up (ini tT mm oO (srt (bqs tT mm) oQ nn) i) i (((srt (bqs tT mm) oQ nn) i))) uR (srt (bqs tT mm) oQ nn) zS zM zN oJ) := hD
        refine w_top (v := iI (((amin (mkS tT mm (va_up (ini tT mm oO (srt (bqs tT mm) oQ nn) i) i (((srt (bqs tT mm) oQ nn) i))) i (i + 1)) i : Nat) : Int))) (hr33) ?_
        have h8 := amin_le (mkS tT mm (va_up (ini tT mm oO (srt (bqs tT mm) oQ nn) i) i ((srt (bqs tT mm) oQ nn) i)) i (i + 1)) i
        refine w_iSv (As := [.ref (ad 5), .int (iI ((i : Int))), .int (iI (((((amin (mkS tT mm (va_up (ini tT mm oO (srt (bqs tT mm) oQ nn) i) i (((srt (bqs tT mm) oQ nn) i))) i (i + 1)) i)) : Nat) : Int)))]) (rest := []) (wf := fun u : Unit => xw ad cI cZ nn mm tT uB uE tL (shf (va_up (ini tT mm oO (srt (bqs tT mm) oQ nn) i) i (((srt (bqs tT mm) oQ nn) i))) i ((amin (mkS tT mm (va_up (ini tT mm oO (srt (bqs tT mm) oQ nn) i) i (((srt (bqs tT mm) oQ nn) i))) i (i + 1)) i))) uR (srt (bqs tT mm) oQ nn) zS zM zN oJ) (wr := (xw ad cI cZ nn mm tT uB uE tL (va_up (ini tT mm oO (srt (bqs tT mm) oQ nn) i) i (((srt (bqs tT mm) oQ nn) i))) uR (srt (bqs tT mm) oQ nn) zS zM zN oJ).eraseIdx 5) ⟨hx, hb, hml, hown, hts⟩ hK hP hD hS hA (mX0_shift  (by omega) (by omega)) (va_cwS 3 hts gX0_orderByInsertion_X0_shift rfl rfl rfl (by decide +kernel) ⟨Nat.le_of_ble_eq_true rfl, Nat.le_of_ble_eq_true rfl⟩) [5] [0, 1, 2, 3, 4, 6, 7, 8, 9, 10, 11] [0, 1, 2, 3, 4, 11, 5, 6, 7, 8, 9, 10] rfl rfl (by decide) (by decide) (by decide) (hwf := fun _ => rfl) (by decide) rfl hl.1 (by rw [show ((((amin (mkS tT mm (va_up (ini tT mm oO (srt (bqs tT mm) oQ nn) i) i (((srt (bqs tT mm) oQ nn) i))) i (i + 1)) i : Nat) : Int)) : Int) = ((((amin (mkS tT mm (va_up (ini tT mm oO (srt (bqs tT mm) oQ nn) i) i (((srt (bqs tT mm) oQ nn) i))) i (i + 1)) i)) : Nat) : Int) by omega]; try rfl) (Nat.le_of_ble_eq_true rfl) dX0_orderByInsertion_36 ⟨Nat.zero_le _, Nat.zero_le _⟩ (fun u H locs hr36 hP hD hS => ?_)
        refine lv_iinc (v := iI ((i : Int) + 1)) (lv' := [(1, .int (iI ((i : Int) + 1))), (0, .ref (ad 0))]) hx hb dX0_orderByInsertion_39 hl (k := 0) rfl (iI_inc (by omega)) (by decide) rfl (fun ls hl => ?_)
        refine lv_goto (tgt := 6) hx hb dX0_orderByInsertion_42 (by decide) ?_
        exact ih6 (i + 1) (shf (va_up (ini tT mm oO (srt (bqs tT mm) oQ nn) i) i (((srt (bqs tT mm) oQ nn) i))) i ((amin (mkS tT mm (va_up (ini tT mm oO (srt (bqs tT mm) oQ nn) i) i (((srt (bqs tT mm) oQ nn) i))) i (i + 1)) i))) uR uB uE ((i : Int) + 1) (by omega) (rfl) (by omega) (by omega) _ _ hP hD hS ls (lv_sub hl [0, 1] rfl)
  exact L6 (nn - 0 + 1) 0 oO oR tB tE (0) (by omega) (rfl) (by omega) (Nat.lt_succ_self _) _ _ hP hD hS ls (lv_sub hl [0, 1] rfl)
set_option maxHeartbeats 4000000 in
set_option maxRecDepth 100000 in
theorem mX0_improve (hT : ∀ k, 0 ≤ tT k ∧ tT k ≤ 99) (hn : nn ≤ 7) (hm : 1 ≤ mm ∧ mm ≤ 5) (hO : ∀ k, k < nn → oO k < 7) : IM l yX0_improve wsX0_improve (rmx 5 119) D (tyk cI cZ cJ) (xw ad cI cZ nn mm tT tB tE tL oO oR oQ zS zM zN oJ) [.ref (ad 0)] (QI D (tyk cI cZ cJ) (fun u : (Nat → Nat) × (Nat → Int) × (Nat → Int) => xw ad cI cZ nn mm tT u.2.1 u.2.2 tL (impO tT mm nn oO) u.1 oQ zS zM zN oJ) (fun y u => y = iI (mk 0 mm tT oO nn - (imS tT mm oO nn nn).1))) := by
  refine imI_of (cc := cX0_improve) (maxL := 8) (by decide) rfl (Nat.le_of_ble_eq_true rfl) ?_
  intro p e s m args below meth c A Q hx hb hml hown hts hA hK hP hD hS hret ls hl
  have hown : s.vm.findClass RX0 = some m.cls := hown
  have hl : lv_has ls 8 [(0, .ref (ad 0))] := hl
  have inW : ∀ w ∈ wsX00, w ∈ wsX0_improve := by first | exact (fun w h => List.mem_cons_of_mem _ (List.mem_append_right _ h)) | exact (fun w h => List.mem_cons_of_mem _ (List.mem_append_left _ (List.mem_append_right _ h))) | exact (fun w h => List.mem_cons_of_mem _ (List.mem_append_left _ (List.mem_append_left _ (List.mem_append_right _ h)))) | decide +kernel
  refine lv_aload_n hx hb dX0_improve_0 rfl (lv_at hl 0 rfl) ?_
  refine lv_iconst (v := iI 0) hx hb dX0_improve_1 rfl ?_
  refine w_iV (As := [.int (iI 0)]) (rest := []) (wf := fun u : (Nat → Int) × (Nat → Int) => xw ad cI cZ nn mm tT u.1 u.2 tL oO oR oQ zS zM zN oJ) (wr := []) ⟨hx, hb, hml, hown, hts⟩ hK hP hD hS hA (mX0_scheduleOrder (v := 0) hT hn hm (by omega) hO) (cwV 1 hts gX0_improve_X0_scheduleOrder rfl rfl rfl (by decide +kernel) ⟨Nat.le_of_ble_eq_true rfl, Nat.le_of_ble_eq_true rfl⟩) [0, 1, 2, 3, 4, 5, 6, 7, 8, 9, 10, 11] [] [0, 1, 2, 3, 4, 5, 6, 7, 8, 9, 10, 11] rfl rfl (by decide) (by decide) (by decide) (hwf := fun _ => rfl) (by decide) (ci := 0) rfl rfl rfl rfl hl.1 rfl (Nat.le_of_ble_eq_true rfl) dX0_improve_2 ⟨Nat.zero_le _, Nat.zero_le _⟩ (fun r2 u H locs hr2 hP hD hS => ?_)
  obtain ⟨uB, uE⟩ := u
  obtain ⟨hq2, hR⟩ := hr2
  have hP : va_P D vwCl (xw ad cI cZ nn mm tT uB uE tL oO oR oQ zS zM zN oJ) H := hP
  have hD : va_D A (xw ad cI cZ nn mm tT uB uE tL oO oR oQ zS zM zN oJ) := hD
  refine w_top (v := iI ((mk 0 mm tT oO nn))) (hq2) ?_
  have h9 := mk_rg (v := 0) (o := oO) hm.1 hm.2 hT hn
  refine lv_istore_n (lv' := [(1, .int (iI ((mk 0 mm tT oO nn)))), (0, .ref (ad 0))]) hx hb dX0_improve_5 rfl hl (by decide) rfl (fun ls hl => ?_)
  refine lv_iload_n hx hb dX0_improve_6 rfl (lv_at hl 0 rfl) ?_
  refine lv_istore_n (lv' := [(2, .int (iI ((mk 0 mm tT oO nn)))), (1, .int (iI ((mk 0 mm tT oO nn)))), (0, .ref (ad 0))]) hx hb dX0_improve_7 rfl hl (by decide) rfl (fun ls hl => ?_)
  refine lv_iconst (v := iI 0) hx hb dX0_improve_8 rfl ?_
  refine lv_istore_n (lv' := [(3, .int (iI 0)), (2, .int (iI ((mk 0 mm tT oO nn)))), (1, .int (iI ((mk 0 mm tT oO nn)))), (0, .ref (ad 0))]) hx hb dX0_improve_9 rfl hl (by decide) rfl (fun ls hl => ?_)
  refine lv_iconst (v := iI 0) hx hb dX0_improve_10 rfl ?_
  refine lv_istore (lv' := [(4, .int (iI 0)), (3, .int (iI 0)), (2, .int (iI ((mk 0 mm tT oO nn)))), (1, .int (iI ((mk 0 mm tT oO nn)))), (0, .ref (ad 0))]) hx hb dX0_improve_11 hl (by decide) rfl (fun ls hl => ?_)
  refine lv_iconst (v := iI 0) hx hb dX0_improve_13 rfl ?_
  refine lv_istore (lv' := [(5, .int (iI 0)), (4, .int (iI 0)), (3, .int (iI 0)), (2, .int (iI ((mk 0 mm tT oO nn)))), (1, .int (iI ((mk 0 mm tT oO nn)))), (0, .ref (ad 0))]) hx hb dX0_improve_14 hl (by decide) rfl (fun ls hl => ?_)
  have L16 : ∀ (fu : Nat) (i : Nat) (wtrial16 : Nat → Nat) (wbegins16 : Nat → Int) (wends16 : Nat → Int) (x5_16 : Int) (x4_16 : Int) (x3_16 : Int) (x2_16 : Int), (i ≤ nn) → (x5_16 = (i : Int)) → (x4_16 = (((imS tT mm oO nn i).2.2 : Nat) : Int)) → (x3_16 = (((imS tT mm oO nn i).2.1 : Nat) : Int)) → (x2_16 = ((imS tT mm oO nn i).1)) → nn - i < fu → ∀ (H : Heap) (locs : List Loc), va_P D vwCl (xw ad cI cZ nn mm tT wbegins16 wends16 tL oO wtrial16 oQ zS zM zN oJ) H → va_D A (xw ad cI cZ nn mm tT wbegins16 wends16 tL oO wtrial16 oQ zS zM zN oJ) → va_S A s.heap H locs → ∀ ls : Array Slot, lv_has ls 8 [(5, .int (iI (x5_16))), (4, .int (iI (x4_16))), (3, .int (iI (x3_16))), (2, .int (iI (x2_16))), (1, .int (iI ((mk 0 mm tT oO nn)))), (0, .ref (ad 0))] → W p l e (rmx 5 119) s m args below meth c H locs 0 0 Q (F0 m 16 ls []) := by
    intro fu
    induction fu with
    | zero =>
      intro i wtrial16 wbegins16 wends16 x5_16 x4_16 x3_16 x2_16 hi hq0 hq1 hq2 hq3 hfu
      exact absurd hfu (Nat.not_lt_zero _)
    | succ fu ih =>
      intro i wtrial16 wbegins16 wends16 x5_16 x4_16 x3_16 x2_16 hi hq0 hq1 hq2 hq3 hfu H locs hP hD hS ls hl
      subst hq0
      subst hq1
      subst hq2
      subst hq3
      have ih16 := ih
      have h8 := imS_ok (o := oO) hm hT hn hi
      refine lv_iload hx hb dX0_improve_16 (lv_at hl 0 rfl) ?_
      refine lv_aload_n hx hb dX0_improve_18 rfl (lv_at hl 5 rfl) ?_
      refine va_get (D := D) (ci := 0) (C := RX0) (T := TX0) (N := 13) hx hb hts inW hown hK hP 0 rfl rfl 0 (by decide) (hts (.fieldLink RX0 7 "Flowforge" "jobCount" "I") (List.mem_of_getElem? (i := 1) rfl)) (fun _ h9 => h9) rfl dX0_improve_19 ?_
      refine w_icmp_ge (tgt := 79) hx hb dX0_improve_22 (by decide) ⟨by omega, by omega⟩ ⟨by omega, by omega⟩ (fun c22 => ?_) (fun c22 => ?_)
      · obtain rfl : nn = i := by omega
        have h4 := h8.1
        refine lv_iload_n hx hb dX0_improve_79 rfl (lv_at hl 3 rfl) ?_
        refine lv_iload_n hx hb dX0_improve_80 rfl (lv_at hl 4 rfl) ?_
        refine w_icmp_ge (tgt := 94) hx hb dX0_improve_81 (by decide) ⟨by omega, by omega⟩ ⟨by omega, by omega⟩ (fun c81 => ?_) (fun c81 => ?_)
        · have e9 : impO tT mm nn oO = oO := if_neg (by omega)
          rw [← e9] at hP hD
          refine lv_iload_n hx hb dX0_improve_94 rfl (lv_at hl 4 rfl) ?_
          refine lv_iload_n hx hb dX0_improve_95 rfl (lv_at hl 3 rfl) ?_
          refine w_isub (z := (mk 0 mm tT oO nn) - ((imS tT mm oO nn nn).1)) hx hb dX0_improve_96 (by omega) ?_
          exact hret _ _ 97 ls _ ((wtrial16, wbegins16, wends16)) hP hD hS (rfl) dX0_improve_97
        · have h3 := h8.2.1 (by omega)
          have e9 : impO tT mm nn oO = shf oO (imS tT mm oO nn nn).2.1 (imS tT mm oO nn nn).2.2 := if_pos (by omega)
          refine lv_aload_n hx hb dX0_improve_84 rfl (lv_at hl 5 rfl) ?_
          refine va_get (D := D) (ci := 0) (C := RX0) (T := TX0) (N := 13) hx hb hts inW hown hK hP 0 rfl rfl 6 (by decide) (hts (.fieldLink RX0 29 "Flowforge" "order" "[I") (List.mem_of_getElem? (i := 2) rfl)) (fun _ h9 => h9) rfl dX0_improve_85 ?_
          refine lv_iload_n hx hb dX0_improve_88 rfl (lv_at hl 2 rfl) ?_
          refine lv_iload hx hb dX0_improve_89 (lv_at hl 1 rfl) ?_
          refine w_iSv (As := [.ref (ad 5), .int (iI ((((((imS tT mm oO nn nn).2.1)) : Nat) : Int))), .int (iI ((((((imS tT mm oO nn nn).2.2)) : Nat) : Int)))]) (rest := []) (wf := fun u : Unit => xw ad cI cZ nn mm tT wbegins16 wends16 tL (shf oO (((imS tT mm oO nn nn).2.1)) (((imS tT mm oO nn nn).2.2))) wtrial16 oQ zS zM zN oJ) (wr := (xw ad cI cZ nn mm tT wbegins16 wends16 tL oO wtrial16 oQ zS zM zN oJ).eraseIdx 5) ⟨hx, hb, hml, hown, hts⟩ hK hP hD hS hA (mX0_shift  (by omega) (by omega)) (va_cwS 3 hts gX0_improve_X0_shift rfl rfl rfl (by decide +kernel) ⟨Nat.le_of_ble_eq_true rfl, Nat.le_of_ble_eq_true rfl⟩) [5] [0, 1, 2, 3, 4, 6, 7, 8, 9, 10, 11] [0, 1, 2, 3, 4, 11, 5, 6, 7, 8, 9, 10] rfl rfl (by decide) (by decide) (by decide) (hwf := fun _ => rfl) (by decide) rfl hl.1 (by rw [show (((((imS tT mm oO nn nn).2.1 : Nat) : Int)) : Int) = (((((imS tT mm oO nn nn).2.1)) : Nat) : Int) by omega]; rw [show (((((imS tT mm oO nn nn).2.2 : Nat) : Int)) : Int) = (((((imS tT mm oO nn nn).2.2)) : Nat) : Int) by omega]; try rfl) (Nat.le_of_ble_eq_true rfl) dX0_improve_91 ⟨Nat.zero_le _, Nat.zero_le _⟩ (fun u H locs hr91 hP hD hS => ?_)
          refine lv_iload_n hx hb dX0_improve_94 rfl (lv_at hl 4 rfl) ?_
          refine lv_iload_n hx hb dX0_improve_95 rfl (lv_at hl 3 rfl) ?_
          refine w_isub (z := (mk 0 mm tT oO nn) - ((imS tT mm oO nn nn).1)) hx hb dX0_improve_96 (by omega) ?_
          rw [← e9] at hP hD
          exact hret _ _ 97 ls _ ((wtrial16, wbegins16, wends16)) hP hD hS (rfl) dX0_improve_97
      · refine lv_iconst (v := iI 0) hx hb dX0_improve_25 rfl ?_
        refine lv_istore (lv' := [(6, .int (iI 0)), (5, .int (iI ((i : Int)))), (4, .int (iI ((((imS tT mm oO nn i).2.2 : Nat) : Int)))), (3, .int (iI ((((imS tT mm oO nn i).2.1 : Nat) : Int)))), (2, .int (iI (((imS tT mm oO nn i).1)))), (1, .int (iI ((mk 0 mm tT oO nn)))), (0, .ref (ad 0))]) hx hb dX0_improve_26 hl (by decide) rfl (fun ls hl => ?_)
        have L28 : ∀ (fu : Nat) (j : Nat) (wtrial28 : Nat → Nat) (wbegins28 : Nat → Int) (wends28 : Nat → Int) (x6_28 : Int) (x4_28 : Int) (x3_28 : Int) (x2_28 : Int), (j ≤ nn) → (x6_28 = (j : Int)) → (x4_28 = (((imT tT mm oO nn i j).2.2 : Nat) : Int)) → (x3_28 = (((imT tT mm oO nn i j).2.1 : Nat) : Int)) → (x2_28 = ((imT tT mm oO nn i j).1)) → nn - j < fu → ∀ (H : Heap) (locs : List Loc), va_P D vwCl (xw ad cI cZ nn mm tT wbegins28 wends28 tL oO wtrial28 oQ zS zM zN oJ) H → va_D A (xw ad cI cZ nn mm tT wbegins28 wends28 tL oO wtrial28 oQ zS zM zN oJ) → va_S A s.heap H locs → ∀ ls : Array Slot, lv_has ls 8 [(6, .int (iI (x6_28))), (5, .int (iI ((i : Int)))), (4, .int (iI (x4_28))), (3, .int (iI (x3_28))), (2, .int (iI (x2_28))), (1, .int (iI ((mk 0 mm tT oO nn)))), (0, .ref (ad 0))] → W p l e (rmx 5 119) s m args below meth c H locs 0 0 Q (F0 m 28 ls []) := by
          intro fu
          induction fu with
          | zero =>
            intro j wtrial28 wbegins28 wends28 x6_28 x4_28 x3_28 x2_28 hj hq0 hq1 hq2 hq3 hfu
            exact absurd hfu (Nat.not_lt_zero _)
          | succ fu ih =>
            intro j wtrial28 wbegins28 wends28 x6_28 x4_28 x3_28 x2_28 hj hq0 hq1 hq2 hq3 hfu H locs hP hD hS ls hl
            subst hq0
            subst hq1
            subst hq2
            subst hq3
            have ih28 := ih
            have h7 := imT_ok (o := oO) hm hT hn (show i < nn by omega) hj
            refine lv_iload hx hb dX0_improve_28 (lv_at hl 0 rfl) ?_
            refine lv_aload_n hx hb dX0_improve_30 rfl (lv_at hl 6 rfl) ?_
            refine va_get (D := D) (ci := 0) (C := RX0) (T := TX0) (N := 13) hx hb hts inW hown hK hP 0 rfl rfl 0 (by decide) (hts (.fieldLink RX0 7 "Flowforge" "jobCount" "I") (List.mem_of_getElem? (i := 1) rfl)) (fun _ h9 => h9) rfl dX0_improve_31 ?_
            refine w_icmp_ge (tgt := 73) hx hb dX0_improve_34 (by decide) ⟨by omega, by omega⟩ ⟨by omega, by omega⟩ (fun c34 => ?_) (fun c34 => ?_)
            · have hjn : j = nn := by omega
              refine lv_iinc (v := iI ((i : Int) + 1)) (lv' := [(5, .int (iI ((i : Int) + 1))), (6, .int (iI ((j : Int)))), (4, .int (iI ((((imT tT mm oO nn i j).2.2 : Nat) : Int)))), (3, .int (iI ((((imT tT mm oO nn i j).2.1 : Nat) : Int)))), (2, .int (iI (((imT tT mm oO nn i j).1)))), (1, .int (iI ((mk 0 mm tT oO nn)))), (0, .ref (ad 0))]) hx hb dX0_improve_73 hl (k := 1) rfl (iI_inc (by omega)) (by decide) rfl (fun ls hl => ?_)
              refine lv_goto (tgt := 16) hx hb dX0_improve_76 (by decide) ?_
              exact ih16 (i + 1) wtrial28 wbegins28 wends28 ((i : Int) + 1) ((((imT tT mm oO nn i j).2.2 : Nat) : Int)) ((((imT tT mm oO nn i j).2.1 : Nat) : Int)) (((imT tT mm oO nn i j).1)) (by omega) (by omega) (by rw [hjn]; rfl) (by rw [hjn]; rfl) (by rw [hjn]; rfl) (by omega) _ _ hP hD hS ls (lv_sub hl [0, 2, 3, 4, 5, 6] rfl)
            · refine lv_aload_n hx hb dX0_improve_37 rfl (lv_at hl 6 rfl) ?_
              refine lv_iload hx hb dX0_improve_38 (lv_at hl 1 rfl) ?_
              refine lv_iload hx hb dX0_improve_40 (lv_at hl 0 rfl) ?_
              refine lv_aload_n hx hb dX0_improve_42 rfl (lv_at hl 6 rfl) ?_
              refine va_get (D := D) (ci := 0) (C := RX0) (T := TX0) (N := 13) hx hb hts inW hown hK hP 0 rfl rfl 0 (by decide) (hts (.fieldLink RX0 7 "Flowforge" "jobCount" "I") (List.mem_of_getElem? (i := 1) rfl)) (fun _ h9 => h9) rfl dX0_improve_43 ?_
              refine w_iV (As := [.int (iI ((i : Int))), .int (iI ((j : Int))), .int (iI ((nn : Int)))]) (rest := []) (wf := fun u : (Nat → Nat) × (Nat → Int) × (Nat → Int) => xw ad cI cZ nn mm tT u.2.1 u.2.2 tL oO u.1 oQ zS zM zN oJ) (wr := []) ⟨hx, hb, hml, hown, hts⟩ hK hP hD hS hA (mX0_makespanIfShifted  hT hn hm (Nat.le_refl _) (by omega) (by omega) hO) (cwV 3 hts gX0_improve_X0_makespanIfShifted rfl rfl rfl (by decide +kernel) ⟨Nat.le_of_ble_eq_true rfl, Nat.le_of_ble_eq_true rfl⟩) [0, 1, 2, 3, 4, 5, 6, 7, 8, 9, 10, 11] [] [0, 1, 2, 3, 4, 5, 6, 7, 8, 9, 10, 11] rfl rfl (by decide) (by decide) (by decide) (hwf := fun _ => rfl) (by decide) (ci := 0) rfl rfl rfl rfl hl.1 rfl (Nat.le_of_ble_eq_true rfl) dX0_improve_46 ⟨Nat.zero_le _, Nat.zero_le _⟩ (fun r46 u H locs hr46 hP hD hS => ?_)
              obtain ⟨uR, uB, uE⟩ := u
              have h6 := mkS_rg (o := oO) (a := i) (c := nn) hm hT hn j
              have h5 := h7.1
              have hP : va_P D vwCl (xw ad cI cZ nn mm tT uB uE tL oO uR oQ zS zM zN oJ) H := hP
              have hD : va_D A (xw ad cI cZ nn mm tT uB uE tL oO uR oQ zS zM zN oJ) := hD
              refine w_top (v := iI ((mkS tT mm oO i nn j))) (hr46) ?_
              refine lv_istore (lv' := [(7, .int (iI ((mkS tT mm oO i nn j)))), (6, .int (iI ((j : Int)))), (5, .int (iI ((i : Int)))), (4, .int (iI ((((imT tT mm oO nn i j).2.2 : Nat) : Int)))), (3, .int (iI ((((imT tT mm oO nn i j).2.1 : Nat) : Int)))), (2, .int (iI (((imT tT mm oO nn i j).1)))), (1, .int (iI ((mk 0 mm tT oO nn)))), (0, .ref (ad 0))]) hx hb dX0_improve_49 hl (by decide) rfl (fun ls hl => ?_)
              refine lv_iload hx hb dX0_improve_51 (lv_at hl 0 rfl) ?_
              refine lv_iload_n hx hb dX0_improve_53 rfl (lv_at hl 5 rfl) ?_
              refine w_icmp_ge (tgt := 67) hx hb dX0_improve_54 (by decide) ⟨by omega, by omega⟩ ⟨by omega, by omega⟩ (fun c54 => ?_) (fun c54 => ?_)
              · have e7 := imT_n (t := tT) (mm := mm) (o := oO) (nn := nn) (i := i) (j := j) (by omega)
                refine lv_iinc (v := iI ((j : Int) + 1)) (lv' := [(6, .int (iI ((j : Int) + 1))), (7, .int (iI ((mkS tT mm oO i nn j)))), (5, .int (iI ((i : Int)))), (4, .int (iI ((((imT tT mm oO nn i j).2.2 : Nat) : Int)))), (3, .int (iI ((((imT tT mm oO nn i j).2.1 : Nat) : Int)))), (2, .int (iI (((imT tT mm oO nn i j).1)))), (1, .int (iI ((mk 0 mm tT oO nn)))), (0, .ref (ad 0))]) hx hb dX0_improve_67 hl (k := 1) rfl (iI_inc (by omega)) (by decide) rfl (fun ls hl => ?_)
                refine lv_goto (tgt := 28) hx hb dX0_improve_70 (by decide) ?_
                exact ih28 (j + 1) uR uB uE ((j : Int) + 1) ((((imT tT mm oO nn i j).2.2 : Nat) : Int)) ((((imT tT mm oO nn i j).2.1 : Nat) : Int)) (((imT tT mm oO nn i j).1)) (by omega) (by omega) (by rw [e7]) (by rw [e7]) (by rw [e7]) (by omega) _ _ hP hD hS ls (lv_sub hl [0, 2, 3, 4, 5, 6, 7] rfl)
              · have e7 := imT_y (t := tT) (mm := mm) (o := oO) (nn := nn) (i := i) (j := j) (by omega)
                refine lv_iload hx hb dX0_improve_57 (lv_at hl 0 rfl) ?_
                refine lv_istore_n (lv' := [(2, .int (iI ((mkS tT mm oO i nn j)))), (7, .int (iI ((mkS tT mm oO i nn j)))), (6, .int (iI ((j : Int)))), (5, .int (iI ((i : Int)))), (4, .int (iI ((((imT tT mm oO nn i j).2.2 : Nat) : Int)))), (3, .int (iI ((((imT tT mm oO nn i j).2.1 : Nat) : Int)))), (1, .int (iI ((mk 0 mm tT oO nn)))), (0, .ref (ad 0))]) hx hb dX0_improve_59 rfl hl (by decide) rfl (fun ls hl => ?_)
                refine lv_iload hx hb dX0_improve_60 (lv_at hl 3 rfl) ?_
                refine lv_istore_n (lv' := [(3, .int (iI ((i : Int)))), (2, .int (iI ((mkS tT mm oO i nn j)))), (7, .int (iI ((mkS tT mm oO i nn j)))), (6, .int (iI ((j : Int)))), (5, .int (iI ((i : Int)))), (4, .int (iI ((((imT tT mm oO nn i j).2.2 : Nat) : Int)))), (1, .int (iI ((mk 0 mm tT oO nn)))), (0, .ref (ad 0))]) hx hb dX0_improve_62 rfl hl (by decide) rfl (fun ls hl => ?_)
                refine lv_iload hx hb dX0_improve_63 (lv_at hl 3 rfl) ?_
                refine lv_istore (lv' := [(4, .int (iI ((j : Int)))), (3, .int (iI ((i : Int)))), (2, .int (iI ((mkS tT mm oO i nn j)))), (7, .int (iI ((mkS tT mm oO i nn j)))), (6, .int (iI ((j : Int)))), (5, .int (iI ((i : Int)))), (1, .int (iI ((mk 0 mm tT oO nn)))), (0, .ref (ad 0))]) hx hb dX0_improve_65 hl (by decide) rfl (fun ls hl => ?_)
                refine lv_iinc (v := iI ((j : Int) + 1)) (lv' := [(6, .int (iI ((j : Int) + 1))), (4, .int (iI ((j : Int)))), (3, .int (iI ((i : Int)))), (2, .int (iI ((mkS tT mm oO i nn j)))), (7, .int (iI ((mkS tT mm oO i nn j)))), (5, .int (iI ((i : Int)))), (1, .int (iI ((mk 0 mm tT oO nn)))), (0, .ref (ad 0))]) hx hb dX0_improve_67 hl (k := 4) rfl (iI_inc (by omega)) (by decide) rfl (fun ls hl => ?_)
                refine lv_goto (tgt := 28) hx hb dX0_improve_70 (by decide) ?_
                exact ih28 (j + 1) uR uB uE ((j : Int) + 1) ((j : Int)) ((i : Int)) ((mkS tT mm oO i nn j)) (by omega) (by omega) (by rw [e7]) (by rw [e7]) (by rw [e7]) (by omega) _ _ hP hD hS ls (lv_sub hl [0, 5, 1, 2, 3, 6, 7] rfl)
        exact L28 (nn - 0 + 1) 0 wtrial16 wbegins16 wends16 (0) ((((imS tT mm oO nn i).2.2 : Nat) : Int)) ((((imS tT mm oO nn i).2.1 : Nat) : Int)) (((imS tT mm oO nn i).1)) (by omega) (by omega) (rfl) (rfl) (rfl) (Nat.lt_succ_self _) _ _ hP hD hS ls (lv_sub hl [0, 1, 2, 3, 4, 5, 6] rfl)
  exact L16 (nn - 0 + 1) 0 oR uB uE (0) (0) (0) ((mk 0 mm tT oO nn)) (by omega) (by omega) (rfl) (rfl) (rfl) (Nat.lt_succ_self _) _ _ hP hD hS ls (lv_sub hl [0, 1, 2, 3, 4, 5] rfl)
end
