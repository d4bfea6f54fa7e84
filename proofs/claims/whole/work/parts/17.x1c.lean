section
variable {l : Launch} {D : va_G} {cI cZ cJ : ClassId} {ad bd : Nat → Nat} {a0 : Nat} {ws : va_W} {nn mm : Nat} {th bm : Int} {tT tB tE tL : Nat → Int} {oO oR oQ : Nat → Nat} {zS zM zN : Nat → Int} {oJ fF : Nat → Nat}
set_option maxHeartbeats 4000000 in
set_option maxRecDepth 100000 in
theorem mX1_addJob (h7 : nn < 7) : IM l yX1_addJob wsX1_addJob (rmx 0 0) D (tyk cI cZ cJ) (mw bd cI th nn mm bm tT oO tB tL oR oJ) [.ref (bd 0)] (QI D (tyk cI cZ cJ) (fun u : Unit => mw bd cI 0 (nn + 1) mm bm tT (va_up oO nn nn) tB tL oR oJ) (fun x _ => x = iI (nn : Int))) := by
  refine imI_of (cc := cX1_addJob) (maxL := 1) (by decide) rfl (Nat.le_of_ble_eq_true rfl) ?_
  intro p e s m args below meth c A Q hx hb hml hown hts hA hK hP hD hS hret ls hl
  have hown : s.vm.findClass RX1 = some m.cls := hown
  have hl : lv_has ls 1 [(0, .ref (bd 0))] := hl
  have inW : ∀ w ∈ wsX10, w ∈ wsX1_addJob := by first | exact (fun w h => List.mem_cons_of_mem _ (List.mem_append_right _ h)) | exact (fun w h => List.mem_cons_of_mem _ (List.mem_append_left _ (List.mem_append_right _ h))) | exact (fun w h => List.mem_cons_of_mem _ (List.mem_append_left _ (List.mem_append_left _ (List.mem_append_right _ h)))) | decide +kernel
  refine lv_aload_n hx hb dX1_addJob_0 rfl (lv_at hl 0 rfl) ?_
  refine lv_aload_n hx hb dX1_addJob_1 rfl (lv_at hl 0 rfl) ?_
  refine va_get (D := D) (ci := 1) (C := RX1) (T := TX1) (N := 10) hx hb hts inW hown hK hP 0 rfl rfl 1 (by decide) (hts (.fieldLink RX1 35 "FlowforgeModel" "many" "I") (List.mem_of_getElem? (i := 1) rfl)) (fun _ h9 => h9) rfl dX1_addJob_2 ?_
  refine lv_bipush (v := iI 7) hx hb dX1_addJob_5 (by decide) ?_
  refine w_icmp_ne (tgt := 14) hx hb dX1_addJob_7 (by decide) ⟨by omega, by omega⟩ ⟨by omega, by omega⟩ (fun c7 => ?_) (fun c7 => absurd c7 (by omega))
  refine lv_iconst (v := iI 0) hx hb dX1_addJob_14 rfl ?_
  refine va_put (D := D) (ci := 1) (ty := .int) (C := RX1) (T := TX1) (N := 10) hx hb hts inW tyX1 tyX1_ok nmX1 hown hK hP hD hS 0 rfl rfl 0 (by decide) (hts (.fieldLink RX1 32 "FlowforgeModel" "thrown" "I") (List.mem_of_getElem? (i := 2) rfl)) (fun _ h9 => h9) rfl (by decide +kernel) rfl rfl (Nat.le_of_ble_eq_true rfl) dX1_addJob_15 (fun H locs hP hD hS => ?_)
  have hP : va_P D vwCl (mw bd cI 0 nn mm bm tT oO tB tL oR oJ) H := hP
  have hD : va_D A (mw bd cI 0 nn mm bm tT oO tB tL oR oJ) := hD
  refine lv_aload_n hx hb dX1_addJob_18 rfl (lv_at hl 0 rfl) ?_
  refine va_get (D := D) (ci := 1) (C := RX1) (T := TX1) (N := 10) hx hb hts inW hown hK hP 0 rfl rfl 0 (by decide) (hts (.fieldLink RX1 32 "FlowforgeModel" "thrown" "I") (List.mem_of_getElem? (i := 2) rfl)) (fun _ h9 => h9) rfl dX1_addJob_19 ?_
  refine w_if_le (tgt := 27) hx hb dX1_addJob_22 (by decide) ⟨by omega, by omega⟩ (fun c22 => ?_) (fun c22 => absurd c22 (by omega))
  refine lv_aload_n hx hb dX1_addJob_27 rfl (lv_at hl 0 rfl) ?_
  refine va_get (D := D) (ci := 1) (C := RX1) (T := TX1) (N := 10) hx hb hts inW hown hK hP 0 rfl rfl 4 (by decide) (hts (.fieldLink RX1 17 "FlowforgeModel" "order" "[I") (List.mem_of_getElem? (i := 3) rfl)) (fun _ h9 => h9) rfl dX1_addJob_28 ?_
  refine lv_aload_n hx hb dX1_addJob_31 rfl (lv_at hl 0 rfl) ?_
  refine va_get (D := D) (ci := 1) (C := RX1) (T := TX1) (N := 10) hx hb hts inW hown hK hP 0 rfl rfl 1 (by decide) (hts (.fieldLink RX1 35 "FlowforgeModel" "many" "I") (List.mem_of_getElem? (i := 1) rfl)) (fun _ h9 => h9) rfl dX1_addJob_32 ?_
  refine lv_aload_n hx hb dX1_addJob_35 rfl (lv_at hl 0 rfl) ?_
  refine va_get (D := D) (ci := 1) (C := RX1) (T := TX1) (N := 10) hx hb hts inW hown hK hP 0 rfl rfl 1 (by decide) (hts (.fieldLink RX1 35 "FlowforgeModel" "many" "I") (List.mem_of_getElem? (i := 1) rfl)) (fun _ h9 => h9) rfl dX1_addJob_36 ?_
  refine w_iast (g := jI (va_up oO nn nn)) (ws' := mw bd cI 0 nn mm bm tT (va_up oO nn nn) tB tL oR oJ) hx hb hK hP hD hS 2 0 rfl rfl (nn) (by omega) (by omega) (by decide) (hg := jI_up) (hw := rfl) (hd := dX1_addJob_39) (kk := fun H locs hP hD hS => ?_)
  refine lv_aload_n hx hb dX1_addJob_40 rfl (lv_at hl 0 rfl) ?_
  refine lv_dup hx hb dX1_addJob_41 rfl ?_
  refine va_get (D := D) (ci := 1) (C := RX1) (T := TX1) (N := 10) hx hb hts inW hown hK hP 0 rfl rfl 1 (by decide) (hts (.fieldLink RX1 35 "FlowforgeModel" "many" "I") (List.mem_of_getElem? (i := 1) rfl)) (fun _ h9 => h9) rfl dX1_addJob_42 ?_
  refine lv_iconst (v := iI 1) hx hb dX1_addJob_45 rfl ?_
  refine w_iadd (z := (nn : Int) + 1) hx hb dX1_addJob_46 (by omega) ?_
  refine w_top (v := iI (((nn + 1 : Nat) : Int))) (congrArg iI (by omega)) ?_
  refine va_put (D := D) (ci := 1) (ty := .int) (C := RX1) (T := TX1) (N := 10) hx hb hts inW tyX1 tyX1_ok nmX1 hown hK hP hD hS 0 rfl rfl 1 (by decide) (hts (.fieldLink RX1 35 "FlowforgeModel" "many" "I") (List.mem_of_getElem? (i := 1) rfl)) (fun _ h9 => h9) rfl (by decide +kernel) rfl rfl (Nat.le_of_ble_eq_true rfl) dX1_addJob_47 (fun H locs hP hD hS => ?_)
  have hP : va_P D vwCl (mw bd cI 0 (nn + 1) mm bm tT (va_up oO nn nn) tB tL oR oJ) H := hP
  have hD : va_D A (mw bd cI 0 (nn + 1) mm bm tT (va_up oO nn nn) tB tL oR oJ) := hD
  refine lv_aload_n hx hb dX1_addJob_50 rfl (lv_at hl 0 rfl) ?_
  refine va_get (D := D) (ci := 1) (C := RX1) (T := TX1) (N := 10) hx hb hts inW hown hK hP 0 rfl rfl 1 (by decide) (hts (.fieldLink RX1 35 "FlowforgeModel" "many" "I") (List.mem_of_getElem? (i := 1) rfl)) (fun _ h9 => h9) rfl dX1_addJob_51 ?_
  refine lv_iconst (v := iI 1) hx hb dX1_addJob_54 rfl ?_
  refine w_isub (z := ((nn + 1 : Nat) : Int) - 1) hx hb dX1_addJob_55 (by omega) ?_
  exact hret _ _ 56 ls _ (()) hP hD hS (congrArg iI (by omega)) dX1_addJob_56
set_option maxHeartbeats 4000000 in
set_option maxRecDepth 100000 in
theorem mX1_addJob_e (h7 : nn = 7) : IM l yX1_addJob wsX1_addJob (rmx 0 0) D (tyk cI cZ cJ) (mw bd cI th nn mm bm tT oO tB tL oR oJ) [.ref (bd 0)] (QI D (tyk cI cZ cJ) (fun u : Unit => mw bd cI 1 nn mm bm tT oO tB tL oR oJ) (fun x _ => x = iI 0)) := by
  refine imI_of (cc := cX1_addJob) (maxL := 1) (by decide) rfl (Nat.le_of_ble_eq_true rfl) ?_
  intro p e s m args below meth c A Q hx hb hml hown hts hA hK hP hD hS hret ls hl
  have hown : s.vm.findClass RX1 = some m.cls := hown
  have hl : lv_has ls 1 [(0, .ref (bd 0))] := hl
  have inW : ∀ w ∈ wsX10, w ∈ wsX1_addJob := by first | exact (fun w h => List.mem_cons_of_mem _ (List.mem_append_right _ h)) | exact (fun w h => List.mem_cons_of_mem _ (List.mem_append_left _ (List.mem_append_right _ h))) | exact (fun w h => List.mem_cons_of_mem _ (List.mem_append_left _ (List.mem_append_left _ (List.mem_append_right _ h)))) | decide +kernel
  refine lv_aload_n hx hb dX1_addJob_0 rfl (lv_at hl 0 rfl) ?_
  refine lv_aload_n hx hb dX1_addJob_1 rfl (lv_at hl 0 rfl) ?_
  refine va_get (D := D) (ci := 1) (C := RX1) (T := TX1) (N := 10) hx hb hts inW hown hK hP 0 rfl rfl 1 (by decide) (hts (.fieldLink RX1 35 "FlowforgeModel" "many" "I") (List.mem_of_getElem? (i := 1) rfl)) (fun _ h9 => h9) rfl dX1_addJob_2 ?_
  refine lv_bipush (v := iI 7) hx hb dX1_addJob_5 (by decide) ?_
  refine w_icmp_ne (tgt := 14) hx hb dX1_addJob_7 (by decide) ⟨by omega, by omega⟩ ⟨by omega, by omega⟩ (fun c7 => absurd c7 (by omega)) (fun c7 => ?_)
  refine lv_iconst (v := iI 1) hx hb dX1_addJob_10 rfl ?_
  refine lv_goto (tgt := 15) hx hb dX1_addJob_11 (by decide) ?_
  refine va_put (D := D) (ci := 1) (ty := .int) (C := RX1) (T := TX1) (N := 10) hx hb hts inW tyX1 tyX1_ok nmX1 hown hK hP hD hS 0 rfl rfl 0 (by decide) (hts (.fieldLink RX1 32 "FlowforgeModel" "thrown" "I") (List.mem_of_getElem? (i := 2) rfl)) (fun _ h9 => h9) rfl (by decide +kernel) rfl rfl (Nat.le_of_ble_eq_true rfl) dX1_addJob_15 (fun H locs hP hD hS => ?_)
  have hP : va_P D vwCl (mw bd cI 1 nn mm bm tT oO tB tL oR oJ) H := hP
  have hD : va_D A (mw bd cI 1 nn mm bm tT oO tB tL oR oJ) := hD
  refine lv_aload_n hx hb dX1_addJob_18 rfl (lv_at hl 0 rfl) ?_
  refine va_get (D := D) (ci := 1) (C := RX1) (T := TX1) (N := 10) hx hb hts inW hown hK hP 0 rfl rfl 0 (by decide) (hts (.fieldLink RX1 32 "FlowforgeModel" "thrown" "I") (List.mem_of_getElem? (i := 2) rfl)) (fun _ h9 => h9) rfl dX1_addJob_19 ?_
  refine w_if_le (tgt := 27) hx hb dX1_addJob_22 (by decide) ⟨by omega, by omega⟩ (fun c22 => absurd c22 (by omega)) (fun c22 => ?_)
  refine lv_iconst (v := iI 0) hx hb dX1_addJob_25 rfl ?_
  exact hret _ _ 26 ls _ (()) hP hD hS (rfl) dX1_addJob_26
set_option maxHeartbeats 4000000 in
set_option maxRecDepth 100000 in
theorem mX1_setMachines {w : Nat} (hn : nn ≤ 7) (hm : 1 ≤ mm ∧ mm ≤ 5) (hw : 1 ≤ w ∧ w ≤ 5) : IM l yX1_setMachines wsX1_setMachines (rmx 1 22) D (tyk cI cZ cJ) (mw bd cI th nn mm bm tT oO tB tL oR oJ) [.ref (bd 0), .int (iI ((w : Int)))] (QI D (tyk cI cZ cJ) (fun u : Unit => mw bd cI 0 nn w bm (tzm tT w 35) oO tB tL oR oJ) (fun x _ => x = iI (mm : Int))) := by
  refine imI_of (cc := cX1_setMachines) (maxL := 4) (by decide) rfl (Nat.le_of_ble_eq_true rfl) ?_
  intro p e s m args below meth c A Q hx hb hml hown hts hA hK hP hD hS hret ls hl
  have hown : s.vm.findClass RX1 = some m.cls := hown
  have hl : lv_has ls 4 [(0, .ref (bd 0)), (1, .int (iI ((w : Int))))] := hl
  have inW : ∀ w ∈ wsX10, w ∈ wsX1_setMachines := by first | exact (fun w h => List.mem_cons_of_mem _ (List.mem_append_right _ h)) | exact (fun w h => List.mem_cons_of_mem _ (List.mem_append_left _ (List.mem_append_right _ h))) | exact (fun w h => List.mem_cons_of_mem _ (List.mem_append_left _ (List.mem_append_left _ (List.mem_append_right _ h)))) | decide +kernel
  refine lv_aload_n hx hb dX1_setMachines_0 rfl (lv_at hl 0 rfl) ?_
  refine lv_iload_n hx hb dX1_setMachines_1 rfl (lv_at hl 1 rfl) ?_
  refine lv_iconst (v := iI 1) hx hb dX1_setMachines_2 rfl ?_
  refine lv_iconst (v := iI 5) hx hb dX1_setMachines_3 rfl ?_
  refine w_pS (As := [.int (iI ((w : Int))), .int (iI 1), .int (iI 5)]) (rest := [.ref (bd 0)]) ⟨hx, hb, hml, hown, hts⟩ hK hP (mX1_in_y  (by omega) (by omega)) (va_cwS 3 hts gX1_setMachines_X1_in rfl rfl rfl (by decide +kernel) ⟨Nat.le_of_ble_eq_true rfl, Nat.le_of_ble_eq_true rfl⟩) rfl hl.1 rfl (Nat.le_of_ble_eq_true rfl) dX1_setMachines_4 ⟨Nat.zero_le _, Nat.zero_le _⟩ (fun r4 hr4 => ?_)
  refine w_top (v := iI (1)) (hr4.trans (congrArg iI (by omega))) ?_
  refine w_if_eq (tgt := 14) hx hb dX1_setMachines_7 (by decide) ⟨by omega, by omega⟩ (fun c7 => absurd c7 (by omega)) (fun c7 => ?_)
  refine lv_iconst (v := iI 0) hx hb dX1_setMachines_10 rfl ?_
  refine lv_goto (tgt := 15) hx hb dX1_setMachines_11 (by decide) ?_
  refine va_put (D := D) (ci := 1) (ty := .int) (C := RX1) (T := TX1) (N := 10) hx hb hts inW tyX1 tyX1_ok nmX1 hown hK hP hD hS 0 rfl rfl 0 (by decide) (hts (.fieldLink RX1 32 "FlowforgeModel" "thrown" "I") (List.mem_of_getElem? (i := 1) rfl)) (fun _ h9 => h9) rfl (by decide +kernel) rfl rfl (Nat.le_of_ble_eq_true rfl) dX1_setMachines_15 (fun H locs hP hD hS => ?_)
  have hP : va_P D vwCl (mw bd cI 0 nn mm bm tT oO tB tL oR oJ) H := hP
  have hD : va_D A (mw bd cI 0 nn mm bm tT oO tB tL oR oJ) := hD
  refine lv_aload_n hx hb dX1_setMachines_18 rfl (lv_at hl 0 rfl) ?_
  refine va_get (D := D) (ci := 1) (C := RX1) (T := TX1) (N := 10) hx hb hts inW hown hK hP 0 rfl rfl 0 (by decide) (hts (.fieldLink RX1 32 "FlowforgeModel" "thrown" "I") (List.mem_of_getElem? (i := 1) rfl)) (fun _ h9 => h9) rfl dX1_setMachines_19 ?_
  refine w_if_le (tgt := 27) hx hb dX1_setMachines_22 (by decide) ⟨by omega, by omega⟩ (fun c22 => ?_) (fun c22 => absurd c22 (by omega))
  refine lv_aload_n hx hb dX1_setMachines_27 rfl (lv_at hl 0 rfl) ?_
  refine va_get (D := D) (ci := 1) (C := RX1) (T := TX1) (N := 10) hx hb hts inW hown hK hP 0 rfl rfl 2 (by decide) (hts (.fieldLink RX1 7 "FlowforgeModel" "wide" "I") (List.mem_of_getElem? (i := 2) rfl)) (fun _ h9 => h9) rfl dX1_setMachines_28 ?_
  refine lv_istore_n (lv' := [(2, .int (iI ((mm : Int)))), (0, .ref (bd 0)), (1, .int (iI ((w : Int))))]) hx hb dX1_setMachines_31 rfl hl (by decide) rfl (fun ls hl => ?_)
  refine lv_aload_n hx hb dX1_setMachines_32 rfl (lv_at hl 1 rfl) ?_
  refine lv_iload_n hx hb dX1_setMachines_33 rfl (lv_at hl 2 rfl) ?_
  refine va_put (D := D) (ci := 1) (ty := .int) (C := RX1) (T := TX1) (N := 10) hx hb hts inW tyX1 tyX1_ok nmX1 hown hK hP hD hS 0 rfl rfl 2 (by decide) (hts (.fieldLink RX1 7 "FlowforgeModel" "wide" "I") (List.mem_of_getElem? (i := 2) rfl)) (fun _ h9 => h9) rfl (by decide +kernel) rfl rfl (Nat.le_of_ble_eq_true rfl) dX1_setMachines_34 (fun H locs hP hD hS => ?_)
  have hP : va_P D vwCl (mw bd cI 0 nn w bm tT oO tB tL oR oJ) H := hP
  have hD : va_D A (mw bd cI 0 nn w bm tT oO tB tL oR oJ) := hD
  refine lv_iconst (v := iI 0) hx hb dX1_setMachines_37 rfl ?_
  refine lv_istore_n (lv' := [(3, .int (iI 0)), (2, .int (iI ((mm : Int)))), (0, .ref (bd 0)), (1, .int (iI ((w : Int))))]) hx hb dX1_setMachines_38 rfl hl (by decide) rfl (fun ls hl => ?_)
  have L39 : ∀ (fu : Nat) (i : Nat) (wtimes39 : Nat → Int) (x3_39 : Int), (i ≤ 35) → (wtimes39 = tzm tT w i) → (x3_39 = (i : Int)) → 35 - i < fu → ∀ (H : Heap) (locs : List Loc), va_P D vwCl (mw bd cI 0 nn w bm wtimes39 oO tB tL oR oJ) H → va_D A (mw bd cI 0 nn w bm wtimes39 oO tB tL oR oJ) → va_S A s.heap H locs → ∀ ls : Array Slot, lv_has ls 4 [(3, .int (iI (x3_39))), (2, .int (iI ((mm : Int)))), (0, .ref (bd 0)), (1, .int (iI ((w : Int))))] → W p l e (rmx 1 22) s m args below meth c H locs 0 0 Q (F0 m 39 ls []) := by
    intro fu
    induction fu with
    | zero =>
      intro i wtimes39 x3_39 hi hq0 hq1 hfu
      exact absurd hfu (Nat.not_lt_zero _)
    | succ fu ih =>
      intro i wtimes39 x3_39 hi hq0 hq1 hfu H locs hP hD hS ls hl
      subst hq0
      subst hq1
      have ih39 := ih
      refine lv_iload_n hx hb dX1_setMachines_39 rfl (lv_at hl 0 rfl) ?_
      refine lv_bipush (v := iI 35) hx hb dX1_setMachines_40 (by decide) ?_
      refine w_icmp_ge (tgt := 77) hx hb dX1_setMachines_42 (by decide) ⟨by omega, by omega⟩ ⟨by omega, by omega⟩ (fun c42 => ?_) (fun c42 => ?_)
      · obtain rfl : i = 35 := by omega
        refine lv_iload_n hx hb dX1_setMachines_77 rfl (lv_at hl 1 rfl) ?_
        exact hret _ _ 78 ls _ (()) hP hD hS (rfl) dX1_setMachines_78
      · refine lv_aload_n hx hb dX1_setMachines_45 rfl (lv_at hl 2 rfl) ?_
        refine va_get (D := D) (ci := 1) (C := RX1) (T := TX1) (N := 10) hx hb hts inW hown hK hP 0 rfl rfl 3 (by decide) (hts (.fieldLink RX1 13 "FlowforgeModel" "times" "[I") (List.mem_of_getElem? (i := 3) rfl)) (fun _ h9 => h9) rfl dX1_setMachines_46 ?_
        refine lv_iload_n hx hb dX1_setMachines_49 rfl (lv_at hl 0 rfl) ?_
        refine lv_iload_n hx hb dX1_setMachines_50 rfl (lv_at hl 0 rfl) ?_
        refine lv_iconst (v := iI 5) hx hb dX1_setMachines_51 rfl ?_
        refine lv_irem hx hb dX1_setMachines_52 (by decide +kernel) ?_
        rw [rem5 (i := i) (by omega)]
        refine lv_aload_n hx hb dX1_setMachines_53 rfl (lv_at hl 2 rfl) ?_
        refine va_get (D := D) (ci := 1) (C := RX1) (T := TX1) (N := 10) hx hb hts inW hown hK hP 0 rfl rfl 2 (by decide) (hts (.fieldLink RX1 7 "FlowforgeModel" "wide" "I") (List.mem_of_getElem? (i := 2) rfl)) (fun _ h9 => h9) rfl dX1_setMachines_54 ?_
        refine w_icmp_ge (tgt := 69) hx hb dX1_setMachines_57 (by decide) ⟨by omega, by omega⟩ ⟨by omega, by omega⟩ (fun c57 => ?_) (fun c57 => ?_)
        · refine lv_iconst (v := iI 0) hx hb dX1_setMachines_69 rfl ?_
          refine w_iast (g := tI (tzm tT w (i + 1))) (ws' := mw bd cI 0 nn w bm (tzm tT w (i + 1)) oO tB tL oR oJ) hx hb hK hP hD hS 1 0 rfl rfl (i) (by omega) (by omega) (by decide) (hg := (tI_up.trans (congrArg tI (tzm_s (by split <;> omega))))) (hw := rfl) (hd := dX1_setMachines_70) (kk := fun H locs hP hD hS => ?_)
          refine lv_iinc (v := iI ((i : Int) + 1)) (lv' := [(3, .int (iI ((i : Int) + 1))), (2, .int (iI ((mm : Int)))), (0, .ref (bd 0)), (1, .int (iI ((w : Int))))]) hx hb dX1_setMachines_71 hl (k := 0) rfl (iI_inc (by omega)) (by decide) rfl (fun ls hl => ?_)
          refine lv_goto (tgt := 39) hx hb dX1_setMachines_74 (by decide) ?_
          exact ih39 (i + 1) (tzm tT w (i + 1)) ((i : Int) + 1) (by omega) (rfl) (by omega) (by omega) _ _ hP hD hS ls (lv_sub hl [0, 1, 2, 3] rfl)
        · refine lv_aload_n hx hb dX1_setMachines_60 rfl (lv_at hl 2 rfl) ?_
          refine va_get (D := D) (ci := 1) (C := RX1) (T := TX1) (N := 10) hx hb hts inW hown hK hP 0 rfl rfl 3 (by decide) (hts (.fieldLink RX1 13 "FlowforgeModel" "times" "[I") (List.mem_of_getElem? (i := 3) rfl)) (fun _ h9 => h9) rfl dX1_setMachines_61 ?_
          refine lv_iload_n hx hb dX1_setMachines_64 rfl (lv_at hl 0 rfl) ?_
          refine w_iald (v := iI (tT i)) hx hb hK hP 1 0 rfl rfl (i) (by omega) (by omega) (by decide) (congrArg iI tzm_at) dX1_setMachines_65 ?_
          refine lv_goto (tgt := 70) hx hb dX1_setMachines_66 (by decide) ?_
          refine w_iast (g := tI (tzm tT w (i + 1))) (ws' := mw bd cI 0 nn w bm (tzm tT w (i + 1)) oO tB tL oR oJ) hx hb hK hP hD hS 1 0 rfl rfl (i) (by omega) (by omega) (by decide) (hg := (tI_up.trans (congrArg tI (tzm_s (by split <;> omega))))) (hw := rfl) (hd := dX1_setMachines_70) (kk := fun H locs hP hD hS => ?_)
          refine lv_iinc (v := iI ((i : Int) + 1)) (lv' := [(3, .int (iI ((i : Int) + 1))), (2, .int (iI ((mm : Int)))), (0, .ref (bd 0)), (1, .int (iI ((w : Int))))]) hx hb dX1_setMachines_71 hl (k := 0) rfl (iI_inc (by omega)) (by decide) rfl (fun ls hl => ?_)
          refine lv_goto (tgt := 39) hx hb dX1_setMachines_74 (by decide) ?_
          exact ih39 (i + 1) (tzm tT w (i + 1)) ((i : Int) + 1) (by omega) (rfl) (by omega) (by omega) _ _ hP hD hS ls (lv_sub hl [0, 1, 2, 3] rfl)
  exact L39 (35 - 0 + 1) 0 tT (0) (by omega) ((tzm_0 _ _).symm) (by omega) (Nat.lt_succ_self _) _ _ hP hD hS ls (lv_sub hl [0, 1, 2, 3] rfl)
set_option maxHeartbeats 4000000 in
set_option maxRecDepth 100000 in
theorem mX1_setMachines_e {x : Int} (hr9 : -2147483648 ≤ x ∧ x ≤ 2147483647) (hbad : ¬ (1 ≤ x ∧ x ≤ 5)) : IM l yX1_setMachines wsX1_setMachines (rmx 1 22) D (tyk cI cZ cJ) (mw bd cI th nn mm bm tT oO tB tL oR oJ) [.ref (bd 0), .int (iI (x))] (QI D (tyk cI cZ cJ) (fun u : Unit => mw bd cI 1 nn mm bm tT oO tB tL oR oJ) (fun x _ => x = iI 0)) := by
  refine imI_of (cc := cX1_setMachines) (maxL := 4) (by decide) rfl (Nat.le_of_ble_eq_true rfl) ?_
  intro p e s m args below meth c A Q hx hb hml hown hts hA hK hP hD hS hret ls hl
  have hown : s.vm.findClass RX1 = some m.cls := hown
  have hl : lv_has ls 4 [(0, .ref (bd 0)), (1, .int (iI (x)))] := hl
  have inW : ∀ w ∈ wsX10, w ∈ wsX1_setMachines := by first | exact (fun w h => List.mem_cons_of_mem _ (List.mem_append_right _ h)) | exact (fun w h => List.mem_cons_of_mem _ (List.mem_append_left _ (List.mem_append_right _ h))) | exact (fun w h => List.mem_cons_of_mem _ (List.mem_append_left _ (List.mem_append_left _ (List.mem_append_right _ h)))) | decide +kernel
  refine lv_aload_n hx hb dX1_setMachines_0 rfl (lv_at hl 0 rfl) ?_
  refine lv_iload_n hx hb dX1_setMachines_1 rfl (lv_at hl 1 rfl) ?_
  refine lv_iconst (v := iI 1) hx hb dX1_setMachines_2 rfl ?_
  refine lv_iconst (v := iI 5) hx hb dX1_setMachines_3 rfl ?_
  refine w_pS (As := [.int (iI (x)), .int (iI 1), .int (iI 5)]) (rest := [.ref (bd 0)]) ⟨hx, hb, hml, hown, hts⟩ hK hP (mX1_in_n  (by omega) (by omega)) (va_cwS 3 hts gX1_setMachines_X1_in rfl rfl rfl (by decide +kernel) ⟨Nat.le_of_ble_eq_true rfl, Nat.le_of_ble_eq_true rfl⟩) rfl hl.1 rfl (Nat.le_of_ble_eq_true rfl) dX1_setMachines_4 ⟨Nat.zero_le _, Nat.zero_le _⟩ (fun r4 hr4 => ?_)
  refine w_top (v := iI (0)) (hr4.trans (congrArg iI (by omega))) ?_
  refine w_if_eq (tgt := 14) hx hb dX1_setMachines_7 (by decide) ⟨by omega, by omega⟩ (fun c7 => ?_) (fun c7 => absurd c7 (by omega))
  refine lv_iconst (v := iI 1) hx hb dX1_setMachines_14 rfl ?_
  refine va_put (D := D) (ci := 1) (ty := .int) (C := RX1) (T := TX1) (N := 10) hx hb hts inW tyX1 tyX1_ok nmX1 hown hK hP hD hS 0 rfl rfl 0 (by decide) (hts (.fieldLink RX1 32 "FlowforgeModel" "thrown" "I") (List.mem_of_getElem? (i := 1) rfl)) (fun _ h9 => h9) rfl (by decide +kernel) rfl rfl (Nat.le_of_ble_eq_true rfl) dX1_setMachines_15 (fun H locs hP hD hS => ?_)
  have hP : va_P D vwCl (mw bd cI 1 nn mm bm tT oO tB tL oR oJ) H := hP
  have hD : va_D A (mw bd cI 1 nn mm bm tT oO tB tL oR oJ) := hD
  refine lv_aload_n hx hb dX1_setMachines_18 rfl (lv_at hl 0 rfl) ?_
  refine va_get (D := D) (ci := 1) (C := RX1) (T := TX1) (N := 10) hx hb hts inW hown hK hP 0 rfl rfl 0 (by decide) (hts (.fieldLink RX1 32 "FlowforgeModel" "thrown" "I") (List.mem_of_getElem? (i := 1) rfl)) (fun _ h9 => h9) rfl dX1_setMachines_19 ?_
  refine w_if_le (tgt := 27) hx hb dX1_setMachines_22 (by decide) ⟨by omega, by omega⟩ (fun c22 => absurd c22 (by omega)) (fun c22 => ?_)
  refine lv_iconst (v := iI 0) hx hb dX1_setMachines_25 rfl ?_
  exact hret _ _ 26 ls _ (()) hP hD hS (rfl) dX1_setMachines_26
set_option maxHeartbeats 4000000 in
set_option maxRecDepth 100000 in
theorem mX1_setTime {j k : Nat} {x : Int} (hn : nn ≤ 7) (hm : 1 ≤ mm ∧ mm ≤ 5) (hj : j < nn) (hk : k < mm) (hx9 : 0 ≤ x ∧ x ≤ 99) : IM l yX1_setTime wsX1_setTime (rmx 2 44) D (tyk cI cZ cJ) (mw bd cI th nn mm bm tT oO tB tL oR oJ) [.ref (bd 0), .int (iI ((j : Int))), .int (iI ((k : Int))), .int (iI (x))] (QI D (tyk cI cZ cJ) (fun u : Unit => mw bd cI 0 nn mm bm (va_up tT (5 * j + k) x) oO tB tL oR oJ) (fun y _ => y = iI (tT (5 * j + k)))) := by
  refine imI_of (cc := cX1_setTime) (maxL := 5) (by decide) rfl (Nat.le_of_ble_eq_true rfl) ?_
  intro p e s m args below meth c A Q hx hb hml hown hts hA hK hP hD hS hret ls hl
  have hown : s.vm.findClass RX1 = some m.cls := hown
  have hl : lv_has ls 5 [(0, .ref (bd 0)), (1, .int (iI ((j : Int)))), (2, .int (iI ((k : Int)))), (3, .int (iI (x)))] := hl
  have inW : ∀ w ∈ wsX10, w ∈ wsX1_setTime := by first | exact (fun w h => List.mem_cons_of_mem _ (List.mem_append_right _ h)) | exact (fun w h => List.mem_cons_of_mem _ (List.mem_append_left _ (List.mem_append_right _ h))) | exact (fun w h => List.mem_cons_of_mem _ (List.mem_append_left _ (List.mem_append_left _ (List.mem_append_right _ h)))) | decide +kernel
  refine lv_aload_n hx hb dX1_setTime_0 rfl (lv_at hl 0 rfl) ?_
  refine lv_aload_n hx hb dX1_setTime_1 rfl (lv_at hl 0 rfl) ?_
  refine lv_iload_n hx hb dX1_setTime_2 rfl (lv_at hl 1 rfl) ?_
  refine lv_iload_n hx hb dX1_setTime_3 rfl (lv_at hl 2 rfl) ?_
  refine w_pV (As := [.int (iI ((j : Int))), .int (iI ((k : Int)))]) (rest := [.ref (bd 0)]) ⟨hx, hb, hml, hown, hts⟩ hK hP (mX1_isOf_y  hn hm.2 (by omega) (by omega)) (cwV 2 hts gX1_setTime_X1_isOf rfl rfl rfl (by decide +kernel) ⟨Nat.le_of_ble_eq_true rfl, Nat.le_of_ble_eq_true rfl⟩) (ci := 1) rfl rfl rfl rfl hl.1 rfl (Nat.le_of_ble_eq_true rfl) dX1_setTime_4 ⟨Nat.zero_le _, Nat.zero_le _⟩ (fun r4 hr4 => ?_)
  refine w_top (v := iI (1)) (hr4.trans (congrArg iI (by omega))) ?_
  refine w_if_ne (tgt := 14) hx hb dX1_setTime_7 (by decide) ⟨by omega, by omega⟩ (fun c7 => ?_) (fun c7 => absurd c7 (by omega))
  refine lv_iload_n hx hb dX1_setTime_14 rfl (lv_at hl 3 rfl) ?_
  refine lv_iconst (v := iI 0) hx hb dX1_setTime_15 rfl ?_
  refine lv_bipush (v := iI 99) hx hb dX1_setTime_16 (by decide) ?_
  refine w_pS (As := [.int (iI (x)), .int (iI 0), .int (iI 99)]) (rest := [.ref (bd 0)]) ⟨hx, hb, hml, hown, hts⟩ hK hP (mX1_in_y  (by omega) (by omega)) (va_cwS 3 hts gX1_setTime_X1_in rfl rfl rfl (by decide +kernel) ⟨Nat.le_of_ble_eq_true rfl, Nat.le_of_ble_eq_true rfl⟩) rfl hl.1 rfl (Nat.le_of_ble_eq_true rfl) dX1_setTime_18 ⟨Nat.zero_le _, Nat.zero_le _⟩ (fun r18 hr18 => ?_)
  refine w_top (v := iI (1)) (hr18.trans (congrArg iI (by omega))) ?_
  refine w_if_eq (tgt := 28) hx hb dX1_setTime_21 (by decide) ⟨by omega, by omega⟩ (fun c21 => absurd c21 (by omega)) (fun c21 => ?_)
  refine lv_iconst (v := iI 0) hx hb dX1_setTime_24 rfl ?_
  refine lv_goto (tgt := 29) hx hb dX1_setTime_25 (by decide) ?_
  refine va_put (D := D) (ci := 1) (ty := .int) (C := RX1) (T := TX1) (N := 10) hx hb hts inW tyX1 tyX1_ok nmX1 hown hK hP hD hS 0 rfl rfl 0 (by decide) (hts (.fieldLink RX1 32 "FlowforgeModel" "thrown" "I") (List.mem_of_getElem? (i := 1) rfl)) (fun _ h9 => h9) rfl (by decide +kernel) rfl rfl (Nat.le_of_ble_eq_true rfl) dX1_setTime_29 (fun H locs hP hD hS => ?_)
  have hP : va_P D vwCl (mw bd cI 0 nn mm bm tT oO tB tL oR oJ) H := hP
  have hD : va_D A (mw bd cI 0 nn mm bm tT oO tB tL oR oJ) := hD
  refine lv_aload_n hx hb dX1_setTime_32 rfl (lv_at hl 0 rfl) ?_
  refine va_get (D := D) (ci := 1) (C := RX1) (T := TX1) (N := 10) hx hb hts inW hown hK hP 0 rfl rfl 0 (by decide) (hts (.fieldLink RX1 32 "FlowforgeModel" "thrown" "I") (List.mem_of_getElem? (i := 1) rfl)) (fun _ h9 => h9) rfl dX1_setTime_33 ?_
  refine w_if_le (tgt := 41) hx hb dX1_setTime_36 (by decide) ⟨by omega, by omega⟩ (fun c36 => ?_) (fun c36 => absurd c36 (by omega))
  refine lv_aload_n hx hb dX1_setTime_41 rfl (lv_at hl 0 rfl) ?_
  refine lv_iload_n hx hb dX1_setTime_42 rfl (lv_at hl 1 rfl) ?_
  refine lv_iload_n hx hb dX1_setTime_43 rfl (lv_at hl 2 rfl) ?_
  refine w_pV (As := [.int (iI ((j : Int))), .int (iI ((k : Int)))]) (rest := []) ⟨hx, hb, hml, hown, hts⟩ hK hP (mX1_timeOf  (by omega) (by omega)) (cwV 2 hts gX1_setTime_X1_timeOf rfl rfl rfl (by decide +kernel) ⟨Nat.le_of_ble_eq_true rfl, Nat.le_of_ble_eq_true rfl⟩) (ci := 1) rfl rfl rfl rfl hl.1 rfl (Nat.le_of_ble_eq_true rfl) dX1_setTime_44 ⟨Nat.zero_le _, Nat.zero_le _⟩ (fun r44 hr44 => ?_)
  refine w_top (v := iI ((tT (5 * j + k)))) (hr44) ?_
  refine lv_istore (lv' := [(4, .int (iI ((tT (5 * j + k))))), (0, .ref (bd 0)), (1, .int (iI ((j : Int)))), (2, .int (iI ((k : Int)))), (3, .int (iI (x)))]) hx hb dX1_setTime_47 hl (by decide) rfl (fun ls hl => ?_)
  refine lv_aload_n hx hb dX1_setTime_49 rfl (lv_at hl 1 rfl) ?_
  refine va_get (D := D) (ci := 1) (C := RX1) (T := TX1) (N := 10) hx hb hts inW hown hK hP 0 rfl rfl 3 (by decide) (hts (.fieldLink RX1 13 "FlowforgeModel" "times" "[I") (List.mem_of_getElem? (i := 2) rfl)) (fun _ h9 => h9) rfl dX1_setTime_50 ?_
  refine lv_iconst (v := iI 5) hx hb dX1_setTime_53 rfl ?_
  refine lv_iload_n hx hb dX1_setTime_54 rfl (lv_at hl 2 rfl) ?_
  refine w_imul (z := 5 * (j : Int)) hx hb dX1_setTime_55 (by omega) ?_
  refine lv_iload_n hx hb dX1_setTime_56 rfl (lv_at hl 3 rfl) ?_
  refine w_iadd (z := 5 * (j : Int) + (k : Int)) hx hb dX1_setTime_57 (by omega) ?_
  refine lv_iload_n hx hb dX1_setTime_58 rfl (lv_at hl 4 rfl) ?_
  refine w_iast (g := tI (va_up tT (5 * j + k) x)) (ws' := mw bd cI 0 nn mm bm (va_up tT (5 * j + k) x) oO tB tL oR oJ) hx hb hK hP hD hS 1 0 rfl rfl (5 * j + k) (by omega) (by omega) (by decide) (hg := tI_up) (hw := rfl) (hd := dX1_setTime_59) (kk := fun H locs hP hD hS => ?_)
  refine lv_iload hx hb dX1_setTime_60 (lv_at hl 0 rfl) ?_
  exact hret _ _ 62 ls _ (()) hP hD hS (rfl) dX1_setTime_62
set_option maxHeartbeats 4000000 in
set_option maxRecDepth 100000 in
theorem mX1_setTime_e1 {x y z : Int} (hn : nn ≤ 7) (hm : 1 ≤ mm ∧ mm ≤ 5) (hr9 : -2147483648 ≤ x ∧ x ≤ 2147483647 ∧ -2147483648 ≤ y ∧ y ≤ 2147483647 ∧ -2147483648 ≤ z ∧ z ≤ 2147483647) (hbad : ¬ ((0 ≤ x ∧ x < (nn : Int)) ∧ 0 ≤ y ∧ y < (mm : Int))) : IM l yX1_setTime wsX1_setTime (rmx 2 44) D (tyk cI cZ cJ) (mw bd cI th nn mm bm tT oO tB tL oR oJ) [.ref (bd 0), .int (iI (x)), .int (iI (y)), .int (iI (z))] (QI D (tyk cI cZ cJ) (fun u : Unit => mw bd cI 1 nn mm bm tT oO tB tL oR oJ) (fun x _ => x = iI 0)) := by
  refine imI_of (cc := cX1_setTime) (maxL := 5) (by decide) rfl (Nat.le_of_ble_eq_true rfl) ?_
  intro p e s m args below meth c A Q hx hb hml hown hts hA hK hP hD hS hret ls hl
  have hown : s.vm.findClass RX1 = some m.cls := hown
  have hl : lv_has ls 5 [(0, .ref (bd 0)), (1, .int (iI (x))), (2, .int (iI (y))), (3, .int (iI (z)))] := hl
  have inW : ∀ w ∈ wsX10, w ∈ wsX1_setTime := by first | exact (fun w h => List.mem_cons_of_mem _ (List.mem_append_right _ h)) | exact (fun w h => List.mem_cons_of_mem _ (List.mem_append_left _ (List.mem_append_right _ h))) | exact (fun w h => List.mem_cons_of_mem _ (List.mem_append_left _ (List.mem_append_left _ (List.mem_append_right _ h)))) | decide +kernel
  refine lv_aload_n hx hb dX1_setTime_0 rfl (lv_at hl 0 rfl) ?_
  refine lv_aload_n hx hb dX1_setTime_1 rfl (lv_at hl 0 rfl) ?_
  refine lv_iload_n hx hb dX1_setTime_2 rfl (lv_at hl 1 rfl) ?_
  refine lv_iload_n hx hb dX1_setTime_3 rfl (lv_at hl 2 rfl) ?_
  refine w_pV (As := [.int (iI (x)), .int (iI (y))]) (rest := [.ref (bd 0)]) ⟨hx, hb, hml, hown, hts⟩ hK hP (mX1_isOf_n  hn hm.2 (by omega) hbad) (cwV 2 hts gX1_setTime_X1_isOf rfl rfl rfl (by decide +kernel) ⟨Nat.le_of_ble_eq_true rfl, Nat.le_of_ble_eq_true rfl⟩) (ci := 1) rfl rfl rfl rfl hl.1 rfl (Nat.le_of_ble_eq_true rfl) dX1_setTime_4 ⟨Nat.zero_le _, Nat.zero_le _⟩ (fun r4 hr4 => ?_)
  refine w_top (v := iI (0)) (hr4.trans (congrArg iI (by omega))) ?_
  refine w_if_ne (tgt := 14) hx hb dX1_setTime_7 (by decide) ⟨by omega, by omega⟩ (fun c7 => absurd c7 (by omega)) (fun c7 => ?_)
  refine lv_iconst (v := iI 1) hx hb dX1_setTime_10 rfl ?_
  refine lv_goto (tgt := 29) hx hb dX1_setTime_11 (by decide) ?_
  refine va_put (D := D) (ci := 1) (ty := .int) (C := RX1) (T := TX1) (N := 10) hx hb hts inW tyX1 tyX1_ok nmX1 hown hK hP hD hS 0 rfl rfl 0 (by decide) (hts (.fieldLink RX1 32 "FlowforgeModel" "thrown" "I") (List.mem_of_getElem? (i := 1) rfl)) (fun _ h9 => h9) rfl (by decide +kernel) rfl rfl (Nat.le_of_ble_eq_true rfl) dX1_setTime_29 (fun H locs hP hD hS => ?_)
  have hP : va_P D vwCl (mw bd cI 1 nn mm bm tT oO tB tL oR oJ) H := hP
  have hD : va_D A (mw bd cI 1 nn mm bm tT oO tB tL oR oJ) := hD
  refine lv_aload_n hx hb dX1_setTime_32 rfl (lv_at hl 0 rfl) ?_
  refine va_get (D := D) (ci := 1) (C := RX1) (T := TX1) (N := 10) hx hb hts inW hown hK hP 0 rfl rfl 0 (by decide) (hts (.fieldLink RX1 32 "FlowforgeModel" "thrown" "I") (List.mem_of_getElem? (i := 1) rfl)) (fun _ h9 => h9) rfl dX1_setTime_33 ?_
  refine w_if_le (tgt := 41) hx hb dX1_setTime_36 (by decide) ⟨by omega, by omega⟩ (fun c36 => absurd c36 (by omega)) (fun c36 => ?_)
  refine lv_iconst (v := iI 0) hx hb dX1_setTime_39 rfl ?_
  exact hret _ _ 40 ls _ (()) hP hD hS (rfl) dX1_setTime_40
set_option maxHeartbeats 4000000 in
set_option maxRecDepth 100000 in
theorem mX1_setTime_e2 {j k : Nat} {x : Int} (hn : nn ≤ 7) (hm : 1 ≤ mm ∧ mm ≤ 5) (hj : j < nn) (hk : k < mm) (hr9 : -2147483648 ≤ x ∧ x ≤ 2147483647) (hbad : ¬ (0 ≤ x ∧ x ≤ 99)) : IM l yX1_setTime wsX1_setTime (rmx 2 44) D (tyk cI cZ cJ) (mw bd cI th nn mm bm tT oO tB tL oR oJ) [.ref (bd 0), .int (iI ((j : Int))), .int (iI ((k : Int))), .int (iI (x))] (QI D (tyk cI cZ cJ) (fun u : Unit => mw bd cI 2 nn mm bm tT oO tB tL oR oJ) (fun x _ => x = iI 0)) := by
  refine imI_of (cc := cX1_setTime) (maxL := 5) (by decide) rfl (Nat.le_of_ble_eq_true rfl) ?_
  intro p e s m args below meth c A Q hx hb hml hown hts hA hK hP hD hS hret ls hl
  have hown : s.vm.findClass RX1 = some m.cls := hown
  have hl : lv_has ls 5 [(0, .ref (bd 0)), (1, .int (iI ((j : Int)))), (2, .int (iI ((k : Int)))), (3, .int (iI (x)))] := hl
  have inW : ∀ w ∈ wsX10, w ∈ wsX1_setTime := by first | exact (fun w h => List.mem_cons_of_mem _ (List.mem_append_right _ h)) | exact (fun w h => List.mem_cons_of_mem _ (List.mem_append_left _ (List.mem_append_right _ h))) | exact (fun w h => List.mem_cons_of_mem _ (List.mem_append_left _ (List.mem_append_left _ (List.mem_append_right _ h)))) | decide +kernel
  refine lv_aload_n hx hb dX1_setTime_0 rfl (lv_at hl 0 rfl) ?_
  refine lv_aload_n hx hb dX1_setTime_1 rfl (lv_at hl 0 rfl) ?_
  refine lv_iload_n hx hb dX1_setTime_2 rfl (lv_at hl 1 rfl) ?_
  refine lv_iload_n hx hb dX1_setTime_3 rfl (lv_at hl 2 rfl) ?_
  refine w_pV (As := [.int (iI ((j : Int))), .int (iI ((k : Int)))]) (rest := [.ref (bd 0)]) ⟨hx, hb, hml, hown, hts⟩ hK hP (mX1_isOf_y  hn hm.2 (by omega) (by omega)) (cwV 2 hts gX1_setTime_X1_isOf rfl rfl rfl (by decide +kernel) ⟨Nat.le_of_ble_eq_true rfl, Nat.le_of_ble_eq_true rfl⟩) (ci := 1) rfl rfl rfl rfl hl.1 rfl (Nat.le_of_ble_eq_true rfl) dX1_setTime_4 ⟨Nat.zero_le _, Nat.zero_le _⟩ (fun r4 hr4 => ?_)
  refine w_top (v := iI (1)) (hr4.trans (congrArg iI (by omega))) ?_
  refine w_if_ne (tgt := 14) hx hb dX1_setTime_7 (by decide) ⟨by omega, by omega⟩ (fun c7 => ?_) (fun c7 => absurd c7 (by omega))
  refine lv_iload_n hx hb dX1_setTime_14 rfl (lv_at hl 3 rfl) ?_
  refine lv_iconst (v := iI 0) hx hb dX1_setTime_15 rfl ?_
  refine lv_bipush (v := iI 99) hx hb dX1_setTime_16 (by decide) ?_
  refine w_pS (As := [.int (iI (x)), .int (iI 0), .int (iI 99)]) (rest := [.ref (bd 0)]) ⟨hx, hb, hml, hown, hts⟩ hK hP (mX1_in_n  (by omega) (by omega)) (va_cwS 3 hts gX1_setTime_X1_in rfl rfl rfl (by decide +kernel) ⟨Nat.le_of_ble_eq_true rfl, Nat.le_of_ble_eq_true rfl⟩) rfl hl.1 rfl (Nat.le_of_ble_eq_true rfl) dX1_setTime_18 ⟨Nat.zero_le _, Nat.zero_le _⟩ (fun r18 hr18 => ?_)
  refine w_top (v := iI (0)) (hr18.trans (congrArg iI (by omega))) ?_
  refine w_if_eq (tgt := 28) hx hb dX1_setTime_21 (by decide) ⟨by omega, by omega⟩ (fun c21 => ?_) (fun c21 => absurd c21 (by omega))
  refine lv_iconst (v := iI 2) hx hb dX1_setTime_28 rfl ?_
  refine va_put (D := D) (ci := 1) (ty := .int) (C := RX1) (T := TX1) (N := 10) hx hb hts inW tyX1 tyX1_ok nmX1 hown hK hP hD hS 0 rfl rfl 0 (by decide) (hts (.fieldLink RX1 32 "FlowforgeModel" "thrown" "I") (List.mem_of_getElem? (i := 1) rfl)) (fun _ h9 => h9) rfl (by decide +kernel) rfl rfl (Nat.le_of_ble_eq_true rfl) dX1_setTime_29 (fun H locs hP hD hS => ?_)
  have hP : va_P D vwCl (mw bd cI 2 nn mm bm tT oO tB tL oR oJ) H := hP
  have hD : va_D A (mw bd cI 2 nn mm bm tT oO tB tL oR oJ) := hD
  refine lv_aload_n hx hb dX1_setTime_32 rfl (lv_at hl 0 rfl) ?_
  refine va_get (D := D) (ci := 1) (C := RX1) (T := TX1) (N := 10) hx hb hts inW hown hK hP 0 rfl rfl 0 (by decide) (hts (.fieldLink RX1 32 "FlowforgeModel" "thrown" "I") (List.mem_of_getElem? (i := 1) rfl)) (fun _ h9 => h9) rfl dX1_setTime_33 ?_
  refine w_if_le (tgt := 41) hx hb dX1_setTime_36 (by decide) ⟨by omega, by omega⟩ (fun c36 => absurd c36 (by omega)) (fun c36 => ?_)
  refine lv_iconst (v := iI 0) hx hb dX1_setTime_39 rfl ?_
  exact hret _ _ 40 ls _ (()) hP hD hS (rfl) dX1_setTime_40
set_option maxHeartbeats 4000000 in
set_option maxRecDepth 100000 in
theorem mX1_time {j k : Nat} (hn : nn ≤ 7) (hm : 1 ≤ mm ∧ mm ≤ 5) (hj : j < nn) (hk : k < mm) : IM l yX1_time wsX1_time (rmx 2 44) D (tyk cI cZ cJ) (mw bd cI th nn mm bm tT oO tB tL oR oJ) [.ref (bd 0), .int (iI ((j : Int))), .int (iI ((k : Int)))] (QI D (tyk cI cZ cJ) (fun u : Unit => mw bd cI 0 nn mm bm tT oO tB tL oR oJ) (fun y _ => y = iI (tT (5 * j + k)))) := by
  refine imI_of (cc := cX1_time) (maxL := 3) (by decide) rfl (Nat.le_of_ble_eq_true rfl) ?_
  intro p e s m args below meth c A Q hx hb hml hown hts hA hK hP hD hS hret ls hl
  have hown : s.vm.findClass RX1 = some m.cls := hown
  have hl : lv_has ls 3 [(0, .ref (bd 0)), (1, .int (iI ((j : Int)))), (2, .int (iI ((k : Int))))] := hl
  have inW : ∀ w ∈ wsX10, w ∈ wsX1_time := by first | exact (fun w h => List.mem_cons_of_mem _ (List.mem_append_right _ h)) | exact (fun w h => List.mem_cons_of_mem _ (List.mem_append_left _ (List.mem_append_right _ h))) | exact (fun w h => List.mem_cons_of_mem _ (List.mem_append_left _ (List.mem_append_left _ (List.mem_append_right _ h)))) | decide +kernel
  refine lv_aload_n hx hb dX1_time_0 rfl (lv_at hl 0 rfl) ?_
  refine lv_iconst (v := iI 0) hx hb dX1_time_1 rfl ?_
  refine va_put (D := D) (ci := 1) (ty := .int) (C := RX1) (T := TX1) (N := 10) hx hb hts inW tyX1 tyX1_ok nmX1 hown hK hP hD hS 0 rfl rfl 0 (by decide) (hts (.fieldLink RX1 32 "FlowforgeModel" "thrown" "I") (List.mem_of_getElem? (i := 1) rfl)) (fun _ h9 => h9) rfl (by decide +kernel) rfl rfl (Nat.le_of_ble_eq_true rfl) dX1_time_2 (fun H locs hP hD hS => ?_)
  have hP : va_P D vwCl (mw bd cI 0 nn mm bm tT oO tB tL oR oJ) H := hP
  have hD : va_D A (mw bd cI 0 nn mm bm tT oO tB tL oR oJ) := hD
  refine lv_aload_n hx hb dX1_time_5 rfl (lv_at hl 0 rfl) ?_
  refine lv_iload_n hx hb dX1_time_6 rfl (lv_at hl 1 rfl) ?_
  refine lv_iload_n hx hb dX1_time_7 rfl (lv_at hl 2 rfl) ?_
  refine w_pV (As := [.int (iI ((j : Int))), .int (iI ((k : Int)))]) (rest := []) ⟨hx, hb, hml, hown, hts⟩ hK hP (mX1_isOf_y  hn hm.2 (by omega) (by omega)) (cwV 2 hts gX1_time_X1_isOf rfl rfl rfl (by decide +kernel) ⟨Nat.le_of_ble_eq_true rfl, Nat.le_of_ble_eq_true rfl⟩) (ci := 1) rfl rfl rfl rfl hl.1 rfl (Nat.le_of_ble_eq_true rfl) dX1_time_8 ⟨Nat.zero_le _, Nat.zero_le _⟩ (fun r8 hr8 => ?_)
  refine w_top (v := iI (1)) (hr8.trans (congrArg iI (by omega))) ?_
  refine w_if_eq (tgt := 23) hx hb dX1_time_11 (by decide) ⟨by omega, by omega⟩ (fun c11 => absurd c11 (by omega)) (fun c11 => ?_)
  refine lv_aload_n hx hb dX1_time_14 rfl (lv_at hl 0 rfl) ?_
  refine lv_iload_n hx hb dX1_time_15 rfl (lv_at hl 1 rfl) ?_
  refine lv_iload_n hx hb dX1_time_16 rfl (lv_at hl 2 rfl) ?_
  refine w_pV (As := [.int (iI ((j : Int))), .int (iI ((k : Int)))]) (rest := []) ⟨hx, hb, hml, hown, hts⟩ hK hP (mX1_timeOf  (by omega) (by omega)) (cwV 2 hts gX1_time_X1_timeOf rfl rfl rfl (by decide +kernel) ⟨Nat.le_of_ble_eq_true rfl, Nat.le_of_ble_eq_true rfl⟩) (ci := 1) rfl rfl rfl rfl hl.1 rfl (Nat.le_of_ble_eq_true rfl) dX1_time_17 ⟨Nat.zero_le _, Nat.zero_le _⟩ (fun r17 hr17 => ?_)
  refine w_top (v := iI ((tT (5 * j + k)))) (hr17) ?_
  refine lv_goto (tgt := 28) hx hb dX1_time_20 (by decide) ?_
  exact hret _ _ 28 ls _ (()) hP hD hS (rfl) dX1_time_28
set_option maxHeartbeats 4000000 in
set_option maxRecDepth 100000 in
theorem mX1_time_e {x y : Int} (hn : nn ≤ 7) (hm : 1 ≤ mm ∧ mm ≤ 5) (hr9 : -2147483648 ≤ x ∧ x ≤ 2147483647 ∧ -2147483648 ≤ y ∧ y ≤ 2147483647) (hbad : ¬ ((0 ≤ x ∧ x < (nn : Int)) ∧ 0 ≤ y ∧ y < (mm : Int))) : IM l yX1_time wsX1_time (rmx 2 44) D (tyk cI cZ cJ) (mw bd cI th nn mm bm tT oO tB tL oR oJ) [.ref (bd 0), .int (iI (x)), .int (iI (y))] (QI D (tyk cI cZ cJ) (fun u : Unit => mw bd cI 1 nn mm bm tT oO tB tL oR oJ) (fun x _ => x = iI 0)) := by
  refine imI_of (cc := cX1_time) (maxL := 3) (by decide) rfl (Nat.le_of_ble_eq_true rfl) ?_
  intro p e s m args below meth c A Q hx hb hml hown hts hA hK hP hD hS hret ls hl
  have hown : s.vm.findClass RX1 = some m.cls := hown
  have hl : lv_has ls 3 [(0, .ref (bd 0)), (1, .int (iI (x))), (2, .int (iI (y)))] := hl
  have inW : ∀ w ∈ wsX10, w ∈ wsX1_time := by first | exact (fun w h => List.mem_cons_of_mem _ (List.mem_append_right _ h)) | exact (fun w h => List.mem_cons_of_mem _ (List.mem_append_left _ (List.mem_append_right _ h))) | exact (fun w h => List.mem_cons_of_mem _ (List.mem_append_left _ (List.mem_append_left _ (List.mem_append_right _ h)))) | decide +kernel
  refine lv_aload_n hx hb dX1_time_0 rfl (lv_at hl 0 rfl) ?_
  refine lv_iconst (v := iI 0) hx hb dX1_time_1 rfl ?_
  refine va_put (D := D) (ci := 1) (ty := .int) (C := RX1) (T := TX1) (N := 10) hx hb hts inW tyX1 tyX1_ok nmX1 hown hK hP hD hS 0 rfl rfl 0 (by decide) (hts (.fieldLink RX1 32 "FlowforgeModel" "thrown" "I") (List.mem_of_getElem? (i := 1) rfl)) (fun _ h9 => h9) rfl (by decide +kernel) rfl rfl (Nat.le_of_ble_eq_true rfl) dX1_time_2 (fun H locs hP hD hS => ?_)
  have hP : va_P D vwCl (mw bd cI 0 nn mm bm tT oO tB tL oR oJ) H := hP
  have hD : va_D A (mw bd cI 0 nn mm bm tT oO tB tL oR oJ) := hD
  refine lv_aload_n hx hb dX1_time_5 rfl (lv_at hl 0 rfl) ?_
  refine lv_iload_n hx hb dX1_time_6 rfl (lv_at hl 1 rfl) ?_
  refine lv_iload_n hx hb dX1_time_7 rfl (lv_at hl 2 rfl) ?_
  refine w_pV (As := [.int (iI (x)), .int (iI (y))]) (rest := []) ⟨hx, hb, hml, hown, hts⟩ hK hP (mX1_isOf_n  hn hm.2 (by omega) hbad) (cwV 2 hts gX1_time_X1_isOf rfl rfl rfl (by decide +kernel) ⟨Nat.le_of_ble_eq_true rfl, Nat.le_of_ble_eq_true rfl⟩) (ci := 1) rfl rfl rfl rfl hl.1 rfl (Nat.le_of_ble_eq_true rfl) dX1_time_8 ⟨Nat.zero_le _, Nat.zero_le _⟩ (fun r8 hr8 => ?_)
  refine w_top (v := iI (0)) (hr8.trans (congrArg iI (by omega))) ?_
  refine w_if_eq (tgt := 23) hx hb dX1_time_11 (by decide) ⟨by omega, by omega⟩ (fun c11 => ?_) (fun c11 => absurd c11 (by omega))
  refine lv_aload_n hx hb dX1_time_23 rfl (lv_at hl 0 rfl) ?_
  refine lv_iconst (v := iI 1) hx hb dX1_time_24 rfl ?_
  refine w_iV (As := [.int (iI 1)]) (rest := []) (wf := fun u : Unit => mw bd cI 1 nn mm bm tT oO tB tL oR oJ) (wr := []) ⟨hx, hb, hml, hown, hts⟩ hK hP hD hS hA (mX1_fails  ) (cwV 1 hts gX1_time_X1_fails rfl rfl rfl (by decide +kernel) ⟨Nat.le_of_ble_eq_true rfl, Nat.le_of_ble_eq_true rfl⟩) [0, 1, 2, 3, 4, 5, 6] [] [0, 1, 2, 3, 4, 5, 6] rfl rfl (by decide) (by decide) (by decide) (hwf := fun _ => rfl) (by decide) (ci := 1) rfl rfl rfl rfl hl.1 rfl (Nat.le_of_ble_eq_true rfl) dX1_time_25 ⟨Nat.zero_le _, Nat.zero_le _⟩ (fun r25 u H locs hr25 hP hD hS => ?_)
  refine w_top (v := iI (0)) (hr25.trans (congrArg iI (by omega))) ?_
  exact hret _ _ 28 ls _ (()) hP hD hS (rfl) dX1_time_28
set_option maxHeartbeats 4000000 in
set_option maxRecDepth 100000 in
theorem mX1_jobs  : IM l yX1_jobs wsX1_jobs (rmx 0 0) D (tyk cI cZ cJ) (mw bd cI th nn mm bm tT oO tB tL oR oJ) [.ref (bd 0)] (QI D (tyk cI cZ cJ) (fun u : Unit => mw bd cI 0 nn mm bm tT oO tB tL oR oJ) (fun y _ => y = iI (nn : Int))) := by
  refine imI_of (cc := cX1_jobs) (maxL := 1) (by decide) rfl (Nat.le_of_ble_eq_true rfl) ?_
  intro p e s m args below meth c A Q hx hb hml hown hts hA hK hP hD hS hret ls hl
  have hown : s.vm.findClass RX1 = some m.cls := hown
  have hl : lv_has ls 1 [(0, .ref (bd 0))] := hl
  have inW : ∀ w ∈ wsX10, w ∈ wsX1_jobs := by first | exact (fun w h => List.mem_cons_of_mem _ (List.mem_append_right _ h)) | exact (fun w h => List.mem_cons_of_mem _ (List.mem_append_left _ (List.mem_append_right _ h))) | exact (fun w h => List.mem_cons_of_mem _ (List.mem_append_left _ (List.mem_append_left _ (List.mem_append_right _ h)))) | decide +kernel
  refine lv_aload_n hx hb dX1_jobs_0 rfl (lv_at hl 0 rfl) ?_
  refine lv_iconst (v := iI 0) hx hb dX1_jobs_1 rfl ?_
  refine va_put (D := D) (ci := 1) (ty := .int) (C := RX1) (T := TX1) (N := 10) hx hb hts inW tyX1 tyX1_ok nmX1 hown hK hP hD hS 0 rfl rfl 0 (by decide) (hts (.fieldLink RX1 32 "FlowforgeModel" "thrown" "I") (List.mem_of_getElem? (i := 1) rfl)) (fun _ h9 => h9) rfl (by decide +kernel) rfl rfl (Nat.le_of_ble_eq_true rfl) dX1_jobs_2 (fun H locs hP hD hS => ?_)
  have hP : va_P D vwCl (mw bd cI 0 nn mm bm tT oO tB tL oR oJ) H := hP
  have hD : va_D A (mw bd cI 0 nn mm bm tT oO tB tL oR oJ) := hD
  refine lv_aload_n hx hb dX1_jobs_5 rfl (lv_at hl 0 rfl) ?_
  refine va_get (D := D) (ci := 1) (C := RX1) (T := TX1) (N := 10) hx hb hts inW hown hK hP 0 rfl rfl 1 (by decide) (hts (.fieldLink RX1 35 "FlowforgeModel" "many" "I") (List.mem_of_getElem? (i := 2) rfl)) (fun _ h9 => h9) rfl dX1_jobs_6 ?_
  exact hret _ _ 9 ls _ (()) hP hD hS (rfl) dX1_jobs_9
set_option maxHeartbeats 4000000 in
set_option maxRecDepth 100000 in
theorem mX1_machines  : IM l yX1_machines wsX1_machines (rmx 0 0) D (tyk cI cZ cJ) (mw bd cI th nn mm bm tT oO tB tL oR oJ) [.ref (bd 0)] (QI D (tyk cI cZ cJ) (fun u : Unit => mw bd cI 0 nn mm bm tT oO tB tL oR oJ) (fun y _ => y = iI (mm : Int))) := by
  refine imI_of (cc := cX1_machines) (maxL := 1) (by decide) rfl (Nat.le_of_ble_eq_true rfl) ?_
  intro p e s m args below meth c A Q hx hb hml hown hts hA hK hP hD hS hret ls hl
  have hown : s.vm.findClass RX1 = some m.cls := hown
  have hl : lv_has ls 1 [(0, .ref (bd 0))] := hl
  have inW : ∀ w ∈ wsX10, w ∈ wsX1_machines := by first | exact (fun w h => List.mem_cons_of_mem _ (List.mem_append_right _ h)) | exact (fun w h => List.mem_cons_of_mem _ (List.mem_append_left _ (List.mem_append_right _ h))) | exact (fun w h => List.mem_cons_of_mem _ (List.mem_append_left _ (List.mem_append_left _ (List.mem_append_right _ h)))) | decide +kernel
  refine lv_aload_n hx hb dX1_machines_0 rfl (lv_at hl 0 rfl) ?_
  refine lv_iconst (v := iI 0) hx hb dX1_machines_1 rfl ?_
  refine va_put (D := D) (ci := 1) (ty := .int) (C := RX1) (T := TX1) (N := 10) hx hb hts inW tyX1 tyX1_ok nmX1 hown hK hP hD hS 0 rfl rfl 0 (by decide) (hts (.fieldLink RX1 32 "FlowforgeModel" "thrown" "I") (List.mem_of_getElem? (i := 1) rfl)) (fun _ h9 => h9) rfl (by decide +kernel) rfl rfl (Nat.le_of_ble_eq_true rfl) dX1_machines_2 (fun H locs hP hD hS => ?_)
  have hP : va_P D vwCl (mw bd cI 0 nn mm bm tT oO tB tL oR oJ) H := hP
  have hD : va_D A (mw bd cI 0 nn mm bm tT oO tB tL oR oJ) := hD
  refine lv_aload_n hx hb dX1_machines_5 rfl (lv_at hl 0 rfl) ?_
  refine va_get (D := D) (ci := 1) (C := RX1) (T := TX1) (N := 10) hx hb hts inW hown hK hP 0 rfl rfl 2 (by decide) (hts (.fieldLink RX1 7 "FlowforgeModel" "wide" "I") (List.mem_of_getElem? (i := 2) rfl)) (fun _ h9 => h9) rfl dX1_machines_6 ?_
  exact hret _ _ 9 ls _ (()) hP hD hS (rfl) dX1_machines_9
set_option maxHeartbeats 4000000 in
set_option maxRecDepth 100000 in
theorem mX1_jobAt {q : Nat} (hn : nn ≤ 7) (hm : 1 ≤ mm ∧ mm ≤ 5) (hq : q < nn) : IM l yX1_jobAt wsX1_jobAt (rmx 1 22) D (tyk cI cZ cJ) (mw bd cI th nn mm bm tT oO tB tL oR oJ) [.ref (bd 0), .int (iI ((q : Int)))] (QI D (tyk cI cZ cJ) (fun u : Unit => mw bd cI 0 nn mm bm tT oO tB tL oR oJ) (fun y _ => y = iI ((oO q : Nat) : Int))) := by
  refine imI_of (cc := cX1_jobAt) (maxL := 2) (by decide) rfl (Nat.le_of_ble_eq_true rfl) ?_
  intro p e s m args below meth c A Q hx hb hml hown hts hA hK hP hD hS hret ls hl
  have hown : s.vm.findClass RX1 = some m.cls := hown
  have hl : lv_has ls 2 [(0, .ref (bd 0)), (1, .int (iI ((q : Int))))] := hl
  have inW : ∀ w ∈ wsX10, w ∈ wsX1_jobAt := by first | exact (fun w h => List.mem_cons_of_mem _ (List.mem_append_right _ h)) | exact (fun w h => List.mem_cons_of_mem _ (List.mem_append_left _ (List.mem_append_right _ h))) | exact (fun w h => List.mem_cons_of_mem _ (List.mem_append_left _ (List.mem_append_left _ (List.mem_append_right _ h)))) | decide +kernel
  refine lv_aload_n hx hb dX1_jobAt_0 rfl (lv_at hl 0 rfl) ?_
  refine lv_iconst (v := iI 0) hx hb dX1_jobAt_1 rfl ?_
  refine va_put (D := D) (ci := 1) (ty := .int) (C := RX1) (T := TX1) (N := 10) hx hb hts inW tyX1 tyX1_ok nmX1 hown hK hP hD hS 0 rfl rfl 0 (by decide) (hts (.fieldLink RX1 32 "FlowforgeModel" "thrown" "I") (List.mem_of_getElem? (i := 1) rfl)) (fun _ h9 => h9) rfl (by decide +kernel) rfl rfl (Nat.le_of_ble_eq_true rfl) dX1_jobAt_2 (fun H locs hP hD hS => ?_)
  have hP : va_P D vwCl (mw bd cI 0 nn mm bm tT oO tB tL oR oJ) H := hP
  have hD : va_D A (mw bd cI 0 nn mm bm tT oO tB tL oR oJ) := hD
  refine lv_iload_n hx hb dX1_jobAt_5 rfl (lv_at hl 1 rfl) ?_
  refine lv_iconst (v := iI 0) hx hb dX1_jobAt_6 rfl ?_
  refine lv_aload_n hx hb dX1_jobAt_7 rfl (lv_at hl 0 rfl) ?_
  refine va_get (D := D) (ci := 1) (C := RX1) (T := TX1) (N := 10) hx hb hts inW hown hK hP 0 rfl rfl 1 (by decide) (hts (.fieldLink RX1 35 "FlowforgeModel" "many" "I") (List.mem_of_getElem? (i := 2) rfl)) (fun _ h9 => h9) rfl dX1_jobAt_8 ?_
  refine lv_iconst (v := iI 1) hx hb dX1_jobAt_11 rfl ?_
  refine w_isub (z := (nn : Int) - 1) hx hb dX1_jobAt_12 (by omega) ?_
  refine w_pS (As := [.int (iI ((q : Int))), .int (iI 0), .int (iI ((nn : Int) - 1))]) (rest := []) ⟨hx, hb, hml, hown, hts⟩ hK hP (mX1_in_y  (by omega) (by omega)) (va_cwS 3 hts gX1_jobAt_X1_in rfl rfl rfl (by decide +kernel) ⟨Nat.le_of_ble_eq_true rfl, Nat.le_of_ble_eq_true rfl⟩) rfl hl.1 rfl (Nat.le_of_ble_eq_true rfl) dX1_jobAt_13 ⟨Nat.zero_le _, Nat.zero_le _⟩ (fun r13 hr13 => ?_)
  refine w_top (v := iI (1)) (hr13.trans (congrArg iI (by omega))) ?_
  refine w_if_eq (tgt := 28) hx hb dX1_jobAt_16 (by decide) ⟨by omega, by omega⟩ (fun c16 => absurd c16 (by omega)) (fun c16 => ?_)
  refine lv_aload_n hx hb dX1_jobAt_19 rfl (lv_at hl 0 rfl) ?_
  refine va_get (D := D) (ci := 1) (C := RX1) (T := TX1) (N := 10) hx hb hts inW hown hK hP 0 rfl rfl 4 (by decide) (hts (.fieldLink RX1 17 "FlowforgeModel" "order" "[I") (List.mem_of_getElem? (i := 3) rfl)) (fun _ h9 => h9) rfl dX1_jobAt_20 ?_
  refine lv_iload_n hx hb dX1_jobAt_23 rfl (lv_at hl 1 rfl) ?_
  refine w_iald (v := iI ((oO q : Nat) : Int)) hx hb hK hP 2 0 rfl rfl (q) (by omega) (by omega) (by decide) rfl dX1_jobAt_24 ?_
  refine lv_goto (tgt := 33) hx hb dX1_jobAt_25 (by decide) ?_
  exact hret _ _ 33 ls _ (()) hP hD hS (rfl) dX1_jobAt_33
set_option maxHeartbeats 4000000 in
set_option maxRecDepth 100000 in
theorem mX1_jobAt_e {x : Int} (hn : nn ≤ 7) (hr9 : -2147483648 ≤ x ∧ x ≤ 2147483647) (hbad : ¬ (0 ≤ x ∧ x < (nn : Int))) : IM l yX1_jobAt wsX1_jobAt (rmx 1 22) D (tyk cI cZ cJ) (mw bd cI th nn mm bm tT oO tB tL oR oJ) [.ref (bd 0), .int (iI (x))] (QI D (tyk cI cZ cJ) (fun u : Unit => mw bd cI 1 nn mm bm tT oO tB tL oR oJ) (fun x _ => x = iI 0)) := by
  refine imI_of (cc := cX1_jobAt) (maxL := 2) (by decide) rfl (Nat.le_of_ble_eq_true rfl) ?_
  intro p e s m args below meth c A Q hx hb hml hown hts hA hK hP hD hS hret ls hl
  have hown : s.vm.findClass RX1 = some m.cls := hown
  have hl : lv_has ls 2 [(0, .ref (bd 0)), (1, .int (iI (x)))] := hl
  have inW : ∀ w ∈ wsX10, w ∈ wsX1_jobAt := by first | exact (fun w h => List.mem_cons_of_mem _ (List.mem_append_right _ h)) | exact (fun w h => List.mem_cons_of_mem _ (List.mem_append_left _ (List.mem_append_right _ h))) | exact (fun w h => List.mem_cons_of_mem _ (List.mem_append_left _ (List.mem_append_left _ (List.mem_append_right _ h)))) | decide +kernel
  refine lv_aload_n hx hb dX1_jobAt_0 rfl (lv_at hl 0 rfl) ?_
  refine lv_iconst (v := iI 0) hx hb dX1_jobAt_1 rfl ?_
  refine va_put (D := D) (ci := 1) (ty := .int) (C := RX1) (T := TX1) (N := 10) hx hb hts inW tyX1 tyX1_ok nmX1 hown hK hP hD hS 0 rfl rfl 0 (by decide) (hts (.fieldLink RX1 32 "FlowforgeModel" "thrown" "I") (List.mem_of_getElem? (i := 1) rfl)) (fun _ h9 => h9) rfl (by decide +kernel) rfl rfl (Nat.le_of_ble_eq_true rfl) dX1_jobAt_2 (fun H locs hP hD hS => ?_)
  have hP : va_P D vwCl (mw bd cI 0 nn mm bm tT oO tB tL oR oJ) H := hP
  have hD : va_D A (mw bd cI 0 nn mm bm tT oO tB tL oR oJ) := hD
  refine lv_iload_n hx hb dX1_jobAt_5 rfl (lv_at hl 1 rfl) ?_
  refine lv_iconst (v := iI 0) hx hb dX1_jobAt_6 rfl ?_
  refine lv_aload_n hx hb dX1_jobAt_7 rfl (lv_at hl 0 rfl) ?_
  refine va_get (D := D) (ci := 1) (C := RX1) (T := TX1) (N := 10) hx hb hts inW hown hK hP 0 rfl rfl 1 (by decide) (hts (.fieldLink RX1 35 "FlowforgeModel" "many" "I") (List.mem_of_getElem? (i := 2) rfl)) (fun _ h9 => h9) rfl dX1_jobAt_8 ?_
  refine lv_iconst (v := iI 1) hx hb dX1_jobAt_11 rfl ?_
  refine w_isub (z := (nn : Int) - 1) hx hb dX1_jobAt_12 (by omega) ?_
  refine w_pS (As := [.int (iI (x)), .int (iI 0), .int (iI ((nn : Int) - 1))]) (rest := []) ⟨hx, hb, hml, hown, hts⟩ hK hP (mX1_in_n  (by omega) (by omega)) (va_cwS 3 hts gX1_jobAt_X1_in rfl rfl rfl (by decide +kernel) ⟨Nat.le_of_ble_eq_true rfl, Nat.le_of_ble_eq_true rfl⟩) rfl hl.1 rfl (Nat.le_of_ble_eq_true rfl) dX1_jobAt_13 ⟨Nat.zero_le _, Nat.zero_le _⟩ (fun r13 hr13 => ?_)
  refine w_top (v := iI (0)) (hr13.trans (congrArg iI (by omega))) ?_
  refine w_if_eq (tgt := 28) hx hb dX1_jobAt_16 (by decide) ⟨by omega, by omega⟩ (fun c16 => ?_) (fun c16 => absurd c16 (by omega))
  refine lv_aload_n hx hb dX1_jobAt_28 rfl (lv_at hl 0 rfl) ?_
  refine lv_iconst (v := iI 1) hx hb dX1_jobAt_29 rfl ?_
  refine w_iV (As := [.int (iI 1)]) (rest := []) (wf := fun u : Unit => mw bd cI 1 nn mm bm tT oO tB tL oR oJ) (wr := []) ⟨hx, hb, hml, hown, hts⟩ hK hP hD hS hA (mX1_fails  ) (cwV 1 hts gX1_jobAt_X1_fails rfl rfl rfl (by decide +kernel) ⟨Nat.le_of_ble_eq_true rfl, Nat.le_of_ble_eq_true rfl⟩) [0, 1, 2, 3, 4, 5, 6] [] [0, 1, 2, 3, 4, 5, 6] rfl rfl (by decide) (by decide) (by decide) (hwf := fun _ => rfl) (by decide) (ci := 1) rfl rfl rfl rfl hl.1 rfl (Nat.le_of_ble_eq_true rfl) dX1_jobAt_30 ⟨Nat.zero_le _, Nat.zero_le _⟩ (fun r30 u H locs hr30 hP hD hS => ?_)
  refine w_top (v := iI (0)) (hr30.trans (congrArg iI (by omega))) ?_
  exact hret _ _ 33 ls _ (()) hP hD hS (rfl) dX1_jobAt_33
set_option maxHeartbeats 4000000 in
set_option maxRecDepth 100000 in
theorem mX1_move {j q b : Nat} (hn : nn ≤ 7) (hm : 1 ≤ mm ∧ mm ≤ 5) (hO : ∀ k, k < nn → oO k < 7) (hjn : j < nn) (hq : q < nn) (hj : j = oO q) (hw : ∀ k, k < q → oO k ≠ j) (hbn : b < nn) : IM l yX1_move wsX1_move (rmx 2 44) D (tyk cI cZ cJ) (mw bd cI th nn mm bm tT oO tB tL oR oJ) [.ref (bd 0), .int (iI ((j : Int))), .int (iI ((b : Int)))] (QI D (tyk cI cZ cJ) (fun u : Unit => mw bd cI 0 nn mm bm tT (ovr (shf (ovr oO oR nn) q b) oO nn) tB tL (shf (ovr oO oR nn) q b) oJ) (fun y _ => y = iI (q : Int))) := by
  refine imI_of (cc := cX1_move) (maxL := 4) (by decide) rfl (Nat.le_of_ble_eq_true rfl) ?_
  intro p e s m args below meth c A Q hx hb hml hown hts hA hK hP hD hS hret ls hl
  have hown : s.vm.findClass RX1 = some m.cls := hown
  have hl : lv_has ls 4 [(0, .ref (bd 0)), (1, .int (iI ((j : Int)))), (2, .int (iI ((b : Int))))] := hl
  have inW : ∀ w ∈ wsX10, w ∈ wsX1_move := by first | exact (fun w h => List.mem_cons_of_mem _ (List.mem_append_right _ h)) | exact (fun w h => List.mem_cons_of_mem _ (List.mem_append_left _ (List.mem_append_right _ h))) | exact (fun w h => List.mem_cons_of_mem _ (List.mem_append_left _ (List.mem_append_left _ (List.mem_append_right _ h)))) | decide +kernel
  refine lv_aload_n hx hb dX1_move_0 rfl (lv_at hl 0 rfl) ?_
  refine lv_aload_n hx hb dX1_move_1 rfl (lv_at hl 0 rfl) ?_
  refine lv_iload_n hx hb dX1_move_2 rfl (lv_at hl 1 rfl) ?_
  refine lv_iload_n hx hb dX1_move_3 rfl (lv_at hl 2 rfl) ?_
  refine w_pV (As := [.int (iI ((j : Int))), .int (iI ((b : Int)))]) (rest := [.ref (bd 0)]) ⟨hx, hb, hml, hown, hts⟩ hK hP (mX1_canMove_y (j := j) (k := b) hn hm.2 hjn hbn) (cwV 2 hts gX1_move_X1_canMove rfl rfl rfl (by decide +kernel) ⟨Nat.le_of_ble_eq_true rfl, Nat.le_of_ble_eq_true rfl⟩) (ci := 1) rfl rfl rfl rfl hl.1 rfl (Nat.le_of_ble_eq_true rfl) dX1_move_4 ⟨Nat.zero_le _, Nat.zero_le _⟩ (fun r4 hr4 => ?_)
  refine w_top (v := iI (1)) (hr4.trans (congrArg iI (by omega))) ?_
  refine w_if_eq (tgt := 14) hx hb dX1_move_7 (by decide) ⟨by omega, by omega⟩ (fun c7 => absurd c7 (by omega)) (fun c7 => ?_)
  refine lv_iconst (v := iI 0) hx hb dX1_move_10 rfl ?_
  refine lv_goto (tgt := 15) hx hb dX1_move_11 (by decide) ?_
  refine va_put (D := D) (ci := 1) (ty := .int) (C := RX1) (T := TX1) (N := 10) hx hb hts inW tyX1 tyX1_ok nmX1 hown hK hP hD hS 0 rfl rfl 0 (by decide) (hts (.fieldLink RX1 32 "FlowforgeModel" "thrown" "I") (List.mem_of_getElem? (i := 1) rfl)) (fun _ h9 => h9) rfl (by decide +kernel) rfl rfl (Nat.le_of_ble_eq_true rfl) dX1_move_15 (fun H locs hP hD hS => ?_)
  have hP : va_P D vwCl (mw bd cI 0 nn mm bm tT oO tB tL oR oJ) H := hP
  have hD : va_D A (mw bd cI 0 nn mm bm tT oO tB tL oR oJ) := hD
  refine lv_aload_n hx hb dX1_move_18 rfl (lv_at hl 0 rfl) ?_
  refine va_get (D := D) (ci := 1) (C := RX1) (T := TX1) (N := 10) hx hb hts inW hown hK hP 0 rfl rfl 0 (by decide) (hts (.fieldLink RX1 32 "FlowforgeModel" "thrown" "I") (List.mem_of_getElem? (i := 1) rfl)) (fun _ h9 => h9) rfl dX1_move_19 ?_
  refine w_if_le (tgt := 27) hx hb dX1_move_22 (by decide) ⟨by omega, by omega⟩ (fun c22 => ?_) (fun c22 => absurd c22 (by omega))
  refine lv_aload_n hx hb dX1_move_27 rfl (lv_at hl 0 rfl) ?_
  refine lv_iload_n hx hb dX1_move_28 rfl (lv_at hl 1 rfl) ?_
  refine w_pV (As := [.int (iI ((j : Int)))]) (rest := []) ⟨hx, hb, hml, hown, hts⟩ hK hP (mX1_placeOf  (q := q) hn hq hj hw hO) (cwV 1 hts gX1_move_X1_placeOf rfl rfl rfl (by decide +kernel) ⟨Nat.le_of_ble_eq_true rfl, Nat.le_of_ble_eq_true rfl⟩) (ci := 1) rfl rfl rfl rfl hl.1 rfl (Nat.le_of_ble_eq_true rfl) dX1_move_29 ⟨Nat.zero_le _, Nat.zero_le _⟩ (fun r29 hr29 => ?_)
  refine w_top (v := iI ((q : Int))) (hr29) ?_
  refine lv_istore_n (lv' := [(3, .int (iI ((q : Int)))), (0, .ref (bd 0)), (1, .int (iI ((j : Int)))), (2, .int (iI ((b : Int))))]) hx hb dX1_move_32 rfl hl (by decide) rfl (fun ls hl => ?_)
  refine lv_aload_n hx hb dX1_move_33 rfl (lv_at hl 1 rfl) ?_
  refine lv_iload_n hx hb dX1_move_34 rfl (lv_at hl 0 rfl) ?_
  refine lv_iload_n hx hb dX1_move_35 rfl (lv_at hl 3 rfl) ?_
  refine w_iVv (As := [.int (iI ((q : Int))), .int (iI ((b : Int)))]) (rest := []) (wf := fun u : Unit => mw bd cI 0 nn mm bm tT oO tB tL (shf (ovr oO oR nn) q b) oJ) (wr := []) ⟨hx, hb, hml, hown, hts⟩ hK hP hD hS hA (mX1_triesMove  hn hq hbn) (cwV 2 hts gX1_move_X1_triesMove rfl rfl rfl (by decide +kernel) ⟨Nat.le_of_ble_eq_true rfl, Nat.le_of_ble_eq_true rfl⟩) [0, 1, 2, 3, 4, 5, 6] [] [0, 1, 2, 3, 4, 5, 6] rfl rfl (by decide) (by decide) (by decide) (hwf := fun _ => rfl) (by decide) (ci := 1) rfl rfl rfl rfl hl.1 rfl (Nat.le_of_ble_eq_true rfl) dX1_move_36 ⟨Nat.zero_le _, Nat.zero_le _⟩ (fun u H locs hr36 hP hD hS => ?_)
  refine lv_aload_n hx hb dX1_move_39 rfl (lv_at hl 1 rfl) ?_
  refine w_iVv (As := []) (rest := []) (wf := fun u : Unit => mw bd cI 0 nn mm bm tT (ovr (shf (ovr oO oR nn) q b) oO nn) tB tL (shf (ovr oO oR nn) q b) oJ) (wr := []) ⟨hx, hb, hml, hown, hts⟩ hK hP hD hS hA (mX1_takesTrial  hn) (cwV 0 hts gX1_move_X1_takesTrial rfl rfl rfl (by decide +kernel) ⟨Nat.le_of_ble_eq_true rfl, Nat.le_of_ble_eq_true rfl⟩) [0, 1, 2, 3, 4, 5, 6] [] [0, 1, 2, 3, 4, 5, 6] rfl rfl (by decide) (by decide) (by decide) (hwf := fun _ => rfl) (by decide) (ci := 1) rfl rfl rfl rfl hl.1 rfl (Nat.le_of_ble_eq_true rfl) dX1_move_40 ⟨Nat.zero_le _, Nat.zero_le _⟩ (fun u H locs hr40 hP hD hS => ?_)
  refine lv_iload_n hx hb dX1_move_43 rfl (lv_at hl 0 rfl) ?_
  exact hret _ _ 44 ls _ (()) hP hD hS (rfl) dX1_move_44
set_option maxHeartbeats 4000000 in
set_option maxRecDepth 100000 in
theorem mX1_move_e {x y : Int} (hn : nn ≤ 7) (hm : 1 ≤ mm ∧ mm ≤ 5) (hr9 : -2147483648 ≤ x ∧ x ≤ 2147483647 ∧ -2147483648 ≤ y ∧ y ≤ 2147483647) (hbad : ¬ ((0 ≤ x ∧ x < (nn : Int)) ∧ 0 ≤ y ∧ y < (nn : Int))) : IM l yX1_move wsX1_move (rmx 2 44) D (tyk cI cZ cJ) (mw bd cI th nn mm bm tT oO tB tL oR oJ) [.ref (bd 0), .int (iI (x)), .int (iI (y))] (QI D (tyk cI cZ cJ) (fun u : Unit => mw bd cI 1 nn mm bm tT oO tB tL oR oJ) (fun x _ => x = iI 0)) := by
  refine imI_of (cc := cX1_move) (maxL := 4) (by decide) rfl (Nat.le_of_ble_eq_true rfl) ?_
  intro p e s m args below meth c A Q hx hb hml hown hts hA hK hP hD hS hret ls hl
  have hown : s.vm.findClass RX1 = some m.cls := hown
  have hl : lv_has ls 4 [(0, .ref (bd 0)), (1, .int (iI (x))), (2, .int (iI (y)))] := hl
  have inW : ∀ w ∈ wsX10, w ∈ wsX1_move := by first | exact (fun w h => List.mem_cons_of_mem _ (List.mem_append_right _ h)) | exact (fun w h => List.mem_cons_of_mem _ (List.mem_append_left _ (List.mem_append_right _ h))) | exact (fun w h => List.mem_cons_of_mem _ (List.mem_append_left _ (List.mem_append_left _ (List.mem_append_right _ h)))) | decide +kernel
  refine lv_aload_n hx hb dX1_move_0 rfl (lv_at hl 0 rfl) ?_
  refine lv_aload_n hx hb dX1_move_1 rfl (lv_at hl 0 rfl) ?_
  refine lv_iload_n hx hb dX1_move_2 rfl (lv_at hl 1 rfl) ?_
  refine lv_iload_n hx hb dX1_move_3 rfl (lv_at hl 2 rfl) ?_
  refine w_pV (As := [.int (iI (x)), .int (iI (y))]) (rest := [.ref (bd 0)]) ⟨hx, hb, hml, hown, hts⟩ hK hP (mX1_canMove_n  hn hm.2 (by omega) hbad) (cwV 2 hts gX1_move_X1_canMove rfl rfl rfl (by decide +kernel) ⟨Nat.le_of_ble_eq_true rfl, Nat.le_of_ble_eq_true rfl⟩) (ci := 1) rfl rfl rfl rfl hl.1 rfl (Nat.le_of_ble_eq_true rfl) dX1_move_4 ⟨Nat.zero_le _, Nat.zero_le _⟩ (fun r4 hr4 => ?_)
  refine w_top (v := iI (0)) (hr4.trans (congrArg iI (by omega))) ?_
  refine w_if_eq (tgt := 14) hx hb dX1_move_7 (by decide) ⟨by omega, by omega⟩ (fun c7 => ?_) (fun c7 => absurd c7 (by omega))
  refine lv_iconst (v := iI 1) hx hb dX1_move_14 rfl ?_
  refine va_put (D := D) (ci := 1) (ty := .int) (C := RX1) (T := TX1) (N := 10) hx hb hts inW tyX1 tyX1_ok nmX1 hown hK hP hD hS 0 rfl rfl 0 (by decide) (hts (.fieldLink RX1 32 "FlowforgeModel" "thrown" "I") (List.mem_of_getElem? (i := 1) rfl)) (fun _ h9 => h9) rfl (by decide +kernel) rfl rfl (Nat.le_of_ble_eq_true rfl) dX1_move_15 (fun H locs hP hD hS => ?_)
  have hP : va_P D vwCl (mw bd cI 1 nn mm bm tT oO tB tL oR oJ) H := hP
  have hD : va_D A (mw bd cI 1 nn mm bm tT oO tB tL oR oJ) := hD
  refine lv_aload_n hx hb dX1_move_18 rfl (lv_at hl 0 rfl) ?_
  refine va_get (D := D) (ci := 1) (C := RX1) (T := TX1) (N := 10) hx hb hts inW hown hK hP 0 rfl rfl 0 (by decide) (hts (.fieldLink RX1 32 "FlowforgeModel" "thrown" "I") (List.mem_of_getElem? (i := 1) rfl)) (fun _ h9 => h9) rfl dX1_move_19 ?_
  refine w_if_le (tgt := 27) hx hb dX1_move_22 (by decide) ⟨by omega, by omega⟩ (fun c22 => absurd c22 (by omega)) (fun c22 => ?_)
  refine lv_iconst (v := iI 0) hx hb dX1_move_25 rfl ?_
  exact hret _ _ 26 ls _ (()) hP hD hS (rfl) dX1_move_26
set_option maxHeartbeats 4000000 in
set_option maxRecDepth 100000 in
theorem mX1_makespanIfMoved {j q b : Nat} (hT : ∀ k, 0 ≤ tT k ∧ tT k ≤ 99) (hn : nn ≤ 7) (hm : 1 ≤ mm ∧ mm ≤ 5) (hO : ∀ k, k < nn → oO k < 7) (hjn : j < nn) (hq : q < nn) (hj : j = oO q) (hw : ∀ k, k < q → oO k ≠ j) (hbn : b < nn) : IM l yX1_makespanIfMoved wsX1_makespanIfMoved (rmx 4 96) D (tyk cI cZ cJ) (mw bd cI th nn mm bm tT oO tB tL oR oJ) [.ref (bd 0), .int (iI ((j : Int))), .int (iI ((b : Int)))] (QI D (tyk cI cZ cJ) (fun u : (Nat → Int) => mw bd cI 0 nn mm bm tT oO u tL (shf (ovr oO oR nn) q b) oJ) (fun y u => y = iI (mkS tT mm oO q nn b))) := by
  refine imI_of (cc := cX1_makespanIfMoved) (maxL := 3) (by decide) rfl (Nat.le_of_ble_eq_true rfl) ?_
  intro p e s m args below meth c A Q hx hb hml hown hts hA hK hP hD hS hret ls hl
  have hown : s.vm.findClass RX1 = some m.cls := hown
  have hl : lv_has ls 3 [(0, .ref (bd 0)), (1, .int (iI ((j : Int)))), (2, .int (iI ((b : Int))))] := hl
  have inW : ∀ w ∈ wsX10, w ∈ wsX1_makespanIfMoved := by first | exact (fun w h => List.mem_cons_of_mem _ (List.mem_append_right _ h)) | exact (fun w h => List.mem_cons_of_mem _ (List.mem_append_left _ (List.mem_append_right _ h))) | exact (fun w h => List.mem_cons_of_mem _ (List.mem_append_left _ (List.mem_append_left _ (List.mem_append_right _ h)))) | decide +kernel
  refine lv_aload_n hx hb dX1_makespanIfMoved_0 rfl (lv_at hl 0 rfl) ?_
  refine lv_aload_n hx hb dX1_makespanIfMoved_1 rfl (lv_at hl 0 rfl) ?_
  refine lv_iload_n hx hb dX1_makespanIfMoved_2 rfl (lv_at hl 1 rfl) ?_
  refine lv_iload_n hx hb dX1_makespanIfMoved_3 rfl (lv_at hl 2 rfl) ?_
  refine w_pV (As := [.int (iI ((j : Int))), .int (iI ((b : Int)))]) (rest := [.ref (bd 0)]) ⟨hx, hb, hml, hown, hts⟩ hK hP (mX1_canMove_y (j := j) (k := b) hn hm.2 hjn hbn) (cwV 2 hts gX1_makespanIfMoved_X1_canMove rfl rfl rfl (by decide +kernel) ⟨Nat.le_of_ble_eq_true rfl, Nat.le_of_ble_eq_true rfl⟩) (ci := 1) rfl rfl rfl rfl hl.1 rfl (Nat.le_of_ble_eq_true rfl) dX1_makespanIfMoved_4 ⟨Nat.zero_le _, Nat.zero_le _⟩ (fun r4 hr4 => ?_)
  refine w_top (v := iI (1)) (hr4.trans (congrArg iI (by omega))) ?_
  refine w_if_eq (tgt := 14) hx hb dX1_makespanIfMoved_7 (by decide) ⟨by omega, by omega⟩ (fun c7 => absurd c7 (by omega)) (fun c7 => ?_)
  refine lv_iconst (v := iI 0) hx hb dX1_makespanIfMoved_10 rfl ?_
  refine lv_goto (tgt := 15) hx hb dX1_makespanIfMoved_11 (by decide) ?_
  refine va_put (D := D) (ci := 1) (ty := .int) (C := RX1) (T := TX1) (N := 10) hx hb hts inW tyX1 tyX1_ok nmX1 hown hK hP hD hS 0 rfl rfl 0 (by decide) (hts (.fieldLink RX1 32 "FlowforgeModel" "thrown" "I") (List.mem_of_getElem? (i := 1) rfl)) (fun _ h9 => h9) rfl (by decide +kernel) rfl rfl (Nat.le_of_ble_eq_true rfl) dX1_makespanIfMoved_15 (fun H locs hP hD hS => ?_)
  have hP : va_P D vwCl (mw bd cI 0 nn mm bm tT oO tB tL oR oJ) H := hP
  have hD : va_D A (mw bd cI 0 nn mm bm tT oO tB tL oR oJ) := hD
  refine lv_aload_n hx hb dX1_makespanIfMoved_18 rfl (lv_at hl 0 rfl) ?_
  refine va_get (D := D) (ci := 1) (C := RX1) (T := TX1) (N := 10) hx hb hts inW hown hK hP 0 rfl rfl 0 (by decide) (hts (.fieldLink RX1 32 "FlowforgeModel" "thrown" "I") (List.mem_of_getElem? (i := 1) rfl)) (fun _ h9 => h9) rfl dX1_makespanIfMoved_19 ?_
  refine w_if_le (tgt := 27) hx hb dX1_makespanIfMoved_22 (by decide) ⟨by omega, by omega⟩ (fun c22 => ?_) (fun c22 => absurd c22 (by omega))
  refine lv_aload_n hx hb dX1_makespanIfMoved_27 rfl (lv_at hl 0 rfl) ?_
  refine lv_aload_n hx hb dX1_makespanIfMoved_28 rfl (lv_at hl 0 rfl) ?_
  refine lv_iload_n hx hb dX1_makespanIfMoved_29 rfl (lv_at hl 1 rfl) ?_
  refine w_pV (As := [.int (iI ((j : Int)))]) (rest := [.ref (bd 0)]) ⟨hx, hb, hml, hown, hts⟩ hK hP (mX1_placeOf  (q := q) hn hq hj hw hO) (cwV 1 hts gX1_makespanIfMoved_X1_placeOf rfl rfl rfl (by decide +kernel) ⟨Nat.le_of_ble_eq_true rfl, Nat.le_of_ble_eq_true rfl⟩) (ci := 1) rfl rfl rfl rfl hl.1 rfl (Nat.le_of_ble_eq_true rfl) dX1_makespanIfMoved_30 ⟨Nat.zero_le _, Nat.zero_le _⟩ (fun r30 hr30 => ?_)
  refine w_top (v := iI ((q : Int))) (hr30) ?_
  refine lv_iload_n hx hb dX1_makespanIfMoved_33 rfl (lv_at hl 2 rfl) ?_
  refine w_iVv (As := [.int (iI ((q : Int))), .int (iI ((b : Int)))]) (rest := []) (wf := fun u : Unit => mw bd cI 0 nn mm bm tT oO tB tL (shf (ovr oO oR nn) q b) oJ) (wr := []) ⟨hx, hb, hml, hown, hts⟩ hK hP hD hS hA (mX1_triesMove  hn hq hbn) (cwV 2 hts gX1_makespanIfMoved_X1_triesMove rfl rfl rfl (by decide +kernel) ⟨Nat.le_of_ble_eq_true rfl, Nat.le_of_ble_eq_true rfl⟩) [0, 1, 2, 3, 4, 5, 6] [] [0, 1, 2, 3, 4, 5, 6] rfl rfl (by decide) (by decide) (by decide) (hwf := fun _ => rfl) (by decide) (ci := 1) rfl rfl rfl rfl hl.1 rfl (Nat.le_of_ble_eq_true rfl) dX1_makespanIfMoved_34 ⟨Nat.zero_le _, Nat.zero_le _⟩ (fun u H locs hr34 hP hD hS => ?_)
  refine lv_aload_n hx hb dX1_makespanIfMoved_37 rfl (lv_at hl 0 rfl) ?_
  refine lv_iconst (v := iI 0) hx hb dX1_makespanIfMoved_38 rfl ?_
  refine lv_aload_n hx hb dX1_makespanIfMoved_39 rfl (lv_at hl 0 rfl) ?_
  refine va_get (D := D) (ci := 1) (C := RX1) (T := TX1) (N := 10) hx hb hts inW hown hK hP 0 rfl rfl 7 (by decide) (hts (.fieldLink RX1 26 "FlowforgeModel" "trial" "[I") (List.mem_of_getElem? (i := 2) rfl)) (fun _ h9 => h9) rfl dX1_makespanIfMoved_40 ?_
  refine lv_aload_n hx hb dX1_makespanIfMoved_43 rfl (lv_at hl 0 rfl) ?_
  refine va_get (D := D) (ci := 1) (C := RX1) (T := TX1) (N := 10) hx hb hts inW hown hK hP 0 rfl rfl 1 (by decide) (hts (.fieldLink RX1 35 "FlowforgeModel" "many" "I") (List.mem_of_getElem? (i := 3) rfl)) (fun _ h9 => h9) rfl dX1_makespanIfMoved_44 ?_
  refine w_iV (As := [.int (iI 0), .ref (bd 5), .int (iI ((nn : Int)))]) (rest := []) (wf := fun u : (Nat → Int) => mw bd cI 0 nn mm bm tT oO u tL (shf (ovr oO oR nn) q b) oJ) (wr := []) ⟨hx, hb, hml, hown, hts⟩ hK hP hD hS hA (mX1_lays_t (v := 0) hT hm (by omega) hn (shf_lt hq hbn (fun k hk => by rw [ovr_in hk]; exact hO k hk))) (cwV 3 hts gX1_makespanIfMoved_X1_lays rfl rfl rfl (by decide +kernel) ⟨Nat.le_of_ble_eq_true rfl, Nat.le_of_ble_eq_true rfl⟩) [0, 1, 2, 3, 4, 5, 6] [] [0, 1, 2, 3, 4, 5, 6] rfl rfl (by decide) (by decide) (by decide) (hwf := fun _ => rfl) (by decide) (ci := 1) rfl rfl rfl rfl hl.1 rfl (Nat.le_of_ble_eq_true rfl) dX1_makespanIfMoved_47 ⟨Nat.zero_le _, Nat.zero_le _⟩ (fun r47 u H locs hr47 hP hD hS => ?_)
  obtain ⟨uB, huB⟩ : ∃ z, z = u := ⟨_, rfl⟩
  subst huB
  obtain ⟨hq47, hI⟩ := hr47
  have hP : va_P D vwCl (mw bd cI 0 nn mm bm tT oO uB tL (shf (ovr oO oR nn) q b) oJ) H := hP
  have hD : va_D A (mw bd cI 0 nn mm bm tT oO uB tL (shf (ovr oO oR nn) q b) oJ) := hD
  refine w_top (v := iI ((mkS tT mm oO q nn b))) (hq47.trans (congrArg iI (mk_cg (shf_cg hq hbn (fun k hk => ovr_in hk))))) ?_
  exact hret _ _ 50 ls _ (uB) hP hD hS (rfl) dX1_makespanIfMoved_50
set_option maxHeartbeats 4000000 in
set_option maxRecDepth 100000 in
theorem mX1_makespanIfMoved_e {x y : Int} (hn : nn ≤ 7) (hm : 1 ≤ mm ∧ mm ≤ 5) (hr9 : -2147483648 ≤ x ∧ x ≤ 2147483647 ∧ -2147483648 ≤ y ∧ y ≤ 2147483647) (hbad : ¬ ((0 ≤ x ∧ x < (nn : Int)) ∧ 0 ≤ y ∧ y < (nn : Int))) : IM l yX1_makespanIfMoved wsX1_makespanIfMoved (rmx 2 44) D (tyk cI cZ cJ) (mw bd cI th nn mm bm tT oO tB tL oR oJ) [.ref (bd 0), .int (iI (x)), .int (iI (y))] (QI D (tyk cI cZ cJ) (fun u : Unit => mw bd cI 1 nn mm bm tT oO tB tL oR oJ) (fun x _ => x = iI 0)) := by
  refine imI_of (cc := cX1_makespanIfMoved) (maxL := 3) (by decide) rfl (Nat.le_of_ble_eq_true rfl) ?_
  intro p e s m args below meth c A Q hx hb hml hown hts hA hK hP hD hS hret ls hl
  have hown : s.vm.findClass RX1 = some m.cls := hown
  have hl : lv_has ls 3 [(0, .ref (bd 0)), (1, .int (iI (x))), (2, .int (iI (y)))] := hl
  have inW : ∀ w ∈ wsX10, w ∈ wsX1_makespanIfMoved := by first | exact (fun w h => List.mem_cons_of_mem _ (List.mem_append_right _ h)) | exact (fun w h => List.mem_cons_of_mem _ (List.mem_append_left _ (List.mem_append_right _ h))) | exact (fun w h => List.mem_cons_of_mem _ (List.mem_append_left _ (List.mem_append_left _ (List.mem_append_right _ h)))) | decide +kernel
  refine lv_aload_n hx hb dX1_makespanIfMoved_0 rfl (lv_at hl 0 rfl) ?_
  refine lv_aload_n hx hb dX1_makespanIfMoved_1 rfl (lv_at hl 0 rfl) ?_
  refine lv_iload_n hx hb dX1_makespanIfMoved_2 rfl (lv_at hl 1 rfl) ?_
  refine lv_iload_n hx hb dX1_makespanIfMoved_3 rfl (lv_at hl 2 rfl) ?_
  refine w_pV (As := [.int (iI (x)), .int (iI (y))]) (rest := [.ref (bd 0)]) ⟨hx, hb, hml, hown, hts⟩ hK hP (mX1_canMove_n  hn hm.2 (by omega) hbad) (cwV 2 hts gX1_makespanIfMoved_X1_canMove rfl rfl rfl (by decide +kernel) ⟨Nat.le_of_ble_eq_true rfl, Nat.le_of_ble_eq_true rfl⟩) (ci := 1) rfl rfl rfl rfl hl.1 rfl (Nat.le_of_ble_eq_true rfl) dX1_makespanIfMoved_4 ⟨Nat.zero_le _, Nat.zero_le _⟩ (fun r4 hr4 => ?_)
  refine w_top (v := iI (0)) (hr4.trans (congrArg iI (by omega))) ?_
  refine w_if_eq (tgt := 14) hx hb dX1_makespanIfMoved_7 (by decide) ⟨by omega, by omega⟩ (fun c7 => ?_) (fun c7 => absurd c7 (by omega))
  refine lv_iconst (v := iI 1) hx hb dX1_makespanIfMoved_14 rfl ?_
  refine va_put (D := D) (ci := 1) (ty := .int) (C := RX1) (T := TX1) (N := 10) hx hb hts inW tyX1 tyX1_ok nmX1 hown hK hP hD hS 0 rfl rfl 0 (by decide) (hts (.fieldLink RX1 32 "FlowforgeModel" "thrown" "I") (List.mem_of_getElem? (i := 1) rfl)) (fun _ h9 => h9) rfl (by decide +kernel) rfl rfl (Nat.le_of_ble_eq_true rfl) dX1_makespanIfMoved_15 (fun H locs hP hD hS => ?_)
  have hP : va_P D vwCl (mw bd cI 1 nn mm bm tT oO tB tL oR oJ) H := hP
  have hD : va_D A (mw bd cI 1 nn mm bm tT oO tB tL oR oJ) := hD
  refine lv_aload_n hx hb dX1_makespanIfMoved_18 rfl (lv_at hl 0 rfl) ?_
  refine va_get (D := D) (ci := 1) (C := RX1) (T := TX1) (N := 10) hx hb hts inW hown hK hP 0 rfl rfl 0 (by decide) (hts (.fieldLink RX1 32 "FlowforgeModel" "thrown" "I") (List.mem_of_getElem? (i := 1) rfl)) (fun _ h9 => h9) rfl dX1_makespanIfMoved_19 ?_
  refine w_if_le (tgt := 27) hx hb dX1_makespanIfMoved_22 (by decide) ⟨by omega, by omega⟩ (fun c22 => absurd c22 (by omega)) (fun c22 => ?_)
  refine lv_iconst (v := iI 0) hx hb dX1_makespanIfMoved_25 rfl ?_
  exact hret _ _ 26 ls _ (()) hP hD hS (rfl) dX1_makespanIfMoved_26
set_option maxHeartbeats 4000000 in
set_option maxRecDepth 100000 in
theorem mX1_orderByRule (hT : ∀ k, 0 ≤ tT k ∧ tT k ≤ 99) (hn : nn ≤ 7) (h2 : mm = 2) (hO : ∀ k, k < nn → oO k < 7) : IM l yX1_orderByRule wsX1_orderByRule (rmx 5 116) D (tyk cI cZ cJ) (mw bd cI th nn mm bm tT oO tB tL oR oJ) [.ref (bd 0)] (QI D (tyk cI cZ cJ) (fun u : (Nat → Int) => mw bd cI 0 nn mm bm tT (rk tT nn oO nn) u tL oR oJ) (fun y u => y = iI (mk 0 mm tT (rk tT nn oO nn) nn))) := by
  refine imI_of (cc := cX1_orderByRule) (maxL := 4) (by decide) rfl (Nat.le_of_ble_eq_true rfl) ?_
  intro p e s m args below meth c A Q hx hb hml hown hts hA hK hP hD hS hret ls hl
  have hown : s.vm.findClass RX1 = some m.cls := hown
  have hl : lv_has ls 4 [(0, .ref (bd 0))] := hl
  have inW : ∀ w ∈ wsX10, w ∈ wsX1_orderByRule := by first | exact (fun w h => List.mem_cons_of_mem _ (List.mem_append_right _ h)) | exact (fun w h => List.mem_cons_of_mem _ (List.mem_append_left _ (List.mem_append_right _ h))) | exact (fun w h => List.mem_cons_of_mem _ (List.mem_append_left _ (List.mem_append_left _ (List.mem_append_right _ h)))) | decide +kernel
  have hm : 1 ≤ mm ∧ mm ≤ 5 := by omega
  have hO9 : ∀ k, k < nn → rk tT nn oO nn k < 7 := rk_lt hO hn nn (Nat.le_refl _)
  refine lv_aload_n hx hb dX1_orderByRule_0 rfl (lv_at hl 0 rfl) ?_
  refine lv_aload_n hx hb dX1_orderByRule_1 rfl (lv_at hl 0 rfl) ?_
  refine va_get (D := D) (ci := 1) (C := RX1) (T := TX1) (N := 10) hx hb hts inW hown hK hP 0 rfl rfl 2 (by decide) (hts (.fieldLink RX1 7 "FlowforgeModel" "wide" "I") (List.mem_of_getElem? (i := 1) rfl)) (fun _ h9 => h9) rfl dX1_orderByRule_2 ?_
  refine lv_iconst (v := iI 2) hx hb dX1_orderByRule_5 rfl ?_
  refine w_icmp_ne (tgt := 13) hx hb dX1_orderByRule_6 (by decide) ⟨by omega, by omega⟩ ⟨by omega, by omega⟩ (fun c6 => absurd c6 (by omega)) (fun c6 => ?_)
  refine lv_iconst (v := iI 0) hx hb dX1_orderByRule_9 rfl ?_
  refine lv_goto (tgt := 14) hx hb dX1_orderByRule_10 (by decide) ?_
  refine va_put (D := D) (ci := 1) (ty := .int) (C := RX1) (T := TX1) (N := 10) hx hb hts inW tyX1 tyX1_ok nmX1 hown hK hP hD hS 0 rfl rfl 0 (by decide) (hts (.fieldLink RX1 32 "FlowforgeModel" "thrown" "I") (List.mem_of_getElem? (i := 2) rfl)) (fun _ h9 => h9) rfl (by decide +kernel) rfl rfl (Nat.le_of_ble_eq_true rfl) dX1_orderByRule_14 (fun H locs hP hD hS => ?_)
  have hP : va_P D vwCl (mw bd cI 0 nn mm bm tT oO tB tL oR oJ) H := hP
  have hD : va_D A (mw bd cI 0 nn mm bm tT oO tB tL oR oJ) := hD
  refine lv_aload_n hx hb dX1_orderByRule_17 rfl (lv_at hl 0 rfl) ?_
  refine va_get (D := D) (ci := 1) (C := RX1) (T := TX1) (N := 10) hx hb hts inW hown hK hP 0 rfl rfl 0 (by decide) (hts (.fieldLink RX1 32 "FlowforgeModel" "thrown" "I") (List.mem_of_getElem? (i := 2) rfl)) (fun _ h9 => h9) rfl dX1_orderByRule_18 ?_
  refine w_if_le (tgt := 26) hx hb dX1_orderByRule_21 (by decide) ⟨by omega, by omega⟩ (fun c21 => ?_) (fun c21 => absurd c21 (by omega))
  refine lv_iconst (v := iI 0) hx hb dX1_orderByRule_26 rfl ?_
  refine lv_istore_n (lv' := [(1, .int (iI 0)), (0, .ref (bd 0))]) hx hb dX1_orderByRule_27 rfl hl (by decide) rfl (fun ls hl => ?_)
  have L28 : ∀ (fu : Nat) (i : Nat) (worder28 : Nat → Nat) (x1_28 : Int), (i ≤ nn) → (worder28 = rk tT nn oO i) → (x1_28 = (i : Int)) → nn - i < fu → ∀ (H : Heap) (locs : List Loc), va_P D vwCl (mw bd cI 0 nn mm bm tT worder28 tB tL oR oJ) H → va_D A (mw bd cI 0 nn mm bm tT worder28 tB tL oR oJ) → va_S A s.heap H locs → ∀ ls : Array Slot, lv_has ls 4 [(1, .int (iI (x1_28))), (0, .ref (bd 0))] → W p l e (rmx 5 116) s m args below meth c H locs 0 0 Q (F0 m 28 ls []) := by
    intro fu
    induction fu with
    | zero =>
      intro i worder28 x1_28 hi hq0 hq1 hfu
      exact absurd hfu (Nat.not_lt_zero _)
    | succ fu ih =>
      intro i worder28 x1_28 hi hq0 hq1 hfu H locs hP hD hS ls hl
      subst hq0
      subst hq1
      have ih28 := ih
      refine lv_iload_n hx hb dX1_orderByRule_28 rfl (lv_at hl 0 rfl) ?_
      refine lv_aload_n hx hb dX1_orderByRule_29 rfl (lv_at hl 1 rfl) ?_
      refine va_get (D := D) (ci := 1) (C := RX1) (T := TX1) (N := 10) hx hb hts inW hown hK hP 0 rfl rfl 1 (by decide) (hts (.fieldLink RX1 35 "FlowforgeModel" "many" "I") (List.mem_of_getElem? (i := 3) rfl)) (fun _ h9 => h9) rfl dX1_orderByRule_30 ?_
      refine w_icmp_ge (tgt := 89) hx hb dX1_orderByRule_33 (by decide) ⟨by omega, by omega⟩ ⟨by omega, by omega⟩ (fun c33 => ?_) (fun c33 => ?_)
      · obtain rfl : nn = i := by omega
        refine lv_aload_n hx hb dX1_orderByRule_89 rfl (lv_at hl 1 rfl) ?_
        refine w_iV (As := []) (rest := []) (wf := fun u : (Nat → Int) => mw bd cI 0 nn mm bm tT (rk tT nn oO nn) u tL oR oJ) (wr := []) ⟨hx, hb, hml, hown, hts⟩ hK hP hD hS hA (mX1_plain  hT hn hm hO9) (cwV 0 hts gX1_orderByRule_X1_plain rfl rfl rfl (by decide +kernel) ⟨Nat.le_of_ble_eq_true rfl, Nat.le_of_ble_eq_true rfl⟩) [0, 1, 2, 3, 4, 5, 6] [] [0, 1, 2, 3, 4, 5, 6] rfl rfl (by decide) (by decide) (by decide) (hwf := fun _ => rfl) (by decide) (ci := 1) rfl rfl rfl rfl hl.1 rfl (Nat.le_of_ble_eq_true rfl) dX1_orderByRule_90 ⟨Nat.zero_le _, Nat.zero_le _⟩ (fun r90 u H locs hr90 hP hD hS => ?_)
        obtain ⟨uB, huB⟩ : ∃ z, z = u := ⟨_, rfl⟩
        subst huB
        obtain ⟨hq90, hI⟩ := hr90
        have hP : va_P D vwCl (mw bd cI 0 nn mm bm tT (rk tT nn oO nn) uB tL oR oJ) H := hP
        have hD : va_D A (mw bd cI 0 nn mm bm tT (rk tT nn oO nn) uB tL oR oJ) := hD
        refine w_top (v := iI ((mk 0 mm tT (rk tT nn oO nn) nn))) (hq90) ?_
        exact hret _ _ 93 ls _ (uB) hP hD hS (rfl) dX1_orderByRule_93
      · refine lv_iconst (v := iI 0) hx hb dX1_orderByRule_36 rfl ?_
        refine lv_istore_n (lv' := [(2, .int (iI 0)), (1, .int (iI ((i : Int)))), (0, .ref (bd 0))]) hx hb dX1_orderByRule_37 rfl hl (by decide) rfl (fun ls hl => ?_)
        refine lv_iconst (v := iI 0) hx hb dX1_orderByRule_38 rfl ?_
        refine lv_istore_n (lv' := [(3, .int (iI 0)), (2, .int (iI 0)), (1, .int (iI ((i : Int)))), (0, .ref (bd 0))]) hx hb dX1_orderByRule_39 rfl hl (by decide) rfl (fun ls hl => ?_)
        have L40 : ∀ (fu : Nat) (j : Nat) (x3_40 : Int) (x2_40 : Int), (j ≤ nn) → (x3_40 = (j : Int)) → (x2_40 = ((cn (ah2 tT i) j : Nat) : Int)) → nn - j < fu → ∀ (H : Heap) (locs : List Loc), va_P D vwCl (mw bd cI 0 nn mm bm tT (rk tT nn oO i) tB tL oR oJ) H → va_D A (mw bd cI 0 nn mm bm tT (rk tT nn oO i) tB tL oR oJ) → va_S A s.heap H locs → ∀ ls : Array Slot, lv_has ls 4 [(3, .int (iI (x3_40))), (2, .int (iI (x2_40))), (1, .int (iI ((i : Int)))), (0, .ref (bd 0))] → W p l e (rmx 5 116) s m args below meth c H locs 0 0 Q (F0 m 40 ls []) := by
          intro fu
          induction fu with
          | zero =>
            intro j x3_40 x2_40 hj hq0 hq1 hfu
            exact absurd hfu (Nat.not_lt_zero _)
          | succ fu ih =>
            intro j x3_40 x2_40 hj hq0 hq1 hfu H locs hP hD hS ls hl
            subst hq0
            subst hq1
            have ih40 := ih
            have hx9 := cn_le (ah2 tT i) j
            refine lv_iload_n hx hb dX1_orderByRule_40 rfl (lv_at hl 0 rfl) ?_
            refine lv_aload_n hx hb dX1_orderByRule_41 rfl (lv_at hl 3 rfl) ?_
            refine va_get (D := D) (ci := 1) (C := RX1) (T := TX1) (N := 10) hx hb hts inW hown hK hP 0 rfl rfl 1 (by decide) (hts (.fieldLink RX1 35 "FlowforgeModel" "many" "I") (List.mem_of_getElem? (i := 3) rfl)) (fun _ h9 => h9) rfl dX1_orderByRule_42 ?_
            refine w_icmp_ge (tgt := 76) hx hb dX1_orderByRule_45 (by decide) ⟨by omega, by omega⟩ ⟨by omega, by omega⟩ (fun c45 => ?_) (fun c45 => ?_)
            · obtain rfl : nn = j := by omega
              have hx8 := cn_lt (ah2_i tT i) nn (by omega)
              refine lv_aload_n hx hb dX1_orderByRule_76 rfl (lv_at hl 3 rfl) ?_
              refine va_get (D := D) (ci := 1) (C := RX1) (T := TX1) (N := 10) hx hb hts inW hown hK hP 0 rfl rfl 4 (by decide) (hts (.fieldLink RX1 17 "FlowforgeModel" "order" "[I") (List.mem_of_getElem? (i := 4) rfl)) (fun _ h9 => h9) rfl dX1_orderByRule_77 ?_
              refine lv_iload_n hx hb dX1_orderByRule_80 rfl (lv_at hl 1 rfl) ?_
              refine lv_iload_n hx hb dX1_orderByRule_81 rfl (lv_at hl 2 rfl) ?_
              refine w_iast (g := jI (va_up (rk tT nn oO i) ((cn (ah2 tT i) nn)) i)) (ws' := mw bd cI 0 nn mm bm tT (va_up (rk tT nn oO i) ((cn (ah2 tT i) nn)) i) tB tL oR oJ) hx hb hK hP hD hS 2 0 rfl rfl ((cn (ah2 tT i) nn)) (by omega) (by omega) (by decide) (hg := jI_up) (hw := rfl) (hd := dX1_orderByRule_82) (kk := fun H locs hP hD hS => ?_)
              refine lv_iinc (v := iI ((i : Int) + 1)) (lv' := [(1, .int (iI ((i : Int) + 1))), (3, .int (iI ((nn : Int)))), (2, .int (iI (((cn (ah2 tT i) nn : Nat) : Int)))), (0, .ref (bd 0))]) hx hb dX1_orderByRule_83 hl (k := 2) rfl (iI_inc (by omega)) (by decide) rfl (fun ls hl => ?_)
              refine lv_goto (tgt := 28) hx hb dX1_orderByRule_86 (by decide) ?_
              exact ih28 (i + 1) (va_up (rk tT nn oO i) ((cn (ah2 tT i) nn)) i) ((i : Int) + 1) (by omega) (rfl) (by omega) (by omega) _ _ hP hD hS ls (lv_sub hl [0, 3] rfl)
            · refine lv_iload_n hx hb dX1_orderByRule_48 rfl (lv_at hl 1 rfl) ?_
              refine lv_iload_n hx hb dX1_orderByRule_49 rfl (lv_at hl 0 rfl) ?_
              refine lv_iload_n hx hb dX1_orderByRule_50 rfl (lv_at hl 2 rfl) ?_
              refine w_icmp_eq (tgt := 67) hx hb dX1_orderByRule_51 (by decide) ⟨by omega, by omega⟩ ⟨by omega, by omega⟩ (fun c51 => ?_) (fun c51 => ?_)
              · have e7 : ah2 tT i j = false := by rw [show j = i by omega]; exact ah2_i tT i
                refine lv_iconst (v := iI 0) hx hb dX1_orderByRule_67 rfl ?_
                refine w_iadd (z := ((cn (ah2 tT i) j : Nat) : Int)) hx hb dX1_orderByRule_68 (by omega) ?_
                refine lv_istore_n (lv' := [(2, .int (iI (((cn (ah2 tT i) j : Nat) : Int)))), (3, .int (iI ((j : Int)))), (1, .int (iI ((i : Int)))), (0, .ref (bd 0))]) hx hb dX1_orderByRule_69 rfl hl (by decide) rfl (fun ls hl => ?_)
                refine lv_iinc (v := iI ((j : Int) + 1)) (lv' := [(3, .int (iI ((j : Int) + 1))), (2, .int (iI (((cn (ah2 tT i) j : Nat) : Int)))), (1, .int (iI ((i : Int)))), (0, .ref (bd 0))]) hx hb dX1_orderByRule_70 hl (k := 1) rfl (iI_inc (by omega)) (by decide) rfl (fun ls hl => ?_)
                refine lv_goto (tgt := 40) hx hb dX1_orderByRule_73 (by decide) ?_
                exact ih40 (j + 1) ((j : Int) + 1) (((cn (ah2 tT i) j : Nat) : Int)) (by omega) (by omega) (by first | (rw [cn_t e7]; try omega) | (rw [cn_f e7]; try omega)) (by omega) _ _ hP hD hS ls (lv_sub hl [0, 1, 2, 3] rfl)
              · refine lv_aload_n hx hb dX1_orderByRule_54 rfl (lv_at hl 3 rfl) ?_
                refine lv_iload_n hx hb dX1_orderByRule_55 rfl (lv_at hl 0 rfl) ?_
                refine lv_iload_n hx hb dX1_orderByRule_56 rfl (lv_at hl 2 rfl) ?_
                refine w_pV (As := [.int (iI ((j : Int))), .int (iI ((i : Int)))]) (rest := [.int (iI (((cn (ah2 tT i) j : Nat) : Int)))]) ⟨hx, hb, hml, hown, hts⟩ hK hP (mX1_isAhead  hT (by omega) (by omega)) (cwV 2 hts gX1_orderByRule_X1_isAhead rfl rfl rfl (by decide +kernel) ⟨Nat.le_of_ble_eq_true rfl, Nat.le_of_ble_eq_true rfl⟩) (ci := 1) rfl rfl rfl rfl hl.1 rfl (Nat.le_of_ble_eq_true rfl) dX1_orderByRule_57 ⟨Nat.zero_le _, Nat.zero_le _⟩ (fun r57 hr57 => ?_)
                have h7 : (if ahd tT j i = true then (1 : Int) else 0) = 0 ∨ (if ahd tT j i = true then (1 : Int) else 0) = 1 := by split <;> simp
                refine w_top (v := iI ((if ahd tT j i = true then 1 else 0))) (hr57) ?_
                refine w_if_eq (tgt := 67) hx hb dX1_orderByRule_60 (by decide) ⟨by omega, by omega⟩ (fun c60 => ?_) (fun c60 => ?_)
                · have e7 : ah2 tT i j = false := (ah2_n (by omega)).trans (by cases hh : ahd tT j i with | false => rfl | true => (rw [if_pos hh] at c60; exact absurd c60 (by omega)))
                  refine lv_iconst (v := iI 0) hx hb dX1_orderByRule_67 rfl ?_
                  refine w_iadd (z := ((cn (ah2 tT i) j : Nat) : Int)) hx hb dX1_orderByRule_68 (by omega) ?_
                  refine lv_istore_n (lv' := [(2, .int (iI (((cn (ah2 tT i) j : Nat) : Int)))), (3, .int (iI ((j : Int)))), (1, .int (iI ((i : Int)))), (0, .ref (bd 0))]) hx hb dX1_orderByRule_69 rfl hl (by decide) rfl (fun ls hl => ?_)
                  refine lv_iinc (v := iI ((j : Int) + 1)) (lv' := [(3, .int (iI ((j : Int) + 1))), (2, .int (iI (((cn (ah2 tT i) j : Nat) : Int)))), (1, .int (iI ((i : Int)))), (0, .ref (bd 0))]) hx hb dX1_orderByRule_70 hl (k := 1) rfl (iI_inc (by omega)) (by decide) rfl (fun ls hl => ?_)
                  refine lv_goto (tgt := 40) hx hb dX1_orderByRule_73 (by decide) ?_
                  exact ih40 (j + 1) ((j : Int) + 1) (((cn (ah2 tT i) j : Nat) : Int)) (by omega) (by omega) (by first | (rw [cn_t e7]; try omega) | (rw [cn_f e7]; try omega)) (by omega) _ _ hP hD hS ls (lv_sub hl [0, 1, 2, 3] rfl)
                · have e7 : ah2 tT i j = true := (ah2_n (by omega)).trans (by cases hh : ahd tT j i with | true => rfl | false => (rw [if_neg (by rw [hh]; simp)] at c60; exact absurd rfl c60))
                  refine lv_iconst (v := iI 1) hx hb dX1_orderByRule_63 rfl ?_
                  refine lv_goto (tgt := 68) hx hb dX1_orderByRule_64 (by decide) ?_
                  refine w_iadd (z := ((cn (ah2 tT i) j : Nat) : Int) + 1) hx hb dX1_orderByRule_68 (by omega) ?_
                  refine lv_istore_n (lv' := [(2, .int (iI (((cn (ah2 tT i) j : Nat) : Int) + 1))), (3, .int (iI ((j : Int)))), (1, .int (iI ((i : Int)))), (0, .ref (bd 0))]) hx hb dX1_orderByRule_69 rfl hl (by decide) rfl (fun ls hl => ?_)
                  refine lv_iinc (v := iI ((j : Int) + 1)) (lv' := [(3, .int (iI ((j : Int) + 1))), (2, .int (iI (((cn (ah2 tT i) j : Nat) : Int) + 1))), (1, .int (iI ((i : Int)))), (0, .ref (bd 0))]) hx hb dX1_orderByRule_70 hl (k := 1) rfl (iI_inc (by omega)) (by decide) rfl (fun ls hl => ?_)
                  refine lv_goto (tgt := 40) hx hb dX1_orderByRule_73 (by decide) ?_
                  exact ih40 (j + 1) ((j : Int) + 1) (((cn (ah2 tT i) j : Nat) : Int) + 1) (by omega) (by omega) (by first | (rw [cn_t e7]; try omega) | (rw [cn_f e7]; try omega)) (by omega) _ _ hP hD hS ls (lv_sub hl [0, 1, 2, 3] rfl)
        exact L40 (nn - 0 + 1) 0 (0) (0) (by omega) (by omega) (rfl) (Nat.lt_succ_self _) _ _ hP hD hS ls (lv_sub hl [0, 1, 2, 3] rfl)
  exact L28 (nn - 0 + 1) 0 oO (0) (by omega) (rfl) (by omega) (Nat.lt_succ_self _) _ _ hP hD hS ls (lv_sub hl [0, 1] rfl)
set_option maxHeartbeats 4000000 in
set_option maxRecDepth 100000 in
theorem mX1_orderByRule_e (hm : 1 ≤ mm ∧ mm ≤ 5) (h2 : mm ≠ 2) : IM l yX1_orderByRule wsX1_orderByRule (rmx 0 0) D (tyk cI cZ cJ) (mw bd cI th nn mm bm tT oO tB tL oR oJ) [.ref (bd 0)] (QI D (tyk cI cZ cJ) (fun u : Unit => mw bd cI 1 nn mm bm tT oO tB tL oR oJ) (fun x _ => x = iI 0)) := by
  refine imI_of (cc := cX1_orderByRule) (maxL := 4) (by decide) rfl (Nat.le_of_ble_eq_true rfl) ?_
  intro p e s m args below meth c A Q hx hb hml hown hts hA hK hP hD hS hret ls hl
  have hown : s.vm.findClass RX1 = some m.cls := hown
  have hl : lv_has ls 4 [(0, .ref (bd 0))] := hl
  have inW : ∀ w ∈ wsX10, w ∈ wsX1_orderByRule := by first | exact (fun w h => List.mem_cons_of_mem _ (List.mem_append_right _ h)) | exact (fun w h => List.mem_cons_of_mem _ (List.mem_append_left _ (List.mem_append_right _ h))) | exact (fun w h => List.mem_cons_of_mem _ (List.mem_append_left _ (List.mem_append_left _ (List.mem_append_right _ h)))) | decide +kernel
  refine lv_aload_n hx hb dX1_orderByRule_0 rfl (lv_at hl 0 rfl) ?_
  refine lv_aload_n hx hb dX1_orderByRule_1 rfl (lv_at hl 0 rfl) ?_
  refine va_get (D := D) (ci := 1) (C := RX1) (T := TX1) (N := 10) hx hb hts inW hown hK hP 0 rfl rfl 2 (by decide) (hts (.fieldLink RX1 7 "FlowforgeModel" "wide" "I") (List.mem_of_getElem? (i := 1) rfl)) (fun _ h9 => h9) rfl dX1_orderByRule_2 ?_
  refine lv_iconst (v := iI 2) hx hb dX1_orderByRule_5 rfl ?_
  refine w_icmp_ne (tgt := 13) hx hb dX1_orderByRule_6 (by decide) ⟨by omega, by omega⟩ ⟨by omega, by omega⟩ (fun c6 => ?_) (fun c6 => absurd c6 (by omega))
  refine lv_iconst (v := iI 1) hx hb dX1_orderByRule_13 rfl ?_
  refine va_put (D := D) (ci := 1) (ty := .int) (C := RX1) (T := TX1) (N := 10) hx hb hts inW tyX1 tyX1_ok nmX1 hown hK hP hD hS 0 rfl rfl 0 (by decide) (hts (.fieldLink RX1 32 "FlowforgeModel" "thrown" "I") (List.mem_of_getElem? (i := 2) rfl)) (fun _ h9 => h9) rfl (by decide +kernel) rfl rfl (Nat.le_of_ble_eq_true rfl) dX1_orderByRule_14 (fun H locs hP hD hS => ?_)
  have hP : va_P D vwCl (mw bd cI 1 nn mm bm tT oO tB tL oR oJ) H := hP
  have hD : va_D A (mw bd cI 1 nn mm bm tT oO tB tL oR oJ) := hD
  refine lv_aload_n hx hb dX1_orderByRule_17 rfl (lv_at hl 0 rfl) ?_
  refine va_get (D := D) (ci := 1) (C := RX1) (T := TX1) (N := 10) hx hb hts inW hown hK hP 0 rfl rfl 0 (by decide) (hts (.fieldLink RX1 32 "FlowforgeModel" "thrown" "I") (List.mem_of_getElem? (i := 2) rfl)) (fun _ h9 => h9) rfl dX1_orderByRule_18 ?_
  refine w_if_le (tgt := 26) hx hb dX1_orderByRule_21 (by decide) ⟨by omega, by omega⟩ (fun c21 => absurd c21 (by omega)) (fun c21 => ?_)
  refine lv_iconst (v := iI 0) hx hb dX1_orderByRule_24 rfl ?_
  exact hret _ _ 25 ls _ (()) hP hD hS (rfl) dX1_orderByRule_25
set_option maxHeartbeats 4000000 in
set_option maxRecDepth 100000 in
theorem mX1_makespan {v : Nat} (hT : ∀ k, 0 ≤ tT k ∧ tT k ≤ 99) (hn : nn ≤ 7) (hm : 1 ≤ mm ∧ mm ≤ 5) (hv : v ≤ 2) (hO : ∀ k, k < nn → oO k < 7) : IM l yX1_makespan wsX1_makespan (rmx 4 96) D (tyk cI cZ cJ) (mw bd cI th nn mm bm tT oO tB tL oR oJ) [.ref (bd 0), .int (iI ((v : Int)))] (QI D (tyk cI cZ cJ) (fun u : (Nat → Int) => mw bd cI 0 nn mm bm tT oO u tL oR oJ) (fun y u => y = iI (mk v mm tT oO nn))) := by
  refine imI_of (cc := cX1_makespan) (maxL := 2) (by decide) rfl (Nat.le_of_ble_eq_true rfl) ?_
  intro p e s m args below meth c A Q hx hb hml hown hts hA hK hP hD hS hret ls hl
  have hown : s.vm.findClass RX1 = some m.cls := hown
  have hl : lv_has ls 2 [(0, .ref (bd 0)), (1, .int (iI ((v : Int))))] := hl
  have inW : ∀ w ∈ wsX10, w ∈ wsX1_makespan := by first | exact (fun w h => List.mem_cons_of_mem _ (List.mem_append_right _ h)) | exact (fun w h => List.mem_cons_of_mem _ (List.mem_append_left _ (List.mem_append_right _ h))) | exact (fun w h => List.mem_cons_of_mem _ (List.mem_append_left _ (List.mem_append_left _ (List.mem_append_right _ h)))) | decide +kernel
  refine lv_aload_n hx hb dX1_makespan_0 rfl (lv_at hl 0 rfl) ?_
  refine lv_iload_n hx hb dX1_makespan_1 rfl (lv_at hl 1 rfl) ?_
  refine w_pS (As := [.int (iI ((v : Int)))]) (rest := [.ref (bd 0)]) ⟨hx, hb, hml, hown, hts⟩ hK hP (mX1_isVariant_y  (by omega)) (va_cwS 1 hts gX1_makespan_X1_isVariant rfl rfl rfl (by decide +kernel) ⟨Nat.le_of_ble_eq_true rfl, Nat.le_of_ble_eq_true rfl⟩) rfl hl.1 rfl (Nat.le_of_ble_eq_true rfl) dX1_makespan_2 ⟨Nat.zero_le _, Nat.zero_le _⟩ (fun r2 hr2 => ?_)
  refine w_top (v := iI (1)) (hr2.trans (congrArg iI (by omega))) ?_
  refine w_if_eq (tgt := 12) hx hb dX1_makespan_5 (by decide) ⟨by omega, by omega⟩ (fun c5 => absurd c5 (by omega)) (fun c5 => ?_)
  refine lv_iconst (v := iI 0) hx hb dX1_makespan_8 rfl ?_
  refine lv_goto (tgt := 13) hx hb dX1_makespan_9 (by decide) ?_
  refine va_put (D := D) (ci := 1) (ty := .int) (C := RX1) (T := TX1) (N := 10) hx hb hts inW tyX1 tyX1_ok nmX1 hown hK hP hD hS 0 rfl rfl 0 (by decide) (hts (.fieldLink RX1 32 "FlowforgeModel" "thrown" "I") (List.mem_of_getElem? (i := 1) rfl)) (fun _ h9 => h9) rfl (by decide +kernel) rfl rfl (Nat.le_of_ble_eq_true rfl) dX1_makespan_13 (fun H locs hP hD hS => ?_)
  have hP : va_P D vwCl (mw bd cI 0 nn mm bm tT oO tB tL oR oJ) H := hP
  have hD : va_D A (mw bd cI 0 nn mm bm tT oO tB tL oR oJ) := hD
  refine lv_aload_n hx hb dX1_makespan_16 rfl (lv_at hl 0 rfl) ?_
  refine va_get (D := D) (ci := 1) (C := RX1) (T := TX1) (N := 10) hx hb hts inW hown hK hP 0 rfl rfl 0 (by decide) (hts (.fieldLink RX1 32 "FlowforgeModel" "thrown" "I") (List.mem_of_getElem? (i := 1) rfl)) (fun _ h9 => h9) rfl dX1_makespan_17 ?_
  refine w_if_le (tgt := 27) hx hb dX1_makespan_20 (by decide) ⟨by omega, by omega⟩ (fun c20 => ?_) (fun c20 => absurd c20 (by omega))
  refine lv_aload_n hx hb dX1_makespan_27 rfl (lv_at hl 0 rfl) ?_
  refine lv_iload_n hx hb dX1_makespan_28 rfl (lv_at hl 1 rfl) ?_
  refine lv_aload_n hx hb dX1_makespan_29 rfl (lv_at hl 0 rfl) ?_
  refine va_get (D := D) (ci := 1) (C := RX1) (T := TX1) (N := 10) hx hb hts inW hown hK hP 0 rfl rfl 4 (by decide) (hts (.fieldLink RX1 17 "FlowforgeModel" "order" "[I") (List.mem_of_getElem? (i := 2) rfl)) (fun _ h9 => h9) rfl dX1_makespan_30 ?_
  refine lv_aload_n hx hb dX1_makespan_33 rfl (lv_at hl 0 rfl) ?_
  refine va_get (D := D) (ci := 1) (C := RX1) (T := TX1) (N := 10) hx hb hts inW hown hK hP 0 rfl rfl 1 (by decide) (hts (.fieldLink RX1 35 "FlowforgeModel" "many" "I") (List.mem_of_getElem? (i := 3) rfl)) (fun _ h9 => h9) rfl dX1_makespan_34 ?_
  refine w_iV (As := [.int (iI ((v : Int))), .ref (bd 2), .int (iI ((nn : Int)))]) (rest := []) (wf := fun u : (Nat → Int) => mw bd cI 0 nn mm bm tT oO u tL oR oJ) (wr := []) ⟨hx, hb, hml, hown, hts⟩ hK hP hD hS hA (mX1_lays_o  hT hm hv hn hO) (cwV 3 hts gX1_makespan_X1_lays rfl rfl rfl (by decide +kernel) ⟨Nat.le_of_ble_eq_true rfl, Nat.le_of_ble_eq_true rfl⟩) [0, 1, 2, 3, 4, 5, 6] [] [0, 1, 2, 3, 4, 5, 6] rfl rfl (by decide) (by decide) (by decide) (hwf := fun _ => rfl) (by decide) (ci := 1) rfl rfl rfl rfl hl.1 rfl (Nat.le_of_ble_eq_true rfl) dX1_makespan_37 ⟨Nat.zero_le _, Nat.zero_le _⟩ (fun r37 u H locs hr37 hP hD hS => ?_)
  obtain ⟨uB, huB⟩ : ∃ z, z = u := ⟨_, rfl⟩
  subst huB
  obtain ⟨hq37, hI⟩ := hr37
  have hP : va_P D vwCl (mw bd cI 0 nn mm bm tT oO uB tL oR oJ) H := hP
  have hD : va_D A (mw bd cI 0 nn mm bm tT oO uB tL oR oJ) := hD
  refine w_top (v := iI ((mk v mm tT oO nn))) (hq37) ?_
  exact hret _ _ 40 ls _ (uB) hP hD hS (rfl) dX1_makespan_40
set_option maxHeartbeats 4000000 in
set_option maxRecDepth 100000 in
theorem mX1_makespan_e {x : Int} (hr9 : -2147483648 ≤ x ∧ x ≤ 2147483647) (hbad : ¬ (0 ≤ x ∧ x ≤ 2)) : IM l yX1_makespan wsX1_makespan (rmx 2 42) D (tyk cI cZ cJ) (mw bd cI th nn mm bm tT oO tB tL oR oJ) [.ref (bd 0), .int (iI (x))] (QI D (tyk cI cZ cJ) (fun u : Unit => mw bd cI 1 nn mm bm tT oO tB tL oR oJ) (fun x _ => x = iI 0)) := by
  refine imI_of (cc := cX1_makespan) (maxL := 2) (by decide) rfl (Nat.le_of_ble_eq_true rfl) ?_
  intro p e s m args below meth c A Q hx hb hml hown hts hA hK hP hD hS hret ls hl
  have hown : s.vm.findClass RX1 = some m.cls := hown
  have hl : lv_has ls 2 [(0, .ref (bd 0)), (1, .int (iI (x)))] := hl
  have inW : ∀ w ∈ wsX10, w ∈ wsX1_makespan := by first | exact (fun w h => List.mem_cons_of_mem _ (List.mem_append_right _ h)) | exact (fun w h => List.mem_cons_of_mem _ (List.mem_append_left _ (List.mem_append_right _ h))) | exact (fun w h => List.mem_cons_of_mem _ (List.mem_append_left _ (List.mem_append_left _ (List.mem_append_right _ h)))) | decide +kernel
  refine lv_aload_n hx hb dX1_makespan_0 rfl (lv_at hl 0 rfl) ?_
  refine lv_iload_n hx hb dX1_makespan_1 rfl (lv_at hl 1 rfl) ?_
  refine w_pS (As := [.int (iI (x))]) (rest := [.ref (bd 0)]) ⟨hx, hb, hml, hown, hts⟩ hK hP (mX1_isVariant_n  (by omega) (by omega)) (va_cwS 1 hts gX1_makespan_X1_isVariant rfl rfl rfl (by decide +kernel) ⟨Nat.le_of_ble_eq_true rfl, Nat.le_of_ble_eq_true rfl⟩) rfl hl.1 rfl (Nat.le_of_ble_eq_true rfl) dX1_makespan_2 ⟨Nat.zero_le _, Nat.zero_le _⟩ (fun r2 hr2 => ?_)
  refine w_top (v := iI (0)) (hr2.trans (congrArg iI (by omega))) ?_
  refine w_if_eq (tgt := 12) hx hb dX1_makespan_5 (by decide) ⟨by omega, by omega⟩ (fun c5 => ?_) (fun c5 => absurd c5 (by omega))
  refine lv_iconst (v := iI 1) hx hb dX1_makespan_12 rfl ?_
  refine va_put (D := D) (ci := 1) (ty := .int) (C := RX1) (T := TX1) (N := 10) hx hb hts inW tyX1 tyX1_ok nmX1 hown hK hP hD hS 0 rfl rfl 0 (by decide) (hts (.fieldLink RX1 32 "FlowforgeModel" "thrown" "I") (List.mem_of_getElem? (i := 1) rfl)) (fun _ h9 => h9) rfl (by decide +kernel) rfl rfl (Nat.le_of_ble_eq_true rfl) dX1_makespan_13 (fun H locs hP hD hS => ?_)
  have hP : va_P D vwCl (mw bd cI 1 nn mm bm tT oO tB tL oR oJ) H := hP
  have hD : va_D A (mw bd cI 1 nn mm bm tT oO tB tL oR oJ) := hD
  refine lv_aload_n hx hb dX1_makespan_16 rfl (lv_at hl 0 rfl) ?_
  refine va_get (D := D) (ci := 1) (C := RX1) (T := TX1) (N := 10) hx hb hts inW hown hK hP 0 rfl rfl 0 (by decide) (hts (.fieldLink RX1 32 "FlowforgeModel" "thrown" "I") (List.mem_of_getElem? (i := 1) rfl)) (fun _ h9 => h9) rfl dX1_makespan_17 ?_
  refine w_if_le (tgt := 27) hx hb dX1_makespan_20 (by decide) ⟨by omega, by omega⟩ (fun c20 => absurd c20 (by omega)) (fun c20 => ?_)
  refine lv_iconst (v := iI 0) hx hb dX1_makespan_23 rfl ?_
  refine lv_goto (tgt := 40) hx hb dX1_makespan_24 (by decide) ?_
  exact hret _ _ 40 ls _ (()) hP hD hS (rfl) dX1_makespan_40
set_option maxHeartbeats 4000000 in
set_option maxRecDepth 100000 in
theorem mX1_begin {v q k : Nat} (hT : ∀ k, 0 ≤ tT k ∧ tT k ≤ 99) (hn : nn ≤ 7) (hm : 1 ≤ mm ∧ mm ≤ 5) (hv : v ≤ 2) (hO : ∀ k, k < nn → oO k < 7) (hq : q < nn) (hk : k < mm) : IM l yX1_begin wsX1_begin (rmx 4 96) D (tyk cI cZ cJ) (mw bd cI th nn mm bm tT oO tB tL oR oJ) [.ref (bd 0), .int (iI ((v : Int))), .int (iI ((q : Int))), .int (iI ((k : Int)))] (QI D (tyk cI cZ cJ) (fun u : (Nat → Int) => mw bd cI 0 nn mm bm tT oO u tL oR oJ) (fun y u => y = iI ((row v mm tT oO (q + 1)).1 k))) := by
  refine imI_of (cc := cX1_begin) (maxL := 4) (by decide) rfl (Nat.le_of_ble_eq_true rfl) ?_
  intro p e s m args below meth c A Q hx hb hml hown hts hA hK hP hD hS hret ls hl
  have hown : s.vm.findClass RX1 = some m.cls := hown
  have hl : lv_has ls 4 [(0, .ref (bd 0)), (1, .int (iI ((v : Int)))), (2, .int (iI ((q : Int)))), (3, .int (iI ((k : Int))))] := hl
  have inW : ∀ w ∈ wsX10, w ∈ wsX1_begin := by first | exact (fun w h => List.mem_cons_of_mem _ (List.mem_append_right _ h)) | exact (fun w h => List.mem_cons_of_mem _ (List.mem_append_left _ (List.mem_append_right _ h))) | exact (fun w h => List.mem_cons_of_mem _ (List.mem_append_left _ (List.mem_append_left _ (List.mem_append_right _ h)))) | decide +kernel
  refine lv_aload_n hx hb dX1_begin_0 rfl (lv_at hl 0 rfl) ?_
  refine lv_iload_n hx hb dX1_begin_1 rfl (lv_at hl 1 rfl) ?_
  refine w_pS (As := [.int (iI ((v : Int)))]) (rest := [.ref (bd 0)]) ⟨hx, hb, hml, hown, hts⟩ hK hP (mX1_isVariant_y  (by omega)) (va_cwS 1 hts gX1_begin_X1_isVariant rfl rfl rfl (by decide +kernel) ⟨Nat.le_of_ble_eq_true rfl, Nat.le_of_ble_eq_true rfl⟩) rfl hl.1 rfl (Nat.le_of_ble_eq_true rfl) dX1_begin_2 ⟨Nat.zero_le _, Nat.zero_le _⟩ (fun r2 hr2 => ?_)
  refine w_top (v := iI (1)) (hr2.trans (congrArg iI (by omega))) ?_
  refine w_if_ne (tgt := 12) hx hb dX1_begin_5 (by decide) ⟨by omega, by omega⟩ (fun c5 => ?_) (fun c5 => absurd c5 (by omega))
  refine lv_aload_n hx hb dX1_begin_12 rfl (lv_at hl 0 rfl) ?_
  refine lv_iload_n hx hb dX1_begin_13 rfl (lv_at hl 2 rfl) ?_
  refine lv_iload_n hx hb dX1_begin_14 rfl (lv_at hl 3 rfl) ?_
  refine w_pV (As := [.int (iI ((q : Int))), .int (iI ((k : Int)))]) (rest := [.ref (bd 0)]) ⟨hx, hb, hml, hown, hts⟩ hK hP (mX1_isOf_y  hn hm.2 (by omega) (by omega)) (cwV 2 hts gX1_begin_X1_isOf rfl rfl rfl (by decide +kernel) ⟨Nat.le_of_ble_eq_true rfl, Nat.le_of_ble_eq_true rfl⟩) (ci := 1) rfl rfl rfl rfl hl.1 rfl (Nat.le_of_ble_eq_true rfl) dX1_begin_15 ⟨Nat.zero_le _, Nat.zero_le _⟩ (fun r15 hr15 => ?_)
  refine w_top (v := iI (1)) (hr15.trans (congrArg iI (by omega))) ?_
  refine w_if_eq (tgt := 25) hx hb dX1_begin_18 (by decide) ⟨by omega, by omega⟩ (fun c18 => absurd c18 (by omega)) (fun c18 => ?_)
  refine lv_iconst (v := iI 0) hx hb dX1_begin_21 rfl ?_
  refine lv_goto (tgt := 26) hx hb dX1_begin_22 (by decide) ?_
  refine va_put (D := D) (ci := 1) (ty := .int) (C := RX1) (T := TX1) (N := 10) hx hb hts inW tyX1 tyX1_ok nmX1 hown hK hP hD hS 0 rfl rfl 0 (by decide) (hts (.fieldLink RX1 32 "FlowforgeModel" "thrown" "I") (List.mem_of_getElem? (i := 1) rfl)) (fun _ h9 => h9) rfl (by decide +kernel) rfl rfl (Nat.le_of_ble_eq_true rfl) dX1_begin_26 (fun H locs hP hD hS => ?_)
  have hP : va_P D vwCl (mw bd cI 0 nn mm bm tT oO tB tL oR oJ) H := hP
  have hD : va_D A (mw bd cI 0 nn mm bm tT oO tB tL oR oJ) := hD
  refine lv_aload_n hx hb dX1_begin_29 rfl (lv_at hl 0 rfl) ?_
  refine va_get (D := D) (ci := 1) (C := RX1) (T := TX1) (N := 10) hx hb hts inW hown hK hP 0 rfl rfl 0 (by decide) (hts (.fieldLink RX1 32 "FlowforgeModel" "thrown" "I") (List.mem_of_getElem? (i := 1) rfl)) (fun _ h9 => h9) rfl dX1_begin_30 ?_
  refine w_if_le (tgt := 38) hx hb dX1_begin_33 (by decide) ⟨by omega, by omega⟩ (fun c33 => ?_) (fun c33 => absurd c33 (by omega))
  refine lv_aload_n hx hb dX1_begin_38 rfl (lv_at hl 0 rfl) ?_
  refine lv_iload_n hx hb dX1_begin_39 rfl (lv_at hl 1 rfl) ?_
  refine lv_aload_n hx hb dX1_begin_40 rfl (lv_at hl 0 rfl) ?_
  refine va_get (D := D) (ci := 1) (C := RX1) (T := TX1) (N := 10) hx hb hts inW hown hK hP 0 rfl rfl 4 (by decide) (hts (.fieldLink RX1 17 "FlowforgeModel" "order" "[I") (List.mem_of_getElem? (i := 2) rfl)) (fun _ h9 => h9) rfl dX1_begin_41 ?_
  refine lv_aload_n hx hb dX1_begin_44 rfl (lv_at hl 0 rfl) ?_
  refine va_get (D := D) (ci := 1) (C := RX1) (T := TX1) (N := 10) hx hb hts inW hown hK hP 0 rfl rfl 1 (by decide) (hts (.fieldLink RX1 35 "FlowforgeModel" "many" "I") (List.mem_of_getElem? (i := 3) rfl)) (fun _ h9 => h9) rfl dX1_begin_45 ?_
  refine w_iV (As := [.int (iI ((v : Int))), .ref (bd 2), .int (iI ((nn : Int)))]) (rest := []) (wf := fun u : (Nat → Int) => mw bd cI 0 nn mm bm tT oO u tL oR oJ) (wr := []) ⟨hx, hb, hml, hown, hts⟩ hK hP hD hS hA (mX1_lays_o  hT hm hv hn hO) (cwV 3 hts gX1_begin_X1_lays rfl rfl rfl (by decide +kernel) ⟨Nat.le_of_ble_eq_true rfl, Nat.le_of_ble_eq_true rfl⟩) [0, 1, 2, 3, 4, 5, 6] [] [0, 1, 2, 3, 4, 5, 6] rfl rfl (by decide) (by decide) (by decide) (hwf := fun _ => rfl) (by decide) (ci := 1) rfl rfl rfl rfl hl.1 rfl (Nat.le_of_ble_eq_true rfl) dX1_begin_48 ⟨Nat.zero_le _, Nat.zero_le _⟩ (fun r48 u H locs hr48 hP hD hS => ?_)
  obtain ⟨uB, huB⟩ : ∃ z, z = u := ⟨_, rfl⟩
  subst huB
  obtain ⟨hq48, hI⟩ := hr48
  have hP : va_P D vwCl (mw bd cI 0 nn mm bm tT oO uB tL oR oJ) H := hP
  have hD : va_D A (mw bd cI 0 nn mm bm tT oO uB tL oR oJ) := hD
  refine w_top (v := iI ((mk v mm tT oO nn))) (hq48) ?_
  refine lv_pop hx hb dX1_begin_51 rfl ?_
  refine lv_aload_n hx hb dX1_begin_52 rfl (lv_at hl 0 rfl) ?_
  refine lv_iload_n hx hb dX1_begin_53 rfl (lv_at hl 2 rfl) ?_
  refine lv_iload_n hx hb dX1_begin_54 rfl (lv_at hl 3 rfl) ?_
  refine w_pV (As := [.int (iI ((q : Int))), .int (iI ((k : Int)))]) (rest := []) ⟨hx, hb, hml, hown, hts⟩ hK hP (mX1_startOf (j := q) (by omega) (by omega)) (cwV 2 hts gX1_begin_X1_startOf rfl rfl rfl (by decide +kernel) ⟨Nat.le_of_ble_eq_true rfl, Nat.le_of_ble_eq_true rfl⟩) (ci := 1) rfl rfl rfl rfl hl.1 rfl (Nat.le_of_ble_eq_true rfl) dX1_begin_55 ⟨Nat.zero_le _, Nat.zero_le _⟩ (fun r55 hr55 => ?_)
  refine w_top (v := iI (((row v mm tT oO (q + 1)).1 k))) (hr55.trans (congrArg iI (hI q hq k hk))) ?_
  exact hret _ _ 58 ls _ (uB) hP hD hS (rfl) dX1_begin_58
set_option maxHeartbeats 4000000 in
set_option maxRecDepth 100000 in
theorem mX1_begin_e1 {x y z : Int} (hr9 : -2147483648 ≤ x ∧ x ≤ 2147483647) (hbad : ¬ (0 ≤ x ∧ x ≤ 2)) : IM l yX1_begin wsX1_begin (rmx 2 42) D (tyk cI cZ cJ) (mw bd cI th nn mm bm tT oO tB tL oR oJ) [.ref (bd 0), .int (iI (x)), .int (iI (y)), .int (iI (z))] (QI D (tyk cI cZ cJ) (fun u : Unit => mw bd cI 1 nn mm bm tT oO tB tL oR oJ) (fun x _ => x = iI 0)) := by
  refine imI_of (cc := cX1_begin) (maxL := 4) (by decide) rfl (Nat.le_of_ble_eq_true rfl) ?_
  intro p e s m args below meth c A Q hx hb hml hown hts hA hK hP hD hS hret ls hl
  have hown : s.vm.findClass RX1 = some m.cls := hown
  have hl : lv_has ls 4 [(0, .ref (bd 0)), (1, .int (iI (x))), (2, .int (iI (y))), (3, .int (iI (z)))] := hl
  have inW : ∀ w ∈ wsX10, w ∈ wsX1_begin := by first | exact (fun w h => List.mem_cons_of_mem _ (List.mem_append_right _ h)) | exact (fun w h => List.mem_cons_of_mem _ (List.mem_append_left _ (List.mem_append_right _ h))) | exact (fun w h => List.mem_cons_of_mem _ (List.mem_append_left _ (List.mem_append_left _ (List.mem_append_right _ h)))) | decide +kernel
  refine lv_aload_n hx hb dX1_begin_0 rfl (lv_at hl 0 rfl) ?_
  refine lv_iload_n hx hb dX1_begin_1 rfl (lv_at hl 1 rfl) ?_
  refine w_pS (As := [.int (iI (x))]) (rest := [.ref (bd 0)]) ⟨hx, hb, hml, hown, hts⟩ hK hP (mX1_isVariant_n  (by omega) (by omega)) (va_cwS 1 hts gX1_begin_X1_isVariant rfl rfl rfl (by decide +kernel) ⟨Nat.le_of_ble_eq_true rfl, Nat.le_of_ble_eq_true rfl⟩) rfl hl.1 rfl (Nat.le_of_ble_eq_true rfl) dX1_begin_2 ⟨Nat.zero_le _, Nat.zero_le _⟩ (fun r2 hr2 => ?_)
  refine w_top (v := iI (0)) (hr2.trans (congrArg iI (by omega))) ?_
  refine w_if_ne (tgt := 12) hx hb dX1_begin_5 (by decide) ⟨by omega, by omega⟩ (fun c5 => absurd c5 (by omega)) (fun c5 => ?_)
  refine lv_iconst (v := iI 1) hx hb dX1_begin_8 rfl ?_
  refine lv_goto (tgt := 26) hx hb dX1_begin_9 (by decide) ?_
  refine va_put (D := D) (ci := 1) (ty := .int) (C := RX1) (T := TX1) (N := 10) hx hb hts inW tyX1 tyX1_ok nmX1 hown hK hP hD hS 0 rfl rfl 0 (by decide) (hts (.fieldLink RX1 32 "FlowforgeModel" "thrown" "I") (List.mem_of_getElem? (i := 1) rfl)) (fun _ h9 => h9) rfl (by decide +kernel) rfl rfl (Nat.le_of_ble_eq_true rfl) dX1_begin_26 (fun H locs hP hD hS => ?_)
  have hP : va_P D vwCl (mw bd cI 1 nn mm bm tT oO tB tL oR oJ) H := hP
  have hD : va_D A (mw bd cI 1 nn mm bm tT oO tB tL oR oJ) := hD
  refine lv_aload_n hx hb dX1_begin_29 rfl (lv_at hl 0 rfl) ?_
  refine va_get (D := D) (ci := 1) (C := RX1) (T := TX1) (N := 10) hx hb hts inW hown hK hP 0 rfl rfl 0 (by decide) (hts (.fieldLink RX1 32 "FlowforgeModel" "thrown" "I") (List.mem_of_getElem? (i := 1) rfl)) (fun _ h9 => h9) rfl dX1_begin_30 ?_
  refine w_if_le (tgt := 38) hx hb dX1_begin_33 (by decide) ⟨by omega, by omega⟩ (fun c33 => absurd c33 (by omega)) (fun c33 => ?_)
  refine lv_iconst (v := iI 0) hx hb dX1_begin_36 rfl ?_
  exact hret _ _ 37 ls _ (()) hP hD hS (rfl) dX1_begin_37
set_option maxHeartbeats 4000000 in
set_option maxRecDepth 100000 in
theorem mX1_begin_e2 {v : Nat} {x y : Int} (hn : nn ≤ 7) (hm : 1 ≤ mm ∧ mm ≤ 5) (hv : v ≤ 2) (hr9 : -2147483648 ≤ x ∧ x ≤ 2147483647 ∧ -2147483648 ≤ y ∧ y ≤ 2147483647) (hbad : ¬ ((0 ≤ x ∧ x < (nn : Int)) ∧ 0 ≤ y ∧ y < (mm : Int))) : IM l yX1_begin wsX1_begin (rmx 2 44) D (tyk cI cZ cJ) (mw bd cI th nn mm bm tT oO tB tL oR oJ) [.ref (bd 0), .int (iI ((v : Int))), .int (iI (x)), .int (iI (y))] (QI D (tyk cI cZ cJ) (fun u : Unit => mw bd cI 2 nn mm bm tT oO tB tL oR oJ) (fun x _ => x = iI 0)) := by
  refine imI_of (cc := cX1_begin) (maxL := 4) (by decide) rfl (Nat.le_of_ble_eq_true rfl) ?_
  intro p e s m args below meth c A Q hx hb hml hown hts hA hK hP hD hS hret ls hl
  have hown : s.vm.findClass RX1 = some m.cls := hown
  have hl : lv_has ls 4 [(0, .ref (bd 0)), (1, .int (iI ((v : Int)))), (2, .int (iI (x))), (3, .int (iI (y)))] := hl
  have inW : ∀ w ∈ wsX10, w ∈ wsX1_begin := by first | exact (fun w h => List.mem_cons_of_mem _ (List.mem_append_right _ h)) | exact (fun w h => List.mem_cons_of_mem _ (List.mem_append_left _ (List.mem_append_right _ h))) | exact (fun w h => List.mem_cons_of_mem _ (List.mem_append_left _ (List.mem_append_left _ (List.mem_append_right _ h)))) | decide +kernel
  refine lv_aload_n hx hb dX1_begin_0 rfl (lv_at hl 0 rfl) ?_
  refine lv_iload_n hx hb dX1_begin_1 rfl (lv_at hl 1 rfl) ?_
  refine w_pS (As := [.int (iI ((v : Int)))]) (rest := [.ref (bd 0)]) ⟨hx, hb, hml, hown, hts⟩ hK hP (mX1_isVariant_y  (by omega)) (va_cwS 1 hts gX1_begin_X1_isVariant rfl rfl rfl (by decide +kernel) ⟨Nat.le_of_ble_eq_true rfl, Nat.le_of_ble_eq_true rfl⟩) rfl hl.1 rfl (Nat.le_of_ble_eq_true rfl) dX1_begin_2 ⟨Nat.zero_le _, Nat.zero_le _⟩ (fun r2 hr2 => ?_)
  refine w_top (v := iI (1)) (hr2.trans (congrArg iI (by omega))) ?_
  refine w_if_ne (tgt := 12) hx hb dX1_begin_5 (by decide) ⟨by omega, by omega⟩ (fun c5 => ?_) (fun c5 => absurd c5 (by omega))
  refine lv_aload_n hx hb dX1_begin_12 rfl (lv_at hl 0 rfl) ?_
  refine lv_iload_n hx hb dX1_begin_13 rfl (lv_at hl 2 rfl) ?_
  refine lv_iload_n hx hb dX1_begin_14 rfl (lv_at hl 3 rfl) ?_
  refine w_pV (As := [.int (iI (x)), .int (iI (y))]) (rest := [.ref (bd 0)]) ⟨hx, hb, hml, hown, hts⟩ hK hP (mX1_isOf_n  hn hm.2 (by omega) hbad) (cwV 2 hts gX1_begin_X1_isOf rfl rfl rfl (by decide +kernel) ⟨Nat.le_of_ble_eq_true rfl, Nat.le_of_ble_eq_true rfl⟩) (ci := 1) rfl rfl rfl rfl hl.1 rfl (Nat.le_of_ble_eq_true rfl) dX1_begin_15 ⟨Nat.zero_le _, Nat.zero_le _⟩ (fun r15 hr15 => ?_)
  refine w_top (v := iI (0)) (hr15.trans (congrArg iI (by omega))) ?_
  refine w_if_eq (tgt := 25) hx hb dX1_begin_18 (by decide) ⟨by omega, by omega⟩ (fun c18 => ?_) (fun c18 => absurd c18 (by omega))
  refine lv_iconst (v := iI 2) hx hb dX1_begin_25 rfl ?_
  refine va_put (D := D) (ci := 1) (ty := .int) (C := RX1) (T := TX1) (N := 10) hx hb hts inW tyX1 tyX1_ok nmX1 hown hK hP hD hS 0 rfl rfl 0 (by decide) (hts (.fieldLink RX1 32 "FlowforgeModel" "thrown" "I") (List.mem_of_getElem? (i := 1) rfl)) (fun _ h9 => h9) rfl (by decide +kernel) rfl rfl (Nat.le_of_ble_eq_true rfl) dX1_begin_26 (fun H locs hP hD hS => ?_)
  have hP : va_P D vwCl (mw bd cI 2 nn mm bm tT oO tB tL oR oJ) H := hP
  have hD : va_D A (mw bd cI 2 nn mm bm tT oO tB tL oR oJ) := hD
  refine lv_aload_n hx hb dX1_begin_29 rfl (lv_at hl 0 rfl) ?_
  refine va_get (D := D) (ci := 1) (C := RX1) (T := TX1) (N := 10) hx hb hts inW hown hK hP 0 rfl rfl 0 (by decide) (hts (.fieldLink RX1 32 "FlowforgeModel" "thrown" "I") (List.mem_of_getElem? (i := 1) rfl)) (fun _ h9 => h9) rfl dX1_begin_30 ?_
  refine w_if_le (tgt := 38) hx hb dX1_begin_33 (by decide) ⟨by omega, by omega⟩ (fun c33 => absurd c33 (by omega)) (fun c33 => ?_)
  refine lv_iconst (v := iI 0) hx hb dX1_begin_36 rfl ?_
  exact hret _ _ 37 ls _ (()) hP hD hS (rfl) dX1_begin_37
set_option maxHeartbeats 4000000 in
set_option maxRecDepth 100000 in
theorem mX1_totalTime (hT : ∀ k, 0 ≤ tT k ∧ tT k ≤ 99) (hn : nn ≤ 7) (hm : 1 ≤ mm ∧ mm ≤ 5) (hO : ∀ k, k < nn → oO k < 7) : IM l yX1_totalTime wsX1_totalTime (rmx 5 116) D (tyk cI cZ cJ) (mw bd cI th nn mm bm tT oO tB tL oR oJ) [.ref (bd 0)] (QI D (tyk cI cZ cJ) (fun u : (Nat → Int) => mw bd cI 0 nn mm bm tT oO u tL oR oJ) (fun y u => y = iI (toC tT mm oO nn))) := by
  refine imI_of (cc := cX1_totalTime) (maxL := 3) (by decide) rfl (Nat.le_of_ble_eq_true rfl) ?_
  intro p e s m args below meth c A Q hx hb hml hown hts hA hK hP hD hS hret ls hl
  have hown : s.vm.findClass RX1 = some m.cls := hown
  have hl : lv_has ls 3 [(0, .ref (bd 0))] := hl
  have inW : ∀ w ∈ wsX10, w ∈ wsX1_totalTime := by first | exact (fun w h => List.mem_cons_of_mem _ (List.mem_append_right _ h)) | exact (fun w h => List.mem_cons_of_mem _ (List.mem_append_left _ (List.mem_append_right _ h))) | exact (fun w h => List.mem_cons_of_mem _ (List.mem_append_left _ (List.mem_append_left _ (List.mem_append_right _ h)))) | decide +kernel
  refine lv_aload_n hx hb dX1_totalTime_0 rfl (lv_at hl 0 rfl) ?_
  refine lv_iconst (v := iI 0) hx hb dX1_totalTime_1 rfl ?_
  refine va_put (D := D) (ci := 1) (ty := .int) (C := RX1) (T := TX1) (N := 10) hx hb hts inW tyX1 tyX1_ok nmX1 hown hK hP hD hS 0 rfl rfl 0 (by decide) (hts (.fieldLink RX1 32 "FlowforgeModel" "thrown" "I") (List.mem_of_getElem? (i := 1) rfl)) (fun _ h9 => h9) rfl (by decide +kernel) rfl rfl (Nat.le_of_ble_eq_true rfl) dX1_totalTime_2 (fun H locs hP hD hS => ?_)
  have hP : va_P D vwCl (mw bd cI 0 nn mm bm tT oO tB tL oR oJ) H := hP
  have hD : va_D A (mw bd cI 0 nn mm bm tT oO tB tL oR oJ) := hD
  refine lv_aload_n hx hb dX1_totalTime_5 rfl (lv_at hl 0 rfl) ?_
  refine w_iV (As := []) (rest := []) (wf := fun u : (Nat → Int) => mw bd cI 0 nn mm bm tT oO u tL oR oJ) (wr := []) ⟨hx, hb, hml, hown, hts⟩ hK hP hD hS hA (mX1_plain  hT hn hm hO) (cwV 0 hts gX1_totalTime_X1_plain rfl rfl rfl (by decide +kernel) ⟨Nat.le_of_ble_eq_true rfl, Nat.le_of_ble_eq_true rfl⟩) [0, 1, 2, 3, 4, 5, 6] [] [0, 1, 2, 3, 4, 5, 6] rfl rfl (by decide) (by decide) (by decide) (hwf := fun _ => rfl) (by decide) (ci := 1) rfl rfl rfl rfl hl.1 rfl (Nat.le_of_ble_eq_true rfl) dX1_totalTime_6 ⟨Nat.zero_le _, Nat.zero_le _⟩ (fun r6 u H locs hr6 hP hD hS => ?_)
  obtain ⟨uB, huB⟩ : ∃ z, z = u := ⟨_, rfl⟩
  subst huB
  obtain ⟨hq6, hI⟩ := hr6
  have hP : va_P D vwCl (mw bd cI 0 nn mm bm tT oO uB tL oR oJ) H := hP
  have hD : va_D A (mw bd cI 0 nn mm bm tT oO uB tL oR oJ) := hD
  refine w_top (v := iI ((mk 0 mm tT oO nn))) (hq6) ?_
  refine lv_pop hx hb dX1_totalTime_9 rfl ?_
  refine lv_iconst (v := iI 0) hx hb dX1_totalTime_10 rfl ?_
  refine lv_istore_n (lv' := [(1, .int (iI 0)), (0, .ref (bd 0))]) hx hb dX1_totalTime_11 rfl hl (by decide) rfl (fun ls hl => ?_)
  refine lv_iconst (v := iI 0) hx hb dX1_totalTime_12 rfl ?_
  refine lv_istore_n (lv' := [(2, .int (iI 0)), (1, .int (iI 0)), (0, .ref (bd 0))]) hx hb dX1_totalTime_13 rfl hl (by decide) rfl (fun ls hl => ?_)
  have L14 : ∀ (fu : Nat) (i : Nat) (x2_14 : Int) (x1_14 : Int), (i ≤ nn) → (x2_14 = (i : Int)) → (x1_14 = (toC tT mm oO i)) → nn - i < fu → ∀ (H : Heap) (locs : List Loc), va_P D vwCl (mw bd cI 0 nn mm bm tT oO uB tL oR oJ) H → va_D A (mw bd cI 0 nn mm bm tT oO uB tL oR oJ) → va_S A s.heap H locs → ∀ ls : Array Slot, lv_has ls 3 [(2, .int (iI (x2_14))), (1, .int (iI (x1_14))), (0, .ref (bd 0))] → W p l e (rmx 5 116) s m args below meth c H locs 0 0 Q (F0 m 14 ls []) := by
    intro fu
    induction fu with
    | zero =>
      intro i x2_14 x1_14 hi hq0 hq1 hfu
      exact absurd hfu (Nat.not_lt_zero _)
    | succ fu ih =>
      intro i x2_14 x1_14 hi hq0 hq1 hfu H locs hP hD hS ls hl
      subst hq0
      subst hq1
      have ih14 := ih
      refine lv_iload_n hx hb dX1_totalTime_14 rfl (lv_at hl 0 rfl) ?_
      refine lv_aload_n hx hb dX1_totalTime_15 rfl (lv_at hl 2 rfl) ?_
      refine va_get (D := D) (ci := 1) (C := RX1) (T := TX1) (N := 10) hx hb hts inW hown hK hP 0 rfl rfl 1 (by decide) (hts (.fieldLink RX1 35 "FlowforgeModel" "many" "I") (List.mem_of_getElem? (i := 2) rfl)) (fun _ h9 => h9) rfl dX1_totalTime_16 ?_
      refine w_icmp_ge (tgt := 46) hx hb dX1_totalTime_19 (by decide) ⟨by omega, by omega⟩ ⟨by omega, by omega⟩ (fun c19 => ?_) (fun c19 => ?_)
      · obtain rfl : nn = i := by omega
        refine lv_iload_n hx hb dX1_totalTime_46 rfl (lv_at hl 1 rfl) ?_
        exact hret _ _ 47 ls _ (uB) hP hD hS (rfl) dX1_totalTime_47
      · refine lv_iload_n hx hb dX1_totalTime_22 rfl (lv_at hl 1 rfl) ?_
        refine lv_aload_n hx hb dX1_totalTime_23 rfl (lv_at hl 2 rfl) ?_
        refine lv_aload_n hx hb dX1_totalTime_24 rfl (lv_at hl 2 rfl) ?_
        refine va_get (D := D) (ci := 1) (C := RX1) (T := TX1) (N := 10) hx hb hts inW hown hK hP 0 rfl rfl 4 (by decide) (hts (.fieldLink RX1 17 "FlowforgeModel" "order" "[I") (List.mem_of_getElem? (i := 3) rfl)) (fun _ h9 => h9) rfl dX1_totalTime_25 ?_
        refine lv_iload_n hx hb dX1_totalTime_28 rfl (lv_at hl 0 rfl) ?_
        refine lv_aload_n hx hb dX1_totalTime_29 rfl (lv_at hl 2 rfl) ?_
        refine va_get (D := D) (ci := 1) (C := RX1) (T := TX1) (N := 10) hx hb hts inW hown hK hP 0 rfl rfl 2 (by decide) (hts (.fieldLink RX1 7 "FlowforgeModel" "wide" "I") (List.mem_of_getElem? (i := 4) rfl)) (fun _ h9 => h9) rfl dX1_totalTime_30 ?_
        refine lv_iconst (v := iI 1) hx hb dX1_totalTime_33 rfl ?_
        refine w_isub (z := (mm : Int) - 1) hx hb dX1_totalTime_34 (by omega) ?_
        refine w_pV (As := [.ref (bd 2), .int (iI ((i : Int))), .int (iI (((((mm - 1)) : Nat) : Int)))]) (rest := [.int (iI ((toC tT mm oO i)))]) ⟨hx, hb, hml, hown, hts⟩ hK hP (mX1_endOf_o  (q := i) (k := (mm - 1)) (by omega) (hO _ (by omega)) (by omega)) (cwV 3 hts gX1_totalTime_X1_endOf rfl rfl rfl (by decide +kernel) ⟨Nat.le_of_ble_eq_true rfl, Nat.le_of_ble_eq_true rfl⟩) (ci := 1) rfl rfl rfl rfl hl.1 (by rw [show (((mm : Int) - 1) : Int) = ((((mm - 1)) : Nat) : Int) by omega]; try rfl) (Nat.le_of_ble_eq_true rfl) dX1_totalTime_35 ⟨Nat.zero_le _, Nat.zero_le _⟩ (fun r35 hr35 => ?_)
        refine w_top (v := iI ((mk 0 mm tT oO (i + 1)))) (hr35.trans (congrArg iI (mrows_e hI (by omega) (by omega)))) ?_
        refine w_iadd (z := (toC tT mm oO i) + (mk 0 mm tT oO (i + 1))) hx hb dX1_totalTime_38 (by omega) ?_
        refine lv_istore_n (lv' := [(1, .int (iI ((toC tT mm oO i) + (mk 0 mm tT oO (i + 1))))), (2, .int (iI ((i : Int)))), (0, .ref (bd 0))]) hx hb dX1_totalTime_39 rfl hl (by decide) rfl (fun ls hl => ?_)
        refine lv_iinc (v := iI ((i : Int) + 1)) (lv' := [(2, .int (iI ((i : Int) + 1))), (1, .int (iI ((toC tT mm oO i) + (mk 0 mm tT oO (i + 1))))), (0, .ref (bd 0))]) hx hb dX1_totalTime_40 hl (k := 1) rfl (iI_inc (by omega)) (by decide) rfl (fun ls hl => ?_)
        refine lv_goto (tgt := 14) hx hb dX1_totalTime_43 (by decide) ?_
        exact ih14 (i + 1) ((i : Int) + 1) ((toC tT mm oO i) + (mk 0 mm tT oO (i + 1))) (by omega) (by omega) (rfl) (by omega) _ _ hP hD hS ls (lv_sub hl [0, 1, 2] rfl)
  exact L14 (nn - 0 + 1) 0 (0) (0) (by omega) (by omega) (rfl) (Nat.lt_succ_self _) _ _ hP hD hS ls (lv_sub hl [0, 1, 2] rfl)
set_option maxHeartbeats 4000000 in
set_option maxRecDepth 100000 in
theorem mX1_head {q k : Nat} (hT : ∀ k, 0 ≤ tT k ∧ tT k ≤ 99) (hn : nn ≤ 7) (hm : 1 ≤ mm ∧ mm ≤ 5) (hO : ∀ k, k < nn → oO k < 7) (hq : q < nn) (hk : k < mm) : IM l yX1_head wsX1_head (rmx 5 116) D (tyk cI cZ cJ) (mw bd cI th nn mm bm tT oO tB tL oR oJ) [.ref (bd 0), .int (iI ((q : Int))), .int (iI ((k : Int)))] (QI D (tyk cI cZ cJ) (fun u : (Nat → Int) => mw bd cI 0 nn mm bm tT oO u tL oR oJ) (fun y u => y = iI ((row 0 mm tT oO (q + 1)).2 k))) := by
  refine imI_of (cc := cX1_head) (maxL := 3) (by decide) rfl (Nat.le_of_ble_eq_true rfl) ?_
  intro p e s m args below meth c A Q hx hb hml hown hts hA hK hP hD hS hret ls hl
  have hown : s.vm.findClass RX1 = some m.cls := hown
  have hl : lv_has ls 3 [(0, .ref (bd 0)), (1, .int (iI ((q : Int)))), (2, .int (iI ((k : Int))))] := hl
  have inW : ∀ w ∈ wsX10, w ∈ wsX1_head := by first | exact (fun w h => List.mem_cons_of_mem _ (List.mem_append_right _ h)) | exact (fun w h => List.mem_cons_of_mem _ (List.mem_append_left _ (List.mem_append_right _ h))) | exact (fun w h => List.mem_cons_of_mem _ (List.mem_append_left _ (List.mem_append_left _ (List.mem_append_right _ h)))) | decide +kernel
  refine lv_aload_n hx hb dX1_head_0 rfl (lv_at hl 0 rfl) ?_
  refine lv_aload_n hx hb dX1_head_1 rfl (lv_at hl 0 rfl) ?_
  refine lv_iload_n hx hb dX1_head_2 rfl (lv_at hl 1 rfl) ?_
  refine lv_iload_n hx hb dX1_head_3 rfl (lv_at hl 2 rfl) ?_
  refine w_pV (As := [.int (iI ((q : Int))), .int (iI ((k : Int)))]) (rest := [.ref (bd 0)]) ⟨hx, hb, hml, hown, hts⟩ hK hP (mX1_isOf_y  hn hm.2 (by omega) (by omega)) (cwV 2 hts gX1_head_X1_isOf rfl rfl rfl (by decide +kernel) ⟨Nat.le_of_ble_eq_true rfl, Nat.le_of_ble_eq_true rfl⟩) (ci := 1) rfl rfl rfl rfl hl.1 rfl (Nat.le_of_ble_eq_true rfl) dX1_head_4 ⟨Nat.zero_le _, Nat.zero_le _⟩ (fun r4 hr4 => ?_)
  refine w_top (v := iI (1)) (hr4.trans (congrArg iI (by omega))) ?_
  refine w_if_eq (tgt := 14) hx hb dX1_head_7 (by decide) ⟨by omega, by omega⟩ (fun c7 => absurd c7 (by omega)) (fun c7 => ?_)
  refine lv_iconst (v := iI 0) hx hb dX1_head_10 rfl ?_
  refine lv_goto (tgt := 15) hx hb dX1_head_11 (by decide) ?_
  refine va_put (D := D) (ci := 1) (ty := .int) (C := RX1) (T := TX1) (N := 10) hx hb hts inW tyX1 tyX1_ok nmX1 hown hK hP hD hS 0 rfl rfl 0 (by decide) (hts (.fieldLink RX1 32 "FlowforgeModel" "thrown" "I") (List.mem_of_getElem? (i := 1) rfl)) (fun _ h9 => h9) rfl (by decide +kernel) rfl rfl (Nat.le_of_ble_eq_true rfl) dX1_head_15 (fun H locs hP hD hS => ?_)
  have hP : va_P D vwCl (mw bd cI 0 nn mm bm tT oO tB tL oR oJ) H := hP
  have hD : va_D A (mw bd cI 0 nn mm bm tT oO tB tL oR oJ) := hD
  refine lv_aload_n hx hb dX1_head_18 rfl (lv_at hl 0 rfl) ?_
  refine va_get (D := D) (ci := 1) (C := RX1) (T := TX1) (N := 10) hx hb hts inW hown hK hP 0 rfl rfl 0 (by decide) (hts (.fieldLink RX1 32 "FlowforgeModel" "thrown" "I") (List.mem_of_getElem? (i := 1) rfl)) (fun _ h9 => h9) rfl dX1_head_19 ?_
  refine w_if_le (tgt := 27) hx hb dX1_head_22 (by decide) ⟨by omega, by omega⟩ (fun c22 => ?_) (fun c22 => absurd c22 (by omega))
  refine lv_aload_n hx hb dX1_head_27 rfl (lv_at hl 0 rfl) ?_
  refine w_iV (As := []) (rest := []) (wf := fun u : (Nat → Int) => mw bd cI 0 nn mm bm tT oO u tL oR oJ) (wr := []) ⟨hx, hb, hml, hown, hts⟩ hK hP hD hS hA (mX1_plain  hT hn hm hO) (cwV 0 hts gX1_head_X1_plain rfl rfl rfl (by decide +kernel) ⟨Nat.le_of_ble_eq_true rfl, Nat.le_of_ble_eq_true rfl⟩) [0, 1, 2, 3, 4, 5, 6] [] [0, 1, 2, 3, 4, 5, 6] rfl rfl (by decide) (by decide) (by decide) (hwf := fun _ => rfl) (by decide) (ci := 1) rfl rfl rfl rfl hl.1 rfl (Nat.le_of_ble_eq_true rfl) dX1_head_28 ⟨Nat.zero_le _, Nat.zero_le _⟩ (fun r28 u H locs hr28 hP hD hS => ?_)
  obtain ⟨uB, huB⟩ : ∃ z, z = u := ⟨_, rfl⟩
  subst huB
  obtain ⟨hq28, hI⟩ := hr28
  have hP : va_P D vwCl (mw bd cI 0 nn mm bm tT oO uB tL oR oJ) H := hP
  have hD : va_D A (mw bd cI 0 nn mm bm tT oO uB tL oR oJ) := hD
  refine w_top (v := iI ((mk 0 mm tT oO nn))) (hq28) ?_
  refine lv_pop hx hb dX1_head_31 rfl ?_
  refine lv_aload_n hx hb dX1_head_32 rfl (lv_at hl 0 rfl) ?_
  refine lv_aload_n hx hb dX1_head_33 rfl (lv_at hl 0 rfl) ?_
  refine va_get (D := D) (ci := 1) (C := RX1) (T := TX1) (N := 10) hx hb hts inW hown hK hP 0 rfl rfl 4 (by decide) (hts (.fieldLink RX1 17 "FlowforgeModel" "order" "[I") (List.mem_of_getElem? (i := 2) rfl)) (fun _ h9 => h9) rfl dX1_head_34 ?_
  refine lv_iload_n hx hb dX1_head_37 rfl (lv_at hl 1 rfl) ?_
  refine lv_iload_n hx hb dX1_head_38 rfl (lv_at hl 2 rfl) ?_
  refine w_pV (As := [.ref (bd 2), .int (iI ((q : Int))), .int (iI ((k : Int)))]) (rest := []) ⟨hx, hb, hml, hown, hts⟩ hK hP (mX1_endOf_o  (q := q) (k := k) (by omega) (hO _ (by omega)) (by omega)) (cwV 3 hts gX1_head_X1_endOf rfl rfl rfl (by decide +kernel) ⟨Nat.le_of_ble_eq_true rfl, Nat.le_of_ble_eq_true rfl⟩) (ci := 1) rfl rfl rfl rfl hl.1 rfl (Nat.le_of_ble_eq_true rfl) dX1_head_39 ⟨Nat.zero_le _, Nat.zero_le _⟩ (fun r39 hr39 => ?_)
  refine w_top (v := iI (((row 0 mm tT oO (q + 1)).2 k))) (hr39.trans (congrArg iI (mrows_e hI hq hk))) ?_
  exact hret _ _ 42 ls _ (uB) hP hD hS (rfl) dX1_head_42
set_option maxHeartbeats 4000000 in
set_option maxRecDepth 100000 in
theorem mX1_head_e {x y : Int} (hn : nn ≤ 7) (hm : 1 ≤ mm ∧ mm ≤ 5) (hr9 : -2147483648 ≤ x ∧ x ≤ 2147483647 ∧ -2147483648 ≤ y ∧ y ≤ 2147483647) (hbad : ¬ ((0 ≤ x ∧ x < (nn : Int)) ∧ 0 ≤ y ∧ y < (mm : Int))) : IM l yX1_head wsX1_head (rmx 2 44) D (tyk cI cZ cJ) (mw bd cI th nn mm bm tT oO tB tL oR oJ) [.ref (bd 0), .int (iI (x)), .int (iI (y))] (QI D (tyk cI cZ cJ) (fun u : Unit => mw bd cI 1 nn mm bm tT oO tB tL oR oJ) (fun x _ => x = iI 0)) := by
  refine imI_of (cc := cX1_head) (maxL := 3) (by decide) rfl (Nat.le_of_ble_eq_true rfl) ?_
  intro p e s m args below meth c A Q hx hb hml hown hts hA hK hP hD hS hret ls hl
  have hown : s.vm.findClass RX1 = some m.cls := hown
  have hl : lv_has ls 3 [(0, .ref (bd 0)), (1, .int (iI (x))), (2, .int (iI (y)))] := hl
  have inW : ∀ w ∈ wsX10, w ∈ wsX1_head := by first | exact (fun w h => List.mem_cons_of_mem _ (List.mem_append_right _ h)) | exact (fun w h => List.mem_cons_of_mem _ (List.mem_append_left _ (List.mem_append_right _ h))) | exact (fun w h => List.mem_cons_of_mem _ (List.mem_append_left _ (List.mem_append_left _ (List.mem_append_right _ h)))) | decide +kernel
  refine lv_aload_n hx hb dX1_head_0 rfl (lv_at hl 0 rfl) ?_
  refine lv_aload_n hx hb dX1_head_1 rfl (lv_at hl 0 rfl) ?_
  refine lv_iload_n hx hb dX1_head_2 rfl (lv_at hl 1 rfl) ?_
  refine lv_iload_n hx hb dX1_head_3 rfl (lv_at hl 2 rfl) ?_
  refine w_pV (As := [.int (iI (x)), .int (iI (y))]) (rest := [.ref (bd 0)]) ⟨hx, hb, hml, hown, hts⟩ hK hP (mX1_isOf_n  hn hm.2 (by omega) hbad) (cwV 2 hts gX1_head_X1_isOf rfl rfl rfl (by decide +kernel) ⟨Nat.le_of_ble_eq_true rfl, Nat.le_of_ble_eq_true rfl⟩) (ci := 1) rfl rfl rfl rfl hl.1 rfl (Nat.le_of_ble_eq_true rfl) dX1_head_4 ⟨Nat.zero_le _, Nat.zero_le _⟩ (fun r4 hr4 => ?_)
  refine w_top (v := iI (0)) (hr4.trans (congrArg iI (by omega))) ?_
  refine w_if_eq (tgt := 14) hx hb dX1_head_7 (by decide) ⟨by omega, by omega⟩ (fun c7 => ?_) (fun c7 => absurd c7 (by omega))
  refine lv_iconst (v := iI 1) hx hb dX1_head_14 rfl ?_
  refine va_put (D := D) (ci := 1) (ty := .int) (C := RX1) (T := TX1) (N := 10) hx hb hts inW tyX1 tyX1_ok nmX1 hown hK hP hD hS 0 rfl rfl 0 (by decide) (hts (.fieldLink RX1 32 "FlowforgeModel" "thrown" "I") (List.mem_of_getElem? (i := 1) rfl)) (fun _ h9 => h9) rfl (by decide +kernel) rfl rfl (Nat.le_of_ble_eq_true rfl) dX1_head_15 (fun H locs hP hD hS => ?_)
  have hP : va_P D vwCl (mw bd cI 1 nn mm bm tT oO tB tL oR oJ) H := hP
  have hD : va_D A (mw bd cI 1 nn mm bm tT oO tB tL oR oJ) := hD
  refine lv_aload_n hx hb dX1_head_18 rfl (lv_at hl 0 rfl) ?_
  refine va_get (D := D) (ci := 1) (C := RX1) (T := TX1) (N := 10) hx hb hts inW hown hK hP 0 rfl rfl 0 (by decide) (hts (.fieldLink RX1 32 "FlowforgeModel" "thrown" "I") (List.mem_of_getElem? (i := 1) rfl)) (fun _ h9 => h9) rfl dX1_head_19 ?_
  refine w_if_le (tgt := 27) hx hb dX1_head_22 (by decide) ⟨by omega, by omega⟩ (fun c22 => absurd c22 (by omega)) (fun c22 => ?_)
  refine lv_iconst (v := iI 0) hx hb dX1_head_25 rfl ?_
  exact hret _ _ 26 ls _ (()) hP hD hS (rfl) dX1_head_26
set_option maxHeartbeats 4000000 in
set_option maxRecDepth 100000 in
theorem mX1_tail {q k : Nat} (hT : ∀ k, 0 ≤ tT k ∧ tT k ≤ 99) (hn : nn ≤ 7) (hm : 1 ≤ mm ∧ mm ≤ 5) (hO : ∀ k, k < nn → oO k < 7) (hq : q < nn) (hk : k < mm) : IM l yX1_tail wsX1_tail (rmx 2 46) D (tyk cI cZ cJ) (mw bd cI th nn mm bm tT oO tB tL oR oJ) [.ref (bd 0), .int (iI ((q : Int))), .int (iI ((k : Int)))] (QI D (tyk cI cZ cJ) (fun u : (Nat → Int) => mw bd cI 0 nn mm bm tT oO tB u oR oJ) (fun y u => y = iI (tlr tT oO nn mm (nn - q) k))) := by
  refine imI_of (cc := cX1_tail) (maxL := 3) (by decide) rfl (Nat.le_of_ble_eq_true rfl) ?_
  intro p e s m args below meth c A Q hx hb hml hown hts hA hK hP hD hS hret ls hl
  have hown : s.vm.findClass RX1 = some m.cls := hown
  have hl : lv_has ls 3 [(0, .ref (bd 0)), (1, .int (iI ((q : Int)))), (2, .int (iI ((k : Int))))] := hl
  have inW : ∀ w ∈ wsX10, w ∈ wsX1_tail := by first | exact (fun w h => List.mem_cons_of_mem _ (List.mem_append_right _ h)) | exact (fun w h => List.mem_cons_of_mem _ (List.mem_append_left _ (List.mem_append_right _ h))) | exact (fun w h => List.mem_cons_of_mem _ (List.mem_append_left _ (List.mem_append_left _ (List.mem_append_right _ h)))) | decide +kernel
  refine lv_aload_n hx hb dX1_tail_0 rfl (lv_at hl 0 rfl) ?_
  refine lv_aload_n hx hb dX1_tail_1 rfl (lv_at hl 0 rfl) ?_
  refine lv_iload_n hx hb dX1_tail_2 rfl (lv_at hl 1 rfl) ?_
  refine lv_iload_n hx hb dX1_tail_3 rfl (lv_at hl 2 rfl) ?_
  refine w_pV (As := [.int (iI ((q : Int))), .int (iI ((k : Int)))]) (rest := [.ref (bd 0)]) ⟨hx, hb, hml, hown, hts⟩ hK hP (mX1_isOf_y  hn hm.2 (by omega) (by omega)) (cwV 2 hts gX1_tail_X1_isOf rfl rfl rfl (by decide +kernel) ⟨Nat.le_of_ble_eq_true rfl, Nat.le_of_ble_eq_true rfl⟩) (ci := 1) rfl rfl rfl rfl hl.1 rfl (Nat.le_of_ble_eq_true rfl) dX1_tail_4 ⟨Nat.zero_le _, Nat.zero_le _⟩ (fun r4 hr4 => ?_)
  refine w_top (v := iI (1)) (hr4.trans (congrArg iI (by omega))) ?_
  refine w_if_eq (tgt := 14) hx hb dX1_tail_7 (by decide) ⟨by omega, by omega⟩ (fun c7 => absurd c7 (by omega)) (fun c7 => ?_)
  refine lv_iconst (v := iI 0) hx hb dX1_tail_10 rfl ?_
  refine lv_goto (tgt := 15) hx hb dX1_tail_11 (by decide) ?_
  refine va_put (D := D) (ci := 1) (ty := .int) (C := RX1) (T := TX1) (N := 10) hx hb hts inW tyX1 tyX1_ok nmX1 hown hK hP hD hS 0 rfl rfl 0 (by decide) (hts (.fieldLink RX1 32 "FlowforgeModel" "thrown" "I") (List.mem_of_getElem? (i := 1) rfl)) (fun _ h9 => h9) rfl (by decide +kernel) rfl rfl (Nat.le_of_ble_eq_true rfl) dX1_tail_15 (fun H locs hP hD hS => ?_)
  have hP : va_P D vwCl (mw bd cI 0 nn mm bm tT oO tB tL oR oJ) H := hP
  have hD : va_D A (mw bd cI 0 nn mm bm tT oO tB tL oR oJ) := hD
  refine lv_aload_n hx hb dX1_tail_18 rfl (lv_at hl 0 rfl) ?_
  refine w_iVv (As := []) (rest := []) (wf := fun u : (Nat → Int) => mw bd cI 0 nn mm bm tT oO tB u oR oJ) (wr := []) ⟨hx, hb, hml, hown, hts⟩ hK hP hD hS hA (mX1_laysTails  hT hn hm hO) (cwV 0 hts gX1_tail_X1_laysTails rfl rfl rfl (by decide +kernel) ⟨Nat.le_of_ble_eq_true rfl, Nat.le_of_ble_eq_true rfl⟩) [0, 1, 2, 3, 4, 5, 6] [] [0, 1, 2, 3, 4, 5, 6] rfl rfl (by decide) (by decide) (by decide) (hwf := fun _ => rfl) (by decide) (ci := 1) rfl rfl rfl rfl hl.1 rfl (Nat.le_of_ble_eq_true rfl) dX1_tail_19 ⟨Nat.zero_le _, Nat.zero_le _⟩ (fun u H locs hr19 hP hD hS => ?_)
  obtain ⟨uL, huL⟩ : ∃ z, z = u := ⟨_, rfl⟩
  subst huL
  have hL : trow tT oO nn mm uL nn := hr19
  have hP : va_P D vwCl (mw bd cI 0 nn mm bm tT oO tB uL oR oJ) H := hP
  have hD : va_D A (mw bd cI 0 nn mm bm tT oO tB uL oR oJ) := hD
  refine lv_aload_n hx hb dX1_tail_22 rfl (lv_at hl 0 rfl) ?_
  refine va_get (D := D) (ci := 1) (C := RX1) (T := TX1) (N := 10) hx hb hts inW hown hK hP 0 rfl rfl 0 (by decide) (hts (.fieldLink RX1 32 "FlowforgeModel" "thrown" "I") (List.mem_of_getElem? (i := 1) rfl)) (fun _ h9 => h9) rfl dX1_tail_23 ?_
  refine w_if_le (tgt := 33) hx hb dX1_tail_26 (by decide) ⟨by omega, by omega⟩ (fun c26 => ?_) (fun c26 => absurd c26 (by omega))
  refine lv_aload_n hx hb dX1_tail_33 rfl (lv_at hl 0 rfl) ?_
  refine va_get (D := D) (ci := 1) (C := RX1) (T := TX1) (N := 10) hx hb hts inW hown hK hP 0 rfl rfl 6 (by decide) (hts (.fieldLink RX1 23 "FlowforgeModel" "tails" "[I") (List.mem_of_getElem? (i := 2) rfl)) (fun _ h9 => h9) rfl dX1_tail_34 ?_
  refine lv_iconst (v := iI 5) hx hb dX1_tail_37 rfl ?_
  refine lv_iload_n hx hb dX1_tail_38 rfl (lv_at hl 1 rfl) ?_
  refine w_imul (z := 5 * (q : Int)) hx hb dX1_tail_39 (by omega) ?_
  refine lv_iload_n hx hb dX1_tail_40 rfl (lv_at hl 2 rfl) ?_
  refine w_iadd (z := 5 * (q : Int) + (k : Int)) hx hb dX1_tail_41 (by omega) ?_
  refine w_iald (v := iI (tlr tT oO nn mm (nn - q) k)) hx hb hK hP 4 0 rfl rfl (5 * q + k) (by omega) (by omega) (by decide) (congrArg iI (hL q (by omega) hq k hk)) dX1_tail_42 ?_
  exact hret _ _ 43 ls _ (uL) hP hD hS (rfl) dX1_tail_43
set_option maxHeartbeats 4000000 in
set_option maxRecDepth 100000 in
theorem mX1_tail_e {x y : Int} (hT : ∀ k, 0 ≤ tT k ∧ tT k ≤ 99) (hn : nn ≤ 7) (hm : 1 ≤ mm ∧ mm ≤ 5) (hO : ∀ k, k < nn → oO k < 7) (hr9 : -2147483648 ≤ x ∧ x ≤ 2147483647 ∧ -2147483648 ≤ y ∧ y ≤ 2147483647) (hbad : ¬ ((0 ≤ x ∧ x < (nn : Int)) ∧ 0 ≤ y ∧ y < (mm : Int))) : IM l yX1_tail wsX1_tail (rmx 2 46) D (tyk cI cZ cJ) (mw bd cI th nn mm bm tT oO tB tL oR oJ) [.ref (bd 0), .int (iI (x)), .int (iI (y))] (QI D (tyk cI cZ cJ) (fun u : (Nat → Int) => mw bd cI 1 nn mm bm tT oO tB u oR oJ) (fun y u => y = iI 0)) := by
  refine imI_of (cc := cX1_tail) (maxL := 3) (by decide) rfl (Nat.le_of_ble_eq_true rfl) ?_
  intro p e s m args below meth c A Q hx hb hml hown hts hA hK hP hD hS hret ls hl
  have hown : s.vm.findClass RX1 = some m.cls := hown
  have hl : lv_has ls 3 [(0, .ref (bd 0)), (1, .int (iI (x))), (2, .int (iI (y)))] := hl
  have inW : ∀ w ∈ wsX10, w ∈ wsX1_tail := by first | exact (fun w h => List.mem_cons_of_mem _ (List.mem_append_right _ h)) | exact (fun w h => List.mem_cons_of_mem _ (List.mem_append_left _ (List.mem_append_right _ h))) | exact (fun w h => List.mem_cons_of_mem _ (List.mem_append_left _ (List.mem_append_left _ (List.mem_append_right _ h)))) | decide +kernel
  refine lv_aload_n hx hb dX1_tail_0 rfl (lv_at hl 0 rfl) ?_
  refine lv_aload_n hx hb dX1_tail_1 rfl (lv_at hl 0 rfl) ?_
  refine lv_iload_n hx hb dX1_tail_2 rfl (lv_at hl 1 rfl) ?_
  refine lv_iload_n hx hb dX1_tail_3 rfl (lv_at hl 2 rfl) ?_
  refine w_pV (As := [.int (iI (x)), .int (iI (y))]) (rest := [.ref (bd 0)]) ⟨hx, hb, hml, hown, hts⟩ hK hP (mX1_isOf_n  hn hm.2 (by omega) hbad) (cwV 2 hts gX1_tail_X1_isOf rfl rfl rfl (by decide +kernel) ⟨Nat.le_of_ble_eq_true rfl, Nat.le_of_ble_eq_true rfl⟩) (ci := 1) rfl rfl rfl rfl hl.1 rfl (Nat.le_of_ble_eq_true rfl) dX1_tail_4 ⟨Nat.zero_le _, Nat.zero_le _⟩ (fun r4 hr4 => ?_)
  refine w_top (v := iI (0)) (hr4.trans (congrArg iI (by omega))) ?_
  refine w_if_eq (tgt := 14) hx hb dX1_tail_7 (by decide) ⟨by omega, by omega⟩ (fun c7 => ?_) (fun c7 => absurd c7 (by omega))
  refine lv_iconst (v := iI 1) hx hb dX1_tail_14 rfl ?_
  refine va_put (D := D) (ci := 1) (ty := .int) (C := RX1) (T := TX1) (N := 10) hx hb hts inW tyX1 tyX1_ok nmX1 hown hK hP hD hS 0 rfl rfl 0 (by decide) (hts (.fieldLink RX1 32 "FlowforgeModel" "thrown" "I") (List.mem_of_getElem? (i := 1) rfl)) (fun _ h9 => h9) rfl (by decide +kernel) rfl rfl (Nat.le_of_ble_eq_true rfl) dX1_tail_15 (fun H locs hP hD hS => ?_)
  have hP : va_P D vwCl (mw bd cI 1 nn mm bm tT oO tB tL oR oJ) H := hP
  have hD : va_D A (mw bd cI 1 nn mm bm tT oO tB tL oR oJ) := hD
  refine lv_aload_n hx hb dX1_tail_18 rfl (lv_at hl 0 rfl) ?_
  refine w_iVv (As := []) (rest := []) (wf := fun u : (Nat → Int) => mw bd cI 1 nn mm bm tT oO tB u oR oJ) (wr := []) ⟨hx, hb, hml, hown, hts⟩ hK hP hD hS hA (mX1_laysTails  hT hn hm hO) (cwV 0 hts gX1_tail_X1_laysTails rfl rfl rfl (by decide +kernel) ⟨Nat.le_of_ble_eq_true rfl, Nat.le_of_ble_eq_true rfl⟩) [0, 1, 2, 3, 4, 5, 6] [] [0, 1, 2, 3, 4, 5, 6] rfl rfl (by decide) (by decide) (by decide) (hwf := fun _ => rfl) (by decide) (ci := 1) rfl rfl rfl rfl hl.1 rfl (Nat.le_of_ble_eq_true rfl) dX1_tail_19 ⟨Nat.zero_le _, Nat.zero_le _⟩ (fun u H locs hr19 hP hD hS => ?_)
  obtain ⟨uL, huL⟩ : ∃ z, z = u := ⟨_, rfl⟩
  subst huL
  have hL : trow tT oO nn mm uL nn := hr19
  have hP : va_P D vwCl (mw bd cI 1 nn mm bm tT oO tB uL oR oJ) H := hP
  have hD : va_D A (mw bd cI 1 nn mm bm tT oO tB uL oR oJ) := hD
  refine lv_aload_n hx hb dX1_tail_22 rfl (lv_at hl 0 rfl) ?_
  refine va_get (D := D) (ci := 1) (C := RX1) (T := TX1) (N := 10) hx hb hts inW hown hK hP 0 rfl rfl 0 (by decide) (hts (.fieldLink RX1 32 "FlowforgeModel" "thrown" "I") (List.mem_of_getElem? (i := 1) rfl)) (fun _ h9 => h9) rfl dX1_tail_23 ?_
  refine w_if_le (tgt := 33) hx hb dX1_tail_26 (by decide) ⟨by omega, by omega⟩ (fun c26 => absurd c26 (by omega)) (fun c26 => ?_)
  refine lv_iconst (v := iI 0) hx hb dX1_tail_29 rfl ?_
  refine lv_goto (tgt := 43) hx hb dX1_tail_30 (by decide) ?_
  exact hret _ _ 43 ls _ (uL) hP hD hS (rfl) dX1_tail_43
set_option maxHeartbeats 4000000 in
set_option maxRecDepth 100000 in
theorem mX1_isCritical {q k : Nat} (hT : ∀ k, 0 ≤ tT k ∧ tT k ≤ 99) (hn : nn ≤ 7) (hm : 1 ≤ mm ∧ mm ≤ 5) (hO : ∀ k, k < nn → oO k < 7) (hq : q < nn) (hk : k < mm) : IM l yX1_isCritical wsX1_isCritical (rmx 5 116) D (tyk cI cZ cJ) (mw bd cI th nn mm bm tT oO tB tL oR oJ) [.ref (bd 0), .int (iI ((q : Int))), .int (iI ((k : Int)))] (QI D (tyk cI cZ cJ) (fun u : (Nat → Int) × (Nat → Int) => mw bd cI 0 nn mm bm tT oO u.1 u.2 oR oJ) (fun y u => y = iI (crtV mm tT oO nn q k))) := by
  refine imZ_of (cc := cX1_isCritical) (maxL := 4) (by decide) rfl (Nat.le_of_ble_eq_true rfl) ?_
  intro p e s m args below meth c A Q hx hb hml hown hts hA hK hP hD hS hret ls hl
  have hown : s.vm.findClass RX1 = some m.cls := hown
  have hl : lv_has ls 4 [(0, .ref (bd 0)), (1, .int (iI ((q : Int)))), (2, .int (iI ((k : Int))))] := hl
  have inW : ∀ w ∈ wsX10, w ∈ wsX1_isCritical := by first | exact (fun w h => List.mem_cons_of_mem _ (List.mem_append_right _ h)) | exact (fun w h => List.mem_cons_of_mem _ (List.mem_append_left _ (List.mem_append_right _ h))) | exact (fun w h => List.mem_cons_of_mem _ (List.mem_append_left _ (List.mem_append_left _ (List.mem_append_right _ h)))) | decide +kernel
  refine lv_aload_n hx hb dX1_isCritical_0 rfl (lv_at hl 0 rfl) ?_
  refine lv_aload_n hx hb dX1_isCritical_1 rfl (lv_at hl 0 rfl) ?_
  refine lv_iload_n hx hb dX1_isCritical_2 rfl (lv_at hl 1 rfl) ?_
  refine lv_iload_n hx hb dX1_isCritical_3 rfl (lv_at hl 2 rfl) ?_
  refine w_pV (As := [.int (iI ((q : Int))), .int (iI ((k : Int)))]) (rest := [.ref (bd 0)]) ⟨hx, hb, hml, hown, hts⟩ hK hP (mX1_isOf_y  hn hm.2 (by omega) (by omega)) (cwV 2 hts gX1_isCritical_X1_isOf rfl rfl rfl (by decide +kernel) ⟨Nat.le_of_ble_eq_true rfl, Nat.le_of_ble_eq_true rfl⟩) (ci := 1) rfl rfl rfl rfl hl.1 rfl (Nat.le_of_ble_eq_true rfl) dX1_isCritical_4 ⟨Nat.zero_le _, Nat.zero_le _⟩ (fun r4 hr4 => ?_)
  refine w_top (v := iI (1)) (hr4.trans (congrArg iI (by omega))) ?_
  refine w_if_eq (tgt := 14) hx hb dX1_isCritical_7 (by decide) ⟨by omega, by omega⟩ (fun c7 => absurd c7 (by omega)) (fun c7 => ?_)
  refine lv_iconst (v := iI 0) hx hb dX1_isCritical_10 rfl ?_
  refine lv_goto (tgt := 15) hx hb dX1_isCritical_11 (by decide) ?_
  refine va_put (D := D) (ci := 1) (ty := .int) (C := RX1) (T := TX1) (N := 10) hx hb hts inW tyX1 tyX1_ok nmX1 hown hK hP hD hS 0 rfl rfl 0 (by decide) (hts (.fieldLink RX1 32 "FlowforgeModel" "thrown" "I") (List.mem_of_getElem? (i := 1) rfl)) (fun _ h9 => h9) rfl (by decide +kernel) rfl rfl (Nat.le_of_ble_eq_true rfl) dX1_isCritical_15 (fun H locs hP hD hS => ?_)
  have hP : va_P D vwCl (mw bd cI 0 nn mm bm tT oO tB tL oR oJ) H := hP
  have hD : va_D A (mw bd cI 0 nn mm bm tT oO tB tL oR oJ) := hD
  refine lv_aload_n hx hb dX1_isCritical_18 rfl (lv_at hl 0 rfl) ?_
  refine va_get (D := D) (ci := 1) (C := RX1) (T := TX1) (N := 10) hx hb hts inW hown hK hP 0 rfl rfl 0 (by decide) (hts (.fieldLink RX1 32 "FlowforgeModel" "thrown" "I") (List.mem_of_getElem? (i := 1) rfl)) (fun _ h9 => h9) rfl dX1_isCritical_19 ?_
  refine w_if_le (tgt := 27) hx hb dX1_isCritical_22 (by decide) ⟨by omega, by omega⟩ (fun c22 => ?_) (fun c22 => absurd c22 (by omega))
  refine lv_aload_n hx hb dX1_isCritical_27 rfl (lv_at hl 0 rfl) ?_
  refine w_iV (As := []) (rest := []) (wf := fun u : (Nat → Int) => mw bd cI 0 nn mm bm tT oO u tL oR oJ) (wr := []) ⟨hx, hb, hml, hown, hts⟩ hK hP hD hS hA (mX1_plain  hT hn hm hO) (cwV 0 hts gX1_isCritical_X1_plain rfl rfl rfl (by decide +kernel) ⟨Nat.le_of_ble_eq_true rfl, Nat.le_of_ble_eq_true rfl⟩) [0, 1, 2, 3, 4, 5, 6] [] [0, 1, 2, 3, 4, 5, 6] rfl rfl (by decide) (by decide) (by decide) (hwf := fun _ => rfl) (by decide) (ci := 1) rfl rfl rfl rfl hl.1 rfl (Nat.le_of_ble_eq_true rfl) dX1_isCritical_28 ⟨Nat.zero_le _, Nat.zero_le _⟩ (fun r28 u H locs hr28 hP hD hS => ?_)
  obtain ⟨uB, huB⟩ : ∃ z, z = u := ⟨_, rfl⟩
  subst huB
  obtain ⟨hq28, hI⟩ := hr28
  have hP : va_P D vwCl (mw bd cI 0 nn mm bm tT oO uB tL oR oJ) H := hP
  have hD : va_D A (mw bd cI 0 nn mm bm tT oO uB tL oR oJ) := hD
  refine w_top (v := iI ((mk 0 mm tT oO nn))) (hq28) ?_
  refine lv_istore_n (lv' := [(3, .int (iI ((mk 0 mm tT oO nn)))), (0, .ref (bd 0)), (1, .int (iI ((q : Int)))), (2, .int (iI ((k : Int))))]) hx hb dX1_isCritical_31 rfl hl (by decide) rfl (fun ls hl => ?_)
  refine lv_aload_n hx hb dX1_isCritical_32 rfl (lv_at hl 1 rfl) ?_
  refine w_iVv (As := []) (rest := []) (wf := fun u : (Nat → Int) => mw bd cI 0 nn mm bm tT oO uB u oR oJ) (wr := []) ⟨hx, hb, hml, hown, hts⟩ hK hP hD hS hA (mX1_laysTails  hT hn hm hO) (cwV 0 hts gX1_isCritical_X1_laysTails rfl rfl rfl (by decide +kernel) ⟨Nat.le_of_ble_eq_true rfl, Nat.le_of_ble_eq_true rfl⟩) [0, 1, 2, 3, 4, 5, 6] [] [0, 1, 2, 3, 4, 5, 6] rfl rfl (by decide) (by decide) (by decide) (hwf := fun _ => rfl) (by decide) (ci := 1) rfl rfl rfl rfl hl.1 rfl (Nat.le_of_ble_eq_true rfl) dX1_isCritical_33 ⟨Nat.zero_le _, Nat.zero_le _⟩ (fun u H locs hr33 hP hD hS => ?_)
  obtain ⟨uL, huL⟩ : ∃ z, z = u := ⟨_, rfl⟩
  subst huL
  have hL : trow tT oO nn mm uL nn := hr33
  have hP : va_P D vwCl (mw bd cI 0 nn mm bm tT oO uB uL oR oJ) H := hP
  have hD : va_D A (mw bd cI 0 nn mm bm tT oO uB uL oR oJ) := hD
  refine lv_aload_n hx hb dX1_isCritical_36 rfl (lv_at hl 1 rfl) ?_
  refine lv_iload_n hx hb dX1_isCritical_37 rfl (lv_at hl 2 rfl) ?_
  refine lv_iload_n hx hb dX1_isCritical_38 rfl (lv_at hl 3 rfl) ?_
  refine w_pV (As := [.int (iI ((q : Int))), .int (iI ((k : Int)))]) (rest := []) ⟨hx, hb, hml, hown, hts⟩ hK hP (mX1_startOf (j := q) (by omega) (by omega)) (cwV 2 hts gX1_isCritical_X1_startOf rfl rfl rfl (by decide +kernel) ⟨Nat.le_of_ble_eq_true rfl, Nat.le_of_ble_eq_true rfl⟩) (ci := 1) rfl rfl rfl rfl hl.1 rfl (Nat.le_of_ble_eq_true rfl) dX1_isCritical_39 ⟨Nat.zero_le _, Nat.zero_le _⟩ (fun r39 hr39 => ?_)
  refine w_top (v := iI (((row 0 mm tT oO (q + 1)).1 k))) (hr39.trans (congrArg iI (hI q hq k hk))) ?_
  refine lv_aload_n hx hb dX1_isCritical_42 rfl (lv_at hl 1 rfl) ?_
  refine va_get (D := D) (ci := 1) (C := RX1) (T := TX1) (N := 10) hx hb hts inW hown hK hP 0 rfl rfl 6 (by decide) (hts (.fieldLink RX1 23 "FlowforgeModel" "tails" "[I") (List.mem_of_getElem? (i := 2) rfl)) (fun _ h9 => h9) rfl dX1_isCritical_43 ?_
  refine lv_iconst (v := iI 5) hx hb dX1_isCritical_46 rfl ?_
  refine lv_iload_n hx hb dX1_isCritical_47 rfl (lv_at hl 2 rfl) ?_
  refine w_imul (z := 5 * (q : Int)) hx hb dX1_isCritical_48 (by omega) ?_
  refine lv_iload_n hx hb dX1_isCritical_49 rfl (lv_at hl 3 rfl) ?_
  refine w_iadd (z := 5 * (q : Int) + (k : Int)) hx hb dX1_isCritical_50 (by omega) ?_
  refine w_iald (v := iI (tlr tT oO nn mm (nn - q) k)) hx hb hK hP 4 0 rfl rfl (5 * q + k) (by omega) (by omega) (by decide) (congrArg iI (hL q (by omega) hq k hk)) dX1_isCritical_51 ?_
  refine w_iadd (z := ((row 0 mm tT oO (q + 1)).1 k) + (tlr tT oO nn mm (nn - q) k)) hx hb dX1_isCritical_52 (by omega) ?_
  have h9 := row_rg (v := 0) (o := oO) hm.2 hT (q + 1) k hk
  have h8 := tlr_rg (o := oO) (nn := nn) hm.2 hT (nn - q) k
  have h7 := hT (5 * oO q + k)
  have h6 := mk_rg (v := 0) (o := oO) hm.1 hm.2 hT hn
  have h5 := row_e (v := 0) (mm := mm) (t := tT) (o := oO) (p := q) (k := k)
  refine lv_iload_n hx hb dX1_isCritical_53 rfl (lv_at hl 0 rfl) ?_
  refine w_icmp_ne (tgt := 61) hx hb dX1_isCritical_54 (by decide) ⟨by omega, by omega⟩ ⟨by omega, by omega⟩ (fun c54 => ?_) (fun c54 => ?_)
  · refine lv_iconst (v := iI 0) hx hb dX1_isCritical_61 rfl ?_
    exact hret _ _ 62 ls _ ((uB, uL)) rfl hP hD hS (crt_f (by omega)) dX1_isCritical_62
  · refine lv_iconst (v := iI 1) hx hb dX1_isCritical_57 rfl ?_
    refine lv_goto (tgt := 62) hx hb dX1_isCritical_58 (by decide) ?_
    exact hret _ _ 62 ls _ ((uB, uL)) rfl hP hD hS (crt_t (by omega)) dX1_isCritical_62
set_option maxHeartbeats 4000000 in
set_option maxRecDepth 100000 in
theorem mX1_isCritical_e {x y : Int} (hn : nn ≤ 7) (hm : 1 ≤ mm ∧ mm ≤ 5) (hr9 : -2147483648 ≤ x ∧ x ≤ 2147483647 ∧ -2147483648 ≤ y ∧ y ≤ 2147483647) (hbad : ¬ ((0 ≤ x ∧ x < (nn : Int)) ∧ 0 ≤ y ∧ y < (mm : Int))) : IM l yX1_isCritical wsX1_isCritical (rmx 2 44) D (tyk cI cZ cJ) (mw bd cI th nn mm bm tT oO tB tL oR oJ) [.ref (bd 0), .int (iI (x)), .int (iI (y))] (QI D (tyk cI cZ cJ) (fun u : Unit => mw bd cI 1 nn mm bm tT oO tB tL oR oJ) (fun x _ => x = iI 0)) := by
  refine imZ_of (cc := cX1_isCritical) (maxL := 4) (by decide) rfl (Nat.le_of_ble_eq_true rfl) ?_
  intro p e s m args below meth c A Q hx hb hml hown hts hA hK hP hD hS hret ls hl
  have hown : s.vm.findClass RX1 = some m.cls := hown
  have hl : lv_has ls 4 [(0, .ref (bd 0)), (1, .int (iI (x))), (2, .int (iI (y)))] := hl
  have inW : ∀ w ∈ wsX10, w ∈ wsX1_isCritical := by first | exact (fun w h => List.mem_cons_of_mem _ (List.mem_append_right _ h)) | exact (fun w h => List.mem_cons_of_mem _ (List.mem_append_left _ (List.mem_append_right _ h))) | exact (fun w h => List.mem_cons_of_mem _ (List.mem_append_left _ (List.mem_append_left _ (List.mem_append_right _ h)))) | decide +kernel
  refine lv_aload_n hx hb dX1_isCritical_0 rfl (lv_at hl 0 rfl) ?_
  refine lv_aload_n hx hb dX1_isCritical_1 rfl (lv_at hl 0 rfl) ?_
  refine lv_iload_n hx hb dX1_isCritical_2 rfl (lv_at hl 1 rfl) ?_
  refine lv_iload_n hx hb dX1_isCritical_3 rfl (lv_at hl 2 rfl) ?_
  refine w_pV (As := [.int (iI (x)), .int (iI (y))]) (rest := [.ref (bd 0)]) ⟨hx, hb, hml, hown, hts⟩ hK hP (mX1_isOf_n  hn hm.2 (by omega) hbad) (cwV 2 hts gX1_isCritical_X1_isOf rfl rfl rfl (by decide +kernel) ⟨Nat.le_of_ble_eq_true rfl, Nat.le_of_ble_eq_true rfl⟩) (ci := 1) rfl rfl rfl rfl hl.1 rfl (Nat.le_of_ble_eq_true rfl) dX1_isCritical_4 ⟨Nat.zero_le _, Nat.zero_le _⟩ (fun r4 hr4 => ?_)
  refine w_top (v := iI (0)) (hr4.trans (congrArg iI (by omega))) ?_
  refine w_if_eq (tgt := 14) hx hb dX1_isCritical_7 (by decide) ⟨by omega, by omega⟩ (fun c7 => ?_) (fun c7 => absurd c7 (by omega))
  refine lv_iconst (v := iI 1) hx hb dX1_isCritical_14 rfl ?_
  refine va_put (D := D) (ci := 1) (ty := .int) (C := RX1) (T := TX1) (N := 10) hx hb hts inW tyX1 tyX1_ok nmX1 hown hK hP hD hS 0 rfl rfl 0 (by decide) (hts (.fieldLink RX1 32 "FlowforgeModel" "thrown" "I") (List.mem_of_getElem? (i := 1) rfl)) (fun _ h9 => h9) rfl (by decide +kernel) rfl rfl (Nat.le_of_ble_eq_true rfl) dX1_isCritical_15 (fun H locs hP hD hS => ?_)
  have hP : va_P D vwCl (mw bd cI 1 nn mm bm tT oO tB tL oR oJ) H := hP
  have hD : va_D A (mw bd cI 1 nn mm bm tT oO tB tL oR oJ) := hD
  refine lv_aload_n hx hb dX1_isCritical_18 rfl (lv_at hl 0 rfl) ?_
  refine va_get (D := D) (ci := 1) (C := RX1) (T := TX1) (N := 10) hx hb hts inW hown hK hP 0 rfl rfl 0 (by decide) (hts (.fieldLink RX1 32 "FlowforgeModel" "thrown" "I") (List.mem_of_getElem? (i := 1) rfl)) (fun _ h9 => h9) rfl dX1_isCritical_19 ?_
  refine w_if_le (tgt := 27) hx hb dX1_isCritical_22 (by decide) ⟨by omega, by omega⟩ (fun c22 => absurd c22 (by omega)) (fun c22 => ?_)
  refine lv_iconst (v := iI 0) hx hb dX1_isCritical_25 rfl ?_
  exact hret _ _ 26 ls _ (()) rfl hP hD hS (rfl) dX1_isCritical_26
set_option maxHeartbeats 4000000 in
set_option maxRecDepth 100000 in
theorem mX1_idle {v k : Nat} (hT : ∀ k, 0 ≤ tT k ∧ tT k ≤ 99) (hn : nn ≤ 7) (hm : 1 ≤ mm ∧ mm ≤ 5) (hv : v ≤ 2) (hO : ∀ k, k < nn → oO k < 7) (hk : k < mm) : IM l yX1_idle wsX1_idle (rmx 4 96) D (tyk cI cZ cJ) (mw bd cI th nn mm bm tT oO tB tL oR oJ) [.ref (bd 0), .int (iI ((v : Int))), .int (iI ((k : Int)))] (QI D (tyk cI cZ cJ) (fun u : (Nat → Int) => mw bd cI 0 nn mm bm tT oO u tL oR oJ) (fun y u => y = iI (idlV v mm tT oO nn k))) := by
  refine imI_of (cc := cX1_idle) (maxL := 5) (by decide) rfl (Nat.le_of_ble_eq_true rfl) ?_
  intro p e s m args below meth c A Q hx hb hml hown hts hA hK hP hD hS hret ls hl
  have hown : s.vm.findClass RX1 = some m.cls := hown
  have hl : lv_has ls 5 [(0, .ref (bd 0)), (1, .int (iI ((v : Int)))), (2, .int (iI ((k : Int))))] := hl
  have inW : ∀ w ∈ wsX10, w ∈ wsX1_idle := by first | exact (fun w h => List.mem_cons_of_mem _ (List.mem_append_right _ h)) | exact (fun w h => List.mem_cons_of_mem _ (List.mem_append_left _ (List.mem_append_right _ h))) | exact (fun w h => List.mem_cons_of_mem _ (List.mem_append_left _ (List.mem_append_left _ (List.mem_append_right _ h)))) | decide +kernel
  refine lv_aload_n hx hb dX1_idle_0 rfl (lv_at hl 0 rfl) ?_
  refine lv_iload_n hx hb dX1_idle_1 rfl (lv_at hl 1 rfl) ?_
  refine w_pS (As := [.int (iI ((v : Int)))]) (rest := [.ref (bd 0)]) ⟨hx, hb, hml, hown, hts⟩ hK hP (mX1_isVariant_y  (by omega)) (va_cwS 1 hts gX1_idle_X1_isVariant rfl rfl rfl (by decide +kernel) ⟨Nat.le_of_ble_eq_true rfl, Nat.le_of_ble_eq_true rfl⟩) rfl hl.1 rfl (Nat.le_of_ble_eq_true rfl) dX1_idle_2 ⟨Nat.zero_le _, Nat.zero_le _⟩ (fun r2 hr2 => ?_)
  refine w_top (v := iI (1)) (hr2.trans (congrArg iI (by omega))) ?_
  refine w_if_ne (tgt := 12) hx hb dX1_idle_5 (by decide) ⟨by omega, by omega⟩ (fun c5 => ?_) (fun c5 => absurd c5 (by omega))
  refine lv_iload_n hx hb dX1_idle_12 rfl (lv_at hl 2 rfl) ?_
  refine lv_iconst (v := iI 0) hx hb dX1_idle_13 rfl ?_
  refine lv_aload_n hx hb dX1_idle_14 rfl (lv_at hl 0 rfl) ?_
  refine va_get (D := D) (ci := 1) (C := RX1) (T := TX1) (N := 10) hx hb hts inW hown hK hP 0 rfl rfl 2 (by decide) (hts (.fieldLink RX1 7 "FlowforgeModel" "wide" "I") (List.mem_of_getElem? (i := 1) rfl)) (fun _ h9 => h9) rfl dX1_idle_15 ?_
  refine lv_iconst (v := iI 1) hx hb dX1_idle_18 rfl ?_
  refine w_isub (z := (mm : Int) - 1) hx hb dX1_idle_19 (by omega) ?_
  refine w_pS (As := [.int (iI ((k : Int))), .int (iI 0), .int (iI ((mm : Int) - 1))]) (rest := [.ref (bd 0)]) ⟨hx, hb, hml, hown, hts⟩ hK hP (mX1_in_y  (by omega) (by omega)) (va_cwS 3 hts gX1_idle_X1_in rfl rfl rfl (by decide +kernel) ⟨Nat.le_of_ble_eq_true rfl, Nat.le_of_ble_eq_true rfl⟩) rfl hl.1 rfl (Nat.le_of_ble_eq_true rfl) dX1_idle_20 ⟨Nat.zero_le _, Nat.zero_le _⟩ (fun r20 hr20 => ?_)
  refine w_top (v := iI (1)) (hr20.trans (congrArg iI (by omega))) ?_
  refine w_if_eq (tgt := 30) hx hb dX1_idle_23 (by decide) ⟨by omega, by omega⟩ (fun c23 => absurd c23 (by omega)) (fun c23 => ?_)
  refine lv_iconst (v := iI 0) hx hb dX1_idle_26 rfl ?_
  refine lv_goto (tgt := 31) hx hb dX1_idle_27 (by decide) ?_
  refine va_put (D := D) (ci := 1) (ty := .int) (C := RX1) (T := TX1) (N := 10) hx hb hts inW tyX1 tyX1_ok nmX1 hown hK hP hD hS 0 rfl rfl 0 (by decide) (hts (.fieldLink RX1 32 "FlowforgeModel" "thrown" "I") (List.mem_of_getElem? (i := 2) rfl)) (fun _ h9 => h9) rfl (by decide +kernel) rfl rfl (Nat.le_of_ble_eq_true rfl) dX1_idle_31 (fun H locs hP hD hS => ?_)
  have hP : va_P D vwCl (mw bd cI 0 nn mm bm tT oO tB tL oR oJ) H := hP
  have hD : va_D A (mw bd cI 0 nn mm bm tT oO tB tL oR oJ) := hD
  refine lv_aload_n hx hb dX1_idle_34 rfl (lv_at hl 0 rfl) ?_
  refine va_get (D := D) (ci := 1) (C := RX1) (T := TX1) (N := 10) hx hb hts inW hown hK hP 0 rfl rfl 0 (by decide) (hts (.fieldLink RX1 32 "FlowforgeModel" "thrown" "I") (List.mem_of_getElem? (i := 2) rfl)) (fun _ h9 => h9) rfl dX1_idle_35 ?_
  refine w_if_gt (tgt := 48) hx hb dX1_idle_38 (by decide) ⟨by omega, by omega⟩ (fun c38 => absurd c38 (by omega)) (fun c38 => ?_)
  refine lv_aload_n hx hb dX1_idle_41 rfl (lv_at hl 0 rfl) ?_
  refine va_get (D := D) (ci := 1) (C := RX1) (T := TX1) (N := 10) hx hb hts inW hown hK hP 0 rfl rfl 1 (by decide) (hts (.fieldLink RX1 35 "FlowforgeModel" "many" "I") (List.mem_of_getElem? (i := 3) rfl)) (fun _ h9 => h9) rfl dX1_idle_42 ?_
  refine w_if_ne (tgt := 50) hx hb dX1_idle_45 (by decide) ⟨by omega, by omega⟩ (fun c45 => ?_) (fun c45 => ?_)
  · refine lv_aload_n hx hb dX1_idle_50 rfl (lv_at hl 0 rfl) ?_
    refine lv_iload_n hx hb dX1_idle_51 rfl (lv_at hl 1 rfl) ?_
    refine lv_aload_n hx hb dX1_idle_52 rfl (lv_at hl 0 rfl) ?_
    refine va_get (D := D) (ci := 1) (C := RX1) (T := TX1) (N := 10) hx hb hts inW hown hK hP 0 rfl rfl 4 (by decide) (hts (.fieldLink RX1 17 "FlowforgeModel" "order" "[I") (List.mem_of_getElem? (i := 4) rfl)) (fun _ h9 => h9) rfl dX1_idle_53 ?_
    refine lv_aload_n hx hb dX1_idle_56 rfl (lv_at hl 0 rfl) ?_
    refine va_get (D := D) (ci := 1) (C := RX1) (T := TX1) (N := 10) hx hb hts inW hown hK hP 0 rfl rfl 1 (by decide) (hts (.fieldLink RX1 35 "FlowforgeModel" "many" "I") (List.mem_of_getElem? (i := 3) rfl)) (fun _ h9 => h9) rfl dX1_idle_57 ?_
    refine w_iV (As := [.int (iI ((v : Int))), .ref (bd 2), .int (iI ((nn : Int)))]) (rest := []) (wf := fun u : (Nat → Int) => mw bd cI 0 nn mm bm tT oO u tL oR oJ) (wr := []) ⟨hx, hb, hml, hown, hts⟩ hK hP hD hS hA (mX1_lays_o  hT hm hv hn hO) (cwV 3 hts gX1_idle_X1_lays rfl rfl rfl (by decide +kernel) ⟨Nat.le_of_ble_eq_true rfl, Nat.le_of_ble_eq_true rfl⟩) [0, 1, 2, 3, 4, 5, 6] [] [0, 1, 2, 3, 4, 5, 6] rfl rfl (by decide) (by decide) (by decide) (hwf := fun _ => rfl) (by decide) (ci := 1) rfl rfl rfl rfl hl.1 rfl (Nat.le_of_ble_eq_true rfl) dX1_idle_60 ⟨Nat.zero_le _, Nat.zero_le _⟩ (fun r60 u H locs hr60 hP hD hS => ?_)
    obtain ⟨uB, huB⟩ : ∃ z, z = u := ⟨_, rfl⟩
    subst huB
    obtain ⟨hq60, hI⟩ := hr60
    have hP : va_P D vwCl (mw bd cI 0 nn mm bm tT oO uB tL oR oJ) H := hP
    have hD : va_D A (mw bd cI 0 nn mm bm tT oO uB tL oR oJ) := hD
    refine w_top (v := iI ((mk v mm tT oO nn))) (hq60) ?_
    refine lv_pop hx hb dX1_idle_63 rfl ?_
    refine lv_aload_n hx hb dX1_idle_64 rfl (lv_at hl 0 rfl) ?_
    refine lv_aload_n hx hb dX1_idle_65 rfl (lv_at hl 0 rfl) ?_
    refine va_get (D := D) (ci := 1) (C := RX1) (T := TX1) (N := 10) hx hb hts inW hown hK hP 0 rfl rfl 4 (by decide) (hts (.fieldLink RX1 17 "FlowforgeModel" "order" "[I") (List.mem_of_getElem? (i := 4) rfl)) (fun _ h9 => h9) rfl dX1_idle_66 ?_
    refine lv_aload_n hx hb dX1_idle_69 rfl (lv_at hl 0 rfl) ?_
    refine va_get (D := D) (ci := 1) (C := RX1) (T := TX1) (N := 10) hx hb hts inW hown hK hP 0 rfl rfl 1 (by decide) (hts (.fieldLink RX1 35 "FlowforgeModel" "many" "I") (List.mem_of_getElem? (i := 3) rfl)) (fun _ h9 => h9) rfl dX1_idle_70 ?_
    refine lv_iconst (v := iI 1) hx hb dX1_idle_73 rfl ?_
    refine w_isub (z := (nn : Int) - 1) hx hb dX1_idle_74 (by omega) ?_
    refine lv_iload_n hx hb dX1_idle_75 rfl (lv_at hl 2 rfl) ?_
    refine w_pV (As := [.ref (bd 2), .int (iI (((((nn - 1)) : Nat) : Int))), .int (iI ((k : Int)))]) (rest := []) ⟨hx, hb, hml, hown, hts⟩ hK hP (mX1_endOf_o  (q := (nn - 1)) (k := k) (by omega) (hO _ (by omega)) (by omega)) (cwV 3 hts gX1_idle_X1_endOf rfl rfl rfl (by decide +kernel) ⟨Nat.le_of_ble_eq_true rfl, Nat.le_of_ble_eq_true rfl⟩) (ci := 1) rfl rfl rfl rfl hl.1 (by rw [show (((nn : Int) - 1) : Int) = ((((nn - 1)) : Nat) : Int) by omega]; try rfl) (Nat.le_of_ble_eq_true rfl) dX1_idle_76 ⟨Nat.zero_le _, Nat.zero_le _⟩ (fun r76 hr76 => ?_)
    refine w_top (v := iI (((row v mm tT oO nn).2 k))) (hr76.trans (congrArg iI ((mrows_e hI (by omega) hk).trans (by rw [show nn - 1 + 1 = nn by omega])))) ?_
    refine lv_aload_n hx hb dX1_idle_79 rfl (lv_at hl 0 rfl) ?_
    refine lv_iconst (v := iI 0) hx hb dX1_idle_80 rfl ?_
    refine lv_iload_n hx hb dX1_idle_81 rfl (lv_at hl 2 rfl) ?_
    refine w_pV (As := [.int (iI 0), .int (iI ((k : Int)))]) (rest := [.int (iI (((row v mm tT oO nn).2 k)))]) ⟨hx, hb, hml, hown, hts⟩ hK hP (mX1_startOf  (j := 0) (by omega) (by omega)) (cwV 2 hts gX1_idle_X1_startOf rfl rfl rfl (by decide +kernel) ⟨Nat.le_of_ble_eq_true rfl, Nat.le_of_ble_eq_true rfl⟩) (ci := 1) rfl rfl rfl rfl hl.1 rfl (Nat.le_of_ble_eq_true rfl) dX1_idle_82 ⟨Nat.zero_le _, Nat.zero_le _⟩ (fun r82 hr82 => ?_)
    refine w_top (v := iI (((row v mm tT oO 1).1 k))) (hr82.trans (congrArg iI (hI 0 (by omega) k hk))) ?_
    refine w_isub (z := ((row v mm tT oO nn).2 k) - ((row v mm tT oO 1).1 k)) hx hb dX1_idle_85 (by omega) ?_
    refine lv_istore_n (lv' := [(3, .int (iI (((row v mm tT oO nn).2 k) - ((row v mm tT oO 1).1 k)))), (0, .ref (bd 0)), (1, .int (iI ((v : Int)))), (2, .int (iI ((k : Int))))]) hx hb dX1_idle_86 rfl hl (by decide) rfl (fun ls hl => ?_)
    refine lv_iconst (v := iI 0) hx hb dX1_idle_87 rfl ?_
    refine lv_istore (lv' := [(4, .int (iI 0)), (3, .int (iI (((row v mm tT oO nn).2 k) - ((row v mm tT oO 1).1 k)))), (0, .ref (bd 0)), (1, .int (iI ((v : Int)))), (2, .int (iI ((k : Int))))]) hx hb dX1_idle_88 hl (by decide) rfl (fun ls hl => ?_)
    have L90 : ∀ (fu : Nat) (i : Nat) (x4_90 : Int) (x3_90 : Int), (i ≤ nn) → (x4_90 = (i : Int)) → (x3_90 = ((row v mm tT oO nn).2 k - (row v mm tT oO 1).1 k - ldC tT k i)) → nn - i < fu → ∀ (H : Heap) (locs : List Loc), va_P D vwCl (mw bd cI 0 nn mm bm tT oO uB tL oR oJ) H → va_D A (mw bd cI 0 nn mm bm tT oO uB tL oR oJ) → va_S A s.heap H locs → ∀ ls : Array Slot, lv_has ls 5 [(4, .int (iI (x4_90))), (3, .int (iI (x3_90))), (0, .ref (bd 0)), (1, .int (iI ((v : Int)))), (2, .int (iI ((k : Int))))] → W p l e (rmx 4 96) s m args below meth c H locs 0 0 Q (F0 m 90 ls []) := by
      intro fu
      induction fu with
      | zero =>
        intro i x4_90 x3_90 hi hq0 hq1 hfu
        exact absurd hfu (Nat.not_lt_zero _)
      | succ fu ih =>
        intro i x4_90 x3_90 hi hq0 hq1 hfu H locs hP hD hS ls hl
        subst hq0
        subst hq1
        have ih90 := ih
        refine lv_iload hx hb dX1_idle_90 (lv_at hl 0 rfl) ?_
        refine lv_aload_n hx hb dX1_idle_92 rfl (lv_at hl 2 rfl) ?_
        refine va_get (D := D) (ci := 1) (C := RX1) (T := TX1) (N := 10) hx hb hts inW hown hK hP 0 rfl rfl 1 (by decide) (hts (.fieldLink RX1 35 "FlowforgeModel" "many" "I") (List.mem_of_getElem? (i := 3) rfl)) (fun _ h9 => h9) rfl dX1_idle_93 ?_
        refine w_icmp_ge (tgt := 115) hx hb dX1_idle_96 (by decide) ⟨by omega, by omega⟩ ⟨by omega, by omega⟩ (fun c96 => ?_) (fun c96 => ?_)
        · obtain rfl : nn = i := by omega
          refine lv_iload_n hx hb dX1_idle_115 rfl (lv_at hl 1 rfl) ?_
          exact hret _ _ 116 ls _ (uB) hP hD hS (by unfold idlV; rw [if_neg (by omega)]) dX1_idle_116
        · refine lv_iload_n hx hb dX1_idle_99 rfl (lv_at hl 1 rfl) ?_
          refine lv_aload_n hx hb dX1_idle_100 rfl (lv_at hl 2 rfl) ?_
          refine lv_iload hx hb dX1_idle_101 (lv_at hl 0 rfl) ?_
          refine lv_iload_n hx hb dX1_idle_103 rfl (lv_at hl 4 rfl) ?_
          refine w_pV (As := [.int (iI ((i : Int))), .int (iI ((k : Int)))]) (rest := [.int (iI (((row v mm tT oO nn).2 k - (row v mm tT oO 1).1 k - ldC tT k i)))]) ⟨hx, hb, hml, hown, hts⟩ hK hP (mX1_timeOf  (by omega) (by omega)) (cwV 2 hts gX1_idle_X1_timeOf rfl rfl rfl (by decide +kernel) ⟨Nat.le_of_ble_eq_true rfl, Nat.le_of_ble_eq_true rfl⟩) (ci := 1) rfl rfl rfl rfl hl.1 rfl (Nat.le_of_ble_eq_true rfl) dX1_idle_104 ⟨Nat.zero_le _, Nat.zero_le _⟩ (fun r104 hr104 => ?_)
          refine w_top (v := iI ((tT (5 * i + k)))) (hr104) ?_
          refine w_isub (z := ((row v mm tT oO nn).2 k - (row v mm tT oO 1).1 k - ldC tT k i) - (tT (5 * i + k))) hx hb dX1_idle_107 (by omega) ?_
          refine lv_istore_n (lv' := [(3, .int (iI (((row v mm tT oO nn).2 k - (row v mm tT oO 1).1 k - ldC tT k i) - (tT (5 * i + k))))), (4, .int (iI ((i : Int)))), (0, .ref (bd 0)), (1, .int (iI ((v : Int)))), (2, .int (iI ((k : Int))))]) hx hb dX1_idle_108 rfl hl (by decide) rfl (fun ls hl => ?_)
          refine lv_iinc (v := iI ((i : Int) + 1)) (lv' := [(4, .int (iI ((i : Int) + 1))), (3, .int (iI (((row v mm tT oO nn).2 k - (row v mm tT oO 1).1 k - ldC tT k i) - (tT (5 * i + k))))), (0, .ref (bd 0)), (1, .int (iI ((v : Int)))), (2, .int (iI ((k : Int))))]) hx hb dX1_idle_109 hl (k := 1) rfl (iI_inc (by omega)) (by decide) rfl (fun ls hl => ?_)
          refine lv_goto (tgt := 90) hx hb dX1_idle_112 (by decide) ?_
          exact ih90 (i + 1) ((i : Int) + 1) (((row v mm tT oO nn).2 k - (row v mm tT oO 1).1 k - ldC tT k i) - (tT (5 * i + k))) (by omega) (by omega) (by show _ = _ - (_ + _); omega) (by omega) _ _ hP hD hS ls (lv_sub hl [0, 1, 2, 3, 4] rfl)
    exact L90 (nn - 0 + 1) 0 (0) (((row v mm tT oO nn).2 k) - ((row v mm tT oO 1).1 k)) (by omega) (by omega) (by show _ = _ - (0 : Int); omega) (Nat.lt_succ_self _) _ _ hP hD hS ls (lv_sub hl [0, 1, 2, 3, 4] rfl)
  · refine lv_iconst (v := iI 0) hx hb dX1_idle_48 rfl ?_
    exact hret _ _ 49 ls _ (tB) hP hD hS (by unfold idlV; rw [if_pos (by omega)]) dX1_idle_49
set_option maxHeartbeats 4000000 in
set_option maxRecDepth 100000 in
theorem mX1_idle_e1 {x y : Int} (hr9 : -2147483648 ≤ x ∧ x ≤ 2147483647) (hbad : ¬ (0 ≤ x ∧ x ≤ 2)) : IM l yX1_idle wsX1_idle (rmx 2 42) D (tyk cI cZ cJ) (mw bd cI th nn mm bm tT oO tB tL oR oJ) [.ref (bd 0), .int (iI (x)), .int (iI (y))] (QI D (tyk cI cZ cJ) (fun u : Unit => mw bd cI 1 nn mm bm tT oO tB tL oR oJ) (fun x _ => x = iI 0)) := by
  refine imI_of (cc := cX1_idle) (maxL := 5) (by decide) rfl (Nat.le_of_ble_eq_true rfl) ?_
  intro p e s m args below meth c A Q hx hb hml hown hts hA hK hP hD hS hret ls hl
  have hown : s.vm.findClass RX1 = some m.cls := hown
  have hl : lv_has ls 5 [(0, .ref (bd 0)), (1, .int (iI (x))), (2, .int (iI (y)))] := hl
  have inW : ∀ w ∈ wsX10, w ∈ wsX1_idle := by first | exact (fun w h => List.mem_cons_of_mem _ (List.mem_append_right _ h)) | exact (fun w h => List.mem_cons_of_mem _ (List.mem_append_left _ (List.mem_append_right _ h))) | exact (fun w h => List.mem_cons_of_mem _ (List.mem_append_left _ (List.mem_append_left _ (List.mem_append_right _ h)))) | decide +kernel
  refine lv_aload_n hx hb dX1_idle_0 rfl (lv_at hl 0 rfl) ?_
  refine lv_iload_n hx hb dX1_idle_1 rfl (lv_at hl 1 rfl) ?_
  refine w_pS (As := [.int (iI (x))]) (rest := [.ref (bd 0)]) ⟨hx, hb, hml, hown, hts⟩ hK hP (mX1_isVariant_n  (by omega) (by omega)) (va_cwS 1 hts gX1_idle_X1_isVariant rfl rfl rfl (by decide +kernel) ⟨Nat.le_of_ble_eq_true rfl, Nat.le_of_ble_eq_true rfl⟩) rfl hl.1 rfl (Nat.le_of_ble_eq_true rfl) dX1_idle_2 ⟨Nat.zero_le _, Nat.zero_le _⟩ (fun r2 hr2 => ?_)
  refine w_top (v := iI (0)) (hr2.trans (congrArg iI (by omega))) ?_
  refine w_if_ne (tgt := 12) hx hb dX1_idle_5 (by decide) ⟨by omega, by omega⟩ (fun c5 => absurd c5 (by omega)) (fun c5 => ?_)
  refine lv_iconst (v := iI 1) hx hb dX1_idle_8 rfl ?_
  refine lv_goto (tgt := 31) hx hb dX1_idle_9 (by decide) ?_
  refine va_put (D := D) (ci := 1) (ty := .int) (C := RX1) (T := TX1) (N := 10) hx hb hts inW tyX1 tyX1_ok nmX1 hown hK hP hD hS 0 rfl rfl 0 (by decide) (hts (.fieldLink RX1 32 "FlowforgeModel" "thrown" "I") (List.mem_of_getElem? (i := 2) rfl)) (fun _ h9 => h9) rfl (by decide +kernel) rfl rfl (Nat.le_of_ble_eq_true rfl) dX1_idle_31 (fun H locs hP hD hS => ?_)
  have hP : va_P D vwCl (mw bd cI 1 nn mm bm tT oO tB tL oR oJ) H := hP
  have hD : va_D A (mw bd cI 1 nn mm bm tT oO tB tL oR oJ) := hD
  refine lv_aload_n hx hb dX1_idle_34 rfl (lv_at hl 0 rfl) ?_
  refine va_get (D := D) (ci := 1) (C := RX1) (T := TX1) (N := 10) hx hb hts inW hown hK hP 0 rfl rfl 0 (by decide) (hts (.fieldLink RX1 32 "FlowforgeModel" "thrown" "I") (List.mem_of_getElem? (i := 2) rfl)) (fun _ h9 => h9) rfl dX1_idle_35 ?_
  refine w_if_gt (tgt := 48) hx hb dX1_idle_38 (by decide) ⟨by omega, by omega⟩ (fun c38 => ?_) (fun c38 => absurd c38 (by omega))
  refine lv_iconst (v := iI 0) hx hb dX1_idle_48 rfl ?_
  exact hret _ _ 49 ls _ (()) hP hD hS (rfl) dX1_idle_49
set_option maxHeartbeats 4000000 in
set_option maxRecDepth 100000 in
theorem mX1_idle_e2 {v : Nat} {x : Int} (hn : nn ≤ 7) (hm : 1 ≤ mm ∧ mm ≤ 5) (hv : v ≤ 2) (hr9 : -2147483648 ≤ x ∧ x ≤ 2147483647) (hbad : ¬ (0 ≤ x ∧ x < (mm : Int))) : IM l yX1_idle wsX1_idle (rmx 2 42) D (tyk cI cZ cJ) (mw bd cI th nn mm bm tT oO tB tL oR oJ) [.ref (bd 0), .int (iI ((v : Int))), .int (iI (x))] (QI D (tyk cI cZ cJ) (fun u : Unit => mw bd cI 2 nn mm bm tT oO tB tL oR oJ) (fun x _ => x = iI 0)) := by
  refine imI_of (cc := cX1_idle) (maxL := 5) (by decide) rfl (Nat.le_of_ble_eq_true rfl) ?_
  intro p e s m args below meth c A Q hx hb hml hown hts hA hK hP hD hS hret ls hl
  have hown : s.vm.findClass RX1 = some m.cls := hown
  have hl : lv_has ls 5 [(0, .ref (bd 0)), (1, .int (iI ((v : Int)))), (2, .int (iI (x)))] := hl
  have inW : ∀ w ∈ wsX10, w ∈ wsX1_idle := by first | exact (fun w h => List.mem_cons_of_mem _ (List.mem_append_right _ h)) | exact (fun w h => List.mem_cons_of_mem _ (List.mem_append_left _ (List.mem_append_right _ h))) | exact (fun w h => List.mem_cons_of_mem _ (List.mem_append_left _ (List.mem_append_left _ (List.mem_append_right _ h)))) | decide +kernel
  refine lv_aload_n hx hb dX1_idle_0 rfl (lv_at hl 0 rfl) ?_
  refine lv_iload_n hx hb dX1_idle_1 rfl (lv_at hl 1 rfl) ?_
  refine w_pS (As := [.int (iI ((v : Int)))]) (rest := [.ref (bd 0)]) ⟨hx, hb, hml, hown, hts⟩ hK hP (mX1_isVariant_y  (by omega)) (va_cwS 1 hts gX1_idle_X1_isVariant rfl rfl rfl (by decide +kernel) ⟨Nat.le_of_ble_eq_true rfl, Nat.le_of_ble_eq_true rfl⟩) rfl hl.1 rfl (Nat.le_of_ble_eq_true rfl) dX1_idle_2 ⟨Nat.zero_le _, Nat.zero_le _⟩ (fun r2 hr2 => ?_)
  refine w_top (v := iI (1)) (hr2.trans (congrArg iI (by omega))) ?_
  refine w_if_ne (tgt := 12) hx hb dX1_idle_5 (by decide) ⟨by omega, by omega⟩ (fun c5 => ?_) (fun c5 => absurd c5 (by omega))
  refine lv_iload_n hx hb dX1_idle_12 rfl (lv_at hl 2 rfl) ?_
  refine lv_iconst (v := iI 0) hx hb dX1_idle_13 rfl ?_
  refine lv_aload_n hx hb dX1_idle_14 rfl (lv_at hl 0 rfl) ?_
  refine va_get (D := D) (ci := 1) (C := RX1) (T := TX1) (N := 10) hx hb hts inW hown hK hP 0 rfl rfl 2 (by decide) (hts (.fieldLink RX1 7 "FlowforgeModel" "wide" "I") (List.mem_of_getElem? (i := 1) rfl)) (fun _ h9 => h9) rfl dX1_idle_15 ?_
  refine lv_iconst (v := iI 1) hx hb dX1_idle_18 rfl ?_
  refine w_isub (z := (mm : Int) - 1) hx hb dX1_idle_19 (by omega) ?_
  refine w_pS (As := [.int (iI (x)), .int (iI 0), .int (iI ((mm : Int) - 1))]) (rest := [.ref (bd 0)]) ⟨hx, hb, hml, hown, hts⟩ hK hP (mX1_in_n  (by omega) (by omega)) (va_cwS 3 hts gX1_idle_X1_in rfl rfl rfl (by decide +kernel) ⟨Nat.le_of_ble_eq_true rfl, Nat.le_of_ble_eq_true rfl⟩) rfl hl.1 rfl (Nat.le_of_ble_eq_true rfl) dX1_idle_20 ⟨Nat.zero_le _, Nat.zero_le _⟩ (fun r20 hr20 => ?_)
  refine w_top (v := iI (0)) (hr20.trans (congrArg iI (by omega))) ?_
  refine w_if_eq (tgt := 30) hx hb dX1_idle_23 (by decide) ⟨by omega, by omega⟩ (fun c23 => ?_) (fun c23 => absurd c23 (by omega))
  refine lv_iconst (v := iI 2) hx hb dX1_idle_30 rfl ?_
  refine va_put (D := D) (ci := 1) (ty := .int) (C := RX1) (T := TX1) (N := 10) hx hb hts inW tyX1 tyX1_ok nmX1 hown hK hP hD hS 0 rfl rfl 0 (by decide) (hts (.fieldLink RX1 32 "FlowforgeModel" "thrown" "I") (List.mem_of_getElem? (i := 2) rfl)) (fun _ h9 => h9) rfl (by decide +kernel) rfl rfl (Nat.le_of_ble_eq_true rfl) dX1_idle_31 (fun H locs hP hD hS => ?_)
  have hP : va_P D vwCl (mw bd cI 2 nn mm bm tT oO tB tL oR oJ) H := hP
  have hD : va_D A (mw bd cI 2 nn mm bm tT oO tB tL oR oJ) := hD
  refine lv_aload_n hx hb dX1_idle_34 rfl (lv_at hl 0 rfl) ?_
  refine va_get (D := D) (ci := 1) (C := RX1) (T := TX1) (N := 10) hx hb hts inW hown hK hP 0 rfl rfl 0 (by decide) (hts (.fieldLink RX1 32 "FlowforgeModel" "thrown" "I") (List.mem_of_getElem? (i := 2) rfl)) (fun _ h9 => h9) rfl dX1_idle_35 ?_
  refine w_if_gt (tgt := 48) hx hb dX1_idle_38 (by decide) ⟨by omega, by omega⟩ (fun c38 => ?_) (fun c38 => absurd c38 (by omega))
  refine lv_iconst (v := iI 0) hx hb dX1_idle_48 rfl ?_
  exact hret _ _ 49 ls _ (()) hP hD hS (rfl) dX1_idle_49
set_option maxHeartbeats 4000000 in
set_option maxRecDepth 100000 in
theorem mX1_machineBound {k : Nat} (hT : ∀ k, 0 ≤ tT k ∧ tT k ≤ 99) (hn : nn ≤ 7) (hm : 1 ≤ mm ∧ mm ≤ 5) (hk : k < mm) : IM l yX1_machineBound wsX1_machineBound (rmx 3 71) D (tyk cI cZ cJ) (mw bd cI th nn mm bm tT oO tB tL oR oJ) [.ref (bd 0), .int (iI ((k : Int)))] (QI D (tyk cI cZ cJ) (fun u : Unit => mw bd cI 0 nn mm bm tT oO tB tL oR oJ) (fun y _ => y = iI (if nn = 0 then 0 else lsM tT 0 k nn + lsM tT (k + 1) mm nn + ldC tT k nn))) := by
  refine imI_of (cc := cX1_machineBound) (maxL := 4) (by decide) rfl (Nat.le_of_ble_eq_true rfl) ?_
  intro p e s m args below meth c A Q hx hb hml hown hts hA hK hP hD hS hret ls hl
  have hown : s.vm.findClass RX1 = some m.cls := hown
  have hl : lv_has ls 4 [(0, .ref (bd 0)), (1, .int (iI ((k : Int))))] := hl
  have inW : ∀ w ∈ wsX10, w ∈ wsX1_machineBound := by first | exact (fun w h => List.mem_cons_of_mem _ (List.mem_append_right _ h)) | exact (fun w h => List.mem_cons_of_mem _ (List.mem_append_left _ (List.mem_append_right _ h))) | exact (fun w h => List.mem_cons_of_mem _ (List.mem_append_left _ (List.mem_append_left _ (List.mem_append_right _ h)))) | decide +kernel
  refine lv_aload_n hx hb dX1_machineBound_0 rfl (lv_at hl 0 rfl) ?_
  refine lv_iload_n hx hb dX1_machineBound_1 rfl (lv_at hl 1 rfl) ?_
  refine lv_iconst (v := iI 0) hx hb dX1_machineBound_2 rfl ?_
  refine lv_aload_n hx hb dX1_machineBound_3 rfl (lv_at hl 0 rfl) ?_
  refine va_get (D := D) (ci := 1) (C := RX1) (T := TX1) (N := 10) hx hb hts inW hown hK hP 0 rfl rfl 2 (by decide) (hts (.fieldLink RX1 7 "FlowforgeModel" "wide" "I") (List.mem_of_getElem? (i := 1) rfl)) (fun _ h9 => h9) rfl dX1_machineBound_4 ?_
  refine lv_iconst (v := iI 1) hx hb dX1_machineBound_7 rfl ?_
  refine w_isub (z := (mm : Int) - 1) hx hb dX1_machineBound_8 (by omega) ?_
  refine w_pS (As := [.int (iI ((k : Int))), .int (iI 0), .int (iI ((mm : Int) - 1))]) (rest := [.ref (bd 0)]) ⟨hx, hb, hml, hown, hts⟩ hK hP (mX1_in_y  (by omega) (by omega)) (va_cwS 3 hts gX1_machineBound_X1_in rfl rfl rfl (by decide +kernel) ⟨Nat.le_of_ble_eq_true rfl, Nat.le_of_ble_eq_true rfl⟩) rfl hl.1 rfl (Nat.le_of_ble_eq_true rfl) dX1_machineBound_9 ⟨Nat.zero_le _, Nat.zero_le _⟩ (fun r9 hr9 => ?_)
  refine w_top (v := iI (1)) (hr9.trans (congrArg iI (by omega))) ?_
  refine w_if_eq (tgt := 19) hx hb dX1_machineBound_12 (by decide) ⟨by omega, by omega⟩ (fun c12 => absurd c12 (by omega)) (fun c12 => ?_)
  refine lv_iconst (v := iI 0) hx hb dX1_machineBound_15 rfl ?_
  refine lv_goto (tgt := 20) hx hb dX1_machineBound_16 (by decide) ?_
  refine va_put (D := D) (ci := 1) (ty := .int) (C := RX1) (T := TX1) (N := 10) hx hb hts inW tyX1 tyX1_ok nmX1 hown hK hP hD hS 0 rfl rfl 0 (by decide) (hts (.fieldLink RX1 32 "FlowforgeModel" "thrown" "I") (List.mem_of_getElem? (i := 2) rfl)) (fun _ h9 => h9) rfl (by decide +kernel) rfl rfl (Nat.le_of_ble_eq_true rfl) dX1_machineBound_20 (fun H locs hP hD hS => ?_)
  have hP : va_P D vwCl (mw bd cI 0 nn mm bm tT oO tB tL oR oJ) H := hP
  have hD : va_D A (mw bd cI 0 nn mm bm tT oO tB tL oR oJ) := hD
  refine lv_aload_n hx hb dX1_machineBound_23 rfl (lv_at hl 0 rfl) ?_
  refine va_get (D := D) (ci := 1) (C := RX1) (T := TX1) (N := 10) hx hb hts inW hown hK hP 0 rfl rfl 0 (by decide) (hts (.fieldLink RX1 32 "FlowforgeModel" "thrown" "I") (List.mem_of_getElem? (i := 2) rfl)) (fun _ h9 => h9) rfl dX1_machineBound_24 ?_
  refine w_if_gt (tgt := 37) hx hb dX1_machineBound_27 (by decide) ⟨by omega, by omega⟩ (fun c27 => absurd c27 (by omega)) (fun c27 => ?_)
  refine lv_aload_n hx hb dX1_machineBound_30 rfl (lv_at hl 0 rfl) ?_
  refine va_get (D := D) (ci := 1) (C := RX1) (T := TX1) (N := 10) hx hb hts inW hown hK hP 0 rfl rfl 1 (by decide) (hts (.fieldLink RX1 35 "FlowforgeModel" "many" "I") (List.mem_of_getElem? (i := 3) rfl)) (fun _ h9 => h9) rfl dX1_machineBound_31 ?_
  refine w_if_ne (tgt := 39) hx hb dX1_machineBound_34 (by decide) ⟨by omega, by omega⟩ (fun c34 => ?_) (fun c34 => ?_)
  · refine lv_aload_n hx hb dX1_machineBound_39 rfl (lv_at hl 0 rfl) ?_
    refine lv_iconst (v := iI 0) hx hb dX1_machineBound_40 rfl ?_
    refine lv_iload_n hx hb dX1_machineBound_41 rfl (lv_at hl 1 rfl) ?_
    refine w_pV (As := [.int (iI 0), .int (iI ((k : Int)))]) (rest := []) ⟨hx, hb, hml, hown, hts⟩ hK hP (mX1_leastSum  (fr := 0) (to := k) hT hn (by omega) (by omega)) (cwV 2 hts gX1_machineBound_X1_leastSum rfl rfl rfl (by decide +kernel) ⟨Nat.le_of_ble_eq_true rfl, Nat.le_of_ble_eq_true rfl⟩) (ci := 1) rfl rfl rfl rfl hl.1 rfl (Nat.le_of_ble_eq_true rfl) dX1_machineBound_42 ⟨Nat.zero_le _, Nat.zero_le _⟩ (fun r42 hr42 => ?_)
    refine w_top (v := iI ((lsM tT 0 k nn))) (hr42) ?_
    refine lv_aload_n hx hb dX1_machineBound_45 rfl (lv_at hl 0 rfl) ?_
    refine lv_iload_n hx hb dX1_machineBound_46 rfl (lv_at hl 1 rfl) ?_
    refine lv_iconst (v := iI 1) hx hb dX1_machineBound_47 rfl ?_
    refine w_iadd (z := (k : Int) + 1) hx hb dX1_machineBound_48 (by omega) ?_
    refine lv_aload_n hx hb dX1_machineBound_49 rfl (lv_at hl 0 rfl) ?_
    refine va_get (D := D) (ci := 1) (C := RX1) (T := TX1) (N := 10) hx hb hts inW hown hK hP 0 rfl rfl 2 (by decide) (hts (.fieldLink RX1 7 "FlowforgeModel" "wide" "I") (List.mem_of_getElem? (i := 1) rfl)) (fun _ h9 => h9) rfl dX1_machineBound_50 ?_
    refine w_pV (As := [.int (iI ((((k + 1) : Nat) : Int))), .int (iI ((mm : Int)))]) (rest := [.int (iI ((lsM tT 0 k nn)))]) ⟨hx, hb, hml, hown, hts⟩ hK hP (mX1_leastSum  (fr := k + 1) (to := mm) hT hn (by omega) (by omega)) (cwV 2 hts gX1_machineBound_X1_leastSum rfl rfl rfl (by decide +kernel) ⟨Nat.le_of_ble_eq_true rfl, Nat.le_of_ble_eq_true rfl⟩) (ci := 1) rfl rfl rfl rfl hl.1 (by rw [show (((k : Int) + 1) : Int) = (((k + 1) : Nat) : Int) by omega]; try rfl) (Nat.le_of_ble_eq_true rfl) dX1_machineBound_53 ⟨Nat.zero_le _, Nat.zero_le _⟩ (fun r53 hr53 => ?_)
    refine w_top (v := iI ((lsM tT (k + 1) mm nn))) (hr53) ?_
    refine w_iadd (z := (lsM tT 0 k nn) + (lsM tT (k + 1) mm nn)) hx hb dX1_machineBound_56 (by omega) ?_
    refine lv_istore_n (lv' := [(2, .int (iI ((lsM tT 0 k nn) + (lsM tT (k + 1) mm nn)))), (0, .ref (bd 0)), (1, .int (iI ((k : Int))))]) hx hb dX1_machineBound_57 rfl hl (by decide) rfl (fun ls hl => ?_)
    refine lv_iconst (v := iI 0) hx hb dX1_machineBound_58 rfl ?_
    refine lv_istore_n (lv' := [(3, .int (iI 0)), (2, .int (iI ((lsM tT 0 k nn) + (lsM tT (k + 1) mm nn)))), (0, .ref (bd 0)), (1, .int (iI ((k : Int))))]) hx hb dX1_machineBound_59 rfl hl (by decide) rfl (fun ls hl => ?_)
    have L60 : ∀ (fu : Nat) (i : Nat) (x3_60 : Int) (x2_60 : Int), (i ≤ nn) → (x3_60 = (i : Int)) → (x2_60 = (lsM tT 0 k nn + lsM tT (k + 1) mm nn + ldC tT k i)) → nn - i < fu → ∀ (H : Heap) (locs : List Loc), va_P D vwCl (mw bd cI 0 nn mm bm tT oO tB tL oR oJ) H → va_D A (mw bd cI 0 nn mm bm tT oO tB tL oR oJ) → va_S A s.heap H locs → ∀ ls : Array Slot, lv_has ls 4 [(3, .int (iI (x3_60))), (2, .int (iI (x2_60))), (0, .ref (bd 0)), (1, .int (iI ((k : Int))))] → W p l e (rmx 3 71) s m args below meth c H locs 0 0 Q (F0 m 60 ls []) := by
      intro fu
      induction fu with
      | zero =>
        intro i x3_60 x2_60 hi hq0 hq1 hfu
        exact absurd hfu (Nat.not_lt_zero _)
      | succ fu ih =>
        intro i x3_60 x2_60 hi hq0 hq1 hfu H locs hP hD hS ls hl
        subst hq0
        subst hq1
        have ih60 := ih
        refine lv_iload_n hx hb dX1_machineBound_60 rfl (lv_at hl 0 rfl) ?_
        refine lv_aload_n hx hb dX1_machineBound_61 rfl (lv_at hl 2 rfl) ?_
        refine va_get (D := D) (ci := 1) (C := RX1) (T := TX1) (N := 10) hx hb hts inW hown hK hP 0 rfl rfl 1 (by decide) (hts (.fieldLink RX1 35 "FlowforgeModel" "many" "I") (List.mem_of_getElem? (i := 3) rfl)) (fun _ h9 => h9) rfl dX1_machineBound_62 ?_
        refine w_icmp_ge (tgt := 83) hx hb dX1_machineBound_65 (by decide) ⟨by omega, by omega⟩ ⟨by omega, by omega⟩ (fun c65 => ?_) (fun c65 => ?_)
        · obtain rfl : nn = i := by omega
          refine lv_iload_n hx hb dX1_machineBound_83 rfl (lv_at hl 1 rfl) ?_
          exact hret _ _ 84 ls _ (()) hP hD hS (by rw [if_neg (by omega)]) dX1_machineBound_84
        · refine lv_iload_n hx hb dX1_machineBound_68 rfl (lv_at hl 1 rfl) ?_
          refine lv_aload_n hx hb dX1_machineBound_69 rfl (lv_at hl 2 rfl) ?_
          refine lv_iload_n hx hb dX1_machineBound_70 rfl (lv_at hl 0 rfl) ?_
          refine lv_iload_n hx hb dX1_machineBound_71 rfl (lv_at hl 3 rfl) ?_
          refine w_pV (As := [.int (iI ((i : Int))), .int (iI ((k : Int)))]) (rest := [.int (iI ((lsM tT 0 k nn + lsM tT (k + 1) mm nn + ldC tT k i)))]) ⟨hx, hb, hml, hown, hts⟩ hK hP (mX1_timeOf  (by omega) (by omega)) (cwV 2 hts gX1_machineBound_X1_timeOf rfl rfl rfl (by decide +kernel) ⟨Nat.le_of_ble_eq_true rfl, Nat.le_of_ble_eq_true rfl⟩) (ci := 1) rfl rfl rfl rfl hl.1 rfl (Nat.le_of_ble_eq_true rfl) dX1_machineBound_72 ⟨Nat.zero_le _, Nat.zero_le _⟩ (fun r72 hr72 => ?_)
          refine w_top (v := iI ((tT (5 * i + k)))) (hr72) ?_
          refine w_iadd (z := (lsM tT 0 k nn + lsM tT (k + 1) mm nn + ldC tT k i) + (tT (5 * i + k))) hx hb dX1_machineBound_75 (by omega) ?_
          refine lv_istore_n (lv' := [(2, .int (iI ((lsM tT 0 k nn + lsM tT (k + 1) mm nn + ldC tT k i) + (tT (5 * i + k))))), (3, .int (iI ((i : Int)))), (0, .ref (bd 0)), (1, .int (iI ((k : Int))))]) hx hb dX1_machineBound_76 rfl hl (by decide) rfl (fun ls hl => ?_)
          refine lv_iinc (v := iI ((i : Int) + 1)) (lv' := [(3, .int (iI ((i : Int) + 1))), (2, .int (iI ((lsM tT 0 k nn + lsM tT (k + 1) mm nn + ldC tT k i) + (tT (5 * i + k))))), (0, .ref (bd 0)), (1, .int (iI ((k : Int))))]) hx hb dX1_machineBound_77 hl (k := 1) rfl (iI_inc (by omega)) (by decide) rfl (fun ls hl => ?_)
          refine lv_goto (tgt := 60) hx hb dX1_machineBound_80 (by decide) ?_
          exact ih60 (i + 1) ((i : Int) + 1) ((lsM tT 0 k nn + lsM tT (k + 1) mm nn + ldC tT k i) + (tT (5 * i + k))) (by omega) (by omega) (by show _ = _ + (_ + _); omega) (by omega) _ _ hP hD hS ls (lv_sub hl [0, 1, 2, 3] rfl)
    exact L60 (nn - 0 + 1) 0 (0) ((lsM tT 0 k nn) + (lsM tT (k + 1) mm nn)) (by omega) (by omega) (by show _ = _ + (0 : Int); omega) (Nat.lt_succ_self _) _ _ hP hD hS ls (lv_sub hl [0, 1, 2, 3] rfl)
  · refine lv_iconst (v := iI 0) hx hb dX1_machineBound_37 rfl ?_
    exact hret _ _ 38 ls _ (()) hP hD hS (by rw [if_pos (by omega)]) dX1_machineBound_38
set_option maxHeartbeats 4000000 in
set_option maxRecDepth 100000 in
theorem mX1_machineBound_e {x : Int} (hn : nn ≤ 7) (hm : 1 ≤ mm ∧ mm ≤ 5) (hr9 : -2147483648 ≤ x ∧ x ≤ 2147483647) (hbad : ¬ (0 ≤ x ∧ x < (mm : Int))) : IM l yX1_machineBound wsX1_machineBound (rmx 1 22) D (tyk cI cZ cJ) (mw bd cI th nn mm bm tT oO tB tL oR oJ) [.ref (bd 0), .int (iI (x))] (QI D (tyk cI cZ cJ) (fun u : Unit => mw bd cI 1 nn mm bm tT oO tB tL oR oJ) (fun x _ => x = iI 0)) := by
  refine imI_of (cc := cX1_machineBound) (maxL := 4) (by decide) rfl (Nat.le_of_ble_eq_true rfl) ?_
  intro p e s m args below meth c A Q hx hb hml hown hts hA hK hP hD hS hret ls hl
  have hown : s.vm.findClass RX1 = some m.cls := hown
  have hl : lv_has ls 4 [(0, .ref (bd 0)), (1, .int (iI (x)))] := hl
  have inW : ∀ w ∈ wsX10, w ∈ wsX1_machineBound := by first | exact (fun w h => List.mem_cons_of_mem _ (List.mem_append_right _ h)) | exact (fun w h => List.mem_cons_of_mem _ (List.mem_append_left _ (List.mem_append_right _ h))) | exact (fun w h => List.mem_cons_of_mem _ (List.mem_append_left _ (List.mem_append_left _ (List.mem_append_right _ h)))) | decide +kernel
  refine lv_aload_n hx hb dX1_machineBound_0 rfl (lv_at hl 0 rfl) ?_
  refine lv_iload_n hx hb dX1_machineBound_1 rfl (lv_at hl 1 rfl) ?_
  refine lv_iconst (v := iI 0) hx hb dX1_machineBound_2 rfl ?_
  refine lv_aload_n hx hb dX1_machineBound_3 rfl (lv_at hl 0 rfl) ?_
  refine va_get (D := D) (ci := 1) (C := RX1) (T := TX1) (N := 10) hx hb hts inW hown hK hP 0 rfl rfl 2 (by decide) (hts (.fieldLink RX1 7 "FlowforgeModel" "wide" "I") (List.mem_of_getElem? (i := 1) rfl)) (fun _ h9 => h9) rfl dX1_machineBound_4 ?_
  refine lv_iconst (v := iI 1) hx hb dX1_machineBound_7 rfl ?_
  refine w_isub (z := (mm : Int) - 1) hx hb dX1_machineBound_8 (by omega) ?_
  refine w_pS (As := [.int (iI (x)), .int (iI 0), .int (iI ((mm : Int) - 1))]) (rest := [.ref (bd 0)]) ⟨hx, hb, hml, hown, hts⟩ hK hP (mX1_in_n  (by omega) (by omega)) (va_cwS 3 hts gX1_machineBound_X1_in rfl rfl rfl (by decide +kernel) ⟨Nat.le_of_ble_eq_true rfl, Nat.le_of_ble_eq_true rfl⟩) rfl hl.1 rfl (Nat.le_of_ble_eq_true rfl) dX1_machineBound_9 ⟨Nat.zero_le _, Nat.zero_le _⟩ (fun r9 hr9 => ?_)
  refine w_top (v := iI (0)) (hr9.trans (congrArg iI (by omega))) ?_
  refine w_if_eq (tgt := 19) hx hb dX1_machineBound_12 (by decide) ⟨by omega, by omega⟩ (fun c12 => ?_) (fun c12 => absurd c12 (by omega))
  refine lv_iconst (v := iI 1) hx hb dX1_machineBound_19 rfl ?_
  refine va_put (D := D) (ci := 1) (ty := .int) (C := RX1) (T := TX1) (N := 10) hx hb hts inW tyX1 tyX1_ok nmX1 hown hK hP hD hS 0 rfl rfl 0 (by decide) (hts (.fieldLink RX1 32 "FlowforgeModel" "thrown" "I") (List.mem_of_getElem? (i := 2) rfl)) (fun _ h9 => h9) rfl (by decide +kernel) rfl rfl (Nat.le_of_ble_eq_true rfl) dX1_machineBound_20 (fun H locs hP hD hS => ?_)
  have hP : va_P D vwCl (mw bd cI 1 nn mm bm tT oO tB tL oR oJ) H := hP
  have hD : va_D A (mw bd cI 1 nn mm bm tT oO tB tL oR oJ) := hD
  refine lv_aload_n hx hb dX1_machineBound_23 rfl (lv_at hl 0 rfl) ?_
  refine va_get (D := D) (ci := 1) (C := RX1) (T := TX1) (N := 10) hx hb hts inW hown hK hP 0 rfl rfl 0 (by decide) (hts (.fieldLink RX1 32 "FlowforgeModel" "thrown" "I") (List.mem_of_getElem? (i := 2) rfl)) (fun _ h9 => h9) rfl dX1_machineBound_24 ?_
  refine w_if_gt (tgt := 37) hx hb dX1_machineBound_27 (by decide) ⟨by omega, by omega⟩ (fun c27 => ?_) (fun c27 => absurd c27 (by omega))
  refine lv_iconst (v := iI 0) hx hb dX1_machineBound_37 rfl ?_
  exact hret _ _ 38 ls _ (()) hP hD hS (rfl) dX1_machineBound_38
end
