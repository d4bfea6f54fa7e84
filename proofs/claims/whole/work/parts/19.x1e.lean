section
variable {l : Launch} {D : va_G} {cI cZ cJ : ClassId} {ad bd : Nat → Nat} {a0 : Nat} {ws : va_W} {nn mm : Nat} {th bm : Int} {tT tB tE tL : Nat → Int} {oO oR oQ : Nat → Nat} {zS zM zN : Nat → Int} {oJ fF : Nat → Nat}
set_option maxHeartbeats 4000000 in
set_option maxRecDepth 100000 in
theorem mX1_best {v : Nat} (hT : ∀ k, 0 ≤ tT k ∧ tT k ≤ 99) (hn : nn ≤ 7) (hm : 1 ≤ mm ∧ mm ≤ 5) (hv : v ≤ 2) (hE : Enu nn) : IM l yX1_best wsX1_best (rmx 5 121) D (tyk cI cZ cJ) (mw bd cI th nn mm bm tT oO tB tL oR oJ) [.ref (bd 0), .int (iI ((v : Int)))] (QI D (tyk cI cZ cJ) (fun u : (Nat → Int) × (Nat → Nat) × (Nat → Nat) => mw bd cI 0 nn mm (((sol v mm tT nn).2.1 : Int)) tT oO u.1 tL u.2.1 u.2.2) (fun y _ => y = iI (sol v mm tT nn).1)) := by
  refine imI_of (cc := cX1_best) (maxL := 2) (by decide) rfl (Nat.le_of_ble_eq_true rfl) ?_
  intro p e s m args below meth c A Q hx hb hml hown hts hA hK hP hD hS hret ls hl
  have hown : s.vm.findClass RX1 = some m.cls := hown
  have hl : lv_has ls 2 [(0, .ref (bd 0)), (1, .int (iI ((v : Int))))] := hl
  have inW : ∀ w ∈ wsX10, w ∈ wsX1_best := by first | exact (fun w h => List.mem_cons_of_mem _ (List.mem_append_right _ h)) | exact (fun w h => List.mem_cons_of_mem _ (List.mem_append_left _ (List.mem_append_right _ h))) | exact (fun w h => List.mem_cons_of_mem _ (List.mem_append_left _ (List.mem_append_left _ (List.mem_append_right _ h)))) | decide +kernel
  refine lv_aload_n hx hb dX1_best_0 rfl (lv_at hl 0 rfl) ?_
  refine lv_iload_n hx hb dX1_best_1 rfl (lv_at hl 1 rfl) ?_
  refine w_pS (As := [.int (iI ((v : Int)))]) (rest := [.ref (bd 0)]) ⟨hx, hb, hml, hown, hts⟩ hK hP (mX1_isVariant_y  (by omega)) (va_cwS 1 hts gX1_best_X1_isVariant rfl rfl rfl (by decide +kernel) ⟨Nat.le_of_ble_eq_true rfl, Nat.le_of_ble_eq_true rfl⟩) rfl hl.1 rfl (Nat.le_of_ble_eq_true rfl) dX1_best_2 ⟨Nat.zero_le _, Nat.zero_le _⟩ (fun r2 hr2 => ?_)
  refine w_top (v := iI (1)) (hr2.trans (congrArg iI (by omega))) ?_
  refine w_if_eq (tgt := 12) hx hb dX1_best_5 (by decide) ⟨by omega, by omega⟩ (fun c5 => absurd c5 (by omega)) (fun c5 => ?_)
  refine lv_iconst (v := iI 0) hx hb dX1_best_8 rfl ?_
  refine lv_goto (tgt := 13) hx hb dX1_best_9 (by decide) ?_
  refine va_put (D := D) (ci := 1) (ty := .int) (C := RX1) (T := TX1) (N := 10) hx hb hts inW tyX1 tyX1_ok nmX1 hown hK hP hD hS 0 rfl rfl 0 (by decide) (hts (.fieldLink RX1 32 "FlowforgeModel" "thrown" "I") (List.mem_of_getElem? (i := 1) rfl)) (fun _ h9 => h9) rfl (by decide +kernel) rfl rfl (Nat.le_of_ble_eq_true rfl) dX1_best_13 (fun H locs hP hD hS => ?_)
  have hP : va_P D vwCl (mw bd cI 0 nn mm bm tT oO tB tL oR oJ) H := hP
  have hD : va_D A (mw bd cI 0 nn mm bm tT oO tB tL oR oJ) := hD
  refine lv_aload_n hx hb dX1_best_16 rfl (lv_at hl 0 rfl) ?_
  refine va_get (D := D) (ci := 1) (C := RX1) (T := TX1) (N := 10) hx hb hts inW hown hK hP 0 rfl rfl 0 (by decide) (hts (.fieldLink RX1 32 "FlowforgeModel" "thrown" "I") (List.mem_of_getElem? (i := 1) rfl)) (fun _ h9 => h9) rfl dX1_best_17 ?_
  refine w_if_le (tgt := 27) hx hb dX1_best_20 (by decide) ⟨by omega, by omega⟩ (fun c20 => ?_) (fun c20 => absurd c20 (by omega))
  refine lv_aload_n hx hb dX1_best_27 rfl (lv_at hl 0 rfl) ?_
  refine lv_iload_n hx hb dX1_best_28 rfl (lv_at hl 1 rfl) ?_
  refine w_iV (As := [.int (iI ((v : Int)))]) (rest := []) (wf := fun u : (Nat → Int) × (Nat → Nat) × (Nat → Nat) => mw bd cI 0 nn mm (((sol v mm tT nn).2.1 : Int)) tT oO u.1 tL u.2.1 u.2.2) (wr := []) ⟨hx, hb, hml, hown, hts⟩ hK hP hD hS hA (mX1_searches  hT hn hm hv hE) (cwV 1 hts gX1_best_X1_searches rfl rfl rfl (by decide +kernel) ⟨Nat.le_of_ble_eq_true rfl, Nat.le_of_ble_eq_true rfl⟩) [0, 1, 2, 3, 4, 5, 6] [] [0, 1, 2, 3, 4, 5, 6] rfl rfl (by decide) (by decide) (by decide) (hwf := fun _ => rfl) (by decide) (ci := 1) rfl rfl rfl rfl hl.1 rfl (Nat.le_of_ble_eq_true rfl) dX1_best_29 ⟨Nat.zero_le _, Nat.zero_le _⟩ (fun r29 u H locs hr29 hP hD hS => ?_)
  obtain ⟨uB, uR, uJ⟩ := u
  obtain ⟨hq29, hJ9⟩ := hr29
  have hP : va_P D vwCl (mw bd cI 0 nn mm (((sol v mm tT nn).2.1 : Int)) tT oO uB tL uR uJ) H := hP
  have hD : va_D A (mw bd cI 0 nn mm (((sol v mm tT nn).2.1 : Int)) tT oO uB tL uR uJ) := hD
  refine w_top (v := iI (((sol v mm tT nn).1))) (hq29) ?_
  exact hret _ _ 32 ls _ ((uB, uR, uJ)) hP hD hS (rfl) dX1_best_32
set_option maxHeartbeats 4000000 in
set_option maxRecDepth 100000 in
theorem mX1_best_e {x : Int} (hr9 : -2147483648 ≤ x ∧ x ≤ 2147483647) (hbad : ¬ (0 ≤ x ∧ x ≤ 2)) : IM l yX1_best wsX1_best (rmx 2 42) D (tyk cI cZ cJ) (mw bd cI th nn mm bm tT oO tB tL oR oJ) [.ref (bd 0), .int (iI (x))] (QI D (tyk cI cZ cJ) (fun u : Unit => mw bd cI 1 nn mm bm tT oO tB tL oR oJ) (fun x _ => x = iI 0)) := by
  refine imI_of (cc := cX1_best) (maxL := 2) (by decide) rfl (Nat.le_of_ble_eq_true rfl) ?_
  intro p e s m args below meth c A Q hx hb hml hown hts hA hK hP hD hS hret ls hl
  have hown : s.vm.findClass RX1 = some m.cls := hown
  have hl : lv_has ls 2 [(0, .ref (bd 0)), (1, .int (iI (x)))] := hl
  have inW : ∀ w ∈ wsX10, w ∈ wsX1_best := by first | exact (fun w h => List.mem_cons_of_mem _ (List.mem_append_right _ h)) | exact (fun w h => List.mem_cons_of_mem _ (List.mem_append_left _ (List.mem_append_right _ h))) | exact (fun w h => List.mem_cons_of_mem _ (List.mem_append_left _ (List.mem_append_left _ (List.mem_append_right _ h)))) | decide +kernel
  refine lv_aload_n hx hb dX1_best_0 rfl (lv_at hl 0 rfl) ?_
  refine lv_iload_n hx hb dX1_best_1 rfl (lv_at hl 1 rfl) ?_
  refine w_pS (As := [.int (iI (x))]) (rest := [.ref (bd 0)]) ⟨hx, hb, hml, hown, hts⟩ hK hP (mX1_isVariant_n  (by omega) (by omega)) (va_cwS 1 hts gX1_best_X1_isVariant rfl rfl rfl (by decide +kernel) ⟨Nat.le_of_ble_eq_true rfl, Nat.le_of_ble_eq_true rfl⟩) rfl hl.1 rfl (Nat.le_of_ble_eq_true rfl) dX1_best_2 ⟨Nat.zero_le _, Nat.zero_le _⟩ (fun r2 hr2 => ?_)
  refine w_top (v := iI (0)) (hr2.trans (congrArg iI (by omega))) ?_
  refine w_if_eq (tgt := 12) hx hb dX1_best_5 (by decide) ⟨by omega, by omega⟩ (fun c5 => ?_) (fun c5 => absurd c5 (by omega))
  refine lv_iconst (v := iI 1) hx hb dX1_best_12 rfl ?_
  refine va_put (D := D) (ci := 1) (ty := .int) (C := RX1) (T := TX1) (N := 10) hx hb hts inW tyX1 tyX1_ok nmX1 hown hK hP hD hS 0 rfl rfl 0 (by decide) (hts (.fieldLink RX1 32 "FlowforgeModel" "thrown" "I") (List.mem_of_getElem? (i := 1) rfl)) (fun _ h9 => h9) rfl (by decide +kernel) rfl rfl (Nat.le_of_ble_eq_true rfl) dX1_best_13 (fun H locs hP hD hS => ?_)
  have hP : va_P D vwCl (mw bd cI 1 nn mm bm tT oO tB tL oR oJ) H := hP
  have hD : va_D A (mw bd cI 1 nn mm bm tT oO tB tL oR oJ) := hD
  refine lv_aload_n hx hb dX1_best_16 rfl (lv_at hl 0 rfl) ?_
  refine va_get (D := D) (ci := 1) (C := RX1) (T := TX1) (N := 10) hx hb hts inW hown hK hP 0 rfl rfl 0 (by decide) (hts (.fieldLink RX1 32 "FlowforgeModel" "thrown" "I") (List.mem_of_getElem? (i := 1) rfl)) (fun _ h9 => h9) rfl dX1_best_17 ?_
  refine w_if_le (tgt := 27) hx hb dX1_best_20 (by decide) ⟨by omega, by omega⟩ (fun c20 => absurd c20 (by omega)) (fun c20 => ?_)
  refine lv_iconst (v := iI 0) hx hb dX1_best_23 rfl ?_
  refine lv_goto (tgt := 32) hx hb dX1_best_24 (by decide) ?_
  exact hret _ _ 32 ls _ (()) hP hD hS (rfl) dX1_best_32
set_option maxHeartbeats 4000000 in
set_option maxRecDepth 100000 in
theorem mX1_bestAt {v q : Nat} (hT : ∀ k, 0 ≤ tT k ∧ tT k ≤ 99) (hn : nn ≤ 7) (hm : 1 ≤ mm ∧ mm ≤ 5) (hv : v ≤ 2) (hE : Enu nn) (hq : q < nn) : IM l yX1_bestAt wsX1_bestAt (rmx 5 121) D (tyk cI cZ cJ) (mw bd cI th nn mm bm tT oO tB tL oR oJ) [.ref (bd 0), .int (iI ((v : Int))), .int (iI ((q : Int)))] (QI D (tyk cI cZ cJ) (fun u : (Nat → Int) × (Nat → Nat) × (Nat → Nat) => mw bd cI 0 nn mm (((sol v mm tT nn).2.1 : Int)) tT oO u.1 tL u.2.1 u.2.2) (fun y _ => y = iI ((solJ v mm tT nn q : Nat) : Int))) := by
  refine imI_of (cc := cX1_bestAt) (maxL := 3) (by decide) rfl (Nat.le_of_ble_eq_true rfl) ?_
  intro p e s m args below meth c A Q hx hb hml hown hts hA hK hP hD hS hret ls hl
  have hown : s.vm.findClass RX1 = some m.cls := hown
  have hl : lv_has ls 3 [(0, .ref (bd 0)), (1, .int (iI ((v : Int)))), (2, .int (iI ((q : Int))))] := hl
  have inW : ∀ w ∈ wsX10, w ∈ wsX1_bestAt := by first | exact (fun w h => List.mem_cons_of_mem _ (List.mem_append_right _ h)) | exact (fun w h => List.mem_cons_of_mem _ (List.mem_append_left _ (List.mem_append_right _ h))) | exact (fun w h => List.mem_cons_of_mem _ (List.mem_append_left _ (List.mem_append_left _ (List.mem_append_right _ h)))) | decide +kernel
  refine lv_aload_n hx hb dX1_bestAt_0 rfl (lv_at hl 0 rfl) ?_
  refine lv_iload_n hx hb dX1_bestAt_1 rfl (lv_at hl 1 rfl) ?_
  refine w_pS (As := [.int (iI ((v : Int)))]) (rest := [.ref (bd 0)]) ⟨hx, hb, hml, hown, hts⟩ hK hP (mX1_isVariant_y  (by omega)) (va_cwS 1 hts gX1_bestAt_X1_isVariant rfl rfl rfl (by decide +kernel) ⟨Nat.le_of_ble_eq_true rfl, Nat.le_of_ble_eq_true rfl⟩) rfl hl.1 rfl (Nat.le_of_ble_eq_true rfl) dX1_bestAt_2 ⟨Nat.zero_le _, Nat.zero_le _⟩ (fun r2 hr2 => ?_)
  refine w_top (v := iI (1)) (hr2.trans (congrArg iI (by omega))) ?_
  refine w_if_ne (tgt := 12) hx hb dX1_bestAt_5 (by decide) ⟨by omega, by omega⟩ (fun c5 => ?_) (fun c5 => absurd c5 (by omega))
  refine lv_iload_n hx hb dX1_bestAt_12 rfl (lv_at hl 2 rfl) ?_
  refine lv_iconst (v := iI 0) hx hb dX1_bestAt_13 rfl ?_
  refine lv_aload_n hx hb dX1_bestAt_14 rfl (lv_at hl 0 rfl) ?_
  refine va_get (D := D) (ci := 1) (C := RX1) (T := TX1) (N := 10) hx hb hts inW hown hK hP 0 rfl rfl 1 (by decide) (hts (.fieldLink RX1 35 "FlowforgeModel" "many" "I") (List.mem_of_getElem? (i := 1) rfl)) (fun _ h9 => h9) rfl dX1_bestAt_15 ?_
  refine lv_iconst (v := iI 1) hx hb dX1_bestAt_18 rfl ?_
  refine w_isub (z := (nn : Int) - 1) hx hb dX1_bestAt_19 (by omega) ?_
  refine w_pS (As := [.int (iI ((q : Int))), .int (iI 0), .int (iI ((nn : Int) - 1))]) (rest := [.ref (bd 0)]) ⟨hx, hb, hml, hown, hts⟩ hK hP (mX1_in_y  (by omega) (by omega)) (va_cwS 3 hts gX1_bestAt_X1_in rfl rfl rfl (by decide +kernel) ⟨Nat.le_of_ble_eq_true rfl, Nat.le_of_ble_eq_true rfl⟩) rfl hl.1 rfl (Nat.le_of_ble_eq_true rfl) dX1_bestAt_20 ⟨Nat.zero_le _, Nat.zero_le _⟩ (fun r20 hr20 => ?_)
  refine w_top (v := iI (1)) (hr20.trans (congrArg iI (by omega))) ?_
  refine w_if_eq (tgt := 30) hx hb dX1_bestAt_23 (by decide) ⟨by omega, by omega⟩ (fun c23 => absurd c23 (by omega)) (fun c23 => ?_)
  refine lv_iconst (v := iI 0) hx hb dX1_bestAt_26 rfl ?_
  refine lv_goto (tgt := 31) hx hb dX1_bestAt_27 (by decide) ?_
  refine va_put (D := D) (ci := 1) (ty := .int) (C := RX1) (T := TX1) (N := 10) hx hb hts inW tyX1 tyX1_ok nmX1 hown hK hP hD hS 0 rfl rfl 0 (by decide) (hts (.fieldLink RX1 32 "FlowforgeModel" "thrown" "I") (List.mem_of_getElem? (i := 2) rfl)) (fun _ h9 => h9) rfl (by decide +kernel) rfl rfl (Nat.le_of_ble_eq_true rfl) dX1_bestAt_31 (fun H locs hP hD hS => ?_)
  have hP : va_P D vwCl (mw bd cI 0 nn mm bm tT oO tB tL oR oJ) H := hP
  have hD : va_D A (mw bd cI 0 nn mm bm tT oO tB tL oR oJ) := hD
  refine lv_aload_n hx hb dX1_bestAt_34 rfl (lv_at hl 0 rfl) ?_
  refine va_get (D := D) (ci := 1) (C := RX1) (T := TX1) (N := 10) hx hb hts inW hown hK hP 0 rfl rfl 0 (by decide) (hts (.fieldLink RX1 32 "FlowforgeModel" "thrown" "I") (List.mem_of_getElem? (i := 2) rfl)) (fun _ h9 => h9) rfl dX1_bestAt_35 ?_
  refine w_if_le (tgt := 43) hx hb dX1_bestAt_38 (by decide) ⟨by omega, by omega⟩ (fun c38 => ?_) (fun c38 => absurd c38 (by omega))
  refine lv_aload_n hx hb dX1_bestAt_43 rfl (lv_at hl 0 rfl) ?_
  refine lv_iload_n hx hb dX1_bestAt_44 rfl (lv_at hl 1 rfl) ?_
  refine w_iV (As := [.int (iI ((v : Int)))]) (rest := []) (wf := fun u : (Nat → Int) × (Nat → Nat) × (Nat → Nat) => mw bd cI 0 nn mm (((sol v mm tT nn).2.1 : Int)) tT oO u.1 tL u.2.1 u.2.2) (wr := []) ⟨hx, hb, hml, hown, hts⟩ hK hP hD hS hA (mX1_searches  hT hn hm hv hE) (cwV 1 hts gX1_bestAt_X1_searches rfl rfl rfl (by decide +kernel) ⟨Nat.le_of_ble_eq_true rfl, Nat.le_of_ble_eq_true rfl⟩) [0, 1, 2, 3, 4, 5, 6] [] [0, 1, 2, 3, 4, 5, 6] rfl rfl (by decide) (by decide) (by decide) (hwf := fun _ => rfl) (by decide) (ci := 1) rfl rfl rfl rfl hl.1 rfl (Nat.le_of_ble_eq_true rfl) dX1_bestAt_45 ⟨Nat.zero_le _, Nat.zero_le _⟩ (fun r45 u H locs hr45 hP hD hS => ?_)
  obtain ⟨uB, uR, uJ⟩ := u
  obtain ⟨hq45, hJ9⟩ := hr45
  have hP : va_P D vwCl (mw bd cI 0 nn mm (((sol v mm tT nn).2.1 : Int)) tT oO uB tL uR uJ) H := hP
  have hD : va_D A (mw bd cI 0 nn mm (((sol v mm tT nn).2.1 : Int)) tT oO uB tL uR uJ) := hD
  refine w_top (v := iI (((sol v mm tT nn).1))) (hq45) ?_
  refine lv_pop hx hb dX1_bestAt_48 rfl ?_
  refine lv_aload_n hx hb dX1_bestAt_49 rfl (lv_at hl 0 rfl) ?_
  refine va_get (D := D) (ci := 1) (C := RX1) (T := TX1) (N := 10) hx hb hts inW hown hK hP 0 rfl rfl 8 (by decide) (hts (.fieldLink RX1 29 "FlowforgeModel" "firstBest" "[I") (List.mem_of_getElem? (i := 3) rfl)) (fun _ h9 => h9) rfl dX1_bestAt_50 ?_
  refine lv_iload_n hx hb dX1_bestAt_53 rfl (lv_at hl 2 rfl) ?_
  refine w_iald (v := iI ((solJ v mm tT nn q : Nat) : Int)) hx hb hK hP 6 0 rfl rfl (q) (by omega) (by omega) (by decide) (congrArg (fun q : Nat => iI (q : Int)) (hJ9 q hq)) dX1_bestAt_54 ?_
  exact hret _ _ 55 ls _ ((uB, uR, uJ)) hP hD hS (rfl) dX1_bestAt_55
set_option maxHeartbeats 4000000 in
set_option maxRecDepth 100000 in
theorem mX1_bestAt_e1 {x y : Int} (hr9 : -2147483648 ≤ x ∧ x ≤ 2147483647) (hbad : ¬ (0 ≤ x ∧ x ≤ 2)) : IM l yX1_bestAt wsX1_bestAt (rmx 2 42) D (tyk cI cZ cJ) (mw bd cI th nn mm bm tT oO tB tL oR oJ) [.ref (bd 0), .int (iI (x)), .int (iI (y))] (QI D (tyk cI cZ cJ) (fun u : Unit => mw bd cI 1 nn mm bm tT oO tB tL oR oJ) (fun x _ => x = iI 0)) := by
  refine imI_of (cc := cX1_bestAt) (maxL := 3) (by decide) rfl (Nat.le_of_ble_eq_true rfl) ?_
  intro p e s m args below meth c A Q hx hb hml hown hts hA hK hP hD hS hret ls hl
  have hown : s.vm.findClass RX1 = some m.cls := hown
  have hl : lv_has ls 3 [(0, .ref (bd 0)), (1, .int (iI (x))), (2, .int (iI (y)))] := hl
  have inW : ∀ w ∈ wsX10, w ∈ wsX1_bestAt := by first | exact (fun w h => List.mem_cons_of_mem _ (List.mem_append_right _ h)) | exact (fun w h => List.mem_cons_of_mem _ (List.mem_append_left _ (List.mem_append_right _ h))) | exact (fun w h => List.mem_cons_of_mem _ (List.mem_append_left _ (List.mem_append_left _ (List.mem_append_right _ h)))) | decide +kernel
  refine lv_aload_n hx hb dX1_bestAt_0 rfl (lv_at hl 0 rfl) ?_
  refine lv_iload_n hx hb dX1_bestAt_1 rfl (lv_at hl 1 rfl) ?_
  refine w_pS (As := [.int (iI (x))]) (rest := [.ref (bd 0)]) ⟨hx, hb, hml, hown, hts⟩ hK hP (mX1_isVariant_n  (by omega) (by omega)) (va_cwS 1 hts gX1_bestAt_X1_isVariant rfl rfl rfl (by decide +kernel) ⟨Nat.le_of_ble_eq_true rfl, Nat.le_of_ble_eq_true rfl⟩) rfl hl.1 rfl (Nat.le_of_ble_eq_true rfl) dX1_bestAt_2 ⟨Nat.zero_le _, Nat.zero_le _⟩ (fun r2 hr2 => ?_)
  refine w_top (v := iI (0)) (hr2.trans (congrArg iI (by omega))) ?_
  refine w_if_ne (tgt := 12) hx hb dX1_bestAt_5 (by decide) ⟨by omega, by omega⟩ (fun c5 => absurd c5 (by omega)) (fun c5 => ?_)
  refine lv_iconst (v := iI 1) hx hb dX1_bestAt_8 rfl ?_
  refine lv_goto (tgt := 31) hx hb dX1_bestAt_9 (by decide) ?_
  refine va_put (D := D) (ci := 1) (ty := .int) (C := RX1) (T := TX1) (N := 10) hx hb hts inW tyX1 tyX1_ok nmX1 hown hK hP hD hS 0 rfl rfl 0 (by decide) (hts (.fieldLink RX1 32 "FlowforgeModel" "thrown" "I") (List.mem_of_getElem? (i := 2) rfl)) (fun _ h9 => h9) rfl (by decide +kernel) rfl rfl (Nat.le_of_ble_eq_true rfl) dX1_bestAt_31 (fun H locs hP hD hS => ?_)
  have hP : va_P D vwCl (mw bd cI 1 nn mm bm tT oO tB tL oR oJ) H := hP
  have hD : va_D A (mw bd cI 1 nn mm bm tT oO tB tL oR oJ) := hD
  refine lv_aload_n hx hb dX1_bestAt_34 rfl (lv_at hl 0 rfl) ?_
  refine va_get (D := D) (ci := 1) (C := RX1) (T := TX1) (N := 10) hx hb hts inW hown hK hP 0 rfl rfl 0 (by decide) (hts (.fieldLink RX1 32 "FlowforgeModel" "thrown" "I") (List.mem_of_getElem? (i := 2) rfl)) (fun _ h9 => h9) rfl dX1_bestAt_35 ?_
  refine w_if_le (tgt := 43) hx hb dX1_bestAt_38 (by decide) ⟨by omega, by omega⟩ (fun c38 => absurd c38 (by omega)) (fun c38 => ?_)
  refine lv_iconst (v := iI 0) hx hb dX1_bestAt_41 rfl ?_
  exact hret _ _ 42 ls _ (()) hP hD hS (rfl) dX1_bestAt_42
set_option maxHeartbeats 4000000 in
set_option maxRecDepth 100000 in
theorem mX1_bestAt_e2 {v : Nat} {x : Int} (hn : nn ≤ 7) (hm : 1 ≤ mm ∧ mm ≤ 5) (hv : v ≤ 2) (hr9 : -2147483648 ≤ x ∧ x ≤ 2147483647) (hbad : ¬ (0 ≤ x ∧ x < (nn : Int))) : IM l yX1_bestAt wsX1_bestAt (rmx 2 42) D (tyk cI cZ cJ) (mw bd cI th nn mm bm tT oO tB tL oR oJ) [.ref (bd 0), .int (iI ((v : Int))), .int (iI (x))] (QI D (tyk cI cZ cJ) (fun u : Unit => mw bd cI 2 nn mm bm tT oO tB tL oR oJ) (fun x _ => x = iI 0)) := by
  refine imI_of (cc := cX1_bestAt) (maxL := 3) (by decide) rfl (Nat.le_of_ble_eq_true rfl) ?_
  intro p e s m args below meth c A Q hx hb hml hown hts hA hK hP hD hS hret ls hl
  have hown : s.vm.findClass RX1 = some m.cls := hown
  have hl : lv_has ls 3 [(0, .ref (bd 0)), (1, .int (iI ((v : Int)))), (2, .int (iI (x)))] := hl
  have inW : ∀ w ∈ wsX10, w ∈ wsX1_bestAt := by first | exact (fun w h => List.mem_cons_of_mem _ (List.mem_append_right _ h)) | exact (fun w h => List.mem_cons_of_mem _ (List.mem_append_left _ (List.mem_append_right _ h))) | exact (fun w h => List.mem_cons_of_mem _ (List.mem_append_left _ (List.mem_append_left _ (List.mem_append_right _ h)))) | decide +kernel
  refine lv_aload_n hx hb dX1_bestAt_0 rfl (lv_at hl 0 rfl) ?_
  refine lv_iload_n hx hb dX1_bestAt_1 rfl (lv_at hl 1 rfl) ?_
  refine w_pS (As := [.int (iI ((v : Int)))]) (rest := [.ref (bd 0)]) ⟨hx, hb, hml, hown, hts⟩ hK hP (mX1_isVariant_y  (by omega)) (va_cwS 1 hts gX1_bestAt_X1_isVariant rfl rfl rfl (by decide +kernel) ⟨Nat.le_of_ble_eq_true rfl, Nat.le_of_ble_eq_true rfl⟩) rfl hl.1 rfl (Nat.le_of_ble_eq_true rfl) dX1_bestAt_2 ⟨Nat.zero_le _, Nat.zero_le _⟩ (fun r2 hr2 => ?_)
  refine w_top (v := iI (1)) (hr2.trans (congrArg iI (by omega))) ?_
  refine w_if_ne (tgt := 12) hx hb dX1_bestAt_5 (by decide) ⟨by omega, by omega⟩ (fun c5 => ?_) (fun c5 => absurd c5 (by omega))
  refine lv_iload_n hx hb dX1_bestAt_12 rfl (lv_at hl 2 rfl) ?_
  refine lv_iconst (v := iI 0) hx hb dX1_bestAt_13 rfl ?_
  refine lv_aload_n hx hb dX1_bestAt_14 rfl (lv_at hl 0 rfl) ?_
  refine va_get (D := D) (ci := 1) (C := RX1) (T := TX1) (N := 10) hx hb hts inW hown hK hP 0 rfl rfl 1 (by decide) (hts (.fieldLink RX1 35 "FlowforgeModel" "many" "I") (List.mem_of_getElem? (i := 1) rfl)) (fun _ h9 => h9) rfl dX1_bestAt_15 ?_
  refine lv_iconst (v := iI 1) hx hb dX1_bestAt_18 rfl ?_
  refine w_isub (z := (nn : Int) - 1) hx hb dX1_bestAt_19 (by omega) ?_
  refine w_pS (As := [.int (iI (x)), .int (iI 0), .int (iI ((nn : Int) - 1))]) (rest := [.ref (bd 0)]) ⟨hx, hb, hml, hown, hts⟩ hK hP (mX1_in_n  (by omega) (by omega)) (va_cwS 3 hts gX1_bestAt_X1_in rfl rfl rfl (by decide +kernel) ⟨Nat.le_of_ble_eq_true rfl, Nat.le_of_ble_eq_true rfl⟩) rfl hl.1 rfl (Nat.le_of_ble_eq_true rfl) dX1_bestAt_20 ⟨Nat.zero_le _, Nat.zero_le _⟩ (fun r20 hr20 => ?_)
  refine w_top (v := iI (0)) (hr20.trans (congrArg iI (by omega))) ?_
  refine w_if_eq (tgt := 30) hx hb dX1_bestAt_23 (by decide) ⟨by omega, by omega⟩ (fun c23 => ?_) (fun c23 => absurd c23 (by omega))
  refine lv_iconst (v := iI 2) hx hb dX1_bestAt_30 rfl ?_
  refine va_put (D := D) (ci := 1) (ty := .int) (C := RX1) (T := TX1) (N := 10) hx hb hts inW tyX1 tyX1_ok nmX1 hown hK hP hD hS 0 rfl rfl 0 (by decide) (hts (.fieldLink RX1 32 "FlowforgeModel" "thrown" "I") (List.mem_of_getElem? (i := 2) rfl)) (fun _ h9 => h9) rfl (by decide +kernel) rfl rfl (Nat.le_of_ble_eq_true rfl) dX1_bestAt_31 (fun H locs hP hD hS => ?_)
  have hP : va_P D vwCl (mw bd cI 2 nn mm bm tT oO tB tL oR oJ) H := hP
  have hD : va_D A (mw bd cI 2 nn mm bm tT oO tB tL oR oJ) := hD
  refine lv_aload_n hx hb dX1_bestAt_34 rfl (lv_at hl 0 rfl) ?_
  refine va_get (D := D) (ci := 1) (C := RX1) (T := TX1) (N := 10) hx hb hts inW hown hK hP 0 rfl rfl 0 (by decide) (hts (.fieldLink RX1 32 "FlowforgeModel" "thrown" "I") (List.mem_of_getElem? (i := 2) rfl)) (fun _ h9 => h9) rfl dX1_bestAt_35 ?_
  refine w_if_le (tgt := 43) hx hb dX1_bestAt_38 (by decide) ⟨by omega, by omega⟩ (fun c38 => absurd c38 (by omega)) (fun c38 => ?_)
  refine lv_iconst (v := iI 0) hx hb dX1_bestAt_41 rfl ?_
  exact hret _ _ 42 ls _ (()) hP hD hS (rfl) dX1_bestAt_42
set_option maxHeartbeats 4000000 in
set_option maxRecDepth 100000 in
theorem mX1_bestOrders {v : Nat} (hT : ∀ k, 0 ≤ tT k ∧ tT k ≤ 99) (hn : nn ≤ 7) (hm : 1 ≤ mm ∧ mm ≤ 5) (hv : v ≤ 2) (hE : Enu nn) : IM l yX1_bestOrders wsX1_bestOrders (rmx 5 121) D (tyk cI cZ cJ) (mw bd cI th nn mm bm tT oO tB tL oR oJ) [.ref (bd 0), .int (iI ((v : Int)))] (QI D (tyk cI cZ cJ) (fun u : (Nat → Int) × (Nat → Nat) × (Nat → Nat) => mw bd cI 0 nn mm (((sol v mm tT nn).2.1 : Int)) tT oO u.1 tL u.2.1 u.2.2) (fun y _ => y = iI ((sol v mm tT nn).2.1 : Int))) := by
  refine imI_of (cc := cX1_bestOrders) (maxL := 2) (by decide) rfl (Nat.le_of_ble_eq_true rfl) ?_
  intro p e s m args below meth c A Q hx hb hml hown hts hA hK hP hD hS hret ls hl
  have hown : s.vm.findClass RX1 = some m.cls := hown
  have hl : lv_has ls 2 [(0, .ref (bd 0)), (1, .int (iI ((v : Int))))] := hl
  have inW : ∀ w ∈ wsX10, w ∈ wsX1_bestOrders := by first | exact (fun w h => List.mem_cons_of_mem _ (List.mem_append_right _ h)) | exact (fun w h => List.mem_cons_of_mem _ (List.mem_append_left _ (List.mem_append_right _ h))) | exact (fun w h => List.mem_cons_of_mem _ (List.mem_append_left _ (List.mem_append_left _ (List.mem_append_right _ h)))) | decide +kernel
  refine lv_aload_n hx hb dX1_bestOrders_0 rfl (lv_at hl 0 rfl) ?_
  refine lv_iload_n hx hb dX1_bestOrders_1 rfl (lv_at hl 1 rfl) ?_
  refine w_pS (As := [.int (iI ((v : Int)))]) (rest := [.ref (bd 0)]) ⟨hx, hb, hml, hown, hts⟩ hK hP (mX1_isVariant_y  (by omega)) (va_cwS 1 hts gX1_bestOrders_X1_isVariant rfl rfl rfl (by decide +kernel) ⟨Nat.le_of_ble_eq_true rfl, Nat.le_of_ble_eq_true rfl⟩) rfl hl.1 rfl (Nat.le_of_ble_eq_true rfl) dX1_bestOrders_2 ⟨Nat.zero_le _, Nat.zero_le _⟩ (fun r2 hr2 => ?_)
  refine w_top (v := iI (1)) (hr2.trans (congrArg iI (by omega))) ?_
  refine w_if_eq (tgt := 12) hx hb dX1_bestOrders_5 (by decide) ⟨by omega, by omega⟩ (fun c5 => absurd c5 (by omega)) (fun c5 => ?_)
  refine lv_iconst (v := iI 0) hx hb dX1_bestOrders_8 rfl ?_
  refine lv_goto (tgt := 13) hx hb dX1_bestOrders_9 (by decide) ?_
  refine va_put (D := D) (ci := 1) (ty := .int) (C := RX1) (T := TX1) (N := 10) hx hb hts inW tyX1 tyX1_ok nmX1 hown hK hP hD hS 0 rfl rfl 0 (by decide) (hts (.fieldLink RX1 32 "FlowforgeModel" "thrown" "I") (List.mem_of_getElem? (i := 1) rfl)) (fun _ h9 => h9) rfl (by decide +kernel) rfl rfl (Nat.le_of_ble_eq_true rfl) dX1_bestOrders_13 (fun H locs hP hD hS => ?_)
  have hP : va_P D vwCl (mw bd cI 0 nn mm bm tT oO tB tL oR oJ) H := hP
  have hD : va_D A (mw bd cI 0 nn mm bm tT oO tB tL oR oJ) := hD
  refine lv_aload_n hx hb dX1_bestOrders_16 rfl (lv_at hl 0 rfl) ?_
  refine va_get (D := D) (ci := 1) (C := RX1) (T := TX1) (N := 10) hx hb hts inW hown hK hP 0 rfl rfl 0 (by decide) (hts (.fieldLink RX1 32 "FlowforgeModel" "thrown" "I") (List.mem_of_getElem? (i := 1) rfl)) (fun _ h9 => h9) rfl dX1_bestOrders_17 ?_
  refine w_if_le (tgt := 25) hx hb dX1_bestOrders_20 (by decide) ⟨by omega, by omega⟩ (fun c20 => ?_) (fun c20 => absurd c20 (by omega))
  refine lv_aload_n hx hb dX1_bestOrders_25 rfl (lv_at hl 0 rfl) ?_
  refine lv_iload_n hx hb dX1_bestOrders_26 rfl (lv_at hl 1 rfl) ?_
  refine w_iV (As := [.int (iI ((v : Int)))]) (rest := []) (wf := fun u : (Nat → Int) × (Nat → Nat) × (Nat → Nat) => mw bd cI 0 nn mm (((sol v mm tT nn).2.1 : Int)) tT oO u.1 tL u.2.1 u.2.2) (wr := []) ⟨hx, hb, hml, hown, hts⟩ hK hP hD hS hA (mX1_searches  hT hn hm hv hE) (cwV 1 hts gX1_bestOrders_X1_searches rfl rfl rfl (by decide +kernel) ⟨Nat.le_of_ble_eq_true rfl, Nat.le_of_ble_eq_true rfl⟩) [0, 1, 2, 3, 4, 5, 6] [] [0, 1, 2, 3, 4, 5, 6] rfl rfl (by decide) (by decide) (by decide) (hwf := fun _ => rfl) (by decide) (ci := 1) rfl rfl rfl rfl hl.1 rfl (Nat.le_of_ble_eq_true rfl) dX1_bestOrders_27 ⟨Nat.zero_le _, Nat.zero_le _⟩ (fun r27 u H locs hr27 hP hD hS => ?_)
  obtain ⟨uB, uR, uJ⟩ := u
  obtain ⟨hq27, hJ9⟩ := hr27
  have hP : va_P D vwCl (mw bd cI 0 nn mm (((sol v mm tT nn).2.1 : Int)) tT oO uB tL uR uJ) H := hP
  have hD : va_D A (mw bd cI 0 nn mm (((sol v mm tT nn).2.1 : Int)) tT oO uB tL uR uJ) := hD
  refine w_top (v := iI (((sol v mm tT nn).1))) (hq27) ?_
  refine lv_pop hx hb dX1_bestOrders_30 rfl ?_
  refine lv_aload_n hx hb dX1_bestOrders_31 rfl (lv_at hl 0 rfl) ?_
  refine va_get (D := D) (ci := 1) (C := RX1) (T := TX1) (N := 10) hx hb hts inW hown hK hP 0 rfl rfl 9 (by decide) (hts (.fieldLink RX1 131 "FlowforgeModel" "bestMany" "I") (List.mem_of_getElem? (i := 2) rfl)) (fun _ h9 => h9) rfl dX1_bestOrders_32 ?_
  exact hret _ _ 35 ls _ ((uB, uR, uJ)) hP hD hS (rfl) dX1_bestOrders_35
set_option maxHeartbeats 4000000 in
set_option maxRecDepth 100000 in
theorem mX1_bestOrders_e {x : Int} (hr9 : -2147483648 ≤ x ∧ x ≤ 2147483647) (hbad : ¬ (0 ≤ x ∧ x ≤ 2)) : IM l yX1_bestOrders wsX1_bestOrders (rmx 2 42) D (tyk cI cZ cJ) (mw bd cI th nn mm bm tT oO tB tL oR oJ) [.ref (bd 0), .int (iI (x))] (QI D (tyk cI cZ cJ) (fun u : Unit => mw bd cI 1 nn mm bm tT oO tB tL oR oJ) (fun x _ => x = iI 0)) := by
  refine imI_of (cc := cX1_bestOrders) (maxL := 2) (by decide) rfl (Nat.le_of_ble_eq_true rfl) ?_
  intro p e s m args below meth c A Q hx hb hml hown hts hA hK hP hD hS hret ls hl
  have hown : s.vm.findClass RX1 = some m.cls := hown
  have hl : lv_has ls 2 [(0, .ref (bd 0)), (1, .int (iI (x)))] := hl
  have inW : ∀ w ∈ wsX10, w ∈ wsX1_bestOrders := by first | exact (fun w h => List.mem_cons_of_mem _ (List.mem_append_right _ h)) | exact (fun w h => List.mem_cons_of_mem _ (List.mem_append_left _ (List.mem_append_right _ h))) | exact (fun w h => List.mem_cons_of_mem _ (List.mem_append_left _ (List.mem_append_left _ (List.mem_append_right _ h)))) | decide +kernel
  refine lv_aload_n hx hb dX1_bestOrders_0 rfl (lv_at hl 0 rfl) ?_
  refine lv_iload_n hx hb dX1_bestOrders_1 rfl (lv_at hl 1 rfl) ?_
  refine w_pS (As := [.int (iI (x))]) (rest := [.ref (bd 0)]) ⟨hx, hb, hml, hown, hts⟩ hK hP (mX1_isVariant_n  (by omega) (by omega)) (va_cwS 1 hts gX1_bestOrders_X1_isVariant rfl rfl rfl (by decide +kernel) ⟨Nat.le_of_ble_eq_true rfl, Nat.le_of_ble_eq_true rfl⟩) rfl hl.1 rfl (Nat.le_of_ble_eq_true rfl) dX1_bestOrders_2 ⟨Nat.zero_le _, Nat.zero_le _⟩ (fun r2 hr2 => ?_)
  refine w_top (v := iI (0)) (hr2.trans (congrArg iI (by omega))) ?_
  refine w_if_eq (tgt := 12) hx hb dX1_bestOrders_5 (by decide) ⟨by omega, by omega⟩ (fun c5 => ?_) (fun c5 => absurd c5 (by omega))
  refine lv_iconst (v := iI 1) hx hb dX1_bestOrders_12 rfl ?_
  refine va_put (D := D) (ci := 1) (ty := .int) (C := RX1) (T := TX1) (N := 10) hx hb hts inW tyX1 tyX1_ok nmX1 hown hK hP hD hS 0 rfl rfl 0 (by decide) (hts (.fieldLink RX1 32 "FlowforgeModel" "thrown" "I") (List.mem_of_getElem? (i := 1) rfl)) (fun _ h9 => h9) rfl (by decide +kernel) rfl rfl (Nat.le_of_ble_eq_true rfl) dX1_bestOrders_13 (fun H locs hP hD hS => ?_)
  have hP : va_P D vwCl (mw bd cI 1 nn mm bm tT oO tB tL oR oJ) H := hP
  have hD : va_D A (mw bd cI 1 nn mm bm tT oO tB tL oR oJ) := hD
  refine lv_aload_n hx hb dX1_bestOrders_16 rfl (lv_at hl 0 rfl) ?_
  refine va_get (D := D) (ci := 1) (C := RX1) (T := TX1) (N := 10) hx hb hts inW hown hK hP 0 rfl rfl 0 (by decide) (hts (.fieldLink RX1 32 "FlowforgeModel" "thrown" "I") (List.mem_of_getElem? (i := 1) rfl)) (fun _ h9 => h9) rfl dX1_bestOrders_17 ?_
  refine w_if_le (tgt := 25) hx hb dX1_bestOrders_20 (by decide) ⟨by omega, by omega⟩ (fun c20 => absurd c20 (by omega)) (fun c20 => ?_)
  refine lv_iconst (v := iI 0) hx hb dX1_bestOrders_23 rfl ?_
  exact hret _ _ 24 ls _ (()) hP hD hS (rfl) dX1_bestOrders_24
set_option maxHeartbeats 4000000 in
set_option maxRecDepth 100000 in
theorem mX1_gap (hT : ∀ k, 0 ≤ tT k ∧ tT k ≤ 99) (hn : nn ≤ 7) (hm : 1 ≤ mm ∧ mm ≤ 5) (hO : ∀ k, k < nn → oO k < 7) (hE : Enu nn) : IM l yX1_gap wsX1_gap (rmx 5 121) D (tyk cI cZ cJ) (mw bd cI th nn mm bm tT oO tB tL oR oJ) [.ref (bd 0)] (QD D (tyk cI cZ cJ) (fun u : (Nat → Int) × (Nat → Nat) × (Nat → Nat) => mw bd cI 0 nn mm (((sol 0 mm tT nn).2.1 : Int)) tT oO u.1 tL u.2.1 u.2.2) (fun y _ => y = gapD (mk 0 mm tT oO nn) (sol 0 mm tT nn).1)) := by
  refine imD_of (cc := cX1_gap) (maxL := 3) (by decide) rfl (Nat.le_of_ble_eq_true rfl) ?_
  intro p e s m args below meth c A Q hx hb hml hown hts hA hK hP hD hS hret ls hl
  have hown : s.vm.findClass RX1 = some m.cls := hown
  have hl : lv_has ls 3 [(0, .ref (bd 0))] := hl
  have inW : ∀ w ∈ wsX10, w ∈ wsX1_gap := by first | exact (fun w h => List.mem_cons_of_mem _ (List.mem_append_right _ h)) | exact (fun w h => List.mem_cons_of_mem _ (List.mem_append_left _ (List.mem_append_right _ h))) | exact (fun w h => List.mem_cons_of_mem _ (List.mem_append_left _ (List.mem_append_left _ (List.mem_append_right _ h)))) | decide +kernel
  refine lv_aload_n hx hb dX1_gap_0 rfl (lv_at hl 0 rfl) ?_
  refine lv_iconst (v := iI 0) hx hb dX1_gap_1 rfl ?_
  refine va_put (D := D) (ci := 1) (ty := .int) (C := RX1) (T := TX1) (N := 10) hx hb hts inW tyX1 tyX1_ok nmX1 hown hK hP hD hS 0 rfl rfl 0 (by decide) (hts (.fieldLink RX1 32 "FlowforgeModel" "thrown" "I") (List.mem_of_getElem? (i := 1) rfl)) (fun _ h9 => h9) rfl (by decide +kernel) rfl rfl (Nat.le_of_ble_eq_true rfl) dX1_gap_2 (fun H locs hP hD hS => ?_)
  have hP : va_P D vwCl (mw bd cI 0 nn mm bm tT oO tB tL oR oJ) H := hP
  have hD : va_D A (mw bd cI 0 nn mm bm tT oO tB tL oR oJ) := hD
  refine lv_aload_n hx hb dX1_gap_5 rfl (lv_at hl 0 rfl) ?_
  refine lv_iconst (v := iI 0) hx hb dX1_gap_6 rfl ?_
  refine w_iV (As := [.int (iI 0)]) (rest := []) (wf := fun u : (Nat → Int) × (Nat → Nat) × (Nat → Nat) => mw bd cI 0 nn mm (((sol 0 mm tT nn).2.1 : Int)) tT oO u.1 tL u.2.1 u.2.2) (wr := []) ⟨hx, hb, hml, hown, hts⟩ hK hP hD hS hA (mX1_searches (v := 0) hT hn hm (by omega) hE) (cwV 1 hts gX1_gap_X1_searches rfl rfl rfl (by decide +kernel) ⟨Nat.le_of_ble_eq_true rfl, Nat.le_of_ble_eq_true rfl⟩) [0, 1, 2, 3, 4, 5, 6] [] [0, 1, 2, 3, 4, 5, 6] rfl rfl (by decide) (by decide) (by decide) (hwf := fun _ => rfl) (by decide) (ci := 1) rfl rfl rfl rfl hl.1 rfl (Nat.le_of_ble_eq_true rfl) dX1_gap_7 ⟨Nat.zero_le _, Nat.zero_le _⟩ (fun r7 u H locs hr7 hP hD hS => ?_)
  obtain ⟨uB, uR, uJ⟩ := u
  obtain ⟨hq7, hJ9⟩ := hr7
  have hP : va_P D vwCl (mw bd cI 0 nn mm (((sol 0 mm tT nn).2.1 : Int)) tT oO uB tL uR uJ) H := hP
  have hD : va_D A (mw bd cI 0 nn mm (((sol 0 mm tT nn).2.1 : Int)) tT oO uB tL uR uJ) := hD
  refine w_top (v := iI (((sol 0 mm tT nn).1))) (hq7) ?_
  refine lv_istore_n (lv' := [(1, .int (iI (((sol 0 mm tT nn).1)))), (0, .ref (bd 0))]) hx hb dX1_gap_10 rfl hl (by decide) rfl (fun ls hl => ?_)
  refine lv_aload_n hx hb dX1_gap_11 rfl (lv_at hl 1 rfl) ?_
  refine w_iV (As := []) (rest := []) (wf := fun u : (Nat → Int) => mw bd cI 0 nn mm (((sol 0 mm tT nn).2.1 : Int)) tT oO u tL uR uJ) (wr := []) ⟨hx, hb, hml, hown, hts⟩ hK hP hD hS hA (mX1_plain  hT hn hm hO) (cwV 0 hts gX1_gap_X1_plain rfl rfl rfl (by decide +kernel) ⟨Nat.le_of_ble_eq_true rfl, Nat.le_of_ble_eq_true rfl⟩) [0, 1, 2, 3, 4, 5, 6] [] [0, 1, 2, 3, 4, 5, 6] rfl rfl (by decide) (by decide) (by decide) (hwf := fun _ => rfl) (by decide) (ci := 1) rfl rfl rfl rfl hl.1 rfl (Nat.le_of_ble_eq_true rfl) dX1_gap_12 ⟨Nat.zero_le _, Nat.zero_le _⟩ (fun r12 u H locs hr12 hP hD hS => ?_)
  obtain ⟨uC, huC⟩ : ∃ z, z = u := ⟨_, rfl⟩
  subst huC
  obtain ⟨hq12, hI⟩ := hr12
  have hP : va_P D vwCl (mw bd cI 0 nn mm (((sol 0 mm tT nn).2.1 : Int)) tT oO uC tL uR uJ) H := hP
  have hD : va_D A (mw bd cI 0 nn mm (((sol 0 mm tT nn).2.1 : Int)) tT oO uC tL uR uJ) := hD
  refine w_top (v := iI ((mk 0 mm tT oO nn))) (hq12) ?_
  refine lv_istore_n (lv' := [(2, .int (iI ((mk 0 mm tT oO nn)))), (1, .int (iI (((sol 0 mm tT nn).1)))), (0, .ref (bd 0))]) hx hb dX1_gap_15 rfl hl (by decide) rfl (fun ls hl => ?_)
  have h9 := (sol_rg (v := 0) hm hT hn).1
  refine lv_iload_n hx hb dX1_gap_16 rfl (lv_at hl 1 rfl) ?_
  refine w_if_ne (tgt := 24) hx hb dX1_gap_17 (by decide) ⟨by omega, by omega⟩ (fun c17 => ?_) (fun c17 => ?_)
  · refine lv_iload_n hx hb dX1_gap_24 rfl (lv_at hl 0 rfl) ?_
    refine lv_iload_n hx hb dX1_gap_25 rfl (lv_at hl 1 rfl) ?_
    refine w_isub (z := (mk 0 mm tT oO nn) - ((sol 0 mm tT nn).1)) hx hb dX1_gap_26 (by omega) ?_
    refine lv_i2d hx hb dX1_gap_27 ?_
    refine lv_iload_n hx hb dX1_gap_28 rfl (lv_at hl 1 rfl) ?_
    refine lv_i2d hx hb dX1_gap_29 ?_
    refine lv_ddiv hx hb dX1_gap_30 (gp_nan (fun q => c17 ((iI_eq (b := 0) ⟨by omega, by omega⟩ ⟨by omega, by omega⟩).mp q))) ?_
    exact hret _ _ 31 ls _ ((uC, uR, uJ)) hP hD hS (by unfold gapD; rw [if_neg (by omega)]) dX1_gap_31
  · refine lv_dconst0 hx hb dX1_gap_20 ?_
    refine lv_goto (tgt := 31) hx hb dX1_gap_21 (by decide) ?_
    exact hret _ _ 31 ls _ ((uC, uR, uJ)) hP hD hS (by unfold gapD; rw [if_pos (by omega)]) dX1_gap_31
end
