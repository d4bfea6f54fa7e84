section
variable {l : Launch} {D : va_G} {cI cZ cJ : ClassId} {ad bd : Nat → Nat} {a0 : Nat} {ws : va_W} {nn mm : Nat} {th bm : Int} {tT tB tE tL : Nat → Int} {oO oR oQ : Nat → Nat} {zS zM zN : Nat → Int} {oJ fF : Nat → Nat}
set_option maxHeartbeats 4000000 in
set_option maxRecDepth 100000 in
theorem mX1_thrown  : PM l yX1_thrown wsX1_thrown (rmx 0 0) D (tyk cI cZ cJ) (mw bd cI th nn mm bm tT oO tB tL oR oJ) [.ref (bd 0)] (vp_Si (fun x => x = iI th)) := by
  refine pmI_of (cc := cX1_thrown) (maxL := 1) (by decide) rfl (Nat.le_of_ble_eq_true rfl) ?_
  intro p e s m args below meth c Q hx hb hml hown hts hK hP hret ls hl
  have hown : s.vm.findClass RX1 = some m.cls := hown
  have hl : lv_has ls 1 [(0, .ref (bd 0))] := hl
  have inW : ∀ w ∈ wsX10, w ∈ wsX1_thrown := by first | exact (fun w h => List.mem_cons_of_mem _ (List.mem_append_right _ h)) | exact (fun w h => List.mem_cons_of_mem _ (List.mem_append_left _ (List.mem_append_right _ h))) | exact (fun w h => List.mem_cons_of_mem _ (List.mem_append_left _ (List.mem_append_left _ (List.mem_append_right _ h)))) | decide +kernel
  refine lv_aload_n hx hb dX1_thrown_0 rfl (lv_at hl 0 rfl) ?_
  refine va_get (D := D) (ci := 1) (C := RX1) (T := TX1) (N := 10) hx hb hts inW hown hK hP 0 rfl rfl 0 (by decide) (hts (.fieldLink RX1 32 "FlowforgeModel" "thrown" "I") (List.mem_of_getElem? (i := 1) rfl)) (fun _ h9 => h9) rfl dX1_thrown_1 ?_
  exact hret 4 ls _ (rfl) dX1_thrown_4
set_option maxHeartbeats 4000000 in
set_option maxRecDepth 100000 in
theorem mX1_fails {c0 : Int} : IM l yX1_fails wsX1_fails (rmx 0 0) D (tyk cI cZ cJ) (mw bd cI th nn mm bm tT oO tB tL oR oJ) [.ref (bd 0), .int (iI (c0))] (QI D (tyk cI cZ cJ) (fun u : Unit => mw bd cI c0 nn mm bm tT oO tB tL oR oJ) (fun x _ => x = iI 0)) := by
  refine imI_of (cc := cX1_fails) (maxL := 2) (by decide) rfl (Nat.le_of_ble_eq_true rfl) ?_
  intro p e s m args below meth c A Q hx hb hml hown hts hA hK hP hD hS hret ls hl
  have hown : s.vm.findClass RX1 = some m.cls := hown
  have hl : lv_has ls 2 [(0, .ref (bd 0)), (1, .int (iI (c0)))] := hl
  have inW : ∀ w ∈ wsX10, w ∈ wsX1_fails := by first | exact (fun w h => List.mem_cons_of_mem _ (List.mem_append_right _ h)) | exact (fun w h => List.mem_cons_of_mem _ (List.mem_append_left _ (List.mem_append_right _ h))) | exact (fun w h => List.mem_cons_of_mem _ (List.mem_append_left _ (List.mem_append_left _ (List.mem_append_right _ h)))) | decide +kernel
  refine lv_aload_n hx hb dX1_fails_0 rfl (lv_at hl 0 rfl) ?_
  refine lv_iload_n hx hb dX1_fails_1 rfl (lv_at hl 1 rfl) ?_
  refine va_put (D := D) (ci := 1) (ty := .int) (C := RX1) (T := TX1) (N := 10) hx hb hts inW tyX1 tyX1_ok nmX1 hown hK hP hD hS 0 rfl rfl 0 (by decide) (hts (.fieldLink RX1 32 "FlowforgeModel" "thrown" "I") (List.mem_of_getElem? (i := 1) rfl)) (fun _ h9 => h9) rfl (by decide +kernel) rfl rfl (Nat.le_of_ble_eq_true rfl) dX1_fails_2 (fun H locs hP hD hS => ?_)
  have hP : va_P D vwCl (mw bd cI c0 nn mm bm tT oO tB tL oR oJ) H := hP
  have hD : va_D A (mw bd cI c0 nn mm bm tT oO tB tL oR oJ) := hD
  refine lv_iconst (v := iI 0) hx hb dX1_fails_5 rfl ?_
  exact hret _ _ 6 ls _ (()) hP hD hS (rfl) dX1_fails_6
set_option maxHeartbeats 4000000 in
set_option maxRecDepth 100000 in
theorem mX1_in_y {v lo hi : Int} (hr9 : -2147483648 ≤ v ∧ v ≤ 2147483647 ∧ -2147483648 ≤ lo ∧ lo ≤ 2147483647 ∧ -2147483648 ≤ hi ∧ hi ≤ 2147483647) (h : lo ≤ v ∧ v ≤ hi) : PM l yX1_in wsX1_in (rmx 0 0) D (tyk cI cZ cJ) (ws) [.int (iI (v)), .int (iI (lo)), .int (iI (hi))] (vp_Si (fun x => x = iI 1)) := by
  refine pmZ_of (cc := cX1_in) (maxL := 3) (by decide) rfl (Nat.le_of_ble_eq_true rfl) ?_
  intro p e s m args below meth c Q hx hb hml hown hts hK hP hret ls hl
  have hown : s.vm.findClass RX1 = some m.cls := hown
  have hl : lv_has ls 3 [(0, .int (iI (v))), (1, .int (iI (lo))), (2, .int (iI (hi)))] := hl
  refine lv_iload_n hx hb dX1_in_0 rfl (lv_at hl 0 rfl) ?_
  refine lv_iload_n hx hb dX1_in_1 rfl (lv_at hl 1 rfl) ?_
  refine w_icmp_lt (tgt := 14) hx hb dX1_in_2 (by decide) ⟨by omega, by omega⟩ ⟨by omega, by omega⟩ (fun c2 => absurd c2 (by omega)) (fun c2 => ?_)
  refine lv_iload_n hx hb dX1_in_5 rfl (lv_at hl 0 rfl) ?_
  refine lv_iload_n hx hb dX1_in_6 rfl (lv_at hl 2 rfl) ?_
  refine w_icmp_gt (tgt := 14) hx hb dX1_in_7 (by decide) ⟨by omega, by omega⟩ ⟨by omega, by omega⟩ (fun c7 => absurd c7 (by omega)) (fun c7 => ?_)
  refine lv_iconst (v := iI 1) hx hb dX1_in_10 rfl ?_
  refine lv_goto (tgt := 15) hx hb dX1_in_11 (by decide) ?_
  exact hret 15 ls _ rfl (rfl) dX1_in_15
set_option maxHeartbeats 4000000 in
set_option maxRecDepth 100000 in
theorem mX1_in_n {v lo hi : Int} (hr9 : -2147483648 ≤ v ∧ v ≤ 2147483647 ∧ -2147483648 ≤ lo ∧ lo ≤ 2147483647 ∧ -2147483648 ≤ hi ∧ hi ≤ 2147483647) (h : ¬ (lo ≤ v ∧ v ≤ hi)) : PM l yX1_in wsX1_in (rmx 0 0) D (tyk cI cZ cJ) (ws) [.int (iI (v)), .int (iI (lo)), .int (iI (hi))] (vp_Si (fun x => x = iI 0)) := by
  refine pmZ_of (cc := cX1_in) (maxL := 3) (by decide) rfl (Nat.le_of_ble_eq_true rfl) ?_
  intro p e s m args below meth c Q hx hb hml hown hts hK hP hret ls hl
  have hown : s.vm.findClass RX1 = some m.cls := hown
  have hl : lv_has ls 3 [(0, .int (iI (v))), (1, .int (iI (lo))), (2, .int (iI (hi)))] := hl
  refine lv_iload_n hx hb dX1_in_0 rfl (lv_at hl 0 rfl) ?_
  refine lv_iload_n hx hb dX1_in_1 rfl (lv_at hl 1 rfl) ?_
  refine w_icmp_lt (tgt := 14) hx hb dX1_in_2 (by decide) ⟨by omega, by omega⟩ ⟨by omega, by omega⟩ (fun c2 => ?_) (fun c2 => ?_)
  · refine lv_iconst (v := iI 0) hx hb dX1_in_14 rfl ?_
    exact hret 15 ls _ rfl (rfl) dX1_in_15
  · refine lv_iload_n hx hb dX1_in_5 rfl (lv_at hl 0 rfl) ?_
    refine lv_iload_n hx hb dX1_in_6 rfl (lv_at hl 2 rfl) ?_
    refine w_icmp_gt (tgt := 14) hx hb dX1_in_7 (by decide) ⟨by omega, by omega⟩ ⟨by omega, by omega⟩ (fun c7 => ?_) (fun c7 => absurd c7 (by omega))
    refine lv_iconst (v := iI 0) hx hb dX1_in_14 rfl ?_
    exact hret 15 ls _ rfl (rfl) dX1_in_15
set_option maxHeartbeats 4000000 in
set_option maxRecDepth 100000 in
theorem mX1_isOf_y {j k : Nat} (hn : nn ≤ 7) (hm5 : mm ≤ 5) (hj : j < nn) (hk : k < mm) : PM l yX1_isOf wsX1_isOf (rmx 1 22) D (tyk cI cZ cJ) (mw bd cI th nn mm bm tT oO tB tL oR oJ) [.ref (bd 0), .int (iI ((j : Int))), .int (iI ((k : Int)))] (vp_Si (fun x => x = iI 1)) := by
  refine pmZ_of (cc := cX1_isOf) (maxL := 3) (by decide) rfl (Nat.le_of_ble_eq_true rfl) ?_
  intro p e s m args below meth c Q hx hb hml hown hts hK hP hret ls hl
  have hown : s.vm.findClass RX1 = some m.cls := hown
  have hl : lv_has ls 3 [(0, .ref (bd 0)), (1, .int (iI ((j : Int)))), (2, .int (iI ((k : Int))))] := hl
  have inW : ∀ w ∈ wsX10, w ∈ wsX1_isOf := by first | exact (fun w h => List.mem_cons_of_mem _ (List.mem_append_right _ h)) | exact (fun w h => List.mem_cons_of_mem _ (List.mem_append_left _ (List.mem_append_right _ h))) | exact (fun w h => List.mem_cons_of_mem _ (List.mem_append_left _ (List.mem_append_left _ (List.mem_append_right _ h)))) | decide +kernel
  refine lv_iload_n hx hb dX1_isOf_0 rfl (lv_at hl 1 rfl) ?_
  refine lv_iconst (v := iI 0) hx hb dX1_isOf_1 rfl ?_
  refine lv_aload_n hx hb dX1_isOf_2 rfl (lv_at hl 0 rfl) ?_
  refine va_get (D := D) (ci := 1) (C := RX1) (T := TX1) (N := 10) hx hb hts inW hown hK hP 0 rfl rfl 1 (by decide) (hts (.fieldLink RX1 35 "FlowforgeModel" "many" "I") (List.mem_of_getElem? (i := 1) rfl)) (fun _ h9 => h9) rfl dX1_isOf_3 ?_
  refine lv_iconst (v := iI 1) hx hb dX1_isOf_6 rfl ?_
  refine w_isub (z := (nn : Int) - 1) hx hb dX1_isOf_7 (by omega) ?_
  refine w_pS (As := [.int (iI ((j : Int))), .int (iI 0), .int (iI ((nn : Int) - 1))]) (rest := []) ⟨hx, hb, hml, hown, hts⟩ hK hP (mX1_in_y  (by omega) (by omega)) (va_cwS 3 hts gX1_isOf_X1_in rfl rfl rfl (by decide +kernel) ⟨Nat.le_of_ble_eq_true rfl, Nat.le_of_ble_eq_true rfl⟩) rfl hl.1 rfl (Nat.le_of_ble_eq_true rfl) dX1_isOf_8 ⟨Nat.zero_le _, Nat.zero_le _⟩ (fun r8 hr8 => ?_)
  refine w_top (v := iI (1)) (hr8.trans (congrArg iI (by omega))) ?_
  refine w_if_eq (tgt := 32) hx hb dX1_isOf_11 (by decide) ⟨by omega, by omega⟩ (fun c11 => absurd c11 (by omega)) (fun c11 => ?_)
  refine lv_iload_n hx hb dX1_isOf_14 rfl (lv_at hl 2 rfl) ?_
  refine lv_iconst (v := iI 0) hx hb dX1_isOf_15 rfl ?_
  refine lv_aload_n hx hb dX1_isOf_16 rfl (lv_at hl 0 rfl) ?_
  refine va_get (D := D) (ci := 1) (C := RX1) (T := TX1) (N := 10) hx hb hts inW hown hK hP 0 rfl rfl 2 (by decide) (hts (.fieldLink RX1 7 "FlowforgeModel" "wide" "I") (List.mem_of_getElem? (i := 2) rfl)) (fun _ h9 => h9) rfl dX1_isOf_17 ?_
  refine lv_iconst (v := iI 1) hx hb dX1_isOf_20 rfl ?_
  refine w_isub (z := (mm : Int) - 1) hx hb dX1_isOf_21 (by omega) ?_
  refine w_pS (As := [.int (iI ((k : Int))), .int (iI 0), .int (iI ((mm : Int) - 1))]) (rest := []) ⟨hx, hb, hml, hown, hts⟩ hK hP (mX1_in_y  (by omega) (by omega)) (va_cwS 3 hts gX1_isOf_X1_in rfl rfl rfl (by decide +kernel) ⟨Nat.le_of_ble_eq_true rfl, Nat.le_of_ble_eq_true rfl⟩) rfl hl.1 rfl (Nat.le_of_ble_eq_true rfl) dX1_isOf_22 ⟨Nat.zero_le _, Nat.zero_le _⟩ (fun r22 hr22 => ?_)
  refine w_top (v := iI (1)) (hr22.trans (congrArg iI (by omega))) ?_
  refine w_if_eq (tgt := 32) hx hb dX1_isOf_25 (by decide) ⟨by omega, by omega⟩ (fun c25 => absurd c25 (by omega)) (fun c25 => ?_)
  refine lv_iconst (v := iI 1) hx hb dX1_isOf_28 rfl ?_
  refine lv_goto (tgt := 33) hx hb dX1_isOf_29 (by decide) ?_
  exact hret 33 ls _ rfl (rfl) dX1_isOf_33
set_option maxHeartbeats 4000000 in
set_option maxRecDepth 100000 in
theorem mX1_isOf_n {x y : Int} (hn : nn ≤ 7) (hm5 : mm ≤ 5) (hr9 : -2147483648 ≤ x ∧ x ≤ 2147483647 ∧ -2147483648 ≤ y ∧ y ≤ 2147483647) (h : ¬ ((0 ≤ x ∧ x < (nn : Int)) ∧ 0 ≤ y ∧ y < (mm : Int))) : PM l yX1_isOf wsX1_isOf (rmx 1 22) D (tyk cI cZ cJ) (mw bd cI th nn mm bm tT oO tB tL oR oJ) [.ref (bd 0), .int (iI (x)), .int (iI (y))] (vp_Si (fun x => x = iI 0)) := by
  refine pmZ_of (cc := cX1_isOf) (maxL := 3) (by decide) rfl (Nat.le_of_ble_eq_true rfl) ?_
  intro p e s m args below meth c Q hx hb hml hown hts hK hP hret ls hl
  have hown : s.vm.findClass RX1 = some m.cls := hown
  have hl : lv_has ls 3 [(0, .ref (bd 0)), (1, .int (iI (x))), (2, .int (iI (y)))] := hl
  have inW : ∀ w ∈ wsX10, w ∈ wsX1_isOf := by first | exact (fun w h => List.mem_cons_of_mem _ (List.mem_append_right _ h)) | exact (fun w h => List.mem_cons_of_mem _ (List.mem_append_left _ (List.mem_append_right _ h))) | exact (fun w h => List.mem_cons_of_mem _ (List.mem_append_left _ (List.mem_append_left _ (List.mem_append_right _ h)))) | decide +kernel
  by_cases hc : 0 ≤ x ∧ x < (nn : Int)
  · refine lv_iload_n hx hb dX1_isOf_0 rfl (lv_at hl 1 rfl) ?_
    refine lv_iconst (v := iI 0) hx hb dX1_isOf_1 rfl ?_
    refine lv_aload_n hx hb dX1_isOf_2 rfl (lv_at hl 0 rfl) ?_
    refine va_get (D := D) (ci := 1) (C := RX1) (T := TX1) (N := 10) hx hb hts inW hown hK hP 0 rfl rfl 1 (by decide) (hts (.fieldLink RX1 35 "FlowforgeModel" "many" "I") (List.mem_of_getElem? (i := 1) rfl)) (fun _ h9 => h9) rfl dX1_isOf_3 ?_
    refine lv_iconst (v := iI 1) hx hb dX1_isOf_6 rfl ?_
    refine w_isub (z := (nn : Int) - 1) hx hb dX1_isOf_7 (by omega) ?_
    refine w_pS (As := [.int (iI (x)), .int (iI 0), .int (iI ((nn : Int) - 1))]) (rest := []) ⟨hx, hb, hml, hown, hts⟩ hK hP (mX1_in_y  (by omega) (by omega)) (va_cwS 3 hts gX1_isOf_X1_in rfl rfl rfl (by decide +kernel) ⟨Nat.le_of_ble_eq_true rfl, Nat.le_of_ble_eq_true rfl⟩) rfl hl.1 rfl (Nat.le_of_ble_eq_true rfl) dX1_isOf_8 ⟨Nat.zero_le _, Nat.zero_le _⟩ (fun r8 hr8 => ?_)
    refine w_top (v := iI (1)) (hr8.trans (congrArg iI (by omega))) ?_
    refine w_if_eq (tgt := 32) hx hb dX1_isOf_11 (by decide) ⟨by omega, by omega⟩ (fun c11 => absurd c11 (by omega)) (fun c11 => ?_)
    refine lv_iload_n hx hb dX1_isOf_14 rfl (lv_at hl 2 rfl) ?_
    refine lv_iconst (v := iI 0) hx hb dX1_isOf_15 rfl ?_
    refine lv_aload_n hx hb dX1_isOf_16 rfl (lv_at hl 0 rfl) ?_
    refine va_get (D := D) (ci := 1) (C := RX1) (T := TX1) (N := 10) hx hb hts inW hown hK hP 0 rfl rfl 2 (by decide) (hts (.fieldLink RX1 7 "FlowforgeModel" "wide" "I") (List.mem_of_getElem? (i := 2) rfl)) (fun _ h9 => h9) rfl dX1_isOf_17 ?_
    refine lv_iconst (v := iI 1) hx hb dX1_isOf_20 rfl ?_
    refine w_isub (z := (mm : Int) - 1) hx hb dX1_isOf_21 (by omega) ?_
    refine w_pS (As := [.int (iI (y)), .int (iI 0), .int (iI ((mm : Int) - 1))]) (rest := []) ⟨hx, hb, hml, hown, hts⟩ hK hP (mX1_in_n  (by omega) (by omega)) (va_cwS 3 hts gX1_isOf_X1_in rfl rfl rfl (by decide +kernel) ⟨Nat.le_of_ble_eq_true rfl, Nat.le_of_ble_eq_true rfl⟩) rfl hl.1 rfl (Nat.le_of_ble_eq_true rfl) dX1_isOf_22 ⟨Nat.zero_le _, Nat.zero_le _⟩ (fun r22 hr22 => ?_)
    refine w_top (v := iI (0)) (hr22.trans (congrArg iI (by omega))) ?_
    refine w_if_eq (tgt := 32) hx hb dX1_isOf_25 (by decide) ⟨by omega, by omega⟩ (fun c25 => ?_) (fun c25 => absurd c25 (by omega))
    refine lv_iconst (v := iI 0) hx hb dX1_isOf_32 rfl ?_
    exact hret 33 ls _ rfl (rfl) dX1_isOf_33
  · refine lv_iload_n hx hb dX1_isOf_0 rfl (lv_at hl 1 rfl) ?_
    refine lv_iconst (v := iI 0) hx hb dX1_isOf_1 rfl ?_
    refine lv_aload_n hx hb dX1_isOf_2 rfl (lv_at hl 0 rfl) ?_
    refine va_get (D := D) (ci := 1) (C := RX1) (T := TX1) (N := 10) hx hb hts inW hown hK hP 0 rfl rfl 1 (by decide) (hts (.fieldLink RX1 35 "FlowforgeModel" "many" "I") (List.mem_of_getElem? (i := 1) rfl)) (fun _ h9 => h9) rfl dX1_isOf_3 ?_
    refine lv_iconst (v := iI 1) hx hb dX1_isOf_6 rfl ?_
    refine w_isub (z := (nn : Int) - 1) hx hb dX1_isOf_7 (by omega) ?_
    refine w_pS (As := [.int (iI (x)), .int (iI 0), .int (iI ((nn : Int) - 1))]) (rest := []) ⟨hx, hb, hml, hown, hts⟩ hK hP (mX1_in_n  (by omega) (by omega)) (va_cwS 3 hts gX1_isOf_X1_in rfl rfl rfl (by decide +kernel) ⟨Nat.le_of_ble_eq_true rfl, Nat.le_of_ble_eq_true rfl⟩) rfl hl.1 rfl (Nat.le_of_ble_eq_true rfl) dX1_isOf_8 ⟨Nat.zero_le _, Nat.zero_le _⟩ (fun r8 hr8 => ?_)
    refine w_top (v := iI (0)) (hr8.trans (congrArg iI (by omega))) ?_
    refine w_if_eq (tgt := 32) hx hb dX1_isOf_11 (by decide) ⟨by omega, by omega⟩ (fun c11 => ?_) (fun c11 => absurd c11 (by omega))
    refine lv_iconst (v := iI 0) hx hb dX1_isOf_32 rfl ?_
    exact hret 33 ls _ rfl (rfl) dX1_isOf_33
set_option maxHeartbeats 4000000 in
set_option maxRecDepth 100000 in
theorem mX1_canMove_y {j k : Nat} (hn : nn ≤ 7) (hm5 : mm ≤ 5) (hj : j < nn) (hk : k < nn) : PM l yX1_canMove wsX1_canMove (rmx 1 22) D (tyk cI cZ cJ) (mw bd cI th nn mm bm tT oO tB tL oR oJ) [.ref (bd 0), .int (iI ((j : Int))), .int (iI ((k : Int)))] (vp_Si (fun x => x = iI 1)) := by
  refine pmZ_of (cc := cX1_canMove) (maxL := 3) (by decide) rfl (Nat.le_of_ble_eq_true rfl) ?_
  intro p e s m args below meth c Q hx hb hml hown hts hK hP hret ls hl
  have hown : s.vm.findClass RX1 = some m.cls := hown
  have hl : lv_has ls 3 [(0, .ref (bd 0)), (1, .int (iI ((j : Int)))), (2, .int (iI ((k : Int))))] := hl
  have inW : ∀ w ∈ wsX10, w ∈ wsX1_canMove := by first | exact (fun w h => List.mem_cons_of_mem _ (List.mem_append_right _ h)) | exact (fun w h => List.mem_cons_of_mem _ (List.mem_append_left _ (List.mem_append_right _ h))) | exact (fun w h => List.mem_cons_of_mem _ (List.mem_append_left _ (List.mem_append_left _ (List.mem_append_right _ h)))) | decide +kernel
  refine lv_iload_n hx hb dX1_canMove_0 rfl (lv_at hl 1 rfl) ?_
  refine lv_iconst (v := iI 0) hx hb dX1_canMove_1 rfl ?_
  refine lv_aload_n hx hb dX1_canMove_2 rfl (lv_at hl 0 rfl) ?_
  refine va_get (D := D) (ci := 1) (C := RX1) (T := TX1) (N := 10) hx hb hts inW hown hK hP 0 rfl rfl 1 (by decide) (hts (.fieldLink RX1 35 "FlowforgeModel" "many" "I") (List.mem_of_getElem? (i := 1) rfl)) (fun _ h9 => h9) rfl dX1_canMove_3 ?_
  refine lv_iconst (v := iI 1) hx hb dX1_canMove_6 rfl ?_
  refine w_isub (z := (nn : Int) - 1) hx hb dX1_canMove_7 (by omega) ?_
  refine w_pS (As := [.int (iI ((j : Int))), .int (iI 0), .int (iI ((nn : Int) - 1))]) (rest := []) ⟨hx, hb, hml, hown, hts⟩ hK hP (mX1_in_y  (by omega) (by omega)) (va_cwS 3 hts gX1_canMove_X1_in rfl rfl rfl (by decide +kernel) ⟨Nat.le_of_ble_eq_true rfl, Nat.le_of_ble_eq_true rfl⟩) rfl hl.1 rfl (Nat.le_of_ble_eq_true rfl) dX1_canMove_8 ⟨Nat.zero_le _, Nat.zero_le _⟩ (fun r8 hr8 => ?_)
  refine w_top (v := iI (1)) (hr8.trans (congrArg iI (by omega))) ?_
  refine w_if_eq (tgt := 32) hx hb dX1_canMove_11 (by decide) ⟨by omega, by omega⟩ (fun c11 => absurd c11 (by omega)) (fun c11 => ?_)
  refine lv_iload_n hx hb dX1_canMove_14 rfl (lv_at hl 2 rfl) ?_
  refine lv_iconst (v := iI 0) hx hb dX1_canMove_15 rfl ?_
  refine lv_aload_n hx hb dX1_canMove_16 rfl (lv_at hl 0 rfl) ?_
  refine va_get (D := D) (ci := 1) (C := RX1) (T := TX1) (N := 10) hx hb hts inW hown hK hP 0 rfl rfl 1 (by decide) (hts (.fieldLink RX1 35 "FlowforgeModel" "many" "I") (List.mem_of_getElem? (i := 1) rfl)) (fun _ h9 => h9) rfl dX1_canMove_17 ?_
  refine lv_iconst (v := iI 1) hx hb dX1_canMove_20 rfl ?_
  refine w_isub (z := (nn : Int) - 1) hx hb dX1_canMove_21 (by omega) ?_
  refine w_pS (As := [.int (iI ((k : Int))), .int (iI 0), .int (iI ((nn : Int) - 1))]) (rest := []) ⟨hx, hb, hml, hown, hts⟩ hK hP (mX1_in_y  (by omega) (by omega)) (va_cwS 3 hts gX1_canMove_X1_in rfl rfl rfl (by decide +kernel) ⟨Nat.le_of_ble_eq_true rfl, Nat.le_of_ble_eq_true rfl⟩) rfl hl.1 rfl (Nat.le_of_ble_eq_true rfl) dX1_canMove_22 ⟨Nat.zero_le _, Nat.zero_le _⟩ (fun r22 hr22 => ?_)
  refine w_top (v := iI (1)) (hr22.trans (congrArg iI (by omega))) ?_
  refine w_if_eq (tgt := 32) hx hb dX1_canMove_25 (by decide) ⟨by omega, by omega⟩ (fun c25 => absurd c25 (by omega)) (fun c25 => ?_)
  refine lv_iconst (v := iI 1) hx hb dX1_canMove_28 rfl ?_
  refine lv_goto (tgt := 33) hx hb dX1_canMove_29 (by decide) ?_
  exact hret 33 ls _ rfl (rfl) dX1_canMove_33
set_option maxHeartbeats 4000000 in
set_option maxRecDepth 100000 in
theorem mX1_canMove_n {x y : Int} (hn : nn ≤ 7) (hm5 : mm ≤ 5) (hr9 : -2147483648 ≤ x ∧ x ≤ 2147483647 ∧ -2147483648 ≤ y ∧ y ≤ 2147483647) (h : ¬ ((0 ≤ x ∧ x < (nn : Int)) ∧ 0 ≤ y ∧ y < (nn : Int))) : PM l yX1_canMove wsX1_canMove (rmx 1 22) D (tyk cI cZ cJ) (mw bd cI th nn mm bm tT oO tB tL oR oJ) [.ref (bd 0), .int (iI (x)), .int (iI (y))] (vp_Si (fun x => x = iI 0)) := by
  refine pmZ_of (cc := cX1_canMove) (maxL := 3) (by decide) rfl (Nat.le_of_ble_eq_true rfl) ?_
  intro p e s m args below meth c Q hx hb hml hown hts hK hP hret ls hl
  have hown : s.vm.findClass RX1 = some m.cls := hown
  have hl : lv_has ls 3 [(0, .ref (bd 0)), (1, .int (iI (x))), (2, .int (iI (y)))] := hl
  have inW : ∀ w ∈ wsX10, w ∈ wsX1_canMove := by first | exact (fun w h => List.mem_cons_of_mem _ (List.mem_append_right _ h)) | exact (fun w h => List.mem_cons_of_mem _ (List.mem_append_left _ (List.mem_append_right _ h))) | exact (fun w h => List.mem_cons_of_mem _ (List.mem_append_left _ (List.mem_append_left _ (List.mem_append_right _ h)))) | decide +kernel
  by_cases hc : 0 ≤ x ∧ x < (nn : Int)
  · refine lv_iload_n hx hb dX1_canMove_0 rfl (lv_at hl 1 rfl) ?_
    refine lv_iconst (v := iI 0) hx hb dX1_canMove_1 rfl ?_
    refine lv_aload_n hx hb dX1_canMove_2 rfl (lv_at hl 0 rfl) ?_
    refine va_get (D := D) (ci := 1) (C := RX1) (T := TX1) (N := 10) hx hb hts inW hown hK hP 0 rfl rfl 1 (by decide) (hts (.fieldLink RX1 35 "FlowforgeModel" "many" "I") (List.mem_of_getElem? (i := 1) rfl)) (fun _ h9 => h9) rfl dX1_canMove_3 ?_
    refine lv_iconst (v := iI 1) hx hb dX1_canMove_6 rfl ?_
    refine w_isub (z := (nn : Int) - 1) hx hb dX1_canMove_7 (by omega) ?_
    refine w_pS (As := [.int (iI (x)), .int (iI 0), .int (iI ((nn : Int) - 1))]) (rest := []) ⟨hx, hb, hml, hown, hts⟩ hK hP (mX1_in_y  (by omega) (by omega)) (va_cwS 3 hts gX1_canMove_X1_in rfl rfl rfl (by decide +kernel) ⟨Nat.le_of_ble_eq_true rfl, Nat.le_of_ble_eq_true rfl⟩) rfl hl.1 rfl (Nat.le_of_ble_eq_true rfl) dX1_canMove_8 ⟨Nat.zero_le _, Nat.zero_le _⟩ (fun r8 hr8 => ?_)
    refine w_top (v := iI (1)) (hr8.trans (congrArg iI (by omega))) ?_
    refine w_if_eq (tgt := 32) hx hb dX1_canMove_11 (by decide) ⟨by omega, by omega⟩ (fun c11 => absurd c11 (by omega)) (fun c11 => ?_)
    refine lv_iload_n hx hb dX1_canMove_14 rfl (lv_at hl 2 rfl) ?_
    refine lv_iconst (v := iI 0) hx hb dX1_canMove_15 rfl ?_
    refine lv_aload_n hx hb dX1_canMove_16 rfl (lv_at hl 0 rfl) ?_
    refine va_get (D := D) (ci := 1) (C := RX1) (T := TX1) (N := 10) hx hb hts inW hown hK hP 0 rfl rfl 1 (by decide) (hts (.fieldLink RX1 35 "FlowforgeModel" "many" "I") (List.mem_of_getElem? (i := 1) rfl)) (fun _ h9 => h9) rfl dX1_canMove_17 ?_
    refine lv_iconst (v := iI 1) hx hb dX1_canMove_20 rfl ?_
    refine w_isub (z := (nn : Int) - 1) hx hb dX1_canMove_21 (by omega) ?_
    refine w_pS (As := [.int (iI (y)), .int (iI 0), .int (iI ((nn : Int) - 1))]) (rest := []) ⟨hx, hb, hml, hown, hts⟩ hK hP (mX1_in_n  (by omega) (by omega)) (va_cwS 3 hts gX1_canMove_X1_in rfl rfl rfl (by decide +kernel) ⟨Nat.le_of_ble_eq_true rfl, Nat.le_of_ble_eq_true rfl⟩) rfl hl.1 rfl (Nat.le_of_ble_eq_true rfl) dX1_canMove_22 ⟨Nat.zero_le _, Nat.zero_le _⟩ (fun r22 hr22 => ?_)
    refine w_top (v := iI (0)) (hr22.trans (congrArg iI (by omega))) ?_
    refine w_if_eq (tgt := 32) hx hb dX1_canMove_25 (by decide) ⟨by omega, by omega⟩ (fun c25 => ?_) (fun c25 => absurd c25 (by omega))
    refine lv_iconst (v := iI 0) hx hb dX1_canMove_32 rfl ?_
    exact hret 33 ls _ rfl (rfl) dX1_canMove_33
  · refine lv_iload_n hx hb dX1_canMove_0 rfl (lv_at hl 1 rfl) ?_
    refine lv_iconst (v := iI 0) hx hb dX1_canMove_1 rfl ?_
    refine lv_aload_n hx hb dX1_canMove_2 rfl (lv_at hl 0 rfl) ?_
    refine va_get (D := D) (ci := 1) (C := RX1) (T := TX1) (N := 10) hx hb hts inW hown hK hP 0 rfl rfl 1 (by decide) (hts (.fieldLink RX1 35 "FlowforgeModel" "many" "I") (List.mem_of_getElem? (i := 1) rfl)) (fun _ h9 => h9) rfl dX1_canMove_3 ?_
    refine lv_iconst (v := iI 1) hx hb dX1_canMove_6 rfl ?_
    refine w_isub (z := (nn : Int) - 1) hx hb dX1_canMove_7 (by omega) ?_
    refine w_pS (As := [.int (iI (x)), .int (iI 0), .int (iI ((nn : Int) - 1))]) (rest := []) ⟨hx, hb, hml, hown, hts⟩ hK hP (mX1_in_n  (by omega) (by omega)) (va_cwS 3 hts gX1_canMove_X1_in rfl rfl rfl (by decide +kernel) ⟨Nat.le_of_ble_eq_true rfl, Nat.le_of_ble_eq_true rfl⟩) rfl hl.1 rfl (Nat.le_of_ble_eq_true rfl) dX1_canMove_8 ⟨Nat.zero_le _, Nat.zero_le _⟩ (fun r8 hr8 => ?_)
    refine w_top (v := iI (0)) (hr8.trans (congrArg iI (by omega))) ?_
    refine w_if_eq (tgt := 32) hx hb dX1_canMove_11 (by decide) ⟨by omega, by omega⟩ (fun c11 => ?_) (fun c11 => absurd c11 (by omega))
    refine lv_iconst (v := iI 0) hx hb dX1_canMove_32 rfl ?_
    exact hret 33 ls _ rfl (rfl) dX1_canMove_33
set_option maxHeartbeats 4000000 in
set_option maxRecDepth 100000 in
theorem mX1_isVariant_y {v : Int} (h : 0 ≤ v ∧ v ≤ 2) : PM l yX1_isVariant wsX1_isVariant (rmx 1 22) D (tyk cI cZ cJ) (ws) [.int (iI (v))] (vp_Si (fun x => x = iI 1)) := by
  refine pmZ_of (cc := cX1_isVariant) (maxL := 1) (by decide) rfl (Nat.le_of_ble_eq_true rfl) ?_
  intro p e s m args below meth c Q hx hb hml hown hts hK hP hret ls hl
  have hown : s.vm.findClass RX1 = some m.cls := hown
  have hl : lv_has ls 1 [(0, .int (iI (v)))] := hl
  refine lv_iload_n hx hb dX1_isVariant_0 rfl (lv_at hl 0 rfl) ?_
  refine lv_iconst (v := iI 0) hx hb dX1_isVariant_1 rfl ?_
  refine lv_iconst (v := iI 2) hx hb dX1_isVariant_2 rfl ?_
  refine w_pS (As := [.int (iI (v)), .int (iI 0), .int (iI 2)]) (rest := []) ⟨hx, hb, hml, hown, hts⟩ hK hP (mX1_in_y  (by omega) (by omega)) (va_cwS 3 hts gX1_isVariant_X1_in rfl rfl rfl (by decide +kernel) ⟨Nat.le_of_ble_eq_true rfl, Nat.le_of_ble_eq_true rfl⟩) rfl hl.1 rfl (Nat.le_of_ble_eq_true rfl) dX1_isVariant_3 ⟨Nat.zero_le _, Nat.zero_le _⟩ (fun r3 hr3 => ?_)
  refine w_top (v := iI (1)) (hr3.trans (congrArg iI (by omega))) ?_
  exact hret 6 ls _ rfl (rfl) dX1_isVariant_6
set_option maxHeartbeats 4000000 in
set_option maxRecDepth 100000 in
theorem mX1_isVariant_n {v : Int} (hr9 : -2147483648 ≤ v ∧ v ≤ 2147483647) (h : ¬ (0 ≤ v ∧ v ≤ 2)) : PM l yX1_isVariant wsX1_isVariant (rmx 1 22) D (tyk cI cZ cJ) (ws) [.int (iI (v))] (vp_Si (fun x => x = iI 0)) := by
  refine pmZ_of (cc := cX1_isVariant) (maxL := 1) (by decide) rfl (Nat.le_of_ble_eq_true rfl) ?_
  intro p e s m args below meth c Q hx hb hml hown hts hK hP hret ls hl
  have hown : s.vm.findClass RX1 = some m.cls := hown
  have hl : lv_has ls 1 [(0, .int (iI (v)))] := hl
  refine lv_iload_n hx hb dX1_isVariant_0 rfl (lv_at hl 0 rfl) ?_
  refine lv_iconst (v := iI 0) hx hb dX1_isVariant_1 rfl ?_
  refine lv_iconst (v := iI 2) hx hb dX1_isVariant_2 rfl ?_
  refine w_pS (As := [.int (iI (v)), .int (iI 0), .int (iI 2)]) (rest := []) ⟨hx, hb, hml, hown, hts⟩ hK hP (mX1_in_n  (by omega) (by omega)) (va_cwS 3 hts gX1_isVariant_X1_in rfl rfl rfl (by decide +kernel) ⟨Nat.le_of_ble_eq_true rfl, Nat.le_of_ble_eq_true rfl⟩) rfl hl.1 rfl (Nat.le_of_ble_eq_true rfl) dX1_isVariant_3 ⟨Nat.zero_le _, Nat.zero_le _⟩ (fun r3 hr3 => ?_)
  refine w_top (v := iI (0)) (hr3.trans (congrArg iI (by omega))) ?_
  exact hret 6 ls _ rfl (rfl) dX1_isVariant_6
set_option maxHeartbeats 4000000 in
set_option maxRecDepth 100000 in
theorem mX1_timeOf {j k : Nat} (hj : j < 7) (hk : k < 5) : PM l yX1_timeOf wsX1_timeOf (rmx 0 0) D (tyk cI cZ cJ) (mw bd cI th nn mm bm tT oO tB tL oR oJ) [.ref (bd 0), .int (iI ((j : Int))), .int (iI ((k : Int)))] (vp_Si (fun x => x = iI (tT (5 * j + k)))) := by
  refine pmI_of (cc := cX1_timeOf) (maxL := 3) (by decide) rfl (Nat.le_of_ble_eq_true rfl) ?_
  intro p e s m args below meth c Q hx hb hml hown hts hK hP hret ls hl
  have hown : s.vm.findClass RX1 = some m.cls := hown
  have hl : lv_has ls 3 [(0, .ref (bd 0)), (1, .int (iI ((j : Int)))), (2, .int (iI ((k : Int))))] := hl
  have inW : ∀ w ∈ wsX10, w ∈ wsX1_timeOf := by first | exact (fun w h => List.mem_cons_of_mem _ (List.mem_append_right _ h)) | exact (fun w h => List.mem_cons_of_mem _ (List.mem_append_left _ (List.mem_append_right _ h))) | exact (fun w h => List.mem_cons_of_mem _ (List.mem_append_left _ (List.mem_append_left _ (List.mem_append_right _ h)))) | decide +kernel
  refine lv_aload_n hx hb dX1_timeOf_0 rfl (lv_at hl 0 rfl) ?_
  refine va_get (D := D) (ci := 1) (C := RX1) (T := TX1) (N := 10) hx hb hts inW hown hK hP 0 rfl rfl 3 (by decide) (hts (.fieldLink RX1 13 "FlowforgeModel" "times" "[I") (List.mem_of_getElem? (i := 1) rfl)) (fun _ h9 => h9) rfl dX1_timeOf_1 ?_
  refine lv_iconst (v := iI 5) hx hb dX1_timeOf_4 rfl ?_
  refine lv_iload_n hx hb dX1_timeOf_5 rfl (lv_at hl 1 rfl) ?_
  refine w_imul (z := 5 * (j : Int)) hx hb dX1_timeOf_6 (by omega) ?_
  refine lv_iload_n hx hb dX1_timeOf_7 rfl (lv_at hl 2 rfl) ?_
  refine w_iadd (z := 5 * (j : Int) + (k : Int)) hx hb dX1_timeOf_8 (by omega) ?_
  refine w_iald (v := iI (tT (5 * j + k))) hx hb hK hP 1 0 rfl rfl (5 * j + k) (by omega) (by omega) (by decide) rfl dX1_timeOf_9 ?_
  exact hret 10 ls _ (rfl) dX1_timeOf_10
set_option maxHeartbeats 4000000 in
set_option maxRecDepth 100000 in
theorem mX1_startOf {j k : Nat} (hj : j < 7) (hk : k < 5) : PM l yX1_startOf wsX1_startOf (rmx 0 0) D (tyk cI cZ cJ) (mw bd cI th nn mm bm tT oO tB tL oR oJ) [.ref (bd 0), .int (iI ((j : Int))), .int (iI ((k : Int)))] (vp_Si (fun x => x = iI (tB (5 * j + k)))) := by
  refine pmI_of (cc := cX1_startOf) (maxL := 3) (by decide) rfl (Nat.le_of_ble_eq_true rfl) ?_
  intro p e s m args below meth c Q hx hb hml hown hts hK hP hret ls hl
  have hown : s.vm.findClass RX1 = some m.cls := hown
  have hl : lv_has ls 3 [(0, .ref (bd 0)), (1, .int (iI ((j : Int)))), (2, .int (iI ((k : Int))))] := hl
  have inW : ∀ w ∈ wsX10, w ∈ wsX1_startOf := by first | exact (fun w h => List.mem_cons_of_mem _ (List.mem_append_right _ h)) | exact (fun w h => List.mem_cons_of_mem _ (List.mem_append_left _ (List.mem_append_right _ h))) | exact (fun w h => List.mem_cons_of_mem _ (List.mem_append_left _ (List.mem_append_left _ (List.mem_append_right _ h)))) | decide +kernel
  refine lv_aload_n hx hb dX1_startOf_0 rfl (lv_at hl 0 rfl) ?_
  refine va_get (D := D) (ci := 1) (C := RX1) (T := TX1) (N := 10) hx hb hts inW hown hK hP 0 rfl rfl 5 (by decide) (hts (.fieldLink RX1 20 "FlowforgeModel" "starts" "[I") (List.mem_of_getElem? (i := 1) rfl)) (fun _ h9 => h9) rfl dX1_startOf_1 ?_
  refine lv_iconst (v := iI 5) hx hb dX1_startOf_4 rfl ?_
  refine lv_iload_n hx hb dX1_startOf_5 rfl (lv_at hl 1 rfl) ?_
  refine w_imul (z := 5 * (j : Int)) hx hb dX1_startOf_6 (by omega) ?_
  refine lv_iload_n hx hb dX1_startOf_7 rfl (lv_at hl 2 rfl) ?_
  refine w_iadd (z := 5 * (j : Int) + (k : Int)) hx hb dX1_startOf_8 (by omega) ?_
  refine w_iald (v := iI (tB (5 * j + k))) hx hb hK hP 3 0 rfl rfl (5 * j + k) (by omega) (by omega) (by decide) rfl dX1_startOf_9 ?_
  exact hret 10 ls _ (rfl) dX1_startOf_10
set_option maxHeartbeats 4000000 in
set_option maxRecDepth 100000 in
theorem mX1_endOf_o {q k : Nat} (hq : q < 7) (hr : oO q < 7) (hk : k < 5) : PM l yX1_endOf wsX1_endOf (rmx 1 22) D (tyk cI cZ cJ) (mw bd cI th nn mm bm tT oO tB tL oR oJ) [.ref (bd 0), .ref (bd 2), .int (iI ((q : Int))), .int (iI ((k : Int)))] (vp_Si (fun x => x = iI (tB (5 * q + k) + tT (5 * oO q + k)))) := by
  refine pmI_of (cc := cX1_endOf) (maxL := 4) (by decide) rfl (Nat.le_of_ble_eq_true rfl) ?_
  intro p e s m args below meth c Q hx hb hml hown hts hK hP hret ls hl
  have hown : s.vm.findClass RX1 = some m.cls := hown
  have hl : lv_has ls 4 [(0, .ref (bd 0)), (1, .ref (bd 2)), (2, .int (iI ((q : Int)))), (3, .int (iI ((k : Int))))] := hl
  refine lv_aload_n hx hb dX1_endOf_0 rfl (lv_at hl 0 rfl) ?_
  refine lv_iload_n hx hb dX1_endOf_1 rfl (lv_at hl 2 rfl) ?_
  refine lv_iload_n hx hb dX1_endOf_2 rfl (lv_at hl 3 rfl) ?_
  refine w_pV (As := [.int (iI ((q : Int))), .int (iI ((k : Int)))]) (rest := []) ⟨hx, hb, hml, hown, hts⟩ hK hP (mX1_startOf  hq hk) (cwV 2 hts gX1_endOf_X1_startOf rfl rfl rfl (by decide +kernel) ⟨Nat.le_of_ble_eq_true rfl, Nat.le_of_ble_eq_true rfl⟩) (ci := 1) rfl rfl rfl rfl hl.1 rfl (Nat.le_of_ble_eq_true rfl) dX1_endOf_3 ⟨Nat.zero_le _, Nat.zero_le _⟩ (fun r3 hr3 => ?_)
  refine w_top (v := iI ((tB (5 * q + k)))) (hr3) ?_
  refine lv_aload_n hx hb dX1_endOf_6 rfl (lv_at hl 0 rfl) ?_
  refine lv_aload_n hx hb dX1_endOf_7 rfl (lv_at hl 1 rfl) ?_
  refine lv_iload_n hx hb dX1_endOf_8 rfl (lv_at hl 2 rfl) ?_
  refine w_iald (v := iI ((oO q : Nat) : Int)) hx hb hK hP 2 0 rfl rfl (q) (by omega) (by omega) (by decide) rfl dX1_endOf_9 ?_
  refine lv_iload_n hx hb dX1_endOf_10 rfl (lv_at hl 3 rfl) ?_
  refine w_pV (As := [.int (iI (((((oO q)) : Nat) : Int))), .int (iI ((k : Int)))]) (rest := [.int (iI ((tB (5 * q + k))))]) ⟨hx, hb, hml, hown, hts⟩ hK hP (mX1_timeOf  hr hk) (cwV 2 hts gX1_endOf_X1_timeOf rfl rfl rfl (by decide +kernel) ⟨Nat.le_of_ble_eq_true rfl, Nat.le_of_ble_eq_true rfl⟩) (ci := 1) rfl rfl rfl rfl hl.1 (by rw [show ((((oO q : Nat) : Int)) : Int) = ((((oO q)) : Nat) : Int) by omega]; try rfl) (Nat.le_of_ble_eq_true rfl) dX1_endOf_11 ⟨Nat.zero_le _, Nat.zero_le _⟩ (fun r11 hr11 => ?_)
  refine w_top (v := iI ((tT (5 * ((oO q)) + k)))) (hr11) ?_
  refine w_iadd (z := (tB (5 * q + k)) + (tT (5 * ((oO q)) + k))) hx hb dX1_endOf_14 (by omega) ?_
  exact hret 15 ls _ (rfl) dX1_endOf_15
set_option maxHeartbeats 4000000 in
set_option maxRecDepth 100000 in
theorem mX1_freeAt_o {v q k : Nat} (hm : 1 ≤ mm ∧ mm ≤ 5) (hv : v ≤ 2) (hq : 1 ≤ q ∧ q ≤ 7) (hr : oO (q - 1) < 7) (hk : k < mm) : PM l yX1_freeAt wsX1_freeAt (rmx 2 45) D (tyk cI cZ cJ) (mw bd cI th nn mm bm tT oO tB tL oR oJ) [.ref (bd 0), .int (iI ((v : Int))), .ref (bd 2), .int (iI ((q : Int))), .int (iI ((k : Int)))] (vp_Si (fun x => x = iI (frm v mm (prv tB q) (epv tT oO tB q) k))) := by
  refine pmI_of (cc := cX1_freeAt) (maxL := 5) (by decide) rfl (Nat.le_of_ble_eq_true rfl) ?_
  intro p e s m args below meth c Q hx hb hml hown hts hK hP hret ls hl
  have hown : s.vm.findClass RX1 = some m.cls := hown
  have hl : lv_has ls 5 [(0, .ref (bd 0)), (1, .int (iI ((v : Int)))), (2, .ref (bd 2)), (3, .int (iI ((q : Int)))), (4, .int (iI ((k : Int))))] := hl
  have inW : ∀ w ∈ wsX10, w ∈ wsX1_freeAt := by first | exact (fun w h => List.mem_cons_of_mem _ (List.mem_append_right _ h)) | exact (fun w h => List.mem_cons_of_mem _ (List.mem_append_left _ (List.mem_append_right _ h))) | exact (fun w h => List.mem_cons_of_mem _ (List.mem_append_left _ (List.mem_append_left _ (List.mem_append_right _ h)))) | decide +kernel
  refine lv_iload_n hx hb dX1_freeAt_0 rfl (lv_at hl 1 rfl) ?_
  refine lv_iconst (v := iI 1) hx hb dX1_freeAt_1 rfl ?_
  refine w_icmp_ne (tgt := 30) hx hb dX1_freeAt_2 (by decide) ⟨by omega, by omega⟩ ⟨by omega, by omega⟩ (fun c2 => ?_) (fun c2 => ?_)
  · refine lv_aload_n hx hb dX1_freeAt_30 rfl (lv_at hl 0 rfl) ?_
    refine lv_aload_n hx hb dX1_freeAt_31 rfl (lv_at hl 2 rfl) ?_
    refine lv_iload_n hx hb dX1_freeAt_32 rfl (lv_at hl 3 rfl) ?_
    refine lv_iconst (v := iI 1) hx hb dX1_freeAt_33 rfl ?_
    refine w_isub (z := (q : Int) - 1) hx hb dX1_freeAt_34 (by omega) ?_
    refine lv_iload hx hb dX1_freeAt_35 (lv_at hl 4 rfl) ?_
    refine w_pV (As := [.ref (bd 2), .int (iI ((((q - 1) : Nat) : Int))), .int (iI ((k : Int)))]) (rest := []) ⟨hx, hb, hml, hown, hts⟩ hK hP (mX1_endOf_o  (q := q - 1) (by omega) hr (by omega)) (cwV 3 hts gX1_freeAt_X1_endOf rfl rfl rfl (by decide +kernel) ⟨Nat.le_of_ble_eq_true rfl, Nat.le_of_ble_eq_true rfl⟩) (ci := 1) rfl rfl rfl rfl hl.1 (by rw [show (((q : Int) - 1) : Int) = (((q - 1) : Nat) : Int) by omega]; try rfl) (Nat.le_of_ble_eq_true rfl) dX1_freeAt_37 ⟨Nat.zero_le _, Nat.zero_le _⟩ (fun r37 hr37 => ?_)
    refine w_top (v := iI ((tB (5 * (q - 1) + k) + tT (5 * oO (q - 1) + k)))) (hr37) ?_
    exact hret 40 ls _ (by unfold frm epv; rw [if_neg (by omega), if_neg (by omega)]) dX1_freeAt_40
  · refine lv_iload hx hb dX1_freeAt_5 (lv_at hl 4 rfl) ?_
    refine lv_iconst (v := iI 1) hx hb dX1_freeAt_7 rfl ?_
    refine w_iadd (z := (k : Int) + 1) hx hb dX1_freeAt_8 (by omega) ?_
    refine lv_aload_n hx hb dX1_freeAt_9 rfl (lv_at hl 0 rfl) ?_
    refine va_get (D := D) (ci := 1) (C := RX1) (T := TX1) (N := 10) hx hb hts inW hown hK hP 0 rfl rfl 2 (by decide) (hts (.fieldLink RX1 7 "FlowforgeModel" "wide" "I") (List.mem_of_getElem? (i := 1) rfl)) (fun _ h9 => h9) rfl dX1_freeAt_10 ?_
    refine w_icmp_ge (tgt := 30) hx hb dX1_freeAt_13 (by decide) ⟨by omega, by omega⟩ ⟨by omega, by omega⟩ (fun c13 => ?_) (fun c13 => ?_)
    · refine lv_aload_n hx hb dX1_freeAt_30 rfl (lv_at hl 0 rfl) ?_
      refine lv_aload_n hx hb dX1_freeAt_31 rfl (lv_at hl 2 rfl) ?_
      refine lv_iload_n hx hb dX1_freeAt_32 rfl (lv_at hl 3 rfl) ?_
      refine lv_iconst (v := iI 1) hx hb dX1_freeAt_33 rfl ?_
      refine w_isub (z := (q : Int) - 1) hx hb dX1_freeAt_34 (by omega) ?_
      refine lv_iload hx hb dX1_freeAt_35 (lv_at hl 4 rfl) ?_
      refine w_pV (As := [.ref (bd 2), .int (iI ((((q - 1) : Nat) : Int))), .int (iI ((k : Int)))]) (rest := []) ⟨hx, hb, hml, hown, hts⟩ hK hP (mX1_endOf_o  (q := q - 1) (by omega) hr (by omega)) (cwV 3 hts gX1_freeAt_X1_endOf rfl rfl rfl (by decide +kernel) ⟨Nat.le_of_ble_eq_true rfl, Nat.le_of_ble_eq_true rfl⟩) (ci := 1) rfl rfl rfl rfl hl.1 (by rw [show (((q : Int) - 1) : Int) = (((q - 1) : Nat) : Int) by omega]; try rfl) (Nat.le_of_ble_eq_true rfl) dX1_freeAt_37 ⟨Nat.zero_le _, Nat.zero_le _⟩ (fun r37 hr37 => ?_)
      refine w_top (v := iI ((tB (5 * (q - 1) + k) + tT (5 * oO (q - 1) + k)))) (hr37) ?_
      exact hret 40 ls _ (by unfold frm epv; rw [if_neg (by omega), if_neg (by omega)]) dX1_freeAt_40
    · refine lv_aload_n hx hb dX1_freeAt_16 rfl (lv_at hl 0 rfl) ?_
      refine lv_iload_n hx hb dX1_freeAt_17 rfl (lv_at hl 3 rfl) ?_
      refine lv_iconst (v := iI 1) hx hb dX1_freeAt_18 rfl ?_
      refine w_isub (z := (q : Int) - 1) hx hb dX1_freeAt_19 (by omega) ?_
      refine lv_iload hx hb dX1_freeAt_20 (lv_at hl 4 rfl) ?_
      refine lv_iconst (v := iI 1) hx hb dX1_freeAt_22 rfl ?_
      refine w_iadd (z := (k : Int) + 1) hx hb dX1_freeAt_23 (by omega) ?_
      refine w_pV (As := [.int (iI ((((q - 1) : Nat) : Int))), .int (iI ((((k + 1) : Nat) : Int)))]) (rest := []) ⟨hx, hb, hml, hown, hts⟩ hK hP (mX1_startOf  (j := q - 1) (k := k + 1) (by omega) (by omega)) (cwV 2 hts gX1_freeAt_X1_startOf rfl rfl rfl (by decide +kernel) ⟨Nat.le_of_ble_eq_true rfl, Nat.le_of_ble_eq_true rfl⟩) (ci := 1) rfl rfl rfl rfl hl.1 (by rw [show (((q : Int) - 1) : Int) = (((q - 1) : Nat) : Int) by omega]; rw [show (((k : Int) + 1) : Int) = (((k + 1) : Nat) : Int) by omega]; try rfl) (Nat.le_of_ble_eq_true rfl) dX1_freeAt_24 ⟨Nat.zero_le _, Nat.zero_le _⟩ (fun r24 hr24 => ?_)
      refine w_top (v := iI ((tB (5 * (q - 1) + (k + 1))))) (hr24) ?_
      refine lv_goto (tgt := 40) hx hb dX1_freeAt_27 (by decide) ?_
      exact hret 40 ls _ (by unfold frm prv; rw [if_pos ⟨by omega, by omega⟩, if_neg (by omega)]) dX1_freeAt_40
set_option maxHeartbeats 4000000 in
set_option maxRecDepth 100000 in
theorem mX1_pullsTogether_o {q : Nat} (hm : 1 ≤ mm ∧ mm ≤ 5) (hq : q < 7) (hr : oO q < 7) : IM l yX1_pullsTogether wsX1_pullsTogether (rmx 1 22) D (tyk cI cZ cJ) (mw bd cI th nn mm bm tT oO tB tL oR oJ) [.ref (bd 0), .ref (bd 2), .int (iI ((q : Int)))] (QV D (tyk cI cZ cJ) (fun u : Unit => mw bd cI th nn mm bm tT oO (ptx tB q mm (tj tT (oO q)) (tB (5 * q + (mm - 1))) (mm - 1)) tL oR oJ) (fun _ => True)) := by
  refine imV_of (cc := cX1_pullsTogether) (maxL := 4) (by decide) rfl (Nat.le_of_ble_eq_true rfl) ?_
  intro p e s m args below meth c A Q hx hb hml hown hts hA hK hP hD hS hret ls hl
  have hown : s.vm.findClass RX1 = some m.cls := hown
  have hl : lv_has ls 4 [(0, .ref (bd 0)), (1, .ref (bd 2)), (2, .int (iI ((q : Int))))] := hl
  have inW : ∀ w ∈ wsX10, w ∈ wsX1_pullsTogether := by first | exact (fun w h => List.mem_cons_of_mem _ (List.mem_append_right _ h)) | exact (fun w h => List.mem_cons_of_mem _ (List.mem_append_left _ (List.mem_append_right _ h))) | exact (fun w h => List.mem_cons_of_mem _ (List.mem_append_left _ (List.mem_append_left _ (List.mem_append_right _ h)))) | decide +kernel
  refine lv_aload_n hx hb dX1_pullsTogether_0 rfl (lv_at hl 0 rfl) ?_
  refine va_get (D := D) (ci := 1) (C := RX1) (T := TX1) (N := 10) hx hb hts inW hown hK hP 0 rfl rfl 2 (by decide) (hts (.fieldLink RX1 7 "FlowforgeModel" "wide" "I") (List.mem_of_getElem? (i := 1) rfl)) (fun _ h9 => h9) rfl dX1_pullsTogether_1 ?_
  refine lv_iconst (v := iI 2) hx hb dX1_pullsTogether_4 rfl ?_
  refine w_isub (z := (mm : Int) - 2) hx hb dX1_pullsTogether_5 (by omega) ?_
  refine lv_istore_n (lv' := [(3, .int (iI ((mm : Int) - 2))), (0, .ref (bd 0)), (1, .ref (bd 2)), (2, .int (iI ((q : Int))))]) hx hb dX1_pullsTogether_6 rfl hl (by decide) rfl (fun ls hl => ?_)
  have L7 : ∀ (fu : Nat) (z : Nat) (wstarts7 : Nat → Int) (x3_7 : Int), (z ≤ mm - 1) → (wstarts7 = ptx tB q mm (tj tT (oO q)) (tB (5 * q + (mm - 1))) z) → (x3_7 = (mm : Int) - (z : Int) - 2) → mm - 1 - z < fu → ∀ (H : Heap) (locs : List Loc), va_P D vwCl (mw bd cI th nn mm bm tT oO wstarts7 tL oR oJ) H → va_D A (mw bd cI th nn mm bm tT oO wstarts7 tL oR oJ) → va_S A s.heap H locs → ∀ ls : Array Slot, lv_has ls 4 [(3, .int (iI (x3_7))), (0, .ref (bd 0)), (1, .ref (bd 2)), (2, .int (iI ((q : Int))))] → W p l e (rmx 1 22) s m args below meth c H locs 0 0 Q (F0 m 7 ls []) := by
    intro fu
    induction fu with
    | zero =>
      intro z wstarts7 x3_7 hz hq0 hq1 hfu
      exact absurd hfu (Nat.not_lt_zero _)
    | succ fu ih =>
      intro z wstarts7 x3_7 hz hq0 hq1 hfu H locs hP hD hS ls hl
      subst hq0
      subst hq1
      have ih7 := ih
      refine lv_iload_n hx hb dX1_pullsTogether_7 rfl (lv_at hl 0 rfl) ?_
      refine w_if_lt (tgt := 44) hx hb dX1_pullsTogether_8 (by decide) ⟨by omega, by omega⟩ (fun c8 => ?_) (fun c8 => ?_)
      · obtain rfl : z = mm - 1 := by omega
        exact hret _ _ 44 ls (()) hP hD hS (trivial) dX1_pullsTogether_44
      · refine lv_aload_n hx hb dX1_pullsTogether_11 rfl (lv_at hl 1 rfl) ?_
        refine va_get (D := D) (ci := 1) (C := RX1) (T := TX1) (N := 10) hx hb hts inW hown hK hP 0 rfl rfl 5 (by decide) (hts (.fieldLink RX1 20 "FlowforgeModel" "starts" "[I") (List.mem_of_getElem? (i := 2) rfl)) (fun _ h9 => h9) rfl dX1_pullsTogether_12 ?_
        refine lv_iconst (v := iI 5) hx hb dX1_pullsTogether_15 rfl ?_
        refine lv_iload_n hx hb dX1_pullsTogether_16 rfl (lv_at hl 3 rfl) ?_
        refine w_imul (z := 5 * (q : Int)) hx hb dX1_pullsTogether_17 (by omega) ?_
        refine lv_iload_n hx hb dX1_pullsTogether_18 rfl (lv_at hl 0 rfl) ?_
        refine w_iadd (z := 5 * (q : Int) + (mm : Int) - (z : Int) - 2) hx hb dX1_pullsTogether_19 (by omega) ?_
        refine lv_aload_n hx hb dX1_pullsTogether_20 rfl (lv_at hl 1 rfl) ?_
        refine lv_iload_n hx hb dX1_pullsTogether_21 rfl (lv_at hl 3 rfl) ?_
        refine lv_iload_n hx hb dX1_pullsTogether_22 rfl (lv_at hl 0 rfl) ?_
        refine lv_iconst (v := iI 1) hx hb dX1_pullsTogether_23 rfl ?_
        refine w_iadd (z := (mm : Int) - (z : Int) - 1) hx hb dX1_pullsTogether_24 (by omega) ?_
        refine w_pV (As := [.int (iI ((q : Int))), .int (iI ((((mm - 1 - z) : Nat) : Int)))]) (rest := [.int (iI (5 * (q : Int) + (mm : Int) - (z : Int) - 2)), .ref (bd 3)]) ⟨hx, hb, hml, hown, hts⟩ hK hP (mX1_startOf  (j := q) (k := mm - 1 - z) hq (by omega)) (cwV 2 hts gX1_pullsTogether_X1_startOf rfl rfl rfl (by decide +kernel) ⟨Nat.le_of_ble_eq_true rfl, Nat.le_of_ble_eq_true rfl⟩) (ci := 1) rfl rfl rfl rfl hl.1 (by rw [show (((mm : Int) - (z : Int) - 1) : Int) = (((mm - 1 - z) : Nat) : Int) by omega]; try rfl) (Nat.le_of_ble_eq_true rfl) dX1_pullsTogether_25 ⟨Nat.zero_le _, Nat.zero_le _⟩ (fun r25 hr25 => ?_)
        refine w_top (v := iI ((plv (tj tT (oO q)) mm (tB (5 * q + (mm - 1))) z))) (hr25.trans (congrArg iI (ptx_at (by omega)))) ?_
        refine lv_aload_n hx hb dX1_pullsTogether_28 rfl (lv_at hl 1 rfl) ?_
        refine lv_aload_n hx hb dX1_pullsTogether_29 rfl (lv_at hl 2 rfl) ?_
        refine lv_iload_n hx hb dX1_pullsTogether_30 rfl (lv_at hl 3 rfl) ?_
        refine w_iald (v := iI ((oO q : Nat) : Int)) hx hb hK hP 2 0 rfl rfl (q) (by omega) (by omega) (by decide) rfl dX1_pullsTogether_31 ?_
        refine lv_iload_n hx hb dX1_pullsTogether_32 rfl (lv_at hl 0 rfl) ?_
        refine w_pV (As := [.int (iI (((((oO q)) : Nat) : Int))), .int (iI ((((mm - 2 - z) : Nat) : Int)))]) (rest := [.int (iI ((plv (tj tT (oO q)) mm (tB (5 * q + (mm - 1))) z))), .int (iI (5 * (q : Int) + (mm : Int) - (z : Int) - 2)), .ref (bd 3)]) ⟨hx, hb, hml, hown, hts⟩ hK hP (mX1_timeOf  (j := oO q) (k := mm - 2 - z) hr (by omega)) (cwV 2 hts gX1_pullsTogether_X1_timeOf rfl rfl rfl (by decide +kernel) ⟨Nat.le_of_ble_eq_true rfl, Nat.le_of_ble_eq_true rfl⟩) (ci := 1) rfl rfl rfl rfl hl.1 (by rw [show ((((oO q : Nat) : Int)) : Int) = ((((oO q)) : Nat) : Int) by omega]; rw [show (((mm : Int) - (z : Int) - 2) : Int) = (((mm - 2 - z) : Nat) : Int) by omega]; try rfl) (Nat.le_of_ble_eq_true rfl) dX1_pullsTogether_33 ⟨Nat.zero_le _, Nat.zero_le _⟩ (fun r33 hr33 => ?_)
        refine w_top (v := iI ((tT (5 * ((oO q)) + (mm - 2 - z))))) (hr33) ?_
        refine w_isub (z := (plv (tj tT (oO q)) mm (tB (5 * q + (mm - 1))) z) - (tT (5 * ((oO q)) + (mm - 2 - z)))) hx hb dX1_pullsTogether_36 (by omega) ?_
        refine w_iast (g := tI (ptx tB q mm (tj tT (oO q)) (tB (5 * q + (mm - 1))) (z + 1))) (ws' := mw bd cI th nn mm bm tT oO (ptx tB q mm (tj tT (oO q)) (tB (5 * q + (mm - 1))) (z + 1)) tL oR oJ) hx hb hK hP hD hS 3 0 rfl rfl (5 * q + (mm - 2 - z)) (by omega) (by omega) (by decide) (hg := (tI_up.trans (congrArg tI (ptx_s (by omega))))) (hw := rfl) (hd := dX1_pullsTogether_37) (kk := fun H locs hP hD hS => ?_)
        refine lv_iinc (v := iI ((mm : Int) - (z : Int) - 3)) (lv' := [(3, .int (iI ((mm : Int) - (z : Int) - 3))), (0, .ref (bd 0)), (1, .ref (bd 2)), (2, .int (iI ((q : Int))))]) hx hb dX1_pullsTogether_38 hl (k := 0) rfl (iI_inc (by omega)) (by decide) rfl (fun ls hl => ?_)
        refine lv_goto (tgt := 7) hx hb dX1_pullsTogether_41 (by decide) ?_
        exact ih7 (z + 1) (ptx tB q mm (tj tT (oO q)) (tB (5 * q + (mm - 1))) (z + 1)) ((mm : Int) - (z : Int) - 3) (by omega) (rfl) (by omega) (by omega) _ _ hP hD hS ls (lv_sub hl [0, 1, 2, 3] rfl)
  exact L7 (mm - 1 - 0 + 1) 0 tB ((mm : Int) - 2) (by omega) ((ptx_0 hm.1).symm) (by omega) (Nat.lt_succ_self _) _ _ hP hD hS ls (lv_sub hl [0, 1, 2, 3] rfl)
set_option maxHeartbeats 4000000 in
set_option maxRecDepth 100000 in
theorem mX1_lays_o {v c0 : Nat} (hT : ∀ k, 0 ≤ tT k ∧ tT k ≤ 99) (hm : 1 ≤ mm ∧ mm ≤ 5) (hv : v ≤ 2) (hc : c0 ≤ 7) (hO : ∀ k, k < c0 → oO k < 7) : IM l yX1_lays wsX1_lays (rmx 3 69) D (tyk cI cZ cJ) (mw bd cI th nn mm bm tT oO tB tL oR oJ) [.ref (bd 0), .int (iI ((v : Int))), .ref (bd 2), .int (iI ((c0 : Int)))] (QI D (tyk cI cZ cJ) (fun u : (Nat → Int) => mw bd cI th nn mm bm tT oO u tL oR oJ) (fun x u => x = iI (mk v mm tT oO c0) ∧ mrows v mm tT oO u c0)) := by
  refine imI_of (cc := cX1_lays) (maxL := 8) (by decide) rfl (Nat.le_of_ble_eq_true rfl) ?_
  intro p e s m args below meth c A Q hx hb hml hown hts hA hK hP hD hS hret ls hl
  have hown : s.vm.findClass RX1 = some m.cls := hown
  have hl : lv_has ls 8 [(0, .ref (bd 0)), (1, .int (iI ((v : Int)))), (2, .ref (bd 2)), (3, .int (iI ((c0 : Int))))] := hl
  have inW : ∀ w ∈ wsX10, w ∈ wsX1_lays := by first | exact (fun w h => List.mem_cons_of_mem _ (List.mem_append_right _ h)) | exact (fun w h => List.mem_cons_of_mem _ (List.mem_append_left _ (List.mem_append_right _ h))) | exact (fun w h => List.mem_cons_of_mem _ (List.mem_append_left _ (List.mem_append_left _ (List.mem_append_right _ h)))) | decide +kernel
  refine lv_iconst (v := iI 0) hx hb dX1_lays_0 rfl ?_
  refine lv_istore (lv' := [(4, .int (iI 0)), (0, .ref (bd 0)), (1, .int (iI ((v : Int)))), (2, .ref (bd 2)), (3, .int (iI ((c0 : Int))))]) hx hb dX1_lays_1 hl (by decide) rfl (fun ls hl => ?_)
  have L3 : ∀ (fu : Nat) (i : Nat) (wstarts3 : Nat → Int) (x4_3 : Int), (i ≤ c0) → (mrows v mm tT oO wstarts3 i) → (x4_3 = (i : Int)) → c0 - i < fu → ∀ (H : Heap) (locs : List Loc), va_P D vwCl (mw bd cI th nn mm bm tT oO wstarts3 tL oR oJ) H → va_D A (mw bd cI th nn mm bm tT oO wstarts3 tL oR oJ) → va_S A s.heap H locs → ∀ ls : Array Slot, lv_has ls 8 [(4, .int (iI (x4_3))), (0, .ref (bd 0)), (1, .int (iI ((v : Int)))), (2, .ref (bd 2)), (3, .int (iI ((c0 : Int))))] → W p l e (rmx 3 69) s m args below meth c H locs 0 0 Q (F0 m 3 ls []) := by
    intro fu
    induction fu with
    | zero =>
      intro i wstarts3 x4_3 hi hI hq0 hfu
      exact absurd hfu (Nat.not_lt_zero _)
    | succ fu ih =>
      intro i wstarts3 x4_3 hi hI hq0 hfu H locs hP hD hS ls hl
      subst hq0
      have ih3 := ih
      refine lv_iload hx hb dX1_lays_3 (lv_at hl 0 rfl) ?_
      refine lv_iload_n hx hb dX1_lays_5 rfl (lv_at hl 4 rfl) ?_
      refine w_icmp_ge (tgt := 114) hx hb dX1_lays_6 (by decide) ⟨by omega, by omega⟩ ⟨by omega, by omega⟩ (fun c6 => ?_) (fun c6 => ?_)
      · obtain rfl : c0 = i := by omega
        refine lv_iload_n hx hb dX1_lays_114 rfl (lv_at hl 4 rfl) ?_
        refine w_if_le (tgt := 135) hx hb dX1_lays_115 (by decide) ⟨by omega, by omega⟩ (fun c115 => ?_) (fun c115 => ?_)
        · refine lv_iconst (v := iI 0) hx hb dX1_lays_135 rfl ?_
          exact hret _ _ 136 ls _ (wstarts3) hP hD hS (⟨by rw [show c0 = 0 by omega]; rfl, hI⟩) dX1_lays_136
        · refine lv_aload_n hx hb dX1_lays_118 rfl (lv_at hl 1 rfl) ?_
          refine lv_aload_n hx hb dX1_lays_119 rfl (lv_at hl 3 rfl) ?_
          refine lv_iload_n hx hb dX1_lays_120 rfl (lv_at hl 4 rfl) ?_
          refine lv_iconst (v := iI 1) hx hb dX1_lays_121 rfl ?_
          refine w_isub (z := (c0 : Int) - 1) hx hb dX1_lays_122 (by omega) ?_
          refine lv_aload_n hx hb dX1_lays_123 rfl (lv_at hl 1 rfl) ?_
          refine va_get (D := D) (ci := 1) (C := RX1) (T := TX1) (N := 10) hx hb hts inW hown hK hP 0 rfl rfl 2 (by decide) (hts (.fieldLink RX1 7 "FlowforgeModel" "wide" "I") (List.mem_of_getElem? (i := 1) rfl)) (fun _ h9 => h9) rfl dX1_lays_124 ?_
          refine lv_iconst (v := iI 1) hx hb dX1_lays_127 rfl ?_
          refine w_isub (z := (mm : Int) - 1) hx hb dX1_lays_128 (by omega) ?_
          refine w_pV (As := [.ref (bd 2), .int (iI ((((c0 - 1) : Nat) : Int))), .int (iI ((((mm - 1) : Nat) : Int)))]) (rest := []) ⟨hx, hb, hml, hown, hts⟩ hK hP (mX1_endOf_o  (q := c0 - 1) (k := mm - 1) (by omega) (hO _ (by omega)) (by omega)) (cwV 3 hts gX1_lays_X1_endOf rfl rfl rfl (by decide +kernel) ⟨Nat.le_of_ble_eq_true rfl, Nat.le_of_ble_eq_true rfl⟩) (ci := 1) rfl rfl rfl rfl hl.1 (by rw [show (((c0 : Int) - 1) : Int) = (((c0 - 1) : Nat) : Int) by omega]; rw [show (((mm : Int) - 1) : Int) = (((mm - 1) : Nat) : Int) by omega]; try rfl) (Nat.le_of_ble_eq_true rfl) dX1_lays_129 ⟨Nat.zero_le _, Nat.zero_le _⟩ (fun r129 hr129 => ?_)
          refine w_top (v := iI ((mk v mm tT oO c0))) (hr129.trans (congrArg iI (mrows_mk hm.1 (by omega) hI))) ?_
          refine lv_goto (tgt := 136) hx hb dX1_lays_132 (by decide) ?_
          exact hret _ _ 136 ls _ (wstarts3) hP hD hS (⟨rfl, hI⟩) dX1_lays_136
      · have hB := mrows_rg hm.2 hT (show i ≤ 7 by omega) hI
        refine lv_iconst (v := iI 0) hx hb dX1_lays_9 rfl ?_
        refine lv_istore (lv' := [(5, .int (iI 0)), (4, .int (iI ((i : Int)))), (0, .ref (bd 0)), (1, .int (iI ((v : Int)))), (2, .ref (bd 2)), (3, .int (iI ((c0 : Int))))]) hx hb dX1_lays_10 hl (by decide) rfl (fun ls hl => ?_)
        refine lv_iconst (v := iI 0) hx hb dX1_lays_12 rfl ?_
        refine lv_istore (lv' := [(6, .int (iI 0)), (5, .int (iI 0)), (4, .int (iI ((i : Int)))), (0, .ref (bd 0)), (1, .int (iI ((v : Int)))), (2, .ref (bd 2)), (3, .int (iI ((c0 : Int))))]) hx hb dX1_lays_13 hl (by decide) rfl (fun ls hl => ?_)
        have L15 : ∀ (fu : Nat) (z : Nat) (wstarts15 : Nat → Int) (x6_15 : Int) (x5_15 : Int), (z ≤ mm) → (wstarts15 = pt wstarts3 (mB v mm tT i oO wstarts3) (5 * i) z) → (x6_15 = (z : Int)) → (x5_15 = (mom v mm (tj tT (oO i)) (prv wstarts3 i) (epv tT oO wstarts3 i) 0 z)) → mm - z < fu → ∀ (H : Heap) (locs : List Loc), va_P D vwCl (mw bd cI th nn mm bm tT oO wstarts15 tL oR oJ) H → va_D A (mw bd cI th nn mm bm tT oO wstarts15 tL oR oJ) → va_S A s.heap H locs → ∀ ls : Array Slot, lv_has ls 8 [(6, .int (iI (x6_15))), (5, .int (iI (x5_15))), (4, .int (iI ((i : Int)))), (0, .ref (bd 0)), (1, .int (iI ((v : Int)))), (2, .ref (bd 2)), (3, .int (iI ((c0 : Int))))] → W p l e (rmx 3 69) s m args below meth c H locs 0 0 Q (F0 m 15 ls []) := by
          intro fu
          induction fu with
          | zero =>
            intro z wstarts15 x6_15 x5_15 hz hq0 hq1 hq2 hfu
            exact absurd hfu (Nat.not_lt_zero _)
          | succ fu ih =>
            intro z wstarts15 x6_15 x5_15 hz hq0 hq1 hq2 hfu H locs hP hD hS ls hl
            subst hq0
            subst hq1
            subst hq2
            have ih15 := ih
            have h9 := mom_rg (v := v) (m0 := 0) (tj_rg hT (oO i)) hB ⟨Int.le_refl _, by omega⟩ z hz
            refine lv_iload hx hb dX1_lays_15 (lv_at hl 0 rfl) ?_
            refine lv_aload_n hx hb dX1_lays_17 rfl (lv_at hl 3 rfl) ?_
            refine va_get (D := D) (ci := 1) (C := RX1) (T := TX1) (N := 10) hx hb hts inW hown hK hP 0 rfl rfl 2 (by decide) (hts (.fieldLink RX1 7 "FlowforgeModel" "wide" "I") (List.mem_of_getElem? (i := 1) rfl)) (fun _ h9 => h9) rfl dX1_lays_18 ?_
            refine w_icmp_ge (tgt := 96) hx hb dX1_lays_21 (by decide) ⟨by omega, by omega⟩ ⟨by omega, by omega⟩ (fun c21 => ?_) (fun c21 => ?_)
            · obtain rfl : mm = z := by omega
              refine lv_iload_n hx hb dX1_lays_96 rfl (lv_at hl 4 rfl) ?_
              refine lv_iconst (v := iI 2) hx hb dX1_lays_97 rfl ?_
              refine w_icmp_ne (tgt := 108) hx hb dX1_lays_98 (by decide) ⟨by omega, by omega⟩ ⟨by omega, by omega⟩ (fun c98 => ?_) (fun c98 => ?_)
              · refine lv_iinc (v := iI ((i : Int) + 1)) (lv' := [(4, .int (iI ((i : Int) + 1))), (6, .int (iI ((mm : Int)))), (5, .int (iI ((mom v mm (tj tT (oO i)) (prv wstarts3 i) (epv tT oO wstarts3 i) 0 mm)))), (0, .ref (bd 0)), (1, .int (iI ((v : Int)))), (2, .ref (bd 2)), (3, .int (iI ((c0 : Int))))]) hx hb dX1_lays_108 hl (k := 2) rfl (iI_inc (by omega)) (by decide) rfl (fun ls hl => ?_)
                refine lv_goto (tgt := 3) hx hb dX1_lays_111 (by decide) ?_
                exact ih3 (i + 1) (pt wstarts3 (mB v mm tT i oO wstarts3) (5 * i) mm) ((i : Int) + 1) (by omega) (by first | exact mrows_s hm.2 (by omega) hI | exact mrows_s3 hm (by omega) hI) (by omega) (by omega) _ _ hP hD hS ls (lv_sub hl [0, 3, 4, 5, 6] rfl)
              · refine lv_aload_n hx hb dX1_lays_101 rfl (lv_at hl 3 rfl) ?_
                refine lv_aload_n hx hb dX1_lays_102 rfl (lv_at hl 5 rfl) ?_
                refine lv_iload hx hb dX1_lays_103 (lv_at hl 2 rfl) ?_
                refine w_iVv (As := [.ref (bd 2), .int (iI ((i : Int)))]) (rest := []) (wf := fun u : Unit => mw bd cI th nn mm bm tT oO (ptx (pt wstarts3 (mB v mm tT i oO wstarts3) (5 * i) mm) i mm (tj tT (oO i)) ((pt wstarts3 (mB v mm tT i oO wstarts3) (5 * i) mm) (5 * i + (mm - 1))) (mm - 1)) tL oR oJ) (wr := []) ⟨hx, hb, hml, hown, hts⟩ hK hP hD hS hA (mX1_pullsTogether_o  hm (by omega) (hO i (by omega))) (cwV 2 hts gX1_lays_X1_pullsTogether rfl rfl rfl (by decide +kernel) ⟨Nat.le_of_ble_eq_true rfl, Nat.le_of_ble_eq_true rfl⟩) [0, 1, 2, 3, 4, 5, 6] [] [0, 1, 2, 3, 4, 5, 6] rfl rfl (by decide) (by decide) (by decide) (hwf := fun _ => rfl) (by decide) (ci := 1) rfl rfl rfl rfl hl.1 rfl (Nat.le_of_ble_eq_true rfl) dX1_lays_105 ⟨Nat.zero_le _, Nat.zero_le _⟩ (fun u H locs hr105 hP hD hS => ?_)
                refine lv_iinc (v := iI ((i : Int) + 1)) (lv' := [(4, .int (iI ((i : Int) + 1))), (6, .int (iI ((mm : Int)))), (5, .int (iI ((mom v mm (tj tT (oO i)) (prv wstarts3 i) (epv tT oO wstarts3 i) 0 mm)))), (0, .ref (bd 0)), (1, .int (iI ((v : Int)))), (2, .ref (bd 2)), (3, .int (iI ((c0 : Int))))]) hx hb dX1_lays_108 hl (k := 2) rfl (iI_inc (by omega)) (by decide) rfl (fun ls hl => ?_)
                refine lv_goto (tgt := 3) hx hb dX1_lays_111 (by decide) ?_
                exact ih3 (i + 1) (ptx (pt wstarts3 (mB v mm tT i oO wstarts3) (5 * i) mm) i mm (tj tT (oO i)) ((pt wstarts3 (mB v mm tT i oO wstarts3) (5 * i) mm) (5 * i + (mm - 1))) (mm - 1)) ((i : Int) + 1) (by omega) (by first | exact mrows_s hm.2 (by omega) hI | exact mrows_s3 hm (by omega) hI) (by omega) (by omega) _ _ hP hD hS ls (lv_sub hl [0, 3, 4, 5, 6] rfl)
            · have h8 := frm_rg (v := v) hB (show z < mm by omega)
              have J43 : ∀ (H : Heap) (locs : List Loc), va_P D vwCl (mw bd cI th nn mm bm tT oO (pt wstarts3 (mB v mm tT i oO wstarts3) (5 * i) z) tL oR oJ) H → va_D A (mw bd cI th nn mm bm tT oO (pt wstarts3 (mB v mm tT i oO wstarts3) (5 * i) z) tL oR oJ) → va_S A s.heap H locs → ∀ ls : Array Slot, lv_has ls 8 [(6, .int (iI ((z : Int)))), (5, .int (iI ((mom v mm (tj tT (oO i)) (prv wstarts3 i) (epv tT oO wstarts3 i) 0 z)))), (4, .int (iI ((i : Int)))), (0, .ref (bd 0)), (1, .int (iI ((v : Int)))), (2, .ref (bd 2)), (3, .int (iI ((c0 : Int))))] → W p l e (rmx 3 69) s m args below meth c H locs 0 0 Q (F0 m 43 ls [.int (iI ((frm v mm (prv wstarts3 i) (epv tT oO wstarts3 i) z)))]) := by
                intro H locs hP hD hS ls hl
                refine lv_istore (lv' := [(7, .int (iI ((frm v mm (prv wstarts3 i) (epv tT oO wstarts3 i) z)))), (6, .int (iI ((z : Int)))), (5, .int (iI ((mom v mm (tj tT (oO i)) (prv wstarts3 i) (epv tT oO wstarts3 i) 0 z)))), (4, .int (iI ((i : Int)))), (0, .ref (bd 0)), (1, .int (iI ((v : Int)))), (2, .ref (bd 2)), (3, .int (iI ((c0 : Int))))]) hx hb dX1_lays_43 hl (by decide) rfl (fun ls hl => ?_)
                have J59 : ∀ (H : Heap) (locs : List Loc), va_P D vwCl (mw bd cI th nn mm bm tT oO (pt wstarts3 (mB v mm tT i oO wstarts3) (5 * i) z) tL oR oJ) H → va_D A (mw bd cI th nn mm bm tT oO (pt wstarts3 (mB v mm tT i oO wstarts3) (5 * i) z) tL oR oJ) → va_S A s.heap H locs → ∀ ls : Array Slot, lv_has ls 8 [(7, .int (iI ((frm v mm (prv wstarts3 i) (epv tT oO wstarts3 i) z)))), (6, .int (iI ((z : Int)))), (5, .int (iI ((mom v mm (tj tT (oO i)) (prv wstarts3 i) (epv tT oO wstarts3 i) 0 z)))), (4, .int (iI ((i : Int)))), (0, .ref (bd 0)), (1, .int (iI ((v : Int)))), (2, .ref (bd 2)), (3, .int (iI ((c0 : Int))))] → W p l e (rmx 3 69) s m args below meth c H locs 0 0 Q (F0 m 59 ls [.int (iI ((mB v mm tT i oO wstarts3 z)))]) := by
                  intro H locs hP hD hS ls hl
                  refine lv_istore (lv' := [(5, .int (iI ((mB v mm tT i oO wstarts3 z)))), (7, .int (iI ((frm v mm (prv wstarts3 i) (epv tT oO wstarts3 i) z)))), (6, .int (iI ((z : Int)))), (4, .int (iI ((i : Int)))), (0, .ref (bd 0)), (1, .int (iI ((v : Int)))), (2, .ref (bd 2)), (3, .int (iI ((c0 : Int))))]) hx hb dX1_lays_59 hl (by decide) rfl (fun ls hl => ?_)
                  refine lv_aload_n hx hb dX1_lays_61 rfl (lv_at hl 4 rfl) ?_
                  refine va_get (D := D) (ci := 1) (C := RX1) (T := TX1) (N := 10) hx hb hts inW hown hK hP 0 rfl rfl 5 (by decide) (hts (.fieldLink RX1 20 "FlowforgeModel" "starts" "[I") (List.mem_of_getElem? (i := 2) rfl)) (fun _ h9 => h9) rfl dX1_lays_62 ?_
                  refine lv_iconst (v := iI 5) hx hb dX1_lays_65 rfl ?_
                  refine lv_iload hx hb dX1_lays_66 (lv_at hl 3 rfl) ?_
                  refine w_imul (z := 5 * (i : Int)) hx hb dX1_lays_68 (by omega) ?_
                  refine lv_iload hx hb dX1_lays_69 (lv_at hl 2 rfl) ?_
                  refine w_iadd (z := 5 * (i : Int) + (z : Int)) hx hb dX1_lays_71 (by omega) ?_
                  refine lv_iload hx hb dX1_lays_72 (lv_at hl 0 rfl) ?_
                  refine w_iast (g := tI (pt wstarts3 (mB v mm tT i oO wstarts3) (5 * i) (z + 1))) (ws' := mw bd cI th nn mm bm tT oO (pt wstarts3 (mB v mm tT i oO wstarts3) (5 * i) (z + 1)) tL oR oJ) hx hb hK hP hD hS 3 0 rfl rfl (5 * i + z) (by omega) (by omega) (by decide) (hg := (tI_up.trans (congrArg tI pt_s))) (hw := rfl) (hd := dX1_lays_74) (kk := fun H locs hP hD hS => ?_)
                  refine lv_iload hx hb dX1_lays_75 (lv_at hl 0 rfl) ?_
                  refine lv_aload_n hx hb dX1_lays_77 rfl (lv_at hl 4 rfl) ?_
                  refine lv_aload_n hx hb dX1_lays_78 rfl (lv_at hl 6 rfl) ?_
                  refine lv_iload hx hb dX1_lays_79 (lv_at hl 3 rfl) ?_
                  refine w_iald (v := iI ((oO i : Nat) : Int)) hx hb hK hP 2 0 rfl rfl (i) (by omega) (by omega) (by decide) rfl dX1_lays_81 ?_
                  refine lv_iload hx hb dX1_lays_82 (lv_at hl 2 rfl) ?_
                  refine w_pV (As := [.int (iI (((((oO i)) : Nat) : Int))), .int (iI ((z : Int)))]) (rest := [.int (iI ((mB v mm tT i oO wstarts3 z)))]) ⟨hx, hb, hml, hown, hts⟩ hK hP (mX1_timeOf  (hO i (by omega)) (by omega)) (cwV 2 hts gX1_lays_X1_timeOf rfl rfl rfl (by decide +kernel) ⟨Nat.le_of_ble_eq_true rfl, Nat.le_of_ble_eq_true rfl⟩) (ci := 1) rfl rfl rfl rfl hl.1 (by rw [show ((((oO i : Nat) : Int)) : Int) = ((((oO i)) : Nat) : Int) by omega]; try rfl) (Nat.le_of_ble_eq_true rfl) dX1_lays_84 ⟨Nat.zero_le _, Nat.zero_le _⟩ (fun r84 hr84 => ?_)
                  refine w_top (v := iI ((tT (5 * ((oO i)) + z)))) (hr84) ?_
                  refine w_iadd (z := (mom v mm (tj tT (oO i)) (prv wstarts3 i) (epv tT oO wstarts3 i) 0 (z + 1))) hx hb dX1_lays_87 (rfl) ?_
                  refine lv_istore (lv' := [(5, .int (iI ((mom v mm (tj tT (oO i)) (prv wstarts3 i) (epv tT oO wstarts3 i) 0 (z + 1))))), (7, .int (iI ((frm v mm (prv wstarts3 i) (epv tT oO wstarts3 i) z)))), (6, .int (iI ((z : Int)))), (4, .int (iI ((i : Int)))), (0, .ref (bd 0)), (1, .int (iI ((v : Int)))), (2, .ref (bd 2)), (3, .int (iI ((c0 : Int))))]) hx hb dX1_lays_88 hl (by decide) rfl (fun ls hl => ?_)
                  refine lv_iinc (v := iI ((z : Int) + 1)) (lv' := [(6, .int (iI ((z : Int) + 1))), (5, .int (iI ((mom v mm (tj tT (oO i)) (prv wstarts3 i) (epv tT oO wstarts3 i) 0 (z + 1))))), (7, .int (iI ((frm v mm (prv wstarts3 i) (epv tT oO wstarts3 i) z)))), (4, .int (iI ((i : Int)))), (0, .ref (bd 0)), (1, .int (iI ((v : Int)))), (2, .ref (bd 2)), (3, .int (iI ((c0 : Int))))]) hx hb dX1_lays_90 hl (k := 2) rfl (iI_inc (by omega)) (by decide) rfl (fun ls hl => ?_)
                  refine lv_goto (tgt := 15) hx hb dX1_lays_93 (by decide) ?_
                  exact ih15 (z + 1) (pt wstarts3 (mB v mm tT i oO wstarts3) (5 * i) (z + 1)) ((z : Int) + 1) ((mom v mm (tj tT (oO i)) (prv wstarts3 i) (epv tT oO wstarts3 i) 0 (z + 1))) (by omega) (rfl) (by omega) (rfl) (by omega) _ _ hP hD hS ls (lv_sub hl [0, 1, 3, 4, 5, 6, 7] rfl)
                refine lv_iload hx hb dX1_lays_45 (lv_at hl 0 rfl) ?_
                refine lv_iload hx hb dX1_lays_47 (lv_at hl 2 rfl) ?_
                refine w_icmp_le (tgt := 57) hx hb dX1_lays_49 (by decide) ⟨by omega, by omega⟩ ⟨by omega, by omega⟩ (fun c49 => ?_) (fun c49 => ?_)
                · refine lv_iload hx hb dX1_lays_57 (lv_at hl 2 rfl) ?_
                  refine w_top (v := iI ((mB v mm tT i oO wstarts3 z))) (congrArg iI (by show _ = max _ _; omega)) ?_
                  exact J59  _ _ hP hD hS ls (lv_sub hl [0, 1, 2, 3, 4, 5, 6, 7] rfl)
                · refine lv_iload hx hb dX1_lays_52 (lv_at hl 0 rfl) ?_
                  refine lv_goto (tgt := 59) hx hb dX1_lays_54 (by decide) ?_
                  refine w_top (v := iI ((mB v mm tT i oO wstarts3 z))) (congrArg iI (by show _ = max _ _; omega)) ?_
                  exact J59  _ _ hP hD hS ls (lv_sub hl [0, 1, 2, 3, 4, 5, 6, 7] rfl)
              refine lv_iload hx hb dX1_lays_24 (lv_at hl 2 rfl) ?_
              refine w_if_le (tgt := 42) hx hb dX1_lays_26 (by decide) ⟨by omega, by omega⟩ (fun c26 => ?_) (fun c26 => ?_)
              · refine lv_iconst (v := iI 0) hx hb dX1_lays_42 rfl ?_
                refine w_top (v := iI ((frm v mm (prv wstarts3 i) (epv tT oO wstarts3 i) z))) (congrArg iI (frm_e (by omega)).symm) ?_
                exact J43  _ _ hP hD hS ls (lv_sub hl [0, 1, 2, 3, 4, 5, 6] rfl)
              · refine lv_aload_n hx hb dX1_lays_29 rfl (lv_at hl 3 rfl) ?_
                refine lv_iload_n hx hb dX1_lays_30 rfl (lv_at hl 4 rfl) ?_
                refine lv_aload_n hx hb dX1_lays_31 rfl (lv_at hl 5 rfl) ?_
                refine lv_iload hx hb dX1_lays_32 (lv_at hl 2 rfl) ?_
                refine lv_iload hx hb dX1_lays_34 (lv_at hl 0 rfl) ?_
                refine w_pV (As := [.int (iI ((v : Int))), .ref (bd 2), .int (iI ((i : Int))), .int (iI ((z : Int)))]) (rest := []) ⟨hx, hb, hml, hown, hts⟩ hK hP (mX1_freeAt_o  hm hv (by omega) (hO _ (by omega)) (by omega)) (cwV 4 hts gX1_lays_X1_freeAt rfl rfl rfl (by decide +kernel) ⟨Nat.le_of_ble_eq_true rfl, Nat.le_of_ble_eq_true rfl⟩) (ci := 1) rfl rfl rfl rfl hl.1 rfl (Nat.le_of_ble_eq_true rfl) dX1_lays_36 ⟨Nat.zero_le _, Nat.zero_le _⟩ (fun r36 hr36 => ?_)
                refine w_top (v := iI ((frm v mm (prv wstarts3 i) (epv tT oO wstarts3 i) z))) (hr36.trans (congrArg iI (frm_ptm hm.2 (by omega)))) ?_
                refine lv_goto (tgt := 43) hx hb dX1_lays_39 (by decide) ?_
                exact J43  _ _ hP hD hS ls (lv_sub hl [0, 1, 2, 3, 4, 5, 6] rfl)
        exact L15 (mm - 0 + 1) 0 wstarts3 (0) (0) (by omega) ((pt_0 _ _ _).symm) (by omega) (rfl) (Nat.lt_succ_self _) _ _ hP hD hS ls (lv_sub hl [0, 1, 2, 3, 4, 5, 6] rfl)
  exact L3 (c0 - 0 + 1) 0 tB (0) (by omega) (mrows_0) (by omega) (Nat.lt_succ_self _) _ _ hP hD hS ls (lv_sub hl [0, 1, 2, 3, 4] rfl)
set_option maxHeartbeats 4000000 in
set_option maxRecDepth 100000 in
theorem mX1_endOf_t {q k : Nat} (hq : q < 7) (hr : oR q < 7) (hk : k < 5) : PM l yX1_endOf wsX1_endOf (rmx 1 22) D (tyk cI cZ cJ) (mw bd cI th nn mm bm tT oO tB tL oR oJ) [.ref (bd 0), .ref (bd 5), .int (iI ((q : Int))), .int (iI ((k : Int)))] (vp_Si (fun x => x = iI (tB (5 * q + k) + tT (5 * oR q + k)))) := by
  refine pmI_of (cc := cX1_endOf) (maxL := 4) (by decide) rfl (Nat.le_of_ble_eq_true rfl) ?_
  intro p e s m args below meth c Q hx hb hml hown hts hK hP hret ls hl
  have hown : s.vm.findClass RX1 = some m.cls := hown
  have hl : lv_has ls 4 [(0, .ref (bd 0)), (1, .ref (bd 5)), (2, .int (iI ((q : Int)))), (3, .int (iI ((k : Int))))] := hl
  refine lv_aload_n hx hb dX1_endOf_0 rfl (lv_at hl 0 rfl) ?_
  refine lv_iload_n hx hb dX1_endOf_1 rfl (lv_at hl 2 rfl) ?_
  refine lv_iload_n hx hb dX1_endOf_2 rfl (lv_at hl 3 rfl) ?_
  refine w_pV (As := [.int (iI ((q : Int))), .int (iI ((k : Int)))]) (rest := []) ⟨hx, hb, hml, hown, hts⟩ hK hP (mX1_startOf  hq hk) (cwV 2 hts gX1_endOf_X1_startOf rfl rfl rfl (by decide +kernel) ⟨Nat.le_of_ble_eq_true rfl, Nat.le_of_ble_eq_true rfl⟩) (ci := 1) rfl rfl rfl rfl hl.1 rfl (Nat.le_of_ble_eq_true rfl) dX1_endOf_3 ⟨Nat.zero_le _, Nat.zero_le _⟩ (fun r3 hr3 => ?_)
  refine w_top (v := iI ((tB (5 * q + k)))) (hr3) ?_
  refine lv_aload_n hx hb dX1_endOf_6 rfl (lv_at hl 0 rfl) ?_
  refine lv_aload_n hx hb dX1_endOf_7 rfl (lv_at hl 1 rfl) ?_
  refine lv_iload_n hx hb dX1_endOf_8 rfl (lv_at hl 2 rfl) ?_
  refine w_iald (v := iI ((oR q : Nat) : Int)) hx hb hK hP 5 0 rfl rfl (q) (by omega) (by omega) (by decide) rfl dX1_endOf_9 ?_
  refine lv_iload_n hx hb dX1_endOf_10 rfl (lv_at hl 3 rfl) ?_
  refine w_pV (As := [.int (iI (((((oR q)) : Nat) : Int))), .int (iI ((k : Int)))]) (rest := [.int (iI ((tB (5 * q + k))))]) ⟨hx, hb, hml, hown, hts⟩ hK hP (mX1_timeOf  hr hk) (cwV 2 hts gX1_endOf_X1_timeOf rfl rfl rfl (by decide +kernel) ⟨Nat.le_of_ble_eq_true rfl, Nat.le_of_ble_eq_true rfl⟩) (ci := 1) rfl rfl rfl rfl hl.1 (by rw [show ((((oR q : Nat) : Int)) : Int) = ((((oR q)) : Nat) : Int) by omega]; try rfl) (Nat.le_of_ble_eq_true rfl) dX1_endOf_11 ⟨Nat.zero_le _, Nat.zero_le _⟩ (fun r11 hr11 => ?_)
  refine w_top (v := iI ((tT (5 * ((oR q)) + k)))) (hr11) ?_
  refine w_iadd (z := (tB (5 * q + k)) + (tT (5 * ((oR q)) + k))) hx hb dX1_endOf_14 (by omega) ?_
  exact hret 15 ls _ (rfl) dX1_endOf_15
set_option maxHeartbeats 4000000 in
set_option maxRecDepth 100000 in
theorem mX1_freeAt_t {v q k : Nat} (hm : 1 ≤ mm ∧ mm ≤ 5) (hv : v ≤ 2) (hq : 1 ≤ q ∧ q ≤ 7) (hr : oR (q - 1) < 7) (hk : k < mm) : PM l yX1_freeAt wsX1_freeAt (rmx 2 45) D (tyk cI cZ cJ) (mw bd cI th nn mm bm tT oO tB tL oR oJ) [.ref (bd 0), .int (iI ((v : Int))), .ref (bd 5), .int (iI ((q : Int))), .int (iI ((k : Int)))] (vp_Si (fun x => x = iI (frm v mm (prv tB q) (epv tT oR tB q) k))) := by
  refine pmI_of (cc := cX1_freeAt) (maxL := 5) (by decide) rfl (Nat.le_of_ble_eq_true rfl) ?_
  intro p e s m args below meth c Q hx hb hml hown hts hK hP hret ls hl
  have hown : s.vm.findClass RX1 = some m.cls := hown
  have hl : lv_has ls 5 [(0, .ref (bd 0)), (1, .int (iI ((v : Int)))), (2, .ref (bd 5)), (3, .int (iI ((q : Int)))), (4, .int (iI ((k : Int))))] := hl
  have inW : ∀ w ∈ wsX10, w ∈ wsX1_freeAt := by first | exact (fun w h => List.mem_cons_of_mem _ (List.mem_append_right _ h)) | exact (fun w h => List.mem_cons_of_mem _ (List.mem_append_left _ (List.mem_append_right _ h))) | exact (fun w h => List.mem_cons_of_mem _ (List.mem_append_left _ (List.mem_append_left _ (List.mem_append_right _ h)))) | decide +kernel
  refine lv_iload_n hx hb dX1_freeAt_0 rfl (lv_at hl 1 rfl) ?_
  refine lv_iconst (v := iI 1) hx hb dX1_freeAt_1 rfl ?_
  refine w_icmp_ne (tgt := 30) hx hb dX1_freeAt_2 (by decide) ⟨by omega, by omega⟩ ⟨by omega, by omega⟩ (fun c2 => ?_) (fun c2 => ?_)
  · refine lv_aload_n hx hb dX1_freeAt_30 rfl (lv_at hl 0 rfl) ?_
    refine lv_aload_n hx hb dX1_freeAt_31 rfl (lv_at hl 2 rfl) ?_
    refine lv_iload_n hx hb dX1_freeAt_32 rfl (lv_at hl 3 rfl) ?_
    refine lv_iconst (v := iI 1) hx hb dX1_freeAt_33 rfl ?_
    refine w_isub (z := (q : Int) - 1) hx hb dX1_freeAt_34 (by omega) ?_
    refine lv_iload hx hb dX1_freeAt_35 (lv_at hl 4 rfl) ?_
    refine w_pV (As := [.ref (bd 5), .int (iI ((((q - 1) : Nat) : Int))), .int (iI ((k : Int)))]) (rest := []) ⟨hx, hb, hml, hown, hts⟩ hK hP (mX1_endOf_t  (q := q - 1) (by omega) hr (by omega)) (cwV 3 hts gX1_freeAt_X1_endOf rfl rfl rfl (by decide +kernel) ⟨Nat.le_of_ble_eq_true rfl, Nat.le_of_ble_eq_true rfl⟩) (ci := 1) rfl rfl rfl rfl hl.1 (by rw [show (((q : Int) - 1) : Int) = (((q - 1) : Nat) : Int) by omega]; try rfl) (Nat.le_of_ble_eq_true rfl) dX1_freeAt_37 ⟨Nat.zero_le _, Nat.zero_le _⟩ (fun r37 hr37 => ?_)
    refine w_top (v := iI ((tB (5 * (q - 1) + k) + tT (5 * oR (q - 1) + k)))) (hr37) ?_
    exact hret 40 ls _ (by unfold frm epv; rw [if_neg (by omega), if_neg (by omega)]) dX1_freeAt_40
  · refine lv_iload hx hb dX1_freeAt_5 (lv_at hl 4 rfl) ?_
    refine lv_iconst (v := iI 1) hx hb dX1_freeAt_7 rfl ?_
    refine w_iadd (z := (k : Int) + 1) hx hb dX1_freeAt_8 (by omega) ?_
    refine lv_aload_n hx hb dX1_freeAt_9 rfl (lv_at hl 0 rfl) ?_
    refine va_get (D := D) (ci := 1) (C := RX1) (T := TX1) (N := 10) hx hb hts inW hown hK hP 0 rfl rfl 2 (by decide) (hts (.fieldLink RX1 7 "FlowforgeModel" "wide" "I") (List.mem_of_getElem? (i := 1) rfl)) (fun _ h9 => h9) rfl dX1_freeAt_10 ?_
    refine w_icmp_ge (tgt := 30) hx hb dX1_freeAt_13 (by decide) ⟨by omega, by omega⟩ ⟨by omega, by omega⟩ (fun c13 => ?_) (fun c13 => ?_)
    · refine lv_aload_n hx hb dX1_freeAt_30 rfl (lv_at hl 0 rfl) ?_
      refine lv_aload_n hx hb dX1_freeAt_31 rfl (lv_at hl 2 rfl) ?_
      refine lv_iload_n hx hb dX1_freeAt_32 rfl (lv_at hl 3 rfl) ?_
      refine lv_iconst (v := iI 1) hx hb dX1_freeAt_33 rfl ?_
      refine w_isub (z := (q : Int) - 1) hx hb dX1_freeAt_34 (by omega) ?_
      refine lv_iload hx hb dX1_freeAt_35 (lv_at hl 4 rfl) ?_
      refine w_pV (As := [.ref (bd 5), .int (iI ((((q - 1) : Nat) : Int))), .int (iI ((k : Int)))]) (rest := []) ⟨hx, hb, hml, hown, hts⟩ hK hP (mX1_endOf_t  (q := q - 1) (by omega) hr (by omega)) (cwV 3 hts gX1_freeAt_X1_endOf rfl rfl rfl (by decide +kernel) ⟨Nat.le_of_ble_eq_true rfl, Nat.le_of_ble_eq_true rfl⟩) (ci := 1) rfl rfl rfl rfl hl.1 (by rw [show (((q : Int) - 1) : Int) = (((q - 1) : Nat) : Int) by omega]; try rfl) (Nat.le_of_ble_eq_true rfl) dX1_freeAt_37 ⟨Nat.zero_le _, Nat.zero_le _⟩ (fun r37 hr37 => ?_)
      refine w_top (v := iI ((tB (5 * (q - 1) + k) + tT (5 * oR (q - 1) + k)))) (hr37) ?_
      exact hret 40 ls _ (by unfold frm epv; rw [if_neg (by omega), if_neg (by omega)]) dX1_freeAt_40
    · refine lv_aload_n hx hb dX1_freeAt_16 rfl (lv_at hl 0 rfl) ?_
      refine lv_iload_n hx hb dX1_freeAt_17 rfl (lv_at hl 3 rfl) ?_
      refine lv_iconst (v := iI 1) hx hb dX1_freeAt_18 rfl ?_
      refine w_isub (z := (q : Int) - 1) hx hb dX1_freeAt_19 (by omega) ?_
      refine lv_iload hx hb dX1_freeAt_20 (lv_at hl 4 rfl) ?_
      refine lv_iconst (v := iI 1) hx hb dX1_freeAt_22 rfl ?_
      refine w_iadd (z := (k : Int) + 1) hx hb dX1_freeAt_23 (by omega) ?_
      refine w_pV (As := [.int (iI ((((q - 1) : Nat) : Int))), .int (iI ((((k + 1) : Nat) : Int)))]) (rest := []) ⟨hx, hb, hml, hown, hts⟩ hK hP (mX1_startOf  (j := q - 1) (k := k + 1) (by omega) (by omega)) (cwV 2 hts gX1_freeAt_X1_startOf rfl rfl rfl (by decide +kernel) ⟨Nat.le_of_ble_eq_true rfl, Nat.le_of_ble_eq_true rfl⟩) (ci := 1) rfl rfl rfl rfl hl.1 (by rw [show (((q : Int) - 1) : Int) = (((q - 1) : Nat) : Int) by omega]; rw [show (((k : Int) + 1) : Int) = (((k + 1) : Nat) : Int) by omega]; try rfl) (Nat.le_of_ble_eq_true rfl) dX1_freeAt_24 ⟨Nat.zero_le _, Nat.zero_le _⟩ (fun r24 hr24 => ?_)
      refine w_top (v := iI ((tB (5 * (q - 1) + (k + 1))))) (hr24) ?_
      refine lv_goto (tgt := 40) hx hb dX1_freeAt_27 (by decide) ?_
      exact hret 40 ls _ (by unfold frm prv; rw [if_pos ⟨by omega, by omega⟩, if_neg (by omega)]) dX1_freeAt_40
set_option maxHeartbeats 4000000 in
set_option maxRecDepth 100000 in
theorem mX1_pullsTogether_t {q : Nat} (hm : 1 ≤ mm ∧ mm ≤ 5) (hq : q < 7) (hr : oR q < 7) : IM l yX1_pullsTogether wsX1_pullsTogether (rmx 1 22) D (tyk cI cZ cJ) (mw bd cI th nn mm bm tT oO tB tL oR oJ) [.ref (bd 0), .ref (bd 5), .int (iI ((q : Int)))] (QV D (tyk cI cZ cJ) (fun u : Unit => mw bd cI th nn mm bm tT oO (ptx tB q mm (tj tT (oR q)) (tB (5 * q + (mm - 1))) (mm - 1)) tL oR oJ) (fun _ => True)) := by
  refine imV_of (cc := cX1_pullsTogether) (maxL := 4) (by decide) rfl (Nat.le_of_ble_eq_true rfl) ?_
  intro p e s m args below meth c A Q hx hb hml hown hts hA hK hP hD hS hret ls hl
  have hown : s.vm.findClass RX1 = some m.cls := hown
  have hl : lv_has ls 4 [(0, .ref (bd 0)), (1, .ref (bd 5)), (2, .int (iI ((q : Int))))] := hl
  have inW : ∀ w ∈ wsX10, w ∈ wsX1_pullsTogether := by first | exact (fun w h => List.mem_cons_of_mem _ (List.mem_append_right _ h)) | exact (fun w h => List.mem_cons_of_mem _ (List.mem_append_left _ (List.mem_append_right _ h))) | exact (fun w h => List.mem_cons_of_mem _ (List.mem_append_left _ (List.mem_append_left _ (List.mem_append_right _ h)))) | decide +kernel
  refine lv_aload_n hx hb dX1_pullsTogether_0 rfl (lv_at hl 0 rfl) ?_
  refine va_get (D := D) (ci := 1) (C := RX1) (T := TX1) (N := 10) hx hb hts inW hown hK hP 0 rfl rfl 2 (by decide) (hts (.fieldLink RX1 7 "FlowforgeModel" "wide" "I") (List.mem_of_getElem? (i := 1) rfl)) (fun _ h9 => h9) rfl dX1_pullsTogether_1 ?_
  refine lv_iconst (v := iI 2) hx hb dX1_pullsTogether_4 rfl ?_
  refine w_isub (z := (mm : Int) - 2) hx hb dX1_pullsTogether_5 (by omega) ?_
  refine lv_istore_n (lv' := [(3, .int (iI ((mm : Int) - 2))), (0, .ref (bd 0)), (1, .ref (bd 5)), (2, .int (iI ((q : Int))))]) hx hb dX1_pullsTogether_6 rfl hl (by decide) rfl (fun ls hl => ?_)
  have L7 : ∀ (fu : Nat) (z : Nat) (wstarts7 : Nat → Int) (x3_7 : Int), (z ≤ mm - 1) → (wstarts7 = ptx tB q mm (tj tT (oR q)) (tB (5 * q + (mm - 1))) z) → (x3_7 = (mm : Int) - (z : Int) - 2) → mm - 1 - z < fu → ∀ (H : Heap) (locs : List Loc), va_P D vwCl (mw bd cI th nn mm bm tT oO wstarts7 tL oR oJ) H → va_D A (mw bd cI th nn mm bm tT oO wstarts7 tL oR oJ) → va_S A s.heap H locs → ∀ ls : Array Slot, lv_has ls 4 [(3, .int (iI (x3_7))), (0, .ref (bd 0)), (1, .ref (bd 5)), (2, .int (iI ((q : Int))))] → W p l e (rmx 1 22) s m args below meth c H locs 0 0 Q (F0 m 7 ls []) := by
    intro fu
    induction fu with
    | zero =>
      intro z wstarts7 x3_7 hz hq0 hq1 hfu
      exact absurd hfu (Nat.not_lt_zero _)
    | succ fu ih =>
      intro z wstarts7 x3_7 hz hq0 hq1 hfu H locs hP hD hS ls hl
      subst hq0
      subst hq1
      have ih7 := ih
      refine lv_iload_n hx hb dX1_pullsTogether_7 rfl (lv_at hl 0 rfl) ?_
      refine w_if_lt (tgt := 44) hx hb dX1_pullsTogether_8 (by decide) ⟨by omega, by omega⟩ (fun c8 => ?_) (fun c8 => ?_)
      · obtain rfl : z = mm - 1 := by omega
        exact hret _ _ 44 ls (()) hP hD hS (trivial) dX1_pullsTogether_44
      · refine lv_aload_n hx hb dX1_pullsTogether_11 rfl (lv_at hl 1 rfl) ?_
        refine va_get (D := D) (ci := 1) (C := RX1) (T := TX1) (N := 10) hx hb hts inW hown hK hP 0 rfl rfl 5 (by decide) (hts (.fieldLink RX1 20 "FlowforgeModel" "starts" "[I") (List.mem_of_getElem? (i := 2) rfl)) (fun _ h9 => h9) rfl dX1_pullsTogether_12 ?_
        refine lv_iconst (v := iI 5) hx hb dX1_pullsTogether_15 rfl ?_
        refine lv_iload_n hx hb dX1_pullsTogether_16 rfl (lv_at hl 3 rfl) ?_
        refine w_imul (z := 5 * (q : Int)) hx hb dX1_pullsTogether_17 (by omega) ?_
        refine lv_iload_n hx hb dX1_pullsTogether_18 rfl (lv_at hl 0 rfl) ?_
        refine w_iadd (z := 5 * (q : Int) + (mm : Int) - (z : Int) - 2) hx hb dX1_pullsTogether_19 (by omega) ?_
        refine lv_aload_n hx hb dX1_pullsTogether_20 rfl (lv_at hl 1 rfl) ?_
        refine lv_iload_n hx hb dX1_pullsTogether_21 rfl (lv_at hl 3 rfl) ?_
        refine lv_iload_n hx hb dX1_pullsTogether_22 rfl (lv_at hl 0 rfl) ?_
        refine lv_iconst (v := iI 1) hx hb dX1_pullsTogether_23 rfl ?_
        refine w_iadd (z := (mm : Int) - (z : Int) - 1) hx hb dX1_pullsTogether_24 (by omega) ?_
        refine w_pV (As := [.int (iI ((q : Int))), .int (iI ((((mm - 1 - z) : Nat) : Int)))]) (rest := [.int (iI (5 * (q : Int) + (mm : Int) - (z : Int) - 2)), .ref (bd 3)]) ⟨hx, hb, hml, hown, hts⟩ hK hP (mX1_startOf  (j := q) (k := mm - 1 - z) hq (by omega)) (cwV 2 hts gX1_pullsTogether_X1_startOf rfl rfl rfl (by decide +kernel) ⟨Nat.le_of_ble_eq_true rfl, Nat.le_of_ble_eq_true rfl⟩) (ci := 1) rfl rfl rfl rfl hl.1 (by rw [show (((mm : Int) - (z : Int) - 1) : Int) = (((mm - 1 - z) : Nat) : Int) by omega]; try rfl) (Nat.le_of_ble_eq_true rfl) dX1_pullsTogether_25 ⟨Nat.zero_le _, Nat.zero_le _⟩ (fun r25 hr25 => ?_)
        refine w_top (v := iI ((plv (tj tT (oR q)) mm (tB (5 * q + (mm - 1))) z))) (hr25.trans (congrArg iI (ptx_at (by omega)))) ?_
        refine lv_aload_n hx hb dX1_pullsTogether_28 rfl (lv_at hl 1 rfl) ?_
        refine lv_aload_n hx hb dX1_pullsTogether_29 rfl (lv_at hl 2 rfl) ?_
        refine lv_iload_n hx hb dX1_pullsTogether_30 rfl (lv_at hl 3 rfl) ?_
        refine w_iald (v := iI ((oR q : Nat) : Int)) hx hb hK hP 5 0 rfl rfl (q) (by omega) (by omega) (by decide) rfl dX1_pullsTogether_31 ?_
        refine lv_iload_n hx hb dX1_pullsTogether_32 rfl (lv_at hl 0 rfl) ?_
        refine w_pV (As := [.int (iI (((((oR q)) : Nat) : Int))), .int (iI ((((mm - 2 - z) : Nat) : Int)))]) (rest := [.int (iI ((plv (tj tT (oR q)) mm (tB (5 * q + (mm - 1))) z))), .int (iI (5 * (q : Int) + (mm : Int) - (z : Int) - 2)), .ref (bd 3)]) ⟨hx, hb, hml, hown, hts⟩ hK hP (mX1_timeOf  (j := oR q) (k := mm - 2 - z) hr (by omega)) (cwV 2 hts gX1_pullsTogether_X1_timeOf rfl rfl rfl (by decide +kernel) ⟨Nat.le_of_ble_eq_true rfl, Nat.le_of_ble_eq_true rfl⟩) (ci := 1) rfl rfl rfl rfl hl.1 (by rw [show ((((oR q : Nat) : Int)) : Int) = ((((oR q)) : Nat) : Int) by omega]; rw [show (((mm : Int) - (z : Int) - 2) : Int) = (((mm - 2 - z) : Nat) : Int) by omega]; try rfl) (Nat.le_of_ble_eq_true rfl) dX1_pullsTogether_33 ⟨Nat.zero_le _, Nat.zero_le _⟩ (fun r33 hr33 => ?_)
        refine w_top (v := iI ((tT (5 * ((oR q)) + (mm - 2 - z))))) (hr33) ?_
        refine w_isub (z := (plv (tj tT (oR q)) mm (tB (5 * q + (mm - 1))) z) - (tT (5 * ((oR q)) + (mm - 2 - z)))) hx hb dX1_pullsTogether_36 (by omega) ?_
        refine w_iast (g := tI (ptx tB q mm (tj tT (oR q)) (tB (5 * q + (mm - 1))) (z + 1))) (ws' := mw bd cI th nn mm bm tT oO (ptx tB q mm (tj tT (oR q)) (tB (5 * q + (mm - 1))) (z + 1)) tL oR oJ) hx hb hK hP hD hS 3 0 rfl rfl (5 * q + (mm - 2 - z)) (by omega) (by omega) (by decide) (hg := (tI_up.trans (congrArg tI (ptx_s (by omega))))) (hw := rfl) (hd := dX1_pullsTogether_37) (kk := fun H locs hP hD hS => ?_)
        refine lv_iinc (v := iI ((mm : Int) - (z : Int) - 3)) (lv' := [(3, .int (iI ((mm : Int) - (z : Int) - 3))), (0, .ref (bd 0)), (1, .ref (bd 5)), (2, .int (iI ((q : Int))))]) hx hb dX1_pullsTogether_38 hl (k := 0) rfl (iI_inc (by omega)) (by decide) rfl (fun ls hl => ?_)
        refine lv_goto (tgt := 7) hx hb dX1_pullsTogether_41 (by decide) ?_
        exact ih7 (z + 1) (ptx tB q mm (tj tT (oR q)) (tB (5 * q + (mm - 1))) (z + 1)) ((mm : Int) - (z : Int) - 3) (by omega) (rfl) (by omega) (by omega) _ _ hP hD hS ls (lv_sub hl [0, 1, 2, 3] rfl)
  exact L7 (mm - 1 - 0 + 1) 0 tB ((mm : Int) - 2) (by omega) ((ptx_0 hm.1).symm) (by omega) (Nat.lt_succ_self _) _ _ hP hD hS ls (lv_sub hl [0, 1, 2, 3] rfl)
set_option maxHeartbeats 4000000 in
set_option maxRecDepth 100000 in
theorem mX1_lays_t {v c0 : Nat} (hT : ∀ k, 0 ≤ tT k ∧ tT k ≤ 99) (hm : 1 ≤ mm ∧ mm ≤ 5) (hv : v ≤ 2) (hc : c0 ≤ 7) (hO : ∀ k, k < c0 → oR k < 7) : IM l yX1_lays wsX1_lays (rmx 3 69) D (tyk cI cZ cJ) (mw bd cI th nn mm bm tT oO tB tL oR oJ) [.ref (bd 0), .int (iI ((v : Int))), .ref (bd 5), .int (iI ((c0 : Int)))] (QI D (tyk cI cZ cJ) (fun u : (Nat → Int) => mw bd cI th nn mm bm tT oO u tL oR oJ) (fun x u => x = iI (mk v mm tT oR c0) ∧ mrows v mm tT oR u c0)) := by
  refine imI_of (cc := cX1_lays) (maxL := 8) (by decide) rfl (Nat.le_of_ble_eq_true rfl) ?_
  intro p e s m args below meth c A Q hx hb hml hown hts hA hK hP hD hS hret ls hl
  have hown : s.vm.findClass RX1 = some m.cls := hown
  have hl : lv_has ls 8 [(0, .ref (bd 0)), (1, .int (iI ((v : Int)))), (2, .ref (bd 5)), (3, .int (iI ((c0 : Int))))] := hl
  have inW : ∀ w ∈ wsX10, w ∈ wsX1_lays := by first | exact (fun w h => List.mem_cons_of_mem _ (List.mem_append_right _ h)) | exact (fun w h => List.mem_cons_of_mem _ (List.mem_append_left _ (List.mem_append_right _ h))) | exact (fun w h => List.mem_cons_of_mem _ (List.mem_append_left _ (List.mem_append_left _ (List.mem_append_right _ h)))) | decide +kernel
  refine lv_iconst (v := iI 0) hx hb dX1_lays_0 rfl ?_
  refine lv_istore (lv' := [(4, .int (iI 0)), (0, .ref (bd 0)), (1, .int (iI ((v : Int)))), (2, .ref (bd 5)), (3, .int (iI ((c0 : Int))))]) hx hb dX1_lays_1 hl (by decide) rfl (fun ls hl => ?_)
  have L3 : ∀ (fu : Nat) (i : Nat) (wstarts3 : Nat → Int) (x4_3 : Int), (i ≤ c0) → (mrows v mm tT oR wstarts3 i) → (x4_3 = (i : Int)) → c0 - i < fu → ∀ (H : Heap) (locs : List Loc), va_P D vwCl (mw bd cI th nn mm bm tT oO wstarts3 tL oR oJ) H → va_D A (mw bd cI th nn mm bm tT oO wstarts3 tL oR oJ) → va_S A s.heap H locs → ∀ ls : Array Slot, lv_has ls 8 [(4, .int (iI (x4_3))), (0, .ref (bd 0)), (1, .int (iI ((v : Int)))), (2, .ref (bd 5)), (3, .int (iI ((c0 : Int))))] → W p l e (rmx 3 69) s m args below meth c H locs 0 0 Q (F0 m 3 ls []) := by
    intro fu
    induction fu with
    | zero =>
      intro i wstarts3 x4_3 hi hI hq0 hfu
      exact absurd hfu (Nat.not_lt_zero _)
    | succ fu ih =>
      intro i wstarts3 x4_3 hi hI hq0 hfu H locs hP hD hS ls hl
      subst hq0
      have ih3 := ih
      refine lv_iload hx hb dX1_lays_3 (lv_at hl 0 rfl) ?_
      refine lv_iload_n hx hb dX1_lays_5 rfl (lv_at hl 4 rfl) ?_
      refine w_icmp_ge (tgt := 114) hx hb dX1_lays_6 (by decide) ⟨by omega, by omega⟩ ⟨by omega, by omega⟩ (fun c6 => ?_) (fun c6 => ?_)
      · obtain rfl : c0 = i := by omega
        refine lv_iload_n hx hb dX1_lays_114 rfl (lv_at hl 4 rfl) ?_
        refine w_if_le (tgt := 135) hx hb dX1_lays_115 (by decide) ⟨by omega, by omega⟩ (fun c115 => ?_) (fun c115 => ?_)
        · refine lv_iconst (v := iI 0) hx hb dX1_lays_135 rfl ?_
          exact hret _ _ 136 ls _ (wstarts3) hP hD hS (⟨by rw [show c0 = 0 by omega]; rfl, hI⟩) dX1_lays_136
        · refine lv_aload_n hx hb dX1_lays_118 rfl (lv_at hl 1 rfl) ?_
          refine lv_aload_n hx hb dX1_lays_119 rfl (lv_at hl 3 rfl) ?_
          refine lv_iload_n hx hb dX1_lays_120 rfl (lv_at hl 4 rfl) ?_
          refine lv_iconst (v := iI 1) hx hb dX1_lays_121 rfl ?_
          refine w_isub (z := (c0 : Int) - 1) hx hb dX1_lays_122 (by omega) ?_
          refine lv_aload_n hx hb dX1_lays_123 rfl (lv_at hl 1 rfl) ?_
          refine va_get (D := D) (ci := 1) (C := RX1) (T := TX1) (N := 10) hx hb hts inW hown hK hP 0 rfl rfl 2 (by decide) (hts (.fieldLink RX1 7 "FlowforgeModel" "wide" "I") (List.mem_of_getElem? (i := 1) rfl)) (fun _ h9 => h9) rfl dX1_lays_124 ?_
          refine lv_iconst (v := iI 1) hx hb dX1_lays_127 rfl ?_
          refine w_isub (z := (mm : Int) - 1) hx hb dX1_lays_128 (by omega) ?_
          refine w_pV (As := [.ref (bd 5), .int (iI ((((c0 - 1) : Nat) : Int))), .int (iI ((((mm - 1) : Nat) : Int)))]) (rest := []) ⟨hx, hb, hml, hown, hts⟩ hK hP (mX1_endOf_t  (q := c0 - 1) (k := mm - 1) (by omega) (hO _ (by omega)) (by omega)) (cwV 3 hts gX1_lays_X1_endOf rfl rfl rfl (by decide +kernel) ⟨Nat.le_of_ble_eq_true rfl, Nat.le_of_ble_eq_true rfl⟩) (ci := 1) rfl rfl rfl rfl hl.1 (by rw [show (((c0 : Int) - 1) : Int) = (((c0 - 1) : Nat) : Int) by omega]; rw [show (((mm : Int) - 1) : Int) = (((mm - 1) : Nat) : Int) by omega]; try rfl) (Nat.le_of_ble_eq_true rfl) dX1_lays_129 ⟨Nat.zero_le _, Nat.zero_le _⟩ (fun r129 hr129 => ?_)
          refine w_top (v := iI ((mk v mm tT oR c0))) (hr129.trans (congrArg iI (mrows_mk hm.1 (by omega) hI))) ?_
          refine lv_goto (tgt := 136) hx hb dX1_lays_132 (by decide) ?_
          exact hret _ _ 136 ls _ (wstarts3) hP hD hS (⟨rfl, hI⟩) dX1_lays_136
      · have hB := mrows_rg hm.2 hT (show i ≤ 7 by omega) hI
        refine lv_iconst (v := iI 0) hx hb dX1_lays_9 rfl ?_
        refine lv_istore (lv' := [(5, .int (iI 0)), (4, .int (iI ((i : Int)))), (0, .ref (bd 0)), (1, .int (iI ((v : Int)))), (2, .ref (bd 5)), (3, .int (iI ((c0 : Int))))]) hx hb dX1_lays_10 hl (by decide) rfl (fun ls hl => ?_)
        refine lv_iconst (v := iI 0) hx hb dX1_lays_12 rfl ?_
        refine lv_istore (lv' := [(6, .int (iI 0)), (5, .int (iI 0)), (4, .int (iI ((i : Int)))), (0, .ref (bd 0)), (1, .int (iI ((v : Int)))), (2, .ref (bd 5)), (3, .int (iI ((c0 : Int))))]) hx hb dX1_lays_13 hl (by decide) rfl (fun ls hl => ?_)
        have L15 : ∀ (fu : Nat) (z : Nat) (wstarts15 : Nat → Int) (x6_15 : Int) (x5_15 : Int), (z ≤ mm) → (wstarts15 = pt wstarts3 (mB v mm tT i oR wstarts3) (5 * i) z) → (x6_15 = (z : Int)) → (x5_15 = (mom v mm (tj tT (oR i)) (prv wstarts3 i) (epv tT oR wstarts3 i) 0 z)) → mm - z < fu → ∀ (H : Heap) (locs : List Loc), va_P D vwCl (mw bd cI th nn mm bm tT oO wstarts15 tL oR oJ) H → va_D A (mw bd cI th nn mm bm tT oO wstarts15 tL oR oJ) → va_S A s.heap H locs → ∀ ls : Array Slot, lv_has ls 8 [(6, .int (iI (x6_15))), (5, .int (iI (x5_15))), (4, .int (iI ((i : Int)))), (0, .ref (bd 0)), (1, .int (iI ((v : Int)))), (2, .ref (bd 5)), (3, .int (iI ((c0 : Int))))] → W p l e (rmx 3 69) s m args below meth c H locs 0 0 Q (F0 m 15 ls []) := by
          intro fu
          induction fu with
          | zero =>
            intro z wstarts15 x6_15 x5_15 hz hq0 hq1 hq2 hfu
            exact absurd hfu (Nat.not_lt_zero _)
          | succ fu ih =>
            intro z wstarts15 x6_15 x5_15 hz hq0 hq1 hq2 hfu H locs hP hD hS ls hl
            subst hq0
            subst hq1
            subst hq2
            have ih15 := ih
            have h9 := mom_rg (v := v) (m0 := 0) (tj_rg hT (oR i)) hB ⟨Int.le_refl _, by omega⟩ z hz
            refine lv_iload hx hb dX1_lays_15 (lv_at hl 0 rfl) ?_
            refine lv_aload_n hx hb dX1_lays_17 rfl (lv_at hl 3 rfl) ?_
            refine va_get (D := D) (ci := 1) (C := RX1) (T := TX1) (N := 10) hx hb hts inW hown hK hP 0 rfl rfl 2 (by decide) (hts (.fieldLink RX1 7 "FlowforgeModel" "wide" "I") (List.mem_of_getElem? (i := 1) rfl)) (fun _ h9 => h9) rfl dX1_lays_18 ?_
            refine w_icmp_ge (tgt := 96) hx hb dX1_lays_21 (by decide) ⟨by omega, by omega⟩ ⟨by omega, by omega⟩ (fun c21 => ?_) (fun c21 => ?_)
            · obtain rfl : mm = z := by omega
              refine lv_iload_n hx hb dX1_lays_96 rfl (lv_at hl 4 rfl) ?_
              refine lv_iconst (v := iI 2) hx hb dX1_lays_97 rfl ?_
              refine w_icmp_ne (tgt := 108) hx hb dX1_lays_98 (by decide) ⟨by omega, by omega⟩ ⟨by omega, by omega⟩ (fun c98 => ?_) (fun c98 => ?_)
              · refine lv_iinc (v := iI ((i : Int) + 1)) (lv' := [(4, .int (iI ((i : Int) + 1))), (6, .int (iI ((mm : Int)))), (5, .int (iI ((mom v mm (tj tT (oR i)) (prv wstarts3 i) (epv tT oR wstarts3 i) 0 mm)))), (0, .ref (bd 0)), (1, .int (iI ((v : Int)))), (2, .ref (bd 5)), (3, .int (iI ((c0 : Int))))]) hx hb dX1_lays_108 hl (k := 2) rfl (iI_inc (by omega)) (by decide) rfl (fun ls hl => ?_)
                refine lv_goto (tgt := 3) hx hb dX1_lays_111 (by decide) ?_
                exact ih3 (i + 1) (pt wstarts3 (mB v mm tT i oR wstarts3) (5 * i) mm) ((i : Int) + 1) (by omega) (by first | exact mrows_s hm.2 (by omega) hI | exact mrows_s3 hm (by omega) hI) (by omega) (by omega) _ _ hP hD hS ls (lv_sub hl [0, 3, 4, 5, 6] rfl)
              · refine lv_aload_n hx hb dX1_lays_101 rfl (lv_at hl 3 rfl) ?_
                refine lv_aload_n hx hb dX1_lays_102 rfl (lv_at hl 5 rfl) ?_
                refine lv_iload hx hb dX1_lays_103 (lv_at hl 2 rfl) ?_
                refine w_iVv (As := [.ref (bd 5), .int (iI ((i : Int)))]) (rest := []) (wf := fun u : Unit => mw bd cI th nn mm bm tT oO (ptx (pt wstarts3 (mB v mm tT i oR wstarts3) (5 * i) mm) i mm (tj tT (oR i)) ((pt wstarts3 (mB v mm tT i oR wstarts3) (5 * i) mm) (5 * i + (mm - 1))) (mm - 1)) tL oR oJ) (wr := []) ⟨hx, hb, hml, hown, hts⟩ hK hP hD hS hA (mX1_pullsTogether_t  hm (by omega) (hO i (by omega))) (cwV 2 hts gX1_lays_X1_pullsTogether rfl rfl rfl (by decide +kernel) ⟨Nat.le_of_ble_eq_true rfl, Nat.le_of_ble_eq_true rfl⟩) [0, 1, 2, 3, 4, 5, 6] [] [0, 1, 2, 3, 4, 5, 6] rfl rfl (by decide) (by decide) (by decide) (hwf := fun _ => rfl) (by decide) (ci := 1) rfl rfl rfl rfl hl.1 rfl (Nat.le_of_ble_eq_true rfl) dX1_lays_105 ⟨Nat.zero_le _, Nat.zero_le _⟩ (fun u H locs hr105 hP hD hS => ?_)
                refine lv_iinc (v := iI ((i : Int) + 1)) (lv' := [(4, .int (iI ((i : Int) + 1))), (6, .int (iI ((mm : Int)))), (5, .int (iI ((mom v mm (tj tT (oR i)) (prv wstarts3 i) (epv tT oR wstarts3 i) 0 mm)))), (0, .ref (bd 0)), (1, .int (iI ((v : Int)))), (2, .ref (bd 5)), (3, .int (iI ((c0 : Int))))]) hx hb dX1_lays_108 hl (k := 2) rfl (iI_inc (by omega)) (by decide) rfl (fun ls hl => ?_)
                refine lv_goto (tgt := 3) hx hb dX1_lays_111 (by decide) ?_
                exact ih3 (i + 1) (ptx (pt wstarts3 (mB v mm tT i oR wstarts3) (5 * i) mm) i mm (tj tT (oR i)) ((pt wstarts3 (mB v mm tT i oR wstarts3) (5 * i) mm) (5 * i + (mm - 1))) (mm - 1)) ((i : Int) + 1) (by omega) (by first | exact mrows_s hm.2 (by omega) hI | exact mrows_s3 hm (by omega) hI) (by omega) (by omega) _ _ hP hD hS ls (lv_sub hl [0, 3, 4, 5, 6] rfl)
            · have h8 := frm_rg (v := v) hB (show z < mm by omega)
              have J43 : ∀ (H : Heap) (locs : List Loc), va_P D vwCl (mw bd cI th nn mm bm tT oO (pt wstarts3 (mB v mm tT i oR wstarts3) (5 * i) z) tL oR oJ) H → va_D A (mw bd cI th nn mm bm tT oO (pt wstarts3 (mB v mm tT i oR wstarts3) (5 * i) z) tL oR oJ) → va_S A s.heap H locs → ∀ ls : Array Slot, lv_has ls 8 [(6, .int (iI ((z : Int)))), (5, .int (iI ((mom v mm (tj tT (oR i)) (prv wstarts3 i) (epv tT oR wstarts3 i) 0 z)))), (4, .int (iI ((i : Int)))), (0, .ref (bd 0)), (1, .int (iI ((v : Int)))), (2, .ref (bd 5)), (3, .int (iI ((c0 : Int))))] → W p l e (rmx 3 69) s m args below meth c H locs 0 0 Q (F0 m 43 ls [.int (iI ((frm v mm (prv wstarts3 i) (epv tT oR wstarts3 i) z)))]) := by
                intro H locs hP hD hS ls hl
                refine lv_istore (lv' := [(7, .int (iI ((frm v mm (prv wstarts3 i) (epv tT oR wstarts3 i) z)))), (6, .int (iI ((z : Int)))), (5, .int (iI ((mom v mm (tj tT (oR i)) (prv wstarts3 i) (epv tT oR wstarts3 i) 0 z)))), (4, .int (iI ((i : Int)))), (0, .ref (bd 0)), (1, .int (iI ((v : Int)))), (2, .ref (bd 5)), (3, .int (iI ((c0 : Int))))]) hx hb dX1_lays_43 hl (by decide) rfl (fun ls hl => ?_)
                have J59 : ∀ (H : Heap) (locs : List Loc), va_P D vwCl (mw bd cI th nn mm bm tT oO (pt wstarts3 (mB v mm tT i oR wstarts3) (5 * i) z) tL oR oJ) H → va_D A (mw bd cI th nn mm bm tT oO (pt wstarts3 (mB v mm tT i oR wstarts3) (5 * i) z) tL oR oJ) → va_S A s.heap H locs → ∀ ls : Array Slot, lv_has ls 8 [(7, .int (iI ((frm v mm (prv wstarts3 i) (epv tT oR wstarts3 i) z)))), (6, .int (iI ((z : Int)))), (5, .int (iI ((mom v mm (tj tT (oR i)) (prv wstarts3 i) (epv tT oR wstarts3 i) 0 z)))), (4, .int (iI ((i : Int)))), (0, .ref (bd 0)), (1, .int (iI ((v : Int)))), (2, .ref (bd 5)), (3, .int (iI ((c0 : Int))))] → W p l e (rmx 3 69) s m args below meth c H locs 0 0 Q (F0 m 59 ls [.int (iI ((mB v mm tT i oR wstarts3 z)))]) := by
                  intro H locs hP hD hS ls hl
                  refine lv_istore (lv' := [(5, .int (iI ((mB v mm tT i oR wstarts3 z)))), (7, .int (iI ((frm v mm (prv wstarts3 i) (epv tT oR wstarts3 i) z)))), (6, .int (iI ((z : Int)))), (4, .int (iI ((i : Int)))), (0, .ref (bd 0)), (1, .int (iI ((v : Int)))), (2, .ref (bd 5)), (3, .int (iI ((c0 : Int))))]) hx hb dX1_lays_59 hl (by decide) rfl (fun ls hl => ?_)
                  refine lv_aload_n hx hb dX1_lays_61 rfl (lv_at hl 4 rfl) ?_
                  refine va_get (D := D) (ci := 1) (C := RX1) (T := TX1) (N := 10) hx hb hts inW hown hK hP 0 rfl rfl 5 (by decide) (hts (.fieldLink RX1 20 "FlowforgeModel" "starts" "[I") (List.mem_of_getElem? (i := 2) rfl)) (fun _ h9 => h9) rfl dX1_lays_62 ?_
                  refine lv_iconst (v := iI 5) hx hb dX1_lays_65 rfl ?_
                  refine lv_iload hx hb dX1_lays_66 (lv_at hl 3 rfl) ?_
                  refine w_imul (z := 5 * (i : Int)) hx hb dX1_lays_68 (by omega) ?_
                  refine lv_iload hx hb dX1_lays_69 (lv_at hl 2 rfl) ?_
                  refine w_iadd (z := 5 * (i : Int) + (z : Int)) hx hb dX1_lays_71 (by omega) ?_
                  refine lv_iload hx hb dX1_lays_72 (lv_at hl 0 rfl) ?_
                  refine w_iast (g := tI (pt wstarts3 (mB v mm tT i oR wstarts3) (5 * i) (z + 1))) (ws' := mw bd cI th nn mm bm tT oO (pt wstarts3 (mB v mm tT i oR wstarts3) (5 * i) (z + 1)) tL oR oJ) hx hb hK hP hD hS 3 0 rfl rfl (5 * i + z) (by omega) (by omega) (by decide) (hg := (tI_up.trans (congrArg tI pt_s))) (hw := rfl) (hd := dX1_lays_74) (kk := fun H locs hP hD hS => ?_)
                  refine lv_iload hx hb dX1_lays_75 (lv_at hl 0 rfl) ?_
                  refine lv_aload_n hx hb dX1_lays_77 rfl (lv_at hl 4 rfl) ?_
                  refine lv_aload_n hx hb dX1_lays_78 rfl (lv_at hl 6 rfl) ?_
                  refine lv_iload hx hb dX1_lays_79 (lv_at hl 3 rfl) ?_
                  refine w_iald (v := iI ((oR i : Nat) : Int)) hx hb hK hP 5 0 rfl rfl (i) (by omega) (by omega) (by decide) rfl dX1_lays_81 ?_
                  refine lv_iload hx hb dX1_lays_82 (lv_at hl 2 rfl) ?_
                  refine w_pV (As := [.int (iI (((((oR i)) : Nat) : Int))), .int (iI ((z : Int)))]) (rest := [.int (iI ((mB v mm tT i oR wstarts3 z)))]) ⟨hx, hb, hml, hown, hts⟩ hK hP (mX1_timeOf  (hO i (by omega)) (by omega)) (cwV 2 hts gX1_lays_X1_timeOf rfl rfl rfl (by decide +kernel) ⟨Nat.le_of_ble_eq_true rfl, Nat.le_of_ble_eq_true rfl⟩) (ci := 1) rfl rfl rfl rfl hl.1 (by rw [show ((((oR i : Nat) : Int)) : Int) = ((((oR i)) : Nat) : Int) by omega]; try rfl) (Nat.le_of_ble_eq_true rfl) dX1_lays_84 ⟨Nat.zero_le _, Nat.zero_le _⟩ (fun r84 hr84 => ?_)
                  refine w_top (v := iI ((tT (5 * ((oR i)) + z)))) (hr84) ?_
                  refine w_iadd (z := (mom v mm (tj tT (oR i)) (prv wstarts3 i) (epv tT oR wstarts3 i) 0 (z + 1))) hx hb dX1_lays_87 (rfl) ?_
                  refine lv_istore (lv' := [(5, .int (iI ((mom v mm (tj tT (oR i)) (prv wstarts3 i) (epv tT oR wstarts3 i) 0 (z + 1))))), (7, .int (iI ((frm v mm (prv wstarts3 i) (epv tT oR wstarts3 i) z)))), (6, .int (iI ((z : Int)))), (4, .int (iI ((i : Int)))), (0, .ref (bd 0)), (1, .int (iI ((v : Int)))), (2, .ref (bd 5)), (3, .int (iI ((c0 : Int))))]) hx hb dX1_lays_88 hl (by decide) rfl (fun ls hl => ?_)
                  refine lv_iinc (v := iI ((z : Int) + 1)) (lv' := [(6, .int (iI ((z : Int) + 1))), (5, .int (iI ((mom v mm (tj tT (oR i)) (prv wstarts3 i) (epv tT oR wstarts3 i) 0 (z + 1))))), (7, .int (iI ((frm v mm (prv wstarts3 i) (epv tT oR wstarts3 i) z)))), (4, .int (iI ((i : Int)))), (0, .ref (bd 0)), (1, .int (iI ((v : Int)))), (2, .ref (bd 5)), (3, .int (iI ((c0 : Int))))]) hx hb dX1_lays_90 hl (k := 2) rfl (iI_inc (by omega)) (by decide) rfl (fun ls hl => ?_)
                  refine lv_goto (tgt := 15) hx hb dX1_lays_93 (by decide) ?_
                  exact ih15 (z + 1) (pt wstarts3 (mB v mm tT i oR wstarts3) (5 * i) (z + 1)) ((z : Int) + 1) ((mom v mm (tj tT (oR i)) (prv wstarts3 i) (epv tT oR wstarts3 i) 0 (z + 1))) (by omega) (rfl) (by omega) (rfl) (by omega) _ _ hP hD hS ls (lv_sub hl [0, 1, 3, 4, 5, 6, 7] rfl)
                refine lv_iload hx hb dX1_lays_45 (lv_at hl 0 rfl) ?_
                refine lv_iload hx hb dX1_lays_47 (lv_at hl 2 rfl) ?_
                refine w_icmp_le (tgt := 57) hx hb dX1_lays_49 (by decide) ⟨by omega, by omega⟩ ⟨by omega, by omega⟩ (fun c49 => ?_) (fun c49 => ?_)
                · refine lv_iload hx hb dX1_lays_57 (lv_at hl 2 rfl) ?_
                  refine w_top (v := iI ((mB v mm tT i oR wstarts3 z))) (congrArg iI (by show _ = max _ _; omega)) ?_
                  exact J59  _ _ hP hD hS ls (lv_sub hl [0, 1, 2, 3, 4, 5, 6, 7] rfl)
                · refine lv_iload hx hb dX1_lays_52 (lv_at hl 0 rfl) ?_
                  refine lv_goto (tgt := 59) hx hb dX1_lays_54 (by decide) ?_
                  refine w_top (v := iI ((mB v mm tT i oR wstarts3 z))) (congrArg iI (by show _ = max _ _; omega)) ?_
                  exact J59  _ _ hP hD hS ls (lv_sub hl [0, 1, 2, 3, 4, 5, 6, 7] rfl)
              refine lv_iload hx hb dX1_lays_24 (lv_at hl 2 rfl) ?_
              refine w_if_le (tgt := 42) hx hb dX1_lays_26 (by decide) ⟨by omega, by omega⟩ (fun c26 => ?_) (fun c26 => ?_)
              · refine lv_iconst (v := iI 0) hx hb dX1_lays_42 rfl ?_
                refine w_top (v := iI ((frm v mm (prv wstarts3 i) (epv tT oR wstarts3 i) z))) (congrArg iI (frm_e (by omega)).symm) ?_
                exact J43  _ _ hP hD hS ls (lv_sub hl [0, 1, 2, 3, 4, 5, 6] rfl)
              · refine lv_aload_n hx hb dX1_lays_29 rfl (lv_at hl 3 rfl) ?_
                refine lv_iload_n hx hb dX1_lays_30 rfl (lv_at hl 4 rfl) ?_
                refine lv_aload_n hx hb dX1_lays_31 rfl (lv_at hl 5 rfl) ?_
                refine lv_iload hx hb dX1_lays_32 (lv_at hl 2 rfl) ?_
                refine lv_iload hx hb dX1_lays_34 (lv_at hl 0 rfl) ?_
                refine w_pV (As := [.int (iI ((v : Int))), .ref (bd 5), .int (iI ((i : Int))), .int (iI ((z : Int)))]) (rest := []) ⟨hx, hb, hml, hown, hts⟩ hK hP (mX1_freeAt_t  hm hv (by omega) (hO _ (by omega)) (by omega)) (cwV 4 hts gX1_lays_X1_freeAt rfl rfl rfl (by decide +kernel) ⟨Nat.le_of_ble_eq_true rfl, Nat.le_of_ble_eq_true rfl⟩) (ci := 1) rfl rfl rfl rfl hl.1 rfl (Nat.le_of_ble_eq_true rfl) dX1_lays_36 ⟨Nat.zero_le _, Nat.zero_le _⟩ (fun r36 hr36 => ?_)
                refine w_top (v := iI ((frm v mm (prv wstarts3 i) (epv tT oR wstarts3 i) z))) (hr36.trans (congrArg iI (frm_ptm hm.2 (by omega)))) ?_
                refine lv_goto (tgt := 43) hx hb dX1_lays_39 (by decide) ?_
                exact J43  _ _ hP hD hS ls (lv_sub hl [0, 1, 2, 3, 4, 5, 6] rfl)
        exact L15 (mm - 0 + 1) 0 wstarts3 (0) (0) (by omega) ((pt_0 _ _ _).symm) (by omega) (rfl) (Nat.lt_succ_self _) _ _ hP hD hS ls (lv_sub hl [0, 1, 2, 3, 4, 5, 6] rfl)
  exact L3 (c0 - 0 + 1) 0 tB (0) (by omega) (mrows_0) (by omega) (Nat.lt_succ_self _) _ _ hP hD hS ls (lv_sub hl [0, 1, 2, 3, 4] rfl)
set_option maxHeartbeats 4000000 in
set_option maxRecDepth 100000 in
theorem mX1_plain (hT : ∀ k, 0 ≤ tT k ∧ tT k ≤ 99) (hn : nn ≤ 7) (hm : 1 ≤ mm ∧ mm ≤ 5) (hO : ∀ k, k < nn → oO k < 7) : IM l yX1_plain wsX1_plain (rmx 4 96) D (tyk cI cZ cJ) (mw bd cI th nn mm bm tT oO tB tL oR oJ) [.ref (bd 0)] (QI D (tyk cI cZ cJ) (fun u : (Nat → Int) => mw bd cI th nn mm bm tT oO u tL oR oJ) (fun x u => x = iI (mk 0 mm tT oO nn) ∧ mrows 0 mm tT oO u nn)) := by
  refine imI_of (cc := cX1_plain) (maxL := 1) (by decide) rfl (Nat.le_of_ble_eq_true rfl) ?_
  intro p e s m args below meth c A Q hx hb hml hown hts hA hK hP hD hS hret ls hl
  have hown : s.vm.findClass RX1 = some m.cls := hown
  have hl : lv_has ls 1 [(0, .ref (bd 0))] := hl
  have inW : ∀ w ∈ wsX10, w ∈ wsX1_plain := by first | exact (fun w h => List.mem_cons_of_mem _ (List.mem_append_right _ h)) | exact (fun w h => List.mem_cons_of_mem _ (List.mem_append_left _ (List.mem_append_right _ h))) | exact (fun w h => List.mem_cons_of_mem _ (List.mem_append_left _ (List.mem_append_left _ (List.mem_append_right _ h)))) | decide +kernel
  refine lv_aload_n hx hb dX1_plain_0 rfl (lv_at hl 0 rfl) ?_
  refine lv_iconst (v := iI 0) hx hb dX1_plain_1 rfl ?_
  refine lv_aload_n hx hb dX1_plain_2 rfl (lv_at hl 0 rfl) ?_
  refine va_get (D := D) (ci := 1) (C := RX1) (T := TX1) (N := 10) hx hb hts inW hown hK hP 0 rfl rfl 4 (by decide) (hts (.fieldLink RX1 17 "FlowforgeModel" "order" "[I") (List.mem_of_getElem? (i := 1) rfl)) (fun _ h9 => h9) rfl dX1_plain_3 ?_
  refine lv_aload_n hx hb dX1_plain_6 rfl (lv_at hl 0 rfl) ?_
  refine va_get (D := D) (ci := 1) (C := RX1) (T := TX1) (N := 10) hx hb hts inW hown hK hP 0 rfl rfl 1 (by decide) (hts (.fieldLink RX1 35 "FlowforgeModel" "many" "I") (List.mem_of_getElem? (i := 2) rfl)) (fun _ h9 => h9) rfl dX1_plain_7 ?_
  refine w_iV (As := [.int (iI 0), .ref (bd 2), .int (iI ((nn : Int)))]) (rest := []) (wf := fun u : (Nat → Int) => mw bd cI th nn mm bm tT oO u tL oR oJ) (wr := []) ⟨hx, hb, hml, hown, hts⟩ hK hP hD hS hA (mX1_lays_o (v := 0) hT hm (by omega) hn hO) (cwV 3 hts gX1_plain_X1_lays rfl rfl rfl (by decide +kernel) ⟨Nat.le_of_ble_eq_true rfl, Nat.le_of_ble_eq_true rfl⟩) [0, 1, 2, 3, 4, 5, 6] [] [0, 1, 2, 3, 4, 5, 6] rfl rfl (by decide) (by decide) (by decide) (hwf := fun _ => rfl) (by decide) (ci := 1) rfl rfl rfl rfl hl.1 rfl (Nat.le_of_ble_eq_true rfl) dX1_plain_10 ⟨Nat.zero_le _, Nat.zero_le _⟩ (fun r10 u H locs hr10 hP hD hS => ?_)
  obtain ⟨uB, huB⟩ : ∃ z, z = u := ⟨_, rfl⟩
  subst huB
  obtain ⟨hq10, hI⟩ := hr10
  have hP : va_P D vwCl (mw bd cI th nn mm bm tT oO uB tL oR oJ) H := hP
  have hD : va_D A (mw bd cI th nn mm bm tT oO uB tL oR oJ) := hD
  refine w_top (v := iI ((mk 0 mm tT oO nn))) (hq10) ?_
  exact hret _ _ 13 ls _ (uB) hP hD hS (⟨rfl, hI⟩) dX1_plain_13
end
