section
variable {l : Launch} {D : va_G} {cI cZ cJ : ClassId} {ad bd : Nat → Nat} {a0 : Nat} {ws : va_W} {nn mm : Nat} {th bm : Int} {tT tB tE tL : Nat → Int} {oO oR oQ : Nat → Nat} {zS zM zN : Nat → Int} {oJ fF : Nat → Nat}
set_option maxHeartbeats 4000000 in
set_option maxRecDepth 100000 in
theorem mX0_forgetBestOrders  : IM l yX0_forgetBestOrders wsX0_forgetBestOrders (rmx 0 0) D (tyk cI cZ cJ) (xw ad cI cZ nn mm tT tB tE tL oO oR oQ zS zM zN oJ) [.ref (ad 0)] (QV D (tyk cI cZ cJ) (fun u : Unit => xw ad cI cZ nn mm tT tB tE tL oO oR oQ (zfl zS 3) zM zN oJ) (fun _ => True)) := by
  refine imV_of (cc := cX0_forgetBestOrders) (maxL := 2) (by decide) rfl (Nat.le_of_ble_eq_true rfl) ?_
  intro p e s m args below meth c A Q hx hb hml hown hts hA hK hP hD hS hret ls hl
  have hown : s.vm.findClass RX0 = some m.cls := hown
  have hl : lv_has ls 2 [(0, .ref (ad 0))] := hl
  have inW : ∀ w ∈ wsX00, w ∈ wsX0_forgetBestOrders := by first | exact (fun w h => List.mem_cons_of_mem _ (List.mem_append_right _ h)) | exact (fun w h => List.mem_cons_of_mem _ (List.mem_append_left _ (List.mem_append_right _ h))) | exact (fun w h => List.mem_cons_of_mem _ (List.mem_append_left _ (List.mem_append_left _ (List.mem_append_right _ h)))) | decide +kernel
  refine lv_iconst (v := iI 0) hx hb dX0_forgetBestOrders_0 rfl ?_
  refine lv_istore_n (lv' := [(1, .int (iI 0)), (0, .ref (ad 0))]) hx hb dX0_forgetBestOrders_1 rfl hl (by decide) rfl (fun ls hl => ?_)
  have L2 : ∀ (fu : Nat) (i : Nat) (wsolved2 : Nat → Int) (x1_2 : Int), (i ≤ 3) → (wsolved2 = zfl zS i) → (x1_2 = (i : Int)) → 3 - i < fu → ∀ (H : Heap) (locs : List Loc), va_P D vwCl (xw ad cI cZ nn mm tT tB tE tL oO oR oQ wsolved2 zM zN oJ) H → va_D A (xw ad cI cZ nn mm tT tB tE tL oO oR oQ wsolved2 zM zN oJ) → va_S A s.heap H locs → ∀ ls : Array Slot, lv_has ls 2 [(1, .int (iI (x1_2))), (0, .ref (ad 0))] → W p l e (rmx 0 0) s m args below meth c H locs 0 0 Q (F0 m 2 ls []) := by
    intro fu
    induction fu with
    | zero =>
      intro i wsolved2 x1_2 hi hq0 hq1 hfu
      exact absurd hfu (Nat.not_lt_zero _)
    | succ fu ih =>
      intro i wsolved2 x1_2 hi hq0 hq1 hfu H locs hP hD hS ls hl
      subst hq0
      subst hq1
      have ih2 := ih
      refine lv_iload_n hx hb dX0_forgetBestOrders_2 rfl (lv_at hl 0 rfl) ?_
      refine lv_iconst (v := iI 3) hx hb dX0_forgetBestOrders_3 rfl ?_
      refine w_icmp_ge (tgt := 20) hx hb dX0_forgetBestOrders_4 (by decide) ⟨by omega, by omega⟩ ⟨by omega, by omega⟩ (fun c4 => ?_) (fun c4 => ?_)
      · obtain rfl : i = 3 := by omega
        exact hret _ _ 20 ls (()) hP hD hS (trivial) dX0_forgetBestOrders_20
      · refine lv_aload_n hx hb dX0_forgetBestOrders_7 rfl (lv_at hl 1 rfl) ?_
        refine va_get (D := D) (ci := 0) (C := RX0) (T := TX0) (N := 13) hx hb hts inW hown hK hP 0 rfl rfl 9 (by decide) (hts (.fieldLink RX0 38 "Flowforge" "solved" "[Z") (List.mem_of_getElem? (i := 1) rfl)) (fun _ h9 => h9) rfl dX0_forgetBestOrders_8 ?_
        refine lv_iload_n hx hb dX0_forgetBestOrders_11 rfl (lv_at hl 0 rfl) ?_
        refine lv_iconst (v := iI 0) hx hb dX0_forgetBestOrders_12 rfl ?_
        refine w_zast (g := tI (va_up (zfl zS i) i 0)) (ws' := xw ad cI cZ nn mm tT tB tE tL oO oR oQ (va_up (zfl zS i) i 0) zM zN oJ) hx hb hK hP hD hS 8 1 rfl rfl (i) (by omega) (by omega) (by decide) (by rfl) (hg := tI_up) (hw := rfl) (hd := dX0_forgetBestOrders_13) (kk := fun H locs hP hD hS => ?_)
        refine lv_iinc (v := iI ((i : Int) + 1)) (lv' := [(1, .int (iI ((i : Int) + 1))), (0, .ref (ad 0))]) hx hb dX0_forgetBestOrders_14 hl (k := 0) rfl (iI_inc (by omega)) (by decide) rfl (fun ls hl => ?_)
        refine lv_goto (tgt := 2) hx hb dX0_forgetBestOrders_17 (by decide) ?_
        exact ih2 (i + 1) (va_up (zfl zS i) i 0) ((i : Int) + 1) (by omega) (zfl_s) (by omega) (by omega) _ _ hP hD hS ls (lv_sub hl [0, 1] rfl)
  exact L2 (3 - 0 + 1) 0 zS (0) (by omega) ((zfl_0 _).symm) (by omega) (Nat.lt_succ_self _) _ _ hP hD hS ls (lv_sub hl [0, 1] rfl)
set_option maxHeartbeats 4000000 in
set_option maxRecDepth 100000 in
theorem mX0_swapInTrial {a b : Nat} (ha : a < 7) (hb7 : b < 7) : IM l yX0_swapInTrial wsX0_swapInTrial (rmx 0 0) D (tyk cI cZ cJ) (xw ad cI cZ nn mm tT tB tE tL oO oR oQ zS zM zN oJ) [.ref (ad 0), .int (iI ((a : Int))), .int (iI ((b : Int)))] (QV D (tyk cI cZ cJ) (fun u : Unit => xw ad cI cZ nn mm tT tB tE tL oO (swp oR a b) oQ zS zM zN oJ) (fun _ => True)) := by
  refine imV_of (cc := cX0_swapInTrial) (maxL := 4) (by decide) rfl (Nat.le_of_ble_eq_true rfl) ?_
  intro p e s m args below meth c A Q hx hb hml hown hts hA hK hP hD hS hret ls hl
  have hown : s.vm.findClass RX0 = some m.cls := hown
  have hl : lv_has ls 4 [(0, .ref (ad 0)), (1, .int (iI ((a : Int)))), (2, .int (iI ((b : Int))))] := hl
  have inW : ∀ w ∈ wsX00, w ∈ wsX0_swapInTrial := by first | exact (fun w h => List.mem_cons_of_mem _ (List.mem_append_right _ h)) | exact (fun w h => List.mem_cons_of_mem _ (List.mem_append_left _ (List.mem_append_right _ h))) | exact (fun w h => List.mem_cons_of_mem _ (List.mem_append_left _ (List.mem_append_left _ (List.mem_append_right _ h)))) | decide +kernel
  refine lv_aload_n hx hb dX0_swapInTrial_0 rfl (lv_at hl 0 rfl) ?_
  refine va_get (D := D) (ci := 0) (C := RX0) (T := TX0) (N := 13) hx hb hts inW hown hK hP 0 rfl rfl 7 (by decide) (hts (.fieldLink RX0 32 "Flowforge" "trial" "[I") (List.mem_of_getElem? (i := 1) rfl)) (fun _ h9 => h9) rfl dX0_swapInTrial_1 ?_
  refine lv_iload_n hx hb dX0_swapInTrial_4 rfl (lv_at hl 1 rfl) ?_
  refine w_iald (v := iI ((oR a : Nat) : Int)) hx hb hK hP 6 0 rfl rfl (a) (by omega) (by omega) (by decide) rfl dX0_swapInTrial_5 ?_
  refine lv_istore_n (lv' := [(3, .int (iI (((oR a : Nat) : Int)))), (0, .ref (ad 0)), (1, .int (iI ((a : Int)))), (2, .int (iI ((b : Int))))]) hx hb dX0_swapInTrial_6 rfl hl (by decide) rfl (fun ls hl => ?_)
  refine lv_aload_n hx hb dX0_swapInTrial_7 rfl (lv_at hl 1 rfl) ?_
  refine va_get (D := D) (ci := 0) (C := RX0) (T := TX0) (N := 13) hx hb hts inW hown hK hP 0 rfl rfl 7 (by decide) (hts (.fieldLink RX0 32 "Flowforge" "trial" "[I") (List.mem_of_getElem? (i := 1) rfl)) (fun _ h9 => h9) rfl dX0_swapInTrial_8 ?_
  refine lv_iload_n hx hb dX0_swapInTrial_11 rfl (lv_at hl 2 rfl) ?_
  refine lv_aload_n hx hb dX0_swapInTrial_12 rfl (lv_at hl 1 rfl) ?_
  refine va_get (D := D) (ci := 0) (C := RX0) (T := TX0) (N := 13) hx hb hts inW hown hK hP 0 rfl rfl 7 (by decide) (hts (.fieldLink RX0 32 "Flowforge" "trial" "[I") (List.mem_of_getElem? (i := 1) rfl)) (fun _ h9 => h9) rfl dX0_swapInTrial_13 ?_
  refine lv_iload_n hx hb dX0_swapInTrial_16 rfl (lv_at hl 3 rfl) ?_
  refine w_iald (v := iI ((oR b : Nat) : Int)) hx hb hK hP 6 0 rfl rfl (b) (by omega) (by omega) (by decide) rfl dX0_swapInTrial_17 ?_
  refine w_iast (g := jI (va_up oR a ((oR b)))) (ws' := xw ad cI cZ nn mm tT tB tE tL oO (va_up oR a ((oR b))) oQ zS zM zN oJ) hx hb hK hP hD hS 6 0 rfl rfl (a) (by omega) (by omega) (by decide) (hg := jI_up) (hw := rfl) (hd := dX0_swapInTrial_18) (kk := fun H locs hP hD hS => ?_)
  refine lv_aload_n hx hb dX0_swapInTrial_19 rfl (lv_at hl 1 rfl) ?_
  refine va_get (D := D) (ci := 0) (C := RX0) (T := TX0) (N := 13) hx hb hts inW hown hK hP 0 rfl rfl 7 (by decide) (hts (.fieldLink RX0 32 "Flowforge" "trial" "[I") (List.mem_of_getElem? (i := 1) rfl)) (fun _ h9 => h9) rfl dX0_swapInTrial_20 ?_
  refine lv_iload_n hx hb dX0_swapInTrial_23 rfl (lv_at hl 3 rfl) ?_
  refine lv_iload_n hx hb dX0_swapInTrial_24 rfl (lv_at hl 0 rfl) ?_
  refine w_iast (g := jI (va_up (va_up oR a ((oR b))) b ((oR a)))) (ws' := xw ad cI cZ nn mm tT tB tE tL oO (va_up (va_up oR a ((oR b))) b ((oR a))) oQ zS zM zN oJ) hx hb hK hP hD hS 6 0 rfl rfl (b) (by omega) (by omega) (by decide) (hg := jI_up) (hw := rfl) (hd := dX0_swapInTrial_25) (kk := fun H locs hP hD hS => ?_)
  exact hret _ _ 26 ls (()) hP hD hS (trivial) dX0_swapInTrial_26
set_option maxHeartbeats 4000000 in
set_option maxRecDepth 100000 in
theorem mX0_stepTrial_0 (h0 : nn = 0) : IM l yX0_stepTrial wsX0_stepTrial (rmx 1 23) D (tyk cI cZ cJ) (xw ad cI cZ nn mm tT tB tE tL oO oR oQ zS zM zN oJ) [.ref (ad 0)] (QI D (tyk cI cZ cJ) (fun u : Unit => xw ad cI cZ nn mm tT tB tE tL oO (nxT oR nn) oQ zS zM zN oJ) (fun x _ => x = iI (((pvt oR (nn - 1) : Nat) : Int) - 1))) := by
  refine imI_of (cc := cX0_stepTrial) (maxL := 5) (by decide) rfl (Nat.le_of_ble_eq_true rfl) ?_
  intro p e s m args below meth c A Q hx hb hml hown hts hA hK hP hD hS hret ls hl
  have hown : s.vm.findClass RX0 = some m.cls := hown
  have hl : lv_has ls 5 [(0, .ref (ad 0))] := hl
  have inW : ∀ w ∈ wsX00, w ∈ wsX0_stepTrial := by first | exact (fun w h => List.mem_cons_of_mem _ (List.mem_append_right _ h)) | exact (fun w h => List.mem_cons_of_mem _ (List.mem_append_left _ (List.mem_append_right _ h))) | exact (fun w h => List.mem_cons_of_mem _ (List.mem_append_left _ (List.mem_append_left _ (List.mem_append_right _ h)))) | decide +kernel
  have hp0 : pvt oR (nn - 1) = 0 := by rw [h0]; rfl
  refine lv_aload_n hx hb dX0_stepTrial_0 rfl (lv_at hl 0 rfl) ?_
  refine va_get (D := D) (ci := 0) (C := RX0) (T := TX0) (N := 13) hx hb hts inW hown hK hP 0 rfl rfl 0 (by decide) (hts (.fieldLink RX0 7 "Flowforge" "jobCount" "I") (List.mem_of_getElem? (i := 1) rfl)) (fun _ h9 => h9) rfl dX0_stepTrial_1 ?_
  refine lv_iconst (v := iI 2) hx hb dX0_stepTrial_4 rfl ?_
  refine w_isub (z := (nn : Int) - 2) hx hb dX0_stepTrial_5 (by omega) ?_
  refine lv_istore_n (lv' := [(1, .int (iI ((nn : Int) - 2))), (0, .ref (ad 0))]) hx hb dX0_stepTrial_6 rfl hl (by decide) rfl (fun ls hl => ?_)
  refine lv_iload_n hx hb dX0_stepTrial_7 rfl (lv_at hl 0 rfl) ?_
  refine w_if_lt (tgt := 34) hx hb dX0_stepTrial_8 (by decide) ⟨by omega, by omega⟩ (fun c8 => ?_) (fun c8 => absurd c8 (by omega))
  refine lv_iload_n hx hb dX0_stepTrial_34 rfl (lv_at hl 0 rfl) ?_
  refine w_if_ge (tgt := 40) hx hb dX0_stepTrial_35 (by decide) ⟨by omega, by omega⟩ (fun c35 => absurd c35 (by omega)) (fun c35 => ?_)
  refine lv_iconst (v := iI (-1)) hx hb dX0_stepTrial_38 rfl ?_
  have e9 : nxT oR nn = oR := by unfold nxT; rw [if_pos hp0]
  rw [← e9] at hP hD
  exact hret _ _ 39 ls _ (()) hP hD hS (by rw [hp0]; rfl) dX0_stepTrial_39
set_option maxHeartbeats 4000000 in
set_option maxRecDepth 100000 in
theorem mX0_stepTrial_1 (h1 : 1 ≤ nn) (hn : nn ≤ 7) (hR : ∀ k, k < nn → oR k < 7) : IM l yX0_stepTrial wsX0_stepTrial (rmx 1 23) D (tyk cI cZ cJ) (xw ad cI cZ nn mm tT tB tE tL oO oR oQ zS zM zN oJ) [.ref (ad 0)] (QI D (tyk cI cZ cJ) (fun u : Unit => xw ad cI cZ nn mm tT tB tE tL oO (nxT oR nn) oQ zS zM zN oJ) (fun x _ => x = iI (((pvt oR (nn - 1) : Nat) : Int) - 1))) := by
  refine imI_of (cc := cX0_stepTrial) (maxL := 5) (by decide) rfl (Nat.le_of_ble_eq_true rfl) ?_
  intro p e s m args below meth c A Q hx hb hml hown hts hA hK hP hD hS hret ls hl
  have hown : s.vm.findClass RX0 = some m.cls := hown
  have hl : lv_has ls 5 [(0, .ref (ad 0))] := hl
  have inW : ∀ w ∈ wsX00, w ∈ wsX0_stepTrial := by first | exact (fun w h => List.mem_cons_of_mem _ (List.mem_append_right _ h)) | exact (fun w h => List.mem_cons_of_mem _ (List.mem_append_left _ (List.mem_append_right _ h))) | exact (fun w h => List.mem_cons_of_mem _ (List.mem_append_left _ (List.mem_append_left _ (List.mem_append_right _ h)))) | decide +kernel
  refine lv_aload_n hx hb dX0_stepTrial_0 rfl (lv_at hl 0 rfl) ?_
  refine va_get (D := D) (ci := 0) (C := RX0) (T := TX0) (N := 13) hx hb hts inW hown hK hP 0 rfl rfl 0 (by decide) (hts (.fieldLink RX0 7 "Flowforge" "jobCount" "I") (List.mem_of_getElem? (i := 1) rfl)) (fun _ h9 => h9) rfl dX0_stepTrial_1 ?_
  refine lv_iconst (v := iI 2) hx hb dX0_stepTrial_4 rfl ?_
  refine w_isub (z := (nn : Int) - 2) hx hb dX0_stepTrial_5 (by omega) ?_
  refine lv_istore_n (lv' := [(1, .int (iI ((nn : Int) - 2))), (0, .ref (ad 0))]) hx hb dX0_stepTrial_6 rfl hl (by decide) rfl (fun ls hl => ?_)
  have L7 : ∀ (fu : Nat) (c0 : Nat) (x1_7 : Int), (c0 ≤ nn - 1) → (pvt oR (nn - 1) = pvt oR c0) → (x1_7 = (c0 : Int) - 1) → c0 < fu → ∀ (H : Heap) (locs : List Loc), va_P D vwCl (xw ad cI cZ nn mm tT tB tE tL oO oR oQ zS zM zN oJ) H → va_D A (xw ad cI cZ nn mm tT tB tE tL oO oR oQ zS zM zN oJ) → va_S A s.heap H locs → ∀ ls : Array Slot, lv_has ls 5 [(1, .int (iI (x1_7))), (0, .ref (ad 0))] → W p l e (rmx 1 23) s m args below meth c H locs 0 0 Q (F0 m 7 ls []) := by
    intro fu
    induction fu with
    | zero =>
      intro c0 x1_7 hc hp hq0 hfu
      exact absurd hfu (Nat.not_lt_zero _)
    | succ fu ih =>
      intro c0 x1_7 hc hp hq0 hfu H locs hP hD hS ls hl
      subst hq0
      have ih7 := ih
      refine lv_iload_n hx hb dX0_stepTrial_7 rfl (lv_at hl 0 rfl) ?_
      refine w_if_lt (tgt := 34) hx hb dX0_stepTrial_8 (by decide) ⟨by omega, by omega⟩ (fun c8 => ?_) (fun c8 => ?_)
      · have hp0 : pvt oR (nn - 1) = 0 := by rw [hp, show c0 = 0 by omega]; rfl
        refine lv_iload_n hx hb dX0_stepTrial_34 rfl (lv_at hl 0 rfl) ?_
        refine w_if_ge (tgt := 40) hx hb dX0_stepTrial_35 (by decide) ⟨by omega, by omega⟩ (fun c35 => absurd c35 (by omega)) (fun c35 => ?_)
        refine lv_iconst (v := iI (-1)) hx hb dX0_stepTrial_38 rfl ?_
        have e9 : nxT oR nn = oR := by unfold nxT; rw [if_pos hp0]
        rw [← e9] at hP hD
        exact hret _ _ 39 ls _ (()) hP hD hS (by rw [hp0]; rfl) dX0_stepTrial_39
      · have hc1 : 0 < c0 := by omega
        have h8 := hR (c0 - 1) (by omega)
        have h7 := hR c0 (by omega)
        refine lv_aload_n hx hb dX0_stepTrial_11 rfl (lv_at hl 1 rfl) ?_
        refine va_get (D := D) (ci := 0) (C := RX0) (T := TX0) (N := 13) hx hb hts inW hown hK hP 0 rfl rfl 7 (by decide) (hts (.fieldLink RX0 32 "Flowforge" "trial" "[I") (List.mem_of_getElem? (i := 2) rfl)) (fun _ h9 => h9) rfl dX0_stepTrial_12 ?_
        refine lv_iload_n hx hb dX0_stepTrial_15 rfl (lv_at hl 0 rfl) ?_
        refine w_iald (v := iI ((oR (c0 - 1) : Nat) : Int)) hx hb hK hP 6 0 rfl rfl (c0 - 1) (by omega) (by omega) (by decide) rfl dX0_stepTrial_16 ?_
        refine lv_aload_n hx hb dX0_stepTrial_17 rfl (lv_at hl 1 rfl) ?_
        refine va_get (D := D) (ci := 0) (C := RX0) (T := TX0) (N := 13) hx hb hts inW hown hK hP 0 rfl rfl 7 (by decide) (hts (.fieldLink RX0 32 "Flowforge" "trial" "[I") (List.mem_of_getElem? (i := 2) rfl)) (fun _ h9 => h9) rfl dX0_stepTrial_18 ?_
        refine lv_iload_n hx hb dX0_stepTrial_21 rfl (lv_at hl 0 rfl) ?_
        refine lv_iconst (v := iI 1) hx hb dX0_stepTrial_22 rfl ?_
        refine w_iadd (z := (c0 : Int)) hx hb dX0_stepTrial_23 (by omega) ?_
        refine w_iald (v := iI ((oR c0 : Nat) : Int)) hx hb hK hP 6 0 rfl rfl (c0) (by omega) (by omega) (by decide) rfl dX0_stepTrial_24 ?_
        refine w_icmp_le (tgt := 34) hx hb dX0_stepTrial_25 (by decide) ⟨by omega, by omega⟩ ⟨by omega, by omega⟩ (fun c25 => ?_) (fun c25 => ?_)
        · have hp0 : pvt oR (nn - 1) = c0 := by rw [hp]; exact pvt_y hc1 (by omega)
          refine lv_iload_n hx hb dX0_stepTrial_34 rfl (lv_at hl 0 rfl) ?_
          refine w_if_ge (tgt := 40) hx hb dX0_stepTrial_35 (by decide) ⟨by omega, by omega⟩ (fun c35 => ?_) (fun c35 => absurd c35 (by omega))
          refine lv_aload_n hx hb dX0_stepTrial_40 rfl (lv_at hl 1 rfl) ?_
          refine va_get (D := D) (ci := 0) (C := RX0) (T := TX0) (N := 13) hx hb hts inW hown hK hP 0 rfl rfl 0 (by decide) (hts (.fieldLink RX0 7 "Flowforge" "jobCount" "I") (List.mem_of_getElem? (i := 1) rfl)) (fun _ h9 => h9) rfl dX0_stepTrial_41 ?_
          refine lv_iconst (v := iI 1) hx hb dX0_stepTrial_44 rfl ?_
          refine w_isub (z := (nn : Int) - 1) hx hb dX0_stepTrial_45 (by omega) ?_
          refine lv_istore_n (lv' := [(2, .int (iI ((nn : Int) - 1))), (1, .int (iI ((c0 : Int) - 1))), (0, .ref (ad 0))]) hx hb dX0_stepTrial_46 rfl hl (by decide) rfl (fun ls hl => ?_)
          have L47 : ∀ (fu : Nat) (q : Nat) (x2_47 : Int), (c0 ≤ q) → (q ≤ nn - 1) → (ptn oR (c0 - 1) (nn - 1) = ptn oR (c0 - 1) q) → (x2_47 = (q : Int)) → q < fu → ∀ (H : Heap) (locs : List Loc), va_P D vwCl (xw ad cI cZ nn mm tT tB tE tL oO oR oQ zS zM zN oJ) H → va_D A (xw ad cI cZ nn mm tT tB tE tL oO oR oQ zS zM zN oJ) → va_S A s.heap H locs → ∀ ls : Array Slot, lv_has ls 5 [(2, .int (iI (x2_47))), (1, .int (iI ((c0 : Int) - 1))), (0, .ref (ad 0))] → W p l e (rmx 1 23) s m args below meth c H locs 0 0 Q (F0 m 47 ls []) := by
            intro fu
            induction fu with
            | zero =>
              intro q x2_47 hq1 hq2 hq hq0 hfu
              exact absurd hfu (Nat.not_lt_zero _)
            | succ fu ih =>
              intro q x2_47 hq1 hq2 hq hq0 hfu H locs hP hD hS ls hl
              subst hq0
              have ih47 := ih
              have h6 := hR q (by omega)
              refine lv_iload_n hx hb dX0_stepTrial_47 rfl (lv_at hl 0 rfl) ?_
              refine lv_iload_n hx hb dX0_stepTrial_48 rfl (lv_at hl 1 rfl) ?_
              refine lv_iconst (v := iI 1) hx hb dX0_stepTrial_49 rfl ?_
              refine w_iadd (z := (c0 : Int)) hx hb dX0_stepTrial_50 (by omega) ?_
              have J75 : (ptn oR (c0 - 1) (nn - 1) = q) → ∀ (H : Heap) (locs : List Loc), va_P D vwCl (xw ad cI cZ nn mm tT tB tE tL oO oR oQ zS zM zN oJ) H → va_D A (xw ad cI cZ nn mm tT tB tE tL oO oR oQ zS zM zN oJ) → va_S A s.heap H locs → ∀ ls : Array Slot, lv_has ls 5 [(2, .int (iI ((q : Int)))), (1, .int (iI ((c0 : Int) - 1))), (0, .ref (ad 0))] → W p l e (rmx 1 23) s m args below meth c H locs 0 0 Q (F0 m 75 ls []) := by
                intro hQ H locs hP hD hS ls hl
                refine lv_aload_n hx hb dX0_stepTrial_75 rfl (lv_at hl 2 rfl) ?_
                refine lv_iload_n hx hb dX0_stepTrial_76 rfl (lv_at hl 1 rfl) ?_
                refine lv_iload_n hx hb dX0_stepTrial_77 rfl (lv_at hl 0 rfl) ?_
                refine w_iVv (As := [.int (iI ((((c0 - 1) : Nat) : Int))), .int (iI ((q : Int)))]) (rest := []) (wf := fun u : Unit => xw ad cI cZ nn mm tT tB tE tL oO (swp oR (c0 - 1) q) oQ zS zM zN oJ) (wr := []) ⟨hx, hb, hml, hown, hts⟩ hK hP hD hS hA (mX0_swapInTrial  (a := c0 - 1) (b := q) (by omega) (by omega)) (cwV 2 hts gX0_stepTrial_X0_swapInTrial rfl rfl rfl (by decide +kernel) ⟨Nat.le_of_ble_eq_true rfl, Nat.le_of_ble_eq_true rfl⟩) [0, 1, 2, 3, 4, 5, 6, 7, 8, 9, 10, 11] [] [0, 1, 2, 3, 4, 5, 6, 7, 8, 9, 10, 11] rfl rfl (by decide) (by decide) (by decide) (hwf := fun _ => rfl) (by decide) (ci := 0) rfl rfl rfl rfl hl.1 (by rw [show (((c0 : Int) - 1) : Int) = (((c0 - 1) : Nat) : Int) by omega]; try rfl) (Nat.le_of_ble_eq_true rfl) dX0_stepTrial_78 ⟨Nat.zero_le _, Nat.zero_le _⟩ (fun u H locs hr78 hP hD hS => ?_)
                refine lv_iload_n hx hb dX0_stepTrial_81 rfl (lv_at hl 1 rfl) ?_
                refine lv_iconst (v := iI 1) hx hb dX0_stepTrial_82 rfl ?_
                refine w_iadd (z := (c0 : Int)) hx hb dX0_stepTrial_83 (by omega) ?_
                refine lv_istore_n (lv' := [(3, .int (iI ((c0 : Int)))), (2, .int (iI ((q : Int)))), (1, .int (iI ((c0 : Int) - 1))), (0, .ref (ad 0))]) hx hb dX0_stepTrial_84 rfl hl (by decide) rfl (fun ls hl => ?_)
                refine lv_aload_n hx hb dX0_stepTrial_85 rfl (lv_at hl 3 rfl) ?_
                refine va_get (D := D) (ci := 0) (C := RX0) (T := TX0) (N := 13) hx hb hts inW hown hK hP 0 rfl rfl 0 (by decide) (hts (.fieldLink RX0 7 "Flowforge" "jobCount" "I") (List.mem_of_getElem? (i := 1) rfl)) (fun _ h9 => h9) rfl dX0_stepTrial_86 ?_
                refine lv_iconst (v := iI 1) hx hb dX0_stepTrial_89 rfl ?_
                refine w_isub (z := (nn : Int) - 1) hx hb dX0_stepTrial_90 (by omega) ?_
                refine lv_istore (lv' := [(4, .int (iI ((nn : Int) - 1))), (3, .int (iI ((c0 : Int)))), (2, .int (iI ((q : Int)))), (1, .int (iI ((c0 : Int) - 1))), (0, .ref (ad 0))]) hx hb dX0_stepTrial_91 hl (by decide) rfl (fun ls hl => ?_)
                have L93 : ∀ (fu : Nat) (i : Nat) (wtrial93 : Nat → Nat) (x4_93 : Int) (x3_93 : Int), (i ≤ (nn - c0) / 2) → (wtrial93 = rvs (swp oR (c0 - 1) q) c0 (nn - 1) i) → (x4_93 = (nn : Int) - (i : Int) - 1) → (x3_93 = (c0 : Int) + (i : Int)) → (nn - c0) / 2 - i < fu → ∀ (H : Heap) (locs : List Loc), va_P D vwCl (xw ad cI cZ nn mm tT tB tE tL oO wtrial93 oQ zS zM zN oJ) H → va_D A (xw ad cI cZ nn mm tT tB tE tL oO wtrial93 oQ zS zM zN oJ) → va_S A s.heap H locs → ∀ ls : Array Slot, lv_has ls 5 [(4, .int (iI (x4_93))), (3, .int (iI (x3_93))), (2, .int (iI ((q : Int)))), (1, .int (iI ((c0 : Int) - 1))), (0, .ref (ad 0))] → W p l e (rmx 1 23) s m args below meth c H locs 0 0 Q (F0 m 93 ls []) := by
                  intro fu
                  induction fu with
                  | zero =>
                    intro i wtrial93 x4_93 x3_93 hi hq0 hq1 hq2 hfu
                    exact absurd hfu (Nat.not_lt_zero _)
                  | succ fu ih =>
                    intro i wtrial93 x4_93 x3_93 hi hq0 hq1 hq2 hfu H locs hP hD hS ls hl
                    subst hq0
                    subst hq1
                    subst hq2
                    have ih93 := ih
                    refine lv_iload_n hx hb dX0_stepTrial_93 rfl (lv_at hl 1 rfl) ?_
                    refine lv_iload hx hb dX0_stepTrial_94 (lv_at hl 0 rfl) ?_
                    refine w_icmp_ge (tgt := 115) hx hb dX0_stepTrial_96 (by decide) ⟨by omega, by omega⟩ ⟨by omega, by omega⟩ (fun c96 => ?_) (fun c96 => ?_)
                    · obtain rfl : i = (nn - c0) / 2 := by omega
                      refine lv_iload_n hx hb dX0_stepTrial_115 rfl (lv_at hl 3 rfl) ?_
                      have e9 : nxT oR nn = rvs (swp oR (c0 - 1) q) c0 (nn - 1) ((nn - c0) / 2) := by unfold nxT; rw [hp0, if_neg (by omega), hQ]
                      rw [← e9] at hP hD
                      exact hret _ _ 116 ls _ (()) hP hD hS (by rw [hp0]) dX0_stepTrial_116
                    · refine lv_aload_n hx hb dX0_stepTrial_99 rfl (lv_at hl 4 rfl) ?_
                      refine lv_iload_n hx hb dX0_stepTrial_100 rfl (lv_at hl 1 rfl) ?_
                      refine lv_iload hx hb dX0_stepTrial_101 (lv_at hl 0 rfl) ?_
                      refine w_iVv (As := [.int (iI ((((c0 + i) : Nat) : Int))), .int (iI ((((nn - 1 - i) : Nat) : Int)))]) (rest := []) (wf := fun u : Unit => xw ad cI cZ nn mm tT tB tE tL oO (swp (rvs (swp oR (c0 - 1) q) c0 (nn - 1) i) (c0 + i) (nn - 1 - i)) oQ zS zM zN oJ) (wr := []) ⟨hx, hb, hml, hown, hts⟩ hK hP hD hS hA (mX0_swapInTrial  (a := c0 + i) (b := nn - 1 - i) (by omega) (by omega)) (cwV 2 hts gX0_stepTrial_X0_swapInTrial rfl rfl rfl (by decide +kernel) ⟨Nat.le_of_ble_eq_true rfl, Nat.le_of_ble_eq_true rfl⟩) [0, 1, 2, 3, 4, 5, 6, 7, 8, 9, 10, 11] [] [0, 1, 2, 3, 4, 5, 6, 7, 8, 9, 10, 11] rfl rfl (by decide) (by decide) (by decide) (hwf := fun _ => rfl) (by decide) (ci := 0) rfl rfl rfl rfl hl.1 (by rw [show (((c0 : Int) + (i : Int)) : Int) = (((c0 + i) : Nat) : Int) by omega]; rw [show (((nn : Int) - (i : Int) - 1) : Int) = (((nn - 1 - i) : Nat) : Int) by omega]; try rfl) (Nat.le_of_ble_eq_true rfl) dX0_stepTrial_103 ⟨Nat.zero_le _, Nat.zero_le _⟩ (fun u H locs hr103 hP hD hS => ?_)
                      refine lv_iinc (v := iI ((c0 : Int) + (i : Int) + 1)) (lv' := [(3, .int (iI ((c0 : Int) + (i : Int) + 1))), (4, .int (iI ((nn : Int) - (i : Int) - 1))), (2, .int (iI ((q : Int)))), (1, .int (iI ((c0 : Int) - 1))), (0, .ref (ad 0))]) hx hb dX0_stepTrial_106 hl (k := 1) rfl (iI_inc (by omega)) (by decide) rfl (fun ls hl => ?_)
                      refine lv_iinc (v := iI ((nn : Int) - (i : Int) - 2)) (lv' := [(4, .int (iI ((nn : Int) - (i : Int) - 2))), (3, .int (iI ((c0 : Int) + (i : Int) + 1))), (2, .int (iI ((q : Int)))), (1, .int (iI ((c0 : Int) - 1))), (0, .ref (ad 0))]) hx hb dX0_stepTrial_109 hl (k := 1) rfl (iI_inc (by omega)) (by decide) rfl (fun ls hl => ?_)
                      refine lv_goto (tgt := 93) hx hb dX0_stepTrial_112 (by decide) ?_
                      exact ih93 (i + 1) (swp (rvs (swp oR (c0 - 1) q) c0 (nn - 1) i) (c0 + i) (nn - 1 - i)) ((nn : Int) - (i : Int) - 2) ((c0 : Int) + (i : Int) + 1) (by omega) (rfl) (by omega) (by omega) (by omega) _ _ hP hD hS ls (lv_sub hl [0, 1, 2, 3, 4] rfl)
                exact L93 ((nn - c0) / 2 - 0 + 1) 0 (swp oR (c0 - 1) q) ((nn : Int) - 1) ((c0 : Int)) (by omega) (rfl) (by omega) (by omega) (Nat.lt_succ_self _) _ _ hP hD hS ls (lv_sub hl [0, 1, 2, 3, 4] rfl)
              refine w_icmp_le (tgt := 75) hx hb dX0_stepTrial_51 (by decide) ⟨by omega, by omega⟩ ⟨by omega, by omega⟩ (fun c51 => ?_) (fun c51 => ?_)
              · exact J75 (hq.trans (ptn_y1 (by omega))) _ _ hP hD hS ls (lv_sub hl [0, 1, 2] rfl)
              · refine lv_aload_n hx hb dX0_stepTrial_54 rfl (lv_at hl 2 rfl) ?_
                refine va_get (D := D) (ci := 0) (C := RX0) (T := TX0) (N := 13) hx hb hts inW hown hK hP 0 rfl rfl 7 (by decide) (hts (.fieldLink RX0 32 "Flowforge" "trial" "[I") (List.mem_of_getElem? (i := 2) rfl)) (fun _ h9 => h9) rfl dX0_stepTrial_55 ?_
                refine lv_iload_n hx hb dX0_stepTrial_58 rfl (lv_at hl 0 rfl) ?_
                refine w_iald (v := iI ((oR q : Nat) : Int)) hx hb hK hP 6 0 rfl rfl (q) (by omega) (by omega) (by decide) rfl dX0_stepTrial_59 ?_
                refine lv_aload_n hx hb dX0_stepTrial_60 rfl (lv_at hl 2 rfl) ?_
                refine va_get (D := D) (ci := 0) (C := RX0) (T := TX0) (N := 13) hx hb hts inW hown hK hP 0 rfl rfl 7 (by decide) (hts (.fieldLink RX0 32 "Flowforge" "trial" "[I") (List.mem_of_getElem? (i := 2) rfl)) (fun _ h9 => h9) rfl dX0_stepTrial_61 ?_
                refine lv_iload_n hx hb dX0_stepTrial_64 rfl (lv_at hl 1 rfl) ?_
                refine w_iald (v := iI ((oR (c0 - 1) : Nat) : Int)) hx hb hK hP 6 0 rfl rfl (c0 - 1) (by omega) (by omega) (by decide) rfl dX0_stepTrial_65 ?_
                refine w_icmp_ge (tgt := 75) hx hb dX0_stepTrial_66 (by decide) ⟨by omega, by omega⟩ ⟨by omega, by omega⟩ (fun c66 => ?_) (fun c66 => ?_)
                · exact J75 (hq.trans (ptn_y2 (by omega))) _ _ hP hD hS ls (lv_sub hl [0, 1, 2] rfl)
                · refine lv_iinc (v := iI ((q : Int) - 1)) (lv' := [(2, .int (iI ((q : Int) - 1))), (1, .int (iI ((c0 : Int) - 1))), (0, .ref (ad 0))]) hx hb dX0_stepTrial_69 hl (k := 0) rfl (iI_inc (by omega)) (by decide) rfl (fun ls hl => ?_)
                  refine lv_goto (tgt := 47) hx hb dX0_stepTrial_72 (by decide) ?_
                  exact ih47 (q - 1) ((q : Int) - 1) (by omega) (by omega) (hq.trans (ptn_n (by omega) (by omega))) (by omega) (by omega) _ _ hP hD hS ls (lv_sub hl [0, 1, 2] rfl)
          exact L47 ((nn - 1) + 1) (nn - 1) ((nn : Int) - 1) (by omega) (by omega) (rfl) (by omega) (Nat.lt_succ_self _) _ _ hP hD hS ls (lv_sub hl [0, 1, 2] rfl)
        · have hp1 : pvt oR c0 = pvt oR (c0 - 1) := pvt_n hc1 (by omega)
          refine lv_iinc (v := iI ((c0 : Int) - 2)) (lv' := [(1, .int (iI ((c0 : Int) - 2))), (0, .ref (ad 0))]) hx hb dX0_stepTrial_28 hl (k := 0) rfl (iI_inc (by omega)) (by decide) rfl (fun ls hl => ?_)
          refine lv_goto (tgt := 7) hx hb dX0_stepTrial_31 (by decide) ?_
          exact ih7 (c0 - 1) ((c0 : Int) - 2) (by omega) (hp.trans hp1) (by omega) (by omega) _ _ hP hD hS ls (lv_sub hl [0, 1] rfl)
  exact L7 ((nn - 1) + 1) (nn - 1) ((nn : Int) - 2) (by omega) (rfl) (by omega) (Nat.lt_succ_self _) _ _ hP hD hS ls (lv_sub hl [0, 1] rfl)
set_option maxRecDepth 100000 in
theorem mX0_stepTrial  (hn : nn ≤ 7) (hR : ∀ k, k < nn → oR k < 7) : IM l yX0_stepTrial wsX0_stepTrial (rmx 1 23) D (tyk cI cZ cJ) (xw ad cI cZ nn mm tT tB tE tL oO oR oQ zS zM zN oJ) [.ref (ad 0)] (QI D (tyk cI cZ cJ) (fun u : Unit => xw ad cI cZ nn mm tT tB tE tL oO (nxT oR nn) oQ zS zM zN oJ) (fun x _ => x = iI (((pvt oR (nn - 1) : Nat) : Int) - 1))) := by
  rcases Nat.eq_zero_or_pos nn with h | h
  · exact mX0_stepTrial_0 h
  · exact mX0_stepTrial_1 h hn hR
set_option maxHeartbeats 4000000 in
set_option maxRecDepth 100000 in
theorem mX0_countTrial_A {v : Nat} {ms : Int} (hn : nn ≤ 7) (hv : v ≤ 2) (hM : 0 ≤ zM v ∧ zM v ≤ 1000000) (hN : 0 ≤ zN v ∧ zN v ≤ 1000000) (hms : 0 ≤ ms ∧ ms ≤ 1000000) (hC : zN v = 0 ∨ ms < zM v) : IM l yX0_countTrial wsX0_countTrial (rmx 1 60) D (tyk cI cZ cJ) (xw ad cI cZ nn mm tT tB tE tL oO oR oQ zS zM zN oJ) [.ref (ad 0), .int (iI ((v : Int))), .int (iI (ms))] (QV D (tyk cI cZ cJ) (fun u : Unit => xw ad cI cZ nn mm tT tB tE tL oO oR oQ zS (va_up zM v ms) (va_up (va_up zN v 0) v 1) (va_cpy oR oJ 0 (7 * v) nn)) (fun _ => True)) := by
  refine imV_of (cc := cX0_countTrial) (maxL := 3) (by decide) rfl (Nat.le_of_ble_eq_true rfl) ?_
  intro p e s m args below meth c A Q hx hb hml hown hts hA hK hP hD hS hret ls hl
  have hown : s.vm.findClass RX0 = some m.cls := hown
  have hl : lv_has ls 3 [(0, .ref (ad 0)), (1, .int (iI ((v : Int)))), (2, .int (iI (ms)))] := hl
  have inW : ∀ w ∈ wsX00, w ∈ wsX0_countTrial := by first | exact (fun w h => List.mem_cons_of_mem _ (List.mem_append_right _ h)) | exact (fun w h => List.mem_cons_of_mem _ (List.mem_append_left _ (List.mem_append_right _ h))) | exact (fun w h => List.mem_cons_of_mem _ (List.mem_append_left _ (List.mem_append_left _ (List.mem_append_right _ h)))) | decide +kernel
  refine lv_aload_n hx hb dX0_countTrial_0 rfl (lv_at hl 0 rfl) ?_
  refine va_get (D := D) (ci := 0) (C := RX0) (T := TX0) (N := 13) hx hb hts inW hown hK hP 0 rfl rfl 11 (by decide) (hts (.fieldLink RX0 45 "Flowforge" "leastCounts" "[I") (List.mem_of_getElem? (i := 1) rfl)) (fun _ h9 => h9) rfl dX0_countTrial_1 ?_
  refine lv_iload_n hx hb dX0_countTrial_4 rfl (lv_at hl 1 rfl) ?_
  refine w_iald (v := iI (zN v)) hx hb hK hP 10 0 rfl rfl (v) (by omega) (by omega) (by decide) rfl dX0_countTrial_5 ?_
  have J19 : ∀ (H : Heap) (locs : List Loc), va_P D vwCl (xw ad cI cZ nn mm tT tB tE tL oO oR oQ zS zM zN oJ) H → va_D A (xw ad cI cZ nn mm tT tB tE tL oO oR oQ zS zM zN oJ) → va_S A s.heap H locs → ∀ ls : Array Slot, lv_has ls 3 [(0, .ref (ad 0)), (1, .int (iI ((v : Int)))), (2, .int (iI (ms)))] → W p l e (rmx 1 60) s m args below meth c H locs 0 0 Q (F0 m 19 ls []) := by
    intro H locs hP hD hS ls hl
    refine lv_aload_n hx hb dX0_countTrial_19 rfl (lv_at hl 0 rfl) ?_
    refine va_get (D := D) (ci := 0) (C := RX0) (T := TX0) (N := 13) hx hb hts inW hown hK hP 0 rfl rfl 10 (by decide) (hts (.fieldLink RX0 42 "Flowforge" "leastMakespans" "[I") (List.mem_of_getElem? (i := 2) rfl)) (fun _ h9 => h9) rfl dX0_countTrial_20 ?_
    refine lv_iload_n hx hb dX0_countTrial_23 rfl (lv_at hl 1 rfl) ?_
    refine lv_iload_n hx hb dX0_countTrial_24 rfl (lv_at hl 2 rfl) ?_
    refine w_iast (g := tI (va_up zM v ms)) (ws' := xw ad cI cZ nn mm tT tB tE tL oO oR oQ zS (va_up zM v ms) zN oJ) hx hb hK hP hD hS 9 0 rfl rfl (v) (by omega) (by omega) (by decide) (hg := tI_up) (hw := rfl) (hd := dX0_countTrial_25) (kk := fun H locs hP hD hS => ?_)
    refine lv_aload_n hx hb dX0_countTrial_26 rfl (lv_at hl 0 rfl) ?_
    refine va_get (D := D) (ci := 0) (C := RX0) (T := TX0) (N := 13) hx hb hts inW hown hK hP 0 rfl rfl 11 (by decide) (hts (.fieldLink RX0 45 "Flowforge" "leastCounts" "[I") (List.mem_of_getElem? (i := 1) rfl)) (fun _ h9 => h9) rfl dX0_countTrial_27 ?_
    refine lv_iload_n hx hb dX0_countTrial_30 rfl (lv_at hl 1 rfl) ?_
    refine lv_iconst (v := iI 0) hx hb dX0_countTrial_31 rfl ?_
    refine w_iast (g := tI (va_up zN v 0)) (ws' := xw ad cI cZ nn mm tT tB tE tL oO oR oQ zS (va_up zM v ms) (va_up zN v 0) oJ) hx hb hK hP hD hS 10 0 rfl rfl (v) (by omega) (by omega) (by decide) (hg := tI_up) (hw := rfl) (hd := dX0_countTrial_32) (kk := fun H locs hP hD hS => ?_)
    refine lv_aload_n hx hb dX0_countTrial_33 rfl (lv_at hl 0 rfl) ?_
    refine va_get (D := D) (ci := 0) (C := RX0) (T := TX0) (N := 13) hx hb hts inW hown hK hP 0 rfl rfl 7 (by decide) (hts (.fieldLink RX0 32 "Flowforge" "trial" "[I") (List.mem_of_getElem? (i := 3) rfl)) (fun _ h9 => h9) rfl dX0_countTrial_34 ?_
    refine lv_iconst (v := iI 0) hx hb dX0_countTrial_37 rfl ?_
    refine lv_aload_n hx hb dX0_countTrial_38 rfl (lv_at hl 0 rfl) ?_
    refine va_get (D := D) (ci := 0) (C := RX0) (T := TX0) (N := 13) hx hb hts inW hown hK hP 0 rfl rfl 12 (by decide) (hts (.fieldLink RX0 48 "Flowforge" "bestJobs" "[I") (List.mem_of_getElem? (i := 4) rfl)) (fun _ h9 => h9) rfl dX0_countTrial_39 ?_
    refine lv_iload_n hx hb dX0_countTrial_42 rfl (lv_at hl 1 rfl) ?_
    refine lv_bipush (v := iI 7) hx hb dX0_countTrial_43 (by decide) ?_
    refine w_imul (z := 7 * (v : Int)) hx hb dX0_countTrial_45 (by omega) ?_
    refine lv_aload_n hx hb dX0_countTrial_46 rfl (lv_at hl 0 rfl) ?_
    refine va_get (D := D) (ci := 0) (C := RX0) (T := TX0) (N := 13) hx hb hts inW hown hK hP 0 rfl rfl 0 (by decide) (hts (.fieldLink RX0 7 "Flowforge" "jobCount" "I") (List.mem_of_getElem? (i := 5) rfl)) (fun _ h9 => h9) rfl dX0_countTrial_47 ?_
    refine w_copy (ws' := xw ad cI cZ nn mm tT tB tE tL oO oR oQ zS (va_up zM v ms) (va_up zN v 0) (va_cpy oR oJ 0 (7 * v) nn)) (g2 := jI (va_cpy oR oJ 0 (7 * v) nn)) hx hb (hml.trans hl.1.symm) hown (hts (.methodLink RX0 150 arraycopyName) (List.mem_of_getElem? (i := 6) rfl)) (hts (.native arraycopyName) (List.mem_of_getElem? (i := 7) rfl)) (hts (.static arraycopyName) (List.mem_of_getElem? (i := 8) rfl)) (hts (.initialized "java/lang/System") (List.mem_of_getElem? (i := 9) rfl)) hK hP hD hS 6 11 rfl rfl rfl (0) (7 * v) (nn) (by omega) (by omega) (by omega) (by omega) (by omega) (Nat.le_of_ble_eq_true rfl) (Nat.le_of_ble_eq_true rfl) (by decide) jI_cpy rfl dX0_countTrial_50 (fun H locs hP hD hS => ?_)
    refine lv_iload_n hx hb dX0_countTrial_53 rfl (lv_at hl 2 rfl) ?_
    refine lv_aload_n hx hb dX0_countTrial_54 rfl (lv_at hl 0 rfl) ?_
    refine va_get (D := D) (ci := 0) (C := RX0) (T := TX0) (N := 13) hx hb hts inW hown hK hP 0 rfl rfl 10 (by decide) (hts (.fieldLink RX0 42 "Flowforge" "leastMakespans" "[I") (List.mem_of_getElem? (i := 2) rfl)) (fun _ h9 => h9) rfl dX0_countTrial_55 ?_
    refine lv_iload_n hx hb dX0_countTrial_58 rfl (lv_at hl 1 rfl) ?_
    refine w_iald (v := iI (ms)) hx hb hK hP 9 0 rfl rfl (v) (by omega) (by omega) (by decide) (congrArg iI (if_pos rfl)) dX0_countTrial_59 ?_
    refine w_icmp_ne (tgt := 73) hx hb dX0_countTrial_60 (by decide) ⟨by omega, by omega⟩ ⟨by omega, by omega⟩ (fun c60 => absurd rfl c60) (fun c60 => ?_)
    refine lv_aload_n hx hb dX0_countTrial_63 rfl (lv_at hl 0 rfl) ?_
    refine va_get (D := D) (ci := 0) (C := RX0) (T := TX0) (N := 13) hx hb hts inW hown hK hP 0 rfl rfl 11 (by decide) (hts (.fieldLink RX0 45 "Flowforge" "leastCounts" "[I") (List.mem_of_getElem? (i := 1) rfl)) (fun _ h9 => h9) rfl dX0_countTrial_64 ?_
    refine lv_iload_n hx hb dX0_countTrial_67 rfl (lv_at hl 1 rfl) ?_
    refine lv_dup2_11 hx hb dX0_countTrial_68 rfl rfl ?_
    refine w_iald (v := iI (0)) hx hb hK hP 10 0 rfl rfl (v) (by omega) (by omega) (by decide) (congrArg iI (if_pos rfl)) dX0_countTrial_69 ?_
    refine lv_iconst (v := iI 1) hx hb dX0_countTrial_70 rfl ?_
    refine w_iadd (z := 1) hx hb dX0_countTrial_71 (by omega) ?_
    refine w_iast (g := tI (va_up (va_up zN v 0) v 1)) (ws' := xw ad cI cZ nn mm tT tB tE tL oO oR oQ zS (va_up zM v ms) (va_up (va_up zN v 0) v 1) (va_cpy oR oJ 0 (7 * v) nn)) hx hb hK hP hD hS 10 0 rfl rfl (v) (by omega) (by omega) (by decide) (hg := tI_up) (hw := rfl) (hd := dX0_countTrial_72) (kk := fun H locs hP hD hS => ?_)
    exact hret _ _ 73 ls (()) hP hD hS (trivial) dX0_countTrial_73
  refine w_if_eq (tgt := 19) hx hb dX0_countTrial_6 (by decide) ⟨by omega, by omega⟩ (fun c6 => ?_) (fun c6 => ?_)
  · exact J19  _ _ hP hD hS ls (lv_sub hl [0, 1, 2] rfl)
  · refine lv_iload_n hx hb dX0_countTrial_9 rfl (lv_at hl 2 rfl) ?_
    refine lv_aload_n hx hb dX0_countTrial_10 rfl (lv_at hl 0 rfl) ?_
    refine va_get (D := D) (ci := 0) (C := RX0) (T := TX0) (N := 13) hx hb hts inW hown hK hP 0 rfl rfl 10 (by decide) (hts (.fieldLink RX0 42 "Flowforge" "leastMakespans" "[I") (List.mem_of_getElem? (i := 2) rfl)) (fun _ h9 => h9) rfl dX0_countTrial_11 ?_
    refine lv_iload_n hx hb dX0_countTrial_14 rfl (lv_at hl 1 rfl) ?_
    refine w_iald (v := iI (zM v)) hx hb hK hP 9 0 rfl rfl (v) (by omega) (by omega) (by decide) rfl dX0_countTrial_15 ?_
    refine w_icmp_ge (tgt := 53) hx hb dX0_countTrial_16 (by decide) ⟨by omega, by omega⟩ ⟨by omega, by omega⟩ (fun c16 => absurd c16 (by omega)) (fun c16 => ?_)
    exact J19  _ _ hP hD hS ls (lv_sub hl [0, 1, 2] rfl)
set_option maxHeartbeats 4000000 in
set_option maxRecDepth 100000 in
theorem mX0_countTrial_B {v : Nat} {ms : Int} (hn : nn ≤ 7) (hv : v ≤ 2) (hM : 0 ≤ zM v ∧ zM v ≤ 1000000) (hN : 0 ≤ zN v ∧ zN v ≤ 1000000) (hms : 0 ≤ ms ∧ ms ≤ 1000000) (hC : ¬ (zN v = 0 ∨ ms < zM v)) : IM l yX0_countTrial wsX0_countTrial (rmx 0 0) D (tyk cI cZ cJ) (xw ad cI cZ nn mm tT tB tE tL oO oR oQ zS zM zN oJ) [.ref (ad 0), .int (iI ((v : Int))), .int (iI (ms))] (QV D (tyk cI cZ cJ) (fun u : Unit => xw ad cI cZ nn mm tT tB tE tL oO oR oQ zS zM ((if ms = zM v then va_up zN v (zN v + 1) else zN)) oJ) (fun _ => True)) := by
  refine imV_of (cc := cX0_countTrial) (maxL := 3) (by decide) rfl (Nat.le_of_ble_eq_true rfl) ?_
  intro p e s m args below meth c A Q hx hb hml hown hts hA hK hP hD hS hret ls hl
  have hown : s.vm.findClass RX0 = some m.cls := hown
  have hl : lv_has ls 3 [(0, .ref (ad 0)), (1, .int (iI ((v : Int)))), (2, .int (iI (ms)))] := hl
  have inW : ∀ w ∈ wsX00, w ∈ wsX0_countTrial := by first | exact (fun w h => List.mem_cons_of_mem _ (List.mem_append_right _ h)) | exact (fun w h => List.mem_cons_of_mem _ (List.mem_append_left _ (List.mem_append_right _ h))) | exact (fun w h => List.mem_cons_of_mem _ (List.mem_append_left _ (List.mem_append_left _ (List.mem_append_right _ h)))) | decide +kernel
  refine lv_aload_n hx hb dX0_countTrial_0 rfl (lv_at hl 0 rfl) ?_
  refine va_get (D := D) (ci := 0) (C := RX0) (T := TX0) (N := 13) hx hb hts inW hown hK hP 0 rfl rfl 11 (by decide) (hts (.fieldLink RX0 45 "Flowforge" "leastCounts" "[I") (List.mem_of_getElem? (i := 1) rfl)) (fun _ h9 => h9) rfl dX0_countTrial_1 ?_
  refine lv_iload_n hx hb dX0_countTrial_4 rfl (lv_at hl 1 rfl) ?_
  refine w_iald (v := iI (zN v)) hx hb hK hP 10 0 rfl rfl (v) (by omega) (by omega) (by decide) rfl dX0_countTrial_5 ?_
  refine w_if_eq (tgt := 19) hx hb dX0_countTrial_6 (by decide) ⟨by omega, by omega⟩ (fun c6 => absurd c6 (fun q => hC (Or.inl q))) (fun c6 => ?_)
  refine lv_iload_n hx hb dX0_countTrial_9 rfl (lv_at hl 2 rfl) ?_
  refine lv_aload_n hx hb dX0_countTrial_10 rfl (lv_at hl 0 rfl) ?_
  refine va_get (D := D) (ci := 0) (C := RX0) (T := TX0) (N := 13) hx hb hts inW hown hK hP 0 rfl rfl 10 (by decide) (hts (.fieldLink RX0 42 "Flowforge" "leastMakespans" "[I") (List.mem_of_getElem? (i := 2) rfl)) (fun _ h9 => h9) rfl dX0_countTrial_11 ?_
  refine lv_iload_n hx hb dX0_countTrial_14 rfl (lv_at hl 1 rfl) ?_
  refine w_iald (v := iI (zM v)) hx hb hK hP 9 0 rfl rfl (v) (by omega) (by omega) (by decide) rfl dX0_countTrial_15 ?_
  refine w_icmp_ge (tgt := 53) hx hb dX0_countTrial_16 (by decide) ⟨by omega, by omega⟩ ⟨by omega, by omega⟩ (fun c16 => ?_) (fun c16 => absurd c16 (by omega))
  refine lv_iload_n hx hb dX0_countTrial_53 rfl (lv_at hl 2 rfl) ?_
  refine lv_aload_n hx hb dX0_countTrial_54 rfl (lv_at hl 0 rfl) ?_
  refine va_get (D := D) (ci := 0) (C := RX0) (T := TX0) (N := 13) hx hb hts inW hown hK hP 0 rfl rfl 10 (by decide) (hts (.fieldLink RX0 42 "Flowforge" "leastMakespans" "[I") (List.mem_of_getElem? (i := 2) rfl)) (fun _ h9 => h9) rfl dX0_countTrial_55 ?_
  refine lv_iload_n hx hb dX0_countTrial_58 rfl (lv_at hl 1 rfl) ?_
  refine w_iald (v := iI (zM v)) hx hb hK hP 9 0 rfl rfl (v) (by omega) (by omega) (by decide) rfl dX0_countTrial_59 ?_
  refine w_icmp_ne (tgt := 73) hx hb dX0_countTrial_60 (by decide) ⟨by omega, by omega⟩ ⟨by omega, by omega⟩ (fun c60 => ?_) (fun c60 => ?_)
  · have e9 : (if ms = zM v then va_up zN v (zN v + 1) else zN) = zN := if_neg c60
    rw [← e9] at hP hD
    exact hret _ _ 73 ls (()) hP hD hS (trivial) dX0_countTrial_73
  · have e9 : (if ms = zM v then va_up zN v (zN v + 1) else zN) = va_up zN v (zN v + 1) := if_pos c60
    refine lv_aload_n hx hb dX0_countTrial_63 rfl (lv_at hl 0 rfl) ?_
    refine va_get (D := D) (ci := 0) (C := RX0) (T := TX0) (N := 13) hx hb hts inW hown hK hP 0 rfl rfl 11 (by decide) (hts (.fieldLink RX0 45 "Flowforge" "leastCounts" "[I") (List.mem_of_getElem? (i := 1) rfl)) (fun _ h9 => h9) rfl dX0_countTrial_64 ?_
    refine lv_iload_n hx hb dX0_countTrial_67 rfl (lv_at hl 1 rfl) ?_
    refine lv_dup2_11 hx hb dX0_countTrial_68 rfl rfl ?_
    refine w_iald (v := iI (zN v)) hx hb hK hP 10 0 rfl rfl (v) (by omega) (by omega) (by decide) rfl dX0_countTrial_69 ?_
    refine lv_iconst (v := iI 1) hx hb dX0_countTrial_70 rfl ?_
    refine w_iadd (z := (zN v) + 1) hx hb dX0_countTrial_71 (by omega) ?_
    refine w_iast (g := tI (va_up zN v ((zN v) + 1))) (ws' := xw ad cI cZ nn mm tT tB tE tL oO oR oQ zS zM (va_up zN v ((zN v) + 1)) oJ) hx hb hK hP hD hS 10 0 rfl rfl (v) (by omega) (by omega) (by decide) (hg := tI_up) (hw := rfl) (hd := dX0_countTrial_72) (kk := fun H locs hP hD hS => ?_)
    rw [← e9] at hP hD
    exact hret _ _ 73 ls (()) hP hD hS (trivial) dX0_countTrial_73
end
