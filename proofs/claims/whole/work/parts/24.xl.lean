section
variable {l : Launch} {D : va_G} {cI cZ cJ : ClassId} {ad bd : Nat → Nat} {a0 : Nat} {ws : va_W} {nn mm : Nat} {th bm : Int} {tT tB tE tL : Nat → Int} {oO oR oQ : Nat → Nat} {zS zM zN : Nat → Int} {oJ fF : Nat → Nat}
variable {sa : Nat → Nat} {b0 : Nat} {fL : Nat → Int64}
set_option maxHeartbeats 4000000 in
set_option maxRecDepth 100000 in
theorem hL_addJob  (h7 : nn < 7) : LM l yL_addJob wsL_addJob (rmt 2 42) D (tyk cI cZ cJ) (xw ad cI cZ nn mm tT tB tE tL oO oR oQ zS zM zN oJ ++ [(b0, .inl (cJ, 1, .inr (.inl (fL))))]) [.ref (ad 0), .ref (b0)] sa (QI D (tyk cI cZ cJ) (fun u : Unit => xw ad cI cZ (nn + 1) mm tT tB tE tL (va_up oO nn nn) oR oQ (zfl zS 3) zM zN oJ ++ [(b0, .inl (cJ, 1, .inr (.inl (lS fL (nn : Int)))))]) (fun x _ => x = iI 0)) := by
  refine lm_of (cc := cL_addJob) (maxL := 3) (hh := [(0, 8, 11, 13)]) (by decide) rfl (Nat.le_of_ble_eq_true rfl) ?_
  intro p e s m args below meth c A Q hx hb hml hown hts htab hA hK hP hD hS hTX hret ls hl
  have hown : s.vm.findClass RL = some m.cls := hown
  have hl : lv_has ls 3 [(0, .ref (ad 0)), (1, .ref (b0))] := hl
  refine lv_aload_n hx hb dL_addJob_0 rfl (lv_at hl 1 rfl) ?_
  refine lv_iconst (v := iI 0) hx hb dL_addJob_1 rfl ?_
  refine lv_aload_n hx hb dL_addJob_2 rfl (lv_at hl 0 rfl) ?_
  refine w_iV (As := []) (rest := [.int (iI 0), .ref b0]) (wf := fun u : Unit => xw ad cI cZ (nn + 1) mm tT tB tE tL (va_up oO nn nn) oR oQ (zfl zS 3) zM zN oJ ++ [(b0, .inl (cJ, 1, .inr (.inl (fL))))]) (wr := [(b0, .inl (cJ, 1, .inr (.inl fL)))]) ⟨hx, hb, hml, hown, hts⟩ hK hP hD hS hA (mX0_addJob h7) (cwV 0 hts gL_addJob_X0_addJob rfl rfl rfl (by decide +kernel) ⟨Nat.le_of_ble_eq_true rfl, Nat.le_of_ble_eq_true rfl⟩) [0, 1, 2, 3, 4, 5, 6, 7, 8, 9, 10, 11] [12] [1, 2, 3, 4, 5, 6, 7, 8, 9, 10, 11, 12, 0] rfl rfl (by decide) (by decide) (by decide) (hwf := fun _ => rfl) (by decide) (ci := 0) rfl rfl rfl rfl hl.1 rfl (Nat.le_of_ble_eq_true rfl) dL_addJob_3 ⟨Nat.zero_le _, Nat.zero_le _⟩ (fun r u H locs hr hP hD hS => ?_)
  refine w_top (v := iI (nn : Int)) (hr) ?_
  refine lv_i2l (v := (iI (nn : Int)).toInt64) hx hb dL_addJob_6 rfl ?_
  refine va_last hx hb hK hP hD hS 12 2 rfl rfl (iI_in (k := 0) rfl (by decide) (by decide)) dL_addJob_7 (fun H locs hP hD hS => ?_)
  have hP : va_P D vwCl (xw ad cI cZ (nn + 1) mm tT tB tE tL (va_up oO nn nn) oR oQ (zfl zS 3) zM zN oJ ++ [(b0, .inl (cJ, 1, .inr (.inl (lS fL (nn : Int)))))]) H := hP
  have hD : va_D A (xw ad cI cZ (nn + 1) mm tT tB tE tL (va_up oO nn nn) oR oQ (zfl zS 3) zM zN oJ ++ [(b0, .inl (cJ, 1, .inr (.inl (lS fL (nn : Int)))))]) := hD
  refine lv_goto (tgt := 14) hx hb dL_addJob_8 (by decide) ?_
  refine lv_iconst (v := iI 0) hx hb dL_addJob_14 rfl ?_
  exact hret _ _ _ _ 15 ls _ u (Nat.zero_le _) (Nat.zero_le _) hP hD hS rfl dL_addJob_15
set_option maxHeartbeats 4000000 in
set_option maxRecDepth 100000 in
theorem hL_setMachines {w : Nat} (hn : nn ≤ 7) (hm : 1 ≤ mm ∧ mm ≤ 5) (hw : 1 ≤ w ∧ w ≤ 5) : LM l yL_setMachines wsL_setMachines (rmt 2 45) D (tyk cI cZ cJ) (xw ad cI cZ nn mm tT tB tE tL oO oR oQ zS zM zN oJ ++ [(b0, .inl (cJ, 1, .inr (.inl (fL))))]) [.ref (ad 0), .int (iI ((w : Int))), .ref (b0)] sa (QI D (tyk cI cZ cJ) (fun u : Unit => xw ad cI cZ nn w (tzr tT w nn 0) tB tE tL oO oR oQ (zfl zS 3) zM zN oJ ++ [(b0, .inl (cJ, 1, .inr (.inl (lS fL (mm : Int)))))]) (fun x _ => x = iI 0)) := by
  refine lm_of (cc := cL_setMachines) (maxL := 4) (hh := [(0, 9, 12, 19)]) (by decide) rfl (Nat.le_of_ble_eq_true rfl) ?_
  intro p e s m args below meth c A Q hx hb hml hown hts htab hA hK hP hD hS hTX hret ls hl
  have hown : s.vm.findClass RL = some m.cls := hown
  have hl : lv_has ls 4 [(0, .ref (ad 0)), (1, .int (iI ((w : Int)))), (2, .ref (b0))] := hl
  refine lv_aload_n hx hb dL_setMachines_0 rfl (lv_at hl 2 rfl) ?_
  refine lv_iconst (v := iI 0) hx hb dL_setMachines_1 rfl ?_
  refine lv_aload_n hx hb dL_setMachines_2 rfl (lv_at hl 0 rfl) ?_
  refine lv_iload_n hx hb dL_setMachines_3 rfl (lv_at hl 1 rfl) ?_
  refine w_iV (As := [.int (iI ((w : Int)))]) (rest := [.int (iI 0), .ref b0]) (wf := fun u : Unit => xw ad cI cZ nn w (tzr tT w nn 0) tB tE tL oO oR oQ (zfl zS 3) zM zN oJ ++ [(b0, .inl (cJ, 1, .inr (.inl (fL))))]) (wr := [(b0, .inl (cJ, 1, .inr (.inl fL)))]) ⟨hx, hb, hml, hown, hts⟩ hK hP hD hS hA (mX0_setMachines hn hm hw) (cwV 1 hts gL_setMachines_X0_setMachines rfl rfl rfl (by decide +kernel) ⟨Nat.le_of_ble_eq_true rfl, Nat.le_of_ble_eq_true rfl⟩) [0, 1, 2, 3, 4, 5, 6, 7, 8, 9, 10, 11] [12] [1, 2, 3, 4, 5, 6, 7, 8, 9, 10, 11, 12, 0] rfl rfl (by decide) (by decide) (by decide) (hwf := fun _ => rfl) (by decide) (ci := 0) rfl rfl rfl rfl hl.1 rfl (Nat.le_of_ble_eq_true rfl) dL_setMachines_4 ⟨Nat.zero_le _, Nat.zero_le _⟩ (fun r u H locs hr hP hD hS => ?_)
  refine w_top (v := iI (mm : Int)) (hr) ?_
  refine lv_i2l (v := (iI (mm : Int)).toInt64) hx hb dL_setMachines_7 rfl ?_
  refine va_last hx hb hK hP hD hS 12 2 rfl rfl (iI_in (k := 0) rfl (by decide) (by decide)) dL_setMachines_8 (fun H locs hP hD hS => ?_)
  have hP : va_P D vwCl (xw ad cI cZ nn w (tzr tT w nn 0) tB tE tL oO oR oQ (zfl zS 3) zM zN oJ ++ [(b0, .inl (cJ, 1, .inr (.inl (lS fL (mm : Int)))))]) H := hP
  have hD : va_D A (xw ad cI cZ nn w (tzr tT w nn 0) tB tE tL oO oR oQ (zfl zS 3) zM zN oJ ++ [(b0, .inl (cJ, 1, .inr (.inl (lS fL (mm : Int)))))]) := hD
  refine lv_goto (tgt := 15) hx hb dL_setMachines_9 (by decide) ?_
  refine lv_iconst (v := iI 0) hx hb dL_setMachines_15 rfl ?_
  exact hret _ _ _ _ 16 ls _ u (Nat.zero_le _) (Nat.zero_le _) hP hD hS rfl dL_setMachines_16
set_option maxHeartbeats 4000000 in
set_option maxRecDepth 100000 in
theorem hL_setTime {j k : Nat} {x : Int} (hn : nn ≤ 7) (hm : 1 ≤ mm ∧ mm ≤ 5) (hj : j < nn) (hk : k < mm) (hx9 : 0 ≤ x ∧ x ≤ 99) : LM l yL_setTime wsL_setTime (rmt 2 45) D (tyk cI cZ cJ) (xw ad cI cZ nn mm tT tB tE tL oO oR oQ zS zM zN oJ ++ [(b0, .inl (cJ, 1, .inr (.inl (fL))))]) [.ref (ad 0), .int (iI ((j : Int))), .int (iI ((k : Int))), .int (iI (x)), .ref (b0)] sa (QI D (tyk cI cZ cJ) (fun u : Unit => xw ad cI cZ nn mm (va_up tT (5 * j + k) x) tB tE tL oO oR oQ (zfl zS 3) zM zN oJ ++ [(b0, .inl (cJ, 1, .inr (.inl (lS fL (tT (5 * j + k))))))]) (fun x _ => x = iI 0)) := by
  refine lm_of (cc := cL_setTime) (maxL := 6) (hh := [(0, 12, 15, 25), (0, 12, 19, 19)]) (by decide) rfl (Nat.le_of_ble_eq_true rfl) ?_
  intro p e s m args below meth c A Q hx hb hml hown hts htab hA hK hP hD hS hTX hret ls hl
  have hown : s.vm.findClass RL = some m.cls := hown
  have hl : lv_has ls 6 [(0, .ref (ad 0)), (1, .int (iI ((j : Int)))), (2, .int (iI ((k : Int)))), (3, .int (iI (x))), (4, .ref (b0))] := hl
  refine lv_aload hx hb dL_setTime_0 (lv_at hl 4 rfl) ?_
  refine lv_iconst (v := iI 0) hx hb dL_setTime_2 rfl ?_
  refine lv_aload_n hx hb dL_setTime_3 rfl (lv_at hl 0 rfl) ?_
  refine lv_iload_n hx hb dL_setTime_4 rfl (lv_at hl 1 rfl) ?_
  refine lv_iload_n hx hb dL_setTime_5 rfl (lv_at hl 2 rfl) ?_
  refine lv_iload_n hx hb dL_setTime_6 rfl (lv_at hl 3 rfl) ?_
  refine w_iV (As := [.int (iI ((j : Int))), .int (iI ((k : Int))), .int (iI (x))]) (rest := [.int (iI 0), .ref b0]) (wf := fun u : Unit => xw ad cI cZ nn mm (va_up tT (5 * j + k) x) tB tE tL oO oR oQ (zfl zS 3) zM zN oJ ++ [(b0, .inl (cJ, 1, .inr (.inl (fL))))]) (wr := [(b0, .inl (cJ, 1, .inr (.inl fL)))]) ⟨hx, hb, hml, hown, hts⟩ hK hP hD hS hA (mX0_setTime hn hm hj hk hx9) (cwV 3 hts gL_setTime_X0_setTime rfl rfl rfl (by decide +kernel) ⟨Nat.le_of_ble_eq_true rfl, Nat.le_of_ble_eq_true rfl⟩) [0, 1, 2, 3, 4, 5, 6, 7, 8, 9, 10, 11] [12] [1, 2, 3, 4, 5, 6, 7, 8, 9, 10, 11, 12, 0] rfl rfl (by decide) (by decide) (by decide) (hwf := fun _ => rfl) (by decide) (ci := 0) rfl rfl rfl rfl hl.1 rfl (Nat.le_of_ble_eq_true rfl) dL_setTime_7 ⟨Nat.zero_le _, Nat.zero_le _⟩ (fun r u H locs hr hP hD hS => ?_)
  refine w_top (v := iI (tT (5 * j + k))) (hr) ?_
  refine lv_i2l (v := (iI (tT (5 * j + k))).toInt64) hx hb dL_setTime_10 rfl ?_
  refine va_last hx hb hK hP hD hS 12 2 rfl rfl (iI_in (k := 0) rfl (by decide) (by decide)) dL_setTime_11 (fun H locs hP hD hS => ?_)
  have hP : va_P D vwCl (xw ad cI cZ nn mm (va_up tT (5 * j + k) x) tB tE tL oO oR oQ (zfl zS 3) zM zN oJ ++ [(b0, .inl (cJ, 1, .inr (.inl (lS fL (tT (5 * j + k))))))]) H := hP
  have hD : va_D A (xw ad cI cZ nn mm (va_up tT (5 * j + k) x) tB tE tL oO oR oQ (zfl zS 3) zM zN oJ ++ [(b0, .inl (cJ, 1, .inr (.inl (lS fL (tT (5 * j + k))))))]) := hD
  refine lv_goto (tgt := 23) hx hb dL_setTime_12 (by decide) ?_
  refine lv_iconst (v := iI 0) hx hb dL_setTime_23 rfl ?_
  exact hret _ _ _ _ 24 ls _ u (Nat.zero_le _) (Nat.zero_le _) hP hD hS rfl dL_setTime_24
set_option maxHeartbeats 4000000 in
set_option maxRecDepth 100000 in
theorem hL_time {j k : Nat} (hn : nn ≤ 7) (hm : 1 ≤ mm ∧ mm ≤ 5) (hj : j < nn) (hk : k < mm) : LM l yL_time wsL_time (rmt 2 43) D (tyk cI cZ cJ) (xw ad cI cZ nn mm tT tB tE tL oO oR oQ zS zM zN oJ ++ [(b0, .inl (cJ, 1, .inr (.inl (fL))))]) [.ref (ad 0), .int (iI ((j : Int))), .int (iI ((k : Int))), .ref (b0)] sa (QI D (tyk cI cZ cJ) (fun u : Unit => xw ad cI cZ nn mm tT tB tE tL oO oR oQ zS zM zN oJ ++ [(b0, .inl (cJ, 1, .inr (.inl (lS fL (tT (5 * j + k))))))]) (fun x _ => x = iI 0)) := by
  refine lm_of (cc := cL_time) (maxL := 5) (hh := [(0, 10, 13, 25)]) (by decide) rfl (Nat.le_of_ble_eq_true rfl) ?_
  intro p e s m args below meth c A Q hx hb hml hown hts htab hA hK hP hD hS hTX hret ls hl
  have hown : s.vm.findClass RL = some m.cls := hown
  have hl : lv_has ls 5 [(0, .ref (ad 0)), (1, .int (iI ((j : Int)))), (2, .int (iI ((k : Int)))), (3, .ref (b0))] := hl
  refine lv_aload_n hx hb dL_time_0 rfl (lv_at hl 3 rfl) ?_
  refine lv_iconst (v := iI 0) hx hb dL_time_1 rfl ?_
  refine lv_aload_n hx hb dL_time_2 rfl (lv_at hl 0 rfl) ?_
  refine lv_iload_n hx hb dL_time_3 rfl (lv_at hl 1 rfl) ?_
  refine lv_iload_n hx hb dL_time_4 rfl (lv_at hl 2 rfl) ?_
  refine w_pV (As := [.int (iI ((j : Int))), .int (iI ((k : Int)))]) (rest := [.int (iI 0), .ref b0]) ⟨hx, hb, hml, hown, hts⟩ hK (hP.sub (ws' := xw ad cI cZ nn mm tT tB tE tL oO oR oQ zS zM zN oJ) [0, 1, 2, 3, 4, 5, 6, 7, 8, 9, 10, 11] rfl) (mX0_time hn hm hj hk) (cwV 2 hts gL_time_X0_time rfl rfl rfl (by decide +kernel) ⟨Nat.le_of_ble_eq_true rfl, Nat.le_of_ble_eq_true rfl⟩) (ci := 0) rfl rfl rfl rfl hl.1 rfl (Nat.le_of_ble_eq_true rfl) dL_time_5 ⟨Nat.zero_le _, Nat.zero_le _⟩ (fun r hr => ?_)
  have u : Unit := ()
  refine w_top (v := iI (tT (5 * j + k))) (hr) ?_
  refine lv_i2l (v := (iI (tT (5 * j + k))).toInt64) hx hb dL_time_8 rfl ?_
  refine va_last hx hb hK hP hD hS 12 2 rfl rfl (iI_in (k := 0) rfl (by decide) (by decide)) dL_time_9 (fun H locs hP hD hS => ?_)
  have hP : va_P D vwCl (xw ad cI cZ nn mm tT tB tE tL oO oR oQ zS zM zN oJ ++ [(b0, .inl (cJ, 1, .inr (.inl (lS fL (tT (5 * j + k))))))]) H := hP
  have hD : va_D A (xw ad cI cZ nn mm tT tB tE tL oO oR oQ zS zM zN oJ ++ [(b0, .inl (cJ, 1, .inr (.inl (lS fL (tT (5 * j + k))))))]) := hD
  refine lv_goto (tgt := 17) hx hb dL_time_10 (by decide) ?_
  refine lv_iconst (v := iI 0) hx hb dL_time_17 rfl ?_
  exact hret _ _ _ _ 18 ls _ u (Nat.zero_le _) (Nat.zero_le _) hP hD hS rfl dL_time_18
set_option maxHeartbeats 4000000 in
set_option maxRecDepth 100000 in
theorem hL_jobAt {q : Nat} (hn : nn ≤ 7) (hm : 1 ≤ mm ∧ mm ≤ 5) (hq : q < nn) : LM l yL_jobAt wsL_jobAt (rmt 2 42) D (tyk cI cZ cJ) (xw ad cI cZ nn mm tT tB tE tL oO oR oQ zS zM zN oJ ++ [(b0, .inl (cJ, 1, .inr (.inl (fL))))]) [.ref (ad 0), .int (iI ((q : Int))), .ref (b0)] sa (QI D (tyk cI cZ cJ) (fun u : Unit => xw ad cI cZ nn mm tT tB tE tL oO oR oQ zS zM zN oJ ++ [(b0, .inl (cJ, 1, .inr (.inl (lS fL ((oO q : Nat) : Int)))))]) (fun x _ => x = iI 0)) := by
  refine lm_of (cc := cL_jobAt) (maxL := 4) (hh := [(0, 9, 12, 25)]) (by decide) rfl (Nat.le_of_ble_eq_true rfl) ?_
  intro p e s m args below meth c A Q hx hb hml hown hts htab hA hK hP hD hS hTX hret ls hl
  have hown : s.vm.findClass RL = some m.cls := hown
  have hl : lv_has ls 4 [(0, .ref (ad 0)), (1, .int (iI ((q : Int)))), (2, .ref (b0))] := hl
  refine lv_aload_n hx hb dL_jobAt_0 rfl (lv_at hl 2 rfl) ?_
  refine lv_iconst (v := iI 0) hx hb dL_jobAt_1 rfl ?_
  refine lv_aload_n hx hb dL_jobAt_2 rfl (lv_at hl 0 rfl) ?_
  refine lv_iload_n hx hb dL_jobAt_3 rfl (lv_at hl 1 rfl) ?_
  refine w_pV (As := [.int (iI ((q : Int)))]) (rest := [.int (iI 0), .ref b0]) ⟨hx, hb, hml, hown, hts⟩ hK (hP.sub (ws' := xw ad cI cZ nn mm tT tB tE tL oO oR oQ zS zM zN oJ) [0, 1, 2, 3, 4, 5, 6, 7, 8, 9, 10, 11] rfl) (mX0_jobAt hn hm hq) (cwV 1 hts gL_jobAt_X0_jobAt rfl rfl rfl (by decide +kernel) ⟨Nat.le_of_ble_eq_true rfl, Nat.le_of_ble_eq_true rfl⟩) (ci := 0) rfl rfl rfl rfl hl.1 rfl (Nat.le_of_ble_eq_true rfl) dL_jobAt_4 ⟨Nat.zero_le _, Nat.zero_le _⟩ (fun r hr => ?_)
  have u : Unit := ()
  refine w_top (v := iI ((oO q : Nat) : Int)) (hr) ?_
  refine lv_i2l (v := (iI ((oO q : Nat) : Int)).toInt64) hx hb dL_jobAt_7 rfl ?_
  refine va_last hx hb hK hP hD hS 12 2 rfl rfl (iI_in (k := 0) rfl (by decide) (by decide)) dL_jobAt_8 (fun H locs hP hD hS => ?_)
  have hP : va_P D vwCl (xw ad cI cZ nn mm tT tB tE tL oO oR oQ zS zM zN oJ ++ [(b0, .inl (cJ, 1, .inr (.inl (lS fL ((oO q : Nat) : Int)))))]) H := hP
  have hD : va_D A (xw ad cI cZ nn mm tT tB tE tL oO oR oQ zS zM zN oJ ++ [(b0, .inl (cJ, 1, .inr (.inl (lS fL ((oO q : Nat) : Int)))))]) := hD
  refine lv_goto (tgt := 15) hx hb dL_jobAt_9 (by decide) ?_
  refine lv_iconst (v := iI 0) hx hb dL_jobAt_15 rfl ?_
  exact hret _ _ _ _ 16 ls _ u (Nat.zero_le _) (Nat.zero_le _) hP hD hS rfl dL_jobAt_16
set_option maxHeartbeats 4000000 in
set_option maxRecDepth 100000 in
theorem hL_move {j q b : Nat} (hn : nn ≤ 7) (hm : 1 ≤ mm ∧ mm ≤ 5) (hO : ∀ k, k < nn → oO k < 7) (hjn : j < nn) (hq : q < nn) (hj : j = oO q) (hw : ∀ k, k < q → oO k ≠ j) (hbn : b < nn) : LM l yL_move wsL_move (rmt 2 47) D (tyk cI cZ cJ) (xw ad cI cZ nn mm tT tB tE tL oO oR oQ zS zM zN oJ ++ [(b0, .inl (cJ, 1, .inr (.inl (fL))))]) [.ref (ad 0), .int (iI ((j : Int))), .int (iI ((b : Int))), .ref (b0)] sa (QI D (tyk cI cZ cJ) (fun u : Unit => xw ad cI cZ nn mm tT tB tE tL (shf oO q b) oR oQ zS zM zN oJ ++ [(b0, .inl (cJ, 1, .inr (.inl (lS fL (q : Int)))))]) (fun x _ => x = iI 0)) := by
  refine lm_of (cc := cL_move) (maxL := 5) (hh := [(0, 10, 13, 25)]) (by decide) rfl (Nat.le_of_ble_eq_true rfl) ?_
  intro p e s m args below meth c A Q hx hb hml hown hts htab hA hK hP hD hS hTX hret ls hl
  have hown : s.vm.findClass RL = some m.cls := hown
  have hl : lv_has ls 5 [(0, .ref (ad 0)), (1, .int (iI ((j : Int)))), (2, .int (iI ((b : Int)))), (3, .ref (b0))] := hl
  refine lv_aload_n hx hb dL_move_0 rfl (lv_at hl 3 rfl) ?_
  refine lv_iconst (v := iI 0) hx hb dL_move_1 rfl ?_
  refine lv_aload_n hx hb dL_move_2 rfl (lv_at hl 0 rfl) ?_
  refine lv_iload_n hx hb dL_move_3 rfl (lv_at hl 1 rfl) ?_
  refine lv_iload_n hx hb dL_move_4 rfl (lv_at hl 2 rfl) ?_
  refine w_iV (As := [.int (iI ((j : Int))), .int (iI ((b : Int)))]) (rest := [.int (iI 0), .ref b0]) (wf := fun u : Unit => xw ad cI cZ nn mm tT tB tE tL (shf oO q b) oR oQ zS zM zN oJ ++ [(b0, .inl (cJ, 1, .inr (.inl (fL))))]) (wr := [(b0, .inl (cJ, 1, .inr (.inl fL)))]) ⟨hx, hb, hml, hown, hts⟩ hK hP hD hS hA (mX0_move hn hm hO hjn hq hj hw hbn) (cwV 2 hts gL_move_X0_move rfl rfl rfl (by decide +kernel) ⟨Nat.le_of_ble_eq_true rfl, Nat.le_of_ble_eq_true rfl⟩) [0, 1, 2, 3, 4, 5, 6, 7, 8, 9, 10, 11] [12] [1, 2, 3, 4, 5, 6, 7, 8, 9, 10, 11, 12, 0] rfl rfl (by decide) (by decide) (by decide) (hwf := fun _ => rfl) (by decide) (ci := 0) rfl rfl rfl rfl hl.1 rfl (Nat.le_of_ble_eq_true rfl) dL_move_5 ⟨Nat.zero_le _, Nat.zero_le _⟩ (fun r u H locs hr hP hD hS => ?_)
  refine w_top (v := iI (q : Int)) (hr) ?_
  refine lv_i2l (v := (iI (q : Int)).toInt64) hx hb dL_move_8 rfl ?_
  refine va_last hx hb hK hP hD hS 12 2 rfl rfl (iI_in (k := 0) rfl (by decide) (by decide)) dL_move_9 (fun H locs hP hD hS => ?_)
  have hP : va_P D vwCl (xw ad cI cZ nn mm tT tB tE tL (shf oO q b) oR oQ zS zM zN oJ ++ [(b0, .inl (cJ, 1, .inr (.inl (lS fL (q : Int)))))]) H := hP
  have hD : va_D A (xw ad cI cZ nn mm tT tB tE tL (shf oO q b) oR oQ zS zM zN oJ ++ [(b0, .inl (cJ, 1, .inr (.inl (lS fL (q : Int)))))]) := hD
  refine lv_goto (tgt := 17) hx hb dL_move_10 (by decide) ?_
  refine lv_iconst (v := iI 0) hx hb dL_move_17 rfl ?_
  exact hret _ _ _ _ 18 ls _ u (Nat.zero_le _) (Nat.zero_le _) hP hD hS rfl dL_move_18
set_option maxHeartbeats 4000000 in
set_option maxRecDepth 100000 in
theorem hL_makespanIfMoved {j q b : Nat} (hT : ∀ k, 0 ≤ tT k ∧ tT k ≤ 99) (hn : nn ≤ 7) (hm : 1 ≤ mm ∧ mm ≤ 5) (hO : ∀ k, k < nn → oO k < 7) (hjn : j < nn) (hq : q < nn) (hj : j = oO q) (hw : ∀ k, k < q → oO k ≠ j) (hbn : b < nn) : LM l yL_makespanIfMoved wsL_makespanIfMoved (rmt 6 141) D (tyk cI cZ cJ) (xw ad cI cZ nn mm tT tB tE tL oO oR oQ zS zM zN oJ ++ [(b0, .inl (cJ, 1, .inr (.inl (fL))))]) [.ref (ad 0), .int (iI ((j : Int))), .int (iI ((b : Int))), .ref (b0)] sa (QI D (tyk cI cZ cJ) (fun u : (Nat → Nat) × (Nat → Int) × (Nat → Int) => xw ad cI cZ nn mm tT u.2.1 u.2.2 tL oO u.1 oQ zS zM zN oJ ++ [(b0, .inl (cJ, 1, .inr (.inl (lS fL (mkS tT mm oO q nn b)))))]) (fun x _ => x = iI 0)) := by
  refine lm_of (cc := cL_makespanIfMoved) (maxL := 5) (hh := [(0, 10, 13, 25)]) (by decide) rfl (Nat.le_of_ble_eq_true rfl) ?_
  intro p e s m args below meth c A Q hx hb hml hown hts htab hA hK hP hD hS hTX hret ls hl
  have hown : s.vm.findClass RL = some m.cls := hown
  have hl : lv_has ls 5 [(0, .ref (ad 0)), (1, .int (iI ((j : Int)))), (2, .int (iI ((b : Int)))), (3, .ref (b0))] := hl
  refine lv_aload_n hx hb dL_makespanIfMoved_0 rfl (lv_at hl 3 rfl) ?_
  refine lv_iconst (v := iI 0) hx hb dL_makespanIfMoved_1 rfl ?_
  refine lv_aload_n hx hb dL_makespanIfMoved_2 rfl (lv_at hl 0 rfl) ?_
  refine lv_iload_n hx hb dL_makespanIfMoved_3 rfl (lv_at hl 1 rfl) ?_
  refine lv_iload_n hx hb dL_makespanIfMoved_4 rfl (lv_at hl 2 rfl) ?_
  refine w_iV (As := [.int (iI ((j : Int))), .int (iI ((b : Int)))]) (rest := [.int (iI 0), .ref b0]) (wf := fun u : (Nat → Nat) × (Nat → Int) × (Nat → Int) => xw ad cI cZ nn mm tT u.2.1 u.2.2 tL oO u.1 oQ zS zM zN oJ ++ [(b0, .inl (cJ, 1, .inr (.inl (fL))))]) (wr := [(b0, .inl (cJ, 1, .inr (.inl fL)))]) ⟨hx, hb, hml, hown, hts⟩ hK hP hD hS hA (mX0_makespanIfMoved hT hn hm hO hjn hq hj hw hbn) (cwV 2 hts gL_makespanIfMoved_X0_makespanIfMoved rfl rfl rfl (by decide +kernel) ⟨Nat.le_of_ble_eq_true rfl, Nat.le_of_ble_eq_true rfl⟩) [0, 1, 2, 3, 4, 5, 6, 7, 8, 9, 10, 11] [12] [1, 2, 3, 4, 5, 6, 7, 8, 9, 10, 11, 12, 0] rfl rfl (by decide) (by decide) (by decide) (hwf := fun _ => rfl) (by decide) (ci := 0) rfl rfl rfl rfl hl.1 rfl (Nat.le_of_ble_eq_true rfl) dL_makespanIfMoved_5 ⟨Nat.zero_le _, Nat.zero_le _⟩ (fun r u H locs hr hP hD hS => ?_)
  refine w_top (v := iI (mkS tT mm oO q nn b)) (hr) ?_
  refine lv_i2l (v := (iI (mkS tT mm oO q nn b)).toInt64) hx hb dL_makespanIfMoved_8 rfl ?_
  refine va_last hx hb hK hP hD hS 12 2 rfl rfl (iI_in (k := 0) rfl (by decide) (by decide)) dL_makespanIfMoved_9 (fun H locs hP hD hS => ?_)
  have hP : va_P D vwCl (xw ad cI cZ nn mm tT u.2.1 u.2.2 tL oO u.1 oQ zS zM zN oJ ++ [(b0, .inl (cJ, 1, .inr (.inl (lS fL (mkS tT mm oO q nn b)))))]) H := hP
  have hD : va_D A (xw ad cI cZ nn mm tT u.2.1 u.2.2 tL oO u.1 oQ zS zM zN oJ ++ [(b0, .inl (cJ, 1, .inr (.inl (lS fL (mkS tT mm oO q nn b)))))]) := hD
  refine lv_goto (tgt := 17) hx hb dL_makespanIfMoved_10 (by decide) ?_
  refine lv_iconst (v := iI 0) hx hb dL_makespanIfMoved_17 rfl ?_
  exact hret _ _ _ _ 18 ls _ u (Nat.zero_le _) (Nat.zero_le _) hP hD hS rfl dL_makespanIfMoved_18
set_option maxHeartbeats 4000000 in
set_option maxRecDepth 100000 in
theorem hL_orderByRule  (hT : ∀ k, 0 ≤ tT k ∧ tT k ≤ 99) (hn : nn ≤ 7) (h2 : mm = 2) : LM l yL_orderByRule wsL_orderByRule (rmt 6 137) D (tyk cI cZ cJ) (xw ad cI cZ nn mm tT tB tE tL oO oR oQ zS zM zN oJ ++ [(b0, .inl (cJ, 1, .inr (.inl (fL))))]) [.ref (ad 0), .ref (b0)] sa (QI D (tyk cI cZ cJ) (fun u : (Nat → Int) × (Nat → Int) => xw ad cI cZ nn mm tT u.1 u.2 tL (srt (gbr tT 0 1) oO nn) oR oQ zS zM zN oJ ++ [(b0, .inl (cJ, 1, .inr (.inl (lS fL (mk 0 mm tT (srt (gbr tT 0 1) oO nn) nn)))))]) (fun x _ => x = iI 0)) := by
  refine lm_of (cc := cL_orderByRule) (maxL := 3) (hh := [(0, 8, 11, 13)]) (by decide) rfl (Nat.le_of_ble_eq_true rfl) ?_
  intro p e s m args below meth c A Q hx hb hml hown hts htab hA hK hP hD hS hTX hret ls hl
  have hown : s.vm.findClass RL = some m.cls := hown
  have hl : lv_has ls 3 [(0, .ref (ad 0)), (1, .ref (b0))] := hl
  refine lv_aload_n hx hb dL_orderByRule_0 rfl (lv_at hl 1 rfl) ?_
  refine lv_iconst (v := iI 0) hx hb dL_orderByRule_1 rfl ?_
  refine lv_aload_n hx hb dL_orderByRule_2 rfl (lv_at hl 0 rfl) ?_
  refine w_iV (As := []) (rest := [.int (iI 0), .ref b0]) (wf := fun u : (Nat → Int) × (Nat → Int) => xw ad cI cZ nn mm tT u.1 u.2 tL (srt (gbr tT 0 1) oO nn) oR oQ zS zM zN oJ ++ [(b0, .inl (cJ, 1, .inr (.inl (fL))))]) (wr := [(b0, .inl (cJ, 1, .inr (.inl fL)))]) ⟨hx, hb, hml, hown, hts⟩ hK hP hD hS hA (mX0_orderByRule hT hn h2) (cwV 0 hts gL_orderByRule_X0_orderByRule rfl rfl rfl (by decide +kernel) ⟨Nat.le_of_ble_eq_true rfl, Nat.le_of_ble_eq_true rfl⟩) [0, 1, 2, 3, 4, 5, 6, 7, 8, 9, 10, 11] [12] [1, 2, 3, 4, 5, 6, 7, 8, 9, 10, 11, 12, 0] rfl rfl (by decide) (by decide) (by decide) (hwf := fun _ => rfl) (by decide) (ci := 0) rfl rfl rfl rfl hl.1 rfl (Nat.le_of_ble_eq_true rfl) dL_orderByRule_3 ⟨Nat.zero_le _, Nat.zero_le _⟩ (fun r u H locs hr hP hD hS => ?_)
  refine w_top (v := iI (mk 0 mm tT (srt (gbr tT 0 1) oO nn) nn)) (hr) ?_
  refine lv_i2l (v := (iI (mk 0 mm tT (srt (gbr tT 0 1) oO nn) nn)).toInt64) hx hb dL_orderByRule_6 rfl ?_
  refine va_last hx hb hK hP hD hS 12 2 rfl rfl (iI_in (k := 0) rfl (by decide) (by decide)) dL_orderByRule_7 (fun H locs hP hD hS => ?_)
  have hP : va_P D vwCl (xw ad cI cZ nn mm tT u.1 u.2 tL (srt (gbr tT 0 1) oO nn) oR oQ zS zM zN oJ ++ [(b0, .inl (cJ, 1, .inr (.inl (lS fL (mk 0 mm tT (srt (gbr tT 0 1) oO nn) nn)))))]) H := hP
  have hD : va_D A (xw ad cI cZ nn mm tT u.1 u.2 tL (srt (gbr tT 0 1) oO nn) oR oQ zS zM zN oJ ++ [(b0, .inl (cJ, 1, .inr (.inl (lS fL (mk 0 mm tT (srt (gbr tT 0 1) oO nn) nn)))))]) := hD
  refine lv_goto (tgt := 14) hx hb dL_orderByRule_8 (by decide) ?_
  refine lv_iconst (v := iI 0) hx hb dL_orderByRule_14 rfl ?_
  exact hret _ _ _ _ 15 ls _ u (Nat.zero_le _) (Nat.zero_le _) hP hD hS rfl dL_orderByRule_15
set_option maxHeartbeats 4000000 in
set_option maxRecDepth 100000 in
theorem hL_makespan {v : Nat} (hT : ∀ k, 0 ≤ tT k ∧ tT k ≤ 99) (hn : nn ≤ 7) (hm : 1 ≤ mm ∧ mm ≤ 5) (hv : v ≤ 2) (hO : ∀ k, k < nn → oO k < 7) : LM l yL_makespan wsL_makespan (rmt 6 138) D (tyk cI cZ cJ) (xw ad cI cZ nn mm tT tB tE tL oO oR oQ zS zM zN oJ ++ [(b0, .inl (cJ, 1, .inr (.inl (fL))))]) [.ref (ad 0), .int (iI ((v : Int))), .ref (b0)] sa (QI D (tyk cI cZ cJ) (fun u : (Nat → Int) × (Nat → Int) => xw ad cI cZ nn mm tT u.1 u.2 tL oO oR oQ zS zM zN oJ ++ [(b0, .inl (cJ, 1, .inr (.inl (lS fL (mk v mm tT oO nn)))))]) (fun x _ => x = iI 0)) := by
  refine lm_of (cc := cL_makespan) (maxL := 4) (hh := [(0, 9, 12, 19)]) (by decide) rfl (Nat.le_of_ble_eq_true rfl) ?_
  intro p e s m args below meth c A Q hx hb hml hown hts htab hA hK hP hD hS hTX hret ls hl
  have hown : s.vm.findClass RL = some m.cls := hown
  have hl : lv_has ls 4 [(0, .ref (ad 0)), (1, .int (iI ((v : Int)))), (2, .ref (b0))] := hl
  refine lv_aload_n hx hb dL_makespan_0 rfl (lv_at hl 2 rfl) ?_
  refine lv_iconst (v := iI 0) hx hb dL_makespan_1 rfl ?_
  refine lv_aload_n hx hb dL_makespan_2 rfl (lv_at hl 0 rfl) ?_
  refine lv_iload_n hx hb dL_makespan_3 rfl (lv_at hl 1 rfl) ?_
  refine w_iV (As := [.int (iI ((v : Int)))]) (rest := [.int (iI 0), .ref b0]) (wf := fun u : (Nat → Int) × (Nat → Int) => xw ad cI cZ nn mm tT u.1 u.2 tL oO oR oQ zS zM zN oJ ++ [(b0, .inl (cJ, 1, .inr (.inl (fL))))]) (wr := [(b0, .inl (cJ, 1, .inr (.inl fL)))]) ⟨hx, hb, hml, hown, hts⟩ hK hP hD hS hA (mX0_makespan hT hn hm hv hO) (cwV 1 hts gL_makespan_X0_makespan rfl rfl rfl (by decide +kernel) ⟨Nat.le_of_ble_eq_true rfl, Nat.le_of_ble_eq_true rfl⟩) [0, 1, 2, 3, 4, 5, 6, 7, 8, 9, 10, 11] [12] [1, 2, 3, 4, 5, 6, 7, 8, 9, 10, 11, 12, 0] rfl rfl (by decide) (by decide) (by decide) (hwf := fun _ => rfl) (by decide) (ci := 0) rfl rfl rfl rfl hl.1 rfl (Nat.le_of_ble_eq_true rfl) dL_makespan_4 ⟨Nat.zero_le _, Nat.zero_le _⟩ (fun r u H locs hr hP hD hS => ?_)
  refine w_top (v := iI (mk v mm tT oO nn)) (hr) ?_
  refine lv_i2l (v := (iI (mk v mm tT oO nn)).toInt64) hx hb dL_makespan_7 rfl ?_
  refine va_last hx hb hK hP hD hS 12 2 rfl rfl (iI_in (k := 0) rfl (by decide) (by decide)) dL_makespan_8 (fun H locs hP hD hS => ?_)
  have hP : va_P D vwCl (xw ad cI cZ nn mm tT u.1 u.2 tL oO oR oQ zS zM zN oJ ++ [(b0, .inl (cJ, 1, .inr (.inl (lS fL (mk v mm tT oO nn)))))]) H := hP
  have hD : va_D A (xw ad cI cZ nn mm tT u.1 u.2 tL oO oR oQ zS zM zN oJ ++ [(b0, .inl (cJ, 1, .inr (.inl (lS fL (mk v mm tT oO nn)))))]) := hD
  refine lv_goto (tgt := 15) hx hb dL_makespan_9 (by decide) ?_
  refine lv_iconst (v := iI 0) hx hb dL_makespan_15 rfl ?_
  exact hret _ _ _ _ 16 ls _ u (Nat.zero_le _) (Nat.zero_le _) hP hD hS rfl dL_makespan_16
set_option maxHeartbeats 4000000 in
set_option maxRecDepth 100000 in
theorem hL_begin {v q k : Nat} (hT : ∀ k, 0 ≤ tT k ∧ tT k ≤ 99) (hn : nn ≤ 7) (hm : 1 ≤ mm ∧ mm ≤ 5) (hv : v ≤ 2) (hO : ∀ k, k < nn → oO k < 7) (hq : q < nn) (hk : k < mm) : LM l yL_begin wsL_begin (rmt 6 140) D (tyk cI cZ cJ) (xw ad cI cZ nn mm tT tB tE tL oO oR oQ zS zM zN oJ ++ [(b0, .inl (cJ, 1, .inr (.inl (fL))))]) [.ref (ad 0), .int (iI ((v : Int))), .int (iI ((q : Int))), .int (iI ((k : Int))), .ref (b0)] sa (QI D (tyk cI cZ cJ) (fun u : (Nat → Int) × (Nat → Int) => xw ad cI cZ nn mm tT u.1 u.2 tL oO oR oQ zS zM zN oJ ++ [(b0, .inl (cJ, 1, .inr (.inl (lS fL ((row v mm tT oO (q + 1)).1 k)))))]) (fun x _ => x = iI 0)) := by
  refine lm_of (cc := cL_begin) (maxL := 6) (hh := [(0, 12, 15, 19), (0, 12, 19, 25)]) (by decide) rfl (Nat.le_of_ble_eq_true rfl) ?_
  intro p e s m args below meth c A Q hx hb hml hown hts htab hA hK hP hD hS hTX hret ls hl
  have hown : s.vm.findClass RL = some m.cls := hown
  have hl : lv_has ls 6 [(0, .ref (ad 0)), (1, .int (iI ((v : Int)))), (2, .int (iI ((q : Int)))), (3, .int (iI ((k : Int)))), (4, .ref (b0))] := hl
  refine lv_aload hx hb dL_begin_0 (lv_at hl 4 rfl) ?_
  refine lv_iconst (v := iI 0) hx hb dL_begin_2 rfl ?_
  refine lv_aload_n hx hb dL_begin_3 rfl (lv_at hl 0 rfl) ?_
  refine lv_iload_n hx hb dL_begin_4 rfl (lv_at hl 1 rfl) ?_
  refine lv_iload_n hx hb dL_begin_5 rfl (lv_at hl 2 rfl) ?_
  refine lv_iload_n hx hb dL_begin_6 rfl (lv_at hl 3 rfl) ?_
  refine w_iV (As := [.int (iI ((v : Int))), .int (iI ((q : Int))), .int (iI ((k : Int)))]) (rest := [.int (iI 0), .ref b0]) (wf := fun u : (Nat → Int) × (Nat → Int) => xw ad cI cZ nn mm tT u.1 u.2 tL oO oR oQ zS zM zN oJ ++ [(b0, .inl (cJ, 1, .inr (.inl (fL))))]) (wr := [(b0, .inl (cJ, 1, .inr (.inl fL)))]) ⟨hx, hb, hml, hown, hts⟩ hK hP hD hS hA (mX0_begin hT hn hm hv hO hq hk) (cwV 3 hts gL_begin_X0_begin rfl rfl rfl (by decide +kernel) ⟨Nat.le_of_ble_eq_true rfl, Nat.le_of_ble_eq_true rfl⟩) [0, 1, 2, 3, 4, 5, 6, 7, 8, 9, 10, 11] [12] [1, 2, 3, 4, 5, 6, 7, 8, 9, 10, 11, 12, 0] rfl rfl (by decide) (by decide) (by decide) (hwf := fun _ => rfl) (by decide) (ci := 0) rfl rfl rfl rfl hl.1 rfl (Nat.le_of_ble_eq_true rfl) dL_begin_7 ⟨Nat.zero_le _, Nat.zero_le _⟩ (fun r u H locs hr hP hD hS => ?_)
  refine w_top (v := iI ((row v mm tT oO (q + 1)).1 k)) (hr) ?_
  refine lv_i2l (v := (iI ((row v mm tT oO (q + 1)).1 k)).toInt64) hx hb dL_begin_10 rfl ?_
  refine va_last hx hb hK hP hD hS 12 2 rfl rfl (iI_in (k := 0) rfl (by decide) (by decide)) dL_begin_11 (fun H locs hP hD hS => ?_)
  have hP : va_P D vwCl (xw ad cI cZ nn mm tT u.1 u.2 tL oO oR oQ zS zM zN oJ ++ [(b0, .inl (cJ, 1, .inr (.inl (lS fL ((row v mm tT oO (q + 1)).1 k)))))]) H := hP
  have hD : va_D A (xw ad cI cZ nn mm tT u.1 u.2 tL oO oR oQ zS zM zN oJ ++ [(b0, .inl (cJ, 1, .inr (.inl (lS fL ((row v mm tT oO (q + 1)).1 k)))))]) := hD
  refine lv_goto (tgt := 23) hx hb dL_begin_12 (by decide) ?_
  refine lv_iconst (v := iI 0) hx hb dL_begin_23 rfl ?_
  exact hret _ _ _ _ 24 ls _ u (Nat.zero_le _) (Nat.zero_le _) hP hD hS rfl dL_begin_24
set_option maxHeartbeats 4000000 in
set_option maxRecDepth 100000 in
theorem hL_head {q k : Nat} (hT : ∀ k, 0 ≤ tT k ∧ tT k ≤ 99) (hn : nn ≤ 7) (hm : 1 ≤ mm ∧ mm ≤ 5) (hO : ∀ k, k < nn → oO k < 7) (hq : q < nn) (hk : k < mm) : LM l yL_head wsL_head (rmt 6 139) D (tyk cI cZ cJ) (xw ad cI cZ nn mm tT tB tE tL oO oR oQ zS zM zN oJ ++ [(b0, .inl (cJ, 1, .inr (.inl (fL))))]) [.ref (ad 0), .int (iI ((q : Int))), .int (iI ((k : Int))), .ref (b0)] sa (QI D (tyk cI cZ cJ) (fun u : (Nat → Int) × (Nat → Int) => xw ad cI cZ nn mm tT u.1 u.2 tL oO oR oQ zS zM zN oJ ++ [(b0, .inl (cJ, 1, .inr (.inl (lS fL ((row 0 mm tT oO (q + 1)).2 k)))))]) (fun x _ => x = iI 0)) := by
  refine lm_of (cc := cL_head) (maxL := 5) (hh := [(0, 10, 13, 25)]) (by decide) rfl (Nat.le_of_ble_eq_true rfl) ?_
  intro p e s m args below meth c A Q hx hb hml hown hts htab hA hK hP hD hS hTX hret ls hl
  have hown : s.vm.findClass RL = some m.cls := hown
  have hl : lv_has ls 5 [(0, .ref (ad 0)), (1, .int (iI ((q : Int)))), (2, .int (iI ((k : Int)))), (3, .ref (b0))] := hl
  refine lv_aload_n hx hb dL_head_0 rfl (lv_at hl 3 rfl) ?_
  refine lv_iconst (v := iI 0) hx hb dL_head_1 rfl ?_
  refine lv_aload_n hx hb dL_head_2 rfl (lv_at hl 0 rfl) ?_
  refine lv_iload_n hx hb dL_head_3 rfl (lv_at hl 1 rfl) ?_
  refine lv_iload_n hx hb dL_head_4 rfl (lv_at hl 2 rfl) ?_
  refine w_iV (As := [.int (iI ((q : Int))), .int (iI ((k : Int)))]) (rest := [.int (iI 0), .ref b0]) (wf := fun u : (Nat → Int) × (Nat → Int) => xw ad cI cZ nn mm tT u.1 u.2 tL oO oR oQ zS zM zN oJ ++ [(b0, .inl (cJ, 1, .inr (.inl (fL))))]) (wr := [(b0, .inl (cJ, 1, .inr (.inl fL)))]) ⟨hx, hb, hml, hown, hts⟩ hK hP hD hS hA (mX0_head hT hn hm hO hq hk) (cwV 2 hts gL_head_X0_head rfl rfl rfl (by decide +kernel) ⟨Nat.le_of_ble_eq_true rfl, Nat.le_of_ble_eq_true rfl⟩) [0, 1, 2, 3, 4, 5, 6, 7, 8, 9, 10, 11] [12] [1, 2, 3, 4, 5, 6, 7, 8, 9, 10, 11, 12, 0] rfl rfl (by decide) (by decide) (by decide) (hwf := fun _ => rfl) (by decide) (ci := 0) rfl rfl rfl rfl hl.1 rfl (Nat.le_of_ble_eq_true rfl) dL_head_5 ⟨Nat.zero_le _, Nat.zero_le _⟩ (fun r u H locs hr hP hD hS => ?_)
  refine w_top (v := iI ((row 0 mm tT oO (q + 1)).2 k)) (hr) ?_
  refine lv_i2l (v := (iI ((row 0 mm tT oO (q + 1)).2 k)).toInt64) hx hb dL_head_8 rfl ?_
  refine va_last hx hb hK hP hD hS 12 2 rfl rfl (iI_in (k := 0) rfl (by decide) (by decide)) dL_head_9 (fun H locs hP hD hS => ?_)
  have hP : va_P D vwCl (xw ad cI cZ nn mm tT u.1 u.2 tL oO oR oQ zS zM zN oJ ++ [(b0, .inl (cJ, 1, .inr (.inl (lS fL ((row 0 mm tT oO (q + 1)).2 k)))))]) H := hP
  have hD : va_D A (xw ad cI cZ nn mm tT u.1 u.2 tL oO oR oQ zS zM zN oJ ++ [(b0, .inl (cJ, 1, .inr (.inl (lS fL ((row 0 mm tT oO (q + 1)).2 k)))))]) := hD
  refine lv_goto (tgt := 17) hx hb dL_head_10 (by decide) ?_
  refine lv_iconst (v := iI 0) hx hb dL_head_17 rfl ?_
  exact hret _ _ _ _ 18 ls _ u (Nat.zero_le _) (Nat.zero_le _) hP hD hS rfl dL_head_18
set_option maxHeartbeats 4000000 in
set_option maxRecDepth 100000 in
theorem hL_tail {q k : Nat} (hT : ∀ k, 0 ≤ tT k ∧ tT k ≤ 99) (hn : nn ≤ 7) (hm : 1 ≤ mm ∧ mm ≤ 5) (hO : ∀ k, k < nn → oO k < 7) (hq : q < nn) (hk : k < mm) : LM l yL_tail wsL_tail (rmt 4 88) D (tyk cI cZ cJ) (xw ad cI cZ nn mm tT tB tE tL oO oR oQ zS zM zN oJ ++ [(b0, .inl (cJ, 1, .inr (.inl (fL))))]) [.ref (ad 0), .int (iI ((q : Int))), .int (iI ((k : Int))), .ref (b0)] sa (QI D (tyk cI cZ cJ) (fun u : (Nat → Int) => xw ad cI cZ nn mm tT tB tE u oO oR oQ zS zM zN oJ ++ [(b0, .inl (cJ, 1, .inr (.inl (lS fL (tlr tT oO nn mm (nn - q) k)))))]) (fun x _ => x = iI 0)) := by
  refine lm_of (cc := cL_tail) (maxL := 5) (hh := [(0, 10, 13, 25)]) (by decide) rfl (Nat.le_of_ble_eq_true rfl) ?_
  intro p e s m args below meth c A Q hx hb hml hown hts htab hA hK hP hD hS hTX hret ls hl
  have hown : s.vm.findClass RL = some m.cls := hown
  have hl : lv_has ls 5 [(0, .ref (ad 0)), (1, .int (iI ((q : Int)))), (2, .int (iI ((k : Int)))), (3, .ref (b0))] := hl
  refine lv_aload_n hx hb dL_tail_0 rfl (lv_at hl 3 rfl) ?_
  refine lv_iconst (v := iI 0) hx hb dL_tail_1 rfl ?_
  refine lv_aload_n hx hb dL_tail_2 rfl (lv_at hl 0 rfl) ?_
  refine lv_iload_n hx hb dL_tail_3 rfl (lv_at hl 1 rfl) ?_
  refine lv_iload_n hx hb dL_tail_4 rfl (lv_at hl 2 rfl) ?_
  refine w_iV (As := [.int (iI ((q : Int))), .int (iI ((k : Int)))]) (rest := [.int (iI 0), .ref b0]) (wf := fun u : (Nat → Int) => xw ad cI cZ nn mm tT tB tE u oO oR oQ zS zM zN oJ ++ [(b0, .inl (cJ, 1, .inr (.inl (fL))))]) (wr := [(b0, .inl (cJ, 1, .inr (.inl fL)))]) ⟨hx, hb, hml, hown, hts⟩ hK hP hD hS hA (mX0_tail hT hn hm hO hq hk) (cwV 2 hts gL_tail_X0_tail rfl rfl rfl (by decide +kernel) ⟨Nat.le_of_ble_eq_true rfl, Nat.le_of_ble_eq_true rfl⟩) [0, 1, 2, 3, 4, 5, 6, 7, 8, 9, 10, 11] [12] [1, 2, 3, 4, 5, 6, 7, 8, 9, 10, 11, 12, 0] rfl rfl (by decide) (by decide) (by decide) (hwf := fun _ => rfl) (by decide) (ci := 0) rfl rfl rfl rfl hl.1 rfl (Nat.le_of_ble_eq_true rfl) dL_tail_5 ⟨Nat.zero_le _, Nat.zero_le _⟩ (fun r u H locs hr hP hD hS => ?_)
  refine w_top (v := iI (tlr tT oO nn mm (nn - q) k)) (hr) ?_
  refine lv_i2l (v := (iI (tlr tT oO nn mm (nn - q) k)).toInt64) hx hb dL_tail_8 rfl ?_
  refine va_last hx hb hK hP hD hS 12 2 rfl rfl (iI_in (k := 0) rfl (by decide) (by decide)) dL_tail_9 (fun H locs hP hD hS => ?_)
  have hP : va_P D vwCl (xw ad cI cZ nn mm tT tB tE u oO oR oQ zS zM zN oJ ++ [(b0, .inl (cJ, 1, .inr (.inl (lS fL (tlr tT oO nn mm (nn - q) k)))))]) H := hP
  have hD : va_D A (xw ad cI cZ nn mm tT tB tE u oO oR oQ zS zM zN oJ ++ [(b0, .inl (cJ, 1, .inr (.inl (lS fL (tlr tT oO nn mm (nn - q) k)))))]) := hD
  refine lv_goto (tgt := 17) hx hb dL_tail_10 (by decide) ?_
  refine lv_iconst (v := iI 0) hx hb dL_tail_17 rfl ?_
  exact hret _ _ _ _ 18 ls _ u (Nat.zero_le _) (Nat.zero_le _) hP hD hS rfl dL_tail_18
set_option maxHeartbeats 4000000 in
set_option maxRecDepth 100000 in
theorem hL_isCritical {q k : Nat} (hT : ∀ k, 0 ≤ tT k ∧ tT k ≤ 99) (hn : nn ≤ 7) (hm : 1 ≤ mm ∧ mm ≤ 5) (hO : ∀ k, k < nn → oO k < 7) (hq : q < nn) (hk : k < mm) : LM l yL_isCritical wsL_isCritical (rmt 6 141) D (tyk cI cZ cJ) (xw ad cI cZ nn mm tT tB tE tL oO oR oQ zS zM zN oJ ++ [(b0, .inl (cJ, 1, .inr (.inl (fL))))]) [.ref (ad 0), .int (iI ((q : Int))), .int (iI ((k : Int))), .ref (b0)] sa (QI D (tyk cI cZ cJ) (fun u : (Nat → Int) × (Nat → Int) × (Nat → Int) => xw ad cI cZ nn mm tT u.1 u.2.1 u.2.2 oO oR oQ zS zM zN oJ ++ [(b0, .inl (cJ, 1, .inr (.inl (lS fL (crtV mm tT oO nn q k)))))]) (fun x _ => x = iI 0)) := by
  refine lm_of (cc := cL_isCritical) (maxL := 5) (hh := [(0, 17, 20, 25)]) (by decide) rfl (Nat.le_of_ble_eq_true rfl) ?_
  intro p e s m args below meth c A Q hx hb hml hown hts htab hA hK hP hD hS hTX hret ls hl
  have hown : s.vm.findClass RL = some m.cls := hown
  have hl : lv_has ls 5 [(0, .ref (ad 0)), (1, .int (iI ((q : Int)))), (2, .int (iI ((k : Int)))), (3, .ref (b0))] := hl
  refine lv_aload_n hx hb dL_isCritical_0 rfl (lv_at hl 3 rfl) ?_
  refine lv_iconst (v := iI 0) hx hb dL_isCritical_1 rfl ?_
  refine lv_aload_n hx hb dL_isCritical_2 rfl (lv_at hl 0 rfl) ?_
  refine lv_iload_n hx hb dL_isCritical_3 rfl (lv_at hl 1 rfl) ?_
  refine lv_iload_n hx hb dL_isCritical_4 rfl (lv_at hl 2 rfl) ?_
  refine w_iV (As := [.int (iI ((q : Int))), .int (iI ((k : Int)))]) (rest := [.int (iI 0), .ref b0]) (wf := fun u : (Nat → Int) × (Nat → Int) × (Nat → Int) => xw ad cI cZ nn mm tT u.1 u.2.1 u.2.2 oO oR oQ zS zM zN oJ ++ [(b0, .inl (cJ, 1, .inr (.inl (fL))))]) (wr := [(b0, .inl (cJ, 1, .inr (.inl fL)))]) ⟨hx, hb, hml, hown, hts⟩ hK hP hD hS hA (mX0_isCritical hT hn hm hO hq hk) (cwV 2 hts gL_isCritical_X0_isCritical rfl rfl rfl (by decide +kernel) ⟨Nat.le_of_ble_eq_true rfl, Nat.le_of_ble_eq_true rfl⟩) [0, 1, 2, 3, 4, 5, 6, 7, 8, 9, 10, 11] [12] [1, 2, 3, 4, 5, 6, 7, 8, 9, 10, 11, 12, 0] rfl rfl (by decide) (by decide) (by decide) (hwf := fun _ => rfl) (by decide) (ci := 0) rfl rfl rfl rfl hl.1 rfl (Nat.le_of_ble_eq_true rfl) dL_isCritical_5 ⟨Nat.zero_le _, Nat.zero_le _⟩ (fun r u H locs hr hP hD hS => ?_)
  refine w_top (v := iI (crtV mm tT oO nn q k)) (hr) ?_
  have hc : (crtV mm tT oO nn q k) = 0 ∨ (crtV mm tT oO nn q k) = 1 := by unfold crtV; split <;> simp
  refine w_if_eq (tgt := 15) hx hb dL_isCritical_8 (by decide) ⟨by omega, by omega⟩ (fun c8 => ?_) (fun c8 => ?_)
  · refine lv_lconst (v := (iI (crtV mm tT oO nn q k)).toInt64) hx hb dL_isCritical_15 (by rw [c8]; decide +kernel) ?_
    refine va_last hx hb hK hP hD hS 12 2 rfl rfl (iI_in (k := 0) rfl (by decide) (by decide)) dL_isCritical_16 (fun H locs hP hD hS => ?_)
    have hP : va_P D vwCl (xw ad cI cZ nn mm tT u.1 u.2.1 u.2.2 oO oR oQ zS zM zN oJ ++ [(b0, .inl (cJ, 1, .inr (.inl (lS fL (crtV mm tT oO nn q k)))))]) H := hP
    have hD : va_D A (xw ad cI cZ nn mm tT u.1 u.2.1 u.2.2 oO oR oQ zS zM zN oJ ++ [(b0, .inl (cJ, 1, .inr (.inl (lS fL (crtV mm tT oO nn q k)))))]) := hD
    refine lv_goto (tgt := 24) hx hb dL_isCritical_17 (by decide) ?_
    refine lv_iconst (v := iI 0) hx hb dL_isCritical_24 rfl ?_
    exact hret _ _ _ _ 25 ls _ u (Nat.zero_le _) (Nat.zero_le _) hP hD hS rfl dL_isCritical_25
  · refine lv_lconst (v := (iI (crtV mm tT oO nn q k)).toInt64) hx hb dL_isCritical_11 (by rw [show (crtV mm tT oO nn q k) = 1 by omega]; decide +kernel) ?_
    refine lv_goto (tgt := 16) hx hb dL_isCritical_12 (by decide) ?_
    refine va_last hx hb hK hP hD hS 12 2 rfl rfl (iI_in (k := 0) rfl (by decide) (by decide)) dL_isCritical_16 (fun H locs hP hD hS => ?_)
    have hP : va_P D vwCl (xw ad cI cZ nn mm tT u.1 u.2.1 u.2.2 oO oR oQ zS zM zN oJ ++ [(b0, .inl (cJ, 1, .inr (.inl (lS fL (crtV mm tT oO nn q k)))))]) H := hP
    have hD : va_D A (xw ad cI cZ nn mm tT u.1 u.2.1 u.2.2 oO oR oQ zS zM zN oJ ++ [(b0, .inl (cJ, 1, .inr (.inl (lS fL (crtV mm tT oO nn q k)))))]) := hD
    refine lv_goto (tgt := 24) hx hb dL_isCritical_17 (by decide) ?_
    refine lv_iconst (v := iI 0) hx hb dL_isCritical_24 rfl ?_
    exact hret _ _ _ _ 25 ls _ u (Nat.zero_le _) (Nat.zero_le _) hP hD hS rfl dL_isCritical_25
set_option maxHeartbeats 4000000 in
set_option maxRecDepth 100000 in
theorem hL_idle {v k : Nat} (hT : ∀ k, 0 ≤ tT k ∧ tT k ≤ 99) (hn : nn ≤ 7) (hm : 1 ≤ mm ∧ mm ≤ 5) (hv : v ≤ 2) (hO : ∀ k, k < nn → oO k < 7) (hk : k < mm) : LM l yL_idle wsL_idle (rmt 6 139) D (tyk cI cZ cJ) (xw ad cI cZ nn mm tT tB tE tL oO oR oQ zS zM zN oJ ++ [(b0, .inl (cJ, 1, .inr (.inl (fL))))]) [.ref (ad 0), .int (iI ((v : Int))), .int (iI ((k : Int))), .ref (b0)] sa (QI D (tyk cI cZ cJ) (fun u : (Nat → Int) × (Nat → Int) => xw ad cI cZ nn mm tT u.1 u.2 tL oO oR oQ zS zM zN oJ ++ [(b0, .inl (cJ, 1, .inr (.inl (lS fL (idlV v mm tT oO nn k)))))]) (fun x _ => x = iI 0)) := by
  refine lm_of (cc := cL_idle) (maxL := 5) (hh := [(0, 10, 13, 19), (0, 10, 17, 25)]) (by decide) rfl (Nat.le_of_ble_eq_true rfl) ?_
  intro p e s m args below meth c A Q hx hb hml hown hts htab hA hK hP hD hS hTX hret ls hl
  have hown : s.vm.findClass RL = some m.cls := hown
  have hl : lv_has ls 5 [(0, .ref (ad 0)), (1, .int (iI ((v : Int)))), (2, .int (iI ((k : Int)))), (3, .ref (b0))] := hl
  refine lv_aload_n hx hb dL_idle_0 rfl (lv_at hl 3 rfl) ?_
  refine lv_iconst (v := iI 0) hx hb dL_idle_1 rfl ?_
  refine lv_aload_n hx hb dL_idle_2 rfl (lv_at hl 0 rfl) ?_
  refine lv_iload_n hx hb dL_idle_3 rfl (lv_at hl 1 rfl) ?_
  refine lv_iload_n hx hb dL_idle_4 rfl (lv_at hl 2 rfl) ?_
  refine w_iV (As := [.int (iI ((v : Int))), .int (iI ((k : Int)))]) (rest := [.int (iI 0), .ref b0]) (wf := fun u : (Nat → Int) × (Nat → Int) => xw ad cI cZ nn mm tT u.1 u.2 tL oO oR oQ zS zM zN oJ ++ [(b0, .inl (cJ, 1, .inr (.inl (fL))))]) (wr := [(b0, .inl (cJ, 1, .inr (.inl fL)))]) ⟨hx, hb, hml, hown, hts⟩ hK hP hD hS hA (mX0_idle hT hn hm hv hO hk) (cwV 2 hts gL_idle_X0_idle rfl rfl rfl (by decide +kernel) ⟨Nat.le_of_ble_eq_true rfl, Nat.le_of_ble_eq_true rfl⟩) [0, 1, 2, 3, 4, 5, 6, 7, 8, 9, 10, 11] [12] [1, 2, 3, 4, 5, 6, 7, 8, 9, 10, 11, 12, 0] rfl rfl (by decide) (by decide) (by decide) (hwf := fun _ => rfl) (by decide) (ci := 0) rfl rfl rfl rfl hl.1 rfl (Nat.le_of_ble_eq_true rfl) dL_idle_5 ⟨Nat.zero_le _, Nat.zero_le _⟩ (fun r u H locs hr hP hD hS => ?_)
  refine w_top (v := iI (idlV v mm tT oO nn k)) (hr) ?_
  refine lv_i2l (v := (iI (idlV v mm tT oO nn k)).toInt64) hx hb dL_idle_8 rfl ?_
  refine va_last hx hb hK hP hD hS 12 2 rfl rfl (iI_in (k := 0) rfl (by decide) (by decide)) dL_idle_9 (fun H locs hP hD hS => ?_)
  have hP : va_P D vwCl (xw ad cI cZ nn mm tT u.1 u.2 tL oO oR oQ zS zM zN oJ ++ [(b0, .inl (cJ, 1, .inr (.inl (lS fL (idlV v mm tT oO nn k)))))]) H := hP
  have hD : va_D A (xw ad cI cZ nn mm tT u.1 u.2 tL oO oR oQ zS zM zN oJ ++ [(b0, .inl (cJ, 1, .inr (.inl (lS fL (idlV v mm tT oO nn k)))))]) := hD
  refine lv_goto (tgt := 21) hx hb dL_idle_10 (by decide) ?_
  refine lv_iconst (v := iI 0) hx hb dL_idle_21 rfl ?_
  exact hret _ _ _ _ 22 ls _ u (Nat.zero_le _) (Nat.zero_le _) hP hD hS rfl dL_idle_22
set_option maxHeartbeats 4000000 in
set_option maxRecDepth 100000 in
theorem hL_machineBound {k : Nat} (hT : ∀ k, 0 ≤ tT k ∧ tT k ≤ 99) (hn : nn ≤ 7) (hm : 1 ≤ mm ∧ mm ≤ 5) (hk : k < mm) : LM l yL_machineBound wsL_machineBound (rmt 5 113) D (tyk cI cZ cJ) (xw ad cI cZ nn mm tT tB tE tL oO oR oQ zS zM zN oJ ++ [(b0, .inl (cJ, 1, .inr (.inl (fL))))]) [.ref (ad 0), .int (iI ((k : Int))), .ref (b0)] sa (QI D (tyk cI cZ cJ) (fun u : Unit => xw ad cI cZ nn mm tT tB tE tL oO oR oQ zS zM zN oJ ++ [(b0, .inl (cJ, 1, .inr (.inl (lS fL (ldC tT k nn + lsX tT 0 k (nn - 1) + lsX tT (k + 1) mm (nn - 1))))))]) (fun x _ => x = iI 0)) := by
  refine lm_of (cc := cL_machineBound) (maxL := 4) (hh := [(0, 9, 12, 25)]) (by decide) rfl (Nat.le_of_ble_eq_true rfl) ?_
  intro p e s m args below meth c A Q hx hb hml hown hts htab hA hK hP hD hS hTX hret ls hl
  have hown : s.vm.findClass RL = some m.cls := hown
  have hl : lv_has ls 4 [(0, .ref (ad 0)), (1, .int (iI ((k : Int)))), (2, .ref (b0))] := hl
  refine lv_aload_n hx hb dL_machineBound_0 rfl (lv_at hl 2 rfl) ?_
  refine lv_iconst (v := iI 0) hx hb dL_machineBound_1 rfl ?_
  refine lv_aload_n hx hb dL_machineBound_2 rfl (lv_at hl 0 rfl) ?_
  refine lv_iload_n hx hb dL_machineBound_3 rfl (lv_at hl 1 rfl) ?_
  refine w_pV (As := [.int (iI ((k : Int)))]) (rest := [.int (iI 0), .ref b0]) ⟨hx, hb, hml, hown, hts⟩ hK (hP.sub (ws' := xw ad cI cZ nn mm tT tB tE tL oO oR oQ zS zM zN oJ) [0, 1, 2, 3, 4, 5, 6, 7, 8, 9, 10, 11] rfl) (mX0_machineBound hT hn hm hk) (cwV 1 hts gL_machineBound_X0_machineBound rfl rfl rfl (by decide +kernel) ⟨Nat.le_of_ble_eq_true rfl, Nat.le_of_ble_eq_true rfl⟩) (ci := 0) rfl rfl rfl rfl hl.1 rfl (Nat.le_of_ble_eq_true rfl) dL_machineBound_4 ⟨Nat.zero_le _, Nat.zero_le _⟩ (fun r hr => ?_)
  have u : Unit := ()
  refine w_top (v := iI (ldC tT k nn + lsX tT 0 k (nn - 1) + lsX tT (k + 1) mm (nn - 1))) (hr) ?_
  refine lv_i2l (v := (iI (ldC tT k nn + lsX tT 0 k (nn - 1) + lsX tT (k + 1) mm (nn - 1))).toInt64) hx hb dL_machineBound_7 rfl ?_
  refine va_last hx hb hK hP hD hS 12 2 rfl rfl (iI_in (k := 0) rfl (by decide) (by decide)) dL_machineBound_8 (fun H locs hP hD hS => ?_)
  have hP : va_P D vwCl (xw ad cI cZ nn mm tT tB tE tL oO oR oQ zS zM zN oJ ++ [(b0, .inl (cJ, 1, .inr (.inl (lS fL (ldC tT k nn + lsX tT 0 k (nn - 1) + lsX tT (k + 1) mm (nn - 1))))))]) H := hP
  have hD : va_D A (xw ad cI cZ nn mm tT tB tE tL oO oR oQ zS zM zN oJ ++ [(b0, .inl (cJ, 1, .inr (.inl (lS fL (ldC tT k nn + lsX tT 0 k (nn - 1) + lsX tT (k + 1) mm (nn - 1))))))]) := hD
  refine lv_goto (tgt := 15) hx hb dL_machineBound_9 (by decide) ?_
  refine lv_iconst (v := iI 0) hx hb dL_machineBound_15 rfl ?_
  exact hret _ _ _ _ 16 ls _ u (Nat.zero_le _) (Nat.zero_le _) hP hD hS rfl dL_machineBound_16
set_option maxHeartbeats 4000000 in
set_option maxRecDepth 100000 in
theorem hL_pairBound {a b : Nat} (hT : ∀ k, 0 ≤ tT k ∧ tT k ≤ 99) (hn : nn ≤ 7) (hm : 1 ≤ mm ∧ mm ≤ 5) (hab : a < b) (hbm : b < mm) : LM l yL_pairBound wsL_pairBound (rmt 6 141) D (tyk cI cZ cJ) (xw ad cI cZ nn mm tT tB tE tL oO oR oQ zS zM zN oJ ++ [(b0, .inl (cJ, 1, .inr (.inl (fL))))]) [.ref (ad 0), .int (iI ((a : Int))), .int (iI ((b : Int))), .ref (b0)] sa (QI D (tyk cI cZ cJ) (fun u : Unit => xw ad cI cZ nn mm tT tB tE tL oO (srt (gbr tT a b) oR nn) oQ zS zM zN oJ ++ [(b0, .inl (cJ, 1, .inr (.inl (lS fL (opS tT (srt (gbr tT a b) oR nn) a b nn + lsX tT 0 a (nn - 1) + lsX tT (b + 1) mm (nn - 1))))))]) (fun x _ => x = iI 0)) := by
  refine lm_of (cc := cL_pairBound) (maxL := 5) (hh := [(0, 10, 13, 25), (0, 10, 17, 19)]) (by decide) rfl (Nat.le_of_ble_eq_true rfl) ?_
  intro p e s m args below meth c A Q hx hb hml hown hts htab hA hK hP hD hS hTX hret ls hl
  have hown : s.vm.findClass RL = some m.cls := hown
  have hl : lv_has ls 5 [(0, .ref (ad 0)), (1, .int (iI ((a : Int)))), (2, .int (iI ((b : Int)))), (3, .ref (b0))] := hl
  refine lv_aload_n hx hb dL_pairBound_0 rfl (lv_at hl 3 rfl) ?_
  refine lv_iconst (v := iI 0) hx hb dL_pairBound_1 rfl ?_
  refine lv_aload_n hx hb dL_pairBound_2 rfl (lv_at hl 0 rfl) ?_
  refine lv_iload_n hx hb dL_pairBound_3 rfl (lv_at hl 1 rfl) ?_
  refine lv_iload_n hx hb dL_pairBound_4 rfl (lv_at hl 2 rfl) ?_
  refine w_iV (As := [.int (iI ((a : Int))), .int (iI ((b : Int)))]) (rest := [.int (iI 0), .ref b0]) (wf := fun u : Unit => xw ad cI cZ nn mm tT tB tE tL oO (srt (gbr tT a b) oR nn) oQ zS zM zN oJ ++ [(b0, .inl (cJ, 1, .inr (.inl (fL))))]) (wr := [(b0, .inl (cJ, 1, .inr (.inl fL)))]) ⟨hx, hb, hml, hown, hts⟩ hK hP hD hS hA (mX0_pairBound hT hn hm hab hbm) (cwV 2 hts gL_pairBound_X0_pairBound rfl rfl rfl (by decide +kernel) ⟨Nat.le_of_ble_eq_true rfl, Nat.le_of_ble_eq_true rfl⟩) [0, 1, 2, 3, 4, 5, 6, 7, 8, 9, 10, 11] [12] [1, 2, 3, 4, 5, 6, 7, 8, 9, 10, 11, 12, 0] rfl rfl (by decide) (by decide) (by decide) (hwf := fun _ => rfl) (by decide) (ci := 0) rfl rfl rfl rfl hl.1 rfl (Nat.le_of_ble_eq_true rfl) dL_pairBound_5 ⟨Nat.zero_le _, Nat.zero_le _⟩ (fun r u H locs hr hP hD hS => ?_)
  refine w_top (v := iI (opS tT (srt (gbr tT a b) oR nn) a b nn + lsX tT 0 a (nn - 1) + lsX tT (b + 1) mm (nn - 1))) (hr) ?_
  refine lv_i2l (v := (iI (opS tT (srt (gbr tT a b) oR nn) a b nn + lsX tT 0 a (nn - 1) + lsX tT (b + 1) mm (nn - 1))).toInt64) hx hb dL_pairBound_8 rfl ?_
  refine va_last hx hb hK hP hD hS 12 2 rfl rfl (iI_in (k := 0) rfl (by decide) (by decide)) dL_pairBound_9 (fun H locs hP hD hS => ?_)
  have hP : va_P D vwCl (xw ad cI cZ nn mm tT tB tE tL oO (srt (gbr tT a b) oR nn) oQ zS zM zN oJ ++ [(b0, .inl (cJ, 1, .inr (.inl (lS fL (opS tT (srt (gbr tT a b) oR nn) a b nn + lsX tT 0 a (nn - 1) + lsX tT (b + 1) mm (nn - 1))))))]) H := hP
  have hD : va_D A (xw ad cI cZ nn mm tT tB tE tL oO (srt (gbr tT a b) oR nn) oQ zS zM zN oJ ++ [(b0, .inl (cJ, 1, .inr (.inl (lS fL (opS tT (srt (gbr tT a b) oR nn) a b nn + lsX tT 0 a (nn - 1) + lsX tT (b + 1) mm (nn - 1))))))]) := hD
  refine lv_goto (tgt := 21) hx hb dL_pairBound_10 (by decide) ?_
  refine lv_iconst (v := iI 0) hx hb dL_pairBound_21 rfl ?_
  exact hret _ _ _ _ 22 ls _ u (Nat.zero_le _) (Nat.zero_le _) hP hD hS rfl dL_pairBound_22
set_option maxHeartbeats 4000000 in
set_option maxRecDepth 100000 in
theorem hL_best {v : Nat} (hT : ∀ k, 0 ≤ tT k ∧ tT k ≤ 99) (hn : nn ≤ 7) (hm : 1 ≤ mm ∧ mm ≤ 5) (hv : v ≤ 2) (hE : Enu nn) (hCK : CK mm tT nn zS zM zN oJ) (hMb : ∀ k, k ≤ 2 → 0 ≤ zM k ∧ zM k ≤ 1000000) : LM l yL_best wsL_best (rmt 6 140) D (tyk cI cZ cJ) (xw ad cI cZ nn mm tT tB tE tL oO oR oQ zS zM zN oJ ++ [(b0, .inl (cJ, 1, .inr (.inl (fL))))]) [.ref (ad 0), .int (iI ((v : Int))), .ref (b0)] sa (QI D (tyk cI cZ cJ) (fun u : (Nat → Int) × (Nat → Int) × (Nat → Nat) × (Nat → Int) × (Nat → Int) × (Nat → Nat) × (Nat → Int) => xw ad cI cZ nn mm tT u.1 u.2.1 tL oO u.2.2.1 oQ u.2.2.2.2.2.2 u.2.2.2.1 u.2.2.2.2.1 u.2.2.2.2.2.1 ++ [(b0, .inl (cJ, 1, .inr (.inl (lS fL ((sol v mm tT nn).1)))))]) (fun x u => x = iI 0 ∧ CK mm tT nn u.2.2.2.2.2.2 u.2.2.2.1 u.2.2.2.2.1 u.2.2.2.2.2.1 ∧ ∀ k, k ≤ 2 → 0 ≤ u.2.2.2.1 k ∧ u.2.2.2.1 k ≤ 1000000)) := by
  refine lm_of (cc := cL_best) (maxL := 4) (hh := [(0, 9, 12, 19)]) (by decide) rfl (Nat.le_of_ble_eq_true rfl) ?_
  intro p e s m args below meth c A Q hx hb hml hown hts htab hA hK hP hD hS hTX hret ls hl
  have hown : s.vm.findClass RL = some m.cls := hown
  have hl : lv_has ls 4 [(0, .ref (ad 0)), (1, .int (iI ((v : Int)))), (2, .ref (b0))] := hl
  refine lv_aload_n hx hb dL_best_0 rfl (lv_at hl 2 rfl) ?_
  refine lv_iconst (v := iI 0) hx hb dL_best_1 rfl ?_
  refine lv_aload_n hx hb dL_best_2 rfl (lv_at hl 0 rfl) ?_
  refine lv_iload_n hx hb dL_best_3 rfl (lv_at hl 1 rfl) ?_
  refine w_iV (As := [.int (iI ((v : Int)))]) (rest := [.int (iI 0), .ref b0]) (wf := fun u : (Nat → Int) × (Nat → Int) × (Nat → Nat) × (Nat → Int) × (Nat → Int) × (Nat → Nat) × (Nat → Int) => xw ad cI cZ nn mm tT u.1 u.2.1 tL oO u.2.2.1 oQ u.2.2.2.2.2.2 u.2.2.2.1 u.2.2.2.2.1 u.2.2.2.2.2.1 ++ [(b0, .inl (cJ, 1, .inr (.inl (fL))))]) (wr := [(b0, .inl (cJ, 1, .inr (.inl fL)))]) ⟨hx, hb, hml, hown, hts⟩ hK hP hD hS hA (mX0_best hT hn hm hv hE hCK hMb) (cwV 1 hts gL_best_X0_best rfl rfl rfl (by decide +kernel) ⟨Nat.le_of_ble_eq_true rfl, Nat.le_of_ble_eq_true rfl⟩) [0, 1, 2, 3, 4, 5, 6, 7, 8, 9, 10, 11] [12] [1, 2, 3, 4, 5, 6, 7, 8, 9, 10, 11, 12, 0] rfl rfl (by decide) (by decide) (by decide) (hwf := fun _ => rfl) (by decide) (ci := 0) rfl rfl rfl rfl hl.1 rfl (Nat.le_of_ble_eq_true rfl) dL_best_4 ⟨Nat.zero_le _, Nat.zero_le _⟩ (fun r u H locs hr hP hD hS => ?_)
  refine w_top (v := iI ((sol v mm tT nn).1)) (hr.1) ?_
  refine lv_i2l (v := (iI ((sol v mm tT nn).1)).toInt64) hx hb dL_best_7 rfl ?_
  refine va_last hx hb hK hP hD hS 12 2 rfl rfl (iI_in (k := 0) rfl (by decide) (by decide)) dL_best_8 (fun H locs hP hD hS => ?_)
  have hP : va_P D vwCl (xw ad cI cZ nn mm tT u.1 u.2.1 tL oO u.2.2.1 oQ u.2.2.2.2.2.2 u.2.2.2.1 u.2.2.2.2.1 u.2.2.2.2.2.1 ++ [(b0, .inl (cJ, 1, .inr (.inl (lS fL ((sol v mm tT nn).1)))))]) H := hP
  have hD : va_D A (xw ad cI cZ nn mm tT u.1 u.2.1 tL oO u.2.2.1 oQ u.2.2.2.2.2.2 u.2.2.2.1 u.2.2.2.2.1 u.2.2.2.2.2.1 ++ [(b0, .inl (cJ, 1, .inr (.inl (lS fL ((sol v mm tT nn).1)))))]) := hD
  refine lv_goto (tgt := 15) hx hb dL_best_9 (by decide) ?_
  refine lv_iconst (v := iI 0) hx hb dL_best_15 rfl ?_
  exact hret _ _ _ _ 16 ls _ u (Nat.zero_le _) (Nat.zero_le _) hP hD hS ⟨rfl, hr.2⟩ dL_best_16
set_option maxHeartbeats 4000000 in
set_option maxRecDepth 100000 in
theorem hL_bestAt {v q : Nat} (hT : ∀ k, 0 ≤ tT k ∧ tT k ≤ 99) (hn : nn ≤ 7) (hm : 1 ≤ mm ∧ mm ≤ 5) (hv : v ≤ 2) (hq : q < nn) (hE : Enu nn) (hCK : CK mm tT nn zS zM zN oJ) (hMb : ∀ k, k ≤ 2 → 0 ≤ zM k ∧ zM k ≤ 1000000) : LM l yL_bestAt wsL_bestAt (rmt 6 141) D (tyk cI cZ cJ) (xw ad cI cZ nn mm tT tB tE tL oO oR oQ zS zM zN oJ ++ [(b0, .inl (cJ, 1, .inr (.inl (fL))))]) [.ref (ad 0), .int (iI ((v : Int))), .int (iI ((q : Int))), .ref (b0)] sa (QI D (tyk cI cZ cJ) (fun u : (Nat → Int) × (Nat → Int) × (Nat → Nat) × (Nat → Int) × (Nat → Int) × (Nat → Nat) × (Nat → Int) => xw ad cI cZ nn mm tT u.1 u.2.1 tL oO u.2.2.1 oQ u.2.2.2.2.2.2 u.2.2.2.1 u.2.2.2.2.1 u.2.2.2.2.2.1 ++ [(b0, .inl (cJ, 1, .inr (.inl (lS fL ((solJ v mm tT nn q : Nat) : Int)))))]) (fun x u => x = iI 0 ∧ CK mm tT nn u.2.2.2.2.2.2 u.2.2.2.1 u.2.2.2.2.1 u.2.2.2.2.2.1 ∧ ∀ k, k ≤ 2 → 0 ≤ u.2.2.2.1 k ∧ u.2.2.2.1 k ≤ 1000000)) := by
  refine lm_of (cc := cL_bestAt) (maxL := 5) (hh := [(0, 10, 13, 19), (0, 10, 17, 25)]) (by decide) rfl (Nat.le_of_ble_eq_true rfl) ?_
  intro p e s m args below meth c A Q hx hb hml hown hts htab hA hK hP hD hS hTX hret ls hl
  have hown : s.vm.findClass RL = some m.cls := hown
  have hl : lv_has ls 5 [(0, .ref (ad 0)), (1, .int (iI ((v : Int)))), (2, .int (iI ((q : Int)))), (3, .ref (b0))] := hl
  refine lv_aload_n hx hb dL_bestAt_0 rfl (lv_at hl 3 rfl) ?_
  refine lv_iconst (v := iI 0) hx hb dL_bestAt_1 rfl ?_
  refine lv_aload_n hx hb dL_bestAt_2 rfl (lv_at hl 0 rfl) ?_
  refine lv_iload_n hx hb dL_bestAt_3 rfl (lv_at hl 1 rfl) ?_
  refine lv_iload_n hx hb dL_bestAt_4 rfl (lv_at hl 2 rfl) ?_
  refine w_iV (As := [.int (iI ((v : Int))), .int (iI ((q : Int)))]) (rest := [.int (iI 0), .ref b0]) (wf := fun u : (Nat → Int) × (Nat → Int) × (Nat → Nat) × (Nat → Int) × (Nat → Int) × (Nat → Nat) × (Nat → Int) => xw ad cI cZ nn mm tT u.1 u.2.1 tL oO u.2.2.1 oQ u.2.2.2.2.2.2 u.2.2.2.1 u.2.2.2.2.1 u.2.2.2.2.2.1 ++ [(b0, .inl (cJ, 1, .inr (.inl (fL))))]) (wr := [(b0, .inl (cJ, 1, .inr (.inl fL)))]) ⟨hx, hb, hml, hown, hts⟩ hK hP hD hS hA (mX0_bestAt hT hn hm hv hq hE hCK hMb) (cwV 2 hts gL_bestAt_X0_bestAt rfl rfl rfl (by decide +kernel) ⟨Nat.le_of_ble_eq_true rfl, Nat.le_of_ble_eq_true rfl⟩) [0, 1, 2, 3, 4, 5, 6, 7, 8, 9, 10, 11] [12] [1, 2, 3, 4, 5, 6, 7, 8, 9, 10, 11, 12, 0] rfl rfl (by decide) (by decide) (by decide) (hwf := fun _ => rfl) (by decide) (ci := 0) rfl rfl rfl rfl hl.1 rfl (Nat.le_of_ble_eq_true rfl) dL_bestAt_5 ⟨Nat.zero_le _, Nat.zero_le _⟩ (fun r u H locs hr hP hD hS => ?_)
  refine w_top (v := iI ((solJ v mm tT nn q : Nat) : Int)) (hr.1) ?_
  refine lv_i2l (v := (iI ((solJ v mm tT nn q : Nat) : Int)).toInt64) hx hb dL_bestAt_8 rfl ?_
  refine va_last hx hb hK hP hD hS 12 2 rfl rfl (iI_in (k := 0) rfl (by decide) (by decide)) dL_bestAt_9 (fun H locs hP hD hS => ?_)
  have hP : va_P D vwCl (xw ad cI cZ nn mm tT u.1 u.2.1 tL oO u.2.2.1 oQ u.2.2.2.2.2.2 u.2.2.2.1 u.2.2.2.2.1 u.2.2.2.2.2.1 ++ [(b0, .inl (cJ, 1, .inr (.inl (lS fL ((solJ v mm tT nn q : Nat) : Int)))))]) H := hP
  have hD : va_D A (xw ad cI cZ nn mm tT u.1 u.2.1 tL oO u.2.2.1 oQ u.2.2.2.2.2.2 u.2.2.2.1 u.2.2.2.2.1 u.2.2.2.2.2.1 ++ [(b0, .inl (cJ, 1, .inr (.inl (lS fL ((solJ v mm tT nn q : Nat) : Int)))))]) := hD
  refine lv_goto (tgt := 21) hx hb dL_bestAt_10 (by decide) ?_
  refine lv_iconst (v := iI 0) hx hb dL_bestAt_21 rfl ?_
  exact hret _ _ _ _ 22 ls _ u (Nat.zero_le _) (Nat.zero_le _) hP hD hS ⟨rfl, hr.2⟩ dL_bestAt_22
set_option maxHeartbeats 4000000 in
set_option maxRecDepth 100000 in
theorem hL_bestOrders {v : Nat} (hT : ∀ k, 0 ≤ tT k ∧ tT k ≤ 99) (hn : nn ≤ 7) (hm : 1 ≤ mm ∧ mm ≤ 5) (hv : v ≤ 2) (hE : Enu nn) (hCK : CK mm tT nn zS zM zN oJ) (hMb : ∀ k, k ≤ 2 → 0 ≤ zM k ∧ zM k ≤ 1000000) : LM l yL_bestOrders wsL_bestOrders (rmt 6 140) D (tyk cI cZ cJ) (xw ad cI cZ nn mm tT tB tE tL oO oR oQ zS zM zN oJ ++ [(b0, .inl (cJ, 1, .inr (.inl (fL))))]) [.ref (ad 0), .int (iI ((v : Int))), .ref (b0)] sa (QI D (tyk cI cZ cJ) (fun u : (Nat → Int) × (Nat → Int) × (Nat → Nat) × (Nat → Int) × (Nat → Int) × (Nat → Nat) × (Nat → Int) => xw ad cI cZ nn mm tT u.1 u.2.1 tL oO u.2.2.1 oQ u.2.2.2.2.2.2 u.2.2.2.1 u.2.2.2.2.1 u.2.2.2.2.2.1 ++ [(b0, .inl (cJ, 1, .inr (.inl (lS fL ((sol v mm tT nn).2.1 : Int)))))]) (fun x u => x = iI 0 ∧ CK mm tT nn u.2.2.2.2.2.2 u.2.2.2.1 u.2.2.2.2.1 u.2.2.2.2.2.1 ∧ ∀ k, k ≤ 2 → 0 ≤ u.2.2.2.1 k ∧ u.2.2.2.1 k ≤ 1000000)) := by
  refine lm_of (cc := cL_bestOrders) (maxL := 4) (hh := [(0, 9, 12, 19)]) (by decide) rfl (Nat.le_of_ble_eq_true rfl) ?_
  intro p e s m args below meth c A Q hx hb hml hown hts htab hA hK hP hD hS hTX hret ls hl
  have hown : s.vm.findClass RL = some m.cls := hown
  have hl : lv_has ls 4 [(0, .ref (ad 0)), (1, .int (iI ((v : Int)))), (2, .ref (b0))] := hl
  refine lv_aload_n hx hb dL_bestOrders_0 rfl (lv_at hl 2 rfl) ?_
  refine lv_iconst (v := iI 0) hx hb dL_bestOrders_1 rfl ?_
  refine lv_aload_n hx hb dL_bestOrders_2 rfl (lv_at hl 0 rfl) ?_
  refine lv_iload_n hx hb dL_bestOrders_3 rfl (lv_at hl 1 rfl) ?_
  refine w_iV (As := [.int (iI ((v : Int)))]) (rest := [.int (iI 0), .ref b0]) (wf := fun u : (Nat → Int) × (Nat → Int) × (Nat → Nat) × (Nat → Int) × (Nat → Int) × (Nat → Nat) × (Nat → Int) => xw ad cI cZ nn mm tT u.1 u.2.1 tL oO u.2.2.1 oQ u.2.2.2.2.2.2 u.2.2.2.1 u.2.2.2.2.1 u.2.2.2.2.2.1 ++ [(b0, .inl (cJ, 1, .inr (.inl (fL))))]) (wr := [(b0, .inl (cJ, 1, .inr (.inl fL)))]) ⟨hx, hb, hml, hown, hts⟩ hK hP hD hS hA (mX0_bestOrders hT hn hm hv hE hCK hMb) (cwV 1 hts gL_bestOrders_X0_bestOrders rfl rfl rfl (by decide +kernel) ⟨Nat.le_of_ble_eq_true rfl, Nat.le_of_ble_eq_true rfl⟩) [0, 1, 2, 3, 4, 5, 6, 7, 8, 9, 10, 11] [12] [1, 2, 3, 4, 5, 6, 7, 8, 9, 10, 11, 12, 0] rfl rfl (by decide) (by decide) (by decide) (hwf := fun _ => rfl) (by decide) (ci := 0) rfl rfl rfl rfl hl.1 rfl (Nat.le_of_ble_eq_true rfl) dL_bestOrders_4 ⟨Nat.zero_le _, Nat.zero_le _⟩ (fun r u H locs hr hP hD hS => ?_)
  refine w_top (v := iI ((sol v mm tT nn).2.1 : Int)) (hr.1) ?_
  refine lv_i2l (v := (iI ((sol v mm tT nn).2.1 : Int)).toInt64) hx hb dL_bestOrders_7 rfl ?_
  refine va_last hx hb hK hP hD hS 12 2 rfl rfl (iI_in (k := 0) rfl (by decide) (by decide)) dL_bestOrders_8 (fun H locs hP hD hS => ?_)
  have hP : va_P D vwCl (xw ad cI cZ nn mm tT u.1 u.2.1 tL oO u.2.2.1 oQ u.2.2.2.2.2.2 u.2.2.2.1 u.2.2.2.2.1 u.2.2.2.2.2.1 ++ [(b0, .inl (cJ, 1, .inr (.inl (lS fL ((sol v mm tT nn).2.1 : Int)))))]) H := hP
  have hD : va_D A (xw ad cI cZ nn mm tT u.1 u.2.1 tL oO u.2.2.1 oQ u.2.2.2.2.2.2 u.2.2.2.1 u.2.2.2.2.1 u.2.2.2.2.2.1 ++ [(b0, .inl (cJ, 1, .inr (.inl (lS fL ((sol v mm tT nn).2.1 : Int)))))]) := hD
  refine lv_goto (tgt := 15) hx hb dL_bestOrders_9 (by decide) ?_
  refine lv_iconst (v := iI 0) hx hb dL_bestOrders_15 rfl ?_
  exact hret _ _ _ _ 16 ls _ u (Nat.zero_le _) (Nat.zero_le _) hP hD hS ⟨rfl, hr.2⟩ dL_bestOrders_16
set_option maxHeartbeats 4000000 in
set_option maxRecDepth 100000 in
theorem hL_addJob_t  (hl0 : l.stackTraces = false) (h7 : nn = 7) : LM l yL_addJob wsL_addJob (rmt 7 103) D (tyk cI cZ cJ) (xw ad cI cZ nn mm tT tB tE tL oO oR oQ zS zM zN oJ ++ [(b0, .inl (cJ, 1, .inr (.inl (fL))))]) [.ref (ad 0), .ref (b0)] sa (QI D (tyk cI cZ cJ) (fun u : Unit => xw ad cI cZ nn mm tT tB tE tL oO oR oQ zS zM zN oJ ++ [(b0, .inl (cJ, 1, .inr (.inl (fL))))]) (fun x _ => x = iI 1)) := by
  refine lm_of (cc := cL_addJob) (maxL := 3) (hh := [(0, 8, 11, 13)]) (by decide) rfl (Nat.le_of_ble_eq_true rfl) ?_
  intro p e s m args below meth c A Q hx hb hml hown hts htab hA hK hP hD hS hTX hret ls hl
  have hown : s.vm.findClass RL = some m.cls := hown
  have hl : lv_has ls 3 [(0, .ref (ad 0)), (1, .ref (b0))] := hl
  refine lv_aload_n hx hb dL_addJob_0 rfl (lv_at hl 1 rfl) ?_
  refine lv_iconst (v := iI 0) hx hb dL_addJob_1 rfl ?_
  refine lv_aload_n hx hb dL_addJob_2 rfl (lv_at hl 0 rfl) ?_
  refine w_tV (As := []) (rest := [.int (iI 0), .ref b0]) ⟨hx, hb, hml, hown, hts⟩ hK hP hTX (tX0_addJob hl0 h7) (cwV 0 hts gL_addJob_X0_addJob rfl rfl rfl (by decide +kernel) ⟨Nat.le_of_ble_eq_true rfl, Nat.le_of_ble_eq_true rfl⟩) [0, 1, 2, 3, 4, 5, 6, 7, 8, 9, 10, 11] rfl (ci := 0) rfl rfl rfl rfl hl.1 rfl (Nat.le_of_ble_eq_true rfl) dL_addJob_3 ⟨Nat.le_of_ble_eq_true rfl, Nat.le_of_ble_eq_true rfl⟩ (fun q9 ce H1 hz hq hce hcv hcl => ?_)
  have hP := w_grow hP hq
  have hS := w_growS hS hz hq
  refine vx_catch (own := RL) (name := "java/lang/IllegalStateException") (E := "java/lang/IllegalStateException") hown [] ⟨0, 8, 11, 13⟩ [] (by rw [htab]; rfl) (fun z hz => absurd hz List.not_mem_nil) rfl (by decide) (hts (.classLink RL 13 "java/lang/IllegalStateException") (List.mem_of_getElem? (i := 1) rfl)) ((hTX.2.2.1 _ (List.mem_of_getElem? (i := 0) rfl)).use rfl) hce hcv hcl ?_
  refine lv_astore_n (lv' := [(2, .ref (q9)), (0, .ref (ad 0)), (1, .ref (b0))]) hx hb dL_addJob_11 rfl hl (by decide) rfl (fun ls hl => ?_)
  refine lv_iconst (v := iI 1) hx hb dL_addJob_12 rfl ?_
  exact hret _ _ _ _ 13 ls _ () (Nat.le_refl _) (Nat.le_refl _) hP hD hS rfl dL_addJob_13
set_option maxHeartbeats 4000000 in
set_option maxRecDepth 100000 in
theorem hL_setMachines_t {x : Int} (hl0 : l.stackTraces = false) (hr9 : -2147483648 ≤ x ∧ x ≤ 2147483647) (hbad : ¬ (1 ≤ x ∧ x ≤ 5)) : LM l yL_setMachines wsL_setMachines (rmt 7 106) D (tyk cI cZ cJ) (xw ad cI cZ nn mm tT tB tE tL oO oR oQ zS zM zN oJ ++ [(b0, .inl (cJ, 1, .inr (.inl (fL))))]) [.ref (ad 0), .int (iI (x)), .ref (b0)] sa (QI D (tyk cI cZ cJ) (fun u : Unit => xw ad cI cZ nn mm tT tB tE tL oO oR oQ zS zM zN oJ ++ [(b0, .inl (cJ, 1, .inr (.inl (fL))))]) (fun x _ => x = iI 1)) := by
  refine lm_of (cc := cL_setMachines) (maxL := 4) (hh := [(0, 9, 12, 19)]) (by decide) rfl (Nat.le_of_ble_eq_true rfl) ?_
  intro p e s m args below meth c A Q hx hb hml hown hts htab hA hK hP hD hS hTX hret ls hl
  have hown : s.vm.findClass RL = some m.cls := hown
  have hl : lv_has ls 4 [(0, .ref (ad 0)), (1, .int (iI (x))), (2, .ref (b0))] := hl
  refine lv_aload_n hx hb dL_setMachines_0 rfl (lv_at hl 2 rfl) ?_
  refine lv_iconst (v := iI 0) hx hb dL_setMachines_1 rfl ?_
  refine lv_aload_n hx hb dL_setMachines_2 rfl (lv_at hl 0 rfl) ?_
  refine lv_iload_n hx hb dL_setMachines_3 rfl (lv_at hl 1 rfl) ?_
  refine w_tV (As := [.int (iI (x))]) (rest := [.int (iI 0), .ref b0]) ⟨hx, hb, hml, hown, hts⟩ hK hP hTX (tX0_setMachines hl0 hr9 hbad) (cwV 1 hts gL_setMachines_X0_setMachines rfl rfl rfl (by decide +kernel) ⟨Nat.le_of_ble_eq_true rfl, Nat.le_of_ble_eq_true rfl⟩) [0, 1, 2, 3, 4, 5, 6, 7, 8, 9, 10, 11] rfl (ci := 0) rfl rfl rfl rfl hl.1 rfl (Nat.le_of_ble_eq_true rfl) dL_setMachines_4 ⟨Nat.le_of_ble_eq_true rfl, Nat.le_of_ble_eq_true rfl⟩ (fun q9 ce H1 hz hq hce hcv hcl => ?_)
  have hP := w_grow hP hq
  have hS := w_growS hS hz hq
  refine vx_catch (own := RL) (name := "java/lang/IllegalArgumentException") (E := "java/lang/IllegalArgumentException") hown [] ⟨0, 9, 12, 19⟩ [] (by rw [htab]; rfl) (fun z hz => absurd hz List.not_mem_nil) rfl (by decide) (hts (.classLink RL 19 "java/lang/IllegalArgumentException") (List.mem_of_getElem? (i := 1) rfl)) ((hTX.2.2.1 _ (List.mem_of_getElem? (i := 1) rfl)).use rfl) hce hcv hcl ?_
  refine lv_astore_n (lv' := [(3, .ref (q9)), (0, .ref (ad 0)), (1, .int (iI (x))), (2, .ref (b0))]) hx hb dL_setMachines_12 rfl hl (by decide) rfl (fun ls hl => ?_)
  refine lv_iconst (v := iI 1) hx hb dL_setMachines_13 rfl ?_
  exact hret _ _ _ _ 14 ls _ () (Nat.le_refl _) (Nat.le_refl _) hP hD hS rfl dL_setMachines_14
set_option maxHeartbeats 4000000 in
set_option maxRecDepth 100000 in
theorem hL_setTime_1_t {x y z : Int} (hl0 : l.stackTraces = false) (hn : nn ≤ 7) (hm : 1 ≤ mm ∧ mm ≤ 5) (hr9 : -2147483648 ≤ x ∧ x ≤ 2147483647 ∧ -2147483648 ≤ y ∧ y ≤ 2147483647 ∧ -2147483648 ≤ z ∧ z ≤ 2147483647) (hbad : ¬ ((0 ≤ x ∧ x < (nn : Int)) ∧ 0 ≤ y ∧ y < (mm : Int))) : LM l yL_setTime wsL_setTime (rmt 8 127) D (tyk cI cZ cJ) (xw ad cI cZ nn mm tT tB tE tL oO oR oQ zS zM zN oJ ++ [(b0, .inl (cJ, 1, .inr (.inl (fL))))]) [.ref (ad 0), .int (iI (x)), .int (iI (y)), .int (iI (z)), .ref (b0)] sa (QI D (tyk cI cZ cJ) (fun u : Unit => xw ad cI cZ nn mm tT tB tE tL oO oR oQ zS zM zN oJ ++ [(b0, .inl (cJ, 1, .inr (.inl (fL))))]) (fun x _ => x = iI 1)) := by
  refine lm_of (cc := cL_setTime) (maxL := 6) (hh := [(0, 12, 15, 25), (0, 12, 19, 19)]) (by decide) rfl (Nat.le_of_ble_eq_true rfl) ?_
  intro p e s m args below meth c A Q hx hb hml hown hts htab hA hK hP hD hS hTX hret ls hl
  have hown : s.vm.findClass RL = some m.cls := hown
  have hl : lv_has ls 6 [(0, .ref (ad 0)), (1, .int (iI (x))), (2, .int (iI (y))), (3, .int (iI (z))), (4, .ref (b0))] := hl
  refine lv_aload hx hb dL_setTime_0 (lv_at hl 4 rfl) ?_
  refine lv_iconst (v := iI 0) hx hb dL_setTime_2 rfl ?_
  refine lv_aload_n hx hb dL_setTime_3 rfl (lv_at hl 0 rfl) ?_
  refine lv_iload_n hx hb dL_setTime_4 rfl (lv_at hl 1 rfl) ?_
  refine lv_iload_n hx hb dL_setTime_5 rfl (lv_at hl 2 rfl) ?_
  refine lv_iload_n hx hb dL_setTime_6 rfl (lv_at hl 3 rfl) ?_
  refine w_tV (As := [.int (iI (x)), .int (iI (y)), .int (iI (z))]) (rest := [.int (iI 0), .ref b0]) ⟨hx, hb, hml, hown, hts⟩ hK hP hTX (tX0_setTime_1 hl0 hn hm hr9 hbad) (cwV 3 hts gL_setTime_X0_setTime rfl rfl rfl (by decide +kernel) ⟨Nat.le_of_ble_eq_true rfl, Nat.le_of_ble_eq_true rfl⟩) [0, 1, 2, 3, 4, 5, 6, 7, 8, 9, 10, 11] rfl (ci := 0) rfl rfl rfl rfl hl.1 rfl (Nat.le_of_ble_eq_true rfl) dL_setTime_7 ⟨Nat.le_of_ble_eq_true rfl, Nat.le_of_ble_eq_true rfl⟩ (fun q9 ce H1 hz hq hce hcv hcl => ?_)
  have hP := w_grow hP hq
  have hS := w_growS hS hz hq
  refine vx_catch (own := RL) (name := "java/lang/IndexOutOfBoundsException") (E := "java/lang/IndexOutOfBoundsException") hown [] ⟨0, 12, 15, 25⟩ [⟨0, 12, 19, 19⟩] (by rw [htab]; rfl) (fun z hz => absurd hz List.not_mem_nil) rfl (by decide) (hts (.classLink RL 25 "java/lang/IndexOutOfBoundsException") (List.mem_of_getElem? (i := 1) rfl)) ((hTX.2.2.1 _ (List.mem_of_getElem? (i := 2) rfl)).use rfl) hce hcv hcl ?_
  refine lv_astore (lv' := [(5, .ref (q9)), (0, .ref (ad 0)), (1, .int (iI (x))), (2, .int (iI (y))), (3, .int (iI (z))), (4, .ref (b0))]) hx hb dL_setTime_15 hl (by decide) rfl (fun ls hl => ?_)
  refine lv_iconst (v := iI 1) hx hb dL_setTime_17 rfl ?_
  exact hret _ _ _ _ 18 ls _ () (Nat.le_refl _) (Nat.le_refl _) hP hD hS rfl dL_setTime_18
set_option maxHeartbeats 4000000 in
set_option maxRecDepth 100000 in
theorem hL_setTime_2_t {j k : Nat} {x : Int} (hl0 : l.stackTraces = false) (hn : nn ≤ 7) (hm : 1 ≤ mm ∧ mm ≤ 5) (hj : j < nn) (hk : k < mm) (hr9 : -2147483648 ≤ x ∧ x ≤ 2147483647) (hbad : ¬ (0 ≤ x ∧ x ≤ 99)) : LM l yL_setTime wsL_setTime (rmt 7 106) D (tyk cI cZ cJ) (xw ad cI cZ nn mm tT tB tE tL oO oR oQ zS zM zN oJ ++ [(b0, .inl (cJ, 1, .inr (.inl (fL))))]) [.ref (ad 0), .int (iI ((j : Int))), .int (iI ((k : Int))), .int (iI (x)), .ref (b0)] sa (QI D (tyk cI cZ cJ) (fun u : Unit => xw ad cI cZ nn mm tT tB tE tL oO oR oQ zS zM zN oJ ++ [(b0, .inl (cJ, 1, .inr (.inl (fL))))]) (fun x _ => x = iI 2)) := by
  refine lm_of (cc := cL_setTime) (maxL := 6) (hh := [(0, 12, 15, 25), (0, 12, 19, 19)]) (by decide) rfl (Nat.le_of_ble_eq_true rfl) ?_
  intro p e s m args below meth c A Q hx hb hml hown hts htab hA hK hP hD hS hTX hret ls hl
  have hown : s.vm.findClass RL = some m.cls := hown
  have hl : lv_has ls 6 [(0, .ref (ad 0)), (1, .int (iI ((j : Int)))), (2, .int (iI ((k : Int)))), (3, .int (iI (x))), (4, .ref (b0))] := hl
  refine lv_aload hx hb dL_setTime_0 (lv_at hl 4 rfl) ?_
  refine lv_iconst (v := iI 0) hx hb dL_setTime_2 rfl ?_
  refine lv_aload_n hx hb dL_setTime_3 rfl (lv_at hl 0 rfl) ?_
  refine lv_iload_n hx hb dL_setTime_4 rfl (lv_at hl 1 rfl) ?_
  refine lv_iload_n hx hb dL_setTime_5 rfl (lv_at hl 2 rfl) ?_
  refine lv_iload_n hx hb dL_setTime_6 rfl (lv_at hl 3 rfl) ?_
  refine w_tV (As := [.int (iI ((j : Int))), .int (iI ((k : Int))), .int (iI (x))]) (rest := [.int (iI 0), .ref b0]) ⟨hx, hb, hml, hown, hts⟩ hK hP hTX (tX0_setTime_2 hl0 hn hm hj hk hr9 hbad) (cwV 3 hts gL_setTime_X0_setTime rfl rfl rfl (by decide +kernel) ⟨Nat.le_of_ble_eq_true rfl, Nat.le_of_ble_eq_true rfl⟩) [0, 1, 2, 3, 4, 5, 6, 7, 8, 9, 10, 11] rfl (ci := 0) rfl rfl rfl rfl hl.1 rfl (Nat.le_of_ble_eq_true rfl) dL_setTime_7 ⟨Nat.le_of_ble_eq_true rfl, Nat.le_of_ble_eq_true rfl⟩ (fun q9 ce H1 hz hq hce hcv hcl => ?_)
  have hP := w_grow hP hq
  have hS := w_growS hS hz hq
  refine vx_catch (own := RL) (name := "java/lang/IllegalArgumentException") (E := "java/lang/IllegalArgumentException") hown [⟨0, 12, 15, 25⟩] ⟨0, 12, 19, 19⟩ [] (by rw [htab]; rfl) (fun z hz => by obtain rfl := List.mem_singleton.mp hz; exact Or.inr ⟨by decide, "java/lang/IndexOutOfBoundsException", (hts (.classLink RL 25 "java/lang/IndexOutOfBoundsException") (List.mem_of_getElem? (i := 1) rfl)), hTX.2.2.2.2.1⟩) rfl (by decide) (hts (.classLink RL 19 "java/lang/IllegalArgumentException") (List.mem_of_getElem? (i := 2) rfl)) ((hTX.2.2.1 _ (List.mem_of_getElem? (i := 1) rfl)).use rfl) hce hcv hcl ?_
  refine lv_astore (lv' := [(5, .ref (q9)), (0, .ref (ad 0)), (1, .int (iI ((j : Int)))), (2, .int (iI ((k : Int)))), (3, .int (iI (x))), (4, .ref (b0))]) hx hb dL_setTime_19 hl (by decide) rfl (fun ls hl => ?_)
  refine lv_iconst (v := iI 2) hx hb dL_setTime_21 rfl ?_
  exact hret _ _ _ _ 22 ls _ () (Nat.le_refl _) (Nat.le_refl _) hP hD hS rfl dL_setTime_22
set_option maxHeartbeats 4000000 in
set_option maxRecDepth 100000 in
theorem hL_time_t {x y : Int} (hl0 : l.stackTraces = false) (hn : nn ≤ 7) (hm : 1 ≤ mm ∧ mm ≤ 5) (hr9 : -2147483648 ≤ x ∧ x ≤ 2147483647 ∧ -2147483648 ≤ y ∧ y ≤ 2147483647) (hbad : ¬ ((0 ≤ x ∧ x < (nn : Int)) ∧ 0 ≤ y ∧ y < (mm : Int))) : LM l yL_time wsL_time (rmt 8 125) D (tyk cI cZ cJ) (xw ad cI cZ nn mm tT tB tE tL oO oR oQ zS zM zN oJ ++ [(b0, .inl (cJ, 1, .inr (.inl (fL))))]) [.ref (ad 0), .int (iI (x)), .int (iI (y)), .ref (b0)] sa (QI D (tyk cI cZ cJ) (fun u : Unit => xw ad cI cZ nn mm tT tB tE tL oO oR oQ zS zM zN oJ ++ [(b0, .inl (cJ, 1, .inr (.inl (fL))))]) (fun x _ => x = iI 1)) := by
  refine lm_of (cc := cL_time) (maxL := 5) (hh := [(0, 10, 13, 25)]) (by decide) rfl (Nat.le_of_ble_eq_true rfl) ?_
  intro p e s m args below meth c A Q hx hb hml hown hts htab hA hK hP hD hS hTX hret ls hl
  have hown : s.vm.findClass RL = some m.cls := hown
  have hl : lv_has ls 5 [(0, .ref (ad 0)), (1, .int (iI (x))), (2, .int (iI (y))), (3, .ref (b0))] := hl
  refine lv_aload_n hx hb dL_time_0 rfl (lv_at hl 3 rfl) ?_
  refine lv_iconst (v := iI 0) hx hb dL_time_1 rfl ?_
  refine lv_aload_n hx hb dL_time_2 rfl (lv_at hl 0 rfl) ?_
  refine lv_iload_n hx hb dL_time_3 rfl (lv_at hl 1 rfl) ?_
  refine lv_iload_n hx hb dL_time_4 rfl (lv_at hl 2 rfl) ?_
  refine w_tV (As := [.int (iI (x)), .int (iI (y))]) (rest := [.int (iI 0), .ref b0]) ⟨hx, hb, hml, hown, hts⟩ hK hP hTX (tX0_time hl0 hn hm hr9 hbad) (cwV 2 hts gL_time_X0_time rfl rfl rfl (by decide +kernel) ⟨Nat.le_of_ble_eq_true rfl, Nat.le_of_ble_eq_true rfl⟩) [0, 1, 2, 3, 4, 5, 6, 7, 8, 9, 10, 11] rfl (ci := 0) rfl rfl rfl rfl hl.1 rfl (Nat.le_of_ble_eq_true rfl) dL_time_5 ⟨Nat.le_of_ble_eq_true rfl, Nat.le_of_ble_eq_true rfl⟩ (fun q9 ce H1 hz hq hce hcv hcl => ?_)
  have hP := w_grow hP hq
  have hS := w_growS hS hz hq
  refine vx_catch (own := RL) (name := "java/lang/IndexOutOfBoundsException") (E := "java/lang/IndexOutOfBoundsException") hown [] ⟨0, 10, 13, 25⟩ [] (by rw [htab]; rfl) (fun z hz => absurd hz List.not_mem_nil) rfl (by decide) (hts (.classLink RL 25 "java/lang/IndexOutOfBoundsException") (List.mem_of_getElem? (i := 1) rfl)) ((hTX.2.2.1 _ (List.mem_of_getElem? (i := 2) rfl)).use rfl) hce hcv hcl ?_
  refine lv_astore (lv' := [(4, .ref (q9)), (0, .ref (ad 0)), (1, .int (iI (x))), (2, .int (iI (y))), (3, .ref (b0))]) hx hb dL_time_13 hl (by decide) rfl (fun ls hl => ?_)
  refine lv_iconst (v := iI 1) hx hb dL_time_15 rfl ?_
  exact hret _ _ _ _ 16 ls _ () (Nat.le_refl _) (Nat.le_refl _) hP hD hS rfl dL_time_16
set_option maxHeartbeats 4000000 in
set_option maxRecDepth 100000 in
theorem hL_jobAt_t {x : Int} (hl0 : l.stackTraces = false) (hn : nn ≤ 7) (hm : 1 ≤ mm ∧ mm ≤ 5) (hr9 : -2147483648 ≤ x ∧ x ≤ 2147483647) (hbad : ¬ (0 ≤ x ∧ x < (nn : Int))) : LM l yL_jobAt wsL_jobAt (rmt 8 124) D (tyk cI cZ cJ) (xw ad cI cZ nn mm tT tB tE tL oO oR oQ zS zM zN oJ ++ [(b0, .inl (cJ, 1, .inr (.inl (fL))))]) [.ref (ad 0), .int (iI (x)), .ref (b0)] sa (QI D (tyk cI cZ cJ) (fun u : Unit => xw ad cI cZ nn mm tT tB tE tL oO oR oQ zS zM zN oJ ++ [(b0, .inl (cJ, 1, .inr (.inl (fL))))]) (fun x _ => x = iI 1)) := by
  refine lm_of (cc := cL_jobAt) (maxL := 4) (hh := [(0, 9, 12, 25)]) (by decide) rfl (Nat.le_of_ble_eq_true rfl) ?_
  intro p e s m args below meth c A Q hx hb hml hown hts htab hA hK hP hD hS hTX hret ls hl
  have hown : s.vm.findClass RL = some m.cls := hown
  have hl : lv_has ls 4 [(0, .ref (ad 0)), (1, .int (iI (x))), (2, .ref (b0))] := hl
  refine lv_aload_n hx hb dL_jobAt_0 rfl (lv_at hl 2 rfl) ?_
  refine lv_iconst (v := iI 0) hx hb dL_jobAt_1 rfl ?_
  refine lv_aload_n hx hb dL_jobAt_2 rfl (lv_at hl 0 rfl) ?_
  refine lv_iload_n hx hb dL_jobAt_3 rfl (lv_at hl 1 rfl) ?_
  refine w_tV (As := [.int (iI (x))]) (rest := [.int (iI 0), .ref b0]) ⟨hx, hb, hml, hown, hts⟩ hK hP hTX (tX0_jobAt hl0 hn hm hr9 hbad) (cwV 1 hts gL_jobAt_X0_jobAt rfl rfl rfl (by decide +kernel) ⟨Nat.le_of_ble_eq_true rfl, Nat.le_of_ble_eq_true rfl⟩) [0, 1, 2, 3, 4, 5, 6, 7, 8, 9, 10, 11] rfl (ci := 0) rfl rfl rfl rfl hl.1 rfl (Nat.le_of_ble_eq_true rfl) dL_jobAt_4 ⟨Nat.le_of_ble_eq_true rfl, Nat.le_of_ble_eq_true rfl⟩ (fun q9 ce H1 hz hq hce hcv hcl => ?_)
  have hP := w_grow hP hq
  have hS := w_growS hS hz hq
  refine vx_catch (own := RL) (name := "java/lang/IndexOutOfBoundsException") (E := "java/lang/IndexOutOfBoundsException") hown [] ⟨0, 9, 12, 25⟩ [] (by rw [htab]; rfl) (fun z hz => absurd hz List.not_mem_nil) rfl (by decide) (hts (.classLink RL 25 "java/lang/IndexOutOfBoundsException") (List.mem_of_getElem? (i := 1) rfl)) ((hTX.2.2.1 _ (List.mem_of_getElem? (i := 2) rfl)).use rfl) hce hcv hcl ?_
  refine lv_astore_n (lv' := [(3, .ref (q9)), (0, .ref (ad 0)), (1, .int (iI (x))), (2, .ref (b0))]) hx hb dL_jobAt_12 rfl hl (by decide) rfl (fun ls hl => ?_)
  refine lv_iconst (v := iI 1) hx hb dL_jobAt_13 rfl ?_
  exact hret _ _ _ _ 14 ls _ () (Nat.le_refl _) (Nat.le_refl _) hP hD hS rfl dL_jobAt_14
set_option maxHeartbeats 4000000 in
set_option maxRecDepth 100000 in
theorem hL_move_t {x y : Int} (hl0 : l.stackTraces = false) (hn : nn ≤ 7) (hm : 1 ≤ mm ∧ mm ≤ 5) (hr9 : -2147483648 ≤ x ∧ x ≤ 2147483647 ∧ -2147483648 ≤ y ∧ y ≤ 2147483647) (hbad : ¬ ((0 ≤ x ∧ x < (nn : Int)) ∧ 0 ≤ y ∧ y < (nn : Int))) : LM l yL_move wsL_move (rmt 8 126) D (tyk cI cZ cJ) (xw ad cI cZ nn mm tT tB tE tL oO oR oQ zS zM zN oJ ++ [(b0, .inl (cJ, 1, .inr (.inl (fL))))]) [.ref (ad 0), .int (iI (x)), .int (iI (y)), .ref (b0)] sa (QI D (tyk cI cZ cJ) (fun u : Unit => xw ad cI cZ nn mm tT tB tE tL oO oR oQ zS zM zN oJ ++ [(b0, .inl (cJ, 1, .inr (.inl (fL))))]) (fun x _ => x = iI 1)) := by
  refine lm_of (cc := cL_move) (maxL := 5) (hh := [(0, 10, 13, 25)]) (by decide) rfl (Nat.le_of_ble_eq_true rfl) ?_
  intro p e s m args below meth c A Q hx hb hml hown hts htab hA hK hP hD hS hTX hret ls hl
  have hown : s.vm.findClass RL = some m.cls := hown
  have hl : lv_has ls 5 [(0, .ref (ad 0)), (1, .int (iI (x))), (2, .int (iI (y))), (3, .ref (b0))] := hl
  refine lv_aload_n hx hb dL_move_0 rfl (lv_at hl 3 rfl) ?_
  refine lv_iconst (v := iI 0) hx hb dL_move_1 rfl ?_
  refine lv_aload_n hx hb dL_move_2 rfl (lv_at hl 0 rfl) ?_
  refine lv_iload_n hx hb dL_move_3 rfl (lv_at hl 1 rfl) ?_
  refine lv_iload_n hx hb dL_move_4 rfl (lv_at hl 2 rfl) ?_
  refine w_tV (As := [.int (iI (x)), .int (iI (y))]) (rest := [.int (iI 0), .ref b0]) ⟨hx, hb, hml, hown, hts⟩ hK hP hTX (tX0_move hl0 hn hm hr9 hbad) (cwV 2 hts gL_move_X0_move rfl rfl rfl (by decide +kernel) ⟨Nat.le_of_ble_eq_true rfl, Nat.le_of_ble_eq_true rfl⟩) [0, 1, 2, 3, 4, 5, 6, 7, 8, 9, 10, 11] rfl (ci := 0) rfl rfl rfl rfl hl.1 rfl (Nat.le_of_ble_eq_true rfl) dL_move_5 ⟨Nat.le_of_ble_eq_true rfl, Nat.le_of_ble_eq_true rfl⟩ (fun q9 ce H1 hz hq hce hcv hcl => ?_)
  have hP := w_grow hP hq
  have hS := w_growS hS hz hq
  refine vx_catch (own := RL) (name := "java/lang/IndexOutOfBoundsException") (E := "java/lang/IndexOutOfBoundsException") hown [] ⟨0, 10, 13, 25⟩ [] (by rw [htab]; rfl) (fun z hz => absurd hz List.not_mem_nil) rfl (by decide) (hts (.classLink RL 25 "java/lang/IndexOutOfBoundsException") (List.mem_of_getElem? (i := 1) rfl)) ((hTX.2.2.1 _ (List.mem_of_getElem? (i := 2) rfl)).use rfl) hce hcv hcl ?_
  refine lv_astore (lv' := [(4, .ref (q9)), (0, .ref (ad 0)), (1, .int (iI (x))), (2, .int (iI (y))), (3, .ref (b0))]) hx hb dL_move_13 hl (by decide) rfl (fun ls hl => ?_)
  refine lv_iconst (v := iI 1) hx hb dL_move_15 rfl ?_
  exact hret _ _ _ _ 16 ls _ () (Nat.le_refl _) (Nat.le_refl _) hP hD hS rfl dL_move_16
set_option maxHeartbeats 4000000 in
set_option maxRecDepth 100000 in
theorem hL_makespanIfMoved_t {x y : Int} (hl0 : l.stackTraces = false) (hn : nn ≤ 7) (hm : 1 ≤ mm ∧ mm ≤ 5) (hr9 : -2147483648 ≤ x ∧ x ≤ 2147483647 ∧ -2147483648 ≤ y ∧ y ≤ 2147483647) (hbad : ¬ ((0 ≤ x ∧ x < (nn : Int)) ∧ 0 ≤ y ∧ y < (nn : Int))) : LM l yL_makespanIfMoved wsL_makespanIfMoved (rmt 8 125) D (tyk cI cZ cJ) (xw ad cI cZ nn mm tT tB tE tL oO oR oQ zS zM zN oJ ++ [(b0, .inl (cJ, 1, .inr (.inl (fL))))]) [.ref (ad 0), .int (iI (x)), .int (iI (y)), .ref (b0)] sa (QI D (tyk cI cZ cJ) (fun u : Unit => xw ad cI cZ nn mm tT tB tE tL oO oR oQ zS zM zN oJ ++ [(b0, .inl (cJ, 1, .inr (.inl (fL))))]) (fun x _ => x = iI 1)) := by
  refine lm_of (cc := cL_makespanIfMoved) (maxL := 5) (hh := [(0, 10, 13, 25)]) (by decide) rfl (Nat.le_of_ble_eq_true rfl) ?_
  intro p e s m args below meth c A Q hx hb hml hown hts htab hA hK hP hD hS hTX hret ls hl
  have hown : s.vm.findClass RL = some m.cls := hown
  have hl : lv_has ls 5 [(0, .ref (ad 0)), (1, .int (iI (x))), (2, .int (iI (y))), (3, .ref (b0))] := hl
  refine lv_aload_n hx hb dL_makespanIfMoved_0 rfl (lv_at hl 3 rfl) ?_
  refine lv_iconst (v := iI 0) hx hb dL_makespanIfMoved_1 rfl ?_
  refine lv_aload_n hx hb dL_makespanIfMoved_2 rfl (lv_at hl 0 rfl) ?_
  refine lv_iload_n hx hb dL_makespanIfMoved_3 rfl (lv_at hl 1 rfl) ?_
  refine lv_iload_n hx hb dL_makespanIfMoved_4 rfl (lv_at hl 2 rfl) ?_
  refine w_tV (As := [.int (iI (x)), .int (iI (y))]) (rest := [.int (iI 0), .ref b0]) ⟨hx, hb, hml, hown, hts⟩ hK hP hTX (tX0_makespanIfMoved hl0 hn hm hr9 hbad) (cwV 2 hts gL_makespanIfMoved_X0_makespanIfMoved rfl rfl rfl (by decide +kernel) ⟨Nat.le_of_ble_eq_true rfl, Nat.le_of_ble_eq_true rfl⟩) [0, 1, 2, 3, 4, 5, 6, 7, 8, 9, 10, 11] rfl (ci := 0) rfl rfl rfl rfl hl.1 rfl (Nat.le_of_ble_eq_true rfl) dL_makespanIfMoved_5 ⟨Nat.le_of_ble_eq_true rfl, Nat.le_of_ble_eq_true rfl⟩ (fun q9 ce H1 hz hq hce hcv hcl => ?_)
  have hP := w_grow hP hq
  have hS := w_growS hS hz hq
  refine vx_catch (own := RL) (name := "java/lang/IndexOutOfBoundsException") (E := "java/lang/IndexOutOfBoundsException") hown [] ⟨0, 10, 13, 25⟩ [] (by rw [htab]; rfl) (fun z hz => absurd hz List.not_mem_nil) rfl (by decide) (hts (.classLink RL 25 "java/lang/IndexOutOfBoundsException") (List.mem_of_getElem? (i := 1) rfl)) ((hTX.2.2.1 _ (List.mem_of_getElem? (i := 2) rfl)).use rfl) hce hcv hcl ?_
  refine lv_astore (lv' := [(4, .ref (q9)), (0, .ref (ad 0)), (1, .int (iI (x))), (2, .int (iI (y))), (3, .ref (b0))]) hx hb dL_makespanIfMoved_13 hl (by decide) rfl (fun ls hl => ?_)
  refine lv_iconst (v := iI 1) hx hb dL_makespanIfMoved_15 rfl ?_
  exact hret _ _ _ _ 16 ls _ () (Nat.le_refl _) (Nat.le_refl _) hP hD hS rfl dL_makespanIfMoved_16
set_option maxHeartbeats 4000000 in
set_option maxRecDepth 100000 in
theorem hL_orderByRule_t  (hl0 : l.stackTraces = false) (hm : 1 ≤ mm ∧ mm ≤ 5) (h2 : mm ≠ 2) : LM l yL_orderByRule wsL_orderByRule (rmt 7 102) D (tyk cI cZ cJ) (xw ad cI cZ nn mm tT tB tE tL oO oR oQ zS zM zN oJ ++ [(b0, .inl (cJ, 1, .inr (.inl (fL))))]) [.ref (ad 0), .ref (b0)] sa (QI D (tyk cI cZ cJ) (fun u : Unit => xw ad cI cZ nn mm tT tB tE tL oO oR oQ zS zM zN oJ ++ [(b0, .inl (cJ, 1, .inr (.inl (fL))))]) (fun x _ => x = iI 1)) := by
  refine lm_of (cc := cL_orderByRule) (maxL := 3) (hh := [(0, 8, 11, 13)]) (by decide) rfl (Nat.le_of_ble_eq_true rfl) ?_
  intro p e s m args below meth c A Q hx hb hml hown hts htab hA hK hP hD hS hTX hret ls hl
  have hown : s.vm.findClass RL = some m.cls := hown
  have hl : lv_has ls 3 [(0, .ref (ad 0)), (1, .ref (b0))] := hl
  refine lv_aload_n hx hb dL_orderByRule_0 rfl (lv_at hl 1 rfl) ?_
  refine lv_iconst (v := iI 0) hx hb dL_orderByRule_1 rfl ?_
  refine lv_aload_n hx hb dL_orderByRule_2 rfl (lv_at hl 0 rfl) ?_
  refine w_tV (As := []) (rest := [.int (iI 0), .ref b0]) ⟨hx, hb, hml, hown, hts⟩ hK hP hTX (tX0_orderByRule hl0 hm h2) (cwV 0 hts gL_orderByRule_X0_orderByRule rfl rfl rfl (by decide +kernel) ⟨Nat.le_of_ble_eq_true rfl, Nat.le_of_ble_eq_true rfl⟩) [0, 1, 2, 3, 4, 5, 6, 7, 8, 9, 10, 11] rfl (ci := 0) rfl rfl rfl rfl hl.1 rfl (Nat.le_of_ble_eq_true rfl) dL_orderByRule_3 ⟨Nat.le_of_ble_eq_true rfl, Nat.le_of_ble_eq_true rfl⟩ (fun q9 ce H1 hz hq hce hcv hcl => ?_)
  have hP := w_grow hP hq
  have hS := w_growS hS hz hq
  refine vx_catch (own := RL) (name := "java/lang/IllegalStateException") (E := "java/lang/IllegalStateException") hown [] ⟨0, 8, 11, 13⟩ [] (by rw [htab]; rfl) (fun z hz => absurd hz List.not_mem_nil) rfl (by decide) (hts (.classLink RL 13 "java/lang/IllegalStateException") (List.mem_of_getElem? (i := 1) rfl)) ((hTX.2.2.1 _ (List.mem_of_getElem? (i := 0) rfl)).use rfl) hce hcv hcl ?_
  refine lv_astore_n (lv' := [(2, .ref (q9)), (0, .ref (ad 0)), (1, .ref (b0))]) hx hb dL_orderByRule_11 rfl hl (by decide) rfl (fun ls hl => ?_)
  refine lv_iconst (v := iI 1) hx hb dL_orderByRule_12 rfl ?_
  exact hret _ _ _ _ 13 ls _ () (Nat.le_refl _) (Nat.le_refl _) hP hD hS rfl dL_orderByRule_13
set_option maxHeartbeats 4000000 in
set_option maxRecDepth 100000 in
theorem hL_makespan_t {x : Int} (hl0 : l.stackTraces = false) (hr9 : -2147483648 ≤ x ∧ x ≤ 2147483647) (hbad : ¬ (0 ≤ x ∧ x ≤ 2)) : LM l yL_makespan wsL_makespan (rmt 8 123) D (tyk cI cZ cJ) (xw ad cI cZ nn mm tT tB tE tL oO oR oQ zS zM zN oJ ++ [(b0, .inl (cJ, 1, .inr (.inl (fL))))]) [.ref (ad 0), .int (iI (x)), .ref (b0)] sa (QI D (tyk cI cZ cJ) (fun u : Unit => xw ad cI cZ nn mm tT tB tE tL oO oR oQ zS zM zN oJ ++ [(b0, .inl (cJ, 1, .inr (.inl (fL))))]) (fun x _ => x = iI 1)) := by
  refine lm_of (cc := cL_makespan) (maxL := 4) (hh := [(0, 9, 12, 19)]) (by decide) rfl (Nat.le_of_ble_eq_true rfl) ?_
  intro p e s m args below meth c A Q hx hb hml hown hts htab hA hK hP hD hS hTX hret ls hl
  have hown : s.vm.findClass RL = some m.cls := hown
  have hl : lv_has ls 4 [(0, .ref (ad 0)), (1, .int (iI (x))), (2, .ref (b0))] := hl
  refine lv_aload_n hx hb dL_makespan_0 rfl (lv_at hl 2 rfl) ?_
  refine lv_iconst (v := iI 0) hx hb dL_makespan_1 rfl ?_
  refine lv_aload_n hx hb dL_makespan_2 rfl (lv_at hl 0 rfl) ?_
  refine lv_iload_n hx hb dL_makespan_3 rfl (lv_at hl 1 rfl) ?_
  refine w_tV (As := [.int (iI (x))]) (rest := [.int (iI 0), .ref b0]) ⟨hx, hb, hml, hown, hts⟩ hK hP hTX (tX0_makespan hl0 hr9 hbad) (cwV 1 hts gL_makespan_X0_makespan rfl rfl rfl (by decide +kernel) ⟨Nat.le_of_ble_eq_true rfl, Nat.le_of_ble_eq_true rfl⟩) [0, 1, 2, 3, 4, 5, 6, 7, 8, 9, 10, 11] rfl (ci := 0) rfl rfl rfl rfl hl.1 rfl (Nat.le_of_ble_eq_true rfl) dL_makespan_4 ⟨Nat.le_of_ble_eq_true rfl, Nat.le_of_ble_eq_true rfl⟩ (fun q9 ce H1 hz hq hce hcv hcl => ?_)
  have hP := w_grow hP hq
  have hS := w_growS hS hz hq
  refine vx_catch (own := RL) (name := "java/lang/IllegalArgumentException") (E := "java/lang/IllegalArgumentException") hown [] ⟨0, 9, 12, 19⟩ [] (by rw [htab]; rfl) (fun z hz => absurd hz List.not_mem_nil) rfl (by decide) (hts (.classLink RL 19 "java/lang/IllegalArgumentException") (List.mem_of_getElem? (i := 1) rfl)) ((hTX.2.2.1 _ (List.mem_of_getElem? (i := 1) rfl)).use rfl) hce hcv hcl ?_
  refine lv_astore_n (lv' := [(3, .ref (q9)), (0, .ref (ad 0)), (1, .int (iI (x))), (2, .ref (b0))]) hx hb dL_makespan_12 rfl hl (by decide) rfl (fun ls hl => ?_)
  refine lv_iconst (v := iI 1) hx hb dL_makespan_13 rfl ?_
  exact hret _ _ _ _ 14 ls _ () (Nat.le_refl _) (Nat.le_refl _) hP hD hS rfl dL_makespan_14
set_option maxHeartbeats 4000000 in
set_option maxRecDepth 100000 in
theorem hL_begin_1_t {x y z : Int} (hl0 : l.stackTraces = false) (hr9 : -2147483648 ≤ x ∧ x ≤ 2147483647) (hbad : ¬ (0 ≤ x ∧ x ≤ 2)) : LM l yL_begin wsL_begin (rmt 8 125) D (tyk cI cZ cJ) (xw ad cI cZ nn mm tT tB tE tL oO oR oQ zS zM zN oJ ++ [(b0, .inl (cJ, 1, .inr (.inl (fL))))]) [.ref (ad 0), .int (iI (x)), .int (iI (y)), .int (iI (z)), .ref (b0)] sa (QI D (tyk cI cZ cJ) (fun u : Unit => xw ad cI cZ nn mm tT tB tE tL oO oR oQ zS zM zN oJ ++ [(b0, .inl (cJ, 1, .inr (.inl (fL))))]) (fun x _ => x = iI 1)) := by
  refine lm_of (cc := cL_begin) (maxL := 6) (hh := [(0, 12, 15, 19), (0, 12, 19, 25)]) (by decide) rfl (Nat.le_of_ble_eq_true rfl) ?_
  intro p e s m args below meth c A Q hx hb hml hown hts htab hA hK hP hD hS hTX hret ls hl
  have hown : s.vm.findClass RL = some m.cls := hown
  have hl : lv_has ls 6 [(0, .ref (ad 0)), (1, .int (iI (x))), (2, .int (iI (y))), (3, .int (iI (z))), (4, .ref (b0))] := hl
  refine lv_aload hx hb dL_begin_0 (lv_at hl 4 rfl) ?_
  refine lv_iconst (v := iI 0) hx hb dL_begin_2 rfl ?_
  refine lv_aload_n hx hb dL_begin_3 rfl (lv_at hl 0 rfl) ?_
  refine lv_iload_n hx hb dL_begin_4 rfl (lv_at hl 1 rfl) ?_
  refine lv_iload_n hx hb dL_begin_5 rfl (lv_at hl 2 rfl) ?_
  refine lv_iload_n hx hb dL_begin_6 rfl (lv_at hl 3 rfl) ?_
  refine w_tV (As := [.int (iI (x)), .int (iI (y)), .int (iI (z))]) (rest := [.int (iI 0), .ref b0]) ⟨hx, hb, hml, hown, hts⟩ hK hP hTX (tX0_begin_1 hl0 hr9 hbad) (cwV 3 hts gL_begin_X0_begin rfl rfl rfl (by decide +kernel) ⟨Nat.le_of_ble_eq_true rfl, Nat.le_of_ble_eq_true rfl⟩) [0, 1, 2, 3, 4, 5, 6, 7, 8, 9, 10, 11] rfl (ci := 0) rfl rfl rfl rfl hl.1 rfl (Nat.le_of_ble_eq_true rfl) dL_begin_7 ⟨Nat.le_of_ble_eq_true rfl, Nat.le_of_ble_eq_true rfl⟩ (fun q9 ce H1 hz hq hce hcv hcl => ?_)
  have hP := w_grow hP hq
  have hS := w_growS hS hz hq
  refine vx_catch (own := RL) (name := "java/lang/IllegalArgumentException") (E := "java/lang/IllegalArgumentException") hown [] ⟨0, 12, 15, 19⟩ [⟨0, 12, 19, 25⟩] (by rw [htab]; rfl) (fun z hz => absurd hz List.not_mem_nil) rfl (by decide) (hts (.classLink RL 19 "java/lang/IllegalArgumentException") (List.mem_of_getElem? (i := 1) rfl)) ((hTX.2.2.1 _ (List.mem_of_getElem? (i := 1) rfl)).use rfl) hce hcv hcl ?_
  refine lv_astore (lv' := [(5, .ref (q9)), (0, .ref (ad 0)), (1, .int (iI (x))), (2, .int (iI (y))), (3, .int (iI (z))), (4, .ref (b0))]) hx hb dL_begin_15 hl (by decide) rfl (fun ls hl => ?_)
  refine lv_iconst (v := iI 1) hx hb dL_begin_17 rfl ?_
  exact hret _ _ _ _ 18 ls _ () (Nat.le_refl _) (Nat.le_refl _) hP hD hS rfl dL_begin_18
set_option maxHeartbeats 4000000 in
set_option maxRecDepth 100000 in
theorem hL_begin_2_t {v : Nat} {x y : Int} (hl0 : l.stackTraces = false) (hn : nn ≤ 7) (hm : 1 ≤ mm ∧ mm ≤ 5) (hv : v ≤ 2) (hr9 : -2147483648 ≤ x ∧ x ≤ 2147483647 ∧ -2147483648 ≤ y ∧ y ≤ 2147483647) (hbad : ¬ ((0 ≤ x ∧ x < (nn : Int)) ∧ 0 ≤ y ∧ y < (mm : Int))) : LM l yL_begin wsL_begin (rmt 8 126) D (tyk cI cZ cJ) (xw ad cI cZ nn mm tT tB tE tL oO oR oQ zS zM zN oJ ++ [(b0, .inl (cJ, 1, .inr (.inl (fL))))]) [.ref (ad 0), .int (iI ((v : Int))), .int (iI (x)), .int (iI (y)), .ref (b0)] sa (QI D (tyk cI cZ cJ) (fun u : Unit => xw ad cI cZ nn mm tT tB tE tL oO oR oQ zS zM zN oJ ++ [(b0, .inl (cJ, 1, .inr (.inl (fL))))]) (fun x _ => x = iI 2)) := by
  refine lm_of (cc := cL_begin) (maxL := 6) (hh := [(0, 12, 15, 19), (0, 12, 19, 25)]) (by decide) rfl (Nat.le_of_ble_eq_true rfl) ?_
  intro p e s m args below meth c A Q hx hb hml hown hts htab hA hK hP hD hS hTX hret ls hl
  have hown : s.vm.findClass RL = some m.cls := hown
  have hl : lv_has ls 6 [(0, .ref (ad 0)), (1, .int (iI ((v : Int)))), (2, .int (iI (x))), (3, .int (iI (y))), (4, .ref (b0))] := hl
  refine lv_aload hx hb dL_begin_0 (lv_at hl 4 rfl) ?_
  refine lv_iconst (v := iI 0) hx hb dL_begin_2 rfl ?_
  refine lv_aload_n hx hb dL_begin_3 rfl (lv_at hl 0 rfl) ?_
  refine lv_iload_n hx hb dL_begin_4 rfl (lv_at hl 1 rfl) ?_
  refine lv_iload_n hx hb dL_begin_5 rfl (lv_at hl 2 rfl) ?_
  refine lv_iload_n hx hb dL_begin_6 rfl (lv_at hl 3 rfl) ?_
  refine w_tV (As := [.int (iI ((v : Int))), .int (iI (x)), .int (iI (y))]) (rest := [.int (iI 0), .ref b0]) ⟨hx, hb, hml, hown, hts⟩ hK hP hTX (tX0_begin_2 hl0 hn hm hv hr9 hbad) (cwV 3 hts gL_begin_X0_begin rfl rfl rfl (by decide +kernel) ⟨Nat.le_of_ble_eq_true rfl, Nat.le_of_ble_eq_true rfl⟩) [0, 1, 2, 3, 4, 5, 6, 7, 8, 9, 10, 11] rfl (ci := 0) rfl rfl rfl rfl hl.1 rfl (Nat.le_of_ble_eq_true rfl) dL_begin_7 ⟨Nat.le_of_ble_eq_true rfl, Nat.le_of_ble_eq_true rfl⟩ (fun q9 ce H1 hz hq hce hcv hcl => ?_)
  have hP := w_grow hP hq
  have hS := w_growS hS hz hq
  refine vx_catch (own := RL) (name := "java/lang/IndexOutOfBoundsException") (E := "java/lang/IndexOutOfBoundsException") hown [⟨0, 12, 15, 19⟩] ⟨0, 12, 19, 25⟩ [] (by rw [htab]; rfl) (fun z hz => by obtain rfl := List.mem_singleton.mp hz; exact Or.inr ⟨by decide, "java/lang/IllegalArgumentException", (hts (.classLink RL 19 "java/lang/IllegalArgumentException") (List.mem_of_getElem? (i := 1) rfl)), hTX.2.2.2.2.2⟩) rfl (by decide) (hts (.classLink RL 25 "java/lang/IndexOutOfBoundsException") (List.mem_of_getElem? (i := 2) rfl)) ((hTX.2.2.1 _ (List.mem_of_getElem? (i := 2) rfl)).use rfl) hce hcv hcl ?_
  refine lv_astore (lv' := [(5, .ref (q9)), (0, .ref (ad 0)), (1, .int (iI ((v : Int)))), (2, .int (iI (x))), (3, .int (iI (y))), (4, .ref (b0))]) hx hb dL_begin_19 hl (by decide) rfl (fun ls hl => ?_)
  refine lv_iconst (v := iI 2) hx hb dL_begin_21 rfl ?_
  exact hret _ _ _ _ 22 ls _ () (Nat.le_refl _) (Nat.le_refl _) hP hD hS rfl dL_begin_22
set_option maxHeartbeats 4000000 in
set_option maxRecDepth 100000 in
theorem hL_head_t {x y : Int} (hl0 : l.stackTraces = false) (hn : nn ≤ 7) (hm : 1 ≤ mm ∧ mm ≤ 5) (hr9 : -2147483648 ≤ x ∧ x ≤ 2147483647 ∧ -2147483648 ≤ y ∧ y ≤ 2147483647) (hbad : ¬ ((0 ≤ x ∧ x < (nn : Int)) ∧ 0 ≤ y ∧ y < (mm : Int))) : LM l yL_head wsL_head (rmt 8 125) D (tyk cI cZ cJ) (xw ad cI cZ nn mm tT tB tE tL oO oR oQ zS zM zN oJ ++ [(b0, .inl (cJ, 1, .inr (.inl (fL))))]) [.ref (ad 0), .int (iI (x)), .int (iI (y)), .ref (b0)] sa (QI D (tyk cI cZ cJ) (fun u : Unit => xw ad cI cZ nn mm tT tB tE tL oO oR oQ zS zM zN oJ ++ [(b0, .inl (cJ, 1, .inr (.inl (fL))))]) (fun x _ => x = iI 1)) := by
  refine lm_of (cc := cL_head) (maxL := 5) (hh := [(0, 10, 13, 25)]) (by decide) rfl (Nat.le_of_ble_eq_true rfl) ?_
  intro p e s m args below meth c A Q hx hb hml hown hts htab hA hK hP hD hS hTX hret ls hl
  have hown : s.vm.findClass RL = some m.cls := hown
  have hl : lv_has ls 5 [(0, .ref (ad 0)), (1, .int (iI (x))), (2, .int (iI (y))), (3, .ref (b0))] := hl
  refine lv_aload_n hx hb dL_head_0 rfl (lv_at hl 3 rfl) ?_
  refine lv_iconst (v := iI 0) hx hb dL_head_1 rfl ?_
  refine lv_aload_n hx hb dL_head_2 rfl (lv_at hl 0 rfl) ?_
  refine lv_iload_n hx hb dL_head_3 rfl (lv_at hl 1 rfl) ?_
  refine lv_iload_n hx hb dL_head_4 rfl (lv_at hl 2 rfl) ?_
  refine w_tV (As := [.int (iI (x)), .int (iI (y))]) (rest := [.int (iI 0), .ref b0]) ⟨hx, hb, hml, hown, hts⟩ hK hP hTX (tX0_head hl0 hn hm hr9 hbad) (cwV 2 hts gL_head_X0_head rfl rfl rfl (by decide +kernel) ⟨Nat.le_of_ble_eq_true rfl, Nat.le_of_ble_eq_true rfl⟩) [0, 1, 2, 3, 4, 5, 6, 7, 8, 9, 10, 11] rfl (ci := 0) rfl rfl rfl rfl hl.1 rfl (Nat.le_of_ble_eq_true rfl) dL_head_5 ⟨Nat.le_of_ble_eq_true rfl, Nat.le_of_ble_eq_true rfl⟩ (fun q9 ce H1 hz hq hce hcv hcl => ?_)
  have hP := w_grow hP hq
  have hS := w_growS hS hz hq
  refine vx_catch (own := RL) (name := "java/lang/IndexOutOfBoundsException") (E := "java/lang/IndexOutOfBoundsException") hown [] ⟨0, 10, 13, 25⟩ [] (by rw [htab]; rfl) (fun z hz => absurd hz List.not_mem_nil) rfl (by decide) (hts (.classLink RL 25 "java/lang/IndexOutOfBoundsException") (List.mem_of_getElem? (i := 1) rfl)) ((hTX.2.2.1 _ (List.mem_of_getElem? (i := 2) rfl)).use rfl) hce hcv hcl ?_
  refine lv_astore (lv' := [(4, .ref (q9)), (0, .ref (ad 0)), (1, .int (iI (x))), (2, .int (iI (y))), (3, .ref (b0))]) hx hb dL_head_13 hl (by decide) rfl (fun ls hl => ?_)
  refine lv_iconst (v := iI 1) hx hb dL_head_15 rfl ?_
  exact hret _ _ _ _ 16 ls _ () (Nat.le_refl _) (Nat.le_refl _) hP hD hS rfl dL_head_16
set_option maxHeartbeats 4000000 in
set_option maxRecDepth 100000 in
theorem hL_tail_t {x y : Int} (hl0 : l.stackTraces = false) (hn : nn ≤ 7) (hm : 1 ≤ mm ∧ mm ≤ 5) (hr9 : -2147483648 ≤ x ∧ x ≤ 2147483647 ∧ -2147483648 ≤ y ∧ y ≤ 2147483647) (hbad : ¬ ((0 ≤ x ∧ x < (nn : Int)) ∧ 0 ≤ y ∧ y < (mm : Int))) : LM l yL_tail wsL_tail (rmt 8 125) D (tyk cI cZ cJ) (xw ad cI cZ nn mm tT tB tE tL oO oR oQ zS zM zN oJ ++ [(b0, .inl (cJ, 1, .inr (.inl (fL))))]) [.ref (ad 0), .int (iI (x)), .int (iI (y)), .ref (b0)] sa (QI D (tyk cI cZ cJ) (fun u : Unit => xw ad cI cZ nn mm tT tB tE tL oO oR oQ zS zM zN oJ ++ [(b0, .inl (cJ, 1, .inr (.inl (fL))))]) (fun x _ => x = iI 1)) := by
  refine lm_of (cc := cL_tail) (maxL := 5) (hh := [(0, 10, 13, 25)]) (by decide) rfl (Nat.le_of_ble_eq_true rfl) ?_
  intro p e s m args below meth c A Q hx hb hml hown hts htab hA hK hP hD hS hTX hret ls hl
  have hown : s.vm.findClass RL = some m.cls := hown
  have hl : lv_has ls 5 [(0, .ref (ad 0)), (1, .int (iI (x))), (2, .int (iI (y))), (3, .ref (b0))] := hl
  refine lv_aload_n hx hb dL_tail_0 rfl (lv_at hl 3 rfl) ?_
  refine lv_iconst (v := iI 0) hx hb dL_tail_1 rfl ?_
  refine lv_aload_n hx hb dL_tail_2 rfl (lv_at hl 0 rfl) ?_
  refine lv_iload_n hx hb dL_tail_3 rfl (lv_at hl 1 rfl) ?_
  refine lv_iload_n hx hb dL_tail_4 rfl (lv_at hl 2 rfl) ?_
  refine w_tV (As := [.int (iI (x)), .int (iI (y))]) (rest := [.int (iI 0), .ref b0]) ⟨hx, hb, hml, hown, hts⟩ hK hP hTX (tX0_tail hl0 hn hm hr9 hbad) (cwV 2 hts gL_tail_X0_tail rfl rfl rfl (by decide +kernel) ⟨Nat.le_of_ble_eq_true rfl, Nat.le_of_ble_eq_true rfl⟩) [0, 1, 2, 3, 4, 5, 6, 7, 8, 9, 10, 11] rfl (ci := 0) rfl rfl rfl rfl hl.1 rfl (Nat.le_of_ble_eq_true rfl) dL_tail_5 ⟨Nat.le_of_ble_eq_true rfl, Nat.le_of_ble_eq_true rfl⟩ (fun q9 ce H1 hz hq hce hcv hcl => ?_)
  have hP := w_grow hP hq
  have hS := w_growS hS hz hq
  refine vx_catch (own := RL) (name := "java/lang/IndexOutOfBoundsException") (E := "java/lang/IndexOutOfBoundsException") hown [] ⟨0, 10, 13, 25⟩ [] (by rw [htab]; rfl) (fun z hz => absurd hz List.not_mem_nil) rfl (by decide) (hts (.classLink RL 25 "java/lang/IndexOutOfBoundsException") (List.mem_of_getElem? (i := 1) rfl)) ((hTX.2.2.1 _ (List.mem_of_getElem? (i := 2) rfl)).use rfl) hce hcv hcl ?_
  refine lv_astore (lv' := [(4, .ref (q9)), (0, .ref (ad 0)), (1, .int (iI (x))), (2, .int (iI (y))), (3, .ref (b0))]) hx hb dL_tail_13 hl (by decide) rfl (fun ls hl => ?_)
  refine lv_iconst (v := iI 1) hx hb dL_tail_15 rfl ?_
  exact hret _ _ _ _ 16 ls _ () (Nat.le_refl _) (Nat.le_refl _) hP hD hS rfl dL_tail_16
set_option maxHeartbeats 4000000 in
set_option maxRecDepth 100000 in
theorem hL_isCritical_t {x y : Int} (hl0 : l.stackTraces = false) (hn : nn ≤ 7) (hm : 1 ≤ mm ∧ mm ≤ 5) (hr9 : -2147483648 ≤ x ∧ x ≤ 2147483647 ∧ -2147483648 ≤ y ∧ y ≤ 2147483647) (hbad : ¬ ((0 ≤ x ∧ x < (nn : Int)) ∧ 0 ≤ y ∧ y < (mm : Int))) : LM l yL_isCritical wsL_isCritical (rmt 8 127) D (tyk cI cZ cJ) (xw ad cI cZ nn mm tT tB tE tL oO oR oQ zS zM zN oJ ++ [(b0, .inl (cJ, 1, .inr (.inl (fL))))]) [.ref (ad 0), .int (iI (x)), .int (iI (y)), .ref (b0)] sa (QI D (tyk cI cZ cJ) (fun u : Unit => xw ad cI cZ nn mm tT tB tE tL oO oR oQ zS zM zN oJ ++ [(b0, .inl (cJ, 1, .inr (.inl (fL))))]) (fun x _ => x = iI 1)) := by
  refine lm_of (cc := cL_isCritical) (maxL := 5) (hh := [(0, 17, 20, 25)]) (by decide) rfl (Nat.le_of_ble_eq_true rfl) ?_
  intro p e s m args below meth c A Q hx hb hml hown hts htab hA hK hP hD hS hTX hret ls hl
  have hown : s.vm.findClass RL = some m.cls := hown
  have hl : lv_has ls 5 [(0, .ref (ad 0)), (1, .int (iI (x))), (2, .int (iI (y))), (3, .ref (b0))] := hl
  refine lv_aload_n hx hb dL_isCritical_0 rfl (lv_at hl 3 rfl) ?_
  refine lv_iconst (v := iI 0) hx hb dL_isCritical_1 rfl ?_
  refine lv_aload_n hx hb dL_isCritical_2 rfl (lv_at hl 0 rfl) ?_
  refine lv_iload_n hx hb dL_isCritical_3 rfl (lv_at hl 1 rfl) ?_
  refine lv_iload_n hx hb dL_isCritical_4 rfl (lv_at hl 2 rfl) ?_
  refine w_tV (As := [.int (iI (x)), .int (iI (y))]) (rest := [.int (iI 0), .ref b0]) ⟨hx, hb, hml, hown, hts⟩ hK hP hTX (tX0_isCritical hl0 hn hm hr9 hbad) (cwV 2 hts gL_isCritical_X0_isCritical rfl rfl rfl (by decide +kernel) ⟨Nat.le_of_ble_eq_true rfl, Nat.le_of_ble_eq_true rfl⟩) [0, 1, 2, 3, 4, 5, 6, 7, 8, 9, 10, 11] rfl (ci := 0) rfl rfl rfl rfl hl.1 rfl (Nat.le_of_ble_eq_true rfl) dL_isCritical_5 ⟨Nat.le_of_ble_eq_true rfl, Nat.le_of_ble_eq_true rfl⟩ (fun q9 ce H1 hz hq hce hcv hcl => ?_)
  have hP := w_grow hP hq
  have hS := w_growS hS hz hq
  refine vx_catch (own := RL) (name := "java/lang/IndexOutOfBoundsException") (E := "java/lang/IndexOutOfBoundsException") hown [] ⟨0, 17, 20, 25⟩ [] (by rw [htab]; rfl) (fun z hz => absurd hz List.not_mem_nil) rfl (by decide) (hts (.classLink RL 25 "java/lang/IndexOutOfBoundsException") (List.mem_of_getElem? (i := 1) rfl)) ((hTX.2.2.1 _ (List.mem_of_getElem? (i := 2) rfl)).use rfl) hce hcv hcl ?_
  refine lv_astore (lv' := [(4, .ref (q9)), (0, .ref (ad 0)), (1, .int (iI (x))), (2, .int (iI (y))), (3, .ref (b0))]) hx hb dL_isCritical_20 hl (by decide) rfl (fun ls hl => ?_)
  refine lv_iconst (v := iI 1) hx hb dL_isCritical_22 rfl ?_
  exact hret _ _ _ _ 23 ls _ () (Nat.le_refl _) (Nat.le_refl _) hP hD hS rfl dL_isCritical_23
set_option maxHeartbeats 4000000 in
set_option maxRecDepth 100000 in
theorem hL_idle_1_t {x y : Int} (hl0 : l.stackTraces = false) (hr9 : -2147483648 ≤ x ∧ x ≤ 2147483647) (hbad : ¬ (0 ≤ x ∧ x ≤ 2)) : LM l yL_idle wsL_idle (rmt 8 124) D (tyk cI cZ cJ) (xw ad cI cZ nn mm tT tB tE tL oO oR oQ zS zM zN oJ ++ [(b0, .inl (cJ, 1, .inr (.inl (fL))))]) [.ref (ad 0), .int (iI (x)), .int (iI (y)), .ref (b0)] sa (QI D (tyk cI cZ cJ) (fun u : Unit => xw ad cI cZ nn mm tT tB tE tL oO oR oQ zS zM zN oJ ++ [(b0, .inl (cJ, 1, .inr (.inl (fL))))]) (fun x _ => x = iI 1)) := by
  refine lm_of (cc := cL_idle) (maxL := 5) (hh := [(0, 10, 13, 19), (0, 10, 17, 25)]) (by decide) rfl (Nat.le_of_ble_eq_true rfl) ?_
  intro p e s m args below meth c A Q hx hb hml hown hts htab hA hK hP hD hS hTX hret ls hl
  have hown : s.vm.findClass RL = some m.cls := hown
  have hl : lv_has ls 5 [(0, .ref (ad 0)), (1, .int (iI (x))), (2, .int (iI (y))), (3, .ref (b0))] := hl
  refine lv_aload_n hx hb dL_idle_0 rfl (lv_at hl 3 rfl) ?_
  refine lv_iconst (v := iI 0) hx hb dL_idle_1 rfl ?_
  refine lv_aload_n hx hb dL_idle_2 rfl (lv_at hl 0 rfl) ?_
  refine lv_iload_n hx hb dL_idle_3 rfl (lv_at hl 1 rfl) ?_
  refine lv_iload_n hx hb dL_idle_4 rfl (lv_at hl 2 rfl) ?_
  refine w_tV (As := [.int (iI (x)), .int (iI (y))]) (rest := [.int (iI 0), .ref b0]) ⟨hx, hb, hml, hown, hts⟩ hK hP hTX (tX0_idle_1 hl0 hr9 hbad) (cwV 2 hts gL_idle_X0_idle rfl rfl rfl (by decide +kernel) ⟨Nat.le_of_ble_eq_true rfl, Nat.le_of_ble_eq_true rfl⟩) [0, 1, 2, 3, 4, 5, 6, 7, 8, 9, 10, 11] rfl (ci := 0) rfl rfl rfl rfl hl.1 rfl (Nat.le_of_ble_eq_true rfl) dL_idle_5 ⟨Nat.le_of_ble_eq_true rfl, Nat.le_of_ble_eq_true rfl⟩ (fun q9 ce H1 hz hq hce hcv hcl => ?_)
  have hP := w_grow hP hq
  have hS := w_growS hS hz hq
  refine vx_catch (own := RL) (name := "java/lang/IllegalArgumentException") (E := "java/lang/IllegalArgumentException") hown [] ⟨0, 10, 13, 19⟩ [⟨0, 10, 17, 25⟩] (by rw [htab]; rfl) (fun z hz => absurd hz List.not_mem_nil) rfl (by decide) (hts (.classLink RL 19 "java/lang/IllegalArgumentException") (List.mem_of_getElem? (i := 1) rfl)) ((hTX.2.2.1 _ (List.mem_of_getElem? (i := 1) rfl)).use rfl) hce hcv hcl ?_
  refine lv_astore (lv' := [(4, .ref (q9)), (0, .ref (ad 0)), (1, .int (iI (x))), (2, .int (iI (y))), (3, .ref (b0))]) hx hb dL_idle_13 hl (by decide) rfl (fun ls hl => ?_)
  refine lv_iconst (v := iI 1) hx hb dL_idle_15 rfl ?_
  exact hret _ _ _ _ 16 ls _ () (Nat.le_refl _) (Nat.le_refl _) hP hD hS rfl dL_idle_16
set_option maxHeartbeats 4000000 in
set_option maxRecDepth 100000 in
theorem hL_idle_2_t {v : Nat} {x : Int} (hl0 : l.stackTraces = false) (hn : nn ≤ 7) (hm : 1 ≤ mm ∧ mm ≤ 5) (hv : v ≤ 2) (hr9 : -2147483648 ≤ x ∧ x ≤ 2147483647) (hbad : ¬ (0 ≤ x ∧ x < (mm : Int))) : LM l yL_idle wsL_idle (rmt 8 125) D (tyk cI cZ cJ) (xw ad cI cZ nn mm tT tB tE tL oO oR oQ zS zM zN oJ ++ [(b0, .inl (cJ, 1, .inr (.inl (fL))))]) [.ref (ad 0), .int (iI ((v : Int))), .int (iI (x)), .ref (b0)] sa (QI D (tyk cI cZ cJ) (fun u : Unit => xw ad cI cZ nn mm tT tB tE tL oO oR oQ zS zM zN oJ ++ [(b0, .inl (cJ, 1, .inr (.inl (fL))))]) (fun x _ => x = iI 2)) := by
  refine lm_of (cc := cL_idle) (maxL := 5) (hh := [(0, 10, 13, 19), (0, 10, 17, 25)]) (by decide) rfl (Nat.le_of_ble_eq_true rfl) ?_
  intro p e s m args below meth c A Q hx hb hml hown hts htab hA hK hP hD hS hTX hret ls hl
  have hown : s.vm.findClass RL = some m.cls := hown
  have hl : lv_has ls 5 [(0, .ref (ad 0)), (1, .int (iI ((v : Int)))), (2, .int (iI (x))), (3, .ref (b0))] := hl
  refine lv_aload_n hx hb dL_idle_0 rfl (lv_at hl 3 rfl) ?_
  refine lv_iconst (v := iI 0) hx hb dL_idle_1 rfl ?_
  refine lv_aload_n hx hb dL_idle_2 rfl (lv_at hl 0 rfl) ?_
  refine lv_iload_n hx hb dL_idle_3 rfl (lv_at hl 1 rfl) ?_
  refine lv_iload_n hx hb dL_idle_4 rfl (lv_at hl 2 rfl) ?_
  refine w_tV (As := [.int (iI ((v : Int))), .int (iI (x))]) (rest := [.int (iI 0), .ref b0]) ⟨hx, hb, hml, hown, hts⟩ hK hP hTX (tX0_idle_2 hl0 hn hm hv hr9 hbad) (cwV 2 hts gL_idle_X0_idle rfl rfl rfl (by decide +kernel) ⟨Nat.le_of_ble_eq_true rfl, Nat.le_of_ble_eq_true rfl⟩) [0, 1, 2, 3, 4, 5, 6, 7, 8, 9, 10, 11] rfl (ci := 0) rfl rfl rfl rfl hl.1 rfl (Nat.le_of_ble_eq_true rfl) dL_idle_5 ⟨Nat.le_of_ble_eq_true rfl, Nat.le_of_ble_eq_true rfl⟩ (fun q9 ce H1 hz hq hce hcv hcl => ?_)
  have hP := w_grow hP hq
  have hS := w_growS hS hz hq
  refine vx_catch (own := RL) (name := "java/lang/IndexOutOfBoundsException") (E := "java/lang/IndexOutOfBoundsException") hown [⟨0, 10, 13, 19⟩] ⟨0, 10, 17, 25⟩ [] (by rw [htab]; rfl) (fun z hz => by obtain rfl := List.mem_singleton.mp hz; exact Or.inr ⟨by decide, "java/lang/IllegalArgumentException", (hts (.classLink RL 19 "java/lang/IllegalArgumentException") (List.mem_of_getElem? (i := 1) rfl)), hTX.2.2.2.2.2⟩) rfl (by decide) (hts (.classLink RL 25 "java/lang/IndexOutOfBoundsException") (List.mem_of_getElem? (i := 2) rfl)) ((hTX.2.2.1 _ (List.mem_of_getElem? (i := 2) rfl)).use rfl) hce hcv hcl ?_
  refine lv_astore (lv' := [(4, .ref (q9)), (0, .ref (ad 0)), (1, .int (iI ((v : Int)))), (2, .int (iI (x))), (3, .ref (b0))]) hx hb dL_idle_17 hl (by decide) rfl (fun ls hl => ?_)
  refine lv_iconst (v := iI 2) hx hb dL_idle_19 rfl ?_
  exact hret _ _ _ _ 20 ls _ () (Nat.le_refl _) (Nat.le_refl _) hP hD hS rfl dL_idle_20
set_option maxHeartbeats 4000000 in
set_option maxRecDepth 100000 in
theorem hL_machineBound_t {x : Int} (hl0 : l.stackTraces = false) (hn : nn ≤ 7) (hm : 1 ≤ mm ∧ mm ≤ 5) (hr9 : -2147483648 ≤ x ∧ x ≤ 2147483647) (hbad : ¬ (0 ≤ x ∧ x < (mm : Int))) : LM l yL_machineBound wsL_machineBound (rmt 8 124) D (tyk cI cZ cJ) (xw ad cI cZ nn mm tT tB tE tL oO oR oQ zS zM zN oJ ++ [(b0, .inl (cJ, 1, .inr (.inl (fL))))]) [.ref (ad 0), .int (iI (x)), .ref (b0)] sa (QI D (tyk cI cZ cJ) (fun u : Unit => xw ad cI cZ nn mm tT tB tE tL oO oR oQ zS zM zN oJ ++ [(b0, .inl (cJ, 1, .inr (.inl (fL))))]) (fun x _ => x = iI 1)) := by
  refine lm_of (cc := cL_machineBound) (maxL := 4) (hh := [(0, 9, 12, 25)]) (by decide) rfl (Nat.le_of_ble_eq_true rfl) ?_
  intro p e s m args below meth c A Q hx hb hml hown hts htab hA hK hP hD hS hTX hret ls hl
  have hown : s.vm.findClass RL = some m.cls := hown
  have hl : lv_has ls 4 [(0, .ref (ad 0)), (1, .int (iI (x))), (2, .ref (b0))] := hl
  refine lv_aload_n hx hb dL_machineBound_0 rfl (lv_at hl 2 rfl) ?_
  refine lv_iconst (v := iI 0) hx hb dL_machineBound_1 rfl ?_
  refine lv_aload_n hx hb dL_machineBound_2 rfl (lv_at hl 0 rfl) ?_
  refine lv_iload_n hx hb dL_machineBound_3 rfl (lv_at hl 1 rfl) ?_
  refine w_tV (As := [.int (iI (x))]) (rest := [.int (iI 0), .ref b0]) ⟨hx, hb, hml, hown, hts⟩ hK hP hTX (tX0_machineBound hl0 hn hm hr9 hbad) (cwV 1 hts gL_machineBound_X0_machineBound rfl rfl rfl (by decide +kernel) ⟨Nat.le_of_ble_eq_true rfl, Nat.le_of_ble_eq_true rfl⟩) [0, 1, 2, 3, 4, 5, 6, 7, 8, 9, 10, 11] rfl (ci := 0) rfl rfl rfl rfl hl.1 rfl (Nat.le_of_ble_eq_true rfl) dL_machineBound_4 ⟨Nat.le_of_ble_eq_true rfl, Nat.le_of_ble_eq_true rfl⟩ (fun q9 ce H1 hz hq hce hcv hcl => ?_)
  have hP := w_grow hP hq
  have hS := w_growS hS hz hq
  refine vx_catch (own := RL) (name := "java/lang/IndexOutOfBoundsException") (E := "java/lang/IndexOutOfBoundsException") hown [] ⟨0, 9, 12, 25⟩ [] (by rw [htab]; rfl) (fun z hz => absurd hz List.not_mem_nil) rfl (by decide) (hts (.classLink RL 25 "java/lang/IndexOutOfBoundsException") (List.mem_of_getElem? (i := 1) rfl)) ((hTX.2.2.1 _ (List.mem_of_getElem? (i := 2) rfl)).use rfl) hce hcv hcl ?_
  refine lv_astore_n (lv' := [(3, .ref (q9)), (0, .ref (ad 0)), (1, .int (iI (x))), (2, .ref (b0))]) hx hb dL_machineBound_12 rfl hl (by decide) rfl (fun ls hl => ?_)
  refine lv_iconst (v := iI 1) hx hb dL_machineBound_13 rfl ?_
  exact hret _ _ _ _ 14 ls _ () (Nat.le_refl _) (Nat.le_refl _) hP hD hS rfl dL_machineBound_14
set_option maxHeartbeats 4000000 in
set_option maxRecDepth 100000 in
theorem hL_pairBound_1_t {x y : Int} (hl0 : l.stackTraces = false) (hn : nn ≤ 7) (hm : 1 ≤ mm ∧ mm ≤ 5) (hr9 : -2147483648 ≤ x ∧ x ≤ 2147483647 ∧ -2147483648 ≤ y ∧ y ≤ 2147483647) (hbad : ¬ ((0 ≤ x ∧ x < (mm : Int)) ∧ 0 ≤ y ∧ y < (mm : Int))) : LM l yL_pairBound wsL_pairBound (rmt 8 125) D (tyk cI cZ cJ) (xw ad cI cZ nn mm tT tB tE tL oO oR oQ zS zM zN oJ ++ [(b0, .inl (cJ, 1, .inr (.inl (fL))))]) [.ref (ad 0), .int (iI (x)), .int (iI (y)), .ref (b0)] sa (QI D (tyk cI cZ cJ) (fun u : Unit => xw ad cI cZ nn mm tT tB tE tL oO oR oQ zS zM zN oJ ++ [(b0, .inl (cJ, 1, .inr (.inl (fL))))]) (fun x _ => x = iI 1)) := by
  refine lm_of (cc := cL_pairBound) (maxL := 5) (hh := [(0, 10, 13, 25), (0, 10, 17, 19)]) (by decide) rfl (Nat.le_of_ble_eq_true rfl) ?_
  intro p e s m args below meth c A Q hx hb hml hown hts htab hA hK hP hD hS hTX hret ls hl
  have hown : s.vm.findClass RL = some m.cls := hown
  have hl : lv_has ls 5 [(0, .ref (ad 0)), (1, .int (iI (x))), (2, .int (iI (y))), (3, .ref (b0))] := hl
  refine lv_aload_n hx hb dL_pairBound_0 rfl (lv_at hl 3 rfl) ?_
  refine lv_iconst (v := iI 0) hx hb dL_pairBound_1 rfl ?_
  refine lv_aload_n hx hb dL_pairBound_2 rfl (lv_at hl 0 rfl) ?_
  refine lv_iload_n hx hb dL_pairBound_3 rfl (lv_at hl 1 rfl) ?_
  refine lv_iload_n hx hb dL_pairBound_4 rfl (lv_at hl 2 rfl) ?_
  refine w_tV (As := [.int (iI (x)), .int (iI (y))]) (rest := [.int (iI 0), .ref b0]) ⟨hx, hb, hml, hown, hts⟩ hK hP hTX (tX0_pairBound_1 hl0 hn hm hr9 hbad) (cwV 2 hts gL_pairBound_X0_pairBound rfl rfl rfl (by decide +kernel) ⟨Nat.le_of_ble_eq_true rfl, Nat.le_of_ble_eq_true rfl⟩) [0, 1, 2, 3, 4, 5, 6, 7, 8, 9, 10, 11] rfl (ci := 0) rfl rfl rfl rfl hl.1 rfl (Nat.le_of_ble_eq_true rfl) dL_pairBound_5 ⟨Nat.le_of_ble_eq_true rfl, Nat.le_of_ble_eq_true rfl⟩ (fun q9 ce H1 hz hq hce hcv hcl => ?_)
  have hP := w_grow hP hq
  have hS := w_growS hS hz hq
  refine vx_catch (own := RL) (name := "java/lang/IndexOutOfBoundsException") (E := "java/lang/IndexOutOfBoundsException") hown [] ⟨0, 10, 13, 25⟩ [⟨0, 10, 17, 19⟩] (by rw [htab]; rfl) (fun z hz => absurd hz List.not_mem_nil) rfl (by decide) (hts (.classLink RL 25 "java/lang/IndexOutOfBoundsException") (List.mem_of_getElem? (i := 1) rfl)) ((hTX.2.2.1 _ (List.mem_of_getElem? (i := 2) rfl)).use rfl) hce hcv hcl ?_
  refine lv_astore (lv' := [(4, .ref (q9)), (0, .ref (ad 0)), (1, .int (iI (x))), (2, .int (iI (y))), (3, .ref (b0))]) hx hb dL_pairBound_13 hl (by decide) rfl (fun ls hl => ?_)
  refine lv_iconst (v := iI 1) hx hb dL_pairBound_15 rfl ?_
  exact hret _ _ _ _ 16 ls _ () (Nat.le_refl _) (Nat.le_refl _) hP hD hS rfl dL_pairBound_16
set_option maxHeartbeats 4000000 in
set_option maxRecDepth 100000 in
theorem hL_pairBound_2_t {a b : Nat} (hl0 : l.stackTraces = false) (hn : nn ≤ 7) (hm : 1 ≤ mm ∧ mm ≤ 5) (ha : a < mm) (hb7 : b < mm) (hab : b ≤ a) : LM l yL_pairBound wsL_pairBound (rmt 7 104) D (tyk cI cZ cJ) (xw ad cI cZ nn mm tT tB tE tL oO oR oQ zS zM zN oJ ++ [(b0, .inl (cJ, 1, .inr (.inl (fL))))]) [.ref (ad 0), .int (iI ((a : Int))), .int (iI ((b : Int))), .ref (b0)] sa (QI D (tyk cI cZ cJ) (fun u : Unit => xw ad cI cZ nn mm tT tB tE tL oO oR oQ zS zM zN oJ ++ [(b0, .inl (cJ, 1, .inr (.inl (fL))))]) (fun x _ => x = iI 2)) := by
  refine lm_of (cc := cL_pairBound) (maxL := 5) (hh := [(0, 10, 13, 25), (0, 10, 17, 19)]) (by decide) rfl (Nat.le_of_ble_eq_true rfl) ?_
  intro p e s m args below meth c A Q hx hb hml hown hts htab hA hK hP hD hS hTX hret ls hl
  have hown : s.vm.findClass RL = some m.cls := hown
  have hl : lv_has ls 5 [(0, .ref (ad 0)), (1, .int (iI ((a : Int)))), (2, .int (iI ((b : Int)))), (3, .ref (b0))] := hl
  refine lv_aload_n hx hb dL_pairBound_0 rfl (lv_at hl 3 rfl) ?_
  refine lv_iconst (v := iI 0) hx hb dL_pairBound_1 rfl ?_
  refine lv_aload_n hx hb dL_pairBound_2 rfl (lv_at hl 0 rfl) ?_
  refine lv_iload_n hx hb dL_pairBound_3 rfl (lv_at hl 1 rfl) ?_
  refine lv_iload_n hx hb dL_pairBound_4 rfl (lv_at hl 2 rfl) ?_
  refine w_tV (As := [.int (iI ((a : Int))), .int (iI ((b : Int)))]) (rest := [.int (iI 0), .ref b0]) ⟨hx, hb, hml, hown, hts⟩ hK hP hTX (tX0_pairBound_2 hl0 hn hm ha hb7 hab) (cwV 2 hts gL_pairBound_X0_pairBound rfl rfl rfl (by decide +kernel) ⟨Nat.le_of_ble_eq_true rfl, Nat.le_of_ble_eq_true rfl⟩) [0, 1, 2, 3, 4, 5, 6, 7, 8, 9, 10, 11] rfl (ci := 0) rfl rfl rfl rfl hl.1 rfl (Nat.le_of_ble_eq_true rfl) dL_pairBound_5 ⟨Nat.le_of_ble_eq_true rfl, Nat.le_of_ble_eq_true rfl⟩ (fun q9 ce H1 hz hq hce hcv hcl => ?_)
  have hP := w_grow hP hq
  have hS := w_growS hS hz hq
  refine vx_catch (own := RL) (name := "java/lang/IllegalArgumentException") (E := "java/lang/IllegalArgumentException") hown [⟨0, 10, 13, 25⟩] ⟨0, 10, 17, 19⟩ [] (by rw [htab]; rfl) (fun z hz => by obtain rfl := List.mem_singleton.mp hz; exact Or.inr ⟨by decide, "java/lang/IndexOutOfBoundsException", (hts (.classLink RL 25 "java/lang/IndexOutOfBoundsException") (List.mem_of_getElem? (i := 1) rfl)), hTX.2.2.2.2.1⟩) rfl (by decide) (hts (.classLink RL 19 "java/lang/IllegalArgumentException") (List.mem_of_getElem? (i := 2) rfl)) ((hTX.2.2.1 _ (List.mem_of_getElem? (i := 1) rfl)).use rfl) hce hcv hcl ?_
  refine lv_astore (lv' := [(4, .ref (q9)), (0, .ref (ad 0)), (1, .int (iI ((a : Int)))), (2, .int (iI ((b : Int)))), (3, .ref (b0))]) hx hb dL_pairBound_17 hl (by decide) rfl (fun ls hl => ?_)
  refine lv_iconst (v := iI 2) hx hb dL_pairBound_19 rfl ?_
  exact hret _ _ _ _ 20 ls _ () (Nat.le_refl _) (Nat.le_refl _) hP hD hS rfl dL_pairBound_20
set_option maxHeartbeats 4000000 in
set_option maxRecDepth 100000 in
theorem hL_best_t {x : Int} (hl0 : l.stackTraces = false) (hr9 : -2147483648 ≤ x ∧ x ≤ 2147483647) (hbad : ¬ (0 ≤ x ∧ x ≤ 2)) : LM l yL_best wsL_best (rmt 8 123) D (tyk cI cZ cJ) (xw ad cI cZ nn mm tT tB tE tL oO oR oQ zS zM zN oJ ++ [(b0, .inl (cJ, 1, .inr (.inl (fL))))]) [.ref (ad 0), .int (iI (x)), .ref (b0)] sa (QI D (tyk cI cZ cJ) (fun u : Unit => xw ad cI cZ nn mm tT tB tE tL oO oR oQ zS zM zN oJ ++ [(b0, .inl (cJ, 1, .inr (.inl (fL))))]) (fun x _ => x = iI 1)) := by
  refine lm_of (cc := cL_best) (maxL := 4) (hh := [(0, 9, 12, 19)]) (by decide) rfl (Nat.le_of_ble_eq_true rfl) ?_
  intro p e s m args below meth c A Q hx hb hml hown hts htab hA hK hP hD hS hTX hret ls hl
  have hown : s.vm.findClass RL = some m.cls := hown
  have hl : lv_has ls 4 [(0, .ref (ad 0)), (1, .int (iI (x))), (2, .ref (b0))] := hl
  refine lv_aload_n hx hb dL_best_0 rfl (lv_at hl 2 rfl) ?_
  refine lv_iconst (v := iI 0) hx hb dL_best_1 rfl ?_
  refine lv_aload_n hx hb dL_best_2 rfl (lv_at hl 0 rfl) ?_
  refine lv_iload_n hx hb dL_best_3 rfl (lv_at hl 1 rfl) ?_
  refine w_tV (As := [.int (iI (x))]) (rest := [.int (iI 0), .ref b0]) ⟨hx, hb, hml, hown, hts⟩ hK hP hTX (tX0_best hl0 hr9 hbad) (cwV 1 hts gL_best_X0_best rfl rfl rfl (by decide +kernel) ⟨Nat.le_of_ble_eq_true rfl, Nat.le_of_ble_eq_true rfl⟩) [0, 1, 2, 3, 4, 5, 6, 7, 8, 9, 10, 11] rfl (ci := 0) rfl rfl rfl rfl hl.1 rfl (Nat.le_of_ble_eq_true rfl) dL_best_4 ⟨Nat.le_of_ble_eq_true rfl, Nat.le_of_ble_eq_true rfl⟩ (fun q9 ce H1 hz hq hce hcv hcl => ?_)
  have hP := w_grow hP hq
  have hS := w_growS hS hz hq
  refine vx_catch (own := RL) (name := "java/lang/IllegalArgumentException") (E := "java/lang/IllegalArgumentException") hown [] ⟨0, 9, 12, 19⟩ [] (by rw [htab]; rfl) (fun z hz => absurd hz List.not_mem_nil) rfl (by decide) (hts (.classLink RL 19 "java/lang/IllegalArgumentException") (List.mem_of_getElem? (i := 1) rfl)) ((hTX.2.2.1 _ (List.mem_of_getElem? (i := 1) rfl)).use rfl) hce hcv hcl ?_
  refine lv_astore_n (lv' := [(3, .ref (q9)), (0, .ref (ad 0)), (1, .int (iI (x))), (2, .ref (b0))]) hx hb dL_best_12 rfl hl (by decide) rfl (fun ls hl => ?_)
  refine lv_iconst (v := iI 1) hx hb dL_best_13 rfl ?_
  exact hret _ _ _ _ 14 ls _ () (Nat.le_refl _) (Nat.le_refl _) hP hD hS rfl dL_best_14
set_option maxHeartbeats 4000000 in
set_option maxRecDepth 100000 in
theorem hL_bestAt_1_t {x y : Int} (hl0 : l.stackTraces = false) (hr9 : -2147483648 ≤ x ∧ x ≤ 2147483647) (hbad : ¬ (0 ≤ x ∧ x ≤ 2)) : LM l yL_bestAt wsL_bestAt (rmt 8 124) D (tyk cI cZ cJ) (xw ad cI cZ nn mm tT tB tE tL oO oR oQ zS zM zN oJ ++ [(b0, .inl (cJ, 1, .inr (.inl (fL))))]) [.ref (ad 0), .int (iI (x)), .int (iI (y)), .ref (b0)] sa (QI D (tyk cI cZ cJ) (fun u : Unit => xw ad cI cZ nn mm tT tB tE tL oO oR oQ zS zM zN oJ ++ [(b0, .inl (cJ, 1, .inr (.inl (fL))))]) (fun x _ => x = iI 1)) := by
  refine lm_of (cc := cL_bestAt) (maxL := 5) (hh := [(0, 10, 13, 19), (0, 10, 17, 25)]) (by decide) rfl (Nat.le_of_ble_eq_true rfl) ?_
  intro p e s m args below meth c A Q hx hb hml hown hts htab hA hK hP hD hS hTX hret ls hl
  have hown : s.vm.findClass RL = some m.cls := hown
  have hl : lv_has ls 5 [(0, .ref (ad 0)), (1, .int (iI (x))), (2, .int (iI (y))), (3, .ref (b0))] := hl
  refine lv_aload_n hx hb dL_bestAt_0 rfl (lv_at hl 3 rfl) ?_
  refine lv_iconst (v := iI 0) hx hb dL_bestAt_1 rfl ?_
  refine lv_aload_n hx hb dL_bestAt_2 rfl (lv_at hl 0 rfl) ?_
  refine lv_iload_n hx hb dL_bestAt_3 rfl (lv_at hl 1 rfl) ?_
  refine lv_iload_n hx hb dL_bestAt_4 rfl (lv_at hl 2 rfl) ?_
  refine w_tV (As := [.int (iI (x)), .int (iI (y))]) (rest := [.int (iI 0), .ref b0]) ⟨hx, hb, hml, hown, hts⟩ hK hP hTX (tX0_bestAt_1 hl0 hr9 hbad) (cwV 2 hts gL_bestAt_X0_bestAt rfl rfl rfl (by decide +kernel) ⟨Nat.le_of_ble_eq_true rfl, Nat.le_of_ble_eq_true rfl⟩) [0, 1, 2, 3, 4, 5, 6, 7, 8, 9, 10, 11] rfl (ci := 0) rfl rfl rfl rfl hl.1 rfl (Nat.le_of_ble_eq_true rfl) dL_bestAt_5 ⟨Nat.le_of_ble_eq_true rfl, Nat.le_of_ble_eq_true rfl⟩ (fun q9 ce H1 hz hq hce hcv hcl => ?_)
  have hP := w_grow hP hq
  have hS := w_growS hS hz hq
  refine vx_catch (own := RL) (name := "java/lang/IllegalArgumentException") (E := "java/lang/IllegalArgumentException") hown [] ⟨0, 10, 13, 19⟩ [⟨0, 10, 17, 25⟩] (by rw [htab]; rfl) (fun z hz => absurd hz List.not_mem_nil) rfl (by decide) (hts (.classLink RL 19 "java/lang/IllegalArgumentException") (List.mem_of_getElem? (i := 1) rfl)) ((hTX.2.2.1 _ (List.mem_of_getElem? (i := 1) rfl)).use rfl) hce hcv hcl ?_
  refine lv_astore (lv' := [(4, .ref (q9)), (0, .ref (ad 0)), (1, .int (iI (x))), (2, .int (iI (y))), (3, .ref (b0))]) hx hb dL_bestAt_13 hl (by decide) rfl (fun ls hl => ?_)
  refine lv_iconst (v := iI 1) hx hb dL_bestAt_15 rfl ?_
  exact hret _ _ _ _ 16 ls _ () (Nat.le_refl _) (Nat.le_refl _) hP hD hS rfl dL_bestAt_16
set_option maxHeartbeats 4000000 in
set_option maxRecDepth 100000 in
theorem hL_bestAt_2_t {v : Nat} {x : Int} (hl0 : l.stackTraces = false) (hn : nn ≤ 7) (hm : 1 ≤ mm ∧ mm ≤ 5) (hv : v ≤ 2) (hr9 : -2147483648 ≤ x ∧ x ≤ 2147483647) (hbad : ¬ (0 ≤ x ∧ x < (nn : Int))) : LM l yL_bestAt wsL_bestAt (rmt 8 125) D (tyk cI cZ cJ) (xw ad cI cZ nn mm tT tB tE tL oO oR oQ zS zM zN oJ ++ [(b0, .inl (cJ, 1, .inr (.inl (fL))))]) [.ref (ad 0), .int (iI ((v : Int))), .int (iI (x)), .ref (b0)] sa (QI D (tyk cI cZ cJ) (fun u : Unit => xw ad cI cZ nn mm tT tB tE tL oO oR oQ zS zM zN oJ ++ [(b0, .inl (cJ, 1, .inr (.inl (fL))))]) (fun x _ => x = iI 2)) := by
  refine lm_of (cc := cL_bestAt) (maxL := 5) (hh := [(0, 10, 13, 19), (0, 10, 17, 25)]) (by decide) rfl (Nat.le_of_ble_eq_true rfl) ?_
  intro p e s m args below meth c A Q hx hb hml hown hts htab hA hK hP hD hS hTX hret ls hl
  have hown : s.vm.findClass RL = some m.cls := hown
  have hl : lv_has ls 5 [(0, .ref (ad 0)), (1, .int (iI ((v : Int)))), (2, .int (iI (x))), (3, .ref (b0))] := hl
  refine lv_aload_n hx hb dL_bestAt_0 rfl (lv_at hl 3 rfl) ?_
  refine lv_iconst (v := iI 0) hx hb dL_bestAt_1 rfl ?_
  refine lv_aload_n hx hb dL_bestAt_2 rfl (lv_at hl 0 rfl) ?_
  refine lv_iload_n hx hb dL_bestAt_3 rfl (lv_at hl 1 rfl) ?_
  refine lv_iload_n hx hb dL_bestAt_4 rfl (lv_at hl 2 rfl) ?_
  refine w_tV (As := [.int (iI ((v : Int))), .int (iI (x))]) (rest := [.int (iI 0), .ref b0]) ⟨hx, hb, hml, hown, hts⟩ hK hP hTX (tX0_bestAt_2 hl0 hn hm hv hr9 hbad) (cwV 2 hts gL_bestAt_X0_bestAt rfl rfl rfl (by decide +kernel) ⟨Nat.le_of_ble_eq_true rfl, Nat.le_of_ble_eq_true rfl⟩) [0, 1, 2, 3, 4, 5, 6, 7, 8, 9, 10, 11] rfl (ci := 0) rfl rfl rfl rfl hl.1 rfl (Nat.le_of_ble_eq_true rfl) dL_bestAt_5 ⟨Nat.le_of_ble_eq_true rfl, Nat.le_of_ble_eq_true rfl⟩ (fun q9 ce H1 hz hq hce hcv hcl => ?_)
  have hP := w_grow hP hq
  have hS := w_growS hS hz hq
  refine vx_catch (own := RL) (name := "java/lang/IndexOutOfBoundsException") (E := "java/lang/IndexOutOfBoundsException") hown [⟨0, 10, 13, 19⟩] ⟨0, 10, 17, 25⟩ [] (by rw [htab]; rfl) (fun z hz => by obtain rfl := List.mem_singleton.mp hz; exact Or.inr ⟨by decide, "java/lang/IllegalArgumentException", (hts (.classLink RL 19 "java/lang/IllegalArgumentException") (List.mem_of_getElem? (i := 1) rfl)), hTX.2.2.2.2.2⟩) rfl (by decide) (hts (.classLink RL 25 "java/lang/IndexOutOfBoundsException") (List.mem_of_getElem? (i := 2) rfl)) ((hTX.2.2.1 _ (List.mem_of_getElem? (i := 2) rfl)).use rfl) hce hcv hcl ?_
  refine lv_astore (lv' := [(4, .ref (q9)), (0, .ref (ad 0)), (1, .int (iI ((v : Int)))), (2, .int (iI (x))), (3, .ref (b0))]) hx hb dL_bestAt_17 hl (by decide) rfl (fun ls hl => ?_)
  refine lv_iconst (v := iI 2) hx hb dL_bestAt_19 rfl ?_
  exact hret _ _ _ _ 20 ls _ () (Nat.le_refl _) (Nat.le_refl _) hP hD hS rfl dL_bestAt_20
set_option maxHeartbeats 4000000 in
set_option maxRecDepth 100000 in
theorem hL_bestOrders_t {x : Int} (hl0 : l.stackTraces = false) (hr9 : -2147483648 ≤ x ∧ x ≤ 2147483647) (hbad : ¬ (0 ≤ x ∧ x ≤ 2)) : LM l yL_bestOrders wsL_bestOrders (rmt 8 123) D (tyk cI cZ cJ) (xw ad cI cZ nn mm tT tB tE tL oO oR oQ zS zM zN oJ ++ [(b0, .inl (cJ, 1, .inr (.inl (fL))))]) [.ref (ad 0), .int (iI (x)), .ref (b0)] sa (QI D (tyk cI cZ cJ) (fun u : Unit => xw ad cI cZ nn mm tT tB tE tL oO oR oQ zS zM zN oJ ++ [(b0, .inl (cJ, 1, .inr (.inl (fL))))]) (fun x _ => x = iI 1)) := by
  refine lm_of (cc := cL_bestOrders) (maxL := 4) (hh := [(0, 9, 12, 19)]) (by decide) rfl (Nat.le_of_ble_eq_true rfl) ?_
  intro p e s m args below meth c A Q hx hb hml hown hts htab hA hK hP hD hS hTX hret ls hl
  have hown : s.vm.findClass RL = some m.cls := hown
  have hl : lv_has ls 4 [(0, .ref (ad 0)), (1, .int (iI (x))), (2, .ref (b0))] := hl
  refine lv_aload_n hx hb dL_bestOrders_0 rfl (lv_at hl 2 rfl) ?_
  refine lv_iconst (v := iI 0) hx hb dL_bestOrders_1 rfl ?_
  refine lv_aload_n hx hb dL_bestOrders_2 rfl (lv_at hl 0 rfl) ?_
  refine lv_iload_n hx hb dL_bestOrders_3 rfl (lv_at hl 1 rfl) ?_
  refine w_tV (As := [.int (iI (x))]) (rest := [.int (iI 0), .ref b0]) ⟨hx, hb, hml, hown, hts⟩ hK hP hTX (tX0_bestOrders hl0 hr9 hbad) (cwV 1 hts gL_bestOrders_X0_bestOrders rfl rfl rfl (by decide +kernel) ⟨Nat.le_of_ble_eq_true rfl, Nat.le_of_ble_eq_true rfl⟩) [0, 1, 2, 3, 4, 5, 6, 7, 8, 9, 10, 11] rfl (ci := 0) rfl rfl rfl rfl hl.1 rfl (Nat.le_of_ble_eq_true rfl) dL_bestOrders_4 ⟨Nat.le_of_ble_eq_true rfl, Nat.le_of_ble_eq_true rfl⟩ (fun q9 ce H1 hz hq hce hcv hcl => ?_)
  have hP := w_grow hP hq
  have hS := w_growS hS hz hq
  refine vx_catch (own := RL) (name := "java/lang/IllegalArgumentException") (E := "java/lang/IllegalArgumentException") hown [] ⟨0, 9, 12, 19⟩ [] (by rw [htab]; rfl) (fun z hz => absurd hz List.not_mem_nil) rfl (by decide) (hts (.classLink RL 19 "java/lang/IllegalArgumentException") (List.mem_of_getElem? (i := 1) rfl)) ((hTX.2.2.1 _ (List.mem_of_getElem? (i := 1) rfl)).use rfl) hce hcv hcl ?_
  refine lv_astore_n (lv' := [(3, .ref (q9)), (0, .ref (ad 0)), (1, .int (iI (x))), (2, .ref (b0))]) hx hb dL_bestOrders_12 rfl hl (by decide) rfl (fun ls hl => ?_)
  refine lv_iconst (v := iI 1) hx hb dL_bestOrders_13 rfl ?_
  exact hret _ _ _ _ 14 ls _ () (Nat.le_refl _) (Nat.le_refl _) hP hD hS rfl dL_bestOrders_14
end
