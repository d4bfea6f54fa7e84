section
variable {l : Launch} {D : va_G} {cI cZ cJ : ClassId} {ad bd : Nat → Nat} {a0 : Nat} {ws : va_W} {nn mm : Nat} {th bm : Int} {tT tB tE tL : Nat → Int} {oO oR oQ : Nat → Nat} {zS zM zN : Nat → Int} {oJ fF : Nat → Nat}
set_option maxHeartbeats 4000000 in
set_option maxRecDepth 100000 in
theorem mX0_cell {r k : Int} : PM l yX0_cell wsX0_cell (rmx 0 0) D (tyk cI cZ cJ) (ws) [.int (iI (r)), .int (iI (k))] (vp_Si (fun x => x = iI (5 * r + k))) := by
  refine pmI_of (cc := cX0_cell) (maxL := 2) (by decide) rfl (Nat.le_of_ble_eq_true rfl) ?_
  intro p e s m args below meth c Q hx hb hml hown hts hK hP hret ls hl
  have hown : s.vm.findClass RX0 = some m.cls := hown
  have hl : lv_has ls 2 [(0, .int (iI (r))), (1, .int (iI (k)))] := hl
  refine lv_iload_n hx hb dX0_cell_0 rfl (lv_at hl 0 rfl) ?_
  refine lv_iconst (v := iI 5) hx hb dX0_cell_1 rfl ?_
  refine w_imul (z := 5 * r) hx hb dX0_cell_2 (by omega) ?_
  refine lv_iload_n hx hb dX0_cell_3 rfl (lv_at hl 1 rfl) ?_
  refine w_iadd (z := 5 * r + k) hx hb dX0_cell_4 (by omega) ?_
  exact hret 5 ls _ (rfl) dX0_cell_5
set_option maxHeartbeats 4000000 in
set_option maxRecDepth 100000 in
theorem mX0_timeOf {j k : Nat} (hj : j < 7) (hk : k < 5) : PM l yX0_timeOf wsX0_timeOf (rmx 1 21) D (tyk cI cZ cJ) (xw ad cI cZ nn mm tT tB tE tL oO oR oQ zS zM zN oJ) [.ref (ad 0), .int (iI ((j : Int))), .int (iI ((k : Int)))] (vp_Si (fun x => x = iI (tT (5 * j + k)))) := by
  refine pmI_of (cc := cX0_timeOf) (maxL := 3) (by decide) rfl (Nat.le_of_ble_eq_true rfl) ?_
  intro p e s m args below meth c Q hx hb hml hown hts hK hP hret ls hl
  have hown : s.vm.findClass RX0 = some m.cls := hown
  have hl : lv_has ls 3 [(0, .ref (ad 0)), (1, .int (iI ((j : Int)))), (2, .int (iI ((k : Int))))] := hl
  have inW : ∀ w ∈ wsX00, w ∈ wsX0_timeOf := by first | exact (fun w h => List.mem_cons_of_mem _ (List.mem_append_right _ h)) | exact (fun w h => List.mem_cons_of_mem _ (List.mem_append_left _ (List.mem_append_right _ h))) | exact (fun w h => List.mem_cons_of_mem _ (List.mem_append_left _ (List.mem_append_left _ (List.mem_append_right _ h)))) | decide +kernel
  refine lv_iload_n hx hb dX0_timeOf_0 rfl (lv_at hl 1 rfl) ?_
  refine w_if_lt (tgt := 19) hx hb dX0_timeOf_1 (by decide) ⟨by omega, by omega⟩ (fun c1 => absurd c1 (by omega)) (fun c1 => ?_)
  refine lv_iload_n hx hb dX0_timeOf_4 rfl (lv_at hl 1 rfl) ?_
  refine lv_bipush (v := iI 7) hx hb dX0_timeOf_5 (by decide) ?_
  refine w_icmp_ge (tgt := 19) hx hb dX0_timeOf_7 (by decide) ⟨by omega, by omega⟩ ⟨by omega, by omega⟩ (fun c7 => absurd c7 (by omega)) (fun c7 => ?_)
  refine lv_iload_n hx hb dX0_timeOf_10 rfl (lv_at hl 2 rfl) ?_
  refine w_if_lt (tgt := 19) hx hb dX0_timeOf_11 (by decide) ⟨by omega, by omega⟩ (fun c11 => absurd c11 (by omega)) (fun c11 => ?_)
  refine lv_iload_n hx hb dX0_timeOf_14 rfl (lv_at hl 2 rfl) ?_
  refine lv_iconst (v := iI 5) hx hb dX0_timeOf_15 rfl ?_
  refine w_icmp_lt (tgt := 21) hx hb dX0_timeOf_16 (by decide) ⟨by omega, by omega⟩ ⟨by omega, by omega⟩ (fun c16 => ?_) (fun c16 => absurd c16 (by omega))
  refine lv_aload_n hx hb dX0_timeOf_21 rfl (lv_at hl 0 rfl) ?_
  refine va_get (D := D) (ci := 0) (C := RX0) (T := TX0) (N := 13) hx hb hts inW hown hK hP 0 rfl rfl 2 (by decide) (hts (.fieldLink RX0 16 "Flowforge" "times" "[I") (List.mem_of_getElem? (i := 1) rfl)) (fun _ h9 => h9) rfl dX0_timeOf_22 ?_
  refine lv_iload_n hx hb dX0_timeOf_25 rfl (lv_at hl 1 rfl) ?_
  refine lv_iload_n hx hb dX0_timeOf_26 rfl (lv_at hl 2 rfl) ?_
  refine w_pS (As := [.int (iI ((j : Int))), .int (iI ((k : Int)))]) (rest := [.ref (ad 1)]) ⟨hx, hb, hml, hown, hts⟩ hK hP (mX0_cell  ) (va_cwS 2 hts gX0_timeOf_X0_cell rfl rfl rfl (by decide +kernel) ⟨Nat.le_of_ble_eq_true rfl, Nat.le_of_ble_eq_true rfl⟩) rfl hl.1 rfl (Nat.le_of_ble_eq_true rfl) dX0_timeOf_27 ⟨Nat.zero_le _, Nat.zero_le _⟩ (fun r27 hr27 => ?_)
  refine w_top (v := iI (5 * (j : Int) + (k : Int))) (hr27.trans (congrArg iI (by omega))) ?_
  refine w_iald (v := iI (tT (5 * j + k))) hx hb hK hP 1 0 rfl rfl (5 * j + k) (by omega) (by omega) (by decide) rfl dX0_timeOf_30 ?_
  exact hret 31 ls _ (rfl) dX0_timeOf_31
set_option maxHeartbeats 4000000 in
set_option maxRecDepth 100000 in
theorem mX0_requireJob {x : Int} (hn : nn ≤ 7) (hm : mm ≤ 5) (h0 : 0 ≤ x) (h1 : x < (nn : Int)) : PM l yX0_requireJob wsX0_requireJob (rmx 0 0) D (tyk cI cZ cJ) (xw ad cI cZ nn mm tT tB tE tL oO oR oQ zS zM zN oJ) [.ref (ad 0), .int (iI (x))] (va_Sv (fun _ => True)) := by
  refine pmV_of (cc := cX0_requireJob) (maxL := 2) (by decide) rfl (Nat.le_of_ble_eq_true rfl) ?_
  intro p e s m args below meth c Q hx hb hml hown hts hK hP hret ls hl
  have hown : s.vm.findClass RX0 = some m.cls := hown
  have hl : lv_has ls 2 [(0, .ref (ad 0)), (1, .int (iI (x)))] := hl
  have inW : ∀ w ∈ wsX00, w ∈ wsX0_requireJob := by first | exact (fun w h => List.mem_cons_of_mem _ (List.mem_append_right _ h)) | exact (fun w h => List.mem_cons_of_mem _ (List.mem_append_left _ (List.mem_append_right _ h))) | exact (fun w h => List.mem_cons_of_mem _ (List.mem_append_left _ (List.mem_append_left _ (List.mem_append_right _ h)))) | decide +kernel
  refine lv_iload_n hx hb dX0_requireJob_0 rfl (lv_at hl 1 rfl) ?_
  refine w_if_lt (tgt := 12) hx hb dX0_requireJob_1 (by decide) ⟨by omega, by omega⟩ (fun c1 => absurd c1 (by omega)) (fun c1 => ?_)
  refine lv_iload_n hx hb dX0_requireJob_4 rfl (lv_at hl 1 rfl) ?_
  refine lv_aload_n hx hb dX0_requireJob_5 rfl (lv_at hl 0 rfl) ?_
  refine va_get (D := D) (ci := 0) (C := RX0) (T := TX0) (N := 13) hx hb hts inW hown hK hP 0 rfl rfl 0 (by decide) (hts (.fieldLink RX0 7 "Flowforge" "jobCount" "I") (List.mem_of_getElem? (i := 3) rfl)) (fun _ h9 => h9) rfl dX0_requireJob_6 ?_
  refine w_icmp_lt (tgt := 22) hx hb dX0_requireJob_9 (by decide) ⟨by omega, by omega⟩ ⟨by omega, by omega⟩ (fun c9 => ?_) (fun c9 => absurd c9 (by omega))
  exact hret 22 ls (trivial) dX0_requireJob_22
set_option maxHeartbeats 4000000 in
set_option maxRecDepth 100000 in
theorem mX0_requirePlace {x : Int} (hn : nn ≤ 7) (hm : mm ≤ 5) (h0 : 0 ≤ x) (h1 : x < (nn : Int)) : PM l yX0_requirePlace wsX0_requirePlace (rmx 0 0) D (tyk cI cZ cJ) (xw ad cI cZ nn mm tT tB tE tL oO oR oQ zS zM zN oJ) [.ref (ad 0), .int (iI (x))] (va_Sv (fun _ => True)) := by
  refine pmV_of (cc := cX0_requirePlace) (maxL := 2) (by decide) rfl (Nat.le_of_ble_eq_true rfl) ?_
  intro p e s m args below meth c Q hx hb hml hown hts hK hP hret ls hl
  have hown : s.vm.findClass RX0 = some m.cls := hown
  have hl : lv_has ls 2 [(0, .ref (ad 0)), (1, .int (iI (x)))] := hl
  have inW : ∀ w ∈ wsX00, w ∈ wsX0_requirePlace := by first | exact (fun w h => List.mem_cons_of_mem _ (List.mem_append_right _ h)) | exact (fun w h => List.mem_cons_of_mem _ (List.mem_append_left _ (List.mem_append_right _ h))) | exact (fun w h => List.mem_cons_of_mem _ (List.mem_append_left _ (List.mem_append_left _ (List.mem_append_right _ h)))) | decide +kernel
  refine lv_iload_n hx hb dX0_requirePlace_0 rfl (lv_at hl 1 rfl) ?_
  refine w_if_lt (tgt := 12) hx hb dX0_requirePlace_1 (by decide) ⟨by omega, by omega⟩ (fun c1 => absurd c1 (by omega)) (fun c1 => ?_)
  refine lv_iload_n hx hb dX0_requirePlace_4 rfl (lv_at hl 1 rfl) ?_
  refine lv_aload_n hx hb dX0_requirePlace_5 rfl (lv_at hl 0 rfl) ?_
  refine va_get (D := D) (ci := 0) (C := RX0) (T := TX0) (N := 13) hx hb hts inW hown hK hP 0 rfl rfl 0 (by decide) (hts (.fieldLink RX0 7 "Flowforge" "jobCount" "I") (List.mem_of_getElem? (i := 3) rfl)) (fun _ h9 => h9) rfl dX0_requirePlace_6 ?_
  refine w_icmp_lt (tgt := 22) hx hb dX0_requirePlace_9 (by decide) ⟨by omega, by omega⟩ ⟨by omega, by omega⟩ (fun c9 => ?_) (fun c9 => absurd c9 (by omega))
  exact hret 22 ls (trivial) dX0_requirePlace_22
set_option maxHeartbeats 4000000 in
set_option maxRecDepth 100000 in
theorem mX0_requireMachine {x : Int} (hn : nn ≤ 7) (hm : mm ≤ 5) (h0 : 0 ≤ x) (h1 : x < (mm : Int)) : PM l yX0_requireMachine wsX0_requireMachine (rmx 0 0) D (tyk cI cZ cJ) (xw ad cI cZ nn mm tT tB tE tL oO oR oQ zS zM zN oJ) [.ref (ad 0), .int (iI (x))] (va_Sv (fun _ => True)) := by
  refine pmV_of (cc := cX0_requireMachine) (maxL := 2) (by decide) rfl (Nat.le_of_ble_eq_true rfl) ?_
  intro p e s m args below meth c Q hx hb hml hown hts hK hP hret ls hl
  have hown : s.vm.findClass RX0 = some m.cls := hown
  have hl : lv_has ls 2 [(0, .ref (ad 0)), (1, .int (iI (x)))] := hl
  have inW : ∀ w ∈ wsX00, w ∈ wsX0_requireMachine := by first | exact (fun w h => List.mem_cons_of_mem _ (List.mem_append_right _ h)) | exact (fun w h => List.mem_cons_of_mem _ (List.mem_append_left _ (List.mem_append_right _ h))) | exact (fun w h => List.mem_cons_of_mem _ (List.mem_append_left _ (List.mem_append_left _ (List.mem_append_right _ h)))) | decide +kernel
  refine lv_iload_n hx hb dX0_requireMachine_0 rfl (lv_at hl 1 rfl) ?_
  refine w_if_lt (tgt := 12) hx hb dX0_requireMachine_1 (by decide) ⟨by omega, by omega⟩ (fun c1 => absurd c1 (by omega)) (fun c1 => ?_)
  refine lv_iload_n hx hb dX0_requireMachine_4 rfl (lv_at hl 1 rfl) ?_
  refine lv_aload_n hx hb dX0_requireMachine_5 rfl (lv_at hl 0 rfl) ?_
  refine va_get (D := D) (ci := 0) (C := RX0) (T := TX0) (N := 13) hx hb hts inW hown hK hP 0 rfl rfl 1 (by decide) (hts (.fieldLink RX0 13 "Flowforge" "machineCount" "I") (List.mem_of_getElem? (i := 3) rfl)) (fun _ h9 => h9) rfl dX0_requireMachine_6 ?_
  refine w_icmp_lt (tgt := 22) hx hb dX0_requireMachine_9 (by decide) ⟨by omega, by omega⟩ ⟨by omega, by omega⟩ (fun c9 => ?_) (fun c9 => absurd c9 (by omega))
  exact hret 22 ls (trivial) dX0_requireMachine_22
set_option maxHeartbeats 4000000 in
set_option maxRecDepth 100000 in
theorem mX0_requireVariant {x : Int} (h0 : 0 ≤ x) (h1 : x < 3) : PM l yX0_requireVariant wsX0_requireVariant (rmx 0 0) D (tyk cI cZ cJ) (ws) [.int (iI (x))] (va_Sv (fun _ => True)) := by
  refine pmV_of (cc := cX0_requireVariant) (maxL := 1) (by decide) rfl (Nat.le_of_ble_eq_true rfl) ?_
  intro p e s m args below meth c Q hx hb hml hown hts hK hP hret ls hl
  have hown : s.vm.findClass RX0 = some m.cls := hown
  have hl : lv_has ls 1 [(0, .int (iI (x)))] := hl
  refine lv_iload_n hx hb dX0_requireVariant_0 rfl (lv_at hl 0 rfl) ?_
  refine w_if_lt (tgt := 9) hx hb dX0_requireVariant_1 (by decide) ⟨by omega, by omega⟩ (fun c1 => absurd c1 (by omega)) (fun c1 => ?_)
  refine lv_iload_n hx hb dX0_requireVariant_4 rfl (lv_at hl 0 rfl) ?_
  refine lv_iconst (v := iI 3) hx hb dX0_requireVariant_5 rfl ?_
  refine w_icmp_lt (tgt := 19) hx hb dX0_requireVariant_6 (by decide) ⟨by omega, by omega⟩ ⟨by omega, by omega⟩ (fun c6 => ?_) (fun c6 => absurd c6 (by omega))
  exact hret 19 ls (trivial) dX0_requireVariant_19
set_option maxHeartbeats 4000000 in
set_option maxRecDepth 100000 in
theorem mX0_sumOf {j fr to : Nat} (hT : ∀ k, 0 ≤ tT k ∧ tT k ≤ 99) (hj : j < 7) (hft : fr ≤ to) (hto : to ≤ 5) : PM l yX0_sumOf wsX0_sumOf (rmx 2 43) D (tyk cI cZ cJ) (xw ad cI cZ nn mm tT tB tE tL oO oR oQ zS zM zN oJ) [.ref (ad 0), .int (iI ((j : Int))), .int (iI ((fr : Int))), .int (iI ((to : Int)))] (vp_Si (fun x => x = iI (smR tT j fr to))) := by
  refine pmI_of (cc := cX0_sumOf) (maxL := 6) (by decide) rfl (Nat.le_of_ble_eq_true rfl) ?_
  intro p e s m args below meth c Q hx hb hml hown hts hK hP hret ls hl
  have hown : s.vm.findClass RX0 = some m.cls := hown
  have hl : lv_has ls 6 [(0, .ref (ad 0)), (1, .int (iI ((j : Int)))), (2, .int (iI ((fr : Int)))), (3, .int (iI ((to : Int))))] := hl
  refine lv_iconst (v := iI 0) hx hb dX0_sumOf_0 rfl ?_
  refine lv_istore (lv' := [(4, .int (iI 0)), (0, .ref (ad 0)), (1, .int (iI ((j : Int)))), (2, .int (iI ((fr : Int)))), (3, .int (iI ((to : Int))))]) hx hb dX0_sumOf_1 hl (by decide) rfl (fun ls hl => ?_)
  refine lv_iload_n hx hb dX0_sumOf_3 rfl (lv_at hl 3 rfl) ?_
  refine lv_istore (lv' := [(5, .int (iI ((fr : Int)))), (4, .int (iI 0)), (0, .ref (ad 0)), (1, .int (iI ((j : Int)))), (2, .int (iI ((fr : Int)))), (3, .int (iI ((to : Int))))]) hx hb dX0_sumOf_4 hl (by decide) rfl (fun ls hl => ?_)
  have L6 : ∀ (fu : Nat) (i : Nat) (x5_6 : Int) (x4_6 : Int), (i ≤ to - fr) → (x5_6 = (fr : Int) + (i : Int)) → (x4_6 = (smC tT j fr i)) → to - fr - i < fu → ∀ ls : Array Slot, lv_has ls 6 [(5, .int (iI (x5_6))), (4, .int (iI (x4_6))), (0, .ref (ad 0)), (1, .int (iI ((j : Int)))), (2, .int (iI ((fr : Int)))), (3, .int (iI ((to : Int))))] → W p l e (rmx 2 43) s m args below meth c s.heap [] 0 0 Q (F0 m 6 ls []) := by
    intro fu
    induction fu with
    | zero =>
      intro i x5_6 x4_6 hi hq0 hq1 hfu
      exact absurd hfu (Nat.not_lt_zero _)
    | succ fu ih =>
      intro i x5_6 x4_6 hi hq0 hq1 hfu ls hl
      subst hq0
      subst hq1
      have ih6 := ih
      refine lv_iload hx hb dX0_sumOf_6 (lv_at hl 0 rfl) ?_
      refine lv_iload_n hx hb dX0_sumOf_8 rfl (lv_at hl 5 rfl) ?_
      refine w_icmp_ge (tgt := 30) hx hb dX0_sumOf_9 (by decide) ⟨by omega, by omega⟩ ⟨by omega, by omega⟩ (fun c9 => ?_) (fun c9 => ?_)
      · refine lv_iload hx hb dX0_sumOf_30 (lv_at hl 1 rfl) ?_
        exact hret 32 ls _ (by rw [show i = to - fr by omega]; rfl) dX0_sumOf_32
      · refine lv_iload hx hb dX0_sumOf_12 (lv_at hl 1 rfl) ?_
        refine lv_aload_n hx hb dX0_sumOf_14 rfl (lv_at hl 2 rfl) ?_
        refine lv_iload_n hx hb dX0_sumOf_15 rfl (lv_at hl 3 rfl) ?_
        refine lv_iload hx hb dX0_sumOf_16 (lv_at hl 0 rfl) ?_
        refine w_pV (As := [.int (iI ((j : Int))), .int (iI ((((fr + i) : Nat) : Int)))]) (rest := [.int (iI ((smC tT j fr i)))]) ⟨hx, hb, hml, hown, hts⟩ hK hP (mX0_timeOf (k := fr + i) hj (by omega)) (cwV 2 hts gX0_sumOf_X0_timeOf rfl rfl rfl (by decide +kernel) ⟨Nat.le_of_ble_eq_true rfl, Nat.le_of_ble_eq_true rfl⟩) (ci := 0) rfl rfl rfl rfl hl.1 (by rw [show (((fr : Int) + (i : Int)) : Int) = (((fr + i) : Nat) : Int) by omega]; try rfl) (Nat.le_of_ble_eq_true rfl) dX0_sumOf_18 ⟨Nat.zero_le _, Nat.zero_le _⟩ (fun r18 hr18 => ?_)
        refine w_top (v := iI ((tT (5 * j + (fr + i))))) (hr18) ?_
        refine w_iadd (z := (smC tT j fr i) + (tT (5 * j + (fr + i)))) hx hb dX0_sumOf_21 (by omega) ?_
        refine lv_istore (lv' := [(4, .int (iI ((smC tT j fr i) + (tT (5 * j + (fr + i)))))), (5, .int (iI ((fr : Int) + (i : Int)))), (0, .ref (ad 0)), (1, .int (iI ((j : Int)))), (2, .int (iI ((fr : Int)))), (3, .int (iI ((to : Int))))]) hx hb dX0_sumOf_22 hl (by decide) rfl (fun ls hl => ?_)
        refine lv_iinc (v := iI ((fr : Int) + (i : Int) + 1)) (lv' := [(5, .int (iI ((fr : Int) + (i : Int) + 1))), (4, .int (iI ((smC tT j fr i) + (tT (5 * j + (fr + i)))))), (0, .ref (ad 0)), (1, .int (iI ((j : Int)))), (2, .int (iI ((fr : Int)))), (3, .int (iI ((to : Int))))]) hx hb dX0_sumOf_24 hl (k := 1) rfl (iI_inc (by omega)) (by decide) rfl (fun ls hl => ?_)
        refine lv_goto (tgt := 6) hx hb dX0_sumOf_27 (by decide) ?_
        exact ih6 (i + 1) ((fr : Int) + (i : Int) + 1) ((smC tT j fr i) + (tT (5 * j + (fr + i)))) (by omega) (by omega) (rfl) (by omega) ls (lv_sub hl [0, 1, 2, 3, 4, 5] rfl)
  exact L6 (to - fr - 0 + 1) 0 ((fr : Int)) (0) (by omega) (by omega) (rfl) (Nat.lt_succ_self _) ls (lv_sub hl [0, 1, 2, 3, 4, 5] rfl)
set_option maxHeartbeats 4000000 in
set_option maxRecDepth 100000 in
theorem mX0_leastSum {fr to : Nat} (hT : ∀ k, 0 ≤ tT k ∧ tT k ≤ 99) (hn : nn ≤ 7) (hft : fr ≤ to) (hto : to ≤ 5) : PM l yX0_leastSum wsX0_leastSum (rmx 3 68) D (tyk cI cZ cJ) (xw ad cI cZ nn mm tT tB tE tL oO oR oQ zS zM zN oJ) [.ref (ad 0), .int (iI ((fr : Int))), .int (iI ((to : Int)))] (vp_Si (fun x => x = iI (lsX tT fr to (nn - 1)))) := by
  refine pmI_of (cc := cX0_leastSum) (maxL := 5) (by decide) rfl (Nat.le_of_ble_eq_true rfl) ?_
  intro p e s m args below meth c Q hx hb hml hown hts hK hP hret ls hl
  have hown : s.vm.findClass RX0 = some m.cls := hown
  have hl : lv_has ls 5 [(0, .ref (ad 0)), (1, .int (iI ((fr : Int)))), (2, .int (iI ((to : Int))))] := hl
  have inW : ∀ w ∈ wsX00, w ∈ wsX0_leastSum := by first | exact (fun w h => List.mem_cons_of_mem _ (List.mem_append_right _ h)) | exact (fun w h => List.mem_cons_of_mem _ (List.mem_append_left _ (List.mem_append_right _ h))) | exact (fun w h => List.mem_cons_of_mem _ (List.mem_append_left _ (List.mem_append_left _ (List.mem_append_right _ h)))) | decide +kernel
  refine lv_aload_n hx hb dX0_leastSum_0 rfl (lv_at hl 0 rfl) ?_
  refine lv_iconst (v := iI 0) hx hb dX0_leastSum_1 rfl ?_
  refine lv_iload_n hx hb dX0_leastSum_2 rfl (lv_at hl 1 rfl) ?_
  refine lv_iload_n hx hb dX0_leastSum_3 rfl (lv_at hl 2 rfl) ?_
  refine w_pV (As := [.int (iI 0), .int (iI ((fr : Int))), .int (iI ((to : Int)))]) (rest := []) ⟨hx, hb, hml, hown, hts⟩ hK hP (mX0_sumOf  (j := 0) hT (by omega) hft hto) (cwV 3 hts gX0_leastSum_X0_sumOf rfl rfl rfl (by decide +kernel) ⟨Nat.le_of_ble_eq_true rfl, Nat.le_of_ble_eq_true rfl⟩) (ci := 0) rfl rfl rfl rfl hl.1 rfl (Nat.le_of_ble_eq_true rfl) dX0_leastSum_4 ⟨Nat.zero_le _, Nat.zero_le _⟩ (fun r4 hr4 => ?_)
  refine w_top (v := iI ((smR tT 0 fr to))) (hr4) ?_
  refine lv_istore_n (lv' := [(3, .int (iI ((smR tT 0 fr to)))), (0, .ref (ad 0)), (1, .int (iI ((fr : Int)))), (2, .int (iI ((to : Int))))]) hx hb dX0_leastSum_7 rfl hl (by decide) rfl (fun ls hl => ?_)
  refine lv_iconst (v := iI 1) hx hb dX0_leastSum_8 rfl ?_
  refine lv_istore (lv' := [(4, .int (iI 1)), (3, .int (iI ((smR tT 0 fr to)))), (0, .ref (ad 0)), (1, .int (iI ((fr : Int)))), (2, .int (iI ((to : Int))))]) hx hb dX0_leastSum_9 hl (by decide) rfl (fun ls hl => ?_)
  have L11 : ∀ (fu : Nat) (i : Nat) (x4_11 : Int) (x3_11 : Int), (i + 1 ≤ nn ∨ i = 0) → (x4_11 = (i : Int) + 1) → (x3_11 = (lsX tT fr to i)) → nn - i < fu → ∀ ls : Array Slot, lv_has ls 5 [(4, .int (iI (x4_11))), (3, .int (iI (x3_11))), (0, .ref (ad 0)), (1, .int (iI ((fr : Int)))), (2, .int (iI ((to : Int))))] → W p l e (rmx 3 68) s m args below meth c s.heap [] 0 0 Q (F0 m 11 ls []) := by
    intro fu
    induction fu with
    | zero =>
      intro i x4_11 x3_11 hi hq0 hq1 hfu
      exact absurd hfu (Nat.not_lt_zero _)
    | succ fu ih =>
      intro i x4_11 x3_11 hi hq0 hq1 hfu ls hl
      subst hq0
      subst hq1
      have ih11 := ih
      have h9 := lsX_rg hT fr to i
      refine lv_iload hx hb dX0_leastSum_11 (lv_at hl 0 rfl) ?_
      refine lv_aload_n hx hb dX0_leastSum_13 rfl (lv_at hl 2 rfl) ?_
      refine va_get (D := D) (ci := 0) (C := RX0) (T := TX0) (N := 13) hx hb hts inW hown hK hP 0 rfl rfl 0 (by decide) (hts (.fieldLink RX0 7 "Flowforge" "jobCount" "I") (List.mem_of_getElem? (i := 1) rfl)) (fun _ h9 => h9) rfl dX0_leastSum_14 ?_
      refine w_icmp_ge (tgt := 39) hx hb dX0_leastSum_17 (by decide) ⟨by omega, by omega⟩ ⟨by omega, by omega⟩ (fun c17 => ?_) (fun c17 => ?_)
      · refine lv_iload_n hx hb dX0_leastSum_39 rfl (lv_at hl 1 rfl) ?_
        exact hret 40 ls _ (by rw [show i = nn - 1 by omega]) dX0_leastSum_40
      · refine lv_iload_n hx hb dX0_leastSum_20 rfl (lv_at hl 1 rfl) ?_
        refine lv_aload_n hx hb dX0_leastSum_21 rfl (lv_at hl 2 rfl) ?_
        refine lv_iload hx hb dX0_leastSum_22 (lv_at hl 0 rfl) ?_
        refine lv_iload_n hx hb dX0_leastSum_24 rfl (lv_at hl 3 rfl) ?_
        refine lv_iload_n hx hb dX0_leastSum_25 rfl (lv_at hl 4 rfl) ?_
        refine w_pV (As := [.int (iI ((((i + 1) : Nat) : Int))), .int (iI ((fr : Int))), .int (iI ((to : Int)))]) (rest := [.int (iI ((lsX tT fr to i)))]) ⟨hx, hb, hml, hown, hts⟩ hK hP (mX0_sumOf  (j := i + 1) hT (by omega) hft hto) (cwV 3 hts gX0_leastSum_X0_sumOf rfl rfl rfl (by decide +kernel) ⟨Nat.le_of_ble_eq_true rfl, Nat.le_of_ble_eq_true rfl⟩) (ci := 0) rfl rfl rfl rfl hl.1 (by rw [show (((i : Int) + 1) : Int) = (((i + 1) : Nat) : Int) by omega]; try rfl) (Nat.le_of_ble_eq_true rfl) dX0_leastSum_26 ⟨Nat.zero_le _, Nat.zero_le _⟩ (fun r26 hr26 => ?_)
        have h8 := smR_rg hT (i + 1) fr to
        refine w_top (v := iI ((smR tT (i + 1) fr to))) (hr26) ?_
        refine va_mmin hx hb (hml.trans hl.1.symm) hown (hts (.methodLink RX0 145 Lib.Math.min.name) (List.mem_of_getElem? (i := 2) rfl)) (hts (.static Lib.Math.min.name) (List.mem_of_getElem? (i := 3) rfl)) (hts (.initialized "java/lang/Math") (List.mem_of_getElem? (i := 4) rfl)) (hts (.code Lib.Math.min.name Lib.Math.min.code 2 (some .int)) (List.mem_of_getElem? (i := 5) rfl)) (Nat.le_of_ble_eq_true rfl) (Nat.le_of_ble_eq_true rfl) (Nat.zero_le _) (Nat.zero_le _) dX0_leastSum_29 ?_
        refine w_top (v := iI ((min ((lsX tT fr to i)) ((smR tT (i + 1) fr to))))) (iI_min ⟨by omega, by omega⟩ ⟨by omega, by omega⟩) ?_
        refine lv_istore_n (lv' := [(3, .int (iI ((min ((lsX tT fr to i)) ((smR tT (i + 1) fr to)))))), (4, .int (iI ((i : Int) + 1))), (0, .ref (ad 0)), (1, .int (iI ((fr : Int)))), (2, .int (iI ((to : Int))))]) hx hb dX0_leastSum_32 rfl hl (by decide) rfl (fun ls hl => ?_)
        refine lv_iinc (v := iI ((i : Int) + 2)) (lv' := [(4, .int (iI ((i : Int) + 2))), (3, .int (iI ((min ((lsX tT fr to i)) ((smR tT (i + 1) fr to)))))), (0, .ref (ad 0)), (1, .int (iI ((fr : Int)))), (2, .int (iI ((to : Int))))]) hx hb dX0_leastSum_33 hl (k := 1) rfl (iI_inc (by omega)) (by decide) rfl (fun ls hl => ?_)
        refine lv_goto (tgt := 11) hx hb dX0_leastSum_36 (by decide) ?_
        exact ih11 (i + 1) ((i : Int) + 2) ((min ((lsX tT fr to i)) ((smR tT (i + 1) fr to)))) (by omega) (by omega) (rfl) (by omega) ls (lv_sub hl [0, 1, 2, 3, 4] rfl)
  exact L11 (nn - 0 + 1) 0 (1) ((smR tT 0 fr to)) (by omega) (by omega) (rfl) (Nat.lt_succ_self _) ls (lv_sub hl [0, 1, 2, 3, 4] rfl)
set_option maxHeartbeats 4000000 in
set_option maxRecDepth 100000 in
theorem mX0_loadOf {k : Nat} (hT : ∀ k, 0 ≤ tT k ∧ tT k ≤ 99) (hn : nn ≤ 7) (hk : k < 5) : PM l yX0_loadOf wsX0_loadOf (rmx 2 43) D (tyk cI cZ cJ) (xw ad cI cZ nn mm tT tB tE tL oO oR oQ zS zM zN oJ) [.ref (ad 0), .int (iI ((k : Int)))] (vp_Si (fun x => x = iI (ldC tT k nn))) := by
  refine pmI_of (cc := cX0_loadOf) (maxL := 4) (by decide) rfl (Nat.le_of_ble_eq_true rfl) ?_
  intro p e s m args below meth c Q hx hb hml hown hts hK hP hret ls hl
  have hown : s.vm.findClass RX0 = some m.cls := hown
  have hl : lv_has ls 4 [(0, .ref (ad 0)), (1, .int (iI ((k : Int))))] := hl
  have inW : ∀ w ∈ wsX00, w ∈ wsX0_loadOf := by first | exact (fun w h => List.mem_cons_of_mem _ (List.mem_append_right _ h)) | exact (fun w h => List.mem_cons_of_mem _ (List.mem_append_left _ (List.mem_append_right _ h))) | exact (fun w h => List.mem_cons_of_mem _ (List.mem_append_left _ (List.mem_append_left _ (List.mem_append_right _ h)))) | decide +kernel
  refine lv_iconst (v := iI 0) hx hb dX0_loadOf_0 rfl ?_
  refine lv_istore_n (lv' := [(2, .int (iI 0)), (0, .ref (ad 0)), (1, .int (iI ((k : Int))))]) hx hb dX0_loadOf_1 rfl hl (by decide) rfl (fun ls hl => ?_)
  refine lv_iconst (v := iI 0) hx hb dX0_loadOf_2 rfl ?_
  refine lv_istore_n (lv' := [(3, .int (iI 0)), (2, .int (iI 0)), (0, .ref (ad 0)), (1, .int (iI ((k : Int))))]) hx hb dX0_loadOf_3 rfl hl (by decide) rfl (fun ls hl => ?_)
  have L4 : ∀ (fu : Nat) (i : Nat) (x3_4 : Int) (x2_4 : Int), (i ≤ nn) → (x3_4 = (i : Int)) → (x2_4 = (ldC tT k i)) → nn - i < fu → ∀ ls : Array Slot, lv_has ls 4 [(3, .int (iI (x3_4))), (2, .int (iI (x2_4))), (0, .ref (ad 0)), (1, .int (iI ((k : Int))))] → W p l e (rmx 2 43) s m args below meth c s.heap [] 0 0 Q (F0 m 4 ls []) := by
    intro fu
    induction fu with
    | zero =>
      intro i x3_4 x2_4 hi hq0 hq1 hfu
      exact absurd hfu (Nat.not_lt_zero _)
    | succ fu ih =>
      intro i x3_4 x2_4 hi hq0 hq1 hfu ls hl
      subst hq0
      subst hq1
      have ih4 := ih
      refine lv_iload_n hx hb dX0_loadOf_4 rfl (lv_at hl 0 rfl) ?_
      refine lv_aload_n hx hb dX0_loadOf_5 rfl (lv_at hl 2 rfl) ?_
      refine va_get (D := D) (ci := 0) (C := RX0) (T := TX0) (N := 13) hx hb hts inW hown hK hP 0 rfl rfl 0 (by decide) (hts (.fieldLink RX0 7 "Flowforge" "jobCount" "I") (List.mem_of_getElem? (i := 1) rfl)) (fun _ h9 => h9) rfl dX0_loadOf_6 ?_
      refine w_icmp_ge (tgt := 27) hx hb dX0_loadOf_9 (by decide) ⟨by omega, by omega⟩ ⟨by omega, by omega⟩ (fun c9 => ?_) (fun c9 => ?_)
      · refine lv_iload_n hx hb dX0_loadOf_27 rfl (lv_at hl 1 rfl) ?_
        exact hret 28 ls _ (by rw [show i = nn by omega]) dX0_loadOf_28
      · refine lv_iload_n hx hb dX0_loadOf_12 rfl (lv_at hl 1 rfl) ?_
        refine lv_aload_n hx hb dX0_loadOf_13 rfl (lv_at hl 2 rfl) ?_
        refine lv_iload_n hx hb dX0_loadOf_14 rfl (lv_at hl 0 rfl) ?_
        refine lv_iload_n hx hb dX0_loadOf_15 rfl (lv_at hl 3 rfl) ?_
        refine w_pV (As := [.int (iI ((i : Int))), .int (iI ((k : Int)))]) (rest := [.int (iI ((ldC tT k i)))]) ⟨hx, hb, hml, hown, hts⟩ hK hP (mX0_timeOf  (by omega) hk) (cwV 2 hts gX0_loadOf_X0_timeOf rfl rfl rfl (by decide +kernel) ⟨Nat.le_of_ble_eq_true rfl, Nat.le_of_ble_eq_true rfl⟩) (ci := 0) rfl rfl rfl rfl hl.1 rfl (Nat.le_of_ble_eq_true rfl) dX0_loadOf_16 ⟨Nat.zero_le _, Nat.zero_le _⟩ (fun r16 hr16 => ?_)
        refine w_top (v := iI ((tT (5 * i + k)))) (hr16) ?_
        refine w_iadd (z := (ldC tT k i) + (tT (5 * i + k))) hx hb dX0_loadOf_19 (by omega) ?_
        refine lv_istore_n (lv' := [(2, .int (iI ((ldC tT k i) + (tT (5 * i + k))))), (3, .int (iI ((i : Int)))), (0, .ref (ad 0)), (1, .int (iI ((k : Int))))]) hx hb dX0_loadOf_20 rfl hl (by decide) rfl (fun ls hl => ?_)
        refine lv_iinc (v := iI ((i : Int) + 1)) (lv' := [(3, .int (iI ((i : Int) + 1))), (2, .int (iI ((ldC tT k i) + (tT (5 * i + k))))), (0, .ref (ad 0)), (1, .int (iI ((k : Int))))]) hx hb dX0_loadOf_21 hl (k := 1) rfl (iI_inc (by omega)) (by decide) rfl (fun ls hl => ?_)
        refine lv_goto (tgt := 4) hx hb dX0_loadOf_24 (by decide) ?_
        exact ih4 (i + 1) ((i : Int) + 1) ((ldC tT k i) + (tT (5 * i + k))) (by omega) (by omega) (rfl) (by omega) ls (lv_sub hl [0, 1, 2, 3] rfl)
  exact L4 (nn - 0 + 1) 0 (0) (0) (by omega) (by omega) (rfl) (Nat.lt_succ_self _) ls (lv_sub hl [0, 1, 2, 3] rfl)
set_option maxHeartbeats 4000000 in
set_option maxRecDepth 100000 in
theorem mX0_placeOf {j q : Nat} (hn : nn ≤ 7) (hq : q < nn) (hj : j = oO q) (hw : ∀ k, k < q → oO k ≠ j) (hO : ∀ k, k < nn → oO k < 7) : PM l yX0_placeOf wsX0_placeOf (rmx 0 0) D (tyk cI cZ cJ) (xw ad cI cZ nn mm tT tB tE tL oO oR oQ zS zM zN oJ) [.ref (ad 0), .int (iI ((j : Int)))] (vp_Si (fun x => x = iI (q : Int))) := by
  refine pmI_of (cc := cX0_placeOf) (maxL := 3) (by decide) rfl (Nat.le_of_ble_eq_true rfl) ?_
  intro p e s m args below meth c Q hx hb hml hown hts hK hP hret ls hl
  have hown : s.vm.findClass RX0 = some m.cls := hown
  have hl : lv_has ls 3 [(0, .ref (ad 0)), (1, .int (iI ((j : Int))))] := hl
  have inW : ∀ w ∈ wsX00, w ∈ wsX0_placeOf := by first | exact (fun w h => List.mem_cons_of_mem _ (List.mem_append_right _ h)) | exact (fun w h => List.mem_cons_of_mem _ (List.mem_append_left _ (List.mem_append_right _ h))) | exact (fun w h => List.mem_cons_of_mem _ (List.mem_append_left _ (List.mem_append_left _ (List.mem_append_right _ h)))) | decide +kernel
  refine lv_iconst (v := iI 0) hx hb dX0_placeOf_0 rfl ?_
  refine lv_istore_n (lv' := [(2, .int (iI 0)), (0, .ref (ad 0)), (1, .int (iI ((j : Int))))]) hx hb dX0_placeOf_1 rfl hl (by decide) rfl (fun ls hl => ?_)
  have L2 : ∀ (fu : Nat) (i : Nat) (x2_2 : Int), (i ≤ q) → (x2_2 = (i : Int)) → q - i < fu → ∀ ls : Array Slot, lv_has ls 3 [(2, .int (iI (x2_2))), (0, .ref (ad 0)), (1, .int (iI ((j : Int))))] → W p l e (rmx 0 0) s m args below meth c s.heap [] 0 0 Q (F0 m 2 ls []) := by
    intro fu
    induction fu with
    | zero =>
      intro i x2_2 hi hq0 hfu
      exact absurd hfu (Nat.not_lt_zero _)
    | succ fu ih =>
      intro i x2_2 hi hq0 hfu ls hl
      subst hq0
      have ih2 := ih
      refine lv_iload_n hx hb dX0_placeOf_2 rfl (lv_at hl 0 rfl) ?_
      refine lv_aload_n hx hb dX0_placeOf_3 rfl (lv_at hl 1 rfl) ?_
      refine va_get (D := D) (ci := 0) (C := RX0) (T := TX0) (N := 13) hx hb hts inW hown hK hP 0 rfl rfl 0 (by decide) (hts (.fieldLink RX0 7 "Flowforge" "jobCount" "I") (List.mem_of_getElem? (i := 1) rfl)) (fun _ h9 => h9) rfl dX0_placeOf_4 ?_
      refine lv_iconst (v := iI 1) hx hb dX0_placeOf_7 rfl ?_
      refine w_isub (z := (nn : Int) - 1) hx hb dX0_placeOf_8 (by omega) ?_
      refine w_icmp_ge (tgt := 28) hx hb dX0_placeOf_9 (by decide) ⟨by omega, by omega⟩ ⟨by omega, by omega⟩ (fun c9 => ?_) (fun c9 => ?_)
      · have hiq : i = q := by omega
        refine lv_iload_n hx hb dX0_placeOf_28 rfl (lv_at hl 0 rfl) ?_
        exact hret 29 ls _ (by rw [hiq]) dX0_placeOf_29
      · have h8 := hO i (by omega)
        have h7 := hO q hq
        refine lv_aload_n hx hb dX0_placeOf_12 rfl (lv_at hl 1 rfl) ?_
        refine va_get (D := D) (ci := 0) (C := RX0) (T := TX0) (N := 13) hx hb hts inW hown hK hP 0 rfl rfl 6 (by decide) (hts (.fieldLink RX0 29 "Flowforge" "order" "[I") (List.mem_of_getElem? (i := 2) rfl)) (fun _ h9 => h9) rfl dX0_placeOf_13 ?_
        refine lv_iload_n hx hb dX0_placeOf_16 rfl (lv_at hl 0 rfl) ?_
        refine w_iald (v := iI ((oO i : Nat) : Int)) hx hb hK hP 5 0 rfl rfl (i) (by omega) (by omega) (by decide) rfl dX0_placeOf_17 ?_
        refine lv_iload_n hx hb dX0_placeOf_18 rfl (lv_at hl 2 rfl) ?_
        refine w_icmp_eq (tgt := 28) hx hb dX0_placeOf_19 (by decide) ⟨by omega, by omega⟩ ⟨by omega, by omega⟩ (fun c19 => ?_) (fun c19 => ?_)
        · have hiq : i = q := (Nat.lt_or_ge i q).elim (fun h => absurd (show oO i = j by omega) (hw i h)) (fun h => by omega)
          refine lv_iload_n hx hb dX0_placeOf_28 rfl (lv_at hl 0 rfl) ?_
          exact hret 29 ls _ (by rw [hiq]) dX0_placeOf_29
        · have hne : i ≠ q := fun h => c19 (by rw [h, hj])
          refine lv_iinc (v := iI ((i : Int) + 1)) (lv' := [(2, .int (iI ((i : Int) + 1))), (0, .ref (ad 0)), (1, .int (iI ((j : Int))))]) hx hb dX0_placeOf_22 hl (k := 0) rfl (iI_inc (by omega)) (by decide) rfl (fun ls hl => ?_)
          refine lv_goto (tgt := 2) hx hb dX0_placeOf_25 (by decide) ?_
          exact ih2 (i + 1) ((i : Int) + 1) (by omega) (by omega) (by omega) ls (lv_sub hl [0, 1, 2] rfl)
  exact L2 (q - 0 + 1) 0 (0) (by omega) (by omega) (Nat.lt_succ_self _) ls (lv_sub hl [0, 1, 2] rfl)
set_option maxHeartbeats 4000000 in
set_option maxRecDepth 100000 in
theorem mX0_shift {a b : Nat} (ha : a < 7) (hb7 : b < 7) : IM l yX0_shift wsX0_shift (rmx 0 0) D (tyk cI cZ cJ) ([(a0, .inl (cI, 7, .inl (jI fF)))]) [.ref (a0), .int (iI ((a : Int))), .int (iI ((b : Int)))] (QV D (tyk cI cZ cJ) (fun u : Unit => [(a0, .inl (cI, 7, .inl (jI (shf fF a b))))]) (fun _ => True)) := by
  refine imV_of (cc := cX0_shift) (maxL := 5) (by decide) rfl (Nat.le_of_ble_eq_true rfl) ?_
  intro p e s m args below meth c A Q hx hb hml hown hts hA hK hP hD hS hret ls hl
  have hown : s.vm.findClass RX0 = some m.cls := hown
  have hl : lv_has ls 5 [(0, .ref (a0)), (1, .int (iI ((a : Int)))), (2, .int (iI ((b : Int))))] := hl
  refine lv_aload_n hx hb dX0_shift_0 rfl (lv_at hl 0 rfl) ?_
  refine lv_iload_n hx hb dX0_shift_1 rfl (lv_at hl 1 rfl) ?_
  refine w_iald (v := iI ((fF a : Nat) : Int)) hx hb hK hP 0 0 rfl rfl (a) (by omega) (by omega) (by decide) rfl dX0_shift_2 ?_
  refine lv_istore_n (lv' := [(3, .int (iI (((fF a : Nat) : Int)))), (0, .ref (a0)), (1, .int (iI ((a : Int)))), (2, .int (iI ((b : Int))))]) hx hb dX0_shift_3 rfl hl (by decide) rfl (fun ls hl => ?_)
  refine lv_iload_n hx hb dX0_shift_4 rfl (lv_at hl 2 rfl) ?_
  refine lv_istore (lv' := [(4, .int (iI ((a : Int)))), (3, .int (iI (((fF a : Nat) : Int)))), (0, .ref (a0)), (1, .int (iI ((a : Int)))), (2, .int (iI ((b : Int))))]) hx hb dX0_shift_5 hl (by decide) rfl (fun ls hl => ?_)
  have L7 : ∀ (fu : Nat) (i : Nat) (wlist7 : Nat → Nat) (x4_7 : Int), (i ≤ b - a) → (wlist7 = sh1 fF a i) → (x4_7 = (a : Int) + (i : Int)) → b - a - i < fu → ∀ (H : Heap) (locs : List Loc), va_P D vwCl ([(a0, .inl (cI, 7, .inl (jI wlist7)))]) H → va_D A ([(a0, .inl (cI, 7, .inl (jI wlist7)))]) → va_S A s.heap H locs → ∀ ls : Array Slot, lv_has ls 5 [(4, .int (iI (x4_7))), (3, .int (iI (((fF a : Nat) : Int)))), (0, .ref (a0)), (1, .int (iI ((a : Int)))), (2, .int (iI ((b : Int))))] → W p l e (rmx 0 0) s m args below meth c H locs 0 0 Q (F0 m 7 ls []) := by
    intro fu
    induction fu with
    | zero =>
      intro i wlist7 x4_7 hi hq0 hq1 hfu
      exact absurd hfu (Nat.not_lt_zero _)
    | succ fu ih =>
      intro i wlist7 x4_7 hi hq0 hq1 hfu H locs hP hD hS ls hl
      subst hq0
      subst hq1
      have ih7 := ih
      refine lv_iload hx hb dX0_shift_7 (lv_at hl 0 rfl) ?_
      refine lv_iload_n hx hb dX0_shift_9 rfl (lv_at hl 4 rfl) ?_
      refine w_icmp_ge (tgt := 29) hx hb dX0_shift_10 (by decide) ⟨by omega, by omega⟩ ⟨by omega, by omega⟩ (fun c10 => ?_) (fun c10 => ?_)
      · obtain rfl : i = b - a := by omega
        refine lv_iload_n hx hb dX0_shift_29 rfl (lv_at hl 3 rfl) ?_
        refine lv_istore (lv' := [(4, .int (iI ((a : Int)))), (3, .int (iI (((fF a : Nat) : Int)))), (0, .ref (a0)), (1, .int (iI ((a : Int)))), (2, .int (iI ((b : Int))))]) hx hb dX0_shift_30 hl (by decide) rfl (fun ls hl => ?_)
        have L32 : ∀ (fu : Nat) (z : Nat) (wlist32 : Nat → Nat) (x4_32 : Int), (z ≤ a - b) → (wlist32 = sh2 (sh1 fF a (b - a)) a z) → (x4_32 = (a : Int) - (z : Int)) → a - b - z < fu → ∀ (H : Heap) (locs : List Loc), va_P D vwCl ([(a0, .inl (cI, 7, .inl (jI wlist32)))]) H → va_D A ([(a0, .inl (cI, 7, .inl (jI wlist32)))]) → va_S A s.heap H locs → ∀ ls : Array Slot, lv_has ls 5 [(4, .int (iI (x4_32))), (3, .int (iI (((fF a : Nat) : Int)))), (0, .ref (a0)), (1, .int (iI ((a : Int)))), (2, .int (iI ((b : Int))))] → W p l e (rmx 0 0) s m args below meth c H locs 0 0 Q (F0 m 32 ls []) := by
          intro fu
          induction fu with
          | zero =>
            intro z wlist32 x4_32 hz hq0 hq1 hfu
            exact absurd hfu (Nat.not_lt_zero _)
          | succ fu ih =>
            intro z wlist32 x4_32 hz hq0 hq1 hfu H locs hP hD hS ls hl
            subst hq0
            subst hq1
            have ih32 := ih
            refine lv_iload hx hb dX0_shift_32 (lv_at hl 0 rfl) ?_
            refine lv_iload_n hx hb dX0_shift_34 rfl (lv_at hl 4 rfl) ?_
            refine w_icmp_le (tgt := 54) hx hb dX0_shift_35 (by decide) ⟨by omega, by omega⟩ ⟨by omega, by omega⟩ (fun c35 => ?_) (fun c35 => ?_)
            · obtain rfl : z = a - b := by omega
              refine lv_aload_n hx hb dX0_shift_54 rfl (lv_at hl 2 rfl) ?_
              refine lv_iload_n hx hb dX0_shift_55 rfl (lv_at hl 4 rfl) ?_
              refine lv_iload_n hx hb dX0_shift_56 rfl (lv_at hl 1 rfl) ?_
              refine w_iast (g := jI (va_up (sh2 (sh1 fF a (b - a)) a (a - b)) b ((fF a)))) (ws' := [(a0, .inl (cI, 7, .inl (jI (va_up (sh2 (sh1 fF a (b - a)) a (a - b)) b ((fF a))))))]) hx hb hK hP hD hS 0 0 rfl rfl (b) (by omega) (by omega) (by decide) (hg := jI_up) (hw := rfl) (hd := dX0_shift_57) (kk := fun H locs hP hD hS => ?_)
              exact hret _ _ 58 ls (()) hP hD hS (trivial) dX0_shift_58
            · refine lv_aload_n hx hb dX0_shift_38 rfl (lv_at hl 2 rfl) ?_
              refine lv_iload hx hb dX0_shift_39 (lv_at hl 0 rfl) ?_
              refine lv_aload_n hx hb dX0_shift_41 rfl (lv_at hl 2 rfl) ?_
              refine lv_iload hx hb dX0_shift_42 (lv_at hl 0 rfl) ?_
              refine lv_iconst (v := iI 1) hx hb dX0_shift_44 rfl ?_
              refine w_isub (z := (a : Int) - (z : Int) - 1) hx hb dX0_shift_45 (by omega) ?_
              refine w_iald (v := iI ((sh1 fF a (b - a) (a - z - 1) : Nat) : Int)) hx hb hK hP 0 0 rfl rfl (a - z - 1) (by omega) (by omega) (by decide) (congrArg (fun q : Nat => iI (q : Int)) (sh2_at (by omega))) dX0_shift_46 ?_
              refine w_iast (g := jI (va_up (sh2 (sh1 fF a (b - a)) a z) (a - z) ((sh1 fF a (b - a) (a - z - 1))))) (ws' := [(a0, .inl (cI, 7, .inl (jI (va_up (sh2 (sh1 fF a (b - a)) a z) (a - z) ((sh1 fF a (b - a) (a - z - 1)))))))]) hx hb hK hP hD hS 0 0 rfl rfl (a - z) (by omega) (by omega) (by decide) (hg := jI_up) (hw := rfl) (hd := dX0_shift_47) (kk := fun H locs hP hD hS => ?_)
              refine lv_iinc (v := iI ((a : Int) - (z : Int) - 1)) (lv' := [(4, .int (iI ((a : Int) - (z : Int) - 1))), (3, .int (iI (((fF a : Nat) : Int)))), (0, .ref (a0)), (1, .int (iI ((a : Int)))), (2, .int (iI ((b : Int))))]) hx hb dX0_shift_48 hl (k := 0) rfl (iI_inc (by omega)) (by decide) rfl (fun ls hl => ?_)
              refine lv_goto (tgt := 32) hx hb dX0_shift_51 (by decide) ?_
              exact ih32 (z + 1) (va_up (sh2 (sh1 fF a (b - a)) a z) (a - z) ((sh1 fF a (b - a) (a - z - 1)))) ((a : Int) - (z : Int) - 1) (by omega) (sh2_s (by omega)) (by omega) (by omega) _ _ hP hD hS ls (lv_sub hl [0, 1, 2, 3, 4] rfl)
        exact L32 (a - b - 0 + 1) 0 (sh1 fF a (b - a)) ((a : Int)) (by omega) ((sh2_0 _ _).symm) (by omega) (Nat.lt_succ_self _) _ _ hP hD hS ls (lv_sub hl [0, 1, 2, 3, 4] rfl)
      · refine lv_aload_n hx hb dX0_shift_13 rfl (lv_at hl 2 rfl) ?_
        refine lv_iload hx hb dX0_shift_14 (lv_at hl 0 rfl) ?_
        refine lv_aload_n hx hb dX0_shift_16 rfl (lv_at hl 2 rfl) ?_
        refine lv_iload hx hb dX0_shift_17 (lv_at hl 0 rfl) ?_
        refine lv_iconst (v := iI 1) hx hb dX0_shift_19 rfl ?_
        refine w_iadd (z := (a : Int) + (i : Int) + 1) hx hb dX0_shift_20 (by omega) ?_
        refine w_iald (v := iI ((fF (a + i + 1) : Nat) : Int)) hx hb hK hP 0 0 rfl rfl (a + i + 1) (by omega) (by omega) (by decide) (congrArg (fun q : Nat => iI (q : Int)) (sh1_at (by omega))) dX0_shift_21 ?_
        refine w_iast (g := jI (va_up (sh1 fF a i) (a + i) ((fF (a + i + 1))))) (ws' := [(a0, .inl (cI, 7, .inl (jI (va_up (sh1 fF a i) (a + i) ((fF (a + i + 1)))))))]) hx hb hK hP hD hS 0 0 rfl rfl (a + i) (by omega) (by omega) (by decide) (hg := jI_up) (hw := rfl) (hd := dX0_shift_22) (kk := fun H locs hP hD hS => ?_)
        refine lv_iinc (v := iI ((a : Int) + (i : Int) + 1)) (lv' := [(4, .int (iI ((a : Int) + (i : Int) + 1))), (3, .int (iI (((fF a : Nat) : Int)))), (0, .ref (a0)), (1, .int (iI ((a : Int)))), (2, .int (iI ((b : Int))))]) hx hb dX0_shift_23 hl (k := 0) rfl (iI_inc (by omega)) (by decide) rfl (fun ls hl => ?_)
        refine lv_goto (tgt := 7) hx hb dX0_shift_26 (by decide) ?_
        exact ih7 (i + 1) (va_up (sh1 fF a i) (a + i) ((fF (a + i + 1)))) ((a : Int) + (i : Int) + 1) (by omega) (sh1_s) (by omega) (by omega) _ _ hP hD hS ls (lv_sub hl [0, 1, 2, 3, 4] rfl)
  exact L7 (b - a - 0 + 1) 0 fF ((a : Int)) (by omega) ((sh1_0 _ _).symm) (by omega) (Nat.lt_succ_self _) _ _ hP hD hS ls (lv_sub hl [0, 1, 2, 3, 4] rfl)
set_option maxHeartbeats 4000000 in
set_option maxRecDepth 100000 in
theorem mX0_freeFrom {v q k : Nat} (hm : 1 ≤ mm ∧ mm ≤ 5) (hv : v ≤ 2) (hp : q < 7) (hk : k < mm) : PM l yX0_freeFrom wsX0_freeFrom (rmx 1 21) D (tyk cI cZ cJ) (xw ad cI cZ nn mm tT tB tE tL oO oR oQ zS zM zN oJ) [.ref (ad 0), .int (iI ((v : Int))), .int (iI ((q : Int))), .int (iI ((k : Int)))] (vp_Si (fun x => x = iI (frm v mm (prv tB q) (prv tE q) k))) := by
  refine pmI_of (cc := cX0_freeFrom) (maxL := 4) (by decide) rfl (Nat.le_of_ble_eq_true rfl) ?_
  intro p e s m args below meth c Q hx hb hml hown hts hK hP hret ls hl
  have hown : s.vm.findClass RX0 = some m.cls := hown
  have hl : lv_has ls 4 [(0, .ref (ad 0)), (1, .int (iI ((v : Int)))), (2, .int (iI ((q : Int)))), (3, .int (iI ((k : Int))))] := hl
  have inW : ∀ w ∈ wsX00, w ∈ wsX0_freeFrom := by first | exact (fun w h => List.mem_cons_of_mem _ (List.mem_append_right _ h)) | exact (fun w h => List.mem_cons_of_mem _ (List.mem_append_left _ (List.mem_append_right _ h))) | exact (fun w h => List.mem_cons_of_mem _ (List.mem_append_left _ (List.mem_append_left _ (List.mem_append_right _ h)))) | decide +kernel
  refine lv_iload_n hx hb dX0_freeFrom_0 rfl (lv_at hl 2 rfl) ?_
  refine lv_iconst (v := iI 1) hx hb dX0_freeFrom_1 rfl ?_
  refine w_icmp_ge (tgt := 7) hx hb dX0_freeFrom_2 (by decide) ⟨by omega, by omega⟩ ⟨by omega, by omega⟩ (fun c2 => ?_) (fun c2 => ?_)
  · refine lv_iload_n hx hb dX0_freeFrom_7 rfl (lv_at hl 1 rfl) ?_
    refine lv_iconst (v := iI 1) hx hb dX0_freeFrom_8 rfl ?_
    refine w_icmp_ne (tgt := 37) hx hb dX0_freeFrom_9 (by decide) ⟨by omega, by omega⟩ ⟨by omega, by omega⟩ (fun c9 => ?_) (fun c9 => ?_)
    · refine lv_aload_n hx hb dX0_freeFrom_37 rfl (lv_at hl 0 rfl) ?_
      refine va_get (D := D) (ci := 0) (C := RX0) (T := TX0) (N := 13) hx hb hts inW hown hK hP 0 rfl rfl 4 (by decide) (hts (.fieldLink RX0 23 "Flowforge" "ends" "[I") (List.mem_of_getElem? (i := 3) rfl)) (fun _ h9 => h9) rfl dX0_freeFrom_38 ?_
      refine lv_iload_n hx hb dX0_freeFrom_41 rfl (lv_at hl 2 rfl) ?_
      refine lv_iconst (v := iI 1) hx hb dX0_freeFrom_42 rfl ?_
      refine w_isub (z := (q : Int) - 1) hx hb dX0_freeFrom_43 (by omega) ?_
      refine lv_iload_n hx hb dX0_freeFrom_44 rfl (lv_at hl 3 rfl) ?_
      refine w_pS (As := [.int (iI ((q : Int) - 1)), .int (iI ((k : Int)))]) (rest := [.ref (ad 3)]) ⟨hx, hb, hml, hown, hts⟩ hK hP (mX0_cell  ) (va_cwS 2 hts gX0_freeFrom_X0_cell rfl rfl rfl (by decide +kernel) ⟨Nat.le_of_ble_eq_true rfl, Nat.le_of_ble_eq_true rfl⟩) rfl hl.1 rfl (Nat.le_of_ble_eq_true rfl) dX0_freeFrom_45 ⟨Nat.zero_le _, Nat.zero_le _⟩ (fun r45 hr45 => ?_)
      refine w_top (v := iI (5 * (q : Int) + (k : Int) - 5)) (hr45.trans (congrArg iI (by omega))) ?_
      refine w_iald (v := iI (tE (5 * (q - 1) + k))) hx hb hK hP 3 0 rfl rfl (5 * (q - 1) + k) (by omega) (by omega) (by decide) rfl dX0_freeFrom_48 ?_
      exact hret 49 ls _ (by unfold frm prv; rw [if_neg (by omega), if_neg (by omega)]) dX0_freeFrom_49
    · refine lv_iload_n hx hb dX0_freeFrom_12 rfl (lv_at hl 3 rfl) ?_
      refine lv_aload_n hx hb dX0_freeFrom_13 rfl (lv_at hl 0 rfl) ?_
      refine va_get (D := D) (ci := 0) (C := RX0) (T := TX0) (N := 13) hx hb hts inW hown hK hP 0 rfl rfl 1 (by decide) (hts (.fieldLink RX0 13 "Flowforge" "machineCount" "I") (List.mem_of_getElem? (i := 1) rfl)) (fun _ h9 => h9) rfl dX0_freeFrom_14 ?_
      refine lv_iconst (v := iI 1) hx hb dX0_freeFrom_17 rfl ?_
      refine w_isub (z := (mm : Int) - 1) hx hb dX0_freeFrom_18 (by omega) ?_
      refine w_icmp_ge (tgt := 37) hx hb dX0_freeFrom_19 (by decide) ⟨by omega, by omega⟩ ⟨by omega, by omega⟩ (fun c19 => ?_) (fun c19 => ?_)
      · refine lv_aload_n hx hb dX0_freeFrom_37 rfl (lv_at hl 0 rfl) ?_
        refine va_get (D := D) (ci := 0) (C := RX0) (T := TX0) (N := 13) hx hb hts inW hown hK hP 0 rfl rfl 4 (by decide) (hts (.fieldLink RX0 23 "Flowforge" "ends" "[I") (List.mem_of_getElem? (i := 3) rfl)) (fun _ h9 => h9) rfl dX0_freeFrom_38 ?_
        refine lv_iload_n hx hb dX0_freeFrom_41 rfl (lv_at hl 2 rfl) ?_
        refine lv_iconst (v := iI 1) hx hb dX0_freeFrom_42 rfl ?_
        refine w_isub (z := (q : Int) - 1) hx hb dX0_freeFrom_43 (by omega) ?_
        refine lv_iload_n hx hb dX0_freeFrom_44 rfl (lv_at hl 3 rfl) ?_
        refine w_pS (As := [.int (iI ((q : Int) - 1)), .int (iI ((k : Int)))]) (rest := [.ref (ad 3)]) ⟨hx, hb, hml, hown, hts⟩ hK hP (mX0_cell  ) (va_cwS 2 hts gX0_freeFrom_X0_cell rfl rfl rfl (by decide +kernel) ⟨Nat.le_of_ble_eq_true rfl, Nat.le_of_ble_eq_true rfl⟩) rfl hl.1 rfl (Nat.le_of_ble_eq_true rfl) dX0_freeFrom_45 ⟨Nat.zero_le _, Nat.zero_le _⟩ (fun r45 hr45 => ?_)
        refine w_top (v := iI (5 * (q : Int) + (k : Int) - 5)) (hr45.trans (congrArg iI (by omega))) ?_
        refine w_iald (v := iI (tE (5 * (q - 1) + k))) hx hb hK hP 3 0 rfl rfl (5 * (q - 1) + k) (by omega) (by omega) (by decide) rfl dX0_freeFrom_48 ?_
        exact hret 49 ls _ (by unfold frm prv; rw [if_neg (by omega), if_neg (by omega)]) dX0_freeFrom_49
      · refine lv_aload_n hx hb dX0_freeFrom_22 rfl (lv_at hl 0 rfl) ?_
        refine va_get (D := D) (ci := 0) (C := RX0) (T := TX0) (N := 13) hx hb hts inW hown hK hP 0 rfl rfl 3 (by decide) (hts (.fieldLink RX0 20 "Flowforge" "begins" "[I") (List.mem_of_getElem? (i := 2) rfl)) (fun _ h9 => h9) rfl dX0_freeFrom_23 ?_
        refine lv_iload_n hx hb dX0_freeFrom_26 rfl (lv_at hl 2 rfl) ?_
        refine lv_iconst (v := iI 1) hx hb dX0_freeFrom_27 rfl ?_
        refine w_isub (z := (q : Int) - 1) hx hb dX0_freeFrom_28 (by omega) ?_
        refine lv_iload_n hx hb dX0_freeFrom_29 rfl (lv_at hl 3 rfl) ?_
        refine lv_iconst (v := iI 1) hx hb dX0_freeFrom_30 rfl ?_
        refine w_iadd (z := (k : Int) + 1) hx hb dX0_freeFrom_31 (by omega) ?_
        refine w_pS (As := [.int (iI ((q : Int) - 1)), .int (iI ((k : Int) + 1))]) (rest := [.ref (ad 2)]) ⟨hx, hb, hml, hown, hts⟩ hK hP (mX0_cell  ) (va_cwS 2 hts gX0_freeFrom_X0_cell rfl rfl rfl (by decide +kernel) ⟨Nat.le_of_ble_eq_true rfl, Nat.le_of_ble_eq_true rfl⟩) rfl hl.1 rfl (Nat.le_of_ble_eq_true rfl) dX0_freeFrom_32 ⟨Nat.zero_le _, Nat.zero_le _⟩ (fun r32 hr32 => ?_)
        refine w_top (v := iI (5 * (q : Int) + (k : Int) - 4)) (hr32.trans (congrArg iI (by omega))) ?_
        refine w_iald (v := iI (tB (5 * (q - 1) + (k + 1)))) hx hb hK hP 2 0 rfl rfl (5 * (q - 1) + (k + 1)) (by omega) (by omega) (by decide) rfl dX0_freeFrom_35 ?_
        exact hret 36 ls _ (by unfold frm prv; rw [if_pos ⟨by omega, by omega⟩, if_neg (by omega)]) dX0_freeFrom_36
  · refine lv_iconst (v := iI 0) hx hb dX0_freeFrom_5 rfl ?_
    exact hret 6 ls _ (by rw [show q = 0 by omega, frm_0]) dX0_freeFrom_6
set_option maxHeartbeats 4000000 in
set_option maxRecDepth 100000 in
theorem mX0_beginWithoutWaiting {q j : Nat} (hT : ∀ k, 0 ≤ tT k ∧ tT k ≤ 99) (hm : 1 ≤ mm ∧ mm ≤ 5) (hp : q < 7) (hj : j < 7) (hB : ∀ k, k < mm → (0 ≤ prv tB q k ∧ prv tB q k ≤ 1000000) ∧ 0 ≤ prv tE q k ∧ prv tE q k ≤ 1000000) : PM l yX0_beginWithoutWaiting wsX0_beginWithoutWaiting (rmx 2 44) D (tyk cI cZ cJ) (xw ad cI cZ nn mm tT tB tE tL oO oR oQ zS zM zN oJ) [.ref (ad 0), .int (iI ((q : Int))), .int (iI ((j : Int)))] (vp_Si (fun x => x = iI (stC (tj tT j) (prv tE q) mm))) := by
  refine pmI_of (cc := cX0_beginWithoutWaiting) (maxL := 6) (by decide) rfl (Nat.le_of_ble_eq_true rfl) ?_
  intro p e s m args below meth c Q hx hb hml hown hts hK hP hret ls hl
  have hown : s.vm.findClass RX0 = some m.cls := hown
  have hl : lv_has ls 6 [(0, .ref (ad 0)), (1, .int (iI ((q : Int)))), (2, .int (iI ((j : Int))))] := hl
  have inW : ∀ w ∈ wsX00, w ∈ wsX0_beginWithoutWaiting := by first | exact (fun w h => List.mem_cons_of_mem _ (List.mem_append_right _ h)) | exact (fun w h => List.mem_cons_of_mem _ (List.mem_append_left _ (List.mem_append_right _ h))) | exact (fun w h => List.mem_cons_of_mem _ (List.mem_append_left _ (List.mem_append_left _ (List.mem_append_right _ h)))) | decide +kernel
  refine lv_iconst (v := iI 0) hx hb dX0_beginWithoutWaiting_0 rfl ?_
  refine lv_istore_n (lv' := [(3, .int (iI 0)), (0, .ref (ad 0)), (1, .int (iI ((q : Int)))), (2, .int (iI ((j : Int))))]) hx hb dX0_beginWithoutWaiting_1 rfl hl (by decide) rfl (fun ls hl => ?_)
  refine lv_iconst (v := iI 0) hx hb dX0_beginWithoutWaiting_2 rfl ?_
  refine lv_istore (lv' := [(4, .int (iI 0)), (3, .int (iI 0)), (0, .ref (ad 0)), (1, .int (iI ((q : Int)))), (2, .int (iI ((j : Int))))]) hx hb dX0_beginWithoutWaiting_3 hl (by decide) rfl (fun ls hl => ?_)
  refine lv_iconst (v := iI 0) hx hb dX0_beginWithoutWaiting_5 rfl ?_
  refine lv_istore (lv' := [(5, .int (iI 0)), (4, .int (iI 0)), (3, .int (iI 0)), (0, .ref (ad 0)), (1, .int (iI ((q : Int)))), (2, .int (iI ((j : Int))))]) hx hb dX0_beginWithoutWaiting_6 hl (by decide) rfl (fun ls hl => ?_)
  have L8 : ∀ (fu : Nat) (i : Nat) (x5_8 : Int) (x4_8 : Int) (x3_8 : Int), (i ≤ mm) → (x5_8 = (i : Int)) → (x4_8 = (wyC (tj tT j) i)) → (x3_8 = (stC (tj tT j) (prv tE q) i)) → mm - i < fu → ∀ ls : Array Slot, lv_has ls 6 [(5, .int (iI (x5_8))), (4, .int (iI (x4_8))), (3, .int (iI (x3_8))), (0, .ref (ad 0)), (1, .int (iI ((q : Int)))), (2, .int (iI ((j : Int))))] → W p l e (rmx 2 44) s m args below meth c s.heap [] 0 0 Q (F0 m 8 ls []) := by
    intro fu
    induction fu with
    | zero =>
      intro i x5_8 x4_8 x3_8 hi hq0 hq1 hq2 hfu
      exact absurd hfu (Nat.not_lt_zero _)
    | succ fu ih =>
      intro i x5_8 x4_8 x3_8 hi hq0 hq1 hq2 hfu ls hl
      subst hq0
      subst hq1
      subst hq2
      have ih8 := ih
      have h9 := stC_rg (K := 1000000) (by omega) (tj_rg hT j) (fun k hk => (hB k hk).2.2) i hi
      have h8 := wyC_rg (tj_rg hT j) i
      refine lv_iload hx hb dX0_beginWithoutWaiting_8 (lv_at hl 0 rfl) ?_
      refine lv_aload_n hx hb dX0_beginWithoutWaiting_10 rfl (lv_at hl 3 rfl) ?_
      refine va_get (D := D) (ci := 0) (C := RX0) (T := TX0) (N := 13) hx hb hts inW hown hK hP 0 rfl rfl 1 (by decide) (hts (.fieldLink RX0 13 "Flowforge" "machineCount" "I") (List.mem_of_getElem? (i := 1) rfl)) (fun _ h9 => h9) rfl dX0_beginWithoutWaiting_11 ?_
      refine w_icmp_ge (tgt := 51) hx hb dX0_beginWithoutWaiting_14 (by decide) ⟨by omega, by omega⟩ ⟨by omega, by omega⟩ (fun c14 => ?_) (fun c14 => ?_)
      · refine lv_iload_n hx hb dX0_beginWithoutWaiting_51 rfl (lv_at hl 2 rfl) ?_
        exact hret 52 ls _ (by rw [show i = mm by omega]) dX0_beginWithoutWaiting_52
      · refine lv_iload_n hx hb dX0_beginWithoutWaiting_17 rfl (lv_at hl 2 rfl) ?_
        refine lv_aload_n hx hb dX0_beginWithoutWaiting_18 rfl (lv_at hl 3 rfl) ?_
        refine lv_iconst (v := iI 2) hx hb dX0_beginWithoutWaiting_19 rfl ?_
        refine lv_iload_n hx hb dX0_beginWithoutWaiting_20 rfl (lv_at hl 4 rfl) ?_
        refine lv_iload hx hb dX0_beginWithoutWaiting_21 (lv_at hl 0 rfl) ?_
        have h7 := hB i (by omega)
        refine w_pV (As := [.int (iI 2), .int (iI ((q : Int))), .int (iI ((i : Int)))]) (rest := [.int (iI ((stC (tj tT j) (prv tE q) i)))]) ⟨hx, hb, hml, hown, hts⟩ hK hP (mX0_freeFrom  (v := 2) hm (by omega) hp (by omega)) (cwV 3 hts gX0_beginWithoutWaiting_X0_freeFrom rfl rfl rfl (by decide +kernel) ⟨Nat.le_of_ble_eq_true rfl, Nat.le_of_ble_eq_true rfl⟩) (ci := 0) rfl rfl rfl rfl hl.1 rfl (Nat.le_of_ble_eq_true rfl) dX0_beginWithoutWaiting_23 ⟨Nat.zero_le _, Nat.zero_le _⟩ (fun r23 hr23 => ?_)
        refine w_top (v := iI ((prv tE q i))) (hr23.trans (congrArg iI frm_2)) ?_
        refine lv_iload hx hb dX0_beginWithoutWaiting_26 (lv_at hl 1 rfl) ?_
        refine w_isub (z := (prv tE q i) - (wyC (tj tT j) i)) hx hb dX0_beginWithoutWaiting_28 (by omega) ?_
        refine va_mmax hx hb (hml.trans hl.1.symm) hown (hts (.methodLink RX0 167 Lib.Math.max.name) (List.mem_of_getElem? (i := 2) rfl)) (hts (.static Lib.Math.max.name) (List.mem_of_getElem? (i := 3) rfl)) (hts (.initialized "java/lang/Math") (List.mem_of_getElem? (i := 4) rfl)) (hts (.code Lib.Math.max.name Lib.Math.max.code 2 (some .int)) (List.mem_of_getElem? (i := 5) rfl)) (Nat.le_of_ble_eq_true rfl) (Nat.le_of_ble_eq_true rfl) (Nat.zero_le _) (Nat.zero_le _) dX0_beginWithoutWaiting_29 ?_
        refine w_top (v := iI ((max ((stC (tj tT j) (prv tE q) i)) ((prv tE q i) - (wyC (tj tT j) i))))) (iI_max ⟨by omega, by omega⟩ ⟨by omega, by omega⟩) ?_
        refine lv_istore_n (lv' := [(3, .int (iI ((max ((stC (tj tT j) (prv tE q) i)) ((prv tE q i) - (wyC (tj tT j) i)))))), (5, .int (iI ((i : Int)))), (4, .int (iI ((wyC (tj tT j) i)))), (0, .ref (ad 0)), (1, .int (iI ((q : Int)))), (2, .int (iI ((j : Int))))]) hx hb dX0_beginWithoutWaiting_32 rfl hl (by decide) rfl (fun ls hl => ?_)
        refine lv_iload hx hb dX0_beginWithoutWaiting_33 (lv_at hl 2 rfl) ?_
        refine lv_aload_n hx hb dX0_beginWithoutWaiting_35 rfl (lv_at hl 3 rfl) ?_
        refine lv_iload_n hx hb dX0_beginWithoutWaiting_36 rfl (lv_at hl 5 rfl) ?_
        refine lv_iload hx hb dX0_beginWithoutWaiting_37 (lv_at hl 1 rfl) ?_
        refine w_pV (As := [.int (iI ((j : Int))), .int (iI ((i : Int)))]) (rest := [.int (iI ((wyC (tj tT j) i)))]) ⟨hx, hb, hml, hown, hts⟩ hK hP (mX0_timeOf  hj (by omega)) (cwV 2 hts gX0_beginWithoutWaiting_X0_timeOf rfl rfl rfl (by decide +kernel) ⟨Nat.le_of_ble_eq_true rfl, Nat.le_of_ble_eq_true rfl⟩) (ci := 0) rfl rfl rfl rfl hl.1 rfl (Nat.le_of_ble_eq_true rfl) dX0_beginWithoutWaiting_39 ⟨Nat.zero_le _, Nat.zero_le _⟩ (fun r39 hr39 => ?_)
        refine w_top (v := iI ((tT (5 * j + i)))) (hr39) ?_
        refine w_iadd (z := (wyC (tj tT j) i) + (tT (5 * j + i))) hx hb dX0_beginWithoutWaiting_42 (by omega) ?_
        refine lv_istore (lv' := [(4, .int (iI ((wyC (tj tT j) i) + (tT (5 * j + i))))), (3, .int (iI ((max ((stC (tj tT j) (prv tE q) i)) ((prv tE q i) - (wyC (tj tT j) i)))))), (5, .int (iI ((i : Int)))), (0, .ref (ad 0)), (1, .int (iI ((q : Int)))), (2, .int (iI ((j : Int))))]) hx hb dX0_beginWithoutWaiting_43 hl (by decide) rfl (fun ls hl => ?_)
        refine lv_iinc (v := iI ((i : Int) + 1)) (lv' := [(5, .int (iI ((i : Int) + 1))), (4, .int (iI ((wyC (tj tT j) i) + (tT (5 * j + i))))), (3, .int (iI ((max ((stC (tj tT j) (prv tE q) i)) ((prv tE q i) - (wyC (tj tT j) i)))))), (0, .ref (ad 0)), (1, .int (iI ((q : Int)))), (2, .int (iI ((j : Int))))]) hx hb dX0_beginWithoutWaiting_45 hl (k := 2) rfl (iI_inc (by omega)) (by decide) rfl (fun ls hl => ?_)
        refine lv_goto (tgt := 8) hx hb dX0_beginWithoutWaiting_48 (by decide) ?_
        exact ih8 (i + 1) ((i : Int) + 1) ((wyC (tj tT j) i) + (tT (5 * j + i))) ((max ((stC (tj tT j) (prv tE q) i)) ((prv tE q i) - (wyC (tj tT j) i)))) (by omega) (by omega) (rfl) (rfl) (by omega) ls (lv_sub hl [0, 1, 2, 3, 4, 5] rfl)
  exact L8 (mm - 0 + 1) 0 (0) (0) (0) (by omega) (by omega) (rfl) (rfl) (Nat.lt_succ_self _) ls (lv_sub hl [0, 1, 2, 3, 4, 5] rfl)
set_option maxHeartbeats 4000000 in
set_option maxRecDepth 100000 in
theorem mX0_scheduleJob {v q j : Nat} (hT : ∀ k, 0 ≤ tT k ∧ tT k ≤ 99) (hm : 1 ≤ mm ∧ mm ≤ 5) (hv : v ≤ 2) (hp : q < 7) (hj : j < 7) (hB : ∀ k, k < mm → (0 ≤ prv tB q k ∧ prv tB q k ≤ 1000000) ∧ 0 ≤ prv tE q k ∧ prv tE q k ≤ 1000000) : IM l yX0_scheduleJob wsX0_scheduleJob (rmx 3 69) D (tyk cI cZ cJ) (xw ad cI cZ nn mm tT tB tE tL oO oR oQ zS zM zN oJ) [.ref (ad 0), .int (iI ((v : Int))), .int (iI ((q : Int))), .int (iI ((j : Int)))] (QV D (tyk cI cZ cJ) (fun u : Unit => xw ad cI cZ nn mm tT (pt tB (sjB v mm tT q j tB tE) (5 * q) mm) (pt tE (sjE v mm tT q j tB tE) (5 * q) mm) tL oO oR oQ zS zM zN oJ) (fun _ => True)) := by
  refine imV_of (cc := cX0_scheduleJob) (maxL := 7) (by decide) rfl (Nat.le_of_ble_eq_true rfl) ?_
  intro p e s m args below meth c A Q hx hb hml hown hts hA hK hP hD hS hret ls hl
  have hown : s.vm.findClass RX0 = some m.cls := hown
  have hl : lv_has ls 7 [(0, .ref (ad 0)), (1, .int (iI ((v : Int)))), (2, .int (iI ((q : Int)))), (3, .int (iI ((j : Int))))] := hl
  have inW : ∀ w ∈ wsX00, w ∈ wsX0_scheduleJob := by first | exact (fun w h => List.mem_cons_of_mem _ (List.mem_append_right _ h)) | exact (fun w h => List.mem_cons_of_mem _ (List.mem_append_left _ (List.mem_append_right _ h))) | exact (fun w h => List.mem_cons_of_mem _ (List.mem_append_left _ (List.mem_append_left _ (List.mem_append_right _ h)))) | decide +kernel
  refine lv_iload_n hx hb dX0_scheduleJob_0 rfl (lv_at hl 1 rfl) ?_
  refine lv_iconst (v := iI 2) hx hb dX0_scheduleJob_1 rfl ?_
  have J15 : ∀ (H : Heap) (locs : List Loc), va_P D vwCl (xw ad cI cZ nn mm tT tB tE tL oO oR oQ zS zM zN oJ) H → va_D A (xw ad cI cZ nn mm tT tB tE tL oO oR oQ zS zM zN oJ) → va_S A s.heap H locs → ∀ ls : Array Slot, lv_has ls 7 [(0, .ref (ad 0)), (1, .int (iI ((v : Int)))), (2, .int (iI ((q : Int)))), (3, .int (iI ((j : Int))))] → W p l e (rmx 3 69) s m args below meth c H locs 0 0 Q (F0 m 15 ls [.int (iI ((m0v v mm (tj tT j) (prv tE q))))]) := by
    intro H locs hP hD hS ls hl
    refine lv_istore (lv' := [(4, .int (iI ((m0v v mm (tj tT j) (prv tE q))))), (0, .ref (ad 0)), (1, .int (iI ((v : Int)))), (2, .int (iI ((q : Int)))), (3, .int (iI ((j : Int))))]) hx hb dX0_scheduleJob_15 hl (by decide) rfl (fun ls hl => ?_)
    refine lv_iconst (v := iI 0) hx hb dX0_scheduleJob_17 rfl ?_
    refine lv_istore (lv' := [(5, .int (iI 0)), (4, .int (iI ((m0v v mm (tj tT j) (prv tE q))))), (0, .ref (ad 0)), (1, .int (iI ((v : Int)))), (2, .int (iI ((q : Int)))), (3, .int (iI ((j : Int))))]) hx hb dX0_scheduleJob_18 hl (by decide) rfl (fun ls hl => ?_)
    have L20 : ∀ (fu : Nat) (i : Nat) (wbegins20 : Nat → Int) (wends20 : Nat → Int) (x5_20 : Int) (x4_20 : Int), (i ≤ mm) → (wbegins20 = pt tB (sjB v mm tT q j tB tE) (5 * q) i) → (wends20 = pt tE (sjE v mm tT q j tB tE) (5 * q) i) → (x5_20 = (i : Int)) → (x4_20 = (mom v mm (tj tT j) (prv tB q) (prv tE q) (m0v v mm (tj tT j) (prv tE q)) i)) → mm - i < fu → ∀ (H : Heap) (locs : List Loc), va_P D vwCl (xw ad cI cZ nn mm tT wbegins20 wends20 tL oO oR oQ zS zM zN oJ) H → va_D A (xw ad cI cZ nn mm tT wbegins20 wends20 tL oO oR oQ zS zM zN oJ) → va_S A s.heap H locs → ∀ ls : Array Slot, lv_has ls 7 [(5, .int (iI (x5_20))), (4, .int (iI (x4_20))), (0, .ref (ad 0)), (1, .int (iI ((v : Int)))), (2, .int (iI ((q : Int)))), (3, .int (iI ((j : Int))))] → W p l e (rmx 3 69) s m args below meth c H locs 0 0 Q (F0 m 20 ls []) := by
      intro fu
      induction fu with
      | zero =>
        intro i wbegins20 wends20 x5_20 x4_20 hi hq0 hq1 hq2 hq3 hfu
        exact absurd hfu (Nat.not_lt_zero _)
      | succ fu ih =>
        intro i wbegins20 wends20 x5_20 x4_20 hi hq0 hq1 hq2 hq3 hfu H locs hP hD hS ls hl
        subst hq0
        subst hq1
        subst hq2
        subst hq3
        have ih20 := ih
        have h9 := mom_rg (v := v) (tj_rg hT j) hB (m0v_rg (v := v) (mm := mm) (e := prv tE q) (K := 1000000) (by omega) (tj_rg hT j) (fun k hk => (hB k hk).2.2)) i hi
        refine lv_iload hx hb dX0_scheduleJob_20 (lv_at hl 0 rfl) ?_
        refine lv_aload_n hx hb dX0_scheduleJob_22 rfl (lv_at hl 2 rfl) ?_
        refine va_get (D := D) (ci := 0) (C := RX0) (T := TX0) (N := 13) hx hb hts inW hown hK hP 0 rfl rfl 1 (by decide) (hts (.fieldLink RX0 13 "Flowforge" "machineCount" "I") (List.mem_of_getElem? (i := 1) rfl)) (fun _ h9 => h9) rfl dX0_scheduleJob_23 ?_
        refine w_icmp_ge (tgt := 88) hx hb dX0_scheduleJob_26 (by decide) ⟨by omega, by omega⟩ ⟨by omega, by omega⟩ (fun c26 => ?_) (fun c26 => ?_)
        · obtain rfl : mm = i := by omega
          exact hret _ _ 88 ls (()) hP hD hS (trivial) dX0_scheduleJob_88
        · have h8 := frm_rg (v := v) hB (show i < mm by omega)
          refine lv_iload hx hb dX0_scheduleJob_29 (lv_at hl 1 rfl) ?_
          refine lv_aload_n hx hb dX0_scheduleJob_31 rfl (lv_at hl 2 rfl) ?_
          refine lv_iload_n hx hb dX0_scheduleJob_32 rfl (lv_at hl 3 rfl) ?_
          refine lv_iload_n hx hb dX0_scheduleJob_33 rfl (lv_at hl 4 rfl) ?_
          refine lv_iload hx hb dX0_scheduleJob_34 (lv_at hl 0 rfl) ?_
          refine w_pV (As := [.int (iI ((v : Int))), .int (iI ((q : Int))), .int (iI ((i : Int)))]) (rest := [.int (iI ((mom v mm (tj tT j) (prv tB q) (prv tE q) (m0v v mm (tj tT j) (prv tE q)) i)))]) ⟨hx, hb, hml, hown, hts⟩ hK hP (mX0_freeFrom  hm hv hp (by omega)) (cwV 3 hts gX0_scheduleJob_X0_freeFrom rfl rfl rfl (by decide +kernel) ⟨Nat.le_of_ble_eq_true rfl, Nat.le_of_ble_eq_true rfl⟩) (ci := 0) rfl rfl rfl rfl hl.1 rfl (Nat.le_of_ble_eq_true rfl) dX0_scheduleJob_36 ⟨Nat.zero_le _, Nat.zero_le _⟩ (fun r36 hr36 => ?_)
          refine w_top (v := iI ((frm v mm (prv tB q) (prv tE q) i))) (hr36.trans (congrArg iI (frm_pt hm.2 (by omega)))) ?_
          refine va_mmax hx hb (hml.trans hl.1.symm) hown (hts (.methodLink RX0 167 Lib.Math.max.name) (List.mem_of_getElem? (i := 2) rfl)) (hts (.static Lib.Math.max.name) (List.mem_of_getElem? (i := 3) rfl)) (hts (.initialized "java/lang/Math") (List.mem_of_getElem? (i := 4) rfl)) (hts (.code Lib.Math.max.name Lib.Math.max.code 2 (some .int)) (List.mem_of_getElem? (i := 5) rfl)) (Nat.le_of_ble_eq_true rfl) (Nat.le_of_ble_eq_true rfl) (Nat.zero_le _) (Nat.zero_le _) dX0_scheduleJob_39 ?_
          refine w_top (v := iI ((sjB v mm tT q j tB tE i))) (iI_max ⟨by omega, by omega⟩ ⟨by omega, by omega⟩) ?_
          refine lv_istore (lv' := [(6, .int (iI ((sjB v mm tT q j tB tE i)))), (5, .int (iI ((i : Int)))), (4, .int (iI ((mom v mm (tj tT j) (prv tB q) (prv tE q) (m0v v mm (tj tT j) (prv tE q)) i)))), (0, .ref (ad 0)), (1, .int (iI ((v : Int)))), (2, .int (iI ((q : Int)))), (3, .int (iI ((j : Int))))]) hx hb dX0_scheduleJob_42 hl (by decide) rfl (fun ls hl => ?_)
          refine lv_aload_n hx hb dX0_scheduleJob_44 rfl (lv_at hl 3 rfl) ?_
          refine va_get (D := D) (ci := 0) (C := RX0) (T := TX0) (N := 13) hx hb hts inW hown hK hP 0 rfl rfl 3 (by decide) (hts (.fieldLink RX0 20 "Flowforge" "begins" "[I") (List.mem_of_getElem? (i := 6) rfl)) (fun _ h9 => h9) rfl dX0_scheduleJob_45 ?_
          refine lv_iload_n hx hb dX0_scheduleJob_48 rfl (lv_at hl 5 rfl) ?_
          refine lv_iload hx hb dX0_scheduleJob_49 (lv_at hl 1 rfl) ?_
          refine w_pS (As := [.int (iI ((q : Int))), .int (iI ((i : Int)))]) (rest := [.ref (ad 2)]) ⟨hx, hb, hml, hown, hts⟩ hK hP (mX0_cell  ) (va_cwS 2 hts gX0_scheduleJob_X0_cell rfl rfl rfl (by decide +kernel) ⟨Nat.le_of_ble_eq_true rfl, Nat.le_of_ble_eq_true rfl⟩) rfl hl.1 rfl (Nat.le_of_ble_eq_true rfl) dX0_scheduleJob_51 ⟨Nat.zero_le _, Nat.zero_le _⟩ (fun r51 hr51 => ?_)
          refine w_top (v := iI (5 * (q : Int) + (i : Int))) (hr51.trans (congrArg iI (by omega))) ?_
          refine lv_iload hx hb dX0_scheduleJob_54 (lv_at hl 0 rfl) ?_
          refine w_iast (g := tI (pt tB (sjB v mm tT q j tB tE) (5 * q) (i + 1))) (ws' := xw ad cI cZ nn mm tT (pt tB (sjB v mm tT q j tB tE) (5 * q) (i + 1)) (pt tE (sjE v mm tT q j tB tE) (5 * q) i) tL oO oR oQ zS zM zN oJ) hx hb hK hP hD hS 2 0 rfl rfl (5 * q + i) (by omega) (by omega) (by decide) (hg := (tI_up.trans (congrArg tI pt_s))) (hw := rfl) (hd := dX0_scheduleJob_56) (kk := fun H locs hP hD hS => ?_)
          refine lv_iload hx hb dX0_scheduleJob_57 (lv_at hl 0 rfl) ?_
          refine lv_aload_n hx hb dX0_scheduleJob_59 rfl (lv_at hl 3 rfl) ?_
          refine lv_iload_n hx hb dX0_scheduleJob_60 rfl (lv_at hl 6 rfl) ?_
          refine lv_iload hx hb dX0_scheduleJob_61 (lv_at hl 1 rfl) ?_
          refine w_pV (As := [.int (iI ((j : Int))), .int (iI ((i : Int)))]) (rest := [.int (iI ((sjB v mm tT q j tB tE i)))]) ⟨hx, hb, hml, hown, hts⟩ hK hP (mX0_timeOf  hj (by omega)) (cwV 2 hts gX0_scheduleJob_X0_timeOf rfl rfl rfl (by decide +kernel) ⟨Nat.le_of_ble_eq_true rfl, Nat.le_of_ble_eq_true rfl⟩) (ci := 0) rfl rfl rfl rfl hl.1 rfl (Nat.le_of_ble_eq_true rfl) dX0_scheduleJob_63 ⟨Nat.zero_le _, Nat.zero_le _⟩ (fun r63 hr63 => ?_)
          refine w_top (v := iI ((tT (5 * j + i)))) (hr63) ?_
          refine w_iadd (z := (sjE v mm tT q j tB tE i)) hx hb dX0_scheduleJob_66 (rfl) ?_
          refine lv_istore (lv' := [(4, .int (iI ((sjE v mm tT q j tB tE i)))), (6, .int (iI ((sjB v mm tT q j tB tE i)))), (5, .int (iI ((i : Int)))), (0, .ref (ad 0)), (1, .int (iI ((v : Int)))), (2, .int (iI ((q : Int)))), (3, .int (iI ((j : Int))))]) hx hb dX0_scheduleJob_67 hl (by decide) rfl (fun ls hl => ?_)
          refine lv_aload_n hx hb dX0_scheduleJob_69 rfl (lv_at hl 3 rfl) ?_
          refine va_get (D := D) (ci := 0) (C := RX0) (T := TX0) (N := 13) hx hb hts inW hown hK hP 0 rfl rfl 4 (by decide) (hts (.fieldLink RX0 23 "Flowforge" "ends" "[I") (List.mem_of_getElem? (i := 7) rfl)) (fun _ h9 => h9) rfl dX0_scheduleJob_70 ?_
          refine lv_iload_n hx hb dX0_scheduleJob_73 rfl (lv_at hl 5 rfl) ?_
          refine lv_iload hx hb dX0_scheduleJob_74 (lv_at hl 2 rfl) ?_
          refine w_pS (As := [.int (iI ((q : Int))), .int (iI ((i : Int)))]) (rest := [.ref (ad 3)]) ⟨hx, hb, hml, hown, hts⟩ hK hP (mX0_cell  ) (va_cwS 2 hts gX0_scheduleJob_X0_cell rfl rfl rfl (by decide +kernel) ⟨Nat.le_of_ble_eq_true rfl, Nat.le_of_ble_eq_true rfl⟩) rfl hl.1 rfl (Nat.le_of_ble_eq_true rfl) dX0_scheduleJob_76 ⟨Nat.zero_le _, Nat.zero_le _⟩ (fun r76 hr76 => ?_)
          refine w_top (v := iI (5 * (q : Int) + (i : Int))) (hr76.trans (congrArg iI (by omega))) ?_
          refine lv_iload hx hb dX0_scheduleJob_79 (lv_at hl 0 rfl) ?_
          refine w_iast (g := tI (pt tE (sjE v mm tT q j tB tE) (5 * q) (i + 1))) (ws' := xw ad cI cZ nn mm tT (pt tB (sjB v mm tT q j tB tE) (5 * q) (i + 1)) (pt tE (sjE v mm tT q j tB tE) (5 * q) (i + 1)) tL oO oR oQ zS zM zN oJ) hx hb hK hP hD hS 3 0 rfl rfl (5 * q + i) (by omega) (by omega) (by decide) (hg := (tI_up.trans (congrArg tI pt_s))) (hw := rfl) (hd := dX0_scheduleJob_81) (kk := fun H locs hP hD hS => ?_)
          refine lv_iinc (v := iI ((i : Int) + 1)) (lv' := [(5, .int (iI ((i : Int) + 1))), (4, .int (iI ((sjE v mm tT q j tB tE i)))), (6, .int (iI ((sjB v mm tT q j tB tE i)))), (0, .ref (ad 0)), (1, .int (iI ((v : Int)))), (2, .int (iI ((q : Int)))), (3, .int (iI ((j : Int))))]) hx hb dX0_scheduleJob_82 hl (k := 2) rfl (iI_inc (by omega)) (by decide) rfl (fun ls hl => ?_)
          refine lv_goto (tgt := 20) hx hb dX0_scheduleJob_85 (by decide) ?_
          exact ih20 (i + 1) (pt tB (sjB v mm tT q j tB tE) (5 * q) (i + 1)) (pt tE (sjE v mm tT q j tB tE) (5 * q) (i + 1)) ((i : Int) + 1) ((sjE v mm tT q j tB tE i)) (by omega) (rfl) (rfl) (by omega) (rfl) (by omega) _ _ hP hD hS ls (lv_sub hl [0, 1, 3, 4, 5, 6] rfl)
    exact L20 (mm - 0 + 1) 0 tB tE (0) ((m0v v mm (tj tT j) (prv tE q))) (by omega) ((pt_0 _ _ _).symm) ((pt_0 _ _ _).symm) (by omega) (rfl) (Nat.lt_succ_self _) _ _ hP hD hS ls (lv_sub hl [0, 1, 2, 3, 4, 5] rfl)
  refine w_icmp_ne (tgt := 14) hx hb dX0_scheduleJob_2 (by decide) ⟨by omega, by omega⟩ ⟨by omega, by omega⟩ (fun c2 => ?_) (fun c2 => ?_)
  · refine lv_iconst (v := iI 0) hx hb dX0_scheduleJob_14 rfl ?_
    refine w_top (v := iI ((m0v v mm (tj tT j) (prv tE q)))) (by unfold m0v; rw [if_neg (by omega)]) ?_
    exact J15  _ _ hP hD hS ls (lv_sub hl [0, 1, 2, 3] rfl)
  · refine lv_aload_n hx hb dX0_scheduleJob_5 rfl (lv_at hl 0 rfl) ?_
    refine lv_iload_n hx hb dX0_scheduleJob_6 rfl (lv_at hl 2 rfl) ?_
    refine lv_iload_n hx hb dX0_scheduleJob_7 rfl (lv_at hl 3 rfl) ?_
    refine w_pV (As := [.int (iI ((q : Int))), .int (iI ((j : Int)))]) (rest := []) ⟨hx, hb, hml, hown, hts⟩ hK hP (mX0_beginWithoutWaiting  hT hm hp hj hB) (cwV 2 hts gX0_scheduleJob_X0_beginWithoutWaiting rfl rfl rfl (by decide +kernel) ⟨Nat.le_of_ble_eq_true rfl, Nat.le_of_ble_eq_true rfl⟩) (ci := 0) rfl rfl rfl rfl hl.1 rfl (Nat.le_of_ble_eq_true rfl) dX0_scheduleJob_8 ⟨Nat.zero_le _, Nat.zero_le _⟩ (fun r8 hr8 => ?_)
    refine w_top (v := iI ((stC (tj tT j) (prv tE q) mm))) (hr8) ?_
    refine lv_goto (tgt := 15) hx hb dX0_scheduleJob_11 (by decide) ?_
    refine w_top (v := iI ((m0v v mm (tj tT j) (prv tE q)))) (by unfold m0v; rw [if_pos (by omega)]) ?_
    exact J15  _ _ hP hD hS ls (lv_sub hl [0, 1, 2, 3] rfl)
set_option maxHeartbeats 4000000 in
set_option maxRecDepth 100000 in
theorem mX0_lastEnd {c0 : Nat} (hm : 1 ≤ mm ∧ mm ≤ 5) (hc : c0 ≤ 7) : PM l yX0_lastEnd wsX0_lastEnd (rmx 1 21) D (tyk cI cZ cJ) (xw ad cI cZ nn mm tT tB tE tL oO oR oQ zS zM zN oJ) [.ref (ad 0), .int (iI ((c0 : Int)))] (vp_Si (fun x => x = iI (lstE mm c0 tE))) := by
  refine pmI_of (cc := cX0_lastEnd) (maxL := 2) (by decide) rfl (Nat.le_of_ble_eq_true rfl) ?_
  intro p e s m args below meth c Q hx hb hml hown hts hK hP hret ls hl
  have hown : s.vm.findClass RX0 = some m.cls := hown
  have hl : lv_has ls 2 [(0, .ref (ad 0)), (1, .int (iI ((c0 : Int))))] := hl
  have inW : ∀ w ∈ wsX00, w ∈ wsX0_lastEnd := by first | exact (fun w h => List.mem_cons_of_mem _ (List.mem_append_right _ h)) | exact (fun w h => List.mem_cons_of_mem _ (List.mem_append_left _ (List.mem_append_right _ h))) | exact (fun w h => List.mem_cons_of_mem _ (List.mem_append_left _ (List.mem_append_left _ (List.mem_append_right _ h)))) | decide +kernel
  refine lv_iload_n hx hb dX0_lastEnd_0 rfl (lv_at hl 1 rfl) ?_
  refine lv_iconst (v := iI 1) hx hb dX0_lastEnd_1 rfl ?_
  refine w_icmp_ge (tgt := 7) hx hb dX0_lastEnd_2 (by decide) ⟨by omega, by omega⟩ ⟨by omega, by omega⟩ (fun c2 => ?_) (fun c2 => ?_)
  · refine lv_aload_n hx hb dX0_lastEnd_7 rfl (lv_at hl 0 rfl) ?_
    refine va_get (D := D) (ci := 0) (C := RX0) (T := TX0) (N := 13) hx hb hts inW hown hK hP 0 rfl rfl 4 (by decide) (hts (.fieldLink RX0 23 "Flowforge" "ends" "[I") (List.mem_of_getElem? (i := 1) rfl)) (fun _ h9 => h9) rfl dX0_lastEnd_8 ?_
    refine lv_iload_n hx hb dX0_lastEnd_11 rfl (lv_at hl 1 rfl) ?_
    refine lv_iconst (v := iI 1) hx hb dX0_lastEnd_12 rfl ?_
    refine w_isub (z := (c0 : Int) - 1) hx hb dX0_lastEnd_13 (by omega) ?_
    refine lv_aload_n hx hb dX0_lastEnd_14 rfl (lv_at hl 0 rfl) ?_
    refine va_get (D := D) (ci := 0) (C := RX0) (T := TX0) (N := 13) hx hb hts inW hown hK hP 0 rfl rfl 1 (by decide) (hts (.fieldLink RX0 13 "Flowforge" "machineCount" "I") (List.mem_of_getElem? (i := 2) rfl)) (fun _ h9 => h9) rfl dX0_lastEnd_15 ?_
    refine lv_iconst (v := iI 1) hx hb dX0_lastEnd_18 rfl ?_
    refine w_isub (z := (mm : Int) - 1) hx hb dX0_lastEnd_19 (by omega) ?_
    refine w_pS (As := [.int (iI ((c0 : Int) - 1)), .int (iI ((mm : Int) - 1))]) (rest := [.ref (ad 3)]) ⟨hx, hb, hml, hown, hts⟩ hK hP (mX0_cell  ) (va_cwS 2 hts gX0_lastEnd_X0_cell rfl rfl rfl (by decide +kernel) ⟨Nat.le_of_ble_eq_true rfl, Nat.le_of_ble_eq_true rfl⟩) rfl hl.1 rfl (Nat.le_of_ble_eq_true rfl) dX0_lastEnd_20 ⟨Nat.zero_le _, Nat.zero_le _⟩ (fun r20 hr20 => ?_)
    refine w_top (v := iI (5 * (c0 : Int) + (mm : Int) - 6)) (hr20.trans (congrArg iI (by omega))) ?_
    refine w_iald (v := iI (tE (5 * (c0 - 1) + (mm - 1)))) hx hb hK hP 3 0 rfl rfl (5 * (c0 - 1) + (mm - 1)) (by omega) (by omega) (by decide) rfl dX0_lastEnd_23 ?_
    exact hret 24 ls _ (by unfold lstE; rw [if_neg (by omega)]) dX0_lastEnd_24
  · refine lv_iconst (v := iI 0) hx hb dX0_lastEnd_5 rfl ?_
    exact hret 6 ls _ (by unfold lstE; rw [if_pos (by omega)]) dX0_lastEnd_6
set_option maxHeartbeats 4000000 in
set_option maxRecDepth 100000 in
theorem mX0_scheduleOrder {v : Nat} (hT : ∀ k, 0 ≤ tT k ∧ tT k ≤ 99) (hn : nn ≤ 7) (hm : 1 ≤ mm ∧ mm ≤ 5) (hv : v ≤ 2) (hO : ∀ k, k < nn → oO k < 7) : IM l yX0_scheduleOrder wsX0_scheduleOrder (rmx 4 95) D (tyk cI cZ cJ) (xw ad cI cZ nn mm tT tB tE tL oO oR oQ zS zM zN oJ) [.ref (ad 0), .int (iI ((v : Int)))] (QI D (tyk cI cZ cJ) (fun u : (Nat → Int) × (Nat → Int) => xw ad cI cZ nn mm tT u.1 u.2 tL oO oR oQ zS zM zN oJ) (fun x u => x = iI (mk v mm tT oO nn) ∧ rows v mm tT oO u.1 u.2 nn)) := by
  refine imI_of (cc := cX0_scheduleOrder) (maxL := 3) (by decide) rfl (Nat.le_of_ble_eq_true rfl) ?_
  intro p e s m args below meth c A Q hx hb hml hown hts hA hK hP hD hS hret ls hl
  have hown : s.vm.findClass RX0 = some m.cls := hown
  have hl : lv_has ls 3 [(0, .ref (ad 0)), (1, .int (iI ((v : Int))))] := hl
  have inW : ∀ w ∈ wsX00, w ∈ wsX0_scheduleOrder := by first | exact (fun w h => List.mem_cons_of_mem _ (List.mem_append_right _ h)) | exact (fun w h => List.mem_cons_of_mem _ (List.mem_append_left _ (List.mem_append_right _ h))) | exact (fun w h => List.mem_cons_of_mem _ (List.mem_append_left _ (List.mem_append_left _ (List.mem_append_right _ h)))) | decide +kernel
  refine lv_iconst (v := iI 0) hx hb dX0_scheduleOrder_0 rfl ?_
  refine lv_istore_n (lv' := [(2, .int (iI 0)), (0, .ref (ad 0)), (1, .int (iI ((v : Int))))]) hx hb dX0_scheduleOrder_1 rfl hl (by decide) rfl (fun ls hl => ?_)
  have L2 : ∀ (fu : Nat) (i : Nat) (wbegins2 : Nat → Int) (wends2 : Nat → Int) (x2_2 : Int), (i ≤ nn) → (rows v mm tT oO wbegins2 wends2 i) → (x2_2 = (i : Int)) → nn - i < fu → ∀ (H : Heap) (locs : List Loc), va_P D vwCl (xw ad cI cZ nn mm tT wbegins2 wends2 tL oO oR oQ zS zM zN oJ) H → va_D A (xw ad cI cZ nn mm tT wbegins2 wends2 tL oO oR oQ zS zM zN oJ) → va_S A s.heap H locs → ∀ ls : Array Slot, lv_has ls 3 [(2, .int (iI (x2_2))), (0, .ref (ad 0)), (1, .int (iI ((v : Int))))] → W p l e (rmx 4 95) s m args below meth c H locs 0 0 Q (F0 m 2 ls []) := by
    intro fu
    induction fu with
    | zero =>
      intro i wbegins2 wends2 x2_2 hi hI hq0 hfu
      exact absurd hfu (Nat.not_lt_zero _)
    | succ fu ih =>
      intro i wbegins2 wends2 x2_2 hi hI hq0 hfu H locs hP hD hS ls hl
      subst hq0
      have ih2 := ih
      refine lv_iload_n hx hb dX0_scheduleOrder_2 rfl (lv_at hl 0 rfl) ?_
      refine lv_aload_n hx hb dX0_scheduleOrder_3 rfl (lv_at hl 1 rfl) ?_
      refine va_get (D := D) (ci := 0) (C := RX0) (T := TX0) (N := 13) hx hb hts inW hown hK hP 0 rfl rfl 0 (by decide) (hts (.fieldLink RX0 7 "Flowforge" "jobCount" "I") (List.mem_of_getElem? (i := 1) rfl)) (fun _ h9 => h9) rfl dX0_scheduleOrder_4 ?_
      refine w_icmp_ge (tgt := 28) hx hb dX0_scheduleOrder_7 (by decide) ⟨by omega, by omega⟩ ⟨by omega, by omega⟩ (fun c7 => ?_) (fun c7 => ?_)
      · obtain rfl : nn = i := by omega
        refine lv_aload_n hx hb dX0_scheduleOrder_28 rfl (lv_at hl 1 rfl) ?_
        refine lv_aload_n hx hb dX0_scheduleOrder_29 rfl (lv_at hl 1 rfl) ?_
        refine va_get (D := D) (ci := 0) (C := RX0) (T := TX0) (N := 13) hx hb hts inW hown hK hP 0 rfl rfl 0 (by decide) (hts (.fieldLink RX0 7 "Flowforge" "jobCount" "I") (List.mem_of_getElem? (i := 1) rfl)) (fun _ h9 => h9) rfl dX0_scheduleOrder_30 ?_
        refine w_pV (As := [.int (iI ((nn : Int)))]) (rest := []) ⟨hx, hb, hml, hown, hts⟩ hK hP (mX0_lastEnd  hm hn) (cwV 1 hts gX0_scheduleOrder_X0_lastEnd rfl rfl rfl (by decide +kernel) ⟨Nat.le_of_ble_eq_true rfl, Nat.le_of_ble_eq_true rfl⟩) (ci := 0) rfl rfl rfl rfl hl.1 rfl (Nat.le_of_ble_eq_true rfl) dX0_scheduleOrder_33 ⟨Nat.zero_le _, Nat.zero_le _⟩ (fun r33 hr33 => ?_)
        refine w_top (v := iI ((mk v mm tT oO nn))) (hr33.trans (congrArg iI (lstE_rows hm.1 hI))) ?_
        exact hret _ _ 36 ls _ ((wbegins2, wends2)) hP hD hS (⟨rfl, hI⟩) dX0_scheduleOrder_36
      · refine lv_aload_n hx hb dX0_scheduleOrder_10 rfl (lv_at hl 1 rfl) ?_
        refine lv_iload_n hx hb dX0_scheduleOrder_11 rfl (lv_at hl 2 rfl) ?_
        refine lv_iload_n hx hb dX0_scheduleOrder_12 rfl (lv_at hl 0 rfl) ?_
        refine lv_aload_n hx hb dX0_scheduleOrder_13 rfl (lv_at hl 1 rfl) ?_
        refine va_get (D := D) (ci := 0) (C := RX0) (T := TX0) (N := 13) hx hb hts inW hown hK hP 0 rfl rfl 6 (by decide) (hts (.fieldLink RX0 29 "Flowforge" "order" "[I") (List.mem_of_getElem? (i := 2) rfl)) (fun _ h9 => h9) rfl dX0_scheduleOrder_14 ?_
        refine lv_iload_n hx hb dX0_scheduleOrder_17 rfl (lv_at hl 0 rfl) ?_
        refine w_iald (v := iI ((oO i : Nat) : Int)) hx hb hK hP 5 0 rfl rfl (i) (by omega) (by omega) (by decide) rfl dX0_scheduleOrder_18 ?_
        refine w_iVv (As := [.int (iI ((v : Int))), .int (iI ((i : Int))), .int (iI (((((oO i)) : Nat) : Int)))]) (rest := []) (wf := fun u : Unit => xw ad cI cZ nn mm tT (pt wbegins2 (sjB v mm tT i ((oO i)) wbegins2 wends2) (5 * i) mm) (pt wends2 (sjE v mm tT i ((oO i)) wbegins2 wends2) (5 * i) mm) tL oO oR oQ zS zM zN oJ) (wr := []) ⟨hx, hb, hml, hown, hts⟩ hK hP hD hS hA (mX0_scheduleJob  hT hm hv (by omega) (hO i (by omega)) (rows_rg hm.2 hT (by omega) hI)) (cwV 3 hts gX0_scheduleOrder_X0_scheduleJob rfl rfl rfl (by decide +kernel) ⟨Nat.le_of_ble_eq_true rfl, Nat.le_of_ble_eq_true rfl⟩) [0, 1, 2, 3, 4, 5, 6, 7, 8, 9, 10, 11] [] [0, 1, 2, 3, 4, 5, 6, 7, 8, 9, 10, 11] rfl rfl (by decide) (by decide) (by decide) (hwf := fun _ => rfl) (by decide) (ci := 0) rfl rfl rfl rfl hl.1 (by rw [show ((((oO i : Nat) : Int)) : Int) = ((((oO i)) : Nat) : Int) by omega]; try rfl) (Nat.le_of_ble_eq_true rfl) dX0_scheduleOrder_19 ⟨Nat.zero_le _, Nat.zero_le _⟩ (fun u H locs hr19 hP hD hS => ?_)
        refine lv_iinc (v := iI ((i : Int) + 1)) (lv' := [(2, .int (iI ((i : Int) + 1))), (0, .ref (ad 0)), (1, .int (iI ((v : Int))))]) hx hb dX0_scheduleOrder_22 hl (k := 0) rfl (iI_inc (by omega)) (by decide) rfl (fun ls hl => ?_)
        refine lv_goto (tgt := 2) hx hb dX0_scheduleOrder_25 (by decide) ?_
        exact ih2 (i + 1) (pt wbegins2 (sjB v mm tT i ((oO i)) wbegins2 wends2) (5 * i) mm) (pt wends2 (sjE v mm tT i ((oO i)) wbegins2 wends2) (5 * i) mm) ((i : Int) + 1) (by omega) (rows_s hm.2 hI) (by omega) (by omega) _ _ hP hD hS ls (lv_sub hl [0, 1, 2] rfl)
  exact L2 (nn - 0 + 1) 0 tB tE (0) (by omega) (rows_0) (by omega) (Nat.lt_succ_self _) _ _ hP hD hS ls (lv_sub hl [0, 1, 2] rfl)
end
