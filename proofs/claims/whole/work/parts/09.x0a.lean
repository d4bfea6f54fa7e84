section
variable {l : Launch} {D : va_G} {cI cZ cJ : ClassId} {ad bd : Nat → Nat} {a0 : Nat} {ws : va_W} {nn mm : Nat} {th bm : Int} {tT tB tE tL : Nat → Int} {oO oR oQ : Nat → Nat} {zS zM zN : Nat → Int} {oJ fF : Nat → Nat}
set_option maxHeartbeats 4000000 in
set_option maxRecDepth 100000 in
theorem mX0_cell {r k : Nat} : PM l yX0_cell wsX0_cell (rmx 0 0) D (tyk cI cZ cJ) (ws) [.int (iI ((r : Int))), .int (iI ((k : Int)))] (vp_Si (fun x => x = iI (5 * (r : Int) + (k : Int)))) := by
  refine pmI_of (cc := cX0_cell) (maxL := 2) (by decide) rfl (Nat.le_of_ble_eq_true rfl) ?_
  intro p e s m args below meth c Q hx hb hml hown hts hK hP hret ls hl
  have hown : s.vm.findClass RX0 = some m.cls := hown
  have hl : lv_has ls 2 [(0, .int (iI ((r : Int)))), (1, .int (iI ((k : Int))))] := hl
  refine lv_iload_n hx hb dX0_cell_0 rfl (lv_at hl 0 rfl) ?_
  refine lv_iconst (v := iI 5) hx hb dX0_cell_1 rfl ?_
  refine w_imul (z := 5 * (r : Int)) hx hb dX0_cell_2 (by omega) ?_
  refine lv_iload_n hx hb dX0_cell_3 rfl (lv_at hl 1 rfl) ?_
  refine w_iadd (z := 5 * (r : Int) + (k : Int)) hx hb dX0_cell_4 (by omega) ?_
  exact hret 5 ls _ (rfl) dX0_cell_5
set_option maxHeartbeats 4000000 in
set_option maxRecDepth 100000 in
theorem mX0_timeOf {j k : Nat} (hj : j < 7) (hk : k < 5) : PM l yX0_timeOf wsX0_timeOf (rmx 1 21) D (tyk cI cZ cJ) (xw ad cI cZ nn mm tT tB tE tL oO oR oQ zS zM zN oJ) [.ref (ad 0), .int (iI ((j : Int))), .int (iI ((k : Int)))] (vp_Si (fun x => x = iI (tT (5 * j + k)))) := by
  refine pmI_of (cc := cX0_timeOf) (maxL := 3) (by decide) rfl (Nat.le_of_ble_eq_true rfl) ?_
  intro p e s m args below meth c Q hx hb hml hown hts hK hP hret ls hl
  have hown : s.vm.findClass RX0 = some m.cls := hown
  have hl : lv_has ls 3 [(0, .ref (ad 0)), (1, .int (iI ((j : Int)))), (2, .int (iI ((k : Int))))] := hl
  have inW : ∀ w ∈ wsX00, w ∈ wsX0_timeOf := by first | exact (fun w h => List.mem_cons_of_mem _ (List.mem_append_right _ h)) | exact (fun w h => List.mem_cons_of_mem _ (List.mem_append_left _ (List.mem_append_right _ h))) | exact (fun w h => List.mem_cons_of_mem _ (List.mem_append_left _ (List.mem_append_left _ (List.mem_append_right _ h)))) | decide +kernel
  refine lv_iload_n hx hb dX0_timeOf_0 rfl (lv_at hl 1 rfl) ?_
  refine w_if_lt (tgt := 19) hx hb dX0_timeOf_1 (by decide) ⟨by omega, by omega⟩ (fun c1 => absurd c1 (by omega)) (fun c1 => ?_)
  refine lv_iload_n hx hb dX0_timeOf_4 rfl (lv_at hl 1 rfl) ?_
  refine lv_bipush (v := iI 7) hx hb dX0_timeOf_5 (by decide) ?_
  refine w_icmp_ge (tgt := 19) hx hb dX0_timeOf_7 (by decide) ⟨by omega, by omega⟩ ⟨by omega, by omega⟩ (fun c7 => absurd c7 (by omega)) (fun c7 => ?_)
  refine lv_iload_n hx hb dX0_timeOf_10 rfl (lv_at hl 2 rfl) ?_
  refine w_if_lt (tgt := 19) hx hb dX0_timeOf_11 (by decide) ⟨by omega, by omega⟩ (fun c11 => absurd c11 (by omega)) (fun c11 => ?_)
  refine lv_iload_n hx hb dX0_timeOf_14 rfl (lv_at hl 2 rfl) ?_
  refine lv_iconst (v := iI 5) hx hb dX0_timeOf_15 rfl ?_
  refine w_icmp_lt (tgt := 21) hx hb dX0_timeOf_16 (by decide) ⟨by omega, by omega⟩ ⟨by omega, by omega⟩ (fun c16 => ?_) (fun c16 => absurd c16 (by omega))
  refine lv_aload_n hx hb dX0_timeOf_21 rfl (lv_at hl 0 rfl) ?_
  refine va_get (D := D) (ci := 0) (C := RX0) (T := TX0) (N := 13) hx hb hts inW hown hK hP 0 rfl rfl 2 (by decide) (hts (.fieldLink RX0 16 "Flowforge" "times" "[I") (List.mem_of_getElem? (i := 1) rfl)) (fun _ h9 => h9) rfl dX0_timeOf_22 ?_
  refine lv_iload_n hx hb dX0_timeOf_25 rfl (lv_at hl 1 rfl) ?_
  refine lv_iload_n hx hb dX0_timeOf_26 rfl (lv_at hl 2 rfl) ?_
  refine w_pS (As := [.int (iI ((j : Int))), .int (iI ((k : Int)))]) (rest := [.ref (ad 1)]) ⟨hx, hb, hml, hown, hts⟩ hK hP (mX0_cell ) (va_cwS 2 hts gX0_timeOf_X0_cell rfl rfl rfl (by decide +kernel) ⟨Nat.le_of_ble_eq_true rfl, Nat.le_of_ble_eq_true rfl⟩) rfl hl.1 rfl (Nat.le_of_ble_eq_true rfl) dX0_timeOf_27 ⟨Nat.zero_le _, Nat.zero_le _⟩ (fun r27 hr27 => ?_)
  refine w_top (v := iI (5 * (j : Int) + (k : Int))) (hr27) ?_
  refine w_iald (v := iI (tT (5 * j + k))) hx hb hK hP 1 0 rfl rfl (5 * j + k) (by omega) (by omega) (by decide) rfl dX0_timeOf_30 ?_
  exact hret 31 ls _ (rfl) dX0_timeOf_31
set_option maxHeartbeats 4000000 in
set_option maxRecDepth 100000 in
theorem mX0_requireJob {x : Int} (hn : nn ≤ 7) (hm : mm ≤ 5) (h0 : 0 ≤ x) (h1 : x < (nn : Int)) : PM l yX0_requireJob wsX0_requireJob (rmx 0 0) D (tyk cI cZ cJ) (xw ad cI cZ nn mm tT tB tE tL oO oR oQ zS zM zN oJ) [.ref (ad 0), .int (iI (x))] (va_Sv (fun _ => True)) := by
  refine pmV_of (cc := cX0_requireJob) (maxL := 2) (by decide) rfl (Nat.le_of_ble_eq_true rfl) ?_
  intro p e s m args below meth c Q hx hb hml hown hts hK hP hret ls hl
  have hown : s.vm.findClass RX0 = some m.cls := hown
  have hl : lv_has ls 2 [(0, .ref (ad 0)), (1, .int (iI (x)))] := hl
  have inW : ∀ w ∈ wsX00, w ∈ wsX0_requireJob := by first | exact (fun w h => List.mem_cons_of_mem _ (List.mem_append_right _ h)) | exact (fun w h => List.mem_cons_of_mem _ (List.mem_append_left _ (List.mem_append_right _ h))) | exact (fun w h => List.mem_cons_of_mem _ (List.mem_append_left _ (List.mem_append_left _ (List.mem_append_right _ h)))) | decide +kernel
  refine lv_iload_n hx hb dX0_requireJob_0 rfl (lv_at hl 1 rfl) ?_
  refine w_if_lt (tgt := 12) hx hb dX0_requireJob_1 (by decide) ⟨by omega, by omega⟩ (fun c1 => absurd c1 (by omega)) (fun c1 => ?_)
  refine lv_iload_n hx hb dX0_requireJob_4 rfl (lv_at hl 1 rfl) ?_
  refine lv_aload_n hx hb dX0_requireJob_5 rfl (lv_at hl 0 rfl) ?_
  refine va_get (D := D) (ci := 0) (C := RX0) (T := TX0) (N := 13) hx hb hts inW hown hK hP 0 rfl rfl 0 (by decide) (hts (.fieldLink RX0 7 "Flowforge" "jobCount" "I") (List.mem_of_getElem? (i := 3) rfl)) (fun _ h9 => h9) rfl dX0_requireJob_6 ?_
  refine w_icmp_lt (tgt := 22) hx hb dX0_requireJob_9 (by decide) ⟨by omega, by omega⟩ ⟨by omega, by omega⟩ (fun c9 => ?_) (fun c9 => absurd c9 (by omega))
  exact hret 22 ls (trivial) dX0_requireJob_22
set_option maxHeartbeats 4000000 in
set_option maxRecDepth 100000 in
theorem mX0_requirePlace {x : Int} (hn : nn ≤ 7) (hm : mm ≤ 5) (h0 : 0 ≤ x) (h1 : x < (nn : Int)) : PM l yX0_requirePlace wsX0_requirePlace (rmx 0 0) D (tyk cI cZ cJ) (xw ad cI cZ nn mm tT tB tE tL oO oR oQ zS zM zN oJ) [.ref (ad 0), .int (iI (x))] (va_Sv (fun _ => True)) := by
  refine pmV_of (cc := cX0_requirePlace) (maxL := 2) (by decide) rfl (Nat.le_of_ble_eq_true rfl) ?_
  intro p e s m args below meth c Q hx hb hml hown hts hK hP hret ls hl
  have hown : s.vm.findClass RX0 = some m.cls := hown
  have hl : lv_has ls 2 [(0, .ref (ad 0)), (1, .int (iI (x)))] := hl
  have inW : ∀ w ∈ wsX00, w ∈ wsX0_requirePlace := by first | exact (fun w h => List.mem_cons_of_mem _ (List.mem_append_right _ h)) | exact (fun w h => List.mem_cons_of_mem _ (List.mem_append_left _ (List.mem_append_right _ h))) | exact (fun w h => List.mem_cons_of_mem _ (List.mem_append_left _ (List.mem_append_left _ (List.mem_append_right _ h)))) | decide +kernel
  refine lv_iload_n hx hb dX0_requirePlace_0 rfl (lv_at hl 1 rfl) ?_
  refine w_if_lt (tgt := 12) hx hb dX0_requirePlace_1 (by decide) ⟨by omega, by omega⟩ (fun c1 => absurd c1 (by omega)) (fun c1 => ?_)
  refine lv_iload_n hx hb dX0_requirePlace_4 rfl (lv_at hl 1 rfl) ?_
  refine lv_aload_n hx hb dX0_requirePlace_5 rfl (lv_at hl 0 rfl) ?_
  refine va_get (D := D) (ci := 0) (C := RX0) (T := TX0) (N := 13) hx hb hts inW hown hK hP 0 rfl rfl 0 (by decide) (hts (.fieldLink RX0 7 "Flowforge" "jobCount" "I") (List.mem_of_getElem? (i := 3) rfl)) (fun _ h9 => h9) rfl dX0_requirePlace_6 ?_
  refine w_icmp_lt (tgt := 22) hx hb dX0_requirePlace_9 (by decide) ⟨by omega, by omega⟩ ⟨by omega, by omega⟩ (fun c9 => ?_) (fun c9 => absurd c9 (by omega))
  exact hret 22 ls (trivial) dX0_requirePlace_22
set_option maxHeartbeats 4000000 in
set_option maxRecDepth 100000 in
theorem mX0_requireMachine {x : Int} (hn : nn ≤ 7) (hm : mm ≤ 5) (h0 : 0 ≤ x) (h1 : x < (mm : Int)) : PM l yX0_requireMachine wsX0_requireMachine (rmx 0 0) D (tyk cI cZ cJ) (xw ad cI cZ nn mm tT tB tE tL oO oR oQ zS zM zN oJ) [.ref (ad 0), .int (iI (x))] (va_Sv (fun _ => True)) := by
  refine pmV_of (cc := cX0_requireMachine) (maxL := 2) (by decide) rfl (Nat.le_of_ble_eq_true rfl) ?_
  intro p e s m args below meth c Q hx hb hml hown hts hK hP hret ls hl
  have hown : s.vm.findClass RX0 = some m.cls := hown
  have hl : lv_has ls 2 [(0, .ref (ad 0)), (1, .int (iI (x)))] := hl
  have inW : ∀ w ∈ wsX00, w ∈ wsX0_requireMachine := by first | exact (fun w h => List.mem_cons_of_mem _ (List.mem_append_right _ h)) | exact (fun w h => List.mem_cons_of_mem _ (List.mem_append_left _ (List.mem_append_right _ h))) | exact (fun w h => List.mem_cons_of_mem _ (List.mem_append_left _ (List.mem_append_left _ (List.mem_append_right _ h)))) | decide +kernel
  refine lv_iload_n hx hb dX0_requireMachine_0 rfl (lv_at hl 1 rfl) ?_
  refine w_if_lt (tgt := 12) hx hb dX0_requireMachine_1 (by decide) ⟨by omega, by omega⟩ (fun c1 => absurd c1 (by omega)) (fun c1 => ?_)
  refine lv_iload_n hx hb dX0_requireMachine_4 rfl (lv_at hl 1 rfl) ?_
  refine lv_aload_n hx hb dX0_requireMachine_5 rfl (lv_at hl 0 rfl) ?_
  refine va_get (D := D) (ci := 0) (C := RX0) (T := TX0) (N := 13) hx hb hts inW hown hK hP 0 rfl rfl 1 (by decide) (hts (.fieldLink RX0 13 "Flowforge" "machineCount" "I") (List.mem_of_getElem? (i := 3) rfl)) (fun _ h9 => h9) rfl dX0_requireMachine_6 ?_
  refine w_icmp_lt (tgt := 22) hx hb dX0_requireMachine_9 (by decide) ⟨by omega, by omega⟩ ⟨by omega, by omega⟩ (fun c9 => ?_) (fun c9 => absurd c9 (by omega))
  exact hret 22 ls (trivial) dX0_requireMachine_22
set_option maxHeartbeats 4000000 in
set_option maxRecDepth 100000 in
theorem mX0_requireVariant {x : Int} (h0 : 0 ≤ x) (h1 : x < 3) : PM l yX0_requireVariant wsX0_requireVariant (rmx 0 0) D (tyk cI cZ cJ) (ws) [.int (iI (x))] (va_Sv (fun _ => True)) := by
  refine pmV_of (cc := cX0_requireVariant) (maxL := 1) (by decide) rfl (Nat.le_of_ble_eq_true rfl) ?_
  intro p e s m args below meth c Q hx hb hml hown hts hK hP hret ls hl
  have hown : s.vm.findClass RX0 = some m.cls := hown
  have hl : lv_has ls 1 [(0, .int (iI (x)))] := hl
  refine lv_iload_n hx hb dX0_requireVariant_0 rfl (lv_at hl 0 rfl) ?_
  refine w_if_lt (tgt := 9) hx hb dX0_requireVariant_1 (by decide) ⟨by omega, by omega⟩ (fun c1 => absurd c1 (by omega)) (fun c1 => ?_)
  refine lv_iload_n hx hb dX0_requireVariant_4 rfl (lv_at hl 0 rfl) ?_
  refine lv_iconst (v := iI 3) hx hb dX0_requireVariant_5 rfl ?_
  refine w_icmp_lt (tgt := 19) hx hb dX0_requireVariant_6 (by decide) ⟨by omega, by omega⟩ ⟨by omega, by omega⟩ (fun c6 => ?_) (fun c6 => absurd c6 (by omega))
  exact hret 19 ls (trivial) dX0_requireVariant_19
end
