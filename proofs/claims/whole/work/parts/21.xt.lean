section
variable {l : Launch} {D : va_G} {cI cZ cJ : ClassId} {ad bd : Nat → Nat} {a0 : Nat} {ws : va_W} {nn mm : Nat} {th bm : Int} {tT tB tE tL : Nat → Int} {oO oR oQ : Nat → Nat} {zS zM zN : Nat → Int} {oJ fF : Nat → Nat}
variable {sa : Nat → Nat}
set_option maxHeartbeats 4000000 in
set_option maxRecDepth 100000 in
theorem tX0_requireJob {x : Int} (hl0 : l.stackTraces = false) (hn : nn ≤ 7) (hm : 1 ≤ mm ∧ mm ≤ 5) (hr9 : -2147483648 ≤ x ∧ x ≤ 2147483647) (hbad : ¬ (0 ≤ x ∧ x < (nn : Int))) : TM l yX0_requireJob wsX0_requireJob (rmt 6 82) D (tyk cI cZ cJ) (xw ad cI cZ nn mm tT tB tE tL oO oR oQ zS zM zN oJ) [.ref (ad 0), .int (iI (x))] "java/lang/IndexOutOfBoundsException" sa := by
  refine tm_of hl0 (cc := cX0_requireJob) (maxL := 2) (by decide) rfl (Nat.le_of_ble_eq_true rfl) ?_
  intro p e s m args below meth c Q hx hb hml hown hts hK hP hTX hTS hTO ls hl
  have hown : s.vm.findClass RX0 = some m.cls := hown
  have hl : lv_has ls 2 [(0, .ref (ad 0)), (1, .int (iI (x)))] := hl
  have inW : ∀ w ∈ wsX00, w ∈ wsX0_requireJob := by first | exact (fun w h => List.mem_cons_of_mem _ (List.mem_append_right _ h)) | exact (fun w h => List.mem_cons_of_mem _ (List.mem_append_left _ (List.mem_append_right _ h))) | exact (fun w h => List.mem_cons_of_mem _ (List.mem_append_left _ (List.mem_append_left _ (List.mem_append_right _ h)))) | decide +kernel
  refine lv_iload_n hx hb dX0_requireJob_0 rfl (lv_at hl 1 rfl) ?_
  refine w_if_lt (tgt := 12) hx hb dX0_requireJob_1 (by decide) ⟨by omega, by omega⟩ (fun c1 => ?_) (fun c1 => ?_)
  · have hat : ∀ w ∈ vx_atS RX0 135 "java/lang/IndexOutOfBoundsException" ["java/lang/RuntimeException", "java/lang/Exception"], w.before args s = true := tx_hat hTX.2.2 (List.mem_of_getElem? (i := 2) rfl) (fun w h => hts w (by first | exact List.mem_cons_of_mem _ (List.mem_append_right _ h) | exact List.mem_cons_of_mem _ (List.mem_append_left _ (List.mem_append_right _ h)))) (by decide +kernel)
    exact hTS 12 131 133 135 _ _ ls (by decide +kernel) (hts (.classLink RX0 131 "java/lang/IndexOutOfBoundsException") (List.mem_of_getElem? (i := 1) rfl)) (hts (.initialized "java/lang/IndexOutOfBoundsException") (List.mem_of_getElem? (i := 2) rfl)) (hTX.2.1 _ (List.mem_of_getElem? (i := 2) rfl)) hat (by decide +kernel) hl.1 dX0_requireJob_12 dX0_requireJob_15 dX0_requireJob_16 dX0_requireJob_18 dX0_requireJob_21 (Nat.le_of_ble_eq_true rfl) (Nat.le_of_ble_eq_true rfl) (Nat.le_of_ble_eq_true rfl) (Nat.le_of_ble_eq_true rfl)
  · refine lv_iload_n hx hb dX0_requireJob_4 rfl (lv_at hl 1 rfl) ?_
    refine lv_aload_n hx hb dX0_requireJob_5 rfl (lv_at hl 0 rfl) ?_
    refine va_get (D := D) (ci := 0) (C := RX0) (T := TX0) (N := 13) hx hb hts inW hown hK hP 0 rfl rfl 0 (by decide) (hts (.fieldLink RX0 7 "Flowforge" "jobCount" "I") (List.mem_of_getElem? (i := 3) rfl)) (fun _ h9 => h9) rfl dX0_requireJob_6 ?_
    refine w_icmp_lt (tgt := 22) hx hb dX0_requireJob_9 (by decide) ⟨by omega, by omega⟩ ⟨by omega, by omega⟩ (fun c9 => absurd c9 (by omega)) (fun c9 => ?_)
    have hat : ∀ w ∈ vx_atS RX0 135 "java/lang/IndexOutOfBoundsException" ["java/lang/RuntimeException", "java/lang/Exception"], w.before args s = true := tx_hat hTX.2.2 (List.mem_of_getElem? (i := 2) rfl) (fun w h => hts w (by first | exact List.mem_cons_of_mem _ (List.mem_append_right _ h) | exact List.mem_cons_of_mem _ (List.mem_append_left _ (List.mem_append_right _ h)))) (by decide +kernel)
    exact hTS 12 131 133 135 _ _ ls (by decide +kernel) (hts (.classLink RX0 131 "java/lang/IndexOutOfBoundsException") (List.mem_of_getElem? (i := 1) rfl)) (hts (.initialized "java/lang/IndexOutOfBoundsException") (List.mem_of_getElem? (i := 2) rfl)) (hTX.2.1 _ (List.mem_of_getElem? (i := 2) rfl)) hat (by decide +kernel) hl.1 dX0_requireJob_12 dX0_requireJob_15 dX0_requireJob_16 dX0_requireJob_18 dX0_requireJob_21 (Nat.le_of_ble_eq_true rfl) (Nat.le_of_ble_eq_true rfl) (Nat.le_of_ble_eq_true rfl) (Nat.le_of_ble_eq_true rfl)
set_option maxHeartbeats 4000000 in
set_option maxRecDepth 100000 in
theorem tX0_requirePlace {x : Int} (hl0 : l.stackTraces = false) (hn : nn ≤ 7) (hm : 1 ≤ mm ∧ mm ≤ 5) (hr9 : -2147483648 ≤ x ∧ x ≤ 2147483647) (hbad : ¬ (0 ≤ x ∧ x < (nn : Int))) : TM l yX0_requirePlace wsX0_requirePlace (rmt 6 82) D (tyk cI cZ cJ) (xw ad cI cZ nn mm tT tB tE tL oO oR oQ zS zM zN oJ) [.ref (ad 0), .int (iI (x))] "java/lang/IndexOutOfBoundsException" sa := by
  refine tm_of hl0 (cc := cX0_requirePlace) (maxL := 2) (by decide) rfl (Nat.le_of_ble_eq_true rfl) ?_
  intro p e s m args below meth c Q hx hb hml hown hts hK hP hTX hTS hTO ls hl
  have hown : s.vm.findClass RX0 = some m.cls := hown
  have hl : lv_has ls 2 [(0, .ref (ad 0)), (1, .int (iI (x)))] := hl
  have inW : ∀ w ∈ wsX00, w ∈ wsX0_requirePlace := by first | exact (fun w h => List.mem_cons_of_mem _ (List.mem_append_right _ h)) | exact (fun w h => List.mem_cons_of_mem _ (List.mem_append_left _ (List.mem_append_right _ h))) | exact (fun w h => List.mem_cons_of_mem _ (List.mem_append_left _ (List.mem_append_left _ (List.mem_append_right _ h)))) | decide +kernel
  refine lv_iload_n hx hb dX0_requirePlace_0 rfl (lv_at hl 1 rfl) ?_
  refine w_if_lt (tgt := 12) hx hb dX0_requirePlace_1 (by decide) ⟨by omega, by omega⟩ (fun c1 => ?_) (fun c1 => ?_)
  · have hat : ∀ w ∈ vx_atS RX0 135 "java/lang/IndexOutOfBoundsException" ["java/lang/RuntimeException", "java/lang/Exception"], w.before args s = true := tx_hat hTX.2.2 (List.mem_of_getElem? (i := 2) rfl) (fun w h => hts w (by first | exact List.mem_cons_of_mem _ (List.mem_append_right _ h) | exact List.mem_cons_of_mem _ (List.mem_append_left _ (List.mem_append_right _ h)))) (by decide +kernel)
    exact hTS 12 131 136 135 _ _ ls (by decide +kernel) (hts (.classLink RX0 131 "java/lang/IndexOutOfBoundsException") (List.mem_of_getElem? (i := 1) rfl)) (hts (.initialized "java/lang/IndexOutOfBoundsException") (List.mem_of_getElem? (i := 2) rfl)) (hTX.2.1 _ (List.mem_of_getElem? (i := 5) rfl)) hat (by decide +kernel) hl.1 dX0_requirePlace_12 dX0_requirePlace_15 dX0_requirePlace_16 dX0_requirePlace_18 dX0_requirePlace_21 (Nat.le_of_ble_eq_true rfl) (Nat.le_of_ble_eq_true rfl) (Nat.le_of_ble_eq_true rfl) (Nat.le_of_ble_eq_true rfl)
  · refine lv_iload_n hx hb dX0_requirePlace_4 rfl (lv_at hl 1 rfl) ?_
    refine lv_aload_n hx hb dX0_requirePlace_5 rfl (lv_at hl 0 rfl) ?_
    refine va_get (D := D) (ci := 0) (C := RX0) (T := TX0) (N := 13) hx hb hts inW hown hK hP 0 rfl rfl 0 (by decide) (hts (.fieldLink RX0 7 "Flowforge" "jobCount" "I") (List.mem_of_getElem? (i := 3) rfl)) (fun _ h9 => h9) rfl dX0_requirePlace_6 ?_
    refine w_icmp_lt (tgt := 22) hx hb dX0_requirePlace_9 (by decide) ⟨by omega, by omega⟩ ⟨by omega, by omega⟩ (fun c9 => absurd c9 (by omega)) (fun c9 => ?_)
    have hat : ∀ w ∈ vx_atS RX0 135 "java/lang/IndexOutOfBoundsException" ["java/lang/RuntimeException", "java/lang/Exception"], w.before args s = true := tx_hat hTX.2.2 (List.mem_of_getElem? (i := 2) rfl) (fun w h => hts w (by first | exact List.mem_cons_of_mem _ (List.mem_append_right _ h) | exact List.mem_cons_of_mem _ (List.mem_append_left _ (List.mem_append_right _ h)))) (by decide +kernel)
    exact hTS 12 131 136 135 _ _ ls (by decide +kernel) (hts (.classLink RX0 131 "java/lang/IndexOutOfBoundsException") (List.mem_of_getElem? (i := 1) rfl)) (hts (.initialized "java/lang/IndexOutOfBoundsException") (List.mem_of_getElem? (i := 2) rfl)) (hTX.2.1 _ (List.mem_of_getElem? (i := 5) rfl)) hat (by decide +kernel) hl.1 dX0_requirePlace_12 dX0_requirePlace_15 dX0_requirePlace_16 dX0_requirePlace_18 dX0_requirePlace_21 (Nat.le_of_ble_eq_true rfl) (Nat.le_of_ble_eq_true rfl) (Nat.le_of_ble_eq_true rfl) (Nat.le_of_ble_eq_true rfl)
set_option maxHeartbeats 4000000 in
set_option maxRecDepth 100000 in
theorem tX0_requireMachine {x : Int} (hl0 : l.stackTraces = false) (hn : nn ≤ 7) (hm : 1 ≤ mm ∧ mm ≤ 5) (hr9 : -2147483648 ≤ x ∧ x ≤ 2147483647) (hbad : ¬ (0 ≤ x ∧ x < (mm : Int))) : TM l yX0_requireMachine wsX0_requireMachine (rmt 6 82) D (tyk cI cZ cJ) (xw ad cI cZ nn mm tT tB tE tL oO oR oQ zS zM zN oJ) [.ref (ad 0), .int (iI (x))] "java/lang/IndexOutOfBoundsException" sa := by
  refine tm_of hl0 (cc := cX0_requireMachine) (maxL := 2) (by decide) rfl (Nat.le_of_ble_eq_true rfl) ?_
  intro p e s m args below meth c Q hx hb hml hown hts hK hP hTX hTS hTO ls hl
  have hown : s.vm.findClass RX0 = some m.cls := hown
  have hl : lv_has ls 2 [(0, .ref (ad 0)), (1, .int (iI (x)))] := hl
  have inW : ∀ w ∈ wsX00, w ∈ wsX0_requireMachine := by first | exact (fun w h => List.mem_cons_of_mem _ (List.mem_append_right _ h)) | exact (fun w h => List.mem_cons_of_mem _ (List.mem_append_left _ (List.mem_append_right _ h))) | exact (fun w h => List.mem_cons_of_mem _ (List.mem_append_left _ (List.mem_append_left _ (List.mem_append_right _ h)))) | decide +kernel
  refine lv_iload_n hx hb dX0_requireMachine_0 rfl (lv_at hl 1 rfl) ?_
  refine w_if_lt (tgt := 12) hx hb dX0_requireMachine_1 (by decide) ⟨by omega, by omega⟩ (fun c1 => ?_) (fun c1 => ?_)
  · have hat : ∀ w ∈ vx_atS RX0 135 "java/lang/IndexOutOfBoundsException" ["java/lang/RuntimeException", "java/lang/Exception"], w.before args s = true := tx_hat hTX.2.2 (List.mem_of_getElem? (i := 2) rfl) (fun w h => hts w (by first | exact List.mem_cons_of_mem _ (List.mem_append_right _ h) | exact List.mem_cons_of_mem _ (List.mem_append_left _ (List.mem_append_right _ h)))) (by decide +kernel)
    exact hTS 12 131 138 135 _ _ ls (by decide +kernel) (hts (.classLink RX0 131 "java/lang/IndexOutOfBoundsException") (List.mem_of_getElem? (i := 1) rfl)) (hts (.initialized "java/lang/IndexOutOfBoundsException") (List.mem_of_getElem? (i := 2) rfl)) (hTX.2.1 _ (List.mem_of_getElem? (i := 3) rfl)) hat (by decide +kernel) hl.1 dX0_requireMachine_12 dX0_requireMachine_15 dX0_requireMachine_16 dX0_requireMachine_18 dX0_requireMachine_21 (Nat.le_of_ble_eq_true rfl) (Nat.le_of_ble_eq_true rfl) (Nat.le_of_ble_eq_true rfl) (Nat.le_of_ble_eq_true rfl)
  · refine lv_iload_n hx hb dX0_requireMachine_4 rfl (lv_at hl 1 rfl) ?_
    refine lv_aload_n hx hb dX0_requireMachine_5 rfl (lv_at hl 0 rfl) ?_
    refine va_get (D := D) (ci := 0) (C := RX0) (T := TX0) (N := 13) hx hb hts inW hown hK hP 0 rfl rfl 1 (by decide) (hts (.fieldLink RX0 13 "Flowforge" "machineCount" "I") (List.mem_of_getElem? (i := 3) rfl)) (fun _ h9 => h9) rfl dX0_requireMachine_6 ?_
    refine w_icmp_lt (tgt := 22) hx hb dX0_requireMachine_9 (by decide) ⟨by omega, by omega⟩ ⟨by omega, by omega⟩ (fun c9 => absurd c9 (by omega)) (fun c9 => ?_)
    have hat : ∀ w ∈ vx_atS RX0 135 "java/lang/IndexOutOfBoundsException" ["java/lang/RuntimeException", "java/lang/Exception"], w.before args s = true := tx_hat hTX.2.2 (List.mem_of_getElem? (i := 2) rfl) (fun w h => hts w (by first | exact List.mem_cons_of_mem _ (List.mem_append_right _ h) | exact List.mem_cons_of_mem _ (List.mem_append_left _ (List.mem_append_right _ h)))) (by decide +kernel)
    exact hTS 12 131 138 135 _ _ ls (by decide +kernel) (hts (.classLink RX0 131 "java/lang/IndexOutOfBoundsException") (List.mem_of_getElem? (i := 1) rfl)) (hts (.initialized "java/lang/IndexOutOfBoundsException") (List.mem_of_getElem? (i := 2) rfl)) (hTX.2.1 _ (List.mem_of_getElem? (i := 3) rfl)) hat (by decide +kernel) hl.1 dX0_requireMachine_12 dX0_requireMachine_15 dX0_requireMachine_16 dX0_requireMachine_18 dX0_requireMachine_21 (Nat.le_of_ble_eq_true rfl) (Nat.le_of_ble_eq_true rfl) (Nat.le_of_ble_eq_true rfl) (Nat.le_of_ble_eq_true rfl)
set_option maxHeartbeats 4000000 in
set_option maxRecDepth 100000 in
theorem tX0_requireVariant {x : Int} (hl0 : l.stackTraces = false) (hr9 : -2147483648 ≤ x ∧ x ≤ 2147483647) (hbad : ¬ (0 ≤ x ∧ x ≤ 2)) : TM l yX0_requireVariant wsX0_requireVariant (rmt 6 82) D (tyk cI cZ cJ) (xw ad cI cZ nn mm tT tB tE tL oO oR oQ zS zM zN oJ) [.int (iI (x))] "java/lang/IllegalArgumentException" sa := by
  refine tm_of hl0 (cc := cX0_requireVariant) (maxL := 1) (by decide) rfl (Nat.le_of_ble_eq_true rfl) ?_
  intro p e s m args below meth c Q hx hb hml hown hts hK hP hTX hTS hTO ls hl
  have hown : s.vm.findClass RX0 = some m.cls := hown
  have hl : lv_has ls 1 [(0, .int (iI (x)))] := hl
  refine lv_iload_n hx hb dX0_requireVariant_0 rfl (lv_at hl 0 rfl) ?_
  refine w_if_lt (tgt := 9) hx hb dX0_requireVariant_1 (by decide) ⟨by omega, by omega⟩ (fun c1 => ?_) (fun c1 => ?_)
  · have hat : ∀ w ∈ vx_atS RX0 65 "java/lang/IllegalArgumentException" ["java/lang/RuntimeException", "java/lang/Exception"], w.before args s = true := tx_hat hTX.2.2 (List.mem_of_getElem? (i := 1) rfl) (fun w h => hts w (by first | exact List.mem_cons_of_mem _ (List.mem_append_right _ h) | exact List.mem_cons_of_mem _ (List.mem_append_left _ (List.mem_append_right _ h)))) (by decide +kernel)
    exact hTS 9 61 140 65 _ _ ls (by decide +kernel) (hts (.classLink RX0 61 "java/lang/IllegalArgumentException") (List.mem_of_getElem? (i := 1) rfl)) (hts (.initialized "java/lang/IllegalArgumentException") (List.mem_of_getElem? (i := 2) rfl)) (hTX.2.1 _ (List.mem_of_getElem? (i := 7) rfl)) hat (by decide +kernel) hl.1 dX0_requireVariant_9 dX0_requireVariant_12 dX0_requireVariant_13 dX0_requireVariant_15 dX0_requireVariant_18 (Nat.le_of_ble_eq_true rfl) (Nat.le_of_ble_eq_true rfl) (Nat.le_of_ble_eq_true rfl) (Nat.le_of_ble_eq_true rfl)
  · refine lv_iload_n hx hb dX0_requireVariant_4 rfl (lv_at hl 0 rfl) ?_
    refine lv_iconst (v := iI 3) hx hb dX0_requireVariant_5 rfl ?_
    refine w_icmp_lt (tgt := 19) hx hb dX0_requireVariant_6 (by decide) ⟨by omega, by omega⟩ ⟨by omega, by omega⟩ (fun c6 => absurd c6 (by omega)) (fun c6 => ?_)
    have hat : ∀ w ∈ vx_atS RX0 65 "java/lang/IllegalArgumentException" ["java/lang/RuntimeException", "java/lang/Exception"], w.before args s = true := tx_hat hTX.2.2 (List.mem_of_getElem? (i := 1) rfl) (fun w h => hts w (by first | exact List.mem_cons_of_mem _ (List.mem_append_right _ h) | exact List.mem_cons_of_mem _ (List.mem_append_left _ (List.mem_append_right _ h)))) (by decide +kernel)
    exact hTS 9 61 140 65 _ _ ls (by decide +kernel) (hts (.classLink RX0 61 "java/lang/IllegalArgumentException") (List.mem_of_getElem? (i := 1) rfl)) (hts (.initialized "java/lang/IllegalArgumentException") (List.mem_of_getElem? (i := 2) rfl)) (hTX.2.1 _ (List.mem_of_getElem? (i := 7) rfl)) hat (by decide +kernel) hl.1 dX0_requireVariant_9 dX0_requireVariant_12 dX0_requireVariant_13 dX0_requireVariant_15 dX0_requireVariant_18 (Nat.le_of_ble_eq_true rfl) (Nat.le_of_ble_eq_true rfl) (Nat.le_of_ble_eq_true rfl) (Nat.le_of_ble_eq_true rfl)
set_option maxHeartbeats 4000000 in
set_option maxRecDepth 100000 in
theorem tX0_addJob (hl0 : l.stackTraces = false) (h7 : nn = 7) : TM l yX0_addJob wsX0_addJob (rmt 6 82) D (tyk cI cZ cJ) (xw ad cI cZ nn mm tT tB tE tL oO oR oQ zS zM zN oJ) [.ref (ad 0)] "java/lang/IllegalStateException" sa := by
  refine tm_of hl0 (cc := cX0_addJob) (maxL := 2) (by decide) rfl (Nat.le_of_ble_eq_true rfl) ?_
  intro p e s m args below meth c Q hx hb hml hown hts hK hP hTX hTS hTO ls hl
  have hown : s.vm.findClass RX0 = some m.cls := hown
  have hl : lv_has ls 2 [(0, .ref (ad 0))] := hl
  have inW : ∀ w ∈ wsX00, w ∈ wsX0_addJob := by first | exact (fun w h => List.mem_cons_of_mem _ (List.mem_append_right _ h)) | exact (fun w h => List.mem_cons_of_mem _ (List.mem_append_left _ (List.mem_append_right _ h))) | exact (fun w h => List.mem_cons_of_mem _ (List.mem_append_left _ (List.mem_append_left _ (List.mem_append_right _ h)))) | decide +kernel
  refine lv_aload_n hx hb dX0_addJob_0 rfl (lv_at hl 0 rfl) ?_
  refine va_get (D := D) (ci := 0) (C := RX0) (T := TX0) (N := 13) hx hb hts inW hown hK hP 0 rfl rfl 0 (by decide) (hts (.fieldLink RX0 7 "Flowforge" "jobCount" "I") (List.mem_of_getElem? (i := 3) rfl)) (fun _ h9 => h9) rfl dX0_addJob_1 ?_
  refine lv_bipush (v := iI 7) hx hb dX0_addJob_4 (by decide) ?_
  refine w_icmp_lt (tgt := 19) hx hb dX0_addJob_6 (by decide) ⟨by omega, by omega⟩ ⟨by omega, by omega⟩ (fun c6 => absurd c6 (by omega)) (fun c6 => ?_)
  have hat : ∀ w ∈ vx_atS RX0 55 "java/lang/IllegalStateException" ["java/lang/RuntimeException", "java/lang/Exception"], w.before args s = true := tx_hat hTX.2.2 (List.mem_of_getElem? (i := 0) rfl) (fun w h => hts w (by first | exact List.mem_cons_of_mem _ (List.mem_append_right _ h) | exact List.mem_cons_of_mem _ (List.mem_append_left _ (List.mem_append_right _ h)))) (by decide +kernel)
  exact hTS 9 51 53 55 _ _ ls (by decide +kernel) (hts (.classLink RX0 51 "java/lang/IllegalStateException") (List.mem_of_getElem? (i := 1) rfl)) (hts (.initialized "java/lang/IllegalStateException") (List.mem_of_getElem? (i := 2) rfl)) (hTX.2.1 _ (List.mem_of_getElem? (i := 0) rfl)) hat (by decide +kernel) hl.1 dX0_addJob_9 dX0_addJob_12 dX0_addJob_13 dX0_addJob_15 dX0_addJob_18 (Nat.le_of_ble_eq_true rfl) (Nat.le_of_ble_eq_true rfl) (Nat.le_of_ble_eq_true rfl) (Nat.le_of_ble_eq_true rfl)
set_option maxHeartbeats 4000000 in
set_option maxRecDepth 100000 in
theorem tX0_setMachines {x : Int} (hl0 : l.stackTraces = false) (hr9 : -2147483648 ≤ x ∧ x ≤ 2147483647) (hbad : ¬ (1 ≤ x ∧ x ≤ 5)) : TM l yX0_setMachines wsX0_setMachines (rmt 6 82) D (tyk cI cZ cJ) (xw ad cI cZ nn mm tT tB tE tL oO oR oQ zS zM zN oJ) [.ref (ad 0), .int (iI (x))] "java/lang/IllegalArgumentException" sa := by
  refine tm_of hl0 (cc := cX0_setMachines) (maxL := 5) (by decide) rfl (Nat.le_of_ble_eq_true rfl) ?_
  intro p e s m args below meth c Q hx hb hml hown hts hK hP hTX hTS hTO ls hl
  have hown : s.vm.findClass RX0 = some m.cls := hown
  have hl : lv_has ls 5 [(0, .ref (ad 0)), (1, .int (iI (x)))] := hl
  refine lv_iload_n hx hb dX0_setMachines_0 rfl (lv_at hl 1 rfl) ?_
  refine lv_iconst (v := iI 1) hx hb dX0_setMachines_1 rfl ?_
  refine w_icmp_lt (tgt := 10) hx hb dX0_setMachines_2 (by decide) ⟨by omega, by omega⟩ ⟨by omega, by omega⟩ (fun c2 => ?_) (fun c2 => ?_)
  · have hat : ∀ w ∈ vx_atS RX0 65 "java/lang/IllegalArgumentException" ["java/lang/RuntimeException", "java/lang/Exception"], w.before args s = true := tx_hat hTX.2.2 (List.mem_of_getElem? (i := 1) rfl) (fun w h => hts w (by first | exact List.mem_cons_of_mem _ (List.mem_append_right _ h) | exact List.mem_cons_of_mem _ (List.mem_append_left _ (List.mem_append_right _ h)))) (by decide +kernel)
    exact hTS 10 61 63 65 _ _ ls (by decide +kernel) (hts (.classLink RX0 61 "java/lang/IllegalArgumentException") (List.mem_of_getElem? (i := 1) rfl)) (hts (.initialized "java/lang/IllegalArgumentException") (List.mem_of_getElem? (i := 2) rfl)) (hTX.2.1 _ (List.mem_of_getElem? (i := 1) rfl)) hat (by decide +kernel) hl.1 dX0_setMachines_10 dX0_setMachines_13 dX0_setMachines_14 dX0_setMachines_16 dX0_setMachines_19 (Nat.le_of_ble_eq_true rfl) (Nat.le_of_ble_eq_true rfl) (Nat.le_of_ble_eq_true rfl) (Nat.le_of_ble_eq_true rfl)
  · refine lv_iload_n hx hb dX0_setMachines_5 rfl (lv_at hl 1 rfl) ?_
    refine lv_iconst (v := iI 5) hx hb dX0_setMachines_6 rfl ?_
    refine w_icmp_le (tgt := 20) hx hb dX0_setMachines_7 (by decide) ⟨by omega, by omega⟩ ⟨by omega, by omega⟩ (fun c7 => absurd c7 (by omega)) (fun c7 => ?_)
    have hat : ∀ w ∈ vx_atS RX0 65 "java/lang/IllegalArgumentException" ["java/lang/RuntimeException", "java/lang/Exception"], w.before args s = true := tx_hat hTX.2.2 (List.mem_of_getElem? (i := 1) rfl) (fun w h => hts w (by first | exact List.mem_cons_of_mem _ (List.mem_append_right _ h) | exact List.mem_cons_of_mem _ (List.mem_append_left _ (List.mem_append_right _ h)))) (by decide +kernel)
    exact hTS 10 61 63 65 _ _ ls (by decide +kernel) (hts (.classLink RX0 61 "java/lang/IllegalArgumentException") (List.mem_of_getElem? (i := 1) rfl)) (hts (.initialized "java/lang/IllegalArgumentException") (List.mem_of_getElem? (i := 2) rfl)) (hTX.2.1 _ (List.mem_of_getElem? (i := 1) rfl)) hat (by decide +kernel) hl.1 dX0_setMachines_10 dX0_setMachines_13 dX0_setMachines_14 dX0_setMachines_16 dX0_setMachines_19 (Nat.le_of_ble_eq_true rfl) (Nat.le_of_ble_eq_true rfl) (Nat.le_of_ble_eq_true rfl) (Nat.le_of_ble_eq_true rfl)
set_option maxHeartbeats 4000000 in
set_option maxRecDepth 100000 in
theorem tX0_orderByRule (hl0 : l.stackTraces = false) (hm : 1 ≤ mm ∧ mm ≤ 5) (h2 : mm ≠ 2) : TM l yX0_orderByRule wsX0_orderByRule (rmt 6 82) D (tyk cI cZ cJ) (xw ad cI cZ nn mm tT tB tE tL oO oR oQ zS zM zN oJ) [.ref (ad 0)] "java/lang/IllegalStateException" sa := by
  refine tm_of hl0 (cc := cX0_orderByRule) (maxL := 1) (by decide) rfl (Nat.le_of_ble_eq_true rfl) ?_
  intro p e s m args below meth c Q hx hb hml hown hts hK hP hTX hTS hTO ls hl
  have hown : s.vm.findClass RX0 = some m.cls := hown
  have hl : lv_has ls 1 [(0, .ref (ad 0))] := hl
  have inW : ∀ w ∈ wsX00, w ∈ wsX0_orderByRule := by first | exact (fun w h => List.mem_cons_of_mem _ (List.mem_append_right _ h)) | exact (fun w h => List.mem_cons_of_mem _ (List.mem_append_left _ (List.mem_append_right _ h))) | exact (fun w h => List.mem_cons_of_mem _ (List.mem_append_left _ (List.mem_append_left _ (List.mem_append_right _ h)))) | decide +kernel
  refine lv_aload_n hx hb dX0_orderByRule_0 rfl (lv_at hl 0 rfl) ?_
  refine va_get (D := D) (ci := 0) (C := RX0) (T := TX0) (N := 13) hx hb hts inW hown hK hP 0 rfl rfl 1 (by decide) (hts (.fieldLink RX0 13 "Flowforge" "machineCount" "I") (List.mem_of_getElem? (i := 3) rfl)) (fun _ h9 => h9) rfl dX0_orderByRule_1 ?_
  refine lv_iconst (v := iI 2) hx hb dX0_orderByRule_4 rfl ?_
  refine w_icmp_eq (tgt := 18) hx hb dX0_orderByRule_5 (by decide) ⟨by omega, by omega⟩ ⟨by omega, by omega⟩ (fun c5 => absurd c5 (by omega)) (fun c5 => ?_)
  have hat : ∀ w ∈ vx_atS RX0 55 "java/lang/IllegalStateException" ["java/lang/RuntimeException", "java/lang/Exception"], w.before args s = true := tx_hat hTX.2.2 (List.mem_of_getElem? (i := 0) rfl) (fun w h => hts w (by first | exact List.mem_cons_of_mem _ (List.mem_append_right _ h) | exact List.mem_cons_of_mem _ (List.mem_append_left _ (List.mem_append_right _ h)))) (by decide +kernel)
  exact hTS 8 51 94 55 _ _ ls (by decide +kernel) (hts (.classLink RX0 51 "java/lang/IllegalStateException") (List.mem_of_getElem? (i := 1) rfl)) (hts (.initialized "java/lang/IllegalStateException") (List.mem_of_getElem? (i := 2) rfl)) (hTX.2.1 _ (List.mem_of_getElem? (i := 6) rfl)) hat (by decide +kernel) hl.1 dX0_orderByRule_8 dX0_orderByRule_11 dX0_orderByRule_12 dX0_orderByRule_14 dX0_orderByRule_17 (Nat.le_of_ble_eq_true rfl) (Nat.le_of_ble_eq_true rfl) (Nat.le_of_ble_eq_true rfl) (Nat.le_of_ble_eq_true rfl)
set_option maxHeartbeats 4000000 in
set_option maxRecDepth 100000 in
theorem tX0_setTime_1 {x y z : Int} (hl0 : l.stackTraces = false) (hn : nn ≤ 7) (hm : 1 ≤ mm ∧ mm ≤ 5) (hr9 : -2147483648 ≤ x ∧ x ≤ 2147483647 ∧ -2147483648 ≤ y ∧ y ≤ 2147483647 ∧ -2147483648 ≤ z ∧ z ≤ 2147483647) (hbad : ¬ ((0 ≤ x ∧ x < (nn : Int)) ∧ 0 ≤ y ∧ y < (mm : Int))) : TM l yX0_setTime wsX0_setTime (rmt 7 103) D (tyk cI cZ cJ) (xw ad cI cZ nn mm tT tB tE tL oO oR oQ zS zM zN oJ) [.ref (ad 0), .int (iI (x)), .int (iI (y)), .int (iI (z))] "java/lang/IndexOutOfBoundsException" sa := by
  refine tm_of hl0 (cc := cX0_setTime) (maxL := 5) (by decide) rfl (Nat.le_of_ble_eq_true rfl) ?_
  intro p e s m args below meth c Q hx hb hml hown hts hK hP hTX hTS hTO ls hl
  have hown : s.vm.findClass RX0 = some m.cls := hown
  have hl : lv_has ls 5 [(0, .ref (ad 0)), (1, .int (iI (x))), (2, .int (iI (y))), (3, .int (iI (z)))] := hl
  by_cases hc : 0 ≤ x ∧ x < (nn : Int)
  · refine lv_aload_n hx hb dX0_setTime_0 rfl (lv_at hl 0 rfl) ?_
    refine lv_iload_n hx hb dX0_setTime_1 rfl (lv_at hl 1 rfl) ?_
    refine w_pVv (As := [.int (iI (x))]) (rest := []) ⟨hx, hb, hml, hown, hts⟩ hK hP (mX0_requireJob  (x := x) hn hm.2 (by omega) (by omega)) (cwV 1 hts gX0_setTime_X0_requireJob rfl rfl rfl (by decide +kernel) ⟨Nat.le_of_ble_eq_true rfl, Nat.le_of_ble_eq_true rfl⟩) (ci := 0) rfl rfl rfl rfl hl.1 rfl (Nat.le_of_ble_eq_true rfl) dX0_setTime_2 ⟨Nat.zero_le _, Nat.zero_le _⟩ (fun hr2 => ?_)
    refine lv_aload_n hx hb dX0_setTime_5 rfl (lv_at hl 0 rfl) ?_
    refine lv_iload_n hx hb dX0_setTime_6 rfl (lv_at hl 2 rfl) ?_
    refine w_tV (As := [.int (iI (y))]) (rest := []) ⟨hx, hb, hml, hown, hts⟩ hK hP hTX (tX0_requireMachine  (x := (y : Int)) hl0 hn hm (by omega) (by omega)) (cwV 1 hts gX0_setTime_X0_requireMachine rfl rfl rfl (by decide +kernel) ⟨Nat.le_of_ble_eq_true rfl, Nat.le_of_ble_eq_true rfl⟩) [0, 1, 2, 3, 4, 5, 6, 7, 8, 9, 10, 11] rfl (ci := 0) rfl rfl rfl rfl hl.1 rfl (Nat.le_of_ble_eq_true rfl) dX0_setTime_7 ⟨Nat.le_of_ble_eq_true rfl, Nat.le_of_ble_eq_true rfl⟩ (fun q9 ce H1 hz hq hce hcv hcl => hTO _ _ _ q9 ce H1 hz hq hce hcv hcl)
  · refine lv_aload_n hx hb dX0_setTime_0 rfl (lv_at hl 0 rfl) ?_
    refine lv_iload_n hx hb dX0_setTime_1 rfl (lv_at hl 1 rfl) ?_
    refine w_tV (As := [.int (iI (x))]) (rest := []) ⟨hx, hb, hml, hown, hts⟩ hK hP hTX (tX0_requireJob  (x := x) hl0 hn hm (by omega) (by omega)) (cwV 1 hts gX0_setTime_X0_requireJob rfl rfl rfl (by decide +kernel) ⟨Nat.le_of_ble_eq_true rfl, Nat.le_of_ble_eq_true rfl⟩) [0, 1, 2, 3, 4, 5, 6, 7, 8, 9, 10, 11] rfl (ci := 0) rfl rfl rfl rfl hl.1 rfl (Nat.le_of_ble_eq_true rfl) dX0_setTime_2 ⟨Nat.le_of_ble_eq_true rfl, Nat.le_of_ble_eq_true rfl⟩ (fun q9 ce H1 hz hq hce hcv hcl => hTO _ _ _ q9 ce H1 hz hq hce hcv hcl)
set_option maxHeartbeats 4000000 in
set_option maxRecDepth 100000 in
theorem tX0_setTime_2 {j k : Nat} {x : Int} (hl0 : l.stackTraces = false) (hn : nn ≤ 7) (hm : 1 ≤ mm ∧ mm ≤ 5) (hj : j < nn) (hk : k < mm) (hr9 : -2147483648 ≤ x ∧ x ≤ 2147483647) (hbad : ¬ (0 ≤ x ∧ x ≤ 99)) : TM l yX0_setTime wsX0_setTime (rmt 6 82) D (tyk cI cZ cJ) (xw ad cI cZ nn mm tT tB tE tL oO oR oQ zS zM zN oJ) [.ref (ad 0), .int (iI ((j : Int))), .int (iI ((k : Int))), .int (iI (x))] "java/lang/IllegalArgumentException" sa := by
  refine tm_of hl0 (cc := cX0_setTime) (maxL := 5) (by decide) rfl (Nat.le_of_ble_eq_true rfl) ?_
  intro p e s m args below meth c Q hx hb hml hown hts hK hP hTX hTS hTO ls hl
  have hown : s.vm.findClass RX0 = some m.cls := hown
  have hl : lv_has ls 5 [(0, .ref (ad 0)), (1, .int (iI ((j : Int)))), (2, .int (iI ((k : Int)))), (3, .int (iI (x)))] := hl
  refine lv_aload_n hx hb dX0_setTime_0 rfl (lv_at hl 0 rfl) ?_
  refine lv_iload_n hx hb dX0_setTime_1 rfl (lv_at hl 1 rfl) ?_
  refine w_pVv (As := [.int (iI ((j : Int)))]) (rest := []) ⟨hx, hb, hml, hown, hts⟩ hK hP (mX0_requireJob  (x := (j : Int)) hn hm.2 (by omega) (by omega)) (cwV 1 hts gX0_setTime_X0_requireJob rfl rfl rfl (by decide +kernel) ⟨Nat.le_of_ble_eq_true rfl, Nat.le_of_ble_eq_true rfl⟩) (ci := 0) rfl rfl rfl rfl hl.1 rfl (Nat.le_of_ble_eq_true rfl) dX0_setTime_2 ⟨Nat.zero_le _, Nat.zero_le _⟩ (fun hr2 => ?_)
  refine lv_aload_n hx hb dX0_setTime_5 rfl (lv_at hl 0 rfl) ?_
  refine lv_iload_n hx hb dX0_setTime_6 rfl (lv_at hl 2 rfl) ?_
  refine w_pVv (As := [.int (iI ((k : Int)))]) (rest := []) ⟨hx, hb, hml, hown, hts⟩ hK hP (mX0_requireMachine  (x := (k : Int)) hn hm.2 (by omega) (by omega)) (cwV 1 hts gX0_setTime_X0_requireMachine rfl rfl rfl (by decide +kernel) ⟨Nat.le_of_ble_eq_true rfl, Nat.le_of_ble_eq_true rfl⟩) (ci := 0) rfl rfl rfl rfl hl.1 rfl (Nat.le_of_ble_eq_true rfl) dX0_setTime_7 ⟨Nat.zero_le _, Nat.zero_le _⟩ (fun hr7 => ?_)
  refine lv_iload_n hx hb dX0_setTime_10 rfl (lv_at hl 3 rfl) ?_
  refine w_if_lt (tgt := 20) hx hb dX0_setTime_11 (by decide) ⟨by omega, by omega⟩ (fun c11 => ?_) (fun c11 => ?_)
  · have hat : ∀ w ∈ vx_atS RX0 65 "java/lang/IllegalArgumentException" ["java/lang/RuntimeException", "java/lang/Exception"], w.before args s = true := tx_hat hTX.2.2 (List.mem_of_getElem? (i := 1) rfl) (fun w h => hts w (by first | exact List.mem_cons_of_mem _ (List.mem_append_right _ h) | exact List.mem_cons_of_mem _ (List.mem_append_left _ (List.mem_append_right _ h)))) (by decide +kernel)
    exact hTS 20 61 77 65 _ _ ls (by decide +kernel) (hts (.classLink RX0 61 "java/lang/IllegalArgumentException") (List.mem_of_getElem? (i := 1) rfl)) (hts (.initialized "java/lang/IllegalArgumentException") (List.mem_of_getElem? (i := 2) rfl)) (hTX.2.1 _ (List.mem_of_getElem? (i := 4) rfl)) hat (by decide +kernel) hl.1 dX0_setTime_20 dX0_setTime_23 dX0_setTime_24 dX0_setTime_26 dX0_setTime_29 (Nat.le_of_ble_eq_true rfl) (Nat.le_of_ble_eq_true rfl) (Nat.le_of_ble_eq_true rfl) (Nat.le_of_ble_eq_true rfl)
  · refine lv_iload_n hx hb dX0_setTime_14 rfl (lv_at hl 3 rfl) ?_
    refine lv_bipush (v := iI 99) hx hb dX0_setTime_15 (by decide) ?_
    refine w_icmp_le (tgt := 30) hx hb dX0_setTime_17 (by decide) ⟨by omega, by omega⟩ ⟨by omega, by omega⟩ (fun c17 => absurd c17 (by omega)) (fun c17 => ?_)
    have hat : ∀ w ∈ vx_atS RX0 65 "java/lang/IllegalArgumentException" ["java/lang/RuntimeException", "java/lang/Exception"], w.before args s = true := tx_hat hTX.2.2 (List.mem_of_getElem? (i := 1) rfl) (fun w h => hts w (by first | exact List.mem_cons_of_mem _ (List.mem_append_right _ h) | exact List.mem_cons_of_mem _ (List.mem_append_left _ (List.mem_append_right _ h)))) (by decide +kernel)
    exact hTS 20 61 77 65 _ _ ls (by decide +kernel) (hts (.classLink RX0 61 "java/lang/IllegalArgumentException") (List.mem_of_getElem? (i := 1) rfl)) (hts (.initialized "java/lang/IllegalArgumentException") (List.mem_of_getElem? (i := 2) rfl)) (hTX.2.1 _ (List.mem_of_getElem? (i := 4) rfl)) hat (by decide +kernel) hl.1 dX0_setTime_20 dX0_setTime_23 dX0_setTime_24 dX0_setTime_26 dX0_setTime_29 (Nat.le_of_ble_eq_true rfl) (Nat.le_of_ble_eq_true rfl) (Nat.le_of_ble_eq_true rfl) (Nat.le_of_ble_eq_true rfl)
set_option maxHeartbeats 4000000 in
set_option maxRecDepth 100000 in
theorem tX0_time {x y : Int} (hl0 : l.stackTraces = false) (hn : nn ≤ 7) (hm : 1 ≤ mm ∧ mm ≤ 5) (hr9 : -2147483648 ≤ x ∧ x ≤ 2147483647 ∧ -2147483648 ≤ y ∧ y ≤ 2147483647) (hbad : ¬ ((0 ≤ x ∧ x < (nn : Int)) ∧ 0 ≤ y ∧ y < (mm : Int))) : TM l yX0_time wsX0_time (rmt 7 103) D (tyk cI cZ cJ) (xw ad cI cZ nn mm tT tB tE tL oO oR oQ zS zM zN oJ) [.ref (ad 0), .int (iI (x)), .int (iI (y))] "java/lang/IndexOutOfBoundsException" sa := by
  refine tm_of hl0 (cc := cX0_time) (maxL := 3) (by decide) rfl (Nat.le_of_ble_eq_true rfl) ?_
  intro p e s m args below meth c Q hx hb hml hown hts hK hP hTX hTS hTO ls hl
  have hown : s.vm.findClass RX0 = some m.cls := hown
  have hl : lv_has ls 3 [(0, .ref (ad 0)), (1, .int (iI (x))), (2, .int (iI (y)))] := hl
  by_cases hc : 0 ≤ x ∧ x < (nn : Int)
  · refine lv_aload_n hx hb dX0_time_0 rfl (lv_at hl 0 rfl) ?_
    refine lv_iload_n hx hb dX0_time_1 rfl (lv_at hl 1 rfl) ?_
    refine w_pVv (As := [.int (iI (x))]) (rest := []) ⟨hx, hb, hml, hown, hts⟩ hK hP (mX0_requireJob  (x := x) hn hm.2 (by omega) (by omega)) (cwV 1 hts gX0_time_X0_requireJob rfl rfl rfl (by decide +kernel) ⟨Nat.le_of_ble_eq_true rfl, Nat.le_of_ble_eq_true rfl⟩) (ci := 0) rfl rfl rfl rfl hl.1 rfl (Nat.le_of_ble_eq_true rfl) dX0_time_2 ⟨Nat.zero_le _, Nat.zero_le _⟩ (fun hr2 => ?_)
    refine lv_aload_n hx hb dX0_time_5 rfl (lv_at hl 0 rfl) ?_
    refine lv_iload_n hx hb dX0_time_6 rfl (lv_at hl 2 rfl) ?_
    refine w_tV (As := [.int (iI (y))]) (rest := []) ⟨hx, hb, hml, hown, hts⟩ hK hP hTX (tX0_requireMachine  (x := (y : Int)) hl0 hn hm (by omega) (by omega)) (cwV 1 hts gX0_time_X0_requireMachine rfl rfl rfl (by decide +kernel) ⟨Nat.le_of_ble_eq_true rfl, Nat.le_of_ble_eq_true rfl⟩) [0, 1, 2, 3, 4, 5, 6, 7, 8, 9, 10, 11] rfl (ci := 0) rfl rfl rfl rfl hl.1 rfl (Nat.le_of_ble_eq_true rfl) dX0_time_7 ⟨Nat.le_of_ble_eq_true rfl, Nat.le_of_ble_eq_true rfl⟩ (fun q9 ce H1 hz hq hce hcv hcl => hTO _ _ _ q9 ce H1 hz hq hce hcv hcl)
  · refine lv_aload_n hx hb dX0_time_0 rfl (lv_at hl 0 rfl) ?_
    refine lv_iload_n hx hb dX0_time_1 rfl (lv_at hl 1 rfl) ?_
    refine w_tV (As := [.int (iI (x))]) (rest := []) ⟨hx, hb, hml, hown, hts⟩ hK hP hTX (tX0_requireJob  (x := x) hl0 hn hm (by omega) (by omega)) (cwV 1 hts gX0_time_X0_requireJob rfl rfl rfl (by decide +kernel) ⟨Nat.le_of_ble_eq_true rfl, Nat.le_of_ble_eq_true rfl⟩) [0, 1, 2, 3, 4, 5, 6, 7, 8, 9, 10, 11] rfl (ci := 0) rfl rfl rfl rfl hl.1 rfl (Nat.le_of_ble_eq_true rfl) dX0_time_2 ⟨Nat.le_of_ble_eq_true rfl, Nat.le_of_ble_eq_true rfl⟩ (fun q9 ce H1 hz hq hce hcv hcl => hTO _ _ _ q9 ce H1 hz hq hce hcv hcl)
set_option maxHeartbeats 4000000 in
set_option maxRecDepth 100000 in
theorem tX0_jobAt {x : Int} (hl0 : l.stackTraces = false) (hn : nn ≤ 7) (hm : 1 ≤ mm ∧ mm ≤ 5) (hr9 : -2147483648 ≤ x ∧ x ≤ 2147483647) (hbad : ¬ (0 ≤ x ∧ x < (nn : Int))) : TM l yX0_jobAt wsX0_jobAt (rmt 7 103) D (tyk cI cZ cJ) (xw ad cI cZ nn mm tT tB tE tL oO oR oQ zS zM zN oJ) [.ref (ad 0), .int (iI (x))] "java/lang/IndexOutOfBoundsException" sa := by
  refine tm_of hl0 (cc := cX0_jobAt) (maxL := 2) (by decide) rfl (Nat.le_of_ble_eq_true rfl) ?_
  intro p e s m args below meth c Q hx hb hml hown hts hK hP hTX hTS hTO ls hl
  have hown : s.vm.findClass RX0 = some m.cls := hown
  have hl : lv_has ls 2 [(0, .ref (ad 0)), (1, .int (iI (x)))] := hl
  refine lv_aload_n hx hb dX0_jobAt_0 rfl (lv_at hl 0 rfl) ?_
  refine lv_iload_n hx hb dX0_jobAt_1 rfl (lv_at hl 1 rfl) ?_
  refine w_tV (As := [.int (iI (x))]) (rest := []) ⟨hx, hb, hml, hown, hts⟩ hK hP hTX (tX0_requirePlace  (x := (x : Int)) hl0 hn hm (by omega) (by omega)) (cwV 1 hts gX0_jobAt_X0_requirePlace rfl rfl rfl (by decide +kernel) ⟨Nat.le_of_ble_eq_true rfl, Nat.le_of_ble_eq_true rfl⟩) [0, 1, 2, 3, 4, 5, 6, 7, 8, 9, 10, 11] rfl (ci := 0) rfl rfl rfl rfl hl.1 rfl (Nat.le_of_ble_eq_true rfl) dX0_jobAt_2 ⟨Nat.le_of_ble_eq_true rfl, Nat.le_of_ble_eq_true rfl⟩ (fun q9 ce H1 hz hq hce hcv hcl => hTO _ _ _ q9 ce H1 hz hq hce hcv hcl)
set_option maxHeartbeats 4000000 in
set_option maxRecDepth 100000 in
theorem tX0_move {x y : Int} (hl0 : l.stackTraces = false) (hn : nn ≤ 7) (hm : 1 ≤ mm ∧ mm ≤ 5) (hr9 : -2147483648 ≤ x ∧ x ≤ 2147483647 ∧ -2147483648 ≤ y ∧ y ≤ 2147483647) (hbad : ¬ ((0 ≤ x ∧ x < (nn : Int)) ∧ 0 ≤ y ∧ y < (nn : Int))) : TM l yX0_move wsX0_move (rmt 7 103) D (tyk cI cZ cJ) (xw ad cI cZ nn mm tT tB tE tL oO oR oQ zS zM zN oJ) [.ref (ad 0), .int (iI (x)), .int (iI (y))] "java/lang/IndexOutOfBoundsException" sa := by
  refine tm_of hl0 (cc := cX0_move) (maxL := 4) (by decide) rfl (Nat.le_of_ble_eq_true rfl) ?_
  intro p e s m args below meth c Q hx hb hml hown hts hK hP hTX hTS hTO ls hl
  have hown : s.vm.findClass RX0 = some m.cls := hown
  have hl : lv_has ls 4 [(0, .ref (ad 0)), (1, .int (iI (x))), (2, .int (iI (y)))] := hl
  by_cases hc : 0 ≤ x ∧ x < (nn : Int)
  · refine lv_aload_n hx hb dX0_move_0 rfl (lv_at hl 0 rfl) ?_
    refine lv_iload_n hx hb dX0_move_1 rfl (lv_at hl 1 rfl) ?_
    refine w_pVv (As := [.int (iI (x))]) (rest := []) ⟨hx, hb, hml, hown, hts⟩ hK hP (mX0_requireJob  (x := x) hn hm.2 (by omega) (by omega)) (cwV 1 hts gX0_move_X0_requireJob rfl rfl rfl (by decide +kernel) ⟨Nat.le_of_ble_eq_true rfl, Nat.le_of_ble_eq_true rfl⟩) (ci := 0) rfl rfl rfl rfl hl.1 rfl (Nat.le_of_ble_eq_true rfl) dX0_move_2 ⟨Nat.zero_le _, Nat.zero_le _⟩ (fun hr2 => ?_)
    refine lv_aload_n hx hb dX0_move_5 rfl (lv_at hl 0 rfl) ?_
    refine lv_iload_n hx hb dX0_move_6 rfl (lv_at hl 2 rfl) ?_
    refine w_tV (As := [.int (iI (y))]) (rest := []) ⟨hx, hb, hml, hown, hts⟩ hK hP hTX (tX0_requirePlace  (x := (y : Int)) hl0 hn hm (by omega) (by omega)) (cwV 1 hts gX0_move_X0_requirePlace rfl rfl rfl (by decide +kernel) ⟨Nat.le_of_ble_eq_true rfl, Nat.le_of_ble_eq_true rfl⟩) [0, 1, 2, 3, 4, 5, 6, 7, 8, 9, 10, 11] rfl (ci := 0) rfl rfl rfl rfl hl.1 rfl (Nat.le_of_ble_eq_true rfl) dX0_move_7 ⟨Nat.le_of_ble_eq_true rfl, Nat.le_of_ble_eq_true rfl⟩ (fun q9 ce H1 hz hq hce hcv hcl => hTO _ _ _ q9 ce H1 hz hq hce hcv hcl)
  · refine lv_aload_n hx hb dX0_move_0 rfl (lv_at hl 0 rfl) ?_
    refine lv_iload_n hx hb dX0_move_1 rfl (lv_at hl 1 rfl) ?_
    refine w_tV (As := [.int (iI (x))]) (rest := []) ⟨hx, hb, hml, hown, hts⟩ hK hP hTX (tX0_requireJob  (x := x) hl0 hn hm (by omega) (by omega)) (cwV 1 hts gX0_move_X0_requireJob rfl rfl rfl (by decide +kernel) ⟨Nat.le_of_ble_eq_true rfl, Nat.le_of_ble_eq_true rfl⟩) [0, 1, 2, 3, 4, 5, 6, 7, 8, 9, 10, 11] rfl (ci := 0) rfl rfl rfl rfl hl.1 rfl (Nat.le_of_ble_eq_true rfl) dX0_move_2 ⟨Nat.le_of_ble_eq_true rfl, Nat.le_of_ble_eq_true rfl⟩ (fun q9 ce H1 hz hq hce hcv hcl => hTO _ _ _ q9 ce H1 hz hq hce hcv hcl)
set_option maxHeartbeats 4000000 in
set_option maxRecDepth 100000 in
theorem tX0_makespanIfMoved {x y : Int} (hl0 : l.stackTraces = false) (hn : nn ≤ 7) (hm : 1 ≤ mm ∧ mm ≤ 5) (hr9 : -2147483648 ≤ x ∧ x ≤ 2147483647 ∧ -2147483648 ≤ y ∧ y ≤ 2147483647) (hbad : ¬ ((0 ≤ x ∧ x < (nn : Int)) ∧ 0 ≤ y ∧ y < (nn : Int))) : TM l yX0_makespanIfMoved wsX0_makespanIfMoved (rmt 7 103) D (tyk cI cZ cJ) (xw ad cI cZ nn mm tT tB tE tL oO oR oQ zS zM zN oJ) [.ref (ad 0), .int (iI (x)), .int (iI (y))] "java/lang/IndexOutOfBoundsException" sa := by
  refine tm_of hl0 (cc := cX0_makespanIfMoved) (maxL := 3) (by decide) rfl (Nat.le_of_ble_eq_true rfl) ?_
  intro p e s m args below meth c Q hx hb hml hown hts hK hP hTX hTS hTO ls hl
  have hown : s.vm.findClass RX0 = some m.cls := hown
  have hl : lv_has ls 3 [(0, .ref (ad 0)), (1, .int (iI (x))), (2, .int (iI (y)))] := hl
  by_cases hc : 0 ≤ x ∧ x < (nn : Int)
  · refine lv_aload_n hx hb dX0_makespanIfMoved_0 rfl (lv_at hl 0 rfl) ?_
    refine lv_iload_n hx hb dX0_makespanIfMoved_1 rfl (lv_at hl 1 rfl) ?_
    refine w_pVv (As := [.int (iI (x))]) (rest := []) ⟨hx, hb, hml, hown, hts⟩ hK hP (mX0_requireJob  (x := x) hn hm.2 (by omega) (by omega)) (cwV 1 hts gX0_makespanIfMoved_X0_requireJob rfl rfl rfl (by decide +kernel) ⟨Nat.le_of_ble_eq_true rfl, Nat.le_of_ble_eq_true rfl⟩) (ci := 0) rfl rfl rfl rfl hl.1 rfl (Nat.le_of_ble_eq_true rfl) dX0_makespanIfMoved_2 ⟨Nat.zero_le _, Nat.zero_le _⟩ (fun hr2 => ?_)
    refine lv_aload_n hx hb dX0_makespanIfMoved_5 rfl (lv_at hl 0 rfl) ?_
    refine lv_iload_n hx hb dX0_makespanIfMoved_6 rfl (lv_at hl 2 rfl) ?_
    refine w_tV (As := [.int (iI (y))]) (rest := []) ⟨hx, hb, hml, hown, hts⟩ hK hP hTX (tX0_requirePlace  (x := (y : Int)) hl0 hn hm (by omega) (by omega)) (cwV 1 hts gX0_makespanIfMoved_X0_requirePlace rfl rfl rfl (by decide +kernel) ⟨Nat.le_of_ble_eq_true rfl, Nat.le_of_ble_eq_true rfl⟩) [0, 1, 2, 3, 4, 5, 6, 7, 8, 9, 10, 11] rfl (ci := 0) rfl rfl rfl rfl hl.1 rfl (Nat.le_of_ble_eq_true rfl) dX0_makespanIfMoved_7 ⟨Nat.le_of_ble_eq_true rfl, Nat.le_of_ble_eq_true rfl⟩ (fun q9 ce H1 hz hq hce hcv hcl => hTO _ _ _ q9 ce H1 hz hq hce hcv hcl)
  · refine lv_aload_n hx hb dX0_makespanIfMoved_0 rfl (lv_at hl 0 rfl) ?_
    refine lv_iload_n hx hb dX0_makespanIfMoved_1 rfl (lv_at hl 1 rfl) ?_
    refine w_tV (As := [.int (iI (x))]) (rest := []) ⟨hx, hb, hml, hown, hts⟩ hK hP hTX (tX0_requireJob  (x := x) hl0 hn hm (by omega) (by omega)) (cwV 1 hts gX0_makespanIfMoved_X0_requireJob rfl rfl rfl (by decide +kernel) ⟨Nat.le_of_ble_eq_true rfl, Nat.le_of_ble_eq_true rfl⟩) [0, 1, 2, 3, 4, 5, 6, 7, 8, 9, 10, 11] rfl (ci := 0) rfl rfl rfl rfl hl.1 rfl (Nat.le_of_ble_eq_true rfl) dX0_makespanIfMoved_2 ⟨Nat.le_of_ble_eq_true rfl, Nat.le_of_ble_eq_true rfl⟩ (fun q9 ce H1 hz hq hce hcv hcl => hTO _ _ _ q9 ce H1 hz hq hce hcv hcl)
set_option maxHeartbeats 4000000 in
set_option maxRecDepth 100000 in
theorem tX0_makespan {x : Int} (hl0 : l.stackTraces = false) (hr9 : -2147483648 ≤ x ∧ x ≤ 2147483647) (hbad : ¬ (0 ≤ x ∧ x ≤ 2)) : TM l yX0_makespan wsX0_makespan (rmt 7 102) D (tyk cI cZ cJ) (xw ad cI cZ nn mm tT tB tE tL oO oR oQ zS zM zN oJ) [.ref (ad 0), .int (iI (x))] "java/lang/IllegalArgumentException" sa := by
  refine tm_of hl0 (cc := cX0_makespan) (maxL := 2) (by decide) rfl (Nat.le_of_ble_eq_true rfl) ?_
  intro p e s m args below meth c Q hx hb hml hown hts hK hP hTX hTS hTO ls hl
  have hown : s.vm.findClass RX0 = some m.cls := hown
  have hl : lv_has ls 2 [(0, .ref (ad 0)), (1, .int (iI (x)))] := hl
  refine lv_iload_n hx hb dX0_makespan_0 rfl (lv_at hl 1 rfl) ?_
  refine w_tS (As := [.int (iI (x))]) (rest := []) ⟨hx, hb, hml, hown, hts⟩ hK hP hTX (tX0_requireVariant  (x := x) hl0 (by omega) hbad) (va_cwS 1 hts gX0_makespan_X0_requireVariant rfl rfl rfl (by decide +kernel) ⟨Nat.le_of_ble_eq_true rfl, Nat.le_of_ble_eq_true rfl⟩) [0, 1, 2, 3, 4, 5, 6, 7, 8, 9, 10, 11] rfl rfl hl.1 rfl (Nat.le_of_ble_eq_true rfl) dX0_makespan_1 ⟨Nat.le_of_ble_eq_true rfl, Nat.le_of_ble_eq_true rfl⟩ (fun q9 ce H1 hz hq hce hcv hcl => hTO _ _ _ q9 ce H1 hz hq hce hcv hcl)
set_option maxHeartbeats 4000000 in
set_option maxRecDepth 100000 in
theorem tX0_begin_1 {x y z : Int} (hl0 : l.stackTraces = false) (hr9 : -2147483648 ≤ x ∧ x ≤ 2147483647) (hbad : ¬ (0 ≤ x ∧ x ≤ 2)) : TM l yX0_begin wsX0_begin (rmt 7 102) D (tyk cI cZ cJ) (xw ad cI cZ nn mm tT tB tE tL oO oR oQ zS zM zN oJ) [.ref (ad 0), .int (iI (x)), .int (iI (y)), .int (iI (z))] "java/lang/IllegalArgumentException" sa := by
  refine tm_of hl0 (cc := cX0_begin) (maxL := 4) (by decide) rfl (Nat.le_of_ble_eq_true rfl) ?_
  intro p e s m args below meth c Q hx hb hml hown hts hK hP hTX hTS hTO ls hl
  have hown : s.vm.findClass RX0 = some m.cls := hown
  have hl : lv_has ls 4 [(0, .ref (ad 0)), (1, .int (iI (x))), (2, .int (iI (y))), (3, .int (iI (z)))] := hl
  refine lv_iload_n hx hb dX0_begin_0 rfl (lv_at hl 1 rfl) ?_
  refine w_tS (As := [.int (iI (x))]) (rest := []) ⟨hx, hb, hml, hown, hts⟩ hK hP hTX (tX0_requireVariant  (x := x) hl0 (by omega) hbad) (va_cwS 1 hts gX0_begin_X0_requireVariant rfl rfl rfl (by decide +kernel) ⟨Nat.le_of_ble_eq_true rfl, Nat.le_of_ble_eq_true rfl⟩) [0, 1, 2, 3, 4, 5, 6, 7, 8, 9, 10, 11] rfl rfl hl.1 rfl (Nat.le_of_ble_eq_true rfl) dX0_begin_1 ⟨Nat.le_of_ble_eq_true rfl, Nat.le_of_ble_eq_true rfl⟩ (fun q9 ce H1 hz hq hce hcv hcl => hTO _ _ _ q9 ce H1 hz hq hce hcv hcl)
set_option maxHeartbeats 4000000 in
set_option maxRecDepth 100000 in
theorem tX0_begin_2 {v : Nat} {x y : Int} (hl0 : l.stackTraces = false) (hn : nn ≤ 7) (hm : 1 ≤ mm ∧ mm ≤ 5) (hv : v ≤ 2) (hr9 : -2147483648 ≤ x ∧ x ≤ 2147483647 ∧ -2147483648 ≤ y ∧ y ≤ 2147483647) (hbad : ¬ ((0 ≤ x ∧ x < (nn : Int)) ∧ 0 ≤ y ∧ y < (mm : Int))) : TM l yX0_begin wsX0_begin (rmt 7 103) D (tyk cI cZ cJ) (xw ad cI cZ nn mm tT tB tE tL oO oR oQ zS zM zN oJ) [.ref (ad 0), .int (iI ((v : Int))), .int (iI (x)), .int (iI (y))] "java/lang/IndexOutOfBoundsException" sa := by
  refine tm_of hl0 (cc := cX0_begin) (maxL := 4) (by decide) rfl (Nat.le_of_ble_eq_true rfl) ?_
  intro p e s m args below meth c Q hx hb hml hown hts hK hP hTX hTS hTO ls hl
  have hown : s.vm.findClass RX0 = some m.cls := hown
  have hl : lv_has ls 4 [(0, .ref (ad 0)), (1, .int (iI ((v : Int)))), (2, .int (iI (x))), (3, .int (iI (y)))] := hl
  by_cases hc : 0 ≤ x ∧ x < (nn : Int)
  · refine lv_iload_n hx hb dX0_begin_0 rfl (lv_at hl 1 rfl) ?_
    refine w_pSv (As := [.int (iI ((v : Int)))]) (rest := []) ⟨hx, hb, hml, hown, hts⟩ hK hP (mX0_requireVariant  (x := (v : Int)) (by omega) (by omega)) (va_cwS 1 hts gX0_begin_X0_requireVariant rfl rfl rfl (by decide +kernel) ⟨Nat.le_of_ble_eq_true rfl, Nat.le_of_ble_eq_true rfl⟩) rfl hl.1 rfl (Nat.le_of_ble_eq_true rfl) dX0_begin_1 ⟨Nat.zero_le _, Nat.zero_le _⟩ (fun hr1 => ?_)
    refine lv_aload_n hx hb dX0_begin_4 rfl (lv_at hl 0 rfl) ?_
    refine lv_iload_n hx hb dX0_begin_5 rfl (lv_at hl 2 rfl) ?_
    refine w_pVv (As := [.int (iI (x))]) (rest := []) ⟨hx, hb, hml, hown, hts⟩ hK hP (mX0_requirePlace  (x := x) hn hm.2 (by omega) (by omega)) (cwV 1 hts gX0_begin_X0_requirePlace rfl rfl rfl (by decide +kernel) ⟨Nat.le_of_ble_eq_true rfl, Nat.le_of_ble_eq_true rfl⟩) (ci := 0) rfl rfl rfl rfl hl.1 rfl (Nat.le_of_ble_eq_true rfl) dX0_begin_6 ⟨Nat.zero_le _, Nat.zero_le _⟩ (fun hr6 => ?_)
    refine lv_aload_n hx hb dX0_begin_9 rfl (lv_at hl 0 rfl) ?_
    refine lv_iload_n hx hb dX0_begin_10 rfl (lv_at hl 3 rfl) ?_
    refine w_tV (As := [.int (iI (y))]) (rest := []) ⟨hx, hb, hml, hown, hts⟩ hK hP hTX (tX0_requireMachine  (x := (y : Int)) hl0 hn hm (by omega) (by omega)) (cwV 1 hts gX0_begin_X0_requireMachine rfl rfl rfl (by decide +kernel) ⟨Nat.le_of_ble_eq_true rfl, Nat.le_of_ble_eq_true rfl⟩) [0, 1, 2, 3, 4, 5, 6, 7, 8, 9, 10, 11] rfl (ci := 0) rfl rfl rfl rfl hl.1 rfl (Nat.le_of_ble_eq_true rfl) dX0_begin_11 ⟨Nat.le_of_ble_eq_true rfl, Nat.le_of_ble_eq_true rfl⟩ (fun q9 ce H1 hz hq hce hcv hcl => hTO _ _ _ q9 ce H1 hz hq hce hcv hcl)
  · refine lv_iload_n hx hb dX0_begin_0 rfl (lv_at hl 1 rfl) ?_
    refine w_pSv (As := [.int (iI ((v : Int)))]) (rest := []) ⟨hx, hb, hml, hown, hts⟩ hK hP (mX0_requireVariant  (x := (v : Int)) (by omega) (by omega)) (va_cwS 1 hts gX0_begin_X0_requireVariant rfl rfl rfl (by decide +kernel) ⟨Nat.le_of_ble_eq_true rfl, Nat.le_of_ble_eq_true rfl⟩) rfl hl.1 rfl (Nat.le_of_ble_eq_true rfl) dX0_begin_1 ⟨Nat.zero_le _, Nat.zero_le _⟩ (fun hr1 => ?_)
    refine lv_aload_n hx hb dX0_begin_4 rfl (lv_at hl 0 rfl) ?_
    refine lv_iload_n hx hb dX0_begin_5 rfl (lv_at hl 2 rfl) ?_
    refine w_tV (As := [.int (iI (x))]) (rest := []) ⟨hx, hb, hml, hown, hts⟩ hK hP hTX (tX0_requirePlace  (x := x) hl0 hn hm (by omega) (by omega)) (cwV 1 hts gX0_begin_X0_requirePlace rfl rfl rfl (by decide +kernel) ⟨Nat.le_of_ble_eq_true rfl, Nat.le_of_ble_eq_true rfl⟩) [0, 1, 2, 3, 4, 5, 6, 7, 8, 9, 10, 11] rfl (ci := 0) rfl rfl rfl rfl hl.1 rfl (Nat.le_of_ble_eq_true rfl) dX0_begin_6 ⟨Nat.le_of_ble_eq_true rfl, Nat.le_of_ble_eq_true rfl⟩ (fun q9 ce H1 hz hq hce hcv hcl => hTO _ _ _ q9 ce H1 hz hq hce hcv hcl)
set_option maxHeartbeats 4000000 in
set_option maxRecDepth 100000 in
theorem tX0_head {x y : Int} (hl0 : l.stackTraces = false) (hn : nn ≤ 7) (hm : 1 ≤ mm ∧ mm ≤ 5) (hr9 : -2147483648 ≤ x ∧ x ≤ 2147483647 ∧ -2147483648 ≤ y ∧ y ≤ 2147483647) (hbad : ¬ ((0 ≤ x ∧ x < (nn : Int)) ∧ 0 ≤ y ∧ y < (mm : Int))) : TM l yX0_head wsX0_head (rmt 7 103) D (tyk cI cZ cJ) (xw ad cI cZ nn mm tT tB tE tL oO oR oQ zS zM zN oJ) [.ref (ad 0), .int (iI (x)), .int (iI (y))] "java/lang/IndexOutOfBoundsException" sa := by
  refine tm_of hl0 (cc := cX0_head) (maxL := 3) (by decide) rfl (Nat.le_of_ble_eq_true rfl) ?_
  intro p e s m args below meth c Q hx hb hml hown hts hK hP hTX hTS hTO ls hl
  have hown : s.vm.findClass RX0 = some m.cls := hown
  have hl : lv_has ls 3 [(0, .ref (ad 0)), (1, .int (iI (x))), (2, .int (iI (y)))] := hl
  by_cases hc : 0 ≤ x ∧ x < (nn : Int)
  · refine lv_aload_n hx hb dX0_head_0 rfl (lv_at hl 0 rfl) ?_
    refine lv_iload_n hx hb dX0_head_1 rfl (lv_at hl 1 rfl) ?_
    refine w_pVv (As := [.int (iI (x))]) (rest := []) ⟨hx, hb, hml, hown, hts⟩ hK hP (mX0_requirePlace  (x := x) hn hm.2 (by omega) (by omega)) (cwV 1 hts gX0_head_X0_requirePlace rfl rfl rfl (by decide +kernel) ⟨Nat.le_of_ble_eq_true rfl, Nat.le_of_ble_eq_true rfl⟩) (ci := 0) rfl rfl rfl rfl hl.1 rfl (Nat.le_of_ble_eq_true rfl) dX0_head_2 ⟨Nat.zero_le _, Nat.zero_le _⟩ (fun hr2 => ?_)
    refine lv_aload_n hx hb dX0_head_5 rfl (lv_at hl 0 rfl) ?_
    refine lv_iload_n hx hb dX0_head_6 rfl (lv_at hl 2 rfl) ?_
    refine w_tV (As := [.int (iI (y))]) (rest := []) ⟨hx, hb, hml, hown, hts⟩ hK hP hTX (tX0_requireMachine  (x := (y : Int)) hl0 hn hm (by omega) (by omega)) (cwV 1 hts gX0_head_X0_requireMachine rfl rfl rfl (by decide +kernel) ⟨Nat.le_of_ble_eq_true rfl, Nat.le_of_ble_eq_true rfl⟩) [0, 1, 2, 3, 4, 5, 6, 7, 8, 9, 10, 11] rfl (ci := 0) rfl rfl rfl rfl hl.1 rfl (Nat.le_of_ble_eq_true rfl) dX0_head_7 ⟨Nat.le_of_ble_eq_true rfl, Nat.le_of_ble_eq_true rfl⟩ (fun q9 ce H1 hz hq hce hcv hcl => hTO _ _ _ q9 ce H1 hz hq hce hcv hcl)
  · refine lv_aload_n hx hb dX0_head_0 rfl (lv_at hl 0 rfl) ?_
    refine lv_iload_n hx hb dX0_head_1 rfl (lv_at hl 1 rfl) ?_
    refine w_tV (As := [.int (iI (x))]) (rest := []) ⟨hx, hb, hml, hown, hts⟩ hK hP hTX (tX0_requirePlace  (x := x) hl0 hn hm (by omega) (by omega)) (cwV 1 hts gX0_head_X0_requirePlace rfl rfl rfl (by decide +kernel) ⟨Nat.le_of_ble_eq_true rfl, Nat.le_of_ble_eq_true rfl⟩) [0, 1, 2, 3, 4, 5, 6, 7, 8, 9, 10, 11] rfl (ci := 0) rfl rfl rfl rfl hl.1 rfl (Nat.le_of_ble_eq_true rfl) dX0_head_2 ⟨Nat.le_of_ble_eq_true rfl, Nat.le_of_ble_eq_true rfl⟩ (fun q9 ce H1 hz hq hce hcv hcl => hTO _ _ _ q9 ce H1 hz hq hce hcv hcl)
set_option maxHeartbeats 4000000 in
set_option maxRecDepth 100000 in
theorem tX0_tail {x y : Int} (hl0 : l.stackTraces = false) (hn : nn ≤ 7) (hm : 1 ≤ mm ∧ mm ≤ 5) (hr9 : -2147483648 ≤ x ∧ x ≤ 2147483647 ∧ -2147483648 ≤ y ∧ y ≤ 2147483647) (hbad : ¬ ((0 ≤ x ∧ x < (nn : Int)) ∧ 0 ≤ y ∧ y < (mm : Int))) : TM l yX0_tail wsX0_tail (rmt 7 103) D (tyk cI cZ cJ) (xw ad cI cZ nn mm tT tB tE tL oO oR oQ zS zM zN oJ) [.ref (ad 0), .int (iI (x)), .int (iI (y))] "java/lang/IndexOutOfBoundsException" sa := by
  refine tm_of hl0 (cc := cX0_tail) (maxL := 3) (by decide) rfl (Nat.le_of_ble_eq_true rfl) ?_
  intro p e s m args below meth c Q hx hb hml hown hts hK hP hTX hTS hTO ls hl
  have hown : s.vm.findClass RX0 = some m.cls := hown
  have hl : lv_has ls 3 [(0, .ref (ad 0)), (1, .int (iI (x))), (2, .int (iI (y)))] := hl
  by_cases hc : 0 ≤ x ∧ x < (nn : Int)
  · refine lv_aload_n hx hb dX0_tail_0 rfl (lv_at hl 0 rfl) ?_
    refine lv_iload_n hx hb dX0_tail_1 rfl (lv_at hl 1 rfl) ?_
    refine w_pVv (As := [.int (iI (x))]) (rest := []) ⟨hx, hb, hml, hown, hts⟩ hK hP (mX0_requirePlace  (x := x) hn hm.2 (by omega) (by omega)) (cwV 1 hts gX0_tail_X0_requirePlace rfl rfl rfl (by decide +kernel) ⟨Nat.le_of_ble_eq_true rfl, Nat.le_of_ble_eq_true rfl⟩) (ci := 0) rfl rfl rfl rfl hl.1 rfl (Nat.le_of_ble_eq_true rfl) dX0_tail_2 ⟨Nat.zero_le _, Nat.zero_le _⟩ (fun hr2 => ?_)
    refine lv_aload_n hx hb dX0_tail_5 rfl (lv_at hl 0 rfl) ?_
    refine lv_iload_n hx hb dX0_tail_6 rfl (lv_at hl 2 rfl) ?_
    refine w_tV (As := [.int (iI (y))]) (rest := []) ⟨hx, hb, hml, hown, hts⟩ hK hP hTX (tX0_requireMachine  (x := (y : Int)) hl0 hn hm (by omega) (by omega)) (cwV 1 hts gX0_tail_X0_requireMachine rfl rfl rfl (by decide +kernel) ⟨Nat.le_of_ble_eq_true rfl, Nat.le_of_ble_eq_true rfl⟩) [0, 1, 2, 3, 4, 5, 6, 7, 8, 9, 10, 11] rfl (ci := 0) rfl rfl rfl rfl hl.1 rfl (Nat.le_of_ble_eq_true rfl) dX0_tail_7 ⟨Nat.le_of_ble_eq_true rfl, Nat.le_of_ble_eq_true rfl⟩ (fun q9 ce H1 hz hq hce hcv hcl => hTO _ _ _ q9 ce H1 hz hq hce hcv hcl)
  · refine lv_aload_n hx hb dX0_tail_0 rfl (lv_at hl 0 rfl) ?_
    refine lv_iload_n hx hb dX0_tail_1 rfl (lv_at hl 1 rfl) ?_
    refine w_tV (As := [.int (iI (x))]) (rest := []) ⟨hx, hb, hml, hown, hts⟩ hK hP hTX (tX0_requirePlace  (x := x) hl0 hn hm (by omega) (by omega)) (cwV 1 hts gX0_tail_X0_requirePlace rfl rfl rfl (by decide +kernel) ⟨Nat.le_of_ble_eq_true rfl, Nat.le_of_ble_eq_true rfl⟩) [0, 1, 2, 3, 4, 5, 6, 7, 8, 9, 10, 11] rfl (ci := 0) rfl rfl rfl rfl hl.1 rfl (Nat.le_of_ble_eq_true rfl) dX0_tail_2 ⟨Nat.le_of_ble_eq_true rfl, Nat.le_of_ble_eq_true rfl⟩ (fun q9 ce H1 hz hq hce hcv hcl => hTO _ _ _ q9 ce H1 hz hq hce hcv hcl)
set_option maxHeartbeats 4000000 in
set_option maxRecDepth 100000 in
theorem tX0_isCritical {x y : Int} (hl0 : l.stackTraces = false) (hn : nn ≤ 7) (hm : 1 ≤ mm ∧ mm ≤ 5) (hr9 : -2147483648 ≤ x ∧ x ≤ 2147483647 ∧ -2147483648 ≤ y ∧ y ≤ 2147483647) (hbad : ¬ ((0 ≤ x ∧ x < (nn : Int)) ∧ 0 ≤ y ∧ y < (mm : Int))) : TM l yX0_isCritical wsX0_isCritical (rmt 7 103) D (tyk cI cZ cJ) (xw ad cI cZ nn mm tT tB tE tL oO oR oQ zS zM zN oJ) [.ref (ad 0), .int (iI (x)), .int (iI (y))] "java/lang/IndexOutOfBoundsException" sa := by
  refine tm_of hl0 (cc := cX0_isCritical) (maxL := 5) (by decide) rfl (Nat.le_of_ble_eq_true rfl) ?_
  intro p e s m args below meth c Q hx hb hml hown hts hK hP hTX hTS hTO ls hl
  have hown : s.vm.findClass RX0 = some m.cls := hown
  have hl : lv_has ls 5 [(0, .ref (ad 0)), (1, .int (iI (x))), (2, .int (iI (y)))] := hl
  by_cases hc : 0 ≤ x ∧ x < (nn : Int)
  · refine lv_aload_n hx hb dX0_isCritical_0 rfl (lv_at hl 0 rfl) ?_
    refine lv_iload_n hx hb dX0_isCritical_1 rfl (lv_at hl 1 rfl) ?_
    refine w_pVv (As := [.int (iI (x))]) (rest := []) ⟨hx, hb, hml, hown, hts⟩ hK hP (mX0_requirePlace  (x := x) hn hm.2 (by omega) (by omega)) (cwV 1 hts gX0_isCritical_X0_requirePlace rfl rfl rfl (by decide +kernel) ⟨Nat.le_of_ble_eq_true rfl, Nat.le_of_ble_eq_true rfl⟩) (ci := 0) rfl rfl rfl rfl hl.1 rfl (Nat.le_of_ble_eq_true rfl) dX0_isCritical_2 ⟨Nat.zero_le _, Nat.zero_le _⟩ (fun hr2 => ?_)
    refine lv_aload_n hx hb dX0_isCritical_5 rfl (lv_at hl 0 rfl) ?_
    refine lv_iload_n hx hb dX0_isCritical_6 rfl (lv_at hl 2 rfl) ?_
    refine w_tV (As := [.int (iI (y))]) (rest := []) ⟨hx, hb, hml, hown, hts⟩ hK hP hTX (tX0_requireMachine  (x := (y : Int)) hl0 hn hm (by omega) (by omega)) (cwV 1 hts gX0_isCritical_X0_requireMachine rfl rfl rfl (by decide +kernel) ⟨Nat.le_of_ble_eq_true rfl, Nat.le_of_ble_eq_true rfl⟩) [0, 1, 2, 3, 4, 5, 6, 7, 8, 9, 10, 11] rfl (ci := 0) rfl rfl rfl rfl hl.1 rfl (Nat.le_of_ble_eq_true rfl) dX0_isCritical_7 ⟨Nat.le_of_ble_eq_true rfl, Nat.le_of_ble_eq_true rfl⟩ (fun q9 ce H1 hz hq hce hcv hcl => hTO _ _ _ q9 ce H1 hz hq hce hcv hcl)
  · refine lv_aload_n hx hb dX0_isCritical_0 rfl (lv_at hl 0 rfl) ?_
    refine lv_iload_n hx hb dX0_isCritical_1 rfl (lv_at hl 1 rfl) ?_
    refine w_tV (As := [.int (iI (x))]) (rest := []) ⟨hx, hb, hml, hown, hts⟩ hK hP hTX (tX0_requirePlace  (x := x) hl0 hn hm (by omega) (by omega)) (cwV 1 hts gX0_isCritical_X0_requirePlace rfl rfl rfl (by decide +kernel) ⟨Nat.le_of_ble_eq_true rfl, Nat.le_of_ble_eq_true rfl⟩) [0, 1, 2, 3, 4, 5, 6, 7, 8, 9, 10, 11] rfl (ci := 0) rfl rfl rfl rfl hl.1 rfl (Nat.le_of_ble_eq_true rfl) dX0_isCritical_2 ⟨Nat.le_of_ble_eq_true rfl, Nat.le_of_ble_eq_true rfl⟩ (fun q9 ce H1 hz hq hce hcv hcl => hTO _ _ _ q9 ce H1 hz hq hce hcv hcl)
set_option maxHeartbeats 4000000 in
set_option maxRecDepth 100000 in
theorem tX0_idle_1 {x y : Int} (hl0 : l.stackTraces = false) (hr9 : -2147483648 ≤ x ∧ x ≤ 2147483647) (hbad : ¬ (0 ≤ x ∧ x ≤ 2)) : TM l yX0_idle wsX0_idle (rmt 7 102) D (tyk cI cZ cJ) (xw ad cI cZ nn mm tT tB tE tL oO oR oQ zS zM zN oJ) [.ref (ad 0), .int (iI (x)), .int (iI (y))] "java/lang/IllegalArgumentException" sa := by
  refine tm_of hl0 (cc := cX0_idle) (maxL := 3) (by decide) rfl (Nat.le_of_ble_eq_true rfl) ?_
  intro p e s m args below meth c Q hx hb hml hown hts hK hP hTX hTS hTO ls hl
  have hown : s.vm.findClass RX0 = some m.cls := hown
  have hl : lv_has ls 3 [(0, .ref (ad 0)), (1, .int (iI (x))), (2, .int (iI (y)))] := hl
  refine lv_iload_n hx hb dX0_idle_0 rfl (lv_at hl 1 rfl) ?_
  refine w_tS (As := [.int (iI (x))]) (rest := []) ⟨hx, hb, hml, hown, hts⟩ hK hP hTX (tX0_requireVariant  (x := x) hl0 (by omega) hbad) (va_cwS 1 hts gX0_idle_X0_requireVariant rfl rfl rfl (by decide +kernel) ⟨Nat.le_of_ble_eq_true rfl, Nat.le_of_ble_eq_true rfl⟩) [0, 1, 2, 3, 4, 5, 6, 7, 8, 9, 10, 11] rfl rfl hl.1 rfl (Nat.le_of_ble_eq_true rfl) dX0_idle_1 ⟨Nat.le_of_ble_eq_true rfl, Nat.le_of_ble_eq_true rfl⟩ (fun q9 ce H1 hz hq hce hcv hcl => hTO _ _ _ q9 ce H1 hz hq hce hcv hcl)
set_option maxHeartbeats 4000000 in
set_option maxRecDepth 100000 in
theorem tX0_idle_2 {v : Nat} {x : Int} (hl0 : l.stackTraces = false) (hn : nn ≤ 7) (hm : 1 ≤ mm ∧ mm ≤ 5) (hv : v ≤ 2) (hr9 : -2147483648 ≤ x ∧ x ≤ 2147483647) (hbad : ¬ (0 ≤ x ∧ x < (mm : Int))) : TM l yX0_idle wsX0_idle (rmt 7 103) D (tyk cI cZ cJ) (xw ad cI cZ nn mm tT tB tE tL oO oR oQ zS zM zN oJ) [.ref (ad 0), .int (iI ((v : Int))), .int (iI (x))] "java/lang/IndexOutOfBoundsException" sa := by
  refine tm_of hl0 (cc := cX0_idle) (maxL := 3) (by decide) rfl (Nat.le_of_ble_eq_true rfl) ?_
  intro p e s m args below meth c Q hx hb hml hown hts hK hP hTX hTS hTO ls hl
  have hown : s.vm.findClass RX0 = some m.cls := hown
  have hl : lv_has ls 3 [(0, .ref (ad 0)), (1, .int (iI ((v : Int)))), (2, .int (iI (x)))] := hl
  refine lv_iload_n hx hb dX0_idle_0 rfl (lv_at hl 1 rfl) ?_
  refine w_pSv (As := [.int (iI ((v : Int)))]) (rest := []) ⟨hx, hb, hml, hown, hts⟩ hK hP (mX0_requireVariant  (x := (v : Int)) (by omega) (by omega)) (va_cwS 1 hts gX0_idle_X0_requireVariant rfl rfl rfl (by decide +kernel) ⟨Nat.le_of_ble_eq_true rfl, Nat.le_of_ble_eq_true rfl⟩) rfl hl.1 rfl (Nat.le_of_ble_eq_true rfl) dX0_idle_1 ⟨Nat.zero_le _, Nat.zero_le _⟩ (fun hr1 => ?_)
  refine lv_aload_n hx hb dX0_idle_4 rfl (lv_at hl 0 rfl) ?_
  refine lv_iload_n hx hb dX0_idle_5 rfl (lv_at hl 2 rfl) ?_
  refine w_tV (As := [.int (iI (x))]) (rest := []) ⟨hx, hb, hml, hown, hts⟩ hK hP hTX (tX0_requireMachine  (x := (x : Int)) hl0 hn hm (by omega) (by omega)) (cwV 1 hts gX0_idle_X0_requireMachine rfl rfl rfl (by decide +kernel) ⟨Nat.le_of_ble_eq_true rfl, Nat.le_of_ble_eq_true rfl⟩) [0, 1, 2, 3, 4, 5, 6, 7, 8, 9, 10, 11] rfl (ci := 0) rfl rfl rfl rfl hl.1 rfl (Nat.le_of_ble_eq_true rfl) dX0_idle_6 ⟨Nat.le_of_ble_eq_true rfl, Nat.le_of_ble_eq_true rfl⟩ (fun q9 ce H1 hz hq hce hcv hcl => hTO _ _ _ q9 ce H1 hz hq hce hcv hcl)
set_option maxHeartbeats 4000000 in
set_option maxRecDepth 100000 in
theorem tX0_machineBound {x : Int} (hl0 : l.stackTraces = false) (hn : nn ≤ 7) (hm : 1 ≤ mm ∧ mm ≤ 5) (hr9 : -2147483648 ≤ x ∧ x ≤ 2147483647) (hbad : ¬ (0 ≤ x ∧ x < (mm : Int))) : TM l yX0_machineBound wsX0_machineBound (rmt 7 103) D (tyk cI cZ cJ) (xw ad cI cZ nn mm tT tB tE tL oO oR oQ zS zM zN oJ) [.ref (ad 0), .int (iI (x))] "java/lang/IndexOutOfBoundsException" sa := by
  refine tm_of hl0 (cc := cX0_machineBound) (maxL := 2) (by decide) rfl (Nat.le_of_ble_eq_true rfl) ?_
  intro p e s m args below meth c Q hx hb hml hown hts hK hP hTX hTS hTO ls hl
  have hown : s.vm.findClass RX0 = some m.cls := hown
  have hl : lv_has ls 2 [(0, .ref (ad 0)), (1, .int (iI (x)))] := hl
  refine lv_aload_n hx hb dX0_machineBound_0 rfl (lv_at hl 0 rfl) ?_
  refine lv_iload_n hx hb dX0_machineBound_1 rfl (lv_at hl 1 rfl) ?_
  refine w_tV (As := [.int (iI (x))]) (rest := []) ⟨hx, hb, hml, hown, hts⟩ hK hP hTX (tX0_requireMachine  (x := (x : Int)) hl0 hn hm (by omega) (by omega)) (cwV 1 hts gX0_machineBound_X0_requireMachine rfl rfl rfl (by decide +kernel) ⟨Nat.le_of_ble_eq_true rfl, Nat.le_of_ble_eq_true rfl⟩) [0, 1, 2, 3, 4, 5, 6, 7, 8, 9, 10, 11] rfl (ci := 0) rfl rfl rfl rfl hl.1 rfl (Nat.le_of_ble_eq_true rfl) dX0_machineBound_2 ⟨Nat.le_of_ble_eq_true rfl, Nat.le_of_ble_eq_true rfl⟩ (fun q9 ce H1 hz hq hce hcv hcl => hTO _ _ _ q9 ce H1 hz hq hce hcv hcl)
set_option maxHeartbeats 4000000 in
set_option maxRecDepth 100000 in
theorem tX0_pairBound_1 {x y : Int} (hl0 : l.stackTraces = false) (hn : nn ≤ 7) (hm : 1 ≤ mm ∧ mm ≤ 5) (hr9 : -2147483648 ≤ x ∧ x ≤ 2147483647 ∧ -2147483648 ≤ y ∧ y ≤ 2147483647) (hbad : ¬ ((0 ≤ x ∧ x < (mm : Int)) ∧ 0 ≤ y ∧ y < (mm : Int))) : TM l yX0_pairBound wsX0_pairBound (rmt 7 103) D (tyk cI cZ cJ) (xw ad cI cZ nn mm tT tB tE tL oO oR oQ zS zM zN oJ) [.ref (ad 0), .int (iI (x)), .int (iI (y))] "java/lang/IndexOutOfBoundsException" sa := by
  refine tm_of hl0 (cc := cX0_pairBound) (maxL := 3) (by decide) rfl (Nat.le_of_ble_eq_true rfl) ?_
  intro p e s m args below meth c Q hx hb hml hown hts hK hP hTX hTS hTO ls hl
  have hown : s.vm.findClass RX0 = some m.cls := hown
  have hl : lv_has ls 3 [(0, .ref (ad 0)), (1, .int (iI (x))), (2, .int (iI (y)))] := hl
  by_cases hc : 0 ≤ x ∧ x < (mm : Int)
  · refine lv_aload_n hx hb dX0_pairBound_0 rfl (lv_at hl 0 rfl) ?_
    refine lv_iload_n hx hb dX0_pairBound_1 rfl (lv_at hl 1 rfl) ?_
    refine w_pVv (As := [.int (iI (x))]) (rest := []) ⟨hx, hb, hml, hown, hts⟩ hK hP (mX0_requireMachine  (x := x) hn hm.2 (by omega) (by omega)) (cwV 1 hts gX0_pairBound_X0_requireMachine rfl rfl rfl (by decide +kernel) ⟨Nat.le_of_ble_eq_true rfl, Nat.le_of_ble_eq_true rfl⟩) (ci := 0) rfl rfl rfl rfl hl.1 rfl (Nat.le_of_ble_eq_true rfl) dX0_pairBound_2 ⟨Nat.zero_le _, Nat.zero_le _⟩ (fun hr2 => ?_)
    refine lv_aload_n hx hb dX0_pairBound_5 rfl (lv_at hl 0 rfl) ?_
    refine lv_iload_n hx hb dX0_pairBound_6 rfl (lv_at hl 2 rfl) ?_
    refine w_tV (As := [.int (iI (y))]) (rest := []) ⟨hx, hb, hml, hown, hts⟩ hK hP hTX (tX0_requireMachine  (x := (y : Int)) hl0 hn hm (by omega) (by omega)) (cwV 1 hts gX0_pairBound_X0_requireMachine rfl rfl rfl (by decide +kernel) ⟨Nat.le_of_ble_eq_true rfl, Nat.le_of_ble_eq_true rfl⟩) [0, 1, 2, 3, 4, 5, 6, 7, 8, 9, 10, 11] rfl (ci := 0) rfl rfl rfl rfl hl.1 rfl (Nat.le_of_ble_eq_true rfl) dX0_pairBound_7 ⟨Nat.le_of_ble_eq_true rfl, Nat.le_of_ble_eq_true rfl⟩ (fun q9 ce H1 hz hq hce hcv hcl => hTO _ _ _ q9 ce H1 hz hq hce hcv hcl)
  · refine lv_aload_n hx hb dX0_pairBound_0 rfl (lv_at hl 0 rfl) ?_
    refine lv_iload_n hx hb dX0_pairBound_1 rfl (lv_at hl 1 rfl) ?_
    refine w_tV (As := [.int (iI (x))]) (rest := []) ⟨hx, hb, hml, hown, hts⟩ hK hP hTX (tX0_requireMachine  (x := x) hl0 hn hm (by omega) (by omega)) (cwV 1 hts gX0_pairBound_X0_requireMachine rfl rfl rfl (by decide +kernel) ⟨Nat.le_of_ble_eq_true rfl, Nat.le_of_ble_eq_true rfl⟩) [0, 1, 2, 3, 4, 5, 6, 7, 8, 9, 10, 11] rfl (ci := 0) rfl rfl rfl rfl hl.1 rfl (Nat.le_of_ble_eq_true rfl) dX0_pairBound_2 ⟨Nat.le_of_ble_eq_true rfl, Nat.le_of_ble_eq_true rfl⟩ (fun q9 ce H1 hz hq hce hcv hcl => hTO _ _ _ q9 ce H1 hz hq hce hcv hcl)
set_option maxHeartbeats 4000000 in
set_option maxRecDepth 100000 in
theorem tX0_pairBound_2 {a b : Nat} (hl0 : l.stackTraces = false) (hn : nn ≤ 7) (hm : 1 ≤ mm ∧ mm ≤ 5) (ha : a < mm) (hb7 : b < mm) (hab : b ≤ a) : TM l yX0_pairBound wsX0_pairBound (rmt 6 82) D (tyk cI cZ cJ) (xw ad cI cZ nn mm tT tB tE tL oO oR oQ zS zM zN oJ) [.ref (ad 0), .int (iI ((a : Int))), .int (iI ((b : Int)))] "java/lang/IllegalArgumentException" sa := by
  refine tm_of hl0 (cc := cX0_pairBound) (maxL := 3) (by decide) rfl (Nat.le_of_ble_eq_true rfl) ?_
  intro p e s m args below meth c Q hx hb hml hown hts hK hP hTX hTS hTO ls hl
  have hown : s.vm.findClass RX0 = some m.cls := hown
  have hl : lv_has ls 3 [(0, .ref (ad 0)), (1, .int (iI ((a : Int)))), (2, .int (iI ((b : Int))))] := hl
  refine lv_aload_n hx hb dX0_pairBound_0 rfl (lv_at hl 0 rfl) ?_
  refine lv_iload_n hx hb dX0_pairBound_1 rfl (lv_at hl 1 rfl) ?_
  refine w_pVv (As := [.int (iI ((a : Int)))]) (rest := []) ⟨hx, hb, hml, hown, hts⟩ hK hP (mX0_requireMachine  (x := (a : Int)) hn hm.2 (by omega) (by omega)) (cwV 1 hts gX0_pairBound_X0_requireMachine rfl rfl rfl (by decide +kernel) ⟨Nat.le_of_ble_eq_true rfl, Nat.le_of_ble_eq_true rfl⟩) (ci := 0) rfl rfl rfl rfl hl.1 rfl (Nat.le_of_ble_eq_true rfl) dX0_pairBound_2 ⟨Nat.zero_le _, Nat.zero_le _⟩ (fun hr2 => ?_)
  refine lv_aload_n hx hb dX0_pairBound_5 rfl (lv_at hl 0 rfl) ?_
  refine lv_iload_n hx hb dX0_pairBound_6 rfl (lv_at hl 2 rfl) ?_
  refine w_pVv (As := [.int (iI ((b : Int)))]) (rest := []) ⟨hx, hb, hml, hown, hts⟩ hK hP (mX0_requireMachine  (x := (b : Int)) hn hm.2 (by omega) (by omega)) (cwV 1 hts gX0_pairBound_X0_requireMachine rfl rfl rfl (by decide +kernel) ⟨Nat.le_of_ble_eq_true rfl, Nat.le_of_ble_eq_true rfl⟩) (ci := 0) rfl rfl rfl rfl hl.1 rfl (Nat.le_of_ble_eq_true rfl) dX0_pairBound_7 ⟨Nat.zero_le _, Nat.zero_le _⟩ (fun hr7 => ?_)
  refine lv_iload_n hx hb dX0_pairBound_10 rfl (lv_at hl 1 rfl) ?_
  refine lv_iload_n hx hb dX0_pairBound_11 rfl (lv_at hl 2 rfl) ?_
  refine w_icmp_lt (tgt := 25) hx hb dX0_pairBound_12 (by decide) ⟨by omega, by omega⟩ ⟨by omega, by omega⟩ (fun c12 => absurd c12 (by omega)) (fun c12 => ?_)
  have hat : ∀ w ∈ vx_atS RX0 65 "java/lang/IllegalArgumentException" ["java/lang/RuntimeException", "java/lang/Exception"], w.before args s = true := tx_hat hTX.2.2 (List.mem_of_getElem? (i := 1) rfl) (fun w h => hts w (by first | exact List.mem_cons_of_mem _ (List.mem_append_right _ h) | exact List.mem_cons_of_mem _ (List.mem_append_left _ (List.mem_append_right _ h)))) (by decide +kernel)
  exact hTS 15 61 123 65 _ _ ls (by decide +kernel) (hts (.classLink RX0 61 "java/lang/IllegalArgumentException") (List.mem_of_getElem? (i := 1) rfl)) (hts (.initialized "java/lang/IllegalArgumentException") (List.mem_of_getElem? (i := 2) rfl)) (hTX.2.1 _ (List.mem_of_getElem? (i := 8) rfl)) hat (by decide +kernel) hl.1 dX0_pairBound_15 dX0_pairBound_18 dX0_pairBound_19 dX0_pairBound_21 dX0_pairBound_24 (Nat.le_of_ble_eq_true rfl) (Nat.le_of_ble_eq_true rfl) (Nat.le_of_ble_eq_true rfl) (Nat.le_of_ble_eq_true rfl)
set_option maxHeartbeats 4000000 in
set_option maxRecDepth 100000 in
theorem tX0_best {x : Int} (hl0 : l.stackTraces = false) (hr9 : -2147483648 ≤ x ∧ x ≤ 2147483647) (hbad : ¬ (0 ≤ x ∧ x ≤ 2)) : TM l yX0_best wsX0_best (rmt 7 102) D (tyk cI cZ cJ) (xw ad cI cZ nn mm tT tB tE tL oO oR oQ zS zM zN oJ) [.ref (ad 0), .int (iI (x))] "java/lang/IllegalArgumentException" sa := by
  refine tm_of hl0 (cc := cX0_best) (maxL := 2) (by decide) rfl (Nat.le_of_ble_eq_true rfl) ?_
  intro p e s m args below meth c Q hx hb hml hown hts hK hP hTX hTS hTO ls hl
  have hown : s.vm.findClass RX0 = some m.cls := hown
  have hl : lv_has ls 2 [(0, .ref (ad 0)), (1, .int (iI (x)))] := hl
  refine lv_iload_n hx hb dX0_best_0 rfl (lv_at hl 1 rfl) ?_
  refine w_tS (As := [.int (iI (x))]) (rest := []) ⟨hx, hb, hml, hown, hts⟩ hK hP hTX (tX0_requireVariant  (x := x) hl0 (by omega) hbad) (va_cwS 1 hts gX0_best_X0_requireVariant rfl rfl rfl (by decide +kernel) ⟨Nat.le_of_ble_eq_true rfl, Nat.le_of_ble_eq_true rfl⟩) [0, 1, 2, 3, 4, 5, 6, 7, 8, 9, 10, 11] rfl rfl hl.1 rfl (Nat.le_of_ble_eq_true rfl) dX0_best_1 ⟨Nat.le_of_ble_eq_true rfl, Nat.le_of_ble_eq_true rfl⟩ (fun q9 ce H1 hz hq hce hcv hcl => hTO _ _ _ q9 ce H1 hz hq hce hcv hcl)
set_option maxHeartbeats 4000000 in
set_option maxRecDepth 100000 in
theorem tX0_bestAt_1 {x y : Int} (hl0 : l.stackTraces = false) (hr9 : -2147483648 ≤ x ∧ x ≤ 2147483647) (hbad : ¬ (0 ≤ x ∧ x ≤ 2)) : TM l yX0_bestAt wsX0_bestAt (rmt 7 102) D (tyk cI cZ cJ) (xw ad cI cZ nn mm tT tB tE tL oO oR oQ zS zM zN oJ) [.ref (ad 0), .int (iI (x)), .int (iI (y))] "java/lang/IllegalArgumentException" sa := by
  refine tm_of hl0 (cc := cX0_bestAt) (maxL := 3) (by decide) rfl (Nat.le_of_ble_eq_true rfl) ?_
  intro p e s m args below meth c Q hx hb hml hown hts hK hP hTX hTS hTO ls hl
  have hown : s.vm.findClass RX0 = some m.cls := hown
  have hl : lv_has ls 3 [(0, .ref (ad 0)), (1, .int (iI (x))), (2, .int (iI (y)))] := hl
  refine lv_iload_n hx hb dX0_bestAt_0 rfl (lv_at hl 1 rfl) ?_
  refine w_tS (As := [.int (iI (x))]) (rest := []) ⟨hx, hb, hml, hown, hts⟩ hK hP hTX (tX0_requireVariant  (x := x) hl0 (by omega) hbad) (va_cwS 1 hts gX0_bestAt_X0_requireVariant rfl rfl rfl (by decide +kernel) ⟨Nat.le_of_ble_eq_true rfl, Nat.le_of_ble_eq_true rfl⟩) [0, 1, 2, 3, 4, 5, 6, 7, 8, 9, 10, 11] rfl rfl hl.1 rfl (Nat.le_of_ble_eq_true rfl) dX0_bestAt_1 ⟨Nat.le_of_ble_eq_true rfl, Nat.le_of_ble_eq_true rfl⟩ (fun q9 ce H1 hz hq hce hcv hcl => hTO _ _ _ q9 ce H1 hz hq hce hcv hcl)
set_option maxHeartbeats 4000000 in
set_option maxRecDepth 100000 in
theorem tX0_bestAt_2 {v : Nat} {x : Int} (hl0 : l.stackTraces = false) (hn : nn ≤ 7) (hm : 1 ≤ mm ∧ mm ≤ 5) (hv : v ≤ 2) (hr9 : -2147483648 ≤ x ∧ x ≤ 2147483647) (hbad : ¬ (0 ≤ x ∧ x < (nn : Int))) : TM l yX0_bestAt wsX0_bestAt (rmt 7 103) D (tyk cI cZ cJ) (xw ad cI cZ nn mm tT tB tE tL oO oR oQ zS zM zN oJ) [.ref (ad 0), .int (iI ((v : Int))), .int (iI (x))] "java/lang/IndexOutOfBoundsException" sa := by
  refine tm_of hl0 (cc := cX0_bestAt) (maxL := 3) (by decide) rfl (Nat.le_of_ble_eq_true rfl) ?_
  intro p e s m args below meth c Q hx hb hml hown hts hK hP hTX hTS hTO ls hl
  have hown : s.vm.findClass RX0 = some m.cls := hown
  have hl : lv_has ls 3 [(0, .ref (ad 0)), (1, .int (iI ((v : Int)))), (2, .int (iI (x)))] := hl
  refine lv_iload_n hx hb dX0_bestAt_0 rfl (lv_at hl 1 rfl) ?_
  refine w_pSv (As := [.int (iI ((v : Int)))]) (rest := []) ⟨hx, hb, hml, hown, hts⟩ hK hP (mX0_requireVariant  (x := (v : Int)) (by omega) (by omega)) (va_cwS 1 hts gX0_bestAt_X0_requireVariant rfl rfl rfl (by decide +kernel) ⟨Nat.le_of_ble_eq_true rfl, Nat.le_of_ble_eq_true rfl⟩) rfl hl.1 rfl (Nat.le_of_ble_eq_true rfl) dX0_bestAt_1 ⟨Nat.zero_le _, Nat.zero_le _⟩ (fun hr1 => ?_)
  refine lv_aload_n hx hb dX0_bestAt_4 rfl (lv_at hl 0 rfl) ?_
  refine lv_iload_n hx hb dX0_bestAt_5 rfl (lv_at hl 2 rfl) ?_
  refine w_tV (As := [.int (iI (x))]) (rest := []) ⟨hx, hb, hml, hown, hts⟩ hK hP hTX (tX0_requirePlace  (x := (x : Int)) hl0 hn hm (by omega) (by omega)) (cwV 1 hts gX0_bestAt_X0_requirePlace rfl rfl rfl (by decide +kernel) ⟨Nat.le_of_ble_eq_true rfl, Nat.le_of_ble_eq_true rfl⟩) [0, 1, 2, 3, 4, 5, 6, 7, 8, 9, 10, 11] rfl (ci := 0) rfl rfl rfl rfl hl.1 rfl (Nat.le_of_ble_eq_true rfl) dX0_bestAt_6 ⟨Nat.le_of_ble_eq_true rfl, Nat.le_of_ble_eq_true rfl⟩ (fun q9 ce H1 hz hq hce hcv hcl => hTO _ _ _ q9 ce H1 hz hq hce hcv hcl)
set_option maxHeartbeats 4000000 in
set_option maxRecDepth 100000 in
theorem tX0_bestOrders {x : Int} (hl0 : l.stackTraces = false) (hr9 : -2147483648 ≤ x ∧ x ≤ 2147483647) (hbad : ¬ (0 ≤ x ∧ x ≤ 2)) : TM l yX0_bestOrders wsX0_bestOrders (rmt 7 102) D (tyk cI cZ cJ) (xw ad cI cZ nn mm tT tB tE tL oO oR oQ zS zM zN oJ) [.ref (ad 0), .int (iI (x))] "java/lang/IllegalArgumentException" sa := by
  refine tm_of hl0 (cc := cX0_bestOrders) (maxL := 2) (by decide) rfl (Nat.le_of_ble_eq_true rfl) ?_
  intro p e s m args below meth c Q hx hb hml hown hts hK hP hTX hTS hTO ls hl
  have hown : s.vm.findClass RX0 = some m.cls := hown
  have hl : lv_has ls 2 [(0, .ref (ad 0)), (1, .int (iI (x)))] := hl
  refine lv_iload_n hx hb dX0_bestOrders_0 rfl (lv_at hl 1 rfl) ?_
  refine w_tS (As := [.int (iI (x))]) (rest := []) ⟨hx, hb, hml, hown, hts⟩ hK hP hTX (tX0_requireVariant  (x := x) hl0 (by omega) hbad) (va_cwS 1 hts gX0_bestOrders_X0_requireVariant rfl rfl rfl (by decide +kernel) ⟨Nat.le_of_ble_eq_true rfl, Nat.le_of_ble_eq_true rfl⟩) [0, 1, 2, 3, 4, 5, 6, 7, 8, 9, 10, 11] rfl rfl hl.1 rfl (Nat.le_of_ble_eq_true rfl) dX0_bestOrders_1 ⟨Nat.le_of_ble_eq_true rfl, Nat.le_of_ble_eq_true rfl⟩ (fun q9 ce H1 hz hq hce hcv hcl => hTO _ _ _ q9 ce H1 hz hq hce hcv hcl)
end
