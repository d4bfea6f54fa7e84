section
variable {l : Launch} {D : va_G} {cI cZ cJ : ClassId} {ad bd : Nat → Nat} {a0 : Nat} {ws : va_W} {nn mm : Nat} {th bm : Int} {tT tB tE tL : Nat → Int} {oO oR oQ : Nat → Nat} {zS zM zN : Nat → Int} {oJ fF : Nat → Nat}
set_option maxHeartbeats 4000000 in
set_option maxRecDepth 100000 in
theorem mX0_makespanIfShifted {fr to c0 : Nat} (hT : ∀ k, 0 ≤ tT k ∧ tT k ≤ 99) (hn : nn ≤ 7) (hm : 1 ≤ mm ∧ mm ≤ 5) (hc : c0 ≤ nn) (hf : fr < c0) (ht : to < c0) (hO : ∀ k, k < nn → oO k < 7) : IM l yX0_makespanIfShifted wsX0_makespanIfShifted (rmx 4 95) D (tyk cI cZ cJ) (xw ad cI cZ nn mm tT tB tE tL oO oR oQ zS zM zN oJ) [.ref (ad 0), .int (iI ((fr : Int))), .int (iI ((to : Int))), .int (iI ((c0 : Int)))] (QI D (tyk cI cZ cJ) (fun u : (Nat → Nat) × (Nat → Int) × (Nat → Int) => xw ad cI cZ nn mm tT u.2.1 u.2.2 tL oO u.1 oQ zS zM zN oJ) (fun x u => x = iI (mkS tT mm oO fr c0 to))) := by
  refine imI_of (cc := cX0_makespanIfShifted) (maxL := 5) (by decide) rfl (Nat.le_of_ble_eq_true rfl) ?_
  intro p e s m args below meth c A Q hx hb hml hown hts hA hK hP hD hS hret ls hl
  have hown : s.vm.findClass RX0 = some m.cls := hown
  have hl : lv_has ls 5 [(0, .ref (ad 0)), (1, .int (iI ((fr : Int)))), (2, .int (iI ((to : Int)))), (3, .int (iI ((c0 : Int))))] := hl
  have inW : ∀ w ∈ wsX00, w ∈ wsX0_makespanIfShifted := by first | exact (fun w h => List.mem_cons_of_mem _ (List.mem_append_right _ h)) | exact (fun w h => List.mem_cons_of_mem _ (List.mem_append_left _ (List.mem_append_right _ h))) | exact (fun w h => List.mem_cons_of_mem _ (List.mem_append_left _ (List.mem_append_left _ (List.mem_append_right _ h)))) | decide +kernel
  refine lv_aload_n hx hb dX0_makespanIfShifted_0 rfl (lv_at hl 0 rfl) ?_
  refine va_get (D := D) (ci := 0) (C := RX0) (T := TX0) (N := 13) hx hb hts inW hown hK hP 0 rfl rfl 6 (by decide) (hts (.fieldLink RX0 29 "Flowforge" "order" "[I") (List.mem_of_getElem? (i := 1) rfl)) (fun _ h9 => h9) rfl dX0_makespanIfShifted_1 ?_
  refine lv_iconst (v := iI 0) hx hb dX0_makespanIfShifted_4 rfl ?_
  refine lv_aload_n hx hb dX0_makespanIfShifted_5 rfl (lv_at hl 0 rfl) ?_
  refine va_get (D := D) (ci := 0) (C := RX0) (T := TX0) (N := 13) hx hb hts inW hown hK hP 0 rfl rfl 7 (by decide) (hts (.fieldLink RX0 32 "Flowforge" "trial" "[I") (List.mem_of_getElem? (i := 2) rfl)) (fun _ h9 => h9) rfl dX0_makespanIfShifted_6 ?_
  refine lv_iconst (v := iI 0) hx hb dX0_makespanIfShifted_9 rfl ?_
  refine lv_iload_n hx hb dX0_makespanIfShifted_10 rfl (lv_at hl 3 rfl) ?_
  refine w_copy (ws' := xw ad cI cZ nn mm tT tB tE tL oO (va_cpy oO oR 0 0 c0) oQ zS zM zN oJ) (g2 := jI (va_cpy oO oR 0 0 c0)) hx hb (hml.trans hl.1.symm) hown (hts (.methodLink RX0 150 arraycopyName) (List.mem_of_getElem? (i := 3) rfl)) (hts (.native arraycopyName) (List.mem_of_getElem? (i := 4) rfl)) (hts (.static arraycopyName) (List.mem_of_getElem? (i := 5) rfl)) (hts (.initialized "java/lang/System") (List.mem_of_getElem? (i := 6) rfl)) hK hP hD hS 5 6 rfl rfl rfl (0) (0) (c0) (by omega) (by omega) (by omega) (by omega) (by omega) (Nat.le_of_ble_eq_true rfl) (Nat.le_of_ble_eq_true rfl) (by decide) jI_cpy rfl dX0_makespanIfShifted_11 (fun H locs hP hD hS => ?_)
  refine lv_aload_n hx hb dX0_makespanIfShifted_14 rfl (lv_at hl 0 rfl) ?_
  refine va_get (D := D) (ci := 0) (C := RX0) (T := TX0) (N := 13) hx hb hts inW hown hK hP 0 rfl rfl 7 (by decide) (hts (.fieldLink RX0 32 "Flowforge" "trial" "[I") (List.mem_of_getElem? (i := 2) rfl)) (fun _ h9 => h9) rfl dX0_makespanIfShifted_15 ?_
  refine lv_iload_n hx hb dX0_makespanIfShifted_18 rfl (lv_at hl 1 rfl) ?_
  refine lv_iload_n hx hb dX0_makespanIfShifted_19 rfl (lv_at hl 2 rfl) ?_
  refine w_iSv (As := [.ref (ad 6), .int (iI ((fr : Int))), .int (iI ((to : Int)))]) (rest := []) (wf := fun u : Unit => xw ad cI cZ nn mm tT tB tE tL oO (shf (va_cpy oO oR 0 0 c0) fr to) oQ zS zM zN oJ) (wr := (xw ad cI cZ nn mm tT tB tE tL oO (va_cpy oO oR 0 0 c0) oQ zS zM zN oJ).eraseIdx 6) ⟨hx, hb, hml, hown, hts⟩ hK hP hD hS hA (mX0_shift  (by omega) (by omega)) (va_cwS 3 hts gX0_makespanIfShifted_X0_shift rfl rfl rfl (by decide +kernel) ⟨Nat.le_of_ble_eq_true rfl, Nat.le_of_ble_eq_true rfl⟩) [6] [0, 1, 2, 3, 4, 5, 7, 8, 9, 10, 11] [0, 1, 2, 3, 4, 5, 11, 6, 7, 8, 9, 10] rfl rfl (by decide) (by decide) (by decide) (hwf := fun _ => rfl) (by decide) rfl hl.1 rfl (Nat.le_of_ble_eq_true rfl) dX0_makespanIfShifted_20 ⟨Nat.zero_le _, Nat.zero_le _⟩ (fun u H locs hr20 hP hD hS => ?_)
  have hr9 : ∀ k, k < c0 → (shf (va_cpy oO oR 0 0 c0) fr to) k < 7 := shf_lt hf ht (fun k hk => by rw [cpy_in hk]; exact hO k (by omega))
  refine lv_iconst (v := iI 0) hx hb dX0_makespanIfShifted_23 rfl ?_
  refine lv_istore (lv' := [(4, .int (iI 0)), (0, .ref (ad 0)), (1, .int (iI ((fr : Int)))), (2, .int (iI ((to : Int)))), (3, .int (iI ((c0 : Int))))]) hx hb dX0_makespanIfShifted_24 hl (by decide) rfl (fun ls hl => ?_)
  have L26 : ∀ (fu : Nat) (i : Nat) (wbegins26 : Nat → Int) (wends26 : Nat → Int) (x4_26 : Int), (i ≤ c0) → (rows 0 mm tT (shf (va_cpy oO oR 0 0 c0) fr to) wbegins26 wends26 i) → (x4_26 = (i : Int)) → c0 - i < fu → ∀ (H : Heap) (locs : List Loc), va_P D vwCl (xw ad cI cZ nn mm tT wbegins26 wends26 tL oO (shf (va_cpy oO oR 0 0 c0) fr to) oQ zS zM zN oJ) H → va_D A (xw ad cI cZ nn mm tT wbegins26 wends26 tL oO (shf (va_cpy oO oR 0 0 c0) fr to) oQ zS zM zN oJ) → va_S A s.heap H locs → ∀ ls : Array Slot, lv_has ls 5 [(4, .int (iI (x4_26))), (0, .ref (ad 0)), (1, .int (iI ((fr : Int)))), (2, .int (iI ((to : Int)))), (3, .int (iI ((c0 : Int))))] → W p l e (rmx 4 95) s m args below meth c H locs 0 0 Q (F0 m 26 ls []) := by
    intro fu
    induction fu with
    | zero =>
      intro i wbegins26 wends26 x4_26 hi hI hq0 hfu
      exact absurd hfu (Nat.not_lt_zero _)
    | succ fu ih =>
      intro i wbegins26 wends26 x4_26 hi hI hq0 hfu H locs hP hD hS ls hl
      subst hq0
      have ih26 := ih
      refine lv_iload hx hb dX0_makespanIfShifted_26 (lv_at hl 0 rfl) ?_
      refine lv_iload_n hx hb dX0_makespanIfShifted_28 rfl (lv_at hl 4 rfl) ?_
      refine w_icmp_ge (tgt := 52) hx hb dX0_makespanIfShifted_29 (by decide) ⟨by omega, by omega⟩ ⟨by omega, by omega⟩ (fun c29 => ?_) (fun c29 => ?_)
      · obtain rfl : c0 = i := by omega
        refine lv_aload_n hx hb dX0_makespanIfShifted_52 rfl (lv_at hl 1 rfl) ?_
        refine lv_iload_n hx hb dX0_makespanIfShifted_53 rfl (lv_at hl 4 rfl) ?_
        refine w_pV (As := [.int (iI ((c0 : Int)))]) (rest := []) ⟨hx, hb, hml, hown, hts⟩ hK hP (mX0_lastEnd  hm (by omega)) (cwV 1 hts gX0_makespanIfShifted_X0_lastEnd rfl rfl rfl (by decide +kernel) ⟨Nat.le_of_ble_eq_true rfl, Nat.le_of_ble_eq_true rfl⟩) (ci := 0) rfl rfl rfl rfl hl.1 rfl (Nat.le_of_ble_eq_true rfl) dX0_makespanIfShifted_54 ⟨Nat.zero_le _, Nat.zero_le _⟩ (fun r54 hr54 => ?_)
        refine w_top (v := iI ((mkS tT mm oO fr c0 to))) (hr54.trans (congrArg iI ((lstE_rows hm.1 hI).trans (mk_cg (shf_cg hf ht (fun k hk => cpy_in hk)))))) ?_
        exact hret _ _ 57 ls _ ((shf (va_cpy oO oR 0 0 c0) fr to, wbegins26, wends26)) hP hD hS (rfl) dX0_makespanIfShifted_57
      · refine lv_aload_n hx hb dX0_makespanIfShifted_32 rfl (lv_at hl 1 rfl) ?_
        refine lv_iconst (v := iI 0) hx hb dX0_makespanIfShifted_33 rfl ?_
        refine lv_iload hx hb dX0_makespanIfShifted_34 (lv_at hl 0 rfl) ?_
        refine lv_aload_n hx hb dX0_makespanIfShifted_36 rfl (lv_at hl 1 rfl) ?_
        refine va_get (D := D) (ci := 0) (C := RX0) (T := TX0) (N := 13) hx hb hts inW hown hK hP 0 rfl rfl 7 (by decide) (hts (.fieldLink RX0 32 "Flowforge" "trial" "[I") (List.mem_of_getElem? (i := 2) rfl)) (fun _ h9 => h9) rfl dX0_makespanIfShifted_37 ?_
        refine lv_iload hx hb dX0_makespanIfShifted_40 (lv_at hl 0 rfl) ?_
        refine w_iald (v := iI (((shf (va_cpy oO oR 0 0 c0) fr to) i : Nat) : Int)) hx hb hK hP 6 0 rfl rfl (i) (by omega) (by omega) (by decide) rfl dX0_makespanIfShifted_42 ?_
        refine w_iVv (As := [.int (iI 0), .int (iI ((i : Int))), .int (iI ((((((shf (va_cpy oO oR 0 0 c0) fr to) i)) : Nat) : Int)))]) (rest := []) (wf := fun u : Unit => xw ad cI cZ nn mm tT (pt wbegins26 (sjB 0 mm tT i (((shf (va_cpy oO oR 0 0 c0) fr to) i)) wbegins26 wends26) (5 * i) mm) (pt wends26 (sjE 0 mm tT i (((shf (va_cpy oO oR 0 0 c0) fr to) i)) wbegins26 wends26) (5 * i) mm) tL oO (shf (va_cpy oO oR 0 0 c0) fr to) oQ zS zM zN oJ) (wr := []) ⟨hx, hb, hml, hown, hts⟩ hK hP hD hS hA (mX0_scheduleJob  (v := 0) hT hm (by omega) (by omega) (hr9 i (by omega)) (rows_rg hm.2 hT (by omega) hI)) (cwV 3 hts gX0_makespanIfShifted_X0_scheduleJob rfl rfl rfl (by decide +kernel) ⟨Nat.le_of_ble_eq_true rfl, Nat.le_of_ble_eq_true rfl⟩) [0, 1, 2, 3, 4, 5, 6, 7, 8, 9, 10, 11] [] [0, 1, 2, 3, 4, 5, 6, 7, 8, 9, 10, 11] rfl rfl (by decide) (by decide) (by decide) (hwf := fun _ => rfl) (by decide) (ci := 0) rfl rfl rfl rfl hl.1 (by rw [show (((((shf (va_cpy oO oR 0 0 c0) fr to) i : Nat) : Int)) : Int) = (((((shf (va_cpy oO oR 0 0 c0) fr to) i)) : Nat) : Int) by omega]; try rfl) (Nat.le_of_ble_eq_true rfl) dX0_makespanIfShifted_43 ⟨Nat.zero_le _, Nat.zero_le _⟩ (fun u H locs hr43 hP hD hS => ?_)
        refine lv_iinc (v := iI ((i : Int) + 1)) (lv' := [(4, .int (iI ((i : Int) + 1))), (0, .ref (ad 0)), (1, .int (iI ((fr : Int)))), (2, .int (iI ((to : Int)))), (3, .int (iI ((c0 : Int))))]) hx hb dX0_makespanIfShifted_46 hl (k := 0) rfl (iI_inc (by omega)) (by decide) rfl (fun ls hl => ?_)
        refine lv_goto (tgt := 26) hx hb dX0_makespanIfShifted_49 (by decide) ?_
        exact ih26 (i + 1) (pt wbegins26 (sjB 0 mm tT i (((shf (va_cpy oO oR 0 0 c0) fr to) i)) wbegins26 wends26) (5 * i) mm) (pt wends26 (sjE 0 mm tT i (((shf (va_cpy oO oR 0 0 c0) fr to) i)) wbegins26 wends26) (5 * i) mm) ((i : Int) + 1) (by omega) (rows_s hm.2 hI) (by omega) (by omega) _ _ hP hD hS ls (lv_sub hl [0, 1, 2, 3, 4] rfl)
  exact L26 (c0 - 0 + 1) 0 tB tE (0) (by omega) (rows_0) (by omega) (Nat.lt_succ_self _) _ _ hP hD hS ls (lv_sub hl [0, 1, 2, 3, 4] rfl)
set_option maxHeartbeats 4000000 in
set_option maxRecDepth 100000 in
theorem mX0_placeForLast {la : Nat} (hT : ∀ k, 0 ≤ tT k ∧ tT k ≤ 99) (hn : nn ≤ 7) (hm : 1 ≤ mm ∧ mm ≤ 5) (hla : la < nn) (hO : ∀ k, k < nn → oO k < 7) : IM l yX0_placeForLast wsX0_placeForLast (rmx 5 119) D (tyk cI cZ cJ) (xw ad cI cZ nn mm tT tB tE tL oO oR oQ zS zM zN oJ) [.ref (ad 0), .int (iI ((la : Int)))] (QI D (tyk cI cZ cJ) (fun u : (Nat → Nat) × (Nat → Int) × (Nat → Int) => xw ad cI cZ nn mm tT u.2.1 u.2.2 tL oO u.1 oQ zS zM zN oJ) (fun x u => x = iI ((amin (mkS tT mm oO la (la + 1)) la : Nat) : Int))) := by
  refine imI_of (cc := cX0_placeForLast) (maxL := 6) (by decide) rfl (Nat.le_of_ble_eq_true rfl) ?_
  intro p e s m args below meth c A Q hx hb hml hown hts hA hK hP hD hS hret ls hl
  have hown : s.vm.findClass RX0 = some m.cls := hown
  have hl : lv_has ls 6 [(0, .ref (ad 0)), (1, .int (iI ((la : Int))))] := hl
  refine lv_iconst (v := iI 0) hx hb dX0_placeForLast_0 rfl ?_
  refine lv_istore_n (lv' := [(2, .int (iI 0)), (0, .ref (ad 0)), (1, .int (iI ((la : Int))))]) hx hb dX0_placeForLast_1 rfl hl (by decide) rfl (fun ls hl => ?_)
  refine lv_aload_n hx hb dX0_placeForLast_2 rfl (lv_at hl 1 rfl) ?_
  refine lv_iload_n hx hb dX0_placeForLast_3 rfl (lv_at hl 2 rfl) ?_
  refine lv_iconst (v := iI 0) hx hb dX0_placeForLast_4 rfl ?_
  refine lv_iload_n hx hb dX0_placeForLast_5 rfl (lv_at hl 2 rfl) ?_
  refine lv_iconst (v := iI 1) hx hb dX0_placeForLast_6 rfl ?_
  refine w_iadd (z := (la : Int) + 1) hx hb dX0_placeForLast_7 (by omega) ?_
  refine w_iV (As := [.int (iI ((la : Int))), .int (iI 0), .int (iI ((((la + 1) : Nat) : Int)))]) (rest := []) (wf := fun u : (Nat → Nat) × (Nat → Int) × (Nat → Int) => xw ad cI cZ nn mm tT u.2.1 u.2.2 tL oO u.1 oQ zS zM zN oJ) (wr := []) ⟨hx, hb, hml, hown, hts⟩ hK hP hD hS hA (mX0_makespanIfShifted (to := 0) hT hn hm (by omega) (by omega) (by omega) hO) (cwV 3 hts gX0_placeForLast_X0_makespanIfShifted rfl rfl rfl (by decide +kernel) ⟨Nat.le_of_ble_eq_true rfl, Nat.le_of_ble_eq_true rfl⟩) [0, 1, 2, 3, 4, 5, 6, 7, 8, 9, 10, 11] [] [0, 1, 2, 3, 4, 5, 6, 7, 8, 9, 10, 11] rfl rfl (by decide) (by decide) (by decide) (hwf := fun _ => rfl) (by decide) (ci := 0) rfl rfl rfl rfl hl.1 (by rw [show (((la : Int) + 1) : Int) = (((la + 1) : Nat) : Int) by omega]; try rfl) (Nat.le_of_ble_eq_true rfl) dX0_placeForLast_8 ⟨Nat.zero_le _, Nat.zero_le _⟩ (fun r8 u H locs hr8 hP hD hS => ?_)
  obtain ⟨uR, uB, uE⟩ := u
  have hP : va_P D vwCl (xw ad cI cZ nn mm tT uB uE tL oO uR oQ zS zM zN oJ) H := hP
  have hD : va_D A (xw ad cI cZ nn mm tT uB uE tL oO uR oQ zS zM zN oJ) := hD
  refine w_top (v := iI ((mkS tT mm oO la (la + 1) 0))) (hr8) ?_
  refine lv_istore_n (lv' := [(3, .int (iI ((mkS tT mm oO la (la + 1) 0)))), (2, .int (iI 0)), (0, .ref (ad 0)), (1, .int (iI ((la : Int))))]) hx hb dX0_placeForLast_11 rfl hl (by decide) rfl (fun ls hl => ?_)
  refine lv_iconst (v := iI 1) hx hb dX0_placeForLast_12 rfl ?_
  refine lv_istore (lv' := [(4, .int (iI 1)), (3, .int (iI ((mkS tT mm oO la (la + 1) 0)))), (2, .int (iI 0)), (0, .ref (ad 0)), (1, .int (iI ((la : Int))))]) hx hb dX0_placeForLast_13 hl (by decide) rfl (fun ls hl => ?_)
  have L15 : ∀ (fu : Nat) (i : Nat) (wtrial15 : Nat → Nat) (wbegins15 : Nat → Int) (wends15 : Nat → Int) (x4_15 : Int) (x3_15 : Int) (x2_15 : Int), (i ≤ la) → (x4_15 = (i : Int) + 1) → (x3_15 = ((mkS tT mm oO la (la + 1)) (amin (mkS tT mm oO la (la + 1)) i))) → (x2_15 = ((amin (mkS tT mm oO la (la + 1)) i : Nat) : Int)) → la - i < fu → ∀ (H : Heap) (locs : List Loc), va_P D vwCl (xw ad cI cZ nn mm tT wbegins15 wends15 tL oO wtrial15 oQ zS zM zN oJ) H → va_D A (xw ad cI cZ nn mm tT wbegins15 wends15 tL oO wtrial15 oQ zS zM zN oJ) → va_S A s.heap H locs → ∀ ls : Array Slot, lv_has ls 6 [(4, .int (iI (x4_15))), (3, .int (iI (x3_15))), (2, .int (iI (x2_15))), (0, .ref (ad 0)), (1, .int (iI ((la : Int))))] → W p l e (rmx 5 119) s m args below meth c H locs 0 0 Q (F0 m 15 ls []) := by
    intro fu
    induction fu with
    | zero =>
      intro i wtrial15 wbegins15 wends15 x4_15 x3_15 x2_15 hi hq0 hq1 hq2 hfu
      exact absurd hfu (Nat.not_lt_zero _)
    | succ fu ih =>
      intro i wtrial15 wbegins15 wends15 x4_15 x3_15 x2_15 hi hq0 hq1 hq2 hfu H locs hP hD hS ls hl
      subst hq0
      subst hq1
      subst hq2
      have ih15 := ih
      have h9 := mkS_rg (o := oO) (a := la) (c := la + 1) hm hT (by omega)
      have h8 := h9 (amin (mkS tT mm oO la (la + 1)) i)
      have h7 := h9 (i + 1)
      refine lv_iload hx hb dX0_placeForLast_15 (lv_at hl 0 rfl) ?_
      refine lv_iload_n hx hb dX0_placeForLast_17 rfl (lv_at hl 4 rfl) ?_
      refine w_icmp_gt (tgt := 51) hx hb dX0_placeForLast_18 (by decide) ⟨by omega, by omega⟩ ⟨by omega, by omega⟩ (fun c18 => ?_) (fun c18 => ?_)
      · obtain rfl : la = i := by omega
        refine lv_iload_n hx hb dX0_placeForLast_51 rfl (lv_at hl 2 rfl) ?_
        exact hret _ _ 52 ls _ ((wtrial15, wbegins15, wends15)) hP hD hS (rfl) dX0_placeForLast_52
      · refine lv_aload_n hx hb dX0_placeForLast_21 rfl (lv_at hl 3 rfl) ?_
        refine lv_iload_n hx hb dX0_placeForLast_22 rfl (lv_at hl 4 rfl) ?_
        refine lv_iload hx hb dX0_placeForLast_23 (lv_at hl 0 rfl) ?_
        refine lv_iload_n hx hb dX0_placeForLast_25 rfl (lv_at hl 4 rfl) ?_
        refine lv_iconst (v := iI 1) hx hb dX0_placeForLast_26 rfl ?_
        refine w_iadd (z := (la : Int) + 1) hx hb dX0_placeForLast_27 (by omega) ?_
        refine w_iV (As := [.int (iI ((la : Int))), .int (iI ((((i + 1) : Nat) : Int))), .int (iI ((((la + 1) : Nat) : Int)))]) (rest := []) (wf := fun u : (Nat → Nat) × (Nat → Int) × (Nat → Int) => xw ad cI cZ nn mm tT u.2.1 u.2.2 tL oO u.1 oQ zS zM zN oJ) (wr := []) ⟨hx, hb, hml, hown, hts⟩ hK hP hD hS hA (mX0_makespanIfShifted (to := i + 1) hT hn hm (by omega) (by omega) (by omega) hO) (cwV 3 hts gX0_placeForLast_X0_makespanIfShifted rfl rfl rfl (by decide +kernel) ⟨Nat.le_of_ble_eq_true rfl, Nat.le_of_ble_eq_true rfl⟩) [0, 1, 2, 3, 4, 5, 6, 7, 8, 9, 10, 11] [] [0, 1, 2, 3, 4, 5, 6, 7, 8, 9, 10, 11] rfl rfl (by decide) (by decide) (by decide) (hwf := fun _ => rfl) (by decide) (ci := 0) rfl rfl rfl rfl hl.1 (by rw [show (((i : Int) + 1) : Int) = (((i + 1) : Nat) : Int) by omega]; rw [show (((la : Int) + 1) : Int) = (((la + 1) : Nat) : Int) by omega]; try rfl) (Nat.le_of_ble_eq_true rfl) dX0_placeForLast_28 ⟨Nat.zero_le _, Nat.zero_le _⟩ (fun r28 u H locs hr28 hP hD hS => ?_)
        obtain ⟨uR, uB, uE⟩ := u
        have hP : va_P D vwCl (xw ad cI cZ nn mm tT uB uE tL oO uR oQ zS zM zN oJ) H := hP
        have hD : va_D A (xw ad cI cZ nn mm tT uB uE tL oO uR oQ zS zM zN oJ) := hD
        refine w_top (v := iI ((mkS tT mm oO la (la + 1) (i + 1)))) (hr28) ?_
        refine lv_istore (lv' := [(5, .int (iI ((mkS tT mm oO la (la + 1) (i + 1))))), (4, .int (iI ((i : Int) + 1))), (3, .int (iI (((mkS tT mm oO la (la + 1)) (amin (mkS tT mm oO la (la + 1)) i))))), (2, .int (iI (((amin (mkS tT mm oO la (la + 1)) i : Nat) : Int)))), (0, .ref (ad 0)), (1, .int (iI ((la : Int))))]) hx hb dX0_placeForLast_31 hl (by decide) rfl (fun ls hl => ?_)
        refine lv_iload hx hb dX0_placeForLast_33 (lv_at hl 0 rfl) ?_
        refine lv_iload_n hx hb dX0_placeForLast_35 rfl (lv_at hl 2 rfl) ?_
        refine w_icmp_ge (tgt := 45) hx hb dX0_placeForLast_36 (by decide) ⟨by omega, by omega⟩ ⟨by omega, by omega⟩ (fun c36 => ?_) (fun c36 => ?_)
        · have e7 : amin (mkS tT mm oO la (la + 1)) (i + 1) = amin (mkS tT mm oO la (la + 1)) i := if_neg (by omega)
          refine lv_iinc (v := iI ((i : Int) + 2)) (lv' := [(4, .int (iI ((i : Int) + 2))), (5, .int (iI ((mkS tT mm oO la (la + 1) (i + 1))))), (3, .int (iI (((mkS tT mm oO la (la + 1)) (amin (mkS tT mm oO la (la + 1)) i))))), (2, .int (iI (((amin (mkS tT mm oO la (la + 1)) i : Nat) : Int)))), (0, .ref (ad 0)), (1, .int (iI ((la : Int))))]) hx hb dX0_placeForLast_45 hl (k := 1) rfl (iI_inc (by omega)) (by decide) rfl (fun ls hl => ?_)
          refine lv_goto (tgt := 15) hx hb dX0_placeForLast_48 (by decide) ?_
          exact ih15 (i + 1) uR uB uE ((i : Int) + 2) (((mkS tT mm oO la (la + 1)) (amin (mkS tT mm oO la (la + 1)) i))) (((amin (mkS tT mm oO la (la + 1)) i : Nat) : Int)) (by omega) (by omega) (by rw [e7]) (by rw [e7]; try omega) (by omega) _ _ hP hD hS ls (lv_sub hl [0, 2, 3, 4, 5] rfl)
        · have e7 : amin (mkS tT mm oO la (la + 1)) (i + 1) = i + 1 := if_pos (by omega)
          refine lv_iload hx hb dX0_placeForLast_39 (lv_at hl 0 rfl) ?_
          refine lv_istore_n (lv' := [(3, .int (iI ((mkS tT mm oO la (la + 1) (i + 1))))), (5, .int (iI ((mkS tT mm oO la (la + 1) (i + 1))))), (4, .int (iI ((i : Int) + 1))), (2, .int (iI (((amin (mkS tT mm oO la (la + 1)) i : Nat) : Int)))), (0, .ref (ad 0)), (1, .int (iI ((la : Int))))]) hx hb dX0_placeForLast_41 rfl hl (by decide) rfl (fun ls hl => ?_)
          refine lv_iload hx hb dX0_placeForLast_42 (lv_at hl 2 rfl) ?_
          refine lv_istore_n (lv' := [(2, .int (iI ((i : Int) + 1))), (3, .int (iI ((mkS tT mm oO la (la + 1) (i + 1))))), (5, .int (iI ((mkS tT mm oO la (la + 1) (i + 1))))), (4, .int (iI ((i : Int) + 1))), (0, .ref (ad 0)), (1, .int (iI ((la : Int))))]) hx hb dX0_placeForLast_44 rfl hl (by decide) rfl (fun ls hl => ?_)
          refine lv_iinc (v := iI ((i : Int) + 2)) (lv' := [(4, .int (iI ((i : Int) + 2))), (2, .int (iI ((i : Int) + 1))), (3, .int (iI ((mkS tT mm oO la (la + 1) (i + 1))))), (5, .int (iI ((mkS tT mm oO la (la + 1) (i + 1))))), (0, .ref (ad 0)), (1, .int (iI ((la : Int))))]) hx hb dX0_placeForLast_45 hl (k := 3) rfl (iI_inc (by omega)) (by decide) rfl (fun ls hl => ?_)
          refine lv_goto (tgt := 15) hx hb dX0_placeForLast_48 (by decide) ?_
          exact ih15 (i + 1) uR uB uE ((i : Int) + 2) ((mkS tT mm oO la (la + 1) (i + 1))) ((i : Int) + 1) (by omega) (by omega) (by rw [e7]) (by rw [e7]; try omega) (by omega) _ _ hP hD hS ls (lv_sub hl [0, 2, 1, 4, 5] rfl)
  exact L15 (la - 0 + 1) 0 uR uB uE (1) ((mkS tT mm oO la (la + 1) 0)) (0) (by omega) (by omega) (rfl) (rfl) (Nat.lt_succ_self _) _ _ hP hD hS ls (lv_sub hl [0, 1, 2, 3, 4] rfl)
end
