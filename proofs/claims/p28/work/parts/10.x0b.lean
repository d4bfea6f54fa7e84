section
variable {l : Launch} {D : va_G} {cI cZ cJ : ClassId} {ad bd : Nat → Nat} {a0 : Nat} {ws : va_W} {nn mm : Nat} {th bm : Int} {tT tB tE tL : Nat → Int} {oO oR oQ : Nat → Nat} {zS zM zN : Nat → Int} {oJ fF : Nat → Nat}
set_option maxHeartbeats 4000000 in
set_option maxRecDepth 100000 in
theorem mX0_fillQueueBySum (hT : ∀ k, 0 ≤ tT k ∧ tT k ≤ 99) (hn : nn ≤ 7) (hm : 1 ≤ mm ∧ mm ≤ 5) : IM l yX0_fillQueueBySum wsX0_fillQueueBySum (rmx 3 68) D (tyk cI cZ cJ) (xw ad cI cZ nn mm tT tB tE tL oO oR oQ zS zM zN oJ) [.ref (ad 0)] (QV D (tyk cI cZ cJ) (fun u : Unit => xw ad cI cZ nn mm tT tB tE tL oO oR (srt (bqs tT mm) oQ nn) zS zM zN oJ) (fun _ => True)) := by
  refine imV_of (cc := cX0_fillQueueBySum) (maxL := 4) (by decide) rfl (Nat.le_of_ble_eq_true rfl) ?_
  intro p e s m args below meth c A Q hx hb hml hown hts hA hK hP hD hS hret ls hl
  have hown : s.vm.findClass RX0 = some m.cls := hown
  have hl : lv_has ls 4 [(0, .ref (ad 0))] := hl
  have inW : ∀ w ∈ wsX00, w ∈ wsX0_fillQueueBySum := by first | exact (fun w h => List.mem_cons_of_mem _ (List.mem_append_right _ h)) | exact (fun w h => List.mem_cons_of_mem _ (List.mem_append_left _ (List.mem_append_right _ h))) | exact (fun w h => List.mem_cons_of_mem _ (List.mem_append_left _ (List.mem_append_left _ (List.mem_append_right _ h)))) | decide +kernel
  refine lv_iconst (v := iI 0) hx hb dX0_fillQueueBySum_0 rfl ?_
  refine lv_istore_n (lv' := [(1, .int (iI 0)), (0, .ref (ad 0))]) hx hb dX0_fillQueueBySum_1 rfl hl (by decide) rfl (fun ls hl => ?_)
  have L2 : ∀ (fu : Nat) (i : Nat) (wqueue2 : Nat → Nat) (x1_2 : Int), (i ≤ nn) → (wqueue2 = srt (bqs tT mm) oQ i) → (x1_2 = (i : Int)) → nn - i < fu → ∀ (H : Heap) (locs : List Loc), va_P D vwCl (xw ad cI cZ nn mm tT tB tE tL oO oR wqueue2 zS zM zN oJ) H → va_D A (xw ad cI cZ nn mm tT tB tE tL oO oR wqueue2 zS zM zN oJ) → va_S A s.heap H locs → ∀ ls : Array Slot, lv_has ls 4 [(1, .int (iI (x1_2))), (0, .ref (ad 0))] → W p l e (rmx 3 68) s m args below meth c H locs 0 0 Q (F0 m 2 ls []) := by
    intro fu
    induction fu with
    | zero =>
      intro i wqueue2 x1_2 hi hq0 hq1 hfu
      exact absurd hfu (Nat.not_lt_zero _)
    | succ fu ih =>
      intro i wqueue2 x1_2 hi hq0 hq1 hfu H locs hP hD hS ls hl
      subst hq0
      subst hq1
      have ih2 := ih
      refine lv_iload_n hx hb dX0_fillQueueBySum_2 rfl (lv_at hl 0 rfl) ?_
      refine lv_aload_n hx hb dX0_fillQueueBySum_3 rfl (lv_at hl 1 rfl) ?_
      refine va_get (D := D) (ci := 0) (C := RX0) (T := TX0) (N := 13) hx hb hts inW hown hK hP 0 rfl rfl 0 (by decide) (hts (.fieldLink RX0 7 "Flowforge" "jobCount" "I") (List.mem_of_getElem? (i := 1) rfl)) (fun _ h9 => h9) rfl dX0_fillQueueBySum_4 ?_
      refine w_icmp_ge (tgt := 81) hx hb dX0_fillQueueBySum_7 (by decide) ⟨by omega, by omega⟩ ⟨by omega, by omega⟩ (fun c7 => ?_) (fun c7 => ?_)
      · obtain rfl : nn = i := by omega
        exact hret _ _ 81 ls (()) hP hD hS (trivial) dX0_fillQueueBySum_81
      · refine lv_aload_n hx hb dX0_fillQueueBySum_10 rfl (lv_at hl 1 rfl) ?_
        refine lv_iload_n hx hb dX0_fillQueueBySum_11 rfl (lv_at hl 0 rfl) ?_
        refine lv_iconst (v := iI 0) hx hb dX0_fillQueueBySum_12 rfl ?_
        refine lv_aload_n hx hb dX0_fillQueueBySum_13 rfl (lv_at hl 1 rfl) ?_
        refine va_get (D := D) (ci := 0) (C := RX0) (T := TX0) (N := 13) hx hb hts inW hown hK hP 0 rfl rfl 1 (by decide) (hts (.fieldLink RX0 13 "Flowforge" "machineCount" "I") (List.mem_of_getElem? (i := 2) rfl)) (fun _ h9 => h9) rfl dX0_fillQueueBySum_14 ?_
        refine w_pV (As := [.int (iI ((i : Int))), .int (iI 0), .int (iI ((mm : Int)))]) (rest := []) ⟨hx, hb, hml, hown, hts⟩ hK hP (mX0_sumOf (fr := 0) hT (by omega) (by omega) hm.2) (cwV 3 hts gX0_fillQueueBySum_X0_sumOf rfl rfl rfl (by decide +kernel) ⟨Nat.le_of_ble_eq_true rfl, Nat.le_of_ble_eq_true rfl⟩) (ci := 0) rfl rfl rfl rfl hl.1 rfl (Nat.le_of_ble_eq_true rfl) dX0_fillQueueBySum_17 ⟨Nat.zero_le _, Nat.zero_le _⟩ (fun r17 hr17 => ?_)
        refine w_top (v := iI ((smR tT i 0 mm))) (hr17) ?_
        refine lv_istore_n (lv' := [(2, .int (iI ((smR tT i 0 mm)))), (1, .int (iI ((i : Int)))), (0, .ref (ad 0))]) hx hb dX0_fillQueueBySum_20 rfl hl (by decide) rfl (fun ls hl => ?_)
        refine lv_iload_n hx hb dX0_fillQueueBySum_21 rfl (lv_at hl 1 rfl) ?_
        refine lv_istore_n (lv' := [(3, .int (iI ((i : Int)))), (2, .int (iI ((smR tT i 0 mm)))), (1, .int (iI ((i : Int)))), (0, .ref (ad 0))]) hx hb dX0_fillQueueBySum_22 rfl hl (by decide) rfl (fun ls hl => ?_)
        have L23 : ∀ (fu : Nat) (g : Nat) (wqueue23 : Nat → Nat) (x3_23 : Int), (g ≤ i) → (pos (bqs tT mm) (srt (bqs tT mm) oQ i) i i = pos (bqs tT mm) (srt (bqs tT mm) oQ i) i g) → (wqueue23 = sh2 (srt (bqs tT mm) oQ i) i (i - g)) → (x3_23 = (g : Int)) → g < fu → ∀ (H : Heap) (locs : List Loc), va_P D vwCl (xw ad cI cZ nn mm tT tB tE tL oO oR wqueue23 zS zM zN oJ) H → va_D A (xw ad cI cZ nn mm tT tB tE tL oO oR wqueue23 zS zM zN oJ) → va_S A s.heap H locs → ∀ ls : Array Slot, lv_has ls 4 [(3, .int (iI (x3_23))), (2, .int (iI ((smR tT i 0 mm)))), (1, .int (iI ((i : Int)))), (0, .ref (ad 0))] → W p l e (rmx 3 68) s m args below meth c H locs 0 0 Q (F0 m 23 ls []) := by
          intro fu
          induction fu with
          | zero =>
            intro g wqueue23 x3_23 hg hps hq0 hq1 hfu
            exact absurd hfu (Nat.not_lt_zero _)
          | succ fu ih =>
            intro g wqueue23 x3_23 hg hps hq0 hq1 hfu H locs hP hD hS ls hl
            subst hq0
            subst hq1
            have ih23 := ih
            have h9 := smR_rg hT i 0 mm
            refine lv_iload_n hx hb dX0_fillQueueBySum_23 rfl (lv_at hl 0 rfl) ?_
            refine w_if_le (tgt := 68) hx hb dX0_fillQueueBySum_24 (by decide) ⟨by omega, by omega⟩ (fun c24 => ?_) (fun c24 => ?_)
            · have hpp : pos (bqs tT mm) (srt (bqs tT mm) oQ i) i i = g := by rw [hps, show g = 0 by omega]; rfl
              refine lv_aload_n hx hb dX0_fillQueueBySum_68 rfl (lv_at hl 3 rfl) ?_
              refine va_get (D := D) (ci := 0) (C := RX0) (T := TX0) (N := 13) hx hb hts inW hown hK hP 0 rfl rfl 8 (by decide) (hts (.fieldLink RX0 35 "Flowforge" "queue" "[I") (List.mem_of_getElem? (i := 3) rfl)) (fun _ h9 => h9) rfl dX0_fillQueueBySum_69 ?_
              refine lv_iload_n hx hb dX0_fillQueueBySum_72 rfl (lv_at hl 0 rfl) ?_
              refine lv_iload_n hx hb dX0_fillQueueBySum_73 rfl (lv_at hl 2 rfl) ?_
              refine w_iast (g := jI (va_up (sh2 (srt (bqs tT mm) oQ i) i (i - g)) g i)) (ws' := xw ad cI cZ nn mm tT tB tE tL oO oR (va_up (sh2 (srt (bqs tT mm) oQ i) i (i - g)) g i) zS zM zN oJ) hx hb hK hP hD hS 7 0 rfl rfl (g) (by omega) (by omega) (by decide) (hg := jI_up) (hw := rfl) (hd := dX0_fillQueueBySum_74) (kk := fun H locs hP hD hS => ?_)
              refine lv_iinc (v := iI ((i : Int) + 1)) (lv' := [(1, .int (iI ((i : Int) + 1))), (3, .int (iI ((g : Int)))), (2, .int (iI ((smR tT i 0 mm)))), (0, .ref (ad 0))]) hx hb dX0_fillQueueBySum_75 hl (k := 2) rfl (iI_inc (by omega)) (by decide) rfl (fun ls hl => ?_)
              refine lv_goto (tgt := 2) hx hb dX0_fillQueueBySum_78 (by decide) ?_
              exact ih2 (i + 1) (va_up (sh2 (srt (bqs tT mm) oQ i) i (i - g)) g i) ((i : Int) + 1) (by omega) (by show _ = ins _ _ _; unfold ins; rw [hpp]) (by omega) (by omega) _ _ hP hD hS ls (lv_sub hl [0, 3] rfl)
            · have h8 : (srt (bqs tT mm) oQ i) (g - 1) < i := srt_lt (by omega)
              have h7 := smR_rg hT ((srt (bqs tT mm) oQ i) (g - 1)) 0 mm
              refine lv_iload_n hx hb dX0_fillQueueBySum_27 rfl (lv_at hl 1 rfl) ?_
              refine lv_aload_n hx hb dX0_fillQueueBySum_28 rfl (lv_at hl 3 rfl) ?_
              refine lv_aload_n hx hb dX0_fillQueueBySum_29 rfl (lv_at hl 3 rfl) ?_
              refine va_get (D := D) (ci := 0) (C := RX0) (T := TX0) (N := 13) hx hb hts inW hown hK hP 0 rfl rfl 8 (by decide) (hts (.fieldLink RX0 35 "Flowforge" "queue" "[I") (List.mem_of_getElem? (i := 3) rfl)) (fun _ h9 => h9) rfl dX0_fillQueueBySum_30 ?_
              refine lv_iload_n hx hb dX0_fillQueueBySum_33 rfl (lv_at hl 0 rfl) ?_
              refine lv_iconst (v := iI 1) hx hb dX0_fillQueueBySum_34 rfl ?_
              refine w_isub (z := (g : Int) - 1) hx hb dX0_fillQueueBySum_35 (by omega) ?_
              refine w_iald (v := iI (((srt (bqs tT mm) oQ i) (g - 1) : Nat) : Int)) hx hb hK hP 7 0 rfl rfl (g - 1) (by omega) (by omega) (by decide) (congrArg (fun q : Nat => iI (q : Int)) (sh2_at (by omega))) dX0_fillQueueBySum_36 ?_
              refine lv_iconst (v := iI 0) hx hb dX0_fillQueueBySum_37 rfl ?_
              refine lv_aload_n hx hb dX0_fillQueueBySum_38 rfl (lv_at hl 3 rfl) ?_
              refine va_get (D := D) (ci := 0) (C := RX0) (T := TX0) (N := 13) hx hb hts inW hown hK hP 0 rfl rfl 1 (by decide) (hts (.fieldLink RX0 13 "Flowforge" "machineCount" "I") (List.mem_of_getElem? (i := 2) rfl)) (fun _ h9 => h9) rfl dX0_fillQueueBySum_39 ?_
              refine w_pV (As := [.int (iI ((((((srt (bqs tT mm) oQ i) (g - 1))) : Nat) : Int))), .int (iI 0), .int (iI ((mm : Int)))]) (rest := [.int (iI ((smR tT i 0 mm)))]) ⟨hx, hb, hml, hown, hts⟩ hK hP (mX0_sumOf (fr := 0) hT (by omega) (by omega) hm.2) (cwV 3 hts gX0_fillQueueBySum_X0_sumOf rfl rfl rfl (by decide +kernel) ⟨Nat.le_of_ble_eq_true rfl, Nat.le_of_ble_eq_true rfl⟩) (ci := 0) rfl rfl rfl rfl hl.1 (by rw [show (((((srt (bqs tT mm) oQ i) (g - 1) : Nat) : Int)) : Int) = (((((srt (bqs tT mm) oQ i) (g - 1))) : Nat) : Int) by omega]; try rfl) (Nat.le_of_ble_eq_true rfl) dX0_fillQueueBySum_42 ⟨Nat.zero_le _, Nat.zero_le _⟩ (fun r42 hr42 => ?_)
              refine w_top (v := iI ((smR tT (((srt (bqs tT mm) oQ i) (g - 1))) 0 mm))) (hr42) ?_
              refine w_icmp_le (tgt := 68) hx hb dX0_fillQueueBySum_45 (by decide) ⟨by omega, by omega⟩ ⟨by omega, by omega⟩ (fun c45 => ?_) (fun c45 => ?_)
              · have hbe : ¬ bqs tT mm i ((srt (bqs tT mm) oQ i) (g - 1)) = true := bqs_n (by omega)
                have hpp : pos (bqs tT mm) (srt (bqs tT mm) oQ i) i i = g := hps.trans (pos_stop (by omega) hbe)
                refine lv_aload_n hx hb dX0_fillQueueBySum_68 rfl (lv_at hl 3 rfl) ?_
                refine va_get (D := D) (ci := 0) (C := RX0) (T := TX0) (N := 13) hx hb hts inW hown hK hP 0 rfl rfl 8 (by decide) (hts (.fieldLink RX0 35 "Flowforge" "queue" "[I") (List.mem_of_getElem? (i := 3) rfl)) (fun _ h9 => h9) rfl dX0_fillQueueBySum_69 ?_
                refine lv_iload_n hx hb dX0_fillQueueBySum_72 rfl (lv_at hl 0 rfl) ?_
                refine lv_iload_n hx hb dX0_fillQueueBySum_73 rfl (lv_at hl 2 rfl) ?_
                refine w_iast (g := jI (va_up (sh2 (srt (bqs tT mm) oQ i) i (i - g)) g i)) (ws' := xw ad cI cZ nn mm tT tB tE tL oO oR (va_up (sh2 (srt (bqs tT mm) oQ i) i (i - g)) g i) zS zM zN oJ) hx hb hK hP hD hS 7 0 rfl rfl (g) (by omega) (by omega) (by decide) (hg := jI_up) (hw := rfl) (hd := dX0_fillQueueBySum_74) (kk := fun H locs hP hD hS => ?_)
                refine lv_iinc (v := iI ((i : Int) + 1)) (lv' := [(1, .int (iI ((i : Int) + 1))), (3, .int (iI ((g : Int)))), (2, .int (iI ((smR tT i 0 mm)))), (0, .ref (ad 0))]) hx hb dX0_fillQueueBySum_75 hl (k := 2) rfl (iI_inc (by omega)) (by decide) rfl (fun ls hl => ?_)
                refine lv_goto (tgt := 2) hx hb dX0_fillQueueBySum_78 (by decide) ?_
                exact ih2 (i + 1) (va_up (sh2 (srt (bqs tT mm) oQ i) i (i - g)) g i) ((i : Int) + 1) (by omega) (by show _ = ins _ _ _; unfold ins; rw [hpp]) (by omega) (by omega) _ _ hP hD hS ls (lv_sub hl [0, 3] rfl)
              · have hbe : bqs tT mm i ((srt (bqs tT mm) oQ i) (g - 1)) = true := bqs_y (by omega)
                refine lv_aload_n hx hb dX0_fillQueueBySum_48 rfl (lv_at hl 3 rfl) ?_
                refine va_get (D := D) (ci := 0) (C := RX0) (T := TX0) (N := 13) hx hb hts inW hown hK hP 0 rfl rfl 8 (by decide) (hts (.fieldLink RX0 35 "Flowforge" "queue" "[I") (List.mem_of_getElem? (i := 3) rfl)) (fun _ h9 => h9) rfl dX0_fillQueueBySum_49 ?_
                refine lv_iload_n hx hb dX0_fillQueueBySum_52 rfl (lv_at hl 0 rfl) ?_
                refine lv_aload_n hx hb dX0_fillQueueBySum_53 rfl (lv_at hl 3 rfl) ?_
                refine va_get (D := D) (ci := 0) (C := RX0) (T := TX0) (N := 13) hx hb hts inW hown hK hP 0 rfl rfl 8 (by decide) (hts (.fieldLink RX0 35 "Flowforge" "queue" "[I") (List.mem_of_getElem? (i := 3) rfl)) (fun _ h9 => h9) rfl dX0_fillQueueBySum_54 ?_
                refine lv_iload_n hx hb dX0_fillQueueBySum_57 rfl (lv_at hl 0 rfl) ?_
                refine lv_iconst (v := iI 1) hx hb dX0_fillQueueBySum_58 rfl ?_
                refine w_isub (z := (g : Int) - 1) hx hb dX0_fillQueueBySum_59 (by omega) ?_
                refine w_iald (v := iI (((srt (bqs tT mm) oQ i) (g - 1) : Nat) : Int)) hx hb hK hP 7 0 rfl rfl (g - 1) (by omega) (by omega) (by decide) (congrArg (fun q : Nat => iI (q : Int)) (sh2_at (by omega))) dX0_fillQueueBySum_60 ?_
                refine w_iast (g := jI (va_up (sh2 (srt (bqs tT mm) oQ i) i (i - g)) g (((srt (bqs tT mm) oQ i) (g - 1))))) (ws' := xw ad cI cZ nn mm tT tB tE tL oO oR (va_up (sh2 (srt (bqs tT mm) oQ i) i (i - g)) g (((srt (bqs tT mm) oQ i) (g - 1)))) zS zM zN oJ) hx hb hK hP hD hS 7 0 rfl rfl (g) (by omega) (by omega) (by decide) (hg := jI_up) (hw := rfl) (hd := dX0_fillQueueBySum_61) (kk := fun H locs hP hD hS => ?_)
                refine lv_iinc (v := iI ((g : Int) - 1)) (lv' := [(3, .int (iI ((g : Int) - 1))), (2, .int (iI ((smR tT i 0 mm)))), (1, .int (iI ((i : Int)))), (0, .ref (ad 0))]) hx hb dX0_fillQueueBySum_62 hl (k := 0) rfl (iI_inc (by omega)) (by decide) rfl (fun ls hl => ?_)
                refine lv_goto (tgt := 23) hx hb dX0_fillQueueBySum_65 (by decide) ?_
                exact ih23 (g - 1) (va_up (sh2 (srt (bqs tT mm) oQ i) i (i - g)) g (((srt (bqs tT mm) oQ i) (g - 1)))) ((g : Int) - 1) (by omega) (hps.trans (pos_go (by omega) hbe)) (sh2_p (by omega) hg) (by omega) (by omega) _ _ hP hD hS ls (lv_sub hl [0, 1, 2, 3] rfl)
        exact L23 (i + 1) i (srt (bqs tT mm) oQ i) ((i : Int)) (by omega) (rfl) (by rw [Nat.sub_self, sh2_0]) (by omega) (Nat.lt_succ_self _) _ _ hP hD hS ls (lv_sub hl [0, 1, 2, 3] rfl)
  exact L2 (nn - 0 + 1) 0 oQ (0) (by omega) (rfl) (by omega) (Nat.lt_succ_self _) _ _ hP hD hS ls (lv_sub hl [0, 1] rfl)
set_option maxHeartbeats 4000000 in
set_option maxRecDepth 100000 in
theorem mX0_goesBefore {i j a b : Nat} (hT : ∀ k, 0 ≤ tT k ∧ tT k ≤ 99) (hi : i < 7) (hj : j < 7) (ha : a < 5) (hb5 : b < 5) : PM l yX0_goesBefore wsX0_goesBefore (rmx 2 43) D (tyk cI cZ cJ) (xw ad cI cZ nn mm tT tB tE tL oO oR oQ zS zM zN oJ) [.ref (ad 0), .int (iI ((i : Int))), .int (iI ((j : Int))), .int (iI ((a : Int))), .int (iI ((b : Int)))] (vp_Si (fun x => x = iI (if gbr tT a b i j = true then 1 else 0))) := by
  refine pmZ_of (cc := cX0_goesBefore) (maxL := 7) (by decide) rfl (Nat.le_of_ble_eq_true rfl) ?_
  intro p e s m args below meth c Q hx hb hml hown hts hK hP hret ls hl
  have hown : s.vm.findClass RX0 = some m.cls := hown
  have hl : lv_has ls 7 [(0, .ref (ad 0)), (1, .int (iI ((i : Int)))), (2, .int (iI ((j : Int)))), (3, .int (iI ((a : Int)))), (4, .int (iI ((b : Int))))] := hl
  have q1 := hT (5 * i + a)
  have q2 := hT (5 * i + b)
  have q3 := hT (5 * j + a)
  have q4 := hT (5 * j + b)
  refine lv_aload_n hx hb dX0_goesBefore_0 rfl (lv_at hl 0 rfl) ?_
  refine lv_iload_n hx hb dX0_goesBefore_1 rfl (lv_at hl 1 rfl) ?_
  refine lv_iload_n hx hb dX0_goesBefore_2 rfl (lv_at hl 3 rfl) ?_
  refine w_pV (As := [.int (iI ((i : Int))), .int (iI ((a : Int)))]) (rest := []) ⟨hx, hb, hml, hown, hts⟩ hK hP (mX0_timeOf  hi ha) (cwV 2 hts gX0_goesBefore_X0_timeOf rfl rfl rfl (by decide +kernel) ⟨Nat.le_of_ble_eq_true rfl, Nat.le_of_ble_eq_true rfl⟩) (ci := 0) rfl rfl rfl rfl hl.1 rfl (Nat.le_of_ble_eq_true rfl) dX0_goesBefore_3 ⟨Nat.zero_le _, Nat.zero_le _⟩ (fun r3 hr3 => ?_)
  refine w_top (v := iI ((tT (5 * i + a)))) (hr3) ?_
  refine lv_aload_n hx hb dX0_goesBefore_6 rfl (lv_at hl 0 rfl) ?_
  refine lv_iload_n hx hb dX0_goesBefore_7 rfl (lv_at hl 1 rfl) ?_
  refine lv_iload hx hb dX0_goesBefore_8 (lv_at hl 4 rfl) ?_
  refine w_pV (As := [.int (iI ((i : Int))), .int (iI ((b : Int)))]) (rest := [.int (iI ((tT (5 * i + a))))]) ⟨hx, hb, hml, hown, hts⟩ hK hP (mX0_timeOf  hi hb5) (cwV 2 hts gX0_goesBefore_X0_timeOf rfl rfl rfl (by decide +kernel) ⟨Nat.le_of_ble_eq_true rfl, Nat.le_of_ble_eq_true rfl⟩) (ci := 0) rfl rfl rfl rfl hl.1 rfl (Nat.le_of_ble_eq_true rfl) dX0_goesBefore_10 ⟨Nat.zero_le _, Nat.zero_le _⟩ (fun r10 hr10 => ?_)
  refine w_top (v := iI ((tT (5 * i + b)))) (hr10) ?_
  refine w_icmp_gt (tgt := 20) hx hb dX0_goesBefore_13 (by decide) ⟨by omega, by omega⟩ ⟨by omega, by omega⟩ (fun c13 => ?_) (fun c13 => ?_)
  · refine lv_iconst (v := iI 0) hx hb dX0_goesBefore_20 rfl ?_
    refine lv_istore (lv' := [(5, .int (iI 0)), (0, .ref (ad 0)), (1, .int (iI ((i : Int)))), (2, .int (iI ((j : Int)))), (3, .int (iI ((a : Int)))), (4, .int (iI ((b : Int))))]) hx hb dX0_goesBefore_21 hl (by decide) rfl (fun ls hl => ?_)
    refine lv_aload_n hx hb dX0_goesBefore_23 rfl (lv_at hl 1 rfl) ?_
    refine lv_iload_n hx hb dX0_goesBefore_24 rfl (lv_at hl 3 rfl) ?_
    refine lv_iload_n hx hb dX0_goesBefore_25 rfl (lv_at hl 4 rfl) ?_
    refine w_pV (As := [.int (iI ((j : Int))), .int (iI ((a : Int)))]) (rest := []) ⟨hx, hb, hml, hown, hts⟩ hK hP (mX0_timeOf  hj ha) (cwV 2 hts gX0_goesBefore_X0_timeOf rfl rfl rfl (by decide +kernel) ⟨Nat.le_of_ble_eq_true rfl, Nat.le_of_ble_eq_true rfl⟩) (ci := 0) rfl rfl rfl rfl hl.1 rfl (Nat.le_of_ble_eq_true rfl) dX0_goesBefore_26 ⟨Nat.zero_le _, Nat.zero_le _⟩ (fun r26 hr26 => ?_)
    refine w_top (v := iI ((tT (5 * j + a)))) (hr26) ?_
    refine lv_aload_n hx hb dX0_goesBefore_29 rfl (lv_at hl 1 rfl) ?_
    refine lv_iload_n hx hb dX0_goesBefore_30 rfl (lv_at hl 3 rfl) ?_
    refine lv_iload hx hb dX0_goesBefore_31 (lv_at hl 5 rfl) ?_
    refine w_pV (As := [.int (iI ((j : Int))), .int (iI ((b : Int)))]) (rest := [.int (iI ((tT (5 * j + a))))]) ⟨hx, hb, hml, hown, hts⟩ hK hP (mX0_timeOf  hj hb5) (cwV 2 hts gX0_goesBefore_X0_timeOf rfl rfl rfl (by decide +kernel) ⟨Nat.le_of_ble_eq_true rfl, Nat.le_of_ble_eq_true rfl⟩) (ci := 0) rfl rfl rfl rfl hl.1 rfl (Nat.le_of_ble_eq_true rfl) dX0_goesBefore_33 ⟨Nat.zero_le _, Nat.zero_le _⟩ (fun r33 hr33 => ?_)
    refine w_top (v := iI ((tT (5 * j + b)))) (hr33) ?_
    refine w_icmp_gt (tgt := 43) hx hb dX0_goesBefore_36 (by decide) ⟨by omega, by omega⟩ ⟨by omega, by omega⟩ (fun c36 => ?_) (fun c36 => ?_)
    · refine lv_iconst (v := iI 0) hx hb dX0_goesBefore_43 rfl ?_
      refine lv_istore (lv' := [(6, .int (iI 0)), (5, .int (iI 0)), (0, .ref (ad 0)), (1, .int (iI ((i : Int)))), (2, .int (iI ((j : Int)))), (3, .int (iI ((a : Int)))), (4, .int (iI ((b : Int))))]) hx hb dX0_goesBefore_44 hl (by decide) rfl (fun ls hl => ?_)
      refine lv_iload hx hb dX0_goesBefore_46 (lv_at hl 1 rfl) ?_
      refine lv_iload hx hb dX0_goesBefore_48 (lv_at hl 0 rfl) ?_
      refine w_icmp_eq (tgt := 56) hx hb dX0_goesBefore_50 (by decide) ⟨by omega, by omega⟩ ⟨by omega, by omega⟩ (fun c50 => ?_) (fun c50 => absurd c50 (by omega))
      refine lv_iload hx hb dX0_goesBefore_56 (lv_at hl 1 rfl) ?_
      refine w_if_eq (tgt := 82) hx hb dX0_goesBefore_58 (by decide) ⟨by omega, by omega⟩ (fun c58 => ?_) (fun c58 => absurd c58 (by omega))
      refine lv_aload_n hx hb dX0_goesBefore_82 rfl (lv_at hl 2 rfl) ?_
      refine lv_iload_n hx hb dX0_goesBefore_83 rfl (lv_at hl 3 rfl) ?_
      refine lv_iload hx hb dX0_goesBefore_84 (lv_at hl 6 rfl) ?_
      refine w_pV (As := [.int (iI ((i : Int))), .int (iI ((b : Int)))]) (rest := []) ⟨hx, hb, hml, hown, hts⟩ hK hP (mX0_timeOf  hi hb5) (cwV 2 hts gX0_goesBefore_X0_timeOf rfl rfl rfl (by decide +kernel) ⟨Nat.le_of_ble_eq_true rfl, Nat.le_of_ble_eq_true rfl⟩) (ci := 0) rfl rfl rfl rfl hl.1 rfl (Nat.le_of_ble_eq_true rfl) dX0_goesBefore_86 ⟨Nat.zero_le _, Nat.zero_le _⟩ (fun r86 hr86 => ?_)
      refine w_top (v := iI ((tT (5 * i + b)))) (hr86) ?_
      refine lv_aload_n hx hb dX0_goesBefore_89 rfl (lv_at hl 2 rfl) ?_
      refine lv_iload_n hx hb dX0_goesBefore_90 rfl (lv_at hl 4 rfl) ?_
      refine lv_iload hx hb dX0_goesBefore_91 (lv_at hl 6 rfl) ?_
      refine w_pV (As := [.int (iI ((j : Int))), .int (iI ((b : Int)))]) (rest := [.int (iI ((tT (5 * i + b))))]) ⟨hx, hb, hml, hown, hts⟩ hK hP (mX0_timeOf  hj hb5) (cwV 2 hts gX0_goesBefore_X0_timeOf rfl rfl rfl (by decide +kernel) ⟨Nat.le_of_ble_eq_true rfl, Nat.le_of_ble_eq_true rfl⟩) (ci := 0) rfl rfl rfl rfl hl.1 rfl (Nat.le_of_ble_eq_true rfl) dX0_goesBefore_93 ⟨Nat.zero_le _, Nat.zero_le _⟩ (fun r93 hr93 => ?_)
      refine w_top (v := iI ((tT (5 * j + b)))) (hr93) ?_
      refine w_icmp_le (tgt := 103) hx hb dX0_goesBefore_96 (by decide) ⟨by omega, by omega⟩ ⟨by omega, by omega⟩ (fun c96 => ?_) (fun c96 => ?_)
      · refine lv_iconst (v := iI 0) hx hb dX0_goesBefore_103 rfl ?_
        exact hret 104 ls _ rfl (gb_f (by unfold gbr; split <;> (try split) <;> (try split) <;> first | rfl | (exfalso; omega))) dX0_goesBefore_104
      · refine lv_iconst (v := iI 1) hx hb dX0_goesBefore_99 rfl ?_
        refine lv_goto (tgt := 104) hx hb dX0_goesBefore_100 (by decide) ?_
        exact hret 104 ls _ rfl (gb_t (by unfold gbr; split <;> (try split) <;> (try split) <;> first | rfl | (exfalso; omega))) dX0_goesBefore_104
    · refine lv_iconst (v := iI 1) hx hb dX0_goesBefore_39 rfl ?_
      refine lv_goto (tgt := 44) hx hb dX0_goesBefore_40 (by decide) ?_
      refine lv_istore (lv' := [(6, .int (iI 1)), (5, .int (iI 0)), (0, .ref (ad 0)), (1, .int (iI ((i : Int)))), (2, .int (iI ((j : Int)))), (3, .int (iI ((a : Int)))), (4, .int (iI ((b : Int))))]) hx hb dX0_goesBefore_44 hl (by decide) rfl (fun ls hl => ?_)
      refine lv_iload hx hb dX0_goesBefore_46 (lv_at hl 1 rfl) ?_
      refine lv_iload hx hb dX0_goesBefore_48 (lv_at hl 0 rfl) ?_
      refine w_icmp_eq (tgt := 56) hx hb dX0_goesBefore_50 (by decide) ⟨by omega, by omega⟩ ⟨by omega, by omega⟩ (fun c50 => absurd c50 (by omega)) (fun c50 => ?_)
      refine lv_iload hx hb dX0_goesBefore_53 (lv_at hl 1 rfl) ?_
      exact hret 55 ls _ rfl (gb_f (by unfold gbr; split <;> (try split) <;> (try split) <;> first | rfl | (exfalso; omega))) dX0_goesBefore_55
  · refine lv_iconst (v := iI 1) hx hb dX0_goesBefore_16 rfl ?_
    refine lv_goto (tgt := 21) hx hb dX0_goesBefore_17 (by decide) ?_
    refine lv_istore (lv' := [(5, .int (iI 1)), (0, .ref (ad 0)), (1, .int (iI ((i : Int)))), (2, .int (iI ((j : Int)))), (3, .int (iI ((a : Int)))), (4, .int (iI ((b : Int))))]) hx hb dX0_goesBefore_21 hl (by decide) rfl (fun ls hl => ?_)
    refine lv_aload_n hx hb dX0_goesBefore_23 rfl (lv_at hl 1 rfl) ?_
    refine lv_iload_n hx hb dX0_goesBefore_24 rfl (lv_at hl 3 rfl) ?_
    refine lv_iload_n hx hb dX0_goesBefore_25 rfl (lv_at hl 4 rfl) ?_
    refine w_pV (As := [.int (iI ((j : Int))), .int (iI ((a : Int)))]) (rest := []) ⟨hx, hb, hml, hown, hts⟩ hK hP (mX0_timeOf  hj ha) (cwV 2 hts gX0_goesBefore_X0_timeOf rfl rfl rfl (by decide +kernel) ⟨Nat.le_of_ble_eq_true rfl, Nat.le_of_ble_eq_true rfl⟩) (ci := 0) rfl rfl rfl rfl hl.1 rfl (Nat.le_of_ble_eq_true rfl) dX0_goesBefore_26 ⟨Nat.zero_le _, Nat.zero_le _⟩ (fun r26 hr26 => ?_)
    refine w_top (v := iI ((tT (5 * j + a)))) (hr26) ?_
    refine lv_aload_n hx hb dX0_goesBefore_29 rfl (lv_at hl 1 rfl) ?_
    refine lv_iload_n hx hb dX0_goesBefore_30 rfl (lv_at hl 3 rfl) ?_
    refine lv_iload hx hb dX0_goesBefore_31 (lv_at hl 5 rfl) ?_
    refine w_pV (As := [.int (iI ((j : Int))), .int (iI ((b : Int)))]) (rest := [.int (iI ((tT (5 * j + a))))]) ⟨hx, hb, hml, hown, hts⟩ hK hP (mX0_timeOf  hj hb5) (cwV 2 hts gX0_goesBefore_X0_timeOf rfl rfl rfl (by decide +kernel) ⟨Nat.le_of_ble_eq_true rfl, Nat.le_of_ble_eq_true rfl⟩) (ci := 0) rfl rfl rfl rfl hl.1 rfl (Nat.le_of_ble_eq_true rfl) dX0_goesBefore_33 ⟨Nat.zero_le _, Nat.zero_le _⟩ (fun r33 hr33 => ?_)
    refine w_top (v := iI ((tT (5 * j + b)))) (hr33) ?_
    refine w_icmp_gt (tgt := 43) hx hb dX0_goesBefore_36 (by decide) ⟨by omega, by omega⟩ ⟨by omega, by omega⟩ (fun c36 => ?_) (fun c36 => ?_)
    · refine lv_iconst (v := iI 0) hx hb dX0_goesBefore_43 rfl ?_
      refine lv_istore (lv' := [(6, .int (iI 0)), (5, .int (iI 1)), (0, .ref (ad 0)), (1, .int (iI ((i : Int)))), (2, .int (iI ((j : Int)))), (3, .int (iI ((a : Int)))), (4, .int (iI ((b : Int))))]) hx hb dX0_goesBefore_44 hl (by decide) rfl (fun ls hl => ?_)
      refine lv_iload hx hb dX0_goesBefore_46 (lv_at hl 1 rfl) ?_
      refine lv_iload hx hb dX0_goesBefore_48 (lv_at hl 0 rfl) ?_
      refine w_icmp_eq (tgt := 56) hx hb dX0_goesBefore_50 (by decide) ⟨by omega, by omega⟩ ⟨by omega, by omega⟩ (fun c50 => absurd c50 (by omega)) (fun c50 => ?_)
      refine lv_iload hx hb dX0_goesBefore_53 (lv_at hl 1 rfl) ?_
      exact hret 55 ls _ rfl (gb_t (by unfold gbr; split <;> (try split) <;> (try split) <;> first | rfl | (exfalso; omega))) dX0_goesBefore_55
    · refine lv_iconst (v := iI 1) hx hb dX0_goesBefore_39 rfl ?_
      refine lv_goto (tgt := 44) hx hb dX0_goesBefore_40 (by decide) ?_
      refine lv_istore (lv' := [(6, .int (iI 1)), (5, .int (iI 1)), (0, .ref (ad 0)), (1, .int (iI ((i : Int)))), (2, .int (iI ((j : Int)))), (3, .int (iI ((a : Int)))), (4, .int (iI ((b : Int))))]) hx hb dX0_goesBefore_44 hl (by decide) rfl (fun ls hl => ?_)
      refine lv_iload hx hb dX0_goesBefore_46 (lv_at hl 1 rfl) ?_
      refine lv_iload hx hb dX0_goesBefore_48 (lv_at hl 0 rfl) ?_
      refine w_icmp_eq (tgt := 56) hx hb dX0_goesBefore_50 (by decide) ⟨by omega, by omega⟩ ⟨by omega, by omega⟩ (fun c50 => ?_) (fun c50 => absurd c50 (by omega))
      refine lv_iload hx hb dX0_goesBefore_56 (lv_at hl 1 rfl) ?_
      refine w_if_eq (tgt := 82) hx hb dX0_goesBefore_58 (by decide) ⟨by omega, by omega⟩ (fun c58 => absurd c58 (by omega)) (fun c58 => ?_)
      refine lv_aload_n hx hb dX0_goesBefore_61 rfl (lv_at hl 2 rfl) ?_
      refine lv_iload_n hx hb dX0_goesBefore_62 rfl (lv_at hl 3 rfl) ?_
      refine lv_iload_n hx hb dX0_goesBefore_63 rfl (lv_at hl 5 rfl) ?_
      refine w_pV (As := [.int (iI ((i : Int))), .int (iI ((a : Int)))]) (rest := []) ⟨hx, hb, hml, hown, hts⟩ hK hP (mX0_timeOf  hi ha) (cwV 2 hts gX0_goesBefore_X0_timeOf rfl rfl rfl (by decide +kernel) ⟨Nat.le_of_ble_eq_true rfl, Nat.le_of_ble_eq_true rfl⟩) (ci := 0) rfl rfl rfl rfl hl.1 rfl (Nat.le_of_ble_eq_true rfl) dX0_goesBefore_64 ⟨Nat.zero_le _, Nat.zero_le _⟩ (fun r64 hr64 => ?_)
      refine w_top (v := iI ((tT (5 * i + a)))) (hr64) ?_
      refine lv_aload_n hx hb dX0_goesBefore_67 rfl (lv_at hl 2 rfl) ?_
      refine lv_iload_n hx hb dX0_goesBefore_68 rfl (lv_at hl 4 rfl) ?_
      refine lv_iload_n hx hb dX0_goesBefore_69 rfl (lv_at hl 5 rfl) ?_
      refine w_pV (As := [.int (iI ((j : Int))), .int (iI ((a : Int)))]) (rest := [.int (iI ((tT (5 * i + a))))]) ⟨hx, hb, hml, hown, hts⟩ hK hP (mX0_timeOf  hj ha) (cwV 2 hts gX0_goesBefore_X0_timeOf rfl rfl rfl (by decide +kernel) ⟨Nat.le_of_ble_eq_true rfl, Nat.le_of_ble_eq_true rfl⟩) (ci := 0) rfl rfl rfl rfl hl.1 rfl (Nat.le_of_ble_eq_true rfl) dX0_goesBefore_70 ⟨Nat.zero_le _, Nat.zero_le _⟩ (fun r70 hr70 => ?_)
      refine w_top (v := iI ((tT (5 * j + a)))) (hr70) ?_
      refine w_icmp_ge (tgt := 80) hx hb dX0_goesBefore_73 (by decide) ⟨by omega, by omega⟩ ⟨by omega, by omega⟩ (fun c73 => ?_) (fun c73 => ?_)
      · refine lv_iconst (v := iI 0) hx hb dX0_goesBefore_80 rfl ?_
        exact hret 81 ls _ rfl (gb_f (by unfold gbr; split <;> (try split) <;> (try split) <;> first | rfl | (exfalso; omega))) dX0_goesBefore_81
      · refine lv_iconst (v := iI 1) hx hb dX0_goesBefore_76 rfl ?_
        refine lv_goto (tgt := 81) hx hb dX0_goesBefore_77 (by decide) ?_
        exact hret 81 ls _ rfl (gb_t (by unfold gbr; split <;> (try split) <;> (try split) <;> first | rfl | (exfalso; omega))) dX0_goesBefore_81
set_option maxHeartbeats 4000000 in
set_option maxRecDepth 100000 in
theorem mX0_fillByRule_o {a b : Nat} (hT : ∀ k, 0 ≤ tT k ∧ tT k ≤ 99) (hn : nn ≤ 7) (ha : a < 5) (hb5 : b < 5) : IM l yX0_fillByRule wsX0_fillByRule (rmx 3 69) D (tyk cI cZ cJ) (xw ad cI cZ nn mm tT tB tE tL oO oR oQ zS zM zN oJ) [.ref (ad 0), .ref (ad 5), .int (iI ((a : Int))), .int (iI ((b : Int)))] (QV D (tyk cI cZ cJ) (fun u : Unit => xw ad cI cZ nn mm tT tB tE tL (srt (gbr tT a b) oO nn) oR oQ zS zM zN oJ) (fun _ => True)) := by
  refine imV_of (cc := cX0_fillByRule) (maxL := 6) (by decide) rfl (Nat.le_of_ble_eq_true rfl) ?_
  intro p e s m args below meth c A Q hx hb hml hown hts hA hK hP hD hS hret ls hl
  have hown : s.vm.findClass RX0 = some m.cls := hown
  have hl : lv_has ls 6 [(0, .ref (ad 0)), (1, .ref (ad 5)), (2, .int (iI ((a : Int)))), (3, .int (iI ((b : Int))))] := hl
  have inW : ∀ w ∈ wsX00, w ∈ wsX0_fillByRule := by first | exact (fun w h => List.mem_cons_of_mem _ (List.mem_append_right _ h)) | exact (fun w h => List.mem_cons_of_mem _ (List.mem_append_left _ (List.mem_append_right _ h))) | exact (fun w h => List.mem_cons_of_mem _ (List.mem_append_left _ (List.mem_append_left _ (List.mem_append_right _ h)))) | decide +kernel
  refine lv_iconst (v := iI 0) hx hb dX0_fillByRule_0 rfl ?_
  refine lv_istore (lv' := [(4, .int (iI 0)), (0, .ref (ad 0)), (1, .ref (ad 5)), (2, .int (iI ((a : Int)))), (3, .int (iI ((b : Int))))]) hx hb dX0_fillByRule_1 hl (by decide) rfl (fun ls hl => ?_)
  have L3 : ∀ (fu : Nat) (i : Nat) (worder3 : Nat → Nat) (x4_3 : Int), (i ≤ nn) → (worder3 = srt (gbr tT a b) oO i) → (x4_3 = (i : Int)) → nn - i < fu → ∀ (H : Heap) (locs : List Loc), va_P D vwCl (xw ad cI cZ nn mm tT tB tE tL worder3 oR oQ zS zM zN oJ) H → va_D A (xw ad cI cZ nn mm tT tB tE tL worder3 oR oQ zS zM zN oJ) → va_S A s.heap H locs → ∀ ls : Array Slot, lv_has ls 6 [(4, .int (iI (x4_3))), (0, .ref (ad 0)), (1, .ref (ad 5)), (2, .int (iI ((a : Int)))), (3, .int (iI ((b : Int))))] → W p l e (rmx 3 69) s m args below meth c H locs 0 0 Q (F0 m 3 ls []) := by
    intro fu
    induction fu with
    | zero =>
      intro i worder3 x4_3 hi hq0 hq1 hfu
      exact absurd hfu (Nat.not_lt_zero _)
    | succ fu ih =>
      intro i worder3 x4_3 hi hq0 hq1 hfu H locs hP hD hS ls hl
      subst hq0
      subst hq1
      have ih3 := ih
      refine lv_iload hx hb dX0_fillByRule_3 (lv_at hl 0 rfl) ?_
      refine lv_aload_n hx hb dX0_fillByRule_5 rfl (lv_at hl 1 rfl) ?_
      refine va_get (D := D) (ci := 0) (C := RX0) (T := TX0) (N := 13) hx hb hts inW hown hK hP 0 rfl rfl 0 (by decide) (hts (.fieldLink RX0 7 "Flowforge" "jobCount" "I") (List.mem_of_getElem? (i := 1) rfl)) (fun _ h9 => h9) rfl dX0_fillByRule_6 ?_
      refine w_icmp_ge (tgt := 66) hx hb dX0_fillByRule_9 (by decide) ⟨by omega, by omega⟩ ⟨by omega, by omega⟩ (fun c9 => ?_) (fun c9 => ?_)
      · obtain rfl : nn = i := by omega
        exact hret _ _ 66 ls (()) hP hD hS (trivial) dX0_fillByRule_66
      · refine lv_iload hx hb dX0_fillByRule_12 (lv_at hl 0 rfl) ?_
        refine lv_istore (lv' := [(5, .int (iI ((i : Int)))), (4, .int (iI ((i : Int)))), (0, .ref (ad 0)), (1, .ref (ad 5)), (2, .int (iI ((a : Int)))), (3, .int (iI ((b : Int))))]) hx hb dX0_fillByRule_14 hl (by decide) rfl (fun ls hl => ?_)
        have L16 : ∀ (fu : Nat) (g : Nat) (worder16 : Nat → Nat) (x5_16 : Int), (g ≤ i) → (pos (gbr tT a b) (srt (gbr tT a b) oO i) i i = pos (gbr tT a b) (srt (gbr tT a b) oO i) i g) → (worder16 = sh2 (srt (gbr tT a b) oO i) i (i - g)) → (x5_16 = (g : Int)) → g < fu → ∀ (H : Heap) (locs : List Loc), va_P D vwCl (xw ad cI cZ nn mm tT tB tE tL worder16 oR oQ zS zM zN oJ) H → va_D A (xw ad cI cZ nn mm tT tB tE tL worder16 oR oQ zS zM zN oJ) → va_S A s.heap H locs → ∀ ls : Array Slot, lv_has ls 6 [(5, .int (iI (x5_16))), (4, .int (iI ((i : Int)))), (0, .ref (ad 0)), (1, .ref (ad 5)), (2, .int (iI ((a : Int)))), (3, .int (iI ((b : Int))))] → W p l e (rmx 3 69) s m args below meth c H locs 0 0 Q (F0 m 16 ls []) := by
          intro fu
          induction fu with
          | zero =>
            intro g worder16 x5_16 hg hps hq0 hq1 hfu
            exact absurd hfu (Nat.not_lt_zero _)
          | succ fu ih =>
            intro g worder16 x5_16 hg hps hq0 hq1 hfu H locs hP hD hS ls hl
            subst hq0
            subst hq1
            have ih16 := ih
            refine lv_iload hx hb dX0_fillByRule_16 (lv_at hl 0 rfl) ?_
            refine w_if_le (tgt := 54) hx hb dX0_fillByRule_18 (by decide) ⟨by omega, by omega⟩ (fun c18 => ?_) (fun c18 => ?_)
            · have hpp : pos (gbr tT a b) (srt (gbr tT a b) oO i) i i = g := by rw [hps, show g = 0 by omega]; rfl
              refine lv_aload_n hx hb dX0_fillByRule_54 rfl (lv_at hl 3 rfl) ?_
              refine lv_iload hx hb dX0_fillByRule_55 (lv_at hl 0 rfl) ?_
              refine lv_iload hx hb dX0_fillByRule_57 (lv_at hl 1 rfl) ?_
              refine w_iast (g := jI (va_up (sh2 (srt (gbr tT a b) oO i) i (i - g)) g i)) (ws' := xw ad cI cZ nn mm tT tB tE tL (va_up (sh2 (srt (gbr tT a b) oO i) i (i - g)) g i) oR oQ zS zM zN oJ) hx hb hK hP hD hS 5 0 rfl rfl (g) (by omega) (by omega) (by decide) (hg := jI_up) (hw := rfl) (hd := dX0_fillByRule_59) (kk := fun H locs hP hD hS => ?_)
              refine lv_iinc (v := iI ((i : Int) + 1)) (lv' := [(4, .int (iI ((i : Int) + 1))), (5, .int (iI ((g : Int)))), (0, .ref (ad 0)), (1, .ref (ad 5)), (2, .int (iI ((a : Int)))), (3, .int (iI ((b : Int))))]) hx hb dX0_fillByRule_60 hl (k := 1) rfl (iI_inc (by omega)) (by decide) rfl (fun ls hl => ?_)
              refine lv_goto (tgt := 3) hx hb dX0_fillByRule_63 (by decide) ?_
              exact ih3 (i + 1) (va_up (sh2 (srt (gbr tT a b) oO i) i (i - g)) g i) ((i : Int) + 1) (by omega) (by show _ = ins _ _ _; unfold ins; rw [hpp]) (by omega) (by omega) _ _ hP hD hS ls (lv_sub hl [0, 2, 3, 4, 5] rfl)
            · have h8 : (srt (gbr tT a b) oO i) (g - 1) < i := srt_lt (by omega)
              refine lv_aload_n hx hb dX0_fillByRule_21 rfl (lv_at hl 2 rfl) ?_
              refine lv_iload hx hb dX0_fillByRule_22 (lv_at hl 1 rfl) ?_
              refine lv_aload_n hx hb dX0_fillByRule_24 rfl (lv_at hl 3 rfl) ?_
              refine lv_iload hx hb dX0_fillByRule_25 (lv_at hl 0 rfl) ?_
              refine lv_iconst (v := iI 1) hx hb dX0_fillByRule_27 rfl ?_
              refine w_isub (z := (g : Int) - 1) hx hb dX0_fillByRule_28 (by omega) ?_
              refine w_iald (v := iI (((srt (gbr tT a b) oO i) (g - 1) : Nat) : Int)) hx hb hK hP 5 0 rfl rfl (g - 1) (by omega) (by omega) (by decide) (congrArg (fun q : Nat => iI (q : Int)) (sh2_at (by omega))) dX0_fillByRule_29 ?_
              refine lv_iload_n hx hb dX0_fillByRule_30 rfl (lv_at hl 4 rfl) ?_
              refine lv_iload_n hx hb dX0_fillByRule_31 rfl (lv_at hl 5 rfl) ?_
              refine w_pV (As := [.int (iI ((i : Int))), .int (iI ((((((srt (gbr tT a b) oO i) (g - 1))) : Nat) : Int))), .int (iI ((a : Int))), .int (iI ((b : Int)))]) (rest := []) ⟨hx, hb, hml, hown, hts⟩ hK hP (mX0_goesBefore  hT (by omega) (by omega) ha hb5) (cwV 4 hts gX0_fillByRule_X0_goesBefore rfl rfl rfl (by decide +kernel) ⟨Nat.le_of_ble_eq_true rfl, Nat.le_of_ble_eq_true rfl⟩) (ci := 0) rfl rfl rfl rfl hl.1 (by rw [show (((((srt (gbr tT a b) oO i) (g - 1) : Nat) : Int)) : Int) = (((((srt (gbr tT a b) oO i) (g - 1))) : Nat) : Int) by omega]; try rfl) (Nat.le_of_ble_eq_true rfl) dX0_fillByRule_32 ⟨Nat.zero_le _, Nat.zero_le _⟩ (fun r32 hr32 => ?_)
              have h7 : (if gbr tT a b i ((srt (gbr tT a b) oO i) (g - 1)) = true then (1 : Int) else 0) = 0 ∨ (if gbr tT a b i ((srt (gbr tT a b) oO i) (g - 1)) = true then (1 : Int) else 0) = 1 := by split <;> simp
              refine w_top (v := iI ((if gbr tT a b i (((srt (gbr tT a b) oO i) (g - 1))) = true then 1 else 0))) (hr32) ?_
              refine w_if_eq (tgt := 54) hx hb dX0_fillByRule_35 (by decide) ⟨by omega, by omega⟩ (fun c35 => ?_) (fun c35 => ?_)
              · have hbe : ¬ gbr tT a b i ((srt (gbr tT a b) oO i) (g - 1)) = true := fun q => by rw [if_pos q] at c35; exact absurd c35 (by omega)
                have hpp : pos (gbr tT a b) (srt (gbr tT a b) oO i) i i = g := hps.trans (pos_stop (by omega) hbe)
                refine lv_aload_n hx hb dX0_fillByRule_54 rfl (lv_at hl 3 rfl) ?_
                refine lv_iload hx hb dX0_fillByRule_55 (lv_at hl 0 rfl) ?_
                refine lv_iload hx hb dX0_fillByRule_57 (lv_at hl 1 rfl) ?_
                refine w_iast (g := jI (va_up (sh2 (srt (gbr tT a b) oO i) i (i - g)) g i)) (ws' := xw ad cI cZ nn mm tT tB tE tL (va_up (sh2 (srt (gbr tT a b) oO i) i (i - g)) g i) oR oQ zS zM zN oJ) hx hb hK hP hD hS 5 0 rfl rfl (g) (by omega) (by omega) (by decide) (hg := jI_up) (hw := rfl) (hd := dX0_fillByRule_59) (kk := fun H locs hP hD hS => ?_)
                refine lv_iinc (v := iI ((i : Int) + 1)) (lv' := [(4, .int (iI ((i : Int) + 1))), (5, .int (iI ((g : Int)))), (0, .ref (ad 0)), (1, .ref (ad 5)), (2, .int (iI ((a : Int)))), (3, .int (iI ((b : Int))))]) hx hb dX0_fillByRule_60 hl (k := 1) rfl (iI_inc (by omega)) (by decide) rfl (fun ls hl => ?_)
                refine lv_goto (tgt := 3) hx hb dX0_fillByRule_63 (by decide) ?_
                exact ih3 (i + 1) (va_up (sh2 (srt (gbr tT a b) oO i) i (i - g)) g i) ((i : Int) + 1) (by omega) (by show _ = ins _ _ _; unfold ins; rw [hpp]) (by omega) (by omega) _ _ hP hD hS ls (lv_sub hl [0, 2, 3, 4, 5] rfl)
              · have hbe : gbr tT a b i ((srt (gbr tT a b) oO i) (g - 1)) = true := Classical.byContradiction (fun q => c35 (if_neg q))
                refine lv_aload_n hx hb dX0_fillByRule_38 rfl (lv_at hl 3 rfl) ?_
                refine lv_iload hx hb dX0_fillByRule_39 (lv_at hl 0 rfl) ?_
                refine lv_aload_n hx hb dX0_fillByRule_41 rfl (lv_at hl 3 rfl) ?_
                refine lv_iload hx hb dX0_fillByRule_42 (lv_at hl 0 rfl) ?_
                refine lv_iconst (v := iI 1) hx hb dX0_fillByRule_44 rfl ?_
                refine w_isub (z := (g : Int) - 1) hx hb dX0_fillByRule_45 (by omega) ?_
                refine w_iald (v := iI (((srt (gbr tT a b) oO i) (g - 1) : Nat) : Int)) hx hb hK hP 5 0 rfl rfl (g - 1) (by omega) (by omega) (by decide) (congrArg (fun q : Nat => iI (q : Int)) (sh2_at (by omega))) dX0_fillByRule_46 ?_
                refine w_iast (g := jI (va_up (sh2 (srt (gbr tT a b) oO i) i (i - g)) g (((srt (gbr tT a b) oO i) (g - 1))))) (ws' := xw ad cI cZ nn mm tT tB tE tL (va_up (sh2 (srt (gbr tT a b) oO i) i (i - g)) g (((srt (gbr tT a b) oO i) (g - 1)))) oR oQ zS zM zN oJ) hx hb hK hP hD hS 5 0 rfl rfl (g) (by omega) (by omega) (by decide) (hg := jI_up) (hw := rfl) (hd := dX0_fillByRule_47) (kk := fun H locs hP hD hS => ?_)
                refine lv_iinc (v := iI ((g : Int) - 1)) (lv' := [(5, .int (iI ((g : Int) - 1))), (4, .int (iI ((i : Int)))), (0, .ref (ad 0)), (1, .ref (ad 5)), (2, .int (iI ((a : Int)))), (3, .int (iI ((b : Int))))]) hx hb dX0_fillByRule_48 hl (k := 0) rfl (iI_inc (by omega)) (by decide) rfl (fun ls hl => ?_)
                refine lv_goto (tgt := 16) hx hb dX0_fillByRule_51 (by decide) ?_
                exact ih16 (g - 1) (va_up (sh2 (srt (gbr tT a b) oO i) i (i - g)) g (((srt (gbr tT a b) oO i) (g - 1)))) ((g : Int) - 1) (by omega) (hps.trans (pos_go (by omega) hbe)) (sh2_p (by omega) hg) (by omega) (by omega) _ _ hP hD hS ls (lv_sub hl [0, 1, 2, 3, 4, 5] rfl)
        exact L16 (i + 1) i (srt (gbr tT a b) oO i) ((i : Int)) (by omega) (rfl) (by rw [Nat.sub_self, sh2_0]) (by omega) (Nat.lt_succ_self _) _ _ hP hD hS ls (lv_sub hl [0, 1, 2, 3, 4, 5] rfl)
  exact L3 (nn - 0 + 1) 0 oO (0) (by omega) (rfl) (by omega) (Nat.lt_succ_self _) _ _ hP hD hS ls (lv_sub hl [0, 1, 2, 3, 4] rfl)
set_option maxHeartbeats 4000000 in
set_option maxRecDepth 100000 in
theorem mX0_fillByRule_t {a b : Nat} (hT : ∀ k, 0 ≤ tT k ∧ tT k ≤ 99) (hn : nn ≤ 7) (ha : a < 5) (hb5 : b < 5) : IM l yX0_fillByRule wsX0_fillByRule (rmx 3 69) D (tyk cI cZ cJ) (xw ad cI cZ nn mm tT tB tE tL oO oR oQ zS zM zN oJ) [.ref (ad 0), .ref (ad 6), .int (iI ((a : Int))), .int (iI ((b : Int)))] (QV D (tyk cI cZ cJ) (fun u : Unit => xw ad cI cZ nn mm tT tB tE tL oO (srt (gbr tT a b) oR nn) oQ zS zM zN oJ) (fun _ => True)) := by
  refine imV_of (cc := cX0_fillByRule) (maxL := 6) (by decide) rfl (Nat.le_of_ble_eq_true rfl) ?_
  intro p e s m args below meth c A Q hx hb hml hown hts hA hK hP hD hS hret ls hl
  have hown : s.vm.findClass RX0 = some m.cls := hown
  have hl : lv_has ls 6 [(0, .ref (ad 0)), (1, .ref (ad 6)), (2, .int (iI ((a : Int)))), (3, .int (iI ((b : Int))))] := hl
  have inW : ∀ w ∈ wsX00, w ∈ wsX0_fillByRule := by first | exact (fun w h => List.mem_cons_of_mem _ (List.mem_append_right _ h)) | exact (fun w h => List.mem_cons_of_mem _ (List.mem_append_left _ (List.mem_append_right _ h))) | exact (fun w h => List.mem_cons_of_mem _ (List.mem_append_left _ (List.mem_append_left _ (List.mem_append_right _ h)))) | decide +kernel
  refine lv_iconst (v := iI 0) hx hb dX0_fillByRule_0 rfl ?_
  refine lv_istore (lv' := [(4, .int (iI 0)), (0, .ref (ad 0)), (1, .ref (ad 6)), (2, .int (iI ((a : Int)))), (3, .int (iI ((b : Int))))]) hx hb dX0_fillByRule_1 hl (by decide) rfl (fun ls hl => ?_)
  have L3 : ∀ (fu : Nat) (i : Nat) (wtrial3 : Nat → Nat) (x4_3 : Int), (i ≤ nn) → (wtrial3 = srt (gbr tT a b) oR i) → (x4_3 = (i : Int)) → nn - i < fu → ∀ (H : Heap) (locs : List Loc), va_P D vwCl (xw ad cI cZ nn mm tT tB tE tL oO wtrial3 oQ zS zM zN oJ) H → va_D A (xw ad cI cZ nn mm tT tB tE tL oO wtrial3 oQ zS zM zN oJ) → va_S A s.heap H locs → ∀ ls : Array Slot, lv_has ls 6 [(4, .int (iI (x4_3))), (0, .ref (ad 0)), (1, .ref (ad 6)), (2, .int (iI ((a : Int)))), (3, .int (iI ((b : Int))))] → W p l e (rmx 3 69) s m args below meth c H locs 0 0 Q (F0 m 3 ls []) := by
    intro fu
    induction fu with
    | zero =>
      intro i wtrial3 x4_3 hi hq0 hq1 hfu
      exact absurd hfu (Nat.not_lt_zero _)
    | succ fu ih =>
      intro i wtrial3 x4_3 hi hq0 hq1 hfu H locs hP hD hS ls hl
      subst hq0
      subst hq1
      have ih3 := ih
      refine lv_iload hx hb dX0_fillByRule_3 (lv_at hl 0 rfl) ?_
      refine lv_aload_n hx hb dX0_fillByRule_5 rfl (lv_at hl 1 rfl) ?_
      refine va_get (D := D) (ci := 0) (C := RX0) (T := TX0) (N := 13) hx hb hts inW hown hK hP 0 rfl rfl 0 (by decide) (hts (.fieldLink RX0 7 "Flowforge" "jobCount" "I") (List.mem_of_getElem? (i := 1) rfl)) (fun _ h9 => h9) rfl dX0_fillByRule_6 ?_
      refine w_icmp_ge (tgt := 66) hx hb dX0_fillByRule_9 (by decide) ⟨by omega, by omega⟩ ⟨by omega, by omega⟩ (fun c9 => ?_) (fun c9 => ?_)
      · obtain rfl : nn = i := by omega
        exact hret _ _ 66 ls (()) hP hD hS (trivial) dX0_fillByRule_66
      · refine lv_iload hx hb dX0_fillByRule_12 (lv_at hl 0 rfl) ?_
        refine lv_istore (lv' := [(5, .int (iI ((i : Int)))), (4, .int (iI ((i : Int)))), (0, .ref (ad 0)), (1, .ref (ad 6)), (2, .int (iI ((a : Int)))), (3, .int (iI ((b : Int))))]) hx hb dX0_fillByRule_14 hl (by decide) rfl (fun ls hl => ?_)
        have L16 : ∀ (fu : Nat) (g : Nat) (wtrial16 : Nat → Nat) (x5_16 : Int), (g ≤ i) → (pos (gbr tT a b) (srt (gbr tT a b) oR i) i i = pos (gbr tT a b) (srt (gbr tT a b) oR i) i g) → (wtrial16 = sh2 (srt (gbr tT a b) oR i) i (i - g)) → (x5_16 = (g : Int)) → g < fu → ∀ (H : Heap) (locs : List Loc), va_P D vwCl (xw ad cI cZ nn mm tT tB tE tL oO wtrial16 oQ zS zM zN oJ) H → va_D A (xw ad cI cZ nn mm tT tB tE tL oO wtrial16 oQ zS zM zN oJ) → va_S A s.heap H locs → ∀ ls : Array Slot, lv_has ls 6 [(5, .int (iI (x5_16))), (4, .int (iI ((i : Int)))), (0, .ref (ad 0)), (1, .ref (ad 6)), (2, .int (iI ((a : Int)))), (3, .int (iI ((b : Int))))] → W p l e (rmx 3 69) s m args below meth c H locs 0 0 Q (F0 m 16 ls []) := by
          intro fu
          induction fu with
          | zero =>
            intro g wtrial16 x5_16 hg hps hq0 hq1 hfu
            exact absurd hfu (Nat.not_lt_zero _)
          | succ fu ih =>
            intro g wtrial16 x5_16 hg hps hq0 hq1 hfu H locs hP hD hS ls hl
            subst hq0
            subst hq1
            have ih16 := ih
            refine lv_iload hx hb dX0_fillByRule_16 (lv_at hl 0 rfl) ?_
            refine w_if_le (tgt := 54) hx hb dX0_fillByRule_18 (by decide) ⟨by omega, by omega⟩ (fun c18 => ?_) (fun c18 => ?_)
            · have hpp : pos (gbr tT a b) (srt (gbr tT a b) oR i) i i = g := by rw [hps, show g = 0 by omega]; rfl
              refine lv_aload_n hx hb dX0_fillByRule_54 rfl (lv_at hl 3 rfl) ?_
              refine lv_iload hx hb dX0_fillByRule_55 (lv_at hl 0 rfl) ?_
              refine lv_iload hx hb dX0_fillByRule_57 (lv_at hl 1 rfl) ?_
              refine w_iast (g := jI (va_up (sh2 (srt (gbr tT a b) oR i) i (i - g)) g i)) (ws' := xw ad cI cZ nn mm tT tB tE tL oO (va_up (sh2 (srt (gbr tT a b) oR i) i (i - g)) g i) oQ zS zM zN oJ) hx hb hK hP hD hS 6 0 rfl rfl (g) (by omega) (by omega) (by decide) (hg := jI_up) (hw := rfl) (hd := dX0_fillByRule_59) (kk := fun H locs hP hD hS => ?_)
              refine lv_iinc (v := iI ((i : Int) + 1)) (lv' := [(4, .int (iI ((i : Int) + 1))), (5, .int (iI ((g : Int)))), (0, .ref (ad 0)), (1, .ref (ad 6)), (2, .int (iI ((a : Int)))), (3, .int (iI ((b : Int))))]) hx hb dX0_fillByRule_60 hl (k := 1) rfl (iI_inc (by omega)) (by decide) rfl (fun ls hl => ?_)
              refine lv_goto (tgt := 3) hx hb dX0_fillByRule_63 (by decide) ?_
              exact ih3 (i + 1) (va_up (sh2 (srt (gbr tT a b) oR i) i (i - g)) g i) ((i : Int) + 1) (by omega) (by show _ = ins _ _ _; unfold ins; rw [hpp]) (by omega) (by omega) _ _ hP hD hS ls (lv_sub hl [0, 2, 3, 4, 5] rfl)
            · have h8 : (srt (gbr tT a b) oR i) (g - 1) < i := srt_lt (by omega)
              refine lv_aload_n hx hb dX0_fillByRule_21 rfl (lv_at hl 2 rfl) ?_
              refine lv_iload hx hb dX0_fillByRule_22 (lv_at hl 1 rfl) ?_
              refine lv_aload_n hx hb dX0_fillByRule_24 rfl (lv_at hl 3 rfl) ?_
              refine lv_iload hx hb dX0_fillByRule_25 (lv_at hl 0 rfl) ?_
              refine lv_iconst (v := iI 1) hx hb dX0_fillByRule_27 rfl ?_
              refine w_isub (z := (g : Int) - 1) hx hb dX0_fillByRule_28 (by omega) ?_
              refine w_iald (v := iI (((srt (gbr tT a b) oR i) (g - 1) : Nat) : Int)) hx hb hK hP 6 0 rfl rfl (g - 1) (by omega) (by omega) (by decide) (congrArg (fun q : Nat => iI (q : Int)) (sh2_at (by omega))) dX0_fillByRule_29 ?_
              refine lv_iload_n hx hb dX0_fillByRule_30 rfl (lv_at hl 4 rfl) ?_
              refine lv_iload_n hx hb dX0_fillByRule_31 rfl (lv_at hl 5 rfl) ?_
              refine w_pV (As := [.int (iI ((i : Int))), .int (iI ((((((srt (gbr tT a b) oR i) (g - 1))) : Nat) : Int))), .int (iI ((a : Int))), .int (iI ((b : Int)))]) (rest := []) ⟨hx, hb, hml, hown, hts⟩ hK hP (mX0_goesBefore  hT (by omega) (by omega) ha hb5) (cwV 4 hts gX0_fillByRule_X0_goesBefore rfl rfl rfl (by decide +kernel) ⟨Nat.le_of_ble_eq_true rfl, Nat.le_of_ble_eq_true rfl⟩) (ci := 0) rfl rfl rfl rfl hl.1 (by rw [show (((((srt (gbr tT a b) oR i) (g - 1) : Nat) : Int)) : Int) = (((((srt (gbr tT a b) oR i) (g - 1))) : Nat) : Int) by omega]; try rfl) (Nat.le_of_ble_eq_true rfl) dX0_fillByRule_32 ⟨Nat.zero_le _, Nat.zero_le _⟩ (fun r32 hr32 => ?_)
              have h7 : (if gbr tT a b i ((srt (gbr tT a b) oR i) (g - 1)) = true then (1 : Int) else 0) = 0 ∨ (if gbr tT a b i ((srt (gbr tT a b) oR i) (g - 1)) = true then (1 : Int) else 0) = 1 := by split <;> simp
              refine w_top (v := iI ((if gbr tT a b i (((srt (gbr tT a b) oR i) (g - 1))) = true then 1 else 0))) (hr32) ?_
              refine w_if_eq (tgt := 54) hx hb dX0_fillByRule_35 (by decide) ⟨by omega, by omega⟩ (fun c35 => ?_) (fun c35 => ?_)
              · have hbe : ¬ gbr tT a b i ((srt (gbr tT a b) oR i) (g - 1)) = true := fun q => by rw [if_pos q] at c35; exact absurd c35 (by omega)
                have hpp : pos (gbr tT a b) (srt (gbr tT a b) oR i) i i = g := hps.trans (pos_stop (by omega) hbe)
                refine lv_aload_n hx hb dX0_fillByRule_54 rfl (lv_at hl 3 rfl) ?_
                refine lv_iload hx hb dX0_fillByRule_55 (lv_at hl 0 rfl) ?_
                refine lv_iload hx hb dX0_fillByRule_57 (lv_at hl 1 rfl) ?_
                refine w_iast (g := jI (va_up (sh2 (srt (gbr tT a b) oR i) i (i - g)) g i)) (ws' := xw ad cI cZ nn mm tT tB tE tL oO (va_up (sh2 (srt (gbr tT a b) oR i) i (i - g)) g i) oQ zS zM zN oJ) hx hb hK hP hD hS 6 0 rfl rfl (g) (by omega) (by omega) (by decide) (hg := jI_up) (hw := rfl) (hd := dX0_fillByRule_59) (kk := fun H locs hP hD hS => ?_)
                refine lv_iinc (v := iI ((i : Int) + 1)) (lv' := [(4, .int (iI ((i : Int) + 1))), (5, .int (iI ((g : Int)))), (0, .ref (ad 0)), (1, .ref (ad 6)), (2, .int (iI ((a : Int)))), (3, .int (iI ((b : Int))))]) hx hb dX0_fillByRule_60 hl (k := 1) rfl (iI_inc (by omega)) (by decide) rfl (fun ls hl => ?_)
                refine lv_goto (tgt := 3) hx hb dX0_fillByRule_63 (by decide) ?_
                exact ih3 (i + 1) (va_up (sh2 (srt (gbr tT a b) oR i) i (i - g)) g i) ((i : Int) + 1) (by omega) (by show _ = ins _ _ _; unfold ins; rw [hpp]) (by omega) (by omega) _ _ hP hD hS ls (lv_sub hl [0, 2, 3, 4, 5] rfl)
              · have hbe : gbr tT a b i ((srt (gbr tT a b) oR i) (g - 1)) = true := Classical.byContradiction (fun q => c35 (if_neg q))
                refine lv_aload_n hx hb dX0_fillByRule_38 rfl (lv_at hl 3 rfl) ?_
                refine lv_iload hx hb dX0_fillByRule_39 (lv_at hl 0 rfl) ?_
                refine lv_aload_n hx hb dX0_fillByRule_41 rfl (lv_at hl 3 rfl) ?_
                refine lv_iload hx hb dX0_fillByRule_42 (lv_at hl 0 rfl) ?_
                refine lv_iconst (v := iI 1) hx hb dX0_fillByRule_44 rfl ?_
                refine w_isub (z := (g : Int) - 1) hx hb dX0_fillByRule_45 (by omega) ?_
                refine w_iald (v := iI (((srt (gbr tT a b) oR i) (g - 1) : Nat) : Int)) hx hb hK hP 6 0 rfl rfl (g - 1) (by omega) (by omega) (by decide) (congrArg (fun q : Nat => iI (q : Int)) (sh2_at (by omega))) dX0_fillByRule_46 ?_
                refine w_iast (g := jI (va_up (sh2 (srt (gbr tT a b) oR i) i (i - g)) g (((srt (gbr tT a b) oR i) (g - 1))))) (ws' := xw ad cI cZ nn mm tT tB tE tL oO (va_up (sh2 (srt (gbr tT a b) oR i) i (i - g)) g (((srt (gbr tT a b) oR i) (g - 1)))) oQ zS zM zN oJ) hx hb hK hP hD hS 6 0 rfl rfl (g) (by omega) (by omega) (by decide) (hg := jI_up) (hw := rfl) (hd := dX0_fillByRule_47) (kk := fun H locs hP hD hS => ?_)
                refine lv_iinc (v := iI ((g : Int) - 1)) (lv' := [(5, .int (iI ((g : Int) - 1))), (4, .int (iI ((i : Int)))), (0, .ref (ad 0)), (1, .ref (ad 6)), (2, .int (iI ((a : Int)))), (3, .int (iI ((b : Int))))]) hx hb dX0_fillByRule_48 hl (k := 0) rfl (iI_inc (by omega)) (by decide) rfl (fun ls hl => ?_)
                refine lv_goto (tgt := 16) hx hb dX0_fillByRule_51 (by decide) ?_
                exact ih16 (g - 1) (va_up (sh2 (srt (gbr tT a b) oR i) i (i - g)) g (((srt (gbr tT a b) oR i) (g - 1)))) ((g : Int) - 1) (by omega) (hps.trans (pos_go (by omega) hbe)) (sh2_p (by omega) hg) (by omega) (by omega) _ _ hP hD hS ls (lv_sub hl [0, 1, 2, 3, 4, 5] rfl)
        exact L16 (i + 1) i (srt (gbr tT a b) oR i) ((i : Int)) (by omega) (rfl) (by rw [Nat.sub_self, sh2_0]) (by omega) (Nat.lt_succ_self _) _ _ hP hD hS ls (lv_sub hl [0, 1, 2, 3, 4, 5] rfl)
  exact L3 (nn - 0 + 1) 0 oR (0) (by omega) (rfl) (by omega) (Nat.lt_succ_self _) _ _ hP hD hS ls (lv_sub hl [0, 1, 2, 3, 4] rfl)
set_option maxHeartbeats 4000000 in
set_option maxRecDepth 100000 in
theorem mX0_leastOfPair {a b : Nat} (hT : ∀ k, 0 ≤ tT k ∧ tT k ≤ 99) (hn : nn ≤ 7) (ha : a < 5) (hb5 : b < 5) : IM l yX0_leastOfPair wsX0_leastOfPair (rmx 4 94) D (tyk cI cZ cJ) (xw ad cI cZ nn mm tT tB tE tL oO oR oQ zS zM zN oJ) [.ref (ad 0), .int (iI ((a : Int))), .int (iI ((b : Int)))] (QI D (tyk cI cZ cJ) (fun u : Unit => xw ad cI cZ nn mm tT tB tE tL oO (srt (gbr tT a b) oR nn) oQ zS zM zN oJ) (fun x _ => x = iI (opS tT (srt (gbr tT a b) oR nn) a b nn))) := by
  refine imI_of (cc := cX0_leastOfPair) (maxL := 6) (by decide) rfl (Nat.le_of_ble_eq_true rfl) ?_
  intro p e s m args below meth c A Q hx hb hml hown hts hA hK hP hD hS hret ls hl
  have hown : s.vm.findClass RX0 = some m.cls := hown
  have hl : lv_has ls 6 [(0, .ref (ad 0)), (1, .int (iI ((a : Int)))), (2, .int (iI ((b : Int))))] := hl
  have inW : ∀ w ∈ wsX00, w ∈ wsX0_leastOfPair := by first | exact (fun w h => List.mem_cons_of_mem _ (List.mem_append_right _ h)) | exact (fun w h => List.mem_cons_of_mem _ (List.mem_append_left _ (List.mem_append_right _ h))) | exact (fun w h => List.mem_cons_of_mem _ (List.mem_append_left _ (List.mem_append_left _ (List.mem_append_right _ h)))) | decide +kernel
  refine lv_aload_n hx hb dX0_leastOfPair_0 rfl (lv_at hl 0 rfl) ?_
  refine lv_aload_n hx hb dX0_leastOfPair_1 rfl (lv_at hl 0 rfl) ?_
  refine va_get (D := D) (ci := 0) (C := RX0) (T := TX0) (N := 13) hx hb hts inW hown hK hP 0 rfl rfl 7 (by decide) (hts (.fieldLink RX0 32 "Flowforge" "trial" "[I") (List.mem_of_getElem? (i := 1) rfl)) (fun _ h9 => h9) rfl dX0_leastOfPair_2 ?_
  refine lv_iload_n hx hb dX0_leastOfPair_5 rfl (lv_at hl 1 rfl) ?_
  refine lv_iload_n hx hb dX0_leastOfPair_6 rfl (lv_at hl 2 rfl) ?_
  refine w_iVv (As := [.ref (ad 6), .int (iI ((a : Int))), .int (iI ((b : Int)))]) (rest := []) (wf := fun u : Unit => xw ad cI cZ nn mm tT tB tE tL oO (srt (gbr tT a b) oR nn) oQ zS zM zN oJ) (wr := []) ⟨hx, hb, hml, hown, hts⟩ hK hP hD hS hA (mX0_fillByRule_t  hT hn ha hb5) (cwV 3 hts gX0_leastOfPair_X0_fillByRule rfl rfl rfl (by decide +kernel) ⟨Nat.le_of_ble_eq_true rfl, Nat.le_of_ble_eq_true rfl⟩) [0, 1, 2, 3, 4, 5, 6, 7, 8, 9, 10, 11] [] [0, 1, 2, 3, 4, 5, 6, 7, 8, 9, 10, 11] rfl rfl (by decide) (by decide) (by decide) (hwf := fun _ => rfl) (by decide) (ci := 0) rfl rfl rfl rfl hl.1 rfl (Nat.le_of_ble_eq_true rfl) dX0_leastOfPair_7 ⟨Nat.zero_le _, Nat.zero_le _⟩ (fun u H locs hr7 hP hD hS => ?_)
  have hr9 : ∀ k, k < nn → (srt (gbr tT a b) oR nn) k < 7 := fun k hk => Nat.lt_of_lt_of_le (srt_lt hk) hn
  refine lv_iconst (v := iI 0) hx hb dX0_leastOfPair_10 rfl ?_
  refine lv_istore_n (lv' := [(3, .int (iI 0)), (0, .ref (ad 0)), (1, .int (iI ((a : Int)))), (2, .int (iI ((b : Int))))]) hx hb dX0_leastOfPair_11 rfl hl (by decide) rfl (fun ls hl => ?_)
  refine lv_iconst (v := iI 0) hx hb dX0_leastOfPair_12 rfl ?_
  refine lv_istore (lv' := [(4, .int (iI 0)), (3, .int (iI 0)), (0, .ref (ad 0)), (1, .int (iI ((a : Int)))), (2, .int (iI ((b : Int))))]) hx hb dX0_leastOfPair_13 hl (by decide) rfl (fun ls hl => ?_)
  refine lv_iconst (v := iI 0) hx hb dX0_leastOfPair_15 rfl ?_
  refine lv_istore (lv' := [(5, .int (iI 0)), (4, .int (iI 0)), (3, .int (iI 0)), (0, .ref (ad 0)), (1, .int (iI ((a : Int)))), (2, .int (iI ((b : Int))))]) hx hb dX0_leastOfPair_16 hl (by decide) rfl (fun ls hl => ?_)
  have L18 : ∀ (fu : Nat) (i : Nat) (x5_18 : Int) (x4_18 : Int) (x3_18 : Int), (i ≤ nn) → (x5_18 = (i : Int)) → (x4_18 = (opS tT (srt (gbr tT a b) oR nn) a b i)) → (x3_18 = (opF tT (srt (gbr tT a b) oR nn) a i)) → nn - i < fu → ∀ (H : Heap) (locs : List Loc), va_P D vwCl (xw ad cI cZ nn mm tT tB tE tL oO (srt (gbr tT a b) oR nn) oQ zS zM zN oJ) H → va_D A (xw ad cI cZ nn mm tT tB tE tL oO (srt (gbr tT a b) oR nn) oQ zS zM zN oJ) → va_S A s.heap H locs → ∀ ls : Array Slot, lv_has ls 6 [(5, .int (iI (x5_18))), (4, .int (iI (x4_18))), (3, .int (iI (x3_18))), (0, .ref (ad 0)), (1, .int (iI ((a : Int)))), (2, .int (iI ((b : Int))))] → W p l e (rmx 4 94) s m args below meth c H locs 0 0 Q (F0 m 18 ls []) := by
    intro fu
    induction fu with
    | zero =>
      intro i x5_18 x4_18 x3_18 hi hq0 hq1 hq2 hfu
      exact absurd hfu (Nat.not_lt_zero _)
    | succ fu ih =>
      intro i x5_18 x4_18 x3_18 hi hq0 hq1 hq2 hfu H locs hP hD hS ls hl
      subst hq0
      subst hq1
      subst hq2
      have ih18 := ih
      have h9 := opF_rg hT (srt (gbr tT a b) oR nn) a i
      have h8 := opS_rg hT (srt (gbr tT a b) oR nn) a b i
      refine lv_iload hx hb dX0_leastOfPair_18 (lv_at hl 0 rfl) ?_
      refine lv_aload_n hx hb dX0_leastOfPair_20 rfl (lv_at hl 3 rfl) ?_
      refine va_get (D := D) (ci := 0) (C := RX0) (T := TX0) (N := 13) hx hb hts inW hown hK hP 0 rfl rfl 0 (by decide) (hts (.fieldLink RX0 7 "Flowforge" "jobCount" "I") (List.mem_of_getElem? (i := 2) rfl)) (fun _ h9 => h9) rfl dX0_leastOfPair_21 ?_
      refine w_icmp_ge (tgt := 69) hx hb dX0_leastOfPair_24 (by decide) ⟨by omega, by omega⟩ ⟨by omega, by omega⟩ (fun c24 => ?_) (fun c24 => ?_)
      · obtain rfl : nn = i := by omega
        refine lv_iload hx hb dX0_leastOfPair_69 (lv_at hl 1 rfl) ?_
        exact hret _ _ 71 ls _ (()) hP hD hS (rfl) dX0_leastOfPair_71
      · have h7 := hr9 i (by omega)
        have h6 := hT (5 * (srt (gbr tT a b) oR nn) i + a)
        refine lv_iload_n hx hb dX0_leastOfPair_27 rfl (lv_at hl 2 rfl) ?_
        refine lv_aload_n hx hb dX0_leastOfPair_28 rfl (lv_at hl 3 rfl) ?_
        refine lv_aload_n hx hb dX0_leastOfPair_29 rfl (lv_at hl 3 rfl) ?_
        refine va_get (D := D) (ci := 0) (C := RX0) (T := TX0) (N := 13) hx hb hts inW hown hK hP 0 rfl rfl 7 (by decide) (hts (.fieldLink RX0 32 "Flowforge" "trial" "[I") (List.mem_of_getElem? (i := 1) rfl)) (fun _ h9 => h9) rfl dX0_leastOfPair_30 ?_
        refine lv_iload hx hb dX0_leastOfPair_33 (lv_at hl 0 rfl) ?_
        refine w_iald (v := iI (((srt (gbr tT a b) oR nn) i : Nat) : Int)) hx hb hK hP 6 0 rfl rfl (i) (by omega) (by omega) (by decide) rfl dX0_leastOfPair_35 ?_
        refine lv_iload_n hx hb dX0_leastOfPair_36 rfl (lv_at hl 4 rfl) ?_
        refine w_pV (As := [.int (iI ((((((srt (gbr tT a b) oR nn) i)) : Nat) : Int))), .int (iI ((a : Int)))]) (rest := [.int (iI ((opF tT (srt (gbr tT a b) oR nn) a i)))]) ⟨hx, hb, hml, hown, hts⟩ hK hP (mX0_timeOf  h7 ha) (cwV 2 hts gX0_leastOfPair_X0_timeOf rfl rfl rfl (by decide +kernel) ⟨Nat.le_of_ble_eq_true rfl, Nat.le_of_ble_eq_true rfl⟩) (ci := 0) rfl rfl rfl rfl hl.1 (by rw [show (((((srt (gbr tT a b) oR nn) i : Nat) : Int)) : Int) = (((((srt (gbr tT a b) oR nn) i)) : Nat) : Int) by omega]; try rfl) (Nat.le_of_ble_eq_true rfl) dX0_leastOfPair_37 ⟨Nat.zero_le _, Nat.zero_le _⟩ (fun r37 hr37 => ?_)
        refine w_top (v := iI ((tT (5 * (((srt (gbr tT a b) oR nn) i)) + a)))) (hr37) ?_
        refine w_iadd (z := (opF tT (srt (gbr tT a b) oR nn) a i) + (tT (5 * (((srt (gbr tT a b) oR nn) i)) + a))) hx hb dX0_leastOfPair_40 (by omega) ?_
        refine lv_istore_n (lv' := [(3, .int (iI ((opF tT (srt (gbr tT a b) oR nn) a i) + (tT (5 * (((srt (gbr tT a b) oR nn) i)) + a))))), (5, .int (iI ((i : Int)))), (4, .int (iI ((opS tT (srt (gbr tT a b) oR nn) a b i)))), (0, .ref (ad 0)), (1, .int (iI ((a : Int)))), (2, .int (iI ((b : Int))))]) hx hb dX0_leastOfPair_41 rfl hl (by decide) rfl (fun ls hl => ?_)
        refine lv_iload_n hx hb dX0_leastOfPair_42 rfl (lv_at hl 0 rfl) ?_
        refine lv_iload hx hb dX0_leastOfPair_43 (lv_at hl 2 rfl) ?_
        refine va_mmax hx hb (hml.trans hl.1.symm) hown (hts (.methodLink RX0 167 Lib.Math.max.name) (List.mem_of_getElem? (i := 3) rfl)) (hts (.static Lib.Math.max.name) (List.mem_of_getElem? (i := 4) rfl)) (hts (.initialized "java/lang/Math") (List.mem_of_getElem? (i := 5) rfl)) (hts (.code Lib.Math.max.name Lib.Math.max.code 2 (some .int)) (List.mem_of_getElem? (i := 6) rfl)) (Nat.le_of_ble_eq_true rfl) (Nat.le_of_ble_eq_true rfl) (Nat.zero_le _) (Nat.zero_le _) dX0_leastOfPair_45 ?_
        refine w_top (v := iI ((max ((opF tT (srt (gbr tT a b) oR nn) a i) + (tT (5 * (((srt (gbr tT a b) oR nn) i)) + a))) ((opS tT (srt (gbr tT a b) oR nn) a b i))))) (iI_max ⟨by omega, by omega⟩ ⟨by omega, by omega⟩) ?_
        refine lv_aload_n hx hb dX0_leastOfPair_48 rfl (lv_at hl 3 rfl) ?_
        refine lv_aload_n hx hb dX0_leastOfPair_49 rfl (lv_at hl 3 rfl) ?_
        refine va_get (D := D) (ci := 0) (C := RX0) (T := TX0) (N := 13) hx hb hts inW hown hK hP 0 rfl rfl 7 (by decide) (hts (.fieldLink RX0 32 "Flowforge" "trial" "[I") (List.mem_of_getElem? (i := 1) rfl)) (fun _ h9 => h9) rfl dX0_leastOfPair_50 ?_
        refine lv_iload hx hb dX0_leastOfPair_53 (lv_at hl 1 rfl) ?_
        refine w_iald (v := iI (((srt (gbr tT a b) oR nn) i : Nat) : Int)) hx hb hK hP 6 0 rfl rfl (i) (by omega) (by omega) (by decide) rfl dX0_leastOfPair_55 ?_
        refine lv_iload_n hx hb dX0_leastOfPair_56 rfl (lv_at hl 5 rfl) ?_
        refine w_pV (As := [.int (iI ((((((srt (gbr tT a b) oR nn) i)) : Nat) : Int))), .int (iI ((b : Int)))]) (rest := [.int (iI ((max ((opF tT (srt (gbr tT a b) oR nn) a i) + (tT (5 * (((srt (gbr tT a b) oR nn) i)) + a))) ((opS tT (srt (gbr tT a b) oR nn) a b i)))))]) ⟨hx, hb, hml, hown, hts⟩ hK hP (mX0_timeOf  h7 hb5) (cwV 2 hts gX0_leastOfPair_X0_timeOf rfl rfl rfl (by decide +kernel) ⟨Nat.le_of_ble_eq_true rfl, Nat.le_of_ble_eq_true rfl⟩) (ci := 0) rfl rfl rfl rfl hl.1 (by rw [show (((((srt (gbr tT a b) oR nn) i : Nat) : Int)) : Int) = (((((srt (gbr tT a b) oR nn) i)) : Nat) : Int) by omega]; try rfl) (Nat.le_of_ble_eq_true rfl) dX0_leastOfPair_57 ⟨Nat.zero_le _, Nat.zero_le _⟩ (fun r57 hr57 => ?_)
        refine w_top (v := iI ((tT (5 * (((srt (gbr tT a b) oR nn) i)) + b)))) (hr57) ?_
        refine w_iadd (z := (max ((opF tT (srt (gbr tT a b) oR nn) a i) + (tT (5 * (((srt (gbr tT a b) oR nn) i)) + a))) ((opS tT (srt (gbr tT a b) oR nn) a b i))) + (tT (5 * (((srt (gbr tT a b) oR nn) i)) + b))) hx hb dX0_leastOfPair_60 (by omega) ?_
        refine lv_istore (lv' := [(4, .int (iI ((max ((opF tT (srt (gbr tT a b) oR nn) a i) + (tT (5 * (((srt (gbr tT a b) oR nn) i)) + a))) ((opS tT (srt (gbr tT a b) oR nn) a b i))) + (tT (5 * (((srt (gbr tT a b) oR nn) i)) + b))))), (3, .int (iI ((opF tT (srt (gbr tT a b) oR nn) a i) + (tT (5 * (((srt (gbr tT a b) oR nn) i)) + a))))), (5, .int (iI ((i : Int)))), (0, .ref (ad 0)), (1, .int (iI ((a : Int)))), (2, .int (iI ((b : Int))))]) hx hb dX0_leastOfPair_61 hl (by decide) rfl (fun ls hl => ?_)
        refine lv_iinc (v := iI ((i : Int) + 1)) (lv' := [(5, .int (iI ((i : Int) + 1))), (4, .int (iI ((max ((opF tT (srt (gbr tT a b) oR nn) a i) + (tT (5 * (((srt (gbr tT a b) oR nn) i)) + a))) ((opS tT (srt (gbr tT a b) oR nn) a b i))) + (tT (5 * (((srt (gbr tT a b) oR nn) i)) + b))))), (3, .int (iI ((opF tT (srt (gbr tT a b) oR nn) a i) + (tT (5 * (((srt (gbr tT a b) oR nn) i)) + a))))), (0, .ref (ad 0)), (1, .int (iI ((a : Int)))), (2, .int (iI ((b : Int))))]) hx hb dX0_leastOfPair_63 hl (k := 2) rfl (iI_inc (by omega)) (by decide) rfl (fun ls hl => ?_)
        refine lv_goto (tgt := 18) hx hb dX0_leastOfPair_66 (by decide) ?_
        exact ih18 (i + 1) ((i : Int) + 1) ((max ((opF tT (srt (gbr tT a b) oR nn) a i) + (tT (5 * (((srt (gbr tT a b) oR nn) i)) + a))) ((opS tT (srt (gbr tT a b) oR nn) a b i))) + (tT (5 * (((srt (gbr tT a b) oR nn) i)) + b))) ((opF tT (srt (gbr tT a b) oR nn) a i) + (tT (5 * (((srt (gbr tT a b) oR nn) i)) + a))) (by omega) (by omega) (rfl) (rfl) (by omega) _ _ hP hD hS ls (lv_sub hl [0, 1, 2, 3, 4, 5] rfl)
  exact L18 (nn - 0 + 1) 0 (0) (0) (0) (by omega) (by omega) (rfl) (rfl) (Nat.lt_succ_self _) _ _ hP hD hS ls (lv_sub hl [0, 1, 2, 3, 4, 5] rfl)
end
