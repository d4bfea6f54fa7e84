section
variable {l : Launch} {D : va_G} {cI cZ cJ : ClassId} {ad bd : Nat → Nat} {a0 : Nat} {ws : va_W} {nn mm : Nat} {th bm : Int} {tT tB tE tL : Nat → Int} {oO oR oQ : Nat → Nat} {zS zM zN : Nat → Int} {oJ fF : Nat → Nat}
set_option maxHeartbeats 4000000 in
set_option maxRecDepth 100000 in
theorem mX1_placeOf {j q : Nat} (hn : nn ≤ 7) (hq : q < nn) (hj : j = oO q) (hw : ∀ k, k < q → oO k ≠ j) (hO : ∀ k, k < nn → oO k < 7) : PM l yX1_placeOf wsX1_placeOf (rmx 0 0) D (tyk cI cZ cJ) (mw bd cI th nn mm bm tT oO tB tL oR oJ) [.ref (bd 0), .int (iI ((j : Int)))] (vp_Si (fun x => x = iI (q : Int))) := by
  refine pmI_of (cc := cX1_placeOf) (maxL := 3) (by decide) rfl (Nat.le_of_ble_eq_true rfl) ?_
  intro p e s m args below meth c Q hx hb hml hown hts hK hP hret ls hl
  have hown : s.vm.findClass RX1 = some m.cls := hown
  have hl : lv_has ls 3 [(0, .ref (bd 0)), (1, .int (iI ((j : Int))))] := hl
  have inW : ∀ w ∈ wsX10, w ∈ wsX1_placeOf := by first | exact (fun w h => List.mem_cons_of_mem _ (List.mem_append_right _ h)) | exact (fun w h => List.mem_cons_of_mem _ (List.mem_append_left _ (List.mem_append_right _ h))) | exact (fun w h => List.mem_cons_of_mem _ (List.mem_append_left _ (List.mem_append_left _ (List.mem_append_right _ h)))) | decide +kernel
  refine lv_iconst (v := iI 0) hx hb dX1_placeOf_0 rfl ?_
  refine lv_istore_n (lv' := [(2, .int (iI 0)), (0, .ref (bd 0)), (1, .int (iI ((j : Int))))]) hx hb dX1_placeOf_1 rfl hl (by decide) rfl (fun ls hl => ?_)
  have L2 : ∀ (fu : Nat) (i : Nat) (x2_2 : Int), (i ≤ q) → (x2_2 = (i : Int)) → q - i < fu → ∀ ls : Array Slot, lv_has ls 3 [(2, .int (iI (x2_2))), (0, .ref (bd 0)), (1, .int (iI ((j : Int))))] → W p l e (rmx 0 0) s m args below meth c s.heap [] 0 0 Q (F0 m 2 ls []) := by
    intro fu
    induction fu with
    | zero =>
      intro i x2_2 hi hq0 hfu
      exact absurd hfu (Nat.not_lt_zero _)
    | succ fu ih =>
      intro i x2_2 hi hq0 hfu ls hl
      subst hq0
      have ih2 := ih
      have h8 := hO i (by omega)
      have h7 := hO q hq
      refine lv_aload_n hx hb dX1_placeOf_2 rfl (lv_at hl 1 rfl) ?_
      refine va_get (D := D) (ci := 1) (C := RX1) (T := TX1) (N := 10) hx hb hts inW hown hK hP 0 rfl rfl 4 (by decide) (hts (.fieldLink RX1 17 "FlowforgeModel" "order" "[I") (List.mem_of_getElem? (i := 1) rfl)) (fun _ h9 => h9) rfl dX1_placeOf_3 ?_
      refine lv_iload_n hx hb dX1_placeOf_6 rfl (lv_at hl 0 rfl) ?_
      refine w_iald (v := iI ((oO i : Nat) : Int)) hx hb hK hP 2 0 rfl rfl (i) (by omega) (by omega) (by decide) rfl dX1_placeOf_7 ?_
      refine lv_iload_n hx hb dX1_placeOf_8 rfl (lv_at hl 2 rfl) ?_
      refine w_icmp_eq (tgt := 18) hx hb dX1_placeOf_9 (by decide) ⟨by omega, by omega⟩ ⟨by omega, by omega⟩ (fun c9 => ?_) (fun c9 => ?_)
      · have hiq : i = q := (Nat.lt_or_ge i q).elim (fun h => absurd (show oO i = j by omega) (hw i h)) (fun h => by omega)
        refine lv_iload_n hx hb dX1_placeOf_18 rfl (lv_at hl 0 rfl) ?_
        exact hret 19 ls _ (by rw [hiq]) dX1_placeOf_19
      · have hne : i ≠ q := fun h => c9 (by rw [h, hj])
        refine lv_iinc (v := iI ((i : Int) + 1)) (lv' := [(2, .int (iI ((i : Int) + 1))), (0, .ref (bd 0)), (1, .int (iI ((j : Int))))]) hx hb dX1_placeOf_12 hl (k := 0) rfl (iI_inc (by omega)) (by decide) rfl (fun ls hl => ?_)
        refine lv_goto (tgt := 2) hx hb dX1_placeOf_15 (by decide) ?_
        exact ih2 (i + 1) ((i : Int) + 1) (by omega) (by omega) (by omega) ls (lv_sub hl [0, 1, 2] rfl)
  exact L2 (q - 0 + 1) 0 (0) (by omega) (by omega) (Nat.lt_succ_self _) ls (lv_sub hl [0, 1, 2] rfl)
set_option maxHeartbeats 4000000 in
set_option maxRecDepth 100000 in
theorem mX1_triesMove {a b : Nat} (hn : nn ≤ 7) (ha : a < nn) (hb7 : b < nn) : IM l yX1_triesMove wsX1_triesMove (rmx 0 0) D (tyk cI cZ cJ) (mw bd cI th nn mm bm tT oO tB tL oR oJ) [.ref (bd 0), .int (iI ((a : Int))), .int (iI ((b : Int)))] (QV D (tyk cI cZ cJ) (fun u : Unit => mw bd cI th nn mm bm tT oO tB tL (shf (ovr oO oR nn) a b) oJ) (fun _ => True)) := by
  refine imV_of (cc := cX1_triesMove) (maxL := 4) (by decide) rfl (Nat.le_of_ble_eq_true rfl) ?_
  intro p e s m args below meth c A Q hx hb hml hown hts hA hK hP hD hS hret ls hl
  have hown : s.vm.findClass RX1 = some m.cls := hown
  have hl : lv_has ls 4 [(0, .ref (bd 0)), (1, .int (iI ((a : Int)))), (2, .int (iI ((b : Int))))] := hl
  have inW : ∀ w ∈ wsX10, w ∈ wsX1_triesMove := by first | exact (fun w h => List.mem_cons_of_mem _ (List.mem_append_right _ h)) | exact (fun w h => List.mem_cons_of_mem _ (List.mem_append_left _ (List.mem_append_right _ h))) | exact (fun w h => List.mem_cons_of_mem _ (List.mem_append_left _ (List.mem_append_left _ (List.mem_append_right _ h)))) | decide +kernel
  refine lv_iconst (v := iI 0) hx hb dX1_triesMove_0 rfl ?_
  refine lv_istore_n (lv' := [(3, .int (iI 0)), (0, .ref (bd 0)), (1, .int (iI ((a : Int)))), (2, .int (iI ((b : Int))))]) hx hb dX1_triesMove_1 rfl hl (by decide) rfl (fun ls hl => ?_)
  have L2 : ∀ (fu : Nat) (i : Nat) (wtrial2 : Nat → Nat) (x3_2 : Int), (i ≤ nn) → (wtrial2 = ovr oO oR i) → (x3_2 = (i : Int)) → nn - i < fu → ∀ (H : Heap) (locs : List Loc), va_P D vwCl (mw bd cI th nn mm bm tT oO tB tL wtrial2 oJ) H → va_D A (mw bd cI th nn mm bm tT oO tB tL wtrial2 oJ) → va_S A s.heap H locs → ∀ ls : Array Slot, lv_has ls 4 [(3, .int (iI (x3_2))), (0, .ref (bd 0)), (1, .int (iI ((a : Int)))), (2, .int (iI ((b : Int))))] → W p l e (rmx 0 0) s m args below meth c H locs 0 0 Q (F0 m 2 ls []) := by
    intro fu
    induction fu with
    | zero =>
      intro i wtrial2 x3_2 hi hq0 hq1 hfu
      exact absurd hfu (Nat.not_lt_zero _)
    | succ fu ih =>
      intro i wtrial2 x3_2 hi hq0 hq1 hfu H locs hP hD hS ls hl
      subst hq0
      subst hq1
      have ih2 := ih
      refine lv_iload_n hx hb dX1_triesMove_2 rfl (lv_at hl 0 rfl) ?_
      refine lv_aload_n hx hb dX1_triesMove_3 rfl (lv_at hl 1 rfl) ?_
      refine va_get (D := D) (ci := 1) (C := RX1) (T := TX1) (N := 10) hx hb hts inW hown hK hP 0 rfl rfl 1 (by decide) (hts (.fieldLink RX1 35 "FlowforgeModel" "many" "I") (List.mem_of_getElem? (i := 1) rfl)) (fun _ h9 => h9) rfl dX1_triesMove_4 ?_
      refine w_icmp_ge (tgt := 28) hx hb dX1_triesMove_7 (by decide) ⟨by omega, by omega⟩ ⟨by omega, by omega⟩ (fun c7 => ?_) (fun c7 => ?_)
      · obtain rfl : nn = i := by omega
        refine lv_iload_n hx hb dX1_triesMove_28 rfl (lv_at hl 2 rfl) ?_
        refine lv_istore_n (lv' := [(3, .int (iI ((a : Int)))), (0, .ref (bd 0)), (1, .int (iI ((a : Int)))), (2, .int (iI ((b : Int))))]) hx hb dX1_triesMove_29 rfl hl (by decide) rfl (fun ls hl => ?_)
        have L30 : ∀ (fu : Nat) (z : Nat) (wtrial30 : Nat → Nat) (x3_30 : Int), (z ≤ b - a) → (wtrial30 = sh1 (ovr oO oR nn) a z) → (x3_30 = (a : Int) + (z : Int)) → b - a - z < fu → ∀ (H : Heap) (locs : List Loc), va_P D vwCl (mw bd cI th nn mm bm tT oO tB tL wtrial30 oJ) H → va_D A (mw bd cI th nn mm bm tT oO tB tL wtrial30 oJ) → va_S A s.heap H locs → ∀ ls : Array Slot, lv_has ls 4 [(3, .int (iI (x3_30))), (0, .ref (bd 0)), (1, .int (iI ((a : Int)))), (2, .int (iI ((b : Int))))] → W p l e (rmx 0 0) s m args below meth c H locs 0 0 Q (F0 m 30 ls []) := by
          intro fu
          induction fu with
          | zero =>
            intro z wtrial30 x3_30 hz hq0 hq1 hfu
            exact absurd hfu (Nat.not_lt_zero _)
          | succ fu ih =>
            intro z wtrial30 x3_30 hz hq0 hq1 hfu H locs hP hD hS ls hl
            subst hq0
            subst hq1
            have ih30 := ih
            refine lv_iload_n hx hb dX1_triesMove_30 rfl (lv_at hl 0 rfl) ?_
            refine lv_iload_n hx hb dX1_triesMove_31 rfl (lv_at hl 3 rfl) ?_
            refine w_icmp_ge (tgt := 55) hx hb dX1_triesMove_32 (by decide) ⟨by omega, by omega⟩ ⟨by omega, by omega⟩ (fun c32 => ?_) (fun c32 => ?_)
            · obtain rfl : z = b - a := by omega
              refine lv_iload_n hx hb dX1_triesMove_55 rfl (lv_at hl 2 rfl) ?_
              refine lv_istore_n (lv' := [(3, .int (iI ((a : Int)))), (0, .ref (bd 0)), (1, .int (iI ((a : Int)))), (2, .int (iI ((b : Int))))]) hx hb dX1_triesMove_56 rfl hl (by decide) rfl (fun ls hl => ?_)
              have L57 : ∀ (fu : Nat) (y : Nat) (wtrial57 : Nat → Nat) (x3_57 : Int), (y ≤ a - b) → (wtrial57 = sh2 (sh1 (ovr oO oR nn) a (b - a)) a y) → (x3_57 = (a : Int) - (y : Int)) → a - b - y < fu → ∀ (H : Heap) (locs : List Loc), va_P D vwCl (mw bd cI th nn mm bm tT oO tB tL wtrial57 oJ) H → va_D A (mw bd cI th nn mm bm tT oO tB tL wtrial57 oJ) → va_S A s.heap H locs → ∀ ls : Array Slot, lv_has ls 4 [(3, .int (iI (x3_57))), (0, .ref (bd 0)), (1, .int (iI ((a : Int)))), (2, .int (iI ((b : Int))))] → W p l e (rmx 0 0) s m args below meth c H locs 0 0 Q (F0 m 57 ls []) := by
                intro fu
                induction fu with
                | zero =>
                  intro y wtrial57 x3_57 hy hq0 hq1 hfu
                  exact absurd hfu (Nat.not_lt_zero _)
                | succ fu ih =>
                  intro y wtrial57 x3_57 hy hq0 hq1 hfu H locs hP hD hS ls hl
                  subst hq0
                  subst hq1
                  have ih57 := ih
                  refine lv_iload_n hx hb dX1_triesMove_57 rfl (lv_at hl 0 rfl) ?_
                  refine lv_iload_n hx hb dX1_triesMove_58 rfl (lv_at hl 3 rfl) ?_
                  refine w_icmp_le (tgt := 82) hx hb dX1_triesMove_59 (by decide) ⟨by omega, by omega⟩ ⟨by omega, by omega⟩ (fun c59 => ?_) (fun c59 => ?_)
                  · obtain rfl : y = a - b := by omega
                    refine lv_aload_n hx hb dX1_triesMove_82 rfl (lv_at hl 1 rfl) ?_
                    refine va_get (D := D) (ci := 1) (C := RX1) (T := TX1) (N := 10) hx hb hts inW hown hK hP 0 rfl rfl 7 (by decide) (hts (.fieldLink RX1 26 "FlowforgeModel" "trial" "[I") (List.mem_of_getElem? (i := 2) rfl)) (fun _ h9 => h9) rfl dX1_triesMove_83 ?_
                    refine lv_iload_n hx hb dX1_triesMove_86 rfl (lv_at hl 3 rfl) ?_
                    refine lv_aload_n hx hb dX1_triesMove_87 rfl (lv_at hl 1 rfl) ?_
                    refine va_get (D := D) (ci := 1) (C := RX1) (T := TX1) (N := 10) hx hb hts inW hown hK hP 0 rfl rfl 4 (by decide) (hts (.fieldLink RX1 17 "FlowforgeModel" "order" "[I") (List.mem_of_getElem? (i := 3) rfl)) (fun _ h9 => h9) rfl dX1_triesMove_88 ?_
                    refine lv_iload_n hx hb dX1_triesMove_91 rfl (lv_at hl 2 rfl) ?_
                    refine w_iald (v := iI (((ovr oO oR nn) a : Nat) : Int)) hx hb hK hP 2 0 rfl rfl (a) (by omega) (by omega) (by decide) (congrArg (fun q : Nat => iI (q : Int)) (ovr_in (by omega)).symm) dX1_triesMove_92 ?_
                    refine w_iast (g := jI (va_up (sh2 (sh1 (ovr oO oR nn) a (b - a)) a (a - b)) b (((ovr oO oR nn) a)))) (ws' := mw bd cI th nn mm bm tT oO tB tL (va_up (sh2 (sh1 (ovr oO oR nn) a (b - a)) a (a - b)) b (((ovr oO oR nn) a))) oJ) hx hb hK hP hD hS 5 0 rfl rfl (b) (by omega) (by omega) (by decide) (hg := jI_up) (hw := rfl) (hd := dX1_triesMove_93) (kk := fun H locs hP hD hS => ?_)
                    exact hret _ _ 94 ls (()) hP hD hS (trivial) dX1_triesMove_94
                  · refine lv_aload_n hx hb dX1_triesMove_62 rfl (lv_at hl 1 rfl) ?_
                    refine va_get (D := D) (ci := 1) (C := RX1) (T := TX1) (N := 10) hx hb hts inW hown hK hP 0 rfl rfl 7 (by decide) (hts (.fieldLink RX1 26 "FlowforgeModel" "trial" "[I") (List.mem_of_getElem? (i := 2) rfl)) (fun _ h9 => h9) rfl dX1_triesMove_63 ?_
                    refine lv_iload_n hx hb dX1_triesMove_66 rfl (lv_at hl 0 rfl) ?_
                    refine lv_aload_n hx hb dX1_triesMove_67 rfl (lv_at hl 1 rfl) ?_
                    refine va_get (D := D) (ci := 1) (C := RX1) (T := TX1) (N := 10) hx hb hts inW hown hK hP 0 rfl rfl 4 (by decide) (hts (.fieldLink RX1 17 "FlowforgeModel" "order" "[I") (List.mem_of_getElem? (i := 3) rfl)) (fun _ h9 => h9) rfl dX1_triesMove_68 ?_
                    refine lv_iload_n hx hb dX1_triesMove_71 rfl (lv_at hl 0 rfl) ?_
                    refine lv_iconst (v := iI 1) hx hb dX1_triesMove_72 rfl ?_
                    refine w_isub (z := (a : Int) - (y : Int) - 1) hx hb dX1_triesMove_73 (by omega) ?_
                    refine w_iald (v := iI ((sh1 (ovr oO oR nn) a (b - a) (a - y - 1) : Nat) : Int)) hx hb hK hP 2 0 rfl rfl (a - y - 1) (by omega) (by omega) (by decide) (congrArg (fun q : Nat => iI (q : Int)) (by rw [show b - a = 0 by omega, sh1_0, ovr_in (by omega)])) dX1_triesMove_74 ?_
                    refine w_iast (g := jI (va_up (sh2 (sh1 (ovr oO oR nn) a (b - a)) a y) (a - y) ((sh1 (ovr oO oR nn) a (b - a) (a - y - 1))))) (ws' := mw bd cI th nn mm bm tT oO tB tL (va_up (sh2 (sh1 (ovr oO oR nn) a (b - a)) a y) (a - y) ((sh1 (ovr oO oR nn) a (b - a) (a - y - 1)))) oJ) hx hb hK hP hD hS 5 0 rfl rfl (a - y) (by omega) (by omega) (by decide) (hg := jI_up) (hw := rfl) (hd := dX1_triesMove_75) (kk := fun H locs hP hD hS => ?_)
                    refine lv_iinc (v := iI ((a : Int) - (y : Int) - 1)) (lv' := [(3, .int (iI ((a : Int) - (y : Int) - 1))), (0, .ref (bd 0)), (1, .int (iI ((a : Int)))), (2, .int (iI ((b : Int))))]) hx hb dX1_triesMove_76 hl (k := 0) rfl (iI_inc (by omega)) (by decide) rfl (fun ls hl => ?_)
                    refine lv_goto (tgt := 57) hx hb dX1_triesMove_79 (by decide) ?_
                    exact ih57 (y + 1) (va_up (sh2 (sh1 (ovr oO oR nn) a (b - a)) a y) (a - y) ((sh1 (ovr oO oR nn) a (b - a) (a - y - 1)))) ((a : Int) - (y : Int) - 1) (by omega) (sh2_s (by omega)) (by omega) (by omega) _ _ hP hD hS ls (lv_sub hl [0, 1, 2, 3] rfl)
              exact L57 (a - b - 0 + 1) 0 (sh1 (ovr oO oR nn) a (b - a)) ((a : Int)) (by omega) ((sh2_0 _ _).symm) (by omega) (Nat.lt_succ_self _) _ _ hP hD hS ls (lv_sub hl [0, 1, 2, 3] rfl)
            · refine lv_aload_n hx hb dX1_triesMove_35 rfl (lv_at hl 1 rfl) ?_
              refine va_get (D := D) (ci := 1) (C := RX1) (T := TX1) (N := 10) hx hb hts inW hown hK hP 0 rfl rfl 7 (by decide) (hts (.fieldLink RX1 26 "FlowforgeModel" "trial" "[I") (List.mem_of_getElem? (i := 2) rfl)) (fun _ h9 => h9) rfl dX1_triesMove_36 ?_
              refine lv_iload_n hx hb dX1_triesMove_39 rfl (lv_at hl 0 rfl) ?_
              refine lv_aload_n hx hb dX1_triesMove_40 rfl (lv_at hl 1 rfl) ?_
              refine va_get (D := D) (ci := 1) (C := RX1) (T := TX1) (N := 10) hx hb hts inW hown hK hP 0 rfl rfl 4 (by decide) (hts (.fieldLink RX1 17 "FlowforgeModel" "order" "[I") (List.mem_of_getElem? (i := 3) rfl)) (fun _ h9 => h9) rfl dX1_triesMove_41 ?_
              refine lv_iload_n hx hb dX1_triesMove_44 rfl (lv_at hl 0 rfl) ?_
              refine lv_iconst (v := iI 1) hx hb dX1_triesMove_45 rfl ?_
              refine w_iadd (z := (a : Int) + (z : Int) + 1) hx hb dX1_triesMove_46 (by omega) ?_
              refine w_iald (v := iI (((ovr oO oR nn) (a + z + 1) : Nat) : Int)) hx hb hK hP 2 0 rfl rfl (a + z + 1) (by omega) (by omega) (by decide) (congrArg (fun q : Nat => iI (q : Int)) (ovr_in (by omega)).symm) dX1_triesMove_47 ?_
              refine w_iast (g := jI (va_up (sh1 (ovr oO oR nn) a z) (a + z) (((ovr oO oR nn) (a + z + 1))))) (ws' := mw bd cI th nn mm bm tT oO tB tL (va_up (sh1 (ovr oO oR nn) a z) (a + z) (((ovr oO oR nn) (a + z + 1)))) oJ) hx hb hK hP hD hS 5 0 rfl rfl (a + z) (by omega) (by omega) (by decide) (hg := jI_up) (hw := rfl) (hd := dX1_triesMove_48) (kk := fun H locs hP hD hS => ?_)
              refine lv_iinc (v := iI ((a : Int) + (z : Int) + 1)) (lv' := [(3, .int (iI ((a : Int) + (z : Int) + 1))), (0, .ref (bd 0)), (1, .int (iI ((a : Int)))), (2, .int (iI ((b : Int))))]) hx hb dX1_triesMove_49 hl (k := 0) rfl (iI_inc (by omega)) (by decide) rfl (fun ls hl => ?_)
              refine lv_goto (tgt := 30) hx hb dX1_triesMove_52 (by decide) ?_
              exact ih30 (z + 1) (va_up (sh1 (ovr oO oR nn) a z) (a + z) (((ovr oO oR nn) (a + z + 1)))) ((a : Int) + (z : Int) + 1) (by omega) (sh1_s) (by omega) (by omega) _ _ hP hD hS ls (lv_sub hl [0, 1, 2, 3] rfl)
        exact L30 (b - a - 0 + 1) 0 (ovr oO oR nn) ((a : Int)) (by omega) ((sh1_0 _ _).symm) (by omega) (Nat.lt_succ_self _) _ _ hP hD hS ls (lv_sub hl [0, 1, 2, 3] rfl)
      · refine lv_aload_n hx hb dX1_triesMove_10 rfl (lv_at hl 1 rfl) ?_
        refine va_get (D := D) (ci := 1) (C := RX1) (T := TX1) (N := 10) hx hb hts inW hown hK hP 0 rfl rfl 7 (by decide) (hts (.fieldLink RX1 26 "FlowforgeModel" "trial" "[I") (List.mem_of_getElem? (i := 2) rfl)) (fun _ h9 => h9) rfl dX1_triesMove_11 ?_
        refine lv_iload_n hx hb dX1_triesMove_14 rfl (lv_at hl 0 rfl) ?_
        refine lv_aload_n hx hb dX1_triesMove_15 rfl (lv_at hl 1 rfl) ?_
        refine va_get (D := D) (ci := 1) (C := RX1) (T := TX1) (N := 10) hx hb hts inW hown hK hP 0 rfl rfl 4 (by decide) (hts (.fieldLink RX1 17 "FlowforgeModel" "order" "[I") (List.mem_of_getElem? (i := 3) rfl)) (fun _ h9 => h9) rfl dX1_triesMove_16 ?_
        refine lv_iload_n hx hb dX1_triesMove_19 rfl (lv_at hl 0 rfl) ?_
        refine w_iald (v := iI ((oO i : Nat) : Int)) hx hb hK hP 2 0 rfl rfl (i) (by omega) (by omega) (by decide) rfl dX1_triesMove_20 ?_
        refine w_iast (g := jI (va_up (ovr oO oR i) i ((oO i)))) (ws' := mw bd cI th nn mm bm tT oO tB tL (va_up (ovr oO oR i) i ((oO i))) oJ) hx hb hK hP hD hS 5 0 rfl rfl (i) (by omega) (by omega) (by decide) (hg := jI_up) (hw := rfl) (hd := dX1_triesMove_21) (kk := fun H locs hP hD hS => ?_)
        refine lv_iinc (v := iI ((i : Int) + 1)) (lv' := [(3, .int (iI ((i : Int) + 1))), (0, .ref (bd 0)), (1, .int (iI ((a : Int)))), (2, .int (iI ((b : Int))))]) hx hb dX1_triesMove_22 hl (k := 0) rfl (iI_inc (by omega)) (by decide) rfl (fun ls hl => ?_)
        refine lv_goto (tgt := 2) hx hb dX1_triesMove_25 (by decide) ?_
        exact ih2 (i + 1) (va_up (ovr oO oR i) i ((oO i))) ((i : Int) + 1) (by omega) (ovr_s) (by omega) (by omega) _ _ hP hD hS ls (lv_sub hl [0, 1, 2, 3] rfl)
  exact L2 (nn - 0 + 1) 0 oR (0) (by omega) ((ovr_0 _ _).symm) (by omega) (Nat.lt_succ_self _) _ _ hP hD hS ls (lv_sub hl [0, 1, 2, 3] rfl)
set_option maxHeartbeats 4000000 in
set_option maxRecDepth 100000 in
theorem mX1_takesTrial (hn : nn ≤ 7) : IM l yX1_takesTrial wsX1_takesTrial (rmx 0 0) D (tyk cI cZ cJ) (mw bd cI th nn mm bm tT oO tB tL oR oJ) [.ref (bd 0)] (QV D (tyk cI cZ cJ) (fun u : Unit => mw bd cI th nn mm bm tT (ovr oR oO nn) tB tL oR oJ) (fun _ => True)) := by
  refine imV_of (cc := cX1_takesTrial) (maxL := 2) (by decide) rfl (Nat.le_of_ble_eq_true rfl) ?_
  intro p e s m args below meth c A Q hx hb hml hown hts hA hK hP hD hS hret ls hl
  have hown : s.vm.findClass RX1 = some m.cls := hown
  have hl : lv_has ls 2 [(0, .ref (bd 0))] := hl
  have inW : ∀ w ∈ wsX10, w ∈ wsX1_takesTrial := by first | exact (fun w h => List.mem_cons_of_mem _ (List.mem_append_right _ h)) | exact (fun w h => List.mem_cons_of_mem _ (List.mem_append_left _ (List.mem_append_right _ h))) | exact (fun w h => List.mem_cons_of_mem _ (List.mem_append_left _ (List.mem_append_left _ (List.mem_append_right _ h)))) | decide +kernel
  refine lv_iconst (v := iI 0) hx hb dX1_takesTrial_0 rfl ?_
  refine lv_istore_n (lv' := [(1, .int (iI 0)), (0, .ref (bd 0))]) hx hb dX1_takesTrial_1 rfl hl (by decide) rfl (fun ls hl => ?_)
  have L2 : ∀ (fu : Nat) (i : Nat) (worder2 : Nat → Nat) (x1_2 : Int), (i ≤ nn) → (worder2 = ovr oR oO i) → (x1_2 = (i : Int)) → nn - i < fu → ∀ (H : Heap) (locs : List Loc), va_P D vwCl (mw bd cI th nn mm bm tT worder2 tB tL oR oJ) H → va_D A (mw bd cI th nn mm bm tT worder2 tB tL oR oJ) → va_S A s.heap H locs → ∀ ls : Array Slot, lv_has ls 2 [(1, .int (iI (x1_2))), (0, .ref (bd 0))] → W p l e (rmx 0 0) s m args below meth c H locs 0 0 Q (F0 m 2 ls []) := by
    intro fu
    induction fu with
    | zero =>
      intro i worder2 x1_2 hi hq0 hq1 hfu
      exact absurd hfu (Nat.not_lt_zero _)
    | succ fu ih =>
      intro i worder2 x1_2 hi hq0 hq1 hfu H locs hP hD hS ls hl
      subst hq0
      subst hq1
      have ih2 := ih
      refine lv_iload_n hx hb dX1_takesTrial_2 rfl (lv_at hl 0 rfl) ?_
      refine lv_aload_n hx hb dX1_takesTrial_3 rfl (lv_at hl 1 rfl) ?_
      refine va_get (D := D) (ci := 1) (C := RX1) (T := TX1) (N := 10) hx hb hts inW hown hK hP 0 rfl rfl 1 (by decide) (hts (.fieldLink RX1 35 "FlowforgeModel" "many" "I") (List.mem_of_getElem? (i := 1) rfl)) (fun _ h9 => h9) rfl dX1_takesTrial_4 ?_
      refine w_icmp_ge (tgt := 28) hx hb dX1_takesTrial_7 (by decide) ⟨by omega, by omega⟩ ⟨by omega, by omega⟩ (fun c7 => ?_) (fun c7 => ?_)
      · obtain rfl : nn = i := by omega
        exact hret _ _ 28 ls (()) hP hD hS (trivial) dX1_takesTrial_28
      · refine lv_aload_n hx hb dX1_takesTrial_10 rfl (lv_at hl 1 rfl) ?_
        refine va_get (D := D) (ci := 1) (C := RX1) (T := TX1) (N := 10) hx hb hts inW hown hK hP 0 rfl rfl 4 (by decide) (hts (.fieldLink RX1 17 "FlowforgeModel" "order" "[I") (List.mem_of_getElem? (i := 2) rfl)) (fun _ h9 => h9) rfl dX1_takesTrial_11 ?_
        refine lv_iload_n hx hb dX1_takesTrial_14 rfl (lv_at hl 0 rfl) ?_
        refine lv_aload_n hx hb dX1_takesTrial_15 rfl (lv_at hl 1 rfl) ?_
        refine va_get (D := D) (ci := 1) (C := RX1) (T := TX1) (N := 10) hx hb hts inW hown hK hP 0 rfl rfl 7 (by decide) (hts (.fieldLink RX1 26 "FlowforgeModel" "trial" "[I") (List.mem_of_getElem? (i := 3) rfl)) (fun _ h9 => h9) rfl dX1_takesTrial_16 ?_
        refine lv_iload_n hx hb dX1_takesTrial_19 rfl (lv_at hl 0 rfl) ?_
        refine w_iald (v := iI ((oR i : Nat) : Int)) hx hb hK hP 5 0 rfl rfl (i) (by omega) (by omega) (by decide) rfl dX1_takesTrial_20 ?_
        refine w_iast (g := jI (va_up (ovr oR oO i) i ((oR i)))) (ws' := mw bd cI th nn mm bm tT (va_up (ovr oR oO i) i ((oR i))) tB tL oR oJ) hx hb hK hP hD hS 2 0 rfl rfl (i) (by omega) (by omega) (by decide) (hg := jI_up) (hw := rfl) (hd := dX1_takesTrial_21) (kk := fun H locs hP hD hS => ?_)
        refine lv_iinc (v := iI ((i : Int) + 1)) (lv' := [(1, .int (iI ((i : Int) + 1))), (0, .ref (bd 0))]) hx hb dX1_takesTrial_22 hl (k := 0) rfl (iI_inc (by omega)) (by decide) rfl (fun ls hl => ?_)
        refine lv_goto (tgt := 2) hx hb dX1_takesTrial_25 (by decide) ?_
        exact ih2 (i + 1) (va_up (ovr oR oO i) i ((oR i))) ((i : Int) + 1) (by omega) (ovr_s) (by omega) (by omega) _ _ hP hD hS ls (lv_sub hl [0, 1] rfl)
  exact L2 (nn - 0 + 1) 0 oO (0) (by omega) ((ovr_0 _ _).symm) (by omega) (Nat.lt_succ_self _) _ _ hP hD hS ls (lv_sub hl [0, 1] rfl)
set_option maxHeartbeats 4000000 in
set_option maxRecDepth 100000 in
theorem mX1_isAhead {i j : Nat} (hT : ∀ k, 0 ≤ tT k ∧ tT k ≤ 99) (hi : i < 7) (hj : j < 7) : PM l yX1_isAhead wsX1_isAhead (rmx 1 22) D (tyk cI cZ cJ) (mw bd cI th nn mm bm tT oO tB tL oR oJ) [.ref (bd 0), .int (iI ((i : Int))), .int (iI ((j : Int)))] (vp_Si (fun x => x = iI (if ahd tT i j = true then 1 else 0))) := by
  refine pmZ_of (cc := cX1_isAhead) (maxL := 8) (by decide) rfl (Nat.le_of_ble_eq_true rfl) ?_
  intro p e s m args below meth c Q hx hb hml hown hts hK hP hret ls hl
  have hown : s.vm.findClass RX1 = some m.cls := hown
  have hl : lv_has ls 8 [(0, .ref (bd 0)), (1, .int (iI ((i : Int)))), (2, .int (iI ((j : Int))))] := hl
  have q1 := hT (5 * i + 0)
  have q2 := hT (5 * i + 1)
  have q3 := hT (5 * j + 0)
  have q4 := hT (5 * j + 1)
  refine lv_aload_n hx hb dX1_isAhead_0 rfl (lv_at hl 0 rfl) ?_
  refine lv_iload_n hx hb dX1_isAhead_1 rfl (lv_at hl 1 rfl) ?_
  refine lv_iconst (v := iI 0) hx hb dX1_isAhead_2 rfl ?_
  refine w_pV (As := [.int (iI ((i : Int))), .int (iI 0)]) (rest := []) ⟨hx, hb, hml, hown, hts⟩ hK hP (mX1_timeOf (k := 0) hi (by omega)) (cwV 2 hts gX1_isAhead_X1_timeOf rfl rfl rfl (by decide +kernel) ⟨Nat.le_of_ble_eq_true rfl, Nat.le_of_ble_eq_true rfl⟩) (ci := 1) rfl rfl rfl rfl hl.1 rfl (Nat.le_of_ble_eq_true rfl) dX1_isAhead_3 ⟨Nat.zero_le _, Nat.zero_le _⟩ (fun r3 hr3 => ?_)
  refine w_top (v := iI ((tT (5 * i + 0)))) (hr3) ?_
  refine lv_aload_n hx hb dX1_isAhead_6 rfl (lv_at hl 0 rfl) ?_
  refine lv_iload_n hx hb dX1_isAhead_7 rfl (lv_at hl 1 rfl) ?_
  refine lv_iconst (v := iI 1) hx hb dX1_isAhead_8 rfl ?_
  refine w_pV (As := [.int (iI ((i : Int))), .int (iI 1)]) (rest := [.int (iI ((tT (5 * i + 0))))]) ⟨hx, hb, hml, hown, hts⟩ hK hP (mX1_timeOf (k := 1) hi (by omega)) (cwV 2 hts gX1_isAhead_X1_timeOf rfl rfl rfl (by decide +kernel) ⟨Nat.le_of_ble_eq_true rfl, Nat.le_of_ble_eq_true rfl⟩) (ci := 1) rfl rfl rfl rfl hl.1 rfl (Nat.le_of_ble_eq_true rfl) dX1_isAhead_9 ⟨Nat.zero_le _, Nat.zero_le _⟩ (fun r9 hr9 => ?_)
  refine w_top (v := iI ((tT (5 * i + 1)))) (hr9) ?_
  refine w_icmp_gt (tgt := 19) hx hb dX1_isAhead_12 (by decide) ⟨by omega, by omega⟩ ⟨by omega, by omega⟩ (fun c12 => ?_) (fun c12 => ?_)
  · refine lv_iconst (v := iI 0) hx hb dX1_isAhead_19 rfl ?_
    refine lv_istore_n (lv' := [(3, .int (iI 0)), (0, .ref (bd 0)), (1, .int (iI ((i : Int)))), (2, .int (iI ((j : Int))))]) hx hb dX1_isAhead_20 rfl hl (by decide) rfl (fun ls hl => ?_)
    refine lv_aload_n hx hb dX1_isAhead_21 rfl (lv_at hl 1 rfl) ?_
    refine lv_iload_n hx hb dX1_isAhead_22 rfl (lv_at hl 3 rfl) ?_
    refine lv_iconst (v := iI 0) hx hb dX1_isAhead_23 rfl ?_
    refine w_pV (As := [.int (iI ((j : Int))), .int (iI 0)]) (rest := []) ⟨hx, hb, hml, hown, hts⟩ hK hP (mX1_timeOf (k := 0) hj (by omega)) (cwV 2 hts gX1_isAhead_X1_timeOf rfl rfl rfl (by decide +kernel) ⟨Nat.le_of_ble_eq_true rfl, Nat.le_of_ble_eq_true rfl⟩) (ci := 1) rfl rfl rfl rfl hl.1 rfl (Nat.le_of_ble_eq_true rfl) dX1_isAhead_24 ⟨Nat.zero_le _, Nat.zero_le _⟩ (fun r24 hr24 => ?_)
    refine w_top (v := iI ((tT (5 * j + 0)))) (hr24) ?_
    refine lv_aload_n hx hb dX1_isAhead_27 rfl (lv_at hl 1 rfl) ?_
    refine lv_iload_n hx hb dX1_isAhead_28 rfl (lv_at hl 3 rfl) ?_
    refine lv_iconst (v := iI 1) hx hb dX1_isAhead_29 rfl ?_
    refine w_pV (As := [.int (iI ((j : Int))), .int (iI 1)]) (rest := [.int (iI ((tT (5 * j + 0))))]) ⟨hx, hb, hml, hown, hts⟩ hK hP (mX1_timeOf (k := 1) hj (by omega)) (cwV 2 hts gX1_isAhead_X1_timeOf rfl rfl rfl (by decide +kernel) ⟨Nat.le_of_ble_eq_true rfl, Nat.le_of_ble_eq_true rfl⟩) (ci := 1) rfl rfl rfl rfl hl.1 rfl (Nat.le_of_ble_eq_true rfl) dX1_isAhead_30 ⟨Nat.zero_le _, Nat.zero_le _⟩ (fun r30 hr30 => ?_)
    refine w_top (v := iI ((tT (5 * j + 1)))) (hr30) ?_
    refine w_icmp_gt (tgt := 40) hx hb dX1_isAhead_33 (by decide) ⟨by omega, by omega⟩ ⟨by omega, by omega⟩ (fun c33 => ?_) (fun c33 => ?_)
    · refine lv_iconst (v := iI 0) hx hb dX1_isAhead_40 rfl ?_
      refine lv_istore (lv' := [(4, .int (iI 0)), (3, .int (iI 0)), (0, .ref (bd 0)), (1, .int (iI ((i : Int)))), (2, .int (iI ((j : Int))))]) hx hb dX1_isAhead_41 hl (by decide) rfl (fun ls hl => ?_)
      refine lv_iload_n hx hb dX1_isAhead_43 rfl (lv_at hl 1 rfl) ?_
      refine w_if_eq (tgt := 56) hx hb dX1_isAhead_44 (by decide) ⟨by omega, by omega⟩ (fun c44 => ?_) (fun c44 => absurd c44 (by omega))
      refine lv_aload_n hx hb dX1_isAhead_56 rfl (lv_at hl 2 rfl) ?_
      refine lv_iload_n hx hb dX1_isAhead_57 rfl (lv_at hl 3 rfl) ?_
      refine lv_iconst (v := iI 1) hx hb dX1_isAhead_58 rfl ?_
      refine w_pV (As := [.int (iI ((i : Int))), .int (iI 1)]) (rest := []) ⟨hx, hb, hml, hown, hts⟩ hK hP (mX1_timeOf (k := 1) hi (by omega)) (cwV 2 hts gX1_isAhead_X1_timeOf rfl rfl rfl (by decide +kernel) ⟨Nat.le_of_ble_eq_true rfl, Nat.le_of_ble_eq_true rfl⟩) (ci := 1) rfl rfl rfl rfl hl.1 rfl (Nat.le_of_ble_eq_true rfl) dX1_isAhead_59 ⟨Nat.zero_le _, Nat.zero_le _⟩ (fun r59 hr59 => ?_)
      refine w_top (v := iI ((tT (5 * i + 1)))) (hr59) ?_
      refine w_ineg (z := -(tT (5 * i + 1))) hx hb dX1_isAhead_62 (by omega) ?_
      refine lv_istore (lv' := [(5, .int (iI (-(tT (5 * i + 1))))), (4, .int (iI 0)), (3, .int (iI 0)), (0, .ref (bd 0)), (1, .int (iI ((i : Int)))), (2, .int (iI ((j : Int))))]) hx hb dX1_isAhead_63 hl (by decide) rfl (fun ls hl => ?_)
      refine lv_iload hx hb dX1_isAhead_65 (lv_at hl 1 rfl) ?_
      refine w_if_eq (tgt := 79) hx hb dX1_isAhead_67 (by decide) ⟨by omega, by omega⟩ (fun c67 => ?_) (fun c67 => absurd c67 (by omega))
      refine lv_aload_n hx hb dX1_isAhead_79 rfl (lv_at hl 3 rfl) ?_
      refine lv_iload_n hx hb dX1_isAhead_80 rfl (lv_at hl 5 rfl) ?_
      refine lv_iconst (v := iI 1) hx hb dX1_isAhead_81 rfl ?_
      refine w_pV (As := [.int (iI ((j : Int))), .int (iI 1)]) (rest := []) ⟨hx, hb, hml, hown, hts⟩ hK hP (mX1_timeOf (k := 1) hj (by omega)) (cwV 2 hts gX1_isAhead_X1_timeOf rfl rfl rfl (by decide +kernel) ⟨Nat.le_of_ble_eq_true rfl, Nat.le_of_ble_eq_true rfl⟩) (ci := 1) rfl rfl rfl rfl hl.1 rfl (Nat.le_of_ble_eq_true rfl) dX1_isAhead_82 ⟨Nat.zero_le _, Nat.zero_le _⟩ (fun r82 hr82 => ?_)
      refine w_top (v := iI ((tT (5 * j + 1)))) (hr82) ?_
      refine w_ineg (z := -(tT (5 * j + 1))) hx hb dX1_isAhead_85 (by omega) ?_
      refine lv_istore (lv' := [(6, .int (iI (-(tT (5 * j + 1))))), (5, .int (iI (-(tT (5 * i + 1))))), (4, .int (iI 0)), (3, .int (iI 0)), (0, .ref (bd 0)), (1, .int (iI ((i : Int)))), (2, .int (iI ((j : Int))))]) hx hb dX1_isAhead_86 hl (by decide) rfl (fun ls hl => ?_)
      refine lv_iload hx hb dX1_isAhead_88 (lv_at hl 1 rfl) ?_
      refine lv_iload hx hb dX1_isAhead_90 (lv_at hl 0 rfl) ?_
      refine w_icmp_lt (tgt := 107) hx hb dX1_isAhead_92 (by decide) ⟨by omega, by omega⟩ ⟨by omega, by omega⟩ (fun c92 => ?_) (fun c92 => ?_)
      · refine lv_iconst (v := iI 1) hx hb dX1_isAhead_107 rfl ?_
        refine lv_goto (tgt := 112) hx hb dX1_isAhead_108 (by decide) ?_
        refine lv_istore (lv' := [(7, .int (iI 1)), (6, .int (iI (-(tT (5 * j + 1))))), (5, .int (iI (-(tT (5 * i + 1))))), (4, .int (iI 0)), (3, .int (iI 0)), (0, .ref (bd 0)), (1, .int (iI ((i : Int)))), (2, .int (iI ((j : Int))))]) hx hb dX1_isAhead_112 hl (by decide) rfl (fun ls hl => ?_)
        refine lv_iload_n hx hb dX1_isAhead_114 rfl (lv_at hl 4 rfl) ?_
        refine lv_iload hx hb dX1_isAhead_115 (lv_at hl 3 rfl) ?_
        refine w_icmp_ne (tgt := 125) hx hb dX1_isAhead_117 (by decide) ⟨by omega, by omega⟩ ⟨by omega, by omega⟩ (fun c117 => absurd c117 (by omega)) (fun c117 => ?_)
        refine lv_iload hx hb dX1_isAhead_120 (lv_at hl 0 rfl) ?_
        refine lv_goto (tgt := 126) hx hb dX1_isAhead_122 (by decide) ?_
        exact hret 126 ls _ rfl (gb_t (by unfold ahd; split <;> (try split) <;> (try split) <;> first | rfl | (exfalso; omega))) dX1_isAhead_126
      · refine lv_iload hx hb dX1_isAhead_95 (lv_at hl 1 rfl) ?_
        refine lv_iload hx hb dX1_isAhead_97 (lv_at hl 0 rfl) ?_
        refine w_icmp_ne (tgt := 111) hx hb dX1_isAhead_99 (by decide) ⟨by omega, by omega⟩ ⟨by omega, by omega⟩ (fun c99 => ?_) (fun c99 => ?_)
        · refine lv_iconst (v := iI 0) hx hb dX1_isAhead_111 rfl ?_
          refine lv_istore (lv' := [(7, .int (iI 0)), (6, .int (iI (-(tT (5 * j + 1))))), (5, .int (iI (-(tT (5 * i + 1))))), (4, .int (iI 0)), (3, .int (iI 0)), (0, .ref (bd 0)), (1, .int (iI ((i : Int)))), (2, .int (iI ((j : Int))))]) hx hb dX1_isAhead_112 hl (by decide) rfl (fun ls hl => ?_)
          refine lv_iload_n hx hb dX1_isAhead_114 rfl (lv_at hl 4 rfl) ?_
          refine lv_iload hx hb dX1_isAhead_115 (lv_at hl 3 rfl) ?_
          refine w_icmp_ne (tgt := 125) hx hb dX1_isAhead_117 (by decide) ⟨by omega, by omega⟩ ⟨by omega, by omega⟩ (fun c117 => absurd c117 (by omega)) (fun c117 => ?_)
          refine lv_iload hx hb dX1_isAhead_120 (lv_at hl 0 rfl) ?_
          refine lv_goto (tgt := 126) hx hb dX1_isAhead_122 (by decide) ?_
          exact hret 126 ls _ rfl (gb_f (by unfold ahd; split <;> (try split) <;> (try split) <;> first | rfl | (exfalso; omega))) dX1_isAhead_126
        · refine lv_iload_n hx hb dX1_isAhead_102 rfl (lv_at hl 5 rfl) ?_
          refine lv_iload_n hx hb dX1_isAhead_103 rfl (lv_at hl 6 rfl) ?_
          refine w_icmp_ge (tgt := 111) hx hb dX1_isAhead_104 (by decide) ⟨by omega, by omega⟩ ⟨by omega, by omega⟩ (fun c104 => ?_) (fun c104 => ?_)
          · refine lv_iconst (v := iI 0) hx hb dX1_isAhead_111 rfl ?_
            refine lv_istore (lv' := [(7, .int (iI 0)), (6, .int (iI (-(tT (5 * j + 1))))), (5, .int (iI (-(tT (5 * i + 1))))), (4, .int (iI 0)), (3, .int (iI 0)), (0, .ref (bd 0)), (1, .int (iI ((i : Int)))), (2, .int (iI ((j : Int))))]) hx hb dX1_isAhead_112 hl (by decide) rfl (fun ls hl => ?_)
            refine lv_iload_n hx hb dX1_isAhead_114 rfl (lv_at hl 4 rfl) ?_
            refine lv_iload hx hb dX1_isAhead_115 (lv_at hl 3 rfl) ?_
            refine w_icmp_ne (tgt := 125) hx hb dX1_isAhead_117 (by decide) ⟨by omega, by omega⟩ ⟨by omega, by omega⟩ (fun c117 => absurd c117 (by omega)) (fun c117 => ?_)
            refine lv_iload hx hb dX1_isAhead_120 (lv_at hl 0 rfl) ?_
            refine lv_goto (tgt := 126) hx hb dX1_isAhead_122 (by decide) ?_
            exact hret 126 ls _ rfl (gb_f (by unfold ahd; split <;> (try split) <;> (try split) <;> first | rfl | (exfalso; omega))) dX1_isAhead_126
          · refine lv_iconst (v := iI 1) hx hb dX1_isAhead_107 rfl ?_
            refine lv_goto (tgt := 112) hx hb dX1_isAhead_108 (by decide) ?_
            refine lv_istore (lv' := [(7, .int (iI 1)), (6, .int (iI (-(tT (5 * j + 1))))), (5, .int (iI (-(tT (5 * i + 1))))), (4, .int (iI 0)), (3, .int (iI 0)), (0, .ref (bd 0)), (1, .int (iI ((i : Int)))), (2, .int (iI ((j : Int))))]) hx hb dX1_isAhead_112 hl (by decide) rfl (fun ls hl => ?_)
            refine lv_iload_n hx hb dX1_isAhead_114 rfl (lv_at hl 4 rfl) ?_
            refine lv_iload hx hb dX1_isAhead_115 (lv_at hl 3 rfl) ?_
            refine w_icmp_ne (tgt := 125) hx hb dX1_isAhead_117 (by decide) ⟨by omega, by omega⟩ ⟨by omega, by omega⟩ (fun c117 => absurd c117 (by omega)) (fun c117 => ?_)
            refine lv_iload hx hb dX1_isAhead_120 (lv_at hl 0 rfl) ?_
            refine lv_goto (tgt := 126) hx hb dX1_isAhead_122 (by decide) ?_
            exact hret 126 ls _ rfl (gb_t (by unfold ahd; split <;> (try split) <;> (try split) <;> first | rfl | (exfalso; omega))) dX1_isAhead_126
    · refine lv_iconst (v := iI 1) hx hb dX1_isAhead_36 rfl ?_
      refine lv_goto (tgt := 41) hx hb dX1_isAhead_37 (by decide) ?_
      refine lv_istore (lv' := [(4, .int (iI 1)), (3, .int (iI 0)), (0, .ref (bd 0)), (1, .int (iI ((i : Int)))), (2, .int (iI ((j : Int))))]) hx hb dX1_isAhead_41 hl (by decide) rfl (fun ls hl => ?_)
      refine lv_iload_n hx hb dX1_isAhead_43 rfl (lv_at hl 1 rfl) ?_
      refine w_if_eq (tgt := 56) hx hb dX1_isAhead_44 (by decide) ⟨by omega, by omega⟩ (fun c44 => ?_) (fun c44 => absurd c44 (by omega))
      refine lv_aload_n hx hb dX1_isAhead_56 rfl (lv_at hl 2 rfl) ?_
      refine lv_iload_n hx hb dX1_isAhead_57 rfl (lv_at hl 3 rfl) ?_
      refine lv_iconst (v := iI 1) hx hb dX1_isAhead_58 rfl ?_
      refine w_pV (As := [.int (iI ((i : Int))), .int (iI 1)]) (rest := []) ⟨hx, hb, hml, hown, hts⟩ hK hP (mX1_timeOf (k := 1) hi (by omega)) (cwV 2 hts gX1_isAhead_X1_timeOf rfl rfl rfl (by decide +kernel) ⟨Nat.le_of_ble_eq_true rfl, Nat.le_of_ble_eq_true rfl⟩) (ci := 1) rfl rfl rfl rfl hl.1 rfl (Nat.le_of_ble_eq_true rfl) dX1_isAhead_59 ⟨Nat.zero_le _, Nat.zero_le _⟩ (fun r59 hr59 => ?_)
      refine w_top (v := iI ((tT (5 * i + 1)))) (hr59) ?_
      refine w_ineg (z := -(tT (5 * i + 1))) hx hb dX1_isAhead_62 (by omega) ?_
      refine lv_istore (lv' := [(5, .int (iI (-(tT (5 * i + 1))))), (4, .int (iI 1)), (3, .int (iI 0)), (0, .ref (bd 0)), (1, .int (iI ((i : Int)))), (2, .int (iI ((j : Int))))]) hx hb dX1_isAhead_63 hl (by decide) rfl (fun ls hl => ?_)
      refine lv_iload hx hb dX1_isAhead_65 (lv_at hl 1 rfl) ?_
      refine w_if_eq (tgt := 79) hx hb dX1_isAhead_67 (by decide) ⟨by omega, by omega⟩ (fun c67 => absurd c67 (by omega)) (fun c67 => ?_)
      refine lv_aload_n hx hb dX1_isAhead_70 rfl (lv_at hl 3 rfl) ?_
      refine lv_iload_n hx hb dX1_isAhead_71 rfl (lv_at hl 5 rfl) ?_
      refine lv_iconst (v := iI 0) hx hb dX1_isAhead_72 rfl ?_
      refine w_pV (As := [.int (iI ((j : Int))), .int (iI 0)]) (rest := []) ⟨hx, hb, hml, hown, hts⟩ hK hP (mX1_timeOf (k := 0) hj (by omega)) (cwV 2 hts gX1_isAhead_X1_timeOf rfl rfl rfl (by decide +kernel) ⟨Nat.le_of_ble_eq_true rfl, Nat.le_of_ble_eq_true rfl⟩) (ci := 1) rfl rfl rfl rfl hl.1 rfl (Nat.le_of_ble_eq_true rfl) dX1_isAhead_73 ⟨Nat.zero_le _, Nat.zero_le _⟩ (fun r73 hr73 => ?_)
      refine w_top (v := iI ((tT (5 * j + 0)))) (hr73) ?_
      refine lv_goto (tgt := 86) hx hb dX1_isAhead_76 (by decide) ?_
      refine lv_istore (lv' := [(6, .int (iI ((tT (5 * j + 0))))), (5, .int (iI (-(tT (5 * i + 1))))), (4, .int (iI 1)), (3, .int (iI 0)), (0, .ref (bd 0)), (1, .int (iI ((i : Int)))), (2, .int (iI ((j : Int))))]) hx hb dX1_isAhead_86 hl (by decide) rfl (fun ls hl => ?_)
      refine lv_iload hx hb dX1_isAhead_88 (lv_at hl 1 rfl) ?_
      refine lv_iload hx hb dX1_isAhead_90 (lv_at hl 0 rfl) ?_
      refine w_icmp_lt (tgt := 107) hx hb dX1_isAhead_92 (by decide) ⟨by omega, by omega⟩ ⟨by omega, by omega⟩ (fun c92 => ?_) (fun c92 => ?_)
      · refine lv_iconst (v := iI 1) hx hb dX1_isAhead_107 rfl ?_
        refine lv_goto (tgt := 112) hx hb dX1_isAhead_108 (by decide) ?_
        refine lv_istore (lv' := [(7, .int (iI 1)), (6, .int (iI ((tT (5 * j + 0))))), (5, .int (iI (-(tT (5 * i + 1))))), (4, .int (iI 1)), (3, .int (iI 0)), (0, .ref (bd 0)), (1, .int (iI ((i : Int)))), (2, .int (iI ((j : Int))))]) hx hb dX1_isAhead_112 hl (by decide) rfl (fun ls hl => ?_)
        refine lv_iload_n hx hb dX1_isAhead_114 rfl (lv_at hl 4 rfl) ?_
        refine lv_iload hx hb dX1_isAhead_115 (lv_at hl 3 rfl) ?_
        refine w_icmp_ne (tgt := 125) hx hb dX1_isAhead_117 (by decide) ⟨by omega, by omega⟩ ⟨by omega, by omega⟩ (fun c117 => ?_) (fun c117 => absurd c117 (by omega))
        refine lv_iload_n hx hb dX1_isAhead_125 rfl (lv_at hl 4 rfl) ?_
        exact hret 126 ls _ rfl (gb_f (by unfold ahd; split <;> (try split) <;> (try split) <;> first | rfl | (exfalso; omega))) dX1_isAhead_126
      · refine lv_iload hx hb dX1_isAhead_95 (lv_at hl 1 rfl) ?_
        refine lv_iload hx hb dX1_isAhead_97 (lv_at hl 0 rfl) ?_
        refine w_icmp_ne (tgt := 111) hx hb dX1_isAhead_99 (by decide) ⟨by omega, by omega⟩ ⟨by omega, by omega⟩ (fun c99 => ?_) (fun c99 => ?_)
        · refine lv_iconst (v := iI 0) hx hb dX1_isAhead_111 rfl ?_
          refine lv_istore (lv' := [(7, .int (iI 0)), (6, .int (iI ((tT (5 * j + 0))))), (5, .int (iI (-(tT (5 * i + 1))))), (4, .int (iI 1)), (3, .int (iI 0)), (0, .ref (bd 0)), (1, .int (iI ((i : Int)))), (2, .int (iI ((j : Int))))]) hx hb dX1_isAhead_112 hl (by decide) rfl (fun ls hl => ?_)
          refine lv_iload_n hx hb dX1_isAhead_114 rfl (lv_at hl 4 rfl) ?_
          refine lv_iload hx hb dX1_isAhead_115 (lv_at hl 3 rfl) ?_
          refine w_icmp_ne (tgt := 125) hx hb dX1_isAhead_117 (by decide) ⟨by omega, by omega⟩ ⟨by omega, by omega⟩ (fun c117 => ?_) (fun c117 => absurd c117 (by omega))
          refine lv_iload_n hx hb dX1_isAhead_125 rfl (lv_at hl 4 rfl) ?_
          exact hret 126 ls _ rfl (gb_f (by unfold ahd; split <;> (try split) <;> (try split) <;> first | rfl | (exfalso; omega))) dX1_isAhead_126
        · refine lv_iload_n hx hb dX1_isAhead_102 rfl (lv_at hl 5 rfl) ?_
          refine lv_iload_n hx hb dX1_isAhead_103 rfl (lv_at hl 6 rfl) ?_
          refine w_icmp_ge (tgt := 111) hx hb dX1_isAhead_104 (by decide) ⟨by omega, by omega⟩ ⟨by omega, by omega⟩ (fun c104 => ?_) (fun c104 => ?_)
          · refine lv_iconst (v := iI 0) hx hb dX1_isAhead_111 rfl ?_
            refine lv_istore (lv' := [(7, .int (iI 0)), (6, .int (iI ((tT (5 * j + 0))))), (5, .int (iI (-(tT (5 * i + 1))))), (4, .int (iI 1)), (3, .int (iI 0)), (0, .ref (bd 0)), (1, .int (iI ((i : Int)))), (2, .int (iI ((j : Int))))]) hx hb dX1_isAhead_112 hl (by decide) rfl (fun ls hl => ?_)
            refine lv_iload_n hx hb dX1_isAhead_114 rfl (lv_at hl 4 rfl) ?_
            refine lv_iload hx hb dX1_isAhead_115 (lv_at hl 3 rfl) ?_
            refine w_icmp_ne (tgt := 125) hx hb dX1_isAhead_117 (by decide) ⟨by omega, by omega⟩ ⟨by omega, by omega⟩ (fun c117 => ?_) (fun c117 => absurd c117 (by omega))
            refine lv_iload_n hx hb dX1_isAhead_125 rfl (lv_at hl 4 rfl) ?_
            exact hret 126 ls _ rfl (gb_f (by unfold ahd; split <;> (try split) <;> (try split) <;> first | rfl | (exfalso; omega))) dX1_isAhead_126
          · refine lv_iconst (v := iI 1) hx hb dX1_isAhead_107 rfl ?_
            refine lv_goto (tgt := 112) hx hb dX1_isAhead_108 (by decide) ?_
            refine lv_istore (lv' := [(7, .int (iI 1)), (6, .int (iI ((tT (5 * j + 0))))), (5, .int (iI (-(tT (5 * i + 1))))), (4, .int (iI 1)), (3, .int (iI 0)), (0, .ref (bd 0)), (1, .int (iI ((i : Int)))), (2, .int (iI ((j : Int))))]) hx hb dX1_isAhead_112 hl (by decide) rfl (fun ls hl => ?_)
            refine lv_iload_n hx hb dX1_isAhead_114 rfl (lv_at hl 4 rfl) ?_
            refine lv_iload hx hb dX1_isAhead_115 (lv_at hl 3 rfl) ?_
            refine w_icmp_ne (tgt := 125) hx hb dX1_isAhead_117 (by decide) ⟨by omega, by omega⟩ ⟨by omega, by omega⟩ (fun c117 => ?_) (fun c117 => absurd c117 (by omega))
            refine lv_iload_n hx hb dX1_isAhead_125 rfl (lv_at hl 4 rfl) ?_
            exact hret 126 ls _ rfl (gb_f (by unfold ahd; split <;> (try split) <;> (try split) <;> first | rfl | (exfalso; omega))) dX1_isAhead_126
  · refine lv_iconst (v := iI 1) hx hb dX1_isAhead_15 rfl ?_
    refine lv_goto (tgt := 20) hx hb dX1_isAhead_16 (by decide) ?_
    refine lv_istore_n (lv' := [(3, .int (iI 1)), (0, .ref (bd 0)), (1, .int (iI ((i : Int)))), (2, .int (iI ((j : Int))))]) hx hb dX1_isAhead_20 rfl hl (by decide) rfl (fun ls hl => ?_)
    refine lv_aload_n hx hb dX1_isAhead_21 rfl (lv_at hl 1 rfl) ?_
    refine lv_iload_n hx hb dX1_isAhead_22 rfl (lv_at hl 3 rfl) ?_
    refine lv_iconst (v := iI 0) hx hb dX1_isAhead_23 rfl ?_
    refine w_pV (As := [.int (iI ((j : Int))), .int (iI 0)]) (rest := []) ⟨hx, hb, hml, hown, hts⟩ hK hP (mX1_timeOf (k := 0) hj (by omega)) (cwV 2 hts gX1_isAhead_X1_timeOf rfl rfl rfl (by decide +kernel) ⟨Nat.le_of_ble_eq_true rfl, Nat.le_of_ble_eq_true rfl⟩) (ci := 1) rfl rfl rfl rfl hl.1 rfl (Nat.le_of_ble_eq_true rfl) dX1_isAhead_24 ⟨Nat.zero_le _, Nat.zero_le _⟩ (fun r24 hr24 => ?_)
    refine w_top (v := iI ((tT (5 * j + 0)))) (hr24) ?_
    refine lv_aload_n hx hb dX1_isAhead_27 rfl (lv_at hl 1 rfl) ?_
    refine lv_iload_n hx hb dX1_isAhead_28 rfl (lv_at hl 3 rfl) ?_
    refine lv_iconst (v := iI 1) hx hb dX1_isAhead_29 rfl ?_
    refine w_pV (As := [.int (iI ((j : Int))), .int (iI 1)]) (rest := [.int (iI ((tT (5 * j + 0))))]) ⟨hx, hb, hml, hown, hts⟩ hK hP (mX1_timeOf (k := 1) hj (by omega)) (cwV 2 hts gX1_isAhead_X1_timeOf rfl rfl rfl (by decide +kernel) ⟨Nat.le_of_ble_eq_true rfl, Nat.le_of_ble_eq_true rfl⟩) (ci := 1) rfl rfl rfl rfl hl.1 rfl (Nat.le_of_ble_eq_true rfl) dX1_isAhead_30 ⟨Nat.zero_le _, Nat.zero_le _⟩ (fun r30 hr30 => ?_)
    refine w_top (v := iI ((tT (5 * j + 1)))) (hr30) ?_
    refine w_icmp_gt (tgt := 40) hx hb dX1_isAhead_33 (by decide) ⟨by omega, by omega⟩ ⟨by omega, by omega⟩ (fun c33 => ?_) (fun c33 => ?_)
    · refine lv_iconst (v := iI 0) hx hb dX1_isAhead_40 rfl ?_
      refine lv_istore (lv' := [(4, .int (iI 0)), (3, .int (iI 1)), (0, .ref (bd 0)), (1, .int (iI ((i : Int)))), (2, .int (iI ((j : Int))))]) hx hb dX1_isAhead_41 hl (by decide) rfl (fun ls hl => ?_)
      refine lv_iload_n hx hb dX1_isAhead_43 rfl (lv_at hl 1 rfl) ?_
      refine w_if_eq (tgt := 56) hx hb dX1_isAhead_44 (by decide) ⟨by omega, by omega⟩ (fun c44 => absurd c44 (by omega)) (fun c44 => ?_)
      refine lv_aload_n hx hb dX1_isAhead_47 rfl (lv_at hl 2 rfl) ?_
      refine lv_iload_n hx hb dX1_isAhead_48 rfl (lv_at hl 3 rfl) ?_
      refine lv_iconst (v := iI 0) hx hb dX1_isAhead_49 rfl ?_
      refine w_pV (As := [.int (iI ((i : Int))), .int (iI 0)]) (rest := []) ⟨hx, hb, hml, hown, hts⟩ hK hP (mX1_timeOf (k := 0) hi (by omega)) (cwV 2 hts gX1_isAhead_X1_timeOf rfl rfl rfl (by decide +kernel) ⟨Nat.le_of_ble_eq_true rfl, Nat.le_of_ble_eq_true rfl⟩) (ci := 1) rfl rfl rfl rfl hl.1 rfl (Nat.le_of_ble_eq_true rfl) dX1_isAhead_50 ⟨Nat.zero_le _, Nat.zero_le _⟩ (fun r50 hr50 => ?_)
      refine w_top (v := iI ((tT (5 * i + 0)))) (hr50) ?_
      refine lv_goto (tgt := 63) hx hb dX1_isAhead_53 (by decide) ?_
      refine lv_istore (lv' := [(5, .int (iI ((tT (5 * i + 0))))), (4, .int (iI 0)), (3, .int (iI 1)), (0, .ref (bd 0)), (1, .int (iI ((i : Int)))), (2, .int (iI ((j : Int))))]) hx hb dX1_isAhead_63 hl (by decide) rfl (fun ls hl => ?_)
      refine lv_iload hx hb dX1_isAhead_65 (lv_at hl 1 rfl) ?_
      refine w_if_eq (tgt := 79) hx hb dX1_isAhead_67 (by decide) ⟨by omega, by omega⟩ (fun c67 => ?_) (fun c67 => absurd c67 (by omega))
      refine lv_aload_n hx hb dX1_isAhead_79 rfl (lv_at hl 3 rfl) ?_
      refine lv_iload_n hx hb dX1_isAhead_80 rfl (lv_at hl 5 rfl) ?_
      refine lv_iconst (v := iI 1) hx hb dX1_isAhead_81 rfl ?_
      refine w_pV (As := [.int (iI ((j : Int))), .int (iI 1)]) (rest := []) ⟨hx, hb, hml, hown, hts⟩ hK hP (mX1_timeOf (k := 1) hj (by omega)) (cwV 2 hts gX1_isAhead_X1_timeOf rfl rfl rfl (by decide +kernel) ⟨Nat.le_of_ble_eq_true rfl, Nat.le_of_ble_eq_true rfl⟩) (ci := 1) rfl rfl rfl rfl hl.1 rfl (Nat.le_of_ble_eq_true rfl) dX1_isAhead_82 ⟨Nat.zero_le _, Nat.zero_le _⟩ (fun r82 hr82 => ?_)
      refine w_top (v := iI ((tT (5 * j + 1)))) (hr82) ?_
      refine w_ineg (z := -(tT (5 * j + 1))) hx hb dX1_isAhead_85 (by omega) ?_
      refine lv_istore (lv' := [(6, .int (iI (-(tT (5 * j + 1))))), (5, .int (iI ((tT (5 * i + 0))))), (4, .int (iI 0)), (3, .int (iI 1)), (0, .ref (bd 0)), (1, .int (iI ((i : Int)))), (2, .int (iI ((j : Int))))]) hx hb dX1_isAhead_86 hl (by decide) rfl (fun ls hl => ?_)
      refine lv_iload hx hb dX1_isAhead_88 (lv_at hl 1 rfl) ?_
      refine lv_iload hx hb dX1_isAhead_90 (lv_at hl 0 rfl) ?_
      refine w_icmp_lt (tgt := 107) hx hb dX1_isAhead_92 (by decide) ⟨by omega, by omega⟩ ⟨by omega, by omega⟩ (fun c92 => ?_) (fun c92 => ?_)
      · refine lv_iconst (v := iI 1) hx hb dX1_isAhead_107 rfl ?_
        refine lv_goto (tgt := 112) hx hb dX1_isAhead_108 (by decide) ?_
        refine lv_istore (lv' := [(7, .int (iI 1)), (6, .int (iI (-(tT (5 * j + 1))))), (5, .int (iI ((tT (5 * i + 0))))), (4, .int (iI 0)), (3, .int (iI 1)), (0, .ref (bd 0)), (1, .int (iI ((i : Int)))), (2, .int (iI ((j : Int))))]) hx hb dX1_isAhead_112 hl (by decide) rfl (fun ls hl => ?_)
        refine lv_iload_n hx hb dX1_isAhead_114 rfl (lv_at hl 4 rfl) ?_
        refine lv_iload hx hb dX1_isAhead_115 (lv_at hl 3 rfl) ?_
        refine w_icmp_ne (tgt := 125) hx hb dX1_isAhead_117 (by decide) ⟨by omega, by omega⟩ ⟨by omega, by omega⟩ (fun c117 => ?_) (fun c117 => absurd c117 (by omega))
        refine lv_iload_n hx hb dX1_isAhead_125 rfl (lv_at hl 4 rfl) ?_
        exact hret 126 ls _ rfl (gb_t (by unfold ahd; split <;> (try split) <;> (try split) <;> first | rfl | (exfalso; omega))) dX1_isAhead_126
      · refine lv_iload hx hb dX1_isAhead_95 (lv_at hl 1 rfl) ?_
        refine lv_iload hx hb dX1_isAhead_97 (lv_at hl 0 rfl) ?_
        refine w_icmp_ne (tgt := 111) hx hb dX1_isAhead_99 (by decide) ⟨by omega, by omega⟩ ⟨by omega, by omega⟩ (fun c99 => ?_) (fun c99 => ?_)
        · refine lv_iconst (v := iI 0) hx hb dX1_isAhead_111 rfl ?_
          refine lv_istore (lv' := [(7, .int (iI 0)), (6, .int (iI (-(tT (5 * j + 1))))), (5, .int (iI ((tT (5 * i + 0))))), (4, .int (iI 0)), (3, .int (iI 1)), (0, .ref (bd 0)), (1, .int (iI ((i : Int)))), (2, .int (iI ((j : Int))))]) hx hb dX1_isAhead_112 hl (by decide) rfl (fun ls hl => ?_)
          refine lv_iload_n hx hb dX1_isAhead_114 rfl (lv_at hl 4 rfl) ?_
          refine lv_iload hx hb dX1_isAhead_115 (lv_at hl 3 rfl) ?_
          refine w_icmp_ne (tgt := 125) hx hb dX1_isAhead_117 (by decide) ⟨by omega, by omega⟩ ⟨by omega, by omega⟩ (fun c117 => ?_) (fun c117 => absurd c117 (by omega))
          refine lv_iload_n hx hb dX1_isAhead_125 rfl (lv_at hl 4 rfl) ?_
          exact hret 126 ls _ rfl (gb_t (by unfold ahd; split <;> (try split) <;> (try split) <;> first | rfl | (exfalso; omega))) dX1_isAhead_126
        · refine lv_iload_n hx hb dX1_isAhead_102 rfl (lv_at hl 5 rfl) ?_
          refine lv_iload_n hx hb dX1_isAhead_103 rfl (lv_at hl 6 rfl) ?_
          refine w_icmp_ge (tgt := 111) hx hb dX1_isAhead_104 (by decide) ⟨by omega, by omega⟩ ⟨by omega, by omega⟩ (fun c104 => ?_) (fun c104 => ?_)
          · refine lv_iconst (v := iI 0) hx hb dX1_isAhead_111 rfl ?_
            refine lv_istore (lv' := [(7, .int (iI 0)), (6, .int (iI (-(tT (5 * j + 1))))), (5, .int (iI ((tT (5 * i + 0))))), (4, .int (iI 0)), (3, .int (iI 1)), (0, .ref (bd 0)), (1, .int (iI ((i : Int)))), (2, .int (iI ((j : Int))))]) hx hb dX1_isAhead_112 hl (by decide) rfl (fun ls hl => ?_)
            refine lv_iload_n hx hb dX1_isAhead_114 rfl (lv_at hl 4 rfl) ?_
            refine lv_iload hx hb dX1_isAhead_115 (lv_at hl 3 rfl) ?_
            refine w_icmp_ne (tgt := 125) hx hb dX1_isAhead_117 (by decide) ⟨by omega, by omega⟩ ⟨by omega, by omega⟩ (fun c117 => ?_) (fun c117 => absurd c117 (by omega))
            refine lv_iload_n hx hb dX1_isAhead_125 rfl (lv_at hl 4 rfl) ?_
            exact hret 126 ls _ rfl (gb_t (by unfold ahd; split <;> (try split) <;> (try split) <;> first | rfl | (exfalso; omega))) dX1_isAhead_126
          · refine lv_iconst (v := iI 1) hx hb dX1_isAhead_107 rfl ?_
            refine lv_goto (tgt := 112) hx hb dX1_isAhead_108 (by decide) ?_
            refine lv_istore (lv' := [(7, .int (iI 1)), (6, .int (iI (-(tT (5 * j + 1))))), (5, .int (iI ((tT (5 * i + 0))))), (4, .int (iI 0)), (3, .int (iI 1)), (0, .ref (bd 0)), (1, .int (iI ((i : Int)))), (2, .int (iI ((j : Int))))]) hx hb dX1_isAhead_112 hl (by decide) rfl (fun ls hl => ?_)
            refine lv_iload_n hx hb dX1_isAhead_114 rfl (lv_at hl 4 rfl) ?_
            refine lv_iload hx hb dX1_isAhead_115 (lv_at hl 3 rfl) ?_
            refine w_icmp_ne (tgt := 125) hx hb dX1_isAhead_117 (by decide) ⟨by omega, by omega⟩ ⟨by omega, by omega⟩ (fun c117 => ?_) (fun c117 => absurd c117 (by omega))
            refine lv_iload_n hx hb dX1_isAhead_125 rfl (lv_at hl 4 rfl) ?_
            exact hret 126 ls _ rfl (gb_t (by unfold ahd; split <;> (try split) <;> (try split) <;> first | rfl | (exfalso; omega))) dX1_isAhead_126
    · refine lv_iconst (v := iI 1) hx hb dX1_isAhead_36 rfl ?_
      refine lv_goto (tgt := 41) hx hb dX1_isAhead_37 (by decide) ?_
      refine lv_istore (lv' := [(4, .int (iI 1)), (3, .int (iI 1)), (0, .ref (bd 0)), (1, .int (iI ((i : Int)))), (2, .int (iI ((j : Int))))]) hx hb dX1_isAhead_41 hl (by decide) rfl (fun ls hl => ?_)
      refine lv_iload_n hx hb dX1_isAhead_43 rfl (lv_at hl 1 rfl) ?_
      refine w_if_eq (tgt := 56) hx hb dX1_isAhead_44 (by decide) ⟨by omega, by omega⟩ (fun c44 => absurd c44 (by omega)) (fun c44 => ?_)
      refine lv_aload_n hx hb dX1_isAhead_47 rfl (lv_at hl 2 rfl) ?_
      refine lv_iload_n hx hb dX1_isAhead_48 rfl (lv_at hl 3 rfl) ?_
      refine lv_iconst (v := iI 0) hx hb dX1_isAhead_49 rfl ?_
      refine w_pV (As := [.int (iI ((i : Int))), .int (iI 0)]) (rest := []) ⟨hx, hb, hml, hown, hts⟩ hK hP (mX1_timeOf (k := 0) hi (by omega)) (cwV 2 hts gX1_isAhead_X1_timeOf rfl rfl rfl (by decide +kernel) ⟨Nat.le_of_ble_eq_true rfl, Nat.le_of_ble_eq_true rfl⟩) (ci := 1) rfl rfl rfl rfl hl.1 rfl (Nat.le_of_ble_eq_true rfl) dX1_isAhead_50 ⟨Nat.zero_le _, Nat.zero_le _⟩ (fun r50 hr50 => ?_)
      refine w_top (v := iI ((tT (5 * i + 0)))) (hr50) ?_
      refine lv_goto (tgt := 63) hx hb dX1_isAhead_53 (by decide) ?_
      refine lv_istore (lv' := [(5, .int (iI ((tT (5 * i + 0))))), (4, .int (iI 1)), (3, .int (iI 1)), (0, .ref (bd 0)), (1, .int (iI ((i : Int)))), (2, .int (iI ((j : Int))))]) hx hb dX1_isAhead_63 hl (by decide) rfl (fun ls hl => ?_)
      refine lv_iload hx hb dX1_isAhead_65 (lv_at hl 1 rfl) ?_
      refine w_if_eq (tgt := 79) hx hb dX1_isAhead_67 (by decide) ⟨by omega, by omega⟩ (fun c67 => absurd c67 (by omega)) (fun c67 => ?_)
      refine lv_aload_n hx hb dX1_isAhead_70 rfl (lv_at hl 3 rfl) ?_
      refine lv_iload_n hx hb dX1_isAhead_71 rfl (lv_at hl 5 rfl) ?_
      refine lv_iconst (v := iI 0) hx hb dX1_isAhead_72 rfl ?_
      refine w_pV (As := [.int (iI ((j : Int))), .int (iI 0)]) (rest := []) ⟨hx, hb, hml, hown, hts⟩ hK hP (mX1_timeOf (k := 0) hj (by omega)) (cwV 2 hts gX1_isAhead_X1_timeOf rfl rfl rfl (by decide +kernel) ⟨Nat.le_of_ble_eq_true rfl, Nat.le_of_ble_eq_true rfl⟩) (ci := 1) rfl rfl rfl rfl hl.1 rfl (Nat.le_of_ble_eq_true rfl) dX1_isAhead_73 ⟨Nat.zero_le _, Nat.zero_le _⟩ (fun r73 hr73 => ?_)
      refine w_top (v := iI ((tT (5 * j + 0)))) (hr73) ?_
      refine lv_goto (tgt := 86) hx hb dX1_isAhead_76 (by decide) ?_
      refine lv_istore (lv' := [(6, .int (iI ((tT (5 * j + 0))))), (5, .int (iI ((tT (5 * i + 0))))), (4, .int (iI 1)), (3, .int (iI 1)), (0, .ref (bd 0)), (1, .int (iI ((i : Int)))), (2, .int (iI ((j : Int))))]) hx hb dX1_isAhead_86 hl (by decide) rfl (fun ls hl => ?_)
      refine lv_iload hx hb dX1_isAhead_88 (lv_at hl 1 rfl) ?_
      refine lv_iload hx hb dX1_isAhead_90 (lv_at hl 0 rfl) ?_
      refine w_icmp_lt (tgt := 107) hx hb dX1_isAhead_92 (by decide) ⟨by omega, by omega⟩ ⟨by omega, by omega⟩ (fun c92 => ?_) (fun c92 => ?_)
      · refine lv_iconst (v := iI 1) hx hb dX1_isAhead_107 rfl ?_
        refine lv_goto (tgt := 112) hx hb dX1_isAhead_108 (by decide) ?_
        refine lv_istore (lv' := [(7, .int (iI 1)), (6, .int (iI ((tT (5 * j + 0))))), (5, .int (iI ((tT (5 * i + 0))))), (4, .int (iI 1)), (3, .int (iI 1)), (0, .ref (bd 0)), (1, .int (iI ((i : Int)))), (2, .int (iI ((j : Int))))]) hx hb dX1_isAhead_112 hl (by decide) rfl (fun ls hl => ?_)
        refine lv_iload_n hx hb dX1_isAhead_114 rfl (lv_at hl 4 rfl) ?_
        refine lv_iload hx hb dX1_isAhead_115 (lv_at hl 3 rfl) ?_
        refine w_icmp_ne (tgt := 125) hx hb dX1_isAhead_117 (by decide) ⟨by omega, by omega⟩ ⟨by omega, by omega⟩ (fun c117 => absurd c117 (by omega)) (fun c117 => ?_)
        refine lv_iload hx hb dX1_isAhead_120 (lv_at hl 0 rfl) ?_
        refine lv_goto (tgt := 126) hx hb dX1_isAhead_122 (by decide) ?_
        exact hret 126 ls _ rfl (gb_t (by unfold ahd; split <;> (try split) <;> (try split) <;> first | rfl | (exfalso; omega))) dX1_isAhead_126
      · refine lv_iload hx hb dX1_isAhead_95 (lv_at hl 1 rfl) ?_
        refine lv_iload hx hb dX1_isAhead_97 (lv_at hl 0 rfl) ?_
        refine w_icmp_ne (tgt := 111) hx hb dX1_isAhead_99 (by decide) ⟨by omega, by omega⟩ ⟨by omega, by omega⟩ (fun c99 => ?_) (fun c99 => ?_)
        · refine lv_iconst (v := iI 0) hx hb dX1_isAhead_111 rfl ?_
          refine lv_istore (lv' := [(7, .int (iI 0)), (6, .int (iI ((tT (5 * j + 0))))), (5, .int (iI ((tT (5 * i + 0))))), (4, .int (iI 1)), (3, .int (iI 1)), (0, .ref (bd 0)), (1, .int (iI ((i : Int)))), (2, .int (iI ((j : Int))))]) hx hb dX1_isAhead_112 hl (by decide) rfl (fun ls hl => ?_)
          refine lv_iload_n hx hb dX1_isAhead_114 rfl (lv_at hl 4 rfl) ?_
          refine lv_iload hx hb dX1_isAhead_115 (lv_at hl 3 rfl) ?_
          refine w_icmp_ne (tgt := 125) hx hb dX1_isAhead_117 (by decide) ⟨by omega, by omega⟩ ⟨by omega, by omega⟩ (fun c117 => absurd c117 (by omega)) (fun c117 => ?_)
          refine lv_iload hx hb dX1_isAhead_120 (lv_at hl 0 rfl) ?_
          refine lv_goto (tgt := 126) hx hb dX1_isAhead_122 (by decide) ?_
          exact hret 126 ls _ rfl (gb_f (by unfold ahd; split <;> (try split) <;> (try split) <;> first | rfl | (exfalso; omega))) dX1_isAhead_126
        · refine lv_iload_n hx hb dX1_isAhead_102 rfl (lv_at hl 5 rfl) ?_
          refine lv_iload_n hx hb dX1_isAhead_103 rfl (lv_at hl 6 rfl) ?_
          refine w_icmp_ge (tgt := 111) hx hb dX1_isAhead_104 (by decide) ⟨by omega, by omega⟩ ⟨by omega, by omega⟩ (fun c104 => ?_) (fun c104 => ?_)
          · refine lv_iconst (v := iI 0) hx hb dX1_isAhead_111 rfl ?_
            refine lv_istore (lv' := [(7, .int (iI 0)), (6, .int (iI ((tT (5 * j + 0))))), (5, .int (iI ((tT (5 * i + 0))))), (4, .int (iI 1)), (3, .int (iI 1)), (0, .ref (bd 0)), (1, .int (iI ((i : Int)))), (2, .int (iI ((j : Int))))]) hx hb dX1_isAhead_112 hl (by decide) rfl (fun ls hl => ?_)
            refine lv_iload_n hx hb dX1_isAhead_114 rfl (lv_at hl 4 rfl) ?_
            refine lv_iload hx hb dX1_isAhead_115 (lv_at hl 3 rfl) ?_
            refine w_icmp_ne (tgt := 125) hx hb dX1_isAhead_117 (by decide) ⟨by omega, by omega⟩ ⟨by omega, by omega⟩ (fun c117 => absurd c117 (by omega)) (fun c117 => ?_)
            refine lv_iload hx hb dX1_isAhead_120 (lv_at hl 0 rfl) ?_
            refine lv_goto (tgt := 126) hx hb dX1_isAhead_122 (by decide) ?_
            exact hret 126 ls _ rfl (gb_f (by unfold ahd; split <;> (try split) <;> (try split) <;> first | rfl | (exfalso; omega))) dX1_isAhead_126
          · refine lv_iconst (v := iI 1) hx hb dX1_isAhead_107 rfl ?_
            refine lv_goto (tgt := 112) hx hb dX1_isAhead_108 (by decide) ?_
            refine lv_istore (lv' := [(7, .int (iI 1)), (6, .int (iI ((tT (5 * j + 0))))), (5, .int (iI ((tT (5 * i + 0))))), (4, .int (iI 1)), (3, .int (iI 1)), (0, .ref (bd 0)), (1, .int (iI ((i : Int)))), (2, .int (iI ((j : Int))))]) hx hb dX1_isAhead_112 hl (by decide) rfl (fun ls hl => ?_)
            refine lv_iload_n hx hb dX1_isAhead_114 rfl (lv_at hl 4 rfl) ?_
            refine lv_iload hx hb dX1_isAhead_115 (lv_at hl 3 rfl) ?_
            refine w_icmp_ne (tgt := 125) hx hb dX1_isAhead_117 (by decide) ⟨by omega, by omega⟩ ⟨by omega, by omega⟩ (fun c117 => absurd c117 (by omega)) (fun c117 => ?_)
            refine lv_iload hx hb dX1_isAhead_120 (lv_at hl 0 rfl) ?_
            refine lv_goto (tgt := 126) hx hb dX1_isAhead_122 (by decide) ?_
            exact hret 126 ls _ rfl (gb_t (by unfold ahd; split <;> (try split) <;> (try split) <;> first | rfl | (exfalso; omega))) dX1_isAhead_126
set_option maxHeartbeats 4000000 in
set_option maxRecDepth 100000 in
theorem mX1_sumOf {j fr to : Nat} (hT : ∀ k, 0 ≤ tT k ∧ tT k ≤ 99) (hj : j < 7) (hft : fr ≤ to) (hto : to ≤ 5) : PM l yX1_sumOf wsX1_sumOf (rmx 1 22) D (tyk cI cZ cJ) (mw bd cI th nn mm bm tT oO tB tL oR oJ) [.ref (bd 0), .int (iI ((j : Int))), .int (iI ((fr : Int))), .int (iI ((to : Int)))] (vp_Si (fun x => x = iI (smR tT j fr to))) := by
  refine pmI_of (cc := cX1_sumOf) (maxL := 6) (by decide) rfl (Nat.le_of_ble_eq_true rfl) ?_
  intro p e s m args below meth c Q hx hb hml hown hts hK hP hret ls hl
  have hown : s.vm.findClass RX1 = some m.cls := hown
  have hl : lv_has ls 6 [(0, .ref (bd 0)), (1, .int (iI ((j : Int)))), (2, .int (iI ((fr : Int)))), (3, .int (iI ((to : Int))))] := hl
  refine lv_iconst (v := iI 0) hx hb dX1_sumOf_0 rfl ?_
  refine lv_istore (lv' := [(4, .int (iI 0)), (0, .ref (bd 0)), (1, .int (iI ((j : Int)))), (2, .int (iI ((fr : Int)))), (3, .int (iI ((to : Int))))]) hx hb dX1_sumOf_1 hl (by decide) rfl (fun ls hl => ?_)
  refine lv_iload_n hx hb dX1_sumOf_3 rfl (lv_at hl 3 rfl) ?_
  refine lv_istore (lv' := [(5, .int (iI ((fr : Int)))), (4, .int (iI 0)), (0, .ref (bd 0)), (1, .int (iI ((j : Int)))), (2, .int (iI ((fr : Int)))), (3, .int (iI ((to : Int))))]) hx hb dX1_sumOf_4 hl (by decide) rfl (fun ls hl => ?_)
  have L6 : ∀ (fu : Nat) (i : Nat) (x5_6 : Int) (x4_6 : Int), (i ≤ to - fr) → (x5_6 = (fr : Int) + (i : Int)) → (x4_6 = (smC tT j fr i)) → to - fr - i < fu → ∀ ls : Array Slot, lv_has ls 6 [(5, .int (iI (x5_6))), (4, .int (iI (x4_6))), (0, .ref (bd 0)), (1, .int (iI ((j : Int)))), (2, .int (iI ((fr : Int)))), (3, .int (iI ((to : Int))))] → W p l e (rmx 1 22) s m args below meth c s.heap [] 0 0 Q (F0 m 6 ls []) := by
    intro fu
    induction fu with
    | zero =>
      intro i x5_6 x4_6 hi hq0 hq1 hfu
      exact absurd hfu (Nat.not_lt_zero _)
    | succ fu ih =>
      intro i x5_6 x4_6 hi hq0 hq1 hfu ls hl
      subst hq0
      subst hq1
      have ih6 := ih
      refine lv_iload hx hb dX1_sumOf_6 (lv_at hl 0 rfl) ?_
      refine lv_iload_n hx hb dX1_sumOf_8 rfl (lv_at hl 5 rfl) ?_
      refine w_icmp_ge (tgt := 30) hx hb dX1_sumOf_9 (by decide) ⟨by omega, by omega⟩ ⟨by omega, by omega⟩ (fun c9 => ?_) (fun c9 => ?_)
      · refine lv_iload hx hb dX1_sumOf_30 (lv_at hl 1 rfl) ?_
        exact hret 32 ls _ (by rw [show i = to - fr by omega]; rfl) dX1_sumOf_32
      · refine lv_iload hx hb dX1_sumOf_12 (lv_at hl 1 rfl) ?_
        refine lv_aload_n hx hb dX1_sumOf_14 rfl (lv_at hl 2 rfl) ?_
        refine lv_iload_n hx hb dX1_sumOf_15 rfl (lv_at hl 3 rfl) ?_
        refine lv_iload hx hb dX1_sumOf_16 (lv_at hl 0 rfl) ?_
        refine w_pV (As := [.int (iI ((j : Int))), .int (iI ((((fr + i) : Nat) : Int)))]) (rest := [.int (iI ((smC tT j fr i)))]) ⟨hx, hb, hml, hown, hts⟩ hK hP (mX1_timeOf (k := fr + i) hj (by omega)) (cwV 2 hts gX1_sumOf_X1_timeOf rfl rfl rfl (by decide +kernel) ⟨Nat.le_of_ble_eq_true rfl, Nat.le_of_ble_eq_true rfl⟩) (ci := 1) rfl rfl rfl rfl hl.1 (by rw [show (((fr : Int) + (i : Int)) : Int) = (((fr + i) : Nat) : Int) by omega]; try rfl) (Nat.le_of_ble_eq_true rfl) dX1_sumOf_18 ⟨Nat.zero_le _, Nat.zero_le _⟩ (fun r18 hr18 => ?_)
        refine w_top (v := iI ((tT (5 * j + (fr + i))))) (hr18) ?_
        refine w_iadd (z := (smC tT j fr i) + (tT (5 * j + (fr + i)))) hx hb dX1_sumOf_21 (by omega) ?_
        refine lv_istore (lv' := [(4, .int (iI ((smC tT j fr i) + (tT (5 * j + (fr + i)))))), (5, .int (iI ((fr : Int) + (i : Int)))), (0, .ref (bd 0)), (1, .int (iI ((j : Int)))), (2, .int (iI ((fr : Int)))), (3, .int (iI ((to : Int))))]) hx hb dX1_sumOf_22 hl (by decide) rfl (fun ls hl => ?_)
        refine lv_iinc (v := iI ((fr : Int) + (i : Int) + 1)) (lv' := [(5, .int (iI ((fr : Int) + (i : Int) + 1))), (4, .int (iI ((smC tT j fr i) + (tT (5 * j + (fr + i)))))), (0, .ref (bd 0)), (1, .int (iI ((j : Int)))), (2, .int (iI ((fr : Int)))), (3, .int (iI ((to : Int))))]) hx hb dX1_sumOf_24 hl (k := 1) rfl (iI_inc (by omega)) (by decide) rfl (fun ls hl => ?_)
        refine lv_goto (tgt := 6) hx hb dX1_sumOf_27 (by decide) ?_
        exact ih6 (i + 1) ((fr : Int) + (i : Int) + 1) ((smC tT j fr i) + (tT (5 * j + (fr + i)))) (by omega) (by omega) (rfl) (by omega) ls (lv_sub hl [0, 1, 2, 3, 4, 5] rfl)
  exact L6 (to - fr - 0 + 1) 0 ((fr : Int)) (0) (by omega) (by omega) (rfl) (Nat.lt_succ_self _) ls (lv_sub hl [0, 1, 2, 3, 4, 5] rfl)
set_option maxHeartbeats 4000000 in
set_option maxRecDepth 100000 in
theorem mX1_puts {j pl c0 : Nat} (hc : c0 < 7) (hp : pl ≤ c0) : IM l yX1_puts wsX1_puts (rmx 0 0) D (tyk cI cZ cJ) (mw bd cI th nn mm bm tT oO tB tL oR oJ) [.ref (bd 0), .int (iI ((j : Int))), .int (iI ((pl : Int))), .int (iI ((c0 : Int)))] (QV D (tyk cI cZ cJ) (fun u : Unit => mw bd cI th nn mm bm tT oO tB tL (pin oR c0 pl j) oJ) (fun _ => True)) := by
  refine imV_of (cc := cX1_puts) (maxL := 5) (by decide) rfl (Nat.le_of_ble_eq_true rfl) ?_
  intro p e s m args below meth c A Q hx hb hml hown hts hA hK hP hD hS hret ls hl
  have hown : s.vm.findClass RX1 = some m.cls := hown
  have hl : lv_has ls 5 [(0, .ref (bd 0)), (1, .int (iI ((j : Int)))), (2, .int (iI ((pl : Int)))), (3, .int (iI ((c0 : Int))))] := hl
  have inW : ∀ w ∈ wsX10, w ∈ wsX1_puts := by first | exact (fun w h => List.mem_cons_of_mem _ (List.mem_append_right _ h)) | exact (fun w h => List.mem_cons_of_mem _ (List.mem_append_left _ (List.mem_append_right _ h))) | exact (fun w h => List.mem_cons_of_mem _ (List.mem_append_left _ (List.mem_append_left _ (List.mem_append_right _ h)))) | decide +kernel
  refine lv_iload_n hx hb dX1_puts_0 rfl (lv_at hl 3 rfl) ?_
  refine lv_istore (lv' := [(4, .int (iI ((c0 : Int)))), (0, .ref (bd 0)), (1, .int (iI ((j : Int)))), (2, .int (iI ((pl : Int)))), (3, .int (iI ((c0 : Int))))]) hx hb dX1_puts_1 hl (by decide) rfl (fun ls hl => ?_)
  have L3 : ∀ (fu : Nat) (z : Nat) (wtrial3 : Nat → Nat) (x4_3 : Int), (z ≤ c0 - pl) → (wtrial3 = sh2 oR c0 z) → (x4_3 = (c0 : Int) - (z : Int)) → c0 - pl - z < fu → ∀ (H : Heap) (locs : List Loc), va_P D vwCl (mw bd cI th nn mm bm tT oO tB tL wtrial3 oJ) H → va_D A (mw bd cI th nn mm bm tT oO tB tL wtrial3 oJ) → va_S A s.heap H locs → ∀ ls : Array Slot, lv_has ls 5 [(4, .int (iI (x4_3))), (0, .ref (bd 0)), (1, .int (iI ((j : Int)))), (2, .int (iI ((pl : Int)))), (3, .int (iI ((c0 : Int))))] → W p l e (rmx 0 0) s m args below meth c H locs 0 0 Q (F0 m 3 ls []) := by
    intro fu
    induction fu with
    | zero =>
      intro z wtrial3 x4_3 hz hq0 hq1 hfu
      exact absurd hfu (Nat.not_lt_zero _)
    | succ fu ih =>
      intro z wtrial3 x4_3 hz hq0 hq1 hfu H locs hP hD hS ls hl
      subst hq0
      subst hq1
      have ih3 := ih
      refine lv_iload hx hb dX1_puts_3 (lv_at hl 0 rfl) ?_
      refine lv_iload_n hx hb dX1_puts_5 rfl (lv_at hl 3 rfl) ?_
      refine w_icmp_le (tgt := 31) hx hb dX1_puts_6 (by decide) ⟨by omega, by omega⟩ ⟨by omega, by omega⟩ (fun c6 => ?_) (fun c6 => ?_)
      · obtain rfl : z = c0 - pl := by omega
        refine lv_aload_n hx hb dX1_puts_31 rfl (lv_at hl 1 rfl) ?_
        refine va_get (D := D) (ci := 1) (C := RX1) (T := TX1) (N := 10) hx hb hts inW hown hK hP 0 rfl rfl 7 (by decide) (hts (.fieldLink RX1 26 "FlowforgeModel" "trial" "[I") (List.mem_of_getElem? (i := 1) rfl)) (fun _ h9 => h9) rfl dX1_puts_32 ?_
        refine lv_iload_n hx hb dX1_puts_35 rfl (lv_at hl 3 rfl) ?_
        refine lv_iload_n hx hb dX1_puts_36 rfl (lv_at hl 2 rfl) ?_
        refine w_iast (g := jI (va_up (sh2 oR c0 (c0 - pl)) pl j)) (ws' := mw bd cI th nn mm bm tT oO tB tL (va_up (sh2 oR c0 (c0 - pl)) pl j) oJ) hx hb hK hP hD hS 5 0 rfl rfl (pl) (by omega) (by omega) (by decide) (hg := jI_up) (hw := rfl) (hd := dX1_puts_37) (kk := fun H locs hP hD hS => ?_)
        exact hret _ _ 38 ls (()) hP hD hS (trivial) dX1_puts_38
      · refine lv_aload_n hx hb dX1_puts_9 rfl (lv_at hl 1 rfl) ?_
        refine va_get (D := D) (ci := 1) (C := RX1) (T := TX1) (N := 10) hx hb hts inW hown hK hP 0 rfl rfl 7 (by decide) (hts (.fieldLink RX1 26 "FlowforgeModel" "trial" "[I") (List.mem_of_getElem? (i := 1) rfl)) (fun _ h9 => h9) rfl dX1_puts_10 ?_
        refine lv_iload hx hb dX1_puts_13 (lv_at hl 0 rfl) ?_
        refine lv_aload_n hx hb dX1_puts_15 rfl (lv_at hl 1 rfl) ?_
        refine va_get (D := D) (ci := 1) (C := RX1) (T := TX1) (N := 10) hx hb hts inW hown hK hP 0 rfl rfl 7 (by decide) (hts (.fieldLink RX1 26 "FlowforgeModel" "trial" "[I") (List.mem_of_getElem? (i := 1) rfl)) (fun _ h9 => h9) rfl dX1_puts_16 ?_
        refine lv_iload hx hb dX1_puts_19 (lv_at hl 0 rfl) ?_
        refine lv_iconst (v := iI 1) hx hb dX1_puts_21 rfl ?_
        refine w_isub (z := (c0 : Int) - (z : Int) - 1) hx hb dX1_puts_22 (by omega) ?_
        refine w_iald (v := iI ((oR (c0 - z - 1) : Nat) : Int)) hx hb hK hP 5 0 rfl rfl (c0 - z - 1) (by omega) (by omega) (by decide) (congrArg (fun q : Nat => iI (q : Int)) (sh2_at (by omega))) dX1_puts_23 ?_
        refine w_iast (g := jI (va_up (sh2 oR c0 z) (c0 - z) ((oR (c0 - z - 1))))) (ws' := mw bd cI th nn mm bm tT oO tB tL (va_up (sh2 oR c0 z) (c0 - z) ((oR (c0 - z - 1)))) oJ) hx hb hK hP hD hS 5 0 rfl rfl (c0 - z) (by omega) (by omega) (by decide) (hg := jI_up) (hw := rfl) (hd := dX1_puts_24) (kk := fun H locs hP hD hS => ?_)
        refine lv_iinc (v := iI ((c0 : Int) - (z : Int) - 1)) (lv' := [(4, .int (iI ((c0 : Int) - (z : Int) - 1))), (0, .ref (bd 0)), (1, .int (iI ((j : Int)))), (2, .int (iI ((pl : Int)))), (3, .int (iI ((c0 : Int))))]) hx hb dX1_puts_25 hl (k := 0) rfl (iI_inc (by omega)) (by decide) rfl (fun ls hl => ?_)
        refine lv_goto (tgt := 3) hx hb dX1_puts_28 (by decide) ?_
        exact ih3 (z + 1) (va_up (sh2 oR c0 z) (c0 - z) ((oR (c0 - z - 1)))) ((c0 : Int) - (z : Int) - 1) (by omega) (sh2_s (by omega)) (by omega) (by omega) _ _ hP hD hS ls (lv_sub hl [0, 1, 2, 3, 4] rfl)
  exact L3 (c0 - pl - 0 + 1) 0 oR ((c0 : Int)) (by omega) ((sh2_0 _ _).symm) (by omega) (Nat.lt_succ_self _) _ _ hP hD hS ls (lv_sub hl [0, 1, 2, 3, 4] rfl)
set_option maxHeartbeats 4000000 in
set_option maxRecDepth 100000 in
theorem mX1_takesOut {pl c0 : Nat} (hc : c0 < 7) (hp : pl ≤ c0) : IM l yX1_takesOut wsX1_takesOut (rmx 0 0) D (tyk cI cZ cJ) (mw bd cI th nn mm bm tT oO tB tL oR oJ) [.ref (bd 0), .int (iI ((pl : Int))), .int (iI ((c0 : Int)))] (QV D (tyk cI cZ cJ) (fun u : Unit => mw bd cI th nn mm bm tT oO tB tL (sh1 oR pl (c0 - pl)) oJ) (fun _ => True)) := by
  refine imV_of (cc := cX1_takesOut) (maxL := 4) (by decide) rfl (Nat.le_of_ble_eq_true rfl) ?_
  intro p e s m args below meth c A Q hx hb hml hown hts hA hK hP hD hS hret ls hl
  have hown : s.vm.findClass RX1 = some m.cls := hown
  have hl : lv_has ls 4 [(0, .ref (bd 0)), (1, .int (iI ((pl : Int)))), (2, .int (iI ((c0 : Int))))] := hl
  have inW : ∀ w ∈ wsX10, w ∈ wsX1_takesOut := by first | exact (fun w h => List.mem_cons_of_mem _ (List.mem_append_right _ h)) | exact (fun w h => List.mem_cons_of_mem _ (List.mem_append_left _ (List.mem_append_right _ h))) | exact (fun w h => List.mem_cons_of_mem _ (List.mem_append_left _ (List.mem_append_left _ (List.mem_append_right _ h)))) | decide +kernel
  refine lv_iload_n hx hb dX1_takesOut_0 rfl (lv_at hl 1 rfl) ?_
  refine lv_istore_n (lv' := [(3, .int (iI ((pl : Int)))), (0, .ref (bd 0)), (1, .int (iI ((pl : Int)))), (2, .int (iI ((c0 : Int))))]) hx hb dX1_takesOut_1 rfl hl (by decide) rfl (fun ls hl => ?_)
  have L2 : ∀ (fu : Nat) (z : Nat) (wtrial2 : Nat → Nat) (x3_2 : Int), (z ≤ c0 - pl) → (wtrial2 = sh1 oR pl z) → (x3_2 = (pl : Int) + (z : Int)) → c0 - pl - z < fu → ∀ (H : Heap) (locs : List Loc), va_P D vwCl (mw bd cI th nn mm bm tT oO tB tL wtrial2 oJ) H → va_D A (mw bd cI th nn mm bm tT oO tB tL wtrial2 oJ) → va_S A s.heap H locs → ∀ ls : Array Slot, lv_has ls 4 [(3, .int (iI (x3_2))), (0, .ref (bd 0)), (1, .int (iI ((pl : Int)))), (2, .int (iI ((c0 : Int))))] → W p l e (rmx 0 0) s m args below meth c H locs 0 0 Q (F0 m 2 ls []) := by
    intro fu
    induction fu with
    | zero =>
      intro z wtrial2 x3_2 hz hq0 hq1 hfu
      exact absurd hfu (Nat.not_lt_zero _)
    | succ fu ih =>
      intro z wtrial2 x3_2 hz hq0 hq1 hfu H locs hP hD hS ls hl
      subst hq0
      subst hq1
      have ih2 := ih
      refine lv_iload_n hx hb dX1_takesOut_2 rfl (lv_at hl 0 rfl) ?_
      refine lv_iload_n hx hb dX1_takesOut_3 rfl (lv_at hl 3 rfl) ?_
      refine w_icmp_ge (tgt := 27) hx hb dX1_takesOut_4 (by decide) ⟨by omega, by omega⟩ ⟨by omega, by omega⟩ (fun c4 => ?_) (fun c4 => ?_)
      · obtain rfl : z = c0 - pl := by omega
        exact hret _ _ 27 ls (()) hP hD hS (trivial) dX1_takesOut_27
      · refine lv_aload_n hx hb dX1_takesOut_7 rfl (lv_at hl 1 rfl) ?_
        refine va_get (D := D) (ci := 1) (C := RX1) (T := TX1) (N := 10) hx hb hts inW hown hK hP 0 rfl rfl 7 (by decide) (hts (.fieldLink RX1 26 "FlowforgeModel" "trial" "[I") (List.mem_of_getElem? (i := 1) rfl)) (fun _ h9 => h9) rfl dX1_takesOut_8 ?_
        refine lv_iload_n hx hb dX1_takesOut_11 rfl (lv_at hl 0 rfl) ?_
        refine lv_aload_n hx hb dX1_takesOut_12 rfl (lv_at hl 1 rfl) ?_
        refine va_get (D := D) (ci := 1) (C := RX1) (T := TX1) (N := 10) hx hb hts inW hown hK hP 0 rfl rfl 7 (by decide) (hts (.fieldLink RX1 26 "FlowforgeModel" "trial" "[I") (List.mem_of_getElem? (i := 1) rfl)) (fun _ h9 => h9) rfl dX1_takesOut_13 ?_
        refine lv_iload_n hx hb dX1_takesOut_16 rfl (lv_at hl 0 rfl) ?_
        refine lv_iconst (v := iI 1) hx hb dX1_takesOut_17 rfl ?_
        refine w_iadd (z := (pl : Int) + (z : Int) + 1) hx hb dX1_takesOut_18 (by omega) ?_
        refine w_iald (v := iI ((oR (pl + z + 1) : Nat) : Int)) hx hb hK hP 5 0 rfl rfl (pl + z + 1) (by omega) (by omega) (by decide) (congrArg (fun q : Nat => iI (q : Int)) (sh1_at (by omega))) dX1_takesOut_19 ?_
        refine w_iast (g := jI (va_up (sh1 oR pl z) (pl + z) ((oR (pl + z + 1))))) (ws' := mw bd cI th nn mm bm tT oO tB tL (va_up (sh1 oR pl z) (pl + z) ((oR (pl + z + 1)))) oJ) hx hb hK hP hD hS 5 0 rfl rfl (pl + z) (by omega) (by omega) (by decide) (hg := jI_up) (hw := rfl) (hd := dX1_takesOut_20) (kk := fun H locs hP hD hS => ?_)
        refine lv_iinc (v := iI ((pl : Int) + (z : Int) + 1)) (lv' := [(3, .int (iI ((pl : Int) + (z : Int) + 1))), (0, .ref (bd 0)), (1, .int (iI ((pl : Int)))), (2, .int (iI ((c0 : Int))))]) hx hb dX1_takesOut_21 hl (k := 0) rfl (iI_inc (by omega)) (by decide) rfl (fun ls hl => ?_)
        refine lv_goto (tgt := 2) hx hb dX1_takesOut_24 (by decide) ?_
        exact ih2 (z + 1) (va_up (sh1 oR pl z) (pl + z) ((oR (pl + z + 1)))) ((pl : Int) + (z : Int) + 1) (by omega) (sh1_s) (by omega) (by omega) _ _ hP hD hS ls (lv_sub hl [0, 1, 2, 3] rfl)
  exact L2 (c0 - pl - 0 + 1) 0 oR ((pl : Int)) (by omega) ((sh1_0 _ _).symm) (by omega) (Nat.lt_succ_self _) _ _ hP hD hS ls (lv_sub hl [0, 1, 2, 3] rfl)
set_option maxHeartbeats 4000000 in
set_option maxRecDepth 100000 in
theorem mX1_bySum {r : Nat} (hT : ∀ k, 0 ≤ tT k ∧ tT k ≤ 99) (hn : nn ≤ 7) (hm : 1 ≤ mm ∧ mm ≤ 5) (hr : r < 7) : PM l yX1_bySum wsX1_bySum (rmx 2 47) D (tyk cI cZ cJ) (mw bd cI th nn mm bm tT oO tB tL oR oJ) [.ref (bd 0), .int (iI ((r : Int)))] (vp_Si (fun x => x = iI ((bsr tT mm nn r nn : Nat) : Int))) := by
  refine pmI_of (cc := cX1_bySum) (maxL := 7) (by decide) rfl (Nat.le_of_ble_eq_true rfl) ?_
  intro p e s m args below meth c Q hx hb hml hown hts hK hP hret ls hl
  have hown : s.vm.findClass RX1 = some m.cls := hown
  have hl : lv_has ls 7 [(0, .ref (bd 0)), (1, .int (iI ((r : Int))))] := hl
  have inW : ∀ w ∈ wsX10, w ∈ wsX1_bySum := by first | exact (fun w h => List.mem_cons_of_mem _ (List.mem_append_right _ h)) | exact (fun w h => List.mem_cons_of_mem _ (List.mem_append_left _ (List.mem_append_right _ h))) | exact (fun w h => List.mem_cons_of_mem _ (List.mem_append_left _ (List.mem_append_left _ (List.mem_append_right _ h)))) | decide +kernel
  refine lv_iconst (v := iI 0) hx hb dX1_bySum_0 rfl ?_
  refine lv_istore_n (lv' := [(2, .int (iI 0)), (0, .ref (bd 0)), (1, .int (iI ((r : Int))))]) hx hb dX1_bySum_1 rfl hl (by decide) rfl (fun ls hl => ?_)
  refine lv_iconst (v := iI 0) hx hb dX1_bySum_2 rfl ?_
  refine lv_istore_n (lv' := [(3, .int (iI 0)), (2, .int (iI 0)), (0, .ref (bd 0)), (1, .int (iI ((r : Int))))]) hx hb dX1_bySum_3 rfl hl (by decide) rfl (fun ls hl => ?_)
  have L4 : ∀ (fu : Nat) (i : Nat) (x3_4 : Int) (x2_4 : Int), (i ≤ nn) → (x3_4 = (i : Int)) → (x2_4 = ((bsr tT mm nn r i : Nat) : Int)) → nn - i < fu → ∀ ls : Array Slot, lv_has ls 7 [(3, .int (iI (x3_4))), (2, .int (iI (x2_4))), (0, .ref (bd 0)), (1, .int (iI ((r : Int))))] → W p l e (rmx 2 47) s m args below meth c s.heap [] 0 0 Q (F0 m 4 ls []) := by
    intro fu
    induction fu with
    | zero =>
      intro i x3_4 x2_4 hi hq0 hq1 hfu
      exact absurd hfu (Nat.not_lt_zero _)
    | succ fu ih =>
      intro i x3_4 x2_4 hi hq0 hq1 hfu ls hl
      subst hq0
      subst hq1
      have ih4 := ih
      have hz := smR_rg hT i 0 mm
      refine lv_iload_n hx hb dX1_bySum_4 rfl (lv_at hl 0 rfl) ?_
      refine lv_aload_n hx hb dX1_bySum_5 rfl (lv_at hl 2 rfl) ?_
      refine va_get (D := D) (ci := 1) (C := RX1) (T := TX1) (N := 10) hx hb hts inW hown hK hP 0 rfl rfl 1 (by decide) (hts (.fieldLink RX1 35 "FlowforgeModel" "many" "I") (List.mem_of_getElem? (i := 1) rfl)) (fun _ h9 => h9) rfl dX1_bySum_6 ?_
      refine w_icmp_ge (tgt := 101) hx hb dX1_bySum_9 (by decide) ⟨by omega, by omega⟩ ⟨by omega, by omega⟩ (fun c9 => ?_) (fun c9 => ?_)
      · obtain rfl : nn = i := by omega
        refine lv_iload_n hx hb dX1_bySum_101 rfl (lv_at hl 1 rfl) ?_
        exact hret 102 ls _ (rfl) dX1_bySum_102
      · refine lv_iconst (v := iI 0) hx hb dX1_bySum_12 rfl ?_
        refine lv_istore (lv' := [(4, .int (iI 0)), (3, .int (iI ((i : Int)))), (2, .int (iI (((bsr tT mm nn r i : Nat) : Int)))), (0, .ref (bd 0)), (1, .int (iI ((r : Int))))]) hx hb dX1_bySum_13 hl (by decide) rfl (fun ls hl => ?_)
        refine lv_iconst (v := iI 0) hx hb dX1_bySum_15 rfl ?_
        refine lv_istore (lv' := [(5, .int (iI 0)), (4, .int (iI 0)), (3, .int (iI ((i : Int)))), (2, .int (iI (((bsr tT mm nn r i : Nat) : Int)))), (0, .ref (bd 0)), (1, .int (iI ((r : Int))))]) hx hb dX1_bySum_16 hl (by decide) rfl (fun ls hl => ?_)
        have L18 : ∀ (fu : Nat) (j : Nat) (x5_18 : Int) (x4_18 : Int), (j ≤ nn) → (x5_18 = (j : Int)) → (x4_18 = ((cn (bs2 tT mm i) j : Nat) : Int)) → nn - j < fu → ∀ ls : Array Slot, lv_has ls 7 [(5, .int (iI (x5_18))), (4, .int (iI (x4_18))), (3, .int (iI ((i : Int)))), (2, .int (iI (((bsr tT mm nn r i : Nat) : Int)))), (0, .ref (bd 0)), (1, .int (iI ((r : Int))))] → W p l e (rmx 2 47) s m args below meth c s.heap [] 0 0 Q (F0 m 18 ls []) := by
          intro fu
          induction fu with
          | zero =>
            intro j x5_18 x4_18 hj hq0 hq1 hfu
            exact absurd hfu (Nat.not_lt_zero _)
          | succ fu ih =>
            intro j x5_18 x4_18 hj hq0 hq1 hfu ls hl
            subst hq0
            subst hq1
            have ih18 := ih
            have hy := smR_rg hT j 0 mm
            have hx9 := cn_le (bs2 tT mm i) j
            refine lv_iload hx hb dX1_bySum_18 (lv_at hl 0 rfl) ?_
            refine lv_aload_n hx hb dX1_bySum_20 rfl (lv_at hl 4 rfl) ?_
            refine va_get (D := D) (ci := 1) (C := RX1) (T := TX1) (N := 10) hx hb hts inW hown hK hP 0 rfl rfl 1 (by decide) (hts (.fieldLink RX1 35 "FlowforgeModel" "many" "I") (List.mem_of_getElem? (i := 1) rfl)) (fun _ h9 => h9) rfl dX1_bySum_21 ?_
            refine w_icmp_ge (tgt := 83) hx hb dX1_bySum_24 (by decide) ⟨by omega, by omega⟩ ⟨by omega, by omega⟩ (fun c24 => ?_) (fun c24 => ?_)
            · obtain rfl : nn = j := by omega
              have hx8 := cn_le (bs2 tT mm i) nn
              refine lv_iload hx hb dX1_bySum_83 (lv_at hl 1 rfl) ?_
              refine lv_iload_n hx hb dX1_bySum_85 rfl (lv_at hl 5 rfl) ?_
              refine w_icmp_ne (tgt := 93) hx hb dX1_bySum_86 (by decide) ⟨by omega, by omega⟩ ⟨by omega, by omega⟩ (fun c86 => ?_) (fun c86 => ?_)
              · have e8 : bsr tT mm nn r (i + 1) = bsr tT mm nn r i := if_neg (by omega)
                refine lv_iload_n hx hb dX1_bySum_93 rfl (lv_at hl 3 rfl) ?_
                refine lv_istore_n (lv' := [(2, .int (iI (((bsr tT mm nn r i : Nat) : Int)))), (5, .int (iI ((nn : Int)))), (4, .int (iI (((cn (bs2 tT mm i) nn : Nat) : Int)))), (3, .int (iI ((i : Int)))), (0, .ref (bd 0)), (1, .int (iI ((r : Int))))]) hx hb dX1_bySum_94 rfl hl (by decide) rfl (fun ls hl => ?_)
                refine lv_iinc (v := iI ((i : Int) + 1)) (lv' := [(3, .int (iI ((i : Int) + 1))), (2, .int (iI (((bsr tT mm nn r i : Nat) : Int)))), (5, .int (iI ((nn : Int)))), (4, .int (iI (((cn (bs2 tT mm i) nn : Nat) : Int)))), (0, .ref (bd 0)), (1, .int (iI ((r : Int))))]) hx hb dX1_bySum_95 hl (k := 3) rfl (iI_inc (by omega)) (by decide) rfl (fun ls hl => ?_)
                refine lv_goto (tgt := 4) hx hb dX1_bySum_98 (by decide) ?_
                exact ih4 (i + 1) ((i : Int) + 1) (((bsr tT mm nn r i : Nat) : Int)) (by omega) (by omega) (by rw [e8]) (by omega) ls (lv_sub hl [0, 1, 4, 5] rfl)
              · have e8 : bsr tT mm nn r (i + 1) = i := if_pos (by omega)
                refine lv_iload_n hx hb dX1_bySum_89 rfl (lv_at hl 2 rfl) ?_
                refine lv_goto (tgt := 94) hx hb dX1_bySum_90 (by decide) ?_
                refine lv_istore_n (lv' := [(2, .int (iI ((i : Int)))), (5, .int (iI ((nn : Int)))), (4, .int (iI (((cn (bs2 tT mm i) nn : Nat) : Int)))), (3, .int (iI ((i : Int)))), (0, .ref (bd 0)), (1, .int (iI ((r : Int))))]) hx hb dX1_bySum_94 rfl hl (by decide) rfl (fun ls hl => ?_)
                refine lv_iinc (v := iI ((i : Int) + 1)) (lv' := [(3, .int (iI ((i : Int) + 1))), (2, .int (iI ((i : Int)))), (5, .int (iI ((nn : Int)))), (4, .int (iI (((cn (bs2 tT mm i) nn : Nat) : Int)))), (0, .ref (bd 0)), (1, .int (iI ((r : Int))))]) hx hb dX1_bySum_95 hl (k := 3) rfl (iI_inc (by omega)) (by decide) rfl (fun ls hl => ?_)
                refine lv_goto (tgt := 4) hx hb dX1_bySum_98 (by decide) ?_
                exact ih4 (i + 1) ((i : Int) + 1) ((i : Int)) (by omega) (by omega) (by rw [e8]) (by omega) ls (lv_sub hl [0, 1, 4, 5] rfl)
            · refine lv_aload_n hx hb dX1_bySum_27 rfl (lv_at hl 4 rfl) ?_
              refine lv_iload hx hb dX1_bySum_28 (lv_at hl 0 rfl) ?_
              refine lv_iconst (v := iI 0) hx hb dX1_bySum_30 rfl ?_
              refine lv_aload_n hx hb dX1_bySum_31 rfl (lv_at hl 4 rfl) ?_
              refine va_get (D := D) (ci := 1) (C := RX1) (T := TX1) (N := 10) hx hb hts inW hown hK hP 0 rfl rfl 2 (by decide) (hts (.fieldLink RX1 7 "FlowforgeModel" "wide" "I") (List.mem_of_getElem? (i := 2) rfl)) (fun _ h9 => h9) rfl dX1_bySum_32 ?_
              refine w_pV (As := [.int (iI ((j : Int))), .int (iI 0), .int (iI ((mm : Int)))]) (rest := []) ⟨hx, hb, hml, hown, hts⟩ hK hP (mX1_sumOf (fr := 0) hT (by omega) (by omega) hm.2) (cwV 3 hts gX1_bySum_X1_sumOf rfl rfl rfl (by decide +kernel) ⟨Nat.le_of_ble_eq_true rfl, Nat.le_of_ble_eq_true rfl⟩) (ci := 1) rfl rfl rfl rfl hl.1 rfl (Nat.le_of_ble_eq_true rfl) dX1_bySum_35 ⟨Nat.zero_le _, Nat.zero_le _⟩ (fun r35 hr35 => ?_)
              refine w_top (v := iI ((smR tT j 0 mm))) (hr35) ?_
              refine lv_aload_n hx hb dX1_bySum_38 rfl (lv_at hl 4 rfl) ?_
              refine lv_iload_n hx hb dX1_bySum_39 rfl (lv_at hl 2 rfl) ?_
              refine lv_iconst (v := iI 0) hx hb dX1_bySum_40 rfl ?_
              refine lv_aload_n hx hb dX1_bySum_41 rfl (lv_at hl 4 rfl) ?_
              refine va_get (D := D) (ci := 1) (C := RX1) (T := TX1) (N := 10) hx hb hts inW hown hK hP 0 rfl rfl 2 (by decide) (hts (.fieldLink RX1 7 "FlowforgeModel" "wide" "I") (List.mem_of_getElem? (i := 2) rfl)) (fun _ h9 => h9) rfl dX1_bySum_42 ?_
              refine w_pV (As := [.int (iI ((i : Int))), .int (iI 0), .int (iI ((mm : Int)))]) (rest := [.int (iI ((smR tT j 0 mm)))]) ⟨hx, hb, hml, hown, hts⟩ hK hP (mX1_sumOf (fr := 0) hT (by omega) (by omega) hm.2) (cwV 3 hts gX1_bySum_X1_sumOf rfl rfl rfl (by decide +kernel) ⟨Nat.le_of_ble_eq_true rfl, Nat.le_of_ble_eq_true rfl⟩) (ci := 1) rfl rfl rfl rfl hl.1 rfl (Nat.le_of_ble_eq_true rfl) dX1_bySum_45 ⟨Nat.zero_le _, Nat.zero_le _⟩ (fun r45 hr45 => ?_)
              refine w_top (v := iI ((smR tT i 0 mm))) (hr45) ?_
              refine w_isub (z := (smR tT j 0 mm) - (smR tT i 0 mm)) hx hb dX1_bySum_48 (by omega) ?_
              refine lv_istore (lv' := [(6, .int (iI ((smR tT j 0 mm) - (smR tT i 0 mm)))), (5, .int (iI ((j : Int)))), (4, .int (iI (((cn (bs2 tT mm i) j : Nat) : Int)))), (3, .int (iI ((i : Int)))), (2, .int (iI (((bsr tT mm nn r i : Nat) : Int)))), (0, .ref (bd 0)), (1, .int (iI ((r : Int))))]) hx hb dX1_bySum_49 hl (by decide) rfl (fun ls hl => ?_)
              refine lv_iload hx hb dX1_bySum_51 (lv_at hl 2 rfl) ?_
              refine lv_iload hx hb dX1_bySum_53 (lv_at hl 0 rfl) ?_
              refine w_if_gt (tgt := 69) hx hb dX1_bySum_55 (by decide) ⟨by omega, by omega⟩ (fun c55 => ?_) (fun c55 => ?_)
              · have e7 : bs2 tT mm i j = true := if_pos (by omega)
                refine lv_iconst (v := iI 1) hx hb dX1_bySum_69 rfl ?_
                refine lv_goto (tgt := 74) hx hb dX1_bySum_70 (by decide) ?_
                refine w_iadd (z := ((cn (bs2 tT mm i) j : Nat) : Int) + 1) hx hb dX1_bySum_74 (by omega) ?_
                refine lv_istore (lv' := [(4, .int (iI (((cn (bs2 tT mm i) j : Nat) : Int) + 1))), (6, .int (iI ((smR tT j 0 mm) - (smR tT i 0 mm)))), (5, .int (iI ((j : Int)))), (3, .int (iI ((i : Int)))), (2, .int (iI (((bsr tT mm nn r i : Nat) : Int)))), (0, .ref (bd 0)), (1, .int (iI ((r : Int))))]) hx hb dX1_bySum_75 hl (by decide) rfl (fun ls hl => ?_)
                refine lv_iinc (v := iI ((j : Int) + 1)) (lv' := [(5, .int (iI ((j : Int) + 1))), (4, .int (iI (((cn (bs2 tT mm i) j : Nat) : Int) + 1))), (6, .int (iI ((smR tT j 0 mm) - (smR tT i 0 mm)))), (3, .int (iI ((i : Int)))), (2, .int (iI (((bsr tT mm nn r i : Nat) : Int)))), (0, .ref (bd 0)), (1, .int (iI ((r : Int))))]) hx hb dX1_bySum_77 hl (k := 2) rfl (iI_inc (by omega)) (by decide) rfl (fun ls hl => ?_)
                refine lv_goto (tgt := 18) hx hb dX1_bySum_80 (by decide) ?_
                exact ih18 (j + 1) ((j : Int) + 1) (((cn (bs2 tT mm i) j : Nat) : Int) + 1) (by omega) (by omega) (by first | (rw [cn_t e7]; try omega) | (rw [cn_f e7]; try omega)) (by omega) ls (lv_sub hl [0, 1, 3, 4, 5, 6] rfl)
              · refine lv_iload hx hb dX1_bySum_58 (lv_at hl 0 rfl) ?_
                refine w_if_ne (tgt := 73) hx hb dX1_bySum_60 (by decide) ⟨by omega, by omega⟩ (fun c60 => ?_) (fun c60 => ?_)
                · have e7 : bs2 tT mm i j = false := if_neg (by omega)
                  refine lv_iconst (v := iI 0) hx hb dX1_bySum_73 rfl ?_
                  refine w_iadd (z := ((cn (bs2 tT mm i) j : Nat) : Int)) hx hb dX1_bySum_74 (by omega) ?_
                  refine lv_istore (lv' := [(4, .int (iI (((cn (bs2 tT mm i) j : Nat) : Int)))), (6, .int (iI ((smR tT j 0 mm) - (smR tT i 0 mm)))), (5, .int (iI ((j : Int)))), (3, .int (iI ((i : Int)))), (2, .int (iI (((bsr tT mm nn r i : Nat) : Int)))), (0, .ref (bd 0)), (1, .int (iI ((r : Int))))]) hx hb dX1_bySum_75 hl (by decide) rfl (fun ls hl => ?_)
                  refine lv_iinc (v := iI ((j : Int) + 1)) (lv' := [(5, .int (iI ((j : Int) + 1))), (4, .int (iI (((cn (bs2 tT mm i) j : Nat) : Int)))), (6, .int (iI ((smR tT j 0 mm) - (smR tT i 0 mm)))), (3, .int (iI ((i : Int)))), (2, .int (iI (((bsr tT mm nn r i : Nat) : Int)))), (0, .ref (bd 0)), (1, .int (iI ((r : Int))))]) hx hb dX1_bySum_77 hl (k := 2) rfl (iI_inc (by omega)) (by decide) rfl (fun ls hl => ?_)
                  refine lv_goto (tgt := 18) hx hb dX1_bySum_80 (by decide) ?_
                  exact ih18 (j + 1) ((j : Int) + 1) (((cn (bs2 tT mm i) j : Nat) : Int)) (by omega) (by omega) (by first | (rw [cn_t e7]; try omega) | (rw [cn_f e7]; try omega)) (by omega) ls (lv_sub hl [0, 1, 3, 4, 5, 6] rfl)
                · refine lv_iload hx hb dX1_bySum_63 (lv_at hl 1 rfl) ?_
                  refine lv_iload_n hx hb dX1_bySum_65 rfl (lv_at hl 3 rfl) ?_
                  refine w_icmp_ge (tgt := 73) hx hb dX1_bySum_66 (by decide) ⟨by omega, by omega⟩ ⟨by omega, by omega⟩ (fun c66 => ?_) (fun c66 => ?_)
                  · have e7 : bs2 tT mm i j = false := if_neg (by omega)
                    refine lv_iconst (v := iI 0) hx hb dX1_bySum_73 rfl ?_
                    refine w_iadd (z := ((cn (bs2 tT mm i) j : Nat) : Int)) hx hb dX1_bySum_74 (by omega) ?_
                    refine lv_istore (lv' := [(4, .int (iI (((cn (bs2 tT mm i) j : Nat) : Int)))), (6, .int (iI ((smR tT j 0 mm) - (smR tT i 0 mm)))), (5, .int (iI ((j : Int)))), (3, .int (iI ((i : Int)))), (2, .int (iI (((bsr tT mm nn r i : Nat) : Int)))), (0, .ref (bd 0)), (1, .int (iI ((r : Int))))]) hx hb dX1_bySum_75 hl (by decide) rfl (fun ls hl => ?_)
                    refine lv_iinc (v := iI ((j : Int) + 1)) (lv' := [(5, .int (iI ((j : Int) + 1))), (4, .int (iI (((cn (bs2 tT mm i) j : Nat) : Int)))), (6, .int (iI ((smR tT j 0 mm) - (smR tT i 0 mm)))), (3, .int (iI ((i : Int)))), (2, .int (iI (((bsr tT mm nn r i : Nat) : Int)))), (0, .ref (bd 0)), (1, .int (iI ((r : Int))))]) hx hb dX1_bySum_77 hl (k := 2) rfl (iI_inc (by omega)) (by decide) rfl (fun ls hl => ?_)
                    refine lv_goto (tgt := 18) hx hb dX1_bySum_80 (by decide) ?_
                    exact ih18 (j + 1) ((j : Int) + 1) (((cn (bs2 tT mm i) j : Nat) : Int)) (by omega) (by omega) (by first | (rw [cn_t e7]; try omega) | (rw [cn_f e7]; try omega)) (by omega) ls (lv_sub hl [0, 1, 3, 4, 5, 6] rfl)
                  · have e7 : bs2 tT mm i j = true := if_pos (by omega)
                    refine lv_iconst (v := iI 1) hx hb dX1_bySum_69 rfl ?_
                    refine lv_goto (tgt := 74) hx hb dX1_bySum_70 (by decide) ?_
                    refine w_iadd (z := ((cn (bs2 tT mm i) j : Nat) : Int) + 1) hx hb dX1_bySum_74 (by omega) ?_
                    refine lv_istore (lv' := [(4, .int (iI (((cn (bs2 tT mm i) j : Nat) : Int) + 1))), (6, .int (iI ((smR tT j 0 mm) - (smR tT i 0 mm)))), (5, .int (iI ((j : Int)))), (3, .int (iI ((i : Int)))), (2, .int (iI (((bsr tT mm nn r i : Nat) : Int)))), (0, .ref (bd 0)), (1, .int (iI ((r : Int))))]) hx hb dX1_bySum_75 hl (by decide) rfl (fun ls hl => ?_)
                    refine lv_iinc (v := iI ((j : Int) + 1)) (lv' := [(5, .int (iI ((j : Int) + 1))), (4, .int (iI (((cn (bs2 tT mm i) j : Nat) : Int) + 1))), (6, .int (iI ((smR tT j 0 mm) - (smR tT i 0 mm)))), (3, .int (iI ((i : Int)))), (2, .int (iI (((bsr tT mm nn r i : Nat) : Int)))), (0, .ref (bd 0)), (1, .int (iI ((r : Int))))]) hx hb dX1_bySum_77 hl (k := 2) rfl (iI_inc (by omega)) (by decide) rfl (fun ls hl => ?_)
                    refine lv_goto (tgt := 18) hx hb dX1_bySum_80 (by decide) ?_
                    exact ih18 (j + 1) ((j : Int) + 1) (((cn (bs2 tT mm i) j : Nat) : Int) + 1) (by omega) (by omega) (by first | (rw [cn_t e7]; try omega) | (rw [cn_f e7]; try omega)) (by omega) ls (lv_sub hl [0, 1, 3, 4, 5, 6] rfl)
        exact L18 (nn - 0 + 1) 0 (0) (0) (by omega) (by omega) (rfl) (Nat.lt_succ_self _) ls (lv_sub hl [0, 1, 2, 3, 4, 5] rfl)
  exact L4 (nn - 0 + 1) 0 (0) (0) (by omega) (by omega) (rfl) (Nat.lt_succ_self _) ls (lv_sub hl [0, 1, 2, 3] rfl)
set_option maxHeartbeats 4000000 in
set_option maxRecDepth 100000 in
theorem mX1_laysTails (hT : ∀ k, 0 ≤ tT k ∧ tT k ≤ 99) (hn : nn ≤ 7) (hm : 1 ≤ mm ∧ mm ≤ 5) (hO : ∀ k, k < nn → oO k < 7) : IM l yX1_laysTails wsX1_laysTails (rmx 1 22) D (tyk cI cZ cJ) (mw bd cI th nn mm bm tT oO tB tL oR oJ) [.ref (bd 0)] (QV D (tyk cI cZ cJ) (fun u : (Nat → Int) => mw bd cI th nn mm bm tT oO tB u oR oJ) (fun u => trow tT oO nn mm u nn)) := by
  refine imV_of (cc := cX1_laysTails) (maxL := 5) (by decide) rfl (Nat.le_of_ble_eq_true rfl) ?_
  intro p e s m args below meth c A Q hx hb hml hown hts hA hK hP hD hS hret ls hl
  have hown : s.vm.findClass RX1 = some m.cls := hown
  have hl : lv_has ls 5 [(0, .ref (bd 0))] := hl
  have inW : ∀ w ∈ wsX10, w ∈ wsX1_laysTails := by first | exact (fun w h => List.mem_cons_of_mem _ (List.mem_append_right _ h)) | exact (fun w h => List.mem_cons_of_mem _ (List.mem_append_left _ (List.mem_append_right _ h))) | exact (fun w h => List.mem_cons_of_mem _ (List.mem_append_left _ (List.mem_append_left _ (List.mem_append_right _ h)))) | decide +kernel
  refine lv_aload_n hx hb dX1_laysTails_0 rfl (lv_at hl 0 rfl) ?_
  refine va_get (D := D) (ci := 1) (C := RX1) (T := TX1) (N := 10) hx hb hts inW hown hK hP 0 rfl rfl 1 (by decide) (hts (.fieldLink RX1 35 "FlowforgeModel" "many" "I") (List.mem_of_getElem? (i := 1) rfl)) (fun _ h9 => h9) rfl dX1_laysTails_1 ?_
  refine lv_iconst (v := iI 1) hx hb dX1_laysTails_4 rfl ?_
  refine w_isub (z := (nn : Int) - 1) hx hb dX1_laysTails_5 (by omega) ?_
  refine lv_istore_n (lv' := [(1, .int (iI ((nn : Int) - 1))), (0, .ref (bd 0))]) hx hb dX1_laysTails_6 rfl hl (by decide) rfl (fun ls hl => ?_)
  have L7 : ∀ (fu : Nat) (q : Nat) (wtails7 : Nat → Int) (x1_7 : Int), (q ≤ nn) → (trow tT oO nn mm wtails7 q) → (x1_7 = (nn : Int) - (q : Int) - 1) → nn - q < fu → ∀ (H : Heap) (locs : List Loc), va_P D vwCl (mw bd cI th nn mm bm tT oO tB wtails7 oR oJ) H → va_D A (mw bd cI th nn mm bm tT oO tB wtails7 oR oJ) → va_S A s.heap H locs → ∀ ls : Array Slot, lv_has ls 5 [(1, .int (iI (x1_7))), (0, .ref (bd 0))] → W p l e (rmx 1 22) s m args below meth c H locs 0 0 Q (F0 m 7 ls []) := by
    intro fu
    induction fu with
    | zero =>
      intro q wtails7 x1_7 hq hI hq0 hfu
      exact absurd hfu (Nat.not_lt_zero _)
    | succ fu ih =>
      intro q wtails7 x1_7 hq hI hq0 hfu H locs hP hD hS ls hl
      subst hq0
      have ih7 := ih
      refine lv_iload_n hx hb dX1_laysTails_7 rfl (lv_at hl 0 rfl) ?_
      refine w_if_lt (tgt := 123) hx hb dX1_laysTails_8 (by decide) ⟨by omega, by omega⟩ (fun c8 => ?_) (fun c8 => ?_)
      · obtain rfl : nn = q := by omega
        exact hret _ _ 123 ls (wtails7) hP hD hS (hI) dX1_laysTails_123
      · refine lv_aload_n hx hb dX1_laysTails_11 rfl (lv_at hl 1 rfl) ?_
        refine va_get (D := D) (ci := 1) (C := RX1) (T := TX1) (N := 10) hx hb hts inW hown hK hP 0 rfl rfl 2 (by decide) (hts (.fieldLink RX1 7 "FlowforgeModel" "wide" "I") (List.mem_of_getElem? (i := 2) rfl)) (fun _ h9 => h9) rfl dX1_laysTails_12 ?_
        refine lv_iconst (v := iI 1) hx hb dX1_laysTails_15 rfl ?_
        refine w_isub (z := (mm : Int) - 1) hx hb dX1_laysTails_16 (by omega) ?_
        refine lv_istore_n (lv' := [(2, .int (iI ((mm : Int) - 1))), (1, .int (iI ((nn : Int) - (q : Int) - 1))), (0, .ref (bd 0))]) hx hb dX1_laysTails_17 rfl hl (by decide) rfl (fun ls hl => ?_)
        have L18 : ∀ (fu : Nat) (c0 : Nat) (wtails18 : Nat → Int) (x2_18 : Int), (c0 ≤ mm) → (trow tT oO nn mm wtails18 q) → (tcol tT oO nn mm wtails18 q c0) → (x2_18 = (mm : Int) - (c0 : Int) - 1) → mm - c0 < fu → ∀ (H : Heap) (locs : List Loc), va_P D vwCl (mw bd cI th nn mm bm tT oO tB wtails18 oR oJ) H → va_D A (mw bd cI th nn mm bm tT oO tB wtails18 oR oJ) → va_S A s.heap H locs → ∀ ls : Array Slot, lv_has ls 5 [(2, .int (iI (x2_18))), (1, .int (iI ((nn : Int) - (q : Int) - 1))), (0, .ref (bd 0))] → W p l e (rmx 1 22) s m args below meth c H locs 0 0 Q (F0 m 18 ls []) := by
          intro fu
          induction fu with
          | zero =>
            intro c0 wtails18 x2_18 hc hI2 hJ hq0 hfu
            exact absurd hfu (Nat.not_lt_zero _)
          | succ fu ih =>
            intro c0 wtails18 x2_18 hc hI2 hJ hq0 hfu H locs hP hD hS ls hl
            subst hq0
            have ih18 := ih
            have h9 := tlq_rg (n := tlr tT oO nn mm q) (t := tj tT (oO (nn - 1 - q))) (mm := mm) (K := 495 * q) (fun k => hT _) (by omega) (fun k => tlr_rg hm.2 hT q k) c0
            have h8 := tlr_rg (o := oO) (nn := nn) hm.2 hT q (mm - 1 - c0)
            have h5 := hT (5 * oO (nn - 1 - q) + (mm - 1 - c0))
            refine lv_iload_n hx hb dX1_laysTails_18 rfl (lv_at hl 0 rfl) ?_
            refine w_if_lt (tgt := 117) hx hb dX1_laysTails_19 (by decide) ⟨by omega, by omega⟩ (fun c19 => ?_) (fun c19 => ?_)
            · have hcm : c0 = mm := by omega
              refine lv_iinc (v := iI ((nn : Int) - (q : Int) - 2)) (lv' := [(1, .int (iI ((nn : Int) - (q : Int) - 2))), (2, .int (iI ((mm : Int) - (c0 : Int) - 1))), (0, .ref (bd 0))]) hx hb dX1_laysTails_117 hl (k := 1) rfl (iI_inc (by omega)) (by decide) rfl (fun ls hl => ?_)
              refine lv_goto (tgt := 7) hx hb dX1_laysTails_120 (by decide) ?_
              exact ih7 (q + 1) wtails18 ((nn : Int) - (q : Int) - 2) (by omega) (trow_s (by omega) hI2 (hcm ▸ hJ)) (by omega) (by omega) _ _ hP hD hS ls (lv_sub hl [0, 2] rfl)
            · have J48 : ∀ (H : Heap) (locs : List Loc), va_P D vwCl (mw bd cI th nn mm bm tT oO tB wtails18 oR oJ) H → va_D A (mw bd cI th nn mm bm tT oO tB wtails18 oR oJ) → va_S A s.heap H locs → ∀ ls : Array Slot, lv_has ls 5 [(2, .int (iI ((mm : Int) - (c0 : Int) - 1))), (1, .int (iI ((nn : Int) - (q : Int) - 1))), (0, .ref (bd 0))] → W p l e (rmx 1 22) s m args below meth c H locs 0 0 Q (F0 m 48 ls [.int (iI ((tlq (tlr tT oO nn mm q) (tj tT (oO (nn - 1 - q))) mm c0)))]) := by
                intro H locs hP hD hS ls hl
                refine lv_istore_n (lv' := [(3, .int (iI ((tlq (tlr tT oO nn mm q) (tj tT (oO (nn - 1 - q))) mm c0)))), (2, .int (iI ((mm : Int) - (c0 : Int) - 1))), (1, .int (iI ((nn : Int) - (q : Int) - 1))), (0, .ref (bd 0))]) hx hb dX1_laysTails_48 rfl hl (by decide) rfl (fun ls hl => ?_)
                have J75 : ∀ (H : Heap) (locs : List Loc), va_P D vwCl (mw bd cI th nn mm bm tT oO tB wtails18 oR oJ) H → va_D A (mw bd cI th nn mm bm tT oO tB wtails18 oR oJ) → va_S A s.heap H locs → ∀ ls : Array Slot, lv_has ls 5 [(3, .int (iI ((tlq (tlr tT oO nn mm q) (tj tT (oO (nn - 1 - q))) mm c0)))), (2, .int (iI ((mm : Int) - (c0 : Int) - 1))), (1, .int (iI ((nn : Int) - (q : Int) - 1))), (0, .ref (bd 0))] → W p l e (rmx 1 22) s m args below meth c H locs 0 0 Q (F0 m 75 ls [.int (iI ((tlr tT oO nn mm q (mm - 1 - c0))))]) := by
                  intro H locs hP hD hS ls hl
                  refine lv_istore (lv' := [(4, .int (iI ((tlr tT oO nn mm q (mm - 1 - c0))))), (3, .int (iI ((tlq (tlr tT oO nn mm q) (tj tT (oO (nn - 1 - q))) mm c0)))), (2, .int (iI ((mm : Int) - (c0 : Int) - 1))), (1, .int (iI ((nn : Int) - (q : Int) - 1))), (0, .ref (bd 0))]) hx hb dX1_laysTails_75 hl (by decide) rfl (fun ls hl => ?_)
                  refine lv_aload_n hx hb dX1_laysTails_77 rfl (lv_at hl 4 rfl) ?_
                  refine va_get (D := D) (ci := 1) (C := RX1) (T := TX1) (N := 10) hx hb hts inW hown hK hP 0 rfl rfl 6 (by decide) (hts (.fieldLink RX1 23 "FlowforgeModel" "tails" "[I") (List.mem_of_getElem? (i := 3) rfl)) (fun _ h9 => h9) rfl dX1_laysTails_78 ?_
                  refine lv_iconst (v := iI 5) hx hb dX1_laysTails_81 rfl ?_
                  refine lv_iload_n hx hb dX1_laysTails_82 rfl (lv_at hl 3 rfl) ?_
                  refine w_imul (z := 5 * (nn : Int) - 5 * (q : Int) - 5) hx hb dX1_laysTails_83 (by omega) ?_
                  refine lv_iload_n hx hb dX1_laysTails_84 rfl (lv_at hl 2 rfl) ?_
                  refine w_iadd (z := 5 * (nn : Int) - 5 * (q : Int) + (mm : Int) - (c0 : Int) - 6) hx hb dX1_laysTails_85 (by omega) ?_
                  refine lv_aload_n hx hb dX1_laysTails_86 rfl (lv_at hl 4 rfl) ?_
                  refine lv_aload_n hx hb dX1_laysTails_87 rfl (lv_at hl 4 rfl) ?_
                  refine va_get (D := D) (ci := 1) (C := RX1) (T := TX1) (N := 10) hx hb hts inW hown hK hP 0 rfl rfl 4 (by decide) (hts (.fieldLink RX1 17 "FlowforgeModel" "order" "[I") (List.mem_of_getElem? (i := 4) rfl)) (fun _ h9 => h9) rfl dX1_laysTails_88 ?_
                  refine lv_iload_n hx hb dX1_laysTails_91 rfl (lv_at hl 3 rfl) ?_
                  refine w_iald (v := iI ((oO (nn - 1 - q) : Nat) : Int)) hx hb hK hP 2 0 rfl rfl (nn - 1 - q) (by omega) (by omega) (by decide) rfl dX1_laysTails_92 ?_
                  refine lv_iload_n hx hb dX1_laysTails_93 rfl (lv_at hl 2 rfl) ?_
                  refine w_pV (As := [.int (iI (((((oO (nn - 1 - q))) : Nat) : Int))), .int (iI ((((mm - 1 - c0) : Nat) : Int)))]) (rest := [.int (iI (5 * (nn : Int) - 5 * (q : Int) + (mm : Int) - (c0 : Int) - 6)), .ref (bd 4)]) ⟨hx, hb, hml, hown, hts⟩ hK hP (mX1_timeOf  (j := oO (nn - 1 - q)) (k := mm - 1 - c0) (hO _ (by omega)) (by omega)) (cwV 2 hts gX1_laysTails_X1_timeOf rfl rfl rfl (by decide +kernel) ⟨Nat.le_of_ble_eq_true rfl, Nat.le_of_ble_eq_true rfl⟩) (ci := 1) rfl rfl rfl rfl hl.1 (by rw [show ((((oO (nn - 1 - q) : Nat) : Int)) : Int) = ((((oO (nn - 1 - q))) : Nat) : Int) by omega]; rw [show (((mm : Int) - (c0 : Int) - 1) : Int) = (((mm - 1 - c0) : Nat) : Int) by omega]; try rfl) (Nat.le_of_ble_eq_true rfl) dX1_laysTails_94 ⟨Nat.zero_le _, Nat.zero_le _⟩ (fun r94 hr94 => ?_)
                  refine w_top (v := iI ((tT (5 * ((oO (nn - 1 - q))) + (mm - 1 - c0))))) (hr94) ?_
                  have J109 : ∀ (H : Heap) (locs : List Loc), va_P D vwCl (mw bd cI th nn mm bm tT oO tB wtails18 oR oJ) H → va_D A (mw bd cI th nn mm bm tT oO tB wtails18 oR oJ) → va_S A s.heap H locs → ∀ ls : Array Slot, lv_has ls 5 [(4, .int (iI ((tlr tT oO nn mm q (mm - 1 - c0))))), (3, .int (iI ((tlq (tlr tT oO nn mm q) (tj tT (oO (nn - 1 - q))) mm c0)))), (2, .int (iI ((mm : Int) - (c0 : Int) - 1))), (1, .int (iI ((nn : Int) - (q : Int) - 1))), (0, .ref (bd 0))] → W p l e (rmx 1 22) s m args below meth c H locs 0 0 Q (F0 m 109 ls [.int (iI ((max (tlq (tlr tT oO nn mm q) (tj tT (oO (nn - 1 - q))) mm c0) (tlr tT oO nn mm q (mm - 1 - c0))))), .int (iI ((tT (5 * ((oO (nn - 1 - q))) + (mm - 1 - c0))))), .int (iI (5 * (nn : Int) - 5 * (q : Int) + (mm : Int) - (c0 : Int) - 6)), .ref (bd 4)]) := by
                    intro H locs hP hD hS ls hl
                    refine w_iadd (z := (tlq (tlr tT oO nn mm q) (tj tT (oO (nn - 1 - q))) mm (c0 + 1))) hx hb dX1_laysTails_109 (rfl) ?_
                    refine w_iast (g := tI (va_up wtails18 (5 * (nn - 1 - q) + (mm - 1 - c0)) ((tlq (tlr tT oO nn mm q) (tj tT (oO (nn - 1 - q))) mm (c0 + 1))))) (ws' := mw bd cI th nn mm bm tT oO tB (va_up wtails18 (5 * (nn - 1 - q) + (mm - 1 - c0)) ((tlq (tlr tT oO nn mm q) (tj tT (oO (nn - 1 - q))) mm (c0 + 1)))) oR oJ) hx hb hK hP hD hS 4 0 rfl rfl (5 * (nn - 1 - q) + (mm - 1 - c0)) (by omega) (by omega) (by decide) (hg := tI_up) (hw := rfl) (hd := dX1_laysTails_110) (kk := fun H locs hP hD hS => ?_)
                    refine lv_iinc (v := iI ((mm : Int) - (c0 : Int) - 2)) (lv' := [(2, .int (iI ((mm : Int) - (c0 : Int) - 2))), (4, .int (iI ((tlr tT oO nn mm q (mm - 1 - c0))))), (3, .int (iI ((tlq (tlr tT oO nn mm q) (tj tT (oO (nn - 1 - q))) mm c0)))), (1, .int (iI ((nn : Int) - (q : Int) - 1))), (0, .ref (bd 0))]) hx hb dX1_laysTails_111 hl (k := 2) rfl (iI_inc (by omega)) (by decide) rfl (fun ls hl => ?_)
                    refine lv_goto (tgt := 18) hx hb dX1_laysTails_114 (by decide) ?_
                    exact ih18 (c0 + 1) (va_up wtails18 (5 * (nn - 1 - q) + (mm - 1 - c0)) ((tlq (tlr tT oO nn mm q) (tj tT (oO (nn - 1 - q))) mm (c0 + 1)))) ((mm : Int) - (c0 : Int) - 2) (by omega) (trow_up hm.2 (by omega) (by omega) hI2) (tcol_s hm.2 (by omega) (by omega) hJ) (by omega) (by omega) _ _ hP hD hS ls (lv_sub hl [0, 3, 4] rfl)
                  refine lv_iload_n hx hb dX1_laysTails_97 rfl (lv_at hl 1 rfl) ?_
                  refine lv_iload hx hb dX1_laysTails_98 (lv_at hl 0 rfl) ?_
                  refine w_icmp_le (tgt := 107) hx hb dX1_laysTails_100 (by decide) ⟨by omega, by omega⟩ ⟨by omega, by omega⟩ (fun c100 => ?_) (fun c100 => ?_)
                  · refine lv_iload hx hb dX1_laysTails_107 (lv_at hl 0 rfl) ?_
                    refine w_top (v := iI ((max (tlq (tlr tT oO nn mm q) (tj tT (oO (nn - 1 - q))) mm c0) (tlr tT oO nn mm q (mm - 1 - c0))))) (congrArg iI (by omega)) ?_
                    exact J109  _ _ hP hD hS ls (lv_sub hl [0, 1, 2, 3, 4] rfl)
                  · refine lv_iload_n hx hb dX1_laysTails_103 rfl (lv_at hl 1 rfl) ?_
                    refine lv_goto (tgt := 109) hx hb dX1_laysTails_104 (by decide) ?_
                    refine w_top (v := iI ((max (tlq (tlr tT oO nn mm q) (tj tT (oO (nn - 1 - q))) mm c0) (tlr tT oO nn mm q (mm - 1 - c0))))) (congrArg iI (by omega)) ?_
                    exact J109  _ _ hP hD hS ls (lv_sub hl [0, 1, 2, 3, 4] rfl)
                refine lv_iload_n hx hb dX1_laysTails_49 rfl (lv_at hl 2 rfl) ?_
                refine lv_iconst (v := iI 1) hx hb dX1_laysTails_50 rfl ?_
                refine w_iadd (z := (nn : Int) - (q : Int)) hx hb dX1_laysTails_51 (by omega) ?_
                refine lv_aload_n hx hb dX1_laysTails_52 rfl (lv_at hl 3 rfl) ?_
                refine va_get (D := D) (ci := 1) (C := RX1) (T := TX1) (N := 10) hx hb hts inW hown hK hP 0 rfl rfl 1 (by decide) (hts (.fieldLink RX1 35 "FlowforgeModel" "many" "I") (List.mem_of_getElem? (i := 1) rfl)) (fun _ h9 => h9) rfl dX1_laysTails_53 ?_
                refine w_icmp_ge (tgt := 74) hx hb dX1_laysTails_56 (by decide) ⟨by omega, by omega⟩ ⟨by omega, by omega⟩ (fun c56 => ?_) (fun c56 => ?_)
                · refine lv_iconst (v := iI 0) hx hb dX1_laysTails_74 rfl ?_
                  refine w_top (v := iI ((tlr tT oO nn mm q (mm - 1 - c0)))) (congrArg iI (by rw [show q = 0 by omega]; rfl)) ?_
                  exact J75  _ _ hP hD hS ls (lv_sub hl [0, 1, 2, 3] rfl)
                · refine lv_aload_n hx hb dX1_laysTails_59 rfl (lv_at hl 3 rfl) ?_
                  refine va_get (D := D) (ci := 1) (C := RX1) (T := TX1) (N := 10) hx hb hts inW hown hK hP 0 rfl rfl 6 (by decide) (hts (.fieldLink RX1 23 "FlowforgeModel" "tails" "[I") (List.mem_of_getElem? (i := 3) rfl)) (fun _ h9 => h9) rfl dX1_laysTails_60 ?_
                  refine lv_iconst (v := iI 5) hx hb dX1_laysTails_63 rfl ?_
                  refine lv_iload_n hx hb dX1_laysTails_64 rfl (lv_at hl 2 rfl) ?_
                  refine lv_iconst (v := iI 1) hx hb dX1_laysTails_65 rfl ?_
                  refine w_iadd (z := (nn : Int) - (q : Int)) hx hb dX1_laysTails_66 (by omega) ?_
                  refine w_imul (z := 5 * (nn : Int) - 5 * (q : Int)) hx hb dX1_laysTails_67 (by omega) ?_
                  refine lv_iload_n hx hb dX1_laysTails_68 rfl (lv_at hl 1 rfl) ?_
                  refine w_iadd (z := 5 * (nn : Int) - 5 * (q : Int) + (mm : Int) - (c0 : Int) - 1) hx hb dX1_laysTails_69 (by omega) ?_
                  refine w_iald (v := iI (tlr tT oO nn mm q (mm - 1 - c0))) hx hb hK hP 4 0 rfl rfl (5 * (nn - 1 - q + 1) + (mm - 1 - c0)) (by omega) (by omega) (by decide) (congrArg iI ((hI2 (nn - 1 - q + 1) (by omega) (by omega) (mm - 1 - c0) (by omega)).trans (by rw [show nn - (nn - 1 - q + 1) = q by omega]))) dX1_laysTails_70 ?_
                  refine lv_goto (tgt := 75) hx hb dX1_laysTails_71 (by decide) ?_
                  exact J75  _ _ hP hD hS ls (lv_sub hl [0, 1, 2, 3] rfl)
              refine lv_iload_n hx hb dX1_laysTails_22 rfl (lv_at hl 0 rfl) ?_
              refine lv_iconst (v := iI 1) hx hb dX1_laysTails_23 rfl ?_
              refine w_iadd (z := (mm : Int) - (c0 : Int)) hx hb dX1_laysTails_24 (by omega) ?_
              refine lv_aload_n hx hb dX1_laysTails_25 rfl (lv_at hl 2 rfl) ?_
              refine va_get (D := D) (ci := 1) (C := RX1) (T := TX1) (N := 10) hx hb hts inW hown hK hP 0 rfl rfl 2 (by decide) (hts (.fieldLink RX1 7 "FlowforgeModel" "wide" "I") (List.mem_of_getElem? (i := 2) rfl)) (fun _ h9 => h9) rfl dX1_laysTails_26 ?_
              refine w_icmp_ge (tgt := 47) hx hb dX1_laysTails_29 (by decide) ⟨by omega, by omega⟩ ⟨by omega, by omega⟩ (fun c29 => ?_) (fun c29 => ?_)
              · refine lv_iconst (v := iI 0) hx hb dX1_laysTails_47 rfl ?_
                refine w_top (v := iI ((tlq (tlr tT oO nn mm q) (tj tT (oO (nn - 1 - q))) mm c0))) (congrArg iI (by rw [show c0 = 0 by omega]; rfl)) ?_
                exact J48  _ _ hP hD hS ls (lv_sub hl [0, 1, 2] rfl)
              · refine lv_aload_n hx hb dX1_laysTails_32 rfl (lv_at hl 2 rfl) ?_
                refine va_get (D := D) (ci := 1) (C := RX1) (T := TX1) (N := 10) hx hb hts inW hown hK hP 0 rfl rfl 6 (by decide) (hts (.fieldLink RX1 23 "FlowforgeModel" "tails" "[I") (List.mem_of_getElem? (i := 3) rfl)) (fun _ h9 => h9) rfl dX1_laysTails_33 ?_
                refine lv_iconst (v := iI 5) hx hb dX1_laysTails_36 rfl ?_
                refine lv_iload_n hx hb dX1_laysTails_37 rfl (lv_at hl 1 rfl) ?_
                refine w_imul (z := 5 * (nn : Int) - 5 * (q : Int) - 5) hx hb dX1_laysTails_38 (by omega) ?_
                refine lv_iload_n hx hb dX1_laysTails_39 rfl (lv_at hl 0 rfl) ?_
                refine w_iadd (z := 5 * (nn : Int) - 5 * (q : Int) + (mm : Int) - (c0 : Int) - 6) hx hb dX1_laysTails_40 (by omega) ?_
                refine lv_iconst (v := iI 1) hx hb dX1_laysTails_41 rfl ?_
                refine w_iadd (z := 5 * (nn : Int) - 5 * (q : Int) + (mm : Int) - (c0 : Int) - 5) hx hb dX1_laysTails_42 (by omega) ?_
                refine w_iald (v := iI (tlq (tlr tT oO nn mm q) (tj tT (oO (nn - 1 - q))) mm c0)) hx hb hK hP 4 0 rfl rfl (5 * (nn - 1 - q) + (mm - c0)) (by omega) (by omega) (by decide) (congrArg iI ((hJ (mm - c0) (by omega) (by omega)).trans (by show tlq _ _ _ (mm - (mm - c0)) = _; rw [show mm - (mm - c0) = c0 by omega]))) dX1_laysTails_43 ?_
                refine lv_goto (tgt := 48) hx hb dX1_laysTails_44 (by decide) ?_
                exact J48  _ _ hP hD hS ls (lv_sub hl [0, 1, 2] rfl)
        exact L18 (mm - 0 + 1) 0 wtails7 ((mm : Int) - 1) (by omega) (hI) (tcol_0) (by omega) (Nat.lt_succ_self _) _ _ hP hD hS ls (lv_sub hl [0, 1, 2] rfl)
  exact L7 (nn - 0 + 1) 0 tL ((nn : Int) - 1) (by omega) (trow_0) (by omega) (Nat.lt_succ_self _) _ _ hP hD hS ls (lv_sub hl [0, 1] rfl)
set_option maxHeartbeats 4000000 in
set_option maxRecDepth 100000 in
theorem mX1_leastSum {fr to : Nat} (hT : ∀ k, 0 ≤ tT k ∧ tT k ≤ 99) (hn : nn ≤ 7) (hft : fr ≤ to) (hto : to ≤ 5) : PM l yX1_leastSum wsX1_leastSum (rmx 2 47) D (tyk cI cZ cJ) (mw bd cI th nn mm bm tT oO tB tL oR oJ) [.ref (bd 0), .int (iI ((fr : Int))), .int (iI ((to : Int)))] (vp_Si (fun x => x = iI (lsM tT fr to nn))) := by
  refine pmI_of (cc := cX1_leastSum) (maxL := 5) (by decide) rfl (Nat.le_of_ble_eq_true rfl) ?_
  intro p e s m args below meth c Q hx hb hml hown hts hK hP hret ls hl
  have hown : s.vm.findClass RX1 = some m.cls := hown
  have hl : lv_has ls 5 [(0, .ref (bd 0)), (1, .int (iI ((fr : Int)))), (2, .int (iI ((to : Int))))] := hl
  have inW : ∀ w ∈ wsX10, w ∈ wsX1_leastSum := by first | exact (fun w h => List.mem_cons_of_mem _ (List.mem_append_right _ h)) | exact (fun w h => List.mem_cons_of_mem _ (List.mem_append_left _ (List.mem_append_right _ h))) | exact (fun w h => List.mem_cons_of_mem _ (List.mem_append_left _ (List.mem_append_left _ (List.mem_append_right _ h)))) | decide +kernel
  refine lv_ldc (v := 1000000) hx hb hown (hts (.constant RX1 100 (1000000)) (List.mem_of_getElem? (i := 1) rfl)) dX1_leastSum_0 ?_
  refine w_top (v := iI 1000000) (by decide +kernel) ?_
  refine lv_istore_n (lv' := [(3, .int (iI 1000000)), (0, .ref (bd 0)), (1, .int (iI ((fr : Int)))), (2, .int (iI ((to : Int))))]) hx hb dX1_leastSum_2 rfl hl (by decide) rfl (fun ls hl => ?_)
  refine lv_iconst (v := iI 0) hx hb dX1_leastSum_3 rfl ?_
  refine lv_istore (lv' := [(4, .int (iI 0)), (3, .int (iI 1000000)), (0, .ref (bd 0)), (1, .int (iI ((fr : Int)))), (2, .int (iI ((to : Int))))]) hx hb dX1_leastSum_4 hl (by decide) rfl (fun ls hl => ?_)
  have L6 : ∀ (fu : Nat) (i : Nat) (x4_6 : Int) (x3_6 : Int), (i ≤ nn) → (x4_6 = (i : Int)) → (x3_6 = (lsM tT fr to i)) → nn - i < fu → ∀ ls : Array Slot, lv_has ls 5 [(4, .int (iI (x4_6))), (3, .int (iI (x3_6))), (0, .ref (bd 0)), (1, .int (iI ((fr : Int)))), (2, .int (iI ((to : Int))))] → W p l e (rmx 2 47) s m args below meth c s.heap [] 0 0 Q (F0 m 6 ls []) := by
    intro fu
    induction fu with
    | zero =>
      intro i x4_6 x3_6 hi hq0 hq1 hfu
      exact absurd hfu (Nat.not_lt_zero _)
    | succ fu ih =>
      intro i x4_6 x3_6 hi hq0 hq1 hfu ls hl
      subst hq0
      subst hq1
      have ih6 := ih
      have h9 := lsM_rg hT (fr := fr) (to := to) i
      have h8 := smR_rg hT i fr to
      refine lv_iload hx hb dX1_leastSum_6 (lv_at hl 0 rfl) ?_
      refine lv_aload_n hx hb dX1_leastSum_8 rfl (lv_at hl 2 rfl) ?_
      refine va_get (D := D) (ci := 1) (C := RX1) (T := TX1) (N := 10) hx hb hts inW hown hK hP 0 rfl rfl 1 (by decide) (hts (.fieldLink RX1 35 "FlowforgeModel" "many" "I") (List.mem_of_getElem? (i := 2) rfl)) (fun _ h9 => h9) rfl dX1_leastSum_9 ?_
      refine w_icmp_ge (tgt := 46) hx hb dX1_leastSum_12 (by decide) ⟨by omega, by omega⟩ ⟨by omega, by omega⟩ (fun c12 => ?_) (fun c12 => ?_)
      · obtain rfl : nn = i := by omega
        refine lv_iload_n hx hb dX1_leastSum_46 rfl (lv_at hl 1 rfl) ?_
        exact hret 47 ls _ (rfl) dX1_leastSum_47
      · refine lv_aload_n hx hb dX1_leastSum_15 rfl (lv_at hl 2 rfl) ?_
        refine lv_iload hx hb dX1_leastSum_16 (lv_at hl 0 rfl) ?_
        refine lv_iload_n hx hb dX1_leastSum_18 rfl (lv_at hl 3 rfl) ?_
        refine lv_iload_n hx hb dX1_leastSum_19 rfl (lv_at hl 4 rfl) ?_
        refine w_pV (As := [.int (iI ((i : Int))), .int (iI ((fr : Int))), .int (iI ((to : Int)))]) (rest := []) ⟨hx, hb, hml, hown, hts⟩ hK hP (mX1_sumOf  hT (by omega) hft hto) (cwV 3 hts gX1_leastSum_X1_sumOf rfl rfl rfl (by decide +kernel) ⟨Nat.le_of_ble_eq_true rfl, Nat.le_of_ble_eq_true rfl⟩) (ci := 1) rfl rfl rfl rfl hl.1 rfl (Nat.le_of_ble_eq_true rfl) dX1_leastSum_20 ⟨Nat.zero_le _, Nat.zero_le _⟩ (fun r20 hr20 => ?_)
        refine w_top (v := iI ((smR tT i fr to))) (hr20) ?_
        refine lv_iload_n hx hb dX1_leastSum_23 rfl (lv_at hl 1 rfl) ?_
        refine w_icmp_ge (tgt := 38) hx hb dX1_leastSum_24 (by decide) ⟨by omega, by omega⟩ ⟨by omega, by omega⟩ (fun c24 => ?_) (fun c24 => ?_)
        · refine lv_iload_n hx hb dX1_leastSum_38 rfl (lv_at hl 1 rfl) ?_
          refine lv_istore_n (lv' := [(3, .int (iI ((lsM tT fr to i)))), (4, .int (iI ((i : Int)))), (0, .ref (bd 0)), (1, .int (iI ((fr : Int)))), (2, .int (iI ((to : Int))))]) hx hb dX1_leastSum_39 rfl hl (by decide) rfl (fun ls hl => ?_)
          refine lv_iinc (v := iI ((i : Int) + 1)) (lv' := [(4, .int (iI ((i : Int) + 1))), (3, .int (iI ((lsM tT fr to i)))), (0, .ref (bd 0)), (1, .int (iI ((fr : Int)))), (2, .int (iI ((to : Int))))]) hx hb dX1_leastSum_40 hl (k := 1) rfl (iI_inc (by omega)) (by decide) rfl (fun ls hl => ?_)
          refine lv_goto (tgt := 6) hx hb dX1_leastSum_43 (by decide) ?_
          exact ih6 (i + 1) ((i : Int) + 1) ((lsM tT fr to i)) (by omega) (by omega) (by show _ = min _ _; omega) (by omega) ls (lv_sub hl [0, 1, 2, 3, 4] rfl)
        · refine lv_aload_n hx hb dX1_leastSum_27 rfl (lv_at hl 2 rfl) ?_
          refine lv_iload hx hb dX1_leastSum_28 (lv_at hl 0 rfl) ?_
          refine lv_iload_n hx hb dX1_leastSum_30 rfl (lv_at hl 3 rfl) ?_
          refine lv_iload_n hx hb dX1_leastSum_31 rfl (lv_at hl 4 rfl) ?_
          refine w_pV (As := [.int (iI ((i : Int))), .int (iI ((fr : Int))), .int (iI ((to : Int)))]) (rest := []) ⟨hx, hb, hml, hown, hts⟩ hK hP (mX1_sumOf  hT (by omega) hft hto) (cwV 3 hts gX1_leastSum_X1_sumOf rfl rfl rfl (by decide +kernel) ⟨Nat.le_of_ble_eq_true rfl, Nat.le_of_ble_eq_true rfl⟩) (ci := 1) rfl rfl rfl rfl hl.1 rfl (Nat.le_of_ble_eq_true rfl) dX1_leastSum_32 ⟨Nat.zero_le _, Nat.zero_le _⟩ (fun r32 hr32 => ?_)
          refine w_top (v := iI ((smR tT i fr to))) (hr32) ?_
          refine lv_goto (tgt := 39) hx hb dX1_leastSum_35 (by decide) ?_
          refine lv_istore_n (lv' := [(3, .int (iI ((smR tT i fr to)))), (4, .int (iI ((i : Int)))), (0, .ref (bd 0)), (1, .int (iI ((fr : Int)))), (2, .int (iI ((to : Int))))]) hx hb dX1_leastSum_39 rfl hl (by decide) rfl (fun ls hl => ?_)
          refine lv_iinc (v := iI ((i : Int) + 1)) (lv' := [(4, .int (iI ((i : Int) + 1))), (3, .int (iI ((smR tT i fr to)))), (0, .ref (bd 0)), (1, .int (iI ((fr : Int)))), (2, .int (iI ((to : Int))))]) hx hb dX1_leastSum_40 hl (k := 1) rfl (iI_inc (by omega)) (by decide) rfl (fun ls hl => ?_)
          refine lv_goto (tgt := 6) hx hb dX1_leastSum_43 (by decide) ?_
          exact ih6 (i + 1) ((i : Int) + 1) ((smR tT i fr to)) (by omega) (by omega) (by show _ = min _ _; omega) (by omega) ls (lv_sub hl [0, 1, 2, 3, 4] rfl)
  exact L6 (nn - 0 + 1) 0 (0) (1000000) (by omega) (by omega) (rfl) (Nat.lt_succ_self _) ls (lv_sub hl [0, 1, 2, 3, 4] rfl)
set_option maxHeartbeats 4000000 in
set_option maxRecDepth 100000 in
theorem mX1_startsTrial (hn : nn ≤ 7) : IM l yX1_startsTrial wsX1_startsTrial (rmx 0 0) D (tyk cI cZ cJ) (mw bd cI th nn mm bm tT oO tB tL oR oJ) [.ref (bd 0)] (QV D (tyk cI cZ cJ) (fun u : Unit => mw bd cI th nn mm bm tT oO tB tL (idr oR nn) oJ) (fun _ => True)) := by
  refine imV_of (cc := cX1_startsTrial) (maxL := 2) (by decide) rfl (Nat.le_of_ble_eq_true rfl) ?_
  intro p e s m args below meth c A Q hx hb hml hown hts hA hK hP hD hS hret ls hl
  have hown : s.vm.findClass RX1 = some m.cls := hown
  have hl : lv_has ls 2 [(0, .ref (bd 0))] := hl
  have inW : ∀ w ∈ wsX10, w ∈ wsX1_startsTrial := by first | exact (fun w h => List.mem_cons_of_mem _ (List.mem_append_right _ h)) | exact (fun w h => List.mem_cons_of_mem _ (List.mem_append_left _ (List.mem_append_right _ h))) | exact (fun w h => List.mem_cons_of_mem _ (List.mem_append_left _ (List.mem_append_left _ (List.mem_append_right _ h)))) | decide +kernel
  refine lv_iconst (v := iI 0) hx hb dX1_startsTrial_0 rfl ?_
  refine lv_istore_n (lv' := [(1, .int (iI 0)), (0, .ref (bd 0))]) hx hb dX1_startsTrial_1 rfl hl (by decide) rfl (fun ls hl => ?_)
  have L2 : ∀ (fu : Nat) (i : Nat) (wtrial2 : Nat → Nat) (x1_2 : Int), (i ≤ nn) → (wtrial2 = idr oR i) → (x1_2 = (i : Int)) → nn - i < fu → ∀ (H : Heap) (locs : List Loc), va_P D vwCl (mw bd cI th nn mm bm tT oO tB tL wtrial2 oJ) H → va_D A (mw bd cI th nn mm bm tT oO tB tL wtrial2 oJ) → va_S A s.heap H locs → ∀ ls : Array Slot, lv_has ls 2 [(1, .int (iI (x1_2))), (0, .ref (bd 0))] → W p l e (rmx 0 0) s m args below meth c H locs 0 0 Q (F0 m 2 ls []) := by
    intro fu
    induction fu with
    | zero =>
      intro i wtrial2 x1_2 hi hq0 hq1 hfu
      exact absurd hfu (Nat.not_lt_zero _)
    | succ fu ih =>
      intro i wtrial2 x1_2 hi hq0 hq1 hfu H locs hP hD hS ls hl
      subst hq0
      subst hq1
      have ih2 := ih
      refine lv_iload_n hx hb dX1_startsTrial_2 rfl (lv_at hl 0 rfl) ?_
      refine lv_aload_n hx hb dX1_startsTrial_3 rfl (lv_at hl 1 rfl) ?_
      refine va_get (D := D) (ci := 1) (C := RX1) (T := TX1) (N := 10) hx hb hts inW hown hK hP 0 rfl rfl 1 (by decide) (hts (.fieldLink RX1 35 "FlowforgeModel" "many" "I") (List.mem_of_getElem? (i := 1) rfl)) (fun _ h9 => h9) rfl dX1_startsTrial_4 ?_
      refine w_icmp_ge (tgt := 23) hx hb dX1_startsTrial_7 (by decide) ⟨by omega, by omega⟩ ⟨by omega, by omega⟩ (fun c7 => ?_) (fun c7 => ?_)
      · obtain rfl : nn = i := by omega
        exact hret _ _ 23 ls (()) hP hD hS (trivial) dX1_startsTrial_23
      · refine lv_aload_n hx hb dX1_startsTrial_10 rfl (lv_at hl 1 rfl) ?_
        refine va_get (D := D) (ci := 1) (C := RX1) (T := TX1) (N := 10) hx hb hts inW hown hK hP 0 rfl rfl 7 (by decide) (hts (.fieldLink RX1 26 "FlowforgeModel" "trial" "[I") (List.mem_of_getElem? (i := 2) rfl)) (fun _ h9 => h9) rfl dX1_startsTrial_11 ?_
        refine lv_iload_n hx hb dX1_startsTrial_14 rfl (lv_at hl 0 rfl) ?_
        refine lv_iload_n hx hb dX1_startsTrial_15 rfl (lv_at hl 0 rfl) ?_
        refine w_iast (g := jI (va_up (idr oR i) i i)) (ws' := mw bd cI th nn mm bm tT oO tB tL (va_up (idr oR i) i i) oJ) hx hb hK hP hD hS 5 0 rfl rfl (i) (by omega) (by omega) (by decide) (hg := jI_up) (hw := rfl) (hd := dX1_startsTrial_16) (kk := fun H locs hP hD hS => ?_)
        refine lv_iinc (v := iI ((i : Int) + 1)) (lv' := [(1, .int (iI ((i : Int) + 1))), (0, .ref (bd 0))]) hx hb dX1_startsTrial_17 hl (k := 0) rfl (iI_inc (by omega)) (by decide) rfl (fun ls hl => ?_)
        refine lv_goto (tgt := 2) hx hb dX1_startsTrial_20 (by decide) ?_
        exact ih2 (i + 1) (va_up (idr oR i) i i) ((i : Int) + 1) (by omega) (idr_s) (by omega) (by omega) _ _ hP hD hS ls (lv_sub hl [0, 1] rfl)
  exact L2 (nn - 0 + 1) 0 oR (0) (by omega) ((idr_0 _).symm) (by omega) (Nat.lt_succ_self _) _ _ hP hD hS ls (lv_sub hl [0, 1] rfl)
set_option maxHeartbeats 4000000 in
set_option maxRecDepth 100000 in
theorem mX1_swaps {a b : Nat} (ha : a < 7) (hb7 : b < 7) : IM l yX1_swaps wsX1_swaps (rmx 0 0) D (tyk cI cZ cJ) (mw bd cI th nn mm bm tT oO tB tL oR oJ) [.ref (bd 0), .int (iI ((a : Int))), .int (iI ((b : Int)))] (QV D (tyk cI cZ cJ) (fun u : Unit => mw bd cI th nn mm bm tT oO tB tL (swp oR a b) oJ) (fun _ => True)) := by
  refine imV_of (cc := cX1_swaps) (maxL := 4) (by decide) rfl (Nat.le_of_ble_eq_true rfl) ?_
  intro p e s m args below meth c A Q hx hb hml hown hts hA hK hP hD hS hret ls hl
  have hown : s.vm.findClass RX1 = some m.cls := hown
  have hl : lv_has ls 4 [(0, .ref (bd 0)), (1, .int (iI ((a : Int)))), (2, .int (iI ((b : Int))))] := hl
  have inW : ∀ w ∈ wsX10, w ∈ wsX1_swaps := by first | exact (fun w h => List.mem_cons_of_mem _ (List.mem_append_right _ h)) | exact (fun w h => List.mem_cons_of_mem _ (List.mem_append_left _ (List.mem_append_right _ h))) | exact (fun w h => List.mem_cons_of_mem _ (List.mem_append_left _ (List.mem_append_left _ (List.mem_append_right _ h)))) | decide +kernel
  refine lv_aload_n hx hb dX1_swaps_0 rfl (lv_at hl 0 rfl) ?_
  refine va_get (D := D) (ci := 1) (C := RX1) (T := TX1) (N := 10) hx hb hts inW hown hK hP 0 rfl rfl 7 (by decide) (hts (.fieldLink RX1 26 "FlowforgeModel" "trial" "[I") (List.mem_of_getElem? (i := 1) rfl)) (fun _ h9 => h9) rfl dX1_swaps_1 ?_
  refine lv_iload_n hx hb dX1_swaps_4 rfl (lv_at hl 1 rfl) ?_
  refine w_iald (v := iI ((oR a : Nat) : Int)) hx hb hK hP 5 0 rfl rfl (a) (by omega) (by omega) (by decide) rfl dX1_swaps_5 ?_
  refine lv_istore_n (lv' := [(3, .int (iI (((oR a : Nat) : Int)))), (0, .ref (bd 0)), (1, .int (iI ((a : Int)))), (2, .int (iI ((b : Int))))]) hx hb dX1_swaps_6 rfl hl (by decide) rfl (fun ls hl => ?_)
  refine lv_aload_n hx hb dX1_swaps_7 rfl (lv_at hl 1 rfl) ?_
  refine va_get (D := D) (ci := 1) (C := RX1) (T := TX1) (N := 10) hx hb hts inW hown hK hP 0 rfl rfl 7 (by decide) (hts (.fieldLink RX1 26 "FlowforgeModel" "trial" "[I") (List.mem_of_getElem? (i := 1) rfl)) (fun _ h9 => h9) rfl dX1_swaps_8 ?_
  refine lv_iload_n hx hb dX1_swaps_11 rfl (lv_at hl 2 rfl) ?_
  refine lv_aload_n hx hb dX1_swaps_12 rfl (lv_at hl 1 rfl) ?_
  refine va_get (D := D) (ci := 1) (C := RX1) (T := TX1) (N := 10) hx hb hts inW hown hK hP 0 rfl rfl 7 (by decide) (hts (.fieldLink RX1 26 "FlowforgeModel" "trial" "[I") (List.mem_of_getElem? (i := 1) rfl)) (fun _ h9 => h9) rfl dX1_swaps_13 ?_
  refine lv_iload_n hx hb dX1_swaps_16 rfl (lv_at hl 3 rfl) ?_
  refine w_iald (v := iI ((oR b : Nat) : Int)) hx hb hK hP 5 0 rfl rfl (b) (by omega) (by omega) (by decide) rfl dX1_swaps_17 ?_
  refine w_iast (g := jI (va_up oR a ((oR b)))) (ws' := mw bd cI th nn mm bm tT oO tB tL (va_up oR a ((oR b))) oJ) hx hb hK hP hD hS 5 0 rfl rfl (a) (by omega) (by omega) (by decide) (hg := jI_up) (hw := rfl) (hd := dX1_swaps_18) (kk := fun H locs hP hD hS => ?_)
  refine lv_aload_n hx hb dX1_swaps_19 rfl (lv_at hl 1 rfl) ?_
  refine va_get (D := D) (ci := 1) (C := RX1) (T := TX1) (N := 10) hx hb hts inW hown hK hP 0 rfl rfl 7 (by decide) (hts (.fieldLink RX1 26 "FlowforgeModel" "trial" "[I") (List.mem_of_getElem? (i := 1) rfl)) (fun _ h9 => h9) rfl dX1_swaps_20 ?_
  refine lv_iload_n hx hb dX1_swaps_23 rfl (lv_at hl 3 rfl) ?_
  refine lv_iload_n hx hb dX1_swaps_24 rfl (lv_at hl 0 rfl) ?_
  refine w_iast (g := jI (va_up (va_up oR a ((oR b))) b ((oR a)))) (ws' := mw bd cI th nn mm bm tT oO tB tL (va_up (va_up oR a ((oR b))) b ((oR a))) oJ) hx hb hK hP hD hS 5 0 rfl rfl (b) (by omega) (by omega) (by decide) (hg := jI_up) (hw := rfl) (hd := dX1_swaps_25) (kk := fun H locs hP hD hS => ?_)
  exact hret _ _ 26 ls (()) hP hD hS (trivial) dX1_swaps_26
set_option maxHeartbeats 4000000 in
set_option maxRecDepth 100000 in
theorem mX1_goesOn_0 (h0 : nn = 0) : IM l yX1_goesOn wsX1_goesOn (rmx 1 23) D (tyk cI cZ cJ) (mw bd cI th nn mm bm tT oO tB tL oR oJ) [.ref (bd 0)] (QI D (tyk cI cZ cJ) (fun u : Unit => mw bd cI th nn mm bm tT oO tB tL (nxT oR nn) oJ) (fun x _ => x = iI ((min 1 (pvt oR (nn - 1)) : Nat) : Int))) := by
  refine imZ_of (cc := cX1_goesOn) (maxL := 5) (by decide) rfl (Nat.le_of_ble_eq_true rfl) ?_
  intro p e s m args below meth c A Q hx hb hml hown hts hA hK hP hD hS hret ls hl
  have hown : s.vm.findClass RX1 = some m.cls := hown
  have hl : lv_has ls 5 [(0, .ref (bd 0))] := hl
  have inW : ∀ w ∈ wsX10, w ∈ wsX1_goesOn := by first | exact (fun w h => List.mem_cons_of_mem _ (List.mem_append_right _ h)) | exact (fun w h => List.mem_cons_of_mem _ (List.mem_append_left _ (List.mem_append_right _ h))) | exact (fun w h => List.mem_cons_of_mem _ (List.mem_append_left _ (List.mem_append_left _ (List.mem_append_right _ h)))) | decide +kernel
  have hp0 : pvt oR (nn - 1) = 0 := by rw [h0]; rfl
  refine lv_aload_n hx hb dX1_goesOn_0 rfl (lv_at hl 0 rfl) ?_
  refine va_get (D := D) (ci := 1) (C := RX1) (T := TX1) (N := 10) hx hb hts inW hown hK hP 0 rfl rfl 1 (by decide) (hts (.fieldLink RX1 35 "FlowforgeModel" "many" "I") (List.mem_of_getElem? (i := 1) rfl)) (fun _ h9 => h9) rfl dX1_goesOn_1 ?_
  refine lv_iconst (v := iI 2) hx hb dX1_goesOn_4 rfl ?_
  refine w_isub (z := (nn : Int) - 2) hx hb dX1_goesOn_5 (by omega) ?_
  refine lv_istore_n (lv' := [(1, .int (iI ((nn : Int) - 2))), (0, .ref (bd 0))]) hx hb dX1_goesOn_6 rfl hl (by decide) rfl (fun ls hl => ?_)
  refine lv_iload_n hx hb dX1_goesOn_7 rfl (lv_at hl 0 rfl) ?_
  refine w_if_lt (tgt := 34) hx hb dX1_goesOn_8 (by decide) ⟨by omega, by omega⟩ (fun c8 => ?_) (fun c8 => absurd c8 (by omega))
  refine lv_iload_n hx hb dX1_goesOn_34 rfl (lv_at hl 0 rfl) ?_
  refine w_if_ge (tgt := 40) hx hb dX1_goesOn_35 (by decide) ⟨by omega, by omega⟩ (fun c35 => absurd c35 (by omega)) (fun c35 => ?_)
  refine lv_iconst (v := iI 0) hx hb dX1_goesOn_38 rfl ?_
  have e9 : nxT oR nn = oR := by unfold nxT; rw [if_pos hp0]
  rw [← e9] at hP hD
  exact hret _ _ 39 ls _ (()) rfl hP hD hS (by rw [hp0]; rfl) dX1_goesOn_39
set_option maxHeartbeats 4000000 in
set_option maxRecDepth 100000 in
theorem mX1_goesOn_1 (h1 : 1 ≤ nn) (hn : nn ≤ 7) (hR : ∀ k, k < nn → oR k < 7) : IM l yX1_goesOn wsX1_goesOn (rmx 1 23) D (tyk cI cZ cJ) (mw bd cI th nn mm bm tT oO tB tL oR oJ) [.ref (bd 0)] (QI D (tyk cI cZ cJ) (fun u : Unit => mw bd cI th nn mm bm tT oO tB tL (nxT oR nn) oJ) (fun x _ => x = iI ((min 1 (pvt oR (nn - 1)) : Nat) : Int))) := by
  refine imZ_of (cc := cX1_goesOn) (maxL := 5) (by decide) rfl (Nat.le_of_ble_eq_true rfl) ?_
  intro p e s m args below meth c A Q hx hb hml hown hts hA hK hP hD hS hret ls hl
  have hown : s.vm.findClass RX1 = some m.cls := hown
  have hl : lv_has ls 5 [(0, .ref (bd 0))] := hl
  have inW : ∀ w ∈ wsX10, w ∈ wsX1_goesOn := by first | exact (fun w h => List.mem_cons_of_mem _ (List.mem_append_right _ h)) | exact (fun w h => List.mem_cons_of_mem _ (List.mem_append_left _ (List.mem_append_right _ h))) | exact (fun w h => List.mem_cons_of_mem _ (List.mem_append_left _ (List.mem_append_left _ (List.mem_append_right _ h)))) | decide +kernel
  refine lv_aload_n hx hb dX1_goesOn_0 rfl (lv_at hl 0 rfl) ?_
  refine va_get (D := D) (ci := 1) (C := RX1) (T := TX1) (N := 10) hx hb hts inW hown hK hP 0 rfl rfl 1 (by decide) (hts (.fieldLink RX1 35 "FlowforgeModel" "many" "I") (List.mem_of_getElem? (i := 1) rfl)) (fun _ h9 => h9) rfl dX1_goesOn_1 ?_
  refine lv_iconst (v := iI 2) hx hb dX1_goesOn_4 rfl ?_
  refine w_isub (z := (nn : Int) - 2) hx hb dX1_goesOn_5 (by omega) ?_
  refine lv_istore_n (lv' := [(1, .int (iI ((nn : Int) - 2))), (0, .ref (bd 0))]) hx hb dX1_goesOn_6 rfl hl (by decide) rfl (fun ls hl => ?_)
  have L7 : ∀ (fu : Nat) (c0 : Nat) (x1_7 : Int), (c0 ≤ nn - 1) → (pvt oR (nn - 1) = pvt oR c0) → (x1_7 = (c0 : Int) - 1) → c0 < fu → ∀ (H : Heap) (locs : List Loc), va_P D vwCl (mw bd cI th nn mm bm tT oO tB tL oR oJ) H → va_D A (mw bd cI th nn mm bm tT oO tB tL oR oJ) → va_S A s.heap H locs → ∀ ls : Array Slot, lv_has ls 5 [(1, .int (iI (x1_7))), (0, .ref (bd 0))] → W p l e (rmx 1 23) s m args below meth c H locs 0 0 Q (F0 m 7 ls []) := by
    intro fu
    induction fu with
    | zero =>
      intro c0 x1_7 hc hp hq0 hfu
      exact absurd hfu (Nat.not_lt_zero _)
    | succ fu ih =>
      intro c0 x1_7 hc hp hq0 hfu H locs hP hD hS ls hl
      subst hq0
      have ih7 := ih
      refine lv_iload_n hx hb dX1_goesOn_7 rfl (lv_at hl 0 rfl) ?_
      refine w_if_lt (tgt := 34) hx hb dX1_goesOn_8 (by decide) ⟨by omega, by omega⟩ (fun c8 => ?_) (fun c8 => ?_)
      · have hp0 : pvt oR (nn - 1) = 0 := by rw [hp, show c0 = 0 by omega]; rfl
        refine lv_iload_n hx hb dX1_goesOn_34 rfl (lv_at hl 0 rfl) ?_
        refine w_if_ge (tgt := 40) hx hb dX1_goesOn_35 (by decide) ⟨by omega, by omega⟩ (fun c35 => absurd c35 (by omega)) (fun c35 => ?_)
        refine lv_iconst (v := iI 0) hx hb dX1_goesOn_38 rfl ?_
        have e9 : nxT oR nn = oR := by unfold nxT; rw [if_pos hp0]
        rw [← e9] at hP hD
        exact hret _ _ 39 ls _ (()) rfl hP hD hS (by rw [hp0]; rfl) dX1_goesOn_39
      · have hc1 : 0 < c0 := by omega
        have h8 := hR (c0 - 1) (by omega)
        have h7 := hR c0 (by omega)
        refine lv_aload_n hx hb dX1_goesOn_11 rfl (lv_at hl 1 rfl) ?_
        refine va_get (D := D) (ci := 1) (C := RX1) (T := TX1) (N := 10) hx hb hts inW hown hK hP 0 rfl rfl 7 (by decide) (hts (.fieldLink RX1 26 "FlowforgeModel" "trial" "[I") (List.mem_of_getElem? (i := 2) rfl)) (fun _ h9 => h9) rfl dX1_goesOn_12 ?_
        refine lv_iload_n hx hb dX1_goesOn_15 rfl (lv_at hl 0 rfl) ?_
        refine w_iald (v := iI ((oR (c0 - 1) : Nat) : Int)) hx hb hK hP 5 0 rfl rfl (c0 - 1) (by omega) (by omega) (by decide) rfl dX1_goesOn_16 ?_
        refine lv_aload_n hx hb dX1_goesOn_17 rfl (lv_at hl 1 rfl) ?_
        refine va_get (D := D) (ci := 1) (C := RX1) (T := TX1) (N := 10) hx hb hts inW hown hK hP 0 rfl rfl 7 (by decide) (hts (.fieldLink RX1 26 "FlowforgeModel" "trial" "[I") (List.mem_of_getElem? (i := 2) rfl)) (fun _ h9 => h9) rfl dX1_goesOn_18 ?_
        refine lv_iload_n hx hb dX1_goesOn_21 rfl (lv_at hl 0 rfl) ?_
        refine lv_iconst (v := iI 1) hx hb dX1_goesOn_22 rfl ?_
        refine w_iadd (z := (c0 : Int)) hx hb dX1_goesOn_23 (by omega) ?_
        refine w_iald (v := iI ((oR c0 : Nat) : Int)) hx hb hK hP 5 0 rfl rfl (c0) (by omega) (by omega) (by decide) rfl dX1_goesOn_24 ?_
        refine w_icmp_le (tgt := 34) hx hb dX1_goesOn_25 (by decide) ⟨by omega, by omega⟩ ⟨by omega, by omega⟩ (fun c25 => ?_) (fun c25 => ?_)
        · have hp0 : pvt oR (nn - 1) = c0 := by rw [hp]; exact pvt_y hc1 (by omega)
          refine lv_iload_n hx hb dX1_goesOn_34 rfl (lv_at hl 0 rfl) ?_
          refine w_if_ge (tgt := 40) hx hb dX1_goesOn_35 (by decide) ⟨by omega, by omega⟩ (fun c35 => ?_) (fun c35 => absurd c35 (by omega))
          refine lv_aload_n hx hb dX1_goesOn_40 rfl (lv_at hl 1 rfl) ?_
          refine va_get (D := D) (ci := 1) (C := RX1) (T := TX1) (N := 10) hx hb hts inW hown hK hP 0 rfl rfl 1 (by decide) (hts (.fieldLink RX1 35 "FlowforgeModel" "many" "I") (List.mem_of_getElem? (i := 1) rfl)) (fun _ h9 => h9) rfl dX1_goesOn_41 ?_
          refine lv_iconst (v := iI 1) hx hb dX1_goesOn_44 rfl ?_
          refine w_isub (z := (nn : Int) - 1) hx hb dX1_goesOn_45 (by omega) ?_
          refine lv_istore_n (lv' := [(2, .int (iI ((nn : Int) - 1))), (1, .int (iI ((c0 : Int) - 1))), (0, .ref (bd 0))]) hx hb dX1_goesOn_46 rfl hl (by decide) rfl (fun ls hl => ?_)
          have L47 : ∀ (fu : Nat) (q : Nat) (x2_47 : Int), (c0 ≤ q) → (q ≤ nn - 1) → (ptn oR (c0 - 1) (nn - 1) = ptn oR (c0 - 1) q) → (x2_47 = (q : Int)) → q < fu → ∀ (H : Heap) (locs : List Loc), va_P D vwCl (mw bd cI th nn mm bm tT oO tB tL oR oJ) H → va_D A (mw bd cI th nn mm bm tT oO tB tL oR oJ) → va_S A s.heap H locs → ∀ ls : Array Slot, lv_has ls 5 [(2, .int (iI (x2_47))), (1, .int (iI ((c0 : Int) - 1))), (0, .ref (bd 0))] → W p l e (rmx 1 23) s m args below meth c H locs 0 0 Q (F0 m 47 ls []) := by
            intro fu
            induction fu with
            | zero =>
              intro q x2_47 hq1 hq2 hq hq0 hfu
              exact absurd hfu (Nat.not_lt_zero _)
            | succ fu ih =>
              intro q x2_47 hq1 hq2 hq hq0 hfu H locs hP hD hS ls hl
              subst hq0
              have ih47 := ih
              have h6 := hR q (by omega)
              refine lv_aload_n hx hb dX1_goesOn_47 rfl (lv_at hl 2 rfl) ?_
              refine va_get (D := D) (ci := 1) (C := RX1) (T := TX1) (N := 10) hx hb hts inW hown hK hP 0 rfl rfl 7 (by decide) (hts (.fieldLink RX1 26 "FlowforgeModel" "trial" "[I") (List.mem_of_getElem? (i := 2) rfl)) (fun _ h9 => h9) rfl dX1_goesOn_48 ?_
              refine lv_iload_n hx hb dX1_goesOn_51 rfl (lv_at hl 0 rfl) ?_
              refine w_iald (v := iI ((oR q : Nat) : Int)) hx hb hK hP 5 0 rfl rfl (q) (by omega) (by omega) (by decide) rfl dX1_goesOn_52 ?_
              refine lv_aload_n hx hb dX1_goesOn_53 rfl (lv_at hl 2 rfl) ?_
              refine va_get (D := D) (ci := 1) (C := RX1) (T := TX1) (N := 10) hx hb hts inW hown hK hP 0 rfl rfl 7 (by decide) (hts (.fieldLink RX1 26 "FlowforgeModel" "trial" "[I") (List.mem_of_getElem? (i := 2) rfl)) (fun _ h9 => h9) rfl dX1_goesOn_54 ?_
              refine lv_iload_n hx hb dX1_goesOn_57 rfl (lv_at hl 1 rfl) ?_
              refine w_iald (v := iI ((oR (c0 - 1) : Nat) : Int)) hx hb hK hP 5 0 rfl rfl (c0 - 1) (by omega) (by omega) (by decide) rfl dX1_goesOn_58 ?_
              refine w_icmp_ge (tgt := 68) hx hb dX1_goesOn_59 (by decide) ⟨by omega, by omega⟩ ⟨by omega, by omega⟩ (fun c59 => ?_) (fun c59 => ?_)
              · have hQ : ptn oR (c0 - 1) (nn - 1) = q := hq.trans (ptn_y2 (by omega))
                refine lv_aload_n hx hb dX1_goesOn_68 rfl (lv_at hl 2 rfl) ?_
                refine lv_iload_n hx hb dX1_goesOn_69 rfl (lv_at hl 1 rfl) ?_
                refine lv_iload_n hx hb dX1_goesOn_70 rfl (lv_at hl 0 rfl) ?_
                refine w_iVv (As := [.int (iI ((((c0 - 1) : Nat) : Int))), .int (iI ((q : Int)))]) (rest := []) (wf := fun u : Unit => mw bd cI th nn mm bm tT oO tB tL (swp oR (c0 - 1) q) oJ) (wr := []) ⟨hx, hb, hml, hown, hts⟩ hK hP hD hS hA (mX1_swaps  (a := c0 - 1) (b := q) (by omega) (by omega)) (cwV 2 hts gX1_goesOn_X1_swaps rfl rfl rfl (by decide +kernel) ⟨Nat.le_of_ble_eq_true rfl, Nat.le_of_ble_eq_true rfl⟩) [0, 1, 2, 3, 4, 5, 6] [] [0, 1, 2, 3, 4, 5, 6] rfl rfl (by decide) (by decide) (by decide) (hwf := fun _ => rfl) (by decide) (ci := 1) rfl rfl rfl rfl hl.1 (by rw [show (((c0 : Int) - 1) : Int) = (((c0 - 1) : Nat) : Int) by omega]; try rfl) (Nat.le_of_ble_eq_true rfl) dX1_goesOn_71 ⟨Nat.zero_le _, Nat.zero_le _⟩ (fun u H locs hr71 hP hD hS => ?_)
                refine lv_iload_n hx hb dX1_goesOn_74 rfl (lv_at hl 1 rfl) ?_
                refine lv_iconst (v := iI 1) hx hb dX1_goesOn_75 rfl ?_
                refine w_iadd (z := (c0 : Int)) hx hb dX1_goesOn_76 (by omega) ?_
                refine lv_istore_n (lv' := [(3, .int (iI ((c0 : Int)))), (2, .int (iI ((q : Int)))), (1, .int (iI ((c0 : Int) - 1))), (0, .ref (bd 0))]) hx hb dX1_goesOn_77 rfl hl (by decide) rfl (fun ls hl => ?_)
                refine lv_aload_n hx hb dX1_goesOn_78 rfl (lv_at hl 3 rfl) ?_
                refine va_get (D := D) (ci := 1) (C := RX1) (T := TX1) (N := 10) hx hb hts inW hown hK hP 0 rfl rfl 1 (by decide) (hts (.fieldLink RX1 35 "FlowforgeModel" "many" "I") (List.mem_of_getElem? (i := 1) rfl)) (fun _ h9 => h9) rfl dX1_goesOn_79 ?_
                refine lv_iconst (v := iI 1) hx hb dX1_goesOn_82 rfl ?_
                refine w_isub (z := (nn : Int) - 1) hx hb dX1_goesOn_83 (by omega) ?_
                refine lv_istore (lv' := [(4, .int (iI ((nn : Int) - 1))), (3, .int (iI ((c0 : Int)))), (2, .int (iI ((q : Int)))), (1, .int (iI ((c0 : Int) - 1))), (0, .ref (bd 0))]) hx hb dX1_goesOn_84 hl (by decide) rfl (fun ls hl => ?_)
                have L86 : ∀ (fu : Nat) (i : Nat) (wtrial86 : Nat → Nat) (x4_86 : Int) (x3_86 : Int), (i ≤ (nn - c0) / 2) → (wtrial86 = rvs (swp oR (c0 - 1) q) c0 (nn - 1) i) → (x4_86 = (nn : Int) - (i : Int) - 1) → (x3_86 = (c0 : Int) + (i : Int)) → (nn - c0) / 2 - i < fu → ∀ (H : Heap) (locs : List Loc), va_P D vwCl (mw bd cI th nn mm bm tT oO tB tL wtrial86 oJ) H → va_D A (mw bd cI th nn mm bm tT oO tB tL wtrial86 oJ) → va_S A s.heap H locs → ∀ ls : Array Slot, lv_has ls 5 [(4, .int (iI (x4_86))), (3, .int (iI (x3_86))), (2, .int (iI ((q : Int)))), (1, .int (iI ((c0 : Int) - 1))), (0, .ref (bd 0))] → W p l e (rmx 1 23) s m args below meth c H locs 0 0 Q (F0 m 86 ls []) := by
                  intro fu
                  induction fu with
                  | zero =>
                    intro i wtrial86 x4_86 x3_86 hi hq0 hq1 hq2 hfu
                    exact absurd hfu (Nat.not_lt_zero _)
                  | succ fu ih =>
                    intro i wtrial86 x4_86 x3_86 hi hq0 hq1 hq2 hfu H locs hP hD hS ls hl
                    subst hq0
                    subst hq1
                    subst hq2
                    have ih86 := ih
                    refine lv_iload_n hx hb dX1_goesOn_86 rfl (lv_at hl 1 rfl) ?_
                    refine lv_iload hx hb dX1_goesOn_87 (lv_at hl 0 rfl) ?_
                    refine w_icmp_ge (tgt := 108) hx hb dX1_goesOn_89 (by decide) ⟨by omega, by omega⟩ ⟨by omega, by omega⟩ (fun c89 => ?_) (fun c89 => ?_)
                    · obtain rfl : i = (nn - c0) / 2 := by omega
                      refine lv_iconst (v := iI 1) hx hb dX1_goesOn_108 rfl ?_
                      have e9 : nxT oR nn = rvs (swp oR (c0 - 1) q) c0 (nn - 1) ((nn - c0) / 2) := by unfold nxT; rw [hp0, if_neg (by omega), hQ]
                      rw [← e9] at hP hD
                      exact hret _ _ 109 ls _ (()) rfl hP hD hS (by rw [hp0, show min 1 c0 = 1 by omega]; rfl) dX1_goesOn_109
                    · refine lv_aload_n hx hb dX1_goesOn_92 rfl (lv_at hl 4 rfl) ?_
                      refine lv_iload_n hx hb dX1_goesOn_93 rfl (lv_at hl 1 rfl) ?_
                      refine lv_iload hx hb dX1_goesOn_94 (lv_at hl 0 rfl) ?_
                      refine w_iVv (As := [.int (iI ((((c0 + i) : Nat) : Int))), .int (iI ((((nn - 1 - i) : Nat) : Int)))]) (rest := []) (wf := fun u : Unit => mw bd cI th nn mm bm tT oO tB tL (swp (rvs (swp oR (c0 - 1) q) c0 (nn - 1) i) (c0 + i) (nn - 1 - i)) oJ) (wr := []) ⟨hx, hb, hml, hown, hts⟩ hK hP hD hS hA (mX1_swaps  (a := c0 + i) (b := nn - 1 - i) (by omega) (by omega)) (cwV 2 hts gX1_goesOn_X1_swaps rfl rfl rfl (by decide +kernel) ⟨Nat.le_of_ble_eq_true rfl, Nat.le_of_ble_eq_true rfl⟩) [0, 1, 2, 3, 4, 5, 6] [] [0, 1, 2, 3, 4, 5, 6] rfl rfl (by decide) (by decide) (by decide) (hwf := fun _ => rfl) (by decide) (ci := 1) rfl rfl rfl rfl hl.1 (by rw [show (((c0 : Int) + (i : Int)) : Int) = (((c0 + i) : Nat) : Int) by omega]; rw [show (((nn : Int) - (i : Int) - 1) : Int) = (((nn - 1 - i) : Nat) : Int) by omega]; try rfl) (Nat.le_of_ble_eq_true rfl) dX1_goesOn_96 ⟨Nat.zero_le _, Nat.zero_le _⟩ (fun u H locs hr96 hP hD hS => ?_)
                      refine lv_iinc (v := iI ((nn : Int) - (i : Int) - 2)) (lv' := [(4, .int (iI ((nn : Int) - (i : Int) - 2))), (3, .int (iI ((c0 : Int) + (i : Int)))), (2, .int (iI ((q : Int)))), (1, .int (iI ((c0 : Int) - 1))), (0, .ref (bd 0))]) hx hb dX1_goesOn_99 hl (k := 0) rfl (iI_inc (by omega)) (by decide) rfl (fun ls hl => ?_)
                      refine lv_iinc (v := iI ((c0 : Int) + (i : Int) + 1)) (lv' := [(3, .int (iI ((c0 : Int) + (i : Int) + 1))), (4, .int (iI ((nn : Int) - (i : Int) - 2))), (2, .int (iI ((q : Int)))), (1, .int (iI ((c0 : Int) - 1))), (0, .ref (bd 0))]) hx hb dX1_goesOn_102 hl (k := 1) rfl (iI_inc (by omega)) (by decide) rfl (fun ls hl => ?_)
                      refine lv_goto (tgt := 86) hx hb dX1_goesOn_105 (by decide) ?_
                      exact ih86 (i + 1) (swp (rvs (swp oR (c0 - 1) q) c0 (nn - 1) i) (c0 + i) (nn - 1 - i)) ((nn : Int) - (i : Int) - 2) ((c0 : Int) + (i : Int) + 1) (by omega) (rfl) (by omega) (by omega) (by omega) _ _ hP hD hS ls (lv_sub hl [1, 0, 2, 3, 4] rfl)
                exact L86 ((nn - c0) / 2 - 0 + 1) 0 (swp oR (c0 - 1) q) ((nn : Int) - 1) ((c0 : Int)) (by omega) (rfl) (by omega) (by omega) (Nat.lt_succ_self _) _ _ hP hD hS ls (lv_sub hl [0, 1, 2, 3, 4] rfl)
              · have hqc : q ≠ c0 := fun h => by subst h; omega
                refine lv_iinc (v := iI ((q : Int) - 1)) (lv' := [(2, .int (iI ((q : Int) - 1))), (1, .int (iI ((c0 : Int) - 1))), (0, .ref (bd 0))]) hx hb dX1_goesOn_62 hl (k := 0) rfl (iI_inc (by omega)) (by decide) rfl (fun ls hl => ?_)
                refine lv_goto (tgt := 47) hx hb dX1_goesOn_65 (by decide) ?_
                exact ih47 (q - 1) ((q : Int) - 1) (by omega) (by omega) (hq.trans (ptn_n (by omega) (by omega))) (by omega) (by omega) _ _ hP hD hS ls (lv_sub hl [0, 1, 2] rfl)
          exact L47 ((nn - 1) + 1) (nn - 1) ((nn : Int) - 1) (by omega) (by omega) (rfl) (by omega) (Nat.lt_succ_self _) _ _ hP hD hS ls (lv_sub hl [0, 1, 2] rfl)
        · have hp1 : pvt oR c0 = pvt oR (c0 - 1) := pvt_n hc1 (by omega)
          refine lv_iinc (v := iI ((c0 : Int) - 2)) (lv' := [(1, .int (iI ((c0 : Int) - 2))), (0, .ref (bd 0))]) hx hb dX1_goesOn_28 hl (k := 0) rfl (iI_inc (by omega)) (by decide) rfl (fun ls hl => ?_)
          refine lv_goto (tgt := 7) hx hb dX1_goesOn_31 (by decide) ?_
          exact ih7 (c0 - 1) ((c0 : Int) - 2) (by omega) (hp.trans hp1) (by omega) (by omega) _ _ hP hD hS ls (lv_sub hl [0, 1] rfl)
  exact L7 ((nn - 1) + 1) (nn - 1) ((nn : Int) - 2) (by omega) (rfl) (by omega) (Nat.lt_succ_self _) _ _ hP hD hS ls (lv_sub hl [0, 1] rfl)
set_option maxRecDepth 100000 in
theorem mX1_goesOn  (hn : nn ≤ 7) (hR : ∀ k, k < nn → oR k < 7) : IM l yX1_goesOn wsX1_goesOn (rmx 1 23) D (tyk cI cZ cJ) (mw bd cI th nn mm bm tT oO tB tL oR oJ) [.ref (bd 0)] (QI D (tyk cI cZ cJ) (fun u : Unit => mw bd cI th nn mm bm tT oO tB tL (nxT oR nn) oJ) (fun x _ => x = iI ((min 1 (pvt oR (nn - 1)) : Nat) : Int))) := by
  rcases Nat.eq_zero_or_pos nn with h | h
  · exact mX1_goesOn_0 h
  · exact mX1_goesOn_1 h hn hR
set_option maxHeartbeats 4000000 in
set_option maxRecDepth 100000 in
theorem mX1_onTwo {a b : Nat} (hT : ∀ k, 0 ≤ tT k ∧ tT k ≤ 99) (hn : nn ≤ 7) (ha : a < 5) (hb5 : b < 5) (hR : ∀ k, k < nn → oR k < 7) : PM l yX1_onTwo wsX1_onTwo (rmx 1 22) D (tyk cI cZ cJ) (mw bd cI th nn mm bm tT oO tB tL oR oJ) [.ref (bd 0), .int (iI ((a : Int))), .int (iI ((b : Int)))] (vp_Si (fun x => x = iI (opS tT oR a b nn))) := by
  refine pmI_of (cc := cX1_onTwo) (maxL := 6) (by decide) rfl (Nat.le_of_ble_eq_true rfl) ?_
  intro p e s m args below meth c Q hx hb hml hown hts hK hP hret ls hl
  have hown : s.vm.findClass RX1 = some m.cls := hown
  have hl : lv_has ls 6 [(0, .ref (bd 0)), (1, .int (iI ((a : Int)))), (2, .int (iI ((b : Int))))] := hl
  have inW : ∀ w ∈ wsX10, w ∈ wsX1_onTwo := by first | exact (fun w h => List.mem_cons_of_mem _ (List.mem_append_right _ h)) | exact (fun w h => List.mem_cons_of_mem _ (List.mem_append_left _ (List.mem_append_right _ h))) | exact (fun w h => List.mem_cons_of_mem _ (List.mem_append_left _ (List.mem_append_left _ (List.mem_append_right _ h)))) | decide +kernel
  refine lv_iconst (v := iI 0) hx hb dX1_onTwo_0 rfl ?_
  refine lv_istore_n (lv' := [(3, .int (iI 0)), (0, .ref (bd 0)), (1, .int (iI ((a : Int)))), (2, .int (iI ((b : Int))))]) hx hb dX1_onTwo_1 rfl hl (by decide) rfl (fun ls hl => ?_)
  refine lv_iconst (v := iI 0) hx hb dX1_onTwo_2 rfl ?_
  refine lv_istore (lv' := [(4, .int (iI 0)), (3, .int (iI 0)), (0, .ref (bd 0)), (1, .int (iI ((a : Int)))), (2, .int (iI ((b : Int))))]) hx hb dX1_onTwo_3 hl (by decide) rfl (fun ls hl => ?_)
  refine lv_iconst (v := iI 0) hx hb dX1_onTwo_5 rfl ?_
  refine lv_istore (lv' := [(5, .int (iI 0)), (4, .int (iI 0)), (3, .int (iI 0)), (0, .ref (bd 0)), (1, .int (iI ((a : Int)))), (2, .int (iI ((b : Int))))]) hx hb dX1_onTwo_6 hl (by decide) rfl (fun ls hl => ?_)
  have L8 : ∀ (fu : Nat) (i : Nat) (x5_8 : Int) (x4_8 : Int) (x3_8 : Int), (i ≤ nn) → (x5_8 = (i : Int)) → (x4_8 = (opS tT oR a b i)) → (x3_8 = (opF tT oR a i)) → nn - i < fu → ∀ ls : Array Slot, lv_has ls 6 [(5, .int (iI (x5_8))), (4, .int (iI (x4_8))), (3, .int (iI (x3_8))), (0, .ref (bd 0)), (1, .int (iI ((a : Int)))), (2, .int (iI ((b : Int))))] → W p l e (rmx 1 22) s m args below meth c s.heap [] 0 0 Q (F0 m 8 ls []) := by
    intro fu
    induction fu with
    | zero =>
      intro i x5_8 x4_8 x3_8 hi hq0 hq1 hq2 hfu
      exact absurd hfu (Nat.not_lt_zero _)
    | succ fu ih =>
      intro i x5_8 x4_8 x3_8 hi hq0 hq1 hq2 hfu ls hl
      subst hq0
      subst hq1
      subst hq2
      have ih8 := ih
      have h9 := opF_rg hT oR a i
      have h8 := opS_rg hT oR a b i
      have h7 := hT (5 * oR i + a)
      refine lv_iload hx hb dX1_onTwo_8 (lv_at hl 0 rfl) ?_
      refine lv_aload_n hx hb dX1_onTwo_10 rfl (lv_at hl 3 rfl) ?_
      refine va_get (D := D) (ci := 1) (C := RX1) (T := TX1) (N := 10) hx hb hts inW hown hK hP 0 rfl rfl 1 (by decide) (hts (.fieldLink RX1 35 "FlowforgeModel" "many" "I") (List.mem_of_getElem? (i := 1) rfl)) (fun _ h9 => h9) rfl dX1_onTwo_11 ?_
      refine w_icmp_ge (tgt := 65) hx hb dX1_onTwo_14 (by decide) ⟨by omega, by omega⟩ ⟨by omega, by omega⟩ (fun c14 => ?_) (fun c14 => ?_)
      · obtain rfl : nn = i := by omega
        refine lv_iload hx hb dX1_onTwo_65 (lv_at hl 1 rfl) ?_
        exact hret 67 ls _ (rfl) dX1_onTwo_67
      · refine lv_iload_n hx hb dX1_onTwo_17 rfl (lv_at hl 2 rfl) ?_
        refine lv_aload_n hx hb dX1_onTwo_18 rfl (lv_at hl 3 rfl) ?_
        refine lv_aload_n hx hb dX1_onTwo_19 rfl (lv_at hl 3 rfl) ?_
        refine va_get (D := D) (ci := 1) (C := RX1) (T := TX1) (N := 10) hx hb hts inW hown hK hP 0 rfl rfl 7 (by decide) (hts (.fieldLink RX1 26 "FlowforgeModel" "trial" "[I") (List.mem_of_getElem? (i := 2) rfl)) (fun _ h9 => h9) rfl dX1_onTwo_20 ?_
        refine lv_iload hx hb dX1_onTwo_23 (lv_at hl 0 rfl) ?_
        refine w_iald (v := iI ((oR i : Nat) : Int)) hx hb hK hP 5 0 rfl rfl (i) (by omega) (by omega) (by decide) rfl dX1_onTwo_25 ?_
        refine lv_iload_n hx hb dX1_onTwo_26 rfl (lv_at hl 4 rfl) ?_
        refine w_pV (As := [.int (iI (((((oR i)) : Nat) : Int))), .int (iI ((a : Int)))]) (rest := [.int (iI ((opF tT oR a i)))]) ⟨hx, hb, hml, hown, hts⟩ hK hP (mX1_timeOf  (hR i (by omega)) ha) (cwV 2 hts gX1_onTwo_X1_timeOf rfl rfl rfl (by decide +kernel) ⟨Nat.le_of_ble_eq_true rfl, Nat.le_of_ble_eq_true rfl⟩) (ci := 1) rfl rfl rfl rfl hl.1 (by rw [show ((((oR i : Nat) : Int)) : Int) = ((((oR i)) : Nat) : Int) by omega]; try rfl) (Nat.le_of_ble_eq_true rfl) dX1_onTwo_27 ⟨Nat.zero_le _, Nat.zero_le _⟩ (fun r27 hr27 => ?_)
        refine w_top (v := iI ((tT (5 * ((oR i)) + a)))) (hr27) ?_
        refine w_iadd (z := (opF tT oR a i) + (tT (5 * ((oR i)) + a))) hx hb dX1_onTwo_30 (by omega) ?_
        refine lv_istore_n (lv' := [(3, .int (iI ((opF tT oR a i) + (tT (5 * ((oR i)) + a))))), (5, .int (iI ((i : Int)))), (4, .int (iI ((opS tT oR a b i)))), (0, .ref (bd 0)), (1, .int (iI ((a : Int)))), (2, .int (iI ((b : Int))))]) hx hb dX1_onTwo_31 rfl hl (by decide) rfl (fun ls hl => ?_)
        refine lv_iload_n hx hb dX1_onTwo_32 rfl (lv_at hl 0 rfl) ?_
        refine lv_iload hx hb dX1_onTwo_33 (lv_at hl 2 rfl) ?_
        refine w_icmp_le (tgt := 42) hx hb dX1_onTwo_35 (by decide) ⟨by omega, by omega⟩ ⟨by omega, by omega⟩ (fun c35 => ?_) (fun c35 => ?_)
        · refine lv_iload hx hb dX1_onTwo_42 (lv_at hl 2 rfl) ?_
          refine lv_aload_n hx hb dX1_onTwo_44 rfl (lv_at hl 3 rfl) ?_
          refine lv_aload_n hx hb dX1_onTwo_45 rfl (lv_at hl 3 rfl) ?_
          refine va_get (D := D) (ci := 1) (C := RX1) (T := TX1) (N := 10) hx hb hts inW hown hK hP 0 rfl rfl 7 (by decide) (hts (.fieldLink RX1 26 "FlowforgeModel" "trial" "[I") (List.mem_of_getElem? (i := 2) rfl)) (fun _ h9 => h9) rfl dX1_onTwo_46 ?_
          refine lv_iload hx hb dX1_onTwo_49 (lv_at hl 1 rfl) ?_
          refine w_iald (v := iI ((oR i : Nat) : Int)) hx hb hK hP 5 0 rfl rfl (i) (by omega) (by omega) (by decide) rfl dX1_onTwo_51 ?_
          refine lv_iload_n hx hb dX1_onTwo_52 rfl (lv_at hl 5 rfl) ?_
          refine w_pV (As := [.int (iI (((((oR i)) : Nat) : Int))), .int (iI ((b : Int)))]) (rest := [.int (iI ((opS tT oR a b i)))]) ⟨hx, hb, hml, hown, hts⟩ hK hP (mX1_timeOf  (hR i (by omega)) hb5) (cwV 2 hts gX1_onTwo_X1_timeOf rfl rfl rfl (by decide +kernel) ⟨Nat.le_of_ble_eq_true rfl, Nat.le_of_ble_eq_true rfl⟩) (ci := 1) rfl rfl rfl rfl hl.1 (by rw [show ((((oR i : Nat) : Int)) : Int) = ((((oR i)) : Nat) : Int) by omega]; try rfl) (Nat.le_of_ble_eq_true rfl) dX1_onTwo_53 ⟨Nat.zero_le _, Nat.zero_le _⟩ (fun r53 hr53 => ?_)
          refine w_top (v := iI ((tT (5 * ((oR i)) + b)))) (hr53) ?_
          refine w_iadd (z := (opS tT oR a b i) + (tT (5 * ((oR i)) + b))) hx hb dX1_onTwo_56 (by omega) ?_
          refine lv_istore (lv' := [(4, .int (iI ((opS tT oR a b i) + (tT (5 * ((oR i)) + b))))), (3, .int (iI ((opF tT oR a i) + (tT (5 * ((oR i)) + a))))), (5, .int (iI ((i : Int)))), (0, .ref (bd 0)), (1, .int (iI ((a : Int)))), (2, .int (iI ((b : Int))))]) hx hb dX1_onTwo_57 hl (by decide) rfl (fun ls hl => ?_)
          refine lv_iinc (v := iI ((i : Int) + 1)) (lv' := [(5, .int (iI ((i : Int) + 1))), (4, .int (iI ((opS tT oR a b i) + (tT (5 * ((oR i)) + b))))), (3, .int (iI ((opF tT oR a i) + (tT (5 * ((oR i)) + a))))), (0, .ref (bd 0)), (1, .int (iI ((a : Int)))), (2, .int (iI ((b : Int))))]) hx hb dX1_onTwo_59 hl (k := 2) rfl (iI_inc (by omega)) (by decide) rfl (fun ls hl => ?_)
          refine lv_goto (tgt := 8) hx hb dX1_onTwo_62 (by decide) ?_
          exact ih8 (i + 1) ((i : Int) + 1) ((opS tT oR a b i) + (tT (5 * ((oR i)) + b))) ((opF tT oR a i) + (tT (5 * ((oR i)) + a))) (by omega) (by omega) (by show _ = max (opF tT oR a i + tT (5 * oR i + a)) _ + _; omega) (rfl) (by omega) ls (lv_sub hl [0, 1, 2, 3, 4, 5] rfl)
        · refine lv_iload_n hx hb dX1_onTwo_38 rfl (lv_at hl 0 rfl) ?_
          refine lv_goto (tgt := 44) hx hb dX1_onTwo_39 (by decide) ?_
          refine lv_aload_n hx hb dX1_onTwo_44 rfl (lv_at hl 3 rfl) ?_
          refine lv_aload_n hx hb dX1_onTwo_45 rfl (lv_at hl 3 rfl) ?_
          refine va_get (D := D) (ci := 1) (C := RX1) (T := TX1) (N := 10) hx hb hts inW hown hK hP 0 rfl rfl 7 (by decide) (hts (.fieldLink RX1 26 "FlowforgeModel" "trial" "[I") (List.mem_of_getElem? (i := 2) rfl)) (fun _ h9 => h9) rfl dX1_onTwo_46 ?_
          refine lv_iload hx hb dX1_onTwo_49 (lv_at hl 1 rfl) ?_
          refine w_iald (v := iI ((oR i : Nat) : Int)) hx hb hK hP 5 0 rfl rfl (i) (by omega) (by omega) (by decide) rfl dX1_onTwo_51 ?_
          refine lv_iload_n hx hb dX1_onTwo_52 rfl (lv_at hl 5 rfl) ?_
          refine w_pV (As := [.int (iI (((((oR i)) : Nat) : Int))), .int (iI ((b : Int)))]) (rest := [.int (iI ((opF tT oR a i) + (tT (5 * ((oR i)) + a))))]) ⟨hx, hb, hml, hown, hts⟩ hK hP (mX1_timeOf  (hR i (by omega)) hb5) (cwV 2 hts gX1_onTwo_X1_timeOf rfl rfl rfl (by decide +kernel) ⟨Nat.le_of_ble_eq_true rfl, Nat.le_of_ble_eq_true rfl⟩) (ci := 1) rfl rfl rfl rfl hl.1 (by rw [show ((((oR i : Nat) : Int)) : Int) = ((((oR i)) : Nat) : Int) by omega]; try rfl) (Nat.le_of_ble_eq_true rfl) dX1_onTwo_53 ⟨Nat.zero_le _, Nat.zero_le _⟩ (fun r53 hr53 => ?_)
          refine w_top (v := iI ((tT (5 * ((oR i)) + b)))) (hr53) ?_
          refine w_iadd (z := (opF tT oR a i) + (tT (5 * ((oR i)) + a)) + (tT (5 * ((oR i)) + b))) hx hb dX1_onTwo_56 (by omega) ?_
          refine lv_istore (lv' := [(4, .int (iI ((opF tT oR a i) + (tT (5 * ((oR i)) + a)) + (tT (5 * ((oR i)) + b))))), (3, .int (iI ((opF tT oR a i) + (tT (5 * ((oR i)) + a))))), (5, .int (iI ((i : Int)))), (0, .ref (bd 0)), (1, .int (iI ((a : Int)))), (2, .int (iI ((b : Int))))]) hx hb dX1_onTwo_57 hl (by decide) rfl (fun ls hl => ?_)
          refine lv_iinc (v := iI ((i : Int) + 1)) (lv' := [(5, .int (iI ((i : Int) + 1))), (4, .int (iI ((opF tT oR a i) + (tT (5 * ((oR i)) + a)) + (tT (5 * ((oR i)) + b))))), (3, .int (iI ((opF tT oR a i) + (tT (5 * ((oR i)) + a))))), (0, .ref (bd 0)), (1, .int (iI ((a : Int)))), (2, .int (iI ((b : Int))))]) hx hb dX1_onTwo_59 hl (k := 2) rfl (iI_inc (by omega)) (by decide) rfl (fun ls hl => ?_)
          refine lv_goto (tgt := 8) hx hb dX1_onTwo_62 (by decide) ?_
          exact ih8 (i + 1) ((i : Int) + 1) ((opF tT oR a i) + (tT (5 * ((oR i)) + a)) + (tT (5 * ((oR i)) + b))) ((opF tT oR a i) + (tT (5 * ((oR i)) + a))) (by omega) (by omega) (by show _ = max (opF tT oR a i + tT (5 * oR i + a)) _ + _; omega) (rfl) (by omega) ls (lv_sub hl [0, 1, 2, 3, 4, 5] rfl)
  exact L8 (nn - 0 + 1) 0 (0) (0) (0) (by omega) (by omega) (rfl) (rfl) (Nat.lt_succ_self _) ls (lv_sub hl [0, 1, 2, 3, 4, 5] rfl)
end
