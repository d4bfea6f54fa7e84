def NX (p : Program) (l : Launch) (e : Env) (s : State) (m : MethodId) (args : Array Value) (below : List Frame) (meth : Method) (c : Code) (Q : State → Prop) (A : Nat → Prop) (D : va_G) (cI cZ cJ : ClassId) (ad bd : Nat → Nat) (b0 b i cells slots : Nat) : Prop :=
  ∀ (nn mm : Nat) (tT tB tE tL : Nat → Int) (oO oR oQ : Nat → Nat) (zS zM zN : Nat → Int) (oJ : Nat → Nat) (th bm : Int) (oP : Nat → Nat) (sB sL : Nat → Int) (sR sJ : Nat → Nat) (fL : Nat → Int64) (H : Heap) (locs : List Loc) (cells' slots' : Nat) (ls : Array Slot), LInv nn mm tT oO oP zS zM zN oJ → cells' ≤ cells + 1 → slots' ≤ slots + 6 → va_P D vwCl (LWW ad bd b0 cI cZ cJ nn mm tT tB tE tL oO oR oQ zS zM zN oJ th nn mm bm tT oP sB sL sR sJ fL) H → va_D A (LWW ad bd b0 cI cZ cJ nn mm tT tB tE tL oO oR oQ zS zM zN oJ th nn mm bm tT oP sB sL sR sJ fL) → va_S A s.heap H locs →
    lv_has ls 9 [(4, .int (iI ((i : Nat) : Int))), (3, .ref b0), (2, .ref (bd 0)), (1, .ref (ad 0)), (0, .ref b)] → W p l e room_1 s m args below meth c H locs cells' slots' Q (F0 m 1461 ls [])
section
variable {p : Program} {l : Launch} {e : Env} {s : State} {m : MethodId} {args : Array Value} {below : List Frame} {meth : Method} {c : Code} {H : Heap} {locs : List Loc} {cells slots : Nat} {Q : State → Prop} {A : Nat → Prop} {bS L : Nat} {xs : Nat → Int32} {D : va_G} {cI cZ cJ : ClassId} {ad bd : Nat → Nat} {b0 : Nat} {nn mm : Nat} {tT tB tE tL : Nat → Int} {oO oR oQ : Nat → Nat} {zS zM zN : Nat → Int} {oJ : Nat → Nat} {th bm : Int} {oP : Nat → Nat} {sB sL : Nat → Int} {sR sJ : Nat → Nat} {fL : Nat → Int64} {sa : Nat → Nat} {i : Nat} {ls : Array Slot}
set_option maxHeartbeats 4000000 in
set_option maxRecDepth 100000 in
theorem law_0  (B : L0 p s m args c sa A bS L xs D cI cZ cJ) (hMO : MO) (hl0 : l.stackTraces = false) (I : LInv nn mm tT oO oP zS zM zN oJ) (hi : i + 4 ≤ L) (h7 : nn < 7) (hcs : cells + 1 ≤ 1053) (hss : slots + 6 ≤ 8592) (hP : va_P D vwCl (LWW ad bd b0 cI cZ cJ nn mm tT tB tE tL oO oR oQ zS zM zN oJ th nn mm bm tT oP sB sL sR sJ fL) H) (hD : va_D A (LWW ad bd b0 cI cZ cJ nn mm tT tB tE tL oO oR oQ zS zM zN oJ th nn mm bm tT oP sB sL sR sJ fL)) (hS : va_S A s.heap H locs) (hl : lv_has ls 9 [(4, .int (iI ((i : Nat) : Int))), (3, .ref (b0)), (2, .ref (bd 0)), (1, .ref (ad 0)), (0, .ref (bS))]) (nx : NX p l e s m args below meth c Q A D cI cZ cJ ad bd b0 bS i cells slots) : W p l e room_1 s m args below meth c H locs cells slots Q (F0 m 152 ls []) := by
  obtain ⟨hx, hb, hml, hown, hts, hK, hA, hX, hbl, hbA, hFX, hSX, hCX, hL⟩ := B
  obtain ⟨hn, hm, hT, hz, heq, hPm, hCK, hMb⟩ := id I
  have hO : ∀ k, k < nn → oO k < 7 := fun k hk => Nat.lt_of_lt_of_le (hPm.1 k hk) hn
  have hOP : ∀ k, k < nn → oP k < 7 := fun k hk => by rw [← heq k hk]; exact hO k hk
  refine lv_aload_n hx hb dL_law_152 rfl (lv_at hl 3 rfl) ?_
  refine lv_aload_n hx hb dL_law_153 rfl (lv_at hl 1 rfl) ?_
  have hTX : TX sa s H := ⟨(hFX.kept hS.2.1).no, hSX, hCX⟩
  refine w_lS (As := [.ref (ad 0), .ref (b0)]) (rest := []) (sa := sa) (wc := xw ad cI cZ nn mm tT tB tE tL oO oR oQ zS zM zN oJ ++ [(b0, .inl (cJ, 1, .inr (.inl (fL))))]) (wf := fun u : Unit => LWW ad bd b0 cI cZ cJ (nn + 1) mm tT tB tE tL (va_up oO nn nn) oR oQ (zfl zS 3) zM zN oJ th nn mm bm tT oP sB sL sR sJ (lS fL (nn : Int))) (wr := mw bd cI th nn mm bm tT oP sB sL sR sJ) ⟨hx, hb, hml, hown, hts⟩ hK hP hD hS hA hTX (hL_addJob h7) (vx_cwSW 2 hts gL_law_L_addJob rfl rfl rfl (by decide +kernel) ⟨Nat.le_of_ble_eq_true rfl, Nat.le_of_ble_eq_true rfl⟩) [0, 1, 2, 3, 4, 5, 6, 7, 8, 9, 10, 11, 19] [12, 13, 14, 15, 16, 17, 18] [7, 8, 9, 10, 11, 12, 13, 14, 15, 16, 17, 18, 0, 1, 2, 3, 4, 5, 6, 19] rfl rfl (by decide) (by decide) (by decide) (hwf := fun _ => rfl) (by decide) rfl hl.1 rfl (Nat.le_of_ble_eq_true rfl) dL_law_154 ⟨hcs, hss⟩ (fun r1 u1 H locs hr1 hP hD hS => ?_)
  refine w_top (v := iI 0) (hr1) ?_
  refine lv_istore (lv' := [(5, .int (iI 0)), (4, .int (iI ((i : Nat) : Int))), (3, .ref (b0)), (2, .ref (bd 0)), (1, .ref (ad 0)), (0, .ref (bS))]) hx hb dL_law_157 hl (by decide) rfl (fun ls hl => ?_)
  refine lv_aload_n hx hb dL_law_159 rfl (lv_at hl 3 rfl) ?_
  refine w_iV (As := []) (rest := []) (wc := mw bd cI th nn mm bm tT oP sB sL sR sJ) (wf := fun u : Unit => LWW ad bd b0 cI cZ cJ (nn + 1) mm tT tB tE tL (va_up oO nn nn) oR oQ (zfl zS 3) zM zN oJ 0 (nn + 1) mm bm tT (va_up oP nn nn) sB sL sR sJ (lS fL (nn : Int))) (wr := xw ad cI cZ (nn + 1) mm tT tB tE tL (va_up oO nn nn) oR oQ (zfl zS 3) zM zN oJ ++ [(b0, .inl (cJ, 1, .inr (.inl (lS fL (nn : Int)))))]) ⟨hx, hb, hml, hown, hts⟩ hK hP hD hS hA (mX1_addJob h7) (cwV 0 hts gL_law_X1_addJob rfl rfl rfl (by decide +kernel) ⟨Nat.le_of_ble_eq_true rfl, Nat.le_of_ble_eq_true rfl⟩) [12, 13, 14, 15, 16, 17, 18] [0, 1, 2, 3, 4, 5, 6, 7, 8, 9, 10, 11, 19] [0, 1, 2, 3, 4, 5, 6, 7, 8, 9, 10, 11, 13, 14, 15, 16, 17, 18, 19, 12] rfl rfl (by decide) (by decide) (by decide) (hwf := fun _ => rfl) (by decide) (ci := 1) rfl rfl rfl rfl hl.1 rfl (Nat.le_of_ble_eq_true rfl) dL_law_160 ⟨hcs, hss⟩ (fun v160 w160 H locs hv160 hP hD hS => ?_)
  refine w_top (v := iI (nn : Int)) (hv160.trans (congrArg iI (rfl))) ?_
  refine lv_istore (lv' := [(6, .int (iI (nn : Int))), (5, .int (iI 0)), (4, .int (iI ((i : Nat) : Int))), (3, .ref (b0)), (2, .ref (bd 0)), (1, .ref (ad 0)), (0, .ref (bS))]) hx hb dL_law_163 hl (by decide) rfl (fun ls hl => ?_)
  refine lv_aload_n hx hb dL_law_165 rfl (lv_at hl 4 rfl) ?_
  refine w_pV (As := []) (rest := []) ⟨hx, hb, hml, hown, hts⟩ hK (hP.sub (ws' := mw bd cI 0 (nn + 1) mm bm tT (va_up oP nn nn) sB sL sR sJ) [12, 13, 14, 15, 16, 17, 18] rfl) (mX1_thrown ) (cwV 0 hts gL_law_X1_thrown rfl rfl rfl (by decide +kernel) ⟨Nat.le_of_ble_eq_true rfl, Nat.le_of_ble_eq_true rfl⟩) (ci := 1) rfl rfl rfl rfl hl.1 rfl (Nat.le_of_ble_eq_true rfl) dL_law_166 ⟨hcs, hss⟩ (fun v166 hv166 => ?_)
  refine w_top (v := iI 0) (hv166) ?_
  refine lv_iload hx hb dL_law_169 (lv_at hl 1 rfl) ?_
  refine lv_icmp_eq (tgt := 176) hx hb dL_law_171 (by decide) (fun _ => ?_) (fun h9 => absurd rfl h9)
  refine lv_iload hx hb dL_law_176 (lv_at hl 1 rfl) ?_
  refine lv_if_ne (tgt := 193) hx hb dL_law_178 (by decide) (fun h9 => absurd (by decide +kernel) h9) (fun _ => ?_)
  refine lv_aload_n hx hb dL_law_181 rfl (lv_at hl 3 rfl) ?_
  refine lv_iconst (v := iI 0) hx hb dL_law_182 rfl ?_
  refine w_lald (v := (iI (nn : Int)).toInt64) hx hb hK hP 19 2 rfl rfl (lS_0 _ _) dL_law_183 ?_
  refine lv_iload hx hb dL_law_184 (lv_at hl 0 rfl) ?_
  refine lv_i2l (v := (iI (nn : Int)).toInt64) hx hb dL_law_186 rfl ?_
  refine w_lcmpE hx hb dL_law_187 ?_
  refine lv_if_eq (tgt := 193) hx hb dL_law_188 (by decide) (fun _ => ?_) (fun h9 => absurd rfl h9)
  refine lv_goto (tgt := 1461) hx hb dL_law_193 (by decide) ?_
  exact nx (nn + 1) mm tT tB tE tL (va_up oO nn nn) oR oQ (zfl zS 3) zM zN oJ 0 bm (va_up oP nn nn) sB sL sR sJ (lS fL (nn : Int)) _ _ _ _ ls ⟨(by omega), hm, hT, (fun k hk h => hz k hk (by omega)), (eqn_upS heq), (isP_up hPm), CK_0, hMb⟩ (Nat.le_refl _) (Nat.le_refl _) hP hD hS (lv_sub hl [2, 3, 4, 5, 6] rfl)
set_option maxHeartbeats 4000000 in
set_option maxRecDepth 100000 in
theorem law_0t  (B : L0 p s m args c sa A bS L xs D cI cZ cJ) (hMO : MO) (hl0 : l.stackTraces = false) (I : LInv nn mm tT oO oP zS zM zN oJ) (hi : i + 4 ≤ L) (h7 : nn = 7) (hcs : cells + 1 ≤ 1053) (hss : slots + 6 ≤ 8592) (hP : va_P D vwCl (LWW ad bd b0 cI cZ cJ nn mm tT tB tE tL oO oR oQ zS zM zN oJ th nn mm bm tT oP sB sL sR sJ fL) H) (hD : va_D A (LWW ad bd b0 cI cZ cJ nn mm tT tB tE tL oO oR oQ zS zM zN oJ th nn mm bm tT oP sB sL sR sJ fL)) (hS : va_S A s.heap H locs) (hl : lv_has ls 9 [(4, .int (iI ((i : Nat) : Int))), (3, .ref (b0)), (2, .ref (bd 0)), (1, .ref (ad 0)), (0, .ref (bS))]) (nx : NX p l e s m args below meth c Q A D cI cZ cJ ad bd b0 bS i cells slots) : W p l e room_1 s m args below meth c H locs cells slots Q (F0 m 152 ls []) := by
  obtain ⟨hx, hb, hml, hown, hts, hK, hA, hX, hbl, hbA, hFX, hSX, hCX, hL⟩ := B
  obtain ⟨hn, hm, hT, hz, heq, hPm, hCK, hMb⟩ := id I
  have hO : ∀ k, k < nn → oO k < 7 := fun k hk => Nat.lt_of_lt_of_le (hPm.1 k hk) hn
  have hOP : ∀ k, k < nn → oP k < 7 := fun k hk => by rw [← heq k hk]; exact hO k hk
  refine lv_aload_n hx hb dL_law_152 rfl (lv_at hl 3 rfl) ?_
  refine lv_aload_n hx hb dL_law_153 rfl (lv_at hl 1 rfl) ?_
  have hTX : TX sa s H := ⟨(hFX.kept hS.2.1).no, hSX, hCX⟩
  refine w_lS (As := [.ref (ad 0), .ref (b0)]) (rest := []) (sa := sa) (wc := xw ad cI cZ nn mm tT tB tE tL oO oR oQ zS zM zN oJ ++ [(b0, .inl (cJ, 1, .inr (.inl (fL))))]) (wf := fun u : Unit => LWW ad bd b0 cI cZ cJ nn mm tT tB tE tL oO oR oQ zS zM zN oJ th nn mm bm tT oP sB sL sR sJ fL) (wr := mw bd cI th nn mm bm tT oP sB sL sR sJ) ⟨hx, hb, hml, hown, hts⟩ hK hP hD hS hA hTX (hL_addJob_t hl0 h7) (vx_cwSW 2 hts gL_law_L_addJob rfl rfl rfl (by decide +kernel) ⟨Nat.le_of_ble_eq_true rfl, Nat.le_of_ble_eq_true rfl⟩) [0, 1, 2, 3, 4, 5, 6, 7, 8, 9, 10, 11, 19] [12, 13, 14, 15, 16, 17, 18] [7, 8, 9, 10, 11, 12, 13, 14, 15, 16, 17, 18, 0, 1, 2, 3, 4, 5, 6, 19] rfl rfl (by decide) (by decide) (by decide) (hwf := fun _ => rfl) (by decide) rfl hl.1 rfl (Nat.le_of_ble_eq_true rfl) dL_law_154 ⟨hcs, hss⟩ (fun r1 u1 H locs hr1 hP hD hS => ?_)
  refine w_top (v := iI 1) (hr1) ?_
  refine lv_istore (lv' := [(5, .int (iI 1)), (4, .int (iI ((i : Nat) : Int))), (3, .ref (b0)), (2, .ref (bd 0)), (1, .ref (ad 0)), (0, .ref (bS))]) hx hb dL_law_157 hl (by decide) rfl (fun ls hl => ?_)
  refine lv_aload_n hx hb dL_law_159 rfl (lv_at hl 3 rfl) ?_
  refine w_iV (As := []) (rest := []) (wc := mw bd cI th nn mm bm tT oP sB sL sR sJ) (wf := fun u : Unit => LWW ad bd b0 cI cZ cJ nn mm tT tB tE tL oO oR oQ zS zM zN oJ 1 nn mm bm tT oP sB sL sR sJ fL) (wr := xw ad cI cZ nn mm tT tB tE tL oO oR oQ zS zM zN oJ ++ [(b0, .inl (cJ, 1, .inr (.inl (fL))))]) ⟨hx, hb, hml, hown, hts⟩ hK hP hD hS hA (mX1_addJob_e h7) (cwV 0 hts gL_law_X1_addJob rfl rfl rfl (by decide +kernel) ⟨Nat.le_of_ble_eq_true rfl, Nat.le_of_ble_eq_true rfl⟩) [12, 13, 14, 15, 16, 17, 18] [0, 1, 2, 3, 4, 5, 6, 7, 8, 9, 10, 11, 19] [0, 1, 2, 3, 4, 5, 6, 7, 8, 9, 10, 11, 13, 14, 15, 16, 17, 18, 19, 12] rfl rfl (by decide) (by decide) (by decide) (hwf := fun _ => rfl) (by decide) (ci := 1) rfl rfl rfl rfl hl.1 rfl (Nat.le_of_ble_eq_true rfl) dL_law_160 ⟨hcs, hss⟩ (fun v160 w160 H locs hv160 hP hD hS => ?_)
  refine w_top (v := iI 0) (hv160) ?_
  refine lv_istore (lv' := [(6, .int (iI 0)), (5, .int (iI 1)), (4, .int (iI ((i : Nat) : Int))), (3, .ref (b0)), (2, .ref (bd 0)), (1, .ref (ad 0)), (0, .ref (bS))]) hx hb dL_law_163 hl (by decide) rfl (fun ls hl => ?_)
  refine lv_aload_n hx hb dL_law_165 rfl (lv_at hl 4 rfl) ?_
  refine w_pV (As := []) (rest := []) ⟨hx, hb, hml, hown, hts⟩ hK (hP.sub (ws' := mw bd cI 1 nn mm bm tT oP sB sL sR sJ) [12, 13, 14, 15, 16, 17, 18] rfl) (mX1_thrown ) (cwV 0 hts gL_law_X1_thrown rfl rfl rfl (by decide +kernel) ⟨Nat.le_of_ble_eq_true rfl, Nat.le_of_ble_eq_true rfl⟩) (ci := 1) rfl rfl rfl rfl hl.1 rfl (Nat.le_of_ble_eq_true rfl) dL_law_166 ⟨hcs, hss⟩ (fun v166 hv166 => ?_)
  refine w_top (v := iI 1) (hv166) ?_
  refine lv_iload hx hb dL_law_169 (lv_at hl 1 rfl) ?_
  refine lv_icmp_eq (tgt := 176) hx hb dL_law_171 (by decide) (fun _ => ?_) (fun h9 => absurd rfl h9)
  refine lv_iload hx hb dL_law_176 (lv_at hl 1 rfl) ?_
  refine lv_if_ne (tgt := 193) hx hb dL_law_178 (by decide) (fun _ => ?_) (fun h9 => absurd h9 (by decide +kernel))
  refine lv_goto (tgt := 1461) hx hb dL_law_193 (by decide) ?_
  exact nx nn mm tT tB tE tL oO oR oQ zS zM zN oJ 1 bm oP sB sL sR sJ fL _ _ _ _ ls ⟨hn, hm, hT, hz, heq, hPm, hCK, hMb⟩ (Nat.le_refl _) (Nat.le_refl _) hP hD hS (lv_sub hl [2, 3, 4, 5, 6] rfl)
set_option maxHeartbeats 4000000 in
set_option maxRecDepth 100000 in
theorem law_1 {w : Nat} (B : L0 p s m args c sa A bS L xs D cI cZ cJ) (hMO : MO) (hl0 : l.stackTraces = false) (I : LInv nn mm tT oO oP zS zM zN oJ) (hi : i + 4 ≤ L) (hw : 1 ≤ w ∧ w ≤ 5) (e1 : xs (i + 1) = iI ((w : Int))) (hcs : cells + 1 ≤ 1053) (hss : slots + 6 ≤ 8592) (hP : va_P D vwCl (LWW ad bd b0 cI cZ cJ nn mm tT tB tE tL oO oR oQ zS zM zN oJ th nn mm bm tT oP sB sL sR sJ fL) H) (hD : va_D A (LWW ad bd b0 cI cZ cJ nn mm tT tB tE tL oO oR oQ zS zM zN oJ th nn mm bm tT oP sB sL sR sJ fL)) (hS : va_S A s.heap H locs) (hl : lv_has ls 9 [(4, .int (iI ((i : Nat) : Int))), (3, .ref (b0)), (2, .ref (bd 0)), (1, .ref (ad 0)), (0, .ref (bS))]) (nx : NX p l e s m args below meth c Q A D cI cZ cJ ad bd b0 bS i cells slots) : W p l e room_1 s m args below meth c H locs cells slots Q (F0 m 196 ls []) := by
  obtain ⟨hx, hb, hml, hown, hts, hK, hA, hX, hbl, hbA, hFX, hSX, hCX, hL⟩ := B
  obtain ⟨hn, hm, hT, hz, heq, hPm, hCK, hMb⟩ := id I
  have hO : ∀ k, k < nn → oO k < 7 := fun k hk => Nat.lt_of_lt_of_le (hPm.1 k hk) hn
  have hOP : ∀ k, k < nn → oP k < 7 := fun k hk => by rw [← heq k hk]; exact hO k hk
  refine lv_aload_n hx hb dL_law_196 rfl (lv_at hl 3 rfl) ?_
  refine lv_aload_n hx hb dL_law_197 rfl (lv_at hl 4 rfl) ?_
  refine lv_iload hx hb dL_law_198 (lv_at hl 0 rfl) ?_
  refine lv_iconst (v := iI 1) hx hb dL_law_200 rfl ?_
  refine w_iadd (z := ((i + 1 : Nat) : Int)) hx hb dL_law_201 (by omega) ?_
  refine w_sld hx hb hX hbl hbA hS hL (i + 1) rfl (by omega) e1 dL_law_202 ?_
  refine lv_aload_n hx hb dL_law_203 rfl (lv_at hl 1 rfl) ?_
  have hTX : TX sa s H := ⟨(hFX.kept hS.2.1).no, hSX, hCX⟩
  refine w_lS (As := [.ref (ad 0), .int (iI ((w : Int))), .ref (b0)]) (rest := []) (sa := sa) (wc := xw ad cI cZ nn mm tT tB tE tL oO oR oQ zS zM zN oJ ++ [(b0, .inl (cJ, 1, .inr (.inl (fL))))]) (wf := fun u : Unit => LWW ad bd b0 cI cZ cJ nn w (tzr tT w nn 0) tB tE tL oO oR oQ (zfl zS 3) zM zN oJ th nn mm bm tT oP sB sL sR sJ (lS fL (mm : Int))) (wr := mw bd cI th nn mm bm tT oP sB sL sR sJ) ⟨hx, hb, hml, hown, hts⟩ hK hP hD hS hA hTX (hL_setMachines hn hm hw) (vx_cwSW 3 hts gL_law_L_setMachines rfl rfl rfl (by decide +kernel) ⟨Nat.le_of_ble_eq_true rfl, Nat.le_of_ble_eq_true rfl⟩) [0, 1, 2, 3, 4, 5, 6, 7, 8, 9, 10, 11, 19] [12, 13, 14, 15, 16, 17, 18] [7, 8, 9, 10, 11, 12, 13, 14, 15, 16, 17, 18, 0, 1, 2, 3, 4, 5, 6, 19] rfl rfl (by decide) (by decide) (by decide) (hwf := fun _ => rfl) (by decide) rfl hl.1 rfl (Nat.le_of_ble_eq_true rfl) dL_law_204 ⟨hcs, hss⟩ (fun r1 u1 H locs hr1 hP hD hS => ?_)
  refine w_top (v := iI 0) (hr1) ?_
  refine lv_istore (lv' := [(5, .int (iI 0)), (4, .int (iI ((i : Nat) : Int))), (3, .ref (b0)), (2, .ref (bd 0)), (1, .ref (ad 0)), (0, .ref (bS))]) hx hb dL_law_207 hl (by decide) rfl (fun ls hl => ?_)
  refine lv_aload_n hx hb dL_law_209 rfl (lv_at hl 3 rfl) ?_
  refine lv_aload_n hx hb dL_law_210 rfl (lv_at hl 5 rfl) ?_
  refine lv_iload hx hb dL_law_211 (lv_at hl 1 rfl) ?_
  refine lv_iconst (v := iI 1) hx hb dL_law_213 rfl ?_
  refine w_iadd (z := ((i + 1 : Nat) : Int)) hx hb dL_law_214 (by omega) ?_
  refine w_sld hx hb hX hbl hbA hS hL (i + 1) rfl (by omega) e1 dL_law_215 ?_
  refine w_iV (As := [.int (iI ((w : Int)))]) (rest := []) (wc := mw bd cI th nn mm bm tT oP sB sL sR sJ) (wf := fun u : Unit => LWW ad bd b0 cI cZ cJ nn w (tzr tT w nn 0) tB tE tL oO oR oQ (zfl zS 3) zM zN oJ 0 nn w bm (tzm tT w 35) oP sB sL sR sJ (lS fL (mm : Int))) (wr := xw ad cI cZ nn w (tzr tT w nn 0) tB tE tL oO oR oQ (zfl zS 3) zM zN oJ ++ [(b0, .inl (cJ, 1, .inr (.inl (lS fL (mm : Int)))))]) ⟨hx, hb, hml, hown, hts⟩ hK hP hD hS hA (mX1_setMachines hn hm hw) (cwV 1 hts gL_law_X1_setMachines rfl rfl rfl (by decide +kernel) ⟨Nat.le_of_ble_eq_true rfl, Nat.le_of_ble_eq_true rfl⟩) [12, 13, 14, 15, 16, 17, 18] [0, 1, 2, 3, 4, 5, 6, 7, 8, 9, 10, 11, 19] [0, 1, 2, 3, 4, 5, 6, 7, 8, 9, 10, 11, 13, 14, 15, 16, 17, 18, 19, 12] rfl rfl (by decide) (by decide) (by decide) (hwf := fun _ => rfl) (by decide) (ci := 1) rfl rfl rfl rfl hl.1 rfl (Nat.le_of_ble_eq_true rfl) dL_law_216 ⟨hcs, hss⟩ (fun v216 w216 H locs hv216 hP hD hS => ?_)
  refine w_top (v := iI (mm : Int)) (hv216.trans (congrArg iI (rfl))) ?_
  rw [tz_eq hn hz] at hP hD
  refine lv_istore (lv' := [(6, .int (iI (mm : Int))), (5, .int (iI 0)), (4, .int (iI ((i : Nat) : Int))), (3, .ref (b0)), (2, .ref (bd 0)), (1, .ref (ad 0)), (0, .ref (bS))]) hx hb dL_law_219 hl (by decide) rfl (fun ls hl => ?_)
  refine lv_aload_n hx hb dL_law_221 rfl (lv_at hl 4 rfl) ?_
  refine w_pV (As := []) (rest := []) ⟨hx, hb, hml, hown, hts⟩ hK (hP.sub (ws' := mw bd cI 0 nn w bm (tzr tT w nn 0) oP sB sL sR sJ) [12, 13, 14, 15, 16, 17, 18] rfl) (mX1_thrown ) (cwV 0 hts gL_law_X1_thrown rfl rfl rfl (by decide +kernel) ⟨Nat.le_of_ble_eq_true rfl, Nat.le_of_ble_eq_true rfl⟩) (ci := 1) rfl rfl rfl rfl hl.1 rfl (Nat.le_of_ble_eq_true rfl) dL_law_222 ⟨hcs, hss⟩ (fun v222 hv222 => ?_)
  refine w_top (v := iI 0) (hv222) ?_
  refine lv_iload hx hb dL_law_225 (lv_at hl 1 rfl) ?_
  refine lv_icmp_eq (tgt := 232) hx hb dL_law_227 (by decide) (fun _ => ?_) (fun h9 => absurd rfl h9)
  refine lv_iload hx hb dL_law_232 (lv_at hl 1 rfl) ?_
  refine lv_if_ne (tgt := 249) hx hb dL_law_234 (by decide) (fun h9 => absurd (by decide +kernel) h9) (fun _ => ?_)
  refine lv_aload_n hx hb dL_law_237 rfl (lv_at hl 3 rfl) ?_
  refine lv_iconst (v := iI 0) hx hb dL_law_238 rfl ?_
  refine w_lald (v := (iI (mm : Int)).toInt64) hx hb hK hP 19 2 rfl rfl (lS_0 _ _) dL_law_239 ?_
  refine lv_iload hx hb dL_law_240 (lv_at hl 0 rfl) ?_
  refine lv_i2l (v := (iI (mm : Int)).toInt64) hx hb dL_law_242 rfl ?_
  refine w_lcmpE hx hb dL_law_243 ?_
  refine lv_if_eq (tgt := 249) hx hb dL_law_244 (by decide) (fun _ => ?_) (fun h9 => absurd rfl h9)
  refine lv_goto (tgt := 1461) hx hb dL_law_249 (by decide) ?_
  exact nx nn w (tzr tT w nn 0) tB tE tL oO oR oQ (zfl zS 3) zM zN oJ 0 bm oP sB sL sR sJ (lS fL (mm : Int)) _ _ _ _ ls ⟨hn, hw, (tz_rg hT), (tz_hz hz), heq, hPm, CK_0, hMb⟩ (Nat.le_refl _) (Nat.le_refl _) hP hD hS (lv_sub hl [2, 3, 4, 5, 6] rfl)
set_option maxHeartbeats 4000000 in
set_option maxRecDepth 100000 in
theorem law_1t {x : Int} (B : L0 p s m args c sa A bS L xs D cI cZ cJ) (hMO : MO) (hl0 : l.stackTraces = false) (I : LInv nn mm tT oO oP zS zM zN oJ) (hi : i + 4 ≤ L) (hr9 : -2147483648 ≤ x ∧ x ≤ 2147483647) (hbad : ¬ (1 ≤ x ∧ x ≤ 5)) (e1 : xs (i + 1) = iI (x)) (hcs : cells + 1 ≤ 1053) (hss : slots + 6 ≤ 8592) (hP : va_P D vwCl (LWW ad bd b0 cI cZ cJ nn mm tT tB tE tL oO oR oQ zS zM zN oJ th nn mm bm tT oP sB sL sR sJ fL) H) (hD : va_D A (LWW ad bd b0 cI cZ cJ nn mm tT tB tE tL oO oR oQ zS zM zN oJ th nn mm bm tT oP sB sL sR sJ fL)) (hS : va_S A s.heap H locs) (hl : lv_has ls 9 [(4, .int (iI ((i : Nat) : Int))), (3, .ref (b0)), (2, .ref (bd 0)), (1, .ref (ad 0)), (0, .ref (bS))]) (nx : NX p l e s m args below meth c Q A D cI cZ cJ ad bd b0 bS i cells slots) : W p l e room_1 s m args below meth c H locs cells slots Q (F0 m 196 ls []) := by
  obtain ⟨hx, hb, hml, hown, hts, hK, hA, hX, hbl, hbA, hFX, hSX, hCX, hL⟩ := B
  obtain ⟨hn, hm, hT, hz, heq, hPm, hCK, hMb⟩ := id I
  have hO : ∀ k, k < nn → oO k < 7 := fun k hk => Nat.lt_of_lt_of_le (hPm.1 k hk) hn
  have hOP : ∀ k, k < nn → oP k < 7 := fun k hk => by rw [← heq k hk]; exact hO k hk
  refine lv_aload_n hx hb dL_law_196 rfl (lv_at hl 3 rfl) ?_
  refine lv_aload_n hx hb dL_law_197 rfl (lv_at hl 4 rfl) ?_
  refine lv_iload hx hb dL_law_198 (lv_at hl 0 rfl) ?_
  refine lv_iconst (v := iI 1) hx hb dL_law_200 rfl ?_
  refine w_iadd (z := ((i + 1 : Nat) : Int)) hx hb dL_law_201 (by omega) ?_
  refine w_sld hx hb hX hbl hbA hS hL (i + 1) rfl (by omega) e1 dL_law_202 ?_
  refine lv_aload_n hx hb dL_law_203 rfl (lv_at hl 1 rfl) ?_
  have hTX : TX sa s H := ⟨(hFX.kept hS.2.1).no, hSX, hCX⟩
  refine w_lS (As := [.ref (ad 0), .int (iI (x)), .ref (b0)]) (rest := []) (sa := sa) (wc := xw ad cI cZ nn mm tT tB tE tL oO oR oQ zS zM zN oJ ++ [(b0, .inl (cJ, 1, .inr (.inl (fL))))]) (wf := fun u : Unit => LWW ad bd b0 cI cZ cJ nn mm tT tB tE tL oO oR oQ zS zM zN oJ th nn mm bm tT oP sB sL sR sJ fL) (wr := mw bd cI th nn mm bm tT oP sB sL sR sJ) ⟨hx, hb, hml, hown, hts⟩ hK hP hD hS hA hTX (hL_setMachines_t hl0 hr9 hbad) (vx_cwSW 3 hts gL_law_L_setMachines rfl rfl rfl (by decide +kernel) ⟨Nat.le_of_ble_eq_true rfl, Nat.le_of_ble_eq_true rfl⟩) [0, 1, 2, 3, 4, 5, 6, 7, 8, 9, 10, 11, 19] [12, 13, 14, 15, 16, 17, 18] [7, 8, 9, 10, 11, 12, 13, 14, 15, 16, 17, 18, 0, 1, 2, 3, 4, 5, 6, 19] rfl rfl (by decide) (by decide) (by decide) (hwf := fun _ => rfl) (by decide) rfl hl.1 rfl (Nat.le_of_ble_eq_true rfl) dL_law_204 ⟨hcs, hss⟩ (fun r1 u1 H locs hr1 hP hD hS => ?_)
  refine w_top (v := iI 1) (hr1) ?_
  refine lv_istore (lv' := [(5, .int (iI 1)), (4, .int (iI ((i : Nat) : Int))), (3, .ref (b0)), (2, .ref (bd 0)), (1, .ref (ad 0)), (0, .ref (bS))]) hx hb dL_law_207 hl (by decide) rfl (fun ls hl => ?_)
  refine lv_aload_n hx hb dL_law_209 rfl (lv_at hl 3 rfl) ?_
  refine lv_aload_n hx hb dL_law_210 rfl (lv_at hl 5 rfl) ?_
  refine lv_iload hx hb dL_law_211 (lv_at hl 1 rfl) ?_
  refine lv_iconst (v := iI 1) hx hb dL_law_213 rfl ?_
  refine w_iadd (z := ((i + 1 : Nat) : Int)) hx hb dL_law_214 (by omega) ?_
  refine w_sld hx hb hX hbl hbA hS hL (i + 1) rfl (by omega) e1 dL_law_215 ?_
  refine w_iV (As := [.int (iI (x))]) (rest := []) (wc := mw bd cI th nn mm bm tT oP sB sL sR sJ) (wf := fun u : Unit => LWW ad bd b0 cI cZ cJ nn mm tT tB tE tL oO oR oQ zS zM zN oJ 1 nn mm bm tT oP sB sL sR sJ fL) (wr := xw ad cI cZ nn mm tT tB tE tL oO oR oQ zS zM zN oJ ++ [(b0, .inl (cJ, 1, .inr (.inl (fL))))]) ⟨hx, hb, hml, hown, hts⟩ hK hP hD hS hA (mX1_setMachines_e hr9 hbad) (cwV 1 hts gL_law_X1_setMachines rfl rfl rfl (by decide +kernel) ⟨Nat.le_of_ble_eq_true rfl, Nat.le_of_ble_eq_true rfl⟩) [12, 13, 14, 15, 16, 17, 18] [0, 1, 2, 3, 4, 5, 6, 7, 8, 9, 10, 11, 19] [0, 1, 2, 3, 4, 5, 6, 7, 8, 9, 10, 11, 13, 14, 15, 16, 17, 18, 19, 12] rfl rfl (by decide) (by decide) (by decide) (hwf := fun _ => rfl) (by decide) (ci := 1) rfl rfl rfl rfl hl.1 rfl (Nat.le_of_ble_eq_true rfl) dL_law_216 ⟨hcs, hss⟩ (fun v216 w216 H locs hv216 hP hD hS => ?_)
  refine w_top (v := iI 0) (hv216) ?_
  refine lv_istore (lv' := [(6, .int (iI 0)), (5, .int (iI 1)), (4, .int (iI ((i : Nat) : Int))), (3, .ref (b0)), (2, .ref (bd 0)), (1, .ref (ad 0)), (0, .ref (bS))]) hx hb dL_law_219 hl (by decide) rfl (fun ls hl => ?_)
  refine lv_aload_n hx hb dL_law_221 rfl (lv_at hl 4 rfl) ?_
  refine w_pV (As := []) (rest := []) ⟨hx, hb, hml, hown, hts⟩ hK (hP.sub (ws' := mw bd cI 1 nn mm bm tT oP sB sL sR sJ) [12, 13, 14, 15, 16, 17, 18] rfl) (mX1_thrown ) (cwV 0 hts gL_law_X1_thrown rfl rfl rfl (by decide +kernel) ⟨Nat.le_of_ble_eq_true rfl, Nat.le_of_ble_eq_true rfl⟩) (ci := 1) rfl rfl rfl rfl hl.1 rfl (Nat.le_of_ble_eq_true rfl) dL_law_222 ⟨hcs, hss⟩ (fun v222 hv222 => ?_)
  refine w_top (v := iI 1) (hv222) ?_
  refine lv_iload hx hb dL_law_225 (lv_at hl 1 rfl) ?_
  refine lv_icmp_eq (tgt := 232) hx hb dL_law_227 (by decide) (fun _ => ?_) (fun h9 => absurd rfl h9)
  refine lv_iload hx hb dL_law_232 (lv_at hl 1 rfl) ?_
  refine lv_if_ne (tgt := 249) hx hb dL_law_234 (by decide) (fun _ => ?_) (fun h9 => absurd h9 (by decide +kernel))
  refine lv_goto (tgt := 1461) hx hb dL_law_249 (by decide) ?_
  exact nx nn mm tT tB tE tL oO oR oQ zS zM zN oJ 1 bm oP sB sL sR sJ fL _ _ _ _ ls ⟨hn, hm, hT, hz, heq, hPm, hCK, hMb⟩ (Nat.le_refl _) (Nat.le_refl _) hP hD hS (lv_sub hl [2, 3, 4, 5, 6] rfl)
set_option maxHeartbeats 4000000 in
set_option maxRecDepth 100000 in
theorem law_2 {j k : Nat} {x : Int} (B : L0 p s m args c sa A bS L xs D cI cZ cJ) (hMO : MO) (hl0 : l.stackTraces = false) (I : LInv nn mm tT oO oP zS zM zN oJ) (hi : i + 4 ≤ L) (hj : j < nn) (hk : k < mm) (hx9 : 0 ≤ x ∧ x ≤ 99) (e1 : xs (i + 1) = iI ((j : Int))) (e2 : xs (i + 2) = iI ((k : Int))) (e3 : xs (i + 3) = iI (x)) (hcs : cells + 1 ≤ 1053) (hss : slots + 6 ≤ 8592) (hP : va_P D vwCl (LWW ad bd b0 cI cZ cJ nn mm tT tB tE tL oO oR oQ zS zM zN oJ th nn mm bm tT oP sB sL sR sJ fL) H) (hD : va_D A (LWW ad bd b0 cI cZ cJ nn mm tT tB tE tL oO oR oQ zS zM zN oJ th nn mm bm tT oP sB sL sR sJ fL)) (hS : va_S A s.heap H locs) (hl : lv_has ls 9 [(4, .int (iI ((i : Nat) : Int))), (3, .ref (b0)), (2, .ref (bd 0)), (1, .ref (ad 0)), (0, .ref (bS))]) (nx : NX p l e s m args below meth c Q A D cI cZ cJ ad bd b0 bS i cells slots) : W p l e room_1 s m args below meth c H locs cells slots Q (F0 m 252 ls []) := by
  obtain ⟨hx, hb, hml, hown, hts, hK, hA, hX, hbl, hbA, hFX, hSX, hCX, hL⟩ := B
  obtain ⟨hn, hm, hT, hz, heq, hPm, hCK, hMb⟩ := id I
  have hO : ∀ k, k < nn → oO k < 7 := fun k hk => Nat.lt_of_lt_of_le (hPm.1 k hk) hn
  have hOP : ∀ k, k < nn → oP k < 7 := fun k hk => by rw [← heq k hk]; exact hO k hk
  refine lv_aload_n hx hb dL_law_252 rfl (lv_at hl 3 rfl) ?_
  refine lv_aload_n hx hb dL_law_253 rfl (lv_at hl 4 rfl) ?_
  refine lv_iload hx hb dL_law_254 (lv_at hl 0 rfl) ?_
  refine lv_iconst (v := iI 1) hx hb dL_law_256 rfl ?_
  refine w_iadd (z := ((i + 1 : Nat) : Int)) hx hb dL_law_257 (by omega) ?_
  refine w_sld hx hb hX hbl hbA hS hL (i + 1) rfl (by omega) e1 dL_law_258 ?_
  refine lv_aload_n hx hb dL_law_259 rfl (lv_at hl 4 rfl) ?_
  refine lv_iload hx hb dL_law_260 (lv_at hl 0 rfl) ?_
  refine lv_iconst (v := iI 2) hx hb dL_law_262 rfl ?_
  refine w_iadd (z := ((i + 2 : Nat) : Int)) hx hb dL_law_263 (by omega) ?_
  refine w_sld hx hb hX hbl hbA hS hL (i + 2) rfl (by omega) e2 dL_law_264 ?_
  refine lv_aload_n hx hb dL_law_265 rfl (lv_at hl 4 rfl) ?_
  refine lv_iload hx hb dL_law_266 (lv_at hl 0 rfl) ?_
  refine lv_iconst (v := iI 3) hx hb dL_law_268 rfl ?_
  refine w_iadd (z := ((i + 3 : Nat) : Int)) hx hb dL_law_269 (by omega) ?_
  refine w_sld hx hb hX hbl hbA hS hL (i + 3) rfl (by omega) e3 dL_law_270 ?_
  refine lv_aload_n hx hb dL_law_271 rfl (lv_at hl 1 rfl) ?_
  have hTX : TX sa s H := ⟨(hFX.kept hS.2.1).no, hSX, hCX⟩
  refine w_lS (As := [.ref (ad 0), .int (iI ((j : Int))), .int (iI ((k : Int))), .int (iI (x)), .ref (b0)]) (rest := []) (sa := sa) (wc := xw ad cI cZ nn mm tT tB tE tL oO oR oQ zS zM zN oJ ++ [(b0, .inl (cJ, 1, .inr (.inl (fL))))]) (wf := fun u : Unit => LWW ad bd b0 cI cZ cJ nn mm (va_up tT (5 * j + k) x) tB tE tL oO oR oQ (zfl zS 3) zM zN oJ th nn mm bm tT oP sB sL sR sJ (lS fL (tT (5 * j + k)))) (wr := mw bd cI th nn mm bm tT oP sB sL sR sJ) ⟨hx, hb, hml, hown, hts⟩ hK hP hD hS hA hTX (hL_setTime hn hm hj hk hx9) (vx_cwSW 5 hts gL_law_L_setTime rfl rfl rfl (by decide +kernel) ⟨Nat.le_of_ble_eq_true rfl, Nat.le_of_ble_eq_true rfl⟩) [0, 1, 2, 3, 4, 5, 6, 7, 8, 9, 10, 11, 19] [12, 13, 14, 15, 16, 17, 18] [7, 8, 9, 10, 11, 12, 13, 14, 15, 16, 17, 18, 0, 1, 2, 3, 4, 5, 6, 19] rfl rfl (by decide) (by decide) (by decide) (hwf := fun _ => rfl) (by decide) rfl hl.1 rfl (Nat.le_of_ble_eq_true rfl) dL_law_272 ⟨hcs, hss⟩ (fun r1 u1 H locs hr1 hP hD hS => ?_)
  refine w_top (v := iI 0) (hr1) ?_
  refine lv_istore (lv' := [(5, .int (iI 0)), (4, .int (iI ((i : Nat) : Int))), (3, .ref (b0)), (2, .ref (bd 0)), (1, .ref (ad 0)), (0, .ref (bS))]) hx hb dL_law_275 hl (by decide) rfl (fun ls hl => ?_)
  refine lv_aload_n hx hb dL_law_277 rfl (lv_at hl 3 rfl) ?_
  refine lv_aload_n hx hb dL_law_278 rfl (lv_at hl 5 rfl) ?_
  refine lv_iload hx hb dL_law_279 (lv_at hl 1 rfl) ?_
  refine lv_iconst (v := iI 1) hx hb dL_law_281 rfl ?_
  refine w_iadd (z := ((i + 1 : Nat) : Int)) hx hb dL_law_282 (by omega) ?_
  refine w_sld hx hb hX hbl hbA hS hL (i + 1) rfl (by omega) e1 dL_law_283 ?_
  refine lv_aload_n hx hb dL_law_284 rfl (lv_at hl 5 rfl) ?_
  refine lv_iload hx hb dL_law_285 (lv_at hl 1 rfl) ?_
  refine lv_iconst (v := iI 2) hx hb dL_law_287 rfl ?_
  refine w_iadd (z := ((i + 2 : Nat) : Int)) hx hb dL_law_288 (by omega) ?_
  refine w_sld hx hb hX hbl hbA hS hL (i + 2) rfl (by omega) e2 dL_law_289 ?_
  refine lv_aload_n hx hb dL_law_290 rfl (lv_at hl 5 rfl) ?_
  refine lv_iload hx hb dL_law_291 (lv_at hl 1 rfl) ?_
  refine lv_iconst (v := iI 3) hx hb dL_law_293 rfl ?_
  refine w_iadd (z := ((i + 3 : Nat) : Int)) hx hb dL_law_294 (by omega) ?_
  refine w_sld hx hb hX hbl hbA hS hL (i + 3) rfl (by omega) e3 dL_law_295 ?_
  refine w_iV (As := [.int (iI ((j : Int))), .int (iI ((k : Int))), .int (iI (x))]) (rest := []) (wc := mw bd cI th nn mm bm tT oP sB sL sR sJ) (wf := fun u : Unit => LWW ad bd b0 cI cZ cJ nn mm (va_up tT (5 * j + k) x) tB tE tL oO oR oQ (zfl zS 3) zM zN oJ 0 nn mm bm (va_up tT (5 * j + k) x) oP sB sL sR sJ (lS fL (tT (5 * j + k)))) (wr := xw ad cI cZ nn mm (va_up tT (5 * j + k) x) tB tE tL oO oR oQ (zfl zS 3) zM zN oJ ++ [(b0, .inl (cJ, 1, .inr (.inl (lS fL (tT (5 * j + k))))))]) ⟨hx, hb, hml, hown, hts⟩ hK hP hD hS hA (mX1_setTime hn hm hj hk hx9) (cwV 3 hts gL_law_X1_setTime rfl rfl rfl (by decide +kernel) ⟨Nat.le_of_ble_eq_true rfl, Nat.le_of_ble_eq_true rfl⟩) [12, 13, 14, 15, 16, 17, 18] [0, 1, 2, 3, 4, 5, 6, 7, 8, 9, 10, 11, 19] [0, 1, 2, 3, 4, 5, 6, 7, 8, 9, 10, 11, 13, 14, 15, 16, 17, 18, 19, 12] rfl rfl (by decide) (by decide) (by decide) (hwf := fun _ => rfl) (by decide) (ci := 1) rfl rfl rfl rfl hl.1 rfl (Nat.le_of_ble_eq_true rfl) dL_law_296 ⟨hcs, hss⟩ (fun v296 w296 H locs hv296 hP hD hS => ?_)
  refine w_top (v := iI (tT (5 * j + k))) (hv296.trans (congrArg iI (rfl))) ?_
  refine lv_istore (lv' := [(6, .int (iI (tT (5 * j + k)))), (5, .int (iI 0)), (4, .int (iI ((i : Nat) : Int))), (3, .ref (b0)), (2, .ref (bd 0)), (1, .ref (ad 0)), (0, .ref (bS))]) hx hb dL_law_299 hl (by decide) rfl (fun ls hl => ?_)
  refine lv_aload_n hx hb dL_law_301 rfl (lv_at hl 4 rfl) ?_
  refine w_pV (As := []) (rest := []) ⟨hx, hb, hml, hown, hts⟩ hK (hP.sub (ws' := mw bd cI 0 nn mm bm (va_up tT (5 * j + k) x) oP sB sL sR sJ) [12, 13, 14, 15, 16, 17, 18] rfl) (mX1_thrown ) (cwV 0 hts gL_law_X1_thrown rfl rfl rfl (by decide +kernel) ⟨Nat.le_of_ble_eq_true rfl, Nat.le_of_ble_eq_true rfl⟩) (ci := 1) rfl rfl rfl rfl hl.1 rfl (Nat.le_of_ble_eq_true rfl) dL_law_302 ⟨hcs, hss⟩ (fun v302 hv302 => ?_)
  refine w_top (v := iI 0) (hv302) ?_
  refine lv_iload hx hb dL_law_305 (lv_at hl 1 rfl) ?_
  refine lv_icmp_eq (tgt := 312) hx hb dL_law_307 (by decide) (fun _ => ?_) (fun h9 => absurd rfl h9)
  refine lv_iload hx hb dL_law_312 (lv_at hl 1 rfl) ?_
  refine lv_if_ne (tgt := 329) hx hb dL_law_314 (by decide) (fun h9 => absurd (by decide +kernel) h9) (fun _ => ?_)
  refine lv_aload_n hx hb dL_law_317 rfl (lv_at hl 3 rfl) ?_
  refine lv_iconst (v := iI 0) hx hb dL_law_318 rfl ?_
  refine w_lald (v := (iI (tT (5 * j + k))).toInt64) hx hb hK hP 19 2 rfl rfl (lS_0 _ _) dL_law_319 ?_
  refine lv_iload hx hb dL_law_320 (lv_at hl 0 rfl) ?_
  refine lv_i2l (v := (iI (tT (5 * j + k))).toInt64) hx hb dL_law_322 rfl ?_
  refine w_lcmpE hx hb dL_law_323 ?_
  refine lv_if_eq (tgt := 329) hx hb dL_law_324 (by decide) (fun _ => ?_) (fun h9 => absurd rfl h9)
  refine lv_goto (tgt := 1461) hx hb dL_law_329 (by decide) ?_
  exact nx nn mm (va_up tT (5 * j + k) x) tB tE tL oO oR oQ (zfl zS 3) zM zN oJ 0 bm oP sB sL sR sJ (lS fL (tT (5 * j + k))) _ _ _ _ ls ⟨hn, hm, (tu_rg hT hx9), (tu_hz hj hk hm.2 hz), heq, hPm, CK_0, hMb⟩ (Nat.le_refl _) (Nat.le_refl _) hP hD hS (lv_sub hl [2, 3, 4, 5, 6] rfl)
set_option maxHeartbeats 4000000 in
set_option maxRecDepth 100000 in
theorem law_2t {x y z : Int} (B : L0 p s m args c sa A bS L xs D cI cZ cJ) (hMO : MO) (hl0 : l.stackTraces = false) (I : LInv nn mm tT oO oP zS zM zN oJ) (hi : i + 4 ≤ L) (hr9 : -2147483648 ≤ x ∧ x ≤ 2147483647 ∧ -2147483648 ≤ y ∧ y ≤ 2147483647 ∧ -2147483648 ≤ z ∧ z ≤ 2147483647) (hbad : ¬ ((0 ≤ x ∧ x < (nn : Int)) ∧ 0 ≤ y ∧ y < (mm : Int))) (e1 : xs (i + 1) = iI (x)) (e2 : xs (i + 2) = iI (y)) (e3 : xs (i + 3) = iI (z)) (hcs : cells + 1 ≤ 1053) (hss : slots + 6 ≤ 8592) (hP : va_P D vwCl (LWW ad bd b0 cI cZ cJ nn mm tT tB tE tL oO oR oQ zS zM zN oJ th nn mm bm tT oP sB sL sR sJ fL) H) (hD : va_D A (LWW ad bd b0 cI cZ cJ nn mm tT tB tE tL oO oR oQ zS zM zN oJ th nn mm bm tT oP sB sL sR sJ fL)) (hS : va_S A s.heap H locs) (hl : lv_has ls 9 [(4, .int (iI ((i : Nat) : Int))), (3, .ref (b0)), (2, .ref (bd 0)), (1, .ref (ad 0)), (0, .ref (bS))]) (nx : NX p l e s m args below meth c Q A D cI cZ cJ ad bd b0 bS i cells slots) : W p l e room_1 s m args below meth c H locs cells slots Q (F0 m 252 ls []) := by
  obtain ⟨hx, hb, hml, hown, hts, hK, hA, hX, hbl, hbA, hFX, hSX, hCX, hL⟩ := B
  obtain ⟨hn, hm, hT, hz, heq, hPm, hCK, hMb⟩ := id I
  have hO : ∀ k, k < nn → oO k < 7 := fun k hk => Nat.lt_of_lt_of_le (hPm.1 k hk) hn
  have hOP : ∀ k, k < nn → oP k < 7 := fun k hk => by rw [← heq k hk]; exact hO k hk
  refine lv_aload_n hx hb dL_law_252 rfl (lv_at hl 3 rfl) ?_
  refine lv_aload_n hx hb dL_law_253 rfl (lv_at hl 4 rfl) ?_
  refine lv_iload hx hb dL_law_254 (lv_at hl 0 rfl) ?_
  refine lv_iconst (v := iI 1) hx hb dL_law_256 rfl ?_
  refine w_iadd (z := ((i + 1 : Nat) : Int)) hx hb dL_law_257 (by omega) ?_
  refine w_sld hx hb hX hbl hbA hS hL (i + 1) rfl (by omega) e1 dL_law_258 ?_
  refine lv_aload_n hx hb dL_law_259 rfl (lv_at hl 4 rfl) ?_
  refine lv_iload hx hb dL_law_260 (lv_at hl 0 rfl) ?_
  refine lv_iconst (v := iI 2) hx hb dL_law_262 rfl ?_
  refine w_iadd (z := ((i + 2 : Nat) : Int)) hx hb dL_law_263 (by omega) ?_
  refine w_sld hx hb hX hbl hbA hS hL (i + 2) rfl (by omega) e2 dL_law_264 ?_
  refine lv_aload_n hx hb dL_law_265 rfl (lv_at hl 4 rfl) ?_
  refine lv_iload hx hb dL_law_266 (lv_at hl 0 rfl) ?_
  refine lv_iconst (v := iI 3) hx hb dL_law_268 rfl ?_
  refine w_iadd (z := ((i + 3 : Nat) : Int)) hx hb dL_law_269 (by omega) ?_
  refine w_sld hx hb hX hbl hbA hS hL (i + 3) rfl (by omega) e3 dL_law_270 ?_
  refine lv_aload_n hx hb dL_law_271 rfl (lv_at hl 1 rfl) ?_
  have hTX : TX sa s H := ⟨(hFX.kept hS.2.1).no, hSX, hCX⟩
  refine w_lS (As := [.ref (ad 0), .int (iI (x)), .int (iI (y)), .int (iI (z)), .ref (b0)]) (rest := []) (sa := sa) (wc := xw ad cI cZ nn mm tT tB tE tL oO oR oQ zS zM zN oJ ++ [(b0, .inl (cJ, 1, .inr (.inl (fL))))]) (wf := fun u : Unit => LWW ad bd b0 cI cZ cJ nn mm tT tB tE tL oO oR oQ zS zM zN oJ th nn mm bm tT oP sB sL sR sJ fL) (wr := mw bd cI th nn mm bm tT oP sB sL sR sJ) ⟨hx, hb, hml, hown, hts⟩ hK hP hD hS hA hTX (hL_setTime_1_t hl0 hn hm hr9 hbad) (vx_cwSW 5 hts gL_law_L_setTime rfl rfl rfl (by decide +kernel) ⟨Nat.le_of_ble_eq_true rfl, Nat.le_of_ble_eq_true rfl⟩) [0, 1, 2, 3, 4, 5, 6, 7, 8, 9, 10, 11, 19] [12, 13, 14, 15, 16, 17, 18] [7, 8, 9, 10, 11, 12, 13, 14, 15, 16, 17, 18, 0, 1, 2, 3, 4, 5, 6, 19] rfl rfl (by decide) (by decide) (by decide) (hwf := fun _ => rfl) (by decide) rfl hl.1 rfl (Nat.le_of_ble_eq_true rfl) dL_law_272 ⟨hcs, hss⟩ (fun r1 u1 H locs hr1 hP hD hS => ?_)
  refine w_top (v := iI 1) (hr1) ?_
  refine lv_istore (lv' := [(5, .int (iI 1)), (4, .int (iI ((i : Nat) : Int))), (3, .ref (b0)), (2, .ref (bd 0)), (1, .ref (ad 0)), (0, .ref (bS))]) hx hb dL_law_275 hl (by decide) rfl (fun ls hl => ?_)
  refine lv_aload_n hx hb dL_law_277 rfl (lv_at hl 3 rfl) ?_
  refine lv_aload_n hx hb dL_law_278 rfl (lv_at hl 5 rfl) ?_
  refine lv_iload hx hb dL_law_279 (lv_at hl 1 rfl) ?_
  refine lv_iconst (v := iI 1) hx hb dL_law_281 rfl ?_
  refine w_iadd (z := ((i + 1 : Nat) : Int)) hx hb dL_law_282 (by omega) ?_
  refine w_sld hx hb hX hbl hbA hS hL (i + 1) rfl (by omega) e1 dL_law_283 ?_
  refine lv_aload_n hx hb dL_law_284 rfl (lv_at hl 5 rfl) ?_
  refine lv_iload hx hb dL_law_285 (lv_at hl 1 rfl) ?_
  refine lv_iconst (v := iI 2) hx hb dL_law_287 rfl ?_
  refine w_iadd (z := ((i + 2 : Nat) : Int)) hx hb dL_law_288 (by omega) ?_
  refine w_sld hx hb hX hbl hbA hS hL (i + 2) rfl (by omega) e2 dL_law_289 ?_
  refine lv_aload_n hx hb dL_law_290 rfl (lv_at hl 5 rfl) ?_
  refine lv_iload hx hb dL_law_291 (lv_at hl 1 rfl) ?_
  refine lv_iconst (v := iI 3) hx hb dL_law_293 rfl ?_
  refine w_iadd (z := ((i + 3 : Nat) : Int)) hx hb dL_law_294 (by omega) ?_
  refine w_sld hx hb hX hbl hbA hS hL (i + 3) rfl (by omega) e3 dL_law_295 ?_
  refine w_iV (As := [.int (iI (x)), .int (iI (y)), .int (iI (z))]) (rest := []) (wc := mw bd cI th nn mm bm tT oP sB sL sR sJ) (wf := fun u : Unit => LWW ad bd b0 cI cZ cJ nn mm tT tB tE tL oO oR oQ zS zM zN oJ 1 nn mm bm tT oP sB sL sR sJ fL) (wr := xw ad cI cZ nn mm tT tB tE tL oO oR oQ zS zM zN oJ ++ [(b0, .inl (cJ, 1, .inr (.inl (fL))))]) ⟨hx, hb, hml, hown, hts⟩ hK hP hD hS hA (mX1_setTime_e1 hn hm hr9 hbad) (cwV 3 hts gL_law_X1_setTime rfl rfl rfl (by decide +kernel) ⟨Nat.le_of_ble_eq_true rfl, Nat.le_of_ble_eq_true rfl⟩) [12, 13, 14, 15, 16, 17, 18] [0, 1, 2, 3, 4, 5, 6, 7, 8, 9, 10, 11, 19] [0, 1, 2, 3, 4, 5, 6, 7, 8, 9, 10, 11, 13, 14, 15, 16, 17, 18, 19, 12] rfl rfl (by decide) (by decide) (by decide) (hwf := fun _ => rfl) (by decide) (ci := 1) rfl rfl rfl rfl hl.1 rfl (Nat.le_of_ble_eq_true rfl) dL_law_296 ⟨hcs, hss⟩ (fun v296 w296 H locs hv296 hP hD hS => ?_)
  refine w_top (v := iI 0) (hv296) ?_
  refine lv_istore (lv' := [(6, .int (iI 0)), (5, .int (iI 1)), (4, .int (iI ((i : Nat) : Int))), (3, .ref (b0)), (2, .ref (bd 0)), (1, .ref (ad 0)), (0, .ref (bS))]) hx hb dL_law_299 hl (by decide) rfl (fun ls hl => ?_)
  refine lv_aload_n hx hb dL_law_301 rfl (lv_at hl 4 rfl) ?_
  refine w_pV (As := []) (rest := []) ⟨hx, hb, hml, hown, hts⟩ hK (hP.sub (ws' := mw bd cI 1 nn mm bm tT oP sB sL sR sJ) [12, 13, 14, 15, 16, 17, 18] rfl) (mX1_thrown ) (cwV 0 hts gL_law_X1_thrown rfl rfl rfl (by decide +kernel) ⟨Nat.le_of_ble_eq_true rfl, Nat.le_of_ble_eq_true rfl⟩) (ci := 1) rfl rfl rfl rfl hl.1 rfl (Nat.le_of_ble_eq_true rfl) dL_law_302 ⟨hcs, hss⟩ (fun v302 hv302 => ?_)
  refine w_top (v := iI 1) (hv302) ?_
  refine lv_iload hx hb dL_law_305 (lv_at hl 1 rfl) ?_
  refine lv_icmp_eq (tgt := 312) hx hb dL_law_307 (by decide) (fun _ => ?_) (fun h9 => absurd rfl h9)
  refine lv_iload hx hb dL_law_312 (lv_at hl 1 rfl) ?_
  refine lv_if_ne (tgt := 329) hx hb dL_law_314 (by decide) (fun _ => ?_) (fun h9 => absurd h9 (by decide +kernel))
  refine lv_goto (tgt := 1461) hx hb dL_law_329 (by decide) ?_
  exact nx nn mm tT tB tE tL oO oR oQ zS zM zN oJ 1 bm oP sB sL sR sJ fL _ _ _ _ ls ⟨hn, hm, hT, hz, heq, hPm, hCK, hMb⟩ (Nat.le_refl _) (Nat.le_refl _) hP hD hS (lv_sub hl [2, 3, 4, 5, 6] rfl)
set_option maxHeartbeats 4000000 in
set_option maxRecDepth 100000 in
theorem law_2u {j k : Nat} {x : Int} (B : L0 p s m args c sa A bS L xs D cI cZ cJ) (hMO : MO) (hl0 : l.stackTraces = false) (I : LInv nn mm tT oO oP zS zM zN oJ) (hi : i + 4 ≤ L) (hj : j < nn) (hk : k < mm) (hr9 : -2147483648 ≤ x ∧ x ≤ 2147483647) (hbad : ¬ (0 ≤ x ∧ x ≤ 99)) (e1 : xs (i + 1) = iI ((j : Int))) (e2 : xs (i + 2) = iI ((k : Int))) (e3 : xs (i + 3) = iI (x)) (hcs : cells + 1 ≤ 1053) (hss : slots + 6 ≤ 8592) (hP : va_P D vwCl (LWW ad bd b0 cI cZ cJ nn mm tT tB tE tL oO oR oQ zS zM zN oJ th nn mm bm tT oP sB sL sR sJ fL) H) (hD : va_D A (LWW ad bd b0 cI cZ cJ nn mm tT tB tE tL oO oR oQ zS zM zN oJ th nn mm bm tT oP sB sL sR sJ fL)) (hS : va_S A s.heap H locs) (hl : lv_has ls 9 [(4, .int (iI ((i : Nat) : Int))), (3, .ref (b0)), (2, .ref (bd 0)), (1, .ref (ad 0)), (0, .ref (bS))]) (nx : NX p l e s m args below meth c Q A D cI cZ cJ ad bd b0 bS i cells slots) : W p l e room_1 s m args below meth c H locs cells slots Q (F0 m 252 ls []) := by
  obtain ⟨hx, hb, hml, hown, hts, hK, hA, hX, hbl, hbA, hFX, hSX, hCX, hL⟩ := B
  obtain ⟨hn, hm, hT, hz, heq, hPm, hCK, hMb⟩ := id I
  have hO : ∀ k, k < nn → oO k < 7 := fun k hk => Nat.lt_of_lt_of_le (hPm.1 k hk) hn
  have hOP : ∀ k, k < nn → oP k < 7 := fun k hk => by rw [← heq k hk]; exact hO k hk
  refine lv_aload_n hx hb dL_law_252 rfl (lv_at hl 3 rfl) ?_
  refine lv_aload_n hx hb dL_law_253 rfl (lv_at hl 4 rfl) ?_
  refine lv_iload hx hb dL_law_254 (lv_at hl 0 rfl) ?_
  refine lv_iconst (v := iI 1) hx hb dL_law_256 rfl ?_
  refine w_iadd (z := ((i + 1 : Nat) : Int)) hx hb dL_law_257 (by omega) ?_
  refine w_sld hx hb hX hbl hbA hS hL (i + 1) rfl (by omega) e1 dL_law_258 ?_
  refine lv_aload_n hx hb dL_law_259 rfl (lv_at hl 4 rfl) ?_
  refine lv_iload hx hb dL_law_260 (lv_at hl 0 rfl) ?_
  refine lv_iconst (v := iI 2) hx hb dL_law_262 rfl ?_
  refine w_iadd (z := ((i + 2 : Nat) : Int)) hx hb dL_law_263 (by omega) ?_
  refine w_sld hx hb hX hbl hbA hS hL (i + 2) rfl (by omega) e2 dL_law_264 ?_
  refine lv_aload_n hx hb dL_law_265 rfl (lv_at hl 4 rfl) ?_
  refine lv_iload hx hb dL_law_266 (lv_at hl 0 rfl) ?_
  refine lv_iconst (v := iI 3) hx hb dL_law_268 rfl ?_
  refine w_iadd (z := ((i + 3 : Nat) : Int)) hx hb dL_law_269 (by omega) ?_
  refine w_sld hx hb hX hbl hbA hS hL (i + 3) rfl (by omega) e3 dL_law_270 ?_
  refine lv_aload_n hx hb dL_law_271 rfl (lv_at hl 1 rfl) ?_
  have hTX : TX sa s H := ⟨(hFX.kept hS.2.1).no, hSX, hCX⟩
  refine w_lS (As := [.ref (ad 0), .int (iI ((j : Int))), .int (iI ((k : Int))), .int (iI (x)), .ref (b0)]) (rest := []) (sa := sa) (wc := xw ad cI cZ nn mm tT tB tE tL oO oR oQ zS zM zN oJ ++ [(b0, .inl (cJ, 1, .inr (.inl (fL))))]) (wf := fun u : Unit => LWW ad bd b0 cI cZ cJ nn mm tT tB tE tL oO oR oQ zS zM zN oJ th nn mm bm tT oP sB sL sR sJ fL) (wr := mw bd cI th nn mm bm tT oP sB sL sR sJ) ⟨hx, hb, hml, hown, hts⟩ hK hP hD hS hA hTX (hL_setTime_2_t hl0 hn hm hj hk hr9 hbad) (vx_cwSW 5 hts gL_law_L_setTime rfl rfl rfl (by decide +kernel) ⟨Nat.le_of_ble_eq_true rfl, Nat.le_of_ble_eq_true rfl⟩) [0, 1, 2, 3, 4, 5, 6, 7, 8, 9, 10, 11, 19] [12, 13, 14, 15, 16, 17, 18] [7, 8, 9, 10, 11, 12, 13, 14, 15, 16, 17, 18, 0, 1, 2, 3, 4, 5, 6, 19] rfl rfl (by decide) (by decide) (by decide) (hwf := fun _ => rfl) (by decide) rfl hl.1 rfl (Nat.le_of_ble_eq_true rfl) dL_law_272 ⟨hcs, hss⟩ (fun r1 u1 H locs hr1 hP hD hS => ?_)
  refine w_top (v := iI 2) (hr1) ?_
  refine lv_istore (lv' := [(5, .int (iI 2)), (4, .int (iI ((i : Nat) : Int))), (3, .ref (b0)), (2, .ref (bd 0)), (1, .ref (ad 0)), (0, .ref (bS))]) hx hb dL_law_275 hl (by decide) rfl (fun ls hl => ?_)
  refine lv_aload_n hx hb dL_law_277 rfl (lv_at hl 3 rfl) ?_
  refine lv_aload_n hx hb dL_law_278 rfl (lv_at hl 5 rfl) ?_
  refine lv_iload hx hb dL_law_279 (lv_at hl 1 rfl) ?_
  refine lv_iconst (v := iI 1) hx hb dL_law_281 rfl ?_
  refine w_iadd (z := ((i + 1 : Nat) : Int)) hx hb dL_law_282 (by omega) ?_
  refine w_sld hx hb hX hbl hbA hS hL (i + 1) rfl (by omega) e1 dL_law_283 ?_
  refine lv_aload_n hx hb dL_law_284 rfl (lv_at hl 5 rfl) ?_
  refine lv_iload hx hb dL_law_285 (lv_at hl 1 rfl) ?_
  refine lv_iconst (v := iI 2) hx hb dL_law_287 rfl ?_
  refine w_iadd (z := ((i + 2 : Nat) : Int)) hx hb dL_law_288 (by omega) ?_
  refine w_sld hx hb hX hbl hbA hS hL (i + 2) rfl (by omega) e2 dL_law_289 ?_
  refine lv_aload_n hx hb dL_law_290 rfl (lv_at hl 5 rfl) ?_
  refine lv_iload hx hb dL_law_291 (lv_at hl 1 rfl) ?_
  refine lv_iconst (v := iI 3) hx hb dL_law_293 rfl ?_
  refine w_iadd (z := ((i + 3 : Nat) : Int)) hx hb dL_law_294 (by omega) ?_
  refine w_sld hx hb hX hbl hbA hS hL (i + 3) rfl (by omega) e3 dL_law_295 ?_
  refine w_iV (As := [.int (iI ((j : Int))), .int (iI ((k : Int))), .int (iI (x))]) (rest := []) (wc := mw bd cI th nn mm bm tT oP sB sL sR sJ) (wf := fun u : Unit => LWW ad bd b0 cI cZ cJ nn mm tT tB tE tL oO oR oQ zS zM zN oJ 2 nn mm bm tT oP sB sL sR sJ fL) (wr := xw ad cI cZ nn mm tT tB tE tL oO oR oQ zS zM zN oJ ++ [(b0, .inl (cJ, 1, .inr (.inl (fL))))]) ⟨hx, hb, hml, hown, hts⟩ hK hP hD hS hA (mX1_setTime_e2 hn hm hj hk hr9 hbad) (cwV 3 hts gL_law_X1_setTime rfl rfl rfl (by decide +kernel) ⟨Nat.le_of_ble_eq_true rfl, Nat.le_of_ble_eq_true rfl⟩) [12, 13, 14, 15, 16, 17, 18] [0, 1, 2, 3, 4, 5, 6, 7, 8, 9, 10, 11, 19] [0, 1, 2, 3, 4, 5, 6, 7, 8, 9, 10, 11, 13, 14, 15, 16, 17, 18, 19, 12] rfl rfl (by decide) (by decide) (by decide) (hwf := fun _ => rfl) (by decide) (ci := 1) rfl rfl rfl rfl hl.1 rfl (Nat.le_of_ble_eq_true rfl) dL_law_296 ⟨hcs, hss⟩ (fun v296 w296 H locs hv296 hP hD hS => ?_)
  refine w_top (v := iI 0) (hv296) ?_
  refine lv_istore (lv' := [(6, .int (iI 0)), (5, .int (iI 2)), (4, .int (iI ((i : Nat) : Int))), (3, .ref (b0)), (2, .ref (bd 0)), (1, .ref (ad 0)), (0, .ref (bS))]) hx hb dL_law_299 hl (by decide) rfl (fun ls hl => ?_)
  refine lv_aload_n hx hb dL_law_301 rfl (lv_at hl 4 rfl) ?_
  refine w_pV (As := []) (rest := []) ⟨hx, hb, hml, hown, hts⟩ hK (hP.sub (ws' := mw bd cI 2 nn mm bm tT oP sB sL sR sJ) [12, 13, 14, 15, 16, 17, 18] rfl) (mX1_thrown ) (cwV 0 hts gL_law_X1_thrown rfl rfl rfl (by decide +kernel) ⟨Nat.le_of_ble_eq_true rfl, Nat.le_of_ble_eq_true rfl⟩) (ci := 1) rfl rfl rfl rfl hl.1 rfl (Nat.le_of_ble_eq_true rfl) dL_law_302 ⟨hcs, hss⟩ (fun v302 hv302 => ?_)
  refine w_top (v := iI 2) (hv302) ?_
  refine lv_iload hx hb dL_law_305 (lv_at hl 1 rfl) ?_
  refine lv_icmp_eq (tgt := 312) hx hb dL_law_307 (by decide) (fun _ => ?_) (fun h9 => absurd rfl h9)
  refine lv_iload hx hb dL_law_312 (lv_at hl 1 rfl) ?_
  refine lv_if_ne (tgt := 329) hx hb dL_law_314 (by decide) (fun _ => ?_) (fun h9 => absurd h9 (by decide +kernel))
  refine lv_goto (tgt := 1461) hx hb dL_law_329 (by decide) ?_
  exact nx nn mm tT tB tE tL oO oR oQ zS zM zN oJ 2 bm oP sB sL sR sJ fL _ _ _ _ ls ⟨hn, hm, hT, hz, heq, hPm, hCK, hMb⟩ (Nat.le_refl _) (Nat.le_refl _) hP hD hS (lv_sub hl [2, 3, 4, 5, 6] rfl)
set_option maxHeartbeats 4000000 in
set_option maxRecDepth 100000 in
theorem law_3 {j k : Nat} (B : L0 p s m args c sa A bS L xs D cI cZ cJ) (hMO : MO) (hl0 : l.stackTraces = false) (I : LInv nn mm tT oO oP zS zM zN oJ) (hi : i + 4 ≤ L) (hj : j < nn) (hk : k < mm) (e1 : xs (i + 1) = iI ((j : Int))) (e2 : xs (i + 2) = iI ((k : Int))) (hcs : cells + 1 ≤ 1053) (hss : slots + 6 ≤ 8592) (hP : va_P D vwCl (LWW ad bd b0 cI cZ cJ nn mm tT tB tE tL oO oR oQ zS zM zN oJ th nn mm bm tT oP sB sL sR sJ fL) H) (hD : va_D A (LWW ad bd b0 cI cZ cJ nn mm tT tB tE tL oO oR oQ zS zM zN oJ th nn mm bm tT oP sB sL sR sJ fL)) (hS : va_S A s.heap H locs) (hl : lv_has ls 9 [(4, .int (iI ((i : Nat) : Int))), (3, .ref (b0)), (2, .ref (bd 0)), (1, .ref (ad 0)), (0, .ref (bS))]) (nx : NX p l e s m args below meth c Q A D cI cZ cJ ad bd b0 bS i cells slots) : W p l e room_1 s m args below meth c H locs cells slots Q (F0 m 332 ls []) := by
  obtain ⟨hx, hb, hml, hown, hts, hK, hA, hX, hbl, hbA, hFX, hSX, hCX, hL⟩ := B
  obtain ⟨hn, hm, hT, hz, heq, hPm, hCK, hMb⟩ := id I
  have hO : ∀ k, k < nn → oO k < 7 := fun k hk => Nat.lt_of_lt_of_le (hPm.1 k hk) hn
  have hOP : ∀ k, k < nn → oP k < 7 := fun k hk => by rw [← heq k hk]; exact hO k hk
  refine lv_aload_n hx hb dL_law_332 rfl (lv_at hl 3 rfl) ?_
  refine lv_aload_n hx hb dL_law_333 rfl (lv_at hl 4 rfl) ?_
  refine lv_iload hx hb dL_law_334 (lv_at hl 0 rfl) ?_
  refine lv_iconst (v := iI 1) hx hb dL_law_336 rfl ?_
  refine w_iadd (z := ((i + 1 : Nat) : Int)) hx hb dL_law_337 (by omega) ?_
  refine w_sld hx hb hX hbl hbA hS hL (i + 1) rfl (by omega) e1 dL_law_338 ?_
  refine lv_aload_n hx hb dL_law_339 rfl (lv_at hl 4 rfl) ?_
  refine lv_iload hx hb dL_law_340 (lv_at hl 0 rfl) ?_
  refine lv_iconst (v := iI 2) hx hb dL_law_342 rfl ?_
  refine w_iadd (z := ((i + 2 : Nat) : Int)) hx hb dL_law_343 (by omega) ?_
  refine w_sld hx hb hX hbl hbA hS hL (i + 2) rfl (by omega) e2 dL_law_344 ?_
  refine lv_aload_n hx hb dL_law_345 rfl (lv_at hl 1 rfl) ?_
  have hTX : TX sa s H := ⟨(hFX.kept hS.2.1).no, hSX, hCX⟩
  refine w_lS (As := [.ref (ad 0), .int (iI ((j : Int))), .int (iI ((k : Int))), .ref (b0)]) (rest := []) (sa := sa) (wc := xw ad cI cZ nn mm tT tB tE tL oO oR oQ zS zM zN oJ ++ [(b0, .inl (cJ, 1, .inr (.inl (fL))))]) (wf := fun u : Unit => LWW ad bd b0 cI cZ cJ nn mm tT tB tE tL oO oR oQ zS zM zN oJ th nn mm bm tT oP sB sL sR sJ (lS fL (tT (5 * j + k)))) (wr := mw bd cI th nn mm bm tT oP sB sL sR sJ) ⟨hx, hb, hml, hown, hts⟩ hK hP hD hS hA hTX (hL_time hn hm hj hk) (vx_cwSW 4 hts gL_law_L_time rfl rfl rfl (by decide +kernel) ⟨Nat.le_of_ble_eq_true rfl, Nat.le_of_ble_eq_true rfl⟩) [0, 1, 2, 3, 4, 5, 6, 7, 8, 9, 10, 11, 19] [12, 13, 14, 15, 16, 17, 18] [7, 8, 9, 10, 11, 12, 13, 14, 15, 16, 17, 18, 0, 1, 2, 3, 4, 5, 6, 19] rfl rfl (by decide) (by decide) (by decide) (hwf := fun _ => rfl) (by decide) rfl hl.1 rfl (Nat.le_of_ble_eq_true rfl) dL_law_346 ⟨hcs, hss⟩ (fun r1 u1 H locs hr1 hP hD hS => ?_)
  refine w_top (v := iI 0) (hr1) ?_
  refine lv_istore (lv' := [(5, .int (iI 0)), (4, .int (iI ((i : Nat) : Int))), (3, .ref (b0)), (2, .ref (bd 0)), (1, .ref (ad 0)), (0, .ref (bS))]) hx hb dL_law_349 hl (by decide) rfl (fun ls hl => ?_)
  refine lv_aload_n hx hb dL_law_351 rfl (lv_at hl 3 rfl) ?_
  refine lv_aload_n hx hb dL_law_352 rfl (lv_at hl 5 rfl) ?_
  refine lv_iload hx hb dL_law_353 (lv_at hl 1 rfl) ?_
  refine lv_iconst (v := iI 1) hx hb dL_law_355 rfl ?_
  refine w_iadd (z := ((i + 1 : Nat) : Int)) hx hb dL_law_356 (by omega) ?_
  refine w_sld hx hb hX hbl hbA hS hL (i + 1) rfl (by omega) e1 dL_law_357 ?_
  refine lv_aload_n hx hb dL_law_358 rfl (lv_at hl 5 rfl) ?_
  refine lv_iload hx hb dL_law_359 (lv_at hl 1 rfl) ?_
  refine lv_iconst (v := iI 2) hx hb dL_law_361 rfl ?_
  refine w_iadd (z := ((i + 2 : Nat) : Int)) hx hb dL_law_362 (by omega) ?_
  refine w_sld hx hb hX hbl hbA hS hL (i + 2) rfl (by omega) e2 dL_law_363 ?_
  refine w_iV (As := [.int (iI ((j : Int))), .int (iI ((k : Int)))]) (rest := []) (wc := mw bd cI th nn mm bm tT oP sB sL sR sJ) (wf := fun u : Unit => LWW ad bd b0 cI cZ cJ nn mm tT tB tE tL oO oR oQ zS zM zN oJ 0 nn mm bm tT oP sB sL sR sJ (lS fL (tT (5 * j + k)))) (wr := xw ad cI cZ nn mm tT tB tE tL oO oR oQ zS zM zN oJ ++ [(b0, .inl (cJ, 1, .inr (.inl (lS fL (tT (5 * j + k))))))]) ⟨hx, hb, hml, hown, hts⟩ hK hP hD hS hA (mX1_time hn hm hj hk) (cwV 2 hts gL_law_X1_time rfl rfl rfl (by decide +kernel) ⟨Nat.le_of_ble_eq_true rfl, Nat.le_of_ble_eq_true rfl⟩) [12, 13, 14, 15, 16, 17, 18] [0, 1, 2, 3, 4, 5, 6, 7, 8, 9, 10, 11, 19] [0, 1, 2, 3, 4, 5, 6, 7, 8, 9, 10, 11, 13, 14, 15, 16, 17, 18, 19, 12] rfl rfl (by decide) (by decide) (by decide) (hwf := fun _ => rfl) (by decide) (ci := 1) rfl rfl rfl rfl hl.1 rfl (Nat.le_of_ble_eq_true rfl) dL_law_364 ⟨hcs, hss⟩ (fun v364 w364 H locs hv364 hP hD hS => ?_)
  refine w_top (v := iI (tT (5 * j + k))) (hv364.trans (congrArg iI (rfl))) ?_
  refine lv_istore (lv' := [(6, .int (iI (tT (5 * j + k)))), (5, .int (iI 0)), (4, .int (iI ((i : Nat) : Int))), (3, .ref (b0)), (2, .ref (bd 0)), (1, .ref (ad 0)), (0, .ref (bS))]) hx hb dL_law_367 hl (by decide) rfl (fun ls hl => ?_)
  refine lv_aload_n hx hb dL_law_369 rfl (lv_at hl 4 rfl) ?_
  refine w_pV (As := []) (rest := []) ⟨hx, hb, hml, hown, hts⟩ hK (hP.sub (ws' := mw bd cI 0 nn mm bm tT oP sB sL sR sJ) [12, 13, 14, 15, 16, 17, 18] rfl) (mX1_thrown ) (cwV 0 hts gL_law_X1_thrown rfl rfl rfl (by decide +kernel) ⟨Nat.le_of_ble_eq_true rfl, Nat.le_of_ble_eq_true rfl⟩) (ci := 1) rfl rfl rfl rfl hl.1 rfl (Nat.le_of_ble_eq_true rfl) dL_law_370 ⟨hcs, hss⟩ (fun v370 hv370 => ?_)
  refine w_top (v := iI 0) (hv370) ?_
  refine lv_iload hx hb dL_law_373 (lv_at hl 1 rfl) ?_
  refine lv_icmp_eq (tgt := 380) hx hb dL_law_375 (by decide) (fun _ => ?_) (fun h9 => absurd rfl h9)
  refine lv_iload hx hb dL_law_380 (lv_at hl 1 rfl) ?_
  refine lv_if_ne (tgt := 397) hx hb dL_law_382 (by decide) (fun h9 => absurd (by decide +kernel) h9) (fun _ => ?_)
  refine lv_aload_n hx hb dL_law_385 rfl (lv_at hl 3 rfl) ?_
  refine lv_iconst (v := iI 0) hx hb dL_law_386 rfl ?_
  refine w_lald (v := (iI (tT (5 * j + k))).toInt64) hx hb hK hP 19 2 rfl rfl (lS_0 _ _) dL_law_387 ?_
  refine lv_iload hx hb dL_law_388 (lv_at hl 0 rfl) ?_
  refine lv_i2l (v := (iI (tT (5 * j + k))).toInt64) hx hb dL_law_390 rfl ?_
  refine w_lcmpE hx hb dL_law_391 ?_
  refine lv_if_eq (tgt := 397) hx hb dL_law_392 (by decide) (fun _ => ?_) (fun h9 => absurd rfl h9)
  refine lv_goto (tgt := 1461) hx hb dL_law_397 (by decide) ?_
  exact nx nn mm tT tB tE tL oO oR oQ zS zM zN oJ 0 bm oP sB sL sR sJ (lS fL (tT (5 * j + k))) _ _ _ _ ls ⟨hn, hm, hT, hz, heq, hPm, hCK, hMb⟩ (Nat.le_refl _) (Nat.le_refl _) hP hD hS (lv_sub hl [2, 3, 4, 5, 6] rfl)
set_option maxHeartbeats 4000000 in
set_option maxRecDepth 100000 in
theorem law_3t {x y : Int} (B : L0 p s m args c sa A bS L xs D cI cZ cJ) (hMO : MO) (hl0 : l.stackTraces = false) (I : LInv nn mm tT oO oP zS zM zN oJ) (hi : i + 4 ≤ L) (hr9 : -2147483648 ≤ x ∧ x ≤ 2147483647 ∧ -2147483648 ≤ y ∧ y ≤ 2147483647) (hbad : ¬ ((0 ≤ x ∧ x < (nn : Int)) ∧ 0 ≤ y ∧ y < (mm : Int))) (e1 : xs (i + 1) = iI (x)) (e2 : xs (i + 2) = iI (y)) (hcs : cells + 1 ≤ 1053) (hss : slots + 6 ≤ 8592) (hP : va_P D vwCl (LWW ad bd b0 cI cZ cJ nn mm tT tB tE tL oO oR oQ zS zM zN oJ th nn mm bm tT oP sB sL sR sJ fL) H) (hD : va_D A (LWW ad bd b0 cI cZ cJ nn mm tT tB tE tL oO oR oQ zS zM zN oJ th nn mm bm tT oP sB sL sR sJ fL)) (hS : va_S A s.heap H locs) (hl : lv_has ls 9 [(4, .int (iI ((i : Nat) : Int))), (3, .ref (b0)), (2, .ref (bd 0)), (1, .ref (ad 0)), (0, .ref (bS))]) (nx : NX p l e s m args below meth c Q A D cI cZ cJ ad bd b0 bS i cells slots) : W p l e room_1 s m args below meth c H locs cells slots Q (F0 m 332 ls []) := by
  obtain ⟨hx, hb, hml, hown, hts, hK, hA, hX, hbl, hbA, hFX, hSX, hCX, hL⟩ := B
  obtain ⟨hn, hm, hT, hz, heq, hPm, hCK, hMb⟩ := id I
  have hO : ∀ k, k < nn → oO k < 7 := fun k hk => Nat.lt_of_lt_of_le (hPm.1 k hk) hn
  have hOP : ∀ k, k < nn → oP k < 7 := fun k hk => by rw [← heq k hk]; exact hO k hk
  refine lv_aload_n hx hb dL_law_332 rfl (lv_at hl 3 rfl) ?_
  refine lv_aload_n hx hb dL_law_333 rfl (lv_at hl 4 rfl) ?_
  refine lv_iload hx hb dL_law_334 (lv_at hl 0 rfl) ?_
  refine lv_iconst (v := iI 1) hx hb dL_law_336 rfl ?_
  refine w_iadd (z := ((i + 1 : Nat) : Int)) hx hb dL_law_337 (by omega) ?_
  refine w_sld hx hb hX hbl hbA hS hL (i + 1) rfl (by omega) e1 dL_law_338 ?_
  refine lv_aload_n hx hb dL_law_339 rfl (lv_at hl 4 rfl) ?_
  refine lv_iload hx hb dL_law_340 (lv_at hl 0 rfl) ?_
  refine lv_iconst (v := iI 2) hx hb dL_law_342 rfl ?_
  refine w_iadd (z := ((i + 2 : Nat) : Int)) hx hb dL_law_343 (by omega) ?_
  refine w_sld hx hb hX hbl hbA hS hL (i + 2) rfl (by omega) e2 dL_law_344 ?_
  refine lv_aload_n hx hb dL_law_345 rfl (lv_at hl 1 rfl) ?_
  have hTX : TX sa s H := ⟨(hFX.kept hS.2.1).no, hSX, hCX⟩
  refine w_lS (As := [.ref (ad 0), .int (iI (x)), .int (iI (y)), .ref (b0)]) (rest := []) (sa := sa) (wc := xw ad cI cZ nn mm tT tB tE tL oO oR oQ zS zM zN oJ ++ [(b0, .inl (cJ, 1, .inr (.inl (fL))))]) (wf := fun u : Unit => LWW ad bd b0 cI cZ cJ nn mm tT tB tE tL oO oR oQ zS zM zN oJ th nn mm bm tT oP sB sL sR sJ fL) (wr := mw bd cI th nn mm bm tT oP sB sL sR sJ) ⟨hx, hb, hml, hown, hts⟩ hK hP hD hS hA hTX (hL_time_t hl0 hn hm hr9 hbad) (vx_cwSW 4 hts gL_law_L_time rfl rfl rfl (by decide +kernel) ⟨Nat.le_of_ble_eq_true rfl, Nat.le_of_ble_eq_true rfl⟩) [0, 1, 2, 3, 4, 5, 6, 7, 8, 9, 10, 11, 19] [12, 13, 14, 15, 16, 17, 18] [7, 8, 9, 10, 11, 12, 13, 14, 15, 16, 17, 18, 0, 1, 2, 3, 4, 5, 6, 19] rfl rfl (by decide) (by decide) (by decide) (hwf := fun _ => rfl) (by decide) rfl hl.1 rfl (Nat.le_of_ble_eq_true rfl) dL_law_346 ⟨hcs, hss⟩ (fun r1 u1 H locs hr1 hP hD hS => ?_)
  refine w_top (v := iI 1) (hr1) ?_
  refine lv_istore (lv' := [(5, .int (iI 1)), (4, .int (iI ((i : Nat) : Int))), (3, .ref (b0)), (2, .ref (bd 0)), (1, .ref (ad 0)), (0, .ref (bS))]) hx hb dL_law_349 hl (by decide) rfl (fun ls hl => ?_)
  refine lv_aload_n hx hb dL_law_351 rfl (lv_at hl 3 rfl) ?_
  refine lv_aload_n hx hb dL_law_352 rfl (lv_at hl 5 rfl) ?_
  refine lv_iload hx hb dL_law_353 (lv_at hl 1 rfl) ?_
  refine lv_iconst (v := iI 1) hx hb dL_law_355 rfl ?_
  refine w_iadd (z := ((i + 1 : Nat) : Int)) hx hb dL_law_356 (by omega) ?_
  refine w_sld hx hb hX hbl hbA hS hL (i + 1) rfl (by omega) e1 dL_law_357 ?_
  refine lv_aload_n hx hb dL_law_358 rfl (lv_at hl 5 rfl) ?_
  refine lv_iload hx hb dL_law_359 (lv_at hl 1 rfl) ?_
  refine lv_iconst (v := iI 2) hx hb dL_law_361 rfl ?_
  refine w_iadd (z := ((i + 2 : Nat) : Int)) hx hb dL_law_362 (by omega) ?_
  refine w_sld hx hb hX hbl hbA hS hL (i + 2) rfl (by omega) e2 dL_law_363 ?_
  refine w_iV (As := [.int (iI (x)), .int (iI (y))]) (rest := []) (wc := mw bd cI th nn mm bm tT oP sB sL sR sJ) (wf := fun u : Unit => LWW ad bd b0 cI cZ cJ nn mm tT tB tE tL oO oR oQ zS zM zN oJ 1 nn mm bm tT oP sB sL sR sJ fL) (wr := xw ad cI cZ nn mm tT tB tE tL oO oR oQ zS zM zN oJ ++ [(b0, .inl (cJ, 1, .inr (.inl (fL))))]) ⟨hx, hb, hml, hown, hts⟩ hK hP hD hS hA (mX1_time_e hn hm hr9 hbad) (cwV 2 hts gL_law_X1_time rfl rfl rfl (by decide +kernel) ⟨Nat.le_of_ble_eq_true rfl, Nat.le_of_ble_eq_true rfl⟩) [12, 13, 14, 15, 16, 17, 18] [0, 1, 2, 3, 4, 5, 6, 7, 8, 9, 10, 11, 19] [0, 1, 2, 3, 4, 5, 6, 7, 8, 9, 10, 11, 13, 14, 15, 16, 17, 18, 19, 12] rfl rfl (by decide) (by decide) (by decide) (hwf := fun _ => rfl) (by decide) (ci := 1) rfl rfl rfl rfl hl.1 rfl (Nat.le_of_ble_eq_true rfl) dL_law_364 ⟨hcs, hss⟩ (fun v364 w364 H locs hv364 hP hD hS => ?_)
  refine w_top (v := iI 0) (hv364) ?_
  refine lv_istore (lv' := [(6, .int (iI 0)), (5, .int (iI 1)), (4, .int (iI ((i : Nat) : Int))), (3, .ref (b0)), (2, .ref (bd 0)), (1, .ref (ad 0)), (0, .ref (bS))]) hx hb dL_law_367 hl (by decide) rfl (fun ls hl => ?_)
  refine lv_aload_n hx hb dL_law_369 rfl (lv_at hl 4 rfl) ?_
  refine w_pV (As := []) (rest := []) ⟨hx, hb, hml, hown, hts⟩ hK (hP.sub (ws' := mw bd cI 1 nn mm bm tT oP sB sL sR sJ) [12, 13, 14, 15, 16, 17, 18] rfl) (mX1_thrown ) (cwV 0 hts gL_law_X1_thrown rfl rfl rfl (by decide +kernel) ⟨Nat.le_of_ble_eq_true rfl, Nat.le_of_ble_eq_true rfl⟩) (ci := 1) rfl rfl rfl rfl hl.1 rfl (Nat.le_of_ble_eq_true rfl) dL_law_370 ⟨hcs, hss⟩ (fun v370 hv370 => ?_)
  refine w_top (v := iI 1) (hv370) ?_
  refine lv_iload hx hb dL_law_373 (lv_at hl 1 rfl) ?_
  refine lv_icmp_eq (tgt := 380) hx hb dL_law_375 (by decide) (fun _ => ?_) (fun h9 => absurd rfl h9)
  refine lv_iload hx hb dL_law_380 (lv_at hl 1 rfl) ?_
  refine lv_if_ne (tgt := 397) hx hb dL_law_382 (by decide) (fun _ => ?_) (fun h9 => absurd h9 (by decide +kernel))
  refine lv_goto (tgt := 1461) hx hb dL_law_397 (by decide) ?_
  exact nx nn mm tT tB tE tL oO oR oQ zS zM zN oJ 1 bm oP sB sL sR sJ fL _ _ _ _ ls ⟨hn, hm, hT, hz, heq, hPm, hCK, hMb⟩ (Nat.le_refl _) (Nat.le_refl _) hP hD hS (lv_sub hl [2, 3, 4, 5, 6] rfl)
set_option maxHeartbeats 4000000 in
set_option maxRecDepth 100000 in
theorem law_4  (B : L0 p s m args c sa A bS L xs D cI cZ cJ) (hMO : MO) (hl0 : l.stackTraces = false) (I : LInv nn mm tT oO oP zS zM zN oJ) (hi : i + 4 ≤ L)  (hcs : cells + 1 ≤ 1053) (hss : slots + 6 ≤ 8592) (hP : va_P D vwCl (LWW ad bd b0 cI cZ cJ nn mm tT tB tE tL oO oR oQ zS zM zN oJ th nn mm bm tT oP sB sL sR sJ fL) H) (hD : va_D A (LWW ad bd b0 cI cZ cJ nn mm tT tB tE tL oO oR oQ zS zM zN oJ th nn mm bm tT oP sB sL sR sJ fL)) (hS : va_S A s.heap H locs) (hl : lv_has ls 9 [(4, .int (iI ((i : Nat) : Int))), (3, .ref (b0)), (2, .ref (bd 0)), (1, .ref (ad 0)), (0, .ref (bS))]) (nx : NX p l e s m args below meth c Q A D cI cZ cJ ad bd b0 bS i cells slots) : W p l e room_1 s m args below meth c H locs cells slots Q (F0 m 400 ls []) := by
  obtain ⟨hx, hb, hml, hown, hts, hK, hA, hX, hbl, hbA, hFX, hSX, hCX, hL⟩ := B
  obtain ⟨hn, hm, hT, hz, heq, hPm, hCK, hMb⟩ := id I
  have hO : ∀ k, k < nn → oO k < 7 := fun k hk => Nat.lt_of_lt_of_le (hPm.1 k hk) hn
  have hOP : ∀ k, k < nn → oP k < 7 := fun k hk => by rw [← heq k hk]; exact hO k hk
  refine lv_aload_n hx hb dL_law_400 rfl (lv_at hl 3 rfl) ?_
  refine w_pV (As := []) (rest := []) ⟨hx, hb, hml, hown, hts⟩ hK (hP.sub (ws' := xw ad cI cZ nn mm tT tB tE tL oO oR oQ zS zM zN oJ) [0, 1, 2, 3, 4, 5, 6, 7, 8, 9, 10, 11] rfl) (mX0_jobs ) (cwV 0 hts gL_law_X0_jobs rfl rfl rfl (by decide +kernel) ⟨Nat.le_of_ble_eq_true rfl, Nat.le_of_ble_eq_true rfl⟩) (ci := 0) rfl rfl rfl rfl hl.1 rfl (Nat.le_of_ble_eq_true rfl) dL_law_401 ⟨Nat.le_of_succ_le hcs, Nat.le_trans (Nat.le_add_right _ 6) hss⟩ (fun v401 hv401 => ?_)
  refine w_top (v := iI (nn : Int)) (hv401) ?_
  refine lv_aload_n hx hb dL_law_404 rfl (lv_at hl 2 rfl) ?_
  refine w_iV (As := []) (rest := [.int (iI (nn : Int))]) (wc := mw bd cI th nn mm bm tT oP sB sL sR sJ) (wf := fun u : Unit => LWW ad bd b0 cI cZ cJ nn mm tT tB tE tL oO oR oQ zS zM zN oJ 0 nn mm bm tT oP sB sL sR sJ fL) (wr := xw ad cI cZ nn mm tT tB tE tL oO oR oQ zS zM zN oJ ++ [(b0, .inl (cJ, 1, .inr (.inl (fL))))]) ⟨hx, hb, hml, hown, hts⟩ hK hP hD hS hA (mX1_jobs ) (cwV 0 hts gL_law_X1_jobs rfl rfl rfl (by decide +kernel) ⟨Nat.le_of_ble_eq_true rfl, Nat.le_of_ble_eq_true rfl⟩) [12, 13, 14, 15, 16, 17, 18] [0, 1, 2, 3, 4, 5, 6, 7, 8, 9, 10, 11, 19] [0, 1, 2, 3, 4, 5, 6, 7, 8, 9, 10, 11, 13, 14, 15, 16, 17, 18, 19, 12] rfl rfl (by decide) (by decide) (by decide) (hwf := fun _ => rfl) (by decide) (ci := 1) rfl rfl rfl rfl hl.1 rfl (Nat.le_of_ble_eq_true rfl) dL_law_405 ⟨Nat.le_of_succ_le hcs, Nat.le_trans (Nat.le_add_right _ 6) hss⟩ (fun v405 w405 H locs hv405 hP hD hS => ?_)
  refine w_top (v := iI (nn : Int)) (hv405.trans (congrArg iI (rfl))) ?_
  refine lv_icmp_eq (tgt := 1461) hx hb dL_law_408 (by decide) (fun _ => ?_) (fun h9 => absurd rfl h9)
  exact nx nn mm tT tB tE tL oO oR oQ zS zM zN oJ 0 bm oP sB sL sR sJ fL _ _ _ _ ls ⟨hn, hm, hT, hz, heq, hPm, hCK, hMb⟩ (Nat.le_succ _) (Nat.le_add_right _ _) hP hD hS (lv_sub hl [0, 1, 2, 3, 4] rfl)
set_option maxHeartbeats 4000000 in
set_option maxRecDepth 100000 in
theorem law_5  (B : L0 p s m args c sa A bS L xs D cI cZ cJ) (hMO : MO) (hl0 : l.stackTraces = false) (I : LInv nn mm tT oO oP zS zM zN oJ) (hi : i + 4 ≤ L)  (hcs : cells + 1 ≤ 1053) (hss : slots + 6 ≤ 8592) (hP : va_P D vwCl (LWW ad bd b0 cI cZ cJ nn mm tT tB tE tL oO oR oQ zS zM zN oJ th nn mm bm tT oP sB sL sR sJ fL) H) (hD : va_D A (LWW ad bd b0 cI cZ cJ nn mm tT tB tE tL oO oR oQ zS zM zN oJ th nn mm bm tT oP sB sL sR sJ fL)) (hS : va_S A s.heap H locs) (hl : lv_has ls 9 [(4, .int (iI ((i : Nat) : Int))), (3, .ref (b0)), (2, .ref (bd 0)), (1, .ref (ad 0)), (0, .ref (bS))]) (nx : NX p l e s m args below meth c Q A D cI cZ cJ ad bd b0 bS i cells slots) : W p l e room_1 s m args below meth c H locs cells slots Q (F0 m 413 ls []) := by
  obtain ⟨hx, hb, hml, hown, hts, hK, hA, hX, hbl, hbA, hFX, hSX, hCX, hL⟩ := B
  obtain ⟨hn, hm, hT, hz, heq, hPm, hCK, hMb⟩ := id I
  have hO : ∀ k, k < nn → oO k < 7 := fun k hk => Nat.lt_of_lt_of_le (hPm.1 k hk) hn
  have hOP : ∀ k, k < nn → oP k < 7 := fun k hk => by rw [← heq k hk]; exact hO k hk
  refine lv_aload_n hx hb dL_law_413 rfl (lv_at hl 3 rfl) ?_
  refine w_pV (As := []) (rest := []) ⟨hx, hb, hml, hown, hts⟩ hK (hP.sub (ws' := xw ad cI cZ nn mm tT tB tE tL oO oR oQ zS zM zN oJ) [0, 1, 2, 3, 4, 5, 6, 7, 8, 9, 10, 11] rfl) (mX0_machines ) (cwV 0 hts gL_law_X0_machines rfl rfl rfl (by decide +kernel) ⟨Nat.le_of_ble_eq_true rfl, Nat.le_of_ble_eq_true rfl⟩) (ci := 0) rfl rfl rfl rfl hl.1 rfl (Nat.le_of_ble_eq_true rfl) dL_law_414 ⟨Nat.le_of_succ_le hcs, Nat.le_trans (Nat.le_add_right _ 6) hss⟩ (fun v414 hv414 => ?_)
  refine w_top (v := iI (mm : Int)) (hv414) ?_
  refine lv_aload_n hx hb dL_law_417 rfl (lv_at hl 2 rfl) ?_
  refine w_iV (As := []) (rest := [.int (iI (mm : Int))]) (wc := mw bd cI th nn mm bm tT oP sB sL sR sJ) (wf := fun u : Unit => LWW ad bd b0 cI cZ cJ nn mm tT tB tE tL oO oR oQ zS zM zN oJ 0 nn mm bm tT oP sB sL sR sJ fL) (wr := xw ad cI cZ nn mm tT tB tE tL oO oR oQ zS zM zN oJ ++ [(b0, .inl (cJ, 1, .inr (.inl (fL))))]) ⟨hx, hb, hml, hown, hts⟩ hK hP hD hS hA (mX1_machines ) (cwV 0 hts gL_law_X1_machines rfl rfl rfl (by decide +kernel) ⟨Nat.le_of_ble_eq_true rfl, Nat.le_of_ble_eq_true rfl⟩) [12, 13, 14, 15, 16, 17, 18] [0, 1, 2, 3, 4, 5, 6, 7, 8, 9, 10, 11, 19] [0, 1, 2, 3, 4, 5, 6, 7, 8, 9, 10, 11, 13, 14, 15, 16, 17, 18, 19, 12] rfl rfl (by decide) (by decide) (by decide) (hwf := fun _ => rfl) (by decide) (ci := 1) rfl rfl rfl rfl hl.1 rfl (Nat.le_of_ble_eq_true rfl) dL_law_418 ⟨Nat.le_of_succ_le hcs, Nat.le_trans (Nat.le_add_right _ 6) hss⟩ (fun v418 w418 H locs hv418 hP hD hS => ?_)
  refine w_top (v := iI (mm : Int)) (hv418.trans (congrArg iI (rfl))) ?_
  refine lv_icmp_eq (tgt := 1461) hx hb dL_law_421 (by decide) (fun _ => ?_) (fun h9 => absurd rfl h9)
  exact nx nn mm tT tB tE tL oO oR oQ zS zM zN oJ 0 bm oP sB sL sR sJ fL _ _ _ _ ls ⟨hn, hm, hT, hz, heq, hPm, hCK, hMb⟩ (Nat.le_succ _) (Nat.le_add_right _ _) hP hD hS (lv_sub hl [0, 1, 2, 3, 4] rfl)
set_option maxHeartbeats 4000000 in
set_option maxRecDepth 100000 in
theorem law_6 {q : Nat} (B : L0 p s m args c sa A bS L xs D cI cZ cJ) (hMO : MO) (hl0 : l.stackTraces = false) (I : LInv nn mm tT oO oP zS zM zN oJ) (hi : i + 4 ≤ L) (hq : q < nn) (e1 : xs (i + 1) = iI ((q : Int))) (hcs : cells + 1 ≤ 1053) (hss : slots + 6 ≤ 8592) (hP : va_P D vwCl (LWW ad bd b0 cI cZ cJ nn mm tT tB tE tL oO oR oQ zS zM zN oJ th nn mm bm tT oP sB sL sR sJ fL) H) (hD : va_D A (LWW ad bd b0 cI cZ cJ nn mm tT tB tE tL oO oR oQ zS zM zN oJ th nn mm bm tT oP sB sL sR sJ fL)) (hS : va_S A s.heap H locs) (hl : lv_has ls 9 [(4, .int (iI ((i : Nat) : Int))), (3, .ref (b0)), (2, .ref (bd 0)), (1, .ref (ad 0)), (0, .ref (bS))]) (nx : NX p l e s m args below meth c Q A D cI cZ cJ ad bd b0 bS i cells slots) : W p l e room_1 s m args below meth c H locs cells slots Q (F0 m 426 ls []) := by
  obtain ⟨hx, hb, hml, hown, hts, hK, hA, hX, hbl, hbA, hFX, hSX, hCX, hL⟩ := B
  obtain ⟨hn, hm, hT, hz, heq, hPm, hCK, hMb⟩ := id I
  have hO : ∀ k, k < nn → oO k < 7 := fun k hk => Nat.lt_of_lt_of_le (hPm.1 k hk) hn
  have hOP : ∀ k, k < nn → oP k < 7 := fun k hk => by rw [← heq k hk]; exact hO k hk
  refine lv_aload_n hx hb dL_law_426 rfl (lv_at hl 3 rfl) ?_
  refine lv_aload_n hx hb dL_law_427 rfl (lv_at hl 4 rfl) ?_
  refine lv_iload hx hb dL_law_428 (lv_at hl 0 rfl) ?_
  refine lv_iconst (v := iI 1) hx hb dL_law_430 rfl ?_
  refine w_iadd (z := ((i + 1 : Nat) : Int)) hx hb dL_law_431 (by omega) ?_
  refine w_sld hx hb hX hbl hbA hS hL (i + 1) rfl (by omega) e1 dL_law_432 ?_
  refine lv_aload_n hx hb dL_law_433 rfl (lv_at hl 1 rfl) ?_
  have hTX : TX sa s H := ⟨(hFX.kept hS.2.1).no, hSX, hCX⟩
  refine w_lS (As := [.ref (ad 0), .int (iI ((q : Int))), .ref (b0)]) (rest := []) (sa := sa) (wc := xw ad cI cZ nn mm tT tB tE tL oO oR oQ zS zM zN oJ ++ [(b0, .inl (cJ, 1, .inr (.inl (fL))))]) (wf := fun u : Unit => LWW ad bd b0 cI cZ cJ nn mm tT tB tE tL oO oR oQ zS zM zN oJ th nn mm bm tT oP sB sL sR sJ (lS fL ((oO q : Nat) : Int))) (wr := mw bd cI th nn mm bm tT oP sB sL sR sJ) ⟨hx, hb, hml, hown, hts⟩ hK hP hD hS hA hTX (hL_jobAt hn hm hq) (vx_cwSW 3 hts gL_law_L_jobAt rfl rfl rfl (by decide +kernel) ⟨Nat.le_of_ble_eq_true rfl, Nat.le_of_ble_eq_true rfl⟩) [0, 1, 2, 3, 4, 5, 6, 7, 8, 9, 10, 11, 19] [12, 13, 14, 15, 16, 17, 18] [7, 8, 9, 10, 11, 12, 13, 14, 15, 16, 17, 18, 0, 1, 2, 3, 4, 5, 6, 19] rfl rfl (by decide) (by decide) (by decide) (hwf := fun _ => rfl) (by decide) rfl hl.1 rfl (Nat.le_of_ble_eq_true rfl) dL_law_434 ⟨hcs, hss⟩ (fun r1 u1 H locs hr1 hP hD hS => ?_)
  refine w_top (v := iI 0) (hr1) ?_
  refine lv_istore (lv' := [(5, .int (iI 0)), (4, .int (iI ((i : Nat) : Int))), (3, .ref (b0)), (2, .ref (bd 0)), (1, .ref (ad 0)), (0, .ref (bS))]) hx hb dL_law_437 hl (by decide) rfl (fun ls hl => ?_)
  refine lv_aload_n hx hb dL_law_439 rfl (lv_at hl 3 rfl) ?_
  refine lv_aload_n hx hb dL_law_440 rfl (lv_at hl 5 rfl) ?_
  refine lv_iload hx hb dL_law_441 (lv_at hl 1 rfl) ?_
  refine lv_iconst (v := iI 1) hx hb dL_law_443 rfl ?_
  refine w_iadd (z := ((i + 1 : Nat) : Int)) hx hb dL_law_444 (by omega) ?_
  refine w_sld hx hb hX hbl hbA hS hL (i + 1) rfl (by omega) e1 dL_law_445 ?_
  refine w_iV (As := [.int (iI ((q : Int)))]) (rest := []) (wc := mw bd cI th nn mm bm tT oP sB sL sR sJ) (wf := fun u : Unit => LWW ad bd b0 cI cZ cJ nn mm tT tB tE tL oO oR oQ zS zM zN oJ 0 nn mm bm tT oP sB sL sR sJ (lS fL ((oO q : Nat) : Int))) (wr := xw ad cI cZ nn mm tT tB tE tL oO oR oQ zS zM zN oJ ++ [(b0, .inl (cJ, 1, .inr (.inl (lS fL ((oO q : Nat) : Int)))))]) ⟨hx, hb, hml, hown, hts⟩ hK hP hD hS hA (mX1_jobAt hn hm hq) (cwV 1 hts gL_law_X1_jobAt rfl rfl rfl (by decide +kernel) ⟨Nat.le_of_ble_eq_true rfl, Nat.le_of_ble_eq_true rfl⟩) [12, 13, 14, 15, 16, 17, 18] [0, 1, 2, 3, 4, 5, 6, 7, 8, 9, 10, 11, 19] [0, 1, 2, 3, 4, 5, 6, 7, 8, 9, 10, 11, 13, 14, 15, 16, 17, 18, 19, 12] rfl rfl (by decide) (by decide) (by decide) (hwf := fun _ => rfl) (by decide) (ci := 1) rfl rfl rfl rfl hl.1 rfl (Nat.le_of_ble_eq_true rfl) dL_law_446 ⟨hcs, hss⟩ (fun v446 w446 H locs hv446 hP hD hS => ?_)
  refine w_top (v := iI ((oO q : Nat) : Int)) (hv446.trans (congrArg iI (by rw [heq q hq]))) ?_
  refine lv_istore (lv' := [(6, .int (iI ((oO q : Nat) : Int))), (5, .int (iI 0)), (4, .int (iI ((i : Nat) : Int))), (3, .ref (b0)), (2, .ref (bd 0)), (1, .ref (ad 0)), (0, .ref (bS))]) hx hb dL_law_449 hl (by decide) rfl (fun ls hl => ?_)
  refine lv_aload_n hx hb dL_law_451 rfl (lv_at hl 4 rfl) ?_
  refine w_pV (As := []) (rest := []) ⟨hx, hb, hml, hown, hts⟩ hK (hP.sub (ws' := mw bd cI 0 nn mm bm tT oP sB sL sR sJ) [12, 13, 14, 15, 16, 17, 18] rfl) (mX1_thrown ) (cwV 0 hts gL_law_X1_thrown rfl rfl rfl (by decide +kernel) ⟨Nat.le_of_ble_eq_true rfl, Nat.le_of_ble_eq_true rfl⟩) (ci := 1) rfl rfl rfl rfl hl.1 rfl (Nat.le_of_ble_eq_true rfl) dL_law_452 ⟨hcs, hss⟩ (fun v452 hv452 => ?_)
  refine w_top (v := iI 0) (hv452) ?_
  refine lv_iload hx hb dL_law_455 (lv_at hl 1 rfl) ?_
  refine lv_icmp_eq (tgt := 462) hx hb dL_law_457 (by decide) (fun _ => ?_) (fun h9 => absurd rfl h9)
  refine lv_iload hx hb dL_law_462 (lv_at hl 1 rfl) ?_
  refine lv_if_ne (tgt := 479) hx hb dL_law_464 (by decide) (fun h9 => absurd (by decide +kernel) h9) (fun _ => ?_)
  refine lv_aload_n hx hb dL_law_467 rfl (lv_at hl 3 rfl) ?_
  refine lv_iconst (v := iI 0) hx hb dL_law_468 rfl ?_
  refine w_lald (v := (iI ((oO q : Nat) : Int)).toInt64) hx hb hK hP 19 2 rfl rfl (lS_0 _ _) dL_law_469 ?_
  refine lv_iload hx hb dL_law_470 (lv_at hl 0 rfl) ?_
  refine lv_i2l (v := (iI ((oO q : Nat) : Int)).toInt64) hx hb dL_law_472 rfl ?_
  refine w_lcmpE hx hb dL_law_473 ?_
  refine lv_if_eq (tgt := 479) hx hb dL_law_474 (by decide) (fun _ => ?_) (fun h9 => absurd rfl h9)
  refine lv_goto (tgt := 1461) hx hb dL_law_479 (by decide) ?_
  exact nx nn mm tT tB tE tL oO oR oQ zS zM zN oJ 0 bm oP sB sL sR sJ (lS fL ((oO q : Nat) : Int)) _ _ _ _ ls ⟨hn, hm, hT, hz, heq, hPm, hCK, hMb⟩ (Nat.le_refl _) (Nat.le_refl _) hP hD hS (lv_sub hl [2, 3, 4, 5, 6] rfl)
set_option maxHeartbeats 4000000 in
set_option maxRecDepth 100000 in
theorem law_6t {x : Int} (B : L0 p s m args c sa A bS L xs D cI cZ cJ) (hMO : MO) (hl0 : l.stackTraces = false) (I : LInv nn mm tT oO oP zS zM zN oJ) (hi : i + 4 ≤ L) (hr9 : -2147483648 ≤ x ∧ x ≤ 2147483647) (hbad : ¬ (0 ≤ x ∧ x < (nn : Int))) (e1 : xs (i + 1) = iI (x)) (hcs : cells + 1 ≤ 1053) (hss : slots + 6 ≤ 8592) (hP : va_P D vwCl (LWW ad bd b0 cI cZ cJ nn mm tT tB tE tL oO oR oQ zS zM zN oJ th nn mm bm tT oP sB sL sR sJ fL) H) (hD : va_D A (LWW ad bd b0 cI cZ cJ nn mm tT tB tE tL oO oR oQ zS zM zN oJ th nn mm bm tT oP sB sL sR sJ fL)) (hS : va_S A s.heap H locs) (hl : lv_has ls 9 [(4, .int (iI ((i : Nat) : Int))), (3, .ref (b0)), (2, .ref (bd 0)), (1, .ref (ad 0)), (0, .ref (bS))]) (nx : NX p l e s m args below meth c Q A D cI cZ cJ ad bd b0 bS i cells slots) : W p l e room_1 s m args below meth c H locs cells slots Q (F0 m 426 ls []) := by
  obtain ⟨hx, hb, hml, hown, hts, hK, hA, hX, hbl, hbA, hFX, hSX, hCX, hL⟩ := B
  obtain ⟨hn, hm, hT, hz, heq, hPm, hCK, hMb⟩ := id I
  have hO : ∀ k, k < nn → oO k < 7 := fun k hk => Nat.lt_of_lt_of_le (hPm.1 k hk) hn
  have hOP : ∀ k, k < nn → oP k < 7 := fun k hk => by rw [← heq k hk]; exact hO k hk
  refine lv_aload_n hx hb dL_law_426 rfl (lv_at hl 3 rfl) ?_
  refine lv_aload_n hx hb dL_law_427 rfl (lv_at hl 4 rfl) ?_
  refine lv_iload hx hb dL_law_428 (lv_at hl 0 rfl) ?_
  refine lv_iconst (v := iI 1) hx hb dL_law_430 rfl ?_
  refine w_iadd (z := ((i + 1 : Nat) : Int)) hx hb dL_law_431 (by omega) ?_
  refine w_sld hx hb hX hbl hbA hS hL (i + 1) rfl (by omega) e1 dL_law_432 ?_
  refine lv_aload_n hx hb dL_law_433 rfl (lv_at hl 1 rfl) ?_
  have hTX : TX sa s H := ⟨(hFX.kept hS.2.1).no, hSX, hCX⟩
  refine w_lS (As := [.ref (ad 0), .int (iI (x)), .ref (b0)]) (rest := []) (sa := sa) (wc := xw ad cI cZ nn mm tT tB tE tL oO oR oQ zS zM zN oJ ++ [(b0, .inl (cJ, 1, .inr (.inl (fL))))]) (wf := fun u : Unit => LWW ad bd b0 cI cZ cJ nn mm tT tB tE tL oO oR oQ zS zM zN oJ th nn mm bm tT oP sB sL sR sJ fL) (wr := mw bd cI th nn mm bm tT oP sB sL sR sJ) ⟨hx, hb, hml, hown, hts⟩ hK hP hD hS hA hTX (hL_jobAt_t hl0 hn hm hr9 hbad) (vx_cwSW 3 hts gL_law_L_jobAt rfl rfl rfl (by decide +kernel) ⟨Nat.le_of_ble_eq_true rfl, Nat.le_of_ble_eq_true rfl⟩) [0, 1, 2, 3, 4, 5, 6, 7, 8, 9, 10, 11, 19] [12, 13, 14, 15, 16, 17, 18] [7, 8, 9, 10, 11, 12, 13, 14, 15, 16, 17, 18, 0, 1, 2, 3, 4, 5, 6, 19] rfl rfl (by decide) (by decide) (by decide) (hwf := fun _ => rfl) (by decide) rfl hl.1 rfl (Nat.le_of_ble_eq_true rfl) dL_law_434 ⟨hcs, hss⟩ (fun r1 u1 H locs hr1 hP hD hS => ?_)
  refine w_top (v := iI 1) (hr1) ?_
  refine lv_istore (lv' := [(5, .int (iI 1)), (4, .int (iI ((i : Nat) : Int))), (3, .ref (b0)), (2, .ref (bd 0)), (1, .ref (ad 0)), (0, .ref (bS))]) hx hb dL_law_437 hl (by decide) rfl (fun ls hl => ?_)
  refine lv_aload_n hx hb dL_law_439 rfl (lv_at hl 3 rfl) ?_
  refine lv_aload_n hx hb dL_law_440 rfl (lv_at hl 5 rfl) ?_
  refine lv_iload hx hb dL_law_441 (lv_at hl 1 rfl) ?_
  refine lv_iconst (v := iI 1) hx hb dL_law_443 rfl ?_
  refine w_iadd (z := ((i + 1 : Nat) : Int)) hx hb dL_law_444 (by omega) ?_
  refine w_sld hx hb hX hbl hbA hS hL (i + 1) rfl (by omega) e1 dL_law_445 ?_
  refine w_iV (As := [.int (iI (x))]) (rest := []) (wc := mw bd cI th nn mm bm tT oP sB sL sR sJ) (wf := fun u : Unit => LWW ad bd b0 cI cZ cJ nn mm tT tB tE tL oO oR oQ zS zM zN oJ 1 nn mm bm tT oP sB sL sR sJ fL) (wr := xw ad cI cZ nn mm tT tB tE tL oO oR oQ zS zM zN oJ ++ [(b0, .inl (cJ, 1, .inr (.inl (fL))))]) ⟨hx, hb, hml, hown, hts⟩ hK hP hD hS hA (mX1_jobAt_e hn hr9 hbad) (cwV 1 hts gL_law_X1_jobAt rfl rfl rfl (by decide +kernel) ⟨Nat.le_of_ble_eq_true rfl, Nat.le_of_ble_eq_true rfl⟩) [12, 13, 14, 15, 16, 17, 18] [0, 1, 2, 3, 4, 5, 6, 7, 8, 9, 10, 11, 19] [0, 1, 2, 3, 4, 5, 6, 7, 8, 9, 10, 11, 13, 14, 15, 16, 17, 18, 19, 12] rfl rfl (by decide) (by decide) (by decide) (hwf := fun _ => rfl) (by decide) (ci := 1) rfl rfl rfl rfl hl.1 rfl (Nat.le_of_ble_eq_true rfl) dL_law_446 ⟨hcs, hss⟩ (fun v446 w446 H locs hv446 hP hD hS => ?_)
  refine w_top (v := iI 0) (hv446) ?_
  refine lv_istore (lv' := [(6, .int (iI 0)), (5, .int (iI 1)), (4, .int (iI ((i : Nat) : Int))), (3, .ref (b0)), (2, .ref (bd 0)), (1, .ref (ad 0)), (0, .ref (bS))]) hx hb dL_law_449 hl (by decide) rfl (fun ls hl => ?_)
  refine lv_aload_n hx hb dL_law_451 rfl (lv_at hl 4 rfl) ?_
  refine w_pV (As := []) (rest := []) ⟨hx, hb, hml, hown, hts⟩ hK (hP.sub (ws' := mw bd cI 1 nn mm bm tT oP sB sL sR sJ) [12, 13, 14, 15, 16, 17, 18] rfl) (mX1_thrown ) (cwV 0 hts gL_law_X1_thrown rfl rfl rfl (by decide +kernel) ⟨Nat.le_of_ble_eq_true rfl, Nat.le_of_ble_eq_true rfl⟩) (ci := 1) rfl rfl rfl rfl hl.1 rfl (Nat.le_of_ble_eq_true rfl) dL_law_452 ⟨hcs, hss⟩ (fun v452 hv452 => ?_)
  refine w_top (v := iI 1) (hv452) ?_
  refine lv_iload hx hb dL_law_455 (lv_at hl 1 rfl) ?_
  refine lv_icmp_eq (tgt := 462) hx hb dL_law_457 (by decide) (fun _ => ?_) (fun h9 => absurd rfl h9)
  refine lv_iload hx hb dL_law_462 (lv_at hl 1 rfl) ?_
  refine lv_if_ne (tgt := 479) hx hb dL_law_464 (by decide) (fun _ => ?_) (fun h9 => absurd h9 (by decide +kernel))
  refine lv_goto (tgt := 1461) hx hb dL_law_479 (by decide) ?_
  exact nx nn mm tT tB tE tL oO oR oQ zS zM zN oJ 1 bm oP sB sL sR sJ fL _ _ _ _ ls ⟨hn, hm, hT, hz, heq, hPm, hCK, hMb⟩ (Nat.le_refl _) (Nat.le_refl _) hP hD hS (lv_sub hl [2, 3, 4, 5, 6] rfl)
set_option maxHeartbeats 4000000 in
set_option maxRecDepth 100000 in
theorem law_7 {j q b : Nat} (B : L0 p s m args c sa A bS L xs D cI cZ cJ) (hMO : MO) (hl0 : l.stackTraces = false) (I : LInv nn mm tT oO oP zS zM zN oJ) (hi : i + 4 ≤ L) (hjn : j < nn) (hq : q < nn) (hj : j = oO q) (hw : ∀ k, k < q → oO k ≠ j) (hbn : b < nn) (e1 : xs (i + 1) = iI ((j : Int))) (e2 : xs (i + 2) = iI ((b : Int))) (hcs : cells + 1 ≤ 1053) (hss : slots + 6 ≤ 8592) (hP : va_P D vwCl (LWW ad bd b0 cI cZ cJ nn mm tT tB tE tL oO oR oQ zS zM zN oJ th nn mm bm tT oP sB sL sR sJ fL) H) (hD : va_D A (LWW ad bd b0 cI cZ cJ nn mm tT tB tE tL oO oR oQ zS zM zN oJ th nn mm bm tT oP sB sL sR sJ fL)) (hS : va_S A s.heap H locs) (hl : lv_has ls 9 [(4, .int (iI ((i : Nat) : Int))), (3, .ref (b0)), (2, .ref (bd 0)), (1, .ref (ad 0)), (0, .ref (bS))]) (nx : NX p l e s m args below meth c Q A D cI cZ cJ ad bd b0 bS i cells slots) : W p l e room_1 s m args below meth c H locs cells slots Q (F0 m 482 ls []) := by
  obtain ⟨hx, hb, hml, hown, hts, hK, hA, hX, hbl, hbA, hFX, hSX, hCX, hL⟩ := B
  obtain ⟨hn, hm, hT, hz, heq, hPm, hCK, hMb⟩ := id I
  have hO : ∀ k, k < nn → oO k < 7 := fun k hk => Nat.lt_of_lt_of_le (hPm.1 k hk) hn
  have hOP : ∀ k, k < nn → oP k < 7 := fun k hk => by rw [← heq k hk]; exact hO k hk
  refine lv_aload_n hx hb dL_law_482 rfl (lv_at hl 3 rfl) ?_
  refine lv_aload_n hx hb dL_law_483 rfl (lv_at hl 4 rfl) ?_
  refine lv_iload hx hb dL_law_484 (lv_at hl 0 rfl) ?_
  refine lv_iconst (v := iI 1) hx hb dL_law_486 rfl ?_
  refine w_iadd (z := ((i + 1 : Nat) : Int)) hx hb dL_law_487 (by omega) ?_
  refine w_sld hx hb hX hbl hbA hS hL (i + 1) rfl (by omega) e1 dL_law_488 ?_
  refine lv_aload_n hx hb dL_law_489 rfl (lv_at hl 4 rfl) ?_
  refine lv_iload hx hb dL_law_490 (lv_at hl 0 rfl) ?_
  refine lv_iconst (v := iI 2) hx hb dL_law_492 rfl ?_
  refine w_iadd (z := ((i + 2 : Nat) : Int)) hx hb dL_law_493 (by omega) ?_
  refine w_sld hx hb hX hbl hbA hS hL (i + 2) rfl (by omega) e2 dL_law_494 ?_
  refine lv_aload_n hx hb dL_law_495 rfl (lv_at hl 1 rfl) ?_
  have hTX : TX sa s H := ⟨(hFX.kept hS.2.1).no, hSX, hCX⟩
  refine w_lS (As := [.ref (ad 0), .int (iI ((j : Int))), .int (iI ((b : Int))), .ref (b0)]) (rest := []) (sa := sa) (wc := xw ad cI cZ nn mm tT tB tE tL oO oR oQ zS zM zN oJ ++ [(b0, .inl (cJ, 1, .inr (.inl (fL))))]) (wf := fun u : Unit => LWW ad bd b0 cI cZ cJ nn mm tT tB tE tL (shf oO q b) oR oQ zS zM zN oJ th nn mm bm tT oP sB sL sR sJ (lS fL (q : Int))) (wr := mw bd cI th nn mm bm tT oP sB sL sR sJ) ⟨hx, hb, hml, hown, hts⟩ hK hP hD hS hA hTX (hL_move hn hm hO hjn hq hj hw hbn) (vx_cwSW 4 hts gL_law_L_move rfl rfl rfl (by decide +kernel) ⟨Nat.le_of_ble_eq_true rfl, Nat.le_of_ble_eq_true rfl⟩) [0, 1, 2, 3, 4, 5, 6, 7, 8, 9, 10, 11, 19] [12, 13, 14, 15, 16, 17, 18] [7, 8, 9, 10, 11, 12, 13, 14, 15, 16, 17, 18, 0, 1, 2, 3, 4, 5, 6, 19] rfl rfl (by decide) (by decide) (by decide) (hwf := fun _ => rfl) (by decide) rfl hl.1 rfl (Nat.le_of_ble_eq_true rfl) dL_law_496 ⟨hcs, hss⟩ (fun r1 u1 H locs hr1 hP hD hS => ?_)
  refine w_top (v := iI 0) (hr1) ?_
  refine lv_istore (lv' := [(5, .int (iI 0)), (4, .int (iI ((i : Nat) : Int))), (3, .ref (b0)), (2, .ref (bd 0)), (1, .ref (ad 0)), (0, .ref (bS))]) hx hb dL_law_499 hl (by decide) rfl (fun ls hl => ?_)
  refine lv_aload_n hx hb dL_law_501 rfl (lv_at hl 3 rfl) ?_
  refine lv_aload_n hx hb dL_law_502 rfl (lv_at hl 5 rfl) ?_
  refine lv_iload hx hb dL_law_503 (lv_at hl 1 rfl) ?_
  refine lv_iconst (v := iI 1) hx hb dL_law_505 rfl ?_
  refine w_iadd (z := ((i + 1 : Nat) : Int)) hx hb dL_law_506 (by omega) ?_
  refine w_sld hx hb hX hbl hbA hS hL (i + 1) rfl (by omega) e1 dL_law_507 ?_
  refine lv_aload_n hx hb dL_law_508 rfl (lv_at hl 5 rfl) ?_
  refine lv_iload hx hb dL_law_509 (lv_at hl 1 rfl) ?_
  refine lv_iconst (v := iI 2) hx hb dL_law_511 rfl ?_
  refine w_iadd (z := ((i + 2 : Nat) : Int)) hx hb dL_law_512 (by omega) ?_
  refine w_sld hx hb hX hbl hbA hS hL (i + 2) rfl (by omega) e2 dL_law_513 ?_
  refine w_iV (As := [.int (iI ((j : Int))), .int (iI ((b : Int)))]) (rest := []) (wc := mw bd cI th nn mm bm tT oP sB sL sR sJ) (wf := fun u : Unit => LWW ad bd b0 cI cZ cJ nn mm tT tB tE tL (shf oO q b) oR oQ zS zM zN oJ 0 nn mm bm tT (ovr (shf (ovr oP sR nn) q b) oP nn) sB sL (shf (ovr oP sR nn) q b) sJ (lS fL (q : Int))) (wr := xw ad cI cZ nn mm tT tB tE tL (shf oO q b) oR oQ zS zM zN oJ ++ [(b0, .inl (cJ, 1, .inr (.inl (lS fL (q : Int)))))]) ⟨hx, hb, hml, hown, hts⟩ hK hP hD hS hA (mX1_move hn hm hOP hjn hq (hj.trans (heq q hq)) (pl_cg heq hq hw) hbn) (cwV 2 hts gL_law_X1_move rfl rfl rfl (by decide +kernel) ⟨Nat.le_of_ble_eq_true rfl, Nat.le_of_ble_eq_true rfl⟩) [12, 13, 14, 15, 16, 17, 18] [0, 1, 2, 3, 4, 5, 6, 7, 8, 9, 10, 11, 19] [0, 1, 2, 3, 4, 5, 6, 7, 8, 9, 10, 11, 13, 14, 15, 16, 17, 18, 19, 12] rfl rfl (by decide) (by decide) (by decide) (hwf := fun _ => rfl) (by decide) (ci := 1) rfl rfl rfl rfl hl.1 rfl (Nat.le_of_ble_eq_true rfl) dL_law_514 ⟨hcs, hss⟩ (fun v514 w514 H locs hv514 hP hD hS => ?_)
  refine w_top (v := iI (q : Int)) (hv514.trans (congrArg iI (rfl))) ?_
  refine lv_istore (lv' := [(6, .int (iI (q : Int))), (5, .int (iI 0)), (4, .int (iI ((i : Nat) : Int))), (3, .ref (b0)), (2, .ref (bd 0)), (1, .ref (ad 0)), (0, .ref (bS))]) hx hb dL_law_517 hl (by decide) rfl (fun ls hl => ?_)
  refine lv_aload_n hx hb dL_law_519 rfl (lv_at hl 4 rfl) ?_
  refine w_pV (As := []) (rest := []) ⟨hx, hb, hml, hown, hts⟩ hK (hP.sub (ws' := mw bd cI 0 nn mm bm tT (ovr (shf (ovr oP sR nn) q b) oP nn) sB sL (shf (ovr oP sR nn) q b) sJ) [12, 13, 14, 15, 16, 17, 18] rfl) (mX1_thrown ) (cwV 0 hts gL_law_X1_thrown rfl rfl rfl (by decide +kernel) ⟨Nat.le_of_ble_eq_true rfl, Nat.le_of_ble_eq_true rfl⟩) (ci := 1) rfl rfl rfl rfl hl.1 rfl (Nat.le_of_ble_eq_true rfl) dL_law_520 ⟨hcs, hss⟩ (fun v520 hv520 => ?_)
  refine w_top (v := iI 0) (hv520) ?_
  refine lv_iload hx hb dL_law_523 (lv_at hl 1 rfl) ?_
  refine lv_icmp_eq (tgt := 530) hx hb dL_law_525 (by decide) (fun _ => ?_) (fun h9 => absurd rfl h9)
  refine lv_iload hx hb dL_law_530 (lv_at hl 1 rfl) ?_
  refine lv_if_ne (tgt := 547) hx hb dL_law_532 (by decide) (fun h9 => absurd (by decide +kernel) h9) (fun _ => ?_)
  refine lv_aload_n hx hb dL_law_535 rfl (lv_at hl 3 rfl) ?_
  refine lv_iconst (v := iI 0) hx hb dL_law_536 rfl ?_
  refine w_lald (v := (iI (q : Int)).toInt64) hx hb hK hP 19 2 rfl rfl (lS_0 _ _) dL_law_537 ?_
  refine lv_iload hx hb dL_law_538 (lv_at hl 0 rfl) ?_
  refine lv_i2l (v := (iI (q : Int)).toInt64) hx hb dL_law_540 rfl ?_
  refine w_lcmpE hx hb dL_law_541 ?_
  refine lv_if_eq (tgt := 547) hx hb dL_law_542 (by decide) (fun _ => ?_) (fun h9 => absurd rfl h9)
  refine lv_goto (tgt := 1461) hx hb dL_law_547 (by decide) ?_
  exact nx nn mm tT tB tE tL (shf oO q b) oR oQ zS zM zN oJ 0 bm (ovr (shf (ovr oP sR nn) q b) oP nn) sB sL (shf (ovr oP sR nn) q b) sJ (lS fL (q : Int)) _ _ _ _ ls ⟨hn, hm, hT, hz, (ovr_eq (shf_cg hq hbn (fun k hk => (heq k hk).trans (ovr_in hk).symm))), (isP_shf hq hbn hPm), hCK, hMb⟩ (Nat.le_refl _) (Nat.le_refl _) hP hD hS (lv_sub hl [2, 3, 4, 5, 6] rfl)
set_option maxHeartbeats 4000000 in
set_option maxRecDepth 100000 in
theorem law_7t {x y : Int} (B : L0 p s m args c sa A bS L xs D cI cZ cJ) (hMO : MO) (hl0 : l.stackTraces = false) (I : LInv nn mm tT oO oP zS zM zN oJ) (hi : i + 4 ≤ L) (hr9 : -2147483648 ≤ x ∧ x ≤ 2147483647 ∧ -2147483648 ≤ y ∧ y ≤ 2147483647) (hbad : ¬ ((0 ≤ x ∧ x < (nn : Int)) ∧ 0 ≤ y ∧ y < (nn : Int))) (e1 : xs (i + 1) = iI (x)) (e2 : xs (i + 2) = iI (y)) (hcs : cells + 1 ≤ 1053) (hss : slots + 6 ≤ 8592) (hP : va_P D vwCl (LWW ad bd b0 cI cZ cJ nn mm tT tB tE tL oO oR oQ zS zM zN oJ th nn mm bm tT oP sB sL sR sJ fL) H) (hD : va_D A (LWW ad bd b0 cI cZ cJ nn mm tT tB tE tL oO oR oQ zS zM zN oJ th nn mm bm tT oP sB sL sR sJ fL)) (hS : va_S A s.heap H locs) (hl : lv_has ls 9 [(4, .int (iI ((i : Nat) : Int))), (3, .ref (b0)), (2, .ref (bd 0)), (1, .ref (ad 0)), (0, .ref (bS))]) (nx : NX p l e s m args below meth c Q A D cI cZ cJ ad bd b0 bS i cells slots) : W p l e room_1 s m args below meth c H locs cells slots Q (F0 m 482 ls []) := by
  obtain ⟨hx, hb, hml, hown, hts, hK, hA, hX, hbl, hbA, hFX, hSX, hCX, hL⟩ := B
  obtain ⟨hn, hm, hT, hz, heq, hPm, hCK, hMb⟩ := id I
  have hO : ∀ k, k < nn → oO k < 7 := fun k hk => Nat.lt_of_lt_of_le (hPm.1 k hk) hn
  have hOP : ∀ k, k < nn → oP k < 7 := fun k hk => by rw [← heq k hk]; exact hO k hk
  refine lv_aload_n hx hb dL_law_482 rfl (lv_at hl 3 rfl) ?_
  refine lv_aload_n hx hb dL_law_483 rfl (lv_at hl 4 rfl) ?_
  refine lv_iload hx hb dL_law_484 (lv_at hl 0 rfl) ?_
  refine lv_iconst (v := iI 1) hx hb dL_law_486 rfl ?_
  refine w_iadd (z := ((i + 1 : Nat) : Int)) hx hb dL_law_487 (by omega) ?_
  refine w_sld hx hb hX hbl hbA hS hL (i + 1) rfl (by omega) e1 dL_law_488 ?_
  refine lv_aload_n hx hb dL_law_489 rfl (lv_at hl 4 rfl) ?_
  refine lv_iload hx hb dL_law_490 (lv_at hl 0 rfl) ?_
  refine lv_iconst (v := iI 2) hx hb dL_law_492 rfl ?_
  refine w_iadd (z := ((i + 2 : Nat) : Int)) hx hb dL_law_493 (by omega) ?_
  refine w_sld hx hb hX hbl hbA hS hL (i + 2) rfl (by omega) e2 dL_law_494 ?_
  refine lv_aload_n hx hb dL_law_495 rfl (lv_at hl 1 rfl) ?_
  have hTX : TX sa s H := ⟨(hFX.kept hS.2.1).no, hSX, hCX⟩
  refine w_lS (As := [.ref (ad 0), .int (iI (x)), .int (iI (y)), .ref (b0)]) (rest := []) (sa := sa) (wc := xw ad cI cZ nn mm tT tB tE tL oO oR oQ zS zM zN oJ ++ [(b0, .inl (cJ, 1, .inr (.inl (fL))))]) (wf := fun u : Unit => LWW ad bd b0 cI cZ cJ nn mm tT tB tE tL oO oR oQ zS zM zN oJ th nn mm bm tT oP sB sL sR sJ fL) (wr := mw bd cI th nn mm bm tT oP sB sL sR sJ) ⟨hx, hb, hml, hown, hts⟩ hK hP hD hS hA hTX (hL_move_t hl0 hn hm hr9 hbad) (vx_cwSW 4 hts gL_law_L_move rfl rfl rfl (by decide +kernel) ⟨Nat.le_of_ble_eq_true rfl, Nat.le_of_ble_eq_true rfl⟩) [0, 1, 2, 3, 4, 5, 6, 7, 8, 9, 10, 11, 19] [12, 13, 14, 15, 16, 17, 18] [7, 8, 9, 10, 11, 12, 13, 14, 15, 16, 17, 18, 0, 1, 2, 3, 4, 5, 6, 19] rfl rfl (by decide) (by decide) (by decide) (hwf := fun _ => rfl) (by decide) rfl hl.1 rfl (Nat.le_of_ble_eq_true rfl) dL_law_496 ⟨hcs, hss⟩ (fun r1 u1 H locs hr1 hP hD hS => ?_)
  refine w_top (v := iI 1) (hr1) ?_
  refine lv_istore (lv' := [(5, .int (iI 1)), (4, .int (iI ((i : Nat) : Int))), (3, .ref (b0)), (2, .ref (bd 0)), (1, .ref (ad 0)), (0, .ref (bS))]) hx hb dL_law_499 hl (by decide) rfl (fun ls hl => ?_)
  refine lv_aload_n hx hb dL_law_501 rfl (lv_at hl 3 rfl) ?_
  refine lv_aload_n hx hb dL_law_502 rfl (lv_at hl 5 rfl) ?_
  refine lv_iload hx hb dL_law_503 (lv_at hl 1 rfl) ?_
  refine lv_iconst (v := iI 1) hx hb dL_law_505 rfl ?_
  refine w_iadd (z := ((i + 1 : Nat) : Int)) hx hb dL_law_506 (by omega) ?_
  refine w_sld hx hb hX hbl hbA hS hL (i + 1) rfl (by omega) e1 dL_law_507 ?_
  refine lv_aload_n hx hb dL_law_508 rfl (lv_at hl 5 rfl) ?_
  refine lv_iload hx hb dL_law_509 (lv_at hl 1 rfl) ?_
  refine lv_iconst (v := iI 2) hx hb dL_law_511 rfl ?_
  refine w_iadd (z := ((i + 2 : Nat) : Int)) hx hb dL_law_512 (by omega) ?_
  refine w_sld hx hb hX hbl hbA hS hL (i + 2) rfl (by omega) e2 dL_law_513 ?_
  refine w_iV (As := [.int (iI (x)), .int (iI (y))]) (rest := []) (wc := mw bd cI th nn mm bm tT oP sB sL sR sJ) (wf := fun u : Unit => LWW ad bd b0 cI cZ cJ nn mm tT tB tE tL oO oR oQ zS zM zN oJ 1 nn mm bm tT oP sB sL sR sJ fL) (wr := xw ad cI cZ nn mm tT tB tE tL oO oR oQ zS zM zN oJ ++ [(b0, .inl (cJ, 1, .inr (.inl (fL))))]) ⟨hx, hb, hml, hown, hts⟩ hK hP hD hS hA (mX1_move_e hn hm hr9 hbad) (cwV 2 hts gL_law_X1_move rfl rfl rfl (by decide +kernel) ⟨Nat.le_of_ble_eq_true rfl, Nat.le_of_ble_eq_true rfl⟩) [12, 13, 14, 15, 16, 17, 18] [0, 1, 2, 3, 4, 5, 6, 7, 8, 9, 10, 11, 19] [0, 1, 2, 3, 4, 5, 6, 7, 8, 9, 10, 11, 13, 14, 15, 16, 17, 18, 19, 12] rfl rfl (by decide) (by decide) (by decide) (hwf := fun _ => rfl) (by decide) (ci := 1) rfl rfl rfl rfl hl.1 rfl (Nat.le_of_ble_eq_true rfl) dL_law_514 ⟨hcs, hss⟩ (fun v514 w514 H locs hv514 hP hD hS => ?_)
  refine w_top (v := iI 0) (hv514) ?_
  refine lv_istore (lv' := [(6, .int (iI 0)), (5, .int (iI 1)), (4, .int (iI ((i : Nat) : Int))), (3, .ref (b0)), (2, .ref (bd 0)), (1, .ref (ad 0)), (0, .ref (bS))]) hx hb dL_law_517 hl (by decide) rfl (fun ls hl => ?_)
  refine lv_aload_n hx hb dL_law_519 rfl (lv_at hl 4 rfl) ?_
  refine w_pV (As := []) (rest := []) ⟨hx, hb, hml, hown, hts⟩ hK (hP.sub (ws' := mw bd cI 1 nn mm bm tT oP sB sL sR sJ) [12, 13, 14, 15, 16, 17, 18] rfl) (mX1_thrown ) (cwV 0 hts gL_law_X1_thrown rfl rfl rfl (by decide +kernel) ⟨Nat.le_of_ble_eq_true rfl, Nat.le_of_ble_eq_true rfl⟩) (ci := 1) rfl rfl rfl rfl hl.1 rfl (Nat.le_of_ble_eq_true rfl) dL_law_520 ⟨hcs, hss⟩ (fun v520 hv520 => ?_)
  refine w_top (v := iI 1) (hv520) ?_
  refine lv_iload hx hb dL_law_523 (lv_at hl 1 rfl) ?_
  refine lv_icmp_eq (tgt := 530) hx hb dL_law_525 (by decide) (fun _ => ?_) (fun h9 => absurd rfl h9)
  refine lv_iload hx hb dL_law_530 (lv_at hl 1 rfl) ?_
  refine lv_if_ne (tgt := 547) hx hb dL_law_532 (by decide) (fun _ => ?_) (fun h9 => absurd h9 (by decide +kernel))
  refine lv_goto (tgt := 1461) hx hb dL_law_547 (by decide) ?_
  exact nx nn mm tT tB tE tL oO oR oQ zS zM zN oJ 1 bm oP sB sL sR sJ fL _ _ _ _ ls ⟨hn, hm, hT, hz, heq, hPm, hCK, hMb⟩ (Nat.le_refl _) (Nat.le_refl _) hP hD hS (lv_sub hl [2, 3, 4, 5, 6] rfl)
set_option maxHeartbeats 4000000 in
set_option maxRecDepth 100000 in
theorem law_8 {j q b : Nat} (B : L0 p s m args c sa A bS L xs D cI cZ cJ) (hMO : MO) (hl0 : l.stackTraces = false) (I : LInv nn mm tT oO oP zS zM zN oJ) (hi : i + 4 ≤ L) (hjn : j < nn) (hq : q < nn) (hj : j = oO q) (hw : ∀ k, k < q → oO k ≠ j) (hbn : b < nn) (e1 : xs (i + 1) = iI ((j : Int))) (e2 : xs (i + 2) = iI ((b : Int))) (hcs : cells + 1 ≤ 1053) (hss : slots + 6 ≤ 8592) (hP : va_P D vwCl (LWW ad bd b0 cI cZ cJ nn mm tT tB tE tL oO oR oQ zS zM zN oJ th nn mm bm tT oP sB sL sR sJ fL) H) (hD : va_D A (LWW ad bd b0 cI cZ cJ nn mm tT tB tE tL oO oR oQ zS zM zN oJ th nn mm bm tT oP sB sL sR sJ fL)) (hS : va_S A s.heap H locs) (hl : lv_has ls 9 [(4, .int (iI ((i : Nat) : Int))), (3, .ref (b0)), (2, .ref (bd 0)), (1, .ref (ad 0)), (0, .ref (bS))]) (nx : NX p l e s m args below meth c Q A D cI cZ cJ ad bd b0 bS i cells slots) : W p l e room_1 s m args below meth c H locs cells slots Q (F0 m 550 ls []) := by
  obtain ⟨hx, hb, hml, hown, hts, hK, hA, hX, hbl, hbA, hFX, hSX, hCX, hL⟩ := B
  obtain ⟨hn, hm, hT, hz, heq, hPm, hCK, hMb⟩ := id I
  have hO : ∀ k, k < nn → oO k < 7 := fun k hk => Nat.lt_of_lt_of_le (hPm.1 k hk) hn
  have hOP : ∀ k, k < nn → oP k < 7 := fun k hk => by rw [← heq k hk]; exact hO k hk
  refine lv_aload_n hx hb dL_law_550 rfl (lv_at hl 3 rfl) ?_
  refine lv_aload_n hx hb dL_law_551 rfl (lv_at hl 4 rfl) ?_
  refine lv_iload hx hb dL_law_552 (lv_at hl 0 rfl) ?_
  refine lv_iconst (v := iI 1) hx hb dL_law_554 rfl ?_
  refine w_iadd (z := ((i + 1 : Nat) : Int)) hx hb dL_law_555 (by omega) ?_
  refine w_sld hx hb hX hbl hbA hS hL (i + 1) rfl (by omega) e1 dL_law_556 ?_
  refine lv_aload_n hx hb dL_law_557 rfl (lv_at hl 4 rfl) ?_
  refine lv_iload hx hb dL_law_558 (lv_at hl 0 rfl) ?_
  refine lv_iconst (v := iI 2) hx hb dL_law_560 rfl ?_
  refine w_iadd (z := ((i + 2 : Nat) : Int)) hx hb dL_law_561 (by omega) ?_
  refine w_sld hx hb hX hbl hbA hS hL (i + 2) rfl (by omega) e2 dL_law_562 ?_
  refine lv_aload_n hx hb dL_law_563 rfl (lv_at hl 1 rfl) ?_
  have hTX : TX sa s H := ⟨(hFX.kept hS.2.1).no, hSX, hCX⟩
  refine w_lS (As := [.ref (ad 0), .int (iI ((j : Int))), .int (iI ((b : Int))), .ref (b0)]) (rest := []) (sa := sa) (wc := xw ad cI cZ nn mm tT tB tE tL oO oR oQ zS zM zN oJ ++ [(b0, .inl (cJ, 1, .inr (.inl (fL))))]) (wf := fun u : (Nat → Nat) × (Nat → Int) × (Nat → Int) => LWW ad bd b0 cI cZ cJ nn mm tT u.2.1 u.2.2 tL oO u.1 oQ zS zM zN oJ th nn mm bm tT oP sB sL sR sJ (lS fL (mkS tT mm oO q nn b))) (wr := mw bd cI th nn mm bm tT oP sB sL sR sJ) ⟨hx, hb, hml, hown, hts⟩ hK hP hD hS hA hTX (hL_makespanIfMoved hT hn hm hO hjn hq hj hw hbn) (vx_cwSW 4 hts gL_law_L_makespanIfMoved rfl rfl rfl (by decide +kernel) ⟨Nat.le_of_ble_eq_true rfl, Nat.le_of_ble_eq_true rfl⟩) [0, 1, 2, 3, 4, 5, 6, 7, 8, 9, 10, 11, 19] [12, 13, 14, 15, 16, 17, 18] [7, 8, 9, 10, 11, 12, 13, 14, 15, 16, 17, 18, 0, 1, 2, 3, 4, 5, 6, 19] rfl rfl (by decide) (by decide) (by decide) (hwf := fun _ => rfl) (by decide) rfl hl.1 rfl (Nat.le_of_ble_eq_true rfl) dL_law_564 ⟨hcs, hss⟩ (fun r1 u1 H locs hr1 hP hD hS => ?_)
  refine w_top (v := iI 0) (hr1) ?_
  refine lv_istore (lv' := [(5, .int (iI 0)), (4, .int (iI ((i : Nat) : Int))), (3, .ref (b0)), (2, .ref (bd 0)), (1, .ref (ad 0)), (0, .ref (bS))]) hx hb dL_law_567 hl (by decide) rfl (fun ls hl => ?_)
  refine lv_aload_n hx hb dL_law_569 rfl (lv_at hl 3 rfl) ?_
  refine lv_aload_n hx hb dL_law_570 rfl (lv_at hl 5 rfl) ?_
  refine lv_iload hx hb dL_law_571 (lv_at hl 1 rfl) ?_
  refine lv_iconst (v := iI 1) hx hb dL_law_573 rfl ?_
  refine w_iadd (z := ((i + 1 : Nat) : Int)) hx hb dL_law_574 (by omega) ?_
  refine w_sld hx hb hX hbl hbA hS hL (i + 1) rfl (by omega) e1 dL_law_575 ?_
  refine lv_aload_n hx hb dL_law_576 rfl (lv_at hl 5 rfl) ?_
  refine lv_iload hx hb dL_law_577 (lv_at hl 1 rfl) ?_
  refine lv_iconst (v := iI 2) hx hb dL_law_579 rfl ?_
  refine w_iadd (z := ((i + 2 : Nat) : Int)) hx hb dL_law_580 (by omega) ?_
  refine w_sld hx hb hX hbl hbA hS hL (i + 2) rfl (by omega) e2 dL_law_581 ?_
  refine w_iV (As := [.int (iI ((j : Int))), .int (iI ((b : Int)))]) (rest := []) (wc := mw bd cI th nn mm bm tT oP sB sL sR sJ) (wf := fun u : (Nat → Int) => LWW ad bd b0 cI cZ cJ nn mm tT u1.2.1 u1.2.2 tL oO u1.1 oQ zS zM zN oJ 0 nn mm bm tT oP u sL (shf (ovr oP sR nn) q b) sJ (lS fL (mkS tT mm oO q nn b))) (wr := xw ad cI cZ nn mm tT u1.2.1 u1.2.2 tL oO u1.1 oQ zS zM zN oJ ++ [(b0, .inl (cJ, 1, .inr (.inl (lS fL (mkS tT mm oO q nn b)))))]) ⟨hx, hb, hml, hown, hts⟩ hK hP hD hS hA (mX1_makespanIfMoved hT hn hm hOP hjn hq (hj.trans (heq q hq)) (pl_cg heq hq hw) hbn) (cwV 2 hts gL_law_X1_makespanIfMoved rfl rfl rfl (by decide +kernel) ⟨Nat.le_of_ble_eq_true rfl, Nat.le_of_ble_eq_true rfl⟩) [12, 13, 14, 15, 16, 17, 18] [0, 1, 2, 3, 4, 5, 6, 7, 8, 9, 10, 11, 19] [0, 1, 2, 3, 4, 5, 6, 7, 8, 9, 10, 11, 13, 14, 15, 16, 17, 18, 19, 12] rfl rfl (by decide) (by decide) (by decide) (hwf := fun _ => rfl) (by decide) (ci := 1) rfl rfl rfl rfl hl.1 rfl (Nat.le_of_ble_eq_true rfl) dL_law_582 ⟨hcs, hss⟩ (fun v582 w582 H locs hv582 hP hD hS => ?_)
  refine w_top (v := iI (mkS tT mm oO q nn b)) (hv582.trans (congrArg iI (mk_cg (shf_cg hq hbn (fun k hk => (heq k hk).symm))))) ?_
  refine lv_istore (lv' := [(6, .int (iI (mkS tT mm oO q nn b))), (5, .int (iI 0)), (4, .int (iI ((i : Nat) : Int))), (3, .ref (b0)), (2, .ref (bd 0)), (1, .ref (ad 0)), (0, .ref (bS))]) hx hb dL_law_585 hl (by decide) rfl (fun ls hl => ?_)
  refine lv_aload_n hx hb dL_law_587 rfl (lv_at hl 4 rfl) ?_
  refine w_pV (As := []) (rest := []) ⟨hx, hb, hml, hown, hts⟩ hK (hP.sub (ws' := mw bd cI 0 nn mm bm tT oP w582 sL (shf (ovr oP sR nn) q b) sJ) [12, 13, 14, 15, 16, 17, 18] rfl) (mX1_thrown ) (cwV 0 hts gL_law_X1_thrown rfl rfl rfl (by decide +kernel) ⟨Nat.le_of_ble_eq_true rfl, Nat.le_of_ble_eq_true rfl⟩) (ci := 1) rfl rfl rfl rfl hl.1 rfl (Nat.le_of_ble_eq_true rfl) dL_law_588 ⟨hcs, hss⟩ (fun v588 hv588 => ?_)
  refine w_top (v := iI 0) (hv588) ?_
  refine lv_iload hx hb dL_law_591 (lv_at hl 1 rfl) ?_
  refine lv_icmp_eq (tgt := 598) hx hb dL_law_593 (by decide) (fun _ => ?_) (fun h9 => absurd rfl h9)
  refine lv_iload hx hb dL_law_598 (lv_at hl 1 rfl) ?_
  refine lv_if_ne (tgt := 615) hx hb dL_law_600 (by decide) (fun h9 => absurd (by decide +kernel) h9) (fun _ => ?_)
  refine lv_aload_n hx hb dL_law_603 rfl (lv_at hl 3 rfl) ?_
  refine lv_iconst (v := iI 0) hx hb dL_law_604 rfl ?_
  refine w_lald (v := (iI (mkS tT mm oO q nn b)).toInt64) hx hb hK hP 19 2 rfl rfl (lS_0 _ _) dL_law_605 ?_
  refine lv_iload hx hb dL_law_606 (lv_at hl 0 rfl) ?_
  refine lv_i2l (v := (iI (mkS tT mm oO q nn b)).toInt64) hx hb dL_law_608 rfl ?_
  refine w_lcmpE hx hb dL_law_609 ?_
  refine lv_if_eq (tgt := 615) hx hb dL_law_610 (by decide) (fun _ => ?_) (fun h9 => absurd rfl h9)
  refine lv_goto (tgt := 1461) hx hb dL_law_615 (by decide) ?_
  exact nx nn mm tT u1.2.1 u1.2.2 tL oO u1.1 oQ zS zM zN oJ 0 bm oP w582 sL (shf (ovr oP sR nn) q b) sJ (lS fL (mkS tT mm oO q nn b)) _ _ _ _ ls ⟨hn, hm, hT, hz, heq, hPm, hCK, hMb⟩ (Nat.le_refl _) (Nat.le_refl _) hP hD hS (lv_sub hl [2, 3, 4, 5, 6] rfl)
set_option maxHeartbeats 4000000 in
set_option maxRecDepth 100000 in
theorem law_8t {x y : Int} (B : L0 p s m args c sa A bS L xs D cI cZ cJ) (hMO : MO) (hl0 : l.stackTraces = false) (I : LInv nn mm tT oO oP zS zM zN oJ) (hi : i + 4 ≤ L) (hr9 : -2147483648 ≤ x ∧ x ≤ 2147483647 ∧ -2147483648 ≤ y ∧ y ≤ 2147483647) (hbad : ¬ ((0 ≤ x ∧ x < (nn : Int)) ∧ 0 ≤ y ∧ y < (nn : Int))) (e1 : xs (i + 1) = iI (x)) (e2 : xs (i + 2) = iI (y)) (hcs : cells + 1 ≤ 1053) (hss : slots + 6 ≤ 8592) (hP : va_P D vwCl (LWW ad bd b0 cI cZ cJ nn mm tT tB tE tL oO oR oQ zS zM zN oJ th nn mm bm tT oP sB sL sR sJ fL) H) (hD : va_D A (LWW ad bd b0 cI cZ cJ nn mm tT tB tE tL oO oR oQ zS zM zN oJ th nn mm bm tT oP sB sL sR sJ fL)) (hS : va_S A s.heap H locs) (hl : lv_has ls 9 [(4, .int (iI ((i : Nat) : Int))), (3, .ref (b0)), (2, .ref (bd 0)), (1, .ref (ad 0)), (0, .ref (bS))]) (nx : NX p l e s m args below meth c Q A D cI cZ cJ ad bd b0 bS i cells slots) : W p l e room_1 s m args below meth c H locs cells slots Q (F0 m 550 ls []) := by
  obtain ⟨hx, hb, hml, hown, hts, hK, hA, hX, hbl, hbA, hFX, hSX, hCX, hL⟩ := B
  obtain ⟨hn, hm, hT, hz, heq, hPm, hCK, hMb⟩ := id I
  have hO : ∀ k, k < nn → oO k < 7 := fun k hk => Nat.lt_of_lt_of_le (hPm.1 k hk) hn
  have hOP : ∀ k, k < nn → oP k < 7 := fun k hk => by rw [← heq k hk]; exact hO k hk
  refine lv_aload_n hx hb dL_law_550 rfl (lv_at hl 3 rfl) ?_
  refine lv_aload_n hx hb dL_law_551 rfl (lv_at hl 4 rfl) ?_
  refine lv_iload hx hb dL_law_552 (lv_at hl 0 rfl) ?_
  refine lv_iconst (v := iI 1) hx hb dL_law_554 rfl ?_
  refine w_iadd (z := ((i + 1 : Nat) : Int)) hx hb dL_law_555 (by omega) ?_
  refine w_sld hx hb hX hbl hbA hS hL (i + 1) rfl (by omega) e1 dL_law_556 ?_
  refine lv_aload_n hx hb dL_law_557 rfl (lv_at hl 4 rfl) ?_
  refine lv_iload hx hb dL_law_558 (lv_at hl 0 rfl) ?_
  refine lv_iconst (v := iI 2) hx hb dL_law_560 rfl ?_
  refine w_iadd (z := ((i + 2 : Nat) : Int)) hx hb dL_law_561 (by omega) ?_
  refine w_sld hx hb hX hbl hbA hS hL (i + 2) rfl (by omega) e2 dL_law_562 ?_
  refine lv_aload_n hx hb dL_law_563 rfl (lv_at hl 1 rfl) ?_
  have hTX : TX sa s H := ⟨(hFX.kept hS.2.1).no, hSX, hCX⟩
  refine w_lS (As := [.ref (ad 0), .int (iI (x)), .int (iI (y)), .ref (b0)]) (rest := []) (sa := sa) (wc := xw ad cI cZ nn mm tT tB tE tL oO oR oQ zS zM zN oJ ++ [(b0, .inl (cJ, 1, .inr (.inl (fL))))]) (wf := fun u : Unit => LWW ad bd b0 cI cZ cJ nn mm tT tB tE tL oO oR oQ zS zM zN oJ th nn mm bm tT oP sB sL sR sJ fL) (wr := mw bd cI th nn mm bm tT oP sB sL sR sJ) ⟨hx, hb, hml, hown, hts⟩ hK hP hD hS hA hTX (hL_makespanIfMoved_t hl0 hn hm hr9 hbad) (vx_cwSW 4 hts gL_law_L_makespanIfMoved rfl rfl rfl (by decide +kernel) ⟨Nat.le_of_ble_eq_true rfl, Nat.le_of_ble_eq_true rfl⟩) [0, 1, 2, 3, 4, 5, 6, 7, 8, 9, 10, 11, 19] [12, 13, 14, 15, 16, 17, 18] [7, 8, 9, 10, 11, 12, 13, 14, 15, 16, 17, 18, 0, 1, 2, 3, 4, 5, 6, 19] rfl rfl (by decide) (by decide) (by decide) (hwf := fun _ => rfl) (by decide) rfl hl.1 rfl (Nat.le_of_ble_eq_true rfl) dL_law_564 ⟨hcs, hss⟩ (fun r1 u1 H locs hr1 hP hD hS => ?_)
  refine w_top (v := iI 1) (hr1) ?_
  refine lv_istore (lv' := [(5, .int (iI 1)), (4, .int (iI ((i : Nat) : Int))), (3, .ref (b0)), (2, .ref (bd 0)), (1, .ref (ad 0)), (0, .ref (bS))]) hx hb dL_law_567 hl (by decide) rfl (fun ls hl => ?_)
  refine lv_aload_n hx hb dL_law_569 rfl (lv_at hl 3 rfl) ?_
  refine lv_aload_n hx hb dL_law_570 rfl (lv_at hl 5 rfl) ?_
  refine lv_iload hx hb dL_law_571 (lv_at hl 1 rfl) ?_
  refine lv_iconst (v := iI 1) hx hb dL_law_573 rfl ?_
  refine w_iadd (z := ((i + 1 : Nat) : Int)) hx hb dL_law_574 (by omega) ?_
  refine w_sld hx hb hX hbl hbA hS hL (i + 1) rfl (by omega) e1 dL_law_575 ?_
  refine lv_aload_n hx hb dL_law_576 rfl (lv_at hl 5 rfl) ?_
  refine lv_iload hx hb dL_law_577 (lv_at hl 1 rfl) ?_
  refine lv_iconst (v := iI 2) hx hb dL_law_579 rfl ?_
  refine w_iadd (z := ((i + 2 : Nat) : Int)) hx hb dL_law_580 (by omega) ?_
  refine w_sld hx hb hX hbl hbA hS hL (i + 2) rfl (by omega) e2 dL_law_581 ?_
  refine w_iV (As := [.int (iI (x)), .int (iI (y))]) (rest := []) (wc := mw bd cI th nn mm bm tT oP sB sL sR sJ) (wf := fun u : Unit => LWW ad bd b0 cI cZ cJ nn mm tT tB tE tL oO oR oQ zS zM zN oJ 1 nn mm bm tT oP sB sL sR sJ fL) (wr := xw ad cI cZ nn mm tT tB tE tL oO oR oQ zS zM zN oJ ++ [(b0, .inl (cJ, 1, .inr (.inl (fL))))]) ⟨hx, hb, hml, hown, hts⟩ hK hP hD hS hA (mX1_makespanIfMoved_e hn hm hr9 hbad) (cwV 2 hts gL_law_X1_makespanIfMoved rfl rfl rfl (by decide +kernel) ⟨Nat.le_of_ble_eq_true rfl, Nat.le_of_ble_eq_true rfl⟩) [12, 13, 14, 15, 16, 17, 18] [0, 1, 2, 3, 4, 5, 6, 7, 8, 9, 10, 11, 19] [0, 1, 2, 3, 4, 5, 6, 7, 8, 9, 10, 11, 13, 14, 15, 16, 17, 18, 19, 12] rfl rfl (by decide) (by decide) (by decide) (hwf := fun _ => rfl) (by decide) (ci := 1) rfl rfl rfl rfl hl.1 rfl (Nat.le_of_ble_eq_true rfl) dL_law_582 ⟨hcs, hss⟩ (fun v582 w582 H locs hv582 hP hD hS => ?_)
  refine w_top (v := iI 0) (hv582) ?_
  refine lv_istore (lv' := [(6, .int (iI 0)), (5, .int (iI 1)), (4, .int (iI ((i : Nat) : Int))), (3, .ref (b0)), (2, .ref (bd 0)), (1, .ref (ad 0)), (0, .ref (bS))]) hx hb dL_law_585 hl (by decide) rfl (fun ls hl => ?_)
  refine lv_aload_n hx hb dL_law_587 rfl (lv_at hl 4 rfl) ?_
  refine w_pV (As := []) (rest := []) ⟨hx, hb, hml, hown, hts⟩ hK (hP.sub (ws' := mw bd cI 1 nn mm bm tT oP sB sL sR sJ) [12, 13, 14, 15, 16, 17, 18] rfl) (mX1_thrown ) (cwV 0 hts gL_law_X1_thrown rfl rfl rfl (by decide +kernel) ⟨Nat.le_of_ble_eq_true rfl, Nat.le_of_ble_eq_true rfl⟩) (ci := 1) rfl rfl rfl rfl hl.1 rfl (Nat.le_of_ble_eq_true rfl) dL_law_588 ⟨hcs, hss⟩ (fun v588 hv588 => ?_)
  refine w_top (v := iI 1) (hv588) ?_
  refine lv_iload hx hb dL_law_591 (lv_at hl 1 rfl) ?_
  refine lv_icmp_eq (tgt := 598) hx hb dL_law_593 (by decide) (fun _ => ?_) (fun h9 => absurd rfl h9)
  refine lv_iload hx hb dL_law_598 (lv_at hl 1 rfl) ?_
  refine lv_if_ne (tgt := 615) hx hb dL_law_600 (by decide) (fun _ => ?_) (fun h9 => absurd h9 (by decide +kernel))
  refine lv_goto (tgt := 1461) hx hb dL_law_615 (by decide) ?_
  exact nx nn mm tT tB tE tL oO oR oQ zS zM zN oJ 1 bm oP sB sL sR sJ fL _ _ _ _ ls ⟨hn, hm, hT, hz, heq, hPm, hCK, hMb⟩ (Nat.le_refl _) (Nat.le_refl _) hP hD hS (lv_sub hl [2, 3, 4, 5, 6] rfl)
set_option maxHeartbeats 4000000 in
set_option maxRecDepth 100000 in
theorem law_9  (B : L0 p s m args c sa A bS L xs D cI cZ cJ) (hMO : MO) (hl0 : l.stackTraces = false) (I : LInv nn mm tT oO oP zS zM zN oJ) (hi : i + 4 ≤ L) (h2 : mm = 2) (hcs : cells + 1 ≤ 1053) (hss : slots + 6 ≤ 8592) (hP : va_P D vwCl (LWW ad bd b0 cI cZ cJ nn mm tT tB tE tL oO oR oQ zS zM zN oJ th nn mm bm tT oP sB sL sR sJ fL) H) (hD : va_D A (LWW ad bd b0 cI cZ cJ nn mm tT tB tE tL oO oR oQ zS zM zN oJ th nn mm bm tT oP sB sL sR sJ fL)) (hS : va_S A s.heap H locs) (hl : lv_has ls 9 [(4, .int (iI ((i : Nat) : Int))), (3, .ref (b0)), (2, .ref (bd 0)), (1, .ref (ad 0)), (0, .ref (bS))]) (nx : NX p l e s m args below meth c Q A D cI cZ cJ ad bd b0 bS i cells slots) : W p l e room_1 s m args below meth c H locs cells slots Q (F0 m 618 ls []) := by
  obtain ⟨hx, hb, hml, hown, hts, hK, hA, hX, hbl, hbA, hFX, hSX, hCX, hL⟩ := B
  obtain ⟨hn, hm, hT, hz, heq, hPm, hCK, hMb⟩ := id I
  have hO : ∀ k, k < nn → oO k < 7 := fun k hk => Nat.lt_of_lt_of_le (hPm.1 k hk) hn
  have hOP : ∀ k, k < nn → oP k < 7 := fun k hk => by rw [← heq k hk]; exact hO k hk
  have hru := hMO.2.1 tT nn oO oP hT hn
  refine lv_aload_n hx hb dL_law_618 rfl (lv_at hl 3 rfl) ?_
  refine lv_aload_n hx hb dL_law_619 rfl (lv_at hl 1 rfl) ?_
  have hTX : TX sa s H := ⟨(hFX.kept hS.2.1).no, hSX, hCX⟩
  refine w_lS (As := [.ref (ad 0), .ref (b0)]) (rest := []) (sa := sa) (wc := xw ad cI cZ nn mm tT tB tE tL oO oR oQ zS zM zN oJ ++ [(b0, .inl (cJ, 1, .inr (.inl (fL))))]) (wf := fun u : (Nat → Int) × (Nat → Int) => LWW ad bd b0 cI cZ cJ nn mm tT u.1 u.2 tL (srt (gbr tT 0 1) oO nn) oR oQ zS zM zN oJ th nn mm bm tT oP sB sL sR sJ (lS fL (mk 0 mm tT (srt (gbr tT 0 1) oO nn) nn))) (wr := mw bd cI th nn mm bm tT oP sB sL sR sJ) ⟨hx, hb, hml, hown, hts⟩ hK hP hD hS hA hTX (hL_orderByRule hT hn h2) (vx_cwSW 2 hts gL_law_L_orderByRule rfl rfl rfl (by decide +kernel) ⟨Nat.le_of_ble_eq_true rfl, Nat.le_of_ble_eq_true rfl⟩) [0, 1, 2, 3, 4, 5, 6, 7, 8, 9, 10, 11, 19] [12, 13, 14, 15, 16, 17, 18] [7, 8, 9, 10, 11, 12, 13, 14, 15, 16, 17, 18, 0, 1, 2, 3, 4, 5, 6, 19] rfl rfl (by decide) (by decide) (by decide) (hwf := fun _ => rfl) (by decide) rfl hl.1 rfl (Nat.le_of_ble_eq_true rfl) dL_law_620 ⟨hcs, hss⟩ (fun r1 u1 H locs hr1 hP hD hS => ?_)
  refine w_top (v := iI 0) (hr1) ?_
  refine lv_istore (lv' := [(5, .int (iI 0)), (4, .int (iI ((i : Nat) : Int))), (3, .ref (b0)), (2, .ref (bd 0)), (1, .ref (ad 0)), (0, .ref (bS))]) hx hb dL_law_623 hl (by decide) rfl (fun ls hl => ?_)
  refine lv_aload_n hx hb dL_law_625 rfl (lv_at hl 3 rfl) ?_
  refine w_iV (As := []) (rest := []) (wc := mw bd cI th nn mm bm tT oP sB sL sR sJ) (wf := fun u : (Nat → Int) => LWW ad bd b0 cI cZ cJ nn mm tT u1.1 u1.2 tL (srt (gbr tT 0 1) oO nn) oR oQ zS zM zN oJ 0 nn mm bm tT (rk tT nn oP nn) u sL sR sJ (lS fL (mk 0 mm tT (srt (gbr tT 0 1) oO nn) nn))) (wr := xw ad cI cZ nn mm tT u1.1 u1.2 tL (srt (gbr tT 0 1) oO nn) oR oQ zS zM zN oJ ++ [(b0, .inl (cJ, 1, .inr (.inl (lS fL (mk 0 mm tT (srt (gbr tT 0 1) oO nn) nn)))))]) ⟨hx, hb, hml, hown, hts⟩ hK hP hD hS hA (mX1_orderByRule hT hn h2 hOP) (cwV 0 hts gL_law_X1_orderByRule rfl rfl rfl (by decide +kernel) ⟨Nat.le_of_ble_eq_true rfl, Nat.le_of_ble_eq_true rfl⟩) [12, 13, 14, 15, 16, 17, 18] [0, 1, 2, 3, 4, 5, 6, 7, 8, 9, 10, 11, 19] [0, 1, 2, 3, 4, 5, 6, 7, 8, 9, 10, 11, 13, 14, 15, 16, 17, 18, 19, 12] rfl rfl (by decide) (by decide) (by decide) (hwf := fun _ => rfl) (by decide) (ci := 1) rfl rfl rfl rfl hl.1 rfl (Nat.le_of_ble_eq_true rfl) dL_law_626 ⟨hcs, hss⟩ (fun v626 w626 H locs hv626 hP hD hS => ?_)
  refine w_top (v := iI (mk 0 mm tT (srt (gbr tT 0 1) oO nn) nn)) (hv626.trans (congrArg iI (mk_cg (fun k hk => (hru.1 k hk).symm)))) ?_
  refine lv_istore (lv' := [(6, .int (iI (mk 0 mm tT (srt (gbr tT 0 1) oO nn) nn))), (5, .int (iI 0)), (4, .int (iI ((i : Nat) : Int))), (3, .ref (b0)), (2, .ref (bd 0)), (1, .ref (ad 0)), (0, .ref (bS))]) hx hb dL_law_629 hl (by decide) rfl (fun ls hl => ?_)
  refine lv_aload_n hx hb dL_law_631 rfl (lv_at hl 4 rfl) ?_
  refine w_pV (As := []) (rest := []) ⟨hx, hb, hml, hown, hts⟩ hK (hP.sub (ws' := mw bd cI 0 nn mm bm tT (rk tT nn oP nn) w626 sL sR sJ) [12, 13, 14, 15, 16, 17, 18] rfl) (mX1_thrown ) (cwV 0 hts gL_law_X1_thrown rfl rfl rfl (by decide +kernel) ⟨Nat.le_of_ble_eq_true rfl, Nat.le_of_ble_eq_true rfl⟩) (ci := 1) rfl rfl rfl rfl hl.1 rfl (Nat.le_of_ble_eq_true rfl) dL_law_632 ⟨hcs, hss⟩ (fun v632 hv632 => ?_)
  refine w_top (v := iI 0) (hv632) ?_
  refine lv_iload hx hb dL_law_635 (lv_at hl 1 rfl) ?_
  refine lv_icmp_eq (tgt := 642) hx hb dL_law_637 (by decide) (fun _ => ?_) (fun h9 => absurd rfl h9)
  refine lv_iload hx hb dL_law_642 (lv_at hl 1 rfl) ?_
  refine lv_if_ne (tgt := 659) hx hb dL_law_644 (by decide) (fun h9 => absurd (by decide +kernel) h9) (fun _ => ?_)
  refine lv_aload_n hx hb dL_law_647 rfl (lv_at hl 3 rfl) ?_
  refine lv_iconst (v := iI 0) hx hb dL_law_648 rfl ?_
  refine w_lald (v := (iI (mk 0 mm tT (srt (gbr tT 0 1) oO nn) nn)).toInt64) hx hb hK hP 19 2 rfl rfl (lS_0 _ _) dL_law_649 ?_
  refine lv_iload hx hb dL_law_650 (lv_at hl 0 rfl) ?_
  refine lv_i2l (v := (iI (mk 0 mm tT (srt (gbr tT 0 1) oO nn) nn)).toInt64) hx hb dL_law_652 rfl ?_
  refine w_lcmpE hx hb dL_law_653 ?_
  refine lv_if_eq (tgt := 659) hx hb dL_law_654 (by decide) (fun _ => ?_) (fun h9 => absurd rfl h9)
  refine lv_goto (tgt := 1461) hx hb dL_law_659 (by decide) ?_
  exact nx nn mm tT u1.1 u1.2 tL (srt (gbr tT 0 1) oO nn) oR oQ zS zM zN oJ 0 bm (rk tT nn oP nn) w626 sL sR sJ (lS fL (mk 0 mm tT (srt (gbr tT 0 1) oO nn) nn)) _ _ _ _ ls ⟨hn, hm, hT, hz, hru.1, hru.2, hCK, hMb⟩ (Nat.le_refl _) (Nat.le_refl _) hP hD hS (lv_sub hl [2, 3, 4, 5, 6] rfl)
set_option maxHeartbeats 4000000 in
set_option maxRecDepth 100000 in
theorem law_9t  (B : L0 p s m args c sa A bS L xs D cI cZ cJ) (hMO : MO) (hl0 : l.stackTraces = false) (I : LInv nn mm tT oO oP zS zM zN oJ) (hi : i + 4 ≤ L) (h2 : mm ≠ 2) (hcs : cells + 1 ≤ 1053) (hss : slots + 6 ≤ 8592) (hP : va_P D vwCl (LWW ad bd b0 cI cZ cJ nn mm tT tB tE tL oO oR oQ zS zM zN oJ th nn mm bm tT oP sB sL sR sJ fL) H) (hD : va_D A (LWW ad bd b0 cI cZ cJ nn mm tT tB tE tL oO oR oQ zS zM zN oJ th nn mm bm tT oP sB sL sR sJ fL)) (hS : va_S A s.heap H locs) (hl : lv_has ls 9 [(4, .int (iI ((i : Nat) : Int))), (3, .ref (b0)), (2, .ref (bd 0)), (1, .ref (ad 0)), (0, .ref (bS))]) (nx : NX p l e s m args below meth c Q A D cI cZ cJ ad bd b0 bS i cells slots) : W p l e room_1 s m args below meth c H locs cells slots Q (F0 m 618 ls []) := by
  obtain ⟨hx, hb, hml, hown, hts, hK, hA, hX, hbl, hbA, hFX, hSX, hCX, hL⟩ := B
  obtain ⟨hn, hm, hT, hz, heq, hPm, hCK, hMb⟩ := id I
  have hO : ∀ k, k < nn → oO k < 7 := fun k hk => Nat.lt_of_lt_of_le (hPm.1 k hk) hn
  have hOP : ∀ k, k < nn → oP k < 7 := fun k hk => by rw [← heq k hk]; exact hO k hk
  refine lv_aload_n hx hb dL_law_618 rfl (lv_at hl 3 rfl) ?_
  refine lv_aload_n hx hb dL_law_619 rfl (lv_at hl 1 rfl) ?_
  have hTX : TX sa s H := ⟨(hFX.kept hS.2.1).no, hSX, hCX⟩
  refine w_lS (As := [.ref (ad 0), .ref (b0)]) (rest := []) (sa := sa) (wc := xw ad cI cZ nn mm tT tB tE tL oO oR oQ zS zM zN oJ ++ [(b0, .inl (cJ, 1, .inr (.inl (fL))))]) (wf := fun u : Unit => LWW ad bd b0 cI cZ cJ nn mm tT tB tE tL oO oR oQ zS zM zN oJ th nn mm bm tT oP sB sL sR sJ fL) (wr := mw bd cI th nn mm bm tT oP sB sL sR sJ) ⟨hx, hb, hml, hown, hts⟩ hK hP hD hS hA hTX (hL_orderByRule_t hl0 hm h2) (vx_cwSW 2 hts gL_law_L_orderByRule rfl rfl rfl (by decide +kernel) ⟨Nat.le_of_ble_eq_true rfl, Nat.le_of_ble_eq_true rfl⟩) [0, 1, 2, 3, 4, 5, 6, 7, 8, 9, 10, 11, 19] [12, 13, 14, 15, 16, 17, 18] [7, 8, 9, 10, 11, 12, 13, 14, 15, 16, 17, 18, 0, 1, 2, 3, 4, 5, 6, 19] rfl rfl (by decide) (by decide) (by decide) (hwf := fun _ => rfl) (by decide) rfl hl.1 rfl (Nat.le_of_ble_eq_true rfl) dL_law_620 ⟨hcs, hss⟩ (fun r1 u1 H locs hr1 hP hD hS => ?_)
  refine w_top (v := iI 1) (hr1) ?_
  refine lv_istore (lv' := [(5, .int (iI 1)), (4, .int (iI ((i : Nat) : Int))), (3, .ref (b0)), (2, .ref (bd 0)), (1, .ref (ad 0)), (0, .ref (bS))]) hx hb dL_law_623 hl (by decide) rfl (fun ls hl => ?_)
  refine lv_aload_n hx hb dL_law_625 rfl (lv_at hl 3 rfl) ?_
  refine w_iV (As := []) (rest := []) (wc := mw bd cI th nn mm bm tT oP sB sL sR sJ) (wf := fun u : Unit => LWW ad bd b0 cI cZ cJ nn mm tT tB tE tL oO oR oQ zS zM zN oJ 1 nn mm bm tT oP sB sL sR sJ fL) (wr := xw ad cI cZ nn mm tT tB tE tL oO oR oQ zS zM zN oJ ++ [(b0, .inl (cJ, 1, .inr (.inl (fL))))]) ⟨hx, hb, hml, hown, hts⟩ hK hP hD hS hA (mX1_orderByRule_e hm h2) (cwV 0 hts gL_law_X1_orderByRule rfl rfl rfl (by decide +kernel) ⟨Nat.le_of_ble_eq_true rfl, Nat.le_of_ble_eq_true rfl⟩) [12, 13, 14, 15, 16, 17, 18] [0, 1, 2, 3, 4, 5, 6, 7, 8, 9, 10, 11, 19] [0, 1, 2, 3, 4, 5, 6, 7, 8, 9, 10, 11, 13, 14, 15, 16, 17, 18, 19, 12] rfl rfl (by decide) (by decide) (by decide) (hwf := fun _ => rfl) (by decide) (ci := 1) rfl rfl rfl rfl hl.1 rfl (Nat.le_of_ble_eq_true rfl) dL_law_626 ⟨hcs, hss⟩ (fun v626 w626 H locs hv626 hP hD hS => ?_)
  refine w_top (v := iI 0) (hv626) ?_
  refine lv_istore (lv' := [(6, .int (iI 0)), (5, .int (iI 1)), (4, .int (iI ((i : Nat) : Int))), (3, .ref (b0)), (2, .ref (bd 0)), (1, .ref (ad 0)), (0, .ref (bS))]) hx hb dL_law_629 hl (by decide) rfl (fun ls hl => ?_)
  refine lv_aload_n hx hb dL_law_631 rfl (lv_at hl 4 rfl) ?_
  refine w_pV (As := []) (rest := []) ⟨hx, hb, hml, hown, hts⟩ hK (hP.sub (ws' := mw bd cI 1 nn mm bm tT oP sB sL sR sJ) [12, 13, 14, 15, 16, 17, 18] rfl) (mX1_thrown ) (cwV 0 hts gL_law_X1_thrown rfl rfl rfl (by decide +kernel) ⟨Nat.le_of_ble_eq_true rfl, Nat.le_of_ble_eq_true rfl⟩) (ci := 1) rfl rfl rfl rfl hl.1 rfl (Nat.le_of_ble_eq_true rfl) dL_law_632 ⟨hcs, hss⟩ (fun v632 hv632 => ?_)
  refine w_top (v := iI 1) (hv632) ?_
  refine lv_iload hx hb dL_law_635 (lv_at hl 1 rfl) ?_
  refine lv_icmp_eq (tgt := 642) hx hb dL_law_637 (by decide) (fun _ => ?_) (fun h9 => absurd rfl h9)
  refine lv_iload hx hb dL_law_642 (lv_at hl 1 rfl) ?_
  refine lv_if_ne (tgt := 659) hx hb dL_law_644 (by decide) (fun _ => ?_) (fun h9 => absurd h9 (by decide +kernel))
  refine lv_goto (tgt := 1461) hx hb dL_law_659 (by decide) ?_
  exact nx nn mm tT tB tE tL oO oR oQ zS zM zN oJ 1 bm oP sB sL sR sJ fL _ _ _ _ ls ⟨hn, hm, hT, hz, heq, hPm, hCK, hMb⟩ (Nat.le_refl _) (Nat.le_refl _) hP hD hS (lv_sub hl [2, 3, 4, 5, 6] rfl)
set_option maxHeartbeats 4000000 in
set_option maxRecDepth 100000 in
theorem law_10  (B : L0 p s m args c sa A bS L xs D cI cZ cJ) (hMO : MO) (hl0 : l.stackTraces = false) (I : LInv nn mm tT oO oP zS zM zN oJ) (hi : i + 4 ≤ L)  (hcs : cells + 1 ≤ 1053) (hss : slots + 6 ≤ 8592) (hP : va_P D vwCl (LWW ad bd b0 cI cZ cJ nn mm tT tB tE tL oO oR oQ zS zM zN oJ th nn mm bm tT oP sB sL sR sJ fL) H) (hD : va_D A (LWW ad bd b0 cI cZ cJ nn mm tT tB tE tL oO oR oQ zS zM zN oJ th nn mm bm tT oP sB sL sR sJ fL)) (hS : va_S A s.heap H locs) (hl : lv_has ls 9 [(4, .int (iI ((i : Nat) : Int))), (3, .ref (b0)), (2, .ref (bd 0)), (1, .ref (ad 0)), (0, .ref (bS))]) (nx : NX p l e s m args below meth c Q A D cI cZ cJ ad bd b0 bS i cells slots) : W p l e room_1 s m args below meth c H locs cells slots Q (F0 m 662 ls []) := by
  obtain ⟨hx, hb, hml, hown, hts, hK, hA, hX, hbl, hbA, hFX, hSX, hCX, hL⟩ := B
  obtain ⟨hn, hm, hT, hz, heq, hPm, hCK, hMb⟩ := id I
  have hO : ∀ k, k < nn → oO k < 7 := fun k hk => Nat.lt_of_lt_of_le (hPm.1 k hk) hn
  have hOP : ∀ k, k < nn → oP k < 7 := fun k hk => by rw [← heq k hk]; exact hO k hk
  have hin := hMO.2.2.1 tT mm nn oO oQ hT hn hm
  refine lv_aload_n hx hb dL_law_662 rfl (lv_at hl 3 rfl) ?_
  refine w_iV (As := []) (rest := []) (wc := xw ad cI cZ nn mm tT tB tE tL oO oR oQ zS zM zN oJ) (wf := fun u : (Nat → Nat) × (Nat → Int) × (Nat → Int) => LWW ad bd b0 cI cZ cJ nn mm tT u.2.1 u.2.2 tL (insO tT mm nn oO oQ) u.1 (srt (bqs tT mm) oQ nn) zS zM zN oJ th nn mm bm tT oP sB sL sR sJ fL) (wr := mw bd cI th nn mm bm tT oP sB sL sR sJ ++ [(b0, .inl (cJ, 1, .inr (.inl (fL))))]) ⟨hx, hb, hml, hown, hts⟩ hK hP hD hS hA (mX0_orderByInsertion hT hn hm hO) (cwV 0 hts gL_law_X0_orderByInsertion rfl rfl rfl (by decide +kernel) ⟨Nat.le_of_ble_eq_true rfl, Nat.le_of_ble_eq_true rfl⟩) [0, 1, 2, 3, 4, 5, 6, 7, 8, 9, 10, 11] [12, 13, 14, 15, 16, 17, 18, 19] [8, 9, 10, 11, 12, 13, 14, 15, 16, 17, 18, 19, 0, 1, 2, 3, 4, 5, 6, 7] rfl rfl (by decide) (by decide) (by decide) (hwf := fun _ => rfl) (by decide) (ci := 0) rfl rfl rfl rfl hl.1 rfl (Nat.le_of_ble_eq_true rfl) dL_law_663 ⟨Nat.le_of_succ_le hcs, Nat.le_trans (Nat.le_add_right _ 6) hss⟩ (fun v663 w663 H locs hv663 hP hD hS => ?_)
  refine w_top (v := iI (mk 0 mm tT (insO tT mm nn oO oQ) nn)) (hv663) ?_
  refine lv_aload_n hx hb dL_law_666 rfl (lv_at hl 2 rfl) ?_
  refine w_iV (As := []) (rest := [.int (iI (mk 0 mm tT (insO tT mm nn oO oQ) nn))]) (wc := mw bd cI th nn mm bm tT oP sB sL sR sJ) (wf := fun u : (Nat → Nat) × (Nat → Int) × (Nat → Nat) => LWW ad bd b0 cI cZ cJ nn mm tT w663.2.1 w663.2.2 tL (insO tT mm nn oO oQ) w663.1 (srt (bqs tT mm) oQ nn) zS zM zN oJ 0 nn mm bm tT u.1 u.2.1 sL u.2.2 sJ fL) (wr := xw ad cI cZ nn mm tT w663.2.1 w663.2.2 tL (insO tT mm nn oO oQ) w663.1 (srt (bqs tT mm) oQ nn) zS zM zN oJ ++ [(b0, .inl (cJ, 1, .inr (.inl (fL))))]) ⟨hx, hb, hml, hown, hts⟩ hK hP hD hS hA (mX1_orderByInsertion hT hn hm) (cwV 0 hts gL_law_X1_orderByInsertion rfl rfl rfl (by decide +kernel) ⟨Nat.le_of_ble_eq_true rfl, Nat.le_of_ble_eq_true rfl⟩) [12, 13, 14, 15, 16, 17, 18] [0, 1, 2, 3, 4, 5, 6, 7, 8, 9, 10, 11, 19] [0, 1, 2, 3, 4, 5, 6, 7, 8, 9, 10, 11, 13, 14, 15, 16, 17, 18, 19, 12] rfl rfl (by decide) (by decide) (by decide) (hwf := fun _ => rfl) (by decide) (ci := 1) rfl rfl rfl rfl hl.1 rfl (Nat.le_of_ble_eq_true rfl) dL_law_667 ⟨Nat.le_of_succ_le hcs, Nat.le_trans (Nat.le_add_right _ 6) hss⟩ (fun v667 w667 H locs hv667 hP hD hS => ?_)
  refine w_top (v := iI (mk 0 mm tT (insO tT mm nn oO oQ) nn)) (hv667.1.trans (congrArg iI (mk_cg (fun k hk => (hin.1 k hk).symm)))) ?_
  have hvR := hv667
  refine lv_icmp_eq (tgt := 1461) hx hb dL_law_670 (by decide) (fun _ => ?_) (fun h9 => absurd rfl h9)
  exact nx nn mm tT w663.2.1 w663.2.2 tL (insO tT mm nn oO oQ) w663.1 (srt (bqs tT mm) oQ nn) zS zM zN oJ 0 bm w667.1 w667.2.1 sL w667.2.2 sJ fL _ _ _ _ ls ⟨hn, hm, hT, hz, (fun k hk => (hin.1 k hk).trans (hvR.2 k hk).symm), hin.2, hCK, hMb⟩ (Nat.le_succ _) (Nat.le_add_right _ _) hP hD hS (lv_sub hl [0, 1, 2, 3, 4] rfl)
set_option maxHeartbeats 4000000 in
set_option maxRecDepth 100000 in
theorem law_11  (B : L0 p s m args c sa A bS L xs D cI cZ cJ) (hMO : MO) (hl0 : l.stackTraces = false) (I : LInv nn mm tT oO oP zS zM zN oJ) (hi : i + 4 ≤ L)  (hcs : cells + 1 ≤ 1053) (hss : slots + 6 ≤ 8592) (hP : va_P D vwCl (LWW ad bd b0 cI cZ cJ nn mm tT tB tE tL oO oR oQ zS zM zN oJ th nn mm bm tT oP sB sL sR sJ fL) H) (hD : va_D A (LWW ad bd b0 cI cZ cJ nn mm tT tB tE tL oO oR oQ zS zM zN oJ th nn mm bm tT oP sB sL sR sJ fL)) (hS : va_S A s.heap H locs) (hl : lv_has ls 9 [(4, .int (iI ((i : Nat) : Int))), (3, .ref (b0)), (2, .ref (bd 0)), (1, .ref (ad 0)), (0, .ref (bS))]) (nx : NX p l e s m args below meth c Q A D cI cZ cJ ad bd b0 bS i cells slots) : W p l e room_1 s m args below meth c H locs cells slots Q (F0 m 675 ls []) := by
  obtain ⟨hx, hb, hml, hown, hts, hK, hA, hX, hbl, hbA, hFX, hSX, hCX, hL⟩ := B
  obtain ⟨hn, hm, hT, hz, heq, hPm, hCK, hMb⟩ := id I
  have hO : ∀ k, k < nn → oO k < 7 := fun k hk => Nat.lt_of_lt_of_le (hPm.1 k hk) hn
  have hOP : ∀ k, k < nn → oP k < 7 := fun k hk => by rw [← heq k hk]; exact hO k hk
  have him := hMO.2.2.2.1 tT mm nn oO oP hT hn hm heq hPm
  refine lv_aload_n hx hb dL_law_675 rfl (lv_at hl 3 rfl) ?_
  refine w_iV (As := []) (rest := []) (wc := xw ad cI cZ nn mm tT tB tE tL oO oR oQ zS zM zN oJ) (wf := fun u : (Nat → Nat) × (Nat → Int) × (Nat → Int) => LWW ad bd b0 cI cZ cJ nn mm tT u.2.1 u.2.2 tL (impO tT mm nn oO) u.1 oQ zS zM zN oJ th nn mm bm tT oP sB sL sR sJ fL) (wr := mw bd cI th nn mm bm tT oP sB sL sR sJ ++ [(b0, .inl (cJ, 1, .inr (.inl (fL))))]) ⟨hx, hb, hml, hown, hts⟩ hK hP hD hS hA (mX0_improve hT hn hm hO) (cwV 0 hts gL_law_X0_improve rfl rfl rfl (by decide +kernel) ⟨Nat.le_of_ble_eq_true rfl, Nat.le_of_ble_eq_true rfl⟩) [0, 1, 2, 3, 4, 5, 6, 7, 8, 9, 10, 11] [12, 13, 14, 15, 16, 17, 18, 19] [8, 9, 10, 11, 12, 13, 14, 15, 16, 17, 18, 19, 0, 1, 2, 3, 4, 5, 6, 7] rfl rfl (by decide) (by decide) (by decide) (hwf := fun _ => rfl) (by decide) (ci := 0) rfl rfl rfl rfl hl.1 rfl (Nat.le_of_ble_eq_true rfl) dL_law_676 ⟨Nat.le_of_succ_le hcs, Nat.le_trans (Nat.le_add_right _ 6) hss⟩ (fun v676 w676 H locs hv676 hP hD hS => ?_)
  refine w_top (v := iI (mk 0 mm tT oO nn - (imS tT mm oO nn nn).1)) (hv676) ?_
  refine lv_aload_n hx hb dL_law_679 rfl (lv_at hl 2 rfl) ?_
  refine w_iV (As := []) (rest := [.int (iI (mk 0 mm tT oO nn - (imS tT mm oO nn nn).1))]) (wc := mw bd cI th nn mm bm tT oP sB sL sR sJ) (wf := fun u : (Nat → Nat) × (Nat → Int) × (Nat → Nat) => LWW ad bd b0 cI cZ cJ nn mm tT w676.2.1 w676.2.2 tL (impO tT mm nn oO) w676.1 oQ zS zM zN oJ 0 nn mm bm tT u.1 u.2.1 sL u.2.2 sJ fL) (wr := xw ad cI cZ nn mm tT w676.2.1 w676.2.2 tL (impO tT mm nn oO) w676.1 oQ zS zM zN oJ ++ [(b0, .inl (cJ, 1, .inr (.inl (fL))))]) ⟨hx, hb, hml, hown, hts⟩ hK hP hD hS hA (mX1_improve hT hn hm hOP) (cwV 0 hts gL_law_X1_improve rfl rfl rfl (by decide +kernel) ⟨Nat.le_of_ble_eq_true rfl, Nat.le_of_ble_eq_true rfl⟩) [12, 13, 14, 15, 16, 17, 18] [0, 1, 2, 3, 4, 5, 6, 7, 8, 9, 10, 11, 19] [0, 1, 2, 3, 4, 5, 6, 7, 8, 9, 10, 11, 13, 14, 15, 16, 17, 18, 19, 12] rfl rfl (by decide) (by decide) (by decide) (hwf := fun _ => rfl) (by decide) (ci := 1) rfl rfl rfl rfl hl.1 rfl (Nat.le_of_ble_eq_true rfl) dL_law_680 ⟨Nat.le_of_succ_le hcs, Nat.le_trans (Nat.le_add_right _ 6) hss⟩ (fun v680 w680 H locs hv680 hP hD hS => ?_)
  refine w_top (v := iI (mk 0 mm tT oO nn - (imS tT mm oO nn nn).1)) (hv680.1.trans (congrArg iI (him.1))) ?_
  have hvR := hv680
  refine lv_icmp_eq (tgt := 1461) hx hb dL_law_683 (by decide) (fun _ => ?_) (fun h9 => absurd rfl h9)
  exact nx nn mm tT w676.2.1 w676.2.2 tL (impO tT mm nn oO) w676.1 oQ zS zM zN oJ 0 bm w680.1 w680.2.1 sL w680.2.2 sJ fL _ _ _ _ ls ⟨hn, hm, hT, hz, (fun k hk => (him.2.1 k hk).trans (hvR.2 k hk).symm), him.2.2, hCK, hMb⟩ (Nat.le_succ _) (Nat.le_add_right _ _) hP hD hS (lv_sub hl [0, 1, 2, 3, 4] rfl)
set_option maxHeartbeats 4000000 in
set_option maxRecDepth 100000 in
theorem law_12 {v : Nat} (B : L0 p s m args c sa A bS L xs D cI cZ cJ) (hMO : MO) (hl0 : l.stackTraces = false) (I : LInv nn mm tT oO oP zS zM zN oJ) (hi : i + 4 ≤ L) (hv : v ≤ 2) (e1 : xs (i + 1) = iI ((v : Int))) (hcs : cells + 1 ≤ 1053) (hss : slots + 6 ≤ 8592) (hP : va_P D vwCl (LWW ad bd b0 cI cZ cJ nn mm tT tB tE tL oO oR oQ zS zM zN oJ th nn mm bm tT oP sB sL sR sJ fL) H) (hD : va_D A (LWW ad bd b0 cI cZ cJ nn mm tT tB tE tL oO oR oQ zS zM zN oJ th nn mm bm tT oP sB sL sR sJ fL)) (hS : va_S A s.heap H locs) (hl : lv_has ls 9 [(4, .int (iI ((i : Nat) : Int))), (3, .ref (b0)), (2, .ref (bd 0)), (1, .ref (ad 0)), (0, .ref (bS))]) (nx : NX p l e s m args below meth c Q A D cI cZ cJ ad bd b0 bS i cells slots) : W p l e room_1 s m args below meth c H locs cells slots Q (F0 m 688 ls []) := by
  obtain ⟨hx, hb, hml, hown, hts, hK, hA, hX, hbl, hbA, hFX, hSX, hCX, hL⟩ := B
  obtain ⟨hn, hm, hT, hz, heq, hPm, hCK, hMb⟩ := id I
  have hO : ∀ k, k < nn → oO k < 7 := fun k hk => Nat.lt_of_lt_of_le (hPm.1 k hk) hn
  have hOP : ∀ k, k < nn → oP k < 7 := fun k hk => by rw [← heq k hk]; exact hO k hk
  refine lv_aload_n hx hb dL_law_688 rfl (lv_at hl 3 rfl) ?_
  refine lv_aload_n hx hb dL_law_689 rfl (lv_at hl 4 rfl) ?_
  refine lv_iload hx hb dL_law_690 (lv_at hl 0 rfl) ?_
  refine lv_iconst (v := iI 1) hx hb dL_law_692 rfl ?_
  refine w_iadd (z := ((i + 1 : Nat) : Int)) hx hb dL_law_693 (by omega) ?_
  refine w_sld hx hb hX hbl hbA hS hL (i + 1) rfl (by omega) e1 dL_law_694 ?_
  refine lv_aload_n hx hb dL_law_695 rfl (lv_at hl 1 rfl) ?_
  have hTX : TX sa s H := ⟨(hFX.kept hS.2.1).no, hSX, hCX⟩
  refine w_lS (As := [.ref (ad 0), .int (iI ((v : Int))), .ref (b0)]) (rest := []) (sa := sa) (wc := xw ad cI cZ nn mm tT tB tE tL oO oR oQ zS zM zN oJ ++ [(b0, .inl (cJ, 1, .inr (.inl (fL))))]) (wf := fun u : (Nat → Int) × (Nat → Int) => LWW ad bd b0 cI cZ cJ nn mm tT u.1 u.2 tL oO oR oQ zS zM zN oJ th nn mm bm tT oP sB sL sR sJ (lS fL (mk v mm tT oO nn))) (wr := mw bd cI th nn mm bm tT oP sB sL sR sJ) ⟨hx, hb, hml, hown, hts⟩ hK hP hD hS hA hTX (hL_makespan hT hn hm hv hO) (vx_cwSW 3 hts gL_law_L_makespan rfl rfl rfl (by decide +kernel) ⟨Nat.le_of_ble_eq_true rfl, Nat.le_of_ble_eq_true rfl⟩) [0, 1, 2, 3, 4, 5, 6, 7, 8, 9, 10, 11, 19] [12, 13, 14, 15, 16, 17, 18] [7, 8, 9, 10, 11, 12, 13, 14, 15, 16, 17, 18, 0, 1, 2, 3, 4, 5, 6, 19] rfl rfl (by decide) (by decide) (by decide) (hwf := fun _ => rfl) (by decide) rfl hl.1 rfl (Nat.le_of_ble_eq_true rfl) dL_law_696 ⟨hcs, hss⟩ (fun r1 u1 H locs hr1 hP hD hS => ?_)
  refine w_top (v := iI 0) (hr1) ?_
  refine lv_istore (lv' := [(5, .int (iI 0)), (4, .int (iI ((i : Nat) : Int))), (3, .ref (b0)), (2, .ref (bd 0)), (1, .ref (ad 0)), (0, .ref (bS))]) hx hb dL_law_699 hl (by decide) rfl (fun ls hl => ?_)
  refine lv_aload_n hx hb dL_law_701 rfl (lv_at hl 3 rfl) ?_
  refine lv_aload_n hx hb dL_law_702 rfl (lv_at hl 5 rfl) ?_
  refine lv_iload hx hb dL_law_703 (lv_at hl 1 rfl) ?_
  refine lv_iconst (v := iI 1) hx hb dL_law_705 rfl ?_
  refine w_iadd (z := ((i + 1 : Nat) : Int)) hx hb dL_law_706 (by omega) ?_
  refine w_sld hx hb hX hbl hbA hS hL (i + 1) rfl (by omega) e1 dL_law_707 ?_
  refine w_iV (As := [.int (iI ((v : Int)))]) (rest := []) (wc := mw bd cI th nn mm bm tT oP sB sL sR sJ) (wf := fun u : (Nat → Int) => LWW ad bd b0 cI cZ cJ nn mm tT u1.1 u1.2 tL oO oR oQ zS zM zN oJ 0 nn mm bm tT oP u sL sR sJ (lS fL (mk v mm tT oO nn))) (wr := xw ad cI cZ nn mm tT u1.1 u1.2 tL oO oR oQ zS zM zN oJ ++ [(b0, .inl (cJ, 1, .inr (.inl (lS fL (mk v mm tT oO nn)))))]) ⟨hx, hb, hml, hown, hts⟩ hK hP hD hS hA (mX1_makespan hT hn hm hv hOP) (cwV 1 hts gL_law_X1_makespan rfl rfl rfl (by decide +kernel) ⟨Nat.le_of_ble_eq_true rfl, Nat.le_of_ble_eq_true rfl⟩) [12, 13, 14, 15, 16, 17, 18] [0, 1, 2, 3, 4, 5, 6, 7, 8, 9, 10, 11, 19] [0, 1, 2, 3, 4, 5, 6, 7, 8, 9, 10, 11, 13, 14, 15, 16, 17, 18, 19, 12] rfl rfl (by decide) (by decide) (by decide) (hwf := fun _ => rfl) (by decide) (ci := 1) rfl rfl rfl rfl hl.1 rfl (Nat.le_of_ble_eq_true rfl) dL_law_708 ⟨hcs, hss⟩ (fun v708 w708 H locs hv708 hP hD hS => ?_)
  refine w_top (v := iI (mk v mm tT oO nn)) (hv708.trans (congrArg iI (mk_cg (fun k hk => (heq k hk).symm)))) ?_
  refine lv_istore (lv' := [(6, .int (iI (mk v mm tT oO nn))), (5, .int (iI 0)), (4, .int (iI ((i : Nat) : Int))), (3, .ref (b0)), (2, .ref (bd 0)), (1, .ref (ad 0)), (0, .ref (bS))]) hx hb dL_law_711 hl (by decide) rfl (fun ls hl => ?_)
  refine lv_aload_n hx hb dL_law_713 rfl (lv_at hl 4 rfl) ?_
  refine w_pV (As := []) (rest := []) ⟨hx, hb, hml, hown, hts⟩ hK (hP.sub (ws' := mw bd cI 0 nn mm bm tT oP w708 sL sR sJ) [12, 13, 14, 15, 16, 17, 18] rfl) (mX1_thrown ) (cwV 0 hts gL_law_X1_thrown rfl rfl rfl (by decide +kernel) ⟨Nat.le_of_ble_eq_true rfl, Nat.le_of_ble_eq_true rfl⟩) (ci := 1) rfl rfl rfl rfl hl.1 rfl (Nat.le_of_ble_eq_true rfl) dL_law_714 ⟨hcs, hss⟩ (fun v714 hv714 => ?_)
  refine w_top (v := iI 0) (hv714) ?_
  refine lv_iload hx hb dL_law_717 (lv_at hl 1 rfl) ?_
  refine lv_icmp_eq (tgt := 724) hx hb dL_law_719 (by decide) (fun _ => ?_) (fun h9 => absurd rfl h9)
  refine lv_iload hx hb dL_law_724 (lv_at hl 1 rfl) ?_
  refine lv_if_ne (tgt := 741) hx hb dL_law_726 (by decide) (fun h9 => absurd (by decide +kernel) h9) (fun _ => ?_)
  refine lv_aload_n hx hb dL_law_729 rfl (lv_at hl 3 rfl) ?_
  refine lv_iconst (v := iI 0) hx hb dL_law_730 rfl ?_
  refine w_lald (v := (iI (mk v mm tT oO nn)).toInt64) hx hb hK hP 19 2 rfl rfl (lS_0 _ _) dL_law_731 ?_
  refine lv_iload hx hb dL_law_732 (lv_at hl 0 rfl) ?_
  refine lv_i2l (v := (iI (mk v mm tT oO nn)).toInt64) hx hb dL_law_734 rfl ?_
  refine w_lcmpE hx hb dL_law_735 ?_
  refine lv_if_eq (tgt := 741) hx hb dL_law_736 (by decide) (fun _ => ?_) (fun h9 => absurd rfl h9)
  refine lv_goto (tgt := 1461) hx hb dL_law_741 (by decide) ?_
  exact nx nn mm tT u1.1 u1.2 tL oO oR oQ zS zM zN oJ 0 bm oP w708 sL sR sJ (lS fL (mk v mm tT oO nn)) _ _ _ _ ls ⟨hn, hm, hT, hz, heq, hPm, hCK, hMb⟩ (Nat.le_refl _) (Nat.le_refl _) hP hD hS (lv_sub hl [2, 3, 4, 5, 6] rfl)
set_option maxHeartbeats 4000000 in
set_option maxRecDepth 100000 in
theorem law_12t {x : Int} (B : L0 p s m args c sa A bS L xs D cI cZ cJ) (hMO : MO) (hl0 : l.stackTraces = false) (I : LInv nn mm tT oO oP zS zM zN oJ) (hi : i + 4 ≤ L) (hr9 : -2147483648 ≤ x ∧ x ≤ 2147483647) (hbad : ¬ (0 ≤ x ∧ x ≤ 2)) (e1 : xs (i + 1) = iI (x)) (hcs : cells + 1 ≤ 1053) (hss : slots + 6 ≤ 8592) (hP : va_P D vwCl (LWW ad bd b0 cI cZ cJ nn mm tT tB tE tL oO oR oQ zS zM zN oJ th nn mm bm tT oP sB sL sR sJ fL) H) (hD : va_D A (LWW ad bd b0 cI cZ cJ nn mm tT tB tE tL oO oR oQ zS zM zN oJ th nn mm bm tT oP sB sL sR sJ fL)) (hS : va_S A s.heap H locs) (hl : lv_has ls 9 [(4, .int (iI ((i : Nat) : Int))), (3, .ref (b0)), (2, .ref (bd 0)), (1, .ref (ad 0)), (0, .ref (bS))]) (nx : NX p l e s m args below meth c Q A D cI cZ cJ ad bd b0 bS i cells slots) : W p l e room_1 s m args below meth c H locs cells slots Q (F0 m 688 ls []) := by
  obtain ⟨hx, hb, hml, hown, hts, hK, hA, hX, hbl, hbA, hFX, hSX, hCX, hL⟩ := B
  obtain ⟨hn, hm, hT, hz, heq, hPm, hCK, hMb⟩ := id I
  have hO : ∀ k, k < nn → oO k < 7 := fun k hk => Nat.lt_of_lt_of_le (hPm.1 k hk) hn
  have hOP : ∀ k, k < nn → oP k < 7 := fun k hk => by rw [← heq k hk]; exact hO k hk
  refine lv_aload_n hx hb dL_law_688 rfl (lv_at hl 3 rfl) ?_
  refine lv_aload_n hx hb dL_law_689 rfl (lv_at hl 4 rfl) ?_
  refine lv_iload hx hb dL_law_690 (lv_at hl 0 rfl) ?_
  refine lv_iconst (v := iI 1) hx hb dL_law_692 rfl ?_
  refine w_iadd (z := ((i + 1 : Nat) : Int)) hx hb dL_law_693 (by omega) ?_
  refine w_sld hx hb hX hbl hbA hS hL (i + 1) rfl (by omega) e1 dL_law_694 ?_
  refine lv_aload_n hx hb dL_law_695 rfl (lv_at hl 1 rfl) ?_
  have hTX : TX sa s H := ⟨(hFX.kept hS.2.1).no, hSX, hCX⟩
  refine w_lS (As := [.ref (ad 0), .int (iI (x)), .ref (b0)]) (rest := []) (sa := sa) (wc := xw ad cI cZ nn mm tT tB tE tL oO oR oQ zS zM zN oJ ++ [(b0, .inl (cJ, 1, .inr (.inl (fL))))]) (wf := fun u : Unit => LWW ad bd b0 cI cZ cJ nn mm tT tB tE tL oO oR oQ zS zM zN oJ th nn mm bm tT oP sB sL sR sJ fL) (wr := mw bd cI th nn mm bm tT oP sB sL sR sJ) ⟨hx, hb, hml, hown, hts⟩ hK hP hD hS hA hTX (hL_makespan_t hl0 hr9 hbad) (vx_cwSW 3 hts gL_law_L_makespan rfl rfl rfl (by decide +kernel) ⟨Nat.le_of_ble_eq_true rfl, Nat.le_of_ble_eq_true rfl⟩) [0, 1, 2, 3, 4, 5, 6, 7, 8, 9, 10, 11, 19] [12, 13, 14, 15, 16, 17, 18] [7, 8, 9, 10, 11, 12, 13, 14, 15, 16, 17, 18, 0, 1, 2, 3, 4, 5, 6, 19] rfl rfl (by decide) (by decide) (by decide) (hwf := fun _ => rfl) (by decide) rfl hl.1 rfl (Nat.le_of_ble_eq_true rfl) dL_law_696 ⟨hcs, hss⟩ (fun r1 u1 H locs hr1 hP hD hS => ?_)
  refine w_top (v := iI 1) (hr1) ?_
  refine lv_istore (lv' := [(5, .int (iI 1)), (4, .int (iI ((i : Nat) : Int))), (3, .ref (b0)), (2, .ref (bd 0)), (1, .ref (ad 0)), (0, .ref (bS))]) hx hb dL_law_699 hl (by decide) rfl (fun ls hl => ?_)
  refine lv_aload_n hx hb dL_law_701 rfl (lv_at hl 3 rfl) ?_
  refine lv_aload_n hx hb dL_law_702 rfl (lv_at hl 5 rfl) ?_
  refine lv_iload hx hb dL_law_703 (lv_at hl 1 rfl) ?_
  refine lv_iconst (v := iI 1) hx hb dL_law_705 rfl ?_
  refine w_iadd (z := ((i + 1 : Nat) : Int)) hx hb dL_law_706 (by omega) ?_
  refine w_sld hx hb hX hbl hbA hS hL (i + 1) rfl (by omega) e1 dL_law_707 ?_
  refine w_iV (As := [.int (iI (x))]) (rest := []) (wc := mw bd cI th nn mm bm tT oP sB sL sR sJ) (wf := fun u : Unit => LWW ad bd b0 cI cZ cJ nn mm tT tB tE tL oO oR oQ zS zM zN oJ 1 nn mm bm tT oP sB sL sR sJ fL) (wr := xw ad cI cZ nn mm tT tB tE tL oO oR oQ zS zM zN oJ ++ [(b0, .inl (cJ, 1, .inr (.inl (fL))))]) ⟨hx, hb, hml, hown, hts⟩ hK hP hD hS hA (mX1_makespan_e hr9 hbad) (cwV 1 hts gL_law_X1_makespan rfl rfl rfl (by decide +kernel) ⟨Nat.le_of_ble_eq_true rfl, Nat.le_of_ble_eq_true rfl⟩) [12, 13, 14, 15, 16, 17, 18] [0, 1, 2, 3, 4, 5, 6, 7, 8, 9, 10, 11, 19] [0, 1, 2, 3, 4, 5, 6, 7, 8, 9, 10, 11, 13, 14, 15, 16, 17, 18, 19, 12] rfl rfl (by decide) (by decide) (by decide) (hwf := fun _ => rfl) (by decide) (ci := 1) rfl rfl rfl rfl hl.1 rfl (Nat.le_of_ble_eq_true rfl) dL_law_708 ⟨hcs, hss⟩ (fun v708 w708 H locs hv708 hP hD hS => ?_)
  refine w_top (v := iI 0) (hv708) ?_
  refine lv_istore (lv' := [(6, .int (iI 0)), (5, .int (iI 1)), (4, .int (iI ((i : Nat) : Int))), (3, .ref (b0)), (2, .ref (bd 0)), (1, .ref (ad 0)), (0, .ref (bS))]) hx hb dL_law_711 hl (by decide) rfl (fun ls hl => ?_)
  refine lv_aload_n hx hb dL_law_713 rfl (lv_at hl 4 rfl) ?_
  refine w_pV (As := []) (rest := []) ⟨hx, hb, hml, hown, hts⟩ hK (hP.sub (ws' := mw bd cI 1 nn mm bm tT oP sB sL sR sJ) [12, 13, 14, 15, 16, 17, 18] rfl) (mX1_thrown ) (cwV 0 hts gL_law_X1_thrown rfl rfl rfl (by decide +kernel) ⟨Nat.le_of_ble_eq_true rfl, Nat.le_of_ble_eq_true rfl⟩) (ci := 1) rfl rfl rfl rfl hl.1 rfl (Nat.le_of_ble_eq_true rfl) dL_law_714 ⟨hcs, hss⟩ (fun v714 hv714 => ?_)
  refine w_top (v := iI 1) (hv714) ?_
  refine lv_iload hx hb dL_law_717 (lv_at hl 1 rfl) ?_
  refine lv_icmp_eq (tgt := 724) hx hb dL_law_719 (by decide) (fun _ => ?_) (fun h9 => absurd rfl h9)
  refine lv_iload hx hb dL_law_724 (lv_at hl 1 rfl) ?_
  refine lv_if_ne (tgt := 741) hx hb dL_law_726 (by decide) (fun _ => ?_) (fun h9 => absurd h9 (by decide +kernel))
  refine lv_goto (tgt := 1461) hx hb dL_law_741 (by decide) ?_
  exact nx nn mm tT tB tE tL oO oR oQ zS zM zN oJ 1 bm oP sB sL sR sJ fL _ _ _ _ ls ⟨hn, hm, hT, hz, heq, hPm, hCK, hMb⟩ (Nat.le_refl _) (Nat.le_refl _) hP hD hS (lv_sub hl [2, 3, 4, 5, 6] rfl)
set_option maxHeartbeats 4000000 in
set_option maxRecDepth 100000 in
theorem law_13 {v q k : Nat} (B : L0 p s m args c sa A bS L xs D cI cZ cJ) (hMO : MO) (hl0 : l.stackTraces = false) (I : LInv nn mm tT oO oP zS zM zN oJ) (hi : i + 4 ≤ L) (hv : v ≤ 2) (hq : q < nn) (hk : k < mm) (e1 : xs (i + 1) = iI ((v : Int))) (e2 : xs (i + 2) = iI ((q : Int))) (e3 : xs (i + 3) = iI ((k : Int))) (hcs : cells + 1 ≤ 1053) (hss : slots + 6 ≤ 8592) (hP : va_P D vwCl (LWW ad bd b0 cI cZ cJ nn mm tT tB tE tL oO oR oQ zS zM zN oJ th nn mm bm tT oP sB sL sR sJ fL) H) (hD : va_D A (LWW ad bd b0 cI cZ cJ nn mm tT tB tE tL oO oR oQ zS zM zN oJ th nn mm bm tT oP sB sL sR sJ fL)) (hS : va_S A s.heap H locs) (hl : lv_has ls 9 [(4, .int (iI ((i : Nat) : Int))), (3, .ref (b0)), (2, .ref (bd 0)), (1, .ref (ad 0)), (0, .ref (bS))]) (nx : NX p l e s m args below meth c Q A D cI cZ cJ ad bd b0 bS i cells slots) : W p l e room_1 s m args below meth c H locs cells slots Q (F0 m 744 ls []) := by
  obtain ⟨hx, hb, hml, hown, hts, hK, hA, hX, hbl, hbA, hFX, hSX, hCX, hL⟩ := B
  obtain ⟨hn, hm, hT, hz, heq, hPm, hCK, hMb⟩ := id I
  have hO : ∀ k, k < nn → oO k < 7 := fun k hk => Nat.lt_of_lt_of_le (hPm.1 k hk) hn
  have hOP : ∀ k, k < nn → oP k < 7 := fun k hk => by rw [← heq k hk]; exact hO k hk
  refine lv_aload_n hx hb dL_law_744 rfl (lv_at hl 3 rfl) ?_
  refine lv_aload_n hx hb dL_law_745 rfl (lv_at hl 4 rfl) ?_
  refine lv_iload hx hb dL_law_746 (lv_at hl 0 rfl) ?_
  refine lv_iconst (v := iI 1) hx hb dL_law_748 rfl ?_
  refine w_iadd (z := ((i + 1 : Nat) : Int)) hx hb dL_law_749 (by omega) ?_
  refine w_sld hx hb hX hbl hbA hS hL (i + 1) rfl (by omega) e1 dL_law_750 ?_
  refine lv_aload_n hx hb dL_law_751 rfl (lv_at hl 4 rfl) ?_
  refine lv_iload hx hb dL_law_752 (lv_at hl 0 rfl) ?_
  refine lv_iconst (v := iI 2) hx hb dL_law_754 rfl ?_
  refine w_iadd (z := ((i + 2 : Nat) : Int)) hx hb dL_law_755 (by omega) ?_
  refine w_sld hx hb hX hbl hbA hS hL (i + 2) rfl (by omega) e2 dL_law_756 ?_
  refine lv_aload_n hx hb dL_law_757 rfl (lv_at hl 4 rfl) ?_
  refine lv_iload hx hb dL_law_758 (lv_at hl 0 rfl) ?_
  refine lv_iconst (v := iI 3) hx hb dL_law_760 rfl ?_
  refine w_iadd (z := ((i + 3 : Nat) : Int)) hx hb dL_law_761 (by omega) ?_
  refine w_sld hx hb hX hbl hbA hS hL (i + 3) rfl (by omega) e3 dL_law_762 ?_
  refine lv_aload_n hx hb dL_law_763 rfl (lv_at hl 1 rfl) ?_
  have hTX : TX sa s H := ⟨(hFX.kept hS.2.1).no, hSX, hCX⟩
  refine w_lS (As := [.ref (ad 0), .int (iI ((v : Int))), .int (iI ((q : Int))), .int (iI ((k : Int))), .ref (b0)]) (rest := []) (sa := sa) (wc := xw ad cI cZ nn mm tT tB tE tL oO oR oQ zS zM zN oJ ++ [(b0, .inl (cJ, 1, .inr (.inl (fL))))]) (wf := fun u : (Nat → Int) × (Nat → Int) => LWW ad bd b0 cI cZ cJ nn mm tT u.1 u.2 tL oO oR oQ zS zM zN oJ th nn mm bm tT oP sB sL sR sJ (lS fL ((row v mm tT oO (q + 1)).1 k))) (wr := mw bd cI th nn mm bm tT oP sB sL sR sJ) ⟨hx, hb, hml, hown, hts⟩ hK hP hD hS hA hTX (hL_begin hT hn hm hv hO hq hk) (vx_cwSW 5 hts gL_law_L_begin rfl rfl rfl (by decide +kernel) ⟨Nat.le_of_ble_eq_true rfl, Nat.le_of_ble_eq_true rfl⟩) [0, 1, 2, 3, 4, 5, 6, 7, 8, 9, 10, 11, 19] [12, 13, 14, 15, 16, 17, 18] [7, 8, 9, 10, 11, 12, 13, 14, 15, 16, 17, 18, 0, 1, 2, 3, 4, 5, 6, 19] rfl rfl (by decide) (by decide) (by decide) (hwf := fun _ => rfl) (by decide) rfl hl.1 rfl (Nat.le_of_ble_eq_true rfl) dL_law_764 ⟨hcs, hss⟩ (fun r1 u1 H locs hr1 hP hD hS => ?_)
  refine w_top (v := iI 0) (hr1) ?_
  refine lv_istore (lv' := [(5, .int (iI 0)), (4, .int (iI ((i : Nat) : Int))), (3, .ref (b0)), (2, .ref (bd 0)), (1, .ref (ad 0)), (0, .ref (bS))]) hx hb dL_law_767 hl (by decide) rfl (fun ls hl => ?_)
  refine lv_aload_n hx hb dL_law_769 rfl (lv_at hl 3 rfl) ?_
  refine lv_aload_n hx hb dL_law_770 rfl (lv_at hl 5 rfl) ?_
  refine lv_iload hx hb dL_law_771 (lv_at hl 1 rfl) ?_
  refine lv_iconst (v := iI 1) hx hb dL_law_773 rfl ?_
  refine w_iadd (z := ((i + 1 : Nat) : Int)) hx hb dL_law_774 (by omega) ?_
  refine w_sld hx hb hX hbl hbA hS hL (i + 1) rfl (by omega) e1 dL_law_775 ?_
  refine lv_aload_n hx hb dL_law_776 rfl (lv_at hl 5 rfl) ?_
  refine lv_iload hx hb dL_law_777 (lv_at hl 1 rfl) ?_
  refine lv_iconst (v := iI 2) hx hb dL_law_779 rfl ?_
  refine w_iadd (z := ((i + 2 : Nat) : Int)) hx hb dL_law_780 (by omega) ?_
  refine w_sld hx hb hX hbl hbA hS hL (i + 2) rfl (by omega) e2 dL_law_781 ?_
  refine lv_aload_n hx hb dL_law_782 rfl (lv_at hl 5 rfl) ?_
  refine lv_iload hx hb dL_law_783 (lv_at hl 1 rfl) ?_
  refine lv_iconst (v := iI 3) hx hb dL_law_785 rfl ?_
  refine w_iadd (z := ((i + 3 : Nat) : Int)) hx hb dL_law_786 (by omega) ?_
  refine w_sld hx hb hX hbl hbA hS hL (i + 3) rfl (by omega) e3 dL_law_787 ?_
  refine w_iV (As := [.int (iI ((v : Int))), .int (iI ((q : Int))), .int (iI ((k : Int)))]) (rest := []) (wc := mw bd cI th nn mm bm tT oP sB sL sR sJ) (wf := fun u : (Nat → Int) => LWW ad bd b0 cI cZ cJ nn mm tT u1.1 u1.2 tL oO oR oQ zS zM zN oJ 0 nn mm bm tT oP u sL sR sJ (lS fL ((row v mm tT oO (q + 1)).1 k))) (wr := xw ad cI cZ nn mm tT u1.1 u1.2 tL oO oR oQ zS zM zN oJ ++ [(b0, .inl (cJ, 1, .inr (.inl (lS fL ((row v mm tT oO (q + 1)).1 k)))))]) ⟨hx, hb, hml, hown, hts⟩ hK hP hD hS hA (mX1_begin hT hn hm hv hOP hq hk) (cwV 3 hts gL_law_X1_begin rfl rfl rfl (by decide +kernel) ⟨Nat.le_of_ble_eq_true rfl, Nat.le_of_ble_eq_true rfl⟩) [12, 13, 14, 15, 16, 17, 18] [0, 1, 2, 3, 4, 5, 6, 7, 8, 9, 10, 11, 19] [0, 1, 2, 3, 4, 5, 6, 7, 8, 9, 10, 11, 13, 14, 15, 16, 17, 18, 19, 12] rfl rfl (by decide) (by decide) (by decide) (hwf := fun _ => rfl) (by decide) (ci := 1) rfl rfl rfl rfl hl.1 rfl (Nat.le_of_ble_eq_true rfl) dL_law_788 ⟨hcs, hss⟩ (fun v788 w788 H locs hv788 hP hD hS => ?_)
  refine w_top (v := iI ((row v mm tT oO (q + 1)).1 k)) (hv788.trans (congrArg iI (by rw [row_cg (c := q + 1) (fun k hk => (heq k (by omega)).symm)]))) ?_
  refine lv_istore (lv' := [(6, .int (iI ((row v mm tT oO (q + 1)).1 k))), (5, .int (iI 0)), (4, .int (iI ((i : Nat) : Int))), (3, .ref (b0)), (2, .ref (bd 0)), (1, .ref (ad 0)), (0, .ref (bS))]) hx hb dL_law_791 hl (by decide) rfl (fun ls hl => ?_)
  refine lv_aload_n hx hb dL_law_793 rfl (lv_at hl 4 rfl) ?_
  refine w_pV (As := []) (rest := []) ⟨hx, hb, hml, hown, hts⟩ hK (hP.sub (ws' := mw bd cI 0 nn mm bm tT oP w788 sL sR sJ) [12, 13, 14, 15, 16, 17, 18] rfl) (mX1_thrown ) (cwV 0 hts gL_law_X1_thrown rfl rfl rfl (by decide +kernel) ⟨Nat.le_of_ble_eq_true rfl, Nat.le_of_ble_eq_true rfl⟩) (ci := 1) rfl rfl rfl rfl hl.1 rfl (Nat.le_of_ble_eq_true rfl) dL_law_794 ⟨hcs, hss⟩ (fun v794 hv794 => ?_)
  refine w_top (v := iI 0) (hv794) ?_
  refine lv_iload hx hb dL_law_797 (lv_at hl 1 rfl) ?_
  refine lv_icmp_eq (tgt := 804) hx hb dL_law_799 (by decide) (fun _ => ?_) (fun h9 => absurd rfl h9)
  refine lv_iload hx hb dL_law_804 (lv_at hl 1 rfl) ?_
  refine lv_if_ne (tgt := 821) hx hb dL_law_806 (by decide) (fun h9 => absurd (by decide +kernel) h9) (fun _ => ?_)
  refine lv_aload_n hx hb dL_law_809 rfl (lv_at hl 3 rfl) ?_
  refine lv_iconst (v := iI 0) hx hb dL_law_810 rfl ?_
  refine w_lald (v := (iI ((row v mm tT oO (q + 1)).1 k)).toInt64) hx hb hK hP 19 2 rfl rfl (lS_0 _ _) dL_law_811 ?_
  refine lv_iload hx hb dL_law_812 (lv_at hl 0 rfl) ?_
  refine lv_i2l (v := (iI ((row v mm tT oO (q + 1)).1 k)).toInt64) hx hb dL_law_814 rfl ?_
  refine w_lcmpE hx hb dL_law_815 ?_
  refine lv_if_eq (tgt := 821) hx hb dL_law_816 (by decide) (fun _ => ?_) (fun h9 => absurd rfl h9)
  refine lv_goto (tgt := 1461) hx hb dL_law_821 (by decide) ?_
  exact nx nn mm tT u1.1 u1.2 tL oO oR oQ zS zM zN oJ 0 bm oP w788 sL sR sJ (lS fL ((row v mm tT oO (q + 1)).1 k)) _ _ _ _ ls ⟨hn, hm, hT, hz, heq, hPm, hCK, hMb⟩ (Nat.le_refl _) (Nat.le_refl _) hP hD hS (lv_sub hl [2, 3, 4, 5, 6] rfl)
set_option maxHeartbeats 4000000 in
set_option maxRecDepth 100000 in
theorem law_13t {x y z : Int} (B : L0 p s m args c sa A bS L xs D cI cZ cJ) (hMO : MO) (hl0 : l.stackTraces = false) (I : LInv nn mm tT oO oP zS zM zN oJ) (hi : i + 4 ≤ L) (hr9 : -2147483648 ≤ x ∧ x ≤ 2147483647) (hbad : ¬ (0 ≤ x ∧ x ≤ 2)) (e1 : xs (i + 1) = iI (x)) (e2 : xs (i + 2) = iI (y)) (e3 : xs (i + 3) = iI (z)) (hcs : cells + 1 ≤ 1053) (hss : slots + 6 ≤ 8592) (hP : va_P D vwCl (LWW ad bd b0 cI cZ cJ nn mm tT tB tE tL oO oR oQ zS zM zN oJ th nn mm bm tT oP sB sL sR sJ fL) H) (hD : va_D A (LWW ad bd b0 cI cZ cJ nn mm tT tB tE tL oO oR oQ zS zM zN oJ th nn mm bm tT oP sB sL sR sJ fL)) (hS : va_S A s.heap H locs) (hl : lv_has ls 9 [(4, .int (iI ((i : Nat) : Int))), (3, .ref (b0)), (2, .ref (bd 0)), (1, .ref (ad 0)), (0, .ref (bS))]) (nx : NX p l e s m args below meth c Q A D cI cZ cJ ad bd b0 bS i cells slots) : W p l e room_1 s m args below meth c H locs cells slots Q (F0 m 744 ls []) := by
  obtain ⟨hx, hb, hml, hown, hts, hK, hA, hX, hbl, hbA, hFX, hSX, hCX, hL⟩ := B
  obtain ⟨hn, hm, hT, hz, heq, hPm, hCK, hMb⟩ := id I
  have hO : ∀ k, k < nn → oO k < 7 := fun k hk => Nat.lt_of_lt_of_le (hPm.1 k hk) hn
  have hOP : ∀ k, k < nn → oP k < 7 := fun k hk => by rw [← heq k hk]; exact hO k hk
  refine lv_aload_n hx hb dL_law_744 rfl (lv_at hl 3 rfl) ?_
  refine lv_aload_n hx hb dL_law_745 rfl (lv_at hl 4 rfl) ?_
  refine lv_iload hx hb dL_law_746 (lv_at hl 0 rfl) ?_
  refine lv_iconst (v := iI 1) hx hb dL_law_748 rfl ?_
  refine w_iadd (z := ((i + 1 : Nat) : Int)) hx hb dL_law_749 (by omega) ?_
  refine w_sld hx hb hX hbl hbA hS hL (i + 1) rfl (by omega) e1 dL_law_750 ?_
  refine lv_aload_n hx hb dL_law_751 rfl (lv_at hl 4 rfl) ?_
  refine lv_iload hx hb dL_law_752 (lv_at hl 0 rfl) ?_
  refine lv_iconst (v := iI 2) hx hb dL_law_754 rfl ?_
  refine w_iadd (z := ((i + 2 : Nat) : Int)) hx hb dL_law_755 (by omega) ?_
  refine w_sld hx hb hX hbl hbA hS hL (i + 2) rfl (by omega) e2 dL_law_756 ?_
  refine lv_aload_n hx hb dL_law_757 rfl (lv_at hl 4 rfl) ?_
  refine lv_iload hx hb dL_law_758 (lv_at hl 0 rfl) ?_
  refine lv_iconst (v := iI 3) hx hb dL_law_760 rfl ?_
  refine w_iadd (z := ((i + 3 : Nat) : Int)) hx hb dL_law_761 (by omega) ?_
  refine w_sld hx hb hX hbl hbA hS hL (i + 3) rfl (by omega) e3 dL_law_762 ?_
  refine lv_aload_n hx hb dL_law_763 rfl (lv_at hl 1 rfl) ?_
  have hTX : TX sa s H := ⟨(hFX.kept hS.2.1).no, hSX, hCX⟩
  refine w_lS (As := [.ref (ad 0), .int (iI (x)), .int (iI (y)), .int (iI (z)), .ref (b0)]) (rest := []) (sa := sa) (wc := xw ad cI cZ nn mm tT tB tE tL oO oR oQ zS zM zN oJ ++ [(b0, .inl (cJ, 1, .inr (.inl (fL))))]) (wf := fun u : Unit => LWW ad bd b0 cI cZ cJ nn mm tT tB tE tL oO oR oQ zS zM zN oJ th nn mm bm tT oP sB sL sR sJ fL) (wr := mw bd cI th nn mm bm tT oP sB sL sR sJ) ⟨hx, hb, hml, hown, hts⟩ hK hP hD hS hA hTX (hL_begin_1_t hl0 hr9 hbad) (vx_cwSW 5 hts gL_law_L_begin rfl rfl rfl (by decide +kernel) ⟨Nat.le_of_ble_eq_true rfl, Nat.le_of_ble_eq_true rfl⟩) [0, 1, 2, 3, 4, 5, 6, 7, 8, 9, 10, 11, 19] [12, 13, 14, 15, 16, 17, 18] [7, 8, 9, 10, 11, 12, 13, 14, 15, 16, 17, 18, 0, 1, 2, 3, 4, 5, 6, 19] rfl rfl (by decide) (by decide) (by decide) (hwf := fun _ => rfl) (by decide) rfl hl.1 rfl (Nat.le_of_ble_eq_true rfl) dL_law_764 ⟨hcs, hss⟩ (fun r1 u1 H locs hr1 hP hD hS => ?_)
  refine w_top (v := iI 1) (hr1) ?_
  refine lv_istore (lv' := [(5, .int (iI 1)), (4, .int (iI ((i : Nat) : Int))), (3, .ref (b0)), (2, .ref (bd 0)), (1, .ref (ad 0)), (0, .ref (bS))]) hx hb dL_law_767 hl (by decide) rfl (fun ls hl => ?_)
  refine lv_aload_n hx hb dL_law_769 rfl (lv_at hl 3 rfl) ?_
  refine lv_aload_n hx hb dL_law_770 rfl (lv_at hl 5 rfl) ?_
  refine lv_iload hx hb dL_law_771 (lv_at hl 1 rfl) ?_
  refine lv_iconst (v := iI 1) hx hb dL_law_773 rfl ?_
  refine w_iadd (z := ((i + 1 : Nat) : Int)) hx hb dL_law_774 (by omega) ?_
  refine w_sld hx hb hX hbl hbA hS hL (i + 1) rfl (by omega) e1 dL_law_775 ?_
  refine lv_aload_n hx hb dL_law_776 rfl (lv_at hl 5 rfl) ?_
  refine lv_iload hx hb dL_law_777 (lv_at hl 1 rfl) ?_
  refine lv_iconst (v := iI 2) hx hb dL_law_779 rfl ?_
  refine w_iadd (z := ((i + 2 : Nat) : Int)) hx hb dL_law_780 (by omega) ?_
  refine w_sld hx hb hX hbl hbA hS hL (i + 2) rfl (by omega) e2 dL_law_781 ?_
  refine lv_aload_n hx hb dL_law_782 rfl (lv_at hl 5 rfl) ?_
  refine lv_iload hx hb dL_law_783 (lv_at hl 1 rfl) ?_
  refine lv_iconst (v := iI 3) hx hb dL_law_785 rfl ?_
  refine w_iadd (z := ((i + 3 : Nat) : Int)) hx hb dL_law_786 (by omega) ?_
  refine w_sld hx hb hX hbl hbA hS hL (i + 3) rfl (by omega) e3 dL_law_787 ?_
  refine w_iV (As := [.int (iI (x)), .int (iI (y)), .int (iI (z))]) (rest := []) (wc := mw bd cI th nn mm bm tT oP sB sL sR sJ) (wf := fun u : Unit => LWW ad bd b0 cI cZ cJ nn mm tT tB tE tL oO oR oQ zS zM zN oJ 1 nn mm bm tT oP sB sL sR sJ fL) (wr := xw ad cI cZ nn mm tT tB tE tL oO oR oQ zS zM zN oJ ++ [(b0, .inl (cJ, 1, .inr (.inl (fL))))]) ⟨hx, hb, hml, hown, hts⟩ hK hP hD hS hA (mX1_begin_e1 hr9 hbad) (cwV 3 hts gL_law_X1_begin rfl rfl rfl (by decide +kernel) ⟨Nat.le_of_ble_eq_true rfl, Nat.le_of_ble_eq_true rfl⟩) [12, 13, 14, 15, 16, 17, 18] [0, 1, 2, 3, 4, 5, 6, 7, 8, 9, 10, 11, 19] [0, 1, 2, 3, 4, 5, 6, 7, 8, 9, 10, 11, 13, 14, 15, 16, 17, 18, 19, 12] rfl rfl (by decide) (by decide) (by decide) (hwf := fun _ => rfl) (by decide) (ci := 1) rfl rfl rfl rfl hl.1 rfl (Nat.le_of_ble_eq_true rfl) dL_law_788 ⟨hcs, hss⟩ (fun v788 w788 H locs hv788 hP hD hS => ?_)
  refine w_top (v := iI 0) (hv788) ?_
  refine lv_istore (lv' := [(6, .int (iI 0)), (5, .int (iI 1)), (4, .int (iI ((i : Nat) : Int))), (3, .ref (b0)), (2, .ref (bd 0)), (1, .ref (ad 0)), (0, .ref (bS))]) hx hb dL_law_791 hl (by decide) rfl (fun ls hl => ?_)
  refine lv_aload_n hx hb dL_law_793 rfl (lv_at hl 4 rfl) ?_
  refine w_pV (As := []) (rest := []) ⟨hx, hb, hml, hown, hts⟩ hK (hP.sub (ws' := mw bd cI 1 nn mm bm tT oP sB sL sR sJ) [12, 13, 14, 15, 16, 17, 18] rfl) (mX1_thrown ) (cwV 0 hts gL_law_X1_thrown rfl rfl rfl (by decide +kernel) ⟨Nat.le_of_ble_eq_true rfl, Nat.le_of_ble_eq_true rfl⟩) (ci := 1) rfl rfl rfl rfl hl.1 rfl (Nat.le_of_ble_eq_true rfl) dL_law_794 ⟨hcs, hss⟩ (fun v794 hv794 => ?_)
  refine w_top (v := iI 1) (hv794) ?_
  refine lv_iload hx hb dL_law_797 (lv_at hl 1 rfl) ?_
  refine lv_icmp_eq (tgt := 804) hx hb dL_law_799 (by decide) (fun _ => ?_) (fun h9 => absurd rfl h9)
  refine lv_iload hx hb dL_law_804 (lv_at hl 1 rfl) ?_
  refine lv_if_ne (tgt := 821) hx hb dL_law_806 (by decide) (fun _ => ?_) (fun h9 => absurd h9 (by decide +kernel))
  refine lv_goto (tgt := 1461) hx hb dL_law_821 (by decide) ?_
  exact nx nn mm tT tB tE tL oO oR oQ zS zM zN oJ 1 bm oP sB sL sR sJ fL _ _ _ _ ls ⟨hn, hm, hT, hz, heq, hPm, hCK, hMb⟩ (Nat.le_refl _) (Nat.le_refl _) hP hD hS (lv_sub hl [2, 3, 4, 5, 6] rfl)
set_option maxHeartbeats 4000000 in
set_option maxRecDepth 100000 in
theorem law_13u {v : Nat} {x y : Int} (B : L0 p s m args c sa A bS L xs D cI cZ cJ) (hMO : MO) (hl0 : l.stackTraces = false) (I : LInv nn mm tT oO oP zS zM zN oJ) (hi : i + 4 ≤ L) (hv : v ≤ 2) (hr9 : -2147483648 ≤ x ∧ x ≤ 2147483647 ∧ -2147483648 ≤ y ∧ y ≤ 2147483647) (hbad : ¬ ((0 ≤ x ∧ x < (nn : Int)) ∧ 0 ≤ y ∧ y < (mm : Int))) (e1 : xs (i + 1) = iI ((v : Int))) (e2 : xs (i + 2) = iI (x)) (e3 : xs (i + 3) = iI (y)) (hcs : cells + 1 ≤ 1053) (hss : slots + 6 ≤ 8592) (hP : va_P D vwCl (LWW ad bd b0 cI cZ cJ nn mm tT tB tE tL oO oR oQ zS zM zN oJ th nn mm bm tT oP sB sL sR sJ fL) H) (hD : va_D A (LWW ad bd b0 cI cZ cJ nn mm tT tB tE tL oO oR oQ zS zM zN oJ th nn mm bm tT oP sB sL sR sJ fL)) (hS : va_S A s.heap H locs) (hl : lv_has ls 9 [(4, .int (iI ((i : Nat) : Int))), (3, .ref (b0)), (2, .ref (bd 0)), (1, .ref (ad 0)), (0, .ref (bS))]) (nx : NX p l e s m args below meth c Q A D cI cZ cJ ad bd b0 bS i cells slots) : W p l e room_1 s m args below meth c H locs cells slots Q (F0 m 744 ls []) := by
  obtain ⟨hx, hb, hml, hown, hts, hK, hA, hX, hbl, hbA, hFX, hSX, hCX, hL⟩ := B
  obtain ⟨hn, hm, hT, hz, heq, hPm, hCK, hMb⟩ := id I
  have hO : ∀ k, k < nn → oO k < 7 := fun k hk => Nat.lt_of_lt_of_le (hPm.1 k hk) hn
  have hOP : ∀ k, k < nn → oP k < 7 := fun k hk => by rw [← heq k hk]; exact hO k hk
  refine lv_aload_n hx hb dL_law_744 rfl (lv_at hl 3 rfl) ?_
  refine lv_aload_n hx hb dL_law_745 rfl (lv_at hl 4 rfl) ?_
  refine lv_iload hx hb dL_law_746 (lv_at hl 0 rfl) ?_
  refine lv_iconst (v := iI 1) hx hb dL_law_748 rfl ?_
  refine w_iadd (z := ((i + 1 : Nat) : Int)) hx hb dL_law_749 (by omega) ?_
  refine w_sld hx hb hX hbl hbA hS hL (i + 1) rfl (by omega) e1 dL_law_750 ?_
  refine lv_aload_n hx hb dL_law_751 rfl (lv_at hl 4 rfl) ?_
  refine lv_iload hx hb dL_law_752 (lv_at hl 0 rfl) ?_
  refine lv_iconst (v := iI 2) hx hb dL_law_754 rfl ?_
  refine w_iadd (z := ((i + 2 : Nat) : Int)) hx hb dL_law_755 (by omega) ?_
  refine w_sld hx hb hX hbl hbA hS hL (i + 2) rfl (by omega) e2 dL_law_756 ?_
  refine lv_aload_n hx hb dL_law_757 rfl (lv_at hl 4 rfl) ?_
  refine lv_iload hx hb dL_law_758 (lv_at hl 0 rfl) ?_
  refine lv_iconst (v := iI 3) hx hb dL_law_760 rfl ?_
  refine w_iadd (z := ((i + 3 : Nat) : Int)) hx hb dL_law_761 (by omega) ?_
  refine w_sld hx hb hX hbl hbA hS hL (i + 3) rfl (by omega) e3 dL_law_762 ?_
  refine lv_aload_n hx hb dL_law_763 rfl (lv_at hl 1 rfl) ?_
  have hTX : TX sa s H := ⟨(hFX.kept hS.2.1).no, hSX, hCX⟩
  refine w_lS (As := [.ref (ad 0), .int (iI ((v : Int))), .int (iI (x)), .int (iI (y)), .ref (b0)]) (rest := []) (sa := sa) (wc := xw ad cI cZ nn mm tT tB tE tL oO oR oQ zS zM zN oJ ++ [(b0, .inl (cJ, 1, .inr (.inl (fL))))]) (wf := fun u : Unit => LWW ad bd b0 cI cZ cJ nn mm tT tB tE tL oO oR oQ zS zM zN oJ th nn mm bm tT oP sB sL sR sJ fL) (wr := mw bd cI th nn mm bm tT oP sB sL sR sJ) ⟨hx, hb, hml, hown, hts⟩ hK hP hD hS hA hTX (hL_begin_2_t hl0 hn hm hv hr9 hbad) (vx_cwSW 5 hts gL_law_L_begin rfl rfl rfl (by decide +kernel) ⟨Nat.le_of_ble_eq_true rfl, Nat.le_of_ble_eq_true rfl⟩) [0, 1, 2, 3, 4, 5, 6, 7, 8, 9, 10, 11, 19] [12, 13, 14, 15, 16, 17, 18] [7, 8, 9, 10, 11, 12, 13, 14, 15, 16, 17, 18, 0, 1, 2, 3, 4, 5, 6, 19] rfl rfl (by decide) (by decide) (by decide) (hwf := fun _ => rfl) (by decide) rfl hl.1 rfl (Nat.le_of_ble_eq_true rfl) dL_law_764 ⟨hcs, hss⟩ (fun r1 u1 H locs hr1 hP hD hS => ?_)
  refine w_top (v := iI 2) (hr1) ?_
  refine lv_istore (lv' := [(5, .int (iI 2)), (4, .int (iI ((i : Nat) : Int))), (3, .ref (b0)), (2, .ref (bd 0)), (1, .ref (ad 0)), (0, .ref (bS))]) hx hb dL_law_767 hl (by decide) rfl (fun ls hl => ?_)
  refine lv_aload_n hx hb dL_law_769 rfl (lv_at hl 3 rfl) ?_
  refine lv_aload_n hx hb dL_law_770 rfl (lv_at hl 5 rfl) ?_
  refine lv_iload hx hb dL_law_771 (lv_at hl 1 rfl) ?_
  refine lv_iconst (v := iI 1) hx hb dL_law_773 rfl ?_
  refine w_iadd (z := ((i + 1 : Nat) : Int)) hx hb dL_law_774 (by omega) ?_
  refine w_sld hx hb hX hbl hbA hS hL (i + 1) rfl (by omega) e1 dL_law_775 ?_
  refine lv_aload_n hx hb dL_law_776 rfl (lv_at hl 5 rfl) ?_
  refine lv_iload hx hb dL_law_777 (lv_at hl 1 rfl) ?_
  refine lv_iconst (v := iI 2) hx hb dL_law_779 rfl ?_
  refine w_iadd (z := ((i + 2 : Nat) : Int)) hx hb dL_law_780 (by omega) ?_
  refine w_sld hx hb hX hbl hbA hS hL (i + 2) rfl (by omega) e2 dL_law_781 ?_
  refine lv_aload_n hx hb dL_law_782 rfl (lv_at hl 5 rfl) ?_
  refine lv_iload hx hb dL_law_783 (lv_at hl 1 rfl) ?_
  refine lv_iconst (v := iI 3) hx hb dL_law_785 rfl ?_
  refine w_iadd (z := ((i + 3 : Nat) : Int)) hx hb dL_law_786 (by omega) ?_
  refine w_sld hx hb hX hbl hbA hS hL (i + 3) rfl (by omega) e3 dL_law_787 ?_
  refine w_iV (As := [.int (iI ((v : Int))), .int (iI (x)), .int (iI (y))]) (rest := []) (wc := mw bd cI th nn mm bm tT oP sB sL sR sJ) (wf := fun u : Unit => LWW ad bd b0 cI cZ cJ nn mm tT tB tE tL oO oR oQ zS zM zN oJ 2 nn mm bm tT oP sB sL sR sJ fL) (wr := xw ad cI cZ nn mm tT tB tE tL oO oR oQ zS zM zN oJ ++ [(b0, .inl (cJ, 1, .inr (.inl (fL))))]) ⟨hx, hb, hml, hown, hts⟩ hK hP hD hS hA (mX1_begin_e2 hn hm hv hr9 hbad) (cwV 3 hts gL_law_X1_begin rfl rfl rfl (by decide +kernel) ⟨Nat.le_of_ble_eq_true rfl, Nat.le_of_ble_eq_true rfl⟩) [12, 13, 14, 15, 16, 17, 18] [0, 1, 2, 3, 4, 5, 6, 7, 8, 9, 10, 11, 19] [0, 1, 2, 3, 4, 5, 6, 7, 8, 9, 10, 11, 13, 14, 15, 16, 17, 18, 19, 12] rfl rfl (by decide) (by decide) (by decide) (hwf := fun _ => rfl) (by decide) (ci := 1) rfl rfl rfl rfl hl.1 rfl (Nat.le_of_ble_eq_true rfl) dL_law_788 ⟨hcs, hss⟩ (fun v788 w788 H locs hv788 hP hD hS => ?_)
  refine w_top (v := iI 0) (hv788) ?_
  refine lv_istore (lv' := [(6, .int (iI 0)), (5, .int (iI 2)), (4, .int (iI ((i : Nat) : Int))), (3, .ref (b0)), (2, .ref (bd 0)), (1, .ref (ad 0)), (0, .ref (bS))]) hx hb dL_law_791 hl (by decide) rfl (fun ls hl => ?_)
  refine lv_aload_n hx hb dL_law_793 rfl (lv_at hl 4 rfl) ?_
  refine w_pV (As := []) (rest := []) ⟨hx, hb, hml, hown, hts⟩ hK (hP.sub (ws' := mw bd cI 2 nn mm bm tT oP sB sL sR sJ) [12, 13, 14, 15, 16, 17, 18] rfl) (mX1_thrown ) (cwV 0 hts gL_law_X1_thrown rfl rfl rfl (by decide +kernel) ⟨Nat.le_of_ble_eq_true rfl, Nat.le_of_ble_eq_true rfl⟩) (ci := 1) rfl rfl rfl rfl hl.1 rfl (Nat.le_of_ble_eq_true rfl) dL_law_794 ⟨hcs, hss⟩ (fun v794 hv794 => ?_)
  refine w_top (v := iI 2) (hv794) ?_
  refine lv_iload hx hb dL_law_797 (lv_at hl 1 rfl) ?_
  refine lv_icmp_eq (tgt := 804) hx hb dL_law_799 (by decide) (fun _ => ?_) (fun h9 => absurd rfl h9)
  refine lv_iload hx hb dL_law_804 (lv_at hl 1 rfl) ?_
  refine lv_if_ne (tgt := 821) hx hb dL_law_806 (by decide) (fun _ => ?_) (fun h9 => absurd h9 (by decide +kernel))
  refine lv_goto (tgt := 1461) hx hb dL_law_821 (by decide) ?_
  exact nx nn mm tT tB tE tL oO oR oQ zS zM zN oJ 2 bm oP sB sL sR sJ fL _ _ _ _ ls ⟨hn, hm, hT, hz, heq, hPm, hCK, hMb⟩ (Nat.le_refl _) (Nat.le_refl _) hP hD hS (lv_sub hl [2, 3, 4, 5, 6] rfl)
set_option maxHeartbeats 4000000 in
set_option maxRecDepth 100000 in
theorem law_14  (B : L0 p s m args c sa A bS L xs D cI cZ cJ) (hMO : MO) (hl0 : l.stackTraces = false) (I : LInv nn mm tT oO oP zS zM zN oJ) (hi : i + 4 ≤ L)  (hcs : cells + 1 ≤ 1053) (hss : slots + 6 ≤ 8592) (hP : va_P D vwCl (LWW ad bd b0 cI cZ cJ nn mm tT tB tE tL oO oR oQ zS zM zN oJ th nn mm bm tT oP sB sL sR sJ fL) H) (hD : va_D A (LWW ad bd b0 cI cZ cJ nn mm tT tB tE tL oO oR oQ zS zM zN oJ th nn mm bm tT oP sB sL sR sJ fL)) (hS : va_S A s.heap H locs) (hl : lv_has ls 9 [(4, .int (iI ((i : Nat) : Int))), (3, .ref (b0)), (2, .ref (bd 0)), (1, .ref (ad 0)), (0, .ref (bS))]) (nx : NX p l e s m args below meth c Q A D cI cZ cJ ad bd b0 bS i cells slots) : W p l e room_1 s m args below meth c H locs cells slots Q (F0 m 824 ls []) := by
  obtain ⟨hx, hb, hml, hown, hts, hK, hA, hX, hbl, hbA, hFX, hSX, hCX, hL⟩ := B
  obtain ⟨hn, hm, hT, hz, heq, hPm, hCK, hMb⟩ := id I
  have hO : ∀ k, k < nn → oO k < 7 := fun k hk => Nat.lt_of_lt_of_le (hPm.1 k hk) hn
  have hOP : ∀ k, k < nn → oP k < 7 := fun k hk => by rw [← heq k hk]; exact hO k hk
  refine lv_aload_n hx hb dL_law_824 rfl (lv_at hl 3 rfl) ?_
  refine w_iV (As := []) (rest := []) (wc := xw ad cI cZ nn mm tT tB tE tL oO oR oQ zS zM zN oJ) (wf := fun u : (Nat → Int) × (Nat → Int) => LWW ad bd b0 cI cZ cJ nn mm tT u.1 u.2 tL oO oR oQ zS zM zN oJ th nn mm bm tT oP sB sL sR sJ fL) (wr := mw bd cI th nn mm bm tT oP sB sL sR sJ ++ [(b0, .inl (cJ, 1, .inr (.inl (fL))))]) ⟨hx, hb, hml, hown, hts⟩ hK hP hD hS hA (mX0_totalTime hT hn hm hO) (cwV 0 hts gL_law_X0_totalTime rfl rfl rfl (by decide +kernel) ⟨Nat.le_of_ble_eq_true rfl, Nat.le_of_ble_eq_true rfl⟩) [0, 1, 2, 3, 4, 5, 6, 7, 8, 9, 10, 11] [12, 13, 14, 15, 16, 17, 18, 19] [8, 9, 10, 11, 12, 13, 14, 15, 16, 17, 18, 19, 0, 1, 2, 3, 4, 5, 6, 7] rfl rfl (by decide) (by decide) (by decide) (hwf := fun _ => rfl) (by decide) (ci := 0) rfl rfl rfl rfl hl.1 rfl (Nat.le_of_ble_eq_true rfl) dL_law_825 ⟨Nat.le_of_succ_le hcs, Nat.le_trans (Nat.le_add_right _ 6) hss⟩ (fun v825 w825 H locs hv825 hP hD hS => ?_)
  refine w_top (v := iI (toC tT mm oO nn)) (hv825) ?_
  refine lv_aload_n hx hb dL_law_828 rfl (lv_at hl 2 rfl) ?_
  refine w_iV (As := []) (rest := [.int (iI (toC tT mm oO nn))]) (wc := mw bd cI th nn mm bm tT oP sB sL sR sJ) (wf := fun u : (Nat → Int) => LWW ad bd b0 cI cZ cJ nn mm tT w825.1 w825.2 tL oO oR oQ zS zM zN oJ 0 nn mm bm tT oP u sL sR sJ fL) (wr := xw ad cI cZ nn mm tT w825.1 w825.2 tL oO oR oQ zS zM zN oJ ++ [(b0, .inl (cJ, 1, .inr (.inl (fL))))]) ⟨hx, hb, hml, hown, hts⟩ hK hP hD hS hA (mX1_totalTime hT hn hm hOP) (cwV 0 hts gL_law_X1_totalTime rfl rfl rfl (by decide +kernel) ⟨Nat.le_of_ble_eq_true rfl, Nat.le_of_ble_eq_true rfl⟩) [12, 13, 14, 15, 16, 17, 18] [0, 1, 2, 3, 4, 5, 6, 7, 8, 9, 10, 11, 19] [0, 1, 2, 3, 4, 5, 6, 7, 8, 9, 10, 11, 13, 14, 15, 16, 17, 18, 19, 12] rfl rfl (by decide) (by decide) (by decide) (hwf := fun _ => rfl) (by decide) (ci := 1) rfl rfl rfl rfl hl.1 rfl (Nat.le_of_ble_eq_true rfl) dL_law_829 ⟨Nat.le_of_succ_le hcs, Nat.le_trans (Nat.le_add_right _ 6) hss⟩ (fun v829 w829 H locs hv829 hP hD hS => ?_)
  refine w_top (v := iI (toC tT mm oO nn)) (hv829.trans (congrArg iI ((toC_cg heq nn (Nat.le_refl _)).symm))) ?_
  refine lv_icmp_eq (tgt := 1461) hx hb dL_law_832 (by decide) (fun _ => ?_) (fun h9 => absurd rfl h9)
  exact nx nn mm tT w825.1 w825.2 tL oO oR oQ zS zM zN oJ 0 bm oP w829 sL sR sJ fL _ _ _ _ ls ⟨hn, hm, hT, hz, heq, hPm, hCK, hMb⟩ (Nat.le_succ _) (Nat.le_add_right _ _) hP hD hS (lv_sub hl [0, 1, 2, 3, 4] rfl)
set_option maxHeartbeats 4000000 in
set_option maxRecDepth 100000 in
theorem law_15 {q k : Nat} (B : L0 p s m args c sa A bS L xs D cI cZ cJ) (hMO : MO) (hl0 : l.stackTraces = false) (I : LInv nn mm tT oO oP zS zM zN oJ) (hi : i + 4 ≤ L) (hq : q < nn) (hk : k < mm) (e1 : xs (i + 1) = iI ((q : Int))) (e2 : xs (i + 2) = iI ((k : Int))) (hcs : cells + 1 ≤ 1053) (hss : slots + 6 ≤ 8592) (hP : va_P D vwCl (LWW ad bd b0 cI cZ cJ nn mm tT tB tE tL oO oR oQ zS zM zN oJ th nn mm bm tT oP sB sL sR sJ fL) H) (hD : va_D A (LWW ad bd b0 cI cZ cJ nn mm tT tB tE tL oO oR oQ zS zM zN oJ th nn mm bm tT oP sB sL sR sJ fL)) (hS : va_S A s.heap H locs) (hl : lv_has ls 9 [(4, .int (iI ((i : Nat) : Int))), (3, .ref (b0)), (2, .ref (bd 0)), (1, .ref (ad 0)), (0, .ref (bS))]) (nx : NX p l e s m args below meth c Q A D cI cZ cJ ad bd b0 bS i cells slots) : W p l e room_1 s m args below meth c H locs cells slots Q (F0 m 837 ls []) := by
  obtain ⟨hx, hb, hml, hown, hts, hK, hA, hX, hbl, hbA, hFX, hSX, hCX, hL⟩ := B
  obtain ⟨hn, hm, hT, hz, heq, hPm, hCK, hMb⟩ := id I
  have hO : ∀ k, k < nn → oO k < 7 := fun k hk => Nat.lt_of_lt_of_le (hPm.1 k hk) hn
  have hOP : ∀ k, k < nn → oP k < 7 := fun k hk => by rw [← heq k hk]; exact hO k hk
  refine lv_aload_n hx hb dL_law_837 rfl (lv_at hl 3 rfl) ?_
  refine lv_aload_n hx hb dL_law_838 rfl (lv_at hl 4 rfl) ?_
  refine lv_iload hx hb dL_law_839 (lv_at hl 0 rfl) ?_
  refine lv_iconst (v := iI 1) hx hb dL_law_841 rfl ?_
  refine w_iadd (z := ((i + 1 : Nat) : Int)) hx hb dL_law_842 (by omega) ?_
  refine w_sld hx hb hX hbl hbA hS hL (i + 1) rfl (by omega) e1 dL_law_843 ?_
  refine lv_aload_n hx hb dL_law_844 rfl (lv_at hl 4 rfl) ?_
  refine lv_iload hx hb dL_law_845 (lv_at hl 0 rfl) ?_
  refine lv_iconst (v := iI 2) hx hb dL_law_847 rfl ?_
  refine w_iadd (z := ((i + 2 : Nat) : Int)) hx hb dL_law_848 (by omega) ?_
  refine w_sld hx hb hX hbl hbA hS hL (i + 2) rfl (by omega) e2 dL_law_849 ?_
  refine lv_aload_n hx hb dL_law_850 rfl (lv_at hl 1 rfl) ?_
  have hTX : TX sa s H := ⟨(hFX.kept hS.2.1).no, hSX, hCX⟩
  refine w_lS (As := [.ref (ad 0), .int (iI ((q : Int))), .int (iI ((k : Int))), .ref (b0)]) (rest := []) (sa := sa) (wc := xw ad cI cZ nn mm tT tB tE tL oO oR oQ zS zM zN oJ ++ [(b0, .inl (cJ, 1, .inr (.inl (fL))))]) (wf := fun u : (Nat → Int) × (Nat → Int) => LWW ad bd b0 cI cZ cJ nn mm tT u.1 u.2 tL oO oR oQ zS zM zN oJ th nn mm bm tT oP sB sL sR sJ (lS fL ((row 0 mm tT oO (q + 1)).2 k))) (wr := mw bd cI th nn mm bm tT oP sB sL sR sJ) ⟨hx, hb, hml, hown, hts⟩ hK hP hD hS hA hTX (hL_head hT hn hm hO hq hk) (vx_cwSW 4 hts gL_law_L_head rfl rfl rfl (by decide +kernel) ⟨Nat.le_of_ble_eq_true rfl, Nat.le_of_ble_eq_true rfl⟩) [0, 1, 2, 3, 4, 5, 6, 7, 8, 9, 10, 11, 19] [12, 13, 14, 15, 16, 17, 18] [7, 8, 9, 10, 11, 12, 13, 14, 15, 16, 17, 18, 0, 1, 2, 3, 4, 5, 6, 19] rfl rfl (by decide) (by decide) (by decide) (hwf := fun _ => rfl) (by decide) rfl hl.1 rfl (Nat.le_of_ble_eq_true rfl) dL_law_851 ⟨hcs, hss⟩ (fun r1 u1 H locs hr1 hP hD hS => ?_)
  refine w_top (v := iI 0) (hr1) ?_
  refine lv_istore (lv' := [(5, .int (iI 0)), (4, .int (iI ((i : Nat) : Int))), (3, .ref (b0)), (2, .ref (bd 0)), (1, .ref (ad 0)), (0, .ref (bS))]) hx hb dL_law_854 hl (by decide) rfl (fun ls hl => ?_)
  refine lv_aload_n hx hb dL_law_856 rfl (lv_at hl 3 rfl) ?_
  refine lv_aload_n hx hb dL_law_857 rfl (lv_at hl 5 rfl) ?_
  refine lv_iload hx hb dL_law_858 (lv_at hl 1 rfl) ?_
  refine lv_iconst (v := iI 1) hx hb dL_law_860 rfl ?_
  refine w_iadd (z := ((i + 1 : Nat) : Int)) hx hb dL_law_861 (by omega) ?_
  refine w_sld hx hb hX hbl hbA hS hL (i + 1) rfl (by omega) e1 dL_law_862 ?_
  refine lv_aload_n hx hb dL_law_863 rfl (lv_at hl 5 rfl) ?_
  refine lv_iload hx hb dL_law_864 (lv_at hl 1 rfl) ?_
  refine lv_iconst (v := iI 2) hx hb dL_law_866 rfl ?_
  refine w_iadd (z := ((i + 2 : Nat) : Int)) hx hb dL_law_867 (by omega) ?_
  refine w_sld hx hb hX hbl hbA hS hL (i + 2) rfl (by omega) e2 dL_law_868 ?_
  refine w_iV (As := [.int (iI ((q : Int))), .int (iI ((k : Int)))]) (rest := []) (wc := mw bd cI th nn mm bm tT oP sB sL sR sJ) (wf := fun u : (Nat → Int) => LWW ad bd b0 cI cZ cJ nn mm tT u1.1 u1.2 tL oO oR oQ zS zM zN oJ 0 nn mm bm tT oP u sL sR sJ (lS fL ((row 0 mm tT oO (q + 1)).2 k))) (wr := xw ad cI cZ nn mm tT u1.1 u1.2 tL oO oR oQ zS zM zN oJ ++ [(b0, .inl (cJ, 1, .inr (.inl (lS fL ((row 0 mm tT oO (q + 1)).2 k)))))]) ⟨hx, hb, hml, hown, hts⟩ hK hP hD hS hA (mX1_head hT hn hm hOP hq hk) (cwV 2 hts gL_law_X1_head rfl rfl rfl (by decide +kernel) ⟨Nat.le_of_ble_eq_true rfl, Nat.le_of_ble_eq_true rfl⟩) [12, 13, 14, 15, 16, 17, 18] [0, 1, 2, 3, 4, 5, 6, 7, 8, 9, 10, 11, 19] [0, 1, 2, 3, 4, 5, 6, 7, 8, 9, 10, 11, 13, 14, 15, 16, 17, 18, 19, 12] rfl rfl (by decide) (by decide) (by decide) (hwf := fun _ => rfl) (by decide) (ci := 1) rfl rfl rfl rfl hl.1 rfl (Nat.le_of_ble_eq_true rfl) dL_law_869 ⟨hcs, hss⟩ (fun v869 w869 H locs hv869 hP hD hS => ?_)
  refine w_top (v := iI ((row 0 mm tT oO (q + 1)).2 k)) (hv869.trans (congrArg iI (by rw [row_cg (c := q + 1) (fun k hk => (heq k (by omega)).symm)]))) ?_
  refine lv_istore (lv' := [(6, .int (iI ((row 0 mm tT oO (q + 1)).2 k))), (5, .int (iI 0)), (4, .int (iI ((i : Nat) : Int))), (3, .ref (b0)), (2, .ref (bd 0)), (1, .ref (ad 0)), (0, .ref (bS))]) hx hb dL_law_872 hl (by decide) rfl (fun ls hl => ?_)
  refine lv_aload_n hx hb dL_law_874 rfl (lv_at hl 4 rfl) ?_
  refine w_pV (As := []) (rest := []) ⟨hx, hb, hml, hown, hts⟩ hK (hP.sub (ws' := mw bd cI 0 nn mm bm tT oP w869 sL sR sJ) [12, 13, 14, 15, 16, 17, 18] rfl) (mX1_thrown ) (cwV 0 hts gL_law_X1_thrown rfl rfl rfl (by decide +kernel) ⟨Nat.le_of_ble_eq_true rfl, Nat.le_of_ble_eq_true rfl⟩) (ci := 1) rfl rfl rfl rfl hl.1 rfl (Nat.le_of_ble_eq_true rfl) dL_law_875 ⟨hcs, hss⟩ (fun v875 hv875 => ?_)
  refine w_top (v := iI 0) (hv875) ?_
  refine lv_iload hx hb dL_law_878 (lv_at hl 1 rfl) ?_
  refine lv_icmp_eq (tgt := 885) hx hb dL_law_880 (by decide) (fun _ => ?_) (fun h9 => absurd rfl h9)
  refine lv_iload hx hb dL_law_885 (lv_at hl 1 rfl) ?_
  refine lv_if_ne (tgt := 902) hx hb dL_law_887 (by decide) (fun h9 => absurd (by decide +kernel) h9) (fun _ => ?_)
  refine lv_aload_n hx hb dL_law_890 rfl (lv_at hl 3 rfl) ?_
  refine lv_iconst (v := iI 0) hx hb dL_law_891 rfl ?_
  refine w_lald (v := (iI ((row 0 mm tT oO (q + 1)).2 k)).toInt64) hx hb hK hP 19 2 rfl rfl (lS_0 _ _) dL_law_892 ?_
  refine lv_iload hx hb dL_law_893 (lv_at hl 0 rfl) ?_
  refine lv_i2l (v := (iI ((row 0 mm tT oO (q + 1)).2 k)).toInt64) hx hb dL_law_895 rfl ?_
  refine w_lcmpE hx hb dL_law_896 ?_
  refine lv_if_eq (tgt := 902) hx hb dL_law_897 (by decide) (fun _ => ?_) (fun h9 => absurd rfl h9)
  refine lv_goto (tgt := 1461) hx hb dL_law_902 (by decide) ?_
  exact nx nn mm tT u1.1 u1.2 tL oO oR oQ zS zM zN oJ 0 bm oP w869 sL sR sJ (lS fL ((row 0 mm tT oO (q + 1)).2 k)) _ _ _ _ ls ⟨hn, hm, hT, hz, heq, hPm, hCK, hMb⟩ (Nat.le_refl _) (Nat.le_refl _) hP hD hS (lv_sub hl [2, 3, 4, 5, 6] rfl)
set_option maxHeartbeats 4000000 in
set_option maxRecDepth 100000 in
theorem law_15t {x y : Int} (B : L0 p s m args c sa A bS L xs D cI cZ cJ) (hMO : MO) (hl0 : l.stackTraces = false) (I : LInv nn mm tT oO oP zS zM zN oJ) (hi : i + 4 ≤ L) (hr9 : -2147483648 ≤ x ∧ x ≤ 2147483647 ∧ -2147483648 ≤ y ∧ y ≤ 2147483647) (hbad : ¬ ((0 ≤ x ∧ x < (nn : Int)) ∧ 0 ≤ y ∧ y < (mm : Int))) (e1 : xs (i + 1) = iI (x)) (e2 : xs (i + 2) = iI (y)) (hcs : cells + 1 ≤ 1053) (hss : slots + 6 ≤ 8592) (hP : va_P D vwCl (LWW ad bd b0 cI cZ cJ nn mm tT tB tE tL oO oR oQ zS zM zN oJ th nn mm bm tT oP sB sL sR sJ fL) H) (hD : va_D A (LWW ad bd b0 cI cZ cJ nn mm tT tB tE tL oO oR oQ zS zM zN oJ th nn mm bm tT oP sB sL sR sJ fL)) (hS : va_S A s.heap H locs) (hl : lv_has ls 9 [(4, .int (iI ((i : Nat) : Int))), (3, .ref (b0)), (2, .ref (bd 0)), (1, .ref (ad 0)), (0, .ref (bS))]) (nx : NX p l e s m args below meth c Q A D cI cZ cJ ad bd b0 bS i cells slots) : W p l e room_1 s m args below meth c H locs cells slots Q (F0 m 837 ls []) := by
  obtain ⟨hx, hb, hml, hown, hts, hK, hA, hX, hbl, hbA, hFX, hSX, hCX, hL⟩ := B
  obtain ⟨hn, hm, hT, hz, heq, hPm, hCK, hMb⟩ := id I
  have hO : ∀ k, k < nn → oO k < 7 := fun k hk => Nat.lt_of_lt_of_le (hPm.1 k hk) hn
  have hOP : ∀ k, k < nn → oP k < 7 := fun k hk => by rw [← heq k hk]; exact hO k hk
  refine lv_aload_n hx hb dL_law_837 rfl (lv_at hl 3 rfl) ?_
  refine lv_aload_n hx hb dL_law_838 rfl (lv_at hl 4 rfl) ?_
  refine lv_iload hx hb dL_law_839 (lv_at hl 0 rfl) ?_
  refine lv_iconst (v := iI 1) hx hb dL_law_841 rfl ?_
  refine w_iadd (z := ((i + 1 : Nat) : Int)) hx hb dL_law_842 (by omega) ?_
  refine w_sld hx hb hX hbl hbA hS hL (i + 1) rfl (by omega) e1 dL_law_843 ?_
  refine lv_aload_n hx hb dL_law_844 rfl (lv_at hl 4 rfl) ?_
  refine lv_iload hx hb dL_law_845 (lv_at hl 0 rfl) ?_
  refine lv_iconst (v := iI 2) hx hb dL_law_847 rfl ?_
  refine w_iadd (z := ((i + 2 : Nat) : Int)) hx hb dL_law_848 (by omega) ?_
  refine w_sld hx hb hX hbl hbA hS hL (i + 2) rfl (by omega) e2 dL_law_849 ?_
  refine lv_aload_n hx hb dL_law_850 rfl (lv_at hl 1 rfl) ?_
  have hTX : TX sa s H := ⟨(hFX.kept hS.2.1).no, hSX, hCX⟩
  refine w_lS (As := [.ref (ad 0), .int (iI (x)), .int (iI (y)), .ref (b0)]) (rest := []) (sa := sa) (wc := xw ad cI cZ nn mm tT tB tE tL oO oR oQ zS zM zN oJ ++ [(b0, .inl (cJ, 1, .inr (.inl (fL))))]) (wf := fun u : Unit => LWW ad bd b0 cI cZ cJ nn mm tT tB tE tL oO oR oQ zS zM zN oJ th nn mm bm tT oP sB sL sR sJ fL) (wr := mw bd cI th nn mm bm tT oP sB sL sR sJ) ⟨hx, hb, hml, hown, hts⟩ hK hP hD hS hA hTX (hL_head_t hl0 hn hm hr9 hbad) (vx_cwSW 4 hts gL_law_L_head rfl rfl rfl (by decide +kernel) ⟨Nat.le_of_ble_eq_true rfl, Nat.le_of_ble_eq_true rfl⟩) [0, 1, 2, 3, 4, 5, 6, 7, 8, 9, 10, 11, 19] [12, 13, 14, 15, 16, 17, 18] [7, 8, 9, 10, 11, 12, 13, 14, 15, 16, 17, 18, 0, 1, 2, 3, 4, 5, 6, 19] rfl rfl (by decide) (by decide) (by decide) (hwf := fun _ => rfl) (by decide) rfl hl.1 rfl (Nat.le_of_ble_eq_true rfl) dL_law_851 ⟨hcs, hss⟩ (fun r1 u1 H locs hr1 hP hD hS => ?_)
  refine w_top (v := iI 1) (hr1) ?_
  refine lv_istore (lv' := [(5, .int (iI 1)), (4, .int (iI ((i : Nat) : Int))), (3, .ref (b0)), (2, .ref (bd 0)), (1, .ref (ad 0)), (0, .ref (bS))]) hx hb dL_law_854 hl (by decide) rfl (fun ls hl => ?_)
  refine lv_aload_n hx hb dL_law_856 rfl (lv_at hl 3 rfl) ?_
  refine lv_aload_n hx hb dL_law_857 rfl (lv_at hl 5 rfl) ?_
  refine lv_iload hx hb dL_law_858 (lv_at hl 1 rfl) ?_
  refine lv_iconst (v := iI 1) hx hb dL_law_860 rfl ?_
  refine w_iadd (z := ((i + 1 : Nat) : Int)) hx hb dL_law_861 (by omega) ?_
  refine w_sld hx hb hX hbl hbA hS hL (i + 1) rfl (by omega) e1 dL_law_862 ?_
  refine lv_aload_n hx hb dL_law_863 rfl (lv_at hl 5 rfl) ?_
  refine lv_iload hx hb dL_law_864 (lv_at hl 1 rfl) ?_
  refine lv_iconst (v := iI 2) hx hb dL_law_866 rfl ?_
  refine w_iadd (z := ((i + 2 : Nat) : Int)) hx hb dL_law_867 (by omega) ?_
  refine w_sld hx hb hX hbl hbA hS hL (i + 2) rfl (by omega) e2 dL_law_868 ?_
  refine w_iV (As := [.int (iI (x)), .int (iI (y))]) (rest := []) (wc := mw bd cI th nn mm bm tT oP sB sL sR sJ) (wf := fun u : Unit => LWW ad bd b0 cI cZ cJ nn mm tT tB tE tL oO oR oQ zS zM zN oJ 1 nn mm bm tT oP sB sL sR sJ fL) (wr := xw ad cI cZ nn mm tT tB tE tL oO oR oQ zS zM zN oJ ++ [(b0, .inl (cJ, 1, .inr (.inl (fL))))]) ⟨hx, hb, hml, hown, hts⟩ hK hP hD hS hA (mX1_head_e hn hm hr9 hbad) (cwV 2 hts gL_law_X1_head rfl rfl rfl (by decide +kernel) ⟨Nat.le_of_ble_eq_true rfl, Nat.le_of_ble_eq_true rfl⟩) [12, 13, 14, 15, 16, 17, 18] [0, 1, 2, 3, 4, 5, 6, 7, 8, 9, 10, 11, 19] [0, 1, 2, 3, 4, 5, 6, 7, 8, 9, 10, 11, 13, 14, 15, 16, 17, 18, 19, 12] rfl rfl (by decide) (by decide) (by decide) (hwf := fun _ => rfl) (by decide) (ci := 1) rfl rfl rfl rfl hl.1 rfl (Nat.le_of_ble_eq_true rfl) dL_law_869 ⟨hcs, hss⟩ (fun v869 w869 H locs hv869 hP hD hS => ?_)
  refine w_top (v := iI 0) (hv869) ?_
  refine lv_istore (lv' := [(6, .int (iI 0)), (5, .int (iI 1)), (4, .int (iI ((i : Nat) : Int))), (3, .ref (b0)), (2, .ref (bd 0)), (1, .ref (ad 0)), (0, .ref (bS))]) hx hb dL_law_872 hl (by decide) rfl (fun ls hl => ?_)
  refine lv_aload_n hx hb dL_law_874 rfl (lv_at hl 4 rfl) ?_
  refine w_pV (As := []) (rest := []) ⟨hx, hb, hml, hown, hts⟩ hK (hP.sub (ws' := mw bd cI 1 nn mm bm tT oP sB sL sR sJ) [12, 13, 14, 15, 16, 17, 18] rfl) (mX1_thrown ) (cwV 0 hts gL_law_X1_thrown rfl rfl rfl (by decide +kernel) ⟨Nat.le_of_ble_eq_true rfl, Nat.le_of_ble_eq_true rfl⟩) (ci := 1) rfl rfl rfl rfl hl.1 rfl (Nat.le_of_ble_eq_true rfl) dL_law_875 ⟨hcs, hss⟩ (fun v875 hv875 => ?_)
  refine w_top (v := iI 1) (hv875) ?_
  refine lv_iload hx hb dL_law_878 (lv_at hl 1 rfl) ?_
  refine lv_icmp_eq (tgt := 885) hx hb dL_law_880 (by decide) (fun _ => ?_) (fun h9 => absurd rfl h9)
  refine lv_iload hx hb dL_law_885 (lv_at hl 1 rfl) ?_
  refine lv_if_ne (tgt := 902) hx hb dL_law_887 (by decide) (fun _ => ?_) (fun h9 => absurd h9 (by decide +kernel))
  refine lv_goto (tgt := 1461) hx hb dL_law_902 (by decide) ?_
  exact nx nn mm tT tB tE tL oO oR oQ zS zM zN oJ 1 bm oP sB sL sR sJ fL _ _ _ _ ls ⟨hn, hm, hT, hz, heq, hPm, hCK, hMb⟩ (Nat.le_refl _) (Nat.le_refl _) hP hD hS (lv_sub hl [2, 3, 4, 5, 6] rfl)
set_option maxHeartbeats 4000000 in
set_option maxRecDepth 100000 in
theorem law_16 {q k : Nat} (B : L0 p s m args c sa A bS L xs D cI cZ cJ) (hMO : MO) (hl0 : l.stackTraces = false) (I : LInv nn mm tT oO oP zS zM zN oJ) (hi : i + 4 ≤ L) (hq : q < nn) (hk : k < mm) (e1 : xs (i + 1) = iI ((q : Int))) (e2 : xs (i + 2) = iI ((k : Int))) (hcs : cells + 1 ≤ 1053) (hss : slots + 6 ≤ 8592) (hP : va_P D vwCl (LWW ad bd b0 cI cZ cJ nn mm tT tB tE tL oO oR oQ zS zM zN oJ th nn mm bm tT oP sB sL sR sJ fL) H) (hD : va_D A (LWW ad bd b0 cI cZ cJ nn mm tT tB tE tL oO oR oQ zS zM zN oJ th nn mm bm tT oP sB sL sR sJ fL)) (hS : va_S A s.heap H locs) (hl : lv_has ls 9 [(4, .int (iI ((i : Nat) : Int))), (3, .ref (b0)), (2, .ref (bd 0)), (1, .ref (ad 0)), (0, .ref (bS))]) (nx : NX p l e s m args below meth c Q A D cI cZ cJ ad bd b0 bS i cells slots) : W p l e room_1 s m args below meth c H locs cells slots Q (F0 m 905 ls []) := by
  obtain ⟨hx, hb, hml, hown, hts, hK, hA, hX, hbl, hbA, hFX, hSX, hCX, hL⟩ := B
  obtain ⟨hn, hm, hT, hz, heq, hPm, hCK, hMb⟩ := id I
  have hO : ∀ k, k < nn → oO k < 7 := fun k hk => Nat.lt_of_lt_of_le (hPm.1 k hk) hn
  have hOP : ∀ k, k < nn → oP k < 7 := fun k hk => by rw [← heq k hk]; exact hO k hk
  refine lv_aload_n hx hb dL_law_905 rfl (lv_at hl 3 rfl) ?_
  refine lv_aload_n hx hb dL_law_906 rfl (lv_at hl 4 rfl) ?_
  refine lv_iload hx hb dL_law_907 (lv_at hl 0 rfl) ?_
  refine lv_iconst (v := iI 1) hx hb dL_law_909 rfl ?_
  refine w_iadd (z := ((i + 1 : Nat) : Int)) hx hb dL_law_910 (by omega) ?_
  refine w_sld hx hb hX hbl hbA hS hL (i + 1) rfl (by omega) e1 dL_law_911 ?_
  refine lv_aload_n hx hb dL_law_912 rfl (lv_at hl 4 rfl) ?_
  refine lv_iload hx hb dL_law_913 (lv_at hl 0 rfl) ?_
  refine lv_iconst (v := iI 2) hx hb dL_law_915 rfl ?_
  refine w_iadd (z := ((i + 2 : Nat) : Int)) hx hb dL_law_916 (by omega) ?_
  refine w_sld hx hb hX hbl hbA hS hL (i + 2) rfl (by omega) e2 dL_law_917 ?_
  refine lv_aload_n hx hb dL_law_918 rfl (lv_at hl 1 rfl) ?_
  have hTX : TX sa s H := ⟨(hFX.kept hS.2.1).no, hSX, hCX⟩
  refine w_lS (As := [.ref (ad 0), .int (iI ((q : Int))), .int (iI ((k : Int))), .ref (b0)]) (rest := []) (sa := sa) (wc := xw ad cI cZ nn mm tT tB tE tL oO oR oQ zS zM zN oJ ++ [(b0, .inl (cJ, 1, .inr (.inl (fL))))]) (wf := fun u : (Nat → Int) => LWW ad bd b0 cI cZ cJ nn mm tT tB tE u oO oR oQ zS zM zN oJ th nn mm bm tT oP sB sL sR sJ (lS fL (tlr tT oO nn mm (nn - q) k))) (wr := mw bd cI th nn mm bm tT oP sB sL sR sJ) ⟨hx, hb, hml, hown, hts⟩ hK hP hD hS hA hTX (hL_tail hT hn hm hO hq hk) (vx_cwSW 4 hts gL_law_L_tail rfl rfl rfl (by decide +kernel) ⟨Nat.le_of_ble_eq_true rfl, Nat.le_of_ble_eq_true rfl⟩) [0, 1, 2, 3, 4, 5, 6, 7, 8, 9, 10, 11, 19] [12, 13, 14, 15, 16, 17, 18] [7, 8, 9, 10, 11, 12, 13, 14, 15, 16, 17, 18, 0, 1, 2, 3, 4, 5, 6, 19] rfl rfl (by decide) (by decide) (by decide) (hwf := fun _ => rfl) (by decide) rfl hl.1 rfl (Nat.le_of_ble_eq_true rfl) dL_law_919 ⟨hcs, hss⟩ (fun r1 u1 H locs hr1 hP hD hS => ?_)
  refine w_top (v := iI 0) (hr1) ?_
  refine lv_istore (lv' := [(5, .int (iI 0)), (4, .int (iI ((i : Nat) : Int))), (3, .ref (b0)), (2, .ref (bd 0)), (1, .ref (ad 0)), (0, .ref (bS))]) hx hb dL_law_922 hl (by decide) rfl (fun ls hl => ?_)
  refine lv_aload_n hx hb dL_law_924 rfl (lv_at hl 3 rfl) ?_
  refine lv_aload_n hx hb dL_law_925 rfl (lv_at hl 5 rfl) ?_
  refine lv_iload hx hb dL_law_926 (lv_at hl 1 rfl) ?_
  refine lv_iconst (v := iI 1) hx hb dL_law_928 rfl ?_
  refine w_iadd (z := ((i + 1 : Nat) : Int)) hx hb dL_law_929 (by omega) ?_
  refine w_sld hx hb hX hbl hbA hS hL (i + 1) rfl (by omega) e1 dL_law_930 ?_
  refine lv_aload_n hx hb dL_law_931 rfl (lv_at hl 5 rfl) ?_
  refine lv_iload hx hb dL_law_932 (lv_at hl 1 rfl) ?_
  refine lv_iconst (v := iI 2) hx hb dL_law_934 rfl ?_
  refine w_iadd (z := ((i + 2 : Nat) : Int)) hx hb dL_law_935 (by omega) ?_
  refine w_sld hx hb hX hbl hbA hS hL (i + 2) rfl (by omega) e2 dL_law_936 ?_
  refine w_iV (As := [.int (iI ((q : Int))), .int (iI ((k : Int)))]) (rest := []) (wc := mw bd cI th nn mm bm tT oP sB sL sR sJ) (wf := fun u : (Nat → Int) => LWW ad bd b0 cI cZ cJ nn mm tT tB tE u1 oO oR oQ zS zM zN oJ 0 nn mm bm tT oP sB u sR sJ (lS fL (tlr tT oO nn mm (nn - q) k))) (wr := xw ad cI cZ nn mm tT tB tE u1 oO oR oQ zS zM zN oJ ++ [(b0, .inl (cJ, 1, .inr (.inl (lS fL (tlr tT oO nn mm (nn - q) k)))))]) ⟨hx, hb, hml, hown, hts⟩ hK hP hD hS hA (mX1_tail hT hn hm hOP hq hk) (cwV 2 hts gL_law_X1_tail rfl rfl rfl (by decide +kernel) ⟨Nat.le_of_ble_eq_true rfl, Nat.le_of_ble_eq_true rfl⟩) [12, 13, 14, 15, 16, 17, 18] [0, 1, 2, 3, 4, 5, 6, 7, 8, 9, 10, 11, 19] [0, 1, 2, 3, 4, 5, 6, 7, 8, 9, 10, 11, 13, 14, 15, 16, 17, 18, 19, 12] rfl rfl (by decide) (by decide) (by decide) (hwf := fun _ => rfl) (by decide) (ci := 1) rfl rfl rfl rfl hl.1 rfl (Nat.le_of_ble_eq_true rfl) dL_law_937 ⟨hcs, hss⟩ (fun v937 w937 H locs hv937 hP hD hS => ?_)
  refine w_top (v := iI (tlr tT oO nn mm (nn - q) k)) (hv937.trans (congrArg iI (by rw [tlr_cg heq (nn - q) (by omega)]))) ?_
  refine lv_istore (lv' := [(6, .int (iI (tlr tT oO nn mm (nn - q) k))), (5, .int (iI 0)), (4, .int (iI ((i : Nat) : Int))), (3, .ref (b0)), (2, .ref (bd 0)), (1, .ref (ad 0)), (0, .ref (bS))]) hx hb dL_law_940 hl (by decide) rfl (fun ls hl => ?_)
  refine lv_aload_n hx hb dL_law_942 rfl (lv_at hl 4 rfl) ?_
  refine w_pV (As := []) (rest := []) ⟨hx, hb, hml, hown, hts⟩ hK (hP.sub (ws' := mw bd cI 0 nn mm bm tT oP sB w937 sR sJ) [12, 13, 14, 15, 16, 17, 18] rfl) (mX1_thrown ) (cwV 0 hts gL_law_X1_thrown rfl rfl rfl (by decide +kernel) ⟨Nat.le_of_ble_eq_true rfl, Nat.le_of_ble_eq_true rfl⟩) (ci := 1) rfl rfl rfl rfl hl.1 rfl (Nat.le_of_ble_eq_true rfl) dL_law_943 ⟨hcs, hss⟩ (fun v943 hv943 => ?_)
  refine w_top (v := iI 0) (hv943) ?_
  refine lv_iload hx hb dL_law_946 (lv_at hl 1 rfl) ?_
  refine lv_icmp_eq (tgt := 953) hx hb dL_law_948 (by decide) (fun _ => ?_) (fun h9 => absurd rfl h9)
  refine lv_iload hx hb dL_law_953 (lv_at hl 1 rfl) ?_
  refine lv_if_ne (tgt := 970) hx hb dL_law_955 (by decide) (fun h9 => absurd (by decide +kernel) h9) (fun _ => ?_)
  refine lv_aload_n hx hb dL_law_958 rfl (lv_at hl 3 rfl) ?_
  refine lv_iconst (v := iI 0) hx hb dL_law_959 rfl ?_
  refine w_lald (v := (iI (tlr tT oO nn mm (nn - q) k)).toInt64) hx hb hK hP 19 2 rfl rfl (lS_0 _ _) dL_law_960 ?_
  refine lv_iload hx hb dL_law_961 (lv_at hl 0 rfl) ?_
  refine lv_i2l (v := (iI (tlr tT oO nn mm (nn - q) k)).toInt64) hx hb dL_law_963 rfl ?_
  refine w_lcmpE hx hb dL_law_964 ?_
  refine lv_if_eq (tgt := 970) hx hb dL_law_965 (by decide) (fun _ => ?_) (fun h9 => absurd rfl h9)
  refine lv_goto (tgt := 1461) hx hb dL_law_970 (by decide) ?_
  exact nx nn mm tT tB tE u1 oO oR oQ zS zM zN oJ 0 bm oP sB w937 sR sJ (lS fL (tlr tT oO nn mm (nn - q) k)) _ _ _ _ ls ⟨hn, hm, hT, hz, heq, hPm, hCK, hMb⟩ (Nat.le_refl _) (Nat.le_refl _) hP hD hS (lv_sub hl [2, 3, 4, 5, 6] rfl)
set_option maxHeartbeats 4000000 in
set_option maxRecDepth 100000 in
theorem law_16t {x y : Int} (B : L0 p s m args c sa A bS L xs D cI cZ cJ) (hMO : MO) (hl0 : l.stackTraces = false) (I : LInv nn mm tT oO oP zS zM zN oJ) (hi : i + 4 ≤ L) (hr9 : -2147483648 ≤ x ∧ x ≤ 2147483647 ∧ -2147483648 ≤ y ∧ y ≤ 2147483647) (hbad : ¬ ((0 ≤ x ∧ x < (nn : Int)) ∧ 0 ≤ y ∧ y < (mm : Int))) (e1 : xs (i + 1) = iI (x)) (e2 : xs (i + 2) = iI (y)) (hcs : cells + 1 ≤ 1053) (hss : slots + 6 ≤ 8592) (hP : va_P D vwCl (LWW ad bd b0 cI cZ cJ nn mm tT tB tE tL oO oR oQ zS zM zN oJ th nn mm bm tT oP sB sL sR sJ fL) H) (hD : va_D A (LWW ad bd b0 cI cZ cJ nn mm tT tB tE tL oO oR oQ zS zM zN oJ th nn mm bm tT oP sB sL sR sJ fL)) (hS : va_S A s.heap H locs) (hl : lv_has ls 9 [(4, .int (iI ((i : Nat) : Int))), (3, .ref (b0)), (2, .ref (bd 0)), (1, .ref (ad 0)), (0, .ref (bS))]) (nx : NX p l e s m args below meth c Q A D cI cZ cJ ad bd b0 bS i cells slots) : W p l e room_1 s m args below meth c H locs cells slots Q (F0 m 905 ls []) := by
  obtain ⟨hx, hb, hml, hown, hts, hK, hA, hX, hbl, hbA, hFX, hSX, hCX, hL⟩ := B
  obtain ⟨hn, hm, hT, hz, heq, hPm, hCK, hMb⟩ := id I
  have hO : ∀ k, k < nn → oO k < 7 := fun k hk => Nat.lt_of_lt_of_le (hPm.1 k hk) hn
  have hOP : ∀ k, k < nn → oP k < 7 := fun k hk => by rw [← heq k hk]; exact hO k hk
  refine lv_aload_n hx hb dL_law_905 rfl (lv_at hl 3 rfl) ?_
  refine lv_aload_n hx hb dL_law_906 rfl (lv_at hl 4 rfl) ?_
  refine lv_iload hx hb dL_law_907 (lv_at hl 0 rfl) ?_
  refine lv_iconst (v := iI 1) hx hb dL_law_909 rfl ?_
  refine w_iadd (z := ((i + 1 : Nat) : Int)) hx hb dL_law_910 (by omega) ?_
  refine w_sld hx hb hX hbl hbA hS hL (i + 1) rfl (by omega) e1 dL_law_911 ?_
  refine lv_aload_n hx hb dL_law_912 rfl (lv_at hl 4 rfl) ?_
  refine lv_iload hx hb dL_law_913 (lv_at hl 0 rfl) ?_
  refine lv_iconst (v := iI 2) hx hb dL_law_915 rfl ?_
  refine w_iadd (z := ((i + 2 : Nat) : Int)) hx hb dL_law_916 (by omega) ?_
  refine w_sld hx hb hX hbl hbA hS hL (i + 2) rfl (by omega) e2 dL_law_917 ?_
  refine lv_aload_n hx hb dL_law_918 rfl (lv_at hl 1 rfl) ?_
  have hTX : TX sa s H := ⟨(hFX.kept hS.2.1).no, hSX, hCX⟩
  refine w_lS (As := [.ref (ad 0), .int (iI (x)), .int (iI (y)), .ref (b0)]) (rest := []) (sa := sa) (wc := xw ad cI cZ nn mm tT tB tE tL oO oR oQ zS zM zN oJ ++ [(b0, .inl (cJ, 1, .inr (.inl (fL))))]) (wf := fun u : Unit => LWW ad bd b0 cI cZ cJ nn mm tT tB tE tL oO oR oQ zS zM zN oJ th nn mm bm tT oP sB sL sR sJ fL) (wr := mw bd cI th nn mm bm tT oP sB sL sR sJ) ⟨hx, hb, hml, hown, hts⟩ hK hP hD hS hA hTX (hL_tail_t hl0 hn hm hr9 hbad) (vx_cwSW 4 hts gL_law_L_tail rfl rfl rfl (by decide +kernel) ⟨Nat.le_of_ble_eq_true rfl, Nat.le_of_ble_eq_true rfl⟩) [0, 1, 2, 3, 4, 5, 6, 7, 8, 9, 10, 11, 19] [12, 13, 14, 15, 16, 17, 18] [7, 8, 9, 10, 11, 12, 13, 14, 15, 16, 17, 18, 0, 1, 2, 3, 4, 5, 6, 19] rfl rfl (by decide) (by decide) (by decide) (hwf := fun _ => rfl) (by decide) rfl hl.1 rfl (Nat.le_of_ble_eq_true rfl) dL_law_919 ⟨hcs, hss⟩ (fun r1 u1 H locs hr1 hP hD hS => ?_)
  refine w_top (v := iI 1) (hr1) ?_
  refine lv_istore (lv' := [(5, .int (iI 1)), (4, .int (iI ((i : Nat) : Int))), (3, .ref (b0)), (2, .ref (bd 0)), (1, .ref (ad 0)), (0, .ref (bS))]) hx hb dL_law_922 hl (by decide) rfl (fun ls hl => ?_)
  refine lv_aload_n hx hb dL_law_924 rfl (lv_at hl 3 rfl) ?_
  refine lv_aload_n hx hb dL_law_925 rfl (lv_at hl 5 rfl) ?_
  refine lv_iload hx hb dL_law_926 (lv_at hl 1 rfl) ?_
  refine lv_iconst (v := iI 1) hx hb dL_law_928 rfl ?_
  refine w_iadd (z := ((i + 1 : Nat) : Int)) hx hb dL_law_929 (by omega) ?_
  refine w_sld hx hb hX hbl hbA hS hL (i + 1) rfl (by omega) e1 dL_law_930 ?_
  refine lv_aload_n hx hb dL_law_931 rfl (lv_at hl 5 rfl) ?_
  refine lv_iload hx hb dL_law_932 (lv_at hl 1 rfl) ?_
  refine lv_iconst (v := iI 2) hx hb dL_law_934 rfl ?_
  refine w_iadd (z := ((i + 2 : Nat) : Int)) hx hb dL_law_935 (by omega) ?_
  refine w_sld hx hb hX hbl hbA hS hL (i + 2) rfl (by omega) e2 dL_law_936 ?_
  refine w_iV (As := [.int (iI (x)), .int (iI (y))]) (rest := []) (wc := mw bd cI th nn mm bm tT oP sB sL sR sJ) (wf := fun u : (Nat → Int) => LWW ad bd b0 cI cZ cJ nn mm tT tB tE tL oO oR oQ zS zM zN oJ 1 nn mm bm tT oP sB u sR sJ fL) (wr := xw ad cI cZ nn mm tT tB tE tL oO oR oQ zS zM zN oJ ++ [(b0, .inl (cJ, 1, .inr (.inl (fL))))]) ⟨hx, hb, hml, hown, hts⟩ hK hP hD hS hA (mX1_tail_e hT hn hm hOP hr9 hbad) (cwV 2 hts gL_law_X1_tail rfl rfl rfl (by decide +kernel) ⟨Nat.le_of_ble_eq_true rfl, Nat.le_of_ble_eq_true rfl⟩) [12, 13, 14, 15, 16, 17, 18] [0, 1, 2, 3, 4, 5, 6, 7, 8, 9, 10, 11, 19] [0, 1, 2, 3, 4, 5, 6, 7, 8, 9, 10, 11, 13, 14, 15, 16, 17, 18, 19, 12] rfl rfl (by decide) (by decide) (by decide) (hwf := fun _ => rfl) (by decide) (ci := 1) rfl rfl rfl rfl hl.1 rfl (Nat.le_of_ble_eq_true rfl) dL_law_937 ⟨hcs, hss⟩ (fun v937 w937 H locs hv937 hP hD hS => ?_)
  refine w_top (v := iI 0) (hv937) ?_
  refine lv_istore (lv' := [(6, .int (iI 0)), (5, .int (iI 1)), (4, .int (iI ((i : Nat) : Int))), (3, .ref (b0)), (2, .ref (bd 0)), (1, .ref (ad 0)), (0, .ref (bS))]) hx hb dL_law_940 hl (by decide) rfl (fun ls hl => ?_)
  refine lv_aload_n hx hb dL_law_942 rfl (lv_at hl 4 rfl) ?_
  refine w_pV (As := []) (rest := []) ⟨hx, hb, hml, hown, hts⟩ hK (hP.sub (ws' := mw bd cI 1 nn mm bm tT oP sB w937 sR sJ) [12, 13, 14, 15, 16, 17, 18] rfl) (mX1_thrown ) (cwV 0 hts gL_law_X1_thrown rfl rfl rfl (by decide +kernel) ⟨Nat.le_of_ble_eq_true rfl, Nat.le_of_ble_eq_true rfl⟩) (ci := 1) rfl rfl rfl rfl hl.1 rfl (Nat.le_of_ble_eq_true rfl) dL_law_943 ⟨hcs, hss⟩ (fun v943 hv943 => ?_)
  refine w_top (v := iI 1) (hv943) ?_
  refine lv_iload hx hb dL_law_946 (lv_at hl 1 rfl) ?_
  refine lv_icmp_eq (tgt := 953) hx hb dL_law_948 (by decide) (fun _ => ?_) (fun h9 => absurd rfl h9)
  refine lv_iload hx hb dL_law_953 (lv_at hl 1 rfl) ?_
  refine lv_if_ne (tgt := 970) hx hb dL_law_955 (by decide) (fun _ => ?_) (fun h9 => absurd h9 (by decide +kernel))
  refine lv_goto (tgt := 1461) hx hb dL_law_970 (by decide) ?_
  exact nx nn mm tT tB tE tL oO oR oQ zS zM zN oJ 1 bm oP sB w937 sR sJ fL _ _ _ _ ls ⟨hn, hm, hT, hz, heq, hPm, hCK, hMb⟩ (Nat.le_refl _) (Nat.le_refl _) hP hD hS (lv_sub hl [2, 3, 4, 5, 6] rfl)
set_option maxHeartbeats 4000000 in
set_option maxRecDepth 100000 in
theorem law_17 {q k : Nat} (B : L0 p s m args c sa A bS L xs D cI cZ cJ) (hMO : MO) (hl0 : l.stackTraces = false) (I : LInv nn mm tT oO oP zS zM zN oJ) (hi : i + 4 ≤ L) (hq : q < nn) (hk : k < mm) (e1 : xs (i + 1) = iI ((q : Int))) (e2 : xs (i + 2) = iI ((k : Int))) (hcs : cells + 1 ≤ 1053) (hss : slots + 6 ≤ 8592) (hP : va_P D vwCl (LWW ad bd b0 cI cZ cJ nn mm tT tB tE tL oO oR oQ zS zM zN oJ th nn mm bm tT oP sB sL sR sJ fL) H) (hD : va_D A (LWW ad bd b0 cI cZ cJ nn mm tT tB tE tL oO oR oQ zS zM zN oJ th nn mm bm tT oP sB sL sR sJ fL)) (hS : va_S A s.heap H locs) (hl : lv_has ls 9 [(4, .int (iI ((i : Nat) : Int))), (3, .ref (b0)), (2, .ref (bd 0)), (1, .ref (ad 0)), (0, .ref (bS))]) (nx : NX p l e s m args below meth c Q A D cI cZ cJ ad bd b0 bS i cells slots) : W p l e room_1 s m args below meth c H locs cells slots Q (F0 m 973 ls []) := by
  obtain ⟨hx, hb, hml, hown, hts, hK, hA, hX, hbl, hbA, hFX, hSX, hCX, hL⟩ := B
  obtain ⟨hn, hm, hT, hz, heq, hPm, hCK, hMb⟩ := id I
  have hO : ∀ k, k < nn → oO k < 7 := fun k hk => Nat.lt_of_lt_of_le (hPm.1 k hk) hn
  have hOP : ∀ k, k < nn → oP k < 7 := fun k hk => by rw [← heq k hk]; exact hO k hk
  refine lv_aload_n hx hb dL_law_973 rfl (lv_at hl 3 rfl) ?_
  refine lv_aload_n hx hb dL_law_974 rfl (lv_at hl 4 rfl) ?_
  refine lv_iload hx hb dL_law_975 (lv_at hl 0 rfl) ?_
  refine lv_iconst (v := iI 1) hx hb dL_law_977 rfl ?_
  refine w_iadd (z := ((i + 1 : Nat) : Int)) hx hb dL_law_978 (by omega) ?_
  refine w_sld hx hb hX hbl hbA hS hL (i + 1) rfl (by omega) e1 dL_law_979 ?_
  refine lv_aload_n hx hb dL_law_980 rfl (lv_at hl 4 rfl) ?_
  refine lv_iload hx hb dL_law_981 (lv_at hl 0 rfl) ?_
  refine lv_iconst (v := iI 2) hx hb dL_law_983 rfl ?_
  refine w_iadd (z := ((i + 2 : Nat) : Int)) hx hb dL_law_984 (by omega) ?_
  refine w_sld hx hb hX hbl hbA hS hL (i + 2) rfl (by omega) e2 dL_law_985 ?_
  refine lv_aload_n hx hb dL_law_986 rfl (lv_at hl 1 rfl) ?_
  have hTX : TX sa s H := ⟨(hFX.kept hS.2.1).no, hSX, hCX⟩
  refine w_lS (As := [.ref (ad 0), .int (iI ((q : Int))), .int (iI ((k : Int))), .ref (b0)]) (rest := []) (sa := sa) (wc := xw ad cI cZ nn mm tT tB tE tL oO oR oQ zS zM zN oJ ++ [(b0, .inl (cJ, 1, .inr (.inl (fL))))]) (wf := fun u : (Nat → Int) × (Nat → Int) × (Nat → Int) => LWW ad bd b0 cI cZ cJ nn mm tT u.1 u.2.1 u.2.2 oO oR oQ zS zM zN oJ th nn mm bm tT oP sB sL sR sJ (lS fL (crtV mm tT oO nn q k))) (wr := mw bd cI th nn mm bm tT oP sB sL sR sJ) ⟨hx, hb, hml, hown, hts⟩ hK hP hD hS hA hTX (hL_isCritical hT hn hm hO hq hk) (vx_cwSW 4 hts gL_law_L_isCritical rfl rfl rfl (by decide +kernel) ⟨Nat.le_of_ble_eq_true rfl, Nat.le_of_ble_eq_true rfl⟩) [0, 1, 2, 3, 4, 5, 6, 7, 8, 9, 10, 11, 19] [12, 13, 14, 15, 16, 17, 18] [7, 8, 9, 10, 11, 12, 13, 14, 15, 16, 17, 18, 0, 1, 2, 3, 4, 5, 6, 19] rfl rfl (by decide) (by decide) (by decide) (hwf := fun _ => rfl) (by decide) rfl hl.1 rfl (Nat.le_of_ble_eq_true rfl) dL_law_987 ⟨hcs, hss⟩ (fun r1 u1 H locs hr1 hP hD hS => ?_)
  refine w_top (v := iI 0) (hr1) ?_
  refine lv_istore (lv' := [(5, .int (iI 0)), (4, .int (iI ((i : Nat) : Int))), (3, .ref (b0)), (2, .ref (bd 0)), (1, .ref (ad 0)), (0, .ref (bS))]) hx hb dL_law_990 hl (by decide) rfl (fun ls hl => ?_)
  refine lv_aload_n hx hb dL_law_992 rfl (lv_at hl 3 rfl) ?_
  refine lv_aload_n hx hb dL_law_993 rfl (lv_at hl 5 rfl) ?_
  refine lv_iload hx hb dL_law_994 (lv_at hl 1 rfl) ?_
  refine lv_iconst (v := iI 1) hx hb dL_law_996 rfl ?_
  refine w_iadd (z := ((i + 1 : Nat) : Int)) hx hb dL_law_997 (by omega) ?_
  refine w_sld hx hb hX hbl hbA hS hL (i + 1) rfl (by omega) e1 dL_law_998 ?_
  refine lv_aload_n hx hb dL_law_999 rfl (lv_at hl 5 rfl) ?_
  refine lv_iload hx hb dL_law_1000 (lv_at hl 1 rfl) ?_
  refine lv_iconst (v := iI 2) hx hb dL_law_1002 rfl ?_
  refine w_iadd (z := ((i + 2 : Nat) : Int)) hx hb dL_law_1003 (by omega) ?_
  refine w_sld hx hb hX hbl hbA hS hL (i + 2) rfl (by omega) e2 dL_law_1004 ?_
  refine w_iV (As := [.int (iI ((q : Int))), .int (iI ((k : Int)))]) (rest := []) (wc := mw bd cI th nn mm bm tT oP sB sL sR sJ) (wf := fun u : (Nat → Int) × (Nat → Int) => LWW ad bd b0 cI cZ cJ nn mm tT u1.1 u1.2.1 u1.2.2 oO oR oQ zS zM zN oJ 0 nn mm bm tT oP u.1 u.2 sR sJ (lS fL (crtV mm tT oO nn q k))) (wr := xw ad cI cZ nn mm tT u1.1 u1.2.1 u1.2.2 oO oR oQ zS zM zN oJ ++ [(b0, .inl (cJ, 1, .inr (.inl (lS fL (crtV mm tT oO nn q k)))))]) ⟨hx, hb, hml, hown, hts⟩ hK hP hD hS hA (mX1_isCritical hT hn hm hOP hq hk) (cwV 2 hts gL_law_X1_isCritical rfl rfl rfl (by decide +kernel) ⟨Nat.le_of_ble_eq_true rfl, Nat.le_of_ble_eq_true rfl⟩) [12, 13, 14, 15, 16, 17, 18] [0, 1, 2, 3, 4, 5, 6, 7, 8, 9, 10, 11, 19] [0, 1, 2, 3, 4, 5, 6, 7, 8, 9, 10, 11, 13, 14, 15, 16, 17, 18, 19, 12] rfl rfl (by decide) (by decide) (by decide) (hwf := fun _ => rfl) (by decide) (ci := 1) rfl rfl rfl rfl hl.1 rfl (Nat.le_of_ble_eq_true rfl) dL_law_1005 ⟨hcs, hss⟩ (fun v1005 w1005 H locs hv1005 hP hD hS => ?_)
  refine w_top (v := iI (crtV mm tT oO nn q k)) (hv1005.trans (congrArg iI ((crt_cg heq hq).symm))) ?_
  refine lv_istore (lv' := [(6, .int (iI (crtV mm tT oO nn q k))), (5, .int (iI 0)), (4, .int (iI ((i : Nat) : Int))), (3, .ref (b0)), (2, .ref (bd 0)), (1, .ref (ad 0)), (0, .ref (bS))]) hx hb dL_law_1008 hl (by decide) rfl (fun ls hl => ?_)
  refine lv_aload_n hx hb dL_law_1010 rfl (lv_at hl 4 rfl) ?_
  refine w_pV (As := []) (rest := []) ⟨hx, hb, hml, hown, hts⟩ hK (hP.sub (ws' := mw bd cI 0 nn mm bm tT oP w1005.1 w1005.2 sR sJ) [12, 13, 14, 15, 16, 17, 18] rfl) (mX1_thrown ) (cwV 0 hts gL_law_X1_thrown rfl rfl rfl (by decide +kernel) ⟨Nat.le_of_ble_eq_true rfl, Nat.le_of_ble_eq_true rfl⟩) (ci := 1) rfl rfl rfl rfl hl.1 rfl (Nat.le_of_ble_eq_true rfl) dL_law_1011 ⟨hcs, hss⟩ (fun v1011 hv1011 => ?_)
  refine w_top (v := iI 0) (hv1011) ?_
  refine lv_iload hx hb dL_law_1014 (lv_at hl 1 rfl) ?_
  refine lv_icmp_eq (tgt := 1021) hx hb dL_law_1016 (by decide) (fun _ => ?_) (fun h9 => absurd rfl h9)
  refine lv_iload hx hb dL_law_1021 (lv_at hl 1 rfl) ?_
  refine lv_if_ne (tgt := 1045) hx hb dL_law_1023 (by decide) (fun h9 => absurd (by decide +kernel) h9) (fun _ => ?_)
  refine lv_aload_n hx hb dL_law_1026 rfl (lv_at hl 3 rfl) ?_
  refine lv_iconst (v := iI 0) hx hb dL_law_1027 rfl ?_
  refine w_lald (v := (iI (crtV mm tT oO nn q k)).toInt64) hx hb hK hP 19 2 rfl rfl (lS_0 _ _) dL_law_1028 ?_
  refine lv_iload hx hb dL_law_1029 (lv_at hl 0 rfl) ?_
  have hc : (crtV mm tT oO nn q k) = 0 ∨ (crtV mm tT oO nn q k) = 1 := by unfold crtV; split <;> simp
  refine w_if_eq (tgt := 1038) hx hb dL_law_1031 (by decide) ⟨by omega, by omega⟩ (fun c9 => ?_) (fun c9 => ?_)
  · refine lv_lconst (v := (iI (crtV mm tT oO nn q k)).toInt64) hx hb dL_law_1038 (by rw [show (crtV mm tT oO nn q k) = 0 by omega]; decide +kernel) ?_
    refine w_lcmpE hx hb dL_law_1039 ?_
    refine lv_if_eq (tgt := 1045) hx hb dL_law_1040 (by decide) (fun _ => ?_) (fun h9 => absurd rfl h9)
    refine lv_goto (tgt := 1461) hx hb dL_law_1045 (by decide) ?_
    exact nx nn mm tT u1.1 u1.2.1 u1.2.2 oO oR oQ zS zM zN oJ 0 bm oP w1005.1 w1005.2 sR sJ (lS fL (crtV mm tT oO nn q k)) _ _ _ _ ls ⟨hn, hm, hT, hz, heq, hPm, hCK, hMb⟩ (Nat.le_refl _) (Nat.le_refl _) hP hD hS (lv_sub hl [2, 3, 4, 5, 6] rfl)
  · refine lv_lconst (v := (iI (crtV mm tT oO nn q k)).toInt64) hx hb dL_law_1034 (by rw [show (crtV mm tT oO nn q k) = 1 by omega]; decide +kernel) ?_
    refine lv_goto (tgt := 1039) hx hb dL_law_1035 (by decide) ?_
    refine w_lcmpE hx hb dL_law_1039 ?_
    refine lv_if_eq (tgt := 1045) hx hb dL_law_1040 (by decide) (fun _ => ?_) (fun h9 => absurd rfl h9)
    refine lv_goto (tgt := 1461) hx hb dL_law_1045 (by decide) ?_
    exact nx nn mm tT u1.1 u1.2.1 u1.2.2 oO oR oQ zS zM zN oJ 0 bm oP w1005.1 w1005.2 sR sJ (lS fL (crtV mm tT oO nn q k)) _ _ _ _ ls ⟨hn, hm, hT, hz, heq, hPm, hCK, hMb⟩ (Nat.le_refl _) (Nat.le_refl _) hP hD hS (lv_sub hl [2, 3, 4, 5, 6] rfl)
set_option maxHeartbeats 4000000 in
set_option maxRecDepth 100000 in
theorem law_17t {x y : Int} (B : L0 p s m args c sa A bS L xs D cI cZ cJ) (hMO : MO) (hl0 : l.stackTraces = false) (I : LInv nn mm tT oO oP zS zM zN oJ) (hi : i + 4 ≤ L) (hr9 : -2147483648 ≤ x ∧ x ≤ 2147483647 ∧ -2147483648 ≤ y ∧ y ≤ 2147483647) (hbad : ¬ ((0 ≤ x ∧ x < (nn : Int)) ∧ 0 ≤ y ∧ y < (mm : Int))) (e1 : xs (i + 1) = iI (x)) (e2 : xs (i + 2) = iI (y)) (hcs : cells + 1 ≤ 1053) (hss : slots + 6 ≤ 8592) (hP : va_P D vwCl (LWW ad bd b0 cI cZ cJ nn mm tT tB tE tL oO oR oQ zS zM zN oJ th nn mm bm tT oP sB sL sR sJ fL) H) (hD : va_D A (LWW ad bd b0 cI cZ cJ nn mm tT tB tE tL oO oR oQ zS zM zN oJ th nn mm bm tT oP sB sL sR sJ fL)) (hS : va_S A s.heap H locs) (hl : lv_has ls 9 [(4, .int (iI ((i : Nat) : Int))), (3, .ref (b0)), (2, .ref (bd 0)), (1, .ref (ad 0)), (0, .ref (bS))]) (nx : NX p l e s m args below meth c Q A D cI cZ cJ ad bd b0 bS i cells slots) : W p l e room_1 s m args below meth c H locs cells slots Q (F0 m 973 ls []) := by
  obtain ⟨hx, hb, hml, hown, hts, hK, hA, hX, hbl, hbA, hFX, hSX, hCX, hL⟩ := B
  obtain ⟨hn, hm, hT, hz, heq, hPm, hCK, hMb⟩ := id I
  have hO : ∀ k, k < nn → oO k < 7 := fun k hk => Nat.lt_of_lt_of_le (hPm.1 k hk) hn
  have hOP : ∀ k, k < nn → oP k < 7 := fun k hk => by rw [← heq k hk]; exact hO k hk
  refine lv_aload_n hx hb dL_law_973 rfl (lv_at hl 3 rfl) ?_
  refine lv_aload_n hx hb dL_law_974 rfl (lv_at hl 4 rfl) ?_
  refine lv_iload hx hb dL_law_975 (lv_at hl 0 rfl) ?_
  refine lv_iconst (v := iI 1) hx hb dL_law_977 rfl ?_
  refine w_iadd (z := ((i + 1 : Nat) : Int)) hx hb dL_law_978 (by omega) ?_
  refine w_sld hx hb hX hbl hbA hS hL (i + 1) rfl (by omega) e1 dL_law_979 ?_
  refine lv_aload_n hx hb dL_law_980 rfl (lv_at hl 4 rfl) ?_
  refine lv_iload hx hb dL_law_981 (lv_at hl 0 rfl) ?_
  refine lv_iconst (v := iI 2) hx hb dL_law_983 rfl ?_
  refine w_iadd (z := ((i + 2 : Nat) : Int)) hx hb dL_law_984 (by omega) ?_
  refine w_sld hx hb hX hbl hbA hS hL (i + 2) rfl (by omega) e2 dL_law_985 ?_
  refine lv_aload_n hx hb dL_law_986 rfl (lv_at hl 1 rfl) ?_
  have hTX : TX sa s H := ⟨(hFX.kept hS.2.1).no, hSX, hCX⟩
  refine w_lS (As := [.ref (ad 0), .int (iI (x)), .int (iI (y)), .ref (b0)]) (rest := []) (sa := sa) (wc := xw ad cI cZ nn mm tT tB tE tL oO oR oQ zS zM zN oJ ++ [(b0, .inl (cJ, 1, .inr (.inl (fL))))]) (wf := fun u : Unit => LWW ad bd b0 cI cZ cJ nn mm tT tB tE tL oO oR oQ zS zM zN oJ th nn mm bm tT oP sB sL sR sJ fL) (wr := mw bd cI th nn mm bm tT oP sB sL sR sJ) ⟨hx, hb, hml, hown, hts⟩ hK hP hD hS hA hTX (hL_isCritical_t hl0 hn hm hr9 hbad) (vx_cwSW 4 hts gL_law_L_isCritical rfl rfl rfl (by decide +kernel) ⟨Nat.le_of_ble_eq_true rfl, Nat.le_of_ble_eq_true rfl⟩) [0, 1, 2, 3, 4, 5, 6, 7, 8, 9, 10, 11, 19] [12, 13, 14, 15, 16, 17, 18] [7, 8, 9, 10, 11, 12, 13, 14, 15, 16, 17, 18, 0, 1, 2, 3, 4, 5, 6, 19] rfl rfl (by decide) (by decide) (by decide) (hwf := fun _ => rfl) (by decide) rfl hl.1 rfl (Nat.le_of_ble_eq_true rfl) dL_law_987 ⟨hcs, hss⟩ (fun r1 u1 H locs hr1 hP hD hS => ?_)
  refine w_top (v := iI 1) (hr1) ?_
  refine lv_istore (lv' := [(5, .int (iI 1)), (4, .int (iI ((i : Nat) : Int))), (3, .ref (b0)), (2, .ref (bd 0)), (1, .ref (ad 0)), (0, .ref (bS))]) hx hb dL_law_990 hl (by decide) rfl (fun ls hl => ?_)
  refine lv_aload_n hx hb dL_law_992 rfl (lv_at hl 3 rfl) ?_
  refine lv_aload_n hx hb dL_law_993 rfl (lv_at hl 5 rfl) ?_
  refine lv_iload hx hb dL_law_994 (lv_at hl 1 rfl) ?_
  refine lv_iconst (v := iI 1) hx hb dL_law_996 rfl ?_
  refine w_iadd (z := ((i + 1 : Nat) : Int)) hx hb dL_law_997 (by omega) ?_
  refine w_sld hx hb hX hbl hbA hS hL (i + 1) rfl (by omega) e1 dL_law_998 ?_
  refine lv_aload_n hx hb dL_law_999 rfl (lv_at hl 5 rfl) ?_
  refine lv_iload hx hb dL_law_1000 (lv_at hl 1 rfl) ?_
  refine lv_iconst (v := iI 2) hx hb dL_law_1002 rfl ?_
  refine w_iadd (z := ((i + 2 : Nat) : Int)) hx hb dL_law_1003 (by omega) ?_
  refine w_sld hx hb hX hbl hbA hS hL (i + 2) rfl (by omega) e2 dL_law_1004 ?_
  refine w_iV (As := [.int (iI (x)), .int (iI (y))]) (rest := []) (wc := mw bd cI th nn mm bm tT oP sB sL sR sJ) (wf := fun u : Unit => LWW ad bd b0 cI cZ cJ nn mm tT tB tE tL oO oR oQ zS zM zN oJ 1 nn mm bm tT oP sB sL sR sJ fL) (wr := xw ad cI cZ nn mm tT tB tE tL oO oR oQ zS zM zN oJ ++ [(b0, .inl (cJ, 1, .inr (.inl (fL))))]) ⟨hx, hb, hml, hown, hts⟩ hK hP hD hS hA (mX1_isCritical_e hn hm hr9 hbad) (cwV 2 hts gL_law_X1_isCritical rfl rfl rfl (by decide +kernel) ⟨Nat.le_of_ble_eq_true rfl, Nat.le_of_ble_eq_true rfl⟩) [12, 13, 14, 15, 16, 17, 18] [0, 1, 2, 3, 4, 5, 6, 7, 8, 9, 10, 11, 19] [0, 1, 2, 3, 4, 5, 6, 7, 8, 9, 10, 11, 13, 14, 15, 16, 17, 18, 19, 12] rfl rfl (by decide) (by decide) (by decide) (hwf := fun _ => rfl) (by decide) (ci := 1) rfl rfl rfl rfl hl.1 rfl (Nat.le_of_ble_eq_true rfl) dL_law_1005 ⟨hcs, hss⟩ (fun v1005 w1005 H locs hv1005 hP hD hS => ?_)
  refine w_top (v := iI 0) (hv1005) ?_
  refine lv_istore (lv' := [(6, .int (iI 0)), (5, .int (iI 1)), (4, .int (iI ((i : Nat) : Int))), (3, .ref (b0)), (2, .ref (bd 0)), (1, .ref (ad 0)), (0, .ref (bS))]) hx hb dL_law_1008 hl (by decide) rfl (fun ls hl => ?_)
  refine lv_aload_n hx hb dL_law_1010 rfl (lv_at hl 4 rfl) ?_
  refine w_pV (As := []) (rest := []) ⟨hx, hb, hml, hown, hts⟩ hK (hP.sub (ws' := mw bd cI 1 nn mm bm tT oP sB sL sR sJ) [12, 13, 14, 15, 16, 17, 18] rfl) (mX1_thrown ) (cwV 0 hts gL_law_X1_thrown rfl rfl rfl (by decide +kernel) ⟨Nat.le_of_ble_eq_true rfl, Nat.le_of_ble_eq_true rfl⟩) (ci := 1) rfl rfl rfl rfl hl.1 rfl (Nat.le_of_ble_eq_true rfl) dL_law_1011 ⟨hcs, hss⟩ (fun v1011 hv1011 => ?_)
  refine w_top (v := iI 1) (hv1011) ?_
  refine lv_iload hx hb dL_law_1014 (lv_at hl 1 rfl) ?_
  refine lv_icmp_eq (tgt := 1021) hx hb dL_law_1016 (by decide) (fun _ => ?_) (fun h9 => absurd rfl h9)
  refine lv_iload hx hb dL_law_1021 (lv_at hl 1 rfl) ?_
  refine lv_if_ne (tgt := 1045) hx hb dL_law_1023 (by decide) (fun _ => ?_) (fun h9 => absurd h9 (by decide +kernel))
  refine lv_goto (tgt := 1461) hx hb dL_law_1045 (by decide) ?_
  exact nx nn mm tT tB tE tL oO oR oQ zS zM zN oJ 1 bm oP sB sL sR sJ fL _ _ _ _ ls ⟨hn, hm, hT, hz, heq, hPm, hCK, hMb⟩ (Nat.le_refl _) (Nat.le_refl _) hP hD hS (lv_sub hl [2, 3, 4, 5, 6] rfl)
set_option maxHeartbeats 4000000 in
set_option maxRecDepth 100000 in
theorem law_18 {v k : Nat} (B : L0 p s m args c sa A bS L xs D cI cZ cJ) (hMO : MO) (hl0 : l.stackTraces = false) (I : LInv nn mm tT oO oP zS zM zN oJ) (hi : i + 4 ≤ L) (hv : v ≤ 2) (hk : k < mm) (e1 : xs (i + 1) = iI ((v : Int))) (e2 : xs (i + 2) = iI ((k : Int))) (hcs : cells + 1 ≤ 1053) (hss : slots + 6 ≤ 8592) (hP : va_P D vwCl (LWW ad bd b0 cI cZ cJ nn mm tT tB tE tL oO oR oQ zS zM zN oJ th nn mm bm tT oP sB sL sR sJ fL) H) (hD : va_D A (LWW ad bd b0 cI cZ cJ nn mm tT tB tE tL oO oR oQ zS zM zN oJ th nn mm bm tT oP sB sL sR sJ fL)) (hS : va_S A s.heap H locs) (hl : lv_has ls 9 [(4, .int (iI ((i : Nat) : Int))), (3, .ref (b0)), (2, .ref (bd 0)), (1, .ref (ad 0)), (0, .ref (bS))]) (nx : NX p l e s m args below meth c Q A D cI cZ cJ ad bd b0 bS i cells slots) : W p l e room_1 s m args below meth c H locs cells slots Q (F0 m 1048 ls []) := by
  obtain ⟨hx, hb, hml, hown, hts, hK, hA, hX, hbl, hbA, hFX, hSX, hCX, hL⟩ := B
  obtain ⟨hn, hm, hT, hz, heq, hPm, hCK, hMb⟩ := id I
  have hO : ∀ k, k < nn → oO k < 7 := fun k hk => Nat.lt_of_lt_of_le (hPm.1 k hk) hn
  have hOP : ∀ k, k < nn → oP k < 7 := fun k hk => by rw [← heq k hk]; exact hO k hk
  refine lv_aload_n hx hb dL_law_1048 rfl (lv_at hl 3 rfl) ?_
  refine lv_aload_n hx hb dL_law_1049 rfl (lv_at hl 4 rfl) ?_
  refine lv_iload hx hb dL_law_1050 (lv_at hl 0 rfl) ?_
  refine lv_iconst (v := iI 1) hx hb dL_law_1052 rfl ?_
  refine w_iadd (z := ((i + 1 : Nat) : Int)) hx hb dL_law_1053 (by omega) ?_
  refine w_sld hx hb hX hbl hbA hS hL (i + 1) rfl (by omega) e1 dL_law_1054 ?_
  refine lv_aload_n hx hb dL_law_1055 rfl (lv_at hl 4 rfl) ?_
  refine lv_iload hx hb dL_law_1056 (lv_at hl 0 rfl) ?_
  refine lv_iconst (v := iI 2) hx hb dL_law_1058 rfl ?_
  refine w_iadd (z := ((i + 2 : Nat) : Int)) hx hb dL_law_1059 (by omega) ?_
  refine w_sld hx hb hX hbl hbA hS hL (i + 2) rfl (by omega) e2 dL_law_1060 ?_
  refine lv_aload_n hx hb dL_law_1061 rfl (lv_at hl 1 rfl) ?_
  have hTX : TX sa s H := ⟨(hFX.kept hS.2.1).no, hSX, hCX⟩
  refine w_lS (As := [.ref (ad 0), .int (iI ((v : Int))), .int (iI ((k : Int))), .ref (b0)]) (rest := []) (sa := sa) (wc := xw ad cI cZ nn mm tT tB tE tL oO oR oQ zS zM zN oJ ++ [(b0, .inl (cJ, 1, .inr (.inl (fL))))]) (wf := fun u : (Nat → Int) × (Nat → Int) => LWW ad bd b0 cI cZ cJ nn mm tT u.1 u.2 tL oO oR oQ zS zM zN oJ th nn mm bm tT oP sB sL sR sJ (lS fL (idlV v mm tT oO nn k))) (wr := mw bd cI th nn mm bm tT oP sB sL sR sJ) ⟨hx, hb, hml, hown, hts⟩ hK hP hD hS hA hTX (hL_idle hT hn hm hv hO hk) (vx_cwSW 4 hts gL_law_L_idle rfl rfl rfl (by decide +kernel) ⟨Nat.le_of_ble_eq_true rfl, Nat.le_of_ble_eq_true rfl⟩) [0, 1, 2, 3, 4, 5, 6, 7, 8, 9, 10, 11, 19] [12, 13, 14, 15, 16, 17, 18] [7, 8, 9, 10, 11, 12, 13, 14, 15, 16, 17, 18, 0, 1, 2, 3, 4, 5, 6, 19] rfl rfl (by decide) (by decide) (by decide) (hwf := fun _ => rfl) (by decide) rfl hl.1 rfl (Nat.le_of_ble_eq_true rfl) dL_law_1062 ⟨hcs, hss⟩ (fun r1 u1 H locs hr1 hP hD hS => ?_)
  refine w_top (v := iI 0) (hr1) ?_
  refine lv_istore (lv' := [(5, .int (iI 0)), (4, .int (iI ((i : Nat) : Int))), (3, .ref (b0)), (2, .ref (bd 0)), (1, .ref (ad 0)), (0, .ref (bS))]) hx hb dL_law_1065 hl (by decide) rfl (fun ls hl => ?_)
  refine lv_aload_n hx hb dL_law_1067 rfl (lv_at hl 3 rfl) ?_
  refine lv_aload_n hx hb dL_law_1068 rfl (lv_at hl 5 rfl) ?_
  refine lv_iload hx hb dL_law_1069 (lv_at hl 1 rfl) ?_
  refine lv_iconst (v := iI 1) hx hb dL_law_1071 rfl ?_
  refine w_iadd (z := ((i + 1 : Nat) : Int)) hx hb dL_law_1072 (by omega) ?_
  refine w_sld hx hb hX hbl hbA hS hL (i + 1) rfl (by omega) e1 dL_law_1073 ?_
  refine lv_aload_n hx hb dL_law_1074 rfl (lv_at hl 5 rfl) ?_
  refine lv_iload hx hb dL_law_1075 (lv_at hl 1 rfl) ?_
  refine lv_iconst (v := iI 2) hx hb dL_law_1077 rfl ?_
  refine w_iadd (z := ((i + 2 : Nat) : Int)) hx hb dL_law_1078 (by omega) ?_
  refine w_sld hx hb hX hbl hbA hS hL (i + 2) rfl (by omega) e2 dL_law_1079 ?_
  refine w_iV (As := [.int (iI ((v : Int))), .int (iI ((k : Int)))]) (rest := []) (wc := mw bd cI th nn mm bm tT oP sB sL sR sJ) (wf := fun u : (Nat → Int) => LWW ad bd b0 cI cZ cJ nn mm tT u1.1 u1.2 tL oO oR oQ zS zM zN oJ 0 nn mm bm tT oP u sL sR sJ (lS fL (idlV v mm tT oO nn k))) (wr := xw ad cI cZ nn mm tT u1.1 u1.2 tL oO oR oQ zS zM zN oJ ++ [(b0, .inl (cJ, 1, .inr (.inl (lS fL (idlV v mm tT oO nn k)))))]) ⟨hx, hb, hml, hown, hts⟩ hK hP hD hS hA (mX1_idle hT hn hm hv hOP hk) (cwV 2 hts gL_law_X1_idle rfl rfl rfl (by decide +kernel) ⟨Nat.le_of_ble_eq_true rfl, Nat.le_of_ble_eq_true rfl⟩) [12, 13, 14, 15, 16, 17, 18] [0, 1, 2, 3, 4, 5, 6, 7, 8, 9, 10, 11, 19] [0, 1, 2, 3, 4, 5, 6, 7, 8, 9, 10, 11, 13, 14, 15, 16, 17, 18, 19, 12] rfl rfl (by decide) (by decide) (by decide) (hwf := fun _ => rfl) (by decide) (ci := 1) rfl rfl rfl rfl hl.1 rfl (Nat.le_of_ble_eq_true rfl) dL_law_1080 ⟨hcs, hss⟩ (fun v1080 w1080 H locs hv1080 hP hD hS => ?_)
  refine w_top (v := iI (idlV v mm tT oO nn k)) (hv1080.trans (congrArg iI ((idl_cg heq).symm))) ?_
  refine lv_istore (lv' := [(6, .int (iI (idlV v mm tT oO nn k))), (5, .int (iI 0)), (4, .int (iI ((i : Nat) : Int))), (3, .ref (b0)), (2, .ref (bd 0)), (1, .ref (ad 0)), (0, .ref (bS))]) hx hb dL_law_1083 hl (by decide) rfl (fun ls hl => ?_)
  refine lv_aload_n hx hb dL_law_1085 rfl (lv_at hl 4 rfl) ?_
  refine w_pV (As := []) (rest := []) ⟨hx, hb, hml, hown, hts⟩ hK (hP.sub (ws' := mw bd cI 0 nn mm bm tT oP w1080 sL sR sJ) [12, 13, 14, 15, 16, 17, 18] rfl) (mX1_thrown ) (cwV 0 hts gL_law_X1_thrown rfl rfl rfl (by decide +kernel) ⟨Nat.le_of_ble_eq_true rfl, Nat.le_of_ble_eq_true rfl⟩) (ci := 1) rfl rfl rfl rfl hl.1 rfl (Nat.le_of_ble_eq_true rfl) dL_law_1086 ⟨hcs, hss⟩ (fun v1086 hv1086 => ?_)
  refine w_top (v := iI 0) (hv1086) ?_
  refine lv_iload hx hb dL_law_1089 (lv_at hl 1 rfl) ?_
  refine lv_icmp_eq (tgt := 1096) hx hb dL_law_1091 (by decide) (fun _ => ?_) (fun h9 => absurd rfl h9)
  refine lv_iload hx hb dL_law_1096 (lv_at hl 1 rfl) ?_
  refine lv_if_ne (tgt := 1113) hx hb dL_law_1098 (by decide) (fun h9 => absurd (by decide +kernel) h9) (fun _ => ?_)
  refine lv_aload_n hx hb dL_law_1101 rfl (lv_at hl 3 rfl) ?_
  refine lv_iconst (v := iI 0) hx hb dL_law_1102 rfl ?_
  refine w_lald (v := (iI (idlV v mm tT oO nn k)).toInt64) hx hb hK hP 19 2 rfl rfl (lS_0 _ _) dL_law_1103 ?_
  refine lv_iload hx hb dL_law_1104 (lv_at hl 0 rfl) ?_
  refine lv_i2l (v := (iI (idlV v mm tT oO nn k)).toInt64) hx hb dL_law_1106 rfl ?_
  refine w_lcmpE hx hb dL_law_1107 ?_
  refine lv_if_eq (tgt := 1113) hx hb dL_law_1108 (by decide) (fun _ => ?_) (fun h9 => absurd rfl h9)
  refine lv_goto (tgt := 1461) hx hb dL_law_1113 (by decide) ?_
  exact nx nn mm tT u1.1 u1.2 tL oO oR oQ zS zM zN oJ 0 bm oP w1080 sL sR sJ (lS fL (idlV v mm tT oO nn k)) _ _ _ _ ls ⟨hn, hm, hT, hz, heq, hPm, hCK, hMb⟩ (Nat.le_refl _) (Nat.le_refl _) hP hD hS (lv_sub hl [2, 3, 4, 5, 6] rfl)
set_option maxHeartbeats 4000000 in
set_option maxRecDepth 100000 in
theorem law_18t {x y : Int} (B : L0 p s m args c sa A bS L xs D cI cZ cJ) (hMO : MO) (hl0 : l.stackTraces = false) (I : LInv nn mm tT oO oP zS zM zN oJ) (hi : i + 4 ≤ L) (hr9 : -2147483648 ≤ x ∧ x ≤ 2147483647) (hbad : ¬ (0 ≤ x ∧ x ≤ 2)) (e1 : xs (i + 1) = iI (x)) (e2 : xs (i + 2) = iI (y)) (hcs : cells + 1 ≤ 1053) (hss : slots + 6 ≤ 8592) (hP : va_P D vwCl (LWW ad bd b0 cI cZ cJ nn mm tT tB tE tL oO oR oQ zS zM zN oJ th nn mm bm tT oP sB sL sR sJ fL) H) (hD : va_D A (LWW ad bd b0 cI cZ cJ nn mm tT tB tE tL oO oR oQ zS zM zN oJ th nn mm bm tT oP sB sL sR sJ fL)) (hS : va_S A s.heap H locs) (hl : lv_has ls 9 [(4, .int (iI ((i : Nat) : Int))), (3, .ref (b0)), (2, .ref (bd 0)), (1, .ref (ad 0)), (0, .ref (bS))]) (nx : NX p l e s m args below meth c Q A D cI cZ cJ ad bd b0 bS i cells slots) : W p l e room_1 s m args below meth c H locs cells slots Q (F0 m 1048 ls []) := by
  obtain ⟨hx, hb, hml, hown, hts, hK, hA, hX, hbl, hbA, hFX, hSX, hCX, hL⟩ := B
  obtain ⟨hn, hm, hT, hz, heq, hPm, hCK, hMb⟩ := id I
  have hO : ∀ k, k < nn → oO k < 7 := fun k hk => Nat.lt_of_lt_of_le (hPm.1 k hk) hn
  have hOP : ∀ k, k < nn → oP k < 7 := fun k hk => by rw [← heq k hk]; exact hO k hk
  refine lv_aload_n hx hb dL_law_1048 rfl (lv_at hl 3 rfl) ?_
  refine lv_aload_n hx hb dL_law_1049 rfl (lv_at hl 4 rfl) ?_
  refine lv_iload hx hb dL_law_1050 (lv_at hl 0 rfl) ?_
  refine lv_iconst (v := iI 1) hx hb dL_law_1052 rfl ?_
  refine w_iadd (z := ((i + 1 : Nat) : Int)) hx hb dL_law_1053 (by omega) ?_
  refine w_sld hx hb hX hbl hbA hS hL (i + 1) rfl (by omega) e1 dL_law_1054 ?_
  refine lv_aload_n hx hb dL_law_1055 rfl (lv_at hl 4 rfl) ?_
  refine lv_iload hx hb dL_law_1056 (lv_at hl 0 rfl) ?_
  refine lv_iconst (v := iI 2) hx hb dL_law_1058 rfl ?_
  refine w_iadd (z := ((i + 2 : Nat) : Int)) hx hb dL_law_1059 (by omega) ?_
  refine w_sld hx hb hX hbl hbA hS hL (i + 2) rfl (by omega) e2 dL_law_1060 ?_
  refine lv_aload_n hx hb dL_law_1061 rfl (lv_at hl 1 rfl) ?_
  have hTX : TX sa s H := ⟨(hFX.kept hS.2.1).no, hSX, hCX⟩
  refine w_lS (As := [.ref (ad 0), .int (iI (x)), .int (iI (y)), .ref (b0)]) (rest := []) (sa := sa) (wc := xw ad cI cZ nn mm tT tB tE tL oO oR oQ zS zM zN oJ ++ [(b0, .inl (cJ, 1, .inr (.inl (fL))))]) (wf := fun u : Unit => LWW ad bd b0 cI cZ cJ nn mm tT tB tE tL oO oR oQ zS zM zN oJ th nn mm bm tT oP sB sL sR sJ fL) (wr := mw bd cI th nn mm bm tT oP sB sL sR sJ) ⟨hx, hb, hml, hown, hts⟩ hK hP hD hS hA hTX (hL_idle_1_t hl0 hr9 hbad) (vx_cwSW 4 hts gL_law_L_idle rfl rfl rfl (by decide +kernel) ⟨Nat.le_of_ble_eq_true rfl, Nat.le_of_ble_eq_true rfl⟩) [0, 1, 2, 3, 4, 5, 6, 7, 8, 9, 10, 11, 19] [12, 13, 14, 15, 16, 17, 18] [7, 8, 9, 10, 11, 12, 13, 14, 15, 16, 17, 18, 0, 1, 2, 3, 4, 5, 6, 19] rfl rfl (by decide) (by decide) (by decide) (hwf := fun _ => rfl) (by decide) rfl hl.1 rfl (Nat.le_of_ble_eq_true rfl) dL_law_1062 ⟨hcs, hss⟩ (fun r1 u1 H locs hr1 hP hD hS => ?_)
  refine w_top (v := iI 1) (hr1) ?_
  refine lv_istore (lv' := [(5, .int (iI 1)), (4, .int (iI ((i : Nat) : Int))), (3, .ref (b0)), (2, .ref (bd 0)), (1, .ref (ad 0)), (0, .ref (bS))]) hx hb dL_law_1065 hl (by decide) rfl (fun ls hl => ?_)
  refine lv_aload_n hx hb dL_law_1067 rfl (lv_at hl 3 rfl) ?_
  refine lv_aload_n hx hb dL_law_1068 rfl (lv_at hl 5 rfl) ?_
  refine lv_iload hx hb dL_law_1069 (lv_at hl 1 rfl) ?_
  refine lv_iconst (v := iI 1) hx hb dL_law_1071 rfl ?_
  refine w_iadd (z := ((i + 1 : Nat) : Int)) hx hb dL_law_1072 (by omega) ?_
  refine w_sld hx hb hX hbl hbA hS hL (i + 1) rfl (by omega) e1 dL_law_1073 ?_
  refine lv_aload_n hx hb dL_law_1074 rfl (lv_at hl 5 rfl) ?_
  refine lv_iload hx hb dL_law_1075 (lv_at hl 1 rfl) ?_
  refine lv_iconst (v := iI 2) hx hb dL_law_1077 rfl ?_
  refine w_iadd (z := ((i + 2 : Nat) : Int)) hx hb dL_law_1078 (by omega) ?_
  refine w_sld hx hb hX hbl hbA hS hL (i + 2) rfl (by omega) e2 dL_law_1079 ?_
  refine w_iV (As := [.int (iI (x)), .int (iI (y))]) (rest := []) (wc := mw bd cI th nn mm bm tT oP sB sL sR sJ) (wf := fun u : Unit => LWW ad bd b0 cI cZ cJ nn mm tT tB tE tL oO oR oQ zS zM zN oJ 1 nn mm bm tT oP sB sL sR sJ fL) (wr := xw ad cI cZ nn mm tT tB tE tL oO oR oQ zS zM zN oJ ++ [(b0, .inl (cJ, 1, .inr (.inl (fL))))]) ⟨hx, hb, hml, hown, hts⟩ hK hP hD hS hA (mX1_idle_e1 hr9 hbad) (cwV 2 hts gL_law_X1_idle rfl rfl rfl (by decide +kernel) ⟨Nat.le_of_ble_eq_true rfl, Nat.le_of_ble_eq_true rfl⟩) [12, 13, 14, 15, 16, 17, 18] [0, 1, 2, 3, 4, 5, 6, 7, 8, 9, 10, 11, 19] [0, 1, 2, 3, 4, 5, 6, 7, 8, 9, 10, 11, 13, 14, 15, 16, 17, 18, 19, 12] rfl rfl (by decide) (by decide) (by decide) (hwf := fun _ => rfl) (by decide) (ci := 1) rfl rfl rfl rfl hl.1 rfl (Nat.le_of_ble_eq_true rfl) dL_law_1080 ⟨hcs, hss⟩ (fun v1080 w1080 H locs hv1080 hP hD hS => ?_)
  refine w_top (v := iI 0) (hv1080) ?_
  refine lv_istore (lv' := [(6, .int (iI 0)), (5, .int (iI 1)), (4, .int (iI ((i : Nat) : Int))), (3, .ref (b0)), (2, .ref (bd 0)), (1, .ref (ad 0)), (0, .ref (bS))]) hx hb dL_law_1083 hl (by decide) rfl (fun ls hl => ?_)
  refine lv_aload_n hx hb dL_law_1085 rfl (lv_at hl 4 rfl) ?_
  refine w_pV (As := []) (rest := []) ⟨hx, hb, hml, hown, hts⟩ hK (hP.sub (ws' := mw bd cI 1 nn mm bm tT oP sB sL sR sJ) [12, 13, 14, 15, 16, 17, 18] rfl) (mX1_thrown ) (cwV 0 hts gL_law_X1_thrown rfl rfl rfl (by decide +kernel) ⟨Nat.le_of_ble_eq_true rfl, Nat.le_of_ble_eq_true rfl⟩) (ci := 1) rfl rfl rfl rfl hl.1 rfl (Nat.le_of_ble_eq_true rfl) dL_law_1086 ⟨hcs, hss⟩ (fun v1086 hv1086 => ?_)
  refine w_top (v := iI 1) (hv1086) ?_
  refine lv_iload hx hb dL_law_1089 (lv_at hl 1 rfl) ?_
  refine lv_icmp_eq (tgt := 1096) hx hb dL_law_1091 (by decide) (fun _ => ?_) (fun h9 => absurd rfl h9)
  refine lv_iload hx hb dL_law_1096 (lv_at hl 1 rfl) ?_
  refine lv_if_ne (tgt := 1113) hx hb dL_law_1098 (by decide) (fun _ => ?_) (fun h9 => absurd h9 (by decide +kernel))
  refine lv_goto (tgt := 1461) hx hb dL_law_1113 (by decide) ?_
  exact nx nn mm tT tB tE tL oO oR oQ zS zM zN oJ 1 bm oP sB sL sR sJ fL _ _ _ _ ls ⟨hn, hm, hT, hz, heq, hPm, hCK, hMb⟩ (Nat.le_refl _) (Nat.le_refl _) hP hD hS (lv_sub hl [2, 3, 4, 5, 6] rfl)
set_option maxHeartbeats 4000000 in
set_option maxRecDepth 100000 in
theorem law_18u {v : Nat} {x : Int} (B : L0 p s m args c sa A bS L xs D cI cZ cJ) (hMO : MO) (hl0 : l.stackTraces = false) (I : LInv nn mm tT oO oP zS zM zN oJ) (hi : i + 4 ≤ L) (hv : v ≤ 2) (hr9 : -2147483648 ≤ x ∧ x ≤ 2147483647) (hbad : ¬ (0 ≤ x ∧ x < (mm : Int))) (e1 : xs (i + 1) = iI ((v : Int))) (e2 : xs (i + 2) = iI (x)) (hcs : cells + 1 ≤ 1053) (hss : slots + 6 ≤ 8592) (hP : va_P D vwCl (LWW ad bd b0 cI cZ cJ nn mm tT tB tE tL oO oR oQ zS zM zN oJ th nn mm bm tT oP sB sL sR sJ fL) H) (hD : va_D A (LWW ad bd b0 cI cZ cJ nn mm tT tB tE tL oO oR oQ zS zM zN oJ th nn mm bm tT oP sB sL sR sJ fL)) (hS : va_S A s.heap H locs) (hl : lv_has ls 9 [(4, .int (iI ((i : Nat) : Int))), (3, .ref (b0)), (2, .ref (bd 0)), (1, .ref (ad 0)), (0, .ref (bS))]) (nx : NX p l e s m args below meth c Q A D cI cZ cJ ad bd b0 bS i cells slots) : W p l e room_1 s m args below meth c H locs cells slots Q (F0 m 1048 ls []) := by
  obtain ⟨hx, hb, hml, hown, hts, hK, hA, hX, hbl, hbA, hFX, hSX, hCX, hL⟩ := B
  obtain ⟨hn, hm, hT, hz, heq, hPm, hCK, hMb⟩ := id I
  have hO : ∀ k, k < nn → oO k < 7 := fun k hk => Nat.lt_of_lt_of_le (hPm.1 k hk) hn
  have hOP : ∀ k, k < nn → oP k < 7 := fun k hk => by rw [← heq k hk]; exact hO k hk
  refine lv_aload_n hx hb dL_law_1048 rfl (lv_at hl 3 rfl) ?_
  refine lv_aload_n hx hb dL_law_1049 rfl (lv_at hl 4 rfl) ?_
  refine lv_iload hx hb dL_law_1050 (lv_at hl 0 rfl) ?_
  refine lv_iconst (v := iI 1) hx hb dL_law_1052 rfl ?_
  refine w_iadd (z := ((i + 1 : Nat) : Int)) hx hb dL_law_1053 (by omega) ?_
  refine w_sld hx hb hX hbl hbA hS hL (i + 1) rfl (by omega) e1 dL_law_1054 ?_
  refine lv_aload_n hx hb dL_law_1055 rfl (lv_at hl 4 rfl) ?_
  refine lv_iload hx hb dL_law_1056 (lv_at hl 0 rfl) ?_
  refine lv_iconst (v := iI 2) hx hb dL_law_1058 rfl ?_
  refine w_iadd (z := ((i + 2 : Nat) : Int)) hx hb dL_law_1059 (by omega) ?_
  refine w_sld hx hb hX hbl hbA hS hL (i + 2) rfl (by omega) e2 dL_law_1060 ?_
  refine lv_aload_n hx hb dL_law_1061 rfl (lv_at hl 1 rfl) ?_
  have hTX : TX sa s H := ⟨(hFX.kept hS.2.1).no, hSX, hCX⟩
  refine w_lS (As := [.ref (ad 0), .int (iI ((v : Int))), .int (iI (x)), .ref (b0)]) (rest := []) (sa := sa) (wc := xw ad cI cZ nn mm tT tB tE tL oO oR oQ zS zM zN oJ ++ [(b0, .inl (cJ, 1, .inr (.inl (fL))))]) (wf := fun u : Unit => LWW ad bd b0 cI cZ cJ nn mm tT tB tE tL oO oR oQ zS zM zN oJ th nn mm bm tT oP sB sL sR sJ fL) (wr := mw bd cI th nn mm bm tT oP sB sL sR sJ) ⟨hx, hb, hml, hown, hts⟩ hK hP hD hS hA hTX (hL_idle_2_t hl0 hn hm hv hr9 hbad) (vx_cwSW 4 hts gL_law_L_idle rfl rfl rfl (by decide +kernel) ⟨Nat.le_of_ble_eq_true rfl, Nat.le_of_ble_eq_true rfl⟩) [0, 1, 2, 3, 4, 5, 6, 7, 8, 9, 10, 11, 19] [12, 13, 14, 15, 16, 17, 18] [7, 8, 9, 10, 11, 12, 13, 14, 15, 16, 17, 18, 0, 1, 2, 3, 4, 5, 6, 19] rfl rfl (by decide) (by decide) (by decide) (hwf := fun _ => rfl) (by decide) rfl hl.1 rfl (Nat.le_of_ble_eq_true rfl) dL_law_1062 ⟨hcs, hss⟩ (fun r1 u1 H locs hr1 hP hD hS => ?_)
  refine w_top (v := iI 2) (hr1) ?_
  refine lv_istore (lv' := [(5, .int (iI 2)), (4, .int (iI ((i : Nat) : Int))), (3, .ref (b0)), (2, .ref (bd 0)), (1, .ref (ad 0)), (0, .ref (bS))]) hx hb dL_law_1065 hl (by decide) rfl (fun ls hl => ?_)
  refine lv_aload_n hx hb dL_law_1067 rfl (lv_at hl 3 rfl) ?_
  refine lv_aload_n hx hb dL_law_1068 rfl (lv_at hl 5 rfl) ?_
  refine lv_iload hx hb dL_law_1069 (lv_at hl 1 rfl) ?_
  refine lv_iconst (v := iI 1) hx hb dL_law_1071 rfl ?_
  refine w_iadd (z := ((i + 1 : Nat) : Int)) hx hb dL_law_1072 (by omega) ?_
  refine w_sld hx hb hX hbl hbA hS hL (i + 1) rfl (by omega) e1 dL_law_1073 ?_
  refine lv_aload_n hx hb dL_law_1074 rfl (lv_at hl 5 rfl) ?_
  refine lv_iload hx hb dL_law_1075 (lv_at hl 1 rfl) ?_
  refine lv_iconst (v := iI 2) hx hb dL_law_1077 rfl ?_
  refine w_iadd (z := ((i + 2 : Nat) : Int)) hx hb dL_law_1078 (by omega) ?_
  refine w_sld hx hb hX hbl hbA hS hL (i + 2) rfl (by omega) e2 dL_law_1079 ?_
  refine w_iV (As := [.int (iI ((v : Int))), .int (iI (x))]) (rest := []) (wc := mw bd cI th nn mm bm tT oP sB sL sR sJ) (wf := fun u : Unit => LWW ad bd b0 cI cZ cJ nn mm tT tB tE tL oO oR oQ zS zM zN oJ 2 nn mm bm tT oP sB sL sR sJ fL) (wr := xw ad cI cZ nn mm tT tB tE tL oO oR oQ zS zM zN oJ ++ [(b0, .inl (cJ, 1, .inr (.inl (fL))))]) ⟨hx, hb, hml, hown, hts⟩ hK hP hD hS hA (mX1_idle_e2 hn hm hv hr9 hbad) (cwV 2 hts gL_law_X1_idle rfl rfl rfl (by decide +kernel) ⟨Nat.le_of_ble_eq_true rfl, Nat.le_of_ble_eq_true rfl⟩) [12, 13, 14, 15, 16, 17, 18] [0, 1, 2, 3, 4, 5, 6, 7, 8, 9, 10, 11, 19] [0, 1, 2, 3, 4, 5, 6, 7, 8, 9, 10, 11, 13, 14, 15, 16, 17, 18, 19, 12] rfl rfl (by decide) (by decide) (by decide) (hwf := fun _ => rfl) (by decide) (ci := 1) rfl rfl rfl rfl hl.1 rfl (Nat.le_of_ble_eq_true rfl) dL_law_1080 ⟨hcs, hss⟩ (fun v1080 w1080 H locs hv1080 hP hD hS => ?_)
  refine w_top (v := iI 0) (hv1080) ?_
  refine lv_istore (lv' := [(6, .int (iI 0)), (5, .int (iI 2)), (4, .int (iI ((i : Nat) : Int))), (3, .ref (b0)), (2, .ref (bd 0)), (1, .ref (ad 0)), (0, .ref (bS))]) hx hb dL_law_1083 hl (by decide) rfl (fun ls hl => ?_)
  refine lv_aload_n hx hb dL_law_1085 rfl (lv_at hl 4 rfl) ?_
  refine w_pV (As := []) (rest := []) ⟨hx, hb, hml, hown, hts⟩ hK (hP.sub (ws' := mw bd cI 2 nn mm bm tT oP sB sL sR sJ) [12, 13, 14, 15, 16, 17, 18] rfl) (mX1_thrown ) (cwV 0 hts gL_law_X1_thrown rfl rfl rfl (by decide +kernel) ⟨Nat.le_of_ble_eq_true rfl, Nat.le_of_ble_eq_true rfl⟩) (ci := 1) rfl rfl rfl rfl hl.1 rfl (Nat.le_of_ble_eq_true rfl) dL_law_1086 ⟨hcs, hss⟩ (fun v1086 hv1086 => ?_)
  refine w_top (v := iI 2) (hv1086) ?_
  refine lv_iload hx hb dL_law_1089 (lv_at hl 1 rfl) ?_
  refine lv_icmp_eq (tgt := 1096) hx hb dL_law_1091 (by decide) (fun _ => ?_) (fun h9 => absurd rfl h9)
  refine lv_iload hx hb dL_law_1096 (lv_at hl 1 rfl) ?_
  refine lv_if_ne (tgt := 1113) hx hb dL_law_1098 (by decide) (fun _ => ?_) (fun h9 => absurd h9 (by decide +kernel))
  refine lv_goto (tgt := 1461) hx hb dL_law_1113 (by decide) ?_
  exact nx nn mm tT tB tE tL oO oR oQ zS zM zN oJ 2 bm oP sB sL sR sJ fL _ _ _ _ ls ⟨hn, hm, hT, hz, heq, hPm, hCK, hMb⟩ (Nat.le_refl _) (Nat.le_refl _) hP hD hS (lv_sub hl [2, 3, 4, 5, 6] rfl)
set_option maxHeartbeats 4000000 in
set_option maxRecDepth 100000 in
theorem law_19 {k : Nat} (B : L0 p s m args c sa A bS L xs D cI cZ cJ) (hMO : MO) (hl0 : l.stackTraces = false) (I : LInv nn mm tT oO oP zS zM zN oJ) (hi : i + 4 ≤ L) (hk : k < mm) (e1 : xs (i + 1) = iI ((k : Int))) (hcs : cells + 1 ≤ 1053) (hss : slots + 6 ≤ 8592) (hP : va_P D vwCl (LWW ad bd b0 cI cZ cJ nn mm tT tB tE tL oO oR oQ zS zM zN oJ th nn mm bm tT oP sB sL sR sJ fL) H) (hD : va_D A (LWW ad bd b0 cI cZ cJ nn mm tT tB tE tL oO oR oQ zS zM zN oJ th nn mm bm tT oP sB sL sR sJ fL)) (hS : va_S A s.heap H locs) (hl : lv_has ls 9 [(4, .int (iI ((i : Nat) : Int))), (3, .ref (b0)), (2, .ref (bd 0)), (1, .ref (ad 0)), (0, .ref (bS))]) (nx : NX p l e s m args below meth c Q A D cI cZ cJ ad bd b0 bS i cells slots) : W p l e room_1 s m args below meth c H locs cells slots Q (F0 m 1116 ls []) := by
  obtain ⟨hx, hb, hml, hown, hts, hK, hA, hX, hbl, hbA, hFX, hSX, hCX, hL⟩ := B
  obtain ⟨hn, hm, hT, hz, heq, hPm, hCK, hMb⟩ := id I
  have hO : ∀ k, k < nn → oO k < 7 := fun k hk => Nat.lt_of_lt_of_le (hPm.1 k hk) hn
  have hOP : ∀ k, k < nn → oP k < 7 := fun k hk => by rw [← heq k hk]; exact hO k hk
  refine lv_aload_n hx hb dL_law_1116 rfl (lv_at hl 3 rfl) ?_
  refine lv_aload_n hx hb dL_law_1117 rfl (lv_at hl 4 rfl) ?_
  refine lv_iload hx hb dL_law_1118 (lv_at hl 0 rfl) ?_
  refine lv_iconst (v := iI 1) hx hb dL_law_1120 rfl ?_
  refine w_iadd (z := ((i + 1 : Nat) : Int)) hx hb dL_law_1121 (by omega) ?_
  refine w_sld hx hb hX hbl hbA hS hL (i + 1) rfl (by omega) e1 dL_law_1122 ?_
  refine lv_aload_n hx hb dL_law_1123 rfl (lv_at hl 1 rfl) ?_
  have hTX : TX sa s H := ⟨(hFX.kept hS.2.1).no, hSX, hCX⟩
  refine w_lS (As := [.ref (ad 0), .int (iI ((k : Int))), .ref (b0)]) (rest := []) (sa := sa) (wc := xw ad cI cZ nn mm tT tB tE tL oO oR oQ zS zM zN oJ ++ [(b0, .inl (cJ, 1, .inr (.inl (fL))))]) (wf := fun u : Unit => LWW ad bd b0 cI cZ cJ nn mm tT tB tE tL oO oR oQ zS zM zN oJ th nn mm bm tT oP sB sL sR sJ (lS fL (ldC tT k nn + lsX tT 0 k (nn - 1) + lsX tT (k + 1) mm (nn - 1)))) (wr := mw bd cI th nn mm bm tT oP sB sL sR sJ) ⟨hx, hb, hml, hown, hts⟩ hK hP hD hS hA hTX (hL_machineBound hT hn hm hk) (vx_cwSW 3 hts gL_law_L_machineBound rfl rfl rfl (by decide +kernel) ⟨Nat.le_of_ble_eq_true rfl, Nat.le_of_ble_eq_true rfl⟩) [0, 1, 2, 3, 4, 5, 6, 7, 8, 9, 10, 11, 19] [12, 13, 14, 15, 16, 17, 18] [7, 8, 9, 10, 11, 12, 13, 14, 15, 16, 17, 18, 0, 1, 2, 3, 4, 5, 6, 19] rfl rfl (by decide) (by decide) (by decide) (hwf := fun _ => rfl) (by decide) rfl hl.1 rfl (Nat.le_of_ble_eq_true rfl) dL_law_1124 ⟨hcs, hss⟩ (fun r1 u1 H locs hr1 hP hD hS => ?_)
  refine w_top (v := iI 0) (hr1) ?_
  refine lv_istore (lv' := [(5, .int (iI 0)), (4, .int (iI ((i : Nat) : Int))), (3, .ref (b0)), (2, .ref (bd 0)), (1, .ref (ad 0)), (0, .ref (bS))]) hx hb dL_law_1127 hl (by decide) rfl (fun ls hl => ?_)
  refine lv_aload_n hx hb dL_law_1129 rfl (lv_at hl 3 rfl) ?_
  refine lv_aload_n hx hb dL_law_1130 rfl (lv_at hl 5 rfl) ?_
  refine lv_iload hx hb dL_law_1131 (lv_at hl 1 rfl) ?_
  refine lv_iconst (v := iI 1) hx hb dL_law_1133 rfl ?_
  refine w_iadd (z := ((i + 1 : Nat) : Int)) hx hb dL_law_1134 (by omega) ?_
  refine w_sld hx hb hX hbl hbA hS hL (i + 1) rfl (by omega) e1 dL_law_1135 ?_
  refine w_iV (As := [.int (iI ((k : Int)))]) (rest := []) (wc := mw bd cI th nn mm bm tT oP sB sL sR sJ) (wf := fun u : Unit => LWW ad bd b0 cI cZ cJ nn mm tT tB tE tL oO oR oQ zS zM zN oJ 0 nn mm bm tT oP sB sL sR sJ (lS fL (ldC tT k nn + lsX tT 0 k (nn - 1) + lsX tT (k + 1) mm (nn - 1)))) (wr := xw ad cI cZ nn mm tT tB tE tL oO oR oQ zS zM zN oJ ++ [(b0, .inl (cJ, 1, .inr (.inl (lS fL (ldC tT k nn + lsX tT 0 k (nn - 1) + lsX tT (k + 1) mm (nn - 1))))))]) ⟨hx, hb, hml, hown, hts⟩ hK hP hD hS hA (mX1_machineBound hT hn hm hk) (cwV 1 hts gL_law_X1_machineBound rfl rfl rfl (by decide +kernel) ⟨Nat.le_of_ble_eq_true rfl, Nat.le_of_ble_eq_true rfl⟩) [12, 13, 14, 15, 16, 17, 18] [0, 1, 2, 3, 4, 5, 6, 7, 8, 9, 10, 11, 19] [0, 1, 2, 3, 4, 5, 6, 7, 8, 9, 10, 11, 13, 14, 15, 16, 17, 18, 19, 12] rfl rfl (by decide) (by decide) (by decide) (hwf := fun _ => rfl) (by decide) (ci := 1) rfl rfl rfl rfl hl.1 rfl (Nat.le_of_ble_eq_true rfl) dL_law_1136 ⟨hcs, hss⟩ (fun v1136 w1136 H locs hv1136 hP hD hS => ?_)
  refine w_top (v := iI (ldC tT k nn + lsX tT 0 k (nn - 1) + lsX tT (k + 1) mm (nn - 1))) (hv1136.trans (congrArg iI (mb_eq hT hz hm.2 hk))) ?_
  refine lv_istore (lv' := [(6, .int (iI (ldC tT k nn + lsX tT 0 k (nn - 1) + lsX tT (k + 1) mm (nn - 1)))), (5, .int (iI 0)), (4, .int (iI ((i : Nat) : Int))), (3, .ref (b0)), (2, .ref (bd 0)), (1, .ref (ad 0)), (0, .ref (bS))]) hx hb dL_law_1139 hl (by decide) rfl (fun ls hl => ?_)
  refine lv_aload_n hx hb dL_law_1141 rfl (lv_at hl 4 rfl) ?_
  refine w_pV (As := []) (rest := []) ⟨hx, hb, hml, hown, hts⟩ hK (hP.sub (ws' := mw bd cI 0 nn mm bm tT oP sB sL sR sJ) [12, 13, 14, 15, 16, 17, 18] rfl) (mX1_thrown ) (cwV 0 hts gL_law_X1_thrown rfl rfl rfl (by decide +kernel) ⟨Nat.le_of_ble_eq_true rfl, Nat.le_of_ble_eq_true rfl⟩) (ci := 1) rfl rfl rfl rfl hl.1 rfl (Nat.le_of_ble_eq_true rfl) dL_law_1142 ⟨hcs, hss⟩ (fun v1142 hv1142 => ?_)
  refine w_top (v := iI 0) (hv1142) ?_
  refine lv_iload hx hb dL_law_1145 (lv_at hl 1 rfl) ?_
  refine lv_icmp_eq (tgt := 1152) hx hb dL_law_1147 (by decide) (fun _ => ?_) (fun h9 => absurd rfl h9)
  refine lv_iload hx hb dL_law_1152 (lv_at hl 1 rfl) ?_
  refine lv_if_ne (tgt := 1169) hx hb dL_law_1154 (by decide) (fun h9 => absurd (by decide +kernel) h9) (fun _ => ?_)
  refine lv_aload_n hx hb dL_law_1157 rfl (lv_at hl 3 rfl) ?_
  refine lv_iconst (v := iI 0) hx hb dL_law_1158 rfl ?_
  refine w_lald (v := (iI (ldC tT k nn + lsX tT 0 k (nn - 1) + lsX tT (k + 1) mm (nn - 1))).toInt64) hx hb hK hP 19 2 rfl rfl (lS_0 _ _) dL_law_1159 ?_
  refine lv_iload hx hb dL_law_1160 (lv_at hl 0 rfl) ?_
  refine lv_i2l (v := (iI (ldC tT k nn + lsX tT 0 k (nn - 1) + lsX tT (k + 1) mm (nn - 1))).toInt64) hx hb dL_law_1162 rfl ?_
  refine w_lcmpE hx hb dL_law_1163 ?_
  refine lv_if_eq (tgt := 1169) hx hb dL_law_1164 (by decide) (fun _ => ?_) (fun h9 => absurd rfl h9)
  refine lv_goto (tgt := 1461) hx hb dL_law_1169 (by decide) ?_
  exact nx nn mm tT tB tE tL oO oR oQ zS zM zN oJ 0 bm oP sB sL sR sJ (lS fL (ldC tT k nn + lsX tT 0 k (nn - 1) + lsX tT (k + 1) mm (nn - 1))) _ _ _ _ ls ⟨hn, hm, hT, hz, heq, hPm, hCK, hMb⟩ (Nat.le_refl _) (Nat.le_refl _) hP hD hS (lv_sub hl [2, 3, 4, 5, 6] rfl)
set_option maxHeartbeats 4000000 in
set_option maxRecDepth 100000 in
theorem law_19t {x : Int} (B : L0 p s m args c sa A bS L xs D cI cZ cJ) (hMO : MO) (hl0 : l.stackTraces = false) (I : LInv nn mm tT oO oP zS zM zN oJ) (hi : i + 4 ≤ L) (hr9 : -2147483648 ≤ x ∧ x ≤ 2147483647) (hbad : ¬ (0 ≤ x ∧ x < (mm : Int))) (e1 : xs (i + 1) = iI (x)) (hcs : cells + 1 ≤ 1053) (hss : slots + 6 ≤ 8592) (hP : va_P D vwCl (LWW ad bd b0 cI cZ cJ nn mm tT tB tE tL oO oR oQ zS zM zN oJ th nn mm bm tT oP sB sL sR sJ fL) H) (hD : va_D A (LWW ad bd b0 cI cZ cJ nn mm tT tB tE tL oO oR oQ zS zM zN oJ th nn mm bm tT oP sB sL sR sJ fL)) (hS : va_S A s.heap H locs) (hl : lv_has ls 9 [(4, .int (iI ((i : Nat) : Int))), (3, .ref (b0)), (2, .ref (bd 0)), (1, .ref (ad 0)), (0, .ref (bS))]) (nx : NX p l e s m args below meth c Q A D cI cZ cJ ad bd b0 bS i cells slots) : W p l e room_1 s m args below meth c H locs cells slots Q (F0 m 1116 ls []) := by
  obtain ⟨hx, hb, hml, hown, hts, hK, hA, hX, hbl, hbA, hFX, hSX, hCX, hL⟩ := B
  obtain ⟨hn, hm, hT, hz, heq, hPm, hCK, hMb⟩ := id I
  have hO : ∀ k, k < nn → oO k < 7 := fun k hk => Nat.lt_of_lt_of_le (hPm.1 k hk) hn
  have hOP : ∀ k, k < nn → oP k < 7 := fun k hk => by rw [← heq k hk]; exact hO k hk
  refine lv_aload_n hx hb dL_law_1116 rfl (lv_at hl 3 rfl) ?_
  refine lv_aload_n hx hb dL_law_1117 rfl (lv_at hl 4 rfl) ?_
  refine lv_iload hx hb dL_law_1118 (lv_at hl 0 rfl) ?_
  refine lv_iconst (v := iI 1) hx hb dL_law_1120 rfl ?_
  refine w_iadd (z := ((i + 1 : Nat) : Int)) hx hb dL_law_1121 (by omega) ?_
  refine w_sld hx hb hX hbl hbA hS hL (i + 1) rfl (by omega) e1 dL_law_1122 ?_
  refine lv_aload_n hx hb dL_law_1123 rfl (lv_at hl 1 rfl) ?_
  have hTX : TX sa s H := ⟨(hFX.kept hS.2.1).no, hSX, hCX⟩
  refine w_lS (As := [.ref (ad 0), .int (iI (x)), .ref (b0)]) (rest := []) (sa := sa) (wc := xw ad cI cZ nn mm tT tB tE tL oO oR oQ zS zM zN oJ ++ [(b0, .inl (cJ, 1, .inr (.inl (fL))))]) (wf := fun u : Unit => LWW ad bd b0 cI cZ cJ nn mm tT tB tE tL oO oR oQ zS zM zN oJ th nn mm bm tT oP sB sL sR sJ fL) (wr := mw bd cI th nn mm bm tT oP sB sL sR sJ) ⟨hx, hb, hml, hown, hts⟩ hK hP hD hS hA hTX (hL_machineBound_t hl0 hn hm hr9 hbad) (vx_cwSW 3 hts gL_law_L_machineBound rfl rfl rfl (by decide +kernel) ⟨Nat.le_of_ble_eq_true rfl, Nat.le_of_ble_eq_true rfl⟩) [0, 1, 2, 3, 4, 5, 6, 7, 8, 9, 10, 11, 19] [12, 13, 14, 15, 16, 17, 18] [7, 8, 9, 10, 11, 12, 13, 14, 15, 16, 17, 18, 0, 1, 2, 3, 4, 5, 6, 19] rfl rfl (by decide) (by decide) (by decide) (hwf := fun _ => rfl) (by decide) rfl hl.1 rfl (Nat.le_of_ble_eq_true rfl) dL_law_1124 ⟨hcs, hss⟩ (fun r1 u1 H locs hr1 hP hD hS => ?_)
  refine w_top (v := iI 1) (hr1) ?_
  refine lv_istore (lv' := [(5, .int (iI 1)), (4, .int (iI ((i : Nat) : Int))), (3, .ref (b0)), (2, .ref (bd 0)), (1, .ref (ad 0)), (0, .ref (bS))]) hx hb dL_law_1127 hl (by decide) rfl (fun ls hl => ?_)
  refine lv_aload_n hx hb dL_law_1129 rfl (lv_at hl 3 rfl) ?_
  refine lv_aload_n hx hb dL_law_1130 rfl (lv_at hl 5 rfl) ?_
  refine lv_iload hx hb dL_law_1131 (lv_at hl 1 rfl) ?_
  refine lv_iconst (v := iI 1) hx hb dL_law_1133 rfl ?_
  refine w_iadd (z := ((i + 1 : Nat) : Int)) hx hb dL_law_1134 (by omega) ?_
  refine w_sld hx hb hX hbl hbA hS hL (i + 1) rfl (by omega) e1 dL_law_1135 ?_
  refine w_iV (As := [.int (iI (x))]) (rest := []) (wc := mw bd cI th nn mm bm tT oP sB sL sR sJ) (wf := fun u : Unit => LWW ad bd b0 cI cZ cJ nn mm tT tB tE tL oO oR oQ zS zM zN oJ 1 nn mm bm tT oP sB sL sR sJ fL) (wr := xw ad cI cZ nn mm tT tB tE tL oO oR oQ zS zM zN oJ ++ [(b0, .inl (cJ, 1, .inr (.inl (fL))))]) ⟨hx, hb, hml, hown, hts⟩ hK hP hD hS hA (mX1_machineBound_e hn hm hr9 hbad) (cwV 1 hts gL_law_X1_machineBound rfl rfl rfl (by decide +kernel) ⟨Nat.le_of_ble_eq_true rfl, Nat.le_of_ble_eq_true rfl⟩) [12, 13, 14, 15, 16, 17, 18] [0, 1, 2, 3, 4, 5, 6, 7, 8, 9, 10, 11, 19] [0, 1, 2, 3, 4, 5, 6, 7, 8, 9, 10, 11, 13, 14, 15, 16, 17, 18, 19, 12] rfl rfl (by decide) (by decide) (by decide) (hwf := fun _ => rfl) (by decide) (ci := 1) rfl rfl rfl rfl hl.1 rfl (Nat.le_of_ble_eq_true rfl) dL_law_1136 ⟨hcs, hss⟩ (fun v1136 w1136 H locs hv1136 hP hD hS => ?_)
  refine w_top (v := iI 0) (hv1136) ?_
  refine lv_istore (lv' := [(6, .int (iI 0)), (5, .int (iI 1)), (4, .int (iI ((i : Nat) : Int))), (3, .ref (b0)), (2, .ref (bd 0)), (1, .ref (ad 0)), (0, .ref (bS))]) hx hb dL_law_1139 hl (by decide) rfl (fun ls hl => ?_)
  refine lv_aload_n hx hb dL_law_1141 rfl (lv_at hl 4 rfl) ?_
  refine w_pV (As := []) (rest := []) ⟨hx, hb, hml, hown, hts⟩ hK (hP.sub (ws' := mw bd cI 1 nn mm bm tT oP sB sL sR sJ) [12, 13, 14, 15, 16, 17, 18] rfl) (mX1_thrown ) (cwV 0 hts gL_law_X1_thrown rfl rfl rfl (by decide +kernel) ⟨Nat.le_of_ble_eq_true rfl, Nat.le_of_ble_eq_true rfl⟩) (ci := 1) rfl rfl rfl rfl hl.1 rfl (Nat.le_of_ble_eq_true rfl) dL_law_1142 ⟨hcs, hss⟩ (fun v1142 hv1142 => ?_)
  refine w_top (v := iI 1) (hv1142) ?_
  refine lv_iload hx hb dL_law_1145 (lv_at hl 1 rfl) ?_
  refine lv_icmp_eq (tgt := 1152) hx hb dL_law_1147 (by decide) (fun _ => ?_) (fun h9 => absurd rfl h9)
  refine lv_iload hx hb dL_law_1152 (lv_at hl 1 rfl) ?_
  refine lv_if_ne (tgt := 1169) hx hb dL_law_1154 (by decide) (fun _ => ?_) (fun h9 => absurd h9 (by decide +kernel))
  refine lv_goto (tgt := 1461) hx hb dL_law_1169 (by decide) ?_
  exact nx nn mm tT tB tE tL oO oR oQ zS zM zN oJ 1 bm oP sB sL sR sJ fL _ _ _ _ ls ⟨hn, hm, hT, hz, heq, hPm, hCK, hMb⟩ (Nat.le_refl _) (Nat.le_refl _) hP hD hS (lv_sub hl [2, 3, 4, 5, 6] rfl)
set_option maxHeartbeats 4000000 in
set_option maxRecDepth 100000 in
theorem law_20 {a b : Nat} (B : L0 p s m args c sa A bS L xs D cI cZ cJ) (hMO : MO) (hl0 : l.stackTraces = false) (I : LInv nn mm tT oO oP zS zM zN oJ) (hi : i + 4 ≤ L) (hab : a < b) (hbm : b < mm) (e1 : xs (i + 1) = iI ((a : Int))) (e2 : xs (i + 2) = iI ((b : Int))) (hcs : cells + 1 ≤ 1053) (hss : slots + 6 ≤ 8592) (hP : va_P D vwCl (LWW ad bd b0 cI cZ cJ nn mm tT tB tE tL oO oR oQ zS zM zN oJ th nn mm bm tT oP sB sL sR sJ fL) H) (hD : va_D A (LWW ad bd b0 cI cZ cJ nn mm tT tB tE tL oO oR oQ zS zM zN oJ th nn mm bm tT oP sB sL sR sJ fL)) (hS : va_S A s.heap H locs) (hl : lv_has ls 9 [(4, .int (iI ((i : Nat) : Int))), (3, .ref (b0)), (2, .ref (bd 0)), (1, .ref (ad 0)), (0, .ref (bS))]) (nx : NX p l e s m args below meth c Q A D cI cZ cJ ad bd b0 bS i cells slots) : W p l e room_1 s m args below meth c H locs cells slots Q (F0 m 1172 ls []) := by
  obtain ⟨hx, hb, hml, hown, hts, hK, hA, hX, hbl, hbA, hFX, hSX, hCX, hL⟩ := B
  obtain ⟨hn, hm, hT, hz, heq, hPm, hCK, hMb⟩ := id I
  have hO : ∀ k, k < nn → oO k < 7 := fun k hk => Nat.lt_of_lt_of_le (hPm.1 k hk) hn
  have hOP : ∀ k, k < nn → oP k < 7 := fun k hk => by rw [← heq k hk]; exact hO k hk
  have hpb := hMO.2.2.2.2
  refine lv_aload_n hx hb dL_law_1172 rfl (lv_at hl 3 rfl) ?_
  refine lv_aload_n hx hb dL_law_1173 rfl (lv_at hl 4 rfl) ?_
  refine lv_iload hx hb dL_law_1174 (lv_at hl 0 rfl) ?_
  refine lv_iconst (v := iI 1) hx hb dL_law_1176 rfl ?_
  refine w_iadd (z := ((i + 1 : Nat) : Int)) hx hb dL_law_1177 (by omega) ?_
  refine w_sld hx hb hX hbl hbA hS hL (i + 1) rfl (by omega) e1 dL_law_1178 ?_
  refine lv_aload_n hx hb dL_law_1179 rfl (lv_at hl 4 rfl) ?_
  refine lv_iload hx hb dL_law_1180 (lv_at hl 0 rfl) ?_
  refine lv_iconst (v := iI 2) hx hb dL_law_1182 rfl ?_
  refine w_iadd (z := ((i + 2 : Nat) : Int)) hx hb dL_law_1183 (by omega) ?_
  refine w_sld hx hb hX hbl hbA hS hL (i + 2) rfl (by omega) e2 dL_law_1184 ?_
  refine lv_aload_n hx hb dL_law_1185 rfl (lv_at hl 1 rfl) ?_
  have hTX : TX sa s H := ⟨(hFX.kept hS.2.1).no, hSX, hCX⟩
  refine w_lS (As := [.ref (ad 0), .int (iI ((a : Int))), .int (iI ((b : Int))), .ref (b0)]) (rest := []) (sa := sa) (wc := xw ad cI cZ nn mm tT tB tE tL oO oR oQ zS zM zN oJ ++ [(b0, .inl (cJ, 1, .inr (.inl (fL))))]) (wf := fun u : Unit => LWW ad bd b0 cI cZ cJ nn mm tT tB tE tL oO (srt (gbr tT a b) oR nn) oQ zS zM zN oJ th nn mm bm tT oP sB sL sR sJ (lS fL (opS tT (srt (gbr tT a b) oR nn) a b nn + lsX tT 0 a (nn - 1) + lsX tT (b + 1) mm (nn - 1)))) (wr := mw bd cI th nn mm bm tT oP sB sL sR sJ) ⟨hx, hb, hml, hown, hts⟩ hK hP hD hS hA hTX (hL_pairBound hT hn hm hab hbm) (vx_cwSW 4 hts gL_law_L_pairBound rfl rfl rfl (by decide +kernel) ⟨Nat.le_of_ble_eq_true rfl, Nat.le_of_ble_eq_true rfl⟩) [0, 1, 2, 3, 4, 5, 6, 7, 8, 9, 10, 11, 19] [12, 13, 14, 15, 16, 17, 18] [7, 8, 9, 10, 11, 12, 13, 14, 15, 16, 17, 18, 0, 1, 2, 3, 4, 5, 6, 19] rfl rfl (by decide) (by decide) (by decide) (hwf := fun _ => rfl) (by decide) rfl hl.1 rfl (Nat.le_of_ble_eq_true rfl) dL_law_1186 ⟨hcs, hss⟩ (fun r1 u1 H locs hr1 hP hD hS => ?_)
  refine w_top (v := iI 0) (hr1) ?_
  refine lv_istore (lv' := [(5, .int (iI 0)), (4, .int (iI ((i : Nat) : Int))), (3, .ref (b0)), (2, .ref (bd 0)), (1, .ref (ad 0)), (0, .ref (bS))]) hx hb dL_law_1189 hl (by decide) rfl (fun ls hl => ?_)
  refine lv_aload_n hx hb dL_law_1191 rfl (lv_at hl 3 rfl) ?_
  refine lv_aload_n hx hb dL_law_1192 rfl (lv_at hl 5 rfl) ?_
  refine lv_iload hx hb dL_law_1193 (lv_at hl 1 rfl) ?_
  refine lv_iconst (v := iI 1) hx hb dL_law_1195 rfl ?_
  refine w_iadd (z := ((i + 1 : Nat) : Int)) hx hb dL_law_1196 (by omega) ?_
  refine w_sld hx hb hX hbl hbA hS hL (i + 1) rfl (by omega) e1 dL_law_1197 ?_
  refine lv_aload_n hx hb dL_law_1198 rfl (lv_at hl 5 rfl) ?_
  refine lv_iload hx hb dL_law_1199 (lv_at hl 1 rfl) ?_
  refine lv_iconst (v := iI 2) hx hb dL_law_1201 rfl ?_
  refine w_iadd (z := ((i + 2 : Nat) : Int)) hx hb dL_law_1202 (by omega) ?_
  refine w_sld hx hb hX hbl hbA hS hL (i + 2) rfl (by omega) e2 dL_law_1203 ?_
  refine w_iV (As := [.int (iI ((a : Int))), .int (iI ((b : Int)))]) (rest := []) (wc := mw bd cI th nn mm bm tT oP sB sL sR sJ) (wf := fun u : (Nat → Nat) => LWW ad bd b0 cI cZ cJ nn mm tT tB tE tL oO (srt (gbr tT a b) oR nn) oQ zS zM zN oJ 0 nn mm bm tT oP sB sL u sJ (lS fL (opS tT (srt (gbr tT a b) oR nn) a b nn + lsX tT 0 a (nn - 1) + lsX tT (b + 1) mm (nn - 1)))) (wr := xw ad cI cZ nn mm tT tB tE tL oO (srt (gbr tT a b) oR nn) oQ zS zM zN oJ ++ [(b0, .inl (cJ, 1, .inr (.inl (lS fL (opS tT (srt (gbr tT a b) oR nn) a b nn + lsX tT 0 a (nn - 1) + lsX tT (b + 1) mm (nn - 1))))))]) ⟨hx, hb, hml, hown, hts⟩ hK hP hD hS hA (mX1_pairBound hT hn hm hab hbm (hMO.1 nn hn)) (cwV 2 hts gL_law_X1_pairBound rfl rfl rfl (by decide +kernel) ⟨Nat.le_of_ble_eq_true rfl, Nat.le_of_ble_eq_true rfl⟩) [12, 13, 14, 15, 16, 17, 18] [0, 1, 2, 3, 4, 5, 6, 7, 8, 9, 10, 11, 19] [0, 1, 2, 3, 4, 5, 6, 7, 8, 9, 10, 11, 13, 14, 15, 16, 17, 18, 19, 12] rfl rfl (by decide) (by decide) (by decide) (hwf := fun _ => rfl) (by decide) (ci := 1) rfl rfl rfl rfl hl.1 rfl (Nat.le_of_ble_eq_true rfl) dL_law_1204 ⟨hcs, hss⟩ (fun v1204 w1204 H locs hv1204 hP hD hS => ?_)
  refine w_top (v := iI (opS tT (srt (gbr tT a b) oR nn) a b nn + lsX tT 0 a (nn - 1) + lsX tT (b + 1) mm (nn - 1))) (hv1204.trans (congrArg iI (pb_eq hpb hT hn hz hm.2 hab hbm))) ?_
  refine lv_istore (lv' := [(6, .int (iI (opS tT (srt (gbr tT a b) oR nn) a b nn + lsX tT 0 a (nn - 1) + lsX tT (b + 1) mm (nn - 1)))), (5, .int (iI 0)), (4, .int (iI ((i : Nat) : Int))), (3, .ref (b0)), (2, .ref (bd 0)), (1, .ref (ad 0)), (0, .ref (bS))]) hx hb dL_law_1207 hl (by decide) rfl (fun ls hl => ?_)
  refine lv_aload_n hx hb dL_law_1209 rfl (lv_at hl 4 rfl) ?_
  refine w_pV (As := []) (rest := []) ⟨hx, hb, hml, hown, hts⟩ hK (hP.sub (ws' := mw bd cI 0 nn mm bm tT oP sB sL w1204 sJ) [12, 13, 14, 15, 16, 17, 18] rfl) (mX1_thrown ) (cwV 0 hts gL_law_X1_thrown rfl rfl rfl (by decide +kernel) ⟨Nat.le_of_ble_eq_true rfl, Nat.le_of_ble_eq_true rfl⟩) (ci := 1) rfl rfl rfl rfl hl.1 rfl (Nat.le_of_ble_eq_true rfl) dL_law_1210 ⟨hcs, hss⟩ (fun v1210 hv1210 => ?_)
  refine w_top (v := iI 0) (hv1210) ?_
  refine lv_iload hx hb dL_law_1213 (lv_at hl 1 rfl) ?_
  refine lv_icmp_eq (tgt := 1220) hx hb dL_law_1215 (by decide) (fun _ => ?_) (fun h9 => absurd rfl h9)
  refine lv_iload hx hb dL_law_1220 (lv_at hl 1 rfl) ?_
  refine lv_if_ne (tgt := 1237) hx hb dL_law_1222 (by decide) (fun h9 => absurd (by decide +kernel) h9) (fun _ => ?_)
  refine lv_aload_n hx hb dL_law_1225 rfl (lv_at hl 3 rfl) ?_
  refine lv_iconst (v := iI 0) hx hb dL_law_1226 rfl ?_
  refine w_lald (v := (iI (opS tT (srt (gbr tT a b) oR nn) a b nn + lsX tT 0 a (nn - 1) + lsX tT (b + 1) mm (nn - 1))).toInt64) hx hb hK hP 19 2 rfl rfl (lS_0 _ _) dL_law_1227 ?_
  refine lv_iload hx hb dL_law_1228 (lv_at hl 0 rfl) ?_
  refine lv_i2l (v := (iI (opS tT (srt (gbr tT a b) oR nn) a b nn + lsX tT 0 a (nn - 1) + lsX tT (b + 1) mm (nn - 1))).toInt64) hx hb dL_law_1230 rfl ?_
  refine w_lcmpE hx hb dL_law_1231 ?_
  refine lv_if_eq (tgt := 1237) hx hb dL_law_1232 (by decide) (fun _ => ?_) (fun h9 => absurd rfl h9)
  refine lv_goto (tgt := 1461) hx hb dL_law_1237 (by decide) ?_
  exact nx nn mm tT tB tE tL oO (srt (gbr tT a b) oR nn) oQ zS zM zN oJ 0 bm oP sB sL w1204 sJ (lS fL (opS tT (srt (gbr tT a b) oR nn) a b nn + lsX tT 0 a (nn - 1) + lsX tT (b + 1) mm (nn - 1))) _ _ _ _ ls ⟨hn, hm, hT, hz, heq, hPm, hCK, hMb⟩ (Nat.le_refl _) (Nat.le_refl _) hP hD hS (lv_sub hl [2, 3, 4, 5, 6] rfl)
set_option maxHeartbeats 4000000 in
set_option maxRecDepth 100000 in
theorem law_20t {x y : Int} (B : L0 p s m args c sa A bS L xs D cI cZ cJ) (hMO : MO) (hl0 : l.stackTraces = false) (I : LInv nn mm tT oO oP zS zM zN oJ) (hi : i + 4 ≤ L) (hr9 : -2147483648 ≤ x ∧ x ≤ 2147483647 ∧ -2147483648 ≤ y ∧ y ≤ 2147483647) (hbad : ¬ ((0 ≤ x ∧ x < (mm : Int)) ∧ 0 ≤ y ∧ y < (mm : Int))) (e1 : xs (i + 1) = iI (x)) (e2 : xs (i + 2) = iI (y)) (hcs : cells + 1 ≤ 1053) (hss : slots + 6 ≤ 8592) (hP : va_P D vwCl (LWW ad bd b0 cI cZ cJ nn mm tT tB tE tL oO oR oQ zS zM zN oJ th nn mm bm tT oP sB sL sR sJ fL) H) (hD : va_D A (LWW ad bd b0 cI cZ cJ nn mm tT tB tE tL oO oR oQ zS zM zN oJ th nn mm bm tT oP sB sL sR sJ fL)) (hS : va_S A s.heap H locs) (hl : lv_has ls 9 [(4, .int (iI ((i : Nat) : Int))), (3, .ref (b0)), (2, .ref (bd 0)), (1, .ref (ad 0)), (0, .ref (bS))]) (nx : NX p l e s m args below meth c Q A D cI cZ cJ ad bd b0 bS i cells slots) : W p l e room_1 s m args below meth c H locs cells slots Q (F0 m 1172 ls []) := by
  obtain ⟨hx, hb, hml, hown, hts, hK, hA, hX, hbl, hbA, hFX, hSX, hCX, hL⟩ := B
  obtain ⟨hn, hm, hT, hz, heq, hPm, hCK, hMb⟩ := id I
  have hO : ∀ k, k < nn → oO k < 7 := fun k hk => Nat.lt_of_lt_of_le (hPm.1 k hk) hn
  have hOP : ∀ k, k < nn → oP k < 7 := fun k hk => by rw [← heq k hk]; exact hO k hk
  refine lv_aload_n hx hb dL_law_1172 rfl (lv_at hl 3 rfl) ?_
  refine lv_aload_n hx hb dL_law_1173 rfl (lv_at hl 4 rfl) ?_
  refine lv_iload hx hb dL_law_1174 (lv_at hl 0 rfl) ?_
  refine lv_iconst (v := iI 1) hx hb dL_law_1176 rfl ?_
  refine w_iadd (z := ((i + 1 : Nat) : Int)) hx hb dL_law_1177 (by omega) ?_
  refine w_sld hx hb hX hbl hbA hS hL (i + 1) rfl (by omega) e1 dL_law_1178 ?_
  refine lv_aload_n hx hb dL_law_1179 rfl (lv_at hl 4 rfl) ?_
  refine lv_iload hx hb dL_law_1180 (lv_at hl 0 rfl) ?_
  refine lv_iconst (v := iI 2) hx hb dL_law_1182 rfl ?_
  refine w_iadd (z := ((i + 2 : Nat) : Int)) hx hb dL_law_1183 (by omega) ?_
  refine w_sld hx hb hX hbl hbA hS hL (i + 2) rfl (by omega) e2 dL_law_1184 ?_
  refine lv_aload_n hx hb dL_law_1185 rfl (lv_at hl 1 rfl) ?_
  have hTX : TX sa s H := ⟨(hFX.kept hS.2.1).no, hSX, hCX⟩
  refine w_lS (As := [.ref (ad 0), .int (iI (x)), .int (iI (y)), .ref (b0)]) (rest := []) (sa := sa) (wc := xw ad cI cZ nn mm tT tB tE tL oO oR oQ zS zM zN oJ ++ [(b0, .inl (cJ, 1, .inr (.inl (fL))))]) (wf := fun u : Unit => LWW ad bd b0 cI cZ cJ nn mm tT tB tE tL oO oR oQ zS zM zN oJ th nn mm bm tT oP sB sL sR sJ fL) (wr := mw bd cI th nn mm bm tT oP sB sL sR sJ) ⟨hx, hb, hml, hown, hts⟩ hK hP hD hS hA hTX (hL_pairBound_1_t hl0 hn hm hr9 hbad) (vx_cwSW 4 hts gL_law_L_pairBound rfl rfl rfl (by decide +kernel) ⟨Nat.le_of_ble_eq_true rfl, Nat.le_of_ble_eq_true rfl⟩) [0, 1, 2, 3, 4, 5, 6, 7, 8, 9, 10, 11, 19] [12, 13, 14, 15, 16, 17, 18] [7, 8, 9, 10, 11, 12, 13, 14, 15, 16, 17, 18, 0, 1, 2, 3, 4, 5, 6, 19] rfl rfl (by decide) (by decide) (by decide) (hwf := fun _ => rfl) (by decide) rfl hl.1 rfl (Nat.le_of_ble_eq_true rfl) dL_law_1186 ⟨hcs, hss⟩ (fun r1 u1 H locs hr1 hP hD hS => ?_)
  refine w_top (v := iI 1) (hr1) ?_
  refine lv_istore (lv' := [(5, .int (iI 1)), (4, .int (iI ((i : Nat) : Int))), (3, .ref (b0)), (2, .ref (bd 0)), (1, .ref (ad 0)), (0, .ref (bS))]) hx hb dL_law_1189 hl (by decide) rfl (fun ls hl => ?_)
  refine lv_aload_n hx hb dL_law_1191 rfl (lv_at hl 3 rfl) ?_
  refine lv_aload_n hx hb dL_law_1192 rfl (lv_at hl 5 rfl) ?_
  refine lv_iload hx hb dL_law_1193 (lv_at hl 1 rfl) ?_
  refine lv_iconst (v := iI 1) hx hb dL_law_1195 rfl ?_
  refine w_iadd (z := ((i + 1 : Nat) : Int)) hx hb dL_law_1196 (by omega) ?_
  refine w_sld hx hb hX hbl hbA hS hL (i + 1) rfl (by omega) e1 dL_law_1197 ?_
  refine lv_aload_n hx hb dL_law_1198 rfl (lv_at hl 5 rfl) ?_
  refine lv_iload hx hb dL_law_1199 (lv_at hl 1 rfl) ?_
  refine lv_iconst (v := iI 2) hx hb dL_law_1201 rfl ?_
  refine w_iadd (z := ((i + 2 : Nat) : Int)) hx hb dL_law_1202 (by omega) ?_
  refine w_sld hx hb hX hbl hbA hS hL (i + 2) rfl (by omega) e2 dL_law_1203 ?_
  refine w_iV (As := [.int (iI (x)), .int (iI (y))]) (rest := []) (wc := mw bd cI th nn mm bm tT oP sB sL sR sJ) (wf := fun u : Unit => LWW ad bd b0 cI cZ cJ nn mm tT tB tE tL oO oR oQ zS zM zN oJ 1 nn mm bm tT oP sB sL sR sJ fL) (wr := xw ad cI cZ nn mm tT tB tE tL oO oR oQ zS zM zN oJ ++ [(b0, .inl (cJ, 1, .inr (.inl (fL))))]) ⟨hx, hb, hml, hown, hts⟩ hK hP hD hS hA (mX1_pairBound_e1 hn hm hr9 hbad) (cwV 2 hts gL_law_X1_pairBound rfl rfl rfl (by decide +kernel) ⟨Nat.le_of_ble_eq_true rfl, Nat.le_of_ble_eq_true rfl⟩) [12, 13, 14, 15, 16, 17, 18] [0, 1, 2, 3, 4, 5, 6, 7, 8, 9, 10, 11, 19] [0, 1, 2, 3, 4, 5, 6, 7, 8, 9, 10, 11, 13, 14, 15, 16, 17, 18, 19, 12] rfl rfl (by decide) (by decide) (by decide) (hwf := fun _ => rfl) (by decide) (ci := 1) rfl rfl rfl rfl hl.1 rfl (Nat.le_of_ble_eq_true rfl) dL_law_1204 ⟨hcs, hss⟩ (fun v1204 w1204 H locs hv1204 hP hD hS => ?_)
  refine w_top (v := iI 0) (hv1204) ?_
  refine lv_istore (lv' := [(6, .int (iI 0)), (5, .int (iI 1)), (4, .int (iI ((i : Nat) : Int))), (3, .ref (b0)), (2, .ref (bd 0)), (1, .ref (ad 0)), (0, .ref (bS))]) hx hb dL_law_1207 hl (by decide) rfl (fun ls hl => ?_)
  refine lv_aload_n hx hb dL_law_1209 rfl (lv_at hl 4 rfl) ?_
  refine w_pV (As := []) (rest := []) ⟨hx, hb, hml, hown, hts⟩ hK (hP.sub (ws' := mw bd cI 1 nn mm bm tT oP sB sL sR sJ) [12, 13, 14, 15, 16, 17, 18] rfl) (mX1_thrown ) (cwV 0 hts gL_law_X1_thrown rfl rfl rfl (by decide +kernel) ⟨Nat.le_of_ble_eq_true rfl, Nat.le_of_ble_eq_true rfl⟩) (ci := 1) rfl rfl rfl rfl hl.1 rfl (Nat.le_of_ble_eq_true rfl) dL_law_1210 ⟨hcs, hss⟩ (fun v1210 hv1210 => ?_)
  refine w_top (v := iI 1) (hv1210) ?_
  refine lv_iload hx hb dL_law_1213 (lv_at hl 1 rfl) ?_
  refine lv_icmp_eq (tgt := 1220) hx hb dL_law_1215 (by decide) (fun _ => ?_) (fun h9 => absurd rfl h9)
  refine lv_iload hx hb dL_law_1220 (lv_at hl 1 rfl) ?_
  refine lv_if_ne (tgt := 1237) hx hb dL_law_1222 (by decide) (fun _ => ?_) (fun h9 => absurd h9 (by decide +kernel))
  refine lv_goto (tgt := 1461) hx hb dL_law_1237 (by decide) ?_
  exact nx nn mm tT tB tE tL oO oR oQ zS zM zN oJ 1 bm oP sB sL sR sJ fL _ _ _ _ ls ⟨hn, hm, hT, hz, heq, hPm, hCK, hMb⟩ (Nat.le_refl _) (Nat.le_refl _) hP hD hS (lv_sub hl [2, 3, 4, 5, 6] rfl)
set_option maxHeartbeats 4000000 in
set_option maxRecDepth 100000 in
theorem law_20u {a b : Nat} (B : L0 p s m args c sa A bS L xs D cI cZ cJ) (hMO : MO) (hl0 : l.stackTraces = false) (I : LInv nn mm tT oO oP zS zM zN oJ) (hi : i + 4 ≤ L) (ha : a < mm) (hb7 : b < mm) (hab : b ≤ a) (e1 : xs (i + 1) = iI ((a : Int))) (e2 : xs (i + 2) = iI ((b : Int))) (hcs : cells + 1 ≤ 1053) (hss : slots + 6 ≤ 8592) (hP : va_P D vwCl (LWW ad bd b0 cI cZ cJ nn mm tT tB tE tL oO oR oQ zS zM zN oJ th nn mm bm tT oP sB sL sR sJ fL) H) (hD : va_D A (LWW ad bd b0 cI cZ cJ nn mm tT tB tE tL oO oR oQ zS zM zN oJ th nn mm bm tT oP sB sL sR sJ fL)) (hS : va_S A s.heap H locs) (hl : lv_has ls 9 [(4, .int (iI ((i : Nat) : Int))), (3, .ref (b0)), (2, .ref (bd 0)), (1, .ref (ad 0)), (0, .ref (bS))]) (nx : NX p l e s m args below meth c Q A D cI cZ cJ ad bd b0 bS i cells slots) : W p l e room_1 s m args below meth c H locs cells slots Q (F0 m 1172 ls []) := by
  obtain ⟨hx, hb, hml, hown, hts, hK, hA, hX, hbl, hbA, hFX, hSX, hCX, hL⟩ := B
  obtain ⟨hn, hm, hT, hz, heq, hPm, hCK, hMb⟩ := id I
  have hO : ∀ k, k < nn → oO k < 7 := fun k hk => Nat.lt_of_lt_of_le (hPm.1 k hk) hn
  have hOP : ∀ k, k < nn → oP k < 7 := fun k hk => by rw [← heq k hk]; exact hO k hk
  refine lv_aload_n hx hb dL_law_1172 rfl (lv_at hl 3 rfl) ?_
  refine lv_aload_n hx hb dL_law_1173 rfl (lv_at hl 4 rfl) ?_
  refine lv_iload hx hb dL_law_1174 (lv_at hl 0 rfl) ?_
  refine lv_iconst (v := iI 1) hx hb dL_law_1176 rfl ?_
  refine w_iadd (z := ((i + 1 : Nat) : Int)) hx hb dL_law_1177 (by omega) ?_
  refine w_sld hx hb hX hbl hbA hS hL (i + 1) rfl (by omega) e1 dL_law_1178 ?_
  refine lv_aload_n hx hb dL_law_1179 rfl (lv_at hl 4 rfl) ?_
  refine lv_iload hx hb dL_law_1180 (lv_at hl 0 rfl) ?_
  refine lv_iconst (v := iI 2) hx hb dL_law_1182 rfl ?_
  refine w_iadd (z := ((i + 2 : Nat) : Int)) hx hb dL_law_1183 (by omega) ?_
  refine w_sld hx hb hX hbl hbA hS hL (i + 2) rfl (by omega) e2 dL_law_1184 ?_
  refine lv_aload_n hx hb dL_law_1185 rfl (lv_at hl 1 rfl) ?_
  have hTX : TX sa s H := ⟨(hFX.kept hS.2.1).no, hSX, hCX⟩
  refine w_lS (As := [.ref (ad 0), .int (iI ((a : Int))), .int (iI ((b : Int))), .ref (b0)]) (rest := []) (sa := sa) (wc := xw ad cI cZ nn mm tT tB tE tL oO oR oQ zS zM zN oJ ++ [(b0, .inl (cJ, 1, .inr (.inl (fL))))]) (wf := fun u : Unit => LWW ad bd b0 cI cZ cJ nn mm tT tB tE tL oO oR oQ zS zM zN oJ th nn mm bm tT oP sB sL sR sJ fL) (wr := mw bd cI th nn mm bm tT oP sB sL sR sJ) ⟨hx, hb, hml, hown, hts⟩ hK hP hD hS hA hTX (hL_pairBound_2_t hl0 hn hm ha hb7 hab) (vx_cwSW 4 hts gL_law_L_pairBound rfl rfl rfl (by decide +kernel) ⟨Nat.le_of_ble_eq_true rfl, Nat.le_of_ble_eq_true rfl⟩) [0, 1, 2, 3, 4, 5, 6, 7, 8, 9, 10, 11, 19] [12, 13, 14, 15, 16, 17, 18] [7, 8, 9, 10, 11, 12, 13, 14, 15, 16, 17, 18, 0, 1, 2, 3, 4, 5, 6, 19] rfl rfl (by decide) (by decide) (by decide) (hwf := fun _ => rfl) (by decide) rfl hl.1 rfl (Nat.le_of_ble_eq_true rfl) dL_law_1186 ⟨hcs, hss⟩ (fun r1 u1 H locs hr1 hP hD hS => ?_)
  refine w_top (v := iI 2) (hr1) ?_
  refine lv_istore (lv' := [(5, .int (iI 2)), (4, .int (iI ((i : Nat) : Int))), (3, .ref (b0)), (2, .ref (bd 0)), (1, .ref (ad 0)), (0, .ref (bS))]) hx hb dL_law_1189 hl (by decide) rfl (fun ls hl => ?_)
  refine lv_aload_n hx hb dL_law_1191 rfl (lv_at hl 3 rfl) ?_
  refine lv_aload_n hx hb dL_law_1192 rfl (lv_at hl 5 rfl) ?_
  refine lv_iload hx hb dL_law_1193 (lv_at hl 1 rfl) ?_
  refine lv_iconst (v := iI 1) hx hb dL_law_1195 rfl ?_
  refine w_iadd (z := ((i + 1 : Nat) : Int)) hx hb dL_law_1196 (by omega) ?_
  refine w_sld hx hb hX hbl hbA hS hL (i + 1) rfl (by omega) e1 dL_law_1197 ?_
  refine lv_aload_n hx hb dL_law_1198 rfl (lv_at hl 5 rfl) ?_
  refine lv_iload hx hb dL_law_1199 (lv_at hl 1 rfl) ?_
  refine lv_iconst (v := iI 2) hx hb dL_law_1201 rfl ?_
  refine w_iadd (z := ((i + 2 : Nat) : Int)) hx hb dL_law_1202 (by omega) ?_
  refine w_sld hx hb hX hbl hbA hS hL (i + 2) rfl (by omega) e2 dL_law_1203 ?_
  refine w_iV (As := [.int (iI ((a : Int))), .int (iI ((b : Int)))]) (rest := []) (wc := mw bd cI th nn mm bm tT oP sB sL sR sJ) (wf := fun u : Unit => LWW ad bd b0 cI cZ cJ nn mm tT tB tE tL oO oR oQ zS zM zN oJ 2 nn mm bm tT oP sB sL sR sJ fL) (wr := xw ad cI cZ nn mm tT tB tE tL oO oR oQ zS zM zN oJ ++ [(b0, .inl (cJ, 1, .inr (.inl (fL))))]) ⟨hx, hb, hml, hown, hts⟩ hK hP hD hS hA (mX1_pairBound_e2 hn hm ha hb7 hab) (cwV 2 hts gL_law_X1_pairBound rfl rfl rfl (by decide +kernel) ⟨Nat.le_of_ble_eq_true rfl, Nat.le_of_ble_eq_true rfl⟩) [12, 13, 14, 15, 16, 17, 18] [0, 1, 2, 3, 4, 5, 6, 7, 8, 9, 10, 11, 19] [0, 1, 2, 3, 4, 5, 6, 7, 8, 9, 10, 11, 13, 14, 15, 16, 17, 18, 19, 12] rfl rfl (by decide) (by decide) (by decide) (hwf := fun _ => rfl) (by decide) (ci := 1) rfl rfl rfl rfl hl.1 rfl (Nat.le_of_ble_eq_true rfl) dL_law_1204 ⟨hcs, hss⟩ (fun v1204 w1204 H locs hv1204 hP hD hS => ?_)
  refine w_top (v := iI 0) (hv1204) ?_
  refine lv_istore (lv' := [(6, .int (iI 0)), (5, .int (iI 2)), (4, .int (iI ((i : Nat) : Int))), (3, .ref (b0)), (2, .ref (bd 0)), (1, .ref (ad 0)), (0, .ref (bS))]) hx hb dL_law_1207 hl (by decide) rfl (fun ls hl => ?_)
  refine lv_aload_n hx hb dL_law_1209 rfl (lv_at hl 4 rfl) ?_
  refine w_pV (As := []) (rest := []) ⟨hx, hb, hml, hown, hts⟩ hK (hP.sub (ws' := mw bd cI 2 nn mm bm tT oP sB sL sR sJ) [12, 13, 14, 15, 16, 17, 18] rfl) (mX1_thrown ) (cwV 0 hts gL_law_X1_thrown rfl rfl rfl (by decide +kernel) ⟨Nat.le_of_ble_eq_true rfl, Nat.le_of_ble_eq_true rfl⟩) (ci := 1) rfl rfl rfl rfl hl.1 rfl (Nat.le_of_ble_eq_true rfl) dL_law_1210 ⟨hcs, hss⟩ (fun v1210 hv1210 => ?_)
  refine w_top (v := iI 2) (hv1210) ?_
  refine lv_iload hx hb dL_law_1213 (lv_at hl 1 rfl) ?_
  refine lv_icmp_eq (tgt := 1220) hx hb dL_law_1215 (by decide) (fun _ => ?_) (fun h9 => absurd rfl h9)
  refine lv_iload hx hb dL_law_1220 (lv_at hl 1 rfl) ?_
  refine lv_if_ne (tgt := 1237) hx hb dL_law_1222 (by decide) (fun _ => ?_) (fun h9 => absurd h9 (by decide +kernel))
  refine lv_goto (tgt := 1461) hx hb dL_law_1237 (by decide) ?_
  exact nx nn mm tT tB tE tL oO oR oQ zS zM zN oJ 2 bm oP sB sL sR sJ fL _ _ _ _ ls ⟨hn, hm, hT, hz, heq, hPm, hCK, hMb⟩ (Nat.le_refl _) (Nat.le_refl _) hP hD hS (lv_sub hl [2, 3, 4, 5, 6] rfl)
set_option maxHeartbeats 4000000 in
set_option maxRecDepth 100000 in
theorem law_21 {v : Nat} (B : L0 p s m args c sa A bS L xs D cI cZ cJ) (hMO : MO) (hl0 : l.stackTraces = false) (I : LInv nn mm tT oO oP zS zM zN oJ) (hi : i + 4 ≤ L) (hv : v ≤ 2) (e1 : xs (i + 1) = iI ((v : Int))) (hcs : cells + 1 ≤ 1053) (hss : slots + 6 ≤ 8592) (hP : va_P D vwCl (LWW ad bd b0 cI cZ cJ nn mm tT tB tE tL oO oR oQ zS zM zN oJ th nn mm bm tT oP sB sL sR sJ fL) H) (hD : va_D A (LWW ad bd b0 cI cZ cJ nn mm tT tB tE tL oO oR oQ zS zM zN oJ th nn mm bm tT oP sB sL sR sJ fL)) (hS : va_S A s.heap H locs) (hl : lv_has ls 9 [(4, .int (iI ((i : Nat) : Int))), (3, .ref (b0)), (2, .ref (bd 0)), (1, .ref (ad 0)), (0, .ref (bS))]) (nx : NX p l e s m args below meth c Q A D cI cZ cJ ad bd b0 bS i cells slots) : W p l e room_1 s m args below meth c H locs cells slots Q (F0 m 1240 ls []) := by
  obtain ⟨hx, hb, hml, hown, hts, hK, hA, hX, hbl, hbA, hFX, hSX, hCX, hL⟩ := B
  obtain ⟨hn, hm, hT, hz, heq, hPm, hCK, hMb⟩ := id I
  have hO : ∀ k, k < nn → oO k < 7 := fun k hk => Nat.lt_of_lt_of_le (hPm.1 k hk) hn
  have hOP : ∀ k, k < nn → oP k < 7 := fun k hk => by rw [← heq k hk]; exact hO k hk
  refine lv_aload_n hx hb dL_law_1240 rfl (lv_at hl 3 rfl) ?_
  refine lv_aload_n hx hb dL_law_1241 rfl (lv_at hl 4 rfl) ?_
  refine lv_iload hx hb dL_law_1242 (lv_at hl 0 rfl) ?_
  refine lv_iconst (v := iI 1) hx hb dL_law_1244 rfl ?_
  refine w_iadd (z := ((i + 1 : Nat) : Int)) hx hb dL_law_1245 (by omega) ?_
  refine w_sld hx hb hX hbl hbA hS hL (i + 1) rfl (by omega) e1 dL_law_1246 ?_
  refine lv_aload_n hx hb dL_law_1247 rfl (lv_at hl 1 rfl) ?_
  have hTX : TX sa s H := ⟨(hFX.kept hS.2.1).no, hSX, hCX⟩
  refine w_lS (As := [.ref (ad 0), .int (iI ((v : Int))), .ref (b0)]) (rest := []) (sa := sa) (wc := xw ad cI cZ nn mm tT tB tE tL oO oR oQ zS zM zN oJ ++ [(b0, .inl (cJ, 1, .inr (.inl (fL))))]) (wf := fun u : (Nat → Int) × (Nat → Int) × (Nat → Nat) × (Nat → Int) × (Nat → Int) × (Nat → Nat) × (Nat → Int) => LWW ad bd b0 cI cZ cJ nn mm tT u.1 u.2.1 tL oO u.2.2.1 oQ u.2.2.2.2.2.2 u.2.2.2.1 u.2.2.2.2.1 u.2.2.2.2.2.1 th nn mm bm tT oP sB sL sR sJ (lS fL ((sol v mm tT nn).1))) (wr := mw bd cI th nn mm bm tT oP sB sL sR sJ) ⟨hx, hb, hml, hown, hts⟩ hK hP hD hS hA hTX (hL_best hT hn hm hv (hMO.1 nn hn) hCK hMb) (vx_cwSW 3 hts gL_law_L_best rfl rfl rfl (by decide +kernel) ⟨Nat.le_of_ble_eq_true rfl, Nat.le_of_ble_eq_true rfl⟩) [0, 1, 2, 3, 4, 5, 6, 7, 8, 9, 10, 11, 19] [12, 13, 14, 15, 16, 17, 18] [7, 8, 9, 10, 11, 12, 13, 14, 15, 16, 17, 18, 0, 1, 2, 3, 4, 5, 6, 19] rfl rfl (by decide) (by decide) (by decide) (hwf := fun _ => rfl) (by decide) rfl hl.1 rfl (Nat.le_of_ble_eq_true rfl) dL_law_1248 ⟨hcs, hss⟩ (fun r1 u1 H locs hr1 hP hD hS => ?_)
  refine w_top (v := iI 0) (hr1.1) ?_
  refine lv_istore (lv' := [(5, .int (iI 0)), (4, .int (iI ((i : Nat) : Int))), (3, .ref (b0)), (2, .ref (bd 0)), (1, .ref (ad 0)), (0, .ref (bS))]) hx hb dL_law_1251 hl (by decide) rfl (fun ls hl => ?_)
  refine lv_aload_n hx hb dL_law_1253 rfl (lv_at hl 3 rfl) ?_
  refine lv_aload_n hx hb dL_law_1254 rfl (lv_at hl 5 rfl) ?_
  refine lv_iload hx hb dL_law_1255 (lv_at hl 1 rfl) ?_
  refine lv_iconst (v := iI 1) hx hb dL_law_1257 rfl ?_
  refine w_iadd (z := ((i + 1 : Nat) : Int)) hx hb dL_law_1258 (by omega) ?_
  refine w_sld hx hb hX hbl hbA hS hL (i + 1) rfl (by omega) e1 dL_law_1259 ?_
  refine w_iV (As := [.int (iI ((v : Int)))]) (rest := []) (wc := mw bd cI th nn mm bm tT oP sB sL sR sJ) (wf := fun u : (Nat → Int) × (Nat → Nat) × (Nat → Nat) => LWW ad bd b0 cI cZ cJ nn mm tT u1.1 u1.2.1 tL oO u1.2.2.1 oQ u1.2.2.2.2.2.2 u1.2.2.2.1 u1.2.2.2.2.1 u1.2.2.2.2.2.1 0 nn mm (((sol v mm tT nn).2.1 : Int)) tT oP u.1 sL u.2.1 u.2.2 (lS fL ((sol v mm tT nn).1))) (wr := xw ad cI cZ nn mm tT u1.1 u1.2.1 tL oO u1.2.2.1 oQ u1.2.2.2.2.2.2 u1.2.2.2.1 u1.2.2.2.2.1 u1.2.2.2.2.2.1 ++ [(b0, .inl (cJ, 1, .inr (.inl (lS fL ((sol v mm tT nn).1)))))]) ⟨hx, hb, hml, hown, hts⟩ hK hP hD hS hA (mX1_best hT hn hm hv (hMO.1 nn hn)) (cwV 1 hts gL_law_X1_best rfl rfl rfl (by decide +kernel) ⟨Nat.le_of_ble_eq_true rfl, Nat.le_of_ble_eq_true rfl⟩) [12, 13, 14, 15, 16, 17, 18] [0, 1, 2, 3, 4, 5, 6, 7, 8, 9, 10, 11, 19] [0, 1, 2, 3, 4, 5, 6, 7, 8, 9, 10, 11, 13, 14, 15, 16, 17, 18, 19, 12] rfl rfl (by decide) (by decide) (by decide) (hwf := fun _ => rfl) (by decide) (ci := 1) rfl rfl rfl rfl hl.1 rfl (Nat.le_of_ble_eq_true rfl) dL_law_1260 ⟨hcs, hss⟩ (fun v1260 w1260 H locs hv1260 hP hD hS => ?_)
  refine w_top (v := iI ((sol v mm tT nn).1)) (hv1260.trans (congrArg iI (rfl))) ?_
  refine lv_istore (lv' := [(6, .int (iI ((sol v mm tT nn).1))), (5, .int (iI 0)), (4, .int (iI ((i : Nat) : Int))), (3, .ref (b0)), (2, .ref (bd 0)), (1, .ref (ad 0)), (0, .ref (bS))]) hx hb dL_law_1263 hl (by decide) rfl (fun ls hl => ?_)
  refine lv_aload_n hx hb dL_law_1265 rfl (lv_at hl 4 rfl) ?_
  refine w_pV (As := []) (rest := []) ⟨hx, hb, hml, hown, hts⟩ hK (hP.sub (ws' := mw bd cI 0 nn mm (((sol v mm tT nn).2.1 : Int)) tT oP w1260.1 sL w1260.2.1 w1260.2.2) [12, 13, 14, 15, 16, 17, 18] rfl) (mX1_thrown ) (cwV 0 hts gL_law_X1_thrown rfl rfl rfl (by decide +kernel) ⟨Nat.le_of_ble_eq_true rfl, Nat.le_of_ble_eq_true rfl⟩) (ci := 1) rfl rfl rfl rfl hl.1 rfl (Nat.le_of_ble_eq_true rfl) dL_law_1266 ⟨hcs, hss⟩ (fun v1266 hv1266 => ?_)
  refine w_top (v := iI 0) (hv1266) ?_
  refine lv_iload hx hb dL_law_1269 (lv_at hl 1 rfl) ?_
  refine lv_icmp_eq (tgt := 1276) hx hb dL_law_1271 (by decide) (fun _ => ?_) (fun h9 => absurd rfl h9)
  refine lv_iload hx hb dL_law_1276 (lv_at hl 1 rfl) ?_
  refine lv_if_ne (tgt := 1293) hx hb dL_law_1278 (by decide) (fun h9 => absurd (by decide +kernel) h9) (fun _ => ?_)
  refine lv_aload_n hx hb dL_law_1281 rfl (lv_at hl 3 rfl) ?_
  refine lv_iconst (v := iI 0) hx hb dL_law_1282 rfl ?_
  refine w_lald (v := (iI ((sol v mm tT nn).1)).toInt64) hx hb hK hP 19 2 rfl rfl (lS_0 _ _) dL_law_1283 ?_
  refine lv_iload hx hb dL_law_1284 (lv_at hl 0 rfl) ?_
  refine lv_i2l (v := (iI ((sol v mm tT nn).1)).toInt64) hx hb dL_law_1286 rfl ?_
  refine w_lcmpE hx hb dL_law_1287 ?_
  refine lv_if_eq (tgt := 1293) hx hb dL_law_1288 (by decide) (fun _ => ?_) (fun h9 => absurd rfl h9)
  refine lv_goto (tgt := 1461) hx hb dL_law_1293 (by decide) ?_
  exact nx nn mm tT u1.1 u1.2.1 tL oO u1.2.2.1 oQ u1.2.2.2.2.2.2 u1.2.2.2.1 u1.2.2.2.2.1 u1.2.2.2.2.2.1 0 (((sol v mm tT nn).2.1 : Int)) oP w1260.1 sL w1260.2.1 w1260.2.2 (lS fL ((sol v mm tT nn).1)) _ _ _ _ ls ⟨hn, hm, hT, hz, heq, hPm, hr1.2.1, hr1.2.2⟩ (Nat.le_refl _) (Nat.le_refl _) hP hD hS (lv_sub hl [2, 3, 4, 5, 6] rfl)
set_option maxHeartbeats 4000000 in
set_option maxRecDepth 100000 in
theorem law_21t {x : Int} (B : L0 p s m args c sa A bS L xs D cI cZ cJ) (hMO : MO) (hl0 : l.stackTraces = false) (I : LInv nn mm tT oO oP zS zM zN oJ) (hi : i + 4 ≤ L) (hr9 : -2147483648 ≤ x ∧ x ≤ 2147483647) (hbad : ¬ (0 ≤ x ∧ x ≤ 2)) (e1 : xs (i + 1) = iI (x)) (hcs : cells + 1 ≤ 1053) (hss : slots + 6 ≤ 8592) (hP : va_P D vwCl (LWW ad bd b0 cI cZ cJ nn mm tT tB tE tL oO oR oQ zS zM zN oJ th nn mm bm tT oP sB sL sR sJ fL) H) (hD : va_D A (LWW ad bd b0 cI cZ cJ nn mm tT tB tE tL oO oR oQ zS zM zN oJ th nn mm bm tT oP sB sL sR sJ fL)) (hS : va_S A s.heap H locs) (hl : lv_has ls 9 [(4, .int (iI ((i : Nat) : Int))), (3, .ref (b0)), (2, .ref (bd 0)), (1, .ref (ad 0)), (0, .ref (bS))]) (nx : NX p l e s m args below meth c Q A D cI cZ cJ ad bd b0 bS i cells slots) : W p l e room_1 s m args below meth c H locs cells slots Q (F0 m 1240 ls []) := by
  obtain ⟨hx, hb, hml, hown, hts, hK, hA, hX, hbl, hbA, hFX, hSX, hCX, hL⟩ := B
  obtain ⟨hn, hm, hT, hz, heq, hPm, hCK, hMb⟩ := id I
  have hO : ∀ k, k < nn → oO k < 7 := fun k hk => Nat.lt_of_lt_of_le (hPm.1 k hk) hn
  have hOP : ∀ k, k < nn → oP k < 7 := fun k hk => by rw [← heq k hk]; exact hO k hk
  refine lv_aload_n hx hb dL_law_1240 rfl (lv_at hl 3 rfl) ?_
  refine lv_aload_n hx hb dL_law_1241 rfl (lv_at hl 4 rfl) ?_
  refine lv_iload hx hb dL_law_1242 (lv_at hl 0 rfl) ?_
  refine lv_iconst (v := iI 1) hx hb dL_law_1244 rfl ?_
  refine w_iadd (z := ((i + 1 : Nat) : Int)) hx hb dL_law_1245 (by omega) ?_
  refine w_sld hx hb hX hbl hbA hS hL (i + 1) rfl (by omega) e1 dL_law_1246 ?_
  refine lv_aload_n hx hb dL_law_1247 rfl (lv_at hl 1 rfl) ?_
  have hTX : TX sa s H := ⟨(hFX.kept hS.2.1).no, hSX, hCX⟩
  refine w_lS (As := [.ref (ad 0), .int (iI (x)), .ref (b0)]) (rest := []) (sa := sa) (wc := xw ad cI cZ nn mm tT tB tE tL oO oR oQ zS zM zN oJ ++ [(b0, .inl (cJ, 1, .inr (.inl (fL))))]) (wf := fun u : Unit => LWW ad bd b0 cI cZ cJ nn mm tT tB tE tL oO oR oQ zS zM zN oJ th nn mm bm tT oP sB sL sR sJ fL) (wr := mw bd cI th nn mm bm tT oP sB sL sR sJ) ⟨hx, hb, hml, hown, hts⟩ hK hP hD hS hA hTX (hL_best_t hl0 hr9 hbad) (vx_cwSW 3 hts gL_law_L_best rfl rfl rfl (by decide +kernel) ⟨Nat.le_of_ble_eq_true rfl, Nat.le_of_ble_eq_true rfl⟩) [0, 1, 2, 3, 4, 5, 6, 7, 8, 9, 10, 11, 19] [12, 13, 14, 15, 16, 17, 18] [7, 8, 9, 10, 11, 12, 13, 14, 15, 16, 17, 18, 0, 1, 2, 3, 4, 5, 6, 19] rfl rfl (by decide) (by decide) (by decide) (hwf := fun _ => rfl) (by decide) rfl hl.1 rfl (Nat.le_of_ble_eq_true rfl) dL_law_1248 ⟨hcs, hss⟩ (fun r1 u1 H locs hr1 hP hD hS => ?_)
  refine w_top (v := iI 1) (hr1) ?_
  refine lv_istore (lv' := [(5, .int (iI 1)), (4, .int (iI ((i : Nat) : Int))), (3, .ref (b0)), (2, .ref (bd 0)), (1, .ref (ad 0)), (0, .ref (bS))]) hx hb dL_law_1251 hl (by decide) rfl (fun ls hl => ?_)
  refine lv_aload_n hx hb dL_law_1253 rfl (lv_at hl 3 rfl) ?_
  refine lv_aload_n hx hb dL_law_1254 rfl (lv_at hl 5 rfl) ?_
  refine lv_iload hx hb dL_law_1255 (lv_at hl 1 rfl) ?_
  refine lv_iconst (v := iI 1) hx hb dL_law_1257 rfl ?_
  refine w_iadd (z := ((i + 1 : Nat) : Int)) hx hb dL_law_1258 (by omega) ?_
  refine w_sld hx hb hX hbl hbA hS hL (i + 1) rfl (by omega) e1 dL_law_1259 ?_
  refine w_iV (As := [.int (iI (x))]) (rest := []) (wc := mw bd cI th nn mm bm tT oP sB sL sR sJ) (wf := fun u : Unit => LWW ad bd b0 cI cZ cJ nn mm tT tB tE tL oO oR oQ zS zM zN oJ 1 nn mm bm tT oP sB sL sR sJ fL) (wr := xw ad cI cZ nn mm tT tB tE tL oO oR oQ zS zM zN oJ ++ [(b0, .inl (cJ, 1, .inr (.inl (fL))))]) ⟨hx, hb, hml, hown, hts⟩ hK hP hD hS hA (mX1_best_e hr9 hbad) (cwV 1 hts gL_law_X1_best rfl rfl rfl (by decide +kernel) ⟨Nat.le_of_ble_eq_true rfl, Nat.le_of_ble_eq_true rfl⟩) [12, 13, 14, 15, 16, 17, 18] [0, 1, 2, 3, 4, 5, 6, 7, 8, 9, 10, 11, 19] [0, 1, 2, 3, 4, 5, 6, 7, 8, 9, 10, 11, 13, 14, 15, 16, 17, 18, 19, 12] rfl rfl (by decide) (by decide) (by decide) (hwf := fun _ => rfl) (by decide) (ci := 1) rfl rfl rfl rfl hl.1 rfl (Nat.le_of_ble_eq_true rfl) dL_law_1260 ⟨hcs, hss⟩ (fun v1260 w1260 H locs hv1260 hP hD hS => ?_)
  refine w_top (v := iI 0) (hv1260) ?_
  refine lv_istore (lv' := [(6, .int (iI 0)), (5, .int (iI 1)), (4, .int (iI ((i : Nat) : Int))), (3, .ref (b0)), (2, .ref (bd 0)), (1, .ref (ad 0)), (0, .ref (bS))]) hx hb dL_law_1263 hl (by decide) rfl (fun ls hl => ?_)
  refine lv_aload_n hx hb dL_law_1265 rfl (lv_at hl 4 rfl) ?_
  refine w_pV (As := []) (rest := []) ⟨hx, hb, hml, hown, hts⟩ hK (hP.sub (ws' := mw bd cI 1 nn mm bm tT oP sB sL sR sJ) [12, 13, 14, 15, 16, 17, 18] rfl) (mX1_thrown ) (cwV 0 hts gL_law_X1_thrown rfl rfl rfl (by decide +kernel) ⟨Nat.le_of_ble_eq_true rfl, Nat.le_of_ble_eq_true rfl⟩) (ci := 1) rfl rfl rfl rfl hl.1 rfl (Nat.le_of_ble_eq_true rfl) dL_law_1266 ⟨hcs, hss⟩ (fun v1266 hv1266 => ?_)
  refine w_top (v := iI 1) (hv1266) ?_
  refine lv_iload hx hb dL_law_1269 (lv_at hl 1 rfl) ?_
  refine lv_icmp_eq (tgt := 1276) hx hb dL_law_1271 (by decide) (fun _ => ?_) (fun h9 => absurd rfl h9)
  refine lv_iload hx hb dL_law_1276 (lv_at hl 1 rfl) ?_
  refine lv_if_ne (tgt := 1293) hx hb dL_law_1278 (by decide) (fun _ => ?_) (fun h9 => absurd h9 (by decide +kernel))
  refine lv_goto (tgt := 1461) hx hb dL_law_1293 (by decide) ?_
  exact nx nn mm tT tB tE tL oO oR oQ zS zM zN oJ 1 bm oP sB sL sR sJ fL _ _ _ _ ls ⟨hn, hm, hT, hz, heq, hPm, hCK, hMb⟩ (Nat.le_refl _) (Nat.le_refl _) hP hD hS (lv_sub hl [2, 3, 4, 5, 6] rfl)
set_option maxHeartbeats 4000000 in
set_option maxRecDepth 100000 in
theorem law_22 {v q : Nat} (B : L0 p s m args c sa A bS L xs D cI cZ cJ) (hMO : MO) (hl0 : l.stackTraces = false) (I : LInv nn mm tT oO oP zS zM zN oJ) (hi : i + 4 ≤ L) (hv : v ≤ 2) (hq : q < nn) (e1 : xs (i + 1) = iI ((v : Int))) (e2 : xs (i + 2) = iI ((q : Int))) (hcs : cells + 1 ≤ 1053) (hss : slots + 6 ≤ 8592) (hP : va_P D vwCl (LWW ad bd b0 cI cZ cJ nn mm tT tB tE tL oO oR oQ zS zM zN oJ th nn mm bm tT oP sB sL sR sJ fL) H) (hD : va_D A (LWW ad bd b0 cI cZ cJ nn mm tT tB tE tL oO oR oQ zS zM zN oJ th nn mm bm tT oP sB sL sR sJ fL)) (hS : va_S A s.heap H locs) (hl : lv_has ls 9 [(4, .int (iI ((i : Nat) : Int))), (3, .ref (b0)), (2, .ref (bd 0)), (1, .ref (ad 0)), (0, .ref (bS))]) (nx : NX p l e s m args below meth c Q A D cI cZ cJ ad bd b0 bS i cells slots) : W p l e room_1 s m args below meth c H locs cells slots Q (F0 m 1296 ls []) := by
  obtain ⟨hx, hb, hml, hown, hts, hK, hA, hX, hbl, hbA, hFX, hSX, hCX, hL⟩ := B
  obtain ⟨hn, hm, hT, hz, heq, hPm, hCK, hMb⟩ := id I
  have hO : ∀ k, k < nn → oO k < 7 := fun k hk => Nat.lt_of_lt_of_le (hPm.1 k hk) hn
  have hOP : ∀ k, k < nn → oP k < 7 := fun k hk => by rw [← heq k hk]; exact hO k hk
  refine lv_aload_n hx hb dL_law_1296 rfl (lv_at hl 3 rfl) ?_
  refine lv_aload_n hx hb dL_law_1297 rfl (lv_at hl 4 rfl) ?_
  refine lv_iload hx hb dL_law_1298 (lv_at hl 0 rfl) ?_
  refine lv_iconst (v := iI 1) hx hb dL_law_1300 rfl ?_
  refine w_iadd (z := ((i + 1 : Nat) : Int)) hx hb dL_law_1301 (by omega) ?_
  refine w_sld hx hb hX hbl hbA hS hL (i + 1) rfl (by omega) e1 dL_law_1302 ?_
  refine lv_aload_n hx hb dL_law_1303 rfl (lv_at hl 4 rfl) ?_
  refine lv_iload hx hb dL_law_1304 (lv_at hl 0 rfl) ?_
  refine lv_iconst (v := iI 2) hx hb dL_law_1306 rfl ?_
  refine w_iadd (z := ((i + 2 : Nat) : Int)) hx hb dL_law_1307 (by omega) ?_
  refine w_sld hx hb hX hbl hbA hS hL (i + 2) rfl (by omega) e2 dL_law_1308 ?_
  refine lv_aload_n hx hb dL_law_1309 rfl (lv_at hl 1 rfl) ?_
  have hTX : TX sa s H := ⟨(hFX.kept hS.2.1).no, hSX, hCX⟩
  refine w_lS (As := [.ref (ad 0), .int (iI ((v : Int))), .int (iI ((q : Int))), .ref (b0)]) (rest := []) (sa := sa) (wc := xw ad cI cZ nn mm tT tB tE tL oO oR oQ zS zM zN oJ ++ [(b0, .inl (cJ, 1, .inr (.inl (fL))))]) (wf := fun u : (Nat → Int) × (Nat → Int) × (Nat → Nat) × (Nat → Int) × (Nat → Int) × (Nat → Nat) × (Nat → Int) => LWW ad bd b0 cI cZ cJ nn mm tT u.1 u.2.1 tL oO u.2.2.1 oQ u.2.2.2.2.2.2 u.2.2.2.1 u.2.2.2.2.1 u.2.2.2.2.2.1 th nn mm bm tT oP sB sL sR sJ (lS fL ((solJ v mm tT nn q : Nat) : Int))) (wr := mw bd cI th nn mm bm tT oP sB sL sR sJ) ⟨hx, hb, hml, hown, hts⟩ hK hP hD hS hA hTX (hL_bestAt hT hn hm hv hq (hMO.1 nn hn) hCK hMb) (vx_cwSW 4 hts gL_law_L_bestAt rfl rfl rfl (by decide +kernel) ⟨Nat.le_of_ble_eq_true rfl, Nat.le_of_ble_eq_true rfl⟩) [0, 1, 2, 3, 4, 5, 6, 7, 8, 9, 10, 11, 19] [12, 13, 14, 15, 16, 17, 18] [7, 8, 9, 10, 11, 12, 13, 14, 15, 16, 17, 18, 0, 1, 2, 3, 4, 5, 6, 19] rfl rfl (by decide) (by decide) (by decide) (hwf := fun _ => rfl) (by decide) rfl hl.1 rfl (Nat.le_of_ble_eq_true rfl) dL_law_1310 ⟨hcs, hss⟩ (fun r1 u1 H locs hr1 hP hD hS => ?_)
  refine w_top (v := iI 0) (hr1.1) ?_
  refine lv_istore (lv' := [(5, .int (iI 0)), (4, .int (iI ((i : Nat) : Int))), (3, .ref (b0)), (2, .ref (bd 0)), (1, .ref (ad 0)), (0, .ref (bS))]) hx hb dL_law_1313 hl (by decide) rfl (fun ls hl => ?_)
  refine lv_aload_n hx hb dL_law_1315 rfl (lv_at hl 3 rfl) ?_
  refine lv_aload_n hx hb dL_law_1316 rfl (lv_at hl 5 rfl) ?_
  refine lv_iload hx hb dL_law_1317 (lv_at hl 1 rfl) ?_
  refine lv_iconst (v := iI 1) hx hb dL_law_1319 rfl ?_
  refine w_iadd (z := ((i + 1 : Nat) : Int)) hx hb dL_law_1320 (by omega) ?_
  refine w_sld hx hb hX hbl hbA hS hL (i + 1) rfl (by omega) e1 dL_law_1321 ?_
  refine lv_aload_n hx hb dL_law_1322 rfl (lv_at hl 5 rfl) ?_
  refine lv_iload hx hb dL_law_1323 (lv_at hl 1 rfl) ?_
  refine lv_iconst (v := iI 2) hx hb dL_law_1325 rfl ?_
  refine w_iadd (z := ((i + 2 : Nat) : Int)) hx hb dL_law_1326 (by omega) ?_
  refine w_sld hx hb hX hbl hbA hS hL (i + 2) rfl (by omega) e2 dL_law_1327 ?_
  refine w_iV (As := [.int (iI ((v : Int))), .int (iI ((q : Int)))]) (rest := []) (wc := mw bd cI th nn mm bm tT oP sB sL sR sJ) (wf := fun u : (Nat → Int) × (Nat → Nat) × (Nat → Nat) => LWW ad bd b0 cI cZ cJ nn mm tT u1.1 u1.2.1 tL oO u1.2.2.1 oQ u1.2.2.2.2.2.2 u1.2.2.2.1 u1.2.2.2.2.1 u1.2.2.2.2.2.1 0 nn mm (((sol v mm tT nn).2.1 : Int)) tT oP u.1 sL u.2.1 u.2.2 (lS fL ((solJ v mm tT nn q : Nat) : Int))) (wr := xw ad cI cZ nn mm tT u1.1 u1.2.1 tL oO u1.2.2.1 oQ u1.2.2.2.2.2.2 u1.2.2.2.1 u1.2.2.2.2.1 u1.2.2.2.2.2.1 ++ [(b0, .inl (cJ, 1, .inr (.inl (lS fL ((solJ v mm tT nn q : Nat) : Int)))))]) ⟨hx, hb, hml, hown, hts⟩ hK hP hD hS hA (mX1_bestAt hT hn hm hv (hMO.1 nn hn) hq) (cwV 2 hts gL_law_X1_bestAt rfl rfl rfl (by decide +kernel) ⟨Nat.le_of_ble_eq_true rfl, Nat.le_of_ble_eq_true rfl⟩) [12, 13, 14, 15, 16, 17, 18] [0, 1, 2, 3, 4, 5, 6, 7, 8, 9, 10, 11, 19] [0, 1, 2, 3, 4, 5, 6, 7, 8, 9, 10, 11, 13, 14, 15, 16, 17, 18, 19, 12] rfl rfl (by decide) (by decide) (by decide) (hwf := fun _ => rfl) (by decide) (ci := 1) rfl rfl rfl rfl hl.1 rfl (Nat.le_of_ble_eq_true rfl) dL_law_1328 ⟨hcs, hss⟩ (fun v1328 w1328 H locs hv1328 hP hD hS => ?_)
  refine w_top (v := iI ((solJ v mm tT nn q : Nat) : Int)) (hv1328.trans (congrArg iI (rfl))) ?_
  refine lv_istore (lv' := [(6, .int (iI ((solJ v mm tT nn q : Nat) : Int))), (5, .int (iI 0)), (4, .int (iI ((i : Nat) : Int))), (3, .ref (b0)), (2, .ref (bd 0)), (1, .ref (ad 0)), (0, .ref (bS))]) hx hb dL_law_1331 hl (by decide) rfl (fun ls hl => ?_)
  refine lv_aload_n hx hb dL_law_1333 rfl (lv_at hl 4 rfl) ?_
  refine w_pV (As := []) (rest := []) ⟨hx, hb, hml, hown, hts⟩ hK (hP.sub (ws' := mw bd cI 0 nn mm (((sol v mm tT nn).2.1 : Int)) tT oP w1328.1 sL w1328.2.1 w1328.2.2) [12, 13, 14, 15, 16, 17, 18] rfl) (mX1_thrown ) (cwV 0 hts gL_law_X1_thrown rfl rfl rfl (by decide +kernel) ⟨Nat.le_of_ble_eq_true rfl, Nat.le_of_ble_eq_true rfl⟩) (ci := 1) rfl rfl rfl rfl hl.1 rfl (Nat.le_of_ble_eq_true rfl) dL_law_1334 ⟨hcs, hss⟩ (fun v1334 hv1334 => ?_)
  refine w_top (v := iI 0) (hv1334) ?_
  refine lv_iload hx hb dL_law_1337 (lv_at hl 1 rfl) ?_
  refine lv_icmp_eq (tgt := 1344) hx hb dL_law_1339 (by decide) (fun _ => ?_) (fun h9 => absurd rfl h9)
  refine lv_iload hx hb dL_law_1344 (lv_at hl 1 rfl) ?_
  refine lv_if_ne (tgt := 1361) hx hb dL_law_1346 (by decide) (fun h9 => absurd (by decide +kernel) h9) (fun _ => ?_)
  refine lv_aload_n hx hb dL_law_1349 rfl (lv_at hl 3 rfl) ?_
  refine lv_iconst (v := iI 0) hx hb dL_law_1350 rfl ?_
  refine w_lald (v := (iI ((solJ v mm tT nn q : Nat) : Int)).toInt64) hx hb hK hP 19 2 rfl rfl (lS_0 _ _) dL_law_1351 ?_
  refine lv_iload hx hb dL_law_1352 (lv_at hl 0 rfl) ?_
  refine lv_i2l (v := (iI ((solJ v mm tT nn q : Nat) : Int)).toInt64) hx hb dL_law_1354 rfl ?_
  refine w_lcmpE hx hb dL_law_1355 ?_
  refine lv_if_eq (tgt := 1361) hx hb dL_law_1356 (by decide) (fun _ => ?_) (fun h9 => absurd rfl h9)
  refine lv_goto (tgt := 1461) hx hb dL_law_1361 (by decide) ?_
  exact nx nn mm tT u1.1 u1.2.1 tL oO u1.2.2.1 oQ u1.2.2.2.2.2.2 u1.2.2.2.1 u1.2.2.2.2.1 u1.2.2.2.2.2.1 0 (((sol v mm tT nn).2.1 : Int)) oP w1328.1 sL w1328.2.1 w1328.2.2 (lS fL ((solJ v mm tT nn q : Nat) : Int)) _ _ _ _ ls ⟨hn, hm, hT, hz, heq, hPm, hr1.2.1, hr1.2.2⟩ (Nat.le_refl _) (Nat.le_refl _) hP hD hS (lv_sub hl [2, 3, 4, 5, 6] rfl)
set_option maxHeartbeats 4000000 in
set_option maxRecDepth 100000 in
theorem law_22t {x y : Int} (B : L0 p s m args c sa A bS L xs D cI cZ cJ) (hMO : MO) (hl0 : l.stackTraces = false) (I : LInv nn mm tT oO oP zS zM zN oJ) (hi : i + 4 ≤ L) (hr9 : -2147483648 ≤ x ∧ x ≤ 2147483647) (hbad : ¬ (0 ≤ x ∧ x ≤ 2)) (e1 : xs (i + 1) = iI (x)) (e2 : xs (i + 2) = iI (y)) (hcs : cells + 1 ≤ 1053) (hss : slots + 6 ≤ 8592) (hP : va_P D vwCl (LWW ad bd b0 cI cZ cJ nn mm tT tB tE tL oO oR oQ zS zM zN oJ th nn mm bm tT oP sB sL sR sJ fL) H) (hD : va_D A (LWW ad bd b0 cI cZ cJ nn mm tT tB tE tL oO oR oQ zS zM zN oJ th nn mm bm tT oP sB sL sR sJ fL)) (hS : va_S A s.heap H locs) (hl : lv_has ls 9 [(4, .int (iI ((i : Nat) : Int))), (3, .ref (b0)), (2, .ref (bd 0)), (1, .ref (ad 0)), (0, .ref (bS))]) (nx : NX p l e s m args below meth c Q A D cI cZ cJ ad bd b0 bS i cells slots) : W p l e room_1 s m args below meth c H locs cells slots Q (F0 m 1296 ls []) := by
  obtain ⟨hx, hb, hml, hown, hts, hK, hA, hX, hbl, hbA, hFX, hSX, hCX, hL⟩ := B
  obtain ⟨hn, hm, hT, hz, heq, hPm, hCK, hMb⟩ := id I
  have hO : ∀ k, k < nn → oO k < 7 := fun k hk => Nat.lt_of_lt_of_le (hPm.1 k hk) hn
  have hOP : ∀ k, k < nn → oP k < 7 := fun k hk => by rw [← heq k hk]; exact hO k hk
  refine lv_aload_n hx hb dL_law_1296 rfl (lv_at hl 3 rfl) ?_
  refine lv_aload_n hx hb dL_law_1297 rfl (lv_at hl 4 rfl) ?_
  refine lv_iload hx hb dL_law_1298 (lv_at hl 0 rfl) ?_
  refine lv_iconst (v := iI 1) hx hb dL_law_1300 rfl ?_
  refine w_iadd (z := ((i + 1 : Nat) : Int)) hx hb dL_law_1301 (by omega) ?_
  refine w_sld hx hb hX hbl hbA hS hL (i + 1) rfl (by omega) e1 dL_law_1302 ?_
  refine lv_aload_n hx hb dL_law_1303 rfl (lv_at hl 4 rfl) ?_
  refine lv_iload hx hb dL_law_1304 (lv_at hl 0 rfl) ?_
  refine lv_iconst (v := iI 2) hx hb dL_law_1306 rfl ?_
  refine w_iadd (z := ((i + 2 : Nat) : Int)) hx hb dL_law_1307 (by omega) ?_
  refine w_sld hx hb hX hbl hbA hS hL (i + 2) rfl (by omega) e2 dL_law_1308 ?_
  refine lv_aload_n hx hb dL_law_1309 rfl (lv_at hl 1 rfl) ?_
  have hTX : TX sa s H := ⟨(hFX.kept hS.2.1).no, hSX, hCX⟩
  refine w_lS (As := [.ref (ad 0), .int (iI (x)), .int (iI (y)), .ref (b0)]) (rest := []) (sa := sa) (wc := xw ad cI cZ nn mm tT tB tE tL oO oR oQ zS zM zN oJ ++ [(b0, .inl (cJ, 1, .inr (.inl (fL))))]) (wf := fun u : Unit => LWW ad bd b0 cI cZ cJ nn mm tT tB tE tL oO oR oQ zS zM zN oJ th nn mm bm tT oP sB sL sR sJ fL) (wr := mw bd cI th nn mm bm tT oP sB sL sR sJ) ⟨hx, hb, hml, hown, hts⟩ hK hP hD hS hA hTX (hL_bestAt_1_t hl0 hr9 hbad) (vx_cwSW 4 hts gL_law_L_bestAt rfl rfl rfl (by decide +kernel) ⟨Nat.le_of_ble_eq_true rfl, Nat.le_of_ble_eq_true rfl⟩) [0, 1, 2, 3, 4, 5, 6, 7, 8, 9, 10, 11, 19] [12, 13, 14, 15, 16, 17, 18] [7, 8, 9, 10, 11, 12, 13, 14, 15, 16, 17, 18, 0, 1, 2, 3, 4, 5, 6, 19] rfl rfl (by decide) (by decide) (by decide) (hwf := fun _ => rfl) (by decide) rfl hl.1 rfl (Nat.le_of_ble_eq_true rfl) dL_law_1310 ⟨hcs, hss⟩ (fun r1 u1 H locs hr1 hP hD hS => ?_)
  refine w_top (v := iI 1) (hr1) ?_
  refine lv_istore (lv' := [(5, .int (iI 1)), (4, .int (iI ((i : Nat) : Int))), (3, .ref (b0)), (2, .ref (bd 0)), (1, .ref (ad 0)), (0, .ref (bS))]) hx hb dL_law_1313 hl (by decide) rfl (fun ls hl => ?_)
  refine lv_aload_n hx hb dL_law_1315 rfl (lv_at hl 3 rfl) ?_
  refine lv_aload_n hx hb dL_law_1316 rfl (lv_at hl 5 rfl) ?_
  refine lv_iload hx hb dL_law_1317 (lv_at hl 1 rfl) ?_
  refine lv_iconst (v := iI 1) hx hb dL_law_1319 rfl ?_
  refine w_iadd (z := ((i + 1 : Nat) : Int)) hx hb dL_law_1320 (by omega) ?_
  refine w_sld hx hb hX hbl hbA hS hL (i + 1) rfl (by omega) e1 dL_law_1321 ?_
  refine lv_aload_n hx hb dL_law_1322 rfl (lv_at hl 5 rfl) ?_
  refine lv_iload hx hb dL_law_1323 (lv_at hl 1 rfl) ?_
  refine lv_iconst (v := iI 2) hx hb dL_law_1325 rfl ?_
  refine w_iadd (z := ((i + 2 : Nat) : Int)) hx hb dL_law_1326 (by omega) ?_
  refine w_sld hx hb hX hbl hbA hS hL (i + 2) rfl (by omega) e2 dL_law_1327 ?_
  refine w_iV (As := [.int (iI (x)), .int (iI (y))]) (rest := []) (wc := mw bd cI th nn mm bm tT oP sB sL sR sJ) (wf := fun u : Unit => LWW ad bd b0 cI cZ cJ nn mm tT tB tE tL oO oR oQ zS zM zN oJ 1 nn mm bm tT oP sB sL sR sJ fL) (wr := xw ad cI cZ nn mm tT tB tE tL oO oR oQ zS zM zN oJ ++ [(b0, .inl (cJ, 1, .inr (.inl (fL))))]) ⟨hx, hb, hml, hown, hts⟩ hK hP hD hS hA (mX1_bestAt_e1 hr9 hbad) (cwV 2 hts gL_law_X1_bestAt rfl rfl rfl (by decide +kernel) ⟨Nat.le_of_ble_eq_true rfl, Nat.le_of_ble_eq_true rfl⟩) [12, 13, 14, 15, 16, 17, 18] [0, 1, 2, 3, 4, 5, 6, 7, 8, 9, 10, 11, 19] [0, 1, 2, 3, 4, 5, 6, 7, 8, 9, 10, 11, 13, 14, 15, 16, 17, 18, 19, 12] rfl rfl (by decide) (by decide) (by decide) (hwf := fun _ => rfl) (by decide) (ci := 1) rfl rfl rfl rfl hl.1 rfl (Nat.le_of_ble_eq_true rfl) dL_law_1328 ⟨hcs, hss⟩ (fun v1328 w1328 H locs hv1328 hP hD hS => ?_)
  refine w_top (v := iI 0) (hv1328) ?_
  refine lv_istore (lv' := [(6, .int (iI 0)), (5, .int (iI 1)), (4, .int (iI ((i : Nat) : Int))), (3, .ref (b0)), (2, .ref (bd 0)), (1, .ref (ad 0)), (0, .ref (bS))]) hx hb dL_law_1331 hl (by decide) rfl (fun ls hl => ?_)
  refine lv_aload_n hx hb dL_law_1333 rfl (lv_at hl 4 rfl) ?_
  refine w_pV (As := []) (rest := []) ⟨hx, hb, hml, hown, hts⟩ hK (hP.sub (ws' := mw bd cI 1 nn mm bm tT oP sB sL sR sJ) [12, 13, 14, 15, 16, 17, 18] rfl) (mX1_thrown ) (cwV 0 hts gL_law_X1_thrown rfl rfl rfl (by decide +kernel) ⟨Nat.le_of_ble_eq_true rfl, Nat.le_of_ble_eq_true rfl⟩) (ci := 1) rfl rfl rfl rfl hl.1 rfl (Nat.le_of_ble_eq_true rfl) dL_law_1334 ⟨hcs, hss⟩ (fun v1334 hv1334 => ?_)
  refine w_top (v := iI 1) (hv1334) ?_
  refine lv_iload hx hb dL_law_1337 (lv_at hl 1 rfl) ?_
  refine lv_icmp_eq (tgt := 1344) hx hb dL_law_1339 (by decide) (fun _ => ?_) (fun h9 => absurd rfl h9)
  refine lv_iload hx hb dL_law_1344 (lv_at hl 1 rfl) ?_
  refine lv_if_ne (tgt := 1361) hx hb dL_law_1346 (by decide) (fun _ => ?_) (fun h9 => absurd h9 (by decide +kernel))
  refine lv_goto (tgt := 1461) hx hb dL_law_1361 (by decide) ?_
  exact nx nn mm tT tB tE tL oO oR oQ zS zM zN oJ 1 bm oP sB sL sR sJ fL _ _ _ _ ls ⟨hn, hm, hT, hz, heq, hPm, hCK, hMb⟩ (Nat.le_refl _) (Nat.le_refl _) hP hD hS (lv_sub hl [2, 3, 4, 5, 6] rfl)
set_option maxHeartbeats 4000000 in
set_option maxRecDepth 100000 in
theorem law_22u {v : Nat} {x : Int} (B : L0 p s m args c sa A bS L xs D cI cZ cJ) (hMO : MO) (hl0 : l.stackTraces = false) (I : LInv nn mm tT oO oP zS zM zN oJ) (hi : i + 4 ≤ L) (hv : v ≤ 2) (hr9 : -2147483648 ≤ x ∧ x ≤ 2147483647) (hbad : ¬ (0 ≤ x ∧ x < (nn : Int))) (e1 : xs (i + 1) = iI ((v : Int))) (e2 : xs (i + 2) = iI (x)) (hcs : cells + 1 ≤ 1053) (hss : slots + 6 ≤ 8592) (hP : va_P D vwCl (LWW ad bd b0 cI cZ cJ nn mm tT tB tE tL oO oR oQ zS zM zN oJ th nn mm bm tT oP sB sL sR sJ fL) H) (hD : va_D A (LWW ad bd b0 cI cZ cJ nn mm tT tB tE tL oO oR oQ zS zM zN oJ th nn mm bm tT oP sB sL sR sJ fL)) (hS : va_S A s.heap H locs) (hl : lv_has ls 9 [(4, .int (iI ((i : Nat) : Int))), (3, .ref (b0)), (2, .ref (bd 0)), (1, .ref (ad 0)), (0, .ref (bS))]) (nx : NX p l e s m args below meth c Q A D cI cZ cJ ad bd b0 bS i cells slots) : W p l e room_1 s m args below meth c H locs cells slots Q (F0 m 1296 ls []) := by
  obtain ⟨hx, hb, hml, hown, hts, hK, hA, hX, hbl, hbA, hFX, hSX, hCX, hL⟩ := B
  obtain ⟨hn, hm, hT, hz, heq, hPm, hCK, hMb⟩ := id I
  have hO : ∀ k, k < nn → oO k < 7 := fun k hk => Nat.lt_of_lt_of_le (hPm.1 k hk) hn
  have hOP : ∀ k, k < nn → oP k < 7 := fun k hk => by rw [← heq k hk]; exact hO k hk
  refine lv_aload_n hx hb dL_law_1296 rfl (lv_at hl 3 rfl) ?_
  refine lv_aload_n hx hb dL_law_1297 rfl (lv_at hl 4 rfl) ?_
  refine lv_iload hx hb dL_law_1298 (lv_at hl 0 rfl) ?_
  refine lv_iconst (v := iI 1) hx hb dL_law_1300 rfl ?_
  refine w_iadd (z := ((i + 1 : Nat) : Int)) hx hb dL_law_1301 (by omega) ?_
  refine w_sld hx hb hX hbl hbA hS hL (i + 1) rfl (by omega) e1 dL_law_1302 ?_
  refine lv_aload_n hx hb dL_law_1303 rfl (lv_at hl 4 rfl) ?_
  refine lv_iload hx hb dL_law_1304 (lv_at hl 0 rfl) ?_
  refine lv_iconst (v := iI 2) hx hb dL_law_1306 rfl ?_
  refine w_iadd (z := ((i + 2 : Nat) : Int)) hx hb dL_law_1307 (by omega) ?_
  refine w_sld hx hb hX hbl hbA hS hL (i + 2) rfl (by omega) e2 dL_law_1308 ?_
  refine lv_aload_n hx hb dL_law_1309 rfl (lv_at hl 1 rfl) ?_
  have hTX : TX sa s H := ⟨(hFX.kept hS.2.1).no, hSX, hCX⟩
  refine w_lS (As := [.ref (ad 0), .int (iI ((v : Int))), .int (iI (x)), .ref (b0)]) (rest := []) (sa := sa) (wc := xw ad cI cZ nn mm tT tB tE tL oO oR oQ zS zM zN oJ ++ [(b0, .inl (cJ, 1, .inr (.inl (fL))))]) (wf := fun u : Unit => LWW ad bd b0 cI cZ cJ nn mm tT tB tE tL oO oR oQ zS zM zN oJ th nn mm bm tT oP sB sL sR sJ fL) (wr := mw bd cI th nn mm bm tT oP sB sL sR sJ) ⟨hx, hb, hml, hown, hts⟩ hK hP hD hS hA hTX (hL_bestAt_2_t hl0 hn hm hv hr9 hbad) (vx_cwSW 4 hts gL_law_L_bestAt rfl rfl rfl (by decide +kernel) ⟨Nat.le_of_ble_eq_true rfl, Nat.le_of_ble_eq_true rfl⟩) [0, 1, 2, 3, 4, 5, 6, 7, 8, 9, 10, 11, 19] [12, 13, 14, 15, 16, 17, 18] [7, 8, 9, 10, 11, 12, 13, 14, 15, 16, 17, 18, 0, 1, 2, 3, 4, 5, 6, 19] rfl rfl (by decide) (by decide) (by decide) (hwf := fun _ => rfl) (by decide) rfl hl.1 rfl (Nat.le_of_ble_eq_true rfl) dL_law_1310 ⟨hcs, hss⟩ (fun r1 u1 H locs hr1 hP hD hS => ?_)
  refine w_top (v := iI 2) (hr1) ?_
  refine lv_istore (lv' := [(5, .int (iI 2)), (4, .int (iI ((i : Nat) : Int))), (3, .ref (b0)), (2, .ref (bd 0)), (1, .ref (ad 0)), (0, .ref (bS))]) hx hb dL_law_1313 hl (by decide) rfl (fun ls hl => ?_)
  refine lv_aload_n hx hb dL_law_1315 rfl (lv_at hl 3 rfl) ?_
  refine lv_aload_n hx hb dL_law_1316 rfl (lv_at hl 5 rfl) ?_
  refine lv_iload hx hb dL_law_1317 (lv_at hl 1 rfl) ?_
  refine lv_iconst (v := iI 1) hx hb dL_law_1319 rfl ?_
  refine w_iadd (z := ((i + 1 : Nat) : Int)) hx hb dL_law_1320 (by omega) ?_
  refine w_sld hx hb hX hbl hbA hS hL (i + 1) rfl (by omega) e1 dL_law_1321 ?_
  refine lv_aload_n hx hb dL_law_1322 rfl (lv_at hl 5 rfl) ?_
  refine lv_iload hx hb dL_law_1323 (lv_at hl 1 rfl) ?_
  refine lv_iconst (v := iI 2) hx hb dL_law_1325 rfl ?_
  refine w_iadd (z := ((i + 2 : Nat) : Int)) hx hb dL_law_1326 (by omega) ?_
  refine w_sld hx hb hX hbl hbA hS hL (i + 2) rfl (by omega) e2 dL_law_1327 ?_
  refine w_iV (As := [.int (iI ((v : Int))), .int (iI (x))]) (rest := []) (wc := mw bd cI th nn mm bm tT oP sB sL sR sJ) (wf := fun u : Unit => LWW ad bd b0 cI cZ cJ nn mm tT tB tE tL oO oR oQ zS zM zN oJ 2 nn mm bm tT oP sB sL sR sJ fL) (wr := xw ad cI cZ nn mm tT tB tE tL oO oR oQ zS zM zN oJ ++ [(b0, .inl (cJ, 1, .inr (.inl (fL))))]) ⟨hx, hb, hml, hown, hts⟩ hK hP hD hS hA (mX1_bestAt_e2 hn hm hv hr9 hbad) (cwV 2 hts gL_law_X1_bestAt rfl rfl rfl (by decide +kernel) ⟨Nat.le_of_ble_eq_true rfl, Nat.le_of_ble_eq_true rfl⟩) [12, 13, 14, 15, 16, 17, 18] [0, 1, 2, 3, 4, 5, 6, 7, 8, 9, 10, 11, 19] [0, 1, 2, 3, 4, 5, 6, 7, 8, 9, 10, 11, 13, 14, 15, 16, 17, 18, 19, 12] rfl rfl (by decide) (by decide) (by decide) (hwf := fun _ => rfl) (by decide) (ci := 1) rfl rfl rfl rfl hl.1 rfl (Nat.le_of_ble_eq_true rfl) dL_law_1328 ⟨hcs, hss⟩ (fun v1328 w1328 H locs hv1328 hP hD hS => ?_)
  refine w_top (v := iI 0) (hv1328) ?_
  refine lv_istore (lv' := [(6, .int (iI 0)), (5, .int (iI 2)), (4, .int (iI ((i : Nat) : Int))), (3, .ref (b0)), (2, .ref (bd 0)), (1, .ref (ad 0)), (0, .ref (bS))]) hx hb dL_law_1331 hl (by decide) rfl (fun ls hl => ?_)
  refine lv_aload_n hx hb dL_law_1333 rfl (lv_at hl 4 rfl) ?_
  refine w_pV (As := []) (rest := []) ⟨hx, hb, hml, hown, hts⟩ hK (hP.sub (ws' := mw bd cI 2 nn mm bm tT oP sB sL sR sJ) [12, 13, 14, 15, 16, 17, 18] rfl) (mX1_thrown ) (cwV 0 hts gL_law_X1_thrown rfl rfl rfl (by decide +kernel) ⟨Nat.le_of_ble_eq_true rfl, Nat.le_of_ble_eq_true rfl⟩) (ci := 1) rfl rfl rfl rfl hl.1 rfl (Nat.le_of_ble_eq_true rfl) dL_law_1334 ⟨hcs, hss⟩ (fun v1334 hv1334 => ?_)
  refine w_top (v := iI 2) (hv1334) ?_
  refine lv_iload hx hb dL_law_1337 (lv_at hl 1 rfl) ?_
  refine lv_icmp_eq (tgt := 1344) hx hb dL_law_1339 (by decide) (fun _ => ?_) (fun h9 => absurd rfl h9)
  refine lv_iload hx hb dL_law_1344 (lv_at hl 1 rfl) ?_
  refine lv_if_ne (tgt := 1361) hx hb dL_law_1346 (by decide) (fun _ => ?_) (fun h9 => absurd h9 (by decide +kernel))
  refine lv_goto (tgt := 1461) hx hb dL_law_1361 (by decide) ?_
  exact nx nn mm tT tB tE tL oO oR oQ zS zM zN oJ 2 bm oP sB sL sR sJ fL _ _ _ _ ls ⟨hn, hm, hT, hz, heq, hPm, hCK, hMb⟩ (Nat.le_refl _) (Nat.le_refl _) hP hD hS (lv_sub hl [2, 3, 4, 5, 6] rfl)
set_option maxHeartbeats 4000000 in
set_option maxRecDepth 100000 in
theorem law_23 {v : Nat} (B : L0 p s m args c sa A bS L xs D cI cZ cJ) (hMO : MO) (hl0 : l.stackTraces = false) (I : LInv nn mm tT oO oP zS zM zN oJ) (hi : i + 4 ≤ L) (hv : v ≤ 2) (e1 : xs (i + 1) = iI ((v : Int))) (hcs : cells + 1 ≤ 1053) (hss : slots + 6 ≤ 8592) (hP : va_P D vwCl (LWW ad bd b0 cI cZ cJ nn mm tT tB tE tL oO oR oQ zS zM zN oJ th nn mm bm tT oP sB sL sR sJ fL) H) (hD : va_D A (LWW ad bd b0 cI cZ cJ nn mm tT tB tE tL oO oR oQ zS zM zN oJ th nn mm bm tT oP sB sL sR sJ fL)) (hS : va_S A s.heap H locs) (hl : lv_has ls 9 [(4, .int (iI ((i : Nat) : Int))), (3, .ref (b0)), (2, .ref (bd 0)), (1, .ref (ad 0)), (0, .ref (bS))]) (nx : NX p l e s m args below meth c Q A D cI cZ cJ ad bd b0 bS i cells slots) : W p l e room_1 s m args below meth c H locs cells slots Q (F0 m 1364 ls []) := by
  obtain ⟨hx, hb, hml, hown, hts, hK, hA, hX, hbl, hbA, hFX, hSX, hCX, hL⟩ := B
  obtain ⟨hn, hm, hT, hz, heq, hPm, hCK, hMb⟩ := id I
  have hO : ∀ k, k < nn → oO k < 7 := fun k hk => Nat.lt_of_lt_of_le (hPm.1 k hk) hn
  have hOP : ∀ k, k < nn → oP k < 7 := fun k hk => by rw [← heq k hk]; exact hO k hk
  refine lv_aload_n hx hb dL_law_1364 rfl (lv_at hl 3 rfl) ?_
  refine lv_aload_n hx hb dL_law_1365 rfl (lv_at hl 4 rfl) ?_
  refine lv_iload hx hb dL_law_1366 (lv_at hl 0 rfl) ?_
  refine lv_iconst (v := iI 1) hx hb dL_law_1368 rfl ?_
  refine w_iadd (z := ((i + 1 : Nat) : Int)) hx hb dL_law_1369 (by omega) ?_
  refine w_sld hx hb hX hbl hbA hS hL (i + 1) rfl (by omega) e1 dL_law_1370 ?_
  refine lv_aload_n hx hb dL_law_1371 rfl (lv_at hl 1 rfl) ?_
  have hTX : TX sa s H := ⟨(hFX.kept hS.2.1).no, hSX, hCX⟩
  refine w_lS (As := [.ref (ad 0), .int (iI ((v : Int))), .ref (b0)]) (rest := []) (sa := sa) (wc := xw ad cI cZ nn mm tT tB tE tL oO oR oQ zS zM zN oJ ++ [(b0, .inl (cJ, 1, .inr (.inl (fL))))]) (wf := fun u : (Nat → Int) × (Nat → Int) × (Nat → Nat) × (Nat → Int) × (Nat → Int) × (Nat → Nat) × (Nat → Int) => LWW ad bd b0 cI cZ cJ nn mm tT u.1 u.2.1 tL oO u.2.2.1 oQ u.2.2.2.2.2.2 u.2.2.2.1 u.2.2.2.2.1 u.2.2.2.2.2.1 th nn mm bm tT oP sB sL sR sJ (lS fL ((sol v mm tT nn).2.1 : Int))) (wr := mw bd cI th nn mm bm tT oP sB sL sR sJ) ⟨hx, hb, hml, hown, hts⟩ hK hP hD hS hA hTX (hL_bestOrders hT hn hm hv (hMO.1 nn hn) hCK hMb) (vx_cwSW 3 hts gL_law_L_bestOrders rfl rfl rfl (by decide +kernel) ⟨Nat.le_of_ble_eq_true rfl, Nat.le_of_ble_eq_true rfl⟩) [0, 1, 2, 3, 4, 5, 6, 7, 8, 9, 10, 11, 19] [12, 13, 14, 15, 16, 17, 18] [7, 8, 9, 10, 11, 12, 13, 14, 15, 16, 17, 18, 0, 1, 2, 3, 4, 5, 6, 19] rfl rfl (by decide) (by decide) (by decide) (hwf := fun _ => rfl) (by decide) rfl hl.1 rfl (Nat.le_of_ble_eq_true rfl) dL_law_1372 ⟨hcs, hss⟩ (fun r1 u1 H locs hr1 hP hD hS => ?_)
  refine w_top (v := iI 0) (hr1.1) ?_
  refine lv_istore (lv' := [(5, .int (iI 0)), (4, .int (iI ((i : Nat) : Int))), (3, .ref (b0)), (2, .ref (bd 0)), (1, .ref (ad 0)), (0, .ref (bS))]) hx hb dL_law_1375 hl (by decide) rfl (fun ls hl => ?_)
  refine lv_aload_n hx hb dL_law_1377 rfl (lv_at hl 3 rfl) ?_
  refine lv_aload_n hx hb dL_law_1378 rfl (lv_at hl 5 rfl) ?_
  refine lv_iload hx hb dL_law_1379 (lv_at hl 1 rfl) ?_
  refine lv_iconst (v := iI 1) hx hb dL_law_1381 rfl ?_
  refine w_iadd (z := ((i + 1 : Nat) : Int)) hx hb dL_law_1382 (by omega) ?_
  refine w_sld hx hb hX hbl hbA hS hL (i + 1) rfl (by omega) e1 dL_law_1383 ?_
  refine w_iV (As := [.int (iI ((v : Int)))]) (rest := []) (wc := mw bd cI th nn mm bm tT oP sB sL sR sJ) (wf := fun u : (Nat → Int) × (Nat → Nat) × (Nat → Nat) => LWW ad bd b0 cI cZ cJ nn mm tT u1.1 u1.2.1 tL oO u1.2.2.1 oQ u1.2.2.2.2.2.2 u1.2.2.2.1 u1.2.2.2.2.1 u1.2.2.2.2.2.1 0 nn mm (((sol v mm tT nn).2.1 : Int)) tT oP u.1 sL u.2.1 u.2.2 (lS fL ((sol v mm tT nn).2.1 : Int))) (wr := xw ad cI cZ nn mm tT u1.1 u1.2.1 tL oO u1.2.2.1 oQ u1.2.2.2.2.2.2 u1.2.2.2.1 u1.2.2.2.2.1 u1.2.2.2.2.2.1 ++ [(b0, .inl (cJ, 1, .inr (.inl (lS fL ((sol v mm tT nn).2.1 : Int)))))]) ⟨hx, hb, hml, hown, hts⟩ hK hP hD hS hA (mX1_bestOrders hT hn hm hv (hMO.1 nn hn)) (cwV 1 hts gL_law_X1_bestOrders rfl rfl rfl (by decide +kernel) ⟨Nat.le_of_ble_eq_true rfl, Nat.le_of_ble_eq_true rfl⟩) [12, 13, 14, 15, 16, 17, 18] [0, 1, 2, 3, 4, 5, 6, 7, 8, 9, 10, 11, 19] [0, 1, 2, 3, 4, 5, 6, 7, 8, 9, 10, 11, 13, 14, 15, 16, 17, 18, 19, 12] rfl rfl (by decide) (by decide) (by decide) (hwf := fun _ => rfl) (by decide) (ci := 1) rfl rfl rfl rfl hl.1 rfl (Nat.le_of_ble_eq_true rfl) dL_law_1384 ⟨hcs, hss⟩ (fun v1384 w1384 H locs hv1384 hP hD hS => ?_)
  refine w_top (v := iI ((sol v mm tT nn).2.1 : Int)) (hv1384.trans (congrArg iI (rfl))) ?_
  refine lv_istore (lv' := [(6, .int (iI ((sol v mm tT nn).2.1 : Int))), (5, .int (iI 0)), (4, .int (iI ((i : Nat) : Int))), (3, .ref (b0)), (2, .ref (bd 0)), (1, .ref (ad 0)), (0, .ref (bS))]) hx hb dL_law_1387 hl (by decide) rfl (fun ls hl => ?_)
  refine lv_aload_n hx hb dL_law_1389 rfl (lv_at hl 4 rfl) ?_
  refine w_pV (As := []) (rest := []) ⟨hx, hb, hml, hown, hts⟩ hK (hP.sub (ws' := mw bd cI 0 nn mm (((sol v mm tT nn).2.1 : Int)) tT oP w1384.1 sL w1384.2.1 w1384.2.2) [12, 13, 14, 15, 16, 17, 18] rfl) (mX1_thrown ) (cwV 0 hts gL_law_X1_thrown rfl rfl rfl (by decide +kernel) ⟨Nat.le_of_ble_eq_true rfl, Nat.le_of_ble_eq_true rfl⟩) (ci := 1) rfl rfl rfl rfl hl.1 rfl (Nat.le_of_ble_eq_true rfl) dL_law_1390 ⟨hcs, hss⟩ (fun v1390 hv1390 => ?_)
  refine w_top (v := iI 0) (hv1390) ?_
  refine lv_iload hx hb dL_law_1393 (lv_at hl 1 rfl) ?_
  refine lv_icmp_eq (tgt := 1400) hx hb dL_law_1395 (by decide) (fun _ => ?_) (fun h9 => absurd rfl h9)
  refine lv_iload hx hb dL_law_1400 (lv_at hl 1 rfl) ?_
  refine lv_if_ne (tgt := 1417) hx hb dL_law_1402 (by decide) (fun h9 => absurd (by decide +kernel) h9) (fun _ => ?_)
  refine lv_aload_n hx hb dL_law_1405 rfl (lv_at hl 3 rfl) ?_
  refine lv_iconst (v := iI 0) hx hb dL_law_1406 rfl ?_
  refine w_lald (v := (iI ((sol v mm tT nn).2.1 : Int)).toInt64) hx hb hK hP 19 2 rfl rfl (lS_0 _ _) dL_law_1407 ?_
  refine lv_iload hx hb dL_law_1408 (lv_at hl 0 rfl) ?_
  refine lv_i2l (v := (iI ((sol v mm tT nn).2.1 : Int)).toInt64) hx hb dL_law_1410 rfl ?_
  refine w_lcmpE hx hb dL_law_1411 ?_
  refine lv_if_eq (tgt := 1417) hx hb dL_law_1412 (by decide) (fun _ => ?_) (fun h9 => absurd rfl h9)
  refine lv_goto (tgt := 1461) hx hb dL_law_1417 (by decide) ?_
  exact nx nn mm tT u1.1 u1.2.1 tL oO u1.2.2.1 oQ u1.2.2.2.2.2.2 u1.2.2.2.1 u1.2.2.2.2.1 u1.2.2.2.2.2.1 0 (((sol v mm tT nn).2.1 : Int)) oP w1384.1 sL w1384.2.1 w1384.2.2 (lS fL ((sol v mm tT nn).2.1 : Int)) _ _ _ _ ls ⟨hn, hm, hT, hz, heq, hPm, hr1.2.1, hr1.2.2⟩ (Nat.le_refl _) (Nat.le_refl _) hP hD hS (lv_sub hl [2, 3, 4, 5, 6] rfl)
set_option maxHeartbeats 4000000 in
set_option maxRecDepth 100000 in
theorem law_23t {x : Int} (B : L0 p s m args c sa A bS L xs D cI cZ cJ) (hMO : MO) (hl0 : l.stackTraces = false) (I : LInv nn mm tT oO oP zS zM zN oJ) (hi : i + 4 ≤ L) (hr9 : -2147483648 ≤ x ∧ x ≤ 2147483647) (hbad : ¬ (0 ≤ x ∧ x ≤ 2)) (e1 : xs (i + 1) = iI (x)) (hcs : cells + 1 ≤ 1053) (hss : slots + 6 ≤ 8592) (hP : va_P D vwCl (LWW ad bd b0 cI cZ cJ nn mm tT tB tE tL oO oR oQ zS zM zN oJ th nn mm bm tT oP sB sL sR sJ fL) H) (hD : va_D A (LWW ad bd b0 cI cZ cJ nn mm tT tB tE tL oO oR oQ zS zM zN oJ th nn mm bm tT oP sB sL sR sJ fL)) (hS : va_S A s.heap H locs) (hl : lv_has ls 9 [(4, .int (iI ((i : Nat) : Int))), (3, .ref (b0)), (2, .ref (bd 0)), (1, .ref (ad 0)), (0, .ref (bS))]) (nx : NX p l e s m args below meth c Q A D cI cZ cJ ad bd b0 bS i cells slots) : W p l e room_1 s m args below meth c H locs cells slots Q (F0 m 1364 ls []) := by
  obtain ⟨hx, hb, hml, hown, hts, hK, hA, hX, hbl, hbA, hFX, hSX, hCX, hL⟩ := B
  obtain ⟨hn, hm, hT, hz, heq, hPm, hCK, hMb⟩ := id I
  have hO : ∀ k, k < nn → oO k < 7 := fun k hk => Nat.lt_of_lt_of_le (hPm.1 k hk) hn
  have hOP : ∀ k, k < nn → oP k < 7 := fun k hk => by rw [← heq k hk]; exact hO k hk
  refine lv_aload_n hx hb dL_law_1364 rfl (lv_at hl 3 rfl) ?_
  refine lv_aload_n hx hb dL_law_1365 rfl (lv_at hl 4 rfl) ?_
  refine lv_iload hx hb dL_law_1366 (lv_at hl 0 rfl) ?_
  refine lv_iconst (v := iI 1) hx hb dL_law_1368 rfl ?_
  refine w_iadd (z := ((i + 1 : Nat) : Int)) hx hb dL_law_1369 (by omega) ?_
  refine w_sld hx hb hX hbl hbA hS hL (i + 1) rfl (by omega) e1 dL_law_1370 ?_
  refine lv_aload_n hx hb dL_law_1371 rfl (lv_at hl 1 rfl) ?_
  have hTX : TX sa s H := ⟨(hFX.kept hS.2.1).no, hSX, hCX⟩
  refine w_lS (As := [.ref (ad 0), .int (iI (x)), .ref (b0)]) (rest := []) (sa := sa) (wc := xw ad cI cZ nn mm tT tB tE tL oO oR oQ zS zM zN oJ ++ [(b0, .inl (cJ, 1, .inr (.inl (fL))))]) (wf := fun u : Unit => LWW ad bd b0 cI cZ cJ nn mm tT tB tE tL oO oR oQ zS zM zN oJ th nn mm bm tT oP sB sL sR sJ fL) (wr := mw bd cI th nn mm bm tT oP sB sL sR sJ) ⟨hx, hb, hml, hown, hts⟩ hK hP hD hS hA hTX (hL_bestOrders_t hl0 hr9 hbad) (vx_cwSW 3 hts gL_law_L_bestOrders rfl rfl rfl (by decide +kernel) ⟨Nat.le_of_ble_eq_true rfl, Nat.le_of_ble_eq_true rfl⟩) [0, 1, 2, 3, 4, 5, 6, 7, 8, 9, 10, 11, 19] [12, 13, 14, 15, 16, 17, 18] [7, 8, 9, 10, 11, 12, 13, 14, 15, 16, 17, 18, 0, 1, 2, 3, 4, 5, 6, 19] rfl rfl (by decide) (by decide) (by decide) (hwf := fun _ => rfl) (by decide) rfl hl.1 rfl (Nat.le_of_ble_eq_true rfl) dL_law_1372 ⟨hcs, hss⟩ (fun r1 u1 H locs hr1 hP hD hS => ?_)
  refine w_top (v := iI 1) (hr1) ?_
  refine lv_istore (lv' := [(5, .int (iI 1)), (4, .int (iI ((i : Nat) : Int))), (3, .ref (b0)), (2, .ref (bd 0)), (1, .ref (ad 0)), (0, .ref (bS))]) hx hb dL_law_1375 hl (by decide) rfl (fun ls hl => ?_)
  refine lv_aload_n hx hb dL_law_1377 rfl (lv_at hl 3 rfl) ?_
  refine lv_aload_n hx hb dL_law_1378 rfl (lv_at hl 5 rfl) ?_
  refine lv_iload hx hb dL_law_1379 (lv_at hl 1 rfl) ?_
  refine lv_iconst (v := iI 1) hx hb dL_law_1381 rfl ?_
  refine w_iadd (z := ((i + 1 : Nat) : Int)) hx hb dL_law_1382 (by omega) ?_
  refine w_sld hx hb hX hbl hbA hS hL (i + 1) rfl (by omega) e1 dL_law_1383 ?_
  refine w_iV (As := [.int (iI (x))]) (rest := []) (wc := mw bd cI th nn mm bm tT oP sB sL sR sJ) (wf := fun u : Unit => LWW ad bd b0 cI cZ cJ nn mm tT tB tE tL oO oR oQ zS zM zN oJ 1 nn mm bm tT oP sB sL sR sJ fL) (wr := xw ad cI cZ nn mm tT tB tE tL oO oR oQ zS zM zN oJ ++ [(b0, .inl (cJ, 1, .inr (.inl (fL))))]) ⟨hx, hb, hml, hown, hts⟩ hK hP hD hS hA (mX1_bestOrders_e hr9 hbad) (cwV 1 hts gL_law_X1_bestOrders rfl rfl rfl (by decide +kernel) ⟨Nat.le_of_ble_eq_true rfl, Nat.le_of_ble_eq_true rfl⟩) [12, 13, 14, 15, 16, 17, 18] [0, 1, 2, 3, 4, 5, 6, 7, 8, 9, 10, 11, 19] [0, 1, 2, 3, 4, 5, 6, 7, 8, 9, 10, 11, 13, 14, 15, 16, 17, 18, 19, 12] rfl rfl (by decide) (by decide) (by decide) (hwf := fun _ => rfl) (by decide) (ci := 1) rfl rfl rfl rfl hl.1 rfl (Nat.le_of_ble_eq_true rfl) dL_law_1384 ⟨hcs, hss⟩ (fun v1384 w1384 H locs hv1384 hP hD hS => ?_)
  refine w_top (v := iI 0) (hv1384) ?_
  refine lv_istore (lv' := [(6, .int (iI 0)), (5, .int (iI 1)), (4, .int (iI ((i : Nat) : Int))), (3, .ref (b0)), (2, .ref (bd 0)), (1, .ref (ad 0)), (0, .ref (bS))]) hx hb dL_law_1387 hl (by decide) rfl (fun ls hl => ?_)
  refine lv_aload_n hx hb dL_law_1389 rfl (lv_at hl 4 rfl) ?_
  refine w_pV (As := []) (rest := []) ⟨hx, hb, hml, hown, hts⟩ hK (hP.sub (ws' := mw bd cI 1 nn mm bm tT oP sB sL sR sJ) [12, 13, 14, 15, 16, 17, 18] rfl) (mX1_thrown ) (cwV 0 hts gL_law_X1_thrown rfl rfl rfl (by decide +kernel) ⟨Nat.le_of_ble_eq_true rfl, Nat.le_of_ble_eq_true rfl⟩) (ci := 1) rfl rfl rfl rfl hl.1 rfl (Nat.le_of_ble_eq_true rfl) dL_law_1390 ⟨hcs, hss⟩ (fun v1390 hv1390 => ?_)
  refine w_top (v := iI 1) (hv1390) ?_
  refine lv_iload hx hb dL_law_1393 (lv_at hl 1 rfl) ?_
  refine lv_icmp_eq (tgt := 1400) hx hb dL_law_1395 (by decide) (fun _ => ?_) (fun h9 => absurd rfl h9)
  refine lv_iload hx hb dL_law_1400 (lv_at hl 1 rfl) ?_
  refine lv_if_ne (tgt := 1417) hx hb dL_law_1402 (by decide) (fun _ => ?_) (fun h9 => absurd h9 (by decide +kernel))
  refine lv_goto (tgt := 1461) hx hb dL_law_1417 (by decide) ?_
  exact nx nn mm tT tB tE tL oO oR oQ zS zM zN oJ 1 bm oP sB sL sR sJ fL _ _ _ _ ls ⟨hn, hm, hT, hz, heq, hPm, hCK, hMb⟩ (Nat.le_refl _) (Nat.le_refl _) hP hD hS (lv_sub hl [2, 3, 4, 5, 6] rfl)
set_option maxHeartbeats 4000000 in
set_option maxRecDepth 100000 in
theorem law_24  (B : L0 p s m args c sa A bS L xs D cI cZ cJ) (hMO : MO) (hl0 : l.stackTraces = false) (I : LInv nn mm tT oO oP zS zM zN oJ) (hi : i + 4 ≤ L)  (hcs : cells + 1 ≤ 1053) (hss : slots + 6 ≤ 8592) (hP : va_P D vwCl (LWW ad bd b0 cI cZ cJ nn mm tT tB tE tL oO oR oQ zS zM zN oJ th nn mm bm tT oP sB sL sR sJ fL) H) (hD : va_D A (LWW ad bd b0 cI cZ cJ nn mm tT tB tE tL oO oR oQ zS zM zN oJ th nn mm bm tT oP sB sL sR sJ fL)) (hS : va_S A s.heap H locs) (hl : lv_has ls 9 [(4, .int (iI ((i : Nat) : Int))), (3, .ref (b0)), (2, .ref (bd 0)), (1, .ref (ad 0)), (0, .ref (bS))]) (nx : NX p l e s m args below meth c Q A D cI cZ cJ ad bd b0 bS i cells slots) : W p l e room_1 s m args below meth c H locs cells slots Q (F0 m 1420 ls []) := by
  obtain ⟨hx, hb, hml, hown, hts, hK, hA, hX, hbl, hbA, hFX, hSX, hCX, hL⟩ := B
  obtain ⟨hn, hm, hT, hz, heq, hPm, hCK, hMb⟩ := id I
  have hO : ∀ k, k < nn → oO k < 7 := fun k hk => Nat.lt_of_lt_of_le (hPm.1 k hk) hn
  have hOP : ∀ k, k < nn → oP k < 7 := fun k hk => by rw [← heq k hk]; exact hO k hk
  refine lv_aload_n hx hb dL_law_1420 rfl (lv_at hl 3 rfl) ?_
  refine w_iVd (As := []) (rest := []) (wc := xw ad cI cZ nn mm tT tB tE tL oO oR oQ zS zM zN oJ) (wf := fun u : (Nat → Int) × (Nat → Int) × (Nat → Nat) × (Nat → Int) × (Nat → Int) × (Nat → Nat) × (Nat → Int) => LWW ad bd b0 cI cZ cJ nn mm tT u.1 u.2.1 tL oO u.2.2.1 oQ u.2.2.2.2.2.2 u.2.2.2.1 u.2.2.2.2.1 u.2.2.2.2.2.1 th nn mm bm tT oP sB sL sR sJ fL) (wr := mw bd cI th nn mm bm tT oP sB sL sR sJ ++ [(b0, .inl (cJ, 1, .inr (.inl (fL))))]) ⟨hx, hb, hml, hown, hts⟩ hK hP hD hS hA (mX0_gap hT hn hm hO (hMO.1 nn hn) hCK hMb) (cwV 0 hts gL_law_X0_gap rfl rfl rfl (by decide +kernel) ⟨Nat.le_of_ble_eq_true rfl, Nat.le_of_ble_eq_true rfl⟩) [0, 1, 2, 3, 4, 5, 6, 7, 8, 9, 10, 11] [12, 13, 14, 15, 16, 17, 18, 19] [8, 9, 10, 11, 12, 13, 14, 15, 16, 17, 18, 19, 0, 1, 2, 3, 4, 5, 6, 7] rfl rfl (by decide) (by decide) (by decide) (hwf := fun _ => rfl) (by decide) (ci := 0) rfl rfl rfl rfl hl.1 rfl (Nat.le_of_ble_eq_true rfl) dL_law_1421 ⟨Nat.le_of_succ_le hcs, Nat.le_trans (Nat.le_add_right _ 6) hss⟩ (fun v1421 w1421 H locs hv1421 hP hD hS => ?_)
  obtain ⟨fv1421, hr1⟩ := hv1421
  subst fv1421
  refine lv_dstore (lv' := [(5, .double ((gapD (mk 0 mm tT oO nn) (sol 0 mm tT nn).1))), (4, .int (iI ((i : Nat) : Int))), (3, .ref (b0)), (2, .ref (bd 0)), (1, .ref (ad 0)), (0, .ref (bS))]) hx hb dL_law_1424 hl (by decide) rfl (fun ls hl => ?_)
  refine lv_aload_n hx hb dL_law_1426 rfl (lv_at hl 3 rfl) ?_
  refine w_iVd (As := []) (rest := []) (wc := mw bd cI th nn mm bm tT oP sB sL sR sJ) (wf := fun u : (Nat → Int) × (Nat → Nat) × (Nat → Nat) => LWW ad bd b0 cI cZ cJ nn mm tT w1421.1 w1421.2.1 tL oO w1421.2.2.1 oQ w1421.2.2.2.2.2.2 w1421.2.2.2.1 w1421.2.2.2.2.1 w1421.2.2.2.2.2.1 0 nn mm (((sol 0 mm tT nn).2.1 : Int)) tT oP u.1 sL u.2.1 u.2.2 fL) (wr := xw ad cI cZ nn mm tT w1421.1 w1421.2.1 tL oO w1421.2.2.1 oQ w1421.2.2.2.2.2.2 w1421.2.2.2.1 w1421.2.2.2.2.1 w1421.2.2.2.2.2.1 ++ [(b0, .inl (cJ, 1, .inr (.inl (fL))))]) ⟨hx, hb, hml, hown, hts⟩ hK hP hD hS hA (mX1_gap hT hn hm hOP (hMO.1 nn hn)) (cwV 0 hts gL_law_X1_gap rfl rfl rfl (by decide +kernel) ⟨Nat.le_of_ble_eq_true rfl, Nat.le_of_ble_eq_true rfl⟩) [12, 13, 14, 15, 16, 17, 18] [0, 1, 2, 3, 4, 5, 6, 7, 8, 9, 10, 11, 19] [0, 1, 2, 3, 4, 5, 6, 7, 8, 9, 10, 11, 13, 14, 15, 16, 17, 18, 19, 12] rfl rfl (by decide) (by decide) (by decide) (hwf := fun _ => rfl) (by decide) (ci := 1) rfl rfl rfl rfl hl.1 rfl (Nat.le_of_ble_eq_true rfl) dL_law_1427 ⟨Nat.le_of_succ_le hcs, Nat.le_trans (Nat.le_add_right _ 6) hss⟩ (fun v1427 w1427 H locs hv1427 hP hD hS => ?_)
  obtain rfl : v1427 = (gapD (mk 0 mm tT oO nn) (sol 0 mm tT nn).1) := hv1427.trans (by rw [mk_cg (fun k hk => (heq k hk).symm)])
  have hnan := gapD_n (o := mk 0 mm tT oO nn) (sol_rg (v := 0) hm hT hn).1
  refine lv_dstore (lv' := [(7, .double ((gapD (mk 0 mm tT oO nn) (sol 0 mm tT nn).1))), (5, .double ((gapD (mk 0 mm tT oO nn) (sol 0 mm tT nn).1))), (4, .int (iI ((i : Nat) : Int))), (3, .ref (b0)), (2, .ref (bd 0)), (1, .ref (ad 0)), (0, .ref (bS))]) hx hb dL_law_1430 hl (by decide) rfl (fun ls hl => ?_)
  refine lv_dload hx hb dL_law_1432 (lv_at hl 1 rfl) ?_
  refine lv_dload hx hb dL_law_1434 (lv_at hl 0 rfl) ?_
  refine w_dcmpE hnan hx hb dL_law_1436 ?_
  refine lv_if_eq (tgt := 1458) hx hb dL_law_1437 (by decide) (fun _ => ?_) (fun h9 => absurd rfl h9)
  refine lv_goto (tgt := 1461) hx hb dL_law_1458 (by decide) ?_
  exact nx nn mm tT w1421.1 w1421.2.1 tL oO w1421.2.2.1 oQ w1421.2.2.2.2.2.2 w1421.2.2.2.1 w1421.2.2.2.2.1 w1421.2.2.2.2.2.1 0 (((sol 0 mm tT nn).2.1 : Int)) oP w1427.1 sL w1427.2.1 w1427.2.2 fL _ _ _ _ ls ⟨hn, hm, hT, hz, heq, hPm, hr1.1, hr1.2⟩ (Nat.le_succ _) (Nat.le_add_right _ _) hP hD hS (lv_sub hl [2, 3, 4, 5, 6] rfl)
end
