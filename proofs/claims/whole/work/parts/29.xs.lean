/-! the law from its entry -/
theorem s_str {args : Array Value} {s : State} {k : Nat} {tx : String} (h1 : (Cond.stringRef RX0 k tx).before args s = true) (h2 : (Cond.exactly (.string RX0 k) "java/lang/String").before args s = true) : ∃ a : Nat, vk_R RX0 k tx a s := by
  obtain ⟨a, c, cell, kk, q1, -⟩ := Cond.exactly_spec h2
  exact ⟨a, vk_R.of h1 q1⟩
theorem s_arr {args : Array Value} {s : State} {ty : FieldType} (hr : ∀ (z : ClassId), s.vm.findClass ("[" ++ ty.toString) = some z → va_RA s z ty) (h : (Cond.arrayClass ty).before args s = true) : ∃ cA : ClassId, ArrOfT s cA ty ∧ va_RA s cA ty := by
  obtain ⟨c, k, comp, h1, h2, h3⟩ := Cond.arrayClass_spec h
  exact ⟨c, fun n z => ⟨fun k h => (by cases h), k, h2, comp, h3⟩, hr c h1⟩
set_option maxHeartbeats 4000000 in
set_option maxRecDepth 100000 in
theorem s_facts {p : Program} {s : State} {m : MethodId} {meth : Method} {c : Code} {b L : Nat} {xs : Nat → Int32} (C0 : lw_At p s m meth c b L xs) : (∃ sa : Nat → Nat, SX sa s) ∧ CX s ∧ FX (fun q : Nat => s.heap.size ≤ q) s s.heap ∧ ∃ (D : va_G) (cI cZ cJ : ClassId), va_K D vwCl (tyk cI cZ cJ) s := by
  obtain ⟨hx, hb, hr, hml, hown, hts, hX, hbl, hlocks, hgv⟩ := C0
  have hg := flat_of_before _ hgv
  obtain ⟨a53, s53⟩ := s_str (k := 53) (tx := "there are 7 jobs") (hts _ (List.mem_append_right _ (List.mem_of_getElem? (i := 202) (by decide +kernel)))) (hg _ (by decide +kernel))
  obtain ⟨a63, s63⟩ := s_str (k := 63) (tx := "the number of machines is out of range") (hts _ (List.mem_append_right _ (List.mem_of_getElem? (i := 250) (by decide +kernel)))) (hg _ (by decide +kernel))
  obtain ⟨a133, s133⟩ := s_str (k := 133) (tx := "there is no such job") (hts _ (List.mem_append_right _ (List.mem_of_getElem? (i := 278) (by decide +kernel)))) (hg _ (by decide +kernel))
  obtain ⟨a138, s138⟩ := s_str (k := 138) (tx := "there is no such machine") (hts _ (List.mem_append_right _ (List.mem_of_getElem? (i := 289) (by decide +kernel)))) (hg _ (by decide +kernel))
  obtain ⟨a77, s77⟩ := s_str (k := 77) (tx := "the time is out of range") (hts _ (List.mem_append_right _ (List.mem_of_getElem? (i := 290) (by decide +kernel)))) (hg _ (by decide +kernel))
  obtain ⟨a136, s136⟩ := s_str (k := 136) (tx := "there is no such place") (hts _ (List.mem_append_right _ (List.mem_of_getElem? (i := 309) (by decide +kernel)))) (hg _ (by decide +kernel))
  obtain ⟨a94, s94⟩ := s_str (k := 94) (tx := "there are not 2 machines") (hts _ (List.mem_append_right _ (List.mem_of_getElem? (i := 335) (by decide +kernel)))) (hg _ (by decide +kernel))
  obtain ⟨a140, s140⟩ := s_str (k := 140) (tx := "the variant is out of range") (hts _ (List.mem_append_right _ (List.mem_of_getElem? (i := 354) (by decide +kernel)))) (hg _ (by decide +kernel))
  obtain ⟨a123, s123⟩ := s_str (k := 123) (tx := "the first machine is not less than the second one") (hts _ (List.mem_append_right _ (List.mem_of_getElem? (i := 419) (by decide +kernel)))) (hg _ (by decide +kernel))
  refine ⟨⟨fun k => if k = 53 then a53 else if k = 63 then a63 else if k = 133 then a133 else if k = 138 then a138 else if k = 77 then a77 else if k = 136 then a136 else if k = 94 then a94 else if k = 140 then a140 else a123, ?_⟩, ?_, ?_, ?_⟩
  · exact List.forall_mem_cons.mpr ⟨s53, List.forall_mem_cons.mpr ⟨s63, List.forall_mem_cons.mpr ⟨s133, List.forall_mem_cons.mpr ⟨s138, List.forall_mem_cons.mpr ⟨s77, List.forall_mem_cons.mpr ⟨s136, List.forall_mem_cons.mpr ⟨s94, List.forall_mem_cons.mpr ⟨s140, List.forall_mem_cons.mpr ⟨s123, fun _ h => absurd h List.not_mem_nil⟩⟩⟩⟩⟩⟩⟩⟩⟩
  · refine ⟨List.forall_mem_cons.mpr ⟨va_Nw.of rfl (hts _ (List.mem_append_right _ (List.mem_of_getElem? (i := 163) (by decide +kernel)))), List.forall_mem_cons.mpr ⟨va_Nw.of rfl (hts _ (List.mem_append_right _ (List.mem_of_getElem? (i := 243) (by decide +kernel)))), List.forall_mem_cons.mpr ⟨va_Nw.of rfl (hts _ (List.mem_append_right _ (List.mem_of_getElem? (i := 271) (by decide +kernel)))), fun _ h => absurd h List.not_mem_nil⟩⟩⟩, List.forall_mem_cons.mpr ⟨va_Nw.of rfl (hts _ (List.mem_append_right _ (List.mem_of_getElem? (i := 165) (by decide +kernel)))), List.forall_mem_cons.mpr ⟨va_Nw.of rfl (hts _ (List.mem_append_right _ (List.mem_of_getElem? (i := 167) (by decide +kernel)))), List.forall_mem_cons.mpr ⟨va_Nw.of rfl (hts _ (List.mem_append_right _ (List.mem_of_getElem? (i := 169) (by decide +kernel)))), fun _ h => absurd h List.not_mem_nil⟩⟩⟩, va_Nc.of (hg _ (by decide +kernel)), va_Nc.of (hg _ (by decide +kernel))⟩
  · exact ⟨vx_Zqof (hts _ (List.mem_append_right _ (List.mem_of_getElem? (i := 188) (by decide +kernel)))) (hts _ (List.mem_append_right _ (List.mem_of_getElem? (i := 3) (by decide +kernel)))) (hg _ (by decide +kernel)) (fun a h1 h2 => absurd h1 (Nat.not_lt.mpr h2)), vx_Zqof (hts _ (List.mem_append_right _ (List.mem_of_getElem? (i := 190) (by decide +kernel)))) (hts _ (List.mem_append_right _ (List.mem_of_getElem? (i := 3) (by decide +kernel)))) (hg _ (by decide +kernel)) (fun a h1 h2 => absurd h1 (Nat.not_lt.mpr h2))⟩
  · obtain ⟨c0, iS0, hKn0⟩ := u_known (C := RX0) (T := TX0) (N := 13) (n := 13) hts inX0 (hts _ (List.mem_append_right _ (List.mem_of_getElem? (i := 12) (by decide +kernel))))
    obtain ⟨c1, iS1, hKn1⟩ := u_known (C := RX1) (T := TX1) (N := 10) (n := 10) hts inX1 (hts _ (List.mem_append_right _ (List.mem_of_getElem? (i := 446) (by decide +kernel))))
    obtain ⟨cI, kI1, kI2⟩ := s_arr (ty := .int) (fun z h => h) (hts _ (List.mem_append_right _ (List.mem_of_getElem? (i := 59) (by decide +kernel))))
    obtain ⟨cZ, kZ1, kZ2⟩ := s_arr (ty := .boolean) (fun z h => h) (hts _ (List.mem_append_right _ (List.mem_of_getElem? (i := 60) (by decide +kernel))))
    obtain ⟨cJ, kJ1, kJ2⟩ := s_arr (ty := .long) (fun z h => h) (hts _ (List.mem_append_right _ (List.mem_of_getElem? (i := 693) (by decide +kernel))))
    refine ⟨(fun k => if k = 0 then c0 else c1, fun k => if k = 0 then iS0 else iS1), cI, cZ, cJ, ?_, ?_⟩
    · intro k q hq
      match k, hq with
      | 0, hq => cases hq; exact hKn0
      | 1, hq => cases hq; exact hKn1
      | k + 2, hq => simp [vwCl] at hq
    · intro k q hq
      match k, hq with
      | 0, hq => cases hq; exact ⟨kI1, kI2⟩
      | 1, hq => cases hq; exact ⟨kZ1, kZ2⟩
      | 2, hq => cases hq; exact ⟨kJ1, kJ2⟩
      | k + 3, hq => simp [tyk] at hq
theorem linv0 : LInv 0 2 z0 n0 n0 z0 z0 z0 n0 := ⟨by decide, by decide, fun k => ⟨Int.le_refl _, by show (0 : Int) ≤ 99; decide⟩, fun k _ _ => rfl, fun k hk => absurd hk (Nat.not_lt_zero _), ⟨fun k hk => absurd hk (Nat.not_lt_zero _), fun i j hi => absurd hi (Nat.not_lt_zero _)⟩, fun v _ => Or.inl rfl, fun k _ => ⟨Int.le_refl _, by show (0 : Int) ≤ 1000000; decide⟩⟩
set_option maxHeartbeats 4000000 in
set_option maxRecDepth 100000 in
theorem start_open (hMO : MO) {p : Program} {e : Env} {s : State} {m : MethodId} {below : List Frame} {meth : Method} {c : Code} (l : Launch) (hflags : l.flags = flags0) {b L : Nat} {xs : Nat → Int32} (hL : L ≤ 2048) (C0 : lw_At p s m meth c b L xs) : W p l e room_1 s m #[Value.ref b] below meth c s.heap [] 0 0 (lw_Z below #[Value.ref b] s) (entryFrame m ([Value.ref b] : List Value).toArray 9) := by
  obtain ⟨hx, hb, hr, hml, hown, hts0, hX, hbl, hlocks, hgv⟩ := id C0
  obtain ⟨⟨sa, hSX⟩, hCX, hFX, D, cI, cZ, cJ, hK⟩ := s_facts C0
  have hts : ∀ w ∈ wsL_law, w.before #[Value.ref b] s = true := fun w h => hts0 w (wsL_law_in w h)
  have hl0 : l.stackTraces = false := by
    unfold Launch.stackTraces
    rw [hflags]
    decide +kernel
  have hA : ∀ q : Nat, s.heap.size ≤ q → (fun q : Nat => s.heap.size ≤ q) q := fun _ h => h
  have hbA : ¬ (fun q : Nat => s.heap.size ≤ q) b := Nat.not_le.mpr hbl
  have B : L0 p s m #[Value.ref b] c sa (fun q : Nat => s.heap.size ≤ q) b L xs D cI cZ cJ := ⟨hx, hb, hml, hown, hts, hK, hA, hX, hbl, hbA, hFX, hSX, hCX, hL⟩
  have hS : va_S (fun q : Nat => s.heap.size ≤ q) s.heap s.heap [] := va_S.rf
  have hP : va_P D vwCl [] s.heap := fun k q h => by simp at h
  have hD : va_D (fun q : Nat => s.heap.size ≤ q) [] := ⟨fun i j p q h => by simp at h, fun k q h => by simp at h⟩
  have hl := lv_entry ([.ref b]) (n := 9) (Nat.le_of_ble_eq_true rfl)
  rw [lg_entry_eq]
  generalize (lg_sl ([.ref b]) ++ List.replicate (9 - (lg_sl ([.ref b])).length) Slot.unset).toArray = ls at hl ⊢
  have hl : lv_has ls 9 [(0, .ref b)] := hl
  refine va_new (ci := 0) (fs := [.int (iI 0), .int (iI 0), .null, .null, .null, .null, .null, .null, .null, .null, .null, .null, .null]) (C := RX0) (T := TX0) (N := 13) hx hb hts0 inX0 tyX0 tyX0_ok hown (hts0 _ (List.mem_append_right _ (List.mem_of_getElem? (i := 11) (by decide +kernel)))) (hts0 _ (List.mem_append_right _ (List.mem_of_getElem? (i := 12) (by decide +kernel)))) (hts0 _ (List.mem_append_right _ (List.mem_of_getElem? (i := 1) (by decide +kernel)))) hK hP hD hS hA rfl (by decide +kernel) (Nat.le_of_ble_eq_true rfl) (Nat.le_of_ble_eq_true rfl) dL_law_0 (fun q0 H hP hD hS => ?_)
  have hP : va_P D vwCl ([(q0, .inr (0, [.int (iI 0), .int (iI 0), .null, .null, .null, .null, .null, .null, .null, .null, .null, .null, .null]))]) H := hP
  have hD : va_D (fun q : Nat => s.heap.size ≤ q) ([(q0, .inr (0, [.int (iI 0), .int (iI 0), .null, .null, .null, .null, .null, .null, .null, .null, .null, .null, .null]))]) := hD
  refine lv_dup hx hb dL_law_3 rfl ?_
  have hPc := hP.sub (ws' := [(q0, .inr (0, [.int (iI 0), .int (iI 0), .null, .null, .null, .null, .null, .null, .null, .null, .null, .null, .null]))]) [0] rfl
  have hDc := hD.sub (ws' := [(q0, .inr (0, [.int (iI 0), .int (iI 0), .null, .null, .null, .null, .null, .null, .null, .null, .null, .null, .null]))]) [0] (by decide) rfl
  have hFc := va_free (wc := [(q0, .inr (0, [.int (iI 0), .int (iI 0), .null, .null, .null, .null, .null, .null, .null, .null, .null, .null, .null]))]) hD hS hA [0] rfl
  refine va_callv (va_runI (As := []) (rest := [.ref q0]) ⟨hx, hb, hml, hown, hts⟩ (cX0 (l := l) (D := D) (cI := cI) (cZ := cZ) (cJ := cJ) (h0 := q0) H.size) (cwI 0 hts gL_law_X0_init rfl rfl rfl (hts0 _ (List.mem_append_right _ (List.mem_of_getElem? (i := 1) (by decide +kernel)))) (hts0 _ (List.mem_append_right _ (List.mem_of_getElem? (i := 13) (by decide +kernel)))) (hts0 _ (List.mem_append_right _ (List.mem_of_getElem? (i := 14) (by decide +kernel)))) rfl (by decide +kernel) ⟨Nat.le_of_ble_eq_true rfl, Nat.le_of_ble_eq_true rfl⟩) ⟨im_blind, fun U hU hW => ⟨rfl, by rw [hU], by rw [hU]; exact hPc, va_K.moved hW.alike hK, hDc.weaken (fun _ _ _ _ => trivial)⟩⟩ rfl rfl hl.1 rfl (lv_room (Nat.le_of_ble_eq_true rfl)) dL_law_4 ⟨Nat.le_of_ble_eq_true rfl, Nat.le_of_ble_eq_true rfl⟩) hS (fun q _ h => hFc q h) hFc (fun ad t H1 locs ht hvm hw hB hz1 hk1 hS => ?_)
  obtain ⟨hP1, hK1, hD1⟩ := hB
  rw [ht] at hP1
  subst hw
  obtain ⟨hP, hD⟩ := va_join (wr := []) (w1 := xw ad cI cZ 0 2 z0 z0 z0 z0 n0 n0 n0 z0 z0 z0 n0) hP hD [0] [] rfl rfl (by decide) (by decide) hk1 hFc hP1 hD1
  generalize H1 = H at hP hS ⊢
  have hP : va_P D vwCl (xw ad cI cZ 0 2 z0 z0 z0 z0 n0 n0 n0 z0 z0 z0 n0) H := hP
  have hD : va_D (fun q : Nat => s.heap.size ≤ q) (xw ad cI cZ 0 2 z0 z0 z0 z0 n0 n0 n0 z0 z0 z0 n0) := hD
  refine lv_astore_n (lv' := [(1, .ref (ad 0)), (0, .ref b)]) hx hb dL_law_7 rfl hl (by decide) rfl (fun ls hl => ?_)
  refine va_new (ci := 1) (fs := [.int (iI 0), .int (iI 0), .int (iI 0), .null, .null, .null, .null, .null, .null, .int (iI 0)]) (C := RX1) (T := TX1) (N := 10) hx hb hts0 inX1 tyX1 tyX1_ok hown (hts0 _ (List.mem_append_right _ (List.mem_of_getElem? (i := 445) (by decide +kernel)))) (hts0 _ (List.mem_append_right _ (List.mem_of_getElem? (i := 446) (by decide +kernel)))) (hts0 _ (List.mem_append_right _ (List.mem_of_getElem? (i := 2) (by decide +kernel)))) hK hP hD hS hA rfl (by decide +kernel) (Nat.le_of_ble_eq_true rfl) (Nat.le_of_ble_eq_true rfl) dL_law_8 (fun q1 H hP hD hS => ?_)
  have hP : va_P D vwCl (xw ad cI cZ 0 2 z0 z0 z0 z0 n0 n0 n0 z0 z0 z0 n0 ++ [(q1, .inr (1, [.int (iI 0), .int (iI 0), .int (iI 0), .null, .null, .null, .null, .null, .null, .int (iI 0)]))]) H := hP
  have hD : va_D (fun q : Nat => s.heap.size ≤ q) (xw ad cI cZ 0 2 z0 z0 z0 z0 n0 n0 n0 z0 z0 z0 n0 ++ [(q1, .inr (1, [.int (iI 0), .int (iI 0), .int (iI 0), .null, .null, .null, .null, .null, .null, .int (iI 0)]))]) := hD
  refine lv_dup hx hb dL_law_11 rfl ?_
  have hPc := hP.sub (ws' := [(q1, .inr (1, [.int (iI 0), .int (iI 0), .int (iI 0), .null, .null, .null, .null, .null, .null, .int (iI 0)]))]) [12] rfl
  have hDc := hD.sub (ws' := [(q1, .inr (1, [.int (iI 0), .int (iI 0), .int (iI 0), .null, .null, .null, .null, .null, .null, .int (iI 0)]))]) [12] (by decide) rfl
  have hFc := va_free (wc := [(q1, .inr (1, [.int (iI 0), .int (iI 0), .int (iI 0), .null, .null, .null, .null, .null, .null, .int (iI 0)]))]) hD hS hA [12] rfl
  refine va_callv (va_runI (As := []) (rest := [.ref q1]) ⟨hx, hb, hml, hown, hts⟩ (cX1 (l := l) (D := D) (cI := cI) (cZ := cZ) (cJ := cJ) (h0 := q1) H.size) (cwI 0 hts gL_law_X1_init rfl rfl rfl (hts0 _ (List.mem_append_right _ (List.mem_of_getElem? (i := 2) (by decide +kernel)))) (hts0 _ (List.mem_append_right _ (List.mem_of_getElem? (i := 447) (by decide +kernel)))) (hts0 _ (List.mem_append_right _ (List.mem_of_getElem? (i := 448) (by decide +kernel)))) rfl (by decide +kernel) ⟨Nat.le_of_ble_eq_true rfl, Nat.le_of_ble_eq_true rfl⟩) ⟨im_blind, fun U hU hW => ⟨rfl, by rw [hU], by rw [hU]; exact hPc, va_K.moved hW.alike hK, hDc.weaken (fun _ _ _ _ => trivial)⟩⟩ rfl rfl hl.1 rfl (lv_room (Nat.le_of_ble_eq_true rfl)) dL_law_12 ⟨Nat.le_of_ble_eq_true rfl, Nat.le_of_ble_eq_true rfl⟩) hS (fun q _ h => hFc q h) hFc (fun bd t H1 locs ht hvm hw hB hz1 hk1 hS => ?_)
  obtain ⟨hP1, hK1, hD1⟩ := hB
  rw [ht] at hP1
  subst hw
  obtain ⟨hP, hD⟩ := va_join (wr := xw ad cI cZ 0 2 z0 z0 z0 z0 n0 n0 n0 z0 z0 z0 n0) (w1 := mw bd cI 0 0 2 0 z0 n0 z0 z0 n0 n0) hP hD [12] [0, 1, 2, 3, 4, 5, 6, 7, 8, 9, 10, 11] rfl rfl (by decide) (by decide) hk1 hFc hP1 hD1
  generalize H1 = H at hP hS ⊢
  have hP : va_P D vwCl (xw ad cI cZ 0 2 z0 z0 z0 z0 n0 n0 n0 z0 z0 z0 n0 ++ mw bd cI 0 0 2 0 z0 n0 z0 z0 n0 n0) H := hP
  have hD : va_D (fun q : Nat => s.heap.size ≤ q) (xw ad cI cZ 0 2 z0 z0 z0 z0 n0 n0 n0 z0 z0 z0 n0 ++ mw bd cI 0 0 2 0 z0 n0 z0 z0 n0 n0) := hD
  refine lv_astore_n (lv' := [(2, .ref (bd 0)), (1, .ref (ad 0)), (0, .ref b)]) hx hb dL_law_15 rfl hl (by decide) rfl (fun ls hl => ?_)
  refine lv_iconst (v := iI 1) hx hb dL_law_16 rfl ?_
  refine w_new (atype := .long) (t0 := 2) hx hb (hts0 _ (List.mem_append_right _ (List.mem_of_getElem? (i := 693) (by decide +kernel)))) rfl (fun u hu z hz => by subst hu; exact hz) hK rfl hP hD hS hA 1 (1, .inr (.inl (fun _ => 0))) (fun cA => rfl) (by decide) (Nat.le_of_ble_eq_true rfl) (Nat.le_of_ble_eq_true rfl) (Nat.le_of_ble_eq_true rfl) dL_law_17 (fun b0 H hP hD hS => ?_)
  have hP : va_P D vwCl (LWW ad bd b0 cI cZ cJ 0 2 z0 z0 z0 z0 n0 n0 n0 z0 z0 z0 n0 0 0 2 0 z0 n0 z0 z0 n0 n0 (fun _ => 0)) H := hP
  have hD : va_D (fun q : Nat => s.heap.size ≤ q) (LWW ad bd b0 cI cZ cJ 0 2 z0 z0 z0 z0 n0 n0 n0 z0 z0 z0 n0 0 0 2 0 z0 n0 z0 z0 n0 n0 (fun _ => 0)) := hD
  refine lv_astore_n (lv' := [(3, .ref b0), (2, .ref (bd 0)), (1, .ref (ad 0)), (0, .ref b)]) hx hb dL_law_19 rfl hl (by decide) rfl (fun ls hl => ?_)
  refine lv_iconst (v := iI ((0 : Nat) : Int)) hx hb dL_law_20 rfl ?_
  refine lv_istore (lv' := [(4, .int (iI ((0 : Nat) : Int))), (3, .ref b0), (2, .ref (bd 0)), (1, .ref (ad 0)), (0, .ref b)]) hx hb dL_law_21 hl (by decide) rfl (fun ls hl => ?_)
  refine law_loop B hMO hl0 ?_ (L + 1) 0 _ _ _ _ _ _ _ _ _ _ _ _ _ _ _ _ _ _ _ _ _ _ _ _ _ ls (by omega) (Nat.zero_le _) (Nat.le_of_ble_eq_true rfl) (Nat.le_of_ble_eq_true rfl) linv0 hP hD hS hl
  intro H locs cells slots ls hc hs hS
  refine va_forget (fun q hq => hS.2.2 q hq) ?_
  refine W.widen (k := 1053) (n := 8592) hc hs ?_
  exact lw_ret (d0 := s.drawn) (Drawn.sameBut.refl s.drawn lw_cs) hx hb hr hlocks dL_law_1468
