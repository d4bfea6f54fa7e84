/-! contracts of what throws, and throws alone: nothing old is written -/
def sxL : List (Nat × String) := [(53, "there are 7 jobs"), (63, "the number of machines is out of range"), (133, "there is no such job"), (138, "there is no such machine"), (77, "the time is out of range"), (136, "there is no such place"), (94, "there are not 2 machines"), (140, "the variant is out of range"), (123, "the first machine is not less than the second one")]
def SX (sa : Nat → Nat) (U : State) : Prop := ∀ q ∈ sxL, vk_R RX0 q.1 q.2 (sa q.1) U
def FX (A : Nat → Prop) (U : State) (H : Heap) : Prop := vx_Zq Bundle.tN "UNASSIGNED_STACK" Bundle.steD A U H ∧ vx_Zq Bundle.tN "SUPPRESSED_SENTINEL" Bundle.listD A U H
def noA : Nat → Prop := fun _ => False
def nwC : List String := ["java/lang/IllegalStateException", "java/lang/IllegalArgumentException", "java/lang/IndexOutOfBoundsException"]
def nwD : List String := ["java/lang/RuntimeException", "java/lang/Exception", Bundle.tN]
/-- what the tables alone say of the classes thrown -/
def CX (U : State) : Prop := (∀ E ∈ nwC, va_Nw (.castable E E) U) ∧ (∀ Y ∈ nwD, va_Nw (.declares (Bundle.initS Y)) U) ∧ va_Nc "java/lang/IllegalArgumentException" "java/lang/IndexOutOfBoundsException" U ∧ va_Nc "java/lang/IndexOutOfBoundsException" "java/lang/IllegalArgumentException" U
theorem CX.warm {s U : State} (h : CX s) (hW : s.WarmedH U.vm) : CX U := ⟨fun E hE => (h.1 E hE).warmC hW, fun Y hY => (h.2.1 Y hY).warmD hW, h.2.2.1.moved hW.alike, h.2.2.2.moved hW.alike⟩
theorem CX.same {s U : State} (h : CX s) (hv : U.vm = s.vm) : CX U := ⟨fun E hE => (h.1 E hE).same rfl hv.symm, fun Y hY => (h.2.1 Y hY).same rfl hv.symm, h.2.2.1.moved (by rw [hv]; exact Vm.Alike.refl _), h.2.2.2.moved (by rw [hv]; exact Vm.Alike.refl _)⟩
def TX (sa : Nat → Nat) (U : State) (H : Heap) : Prop := FX noA U H ∧ SX sa U ∧ CX U
theorem TX.warm {sa : Nat → Nat} {s U : State} {H : Heap} (h : TX sa s H) (hW : s.WarmedH U.vm) : TX sa U H := ⟨⟨h.1.1.moved hW.alike, h.1.2.moved hW.alike⟩, fun q hq => (h.2.1 q hq).warm hW, h.2.2.warm hW⟩
theorem TX.same {sa : Nat → Nat} {s U : State} {H : Heap} (h : TX sa s H) (hv : U.vm = s.vm) : TX sa U H := ⟨⟨h.1.1.moved (by rw [hv]; exact Vm.Alike.refl _), h.1.2.moved (by rw [hv]; exact Vm.Alike.refl _)⟩, fun q hq => (h.2.1 q hq).same hv, h.2.2.same hv⟩
/-- the words of a throw, out of the method's own list and these -/
theorem tx_hat {args : Array Value} {s : State} {own E : String} {ic : Nat} (h : CX s) (hE : E ∈ nwC) (h1 : ∀ w ∈ (vx_atS own ic E ["java/lang/RuntimeException", "java/lang/Exception"]).filter goodWord, w.before args s = true)
    (h2 : ∀ w ∈ (vx_atS own ic E ["java/lang/RuntimeException", "java/lang/Exception"]).filter (fun w => !goodWord w), w ∈ [Cond.castable E E, .declares (Bundle.initS "java/lang/RuntimeException"), .declares (Bundle.initS "java/lang/Exception"), .declares (Bundle.initS Bundle.tN)]) : ∀ w ∈ vx_atS own ic E ["java/lang/RuntimeException", "java/lang/Exception"], w.before args s = true :=
  vx_hat h1 h2 (vx_c ((h.1 E hE).use rfl) (vx_c ((h.2.1 _ (List.mem_of_getElem? (i := 0) rfl)).use rfl) (vx_c ((h.2.1 _ (List.mem_of_getElem? (i := 1) rfl)).use rfl) (vx_c ((h.2.1 _ (List.mem_of_getElem? (i := 2) rfl)).use rfl) vx_n))))
theorem FX.kept {A : Nat → Prop} {U : State} {H H1 : Heap} (h : FX A U H) (hq : ∀ a : Nat, a < H.size → ¬ A a → H1[a]? = H[a]?) : FX A U H1 := ⟨h.1.kept hq, h.2.kept hq⟩
theorem FX.no {A : Nat → Prop} {U : State} {H : Heap} (h : FX A U H) : FX noA U H := ⟨h.1.narrow (fun _ q => q.elim), h.2.narrow (fun _ q => q.elim)⟩
def XE (E : String) : String → State → State → Prop := vx_X (fun _ : Unit => True) (fun E1 _ _ => E1 = E) noA
def TM (l : Launch) (y : MethodName) (wd : List Cond) (rm : Room) (D : va_G) (tys : List (ClassId × FieldType)) (ws : va_W) (av : List Value) (E : String) (sa : Nat → Nat) : Prop :=
  vx_Met l y wd rm (va_Pc av (fun U => va_P D vwCl ws U.heap ∧ va_K D vwCl tys U ∧ TX sa U U.heap)) (fun _ _ _ _ => False) (XE E) 1 6 (fun _ => False)
def rmt (f lo : Nat) : Room := { frames := f, cells := 1, slots := 6, locals := lo }
theorem tm_blind {D : va_G} {ws : va_W} {tys : List (ClassId × FieldType)} {sa : Nat → Nat} {av : List Value} : FrameBlind (va_Pc av (fun U => va_P D vwCl ws U.heap ∧ va_K D vwCl tys U ∧ TX sa U U.heap)) := fun a U g mk q => ⟨q.1, q.2.1, va_K.moved (u := U) (U := U.calling g mk a) (Vm.Alike.refl U.vm) q.2.2.1, q.2.2.2.same rfl⟩
section WT
variable {p : Program} {l : Launch} {e : Env} {R : Room} {s : State} {m : MethodId} {args : Array Value} {below : List Frame} {meth : Method} {c : Code} {H : Heap} {locs : List Loc} {cells slots : Nat} {Q : State → Prop}
variable {cc : ByteArray} {pc : Nat} {ls : Array Slot} {rest st0 : List Value} {D : va_G} {tys : List (ClassId × FieldType)} {ws wc : va_W} {E : String} {sa : Nat → Nat}
variable {y : MethodName} {bytes : ByteArray} {maxL nL n index : Nat} {ret : Option FieldType} {wd wd' Ts : List Cond} {rm : Room} {own C : String} {b : Addr} {As av : List Value} {a : Array Value}
theorem tm_run (hr : vx_Run p l e R s m args below meth c H locs cells slots 1 6 (F0 m pc ls st0) rest (fun _ _ _ => False) (XE E) (fun _ => False))
    (kx : ∀ (q : Addr) (ce : Cell) (H1 : Heap), H.size ≤ H1.size → (∀ z : Nat, z < H.size → H1[z]? = H[z]?) → H1[q]? = some ce → ce.vm = .none → s.vm.findClass E = some ce.cls → vx_W p l e R s m args below meth c H1 locs (cells + 1) (slots + 6) Q (F0 m pc ls rest) q) : W p l e R s m args below meth c H locs cells slots Q (F0 m pc ls st0) := by
  intro T hT X
  rcases hr T hT X with ⟨v, st₀, t, T', L, h0, X', hL, e1, e2, hF, st⟩ | ⟨q, st₀, t, T', L, E1, ce, h0, X', hL, e1, e2, ⟨u, hp, hb, hF⟩, hce, hcv, hcl, st⟩
  · exact hF.elim
  · obtain rfl : L = [] := List.eq_nil_iff_forall_not_mem.mpr hL
    rw [List.append_nil] at X'
    subst hb
    obtain ⟨hz, hk⟩ := hF
    rw [h0] at hz hk
    obtain ⟨t2, a1, b1⟩ := kx q ce T'.heap (by rw [e1]; exact hz) (fun z hz1 => by rw [e1]; exact hk z hz1 (fun h => h)) (by rw [e1]; exact hce) hcv hcl T' rfl X'
    exact ⟨t2, st.trans a1, b1⟩
theorem w_tV (S9 : CallFix p m c cc nL s args Ts own) (hK : va_K D vwCl tys s) (hP : va_P D vwCl ws H) (hT : TX sa s H) (hM : TM l y wd rm D tys wc (.ref b :: As) E sa) (cw : CallW R s args own C index y bytes maxL ret wd rm 1 6 n) (isC : List Nat) (hC1 : isC.map (fun i => ws[i]?) = wc.map some) {ci : Nat} {q : vw_C} {fs : List Value} (hc : vwCl[ci]? = some q) (he : wc[0]? = some (b, .inr (ci, fs))) (hC : q.1 = C) (hn : As.length = n) (hsz : ls.size = nL) (hst : st0 = As.reverse ++ .ref b :: rest) (hro : (rest.map fun v => v.category).sum ≤ 8) (hd : decode cc pc = .ok (.invokevirtual index, 3)) (hf : cells + 1 ≤ R.cells ∧ slots + 6 ≤ R.slots)
    (kx : ∀ (q : Addr) (ce : Cell) (H1 : Heap), H.size ≤ H1.size → (∀ z : Nat, z < H.size → H1[z]? = H[z]?) → H1[q]? = some ce → ce.vm = .none → s.vm.findClass E = some ce.cls → vx_W p l e R s m args below meth c H1 locs (cells + 1) (slots + 6) Q (F0 m pc ls rest) q) : W p l e R s m args below meth c H locs cells slots Q (F0 m pc ls st0) := by
  subst hC
  have hPc : va_P D vwCl wc H := hP.sub isC (w_fm hC1)
  exact tm_run (vx_runV (g := F0 m pc ls st0) (As := As) (rest := rest) S9 hM cw ⟨tm_blind, va_recv hK hPc hc he, fun U hU hW => ⟨rfl, by rw [hU]; exact hPc, va_K.moved hW.alike hK, by rw [hU]; exact hT.warm hW⟩⟩ rfl hn hsz hst (lv_room hro) hd hf) kx
theorem w_tS (S9 : CallFix p m c cc nL s args Ts own) (hK : va_K D vwCl tys s) (hP : va_P D vwCl ws H) (hT : TX sa s H) (hM : TM l y wd rm D tys wc As E sa) (cw : CallB R s args own index y bytes maxL ret wd rm 1 6 n ∧ (Cond.static y).before args s = true) (isC : List Nat) (hC1 : isC.map (fun i => ws[i]?) = wc.map some) (hn : As.length = n) (hsz : ls.size = nL) (hst : st0 = As.reverse ++ rest) (hro : (rest.map fun v => v.category).sum ≤ 8) (hd : decode cc pc = .ok (.invokestatic index, 3)) (hf : cells + 1 ≤ R.cells ∧ slots + 6 ≤ R.slots)
    (kx : ∀ (q : Addr) (ce : Cell) (H1 : Heap), H.size ≤ H1.size → (∀ z : Nat, z < H.size → H1[z]? = H[z]?) → H1[q]? = some ce → ce.vm = .none → s.vm.findClass E = some ce.cls → vx_W p l e R s m args below meth c H1 locs (cells + 1) (slots + 6) Q (F0 m pc ls rest) q) : W p l e R s m args below meth c H locs cells slots Q (F0 m pc ls st0) := by
  have hPc : va_P D vwCl wc H := hP.sub isC (w_fm hC1)
  exact tm_run (vx_runS (g := F0 m pc ls st0) (As := As) (rest := rest) S9 hM cw ⟨tm_blind, fun U hU hW => ⟨rfl, by rw [hU]; exact hPc, va_K.moved hW.alike hK, by rw [hU]; exact hT.warm hW⟩⟩ rfl hn hsz hst (lv_room hro) hd hf) kx
/-- the throw itself, from the method's own start -/
def TS (p : Program) (l : Launch) (e : Env) (R : Room) (s : State) (m : MethodId) (args : Array Value) (below : List Frame) (meth : Method) (c : Code) (Q : State → Prop) (own E : String) (cc : ByteArray) (maxL : Nat) : Prop :=
  ∀ (pc ik is ic sa : Nat) (text : String) (ls : Array Slot), Bundle.fit E = true → (Cond.classLink own ik E).before args s = true → (Cond.initialized E).before args s = true → vk_R own is text sa s → (∀ w ∈ vx_atS own ic E ["java/lang/RuntimeException", "java/lang/Exception"], w.before args s = true) → (∀ w ∈ Cond.classLink own ik E :: Cond.initialized E :: vx_atS own ic E ["java/lang/RuntimeException", "java/lang/Exception"], vx_ot w = true) → ls.size = maxL →
    decode cc pc = .ok (.new ik, 3) → decode cc (pc + 3) = .ok (.dup, 1) → decode cc (pc + 4) = .ok (.ldc is, 2) → decode cc (pc + 6) = .ok (.invokespecial ic, 3) → decode cc (pc + 9) = .ok (.athrow, 1) → 6 ≤ R.frames → 82 ≤ R.locals → 1 ≤ R.cells → 6 ≤ R.slots → W p l e R s m args below meth c s.heap [] 0 0 Q (F0 m pc ls [])
/-- what goes through -/
def TO (p : Program) (l : Launch) (e : Env) (R : Room) (s : State) (m : MethodId) (args : Array Value) (below : List Frame) (meth : Method) (c : Code) (Q : State → Prop) (E : String) : Prop :=
  ∀ (pc : Nat) (ls : Array Slot) (rest : List Value) (q : Addr) (ce : Cell) (H1 : Heap), s.heap.size ≤ H1.size → (∀ z : Nat, z < s.heap.size → H1[z]? = s.heap[z]?) → H1[q]? = some ce → ce.vm = .none → s.vm.findClass E = some ce.cls → vx_W p l e R s m args below meth c H1 [] 1 6 Q (F0 m pc ls rest) q
theorem tm_of (hl0 : l.stackTraces = false) (hy : plainName y.cls = true) (hw : wd = Cond.code y cc maxL ret :: wd') (hlen : (lg_sl av).length ≤ maxL)
    (body : ∀ (p : Program) (e : Env) (s : State) (m : MethodId) (args : Array Value) (below : List Frame) (meth : Method) (c : Code) (Q : State → Prop), p.tables.exec = Jvm.exec → c.code = cc → c.maxLocals = maxL → s.vm.findClass y.cls = some m.cls → (∀ w ∈ wd, w.before args s = true) → va_K D vwCl tys s → va_P D vwCl ws s.heap → TX sa s s.heap →
      TS p l e rm s m args below meth c Q y.cls E cc maxL → TO p l e rm s m args below meth c Q E →
      ∀ ls : Array Slot, lv_has ls maxL (lv_args 0 av) → W p l e rm s m args below meth c s.heap [] 0 0 Q (F0 m 0 ls [])) : TM l y wd rm D tys ws av E sa := by
  refine vx_ofW (cc := cc) (maxL := maxL) (ret := ret) hy hw ?_
  intro p e s m args below meth c s₁ B hml htab hv
  obtain ⟨rfl, hP, hK, hT⟩ := hv
  have hl := lv_entry av (n := maxL) hlen
  rw [lg_entry_eq]
  have hout : ∀ (pc : Nat), ∀ x ∈ c.exceptionTable.toList, covers x pc = false := fun pc x hx => (htab x hx).elim
  refine body p e s m _ below meth c _ B.exec B.bytes hml (findClass_of_methodNamed B.named) (atoms_spec (ws := wd) B.pre) hK hP hT ?_ ?_ _ hl
  · intro pc ik is ic sa text ls hcls hk hini hstr hat hgood hsize d0 d3 d4 d6 d9 r1 r2 r3 r4
    exact vx_throwS (A := noA) B.exec B.bytes hl0 (findClass_of_methodNamed B.named) hcls (by decide +kernel) hk hini hstr hat hgood hT.1.1 hT.1.2 va_S.rf (by rw [hsize, hml]) d0 d3 d4 d6 d9 (hout _) (by show 2 + 3 < _; exact r1) (by show 0 + (13 * (2 + 1) + 43) ≤ _; exact r2) (by rw [Nat.zero_add]; exact r3) (by rw [Nat.zero_add]; exact r4) B.notSynchronized (fun t hA hz hq => ⟨(), trivial, rfl, hz, fun q hq1 _ => hq q hq1⟩) (fun z hz => nomatch hz) (Nat.le_refl _) (Nat.le_refl _)
  · intro pc ls rest q ce H1 hz hq hce hcv hcl
    exact vx_out (hout _) B.notSynchronized hce hcv hcl (fun t ht hA => ⟨(), trivial, rfl, by rw [ht]; exact hz, fun q hq1 _ => by rw [ht]; exact hq q hq1⟩) (fun z hz => nomatch hz) (Nat.le_refl _) (Nat.le_refl _)
end WT
