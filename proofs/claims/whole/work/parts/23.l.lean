/-! contracts of the law's own helpers: static, with a table of their own; they never throw -/
def lS (f : Nat → Int64) (z : Int) : Nat → Int64 := vp_updL f (iI 0).toNatClampNeg (iI z).toInt64
theorem lS_0 (f : Nat → Int64) (z : Int) : lS f z 0 = (iI z).toInt64 := by
  unfold lS
  rw [show (iI 0).toNatClampNeg = 0 by decide +kernel]
  unfold vp_updL
  rw [if_pos rfl]
def LM (l : Launch) (y : MethodName) (wd : List Cond) (rm : Room) (D : va_G) (tys : List (ClassId × FieldType)) (ws : va_W) (av : List Value) (sa : Nat → Nat) (Qc : (Nat → Prop) → Array Value → State → Outcome → State → Prop) : Prop :=
  ∀ sz : Nat, vx_Met l y wd rm (va_Pc av (fun U => U.heap.size = sz ∧ va_P D vwCl ws U.heap ∧ va_K D vwCl tys U ∧ va_D (fun _ => True) ws ∧ TX sa U U.heap)) (Qc (va_A ws sz)) (fun _ _ _ => False) 1 6 (va_A ws sz)
theorem lm_blind {D : va_G} {wc : va_W} {tys : List (ClassId × FieldType)} {sa : Nat → Nat} {av : List Value} {sz : Nat} : FrameBlind (va_Pc av (fun U => U.heap.size = sz ∧ va_P D vwCl wc U.heap ∧ va_K D vwCl tys U ∧ va_D (fun _ => True) wc ∧ TX sa U U.heap)) := fun a U g mk q => ⟨q.1, q.2.1, q.2.2.1, va_K.moved (u := U) (U := U.calling g mk a) (Vm.Alike.refl U.vm) q.2.2.2.1, q.2.2.2.2.1, q.2.2.2.2.2.same rfl⟩
section WL
variable {p : Program} {l : Launch} {e : Env} {R : Room} {s : State} {m : MethodId} {args : Array Value} {below : List Frame} {meth : Method} {c : Code} {H : Heap} {locs : List Loc} {cells slots : Nat} {Q : State → Prop}
variable {cc : ByteArray} {pc : Nat} {ls : Array Slot} {rest st0 : List Value} {D : va_G} {tys : List (ClassId × FieldType)} {ws wc wr : va_W} {sa : Nat → Nat} {A : Nat → Prop} {hh : List (Nat × Nat × Nat × Nat)}
variable {y : MethodName} {bytes : ByteArray} {maxL nL n index : Nat} {ret : Option FieldType} {wd wd' Ts : List Cond} {rm : Room} {own C : String} {b : Addr} {As av : List Value} {S : Type} {out : S → va_W}
theorem lm_of {post : Int32 → S → Prop} (hy : plainName y.cls = true) (hw : wd = Cond.codeWith y cc maxL (some .int) hh :: wd') (hlen : (lg_sl av).length ≤ maxL)
    (body : ∀ (p : Program) (e : Env) (s : State) (m : MethodId) (args : Array Value) (below : List Frame) (meth : Method) (c : Code) (A : Nat → Prop) (Q : State → Prop), p.tables.exec = Jvm.exec → c.code = cc → c.maxLocals = maxL → s.vm.findClass y.cls = some m.cls → (∀ w ∈ wd, w.before args s = true) → c.exceptionTable.toList = tableOf hh → (∀ q : Nat, s.heap.size ≤ q → A q) → va_K D vwCl tys s → va_P D vwCl ws s.heap → va_D A ws → va_S A s.heap s.heap [] → TX sa s s.heap →
      (∀ (H : Heap) (locs : List Loc) (cells slots pc : Nat) (ls : Array Slot) (v : Int32) (u : S), cells ≤ 1 → slots ≤ 6 → va_P D vwCl (out u) H → va_D A (out u) → va_S A s.heap H locs → post v u → decode cc pc = .ok (.ireturn, 1) → W p l e rm s m args below meth c H locs cells slots Q (F0 m pc ls [.int v])) →
      ∀ ls : Array Slot, lv_has ls maxL (lv_args 0 av) → W p l e rm s m args below meth c s.heap [] 0 0 Q (F0 m 0 ls [])) : LM l y wd rm D tys ws av sa (QI D tys out post) := by
  intro sz
  refine vx_ofWH (cc := cc) (maxL := maxL) (ret := some .int) (hh := hh) hy hw ?_
  intro p e s m args below meth c s₁ B hml hv
  obtain ⟨rfl, hsz, hP, hK, hD0, hT⟩ := hv
  subst hsz
  have hl := lv_entry av (n := maxL) hlen
  rw [lg_entry_eq]
  have hts : ∀ w ∈ wd, w.before _ s = true := atoms_spec (ws := wd) B.pre
  have htab := vx_table (x := y) B (hts _ (by rw [hw]; exact List.mem_cons_self))
  refine body p e s m _ below meth c _ _ B.exec B.bytes hml (findClass_of_methodNamed B.named) hts htab (fun q h => Or.inr h) hK hP (hD0.self (sz := s.heap.size)) va_S.rf hT ?_ _ hl
  intro H locs cells slots pc ls v u h1 h2 hP1 hD1 hS1 hpost hd
  refine W.widen (k := 1) (n := 6) h1 h2 ?_
  exact vx_ret (W.iret (v := v) B.exec B.bytes B.returns (fun t ht hW => ⟨⟨v, u, rfl, hpost, by rw [ht]; exact hP1, va_K.moved hW.alike hK, hD1⟩, hS1.F ht⟩) hS1.2.2 hd)
/-- the world behind what only grew -/
theorem w_grow {H1 : Heap} (hP : va_P D vwCl ws H) (hq : ∀ z : Nat, z < H.size → H1[z]? = H[z]?) : va_P D vwCl ws H1 := hP.kept (fun k q hk => hq q.1 (vx_lt hP hk))
theorem w_growS {H0 H1 : Heap} (hS : va_S A H0 H locs) (hz : H.size ≤ H1.size) (hq : ∀ z : Nat, z < H.size → H1[z]? = H[z]?) : va_S A H0 H1 locs := ⟨Nat.le_trans hS.1 hz, fun q h1 h2 => (hq q (Nat.lt_of_lt_of_le h1 hS.1)).trans (hS.2.1 q h1 h2), hS.2.2⟩
/-- a helper called by the law -/
theorem w_lS {post : Int32 → S → Prop} (S9 : CallFix p m c cc nL s args Ts own) (hK : va_K D vwCl tys s) (hP : va_P D vwCl ws H) (hD : va_D A ws) (hS : va_S A s.heap H locs) (hA : ∀ q : Nat, s.heap.size ≤ q → A q) (hT : TX sa s H) (hM : LM l y wd rm D tys wc As sa (QI D tys out post)) (cw : vx_CSW R s args own index y bytes maxL ret hh wd rm 1 6 n)
    (isC isR pf : List Nat) (hC1 : isC.map (fun i => ws[i]?) = wc.map some) (hR1 : isR.map (fun i => ws[i]?) = wr.map some) (hn1 : va_nd isR = true) (hn2 : va_nd isC = true) (hdis : ∀ i ∈ isR, i ∉ isC) (wf : S → va_W) (hwf : ∀ u, pf.map (fun i => (wr ++ out u)[i]?) = (wf u).map some) (hn3 : va_nd pf = true)
    (hn : As.length = n) (hsz : ls.size = nL) (hst : st0 = As.reverse ++ rest) (hro : (rest.map fun v => v.category).sum ≤ 8) (hd : decode cc pc = .ok (.invokestatic index, 3)) (hf : cells + 1 ≤ R.cells ∧ slots + 6 ≤ R.slots)
    (kk : ∀ (r : Int32) (u : S) (H1 : Heap) (locs1 : List Loc), post r u → va_P D vwCl (wf u) H1 → va_D A (wf u) → va_S A s.heap H1 locs1 → W p l e R s m args below meth c H1 locs1 (cells + 1) (slots + 6) Q (F0 m (pc + 3) ls (.int r :: rest))) : W p l e R s m args below meth c H locs cells slots Q (F0 m pc ls st0) := by
  have hPc : va_P D vwCl wc H := hP.sub isC (w_fm hC1)
  have hDc : va_D (fun _ => True) wc := (hD.sub isC hn2 hC1).weaken (fun _ _ _ _ => trivial)
  have hFc := va_free (wc := wc) hD hS hA isC hC1
  have hr := vx_runSX (e := e) (below := below) (meth := meth) (locs := locs) (g := F0 m pc ls st0) (As := As) (rest := rest) S9 (hM H.size) cw ⟨lm_blind, fun U hU hW => ⟨rfl, by rw [hU], by rw [hU]; exact hPc, va_K.moved hW.alike hK, hDc, by rw [hU]; exact hT.warm hW⟩⟩ rfl hn hsz hst (lv_room hro) hd hf
  intro T hT1 X
  rcases hr T hT1 X with ⟨v, st₀, t, T', L, h0, X', hL, e1, e2, ⟨⟨r, u, hv, hp, hb⟩, hF⟩, st⟩ | ⟨q, st₀, t, T', L, E1, ce, h0, X', hL, e1, e2, hF, hce, hcv, hcl, st⟩
  · cases hv
    obtain ⟨k1, k2, k3⟩ := vx_keep h0 e1 hS (fun q _ h => hFc q h) hFc hL hF
    obtain ⟨hP1, hK1, hD1⟩ := hb
    rw [← e1] at hP1
    obtain ⟨hP2, hD2⟩ := va_join (wr := wr) (w1 := out u) hP hD isC isR hC1 hR1 hn1 hdis k2 hFc hP1 hD1
    obtain ⟨t2, a1, b1⟩ := kk r u T'.heap (locs ++ L) hp (hP2.sub pf (w_fm (hwf u))) (hD2.sub pf hn3 (hwf u)) k3 T' rfl X'
    exact ⟨t2, st t2 a1, b1⟩
  · exact hF.elim
end WL
