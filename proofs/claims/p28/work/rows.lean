section
-- ===== PART A: goes FIRST, ahead of the names: the tables' words, and 'selects' of the private methods out of them =====
/-- a private method of a class that the tables say can be made, by its rows of tables_1 -/
def lw_okq (q : MethodName × Nat) : Prop := (q.1.cls ≠ "java/lang/invoke/MethodHandle" ∧ q.1.cls ≠ "java/lang/invoke/VarHandle") ∧ Cond.instantiable q.1.cls q.2 ∈ tables_1 ∧ Cond.privateMethod q.1 ∈ tables_1 ∧ Cond.instanceMethod q.1 ∈ tables_1
theorem lw_p0 : lw_okq (⟨"java/lang/Throwable", "fillInStackTrace", "(I)Ljava/lang/Throwable;"⟩, 6) := ⟨⟨by decide +kernel, by decide +kernel⟩, List.mem_of_getElem? (i := 103) (by decide +kernel), List.mem_of_getElem? (i := 101) (by decide +kernel), List.mem_of_getElem? (i := 102) (by decide +kernel)⟩
theorem lw_p1 : lw_okq (⟨"Flowforge", "forgetBestOrders", "()V"⟩, 13) := ⟨⟨by decide +kernel, by decide +kernel⟩, List.mem_of_getElem? (i := 11) (by decide +kernel), List.mem_of_getElem? (i := 133) (by decide +kernel), List.mem_of_getElem? (i := 134) (by decide +kernel)⟩
theorem lw_p2 : lw_okq (⟨"Flowforge", "requireJob", "(I)V"⟩, 13) := ⟨⟨by decide +kernel, by decide +kernel⟩, List.mem_of_getElem? (i := 11) (by decide +kernel), List.mem_of_getElem? (i := 164) (by decide +kernel), List.mem_of_getElem? (i := 165) (by decide +kernel)⟩
theorem lw_p3 : lw_okq (⟨"Flowforge", "requireMachine", "(I)V"⟩, 13) := ⟨⟨by decide +kernel, by decide +kernel⟩, List.mem_of_getElem? (i := 11) (by decide +kernel), List.mem_of_getElem? (i := 184) (by decide +kernel), List.mem_of_getElem? (i := 185) (by decide +kernel)⟩
theorem lw_p4 : lw_okq (⟨"Flowforge", "findBestOrder", "(I)V"⟩, 13) := ⟨⟨by decide +kernel, by decide +kernel⟩, List.mem_of_getElem? (i := 11) (by decide +kernel), List.mem_of_getElem? (i := 212) (by decide +kernel), List.mem_of_getElem? (i := 213) (by decide +kernel)⟩
theorem lw_p5 : lw_okq (⟨"Flowforge", "scheduleJob", "(III)V"⟩, 13) := ⟨⟨by decide +kernel, by decide +kernel⟩, List.mem_of_getElem? (i := 11) (by decide +kernel), List.mem_of_getElem? (i := 216) (by decide +kernel), List.mem_of_getElem? (i := 217) (by decide +kernel)⟩
theorem lw_p6 : lw_okq (⟨"Flowforge", "beginWithoutWaiting", "(II)I"⟩, 13) := ⟨⟨by decide +kernel, by decide +kernel⟩, List.mem_of_getElem? (i := 11) (by decide +kernel), List.mem_of_getElem? (i := 220) (by decide +kernel), List.mem_of_getElem? (i := 221) (by decide +kernel)⟩
theorem lw_p7 : lw_okq (⟨"Flowforge", "freeFrom", "(III)I"⟩, 13) := ⟨⟨by decide +kernel, by decide +kernel⟩, List.mem_of_getElem? (i := 11) (by decide +kernel), List.mem_of_getElem? (i := 224) (by decide +kernel), List.mem_of_getElem? (i := 225) (by decide +kernel)⟩
theorem lw_p8 : lw_okq (⟨"Flowforge", "timeOf", "(II)I"⟩, 13) := ⟨⟨by decide +kernel, by decide +kernel⟩, List.mem_of_getElem? (i := 11) (by decide +kernel), List.mem_of_getElem? (i := 231) (by decide +kernel), List.mem_of_getElem? (i := 232) (by decide +kernel)⟩
theorem lw_p9 : lw_okq (⟨"Flowforge", "lastEnd", "(I)I"⟩, 13) := ⟨⟨by decide +kernel, by decide +kernel⟩, List.mem_of_getElem? (i := 11) (by decide +kernel), List.mem_of_getElem? (i := 235) (by decide +kernel), List.mem_of_getElem? (i := 236) (by decide +kernel)⟩
theorem lw_p10 : lw_okq (⟨"Flowforge", "countTrial", "(II)V"⟩, 13) := ⟨⟨by decide +kernel, by decide +kernel⟩, List.mem_of_getElem? (i := 11) (by decide +kernel), List.mem_of_getElem? (i := 239) (by decide +kernel), List.mem_of_getElem? (i := 240) (by decide +kernel)⟩
theorem lw_p11 : lw_okq (⟨"Flowforge", "stepTrial", "()I"⟩, 13) := ⟨⟨by decide +kernel, by decide +kernel⟩, List.mem_of_getElem? (i := 11) (by decide +kernel), List.mem_of_getElem? (i := 246) (by decide +kernel), List.mem_of_getElem? (i := 247) (by decide +kernel)⟩
theorem lw_p12 : lw_okq (⟨"Flowforge", "swapInTrial", "(II)V"⟩, 13) := ⟨⟨by decide +kernel, by decide +kernel⟩, List.mem_of_getElem? (i := 11) (by decide +kernel), List.mem_of_getElem? (i := 250) (by decide +kernel), List.mem_of_getElem? (i := 251) (by decide +kernel)⟩
theorem lw_p13 : lw_okq (⟨"Flowforge", "scheduleOrder", "(I)I"⟩, 13) := ⟨⟨by decide +kernel, by decide +kernel⟩, List.mem_of_getElem? (i := 11) (by decide +kernel), List.mem_of_getElem? (i := 258) (by decide +kernel), List.mem_of_getElem? (i := 259) (by decide +kernel)⟩
theorem lw_p14 : lw_okq (⟨"Flowforge", "loadOf", "(I)I"⟩, 13) := ⟨⟨by decide +kernel, by decide +kernel⟩, List.mem_of_getElem? (i := 11) (by decide +kernel), List.mem_of_getElem? (i := 270) (by decide +kernel), List.mem_of_getElem? (i := 271) (by decide +kernel)⟩
theorem lw_p15 : lw_okq (⟨"Flowforge", "leastSum", "(II)I"⟩, 13) := ⟨⟨by decide +kernel, by decide +kernel⟩, List.mem_of_getElem? (i := 11) (by decide +kernel), List.mem_of_getElem? (i := 274) (by decide +kernel), List.mem_of_getElem? (i := 275) (by decide +kernel)⟩
def lw_privs_1 : List (MethodName × Nat) := [(⟨"java/lang/Throwable", "fillInStackTrace", "(I)Ljava/lang/Throwable;"⟩, 6), (⟨"Flowforge", "forgetBestOrders", "()V"⟩, 13), (⟨"Flowforge", "requireJob", "(I)V"⟩, 13), (⟨"Flowforge", "requireMachine", "(I)V"⟩, 13), (⟨"Flowforge", "findBestOrder", "(I)V"⟩, 13), (⟨"Flowforge", "scheduleJob", "(III)V"⟩, 13), (⟨"Flowforge", "beginWithoutWaiting", "(II)I"⟩, 13), (⟨"Flowforge", "freeFrom", "(III)I"⟩, 13), (⟨"Flowforge", "timeOf", "(II)I"⟩, 13), (⟨"Flowforge", "lastEnd", "(I)I"⟩, 13), (⟨"Flowforge", "countTrial", "(II)V"⟩, 13), (⟨"Flowforge", "stepTrial", "()I"⟩, 13), (⟨"Flowforge", "swapInTrial", "(II)V"⟩, 13), (⟨"Flowforge", "scheduleOrder", "(I)I"⟩, 13), (⟨"Flowforge", "loadOf", "(I)I"⟩, 13), (⟨"Flowforge", "leastSum", "(II)I"⟩, 13)]
theorem lw_r1 : ∀ q ∈ lw_privs_1, lw_okq q := List.forall_mem_cons.mpr ⟨lw_p0, List.forall_mem_cons.mpr ⟨lw_p1, List.forall_mem_cons.mpr ⟨lw_p2, List.forall_mem_cons.mpr ⟨lw_p3, List.forall_mem_cons.mpr ⟨lw_p4, List.forall_mem_cons.mpr ⟨lw_p5, List.forall_mem_cons.mpr ⟨lw_p6, List.forall_mem_cons.mpr ⟨lw_p7, List.forall_mem_cons.mpr ⟨lw_p8, List.forall_mem_cons.mpr ⟨lw_p9, List.forall_mem_cons.mpr ⟨lw_p10, List.forall_mem_cons.mpr ⟨lw_p11, List.forall_mem_cons.mpr ⟨lw_p12, List.forall_mem_cons.mpr ⟨lw_p13, List.forall_mem_cons.mpr ⟨lw_p14, List.forall_mem_cons.mpr ⟨lw_p15, fun _ h => absurd h List.not_mem_nil⟩⟩⟩⟩⟩⟩⟩⟩⟩⟩⟩⟩⟩⟩⟩⟩
theorem lw_p16 : lw_okq (⟨"Flowforge", "sumOf", "(III)I"⟩, 13) := ⟨⟨by decide +kernel, by decide +kernel⟩, List.mem_of_getElem? (i := 11) (by decide +kernel), List.mem_of_getElem? (i := 278) (by decide +kernel), List.mem_of_getElem? (i := 279) (by decide +kernel)⟩
theorem lw_p17 : lw_okq (⟨"Flowforge", "leastOfPair", "(II)I"⟩, 13) := ⟨⟨by decide +kernel, by decide +kernel⟩, List.mem_of_getElem? (i := 11) (by decide +kernel), List.mem_of_getElem? (i := 290) (by decide +kernel), List.mem_of_getElem? (i := 291) (by decide +kernel)⟩
theorem lw_p18 : lw_okq (⟨"Flowforge", "fillByRule", "([III)V"⟩, 13) := ⟨⟨by decide +kernel, by decide +kernel⟩, List.mem_of_getElem? (i := 11) (by decide +kernel), List.mem_of_getElem? (i := 294) (by decide +kernel), List.mem_of_getElem? (i := 295) (by decide +kernel)⟩
theorem lw_p19 : lw_okq (⟨"Flowforge", "goesBefore", "(IIII)Z"⟩, 13) := ⟨⟨by decide +kernel, by decide +kernel⟩, List.mem_of_getElem? (i := 11) (by decide +kernel), List.mem_of_getElem? (i := 298) (by decide +kernel), List.mem_of_getElem? (i := 299) (by decide +kernel)⟩
theorem lw_p20 : lw_okq (⟨"Flowforge", "requirePlace", "(I)V"⟩, 13) := ⟨⟨by decide +kernel, by decide +kernel⟩, List.mem_of_getElem? (i := 11) (by decide +kernel), List.mem_of_getElem? (i := 309) (by decide +kernel), List.mem_of_getElem? (i := 310) (by decide +kernel)⟩
theorem lw_p21 : lw_okq (⟨"Flowforge", "placeOf", "(I)I"⟩, 13) := ⟨⟨by decide +kernel, by decide +kernel⟩, List.mem_of_getElem? (i := 11) (by decide +kernel), List.mem_of_getElem? (i := 318) (by decide +kernel), List.mem_of_getElem? (i := 319) (by decide +kernel)⟩
theorem lw_p22 : lw_okq (⟨"Flowforge", "makespanIfShifted", "(III)I"⟩, 13) := ⟨⟨by decide +kernel, by decide +kernel⟩, List.mem_of_getElem? (i := 11) (by decide +kernel), List.mem_of_getElem? (i := 337) (by decide +kernel), List.mem_of_getElem? (i := 338) (by decide +kernel)⟩
theorem lw_p23 : lw_okq (⟨"Flowforge", "fillQueueBySum", "()V"⟩, 13) := ⟨⟨by decide +kernel, by decide +kernel⟩, List.mem_of_getElem? (i := 11) (by decide +kernel), List.mem_of_getElem? (i := 348) (by decide +kernel), List.mem_of_getElem? (i := 349) (by decide +kernel)⟩
theorem lw_p24 : lw_okq (⟨"Flowforge", "placeForLast", "(I)I"⟩, 13) := ⟨⟨by decide +kernel, by decide +kernel⟩, List.mem_of_getElem? (i := 11) (by decide +kernel), List.mem_of_getElem? (i := 352) (by decide +kernel), List.mem_of_getElem? (i := 353) (by decide +kernel)⟩
def lw_privs_2 : List (MethodName × Nat) := [(⟨"Flowforge", "sumOf", "(III)I"⟩, 13), (⟨"Flowforge", "leastOfPair", "(II)I"⟩, 13), (⟨"Flowforge", "fillByRule", "([III)V"⟩, 13), (⟨"Flowforge", "goesBefore", "(IIII)Z"⟩, 13), (⟨"Flowforge", "requirePlace", "(I)V"⟩, 13), (⟨"Flowforge", "placeOf", "(I)I"⟩, 13), (⟨"Flowforge", "makespanIfShifted", "(III)I"⟩, 13), (⟨"Flowforge", "fillQueueBySum", "()V"⟩, 13), (⟨"Flowforge", "placeForLast", "(I)I"⟩, 13)]
theorem lw_r2 : ∀ q ∈ lw_privs_2, lw_okq q := List.forall_mem_cons.mpr ⟨lw_p16, List.forall_mem_cons.mpr ⟨lw_p17, List.forall_mem_cons.mpr ⟨lw_p18, List.forall_mem_cons.mpr ⟨lw_p19, List.forall_mem_cons.mpr ⟨lw_p20, List.forall_mem_cons.mpr ⟨lw_p21, List.forall_mem_cons.mpr ⟨lw_p22, List.forall_mem_cons.mpr ⟨lw_p23, List.forall_mem_cons.mpr ⟨lw_p24, fun _ h => absurd h List.not_mem_nil⟩⟩⟩⟩⟩⟩⟩⟩⟩
def lw_privs : List (MethodName × Nat) := lw_privs_1 ++ (lw_privs_2)
def lw_tbl : List Cond := k2_sels lw_privs ++ tables_1
theorem lw_privs_ok : ∀ q ∈ lw_privs, lw_okq q := by
  show ∀ q ∈ lw_privs_1 ++ (lw_privs_2), lw_okq q
  exact List.forall_mem_append.mpr ⟨lw_r1, lw_r2⟩
/-- the streams that the claim lets the run draw from -/
abbrev lw_cs : List Choice := [Jvm.Choice.named "NaN.bits"]
theorem lw_bits : nanBits ∈ lw_cs := by first | decide | exact List.mem_cons_self | simp [lw_cs, nanBits]
end
section
/-! ===== BEGIN words of one list among another's, by their places ===== -/
theorem goodIn_r {big : List Cond} (ws : List Cond) (ps : List Nat) (hp : ws = ps.filterMap (fun i => big[i]?)) (h : ws.all goodWord = true) : GoodIn big ws := by
  intro w hw
  have h1 := List.all_eq_true.mp h w hw
  rw [hp] at hw
  obtain ⟨i, -, hi⟩ := List.mem_filterMap.mp hw
  have hm : w ∈ big := by first | exact List.mem_of_getElem? hi | exact List.getElem?_mem hi
  exact ⟨hm, good_of_word h1⟩
theorem goodIn_app {big a b : List Cond} (ha : GoodIn big a) (hb : GoodIn big b) : GoodIn big (a ++ b) := fun w h => (List.mem_append.mp h).elim (ha w) (hb w)
theorem goodIn_ca {big a b : List Cond} {c : Cond} (ha : GoodIn big (c :: a)) (hb : GoodIn big b) : GoodIn big (c :: (a ++ b)) := fun w h => (List.mem_cons.mp h).elim (fun e => ha w (List.mem_cons.mpr (Or.inl e))) (fun h => (List.mem_append.mp h).elim (fun h => ha w (List.mem_cons.mpr (Or.inr h))) (hb w))
theorem goodIn_sub {big ws : List Cond} (hm : ∀ w ∈ ws, w ∈ big) (h : ws.all goodWord = true) : GoodIn big ws := fun w hw => ⟨hm w hw, good_of_word (List.all_eq_true.mp h w hw)⟩
/-! ===== END ===== -/

/-! ===== BEGIN exceptions that leave a method, and their catching by the caller (launches without stack traces) ===== -/
section VXA
/-! The laws vx_back, vx_callV, vx_callS, vx_callSW, vx_throw0, vx_throwS follow proofs of the library, with one case more: JvmDerived/Free/Laws.lean (Back.of_free), Shelf42/LK1.lean (callV, callS), Shelf/KitTraced.lean (throwNew0V, throwNewS). -/
/-- where a method has thrown q: the class by its name, the cell, what was written, the world -/
def vx_T (XC : String → State → State → Prop) (st : State) (q : Addr) (t : State) (mc ms : Nat) (free : Addr → Prop) : Prop :=
  ∃ (E : String) (ce : Cell) (L : List Loc), XC E st t ∧ t.heap[q]? = some ce ∧ ce.vm = .none ∧ st.vm.findClass E = some ce.cls ∧ st.WarmedH t.vm ∧ st.sameButNew ({ t with vm := st.vm } : State) L mc ms ∧ ∀ z ∈ L, free z.base
def vx_Q (Qc : Array Value → State → Outcome → State → Prop) (XC : String → State → State → Prop) (mc ms : Nat) (free : Addr → Prop) : Array Value → State → Outcome → State → Prop := fun a st o t =>
  (Qc a st o t ∧ ∃ L, FrameEnd st o t L mc ms ∧ ∀ q ∈ L, free q.base) ∨ ∃ q, o = .threw q ∧ vx_T XC st q t mc ms free
/-- a callee that returns or throws -/
def vx_Met (l : Launch) (y : MethodName) (ws : List Cond) (rm : Room) (Pc : Array Value → State → Prop) (Qc : Array Value → State → Outcome → State → Prop) (XC : String → State → State → Prop) (mc ms : Nat) (free : Addr → Prop) : Prop :=
  MetFree l y (headSpec ws rm) Pc (fun _ _ _ _ _ => True) (vx_Q Qc XC mc ms free)
def vx_Post (XC : String → State → State → Prop) (mc ms : Nat) (free : Addr → Prop) : Pt → Array Value → Addr → Pt → Prop := fun A a q B =>
  ∃ (g : JFrame) (mk : MethodId) (t : State) (L : List Loc) (E : String) (ce : Cell), B.U.heap = t.heap ∧ B.U.vm = t.vm ∧ XC E (A.U.calling g mk a) t ∧ t.heap[q]? = some ce ∧ ce.vm = .none ∧ A.U.vm.findClass E = some ce.cls ∧ B.locs = A.locs ++ L ∧ (∀ z ∈ L, free z.base) ∧ B.cells = A.cells + mc ∧ B.slots = A.slots + ms
def vx_Back (l : Launch) (R : Room) (p : Program) (e : Env) (below : List Frame) (s : State) (sargs : Array Value) (y : MethodName) (len W9 : Nat)
    (Pre : Pt → Array Value → Prop) (Post : Pt → Array Value → Option Value → Pt → Prop) (PostX : Pt → Array Value → Addr → Pt → Prop) : Prop :=
  ∀ (m : MethodId) (meth : Method) (c : Code) (A : Pt) (g : JFrame) (ig : Instr) (mk : MethodId) (a : Array Value),
    Stand p l e R s m sargs below meth c A.U A.locs A.cells A.slots → g.method = m → g.locals.size = c.maxLocals → decode c.code g.pc = .ok (ig, len) →
    2 * g.monitorRoom + (g.stack.map fun v => v.category).sum ≤ W9 → A.U.methodNamed? y = some mk → Pre A a →
    (∃ (v : Option Value) (B : Pt), Stand p l e R s m sargs below meth c B.U B.locs B.cells B.slots ∧ Post A a v B ∧
      Steps p.tables e below (doInvoke e (A.U.setTop g) [] mk a).1 (B.U.setTop { g with pc := g.pc + len, stack := v.toList ++ g.stack })) ∨
    (∃ (q : Addr) (B : Pt), Stand p l e R s m sargs below meth c B.U B.locs B.cells B.slots ∧ PostX A a q B ∧
      Steps p.tables e below (doInvoke e (A.U.setTop g) [] mk a).1 ((B.U.setTop g).pushFrame (.throwing q)))
section Payer
variable {l : Launch} {R : Room} {p : Program} {e : Env} {below : List Frame} {s : State} {sargs : Array Value} {y : MethodName} {len W9 : Nat}
theorem vx_back {ws : List Cond} {rm : Room} {Pc : Array Value → State → Prop} {Qc : Array Value → State → Outcome → State → Prop} {XC : String → State → State → Prop} {mc ms : Nat} {free : Addr → Prop} {bytes : ByteArray} {maxL : Nat} {ret : Option FieldType}
    (hM : vx_Met l y ws rm Pc Qc XC mc ms free) (hblind : FrameBlind Pc) (hrc : rm.cells = mc) (hrs : rm.slots = ms)
    (hframes : rm.frames + 1 ≤ R.frames) (hlocals : W9 + (maxL + 11) + rm.locals ≤ R.locals)
    (hws : ∀ w ∈ ws, ∀ a' U, s.WarmedH U.vm → w.before a' U = true) (hcode : Cond.code y bytes maxL ret ∈ ws) (hinit : ∀ a' U, s.WarmedH U.vm → (Cond.initialized y.cls).before a' U = true) :
    vx_Back l R p e below s sargs y len W9 (PreOf R mc ms Pc) (PostOf Qc mc ms free) (vx_Post XC mc ms free) := by
  intro m meth c A g ig mk a X hg hsize hdg hW hn hp
  have h1 : (headSpec ws rm).pre.before a A.U = true := atoms_intro fun w hw => hws w hw _ _ X.warmed
  have h2 : (Cond.code y bytes maxL ret).before a A.U = true := hws _ hcode _ _ X.warmed
  have h3 : (Cond.initialized y.cls).before a A.U = true := hinit _ _ X.warmed
  have h4 : A.cells + (headSpec ws rm).room.cells ≤ R.cells := by rw [show (headSpec ws rm).room.cells = mc from hrc]; exact hp.1
  have h5 : A.slots + (headSpec ws rm).room.slots ≤ R.slots := by rw [show (headSpec ws rm).room.slots = ms from hrs]; exact hp.2.1
  have hPc : Pc a (A.U.calling g mk a) := hblind _ _ _ _ hp.2.2
  obtain ⟨U, Ls, c0, s0⟩ := A
  dsimp only [Pt.U, Pt.locs, Pt.cells, Pt.slots] at h1 h2 h3 h4 h5 X hn hPc ⊢
  obtain ⟨methY, cY, hmY, hcY, -, hlY, -, -, -, -⟩ := Cond.code_spec hn h2
  obtain ⟨kY, hkY, -⟩ := className_of_methodNamed hn
  have hinitY : kY.init = .initialized := Cond.initialized_spec (findClass_of_methodNamed hn) hkY h3
  have h : At U g.method c below := by rw [hg]; exact X.here
  have hlocals9 : W9 + (maxL + 11) + (headSpec ws rm).room.locals ≤ R.locals := hlocals
  have happ : (headSpec ws rm).appliesLoose y e.platform (U.calling g mk a) = true :=
    Spec.appliesLoose_calling (g := g) h hdg hn hkY hinitY
      (X.room_calling (g := g) (R' := (headSpec ws rm).room) hsize hmY hcY hframes (by rw [hlY]; omega) h4 h5) h1
  obtain ⟨mid, hmid⟩ := h.above
  have hfr : (U.setTop g).frames = (.java g :: mid) ++ below := by rw [State.frames_setTop' g h.top, hmid]; rfl
  obtain ⟨o, s₂, hsteps, -, hend, hq⟩ := Steps.callFree hM p X.admits X.cas X.clock (acts := []) hfr happ hPc trivial
  have hq' : vx_Q Qc XC mc ms free a (U.calling g mk a) o s₂ := hq
  rw [State.frames_setTop' g h.top] at hend
  obtain ⟨g₀, hg0⟩ := Option.isSome_iff_exists.mp h.top
  obtain ⟨r, hr⟩ := State.topJava?_eq_some.mp hg0
  have hr' : (({ U with heap := s₂.heap, slotsUsed := s₂.slotsUsed } : State).setVm s₂.vm).frames = .java g₀ :: r := hr
  rcases hq' with ⟨hqc, L, hfe, hL⟩ | ⟨q, rfl, E, ce, L, hx, hce, hcv, hcl, hW₂, hsm, hL⟩
  · obtain ⟨⟨v, rfl⟩, hW₂, e2, q2, q3, q4, q5, q6⟩ := id hfe
    have e3 : s₂ = ({ (U.calling g mk a).setFrames s₂.frames with heap := s₂.heap, slotsUsed := s₂.slotsUsed } : State).setVm s₂.vm := by
      have : s₂ = ({ s₂ with vm := (U.calling g mk a).vm } : State).setVm s₂.vm := rfl
      rw [e2] at this
      exact this
    obtain ⟨c₂, i₂, len₂, hc₂, hd₂, hf₂⟩ := hend
    have hW' : U.WarmedH s₂.vm := hW₂
    have hcc : c₂ = c := by
      have h1 : s₂.code? g.method = U.code? g.method := by
        rw [State.code?_eq, State.code?_eq, hW'.alike.method?]
      exact Option.some.inj (hc₂.symm.trans (h1.trans h.code))
    subst hcc
    have hlen : len₂ = len := by rw [hdg] at hd₂; cases hd₂; rfl
    subst hlen
    have hs₂ : s₂ = (({ U with heap := s₂.heap, slotsUsed := s₂.slotsUsed } : State).setVm s₂.vm).setTop { g with pc := g.pc + len₂, stack := v.toList ++ g.stack } := by
      refine e3.trans ?_
      rw [hf₂, State.calling_eq h.top, State.setFrames_setFrames, State.setTop_of_frames _ hr', hr]
      rfl
    have hsame : U.sameButNew ({ U with heap := s₂.heap, slotsUsed := s₂.slotsUsed } : State) L mc ms := by
      refine ⟨?_, q2, q3, q4, q5, q6⟩
      obtain ⟨t, ht, -⟩ := State.frames_cons hr
      show ({ U with heap := s₂.heap, slotsUsed := s₂.slotsUsed } : State) = { U.setFrames U.frames with heap := s₂.heap, slotsUsed := s₂.slotsUsed }
      rw [State.setFrames_self ht]
    subst hg
    refine Or.inl ⟨v, ⟨(({ U with heap := s₂.heap, slotsUsed := s₂.slotsUsed } : State).setVm s₂.vm), Ls ++ L, c0 + mc, s0 + ms⟩,
      ⟨X.admits, X.cas, X.clock, X.frames, X.room, X.hears, X.method, X.code, (X.here.setHeapUsed s₂.heap s₂.slotsUsed).setVm hW'.alike, X.tail, State.WarmedH.trans X.warmed hW', X.limits, X.bytes, X.same.trans (hsame.setVm s.vm)⟩,
      ⟨g, mk, s₂, L, rfl, rfl, hqc, rfl, hL, rfl, rfl⟩, ?_⟩
    show Steps p.tables e below _ ((({ U with heap := s₂.heap, slotsUsed := s₂.slotsUsed } : State).setVm s₂.vm).setTop { g with pc := g.pc + len₂, stack := v.toList ++ g.stack })
    rw [← hs₂]
    exact hsteps
  · obtain ⟨e2, q2, q3, q4, q5, q6⟩ := id hsm
    have e3 : s₂ = ({ (U.calling g mk a).setFrames s₂.frames with heap := s₂.heap, slotsUsed := s₂.slotsUsed } : State).setVm s₂.vm := by
      have : s₂ = ({ s₂ with vm := (U.calling g mk a).vm } : State).setVm s₂.vm := rfl
      rw [e2] at this
      exact this
    have hf₂ : s₂.frames = .throwing q :: .java g :: U.frames.tail := hend
    have hW' : U.WarmedH s₂.vm := hW₂
    have hs₂ : s₂ = ((({ U with heap := s₂.heap, slotsUsed := s₂.slotsUsed } : State).setVm s₂.vm).setTop g).pushFrame (.throwing q) := by
      refine e3.trans ?_
      rw [hf₂, State.calling_eq h.top, State.setFrames_setFrames, State.pushFrame, State.frames_setTop _ hr', State.setTop_of_frames _ hr', State.setFrames_setFrames, hr]
      rfl
    have hsame : U.sameButNew ({ U with heap := s₂.heap, slotsUsed := s₂.slotsUsed } : State) L mc ms := by
      refine ⟨?_, q2, q3, q4, q5, q6⟩
      obtain ⟨t, ht, -⟩ := State.frames_cons hr
      show ({ U with heap := s₂.heap, slotsUsed := s₂.slotsUsed } : State) = { U.setFrames U.frames with heap := s₂.heap, slotsUsed := s₂.slotsUsed }
      rw [State.setFrames_self ht]
    subst hg
    refine Or.inr ⟨q, ⟨(({ U with heap := s₂.heap, slotsUsed := s₂.slotsUsed } : State).setVm s₂.vm), Ls ++ L, c0 + mc, s0 + ms⟩,
      ⟨X.admits, X.cas, X.clock, X.frames, X.room, X.hears, X.method, X.code, (X.here.setHeapUsed s₂.heap s₂.slotsUsed).setVm hW'.alike, X.tail, State.WarmedH.trans X.warmed hW', X.limits, X.bytes, X.same.trans (hsame.setVm s.vm)⟩,
      ⟨g, mk, s₂, L, E, ce, rfl, rfl, hx, hce, hcv, hcl, rfl, hL, rfl, rfl⟩, ?_⟩
    show Steps p.tables e below _ (((({ U with heap := s₂.heap, slotsUsed := s₂.slotsUsed } : State).setVm s₂.vm).setTop g).pushFrame (.throwing q))
    rw [← hs₂]
    exact hsteps
end Payer
section Calls
variable {p : Program} {l : Launch} {e : Env} {R : Room} {s : State} {m : MethodId} {args : Array Value} {below : List Frame} {meth : Method} {c : Code} {T : State} {locs : List Loc} {cells slots : Nat}
theorem vx_callV (X : Stand p l e R s m args below meth c T locs cells slots) (hexec : p.tables.exec = Jvm.exec) {own C : String} {index : Nat} {y : MethodName} {bytes : ByteArray} {maxL : Nat} {ret : Option FieldType}
    (hown : s.vm.findClass own = some m.cls) (hlink : (Cond.methodLink own index y).before args s = true) (hinst : (Cond.instanceMethod y).before args s = true) (hsel : (Cond.selects C y y).before args s = true)
    (hcode : (Cond.code y bytes maxL ret).before args s = true) (hy : y.cls ≠ "java/lang/invoke/MethodHandle" ∧ y.cls ≠ "java/lang/invoke/VarHandle")
    {W9 : Nat} {Pre : Pt → Array Value → Prop} {Post : Pt → Array Value → Option Value → Pt → Prop} {PostX : Pt → Array Value → Addr → Pt → Prop} (hK : vx_Back l R p e below s args y 3 W9 Pre Post PostX)
    {b : Addr} {cellB : Cell} (hcell : T.heap[b]? = some cellB) (hobj : cellB.vm.isStatics = false) (hcls : s.vm.findClass C = some cellB.cls)
    {g : JFrame} (hg : g.method = m) (hsize : g.locals.size = c.maxLocals) {argsL rest : List Value} (hlen : ∀ sig, parseMethodDescriptor y.desc = some sig → argsL.length = sig.parameters.length)
    (hstack : g.stack = argsL.reverse ++ .ref b :: rest) (hW : 2 * g.monitorRoom + (rest.map fun v => v.category).sum ≤ W9) (hdg : decode c.code g.pc = .ok (.invokevirtual index, 3))
    (hpre : ∀ vm₁, s.WarmedH vm₁ → Pre ⟨T.setVm vm₁, locs, cells, slots⟩ (Value.ref b :: argsL).toArray) :
    (∃ (v : Option Value) (vm₁ : Vm) (B : Pt), s.WarmedH vm₁ ∧ Stand p l e R s m args below meth c B.U B.locs B.cells B.slots ∧ Post ⟨T.setVm vm₁, locs, cells, slots⟩ (Value.ref b :: argsL).toArray v B ∧
      ∀ target, Steps p.tables e below (B.U.setTop { g with pc := g.pc + 3, stack := v.toList ++ rest }) target → Steps p.tables e below (T.setTop g) target) ∨
    (∃ (q : Addr) (vm₁ : Vm) (B : Pt), s.WarmedH vm₁ ∧ Stand p l e R s m args below meth c B.U B.locs B.cells B.slots ∧ PostX ⟨T.setVm vm₁, locs, cells, slots⟩ (Value.ref b :: argsL).toArray q B ∧
      Steps p.tables e below (T.setTop g) ((B.U.setTop { g with stack := rest }).pushFrame (.throwing q))) := by
  obtain ⟨mk, methM, hnamed, hmethM, hstM, habM⟩ := Cond.instanceMethod_spec hinst
  obtain ⟨methM', cM, hmethM', -, -, -, -, -, -, hsigM⟩ := Cond.code_spec hnamed hcode
  cases hmethM.symm.trans hmethM'
  obtain ⟨c2, r2, m2, q1, q2, q3, q4, kP, hkP, hkPi⟩ := Cond.selects_spec hsel
  cases hcls.symm.trans q1
  cases (State.methodFound?_of_named hnamed hy).symm.trans q2
  cases hnamed.symm.trans q3
  have hselP : selectMethod e.platform s.vm cellB.cls mk = .method mk := by rw [Launch.admits_selectMethod X.admits]; exact q4
  obtain ⟨vm₁, X₁, hstep₁⟩ := X.invokevirtual hexec hown hlink hnamed hmethM hstM hkP hkPi hy (a := b) (cell := cellB) hcell
    (fun z h => by rw [h] at hobj; cases hobj) hselP hmethM habM hkP hkPi (g := g) hg (argsL := argsL) (rest := rest) (hlen _ hsigM) hstack hdg
  rcases hK m meth c ⟨T.setVm vm₁, locs, cells, slots⟩ { g with stack := rest } (.invokevirtual index) mk (Value.ref b :: argsL).toArray X₁ hg hsize hdg hW (X₁.named hnamed) (hpre vm₁ X₁.warmed) with ⟨v, B, X', hpost, hsteps⟩ | ⟨q, B, X', hpost, hsteps⟩
  · exact Or.inl ⟨v, vm₁, B, X₁.warmed, X', hpost, fun target h => hstep₁ _ fun acts => by rw [doInvoke_state]; exact hsteps.trans h⟩
  · exact Or.inr ⟨q, vm₁, B, X₁.warmed, X', hpost, hstep₁ _ fun acts => by rw [doInvoke_state]; exact hsteps⟩
theorem vx_callS (X : Stand p l e R s m args below meth c T locs cells slots) (hexec : p.tables.exec = Jvm.exec) {own : String} {index : Nat} {y : MethodName} {bytes : ByteArray} {maxL : Nat} {ret : Option FieldType}
    (hown : s.vm.findClass own = some m.cls) (hlink : (Cond.methodLink own index y).before args s = true) (hstat : (Cond.static y).before args s = true) (hinit : (Cond.initialized y.cls).before args s = true)
    (hcode : (Cond.code y bytes maxL ret).before args s = true) (hy : y.cls ≠ "java/lang/invoke/MethodHandle" ∧ y.cls ≠ "java/lang/invoke/VarHandle")
    {W9 : Nat} {Pre : Pt → Array Value → Prop} {Post : Pt → Array Value → Option Value → Pt → Prop} {PostX : Pt → Array Value → Addr → Pt → Prop} (hK : vx_Back l R p e below s args y 3 W9 Pre Post PostX)
    {g : JFrame} (hg : g.method = m) (hsize : g.locals.size = c.maxLocals) {argsL rest : List Value} (hlen : ∀ sig, parseMethodDescriptor y.desc = some sig → argsL.length = sig.parameters.length)
    (hstack : g.stack = argsL.reverse ++ rest) (hW : 2 * g.monitorRoom + (rest.map fun v => v.category).sum ≤ W9) (hdg : decode c.code g.pc = .ok (.invokestatic index, 3))
    (hpre : ∀ vm₁, s.WarmedH vm₁ → Pre ⟨T.setVm vm₁, locs, cells, slots⟩ argsL.toArray) :
    (∃ (v : Option Value) (vm₁ : Vm) (B : Pt), s.WarmedH vm₁ ∧ Stand p l e R s m args below meth c B.U B.locs B.cells B.slots ∧ Post ⟨T.setVm vm₁, locs, cells, slots⟩ argsL.toArray v B ∧
      ∀ target, Steps p.tables e below (B.U.setTop { g with pc := g.pc + 3, stack := v.toList ++ rest }) target → Steps p.tables e below (T.setTop g) target) ∨
    (∃ (q : Addr) (vm₁ : Vm) (B : Pt), s.WarmedH vm₁ ∧ Stand p l e R s m args below meth c B.U B.locs B.cells B.slots ∧ PostX ⟨T.setVm vm₁, locs, cells, slots⟩ argsL.toArray q B ∧
      Steps p.tables e below (T.setTop g) ((B.U.setTop { g with stack := rest }).pushFrame (.throwing q))) := by
  obtain ⟨mk, hnamed⟩ := Cond.code_named hcode
  obtain ⟨methM, cM, hmethM, -, -, -, -, -, -, hsigM⟩ := Cond.code_spec hnamed hcode
  have hstatic : methM.isStatic = true := Cond.static_spec hnamed hmethM hstat
  obtain ⟨kP, hkP, -⟩ := className_of_methodNamed hnamed
  have hinitP : kP.init = .initialized := Cond.initialized_spec (findClass_of_methodNamed hnamed) hkP hinit
  obtain ⟨vm₁, X₁, hstep₁⟩ := X.invokestatic hexec hown hlink hnamed hmethM hstatic hkP hinitP hy (g := g) hg (argsL := argsL) (rest := rest) (hlen _ hsigM) hstack hdg
  rcases hK m meth c ⟨T.setVm vm₁, locs, cells, slots⟩ { g with stack := rest } (.invokestatic index) mk argsL.toArray X₁ hg hsize hdg hW (X₁.named hnamed) (hpre vm₁ X₁.warmed) with ⟨v, B, X', hpost, hsteps⟩ | ⟨q, B, X', hpost, hsteps⟩
  · exact Or.inl ⟨v, vm₁, B, X₁.warmed, X', hpost, fun target h => hstep₁ _ fun acts => by rw [doInvoke_state]; exact hsteps.trans h⟩
  · exact Or.inr ⟨q, vm₁, B, X₁.warmed, X', hpost, hstep₁ _ fun acts => by rw [doInvoke_state]; exact hsteps⟩
end Calls
theorem vx_cls {s : State} {T : State} {vm₁ : Vm} {E : String} {k : ClassId} (hW : s.WarmedH vm₁) (h : (T.setVm vm₁).vm.findClass E = some k) : s.vm.findClass E = some k := by
  have h1 : vm₁.findClass E = some k := h
  rw [hW.alike.findClass] at h1
  exact h1
/-- the method's frame g, with q thrown over it -/
def vx_W (p : Program) (l : Launch) (e : Env) (R : Room) (s : State) (m : MethodId) (args : Array Value) (below : List Frame) (meth : Method) (c : Code) (H : Heap) (locs : List Loc) (cells slots : Nat) (Q : State → Prop) (g : JFrame) (q : Addr) : Prop :=
  ∀ T : State, T.heap = H → Stand p l e R s m args below meth c T locs cells slots → ∃ t, Steps p.tables e below ((T.setTop g).pushFrame (.throwing q)) t ∧ Q t
def vx_Run (p : Program) (l : Launch) (e : Env) (R : Room) (s : State) (m : MethodId) (args : Array Value) (below : List Frame) (meth : Method) (c : Code) (H : Heap) (locs : List Loc) (cells slots mc ms : Nat) (g : JFrame) (rest : List Value) (Qa : State → Outcome → State → Prop) (XC : String → State → State → Prop) (free : Addr → Prop) : Prop :=
  ∀ T : State, T.heap = H → Stand p l e R s m args below meth c T locs cells slots →
    (∃ (v : Option Value) (st₀ t T' : State) (L : List Loc), st₀.heap = H ∧ Stand p l e R s m args below meth c T' (locs ++ L) (cells + mc) (slots + ms) ∧ (∀ q ∈ L, free q.base) ∧ T'.heap = t.heap ∧ T'.vm = t.vm ∧ Qa st₀ (.returned v) t ∧
      Goes p e below T g T' { g with pc := g.pc + 3, stack := v.toList ++ rest }) ∨
    (∃ (q : Addr) (st₀ t T' : State) (L : List Loc) (E : String) (ce : Cell), st₀.heap = H ∧ Stand p l e R s m args below meth c T' (locs ++ L) (cells + mc) (slots + ms) ∧ (∀ z ∈ L, free z.base) ∧ T'.heap = t.heap ∧ T'.vm = t.vm ∧ XC E st₀ t ∧ t.heap[q]? = some ce ∧ ce.vm = .none ∧ s.vm.findClass E = some ce.cls ∧
      Steps p.tables e below (T.setTop g) ((T'.setTop { g with stack := rest }).pushFrame (.throwing q)))
def vx_X {S : Type} (px : S → Prop) (B : String → S → State → Prop) (A : Nat → Prop) : String → State → State → Prop := fun E st t => ∃ u : S, px u ∧ B E u t ∧ va_F A st t
section Runs
variable {p : Program} {l : Launch} {e : Env} {R : Room} {s : State} {m : MethodId} {args : Array Value} {below : List Frame} {meth : Method} {c : Code} {H : Heap} {locs : List Loc} {cells slots : Nat}
variable {y : MethodName} {bytes cc : ByteArray} {maxL nL mc ms n index : Nat} {ret : Option FieldType} {ws : List Cond} {rm : Room} {Pc : Array Value → State → Prop} {Qc : Array Value → State → Outcome → State → Prop} {XC : String → State → State → Prop} {free : Addr → Prop} {Ts : List Cond} {own C : String} {b : Addr} {As rest : List Value} {g : JFrame}
theorem vx_callBack (cb : CallB R s args own index y bytes maxL ret ws rm mc ms n) (hM : vx_Met l y ws rm Pc Qc XC mc ms free) (hbl : FrameBlind Pc) : vx_Back l R p e below s args y 3 8 (PreOf R mc ms Pc) (PostOf Qc mc ms free) (vx_Post XC mc ms free) := by
  obtain ⟨hrc, hrs, hfr, hlo, hws, hcw, -, hini, -⟩ := cb
  exact vx_back (bytes := bytes) (maxL := maxL) (ret := ret) hM hbl hrc hrs hfr hlo hws hcw (fun a' U hW => word_at hW (Or.inl (by first | rfl | simp [Cond.onTables, Cond.keeps, Cond.steady])) hini)
theorem vx_runV (S : CallFix p m c cc nL s args Ts own) (hM : vx_Met l y ws rm Pc Qc XC mc ms free) (cw : CallW R s args own C index y bytes maxL ret ws rm mc ms n) (hp : PreV s H C b Pc As)
    (hg : g.method = m) (hn : As.length = n) (hsize : g.locals.size = nL) (hstack : g.stack = As.reverse ++ .ref b :: rest) (hW : 2 * g.monitorRoom + (rest.map fun v => v.category).sum ≤ 8) (hdg : decode cc g.pc = .ok (.invokevirtual index, 3)) (hf : cells + mc ≤ R.cells ∧ slots + ms ≤ R.slots) :
    vx_Run p l e R s m args below meth c H locs cells slots mc ms g rest (Qc (Value.ref b :: As).toArray) XC free := by
  have hK : vx_Back l R p e below s args y 3 8 (PreOf R mc ms Pc) (PostOf Qc mc ms free) (vx_Post XC mc ms free) := vx_callBack cw.1 hM hp.1
  obtain ⟨⟨-, -, -, -, -, -, hcode, -, hy, hlen, hl⟩, hin, hse⟩ := cw
  obtain ⟨hx, hb, hml, ho, -⟩ := S
  obtain ⟨-, ⟨cellB, hcB, hoB, hclB⟩, hPc⟩ := hp
  intro T hT X
  rcases vx_callV X hx (C := C) (bytes := bytes) (maxL := maxL) (ret := ret) ho hl hin hse hcode hy hK (by rw [hT]; exact hcB) hoB hclB hg (hsize.trans hml.symm) (argsL := As) (rest := rest) (fun sig h => hn.trans (hlen sig h)) hstack hW (by rw [hb]; exact hdg)
    (fun vm₁ hW₁ => ⟨hf.1, hf.2, hPc (T.setVm vm₁) hT hW₁⟩) with ⟨v, vm₁, ⟨U', l2, c2, s2⟩, hW₁, X', ⟨g', mk, t, L, e1, e2, hq, h1, hL, h2, h3⟩, st⟩ | ⟨q, vm₁, ⟨U', l2, c2, s2⟩, hW₁, X', ⟨g', mk, t, L, E, ce, e1, e2, hq, hce, hcv, hcl, h1, hL, h2, h3⟩, st⟩
  · dsimp only [Pt.U, Pt.locs, Pt.cells, Pt.slots] at X' e1 e2 h1 h2 h3 st
    subst h1; subst h2; subst h3
    exact Or.inl ⟨v, (T.setVm vm₁).calling g' mk (Value.ref b :: As).toArray, t, U', L, hT, X', hL, e1, e2, hq, st⟩
  · dsimp only [Pt.U, Pt.locs, Pt.cells, Pt.slots] at X' e1 e2 h1 h2 h3 st hcl
    subst h1; subst h2; subst h3
    exact Or.inr ⟨q, (T.setVm vm₁).calling g' mk (Value.ref b :: As).toArray, t, U', L, E, ce, hT, X', hL, e1, e2, hq, hce, hcv, vx_cls hW₁ hcl, st⟩
theorem vx_runS (S : CallFix p m c cc nL s args Ts own) (hM : vx_Met l y ws rm Pc Qc XC mc ms free) (cw : CallB R s args own index y bytes maxL ret ws rm mc ms n ∧ (Cond.static y).before args s = true) (hp : PreS s H Pc As)
    (hg : g.method = m) (hn : As.length = n) (hsize : g.locals.size = nL) (hstack : g.stack = As.reverse ++ rest) (hW : 2 * g.monitorRoom + (rest.map fun v => v.category).sum ≤ 8) (hdg : decode cc g.pc = .ok (.invokestatic index, 3)) (hf : cells + mc ≤ R.cells ∧ slots + ms ≤ R.slots) :
    vx_Run p l e R s m args below meth c H locs cells slots mc ms g rest (Qc As.toArray) XC free := by
  have hK : vx_Back l R p e below s args y 3 8 (PreOf R mc ms Pc) (PostOf Qc mc ms free) (vx_Post XC mc ms free) := vx_callBack cw.1 hM hp.1
  obtain ⟨⟨-, -, -, -, -, -, hcode, hini, hy, hlen, hl⟩, hstt⟩ := cw
  obtain ⟨hx, hb, hml, ho, -⟩ := S
  intro T hT X
  rcases vx_callS X hx (bytes := bytes) (maxL := maxL) (ret := ret) ho hl hstt hini hcode hy hK hg (hsize.trans hml.symm) (argsL := As) (rest := rest) (fun sig h => hn.trans (hlen sig h)) hstack hW (by rw [hb]; exact hdg)
    (fun vm₁ hW₁ => ⟨hf.1, hf.2, hp.2 (T.setVm vm₁) hT hW₁⟩) with ⟨v, vm₁, ⟨U', l2, c2, s2⟩, hW₁, X', ⟨g', mk, t, L, e1, e2, hq, h1, hL, h2, h3⟩, st⟩ | ⟨q, vm₁, ⟨U', l2, c2, s2⟩, hW₁, X', ⟨g', mk, t, L, E, ce, e1, e2, hq, hce, hcv, hcl, h1, hL, h2, h3⟩, st⟩
  · dsimp only [Pt.U, Pt.locs, Pt.cells, Pt.slots] at X' e1 e2 h1 h2 h3 st
    subst h1; subst h2; subst h3
    exact Or.inl ⟨v, (T.setVm vm₁).calling g' mk As.toArray, t, U', L, hT, X', hL, e1, e2, hq, st⟩
  · dsimp only [Pt.U, Pt.locs, Pt.cells, Pt.slots] at X' e1 e2 h1 h2 h3 st hcl
    subst h1; subst h2; subst h3
    exact Or.inr ⟨q, (T.setVm vm₁).calling g' mk As.toArray, t, U', L, E, ce, hT, X', hL, e1, e2, hq, hce, hcv, vx_cls hW₁ hcl, st⟩
end Runs
section Rows
variable {p : Program} {l : Launch} {e : Env} {R : Room} {s : State} {m : MethodId} {args : Array Value} {below : List Frame} {meth : Method} {c : Code} {H : Heap} {locs : List Loc} {cells slots : Nat} {Q : State → Prop}
variable {mc ms : Nat} {free : Addr → Prop} {A0 A1 : Nat → Prop} {H0 : Heap} {a : Array Value} {pc : Nat} {ls : Array Slot} {st0 rest : List Value}
theorem vx_keep {st₀ t T' : State} {L : List Loc} (h0 : st₀.heap = H) (e1 : T'.heap = t.heap) (hS : va_S A0 H0 H locs) (hA : ∀ q, q < H.size → A1 q → A0 q) (hf : ∀ q, free q → A0 q) (hL : ∀ q ∈ L, free q.base) (hF : va_F A1 st₀ t) :
    H.size ≤ T'.heap.size ∧ (∀ q : Nat, q < H.size → ¬ A1 q → T'.heap[q]? = H[q]?) ∧ va_S A0 H0 T'.heap (locs ++ L) := by
  obtain ⟨hz, hk⟩ := hF
  rw [h0] at hz hk
  exact ⟨by rw [e1]; exact hz, fun q h1 h2 => by rw [e1]; exact hk q h1 h2,
    ⟨Nat.le_trans hS.1 (by rw [e1]; exact hz), fun q h1 h2 => by rw [e1, hk q (Nat.lt_of_lt_of_le h1 hS.1) (fun z => h2 (hA q (Nat.lt_of_lt_of_le h1 hS.1) z))]; exact hS.2.1 q h1 h2, fun q hq => by
      rcases List.mem_append.mp hq with h | h
      · exact hS.2.2 q h
      · exact hf _ (hL q h)⟩⟩
theorem vx_calli {S SX : Type} {post : Int32 → S → Prop} {px : SX → Prop} {B : S → State → Prop} {BX : String → SX → State → Prop} {AX : Nat → Prop} (hr : vx_Run p l e R s m args below meth c H locs cells slots mc ms (F0 m pc ls st0) rest (va_Qi post B A1 a) (vx_X px BX AX) free) (hS : va_S A0 H0 H locs) (hA : ∀ q, q < H.size → A1 q → A0 q) (hf : ∀ q, free q → A0 q) (hAX : ∀ q, q < H.size → AX q → A0 q)
    (kx : ∀ (E : String) (ce : Cell) (q9 : Addr) (u : SX) (t : State) (H1 : Heap) (locs1 : List Loc), t.heap = H1 → s.vm.Alike t.vm → px u → BX E u t → H.size ≤ H1.size → (∀ q : Nat, q < H.size → ¬ AX q → H1[q]? = H[q]?) → va_S A0 H0 H1 locs1 → H1[q9]? = some ce → ce.vm = .none → s.vm.findClass E = some ce.cls → vx_W p l e R s m args below meth c H1 locs1 (cells + mc) (slots + ms) Q (F0 m pc ls rest) q9)
    (kk : ∀ (r : Int32) (u : S) (t : State) (H1 : Heap) (locs1 : List Loc), t.heap = H1 → s.vm.Alike t.vm → post r u → B u t → H.size ≤ H1.size → (∀ q : Nat, q < H.size → ¬ A1 q → H1[q]? = H[q]?) → va_S A0 H0 H1 locs1 → W p l e R s m args below meth c H1 locs1 (cells + mc) (slots + ms) Q (F0 m (pc + 3) ls (.int r :: rest))) : W p l e R s m args below meth c H locs cells slots Q (F0 m pc ls st0) := by
  intro T hT X
  rcases hr T hT X with ⟨v, st₀, t, T', L, h0, X', hL, e1, e2, ⟨⟨r, u, hv, hp, hb⟩, hF⟩, st⟩ | ⟨q, st₀, t, T', L, E, ce, h0, X', hL, e1, e2, ⟨u, hp, hb, hF⟩, hce, hcv, hcl, st⟩
  · cases hv
    obtain ⟨k1, k2, k3⟩ := vx_keep h0 e1 hS hA hf hL hF
    obtain ⟨t2, a1, b1⟩ := kk r u t T'.heap (locs ++ L) e1.symm (by rw [← e2]; exact X'.warmed.alike) hp hb k1 k2 k3 T' rfl X'
    exact ⟨t2, st t2 a1, b1⟩
  · obtain ⟨k1, k2, k3⟩ := vx_keep h0 e1 hS hAX hf hL hF
    obtain ⟨t2, a1, b1⟩ := kx E ce q u t T'.heap (locs ++ L) e1.symm (by rw [← e2]; exact X'.warmed.alike) hp hb k1 k2 k3 (by rw [e1]; exact hce) hcv hcl T' rfl X'
    exact ⟨t2, st.trans a1, b1⟩
theorem vx_calll {S SX : Type} {post : Int64 → S → Prop} {px : SX → Prop} {B : S → State → Prop} {BX : String → SX → State → Prop} {AX : Nat → Prop} (hr : vx_Run p l e R s m args below meth c H locs cells slots mc ms (F0 m pc ls st0) rest (va_Ql post B A1 a) (vx_X px BX AX) free) (hS : va_S A0 H0 H locs) (hA : ∀ q, q < H.size → A1 q → A0 q) (hf : ∀ q, free q → A0 q) (hAX : ∀ q, q < H.size → AX q → A0 q)
    (kx : ∀ (E : String) (ce : Cell) (q9 : Addr) (u : SX) (t : State) (H1 : Heap) (locs1 : List Loc), t.heap = H1 → s.vm.Alike t.vm → px u → BX E u t → H.size ≤ H1.size → (∀ q : Nat, q < H.size → ¬ AX q → H1[q]? = H[q]?) → va_S A0 H0 H1 locs1 → H1[q9]? = some ce → ce.vm = .none → s.vm.findClass E = some ce.cls → vx_W p l e R s m args below meth c H1 locs1 (cells + mc) (slots + ms) Q (F0 m pc ls rest) q9)
    (kk : ∀ (r : Int64) (u : S) (t : State) (H1 : Heap) (locs1 : List Loc), t.heap = H1 → s.vm.Alike t.vm → post r u → B u t → H.size ≤ H1.size → (∀ q : Nat, q < H.size → ¬ A1 q → H1[q]? = H[q]?) → va_S A0 H0 H1 locs1 → W p l e R s m args below meth c H1 locs1 (cells + mc) (slots + ms) Q (F0 m (pc + 3) ls (.long r :: rest))) : W p l e R s m args below meth c H locs cells slots Q (F0 m pc ls st0) := by
  intro T hT X
  rcases hr T hT X with ⟨v, st₀, t, T', L, h0, X', hL, e1, e2, ⟨⟨r, u, hv, hp, hb⟩, hF⟩, st⟩ | ⟨q, st₀, t, T', L, E, ce, h0, X', hL, e1, e2, ⟨u, hp, hb, hF⟩, hce, hcv, hcl, st⟩
  · cases hv
    obtain ⟨k1, k2, k3⟩ := vx_keep h0 e1 hS hA hf hL hF
    obtain ⟨t2, a1, b1⟩ := kk r u t T'.heap (locs ++ L) e1.symm (by rw [← e2]; exact X'.warmed.alike) hp hb k1 k2 k3 T' rfl X'
    exact ⟨t2, st t2 a1, b1⟩
  · obtain ⟨k1, k2, k3⟩ := vx_keep h0 e1 hS hAX hf hL hF
    obtain ⟨t2, a1, b1⟩ := kx E ce q u t T'.heap (locs ++ L) e1.symm (by rw [← e2]; exact X'.warmed.alike) hp hb k1 k2 k3 (by rw [e1]; exact hce) hcv hcl T' rfl X'
    exact ⟨t2, st.trans a1, b1⟩
theorem vx_callf {S SX : Type} {post : UInt32 → S → Prop} {px : SX → Prop} {B : S → State → Prop} {BX : String → SX → State → Prop} {AX : Nat → Prop} (hr : vx_Run p l e R s m args below meth c H locs cells slots mc ms (F0 m pc ls st0) rest (va_Qf post B A1 a) (vx_X px BX AX) free) (hS : va_S A0 H0 H locs) (hA : ∀ q, q < H.size → A1 q → A0 q) (hf : ∀ q, free q → A0 q) (hAX : ∀ q, q < H.size → AX q → A0 q)
    (kx : ∀ (E : String) (ce : Cell) (q9 : Addr) (u : SX) (t : State) (H1 : Heap) (locs1 : List Loc), t.heap = H1 → s.vm.Alike t.vm → px u → BX E u t → H.size ≤ H1.size → (∀ q : Nat, q < H.size → ¬ AX q → H1[q]? = H[q]?) → va_S A0 H0 H1 locs1 → H1[q9]? = some ce → ce.vm = .none → s.vm.findClass E = some ce.cls → vx_W p l e R s m args below meth c H1 locs1 (cells + mc) (slots + ms) Q (F0 m pc ls rest) q9)
    (kk : ∀ (r : UInt32) (u : S) (t : State) (H1 : Heap) (locs1 : List Loc), t.heap = H1 → s.vm.Alike t.vm → post r u → B u t → H.size ≤ H1.size → (∀ q : Nat, q < H.size → ¬ A1 q → H1[q]? = H[q]?) → va_S A0 H0 H1 locs1 → W p l e R s m args below meth c H1 locs1 (cells + mc) (slots + ms) Q (F0 m (pc + 3) ls (.float r :: rest))) : W p l e R s m args below meth c H locs cells slots Q (F0 m pc ls st0) := by
  intro T hT X
  rcases hr T hT X with ⟨v, st₀, t, T', L, h0, X', hL, e1, e2, ⟨⟨r, u, hv, hp, hb⟩, hF⟩, st⟩ | ⟨q, st₀, t, T', L, E, ce, h0, X', hL, e1, e2, ⟨u, hp, hb, hF⟩, hce, hcv, hcl, st⟩
  · cases hv
    obtain ⟨k1, k2, k3⟩ := vx_keep h0 e1 hS hA hf hL hF
    obtain ⟨t2, a1, b1⟩ := kk r u t T'.heap (locs ++ L) e1.symm (by rw [← e2]; exact X'.warmed.alike) hp hb k1 k2 k3 T' rfl X'
    exact ⟨t2, st t2 a1, b1⟩
  · obtain ⟨k1, k2, k3⟩ := vx_keep h0 e1 hS hAX hf hL hF
    obtain ⟨t2, a1, b1⟩ := kx E ce q u t T'.heap (locs ++ L) e1.symm (by rw [← e2]; exact X'.warmed.alike) hp hb k1 k2 k3 (by rw [e1]; exact hce) hcv hcl T' rfl X'
    exact ⟨t2, st.trans a1, b1⟩
theorem vx_calld {S SX : Type} {post : UInt64 → S → Prop} {px : SX → Prop} {B : S → State → Prop} {BX : String → SX → State → Prop} {AX : Nat → Prop} (hr : vx_Run p l e R s m args below meth c H locs cells slots mc ms (F0 m pc ls st0) rest (va_Qd post B A1 a) (vx_X px BX AX) free) (hS : va_S A0 H0 H locs) (hA : ∀ q, q < H.size → A1 q → A0 q) (hf : ∀ q, free q → A0 q) (hAX : ∀ q, q < H.size → AX q → A0 q)
    (kx : ∀ (E : String) (ce : Cell) (q9 : Addr) (u : SX) (t : State) (H1 : Heap) (locs1 : List Loc), t.heap = H1 → s.vm.Alike t.vm → px u → BX E u t → H.size ≤ H1.size → (∀ q : Nat, q < H.size → ¬ AX q → H1[q]? = H[q]?) → va_S A0 H0 H1 locs1 → H1[q9]? = some ce → ce.vm = .none → s.vm.findClass E = some ce.cls → vx_W p l e R s m args below meth c H1 locs1 (cells + mc) (slots + ms) Q (F0 m pc ls rest) q9)
    (kk : ∀ (r : UInt64) (u : S) (t : State) (H1 : Heap) (locs1 : List Loc), t.heap = H1 → s.vm.Alike t.vm → post r u → B u t → H.size ≤ H1.size → (∀ q : Nat, q < H.size → ¬ A1 q → H1[q]? = H[q]?) → va_S A0 H0 H1 locs1 → W p l e R s m args below meth c H1 locs1 (cells + mc) (slots + ms) Q (F0 m (pc + 3) ls (.double r :: rest))) : W p l e R s m args below meth c H locs cells slots Q (F0 m pc ls st0) := by
  intro T hT X
  rcases hr T hT X with ⟨v, st₀, t, T', L, h0, X', hL, e1, e2, ⟨⟨r, u, hv, hp, hb⟩, hF⟩, st⟩ | ⟨q, st₀, t, T', L, E, ce, h0, X', hL, e1, e2, ⟨u, hp, hb, hF⟩, hce, hcv, hcl, st⟩
  · cases hv
    obtain ⟨k1, k2, k3⟩ := vx_keep h0 e1 hS hA hf hL hF
    obtain ⟨t2, a1, b1⟩ := kk r u t T'.heap (locs ++ L) e1.symm (by rw [← e2]; exact X'.warmed.alike) hp hb k1 k2 k3 T' rfl X'
    exact ⟨t2, st t2 a1, b1⟩
  · obtain ⟨k1, k2, k3⟩ := vx_keep h0 e1 hS hAX hf hL hF
    obtain ⟨t2, a1, b1⟩ := kx E ce q u t T'.heap (locs ++ L) e1.symm (by rw [← e2]; exact X'.warmed.alike) hp hb k1 k2 k3 (by rw [e1]; exact hce) hcv hcl T' rfl X'
    exact ⟨t2, st.trans a1, b1⟩
theorem vx_callv {S SX : Type} {post : S → Prop} {px : SX → Prop} {B : S → State → Prop} {BX : String → SX → State → Prop} {AX : Nat → Prop} (hr : vx_Run p l e R s m args below meth c H locs cells slots mc ms (F0 m pc ls st0) rest (va_Qv post B A1 a) (vx_X px BX AX) free) (hS : va_S A0 H0 H locs) (hA : ∀ q, q < H.size → A1 q → A0 q) (hf : ∀ q, free q → A0 q) (hAX : ∀ q, q < H.size → AX q → A0 q)
    (kx : ∀ (E : String) (ce : Cell) (q9 : Addr) (u : SX) (t : State) (H1 : Heap) (locs1 : List Loc), t.heap = H1 → s.vm.Alike t.vm → px u → BX E u t → H.size ≤ H1.size → (∀ q : Nat, q < H.size → ¬ AX q → H1[q]? = H[q]?) → va_S A0 H0 H1 locs1 → H1[q9]? = some ce → ce.vm = .none → s.vm.findClass E = some ce.cls → vx_W p l e R s m args below meth c H1 locs1 (cells + mc) (slots + ms) Q (F0 m pc ls rest) q9)
    (kk : ∀ (u : S) (t : State) (H1 : Heap) (locs1 : List Loc), t.heap = H1 → s.vm.Alike t.vm → post u → B u t → H.size ≤ H1.size → (∀ q : Nat, q < H.size → ¬ A1 q → H1[q]? = H[q]?) → va_S A0 H0 H1 locs1 → W p l e R s m args below meth c H1 locs1 (cells + mc) (slots + ms) Q (F0 m (pc + 3) ls (rest))) : W p l e R s m args below meth c H locs cells slots Q (F0 m pc ls st0) := by
  intro T hT X
  rcases hr T hT X with ⟨v, st₀, t, T', L, h0, X', hL, e1, e2, ⟨⟨u, hv, hp, hb⟩, hF⟩, st⟩ | ⟨q, st₀, t, T', L, E, ce, h0, X', hL, e1, e2, ⟨u, hp, hb, hF⟩, hce, hcv, hcl, st⟩
  · cases hv
    obtain ⟨k1, k2, k3⟩ := vx_keep h0 e1 hS hA hf hL hF
    obtain ⟨t2, a1, b1⟩ := kk u t T'.heap (locs ++ L) e1.symm (by rw [← e2]; exact X'.warmed.alike) hp hb k1 k2 k3 T' rfl X'
    exact ⟨t2, st t2 a1, b1⟩
  · obtain ⟨k1, k2, k3⟩ := vx_keep h0 e1 hS hAX hf hL hF
    obtain ⟨t2, a1, b1⟩ := kx E ce q u t T'.heap (locs ++ L) e1.symm (by rw [← e2]; exact X'.warmed.alike) hp hb k1 k2 k3 (by rw [e1]; exact hce) hcv hcl T' rfl X'
    exact ⟨t2, st.trans a1, b1⟩
/-- caught by the row x of this method's table; the rows ahead don't take it -/
theorem vx_catch {own name : String} {E : String} {ce : Cell} {q : Addr} (hown : s.vm.findClass own = some m.cls) (pre : List ExceptionTableEntry) (x : ExceptionTableEntry) (suf : List ExceptionTableEntry) (hsplit : c.exceptionTable.toList = pre ++ x :: suf)
    (hpass : ∀ z ∈ pre, covers z pc = false ∨ (z.catchType ≠ 0 ∧ ∃ nm : String, (Cond.classLink own z.catchType nm).before args s = true ∧ va_Nc E nm s)) (hx : covers x pc = true) (h0 : x.catchType ≠ 0)
    (hlink : (Cond.classLink own x.catchType name).before args s = true) (hcast : (Cond.castable E name).before args s = true) (hcell : H[q]? = some ce) (hv : ce.vm = .none) (hcl : s.vm.findClass E = some ce.cls)
    (kk : W p l e R s m args below meth c H locs cells slots Q (F0 m x.handlerPc ls [.ref q])) : vx_W p l e R s m args below meth c H locs cells slots Q (F0 m pc ls rest) q := by
  intro T hT X
  have hpl : e.platform.magicAccessors = ({} : Platform).magicAccessors := by rw [X.admits.platform]
  obtain ⟨c3, c4, hc3, hc4, hasg⟩ := Cond.castable_spec hcast
  cases Option.some.inj (hc3.symm.trans hcl)
  obtain ⟨c5, hc5, hcl5⟩ := Cond.classLink_spec hown hlink e.platform hpl
  cases Option.some.inj (hc4.symm.trans hc5)
  obtain ⟨vm', X', st⟩ := X.thenCaughtThrough q (g := F0 m pc ls rest) rfl (Steps.refl _) (by rw [hT]; exact hcell) (by rw [hv]; rfl) (by obtain ⟨k9, h9, -⟩ := Vm.findClass_spec hcl; exact ⟨k9, h9⟩) pre x suf hsplit
    (fun z hz => by
      rcases hpass z hz with h | ⟨hz0, nm, hl1, hn1⟩
      · exact Or.inl h
      · obtain ⟨c6, hc6, hcl6⟩ := Cond.classLink_spec hown hl1 e.platform hpl
        obtain ⟨a8, b8, h1, h2, h3⟩ := hn1
        cases Option.some.inj (h1.symm.trans hcl)
        cases Option.some.inj (h2.symm.trans hc6)
        exact Or.inr ⟨hz0, _, hcl6, h3⟩) hx (Or.inr ⟨h0, c4, hcl5, hasg⟩)
  obtain ⟨t, a1, b1⟩ := kk (T.setVm vm') hT X'
  exact ⟨t, st.trans a1, b1⟩
end Rows
section Ends
variable {p : Program} {l : Launch} {e : Env} {R : Room} {s : State} {m : MethodId} {args : Array Value} {below : List Frame} {meth : Method} {c : Code} {H : Heap} {locs : List Loc} {cells slots : Nat} {Q : State → Prop}
variable {mc ms : Nat} {free : Addr → Prop} {A0 A1 : Nat → Prop} {H0 : Heap} {a : Array Value} {ls : Array Slot} {st0 rest : List Value}
variable {Qc : Array Value → State → Outcome → State → Prop} {XC : String → State → State → Prop}
/-- what a body that may throw owes at its end -/
def vx_MQ (below : List Frame) (Qc : Array Value → State → Outcome → State → Prop) (XC : String → State → State → Prop) (a : Array Value) (s : State) (mc ms : Nat) (free : Addr → Prop) : State → Prop := fun t =>
  ∃ o, t.status = .running ∧ Ended t below o ∧ vx_Q Qc XC mc ms free a s o t
theorem vx_ret {g : JFrame} {mc ms : Nat} (k : W p l e R s m args below meth c H locs cells slots (MQ below Qc args s mc ms free) g) : W p l e R s m args below meth c H locs cells slots (vx_MQ below Qc XC args s mc ms free) g := by
  intro T hT X
  obtain ⟨t, a1, o, b1, b2, b3, b4⟩ := k T hT X
  exact ⟨t, a1, o, b1, b2, Or.inl ⟨b3, b4⟩⟩
/-- not caught here: it goes on to the caller -/
theorem vx_widen {g : JFrame} {q : Addr} {k n : Nat} (h1 : cells ≤ k) (h2 : slots ≤ n) (kk : vx_W p l e R s m args below meth c H locs k n Q g q) : vx_W p l e R s m args below meth c H locs cells slots Q g q := fun T hT X => kk T hT (stand_widen X h1 h2)
theorem vx_out {pc : Nat} {E : String} {ce : Cell} {q : Addr} {mc ms : Nat} (hout : ∀ x ∈ c.exceptionTable.toList, covers x pc = false) (hlocks : meth.locks = false) (hcell : H[q]? = some ce) (hv : ce.vm = .none) (hcl : s.vm.findClass E = some ce.cls)
    (hx : ∀ t : State, t.heap = H → s.vm.Alike t.vm → XC E s t) (hf : ∀ z ∈ locs, free z.base) (hc : cells ≤ mc) (hs : slots ≤ ms) :
    vx_W p l e R s m args below meth c H locs cells slots (vx_MQ below Qc XC args s mc ms free) (F0 m pc ls rest) q := by
  intro T hT X
  obtain ⟨st1, hrun, hend, hW, hsm⟩ := X.leaveThrown q (g := F0 m pc ls rest) rfl rfl rfl hout hlocks
  have hcell9 : (T.setFrames (.throwing q :: below)).heap[q]? = some ce := by
    show T.heap[q]? = some ce
    rw [hT]; exact hcell
  exact ⟨_, st1, .threw q, hrun, hend, Or.inr ⟨q, rfl, E, ce, locs, hx _ hT hW.alike, hcell9, hv, hcl, hW, hsm.mono hc hs, hf⟩⟩
theorem vx_frame {U : State} {k n : Nat} (h : s.sameButNew ({ U with vm := s.vm } : State) locs k n) : s.heap.size ≤ U.heap.size ∧ ∀ q : Nat, q < s.heap.size → (∀ z ∈ locs, z.base ≠ q) → U.heap[q]? = s.heap[q]? := by
  obtain ⟨-, h2, -, -, -, h6⟩ := h
  refine ⟨h2, fun q hq hz => ?_⟩
  obtain ⟨c9, e1, e2, e3, e4⟩ := h6 q _ (Array.getElem?_eq_getElem hq)
  have hs : c9.slots = (s.heap[q]).slots := Array.ext_getElem? fun i => e4 i fun hm => hz _ hm rfl
  have h9 : c9 = s.heap[q] := by
    rw [hs] at e2
    exact e2
  have e5 : U.heap[q]? = some c9 := e1
  rw [e5, h9, Array.getElem?_eq_getElem hq]
/-- the words of a throw but the four that speak of the heap -/
def vx_no (w : Cond) : Bool := decide (w ≠ .isRef (.static Bundle.tN "UNASSIGNED_STACK" Bundle.steD)) && decide (w ≠ .isRef (.static Bundle.tN "SUPPRESSED_SENTINEL" Bundle.listD)) && decide (w ≠ .laysStatic Bundle.tN "UNASSIGNED_STACK" Bundle.steD) && decide (w ≠ .laysStatic Bundle.tN "SUPPRESSED_SENTINEL" Bundle.listD)
def vx_at0 (own : String) (ic : Nat) (X : String) (names : List String) : List Cond := (Bundle.ownAtoms0 own ic X names).filter vx_no
def vx_atS (own : String) (ic : Nat) (X : String) (names : List String) : List Cond := (Bundle.ownAtoms own ic X names).filter vx_no
/-- a word that the tables alone decide, or a good one -/
def vx_ot (w : Cond) : Bool := w.onTables || goodWord w
theorem vx_ot_at {args a' : Array Value} {s U : State} {w : Cond} (hW : s.WarmedH U.vm) (hvm : s.vm = U.vm) (hg : vx_ot w = true) (h : w.before args s = true) : w.before a' U = true := by
  simp only [vx_ot, Bool.or_eq_true] at hg
  rcases hg with hg | hg
  · exact va_tabs hg hvm h
  · exact word_at hW (good_of_word hg) h
/-- a list's words: the good ones out of the method's own list, the others by premises of their own -/
theorem vx_hat {args : Array Value} {s : State} {L B : List Cond} (h1 : ∀ w ∈ L.filter goodWord, w.before args s = true) (h2 : ∀ w ∈ L.filter (fun w => !goodWord w), w ∈ B) (h3 : ∀ w ∈ B, w.before args s = true) : ∀ w ∈ L, w.before args s = true := by
  intro w hw
  by_cases g : goodWord w = true
  · exact h1 w (List.mem_filter.mpr ⟨hw, g⟩)
  · refine h3 w (h2 w (List.mem_filter.mpr ⟨hw, ?_⟩))
    show (!goodWord w) = true
    cases hgw : goodWord w
    · rfl
    · exact absurd hgw g
theorem vx_c {args : Array Value} {s : State} {w : Cond} {B : List Cond} (h : w.before args s = true) (t : ∀ w ∈ B, w.before args s = true) : ∀ w' ∈ w :: B, w'.before args s = true := fun w' h' => (List.mem_cons.mp h').elim (fun e => by rw [e]; exact h) (t w')
theorem vx_n {args : Array Value} {s : State} : ∀ w ∈ ([] : List Cond), w.before args s = true := fun _ h => nomatch h
theorem vx_own {args : Array Value} {s : State} {L : List Cond} (h1 : ∀ w ∈ L.filter vx_no, w.before args s = true)
    (hU : (Cond.isRef (.static Bundle.tN "UNASSIGNED_STACK" Bundle.steD)).before args s = true) (hN : (Cond.isRef (.static Bundle.tN "SUPPRESSED_SENTINEL" Bundle.listD)).before args s = true)
    (lU : (Cond.laysStatic Bundle.tN "UNASSIGNED_STACK" Bundle.steD).before args s = true) (lN : (Cond.laysStatic Bundle.tN "SUPPRESSED_SENTINEL" Bundle.listD).before args s = true) : ∀ w ∈ L, w.before args s = true := by
  intro w hw
  by_cases e1 : w = .isRef (.static Bundle.tN "UNASSIGNED_STACK" Bundle.steD)
  · rw [e1]; exact hU
  · by_cases e2 : w = .isRef (.static Bundle.tN "SUPPRESSED_SENTINEL" Bundle.listD)
    · rw [e2]; exact hN
    · by_cases e3 : w = .laysStatic Bundle.tN "UNASSIGNED_STACK" Bundle.steD
      · rw [e3]; exact lU
      · by_cases e4 : w = .laysStatic Bundle.tN "SUPPRESSED_SENTINEL" Bundle.listD
        · rw [e4]; exact lN
        · exact h1 w (List.mem_filter.mpr ⟨hw, by unfold vx_no; rw [decide_eq_true e1, decide_eq_true e2, decide_eq_true e3, decide_eq_true e4]; rfl⟩)
/-- where a static field lies, its class's statics cell in H -/
def vx_L (C n d : String) (A : Nat → Prop) (U : State) (H : Heap) : Prop := ∃ (c : ClassId) (k : Class) (i : Nat) (f : Field) (a : Nat) (cell : Cell), U.vm.findClass C = some c ∧ U.fieldFound? C n d = some (c, k, i, f) ∧ f.isStatic = true ∧ k.statics = some a ∧ H[a]? = some cell ∧ cell.vm.isStatics = true ∧ cell.cls = c ∧ f.slot < cell.slots.size ∧ k.staticTypes[f.slot]? = some f.type ∧ ¬ A a
theorem vx_L.moved {C n d : String} {A : Nat → Prop} {u U : State} {H : Heap} (hvm : u.vm.Alike U.vm) (h : vx_L C n d A u H) : vx_L C n d A U H := by
  obtain ⟨c, k, i, f, a, cell, h1, h2, h3, h4, h5, h6, h7, h8, h9, h10⟩ := h
  obtain ⟨k', hi', he⟩ := State.fieldFound?_setVm hvm h2
  exact ⟨c, k', i, f, a, cell, by rw [hvm.findClass]; exact h1, hi', h3, by rw [he]; exact h4, h5, h6, h7, h8, by rw [he]; exact h9, h10⟩
theorem vx_L.kept {C n d : String} {A : Nat → Prop} {U : State} {H H1 : Heap} (h : vx_L C n d A U H) (hq : ∀ a : Nat, a < H.size → ¬ A a → H1[a]? = H[a]?) : vx_L C n d A U H1 := by
  obtain ⟨c, k, i, f, a, cell, h1, h2, h3, h4, h5, h6, h7, h8, h9, h10⟩ := h
  exact ⟨c, k, i, f, a, cell, h1, h2, h3, h4, by rw [hq a (Array.getElem?_eq_some_iff.mp h5).1 h10]; exact h5, h6, h7, h8, h9, h10⟩
theorem vx_L.narrow {C n d : String} {A B : Nat → Prop} {U : State} {H : Heap} (h : vx_L C n d A U H) (hAB : ∀ q, B q → A q) : vx_L C n d B U H := by
  obtain ⟨c, k, i, f, a, cell, h1, h2, h3, h4, h5, h6, h7, h8, h9, h10⟩ := h
  exact ⟨c, k, i, f, a, cell, h1, h2, h3, h4, h5, h6, h7, h8, h9, fun z => h10 (hAB _ z)⟩
theorem vx_L.word {C n d : String} {A : Nat → Prop} {s : State} {args : Array Value} (h : vx_L C n d A s s.heap) : (Cond.laysStatic C n d).before args s = true := by
  obtain ⟨c, k, i, f, a, cell, h1, h2, h3, h4, h5, h6, h7, h8, h9, -⟩ := h
  show (Cond.laysStatic C n d).holds args s none s [] = true
  exact Cond.laysStatic_of h1 h2 h3 h4 h5 h6 h7 h8 h9
/-- .. and what it holds: null or some reference -/
def vx_Zq (C n d : String) (A : Nat → Prop) (U : State) (H : Heap) : Prop := va_Zq C n d A U H ∧ vx_L C n d A U H
theorem vx_Zq.moved {C n d : String} {A : Nat → Prop} {u U : State} {H : Heap} (hvm : u.vm.Alike U.vm) (h : vx_Zq C n d A u H) : vx_Zq C n d A U H := ⟨va_Zq.moved hvm h.1, vx_L.moved hvm h.2⟩
theorem vx_Zq.kept {C n d : String} {A : Nat → Prop} {U : State} {H H1 : Heap} (h : vx_Zq C n d A U H) (hq : ∀ a : Nat, a < H.size → ¬ A a → H1[a]? = H[a]?) : vx_Zq C n d A U H1 := ⟨va_Zq.kept h.1 hq, vx_L.kept h.2 hq⟩
theorem vx_Zq.narrow {C n d : String} {A B : Nat → Prop} {U : State} {H : Heap} (h : vx_Zq C n d A U H) (hAB : ∀ q, B q → A q) : vx_Zq C n d B U H := ⟨va_Zq.narrow h.1 hAB, vx_L.narrow h.2 hAB⟩
theorem vx_Zqof {args : Array Value} {s : State} {C n d : String} {A : Nat → Prop} (hl : (Cond.laysStatic C n d).before args s = true) (hini : (Cond.initialized C).before args s = true) (h : (Cond.isRef (.static C n d)).before args s = true) (hA : ∀ a : Nat, a < s.heap.size → ¬ A a) : vx_Zq C n d A s s.heap := by
  refine ⟨va_Zqof hl hini h hA, ?_⟩
  obtain ⟨c, k, i, f, a, cell, h1, h2, h3, h4, h5, h6, h7, h8, h9⟩ := Cond.laysStatic_spec hl
  exact ⟨c, k, i, f, a, cell, h1, h2, h3, h4, h5, h6, h7, h8, h9, hA a (Array.getElem?_eq_some_iff.mp h5).1⟩
theorem vx_isRef {C n d : String} {v : Value} {A : Nat → Prop} {s : State} {args : Array Value} (h : va_Z C n d v A s s.heap) (hv : v.isRef = true) : (Cond.isRef (.static C n d)).before args s = true := by
  obtain ⟨cf, kf, fi, f, a, cell, h1, h2, h3, h4, h5, h6, h7, -⟩ := h
  have he : (Term.static C n d).eval args s none [] s = some v := by
    simp [Term.eval, State.fieldNamed?, h1, h2, h4, h5, h6, h7]
  simp only [Cond.before, Cond.holds, Cond.value, he]
  cases v <;> simp_all [Value.isRef]
theorem vx_isRefq {C n d : String} {A : Nat → Prop} {s : State} {args : Array Value} (h : va_Zq C n d A s s.heap) : (Cond.isRef (.static C n d)).before args s = true := by
  rcases h with h | ⟨t, h⟩
  · exact vx_isRef h rfl
  · exact vx_isRef h rfl
/-- the same frame, seen from here: as if the method were called anew in this heap -/
theorem vx_rebase {T : State} (X : Stand p l e R s m args below meth c T locs cells slots) {R' : Room} (hf : R'.frames ≤ R.frames) (hl : R'.locals ≤ R.locals) (hc : cells + R'.cells ≤ R.cells) (hs : slots + R'.slots ≤ R.slots) :
    Stand p l e R' ((T.setVm s.vm).setFrames (.invoking m args :: below)) m args below meth c T [] 0 0 := by
  have htop : (T.setVm s.vm).topJava?.isSome := X.here.top
  have hF : ((T.setVm s.vm).setFrames (.invoking m args :: below)).frames = .invoking m args :: below := State.frames_setFrames _ (State.cur_lt_of_top htop)
  obtain ⟨g₀, hg0⟩ := Option.isSome_iff_exists.mp htop
  obtain ⟨r, hr⟩ := State.topJava?_eq_some.mp hg0
  have hl9 : e.platform.stackLimits (T.setVm s.vm).me = e.platform.stackLimits s.me := X.limits
  have hb9 : (T.setVm s.vm).me.stackBytes = s.me.stackBytes := X.bytes
  refine ⟨X.admits, X.cas, X.clock, hF, ?_, X.hears, X.method, X.code, X.here, X.tail, X.warmed, ?_, ?_, ?_⟩
  · have h := X.room
    have hU : ((T.setVm s.vm).setFrames (.invoking m args :: below)).localsInUse = s.localsInUse := by
      rw [State.localsInUse_invoking hF (meth := meth) (c := c) X.method X.code, State.localsInUse_invoking X.frames X.method X.code]
    simp only [State.hasRoom, Bool.and_eq_true, decide_eq_true_eq] at h ⊢
    obtain ⟨⟨⟨⟨h1, h2, h3, h4, h5, h6⟩, h7⟩, h8⟩, h9⟩ := h
    rw [X.frames, List.length_cons] at h2 h3
    have q1 := X.heapSize
    have q2 := X.used
    simp only [hF, hU, List.length_cons, State.stackLimits_setFrames, State.stackBytes_setFrames, hl9, hb9]
    refine ⟨⟨⟨⟨by omega, by omega, by omega, by omega, by omega, h6⟩, ?_⟩, ?_⟩, X.book⟩
    · show T.heap.size + R'.cells ≤ e.platform.maxCells
      omega
    · show T.slotsUsed + R'.slots ≤ e.platform.maxSlots
      omega
  · rw [State.stackLimits_setFrames]; rfl
  · rw [State.stackBytes_setFrames]; rfl
  · refine ⟨?_, Nat.le_refl _, Nat.le_refl _, ?_, ?_, fun a c9 h9 => ⟨c9, h9, rfl, rfl, fun _ _ => rfl⟩⟩
    · obtain ⟨t, ht, -⟩ := State.frames_cons hr
      show T.setVm s.vm = { ((T.setVm s.vm).setFrames (.invoking m args :: below)).setFrames (T.setVm s.vm).frames with heap := T.heap, slotsUsed := T.slotsUsed }
      rw [State.setFrames_setFrames, State.setFrames_self ht]
      rfl
    · show T.slotsUsed = T.slotsUsed + ((T.heap.toList.drop T.heap.size).map (·.slots.size)).sum
      rw [List.drop_eq_nil_of_le (Nat.le_of_eq Array.length_toList)]
      rfl
    · show ((T.heap.toList.drop T.heap.size).map (·.slots.size)).sum ≤ 0
      rw [List.drop_eq_nil_of_le (Nat.le_of_eq Array.length_toList)]
      exact Nat.le_refl _
/-- 'throw new E()': new; dup; invokespecial; athrow -/
theorem vx_throw0 {cc : ByteArray} {pc : Nat} (hexec : p.tables.exec = Jvm.exec) (hb : c.code = cc) (hl : l.stackTraces = false) {own cls : String} {names : List String} {ik ic mc ms : Nat} {A : Nat → Prop}
    (hown : s.vm.findClass own = some m.cls) (hcls : Bundle.fit cls = true) (hnames : ∀ n ∈ names, Bundle.fit n = true)
    (hk : (Cond.classLink own ik cls).before args s = true) (hini : (Cond.initialized cls).before args s = true) (hat : ∀ w ∈ vx_at0 own ic cls names, w.before args s = true)
    (hgood : ∀ w ∈ Cond.classLink own ik cls :: Cond.initialized cls :: vx_at0 own ic cls names, vx_ot w = true)
    (hU : vx_Zq Bundle.tN "UNASSIGNED_STACK" Bundle.steD A s s.heap) (hN : vx_Zq Bundle.tN "SUPPRESSED_SENTINEL" Bundle.listD A s s.heap) (hS : va_S A s.heap H locs) (hsize : ls.size = c.maxLocals)
    (d0 : decode cc pc = .ok (.new ik, 3)) (d3 : decode cc (pc + 3) = .ok (.dup, 1)) (d4 : decode cc (pc + 4) = .ok (.invokespecial ic, 3)) (d7 : decode cc (pc + 7) = .ok (.athrow, 1))
    (hout : ∀ x ∈ c.exceptionTable.toList, covers x (pc + 7) = false)
    (hRframes : names.length + 3 < R.frames) (hRlocals : (rest.map fun v => v.category).sum + (13 * (names.length + 1) + 42) ≤ R.locals) (hRcells : cells + 1 ≤ R.cells) (hRslots : slots + 6 ≤ R.slots) (hlocks : meth.locks = false)
    (hx : ∀ t : State, s.vm.Alike t.vm → H.size ≤ t.heap.size → (∀ q : Nat, q < H.size → t.heap[q]? = H[q]?) → XC cls s t)
    (hf : ∀ z ∈ locs, free z.base) (hc : cells + 1 ≤ mc) (hs : slots + 6 ≤ ms) :
    W p l e R s m args below meth c H locs cells slots (vx_MQ below Qc XC args s mc ms free) (F0 m pc ls rest) := by
  intro T hT X
  have htr : e.platform.stackTraces = false := (show e.platform.stackTraces = l.stackTraces by rw [X.admits.platform]).trans hl
  have Y := vx_rebase X (R' := { frames := R.frames, locals := R.locals, cells := 1, slots := 6 }) (Nat.le_refl _) (Nat.le_refl _) hRcells hRslots
  obtain ⟨s', hA⟩ : ∃ z, z = (T.setVm s.vm).setFrames (.invoking m args :: below) := ⟨_, rfl⟩
  rw [← hA] at Y
  have hvm : s'.vm = s.vm := by rw [hA]; rfl
  have hhp : s'.heap = H := by rw [hA]; exact hT
  have hW0 : s.WarmedH s'.vm := by rw [hvm]; exact State.WarmedH.refl s
  have hat' : ∀ w ∈ vx_at0 own ic cls names, w.before args s' = true := fun w hw => vx_ot_at hW0 hvm.symm (hgood w (List.mem_cons_of_mem _ (List.mem_cons_of_mem _ hw))) (hat w hw)
  have hk' : (Cond.classLink own ik cls).before args s' = true := vx_ot_at hW0 hvm.symm (hgood _ List.mem_cons_self) hk
  have hini' : (Cond.initialized cls).before args s' = true := vx_ot_at hW0 hvm.symm (hgood _ (List.mem_cons_of_mem _ List.mem_cons_self)) hini
  have hU' : vx_Zq Bundle.tN "UNASSIGNED_STACK" Bundle.steD A s' s'.heap := by rw [hhp]; exact vx_Zq.moved hW0.alike (hU.kept hS.2.1)
  have hN' : vx_Zq Bundle.tN "SUPPRESSED_SENTINEL" Bundle.listD A s' s'.heap := by rw [hhp]; exact vx_Zq.moved hW0.alike (hN.kept hS.2.1)
  have h : ∀ w ∈ Bundle.ownAtoms0 own ic cls names, w.before args s' = true := vx_own hat' (vx_isRefq hU'.1) (vx_isRefq hN'.1) hU'.2.word hN'.2.word
  have hown' : s'.vm.findClass own = some m.cls := by rw [hvm]; exact hown
  have hins : (Cond.instantiable cls 6).before args s' = true := h _ (by simp [Bundle.ownAtoms0])
  obtain ⟨vm₁, cX, kX, hfX, hkX, -, -, X₁, st1⟩ := Y.newCold hexec (own := own) (C := cls) (index := ik) (n := 6) hown' hk' hins hini'
    (g := F0 m pc ls rest) rfl (by rw [hb]; exact d0) (Nat.le_refl _) (Nat.le_refl _)
  generalize hT1 : (T.setVm vm₁).pushCell { cls := cX, slots := kX.instanceTypes.map defaultValue, vm := .none } = T1 at X₁ st1
  have hcat : (Value.ref T.heap.size).category = 1 := rfl
  have hcellA : T1.heap[T.heap.size]? = some (freshCell cX kX) := by rw [← hT1]; exact State.heap_pushCell_size _ _
  have d3' : decode c.code (pc + 3) = .ok (.dup, 1) := by rw [hb]; exact d3
  obtain ⟨U, hsteps, hrun, hend, hW, hsame, ce, hce, hO⟩ := X₁.ctorThrow0 hexec htr (own := own) (cls := cls) (names := names) (ic := ic) hown' hcls hnames h (fun x hx => nomatch hx) hfX hkX hcellA (by rw [hhp, hT]; exact Nat.le_refl _)
    (g := { method := m, pc := pc + 4, locals := ls, stack := .ref T.heap.size :: .ref T.heap.size :: rest, locked := none }) rfl hsize rfl rfl (rest := rest) rfl
    (by rw [hb]; exact d4) (by rw [hb]; exact d7) hout hRframes (by simp only [List.map_cons, List.sum_cons, hcat]; omega) hlocks
  obtain ⟨f1, f2⟩ := vx_frame hsame
  rw [hhp] at f1 f2
  have hWs : s.WarmedH U.vm := State.WarmedH.trans hW0 hW
  have hcl : s.vm.findClass cls = some ce.cls := by
    have h9 := hO.cls
    rw [hvm] at h9
    exact h9
  have hall : s.sameButNew ({ U with vm := s.vm } : State) locs mc ms := by
    subst hA
    obtain ⟨e1, e2⟩ := hsame
    rw [State.setFrames_setFrames] at e1
    have h2 : (T.setVm s.vm).sameButNew ({ U with vm := s.vm } : State) [] (0 + 1) (0 + 6) := ⟨e1, e2⟩
    have h3 := X.same.trans h2
    rw [List.append_nil] at h3
    exact h3.mono hc hs
  refine ⟨U, ?_, .threw T.heap.size, hrun, hend, Or.inr ⟨T.heap.size, rfl, cls, ce, locs, hx U hWs.alike f1 (fun q hq => f2 q hq (fun z hz => nomatch hz)), hce, hO.vm, hcl, hWs, hall, hf⟩⟩
  refine st1 _ ?_
  show Steps p.tables e below (T1.setTop { method := m, pc := pc + 3, locals := ls, stack := .ref T.heap.size :: rest, locked := none }) _
  jvm_step X₁.here [X₁.here.top, hexec, d3', Value.category]
  exact hsteps
/-- 'throw new E("text")': new; dup; ldc; invokespecial; athrow -/
theorem vx_throwS {cc : ByteArray} {pc : Nat} (hexec : p.tables.exec = Jvm.exec) (hb : c.code = cc) (hl : l.stackTraces = false) {own cls text : String} {names : List String} {ik is ic mc ms sa : Nat} {A : Nat → Prop}
    (hown : s.vm.findClass own = some m.cls) (hcls : Bundle.fit cls = true) (hnames : ∀ n ∈ names, Bundle.fit n = true)
    (hk : (Cond.classLink own ik cls).before args s = true) (hini : (Cond.initialized cls).before args s = true) (hstr : vk_R own is text sa s) (hat : ∀ w ∈ vx_atS own ic cls names, w.before args s = true)
    (hgood : ∀ w ∈ Cond.classLink own ik cls :: Cond.initialized cls :: vx_atS own ic cls names, vx_ot w = true)
    (hU : vx_Zq Bundle.tN "UNASSIGNED_STACK" Bundle.steD A s s.heap) (hN : vx_Zq Bundle.tN "SUPPRESSED_SENTINEL" Bundle.listD A s s.heap) (hS : va_S A s.heap H locs) (hsize : ls.size = c.maxLocals)
    (d0 : decode cc pc = .ok (.new ik, 3)) (d3 : decode cc (pc + 3) = .ok (.dup, 1)) (d4 : decode cc (pc + 4) = .ok (.ldc is, 2)) (d6 : decode cc (pc + 6) = .ok (.invokespecial ic, 3)) (d9 : decode cc (pc + 9) = .ok (.athrow, 1))
    (hout : ∀ x ∈ c.exceptionTable.toList, covers x (pc + 9) = false)
    (hRframes : names.length + 3 < R.frames) (hRlocals : (rest.map fun v => v.category).sum + (13 * (names.length + 1) + 43) ≤ R.locals) (hRcells : cells + 1 ≤ R.cells) (hRslots : slots + 6 ≤ R.slots) (hlocks : meth.locks = false)
    (hx : ∀ t : State, s.vm.Alike t.vm → H.size ≤ t.heap.size → (∀ q : Nat, q < H.size → t.heap[q]? = H[q]?) → XC cls s t)
    (hf : ∀ z ∈ locs, free z.base) (hc : cells + 1 ≤ mc) (hs : slots + 6 ≤ ms) :
    W p l e R s m args below meth c H locs cells slots (vx_MQ below Qc XC args s mc ms free) (F0 m pc ls rest) := by
  intro T hT X
  have htr : e.platform.stackTraces = false := (show e.platform.stackTraces = l.stackTraces by rw [X.admits.platform]).trans hl
  have Y := vx_rebase X (R' := { frames := R.frames, locals := R.locals, cells := 1, slots := 6 }) (Nat.le_refl _) (Nat.le_refl _) hRcells hRslots
  obtain ⟨s', hA⟩ : ∃ z, z = (T.setVm s.vm).setFrames (.invoking m args :: below) := ⟨_, rfl⟩
  rw [← hA] at Y
  have hvm : s'.vm = s.vm := by rw [hA]; rfl
  have hhp : s'.heap = H := by rw [hA]; exact hT
  have hW0 : s.WarmedH s'.vm := by rw [hvm]; exact State.WarmedH.refl s
  have hat' : ∀ w ∈ vx_atS own ic cls names, w.before args s' = true := fun w hw => vx_ot_at hW0 hvm.symm (hgood w (List.mem_cons_of_mem _ (List.mem_cons_of_mem _ hw))) (hat w hw)
  have hk' : (Cond.classLink own ik cls).before args s' = true := vx_ot_at hW0 hvm.symm (hgood _ List.mem_cons_self) hk
  have hini' : (Cond.initialized cls).before args s' = true := vx_ot_at hW0 hvm.symm (hgood _ (List.mem_cons_of_mem _ List.mem_cons_self)) hini
  have hU' : vx_Zq Bundle.tN "UNASSIGNED_STACK" Bundle.steD A s' s'.heap := by rw [hhp]; exact vx_Zq.moved hW0.alike (hU.kept hS.2.1)
  have hN' : vx_Zq Bundle.tN "SUPPRESSED_SENTINEL" Bundle.listD A s' s'.heap := by rw [hhp]; exact vx_Zq.moved hW0.alike (hN.kept hS.2.1)
  have h : ∀ w ∈ Bundle.ownAtoms own ic cls names, w.before args s' = true := vx_own hat' (vx_isRefq hU'.1) (vx_isRefq hN'.1) hU'.2.word hN'.2.word
  have hown' : s'.vm.findClass own = some m.cls := by rw [hvm]; exact hown
  have hins : (Cond.instantiable cls 6).before args s' = true := h _ (by simp [Bundle.ownAtoms])
  obtain ⟨vm₁, cX, kX, hfX, hkX, -, -, X₁, st1⟩ := Y.newCold hexec (own := own) (C := cls) (index := ik) (n := 6) hown' hk' hins hini'
    (g := F0 m pc ls rest) rfl (by rw [hb]; exact d0) (Nat.le_refl _) (Nat.le_refl _)
  generalize hT1 : (T.setVm vm₁).pushCell { cls := cX, slots := kX.instanceTypes.map defaultValue, vm := .none } = T1 at X₁ st1
  have hcat : (Value.ref T.heap.size).category = 1 := rfl
  have hcellA : T1.heap[T.heap.size]? = some (freshCell cX kX) := by rw [← hT1]; exact State.heap_pushCell_size _ _
  have d3' : decode c.code (pc + 3) = .ok (.dup, 1) := by rw [hb]; exact d3
  have d4' : decode c.code (pc + 4) = .ok (.ldc is, 2) := by rw [hb]; exact d4
  have hstr' : vk_R own is text sa s' := vk_R.warm hW0 hstr
  obtain ⟨U, hsteps, hrun, hend, hW, hsame, ce, hce, hO⟩ := X₁.ctorThrowS hexec htr (own := own) (cls := cls) (names := names) (ic := ic) hown' hcls hnames h (fun x hx => nomatch hx) hfX hkX hcellA (by rw [hhp, hT]; exact Nat.le_refl _) (msg := .ref sa) rfl
    (g := { method := m, pc := pc + 6, locals := ls, stack := .ref sa :: .ref T.heap.size :: .ref T.heap.size :: rest, locked := none }) rfl hsize rfl rfl (rest := rest) rfl
    (by rw [hb]; exact d6) (by rw [hb]; exact d9) hout hRframes (by simp only [List.map_cons, List.sum_cons, hcat]; omega) hlocks
  obtain ⟨f1, f2⟩ := vx_frame hsame
  rw [hhp] at f1 f2
  have hWs : s.WarmedH U.vm := State.WarmedH.trans hW0 hW
  have hcl : s.vm.findClass cls = some ce.cls := by
    have h9 := hO.cls
    rw [hvm] at h9
    exact h9
  have hall : s.sameButNew ({ U with vm := s.vm } : State) locs mc ms := by
    subst hA
    obtain ⟨e1, e2⟩ := hsame
    rw [State.setFrames_setFrames] at e1
    have h2 : (T.setVm s.vm).sameButNew ({ U with vm := s.vm } : State) [] (0 + 1) (0 + 6) := ⟨e1, e2⟩
    have h3 := X.same.trans h2
    rw [List.append_nil] at h3
    exact h3.mono hc hs
  refine ⟨U, ?_, .threw T.heap.size, hrun, hend, Or.inr ⟨T.heap.size, rfl, cls, ce, locs, hx U hWs.alike f1 (fun q hq => f2 q hq (fun z hz => nomatch hz)), hce, hO.vm, hcl, hWs, hall, hf⟩⟩
  refine st1 _ ?_
  show Steps p.tables e below (T1.setTop { method := m, pc := pc + 3, locals := ls, stack := .ref T.heap.size :: rest, locked := none }) _
  jvm_step X₁.here [X₁.here.top, hexec, d3', Value.category]
  exact X₁.ldcString hexec (own := own) (text := text) (index := is) (a := sa) hown' hstr'.1 hstr'.2
    (g := { method := m, pc := pc + 4, locals := ls, stack := .ref T.heap.size :: .ref T.heap.size :: rest, locked := none }) rfl d4' _ hsteps
/-- 'throw new E("text")', the text by a wide index -/
theorem vx_throwSW {cc : ByteArray} {pc : Nat} (hexec : p.tables.exec = Jvm.exec) (hb : c.code = cc) (hl : l.stackTraces = false) {own cls text : String} {names : List String} {ik is ic mc ms sa : Nat} {A : Nat → Prop}
    (hown : s.vm.findClass own = some m.cls) (hcls : Bundle.fit cls = true) (hnames : ∀ n ∈ names, Bundle.fit n = true)
    (hk : (Cond.classLink own ik cls).before args s = true) (hini : (Cond.initialized cls).before args s = true) (hstr : vk_R own is text sa s) (hat : ∀ w ∈ vx_atS own ic cls names, w.before args s = true)
    (hgood : ∀ w ∈ Cond.classLink own ik cls :: Cond.initialized cls :: vx_atS own ic cls names, vx_ot w = true)
    (hU : vx_Zq Bundle.tN "UNASSIGNED_STACK" Bundle.steD A s s.heap) (hN : vx_Zq Bundle.tN "SUPPRESSED_SENTINEL" Bundle.listD A s s.heap) (hS : va_S A s.heap H locs) (hsize : ls.size = c.maxLocals)
    (d0 : decode cc pc = .ok (.new ik, 3)) (d3 : decode cc (pc + 3) = .ok (.dup, 1)) (d4 : decode cc (pc + 4) = .ok (.ldc_w is, 3)) (d7 : decode cc (pc + 7) = .ok (.invokespecial ic, 3)) (d10 : decode cc (pc + 10) = .ok (.athrow, 1))
    (hout : ∀ x ∈ c.exceptionTable.toList, covers x (pc + 10) = false)
    (hRframes : names.length + 3 < R.frames) (hRlocals : (rest.map fun v => v.category).sum + (13 * (names.length + 1) + 43) ≤ R.locals) (hRcells : cells + 1 ≤ R.cells) (hRslots : slots + 6 ≤ R.slots) (hlocks : meth.locks = false)
    (hx : ∀ t : State, s.vm.Alike t.vm → H.size ≤ t.heap.size → (∀ q : Nat, q < H.size → t.heap[q]? = H[q]?) → XC cls s t)
    (hf : ∀ z ∈ locs, free z.base) (hc : cells + 1 ≤ mc) (hs : slots + 6 ≤ ms) :
    W p l e R s m args below meth c H locs cells slots (vx_MQ below Qc XC args s mc ms free) (F0 m pc ls rest) := by
  intro T hT X
  have htr : e.platform.stackTraces = false := (show e.platform.stackTraces = l.stackTraces by rw [X.admits.platform]).trans hl
  have Y := vx_rebase X (R' := { frames := R.frames, locals := R.locals, cells := 1, slots := 6 }) (Nat.le_refl _) (Nat.le_refl _) hRcells hRslots
  obtain ⟨s', hA⟩ : ∃ z, z = (T.setVm s.vm).setFrames (.invoking m args :: below) := ⟨_, rfl⟩
  rw [← hA] at Y
  have hvm : s'.vm = s.vm := by rw [hA]; rfl
  have hhp : s'.heap = H := by rw [hA]; exact hT
  have hW0 : s.WarmedH s'.vm := by rw [hvm]; exact State.WarmedH.refl s
  have hat' : ∀ w ∈ vx_atS own ic cls names, w.before args s' = true := fun w hw => vx_ot_at hW0 hvm.symm (hgood w (List.mem_cons_of_mem _ (List.mem_cons_of_mem _ hw))) (hat w hw)
  have hk' : (Cond.classLink own ik cls).before args s' = true := vx_ot_at hW0 hvm.symm (hgood _ List.mem_cons_self) hk
  have hini' : (Cond.initialized cls).before args s' = true := vx_ot_at hW0 hvm.symm (hgood _ (List.mem_cons_of_mem _ List.mem_cons_self)) hini
  have hU' : vx_Zq Bundle.tN "UNASSIGNED_STACK" Bundle.steD A s' s'.heap := by rw [hhp]; exact vx_Zq.moved hW0.alike (hU.kept hS.2.1)
  have hN' : vx_Zq Bundle.tN "SUPPRESSED_SENTINEL" Bundle.listD A s' s'.heap := by rw [hhp]; exact vx_Zq.moved hW0.alike (hN.kept hS.2.1)
  have h : ∀ w ∈ Bundle.ownAtoms own ic cls names, w.before args s' = true := vx_own hat' (vx_isRefq hU'.1) (vx_isRefq hN'.1) hU'.2.word hN'.2.word
  have hown' : s'.vm.findClass own = some m.cls := by rw [hvm]; exact hown
  have hins : (Cond.instantiable cls 6).before args s' = true := h _ (by simp [Bundle.ownAtoms])
  obtain ⟨vm₁, cX, kX, hfX, hkX, -, -, X₁, st1⟩ := Y.newCold hexec (own := own) (C := cls) (index := ik) (n := 6) hown' hk' hins hini'
    (g := F0 m pc ls rest) rfl (by rw [hb]; exact d0) (Nat.le_refl _) (Nat.le_refl _)
  generalize hT1 : (T.setVm vm₁).pushCell { cls := cX, slots := kX.instanceTypes.map defaultValue, vm := .none } = T1 at X₁ st1
  have hcat : (Value.ref T.heap.size).category = 1 := rfl
  have hcellA : T1.heap[T.heap.size]? = some (freshCell cX kX) := by rw [← hT1]; exact State.heap_pushCell_size _ _
  have d3' : decode c.code (pc + 3) = .ok (.dup, 1) := by rw [hb]; exact d3
  have d4' : decode c.code (pc + 4) = .ok (.ldc_w is, 3) := by rw [hb]; exact d4
  have hstr' : vk_R own is text sa s' := vk_R.warm hW0 hstr
  obtain ⟨U, hsteps, hrun, hend, hW, hsame, ce, hce, hO⟩ := X₁.ctorThrowS hexec htr (own := own) (cls := cls) (names := names) (ic := ic) hown' hcls hnames h (fun x hx => nomatch hx) hfX hkX hcellA (by rw [hhp, hT]; exact Nat.le_refl _) (msg := .ref sa) rfl
    (g := { method := m, pc := pc + 7, locals := ls, stack := .ref sa :: .ref T.heap.size :: .ref T.heap.size :: rest, locked := none }) rfl hsize rfl rfl (rest := rest) rfl
    (by rw [hb]; exact d7) (by rw [hb]; exact d10) hout hRframes (by simp only [List.map_cons, List.sum_cons, hcat]; omega) hlocks
  obtain ⟨f1, f2⟩ := vx_frame hsame
  rw [hhp] at f1 f2
  have hWs : s.WarmedH U.vm := State.WarmedH.trans hW0 hW
  have hcl : s.vm.findClass cls = some ce.cls := by
    have h9 := hO.cls
    rw [hvm] at h9
    exact h9
  have hall : s.sameButNew ({ U with vm := s.vm } : State) locs mc ms := by
    subst hA
    obtain ⟨e1, e2⟩ := hsame
    rw [State.setFrames_setFrames] at e1
    have h2 : (T.setVm s.vm).sameButNew ({ U with vm := s.vm } : State) [] (0 + 1) (0 + 6) := ⟨e1, e2⟩
    have h3 := X.same.trans h2
    rw [List.append_nil] at h3
    exact h3.mono hc hs
  refine ⟨U, ?_, .threw T.heap.size, hrun, hend, Or.inr ⟨T.heap.size, rfl, cls, ce, locs, hx U hWs.alike f1 (fun q hq => f2 q hq (fun z hz => nomatch hz)), hce, hO.vm, hcl, hWs, hall, hf⟩⟩
  refine st1 _ ?_
  show Steps p.tables e below (T1.setTop { method := m, pc := pc + 3, locals := ls, stack := .ref T.heap.size :: rest, locked := none }) _
  jvm_step X₁.here [X₁.here.top, hexec, d3', Value.category]
  exact X₁.ldcStringW hexec (own := own) (text := text) (index := is) (a := sa) hown' hstr'.1 hstr'.2
    (g := { method := m, pc := pc + 4, locals := ls, stack := .ref T.heap.size :: .ref T.heap.size :: rest, locked := none }) rfl d4' _ hsteps
end Ends
section Bodies
variable {l : Launch}
theorem vx_ofW {y : MethodName} {ws ws' : List Cond} {rm : Room} {Pc : Array Value → State → Prop} {Qc : Array Value → State → Outcome → State → Prop} {XC : String → State → State → Prop} {mc ms : Nat} {free : Addr → Prop} {cc : ByteArray} {maxL : Nat} {ret : Option FieldType}
    (hy : plainName y.cls = true) (hw : ws = Cond.code y cc maxL ret :: ws')
    (body : ∀ p e s m args below meth c s₁, BodyLoose p l y (headSpec ws rm) cc maxL ret e s m args below meth c s₁ → c.maxLocals = maxL → (∀ x ∈ c.exceptionTable.toList, False) → Pc args s →
      W p l e (headSpec ws rm).room s m args below meth c s.heap [] 0 0 (vx_MQ below Qc XC args s mc ms free) (entryFrame m args maxL)) : vx_Met l y ws rm Pc Qc XC mc ms free := by
  refine MetFree.of_bodyS (code := cc) (maxLocals := maxL) (ret := ret) hy ?_ ?_
  · intro args s m h hn
    obtain ⟨meth, c, h1, h2, h3, h4, h5, h6, -, -⟩ := Cond.code_spec hn (atoms_spec (ws := ws) h _ (by rw [hw]; exact List.mem_cons_self))
    exact ⟨meth, c, h1, h2, h3, h4, h5, h6⟩
  · intro p e s m args below meth c s₁ B hml hP _
    have hh0 : s₁.heap = s.heap := by rw [B.state]; rfl
    have ht : ∀ x ∈ c.exceptionTable.toList, False := by
      obtain ⟨meth9, c9, h1, h2, -, -, -, -, h7, -⟩ := Cond.code_spec B.named (atoms_spec (ws := ws) B.pre _ (by rw [hw]; exact List.mem_cons_self))
      cases Option.some.inj (h1.symm.trans B.method)
      cases Option.some.inj (h2.symm.trans (Stand.of_body B).code)
      intro x hx
      rw [Array.isEmpty_iff.mp h7] at hx
      cases hx
    obtain ⟨t, a1, o, b1, b2, b3⟩ := body p e s m args below meth c s₁ B hml ht hP s₁ hh0 (Stand.of_body B)
    exact ⟨t, o, a1, b1, b2, b3⟩
/-- the table of a body with handlers -/
theorem vx_table {p : Program} {x y : MethodName} {S : Spec} {cc bytes : ByteArray} {maxL maxL' : Nat} {ret ret' : Option FieldType} {e : Env} {s s₁ : State} {m : MethodId} {args : Array Value} {below : List Frame} {meth : Method} {c : Code} {hh : List (Nat × Nat × Nat × Nat)}
    (B : BodyLoose p l y S cc maxL ret e s m args below meth c s₁) (h : (Cond.codeWith y bytes maxL' ret' hh).before args s = true) : c.exceptionTable.toList = tableOf hh := by
  obtain ⟨m9, meth9, c9, hn9, h1, h2, -, -, h6, -⟩ := Cond.codeWith_spec h
  cases Option.some.inj (hn9.symm.trans B.named)
  cases Option.some.inj (h1.symm.trans B.method)
  cases Option.some.inj (h2.symm.trans (Stand.of_body B).code)
  rw [← h6, table_eq]
end Bodies
end VXA
/-! ===== END ===== -/
/-! ===== BEGIN a static call of a method with an exception table ===== -/
section VXS
variable {p : Program} {l : Launch} {e : Env} {R : Room} {s : State} {m : MethodId} {args : Array Value} {below : List Frame} {meth : Method} {c : Code} {T : State} {H : Heap} {locs : List Loc} {cells slots : Nat}
abbrev vx_CSW (R : Room) (s : State) (args : Array Value) (own : String) (index : Nat) (y : MethodName) (bytes : ByteArray) (maxL : Nat) (ret : Option FieldType) (hh : List (Nat × Nat × Nat × Nat)) (ws : List Cond) (rm : Room) (mc ms n : Nat) : Prop :=
  (rm.cells = mc ∧ rm.slots = ms ∧ rm.frames + 1 ≤ R.frames ∧ 8 + (maxL + 11) + rm.locals ≤ R.locals ∧ (∀ w ∈ ws, ∀ (a' : Array Value) (U : State), s.WarmedH U.vm → w.before a' U = true) ∧ Cond.codeWith y bytes maxL ret hh ∈ ws) ∧
  (Cond.codeWith y bytes maxL ret hh).before args s = true ∧ (Cond.initialized y.cls).before args s = true ∧ (y.cls ≠ "java/lang/invoke/MethodHandle" ∧ y.cls ≠ "java/lang/invoke/VarHandle") ∧
  (∀ sig, parseMethodDescriptor y.desc = some sig → n = sig.parameters.length) ∧ (Cond.methodLink own index y).before args s = true ∧ (Cond.static y).before args s = true
theorem vx_cwSW {own : String} {index maxL mc ms : Nat} {y : MethodName} {bytes : ByteArray} {ret : Option FieldType} {hh : List (Nat × Nat × Nat × Nat)} {Ts ws ws' : List Cond} {rm : Room} (n : Nat) (ht : ∀ w ∈ Ts, w.before args s = true) (hT : GoodIn Ts (va_wsS own index y ws)) (hw : ws = Cond.codeWith y bytes maxL ret hh :: ws') (hrc : rm.cells = mc) (hrs : rm.slots = ms)
    (hd : y.cls ≠ "java/lang/invoke/MethodHandle" ∧ y.cls ≠ "java/lang/invoke/VarHandle" ∧ (parseMethodDescriptor y.desc).map (fun d => d.parameters.length) = some n) (hR : rm.frames + 1 ≤ R.frames ∧ 8 + (maxL + 11) + rm.locals ≤ R.locals) :
    vx_CSW R s args own index y bytes maxL ret hh ws rm mc ms n := by
  have ok : ∀ w ∈ va_wsS own index y ws, w.before args s = true := fun w h => ht w (hT w h).1
  have hG : GoodIn Ts ws := fun w h => hT w (by unfold va_wsS; exact List.mem_append_right _ h)
  have hc : Cond.codeWith y bytes maxL ret hh ∈ ws := by rw [hw]; exact List.mem_cons_self
  refine ⟨⟨hrc, hrs, hR.1, hR.2, pay_in ht hG, hc⟩, ht _ (hG _ hc).1, ok _ (by simp [va_wsS]), ⟨hd.1, hd.2.1⟩, fun sig h => ?_, ok _ (by simp [va_wsS]), ok _ (by simp [va_wsS])⟩
  have h2 := hd.2.2
  rw [h] at h2
  exact (Option.some.inj h2).symm
theorem vx_callSW (X : Stand p l e R s m args below meth c T locs cells slots) (hexec : p.tables.exec = Jvm.exec) {own : String} {index : Nat} {y : MethodName} {bytes : ByteArray} {maxL : Nat} {ret : Option FieldType} {hh : List (Nat × Nat × Nat × Nat)}
    (hown : s.vm.findClass own = some m.cls) (hlink : (Cond.methodLink own index y).before args s = true) (hstat : (Cond.static y).before args s = true) (hinit : (Cond.initialized y.cls).before args s = true)
    (hcode : (Cond.codeWith y bytes maxL ret hh).before args s = true) (hy : y.cls ≠ "java/lang/invoke/MethodHandle" ∧ y.cls ≠ "java/lang/invoke/VarHandle")
    {W9 : Nat} {Pre : Pt → Array Value → Prop} {Post : Pt → Array Value → Option Value → Pt → Prop} (hK : Back l R p e below s args y 3 W9 Pre Post)
    {g : JFrame} (hg : g.method = m) (hsize : g.locals.size = c.maxLocals) {argsL rest : List Value} (hlen : ∀ sig, parseMethodDescriptor y.desc = some sig → argsL.length = sig.parameters.length)
    (hstack : g.stack = argsL.reverse ++ rest) (hW : 2 * g.monitorRoom + (rest.map fun v => v.category).sum ≤ W9) (hdg : decode c.code g.pc = .ok (.invokestatic index, 3))
    (hpre : ∀ vm₁, s.WarmedH vm₁ → Pre ⟨T.setVm vm₁, locs, cells, slots⟩ argsL.toArray) :
    ∃ (v : Option Value) (vm₁ : Vm) (B : Pt), s.WarmedH vm₁ ∧ Stand p l e R s m args below meth c B.U B.locs B.cells B.slots ∧ Post ⟨T.setVm vm₁, locs, cells, slots⟩ argsL.toArray v B ∧
      ∀ target, Steps p.tables e below (B.U.setTop { g with pc := g.pc + 3, stack := v.toList ++ rest }) target → Steps p.tables e below (T.setTop g) target := by
  obtain ⟨mk, methM, cM, hnamed, hmethM, -, -, -, -, -, -, hsigM⟩ := Cond.codeWith_spec hcode
  have hstatic : methM.isStatic = true := Cond.static_spec hnamed hmethM hstat
  obtain ⟨kP, hkP, -⟩ := className_of_methodNamed hnamed
  have hinitP : kP.init = .initialized := Cond.initialized_spec (findClass_of_methodNamed hnamed) hkP hinit
  obtain ⟨vm₁, X₁, hstep₁⟩ := X.invokestatic hexec hown hlink hnamed hmethM hstatic hkP hinitP hy (g := g) hg (argsL := argsL) (rest := rest) (hlen _ hsigM) hstack hdg
  obtain ⟨v, B, X', hpost, hsteps⟩ := hK m meth c ⟨T.setVm vm₁, locs, cells, slots⟩ { g with stack := rest } (.invokestatic index) mk argsL.toArray X₁ hg hsize hdg hW (X₁.named hnamed) (hpre vm₁ X₁.warmed)
  exact ⟨v, vm₁, B, X₁.warmed, X', hpost, fun target h => hstep₁ _ fun acts => by rw [doInvoke_state]; exact hsteps.trans h⟩
theorem vx_runSW {y : MethodName} {bytes cc : ByteArray} {maxL nL mc ms n index : Nat} {ret : Option FieldType} {hh : List (Nat × Nat × Nat × Nat)} {ws : List Cond} {rm : Room} {Pc : Array Value → State → Prop} {Qc : Array Value → State → Outcome → State → Prop} {free : Addr → Prop} {Ts : List Cond} {own : String} {As rest : List Value} {g : JFrame}
    (S : CallFix p m c cc nL s args Ts own) (hM : Met l y ws rm Pc Qc mc ms free) (cw : vx_CSW R s args own index y bytes maxL ret hh ws rm mc ms n) (hp : PreS s H Pc As)
    (hg : g.method = m) (hn : As.length = n) (hsize : g.locals.size = nL) (hstack : g.stack = As.reverse ++ rest) (hW : 2 * g.monitorRoom + (rest.map fun v => v.category).sum ≤ 8) (hdg : decode cc g.pc = .ok (.invokestatic index, 3)) (hf : cells + mc ≤ R.cells ∧ slots + ms ≤ R.slots) :
    va_Run p l e R s m args below meth c H locs cells slots mc ms g rest (Qc As.toArray) (free) := by
  obtain ⟨⟨hrc, hrs, hfr, hlo, hws, hcw⟩, hcode, hini, hy, hlen, hl, hstt⟩ := cw
  have hK : Back l R p e below s args y 3 8 (PreOf R mc ms Pc) (PostOf Qc mc ms free) := va_backW (hh := hh) (bytes := bytes) (maxL := maxL) (ret := ret) hM hp.1 hrc hrs hfr hlo hws hcw (fun a' U hW => word_at hW (Or.inl (by first | rfl | simp [Cond.onTables, Cond.keeps, Cond.steady])) hini)
  obtain ⟨hx, hb, hml, ho, -⟩ := S
  intro T hT X
  obtain ⟨v, vm₁, ⟨U', l2, c2, s2⟩, hW₁, X', ⟨g', mk, t, L, e1, e2, hq, h1, hL, h2, h3⟩, st⟩ := vx_callSW X hx (hh := hh) (bytes := bytes) (maxL := maxL) (ret := ret) ho hl hstt hini hcode hy hK hg (hsize.trans hml.symm) (argsL := As) (rest := rest) (fun sig h => hn.trans (hlen sig h)) hstack hW (by rw [hb]; exact hdg)
    (fun vm₁ hW₁ => ⟨hf.1, hf.2, hp.2 (T.setVm vm₁) hT hW₁⟩)
  dsimp only [Pt.U, Pt.locs, Pt.cells, Pt.slots] at X' e1 e2 h1 h2 h3 st
  subst h1; subst h2; subst h3
  exact ⟨v, (T.setVm vm₁).calling g' mk As.toArray, t, U', L, hT, X', hL, e1, e2, hq, st⟩
/-- not caught here, past rows that name other classes: it goes on to the caller -/
theorem vx_outP {p : Program} {l : Launch} {e : Env} {R : Room} {s : State} {m : MethodId} {args : Array Value} {below : List Frame} {meth : Method} {c : Code} {H : Heap} {locs : List Loc} {cells slots : Nat} {free : Addr → Prop} {ls : Array Slot} {rest : List Value} {Qc : Array Value → State → Outcome → State → Prop} {XC : String → State → State → Prop}
    {pc : Nat} {own E : String} {ce : Cell} {q : Addr} {mc ms : Nat} (hown : s.vm.findClass own = some m.cls) (hlocks : meth.locks = false)
    (hpass : ∀ z ∈ c.exceptionTable.toList, covers z pc = false ∨ (z.catchType ≠ 0 ∧ ∃ nm : String, (Cond.classLink own z.catchType nm).before args s = true ∧ va_Nc E nm s)) (hcell : H[q]? = some ce) (hv : ce.vm = .none) (hcl : s.vm.findClass E = some ce.cls)
    (hx : ∀ t : State, t.heap = H → s.vm.Alike t.vm → XC E s t) (hf : ∀ z ∈ locs, free z.base) (hc : cells ≤ mc) (hs : slots ≤ ms) :
    vx_W p l e R s m args below meth c H locs cells slots (vx_MQ below Qc XC args s mc ms free) (F0 m pc ls rest) q := by
  intro T hT X
  have hpl : e.platform.magicAccessors = ({} : Platform).magicAccessors := by rw [X.admits.platform]
  obtain ⟨vm', hW', X', st⟩ := X.outThrough hlocks q (g := F0 m pc ls rest) rfl rfl rfl (cell := ce) (by rw [hT]; exact hcell) (by rw [hv]; rfl)
    (by obtain ⟨k9, h9, -⟩ := Vm.findClass_spec hcl; exact ⟨k9, h9⟩) (fun z hz => by
      rcases hpass z hz with h | ⟨hz0, nm, hl1, hn1⟩
      · exact Or.inl h
      · obtain ⟨c6, hc6, hcl6⟩ := Cond.classLink_spec hown hl1 e.platform hpl
        obtain ⟨a8, b8, h1, h2, h3⟩ := hn1
        cases Option.some.inj (h1.symm.trans hcl)
        cases Option.some.inj (h2.symm.trans hc6)
        exact Or.inr ⟨hz0, _, hcl6, h3⟩)
  obtain ⟨g₀, hfr⟩ := X'.frames_eq
  have hcell9 : ((T.setVm vm').setFrames (.throwing q :: below)).heap[q]? = some ce := by
    show T.heap[q]? = some ce
    rw [hT]; exact hcell
  have hend : Ended ((T.setVm vm').setFrames (.throwing q :: below)) below (.threw q) := State.frames_setFrames _ (State.cur_lt_of_frames hfr)
  refine ⟨(T.setVm vm').setFrames (.throwing q :: below), ?_, .threw q, X'.here.running, hend, Or.inr ⟨q, rfl, E, ce, locs, hx _ hT (X'.ends _).1.alike, hcell9, hv, hcl, (X'.ends _).1, (X'.ends _).2.mono hc hs, hf⟩⟩
  rw [X.pushThrowing_eq]
  exact st
/-- a thing of a world lies in the heap -/
theorem vx_lt {D : va_G} {cl : List vw_C} {ws : va_W} {H1 : Heap} (h : va_P D cl ws H1) {k : Nat} {q : Nat × va_E} (hk : ws[k]? = some q) : q.1 < H1.size := (h k q hk).lt
end VXS
/-! ===== END ===== -/
/-! ===== BEGIN methods with a table of their own: called by a name, returning or throwing ===== -/
section VXH
/-! vx_backW, vx_callVX, vx_callSX, vx_callVW, vx_runVW, vx_runVX, vx_runSX, vx_ofWH follow the same proofs as their sisters above (Free/Laws.lean, Shelf42/LK1.lean); vx_outP calls Shelf42/NT130.lean (outThrough). -/
section
variable {l : Launch} {R : Room} {p : Program} {e : Env} {below : List Frame} {s : State} {sargs : Array Value} {y : MethodName} {len W9 : Nat}
theorem vx_backW {ws : List Cond} {rm : Room} {Pc : Array Value → State → Prop} {Qc : Array Value → State → Outcome → State → Prop} {XC : String → State → State → Prop} {mc ms : Nat} {free : Addr → Prop} {bytes : ByteArray} {maxL : Nat} {ret : Option FieldType} {hh : List (Nat × Nat × Nat × Nat)}
    (hM : vx_Met l y ws rm Pc Qc XC mc ms free) (hblind : FrameBlind Pc) (hrc : rm.cells = mc) (hrs : rm.slots = ms)
    (hframes : rm.frames + 1 ≤ R.frames) (hlocals : W9 + (maxL + 11) + rm.locals ≤ R.locals)
    (hws : ∀ w ∈ ws, ∀ a' U, s.WarmedH U.vm → w.before a' U = true) (hcode : Cond.codeWith y bytes maxL ret hh ∈ ws) (hinit : ∀ a' U, s.WarmedH U.vm → (Cond.initialized y.cls).before a' U = true) :
    vx_Back l R p e below s sargs y len W9 (PreOf R mc ms Pc) (PostOf Qc mc ms free) (vx_Post XC mc ms free) := by
  intro m meth c A g ig mk a X hg hsize hdg hW hn hp
  have h1 : (headSpec ws rm).pre.before a A.U = true := atoms_intro fun w hw => hws w hw _ _ X.warmed
  have h2 : (Cond.codeWith y bytes maxL ret hh).before a A.U = true := hws _ hcode _ _ X.warmed
  have h3 : (Cond.initialized y.cls).before a A.U = true := hinit _ _ X.warmed
  have h4 : A.cells + (headSpec ws rm).room.cells ≤ R.cells := by rw [show (headSpec ws rm).room.cells = mc from hrc]; exact hp.1
  have h5 : A.slots + (headSpec ws rm).room.slots ≤ R.slots := by rw [show (headSpec ws rm).room.slots = ms from hrs]; exact hp.2.1
  have hPc : Pc a (A.U.calling g mk a) := hblind _ _ _ _ hp.2.2
  obtain ⟨U, Ls, c0, s0⟩ := A
  dsimp only [Pt.U, Pt.locs, Pt.cells, Pt.slots] at h1 h2 h3 h4 h5 X hn hPc ⊢
  obtain ⟨m9, methY, cY, hn9, hmY, hcY, -, hlY, -⟩ := Cond.codeWith_spec h2
  cases Option.some.inj (hn9.symm.trans hn)
  obtain ⟨kY, hkY, -⟩ := className_of_methodNamed hn
  have hinitY : kY.init = .initialized := Cond.initialized_spec (findClass_of_methodNamed hn) hkY h3
  have h : At U g.method c below := by rw [hg]; exact X.here
  have hlocals9 : W9 + (maxL + 11) + (headSpec ws rm).room.locals ≤ R.locals := hlocals
  have happ : (headSpec ws rm).appliesLoose y e.platform (U.calling g mk a) = true :=
    Spec.appliesLoose_calling (g := g) h hdg hn hkY hinitY
      (X.room_calling (g := g) (R' := (headSpec ws rm).room) hsize hmY hcY hframes (by rw [hlY]; omega) h4 h5) h1
  obtain ⟨mid, hmid⟩ := h.above
  have hfr : (U.setTop g).frames = (.java g :: mid) ++ below := by rw [State.frames_setTop' g h.top, hmid]; rfl
  obtain ⟨o, s₂, hsteps, -, hend, hq⟩ := Steps.callFree hM p X.admits X.cas X.clock (acts := []) hfr happ hPc trivial
  have hq' : vx_Q Qc XC mc ms free a (U.calling g mk a) o s₂ := hq
  rw [State.frames_setTop' g h.top] at hend
  obtain ⟨g₀, hg0⟩ := Option.isSome_iff_exists.mp h.top
  obtain ⟨r, hr⟩ := State.topJava?_eq_some.mp hg0
  have hr' : (({ U with heap := s₂.heap, slotsUsed := s₂.slotsUsed } : State).setVm s₂.vm).frames = .java g₀ :: r := hr
  rcases hq' with ⟨hqc, L, hfe, hL⟩ | ⟨q, rfl, E, ce, L, hx, hce, hcv, hcl, hW₂, hsm, hL⟩
  · obtain ⟨⟨v, rfl⟩, hW₂, e2, q2, q3, q4, q5, q6⟩ := id hfe
    have e3 : s₂ = ({ (U.calling g mk a).setFrames s₂.frames with heap := s₂.heap, slotsUsed := s₂.slotsUsed } : State).setVm s₂.vm := by
      have : s₂ = ({ s₂ with vm := (U.calling g mk a).vm } : State).setVm s₂.vm := rfl
      rw [e2] at this
      exact this
    obtain ⟨c₂, i₂, len₂, hc₂, hd₂, hf₂⟩ := hend
    have hW' : U.WarmedH s₂.vm := hW₂
    have hcc : c₂ = c := by
      have h1 : s₂.code? g.method = U.code? g.method := by
        rw [State.code?_eq, State.code?_eq, hW'.alike.method?]
      exact Option.some.inj (hc₂.symm.trans (h1.trans h.code))
    subst hcc
    have hlen : len₂ = len := by rw [hdg] at hd₂; cases hd₂; rfl
    subst hlen
    have hs₂ : s₂ = (({ U with heap := s₂.heap, slotsUsed := s₂.slotsUsed } : State).setVm s₂.vm).setTop { g with pc := g.pc + len₂, stack := v.toList ++ g.stack } := by
      refine e3.trans ?_
      rw [hf₂, State.calling_eq h.top, State.setFrames_setFrames, State.setTop_of_frames _ hr', hr]
      rfl
    have hsame : U.sameButNew ({ U with heap := s₂.heap, slotsUsed := s₂.slotsUsed } : State) L mc ms := by
      refine ⟨?_, q2, q3, q4, q5, q6⟩
      obtain ⟨t, ht, -⟩ := State.frames_cons hr
      show ({ U with heap := s₂.heap, slotsUsed := s₂.slotsUsed } : State) = { U.setFrames U.frames with heap := s₂.heap, slotsUsed := s₂.slotsUsed }
      rw [State.setFrames_self ht]
    subst hg
    refine Or.inl ⟨v, ⟨(({ U with heap := s₂.heap, slotsUsed := s₂.slotsUsed } : State).setVm s₂.vm), Ls ++ L, c0 + mc, s0 + ms⟩,
      ⟨X.admits, X.cas, X.clock, X.frames, X.room, X.hears, X.method, X.code, (X.here.setHeapUsed s₂.heap s₂.slotsUsed).setVm hW'.alike, X.tail, State.WarmedH.trans X.warmed hW', X.limits, X.bytes, X.same.trans (hsame.setVm s.vm)⟩,
      ⟨g, mk, s₂, L, rfl, rfl, hqc, rfl, hL, rfl, rfl⟩, ?_⟩
    show Steps p.tables e below _ ((({ U with heap := s₂.heap, slotsUsed := s₂.slotsUsed } : State).setVm s₂.vm).setTop { g with pc := g.pc + len₂, stack := v.toList ++ g.stack })
    rw [← hs₂]
    exact hsteps
  · obtain ⟨e2, q2, q3, q4, q5, q6⟩ := id hsm
    have e3 : s₂ = ({ (U.calling g mk a).setFrames s₂.frames with heap := s₂.heap, slotsUsed := s₂.slotsUsed } : State).setVm s₂.vm := by
      have : s₂ = ({ s₂ with vm := (U.calling g mk a).vm } : State).setVm s₂.vm := rfl
      rw [e2] at this
      exact this
    have hf₂ : s₂.frames = .throwing q :: .java g :: U.frames.tail := hend
    have hW' : U.WarmedH s₂.vm := hW₂
    have hs₂ : s₂ = ((({ U with heap := s₂.heap, slotsUsed := s₂.slotsUsed } : State).setVm s₂.vm).setTop g).pushFrame (.throwing q) := by
      refine e3.trans ?_
      rw [hf₂, State.calling_eq h.top, State.setFrames_setFrames, State.pushFrame, State.frames_setTop _ hr', State.setTop_of_frames _ hr', State.setFrames_setFrames, hr]
      rfl
    have hsame : U.sameButNew ({ U with heap := s₂.heap, slotsUsed := s₂.slotsUsed } : State) L mc ms := by
      refine ⟨?_, q2, q3, q4, q5, q6⟩
      obtain ⟨t, ht, -⟩ := State.frames_cons hr
      show ({ U with heap := s₂.heap, slotsUsed := s₂.slotsUsed } : State) = { U.setFrames U.frames with heap := s₂.heap, slotsUsed := s₂.slotsUsed }
      rw [State.setFrames_self ht]
    subst hg
    refine Or.inr ⟨q, ⟨(({ U with heap := s₂.heap, slotsUsed := s₂.slotsUsed } : State).setVm s₂.vm), Ls ++ L, c0 + mc, s0 + ms⟩,
      ⟨X.admits, X.cas, X.clock, X.frames, X.room, X.hears, X.method, X.code, (X.here.setHeapUsed s₂.heap s₂.slotsUsed).setVm hW'.alike, X.tail, State.WarmedH.trans X.warmed hW', X.limits, X.bytes, X.same.trans (hsame.setVm s.vm)⟩,
      ⟨g, mk, s₂, L, E, ce, rfl, rfl, hx, hce, hcv, hcl, rfl, hL, rfl, rfl⟩, ?_⟩
    show Steps p.tables e below _ (((({ U with heap := s₂.heap, slotsUsed := s₂.slotsUsed } : State).setVm s₂.vm).setTop g).pushFrame (.throwing q))
    rw [← hs₂]
    exact hsteps
end
variable {p : Program} {l : Launch} {e : Env} {R : Room} {s : State} {m : MethodId} {args : Array Value} {below : List Frame} {meth : Method} {c : Code} {T : State} {H : Heap} {locs : List Loc} {cells slots : Nat}
theorem vx_callVX (X : Stand p l e R s m args below meth c T locs cells slots) (hexec : p.tables.exec = Jvm.exec) {own C : String} {index : Nat} {y : MethodName} {bytes : ByteArray} {maxL : Nat} {ret : Option FieldType} {hh : List (Nat × Nat × Nat × Nat)}
    (hown : s.vm.findClass own = some m.cls) (hlink : (Cond.methodLink own index y).before args s = true) (hinst : (Cond.instanceMethod y).before args s = true) (hsel : (Cond.selects C y y).before args s = true)
    (hcode : (Cond.codeWith y bytes maxL ret hh).before args s = true) (hy : y.cls ≠ "java/lang/invoke/MethodHandle" ∧ y.cls ≠ "java/lang/invoke/VarHandle")
    {W9 : Nat} {Pre : Pt → Array Value → Prop} {Post : Pt → Array Value → Option Value → Pt → Prop} {PostX : Pt → Array Value → Addr → Pt → Prop} (hK : vx_Back l R p e below s args y 3 W9 Pre Post PostX)
    {b : Addr} {cellB : Cell} (hcell : T.heap[b]? = some cellB) (hobj : cellB.vm.isStatics = false) (hcls : s.vm.findClass C = some cellB.cls)
    {g : JFrame} (hg : g.method = m) (hsize : g.locals.size = c.maxLocals) {argsL rest : List Value} (hlen : ∀ sig, parseMethodDescriptor y.desc = some sig → argsL.length = sig.parameters.length)
    (hstack : g.stack = argsL.reverse ++ .ref b :: rest) (hW : 2 * g.monitorRoom + (rest.map fun v => v.category).sum ≤ W9) (hdg : decode c.code g.pc = .ok (.invokevirtual index, 3))
    (hpre : ∀ vm₁, s.WarmedH vm₁ → Pre ⟨T.setVm vm₁, locs, cells, slots⟩ (Value.ref b :: argsL).toArray) :
    (∃ (v : Option Value) (vm₁ : Vm) (B : Pt), s.WarmedH vm₁ ∧ Stand p l e R s m args below meth c B.U B.locs B.cells B.slots ∧ Post ⟨T.setVm vm₁, locs, cells, slots⟩ (Value.ref b :: argsL).toArray v B ∧
      ∀ target, Steps p.tables e below (B.U.setTop { g with pc := g.pc + 3, stack := v.toList ++ rest }) target → Steps p.tables e below (T.setTop g) target) ∨
    (∃ (q : Addr) (vm₁ : Vm) (B : Pt), s.WarmedH vm₁ ∧ Stand p l e R s m args below meth c B.U B.locs B.cells B.slots ∧ PostX ⟨T.setVm vm₁, locs, cells, slots⟩ (Value.ref b :: argsL).toArray q B ∧
      Steps p.tables e below (T.setTop g) ((B.U.setTop { g with stack := rest }).pushFrame (.throwing q))) := by
  obtain ⟨mk, methM, hnamed, hmethM, hstM, habM⟩ := Cond.instanceMethod_spec hinst
  obtain ⟨m8, methM', cM, hn8, hmethM', -, -, -, -, -, -, hsigM⟩ := Cond.codeWith_spec hcode
  cases Option.some.inj (hn8.symm.trans hnamed)
  cases hmethM.symm.trans hmethM'
  obtain ⟨c2, r2, m2, q1, q2, q3, q4, kP, hkP, hkPi⟩ := Cond.selects_spec hsel
  cases hcls.symm.trans q1
  cases (State.methodFound?_of_named hnamed hy).symm.trans q2
  cases hnamed.symm.trans q3
  have hselP : selectMethod e.platform s.vm cellB.cls mk = .method mk := by rw [Launch.admits_selectMethod X.admits]; exact q4
  obtain ⟨vm₁, X₁, hstep₁⟩ := X.invokevirtual hexec hown hlink hnamed hmethM hstM hkP hkPi hy (a := b) (cell := cellB) hcell
    (fun z h => by rw [h] at hobj; cases hobj) hselP hmethM habM hkP hkPi (g := g) hg (argsL := argsL) (rest := rest) (hlen _ hsigM) hstack hdg
  rcases hK m meth c ⟨T.setVm vm₁, locs, cells, slots⟩ { g with stack := rest } (.invokevirtual index) mk (Value.ref b :: argsL).toArray X₁ hg hsize hdg hW (X₁.named hnamed) (hpre vm₁ X₁.warmed) with ⟨v, B, X', hpost, hsteps⟩ | ⟨q, B, X', hpost, hsteps⟩
  · exact Or.inl ⟨v, vm₁, B, X₁.warmed, X', hpost, fun target h => hstep₁ _ fun acts => by rw [doInvoke_state]; exact hsteps.trans h⟩
  · exact Or.inr ⟨q, vm₁, B, X₁.warmed, X', hpost, hstep₁ _ fun acts => by rw [doInvoke_state]; exact hsteps⟩
theorem vx_callSX (X : Stand p l e R s m args below meth c T locs cells slots) (hexec : p.tables.exec = Jvm.exec) {own : String} {index : Nat} {y : MethodName} {bytes : ByteArray} {maxL : Nat} {ret : Option FieldType} {hh : List (Nat × Nat × Nat × Nat)}
    (hown : s.vm.findClass own = some m.cls) (hlink : (Cond.methodLink own index y).before args s = true) (hstat : (Cond.static y).before args s = true) (hinit : (Cond.initialized y.cls).before args s = true)
    (hcode : (Cond.codeWith y bytes maxL ret hh).before args s = true) (hy : y.cls ≠ "java/lang/invoke/MethodHandle" ∧ y.cls ≠ "java/lang/invoke/VarHandle")
    {W9 : Nat} {Pre : Pt → Array Value → Prop} {Post : Pt → Array Value → Option Value → Pt → Prop} {PostX : Pt → Array Value → Addr → Pt → Prop} (hK : vx_Back l R p e below s args y 3 W9 Pre Post PostX)
    {g : JFrame} (hg : g.method = m) (hsize : g.locals.size = c.maxLocals) {argsL rest : List Value} (hlen : ∀ sig, parseMethodDescriptor y.desc = some sig → argsL.length = sig.parameters.length)
    (hstack : g.stack = argsL.reverse ++ rest) (hW : 2 * g.monitorRoom + (rest.map fun v => v.category).sum ≤ W9) (hdg : decode c.code g.pc = .ok (.invokestatic index, 3))
    (hpre : ∀ vm₁, s.WarmedH vm₁ → Pre ⟨T.setVm vm₁, locs, cells, slots⟩ argsL.toArray) :
    (∃ (v : Option Value) (vm₁ : Vm) (B : Pt), s.WarmedH vm₁ ∧ Stand p l e R s m args below meth c B.U B.locs B.cells B.slots ∧ Post ⟨T.setVm vm₁, locs, cells, slots⟩ argsL.toArray v B ∧
      ∀ target, Steps p.tables e below (B.U.setTop { g with pc := g.pc + 3, stack := v.toList ++ rest }) target → Steps p.tables e below (T.setTop g) target) ∨
    (∃ (q : Addr) (vm₁ : Vm) (B : Pt), s.WarmedH vm₁ ∧ Stand p l e R s m args below meth c B.U B.locs B.cells B.slots ∧ PostX ⟨T.setVm vm₁, locs, cells, slots⟩ argsL.toArray q B ∧
      Steps p.tables e below (T.setTop g) ((B.U.setTop { g with stack := rest }).pushFrame (.throwing q))) := by
  obtain ⟨mk, methM, cM, hnamed, hmethM, -, -, -, -, -, -, hsigM⟩ := Cond.codeWith_spec hcode
  have hstatic : methM.isStatic = true := Cond.static_spec hnamed hmethM hstat
  obtain ⟨kP, hkP, -⟩ := className_of_methodNamed hnamed
  have hinitP : kP.init = .initialized := Cond.initialized_spec (findClass_of_methodNamed hnamed) hkP hinit
  obtain ⟨vm₁, X₁, hstep₁⟩ := X.invokestatic hexec hown hlink hnamed hmethM hstatic hkP hinitP hy (g := g) hg (argsL := argsL) (rest := rest) (hlen _ hsigM) hstack hdg
  rcases hK m meth c ⟨T.setVm vm₁, locs, cells, slots⟩ { g with stack := rest } (.invokestatic index) mk argsL.toArray X₁ hg hsize hdg hW (X₁.named hnamed) (hpre vm₁ X₁.warmed) with ⟨v, B, X', hpost, hsteps⟩ | ⟨q, B, X', hpost, hsteps⟩
  · exact Or.inl ⟨v, vm₁, B, X₁.warmed, X', hpost, fun target h => hstep₁ _ fun acts => by rw [doInvoke_state]; exact hsteps.trans h⟩
  · exact Or.inr ⟨q, vm₁, B, X₁.warmed, X', hpost, hstep₁ _ fun acts => by rw [doInvoke_state]; exact hsteps⟩
theorem vx_callVW (X : Stand p l e R s m args below meth c T locs cells slots) (hexec : p.tables.exec = Jvm.exec) {own C : String} {index : Nat} {y : MethodName} {bytes : ByteArray} {maxL : Nat} {ret : Option FieldType} {hh : List (Nat × Nat × Nat × Nat)}
    (hown : s.vm.findClass own = some m.cls) (hlink : (Cond.methodLink own index y).before args s = true) (hinst : (Cond.instanceMethod y).before args s = true) (hsel : (Cond.selects C y y).before args s = true)
    (hcode : (Cond.codeWith y bytes maxL ret hh).before args s = true) (hy : y.cls ≠ "java/lang/invoke/MethodHandle" ∧ y.cls ≠ "java/lang/invoke/VarHandle")
    {W9 : Nat} {Pre : Pt → Array Value → Prop} {Post : Pt → Array Value → Option Value → Pt → Prop} (hK : Back l R p e below s args y 3 W9 Pre Post)
    {b : Addr} {cellB : Cell} (hcell : T.heap[b]? = some cellB) (hobj : cellB.vm.isStatics = false) (hcls : s.vm.findClass C = some cellB.cls)
    {g : JFrame} (hg : g.method = m) (hsize : g.locals.size = c.maxLocals) {argsL rest : List Value} (hlen : ∀ sig, parseMethodDescriptor y.desc = some sig → argsL.length = sig.parameters.length)
    (hstack : g.stack = argsL.reverse ++ .ref b :: rest) (hW : 2 * g.monitorRoom + (rest.map fun v => v.category).sum ≤ W9) (hdg : decode c.code g.pc = .ok (.invokevirtual index, 3))
    (hpre : ∀ vm₁, s.WarmedH vm₁ → Pre ⟨T.setVm vm₁, locs, cells, slots⟩ (Value.ref b :: argsL).toArray) :
    ∃ (v : Option Value) (vm₁ : Vm) (B : Pt), s.WarmedH vm₁ ∧ Stand p l e R s m args below meth c B.U B.locs B.cells B.slots ∧ Post ⟨T.setVm vm₁, locs, cells, slots⟩ (Value.ref b :: argsL).toArray v B ∧
      ∀ target, Steps p.tables e below (B.U.setTop { g with pc := g.pc + 3, stack := v.toList ++ rest }) target → Steps p.tables e below (T.setTop g) target := by
  obtain ⟨mk, methM, hnamed, hmethM, hstM, habM⟩ := Cond.instanceMethod_spec hinst
  obtain ⟨m8, methM', cM, hn8, hmethM', -, -, -, -, -, -, hsigM⟩ := Cond.codeWith_spec hcode
  cases Option.some.inj (hn8.symm.trans hnamed)
  cases hmethM.symm.trans hmethM'
  obtain ⟨c2, r2, m2, q1, q2, q3, q4, kP, hkP, hkPi⟩ := Cond.selects_spec hsel
  cases hcls.symm.trans q1
  cases (State.methodFound?_of_named hnamed hy).symm.trans q2
  cases hnamed.symm.trans q3
  have hselP : selectMethod e.platform s.vm cellB.cls mk = .method mk := by rw [Launch.admits_selectMethod X.admits]; exact q4
  obtain ⟨vm₁, X₁, hstep₁⟩ := X.invokevirtual hexec hown hlink hnamed hmethM hstM hkP hkPi hy (a := b) (cell := cellB) hcell
    (fun z h => by rw [h] at hobj; cases hobj) hselP hmethM habM hkP hkPi (g := g) hg (argsL := argsL) (rest := rest) (hlen _ hsigM) hstack hdg
  obtain ⟨v, B, X', hpost, hsteps⟩ := hK m meth c ⟨T.setVm vm₁, locs, cells, slots⟩ { g with stack := rest } (.invokevirtual index) mk (Value.ref b :: argsL).toArray X₁ hg hsize hdg hW (X₁.named hnamed) (hpre vm₁ X₁.warmed)
  exact ⟨v, vm₁, B, X₁.warmed, X', hpost, fun target h => hstep₁ _ fun acts => by rw [doInvoke_state]; exact hsteps.trans h⟩
abbrev vx_CVW (R : Room) (s : State) (args : Array Value) (own C : String) (index : Nat) (y : MethodName) (bytes : ByteArray) (maxL : Nat) (ret : Option FieldType) (hh : List (Nat × Nat × Nat × Nat)) (ws : List Cond) (rm : Room) (mc ms n : Nat) : Prop :=
  (rm.cells = mc ∧ rm.slots = ms ∧ rm.frames + 1 ≤ R.frames ∧ 8 + (maxL + 11) + rm.locals ≤ R.locals ∧ (∀ w ∈ ws, ∀ (a' : Array Value) (U : State), s.WarmedH U.vm → w.before a' U = true) ∧ Cond.codeWith y bytes maxL ret hh ∈ ws) ∧
  (Cond.codeWith y bytes maxL ret hh).before args s = true ∧ (Cond.initialized y.cls).before args s = true ∧ (y.cls ≠ "java/lang/invoke/MethodHandle" ∧ y.cls ≠ "java/lang/invoke/VarHandle") ∧
  (∀ sig, parseMethodDescriptor y.desc = some sig → n = sig.parameters.length) ∧ (Cond.methodLink own index y).before args s = true ∧ (Cond.instanceMethod y).before args s = true ∧ (Cond.selects C y y).before args s = true
theorem vx_cwVW {own C : String} {index maxL mc ms : Nat} {y : MethodName} {bytes : ByteArray} {ret : Option FieldType} {hh : List (Nat × Nat × Nat × Nat)} {Ts ws ws' : List Cond} {rm : Room} (n : Nat) (ht : ∀ w ∈ Ts, w.before args s = true) (hT : GoodIn Ts (wsV own index C y ws)) (hw : ws = Cond.codeWith y bytes maxL ret hh :: ws') (hrc : rm.cells = mc) (hrs : rm.slots = ms)
    (hd : y.cls = C ∧ y.cls ≠ "java/lang/invoke/MethodHandle" ∧ y.cls ≠ "java/lang/invoke/VarHandle" ∧ (parseMethodDescriptor y.desc).map (fun d => d.parameters.length) = some n) (hR : rm.frames + 1 ≤ R.frames ∧ 8 + (maxL + 11) + rm.locals ≤ R.locals) :
    vx_CVW R s args own C index y bytes maxL ret hh ws rm mc ms n := by
  obtain ⟨hC, hd⟩ := hd
  subst hC
  have ok : ∀ w ∈ wsV own index y.cls y ws, w.before args s = true := fun w h => ht w (hT w h).1
  have hG : GoodIn Ts ws := fun w h => hT w (by unfold wsV; exact List.mem_append_right _ h)
  have hc : Cond.codeWith y bytes maxL ret hh ∈ ws := by rw [hw]; exact List.mem_cons_self
  refine ⟨⟨hrc, hrs, hR.1, hR.2, pay_in ht hG, hc⟩, ht _ (hG _ hc).1, ok _ (by simp [wsV]), ⟨hd.1, hd.2.1⟩, fun sig h => ?_, ok _ (by simp [wsV]), ok _ (by simp [wsV]), ok _ (by simp [wsV])⟩
  have h2 := hd.2.2
  rw [h] at h2
  exact (Option.some.inj h2).symm
theorem vx_runVW {y : MethodName} {bytes cc : ByteArray} {maxL nL mc ms n index : Nat} {ret : Option FieldType} {hh : List (Nat × Nat × Nat × Nat)} {ws : List Cond} {rm : Room} {Pc : Array Value → State → Prop} {Qc : Array Value → State → Outcome → State → Prop} {free : Addr → Prop} {Ts : List Cond} {own C : String} {b : Addr} {As rest : List Value} {g : JFrame}
    (S : CallFix p m c cc nL s args Ts own) (hM : Met l y ws rm Pc Qc mc ms free) (cw : vx_CVW R s args own C index y bytes maxL ret hh ws rm mc ms n) (hp : PreV s H C b Pc As)
    (hg : g.method = m) (hn : As.length = n) (hsize : g.locals.size = nL) (hstack : g.stack = As.reverse ++ .ref b :: rest) (hW : 2 * g.monitorRoom + (rest.map fun v => v.category).sum ≤ 8) (hdg : decode cc g.pc = .ok (.invokevirtual index, 3)) (hf : cells + mc ≤ R.cells ∧ slots + ms ≤ R.slots) :
    va_Run p l e R s m args below meth c H locs cells slots mc ms g rest (Qc (Value.ref b :: As).toArray) free := by
  obtain ⟨⟨hrc, hrs, hfr, hlo, hws, hcw⟩, hcode, hini, hy, hlen, hl, hin, hse⟩ := cw
  have hK : Back l R p e below s args y 3 8 (PreOf R mc ms Pc) (PostOf Qc mc ms free) := va_backW (hh := hh) (bytes := bytes) (maxL := maxL) (ret := ret) hM hp.1 hrc hrs hfr hlo hws hcw (fun a' U hW => word_at hW (Or.inl (by first | rfl | simp [Cond.onTables, Cond.keeps, Cond.steady])) hini)
  obtain ⟨hx, hb, hml, ho, -⟩ := S
  obtain ⟨-, ⟨cellB, hcB, hoB, hclB⟩, hPc⟩ := hp
  intro T hT X
  obtain ⟨v, vm₁, ⟨U', l2, c2, s2⟩, hW₁, X', ⟨g', mk, t, L, e1, e2, hq, h1, hL, h2, h3⟩, st⟩ := vx_callVW X hx (C := C) (hh := hh) (bytes := bytes) (maxL := maxL) (ret := ret) ho hl hin hse hcode hy hK (by rw [hT]; exact hcB) hoB hclB hg (hsize.trans hml.symm) (argsL := As) (rest := rest) (fun sig h => hn.trans (hlen sig h)) hstack hW (by rw [hb]; exact hdg)
    (fun vm₁ hW₁ => ⟨hf.1, hf.2, hPc (T.setVm vm₁) hT hW₁⟩)
  dsimp only [Pt.U, Pt.locs, Pt.cells, Pt.slots] at X' e1 e2 h1 h2 h3 st
  subst h1; subst h2; subst h3
  exact ⟨v, (T.setVm vm₁).calling g' mk (Value.ref b :: As).toArray, t, U', L, hT, X', hL, e1, e2, hq, st⟩
section
variable {y : MethodName} {bytes cc : ByteArray} {maxL nL mc ms n index : Nat} {ret : Option FieldType} {ws : List Cond} {rm : Room} {Pc : Array Value → State → Prop} {Qc : Array Value → State → Outcome → State → Prop} {XC : String → State → State → Prop} {free : Addr → Prop} {Ts : List Cond} {own C : String} {b : Addr} {As rest : List Value} {g : JFrame}
theorem vx_runVX {hh : List (Nat × Nat × Nat × Nat)} (S : CallFix p m c cc nL s args Ts own) (hM : vx_Met l y ws rm Pc Qc XC mc ms free) (cw : vx_CVW R s args own C index y bytes maxL ret hh ws rm mc ms n) (hp : PreV s H C b Pc As)
    (hg : g.method = m) (hn : As.length = n) (hsize : g.locals.size = nL) (hstack : g.stack = As.reverse ++ .ref b :: rest) (hW : 2 * g.monitorRoom + (rest.map fun v => v.category).sum ≤ 8) (hdg : decode cc g.pc = .ok (.invokevirtual index, 3)) (hf : cells + mc ≤ R.cells ∧ slots + ms ≤ R.slots) :
    vx_Run p l e R s m args below meth c H locs cells slots mc ms g rest (Qc (Value.ref b :: As).toArray) XC free := by
  obtain ⟨⟨hrc, hrs, hfr, hlo, hws, hcw⟩, hcode, hini, hy, hlen, hl, hin, hse⟩ := cw
  have hK : vx_Back l R p e below s args y 3 8 (PreOf R mc ms Pc) (PostOf Qc mc ms free) (vx_Post XC mc ms free) := vx_backW (hh := hh) (bytes := bytes) (maxL := maxL) (ret := ret) hM hp.1 hrc hrs hfr hlo hws hcw (fun a' U hW => word_at hW (Or.inl (by first | rfl | simp [Cond.onTables, Cond.keeps, Cond.steady])) hini)
  obtain ⟨hx, hb, hml, ho, -⟩ := S
  obtain ⟨-, ⟨cellB, hcB, hoB, hclB⟩, hPc⟩ := hp
  intro T hT X
  rcases vx_callVX X hx (C := C) (hh := hh) (bytes := bytes) (maxL := maxL) (ret := ret) ho hl hin hse hcode hy hK (by rw [hT]; exact hcB) hoB hclB hg (hsize.trans hml.symm) (argsL := As) (rest := rest) (fun sig h => hn.trans (hlen sig h)) hstack hW (by rw [hb]; exact hdg)
    (fun vm₁ hW₁ => ⟨hf.1, hf.2, hPc (T.setVm vm₁) hT hW₁⟩) with ⟨v, vm₁, ⟨U', l2, c2, s2⟩, hW₁, X', ⟨g', mk, t, L, e1, e2, hq, h1, hL, h2, h3⟩, st⟩ | ⟨q, vm₁, ⟨U', l2, c2, s2⟩, hW₁, X', ⟨g', mk, t, L, E, ce, e1, e2, hq, hce, hcv, hcl, h1, hL, h2, h3⟩, st⟩
  · dsimp only [Pt.U, Pt.locs, Pt.cells, Pt.slots] at X' e1 e2 h1 h2 h3 st
    subst h1; subst h2; subst h3
    exact Or.inl ⟨v, (T.setVm vm₁).calling g' mk (Value.ref b :: As).toArray, t, U', L, hT, X', hL, e1, e2, hq, st⟩
  · dsimp only [Pt.U, Pt.locs, Pt.cells, Pt.slots] at X' e1 e2 h1 h2 h3 st hcl
    subst h1; subst h2; subst h3
    exact Or.inr ⟨q, (T.setVm vm₁).calling g' mk (Value.ref b :: As).toArray, t, U', L, E, ce, hT, X', hL, e1, e2, hq, hce, hcv, vx_cls hW₁ hcl, st⟩
theorem vx_runSX {hh : List (Nat × Nat × Nat × Nat)} (S : CallFix p m c cc nL s args Ts own) (hM : vx_Met l y ws rm Pc Qc XC mc ms free) (cw : vx_CSW R s args own index y bytes maxL ret hh ws rm mc ms n) (hp : PreS s H Pc As)
    (hg : g.method = m) (hn : As.length = n) (hsize : g.locals.size = nL) (hstack : g.stack = As.reverse ++ rest) (hW : 2 * g.monitorRoom + (rest.map fun v => v.category).sum ≤ 8) (hdg : decode cc g.pc = .ok (.invokestatic index, 3)) (hf : cells + mc ≤ R.cells ∧ slots + ms ≤ R.slots) :
    vx_Run p l e R s m args below meth c H locs cells slots mc ms g rest (Qc As.toArray) XC free := by
  obtain ⟨⟨hrc, hrs, hfr, hlo, hws, hcw⟩, hcode, hini, hy, hlen, hl, hstt⟩ := cw
  have hK : vx_Back l R p e below s args y 3 8 (PreOf R mc ms Pc) (PostOf Qc mc ms free) (vx_Post XC mc ms free) := vx_backW (hh := hh) (bytes := bytes) (maxL := maxL) (ret := ret) hM hp.1 hrc hrs hfr hlo hws hcw (fun a' U hW => word_at hW (Or.inl (by first | rfl | simp [Cond.onTables, Cond.keeps, Cond.steady])) hini)
  obtain ⟨hx, hb, hml, ho, -⟩ := S
  intro T hT X
  rcases vx_callSX X hx (hh := hh) (bytes := bytes) (maxL := maxL) (ret := ret) ho hl hstt hini hcode hy hK hg (hsize.trans hml.symm) (argsL := As) (rest := rest) (fun sig h => hn.trans (hlen sig h)) hstack hW (by rw [hb]; exact hdg)
    (fun vm₁ hW₁ => ⟨hf.1, hf.2, hp.2 (T.setVm vm₁) hT hW₁⟩) with ⟨v, vm₁, ⟨U', l2, c2, s2⟩, hW₁, X', ⟨g', mk, t, L, e1, e2, hq, h1, hL, h2, h3⟩, st⟩ | ⟨q, vm₁, ⟨U', l2, c2, s2⟩, hW₁, X', ⟨g', mk, t, L, E, ce, e1, e2, hq, hce, hcv, hcl, h1, hL, h2, h3⟩, st⟩
  · dsimp only [Pt.U, Pt.locs, Pt.cells, Pt.slots] at X' e1 e2 h1 h2 h3 st
    subst h1; subst h2; subst h3
    exact Or.inl ⟨v, (T.setVm vm₁).calling g' mk As.toArray, t, U', L, hT, X', hL, e1, e2, hq, st⟩
  · dsimp only [Pt.U, Pt.locs, Pt.cells, Pt.slots] at X' e1 e2 h1 h2 h3 st hcl
    subst h1; subst h2; subst h3
    exact Or.inr ⟨q, (T.setVm vm₁).calling g' mk As.toArray, t, U', L, E, ce, hT, X', hL, e1, e2, hq, hce, hcv, vx_cls hW₁ hcl, st⟩
end
end VXH
theorem vx_ofWH {l : Launch} {y : MethodName} {ws ws' : List Cond} {rm : Room} {Pc : Array Value → State → Prop} {Qc : Array Value → State → Outcome → State → Prop} {XC : String → State → State → Prop} {mc ms : Nat} {free : Addr → Prop} {cc : ByteArray} {maxL : Nat} {ret : Option FieldType} {hh : List (Nat × Nat × Nat × Nat)}
    (hy : plainName y.cls = true) (hw : ws = Cond.codeWith y cc maxL ret hh :: ws')
    (body : ∀ p e s m args below meth c s₁, BodyLoose p l y (headSpec ws rm) cc maxL ret e s m args below meth c s₁ → c.maxLocals = maxL → Pc args s →
      W p l e (headSpec ws rm).room s m args below meth c s.heap [] 0 0 (vx_MQ below Qc XC args s mc ms free) (entryFrame m args maxL)) : vx_Met l y ws rm Pc Qc XC mc ms free := by
  refine MetFree.of_bodyS (code := cc) (maxLocals := maxL) (ret := ret) hy ?_ ?_
  · intro args s m h hn
    obtain ⟨m9, meth, c, hn9, h1, h2, h3, h4, -, h5, h6, -⟩ := Cond.codeWith_spec (atoms_spec (ws := ws) h _ (by rw [hw]; exact List.mem_cons_self))
    cases hn.symm.trans hn9
    exact ⟨meth, c, h1, h2, h3, h4, h5, h6⟩
  · intro p e s m args below meth c s₁ B hml hP _
    have hh0 : s₁.heap = s.heap := by rw [B.state]; rfl
    obtain ⟨t, a1, o, b1, b2, b3⟩ := body p e s m args below meth c s₁ B hml hP s₁ hh0 (Stand.of_body B)
    exact ⟨t, o, a1, b1, b2, b3⟩
/-! ===== END ===== -/
end
section
/-! ===== BEGIN printed: names, fields, word lists, decode rows ===== -/
def RX0 : String := "Flowforge"
def TX0 : u_T := fun k => match k with
  | 0 => ("Flowforge", "jobCount", "I", false)
  | 1 => ("Flowforge", "machineCount", "I", false)
  | 2 => ("Flowforge", "times", "[I", true)
  | 3 => ("Flowforge", "begins", "[I", true)
  | 4 => ("Flowforge", "ends", "[I", true)
  | 5 => ("Flowforge", "tails", "[I", true)
  | 6 => ("Flowforge", "order", "[I", true)
  | 7 => ("Flowforge", "trial", "[I", true)
  | 8 => ("Flowforge", "queue", "[I", true)
  | 9 => ("Flowforge", "solved", "[Z", true)
  | 10 => ("Flowforge", "leastMakespans", "[I", true)
  | 11 => ("Flowforge", "leastCounts", "[I", true)
  | _ => ("Flowforge", "bestJobs", "[I", true)
def tyX0 : Nat → FieldType := fun k => match k with
  | 0 => .int
  | 1 => .int
  | 2 => .array .int
  | 3 => .array .int
  | 4 => .array .int
  | 5 => .array .int
  | 6 => .array .int
  | 7 => .array .int
  | 8 => .array .int
  | 9 => .array .boolean
  | 10 => .array .int
  | 11 => .array .int
  | _ => .array .int
abbrev wsX00 : List Cond := u_ws RX0 TX0 13
theorem nmX0 : ∀ a, a < 13 → ∀ b, b < 13 → a ≠ b → (TX0 a).2.1 ≠ (TX0 b).2.1 := by decide +kernel
theorem tyX0_ok : ∀ k, k < 13 → parseFieldDescriptor (TX0 k).2.2.1 = some (tyX0 k) := by decide +kernel
abbrev cX0_init : ByteArray := prog_1_method_1_code
def yX0_init : MethodName := ⟨RX0, "<init>", "()V"⟩
abbrev cX0_addJob : ByteArray := prog_1_method_2_code
def yX0_addJob : MethodName := ⟨RX0, "addJob", "()I"⟩
abbrev cX0_setMachines : ByteArray := prog_1_method_3_code
def yX0_setMachines : MethodName := ⟨RX0, "setMachines", "(I)I"⟩
abbrev cX0_setTime : ByteArray := prog_1_method_4_code
def yX0_setTime : MethodName := ⟨RX0, "setTime", "(III)I"⟩
abbrev cX0_jobs : ByteArray := prog_1_method_6_code
def yX0_jobs : MethodName := ⟨RX0, "jobs", "()I"⟩
abbrev cX0_machines : ByteArray := prog_1_method_7_code
def yX0_machines : MethodName := ⟨RX0, "machines", "()I"⟩
abbrev cX0_move : ByteArray := prog_1_method_9_code
def yX0_move : MethodName := ⟨RX0, "move", "(II)I"⟩
abbrev cX0_orderByRule : ByteArray := prog_1_method_11_code
def yX0_orderByRule : MethodName := ⟨RX0, "orderByRule", "()I"⟩
abbrev cX0_orderByInsertion : ByteArray := prog_1_method_12_code
def yX0_orderByInsertion : MethodName := ⟨RX0, "orderByInsertion", "()I"⟩
abbrev cX0_improve : ByteArray := prog_1_method_13_code
def yX0_improve : MethodName := ⟨RX0, "improve", "()I"⟩
abbrev cX0_makespan : ByteArray := prog_1_method_14_code
def yX0_makespan : MethodName := ⟨RX0, "makespan", "(I)I"⟩
abbrev cX0_machineBound : ByteArray := prog_1_method_21_code
def yX0_machineBound : MethodName := ⟨RX0, "machineBound", "(I)I"⟩
abbrev cX0_pairBound : ByteArray := prog_1_method_22_code
def yX0_pairBound : MethodName := ⟨RX0, "pairBound", "(II)I"⟩
abbrev cX0_best : ByteArray := prog_1_method_23_code
def yX0_best : MethodName := ⟨RX0, "best", "(I)I"⟩
abbrev cX0_bestAt : ByteArray := prog_1_method_24_code
def yX0_bestAt : MethodName := ⟨RX0, "bestAt", "(II)I"⟩
abbrev cX0_bestOrders : ByteArray := prog_1_method_25_code
def yX0_bestOrders : MethodName := ⟨RX0, "bestOrders", "(I)I"⟩
abbrev cX0_gap : ByteArray := prog_1_method_26_code
def yX0_gap : MethodName := ⟨RX0, "gap", "()D"⟩
abbrev cX0_requireJob : ByteArray := prog_1_method_27_code
def yX0_requireJob : MethodName := ⟨RX0, "requireJob", "(I)V"⟩
abbrev cX0_requirePlace : ByteArray := prog_1_method_28_code
def yX0_requirePlace : MethodName := ⟨RX0, "requirePlace", "(I)V"⟩
abbrev cX0_requireMachine : ByteArray := prog_1_method_29_code
def yX0_requireMachine : MethodName := ⟨RX0, "requireMachine", "(I)V"⟩
abbrev cX0_requireVariant : ByteArray := prog_1_method_30_code
def yX0_requireVariant : MethodName := ⟨RX0, "requireVariant", "(I)V"⟩
abbrev cX0_cell : ByteArray := prog_1_method_31_code
def yX0_cell : MethodName := ⟨RX0, "cell", "(II)I"⟩
abbrev cX0_timeOf : ByteArray := prog_1_method_32_code
def yX0_timeOf : MethodName := ⟨RX0, "timeOf", "(II)I"⟩
abbrev cX0_sumOf : ByteArray := prog_1_method_33_code
def yX0_sumOf : MethodName := ⟨RX0, "sumOf", "(III)I"⟩
abbrev cX0_leastSum : ByteArray := prog_1_method_34_code
def yX0_leastSum : MethodName := ⟨RX0, "leastSum", "(II)I"⟩
abbrev cX0_loadOf : ByteArray := prog_1_method_35_code
def yX0_loadOf : MethodName := ⟨RX0, "loadOf", "(I)I"⟩
abbrev cX0_placeOf : ByteArray := prog_1_method_36_code
def yX0_placeOf : MethodName := ⟨RX0, "placeOf", "(I)I"⟩
abbrev cX0_shift : ByteArray := prog_1_method_37_code
def yX0_shift : MethodName := ⟨RX0, "shift", "([III)V"⟩
abbrev cX0_makespanIfShifted : ByteArray := prog_1_method_38_code
def yX0_makespanIfShifted : MethodName := ⟨RX0, "makespanIfShifted", "(III)I"⟩
abbrev cX0_placeForLast : ByteArray := prog_1_method_39_code
def yX0_placeForLast : MethodName := ⟨RX0, "placeForLast", "(I)I"⟩
abbrev cX0_fillQueueBySum : ByteArray := prog_1_method_40_code
def yX0_fillQueueBySum : MethodName := ⟨RX0, "fillQueueBySum", "()V"⟩
abbrev cX0_fillByRule : ByteArray := prog_1_method_41_code
def yX0_fillByRule : MethodName := ⟨RX0, "fillByRule", "([III)V"⟩
abbrev cX0_goesBefore : ByteArray := prog_1_method_42_code
def yX0_goesBefore : MethodName := ⟨RX0, "goesBefore", "(IIII)Z"⟩
abbrev cX0_leastOfPair : ByteArray := prog_1_method_43_code
def yX0_leastOfPair : MethodName := ⟨RX0, "leastOfPair", "(II)I"⟩
abbrev cX0_scheduleOrder : ByteArray := prog_1_method_44_code
def yX0_scheduleOrder : MethodName := ⟨RX0, "scheduleOrder", "(I)I"⟩
abbrev cX0_lastEnd : ByteArray := prog_1_method_45_code
def yX0_lastEnd : MethodName := ⟨RX0, "lastEnd", "(I)I"⟩
abbrev cX0_scheduleJob : ByteArray := prog_1_method_46_code
def yX0_scheduleJob : MethodName := ⟨RX0, "scheduleJob", "(III)V"⟩
abbrev cX0_beginWithoutWaiting : ByteArray := prog_1_method_47_code
def yX0_beginWithoutWaiting : MethodName := ⟨RX0, "beginWithoutWaiting", "(II)I"⟩
abbrev cX0_freeFrom : ByteArray := prog_1_method_48_code
def yX0_freeFrom : MethodName := ⟨RX0, "freeFrom", "(III)I"⟩
abbrev cX0_forgetBestOrders : ByteArray := prog_1_method_50_code
def yX0_forgetBestOrders : MethodName := ⟨RX0, "forgetBestOrders", "()V"⟩
abbrev cX0_findBestOrder : ByteArray := prog_1_method_51_code
def yX0_findBestOrder : MethodName := ⟨RX0, "findBestOrder", "(I)V"⟩
abbrev cX0_countTrial : ByteArray := prog_1_method_52_code
def yX0_countTrial : MethodName := ⟨RX0, "countTrial", "(II)V"⟩
abbrev cX0_stepTrial : ByteArray := prog_1_method_53_code
def yX0_stepTrial : MethodName := ⟨RX0, "stepTrial", "()I"⟩
abbrev cX0_swapInTrial : ByteArray := prog_1_method_54_code
def yX0_swapInTrial : MethodName := ⟨RX0, "swapInTrial", "(II)V"⟩
def RX1 : String := "FlowforgeModel"
def TX1 : u_T := fun k => match k with
  | _ => ("", "", "", false)
def tyX1 : Nat → FieldType := fun k => match k with
  | _ => .int
abbrev wsX10 : List Cond := u_ws RX1 TX1 0
theorem nmX1 : ∀ a, a < 0 → ∀ b, b < 0 → a ≠ b → (TX1 a).2.1 ≠ (TX1 b).2.1 := by decide +kernel
theorem tyX1_ok : ∀ k, k < 0 → parseFieldDescriptor (TX1 k).2.2.1 = some (tyX1 k) := by decide +kernel
def RJ9 : String := "java/lang/Math"
def TJ9 : u_T := fun k => match k with
  | _ => ("", "", "", false)
def tyJ9 : Nat → FieldType := fun k => match k with
  | _ => .int
abbrev wsJ90 : List Cond := u_ws RJ9 TJ9 0
theorem nmJ9 : ∀ a, a < 0 → ∀ b, b < 0 → a ≠ b → (TJ9 a).2.1 ≠ (TJ9 b).2.1 := by decide +kernel
theorem tyJ9_ok : ∀ k, k < 0 → parseFieldDescriptor (TJ9 k).2.2.1 = some (tyJ9 k) := by decide +kernel
abbrev cJ9_max_7cf53 : ByteArray := prog_8_method_65_code
def yJ9_max_7cf53 : MethodName := ⟨RJ9, "max", "(II)I"⟩
abbrev cJ9_min_7cf53 : ByteArray := prog_8_method_69_code
def yJ9_min_7cf53 : MethodName := ⟨RJ9, "min", "(II)I"⟩
def RJ0 : String := "java/lang/String"
def TJ0 : u_T := fun k => match k with
  | _ => ("", "", "", false)
def tyJ0 : Nat → FieldType := fun k => match k with
  | _ => .int
abbrev wsJ00 : List Cond := u_ws RJ0 TJ0 0
theorem nmJ0 : ∀ a, a < 0 → ∀ b, b < 0 → a ≠ b → (TJ0 a).2.1 ≠ (TJ0 b).2.1 := by decide +kernel
theorem tyJ0_ok : ∀ k, k < 0 → parseFieldDescriptor (TJ0 k).2.2.1 = some (tyJ0 k) := by decide +kernel
def RJ10 : String := "java/lang/System"
def TJ10 : u_T := fun k => match k with
  | _ => ("", "", "", false)
def tyJ10 : Nat → FieldType := fun k => match k with
  | _ => .int
abbrev wsJ100 : List Cond := u_ws RJ10 TJ10 0
theorem nmJ10 : ∀ a, a < 0 → ∀ b, b < 0 → a ≠ b → (TJ10 a).2.1 ≠ (TJ10 b).2.1 := by decide +kernel
theorem tyJ10_ok : ∀ k, k < 0 → parseFieldDescriptor (TJ10 k).2.2.1 = some (tyJ10 k) := by decide +kernel
def RL : String := "FlowforgeLaw"
abbrev cL_cell : ByteArray := method_2_code
def yL_cell : MethodName := ⟨RL, "cell", "([II)I"⟩
abbrev cL_low : ByteArray := method_3_code
def yL_low : MethodName := ⟨RL, "low", "(II)I"⟩
abbrev cL_areBest : ByteArray := method_4_code
def yL_areBest : MethodName := ⟨RL, "areBest", "(LFlowforge;)Z"⟩
abbrev cL_isReached : ByteArray := method_5_code
def yL_isReached : MethodName := ⟨RL, "isReached", "(LFlowforge;I)Z"⟩
abbrev cL_isImproved : ByteArray := method_6_code
def yL_isImproved : MethodName := ⟨RL, "isImproved", "(LFlowforge;)Z"⟩
abbrev cL_law : ByteArray := code
def yL_law : MethodName := ⟨RL, "law", "([I)Z"⟩
def wsX0_init : List Cond := .code yX0_init cX0_init 1 none :: ([.methodLink RX0 1 objectInit, .instanceMethod objectInit, .code objectInit ⟨#[0xb1]⟩ 1 none, .fieldLink RX0 7 "Flowforge" "jobCount" "I", .fieldLink RX0 13 "Flowforge" "machineCount" "I", .arrayClass .int, .fieldLink RX0 16 "Flowforge" "times" "[I", .fieldLink RX0 20 "Flowforge" "begins" "[I", .fieldLink RX0 23 "Flowforge" "ends" "[I", .fieldLink RX0 26 "Flowforge" "tails" "[I", .fieldLink RX0 29 "Flowforge" "order" "[I", .fieldLink RX0 32 "Flowforge" "trial" "[I", .fieldLink RX0 35 "Flowforge" "queue" "[I", .arrayClass .boolean, .fieldLink RX0 38 "Flowforge" "solved" "[Z", .fieldLink RX0 42 "Flowforge" "leastMakespans" "[I", .fieldLink RX0 45 "Flowforge" "leastCounts" "[I", .fieldLink RX0 48 "Flowforge" "bestJobs" "[I"] ++ wsX00)
def wsX0_forgetBestOrders : List Cond := .code yX0_forgetBestOrders cX0_forgetBestOrders 2 none :: ([.fieldLink RX0 38 "Flowforge" "solved" "[Z"] ++ wsX00)
def wsX0_addJob : List Cond := .code yX0_addJob cX0_addJob 2 (some .int) :: ([.classLink RX0 51 "java/lang/IllegalStateException", .initialized "java/lang/IllegalStateException", .fieldLink RX0 7 "Flowforge" "jobCount" "I", .fieldLink RX0 29 "Flowforge" "order" "[I", .methodLink RX0 58 yX0_forgetBestOrders, .instanceMethod yX0_forgetBestOrders, .selects RX0 yX0_forgetBestOrders yX0_forgetBestOrders, .initialized RX0, .code yX0_forgetBestOrders cX0_forgetBestOrders 2 none, .fieldLink RX0 38 "Flowforge" "solved" "[Z"] ++ wsX00 ++ (vx_atS RX0 55 "java/lang/IllegalStateException" ["java/lang/RuntimeException", "java/lang/Exception"]).filter goodWord)
def wsX0_cell : List Cond := .code yX0_cell cX0_cell 2 (some .int) :: ([])
def wsX0_setMachines : List Cond := .code yX0_setMachines cX0_setMachines 5 (some .int) :: ([.classLink RX0 61 "java/lang/IllegalArgumentException", .initialized "java/lang/IllegalArgumentException", .fieldLink RX0 13 "Flowforge" "machineCount" "I", .fieldLink RX0 7 "Flowforge" "jobCount" "I", .fieldLink RX0 16 "Flowforge" "times" "[I", .methodLink RX0 66 yX0_cell, .static yX0_cell, .initialized RX0, .code yX0_cell cX0_cell 2 (some .int), .methodLink RX0 58 yX0_forgetBestOrders, .instanceMethod yX0_forgetBestOrders, .selects RX0 yX0_forgetBestOrders yX0_forgetBestOrders, .code yX0_forgetBestOrders cX0_forgetBestOrders 2 none, .fieldLink RX0 38 "Flowforge" "solved" "[Z"] ++ wsX00 ++ (vx_atS RX0 65 "java/lang/IllegalArgumentException" ["java/lang/RuntimeException", "java/lang/Exception"]).filter goodWord)
def wsX0_requireJob : List Cond := .code yX0_requireJob cX0_requireJob 2 none :: ([.classLink RX0 131 "java/lang/IndexOutOfBoundsException", .initialized "java/lang/IndexOutOfBoundsException", .fieldLink RX0 7 "Flowforge" "jobCount" "I"] ++ wsX00 ++ (vx_atS RX0 135 "java/lang/IndexOutOfBoundsException" ["java/lang/RuntimeException", "java/lang/Exception"]).filter goodWord)
def wsX0_requireMachine : List Cond := .code yX0_requireMachine cX0_requireMachine 2 none :: ([.classLink RX0 131 "java/lang/IndexOutOfBoundsException", .initialized "java/lang/IndexOutOfBoundsException", .fieldLink RX0 13 "Flowforge" "machineCount" "I"] ++ wsX00 ++ (vx_atS RX0 135 "java/lang/IndexOutOfBoundsException" ["java/lang/RuntimeException", "java/lang/Exception"]).filter goodWord)
def wsX0_setTime : List Cond := .code yX0_setTime cX0_setTime 5 (some .int) :: ([.classLink RX0 61 "java/lang/IllegalArgumentException", .initialized "java/lang/IllegalArgumentException", .fieldLink RX0 16 "Flowforge" "times" "[I", .methodLink RX0 70 yX0_requireJob, .instanceMethod yX0_requireJob, .selects RX0 yX0_requireJob yX0_requireJob, .initialized RX0, .code yX0_requireJob cX0_requireJob 2 none, .classLink RX0 131 "java/lang/IndexOutOfBoundsException", .initialized "java/lang/IndexOutOfBoundsException", .fieldLink RX0 7 "Flowforge" "jobCount" "I", .methodLink RX0 74 yX0_requireMachine, .instanceMethod yX0_requireMachine, .selects RX0 yX0_requireMachine yX0_requireMachine, .code yX0_requireMachine cX0_requireMachine 2 none, .fieldLink RX0 13 "Flowforge" "machineCount" "I", .methodLink RX0 66 yX0_cell, .static yX0_cell, .code yX0_cell cX0_cell 2 (some .int), .methodLink RX0 58 yX0_forgetBestOrders, .instanceMethod yX0_forgetBestOrders, .selects RX0 yX0_forgetBestOrders yX0_forgetBestOrders, .code yX0_forgetBestOrders cX0_forgetBestOrders 2 none, .fieldLink RX0 38 "Flowforge" "solved" "[Z"] ++ wsX00 ++ (vx_atS RX0 65 "java/lang/IllegalArgumentException" ["java/lang/RuntimeException", "java/lang/Exception"]).filter goodWord ++ (vx_atS RX0 135 "java/lang/IndexOutOfBoundsException" ["java/lang/RuntimeException", "java/lang/Exception"]).filter goodWord)
def wsX0_jobs : List Cond := .code yX0_jobs cX0_jobs 1 (some .int) :: ([.fieldLink RX0 7 "Flowforge" "jobCount" "I"] ++ wsX00)
def wsX0_machines : List Cond := .code yX0_machines cX0_machines 1 (some .int) :: ([.fieldLink RX0 13 "Flowforge" "machineCount" "I"] ++ wsX00)
def wsX0_requirePlace : List Cond := .code yX0_requirePlace cX0_requirePlace 2 none :: ([.classLink RX0 131 "java/lang/IndexOutOfBoundsException", .initialized "java/lang/IndexOutOfBoundsException", .fieldLink RX0 7 "Flowforge" "jobCount" "I"] ++ wsX00 ++ (vx_atS RX0 135 "java/lang/IndexOutOfBoundsException" ["java/lang/RuntimeException", "java/lang/Exception"]).filter goodWord)
def wsX0_placeOf : List Cond := .code yX0_placeOf cX0_placeOf 3 (some .int) :: ([.fieldLink RX0 7 "Flowforge" "jobCount" "I", .fieldLink RX0 29 "Flowforge" "order" "[I"] ++ wsX00)
def wsX0_shift : List Cond := .code yX0_shift cX0_shift 5 none :: ([])
def wsX0_move : List Cond := .code yX0_move cX0_move 4 (some .int) :: ([.fieldLink RX0 29 "Flowforge" "order" "[I", .methodLink RX0 70 yX0_requireJob, .instanceMethod yX0_requireJob, .selects RX0 yX0_requireJob yX0_requireJob, .initialized RX0, .code yX0_requireJob cX0_requireJob 2 none, .classLink RX0 131 "java/lang/IndexOutOfBoundsException", .initialized "java/lang/IndexOutOfBoundsException", .fieldLink RX0 7 "Flowforge" "jobCount" "I", .methodLink RX0 79 yX0_requirePlace, .instanceMethod yX0_requirePlace, .selects RX0 yX0_requirePlace yX0_requirePlace, .code yX0_requirePlace cX0_requirePlace 2 none, .methodLink RX0 82 yX0_placeOf, .instanceMethod yX0_placeOf, .selects RX0 yX0_placeOf yX0_placeOf, .code yX0_placeOf cX0_placeOf 3 (some .int), .methodLink RX0 86 yX0_shift, .static yX0_shift, .code yX0_shift cX0_shift 5 none] ++ wsX00 ++ (vx_atS RX0 135 "java/lang/IndexOutOfBoundsException" ["java/lang/RuntimeException", "java/lang/Exception"]).filter goodWord)
def wsX0_timeOf : List Cond := .code yX0_timeOf cX0_timeOf 3 (some .int) :: ([.fieldLink RX0 16 "Flowforge" "times" "[I", .methodLink RX0 66 yX0_cell, .static yX0_cell, .initialized RX0, .code yX0_cell cX0_cell 2 (some .int)] ++ wsX00)
def wsX0_goesBefore : List Cond := .code yX0_goesBefore cX0_goesBefore 7 (some .boolean) :: ([.methodLink RX0 114 yX0_timeOf, .instanceMethod yX0_timeOf, .selects RX0 yX0_timeOf yX0_timeOf, .initialized RX0, .code yX0_timeOf cX0_timeOf 3 (some .int), .fieldLink RX0 16 "Flowforge" "times" "[I", .methodLink RX0 66 yX0_cell, .static yX0_cell, .code yX0_cell cX0_cell 2 (some .int)] ++ wsX00)
def wsX0_fillByRule : List Cond := .code yX0_fillByRule cX0_fillByRule 6 none :: ([.fieldLink RX0 7 "Flowforge" "jobCount" "I", .methodLink RX0 163 yX0_goesBefore, .instanceMethod yX0_goesBefore, .selects RX0 yX0_goesBefore yX0_goesBefore, .initialized RX0, .code yX0_goesBefore cX0_goesBefore 7 (some .boolean), .methodLink RX0 114 yX0_timeOf, .instanceMethod yX0_timeOf, .selects RX0 yX0_timeOf yX0_timeOf, .code yX0_timeOf cX0_timeOf 3 (some .int), .fieldLink RX0 16 "Flowforge" "times" "[I", .methodLink RX0 66 yX0_cell, .static yX0_cell, .code yX0_cell cX0_cell 2 (some .int)] ++ wsX00)
def wsX0_freeFrom : List Cond := .code yX0_freeFrom cX0_freeFrom 4 (some .int) :: ([.fieldLink RX0 13 "Flowforge" "machineCount" "I", .fieldLink RX0 20 "Flowforge" "begins" "[I", .fieldLink RX0 23 "Flowforge" "ends" "[I", .methodLink RX0 66 yX0_cell, .static yX0_cell, .initialized RX0, .code yX0_cell cX0_cell 2 (some .int)] ++ wsX00)
def wsX0_beginWithoutWaiting : List Cond := .code yX0_beginWithoutWaiting cX0_beginWithoutWaiting 6 (some .int) :: ([.fieldLink RX0 13 "Flowforge" "machineCount" "I", .methodLink RX0 167 Lib.Math.max.name, .static Lib.Math.max.name, .initialized "java/lang/Math", .code Lib.Math.max.name Lib.Math.max.code 2 (some .int), .methodLink RX0 173 yX0_freeFrom, .instanceMethod yX0_freeFrom, .selects RX0 yX0_freeFrom yX0_freeFrom, .initialized RX0, .code yX0_freeFrom cX0_freeFrom 4 (some .int), .fieldLink RX0 20 "Flowforge" "begins" "[I", .fieldLink RX0 23 "Flowforge" "ends" "[I", .methodLink RX0 66 yX0_cell, .static yX0_cell, .code yX0_cell cX0_cell 2 (some .int), .methodLink RX0 114 yX0_timeOf, .instanceMethod yX0_timeOf, .selects RX0 yX0_timeOf yX0_timeOf, .code yX0_timeOf cX0_timeOf 3 (some .int), .fieldLink RX0 16 "Flowforge" "times" "[I"] ++ wsX00)
def wsX0_scheduleJob : List Cond := .code yX0_scheduleJob cX0_scheduleJob 7 none :: ([.fieldLink RX0 13 "Flowforge" "machineCount" "I", .methodLink RX0 167 Lib.Math.max.name, .static Lib.Math.max.name, .initialized "java/lang/Math", .code Lib.Math.max.name Lib.Math.max.code 2 (some .int), .fieldLink RX0 20 "Flowforge" "begins" "[I", .fieldLink RX0 23 "Flowforge" "ends" "[I", .methodLink RX0 170 yX0_beginWithoutWaiting, .instanceMethod yX0_beginWithoutWaiting, .selects RX0 yX0_beginWithoutWaiting yX0_beginWithoutWaiting, .initialized RX0, .code yX0_beginWithoutWaiting cX0_beginWithoutWaiting 6 (some .int), .methodLink RX0 173 yX0_freeFrom, .instanceMethod yX0_freeFrom, .selects RX0 yX0_freeFrom yX0_freeFrom, .code yX0_freeFrom cX0_freeFrom 4 (some .int), .methodLink RX0 66 yX0_cell, .static yX0_cell, .code yX0_cell cX0_cell 2 (some .int), .methodLink RX0 114 yX0_timeOf, .instanceMethod yX0_timeOf, .selects RX0 yX0_timeOf yX0_timeOf, .code yX0_timeOf cX0_timeOf 3 (some .int), .fieldLink RX0 16 "Flowforge" "times" "[I"] ++ wsX00)
def wsX0_lastEnd : List Cond := .code yX0_lastEnd cX0_lastEnd 2 (some .int) :: ([.fieldLink RX0 23 "Flowforge" "ends" "[I", .fieldLink RX0 13 "Flowforge" "machineCount" "I", .methodLink RX0 66 yX0_cell, .static yX0_cell, .initialized RX0, .code yX0_cell cX0_cell 2 (some .int)] ++ wsX00)
def wsX0_scheduleOrder_r1 : List Cond := [Cond.fieldLink RX0 7 "Flowforge" "jobCount" "I", Cond.fieldLink RX0 29 "Flowforge" "order" "[I", Cond.methodLink RX0 156 yX0_scheduleJob, Cond.instanceMethod yX0_scheduleJob, Cond.selects RX0 yX0_scheduleJob yX0_scheduleJob, Cond.initialized RX0, Cond.code yX0_scheduleJob cX0_scheduleJob 7 none, Cond.fieldLink RX0 13 "Flowforge" "machineCount" "I", Cond.methodLink RX0 167 Lib.Math.max.name, Cond.static Lib.Math.max.name, Cond.initialized "java/lang/Math", Cond.code Lib.Math.max.name Lib.Math.max.code 2 (some .int), Cond.fieldLink RX0 20 "Flowforge" "begins" "[I", Cond.fieldLink RX0 23 "Flowforge" "ends" "[I", Cond.methodLink RX0 170 yX0_beginWithoutWaiting, Cond.instanceMethod yX0_beginWithoutWaiting, Cond.selects RX0 yX0_beginWithoutWaiting yX0_beginWithoutWaiting, Cond.code yX0_beginWithoutWaiting cX0_beginWithoutWaiting 6 (some .int), Cond.methodLink RX0 173 yX0_freeFrom, Cond.instanceMethod yX0_freeFrom, Cond.selects RX0 yX0_freeFrom yX0_freeFrom, Cond.code yX0_freeFrom cX0_freeFrom 4 (some .int), Cond.methodLink RX0 66 yX0_cell, Cond.static yX0_cell]
def wsX0_scheduleOrder_r2 : List Cond := [Cond.code yX0_cell cX0_cell 2 (some .int), Cond.methodLink RX0 114 yX0_timeOf, Cond.instanceMethod yX0_timeOf, Cond.selects RX0 yX0_timeOf yX0_timeOf, Cond.code yX0_timeOf cX0_timeOf 3 (some .int), Cond.fieldLink RX0 16 "Flowforge" "times" "[I", Cond.methodLink RX0 160 yX0_lastEnd, Cond.instanceMethod yX0_lastEnd, Cond.selects RX0 yX0_lastEnd yX0_lastEnd, Cond.code yX0_lastEnd cX0_lastEnd 2 (some .int)]
def wsX0_scheduleOrder : List Cond := .code yX0_scheduleOrder cX0_scheduleOrder 3 (some .int) :: ((wsX0_scheduleOrder_r1 ++ wsX0_scheduleOrder_r2) ++ wsX00)
def wsX0_orderByRule_r1 : List Cond := [Cond.classLink RX0 51 "java/lang/IllegalStateException", Cond.initialized "java/lang/IllegalStateException", Cond.fieldLink RX0 13 "Flowforge" "machineCount" "I", Cond.fieldLink RX0 29 "Flowforge" "order" "[I", Cond.methodLink RX0 96 yX0_fillByRule, Cond.instanceMethod yX0_fillByRule, Cond.selects RX0 yX0_fillByRule yX0_fillByRule, Cond.initialized RX0, Cond.code yX0_fillByRule cX0_fillByRule 6 none, Cond.fieldLink RX0 7 "Flowforge" "jobCount" "I", Cond.methodLink RX0 163 yX0_goesBefore, Cond.instanceMethod yX0_goesBefore, Cond.selects RX0 yX0_goesBefore yX0_goesBefore, Cond.code yX0_goesBefore cX0_goesBefore 7 (some .boolean), Cond.methodLink RX0 114 yX0_timeOf, Cond.instanceMethod yX0_timeOf, Cond.selects RX0 yX0_timeOf yX0_timeOf, Cond.code yX0_timeOf cX0_timeOf 3 (some .int), Cond.fieldLink RX0 16 "Flowforge" "times" "[I", Cond.methodLink RX0 66 yX0_cell, Cond.static yX0_cell, Cond.code yX0_cell cX0_cell 2 (some .int), Cond.methodLink RX0 99 yX0_scheduleOrder, Cond.instanceMethod yX0_scheduleOrder]
def wsX0_orderByRule_r2 : List Cond := [Cond.selects RX0 yX0_scheduleOrder yX0_scheduleOrder, Cond.code yX0_scheduleOrder cX0_scheduleOrder 3 (some .int), Cond.methodLink RX0 156 yX0_scheduleJob, Cond.instanceMethod yX0_scheduleJob, Cond.selects RX0 yX0_scheduleJob yX0_scheduleJob, Cond.code yX0_scheduleJob cX0_scheduleJob 7 none, Cond.methodLink RX0 167 Lib.Math.max.name, Cond.static Lib.Math.max.name, Cond.initialized "java/lang/Math", Cond.code Lib.Math.max.name Lib.Math.max.code 2 (some .int), Cond.fieldLink RX0 20 "Flowforge" "begins" "[I", Cond.fieldLink RX0 23 "Flowforge" "ends" "[I", Cond.methodLink RX0 170 yX0_beginWithoutWaiting, Cond.instanceMethod yX0_beginWithoutWaiting, Cond.selects RX0 yX0_beginWithoutWaiting yX0_beginWithoutWaiting, Cond.code yX0_beginWithoutWaiting cX0_beginWithoutWaiting 6 (some .int), Cond.methodLink RX0 173 yX0_freeFrom, Cond.instanceMethod yX0_freeFrom, Cond.selects RX0 yX0_freeFrom yX0_freeFrom, Cond.code yX0_freeFrom cX0_freeFrom 4 (some .int), Cond.methodLink RX0 160 yX0_lastEnd, Cond.instanceMethod yX0_lastEnd, Cond.selects RX0 yX0_lastEnd yX0_lastEnd, Cond.code yX0_lastEnd cX0_lastEnd 2 (some .int)]
def wsX0_orderByRule : List Cond := .code yX0_orderByRule cX0_orderByRule 1 (some .int) :: ((wsX0_orderByRule_r1 ++ wsX0_orderByRule_r2) ++ wsX00 ++ (vx_atS RX0 55 "java/lang/IllegalStateException" ["java/lang/RuntimeException", "java/lang/Exception"]).filter goodWord)
def wsX0_sumOf : List Cond := .code yX0_sumOf cX0_sumOf 6 (some .int) :: ([.methodLink RX0 114 yX0_timeOf, .instanceMethod yX0_timeOf, .selects RX0 yX0_timeOf yX0_timeOf, .initialized RX0, .code yX0_timeOf cX0_timeOf 3 (some .int), .fieldLink RX0 16 "Flowforge" "times" "[I", .methodLink RX0 66 yX0_cell, .static yX0_cell, .code yX0_cell cX0_cell 2 (some .int)] ++ wsX00)
def wsX0_fillQueueBySum : List Cond := .code yX0_fillQueueBySum cX0_fillQueueBySum 4 none :: ([.fieldLink RX0 7 "Flowforge" "jobCount" "I", .fieldLink RX0 13 "Flowforge" "machineCount" "I", .fieldLink RX0 35 "Flowforge" "queue" "[I", .methodLink RX0 142 yX0_sumOf, .instanceMethod yX0_sumOf, .selects RX0 yX0_sumOf yX0_sumOf, .initialized RX0, .code yX0_sumOf cX0_sumOf 6 (some .int), .methodLink RX0 114 yX0_timeOf, .instanceMethod yX0_timeOf, .selects RX0 yX0_timeOf yX0_timeOf, .code yX0_timeOf cX0_timeOf 3 (some .int), .fieldLink RX0 16 "Flowforge" "times" "[I", .methodLink RX0 66 yX0_cell, .static yX0_cell, .code yX0_cell cX0_cell 2 (some .int)] ++ wsX00)
def wsX0_makespanIfShifted_r1 : List Cond := [Cond.fieldLink RX0 29 "Flowforge" "order" "[I", Cond.fieldLink RX0 32 "Flowforge" "trial" "[I", Cond.methodLink RX0 150 arraycopyName, Cond.native arraycopyName, Cond.static arraycopyName, Cond.initialized "java/lang/System", Cond.methodLink RX0 86 yX0_shift, Cond.static yX0_shift, Cond.initialized RX0, Cond.code yX0_shift cX0_shift 5 none, Cond.methodLink RX0 156 yX0_scheduleJob, Cond.instanceMethod yX0_scheduleJob, Cond.selects RX0 yX0_scheduleJob yX0_scheduleJob, Cond.code yX0_scheduleJob cX0_scheduleJob 7 none, Cond.fieldLink RX0 13 "Flowforge" "machineCount" "I", Cond.methodLink RX0 167 Lib.Math.max.name, Cond.static Lib.Math.max.name, Cond.initialized "java/lang/Math", Cond.code Lib.Math.max.name Lib.Math.max.code 2 (some .int), Cond.fieldLink RX0 20 "Flowforge" "begins" "[I", Cond.fieldLink RX0 23 "Flowforge" "ends" "[I", Cond.methodLink RX0 170 yX0_beginWithoutWaiting, Cond.instanceMethod yX0_beginWithoutWaiting, Cond.selects RX0 yX0_beginWithoutWaiting yX0_beginWithoutWaiting]
def wsX0_makespanIfShifted_r2 : List Cond := [Cond.code yX0_beginWithoutWaiting cX0_beginWithoutWaiting 6 (some .int), Cond.methodLink RX0 173 yX0_freeFrom, Cond.instanceMethod yX0_freeFrom, Cond.selects RX0 yX0_freeFrom yX0_freeFrom, Cond.code yX0_freeFrom cX0_freeFrom 4 (some .int), Cond.methodLink RX0 66 yX0_cell, Cond.static yX0_cell, Cond.code yX0_cell cX0_cell 2 (some .int), Cond.methodLink RX0 114 yX0_timeOf, Cond.instanceMethod yX0_timeOf, Cond.selects RX0 yX0_timeOf yX0_timeOf, Cond.code yX0_timeOf cX0_timeOf 3 (some .int), Cond.fieldLink RX0 16 "Flowforge" "times" "[I", Cond.methodLink RX0 160 yX0_lastEnd, Cond.instanceMethod yX0_lastEnd, Cond.selects RX0 yX0_lastEnd yX0_lastEnd, Cond.code yX0_lastEnd cX0_lastEnd 2 (some .int)]
def wsX0_makespanIfShifted : List Cond := .code yX0_makespanIfShifted cX0_makespanIfShifted 5 (some .int) :: ((wsX0_makespanIfShifted_r1 ++ wsX0_makespanIfShifted_r2) ++ wsX00)
def wsX0_placeForLast_r1 : List Cond := [Cond.methodLink RX0 90 yX0_makespanIfShifted, Cond.instanceMethod yX0_makespanIfShifted, Cond.selects RX0 yX0_makespanIfShifted yX0_makespanIfShifted, Cond.initialized RX0, Cond.code yX0_makespanIfShifted cX0_makespanIfShifted 5 (some .int), Cond.fieldLink RX0 29 "Flowforge" "order" "[I", Cond.fieldLink RX0 32 "Flowforge" "trial" "[I", Cond.methodLink RX0 150 arraycopyName, Cond.native arraycopyName, Cond.static arraycopyName, Cond.initialized "java/lang/System", Cond.methodLink RX0 86 yX0_shift, Cond.static yX0_shift, Cond.code yX0_shift cX0_shift 5 none, Cond.methodLink RX0 156 yX0_scheduleJob, Cond.instanceMethod yX0_scheduleJob, Cond.selects RX0 yX0_scheduleJob yX0_scheduleJob, Cond.code yX0_scheduleJob cX0_scheduleJob 7 none, Cond.fieldLink RX0 13 "Flowforge" "machineCount" "I", Cond.methodLink RX0 167 Lib.Math.max.name, Cond.static Lib.Math.max.name, Cond.initialized "java/lang/Math", Cond.code Lib.Math.max.name Lib.Math.max.code 2 (some .int), Cond.fieldLink RX0 20 "Flowforge" "begins" "[I"]
def wsX0_placeForLast_r2 : List Cond := [Cond.fieldLink RX0 23 "Flowforge" "ends" "[I", Cond.methodLink RX0 170 yX0_beginWithoutWaiting, Cond.instanceMethod yX0_beginWithoutWaiting, Cond.selects RX0 yX0_beginWithoutWaiting yX0_beginWithoutWaiting, Cond.code yX0_beginWithoutWaiting cX0_beginWithoutWaiting 6 (some .int), Cond.methodLink RX0 173 yX0_freeFrom, Cond.instanceMethod yX0_freeFrom, Cond.selects RX0 yX0_freeFrom yX0_freeFrom, Cond.code yX0_freeFrom cX0_freeFrom 4 (some .int), Cond.methodLink RX0 66 yX0_cell, Cond.static yX0_cell, Cond.code yX0_cell cX0_cell 2 (some .int), Cond.methodLink RX0 114 yX0_timeOf, Cond.instanceMethod yX0_timeOf, Cond.selects RX0 yX0_timeOf yX0_timeOf, Cond.code yX0_timeOf cX0_timeOf 3 (some .int), Cond.fieldLink RX0 16 "Flowforge" "times" "[I", Cond.methodLink RX0 160 yX0_lastEnd, Cond.instanceMethod yX0_lastEnd, Cond.selects RX0 yX0_lastEnd yX0_lastEnd, Cond.code yX0_lastEnd cX0_lastEnd 2 (some .int)]
def wsX0_placeForLast : List Cond := .code yX0_placeForLast cX0_placeForLast 6 (some .int) :: ((wsX0_placeForLast_r1 ++ wsX0_placeForLast_r2) ++ wsX00)
def wsX0_orderByInsertion_r1 : List Cond := [Cond.fieldLink RX0 7 "Flowforge" "jobCount" "I", Cond.fieldLink RX0 29 "Flowforge" "order" "[I", Cond.fieldLink RX0 35 "Flowforge" "queue" "[I", Cond.methodLink RX0 102 yX0_fillQueueBySum, Cond.instanceMethod yX0_fillQueueBySum, Cond.selects RX0 yX0_fillQueueBySum yX0_fillQueueBySum, Cond.initialized RX0, Cond.code yX0_fillQueueBySum cX0_fillQueueBySum 4 none, Cond.fieldLink RX0 13 "Flowforge" "machineCount" "I", Cond.methodLink RX0 142 yX0_sumOf, Cond.instanceMethod yX0_sumOf, Cond.selects RX0 yX0_sumOf yX0_sumOf, Cond.code yX0_sumOf cX0_sumOf 6 (some .int), Cond.methodLink RX0 114 yX0_timeOf, Cond.instanceMethod yX0_timeOf, Cond.selects RX0 yX0_timeOf yX0_timeOf, Cond.code yX0_timeOf cX0_timeOf 3 (some .int), Cond.fieldLink RX0 16 "Flowforge" "times" "[I", Cond.methodLink RX0 66 yX0_cell, Cond.static yX0_cell, Cond.code yX0_cell cX0_cell 2 (some .int), Cond.methodLink RX0 105 yX0_placeForLast, Cond.instanceMethod yX0_placeForLast, Cond.selects RX0 yX0_placeForLast yX0_placeForLast]
def wsX0_orderByInsertion_r2 : List Cond := [Cond.code yX0_placeForLast cX0_placeForLast 6 (some .int), Cond.methodLink RX0 90 yX0_makespanIfShifted, Cond.instanceMethod yX0_makespanIfShifted, Cond.selects RX0 yX0_makespanIfShifted yX0_makespanIfShifted, Cond.code yX0_makespanIfShifted cX0_makespanIfShifted 5 (some .int), Cond.fieldLink RX0 32 "Flowforge" "trial" "[I", Cond.methodLink RX0 150 arraycopyName, Cond.native arraycopyName, Cond.static arraycopyName, Cond.initialized "java/lang/System", Cond.methodLink RX0 86 yX0_shift, Cond.static yX0_shift, Cond.code yX0_shift cX0_shift 5 none, Cond.methodLink RX0 156 yX0_scheduleJob, Cond.instanceMethod yX0_scheduleJob, Cond.selects RX0 yX0_scheduleJob yX0_scheduleJob, Cond.code yX0_scheduleJob cX0_scheduleJob 7 none, Cond.methodLink RX0 167 Lib.Math.max.name, Cond.static Lib.Math.max.name, Cond.initialized "java/lang/Math", Cond.code Lib.Math.max.name Lib.Math.max.code 2 (some .int), Cond.fieldLink RX0 20 "Flowforge" "begins" "[I", Cond.fieldLink RX0 23 "Flowforge" "ends" "[I", Cond.methodLink RX0 170 yX0_beginWithoutWaiting]
def wsX0_orderByInsertion_r3 : List Cond := [Cond.instanceMethod yX0_beginWithoutWaiting, Cond.selects RX0 yX0_beginWithoutWaiting yX0_beginWithoutWaiting, Cond.code yX0_beginWithoutWaiting cX0_beginWithoutWaiting 6 (some .int), Cond.methodLink RX0 173 yX0_freeFrom, Cond.instanceMethod yX0_freeFrom, Cond.selects RX0 yX0_freeFrom yX0_freeFrom, Cond.code yX0_freeFrom cX0_freeFrom 4 (some .int), Cond.methodLink RX0 160 yX0_lastEnd, Cond.instanceMethod yX0_lastEnd, Cond.selects RX0 yX0_lastEnd yX0_lastEnd, Cond.code yX0_lastEnd cX0_lastEnd 2 (some .int), Cond.methodLink RX0 99 yX0_scheduleOrder, Cond.instanceMethod yX0_scheduleOrder, Cond.selects RX0 yX0_scheduleOrder yX0_scheduleOrder, Cond.code yX0_scheduleOrder cX0_scheduleOrder 3 (some .int)]
def wsX0_orderByInsertion : List Cond := .code yX0_orderByInsertion cX0_orderByInsertion 2 (some .int) :: ((wsX0_orderByInsertion_r1 ++ (wsX0_orderByInsertion_r2 ++ wsX0_orderByInsertion_r3)) ++ wsX00)
def wsX0_improve_r1 : List Cond := [Cond.fieldLink RX0 7 "Flowforge" "jobCount" "I", Cond.fieldLink RX0 29 "Flowforge" "order" "[I", Cond.methodLink RX0 99 yX0_scheduleOrder, Cond.instanceMethod yX0_scheduleOrder, Cond.selects RX0 yX0_scheduleOrder yX0_scheduleOrder, Cond.initialized RX0, Cond.code yX0_scheduleOrder cX0_scheduleOrder 3 (some .int), Cond.methodLink RX0 156 yX0_scheduleJob, Cond.instanceMethod yX0_scheduleJob, Cond.selects RX0 yX0_scheduleJob yX0_scheduleJob, Cond.code yX0_scheduleJob cX0_scheduleJob 7 none, Cond.fieldLink RX0 13 "Flowforge" "machineCount" "I", Cond.methodLink RX0 167 Lib.Math.max.name, Cond.static Lib.Math.max.name, Cond.initialized "java/lang/Math", Cond.code Lib.Math.max.name Lib.Math.max.code 2 (some .int), Cond.fieldLink RX0 20 "Flowforge" "begins" "[I", Cond.fieldLink RX0 23 "Flowforge" "ends" "[I", Cond.methodLink RX0 170 yX0_beginWithoutWaiting, Cond.instanceMethod yX0_beginWithoutWaiting, Cond.selects RX0 yX0_beginWithoutWaiting yX0_beginWithoutWaiting, Cond.code yX0_beginWithoutWaiting cX0_beginWithoutWaiting 6 (some .int), Cond.methodLink RX0 173 yX0_freeFrom, Cond.instanceMethod yX0_freeFrom]
def wsX0_improve_r2 : List Cond := [Cond.selects RX0 yX0_freeFrom yX0_freeFrom, Cond.code yX0_freeFrom cX0_freeFrom 4 (some .int), Cond.methodLink RX0 66 yX0_cell, Cond.static yX0_cell, Cond.code yX0_cell cX0_cell 2 (some .int), Cond.methodLink RX0 114 yX0_timeOf, Cond.instanceMethod yX0_timeOf, Cond.selects RX0 yX0_timeOf yX0_timeOf, Cond.code yX0_timeOf cX0_timeOf 3 (some .int), Cond.fieldLink RX0 16 "Flowforge" "times" "[I", Cond.methodLink RX0 160 yX0_lastEnd, Cond.instanceMethod yX0_lastEnd, Cond.selects RX0 yX0_lastEnd yX0_lastEnd, Cond.code yX0_lastEnd cX0_lastEnd 2 (some .int), Cond.methodLink RX0 90 yX0_makespanIfShifted, Cond.instanceMethod yX0_makespanIfShifted, Cond.selects RX0 yX0_makespanIfShifted yX0_makespanIfShifted, Cond.code yX0_makespanIfShifted cX0_makespanIfShifted 5 (some .int), Cond.fieldLink RX0 32 "Flowforge" "trial" "[I", Cond.methodLink RX0 150 arraycopyName, Cond.native arraycopyName, Cond.static arraycopyName, Cond.initialized "java/lang/System", Cond.methodLink RX0 86 yX0_shift]
def wsX0_improve_r3 : List Cond := [Cond.static yX0_shift, Cond.code yX0_shift cX0_shift 5 none]
def wsX0_improve : List Cond := .code yX0_improve cX0_improve 8 (some .int) :: ((wsX0_improve_r1 ++ (wsX0_improve_r2 ++ wsX0_improve_r3)) ++ wsX00)
def wsX0_requireVariant : List Cond := .code yX0_requireVariant cX0_requireVariant 1 none :: ([.classLink RX0 61 "java/lang/IllegalArgumentException", .initialized "java/lang/IllegalArgumentException"] ++ (vx_atS RX0 65 "java/lang/IllegalArgumentException" ["java/lang/RuntimeException", "java/lang/Exception"]).filter goodWord)
def wsX0_makespan_r1 : List Cond := [Cond.methodLink RX0 108 yX0_requireVariant, Cond.static yX0_requireVariant, Cond.initialized RX0, Cond.code yX0_requireVariant cX0_requireVariant 1 none, Cond.classLink RX0 61 "java/lang/IllegalArgumentException", Cond.initialized "java/lang/IllegalArgumentException", Cond.methodLink RX0 99 yX0_scheduleOrder, Cond.instanceMethod yX0_scheduleOrder, Cond.selects RX0 yX0_scheduleOrder yX0_scheduleOrder, Cond.code yX0_scheduleOrder cX0_scheduleOrder 3 (some .int), Cond.fieldLink RX0 7 "Flowforge" "jobCount" "I", Cond.fieldLink RX0 29 "Flowforge" "order" "[I", Cond.methodLink RX0 156 yX0_scheduleJob, Cond.instanceMethod yX0_scheduleJob, Cond.selects RX0 yX0_scheduleJob yX0_scheduleJob, Cond.code yX0_scheduleJob cX0_scheduleJob 7 none, Cond.fieldLink RX0 13 "Flowforge" "machineCount" "I", Cond.methodLink RX0 167 Lib.Math.max.name, Cond.static Lib.Math.max.name, Cond.initialized "java/lang/Math", Cond.code Lib.Math.max.name Lib.Math.max.code 2 (some .int), Cond.fieldLink RX0 20 "Flowforge" "begins" "[I", Cond.fieldLink RX0 23 "Flowforge" "ends" "[I", Cond.methodLink RX0 170 yX0_beginWithoutWaiting]
def wsX0_makespan_r2 : List Cond := [Cond.instanceMethod yX0_beginWithoutWaiting, Cond.selects RX0 yX0_beginWithoutWaiting yX0_beginWithoutWaiting, Cond.code yX0_beginWithoutWaiting cX0_beginWithoutWaiting 6 (some .int), Cond.methodLink RX0 173 yX0_freeFrom, Cond.instanceMethod yX0_freeFrom, Cond.selects RX0 yX0_freeFrom yX0_freeFrom, Cond.code yX0_freeFrom cX0_freeFrom 4 (some .int), Cond.methodLink RX0 66 yX0_cell, Cond.static yX0_cell, Cond.code yX0_cell cX0_cell 2 (some .int), Cond.methodLink RX0 114 yX0_timeOf, Cond.instanceMethod yX0_timeOf, Cond.selects RX0 yX0_timeOf yX0_timeOf, Cond.code yX0_timeOf cX0_timeOf 3 (some .int), Cond.fieldLink RX0 16 "Flowforge" "times" "[I", Cond.methodLink RX0 160 yX0_lastEnd, Cond.instanceMethod yX0_lastEnd, Cond.selects RX0 yX0_lastEnd yX0_lastEnd, Cond.code yX0_lastEnd cX0_lastEnd 2 (some .int)]
def wsX0_makespan : List Cond := .code yX0_makespan cX0_makespan 2 (some .int) :: ((wsX0_makespan_r1 ++ wsX0_makespan_r2) ++ wsX00 ++ (vx_atS RX0 65 "java/lang/IllegalArgumentException" ["java/lang/RuntimeException", "java/lang/Exception"]).filter goodWord)
def wsX0_loadOf : List Cond := .code yX0_loadOf cX0_loadOf 4 (some .int) :: ([.fieldLink RX0 7 "Flowforge" "jobCount" "I", .methodLink RX0 114 yX0_timeOf, .instanceMethod yX0_timeOf, .selects RX0 yX0_timeOf yX0_timeOf, .initialized RX0, .code yX0_timeOf cX0_timeOf 3 (some .int), .fieldLink RX0 16 "Flowforge" "times" "[I", .methodLink RX0 66 yX0_cell, .static yX0_cell, .code yX0_cell cX0_cell 2 (some .int)] ++ wsX00)
def wsX0_leastSum : List Cond := .code yX0_leastSum cX0_leastSum 5 (some .int) :: ([.fieldLink RX0 7 "Flowforge" "jobCount" "I", .methodLink RX0 145 Lib.Math.min.name, .static Lib.Math.min.name, .initialized "java/lang/Math", .code Lib.Math.min.name Lib.Math.min.code 2 (some .int), .methodLink RX0 142 yX0_sumOf, .instanceMethod yX0_sumOf, .selects RX0 yX0_sumOf yX0_sumOf, .initialized RX0, .code yX0_sumOf cX0_sumOf 6 (some .int), .methodLink RX0 114 yX0_timeOf, .instanceMethod yX0_timeOf, .selects RX0 yX0_timeOf yX0_timeOf, .code yX0_timeOf cX0_timeOf 3 (some .int), .fieldLink RX0 16 "Flowforge" "times" "[I", .methodLink RX0 66 yX0_cell, .static yX0_cell, .code yX0_cell cX0_cell 2 (some .int)] ++ wsX00)
def wsX0_machineBound_r1 : List Cond := [Cond.fieldLink RX0 13 "Flowforge" "machineCount" "I", Cond.methodLink RX0 74 yX0_requireMachine, Cond.instanceMethod yX0_requireMachine, Cond.selects RX0 yX0_requireMachine yX0_requireMachine, Cond.initialized RX0, Cond.code yX0_requireMachine cX0_requireMachine 2 none, Cond.classLink RX0 131 "java/lang/IndexOutOfBoundsException", Cond.initialized "java/lang/IndexOutOfBoundsException", Cond.methodLink RX0 117 yX0_loadOf, Cond.instanceMethod yX0_loadOf, Cond.selects RX0 yX0_loadOf yX0_loadOf, Cond.code yX0_loadOf cX0_loadOf 4 (some .int), Cond.fieldLink RX0 7 "Flowforge" "jobCount" "I", Cond.methodLink RX0 114 yX0_timeOf, Cond.instanceMethod yX0_timeOf, Cond.selects RX0 yX0_timeOf yX0_timeOf, Cond.code yX0_timeOf cX0_timeOf 3 (some .int), Cond.fieldLink RX0 16 "Flowforge" "times" "[I", Cond.methodLink RX0 66 yX0_cell, Cond.static yX0_cell, Cond.code yX0_cell cX0_cell 2 (some .int), Cond.methodLink RX0 120 yX0_leastSum, Cond.instanceMethod yX0_leastSum, Cond.selects RX0 yX0_leastSum yX0_leastSum]
def wsX0_machineBound_r2 : List Cond := [Cond.code yX0_leastSum cX0_leastSum 5 (some .int), Cond.methodLink RX0 145 Lib.Math.min.name, Cond.static Lib.Math.min.name, Cond.initialized "java/lang/Math", Cond.code Lib.Math.min.name Lib.Math.min.code 2 (some .int), Cond.methodLink RX0 142 yX0_sumOf, Cond.instanceMethod yX0_sumOf, Cond.selects RX0 yX0_sumOf yX0_sumOf, Cond.code yX0_sumOf cX0_sumOf 6 (some .int)]
def wsX0_machineBound : List Cond := .code yX0_machineBound cX0_machineBound 2 (some .int) :: ((wsX0_machineBound_r1 ++ wsX0_machineBound_r2) ++ wsX00 ++ (vx_atS RX0 135 "java/lang/IndexOutOfBoundsException" ["java/lang/RuntimeException", "java/lang/Exception"]).filter goodWord)
def wsX0_leastOfPair : List Cond := .code yX0_leastOfPair cX0_leastOfPair 6 (some .int) :: ([.fieldLink RX0 32 "Flowforge" "trial" "[I", .fieldLink RX0 7 "Flowforge" "jobCount" "I", .methodLink RX0 167 Lib.Math.max.name, .static Lib.Math.max.name, .initialized "java/lang/Math", .code Lib.Math.max.name Lib.Math.max.code 2 (some .int), .methodLink RX0 96 yX0_fillByRule, .instanceMethod yX0_fillByRule, .selects RX0 yX0_fillByRule yX0_fillByRule, .initialized RX0, .code yX0_fillByRule cX0_fillByRule 6 none, .methodLink RX0 163 yX0_goesBefore, .instanceMethod yX0_goesBefore, .selects RX0 yX0_goesBefore yX0_goesBefore, .code yX0_goesBefore cX0_goesBefore 7 (some .boolean), .methodLink RX0 114 yX0_timeOf, .instanceMethod yX0_timeOf, .selects RX0 yX0_timeOf yX0_timeOf, .code yX0_timeOf cX0_timeOf 3 (some .int), .fieldLink RX0 16 "Flowforge" "times" "[I", .methodLink RX0 66 yX0_cell, .static yX0_cell, .code yX0_cell cX0_cell 2 (some .int)] ++ wsX00)
def wsX0_pairBound_r1 : List Cond := [Cond.classLink RX0 61 "java/lang/IllegalArgumentException", Cond.initialized "java/lang/IllegalArgumentException", Cond.fieldLink RX0 13 "Flowforge" "machineCount" "I", Cond.methodLink RX0 74 yX0_requireMachine, Cond.instanceMethod yX0_requireMachine, Cond.selects RX0 yX0_requireMachine yX0_requireMachine, Cond.initialized RX0, Cond.code yX0_requireMachine cX0_requireMachine 2 none, Cond.classLink RX0 131 "java/lang/IndexOutOfBoundsException", Cond.initialized "java/lang/IndexOutOfBoundsException", Cond.methodLink RX0 125 yX0_leastOfPair, Cond.instanceMethod yX0_leastOfPair, Cond.selects RX0 yX0_leastOfPair yX0_leastOfPair, Cond.code yX0_leastOfPair cX0_leastOfPair 6 (some .int), Cond.fieldLink RX0 32 "Flowforge" "trial" "[I", Cond.fieldLink RX0 7 "Flowforge" "jobCount" "I", Cond.methodLink RX0 167 Lib.Math.max.name, Cond.static Lib.Math.max.name, Cond.initialized "java/lang/Math", Cond.code Lib.Math.max.name Lib.Math.max.code 2 (some .int), Cond.methodLink RX0 96 yX0_fillByRule, Cond.instanceMethod yX0_fillByRule, Cond.selects RX0 yX0_fillByRule yX0_fillByRule, Cond.code yX0_fillByRule cX0_fillByRule 6 none]
def wsX0_pairBound_r2 : List Cond := [Cond.methodLink RX0 163 yX0_goesBefore, Cond.instanceMethod yX0_goesBefore, Cond.selects RX0 yX0_goesBefore yX0_goesBefore, Cond.code yX0_goesBefore cX0_goesBefore 7 (some .boolean), Cond.methodLink RX0 114 yX0_timeOf, Cond.instanceMethod yX0_timeOf, Cond.selects RX0 yX0_timeOf yX0_timeOf, Cond.code yX0_timeOf cX0_timeOf 3 (some .int), Cond.fieldLink RX0 16 "Flowforge" "times" "[I", Cond.methodLink RX0 66 yX0_cell, Cond.static yX0_cell, Cond.code yX0_cell cX0_cell 2 (some .int), Cond.methodLink RX0 120 yX0_leastSum, Cond.instanceMethod yX0_leastSum, Cond.selects RX0 yX0_leastSum yX0_leastSum, Cond.code yX0_leastSum cX0_leastSum 5 (some .int), Cond.methodLink RX0 145 Lib.Math.min.name, Cond.static Lib.Math.min.name, Cond.code Lib.Math.min.name Lib.Math.min.code 2 (some .int), Cond.methodLink RX0 142 yX0_sumOf, Cond.instanceMethod yX0_sumOf, Cond.selects RX0 yX0_sumOf yX0_sumOf, Cond.code yX0_sumOf cX0_sumOf 6 (some .int)]
def wsX0_pairBound : List Cond := .code yX0_pairBound cX0_pairBound 3 (some .int) :: ((wsX0_pairBound_r1 ++ wsX0_pairBound_r2) ++ wsX00 ++ (vx_atS RX0 65 "java/lang/IllegalArgumentException" ["java/lang/RuntimeException", "java/lang/Exception"]).filter goodWord ++ (vx_atS RX0 135 "java/lang/IndexOutOfBoundsException" ["java/lang/RuntimeException", "java/lang/Exception"]).filter goodWord)
def wsX0_countTrial : List Cond := .code yX0_countTrial cX0_countTrial 3 none :: ([.fieldLink RX0 45 "Flowforge" "leastCounts" "[I", .fieldLink RX0 42 "Flowforge" "leastMakespans" "[I", .fieldLink RX0 32 "Flowforge" "trial" "[I", .fieldLink RX0 48 "Flowforge" "bestJobs" "[I", .fieldLink RX0 7 "Flowforge" "jobCount" "I", .methodLink RX0 150 arraycopyName, .native arraycopyName, .static arraycopyName, .initialized "java/lang/System"] ++ wsX00)
def wsX0_swapInTrial : List Cond := .code yX0_swapInTrial cX0_swapInTrial 4 none :: ([.fieldLink RX0 32 "Flowforge" "trial" "[I"] ++ wsX00)
def wsX0_stepTrial : List Cond := .code yX0_stepTrial cX0_stepTrial 5 (some .int) :: ([.fieldLink RX0 7 "Flowforge" "jobCount" "I", .fieldLink RX0 32 "Flowforge" "trial" "[I", .methodLink RX0 184 yX0_swapInTrial, .instanceMethod yX0_swapInTrial, .selects RX0 yX0_swapInTrial yX0_swapInTrial, .initialized RX0, .code yX0_swapInTrial cX0_swapInTrial 4 none] ++ wsX00)
def wsX0_findBestOrder_r1 : List Cond := [Cond.fieldLink RX0 38 "Flowforge" "solved" "[Z", Cond.fieldLink RX0 45 "Flowforge" "leastCounts" "[I", Cond.fieldLink RX0 7 "Flowforge" "jobCount" "I", Cond.fieldLink RX0 32 "Flowforge" "trial" "[I", Cond.methodLink RX0 156 yX0_scheduleJob, Cond.instanceMethod yX0_scheduleJob, Cond.selects RX0 yX0_scheduleJob yX0_scheduleJob, Cond.initialized RX0, Cond.code yX0_scheduleJob cX0_scheduleJob 7 none, Cond.fieldLink RX0 13 "Flowforge" "machineCount" "I", Cond.methodLink RX0 167 Lib.Math.max.name, Cond.static Lib.Math.max.name, Cond.initialized "java/lang/Math", Cond.code Lib.Math.max.name Lib.Math.max.code 2 (some .int), Cond.fieldLink RX0 20 "Flowforge" "begins" "[I", Cond.fieldLink RX0 23 "Flowforge" "ends" "[I", Cond.methodLink RX0 170 yX0_beginWithoutWaiting, Cond.instanceMethod yX0_beginWithoutWaiting, Cond.selects RX0 yX0_beginWithoutWaiting yX0_beginWithoutWaiting, Cond.code yX0_beginWithoutWaiting cX0_beginWithoutWaiting 6 (some .int), Cond.methodLink RX0 173 yX0_freeFrom, Cond.instanceMethod yX0_freeFrom, Cond.selects RX0 yX0_freeFrom yX0_freeFrom, Cond.code yX0_freeFrom cX0_freeFrom 4 (some .int)]
def wsX0_findBestOrder_r2 : List Cond := [Cond.methodLink RX0 66 yX0_cell, Cond.static yX0_cell, Cond.code yX0_cell cX0_cell 2 (some .int), Cond.methodLink RX0 114 yX0_timeOf, Cond.instanceMethod yX0_timeOf, Cond.selects RX0 yX0_timeOf yX0_timeOf, Cond.code yX0_timeOf cX0_timeOf 3 (some .int), Cond.fieldLink RX0 16 "Flowforge" "times" "[I", Cond.methodLink RX0 160 yX0_lastEnd, Cond.instanceMethod yX0_lastEnd, Cond.selects RX0 yX0_lastEnd yX0_lastEnd, Cond.code yX0_lastEnd cX0_lastEnd 2 (some .int), Cond.methodLink RX0 176 yX0_countTrial, Cond.instanceMethod yX0_countTrial, Cond.selects RX0 yX0_countTrial yX0_countTrial, Cond.code yX0_countTrial cX0_countTrial 3 none, Cond.fieldLink RX0 42 "Flowforge" "leastMakespans" "[I", Cond.fieldLink RX0 48 "Flowforge" "bestJobs" "[I", Cond.methodLink RX0 150 arraycopyName, Cond.native arraycopyName, Cond.static arraycopyName, Cond.initialized "java/lang/System", Cond.methodLink RX0 180 yX0_stepTrial, Cond.instanceMethod yX0_stepTrial]
def wsX0_findBestOrder_r3 : List Cond := [Cond.selects RX0 yX0_stepTrial yX0_stepTrial, Cond.code yX0_stepTrial cX0_stepTrial 5 (some .int), Cond.methodLink RX0 184 yX0_swapInTrial, Cond.instanceMethod yX0_swapInTrial, Cond.selects RX0 yX0_swapInTrial yX0_swapInTrial, Cond.code yX0_swapInTrial cX0_swapInTrial 4 none]
def wsX0_findBestOrder : List Cond := .code yX0_findBestOrder cX0_findBestOrder 5 none :: ((wsX0_findBestOrder_r1 ++ (wsX0_findBestOrder_r2 ++ wsX0_findBestOrder_r3)) ++ wsX00)
def wsX0_best_r1 : List Cond := [Cond.fieldLink RX0 42 "Flowforge" "leastMakespans" "[I", Cond.methodLink RX0 108 yX0_requireVariant, Cond.static yX0_requireVariant, Cond.initialized RX0, Cond.code yX0_requireVariant cX0_requireVariant 1 none, Cond.classLink RX0 61 "java/lang/IllegalArgumentException", Cond.initialized "java/lang/IllegalArgumentException", Cond.methodLink RX0 128 yX0_findBestOrder, Cond.instanceMethod yX0_findBestOrder, Cond.selects RX0 yX0_findBestOrder yX0_findBestOrder, Cond.code yX0_findBestOrder cX0_findBestOrder 5 none, Cond.fieldLink RX0 38 "Flowforge" "solved" "[Z", Cond.fieldLink RX0 45 "Flowforge" "leastCounts" "[I", Cond.fieldLink RX0 7 "Flowforge" "jobCount" "I", Cond.fieldLink RX0 32 "Flowforge" "trial" "[I", Cond.methodLink RX0 156 yX0_scheduleJob, Cond.instanceMethod yX0_scheduleJob, Cond.selects RX0 yX0_scheduleJob yX0_scheduleJob, Cond.code yX0_scheduleJob cX0_scheduleJob 7 none, Cond.fieldLink RX0 13 "Flowforge" "machineCount" "I", Cond.methodLink RX0 167 Lib.Math.max.name, Cond.static Lib.Math.max.name, Cond.initialized "java/lang/Math", Cond.code Lib.Math.max.name Lib.Math.max.code 2 (some .int)]
def wsX0_best_r2 : List Cond := [Cond.fieldLink RX0 20 "Flowforge" "begins" "[I", Cond.fieldLink RX0 23 "Flowforge" "ends" "[I", Cond.methodLink RX0 170 yX0_beginWithoutWaiting, Cond.instanceMethod yX0_beginWithoutWaiting, Cond.selects RX0 yX0_beginWithoutWaiting yX0_beginWithoutWaiting, Cond.code yX0_beginWithoutWaiting cX0_beginWithoutWaiting 6 (some .int), Cond.methodLink RX0 173 yX0_freeFrom, Cond.instanceMethod yX0_freeFrom, Cond.selects RX0 yX0_freeFrom yX0_freeFrom, Cond.code yX0_freeFrom cX0_freeFrom 4 (some .int), Cond.methodLink RX0 66 yX0_cell, Cond.static yX0_cell, Cond.code yX0_cell cX0_cell 2 (some .int), Cond.methodLink RX0 114 yX0_timeOf, Cond.instanceMethod yX0_timeOf, Cond.selects RX0 yX0_timeOf yX0_timeOf, Cond.code yX0_timeOf cX0_timeOf 3 (some .int), Cond.fieldLink RX0 16 "Flowforge" "times" "[I", Cond.methodLink RX0 160 yX0_lastEnd, Cond.instanceMethod yX0_lastEnd, Cond.selects RX0 yX0_lastEnd yX0_lastEnd, Cond.code yX0_lastEnd cX0_lastEnd 2 (some .int), Cond.methodLink RX0 176 yX0_countTrial, Cond.instanceMethod yX0_countTrial]
def wsX0_best_r3 : List Cond := [Cond.selects RX0 yX0_countTrial yX0_countTrial, Cond.code yX0_countTrial cX0_countTrial 3 none, Cond.fieldLink RX0 48 "Flowforge" "bestJobs" "[I", Cond.methodLink RX0 150 arraycopyName, Cond.native arraycopyName, Cond.static arraycopyName, Cond.initialized "java/lang/System", Cond.methodLink RX0 180 yX0_stepTrial, Cond.instanceMethod yX0_stepTrial, Cond.selects RX0 yX0_stepTrial yX0_stepTrial, Cond.code yX0_stepTrial cX0_stepTrial 5 (some .int), Cond.methodLink RX0 184 yX0_swapInTrial, Cond.instanceMethod yX0_swapInTrial, Cond.selects RX0 yX0_swapInTrial yX0_swapInTrial, Cond.code yX0_swapInTrial cX0_swapInTrial 4 none]
def wsX0_best : List Cond := .code yX0_best cX0_best 2 (some .int) :: ((wsX0_best_r1 ++ (wsX0_best_r2 ++ wsX0_best_r3)) ++ wsX00 ++ (vx_atS RX0 65 "java/lang/IllegalArgumentException" ["java/lang/RuntimeException", "java/lang/Exception"]).filter goodWord)
def wsX0_bestAt_r1 : List Cond := [Cond.fieldLink RX0 48 "Flowforge" "bestJobs" "[I", Cond.methodLink RX0 108 yX0_requireVariant, Cond.static yX0_requireVariant, Cond.initialized RX0, Cond.code yX0_requireVariant cX0_requireVariant 1 none, Cond.classLink RX0 61 "java/lang/IllegalArgumentException", Cond.initialized "java/lang/IllegalArgumentException", Cond.methodLink RX0 79 yX0_requirePlace, Cond.instanceMethod yX0_requirePlace, Cond.selects RX0 yX0_requirePlace yX0_requirePlace, Cond.code yX0_requirePlace cX0_requirePlace 2 none, Cond.classLink RX0 131 "java/lang/IndexOutOfBoundsException", Cond.initialized "java/lang/IndexOutOfBoundsException", Cond.fieldLink RX0 7 "Flowforge" "jobCount" "I", Cond.methodLink RX0 128 yX0_findBestOrder, Cond.instanceMethod yX0_findBestOrder, Cond.selects RX0 yX0_findBestOrder yX0_findBestOrder, Cond.code yX0_findBestOrder cX0_findBestOrder 5 none, Cond.fieldLink RX0 38 "Flowforge" "solved" "[Z", Cond.fieldLink RX0 45 "Flowforge" "leastCounts" "[I", Cond.fieldLink RX0 32 "Flowforge" "trial" "[I", Cond.methodLink RX0 156 yX0_scheduleJob, Cond.instanceMethod yX0_scheduleJob, Cond.selects RX0 yX0_scheduleJob yX0_scheduleJob]
def wsX0_bestAt_r2 : List Cond := [Cond.code yX0_scheduleJob cX0_scheduleJob 7 none, Cond.fieldLink RX0 13 "Flowforge" "machineCount" "I", Cond.methodLink RX0 167 Lib.Math.max.name, Cond.static Lib.Math.max.name, Cond.initialized "java/lang/Math", Cond.code Lib.Math.max.name Lib.Math.max.code 2 (some .int), Cond.fieldLink RX0 20 "Flowforge" "begins" "[I", Cond.fieldLink RX0 23 "Flowforge" "ends" "[I", Cond.methodLink RX0 170 yX0_beginWithoutWaiting, Cond.instanceMethod yX0_beginWithoutWaiting, Cond.selects RX0 yX0_beginWithoutWaiting yX0_beginWithoutWaiting, Cond.code yX0_beginWithoutWaiting cX0_beginWithoutWaiting 6 (some .int), Cond.methodLink RX0 173 yX0_freeFrom, Cond.instanceMethod yX0_freeFrom, Cond.selects RX0 yX0_freeFrom yX0_freeFrom, Cond.code yX0_freeFrom cX0_freeFrom 4 (some .int), Cond.methodLink RX0 66 yX0_cell, Cond.static yX0_cell, Cond.code yX0_cell cX0_cell 2 (some .int), Cond.methodLink RX0 114 yX0_timeOf, Cond.instanceMethod yX0_timeOf, Cond.selects RX0 yX0_timeOf yX0_timeOf, Cond.code yX0_timeOf cX0_timeOf 3 (some .int), Cond.fieldLink RX0 16 "Flowforge" "times" "[I"]
def wsX0_bestAt_r3 : List Cond := [Cond.methodLink RX0 160 yX0_lastEnd, Cond.instanceMethod yX0_lastEnd, Cond.selects RX0 yX0_lastEnd yX0_lastEnd, Cond.code yX0_lastEnd cX0_lastEnd 2 (some .int), Cond.methodLink RX0 176 yX0_countTrial, Cond.instanceMethod yX0_countTrial, Cond.selects RX0 yX0_countTrial yX0_countTrial, Cond.code yX0_countTrial cX0_countTrial 3 none, Cond.fieldLink RX0 42 "Flowforge" "leastMakespans" "[I", Cond.methodLink RX0 150 arraycopyName, Cond.native arraycopyName, Cond.static arraycopyName, Cond.initialized "java/lang/System", Cond.methodLink RX0 180 yX0_stepTrial, Cond.instanceMethod yX0_stepTrial, Cond.selects RX0 yX0_stepTrial yX0_stepTrial, Cond.code yX0_stepTrial cX0_stepTrial 5 (some .int), Cond.methodLink RX0 184 yX0_swapInTrial, Cond.instanceMethod yX0_swapInTrial, Cond.selects RX0 yX0_swapInTrial yX0_swapInTrial, Cond.code yX0_swapInTrial cX0_swapInTrial 4 none]
def wsX0_bestAt : List Cond := .code yX0_bestAt cX0_bestAt 3 (some .int) :: ((wsX0_bestAt_r1 ++ (wsX0_bestAt_r2 ++ wsX0_bestAt_r3)) ++ wsX00 ++ (vx_atS RX0 65 "java/lang/IllegalArgumentException" ["java/lang/RuntimeException", "java/lang/Exception"]).filter goodWord ++ (vx_atS RX0 135 "java/lang/IndexOutOfBoundsException" ["java/lang/RuntimeException", "java/lang/Exception"]).filter goodWord)
def wsX0_bestOrders_r1 : List Cond := [Cond.fieldLink RX0 45 "Flowforge" "leastCounts" "[I", Cond.methodLink RX0 108 yX0_requireVariant, Cond.static yX0_requireVariant, Cond.initialized RX0, Cond.code yX0_requireVariant cX0_requireVariant 1 none, Cond.classLink RX0 61 "java/lang/IllegalArgumentException", Cond.initialized "java/lang/IllegalArgumentException", Cond.methodLink RX0 128 yX0_findBestOrder, Cond.instanceMethod yX0_findBestOrder, Cond.selects RX0 yX0_findBestOrder yX0_findBestOrder, Cond.code yX0_findBestOrder cX0_findBestOrder 5 none, Cond.fieldLink RX0 38 "Flowforge" "solved" "[Z", Cond.fieldLink RX0 7 "Flowforge" "jobCount" "I", Cond.fieldLink RX0 32 "Flowforge" "trial" "[I", Cond.methodLink RX0 156 yX0_scheduleJob, Cond.instanceMethod yX0_scheduleJob, Cond.selects RX0 yX0_scheduleJob yX0_scheduleJob, Cond.code yX0_scheduleJob cX0_scheduleJob 7 none, Cond.fieldLink RX0 13 "Flowforge" "machineCount" "I", Cond.methodLink RX0 167 Lib.Math.max.name, Cond.static Lib.Math.max.name, Cond.initialized "java/lang/Math", Cond.code Lib.Math.max.name Lib.Math.max.code 2 (some .int), Cond.fieldLink RX0 20 "Flowforge" "begins" "[I"]
def wsX0_bestOrders_r2 : List Cond := [Cond.fieldLink RX0 23 "Flowforge" "ends" "[I", Cond.methodLink RX0 170 yX0_beginWithoutWaiting, Cond.instanceMethod yX0_beginWithoutWaiting, Cond.selects RX0 yX0_beginWithoutWaiting yX0_beginWithoutWaiting, Cond.code yX0_beginWithoutWaiting cX0_beginWithoutWaiting 6 (some .int), Cond.methodLink RX0 173 yX0_freeFrom, Cond.instanceMethod yX0_freeFrom, Cond.selects RX0 yX0_freeFrom yX0_freeFrom, Cond.code yX0_freeFrom cX0_freeFrom 4 (some .int), Cond.methodLink RX0 66 yX0_cell, Cond.static yX0_cell, Cond.code yX0_cell cX0_cell 2 (some .int), Cond.methodLink RX0 114 yX0_timeOf, Cond.instanceMethod yX0_timeOf, Cond.selects RX0 yX0_timeOf yX0_timeOf, Cond.code yX0_timeOf cX0_timeOf 3 (some .int), Cond.fieldLink RX0 16 "Flowforge" "times" "[I", Cond.methodLink RX0 160 yX0_lastEnd, Cond.instanceMethod yX0_lastEnd, Cond.selects RX0 yX0_lastEnd yX0_lastEnd, Cond.code yX0_lastEnd cX0_lastEnd 2 (some .int), Cond.methodLink RX0 176 yX0_countTrial, Cond.instanceMethod yX0_countTrial, Cond.selects RX0 yX0_countTrial yX0_countTrial]
def wsX0_bestOrders_r3 : List Cond := [Cond.code yX0_countTrial cX0_countTrial 3 none, Cond.fieldLink RX0 42 "Flowforge" "leastMakespans" "[I", Cond.fieldLink RX0 48 "Flowforge" "bestJobs" "[I", Cond.methodLink RX0 150 arraycopyName, Cond.native arraycopyName, Cond.static arraycopyName, Cond.initialized "java/lang/System", Cond.methodLink RX0 180 yX0_stepTrial, Cond.instanceMethod yX0_stepTrial, Cond.selects RX0 yX0_stepTrial yX0_stepTrial, Cond.code yX0_stepTrial cX0_stepTrial 5 (some .int), Cond.methodLink RX0 184 yX0_swapInTrial, Cond.instanceMethod yX0_swapInTrial, Cond.selects RX0 yX0_swapInTrial yX0_swapInTrial, Cond.code yX0_swapInTrial cX0_swapInTrial 4 none]
def wsX0_bestOrders : List Cond := .code yX0_bestOrders cX0_bestOrders 2 (some .int) :: ((wsX0_bestOrders_r1 ++ (wsX0_bestOrders_r2 ++ wsX0_bestOrders_r3)) ++ wsX00 ++ (vx_atS RX0 65 "java/lang/IllegalArgumentException" ["java/lang/RuntimeException", "java/lang/Exception"]).filter goodWord)
def wsX0_gap_r1 : List Cond := [Cond.fieldLink RX0 42 "Flowforge" "leastMakespans" "[I", Cond.methodLink RX0 99 yX0_scheduleOrder, Cond.instanceMethod yX0_scheduleOrder, Cond.selects RX0 yX0_scheduleOrder yX0_scheduleOrder, Cond.initialized RX0, Cond.code yX0_scheduleOrder cX0_scheduleOrder 3 (some .int), Cond.fieldLink RX0 7 "Flowforge" "jobCount" "I", Cond.fieldLink RX0 29 "Flowforge" "order" "[I", Cond.methodLink RX0 156 yX0_scheduleJob, Cond.instanceMethod yX0_scheduleJob, Cond.selects RX0 yX0_scheduleJob yX0_scheduleJob, Cond.code yX0_scheduleJob cX0_scheduleJob 7 none, Cond.fieldLink RX0 13 "Flowforge" "machineCount" "I", Cond.methodLink RX0 167 Lib.Math.max.name, Cond.static Lib.Math.max.name, Cond.initialized "java/lang/Math", Cond.code Lib.Math.max.name Lib.Math.max.code 2 (some .int), Cond.fieldLink RX0 20 "Flowforge" "begins" "[I", Cond.fieldLink RX0 23 "Flowforge" "ends" "[I", Cond.methodLink RX0 170 yX0_beginWithoutWaiting, Cond.instanceMethod yX0_beginWithoutWaiting, Cond.selects RX0 yX0_beginWithoutWaiting yX0_beginWithoutWaiting, Cond.code yX0_beginWithoutWaiting cX0_beginWithoutWaiting 6 (some .int), Cond.methodLink RX0 173 yX0_freeFrom]
def wsX0_gap_r2 : List Cond := [Cond.instanceMethod yX0_freeFrom, Cond.selects RX0 yX0_freeFrom yX0_freeFrom, Cond.code yX0_freeFrom cX0_freeFrom 4 (some .int), Cond.methodLink RX0 66 yX0_cell, Cond.static yX0_cell, Cond.code yX0_cell cX0_cell 2 (some .int), Cond.methodLink RX0 114 yX0_timeOf, Cond.instanceMethod yX0_timeOf, Cond.selects RX0 yX0_timeOf yX0_timeOf, Cond.code yX0_timeOf cX0_timeOf 3 (some .int), Cond.fieldLink RX0 16 "Flowforge" "times" "[I", Cond.methodLink RX0 160 yX0_lastEnd, Cond.instanceMethod yX0_lastEnd, Cond.selects RX0 yX0_lastEnd yX0_lastEnd, Cond.code yX0_lastEnd cX0_lastEnd 2 (some .int), Cond.methodLink RX0 128 yX0_findBestOrder, Cond.instanceMethod yX0_findBestOrder, Cond.selects RX0 yX0_findBestOrder yX0_findBestOrder, Cond.code yX0_findBestOrder cX0_findBestOrder 5 none, Cond.fieldLink RX0 38 "Flowforge" "solved" "[Z", Cond.fieldLink RX0 45 "Flowforge" "leastCounts" "[I", Cond.fieldLink RX0 32 "Flowforge" "trial" "[I", Cond.methodLink RX0 176 yX0_countTrial, Cond.instanceMethod yX0_countTrial]
def wsX0_gap_r3 : List Cond := [Cond.selects RX0 yX0_countTrial yX0_countTrial, Cond.code yX0_countTrial cX0_countTrial 3 none, Cond.fieldLink RX0 48 "Flowforge" "bestJobs" "[I", Cond.methodLink RX0 150 arraycopyName, Cond.native arraycopyName, Cond.static arraycopyName, Cond.initialized "java/lang/System", Cond.methodLink RX0 180 yX0_stepTrial, Cond.instanceMethod yX0_stepTrial, Cond.selects RX0 yX0_stepTrial yX0_stepTrial, Cond.code yX0_stepTrial cX0_stepTrial 5 (some .int), Cond.methodLink RX0 184 yX0_swapInTrial, Cond.instanceMethod yX0_swapInTrial, Cond.selects RX0 yX0_swapInTrial yX0_swapInTrial, Cond.code yX0_swapInTrial cX0_swapInTrial 4 none]
def wsX0_gap : List Cond := .code yX0_gap cX0_gap 3 (some .double) :: ((wsX0_gap_r1 ++ (wsX0_gap_r2 ++ wsX0_gap_r3)) ++ wsX00)
def wsJ9_max_7cf53 : List Cond := .code yJ9_max_7cf53 cJ9_max_7cf53 2 (some .int) :: ([])
def wsJ9_min_7cf53 : List Cond := .code yJ9_min_7cf53 cJ9_min_7cf53 2 (some .int) :: ([])
def wsL_cell : List Cond := .code yL_cell cL_cell 2 (some .int) :: ([])
def wsL_low : List Cond := .code yL_low cL_low 2 (some .int) :: ([.constant RL 7 (2147483647)])
def wsL_areBest_r1 : List Cond := [Cond.methodLink RL 8 yX0_best, Cond.instanceMethod yX0_best, Cond.selects RX0 yX0_best yX0_best, Cond.initialized RX0, Cond.code yX0_best cX0_best 2 (some .int), Cond.fieldLink RX0 42 "Flowforge" "leastMakespans" "[I", Cond.methodLink RX0 108 yX0_requireVariant, Cond.static yX0_requireVariant, Cond.code yX0_requireVariant cX0_requireVariant 1 none, Cond.classLink RX0 61 "java/lang/IllegalArgumentException", Cond.initialized "java/lang/IllegalArgumentException", Cond.methodLink RX0 128 yX0_findBestOrder, Cond.instanceMethod yX0_findBestOrder, Cond.selects RX0 yX0_findBestOrder yX0_findBestOrder, Cond.code yX0_findBestOrder cX0_findBestOrder 5 none, Cond.fieldLink RX0 38 "Flowforge" "solved" "[Z", Cond.fieldLink RX0 45 "Flowforge" "leastCounts" "[I", Cond.fieldLink RX0 7 "Flowforge" "jobCount" "I", Cond.fieldLink RX0 32 "Flowforge" "trial" "[I", Cond.methodLink RX0 156 yX0_scheduleJob, Cond.instanceMethod yX0_scheduleJob, Cond.selects RX0 yX0_scheduleJob yX0_scheduleJob, Cond.code yX0_scheduleJob cX0_scheduleJob 7 none, Cond.fieldLink RX0 13 "Flowforge" "machineCount" "I"]
def wsL_areBest_r2 : List Cond := [Cond.methodLink RX0 167 Lib.Math.max.name, Cond.static Lib.Math.max.name, Cond.initialized "java/lang/Math", Cond.code Lib.Math.max.name Lib.Math.max.code 2 (some .int), Cond.fieldLink RX0 20 "Flowforge" "begins" "[I", Cond.fieldLink RX0 23 "Flowforge" "ends" "[I", Cond.methodLink RX0 170 yX0_beginWithoutWaiting, Cond.instanceMethod yX0_beginWithoutWaiting, Cond.selects RX0 yX0_beginWithoutWaiting yX0_beginWithoutWaiting, Cond.code yX0_beginWithoutWaiting cX0_beginWithoutWaiting 6 (some .int), Cond.methodLink RX0 173 yX0_freeFrom, Cond.instanceMethod yX0_freeFrom, Cond.selects RX0 yX0_freeFrom yX0_freeFrom, Cond.code yX0_freeFrom cX0_freeFrom 4 (some .int), Cond.methodLink RX0 66 yX0_cell, Cond.static yX0_cell, Cond.code yX0_cell cX0_cell 2 (some .int), Cond.methodLink RX0 114 yX0_timeOf, Cond.instanceMethod yX0_timeOf, Cond.selects RX0 yX0_timeOf yX0_timeOf, Cond.code yX0_timeOf cX0_timeOf 3 (some .int), Cond.fieldLink RX0 16 "Flowforge" "times" "[I", Cond.methodLink RX0 160 yX0_lastEnd, Cond.instanceMethod yX0_lastEnd]
def wsL_areBest_r3 : List Cond := [Cond.selects RX0 yX0_lastEnd yX0_lastEnd, Cond.code yX0_lastEnd cX0_lastEnd 2 (some .int), Cond.methodLink RX0 176 yX0_countTrial, Cond.instanceMethod yX0_countTrial, Cond.selects RX0 yX0_countTrial yX0_countTrial, Cond.code yX0_countTrial cX0_countTrial 3 none, Cond.fieldLink RX0 48 "Flowforge" "bestJobs" "[I", Cond.methodLink RX0 150 arraycopyName, Cond.native arraycopyName, Cond.static arraycopyName, Cond.initialized "java/lang/System", Cond.methodLink RX0 180 yX0_stepTrial, Cond.instanceMethod yX0_stepTrial, Cond.selects RX0 yX0_stepTrial yX0_stepTrial, Cond.code yX0_stepTrial cX0_stepTrial 5 (some .int), Cond.methodLink RX0 184 yX0_swapInTrial, Cond.instanceMethod yX0_swapInTrial, Cond.selects RX0 yX0_swapInTrial yX0_swapInTrial, Cond.code yX0_swapInTrial cX0_swapInTrial 4 none, Cond.methodLink RL 14 yX0_makespan, Cond.instanceMethod yX0_makespan, Cond.selects RX0 yX0_makespan yX0_makespan, Cond.code yX0_makespan cX0_makespan 2 (some .int), Cond.methodLink RX0 99 yX0_scheduleOrder]
def wsL_areBest_r4 : List Cond := [Cond.instanceMethod yX0_scheduleOrder, Cond.selects RX0 yX0_scheduleOrder yX0_scheduleOrder, Cond.code yX0_scheduleOrder cX0_scheduleOrder 3 (some .int), Cond.fieldLink RX0 29 "Flowforge" "order" "[I", Cond.methodLink RL 17 yX0_machines, Cond.instanceMethod yX0_machines, Cond.selects RX0 yX0_machines yX0_machines, Cond.code yX0_machines cX0_machines 1 (some .int), Cond.methodLink RL 21 yX0_machineBound, Cond.instanceMethod yX0_machineBound, Cond.selects RX0 yX0_machineBound yX0_machineBound, Cond.code yX0_machineBound cX0_machineBound 2 (some .int), Cond.methodLink RX0 74 yX0_requireMachine, Cond.instanceMethod yX0_requireMachine, Cond.selects RX0 yX0_requireMachine yX0_requireMachine, Cond.code yX0_requireMachine cX0_requireMachine 2 none, Cond.classLink RX0 131 "java/lang/IndexOutOfBoundsException", Cond.initialized "java/lang/IndexOutOfBoundsException", Cond.methodLink RX0 117 yX0_loadOf, Cond.instanceMethod yX0_loadOf, Cond.selects RX0 yX0_loadOf yX0_loadOf, Cond.code yX0_loadOf cX0_loadOf 4 (some .int), Cond.methodLink RX0 120 yX0_leastSum, Cond.instanceMethod yX0_leastSum]
def wsL_areBest_r5 : List Cond := [Cond.selects RX0 yX0_leastSum yX0_leastSum, Cond.code yX0_leastSum cX0_leastSum 5 (some .int), Cond.methodLink RX0 145 Lib.Math.min.name, Cond.static Lib.Math.min.name, Cond.code Lib.Math.min.name Lib.Math.min.code 2 (some .int), Cond.methodLink RX0 142 yX0_sumOf, Cond.instanceMethod yX0_sumOf, Cond.selects RX0 yX0_sumOf yX0_sumOf, Cond.code yX0_sumOf cX0_sumOf 6 (some .int), Cond.methodLink RL 24 yX0_pairBound, Cond.instanceMethod yX0_pairBound, Cond.selects RX0 yX0_pairBound yX0_pairBound, Cond.code yX0_pairBound cX0_pairBound 3 (some .int), Cond.methodLink RX0 125 yX0_leastOfPair, Cond.instanceMethod yX0_leastOfPair, Cond.selects RX0 yX0_leastOfPair yX0_leastOfPair, Cond.code yX0_leastOfPair cX0_leastOfPair 6 (some .int), Cond.methodLink RX0 96 yX0_fillByRule, Cond.instanceMethod yX0_fillByRule, Cond.selects RX0 yX0_fillByRule yX0_fillByRule, Cond.code yX0_fillByRule cX0_fillByRule 6 none, Cond.methodLink RX0 163 yX0_goesBefore, Cond.instanceMethod yX0_goesBefore, Cond.selects RX0 yX0_goesBefore yX0_goesBefore]
def wsL_areBest_r6 : List Cond := [Cond.code yX0_goesBefore cX0_goesBefore 7 (some .boolean)]
def wsL_areBest : List Cond := .code yL_areBest cL_areBest 8 (some .boolean) :: ((wsL_areBest_r1 ++ (wsL_areBest_r2 ++ (wsL_areBest_r3 ++ (wsL_areBest_r4 ++ (wsL_areBest_r5 ++ wsL_areBest_r6))))) ++ wsX00 ++ (vx_atS RX0 65 "java/lang/IllegalArgumentException" ["java/lang/RuntimeException", "java/lang/Exception"]).filter goodWord ++ (vx_atS RX0 135 "java/lang/IndexOutOfBoundsException" ["java/lang/RuntimeException", "java/lang/Exception"]).filter goodWord)
def wsL_isReached_r1 : List Cond := [Cond.arrayClass .int, Cond.methodLink RL 8 yX0_best, Cond.instanceMethod yX0_best, Cond.selects RX0 yX0_best yX0_best, Cond.initialized RX0, Cond.code yX0_best cX0_best 2 (some .int), Cond.fieldLink RX0 42 "Flowforge" "leastMakespans" "[I", Cond.methodLink RX0 108 yX0_requireVariant, Cond.static yX0_requireVariant, Cond.code yX0_requireVariant cX0_requireVariant 1 none, Cond.classLink RX0 61 "java/lang/IllegalArgumentException", Cond.initialized "java/lang/IllegalArgumentException", Cond.methodLink RX0 128 yX0_findBestOrder, Cond.instanceMethod yX0_findBestOrder, Cond.selects RX0 yX0_findBestOrder yX0_findBestOrder, Cond.code yX0_findBestOrder cX0_findBestOrder 5 none, Cond.fieldLink RX0 38 "Flowforge" "solved" "[Z", Cond.fieldLink RX0 45 "Flowforge" "leastCounts" "[I", Cond.fieldLink RX0 7 "Flowforge" "jobCount" "I", Cond.fieldLink RX0 32 "Flowforge" "trial" "[I", Cond.methodLink RX0 156 yX0_scheduleJob, Cond.instanceMethod yX0_scheduleJob, Cond.selects RX0 yX0_scheduleJob yX0_scheduleJob, Cond.code yX0_scheduleJob cX0_scheduleJob 7 none]
def wsL_isReached_r2 : List Cond := [Cond.fieldLink RX0 13 "Flowforge" "machineCount" "I", Cond.methodLink RX0 167 Lib.Math.max.name, Cond.static Lib.Math.max.name, Cond.initialized "java/lang/Math", Cond.code Lib.Math.max.name Lib.Math.max.code 2 (some .int), Cond.fieldLink RX0 20 "Flowforge" "begins" "[I", Cond.fieldLink RX0 23 "Flowforge" "ends" "[I", Cond.methodLink RX0 170 yX0_beginWithoutWaiting, Cond.instanceMethod yX0_beginWithoutWaiting, Cond.selects RX0 yX0_beginWithoutWaiting yX0_beginWithoutWaiting, Cond.code yX0_beginWithoutWaiting cX0_beginWithoutWaiting 6 (some .int), Cond.methodLink RX0 173 yX0_freeFrom, Cond.instanceMethod yX0_freeFrom, Cond.selects RX0 yX0_freeFrom yX0_freeFrom, Cond.code yX0_freeFrom cX0_freeFrom 4 (some .int), Cond.methodLink RX0 66 yX0_cell, Cond.static yX0_cell, Cond.code yX0_cell cX0_cell 2 (some .int), Cond.methodLink RX0 114 yX0_timeOf, Cond.instanceMethod yX0_timeOf, Cond.selects RX0 yX0_timeOf yX0_timeOf, Cond.code yX0_timeOf cX0_timeOf 3 (some .int), Cond.fieldLink RX0 16 "Flowforge" "times" "[I", Cond.methodLink RX0 160 yX0_lastEnd]
def wsL_isReached_r3 : List Cond := [Cond.instanceMethod yX0_lastEnd, Cond.selects RX0 yX0_lastEnd yX0_lastEnd, Cond.code yX0_lastEnd cX0_lastEnd 2 (some .int), Cond.methodLink RX0 176 yX0_countTrial, Cond.instanceMethod yX0_countTrial, Cond.selects RX0 yX0_countTrial yX0_countTrial, Cond.code yX0_countTrial cX0_countTrial 3 none, Cond.fieldLink RX0 48 "Flowforge" "bestJobs" "[I", Cond.methodLink RX0 150 arraycopyName, Cond.native arraycopyName, Cond.static arraycopyName, Cond.initialized "java/lang/System", Cond.methodLink RX0 180 yX0_stepTrial, Cond.instanceMethod yX0_stepTrial, Cond.selects RX0 yX0_stepTrial yX0_stepTrial, Cond.code yX0_stepTrial cX0_stepTrial 5 (some .int), Cond.methodLink RX0 184 yX0_swapInTrial, Cond.instanceMethod yX0_swapInTrial, Cond.selects RX0 yX0_swapInTrial yX0_swapInTrial, Cond.code yX0_swapInTrial cX0_swapInTrial 4 none, Cond.methodLink RL 28 yX0_jobs, Cond.instanceMethod yX0_jobs, Cond.selects RX0 yX0_jobs yX0_jobs, Cond.code yX0_jobs cX0_jobs 1 (some .int)]
def wsL_isReached_r4 : List Cond := [Cond.methodLink RL 31 yX0_bestAt, Cond.instanceMethod yX0_bestAt, Cond.selects RX0 yX0_bestAt yX0_bestAt, Cond.code yX0_bestAt cX0_bestAt 3 (some .int), Cond.methodLink RX0 79 yX0_requirePlace, Cond.instanceMethod yX0_requirePlace, Cond.selects RX0 yX0_requirePlace yX0_requirePlace, Cond.code yX0_requirePlace cX0_requirePlace 2 none, Cond.classLink RX0 131 "java/lang/IndexOutOfBoundsException", Cond.initialized "java/lang/IndexOutOfBoundsException", Cond.methodLink RL 34 yX0_move, Cond.instanceMethod yX0_move, Cond.selects RX0 yX0_move yX0_move, Cond.code yX0_move cX0_move 4 (some .int), Cond.fieldLink RX0 29 "Flowforge" "order" "[I", Cond.methodLink RX0 70 yX0_requireJob, Cond.instanceMethod yX0_requireJob, Cond.selects RX0 yX0_requireJob yX0_requireJob, Cond.code yX0_requireJob cX0_requireJob 2 none, Cond.methodLink RX0 82 yX0_placeOf, Cond.instanceMethod yX0_placeOf, Cond.selects RX0 yX0_placeOf yX0_placeOf, Cond.code yX0_placeOf cX0_placeOf 3 (some .int), Cond.methodLink RX0 86 yX0_shift]
def wsL_isReached_r5 : List Cond := [Cond.static yX0_shift, Cond.code yX0_shift cX0_shift 5 none, Cond.methodLink RL 14 yX0_makespan, Cond.instanceMethod yX0_makespan, Cond.selects RX0 yX0_makespan yX0_makespan, Cond.code yX0_makespan cX0_makespan 2 (some .int), Cond.methodLink RX0 99 yX0_scheduleOrder, Cond.instanceMethod yX0_scheduleOrder, Cond.selects RX0 yX0_scheduleOrder yX0_scheduleOrder, Cond.code yX0_scheduleOrder cX0_scheduleOrder 3 (some .int), Cond.methodLink RL 37 yX0_bestOrders, Cond.instanceMethod yX0_bestOrders, Cond.selects RX0 yX0_bestOrders yX0_bestOrders, Cond.code yX0_bestOrders cX0_bestOrders 2 (some .int), Cond.methodLink RL 40 yX0_gap, Cond.instanceMethod yX0_gap, Cond.selects RX0 yX0_gap yX0_gap, Cond.code yX0_gap cX0_gap 3 (some .double), Cond.methodLink RL 44 yX0_improve, Cond.instanceMethod yX0_improve, Cond.selects RX0 yX0_improve yX0_improve, Cond.code yX0_improve cX0_improve 8 (some .int), Cond.methodLink RX0 90 yX0_makespanIfShifted, Cond.instanceMethod yX0_makespanIfShifted]
def wsL_isReached_r6 : List Cond := [Cond.selects RX0 yX0_makespanIfShifted yX0_makespanIfShifted, Cond.code yX0_makespanIfShifted cX0_makespanIfShifted 5 (some .int)]
def wsL_isReached : List Cond := .code yL_isReached cL_isReached 6 (some .boolean) :: ((wsL_isReached_r1 ++ (wsL_isReached_r2 ++ (wsL_isReached_r3 ++ (wsL_isReached_r4 ++ (wsL_isReached_r5 ++ wsL_isReached_r6))))) ++ wsX00 ++ (vx_atS RX0 65 "java/lang/IllegalArgumentException" ["java/lang/RuntimeException", "java/lang/Exception"]).filter goodWord ++ (vx_atS RX0 135 "java/lang/IndexOutOfBoundsException" ["java/lang/RuntimeException", "java/lang/Exception"]).filter goodWord)
def wsL_isImproved_r1 : List Cond := [Cond.methodLink RL 8 yX0_best, Cond.instanceMethod yX0_best, Cond.selects RX0 yX0_best yX0_best, Cond.initialized RX0, Cond.code yX0_best cX0_best 2 (some .int), Cond.fieldLink RX0 42 "Flowforge" "leastMakespans" "[I", Cond.methodLink RX0 108 yX0_requireVariant, Cond.static yX0_requireVariant, Cond.code yX0_requireVariant cX0_requireVariant 1 none, Cond.classLink RX0 61 "java/lang/IllegalArgumentException", Cond.initialized "java/lang/IllegalArgumentException", Cond.methodLink RX0 128 yX0_findBestOrder, Cond.instanceMethod yX0_findBestOrder, Cond.selects RX0 yX0_findBestOrder yX0_findBestOrder, Cond.code yX0_findBestOrder cX0_findBestOrder 5 none, Cond.fieldLink RX0 38 "Flowforge" "solved" "[Z", Cond.fieldLink RX0 45 "Flowforge" "leastCounts" "[I", Cond.fieldLink RX0 7 "Flowforge" "jobCount" "I", Cond.fieldLink RX0 32 "Flowforge" "trial" "[I", Cond.methodLink RX0 156 yX0_scheduleJob, Cond.instanceMethod yX0_scheduleJob, Cond.selects RX0 yX0_scheduleJob yX0_scheduleJob, Cond.code yX0_scheduleJob cX0_scheduleJob 7 none, Cond.fieldLink RX0 13 "Flowforge" "machineCount" "I"]
def wsL_isImproved_r2 : List Cond := [Cond.methodLink RX0 167 Lib.Math.max.name, Cond.static Lib.Math.max.name, Cond.initialized "java/lang/Math", Cond.code Lib.Math.max.name Lib.Math.max.code 2 (some .int), Cond.fieldLink RX0 20 "Flowforge" "begins" "[I", Cond.fieldLink RX0 23 "Flowforge" "ends" "[I", Cond.methodLink RX0 170 yX0_beginWithoutWaiting, Cond.instanceMethod yX0_beginWithoutWaiting, Cond.selects RX0 yX0_beginWithoutWaiting yX0_beginWithoutWaiting, Cond.code yX0_beginWithoutWaiting cX0_beginWithoutWaiting 6 (some .int), Cond.methodLink RX0 173 yX0_freeFrom, Cond.instanceMethod yX0_freeFrom, Cond.selects RX0 yX0_freeFrom yX0_freeFrom, Cond.code yX0_freeFrom cX0_freeFrom 4 (some .int), Cond.methodLink RX0 66 yX0_cell, Cond.static yX0_cell, Cond.code yX0_cell cX0_cell 2 (some .int), Cond.methodLink RX0 114 yX0_timeOf, Cond.instanceMethod yX0_timeOf, Cond.selects RX0 yX0_timeOf yX0_timeOf, Cond.code yX0_timeOf cX0_timeOf 3 (some .int), Cond.fieldLink RX0 16 "Flowforge" "times" "[I", Cond.methodLink RX0 160 yX0_lastEnd, Cond.instanceMethod yX0_lastEnd]
def wsL_isImproved_r3 : List Cond := [Cond.selects RX0 yX0_lastEnd yX0_lastEnd, Cond.code yX0_lastEnd cX0_lastEnd 2 (some .int), Cond.methodLink RX0 176 yX0_countTrial, Cond.instanceMethod yX0_countTrial, Cond.selects RX0 yX0_countTrial yX0_countTrial, Cond.code yX0_countTrial cX0_countTrial 3 none, Cond.fieldLink RX0 48 "Flowforge" "bestJobs" "[I", Cond.methodLink RX0 150 arraycopyName, Cond.native arraycopyName, Cond.static arraycopyName, Cond.initialized "java/lang/System", Cond.methodLink RX0 180 yX0_stepTrial, Cond.instanceMethod yX0_stepTrial, Cond.selects RX0 yX0_stepTrial yX0_stepTrial, Cond.code yX0_stepTrial cX0_stepTrial 5 (some .int), Cond.methodLink RX0 184 yX0_swapInTrial, Cond.instanceMethod yX0_swapInTrial, Cond.selects RX0 yX0_swapInTrial yX0_swapInTrial, Cond.code yX0_swapInTrial cX0_swapInTrial 4 none, Cond.methodLink RL 14 yX0_makespan, Cond.instanceMethod yX0_makespan, Cond.selects RX0 yX0_makespan yX0_makespan, Cond.code yX0_makespan cX0_makespan 2 (some .int), Cond.methodLink RX0 99 yX0_scheduleOrder]
def wsL_isImproved_r4 : List Cond := [Cond.instanceMethod yX0_scheduleOrder, Cond.selects RX0 yX0_scheduleOrder yX0_scheduleOrder, Cond.code yX0_scheduleOrder cX0_scheduleOrder 3 (some .int), Cond.fieldLink RX0 29 "Flowforge" "order" "[I", Cond.methodLink RL 44 yX0_improve, Cond.instanceMethod yX0_improve, Cond.selects RX0 yX0_improve yX0_improve, Cond.code yX0_improve cX0_improve 8 (some .int), Cond.methodLink RX0 90 yX0_makespanIfShifted, Cond.instanceMethod yX0_makespanIfShifted, Cond.selects RX0 yX0_makespanIfShifted yX0_makespanIfShifted, Cond.code yX0_makespanIfShifted cX0_makespanIfShifted 5 (some .int), Cond.methodLink RX0 86 yX0_shift, Cond.static yX0_shift, Cond.code yX0_shift cX0_shift 5 none, Cond.methodLink RL 47 yX0_orderByInsertion, Cond.instanceMethod yX0_orderByInsertion, Cond.selects RX0 yX0_orderByInsertion yX0_orderByInsertion, Cond.code yX0_orderByInsertion cX0_orderByInsertion 2 (some .int), Cond.fieldLink RX0 35 "Flowforge" "queue" "[I", Cond.methodLink RX0 102 yX0_fillQueueBySum, Cond.instanceMethod yX0_fillQueueBySum, Cond.selects RX0 yX0_fillQueueBySum yX0_fillQueueBySum, Cond.code yX0_fillQueueBySum cX0_fillQueueBySum 4 none]
def wsL_isImproved_r5 : List Cond := [Cond.methodLink RX0 142 yX0_sumOf, Cond.instanceMethod yX0_sumOf, Cond.selects RX0 yX0_sumOf yX0_sumOf, Cond.code yX0_sumOf cX0_sumOf 6 (some .int), Cond.methodLink RX0 105 yX0_placeForLast, Cond.instanceMethod yX0_placeForLast, Cond.selects RX0 yX0_placeForLast yX0_placeForLast, Cond.code yX0_placeForLast cX0_placeForLast 6 (some .int), Cond.methodLink RL 17 yX0_machines, Cond.instanceMethod yX0_machines, Cond.selects RX0 yX0_machines yX0_machines, Cond.code yX0_machines cX0_machines 1 (some .int), Cond.methodLink RL 50 yX0_orderByRule, Cond.instanceMethod yX0_orderByRule, Cond.selects RX0 yX0_orderByRule yX0_orderByRule, Cond.code yX0_orderByRule cX0_orderByRule 1 (some .int), Cond.classLink RX0 51 "java/lang/IllegalStateException", Cond.initialized "java/lang/IllegalStateException", Cond.methodLink RX0 96 yX0_fillByRule, Cond.instanceMethod yX0_fillByRule, Cond.selects RX0 yX0_fillByRule yX0_fillByRule, Cond.code yX0_fillByRule cX0_fillByRule 6 none, Cond.methodLink RX0 163 yX0_goesBefore, Cond.instanceMethod yX0_goesBefore]
def wsL_isImproved_r6 : List Cond := [Cond.selects RX0 yX0_goesBefore yX0_goesBefore, Cond.code yX0_goesBefore cX0_goesBefore 7 (some .boolean), Cond.methodLink RL 40 yX0_gap, Cond.instanceMethod yX0_gap, Cond.selects RX0 yX0_gap yX0_gap, Cond.code yX0_gap cX0_gap 3 (some .double)]
def wsL_isImproved : List Cond := .code yL_isImproved cL_isImproved 8 (some .boolean) :: ((wsL_isImproved_r1 ++ (wsL_isImproved_r2 ++ (wsL_isImproved_r3 ++ (wsL_isImproved_r4 ++ (wsL_isImproved_r5 ++ wsL_isImproved_r6))))) ++ wsX00 ++ (vx_atS RX0 65 "java/lang/IllegalArgumentException" ["java/lang/RuntimeException", "java/lang/Exception"]).filter goodWord ++ (vx_atS RX0 55 "java/lang/IllegalStateException" ["java/lang/RuntimeException", "java/lang/Exception"]).filter goodWord)
def wsL_law0_r1 : List Cond := [Cond.classLink RL 9 RX0, Cond.instantiable RX0 13, Cond.initialized RX0, Cond.methodLink RL 53 yX0_init, Cond.instanceMethod yX0_init, Cond.code yX0_init cX0_init 1 none, Cond.methodLink RX0 1 objectInit, Cond.instanceMethod objectInit, Cond.code objectInit ⟨#[0xb1]⟩ 1 none, Cond.fieldLink RX0 7 "Flowforge" "jobCount" "I", Cond.fieldLink RX0 13 "Flowforge" "machineCount" "I", Cond.arrayClass .int, Cond.fieldLink RX0 16 "Flowforge" "times" "[I", Cond.fieldLink RX0 20 "Flowforge" "begins" "[I", Cond.fieldLink RX0 23 "Flowforge" "ends" "[I", Cond.fieldLink RX0 26 "Flowforge" "tails" "[I", Cond.fieldLink RX0 29 "Flowforge" "order" "[I", Cond.fieldLink RX0 32 "Flowforge" "trial" "[I", Cond.fieldLink RX0 35 "Flowforge" "queue" "[I", Cond.arrayClass .boolean, Cond.fieldLink RX0 38 "Flowforge" "solved" "[Z", Cond.fieldLink RX0 42 "Flowforge" "leastMakespans" "[I", Cond.fieldLink RX0 45 "Flowforge" "leastCounts" "[I", Cond.fieldLink RX0 48 "Flowforge" "bestJobs" "[I"]
def wsL_law0_r2 : List Cond := [Cond.methodLink RL 54 yL_cell, Cond.static yL_cell, Cond.initialized RL, Cond.code yL_cell cL_cell 2 (some .int), Cond.methodLink RL 60 yL_low, Cond.static yL_low, Cond.code yL_low cL_low 2 (some .int), Cond.constant RL 7 (2147483647), Cond.methodLink RL 63 yX0_setMachines, Cond.instanceMethod yX0_setMachines, Cond.selects RX0 yX0_setMachines yX0_setMachines, Cond.code yX0_setMachines cX0_setMachines 5 (some .int), Cond.classLink RX0 61 "java/lang/IllegalArgumentException", Cond.initialized "java/lang/IllegalArgumentException", Cond.methodLink RX0 66 yX0_cell, Cond.static yX0_cell, Cond.code yX0_cell cX0_cell 2 (some .int), Cond.methodLink RX0 58 yX0_forgetBestOrders, Cond.instanceMethod yX0_forgetBestOrders, Cond.selects RX0 yX0_forgetBestOrders yX0_forgetBestOrders, Cond.code yX0_forgetBestOrders cX0_forgetBestOrders 2 none, Cond.methodLink RL 28 yX0_jobs, Cond.instanceMethod yX0_jobs, Cond.selects RX0 yX0_jobs yX0_jobs]
def wsL_law0_r3 : List Cond := [Cond.code yX0_jobs cX0_jobs 1 (some .int), Cond.methodLink RL 66 yX0_addJob, Cond.instanceMethod yX0_addJob, Cond.selects RX0 yX0_addJob yX0_addJob, Cond.code yX0_addJob cX0_addJob 2 (some .int), Cond.classLink RX0 51 "java/lang/IllegalStateException", Cond.initialized "java/lang/IllegalStateException", Cond.methodLink RL 69 yX0_setTime, Cond.instanceMethod yX0_setTime, Cond.selects RX0 yX0_setTime yX0_setTime, Cond.code yX0_setTime cX0_setTime 5 (some .int), Cond.methodLink RX0 70 yX0_requireJob, Cond.instanceMethod yX0_requireJob, Cond.selects RX0 yX0_requireJob yX0_requireJob, Cond.code yX0_requireJob cX0_requireJob 2 none, Cond.classLink RX0 131 "java/lang/IndexOutOfBoundsException", Cond.initialized "java/lang/IndexOutOfBoundsException", Cond.methodLink RX0 74 yX0_requireMachine, Cond.instanceMethod yX0_requireMachine, Cond.selects RX0 yX0_requireMachine yX0_requireMachine, Cond.code yX0_requireMachine cX0_requireMachine 2 none, Cond.methodLink RL 73 yL_areBest, Cond.static yL_areBest, Cond.code yL_areBest cL_areBest 8 (some .boolean)]
def wsL_law0_r4 : List Cond := [Cond.methodLink RL 8 yX0_best, Cond.instanceMethod yX0_best, Cond.selects RX0 yX0_best yX0_best, Cond.code yX0_best cX0_best 2 (some .int), Cond.methodLink RX0 108 yX0_requireVariant, Cond.static yX0_requireVariant, Cond.code yX0_requireVariant cX0_requireVariant 1 none, Cond.methodLink RX0 128 yX0_findBestOrder, Cond.instanceMethod yX0_findBestOrder, Cond.selects RX0 yX0_findBestOrder yX0_findBestOrder, Cond.code yX0_findBestOrder cX0_findBestOrder 5 none, Cond.methodLink RX0 156 yX0_scheduleJob, Cond.instanceMethod yX0_scheduleJob, Cond.selects RX0 yX0_scheduleJob yX0_scheduleJob, Cond.code yX0_scheduleJob cX0_scheduleJob 7 none, Cond.methodLink RX0 167 Lib.Math.max.name, Cond.static Lib.Math.max.name, Cond.initialized "java/lang/Math", Cond.code Lib.Math.max.name Lib.Math.max.code 2 (some .int), Cond.methodLink RX0 170 yX0_beginWithoutWaiting, Cond.instanceMethod yX0_beginWithoutWaiting, Cond.selects RX0 yX0_beginWithoutWaiting yX0_beginWithoutWaiting, Cond.code yX0_beginWithoutWaiting cX0_beginWithoutWaiting 6 (some .int), Cond.methodLink RX0 173 yX0_freeFrom]
def wsL_law0_r5 : List Cond := [Cond.instanceMethod yX0_freeFrom, Cond.selects RX0 yX0_freeFrom yX0_freeFrom, Cond.code yX0_freeFrom cX0_freeFrom 4 (some .int), Cond.methodLink RX0 114 yX0_timeOf, Cond.instanceMethod yX0_timeOf, Cond.selects RX0 yX0_timeOf yX0_timeOf, Cond.code yX0_timeOf cX0_timeOf 3 (some .int), Cond.methodLink RX0 160 yX0_lastEnd, Cond.instanceMethod yX0_lastEnd, Cond.selects RX0 yX0_lastEnd yX0_lastEnd, Cond.code yX0_lastEnd cX0_lastEnd 2 (some .int), Cond.methodLink RX0 176 yX0_countTrial, Cond.instanceMethod yX0_countTrial, Cond.selects RX0 yX0_countTrial yX0_countTrial, Cond.code yX0_countTrial cX0_countTrial 3 none, Cond.methodLink RX0 150 arraycopyName, Cond.native arraycopyName, Cond.static arraycopyName, Cond.initialized "java/lang/System", Cond.methodLink RX0 180 yX0_stepTrial, Cond.instanceMethod yX0_stepTrial, Cond.selects RX0 yX0_stepTrial yX0_stepTrial, Cond.code yX0_stepTrial cX0_stepTrial 5 (some .int), Cond.methodLink RX0 184 yX0_swapInTrial]
def wsL_law0_r6 : List Cond := [Cond.instanceMethod yX0_swapInTrial, Cond.selects RX0 yX0_swapInTrial yX0_swapInTrial, Cond.code yX0_swapInTrial cX0_swapInTrial 4 none, Cond.methodLink RL 14 yX0_makespan, Cond.instanceMethod yX0_makespan, Cond.selects RX0 yX0_makespan yX0_makespan, Cond.code yX0_makespan cX0_makespan 2 (some .int), Cond.methodLink RX0 99 yX0_scheduleOrder, Cond.instanceMethod yX0_scheduleOrder, Cond.selects RX0 yX0_scheduleOrder yX0_scheduleOrder, Cond.code yX0_scheduleOrder cX0_scheduleOrder 3 (some .int), Cond.methodLink RL 17 yX0_machines, Cond.instanceMethod yX0_machines, Cond.selects RX0 yX0_machines yX0_machines, Cond.code yX0_machines cX0_machines 1 (some .int), Cond.methodLink RL 21 yX0_machineBound, Cond.instanceMethod yX0_machineBound, Cond.selects RX0 yX0_machineBound yX0_machineBound, Cond.code yX0_machineBound cX0_machineBound 2 (some .int), Cond.methodLink RX0 117 yX0_loadOf, Cond.instanceMethod yX0_loadOf, Cond.selects RX0 yX0_loadOf yX0_loadOf, Cond.code yX0_loadOf cX0_loadOf 4 (some .int), Cond.methodLink RX0 120 yX0_leastSum]
def wsL_law0_r7 : List Cond := [Cond.instanceMethod yX0_leastSum, Cond.selects RX0 yX0_leastSum yX0_leastSum, Cond.code yX0_leastSum cX0_leastSum 5 (some .int), Cond.methodLink RX0 145 Lib.Math.min.name, Cond.static Lib.Math.min.name, Cond.code Lib.Math.min.name Lib.Math.min.code 2 (some .int), Cond.methodLink RX0 142 yX0_sumOf, Cond.instanceMethod yX0_sumOf, Cond.selects RX0 yX0_sumOf yX0_sumOf, Cond.code yX0_sumOf cX0_sumOf 6 (some .int), Cond.methodLink RL 24 yX0_pairBound, Cond.instanceMethod yX0_pairBound, Cond.selects RX0 yX0_pairBound yX0_pairBound, Cond.code yX0_pairBound cX0_pairBound 3 (some .int), Cond.methodLink RX0 125 yX0_leastOfPair, Cond.instanceMethod yX0_leastOfPair, Cond.selects RX0 yX0_leastOfPair yX0_leastOfPair, Cond.code yX0_leastOfPair cX0_leastOfPair 6 (some .int), Cond.methodLink RX0 96 yX0_fillByRule, Cond.instanceMethod yX0_fillByRule, Cond.selects RX0 yX0_fillByRule yX0_fillByRule, Cond.code yX0_fillByRule cX0_fillByRule 6 none, Cond.methodLink RX0 163 yX0_goesBefore, Cond.instanceMethod yX0_goesBefore]
def wsL_law0_r8 : List Cond := [Cond.selects RX0 yX0_goesBefore yX0_goesBefore, Cond.code yX0_goesBefore cX0_goesBefore 7 (some .boolean), Cond.methodLink RL 77 yL_isImproved, Cond.static yL_isImproved, Cond.code yL_isImproved cL_isImproved 8 (some .boolean), Cond.methodLink RL 44 yX0_improve, Cond.instanceMethod yX0_improve, Cond.selects RX0 yX0_improve yX0_improve, Cond.code yX0_improve cX0_improve 8 (some .int), Cond.methodLink RX0 90 yX0_makespanIfShifted, Cond.instanceMethod yX0_makespanIfShifted, Cond.selects RX0 yX0_makespanIfShifted yX0_makespanIfShifted, Cond.code yX0_makespanIfShifted cX0_makespanIfShifted 5 (some .int), Cond.methodLink RX0 86 yX0_shift, Cond.static yX0_shift, Cond.code yX0_shift cX0_shift 5 none, Cond.methodLink RL 47 yX0_orderByInsertion, Cond.instanceMethod yX0_orderByInsertion, Cond.selects RX0 yX0_orderByInsertion yX0_orderByInsertion, Cond.code yX0_orderByInsertion cX0_orderByInsertion 2 (some .int), Cond.methodLink RX0 102 yX0_fillQueueBySum, Cond.instanceMethod yX0_fillQueueBySum, Cond.selects RX0 yX0_fillQueueBySum yX0_fillQueueBySum, Cond.code yX0_fillQueueBySum cX0_fillQueueBySum 4 none]
def wsL_law0_r9 : List Cond := [Cond.methodLink RX0 105 yX0_placeForLast, Cond.instanceMethod yX0_placeForLast, Cond.selects RX0 yX0_placeForLast yX0_placeForLast, Cond.code yX0_placeForLast cX0_placeForLast 6 (some .int), Cond.methodLink RL 50 yX0_orderByRule, Cond.instanceMethod yX0_orderByRule, Cond.selects RX0 yX0_orderByRule yX0_orderByRule, Cond.code yX0_orderByRule cX0_orderByRule 1 (some .int), Cond.methodLink RL 40 yX0_gap, Cond.instanceMethod yX0_gap, Cond.selects RX0 yX0_gap yX0_gap, Cond.code yX0_gap cX0_gap 3 (some .double), Cond.methodLink RL 80 yL_isReached, Cond.static yL_isReached, Cond.code yL_isReached cL_isReached 6 (some .boolean), Cond.methodLink RL 31 yX0_bestAt, Cond.instanceMethod yX0_bestAt, Cond.selects RX0 yX0_bestAt yX0_bestAt, Cond.code yX0_bestAt cX0_bestAt 3 (some .int), Cond.methodLink RX0 79 yX0_requirePlace, Cond.instanceMethod yX0_requirePlace, Cond.selects RX0 yX0_requirePlace yX0_requirePlace, Cond.code yX0_requirePlace cX0_requirePlace 2 none, Cond.methodLink RL 34 yX0_move]
def wsL_law0_r10 : List Cond := [Cond.instanceMethod yX0_move, Cond.selects RX0 yX0_move yX0_move, Cond.code yX0_move cX0_move 4 (some .int), Cond.methodLink RX0 82 yX0_placeOf, Cond.instanceMethod yX0_placeOf, Cond.selects RX0 yX0_placeOf yX0_placeOf, Cond.code yX0_placeOf cX0_placeOf 3 (some .int), Cond.methodLink RL 37 yX0_bestOrders, Cond.instanceMethod yX0_bestOrders, Cond.selects RX0 yX0_bestOrders yX0_bestOrders, Cond.code yX0_bestOrders cX0_bestOrders 2 (some .int)]
def wsL_law0 : List Cond := (wsL_law0_r1 ++ (wsL_law0_r2 ++ (wsL_law0_r3 ++ (wsL_law0_r4 ++ (wsL_law0_r5 ++ (wsL_law0_r6 ++ (wsL_law0_r7 ++ (wsL_law0_r8 ++ (wsL_law0_r9 ++ wsL_law0_r10))))))))) ++ wsX00 ++ ([] : List Cond)
def wsL_law : List Cond := wsL_law0 ++ (vx_atS RX0 65 "java/lang/IllegalArgumentException" ["java/lang/RuntimeException", "java/lang/Exception"]).filter goodWord ++ (vx_atS RX0 55 "java/lang/IllegalStateException" ["java/lang/RuntimeException", "java/lang/Exception"]).filter goodWord ++ (vx_atS RX0 135 "java/lang/IndexOutOfBoundsException" ["java/lang/RuntimeException", "java/lang/Exception"]).filter goodWord
theorem wsL_mem {big : List Cond} (ws : List Cond) (ps : List Nat) (hp : ws = ps.filterMap (fun i => big[i]?)) : ∀ w ∈ ws, w ∈ big := by
  intro w hw
  rw [hp] at hw
  obtain ⟨i, -, hi⟩ := List.mem_filterMap.mp hw
  exact List.mem_of_getElem? hi
set_option maxRecDepth 20000 in
theorem wsL_in_r1 : ∀ w ∈ wsL_law0_r1, w ∈ lw_tbl := wsL_mem wsL_law0_r1 [35, 36, 26, 37, 38, 39, 40, 41, 42, 43, 44, 83, 45, 46, 47, 48, 49, 50, 51, 84, 52, 53, 54, 55] (by decide +kernel)
set_option maxRecDepth 20000 in
theorem wsL_in_r2 : ∀ w ∈ wsL_law0_r2, w ∈ lw_tbl := wsL_mem wsL_law0_r2 [218, 219, 25, 220, 221, 222, 223, 224, 161, 162, 163, 164, 165, 30, 181, 182, 183, 157, 159, 1, 160, 214, 215, 216] (by decide +kernel)
set_option maxRecDepth 20000 in
theorem wsL_in_r3 : ∀ w ∈ wsL_law0_r3, w ∈ lw_tbl := wsL_mem wsL_law0_r3 [217, 85, 86, 87, 88, 89, 31, 184, 185, 186, 187, 188, 190, 2, 191, 192, 32, 208, 210, 3, 211, 225, 226, 227] (by decide +kernel)
set_option maxRecDepth 20000 in
theorem wsL_in_r4 : ∀ w ∈ wsL_law0_r4, w ∈ lw_tbl := wsL_mem wsL_law0_r4 [228, 229, 230, 231, 232, 233, 234, 236, 238, 4, 239, 240, 242, 5, 243, 252, 253, 33, 254, 244, 246, 6, 247, 248] (by decide +kernel)
set_option maxRecDepth 20000 in
theorem wsL_in_r5 : ∀ w ∈ wsL_law0_r5, w ∈ lw_tbl := wsL_mem wsL_law0_r5 [250, 7, 251, 255, 257, 8, 258, 259, 261, 9, 262, 263, 265, 10, 266, 267, 269, 268, 34, 270, 272, 11, 273, 274] (by decide +kernel)
set_option maxRecDepth 20000 in
theorem wsL_in_r6 : ∀ w ∈ wsL_law0_r6, w ∈ lw_tbl := wsL_mem wsL_law0_r6 [276, 12, 277, 278, 279, 280, 281, 282, 284, 13, 285, 286, 287, 288, 289, 290, 291, 292, 293, 294, 296, 14, 297, 298] (by decide +kernel)
set_option maxRecDepth 20000 in
theorem wsL_in_r7 : ∀ w ∈ wsL_law0_r7, w ∈ lw_tbl := wsL_mem wsL_law0_r7 [300, 15, 301, 306, 307, 308, 302, 304, 16, 305, 309, 310, 311, 312, 314, 316, 17, 317, 318, 320, 18, 321, 322, 324] (by decide +kernel)
set_option maxRecDepth 20000 in
theorem wsL_in_r8 : ∀ w ∈ wsL_law0_r8, w ∈ lw_tbl := wsL_mem wsL_law0_r8 [19, 325, 365, 366, 367, 357, 358, 359, 360, 361, 363, 22, 364, 346, 347, 348, 368, 369, 370, 371, 372, 374, 23, 375] (by decide +kernel)
set_option maxRecDepth 20000 in
theorem wsL_in_r9 : ∀ w ∈ wsL_law0_r9, w ∈ lw_tbl := wsL_mem wsL_law0_r9 [376, 378, 24, 379, 380, 381, 382, 383, 353, 354, 355, 356, 326, 327, 328, 329, 330, 331, 332, 333, 335, 20, 336, 338] (by decide +kernel)
set_option maxRecDepth 20000 in
theorem wsL_in_r10 : ∀ w ∈ wsL_law0_r10, w ∈ lw_tbl := wsL_mem wsL_law0_r10 [339, 340, 341, 342, 344, 21, 345, 349, 350, 351, 352] (by decide +kernel)
theorem wsL_x00 : ∀ w ∈ wsX00, w ∈ lw_tbl := by decide +kernel
theorem wsL_law_in0 : ∀ w ∈ wsL_law0, w ∈ lw_tbl := List.forall_mem_append.mpr ⟨List.forall_mem_append.mpr ⟨List.forall_mem_append.mpr ⟨wsL_in_r1, List.forall_mem_append.mpr ⟨wsL_in_r2, List.forall_mem_append.mpr ⟨wsL_in_r3, List.forall_mem_append.mpr ⟨wsL_in_r4, List.forall_mem_append.mpr ⟨wsL_in_r5, List.forall_mem_append.mpr ⟨wsL_in_r6, List.forall_mem_append.mpr ⟨wsL_in_r7, List.forall_mem_append.mpr ⟨wsL_in_r8, List.forall_mem_append.mpr ⟨wsL_in_r9, wsL_in_r10⟩⟩⟩⟩⟩⟩⟩⟩⟩, wsL_x00⟩, fun _ h => absurd h List.not_mem_nil⟩
theorem wsL_law_x0 : ∀ w ∈ (vx_atS RX0 65 "java/lang/IllegalArgumentException" ["java/lang/RuntimeException", "java/lang/Exception"]).filter goodWord, w ∈ lw_tbl := by decide +kernel
theorem wsL_law_x1 : ∀ w ∈ (vx_atS RX0 55 "java/lang/IllegalStateException" ["java/lang/RuntimeException", "java/lang/Exception"]).filter goodWord, w ∈ lw_tbl := by decide +kernel
theorem wsL_law_x2 : ∀ w ∈ (vx_atS RX0 135 "java/lang/IndexOutOfBoundsException" ["java/lang/RuntimeException", "java/lang/Exception"]).filter goodWord, w ∈ lw_tbl := by decide +kernel
theorem wsL_law_in : ∀ w ∈ wsL_law, w ∈ lw_tbl := fun w h => (List.mem_append.mp h).elim (fun h => (List.mem_append.mp h).elim (fun h => (List.mem_append.mp h).elim (fun h => wsL_law_in0 w h) (fun h => wsL_law_x0 w h)) (fun h => wsL_law_x1 w h)) (fun h => wsL_law_x2 w h)
theorem inlX0 : ∀ w ∈ wsX00, w ∈ wsL_law := fun _ h => List.mem_append_left _ (List.mem_append_left _ (List.mem_append_left _ (List.mem_append_left _ (List.mem_append_right _ h))))
theorem inX0 : ∀ w ∈ wsX00, w ∈ lw_tbl := fun w h => wsL_law_in w (inlX0 w h)
theorem inX1 : ∀ w ∈ wsX10, w ∈ lw_tbl := by decide +kernel
theorem inJ9 : ∀ w ∈ wsJ90, w ∈ lw_tbl := by decide +kernel
theorem inJ0 : ∀ w ∈ wsJ00, w ∈ lw_tbl := by decide +kernel
theorem inJ10 : ∀ w ∈ wsJ100, w ∈ lw_tbl := by decide +kernel
abbrev vwCl : List vw_C := [(RX0, TX0, 13)]
end
section
theorem dX0_init_0 : decode cX0_init 0 = .ok (.aload_n 0, 1) := by decide +kernel
theorem dX0_init_1 : decode cX0_init 1 = .ok (.invokespecial 1, 3) := by decide +kernel
theorem dX0_init_4 : decode cX0_init 4 = .ok (.aload_n 0, 1) := by decide +kernel
theorem dX0_init_5 : decode cX0_init 5 = .ok (.iconst 0, 1) := by decide +kernel
theorem dX0_init_6 : decode cX0_init 6 = .ok (.putfield 7, 3) := by decide +kernel
theorem dX0_init_9 : decode cX0_init 9 = .ok (.aload_n 0, 1) := by decide +kernel
theorem dX0_init_10 : decode cX0_init 10 = .ok (.iconst 2, 1) := by decide +kernel
theorem dX0_init_11 : decode cX0_init 11 = .ok (.putfield 13, 3) := by decide +kernel
theorem dX0_init_14 : decode cX0_init 14 = .ok (.aload_n 0, 1) := by decide +kernel
theorem dX0_init_15 : decode cX0_init 15 = .ok (.bipush 35, 2) := by decide +kernel
theorem dX0_init_17 : decode cX0_init 17 = .ok (.newarray .int, 2) := by decide +kernel
theorem dX0_init_19 : decode cX0_init 19 = .ok (.putfield 16, 3) := by decide +kernel
theorem dX0_init_22 : decode cX0_init 22 = .ok (.aload_n 0, 1) := by decide +kernel
theorem dX0_init_23 : decode cX0_init 23 = .ok (.bipush 35, 2) := by decide +kernel
theorem dX0_init_25 : decode cX0_init 25 = .ok (.newarray .int, 2) := by decide +kernel
theorem dX0_init_27 : decode cX0_init 27 = .ok (.putfield 20, 3) := by decide +kernel
theorem dX0_init_30 : decode cX0_init 30 = .ok (.aload_n 0, 1) := by decide +kernel
theorem dX0_init_31 : decode cX0_init 31 = .ok (.bipush 35, 2) := by decide +kernel
theorem dX0_init_33 : decode cX0_init 33 = .ok (.newarray .int, 2) := by decide +kernel
theorem dX0_init_35 : decode cX0_init 35 = .ok (.putfield 23, 3) := by decide +kernel
theorem dX0_init_38 : decode cX0_init 38 = .ok (.aload_n 0, 1) := by decide +kernel
theorem dX0_init_39 : decode cX0_init 39 = .ok (.bipush 35, 2) := by decide +kernel
theorem dX0_init_41 : decode cX0_init 41 = .ok (.newarray .int, 2) := by decide +kernel
theorem dX0_init_43 : decode cX0_init 43 = .ok (.putfield 26, 3) := by decide +kernel
theorem dX0_init_46 : decode cX0_init 46 = .ok (.aload_n 0, 1) := by decide +kernel
theorem dX0_init_47 : decode cX0_init 47 = .ok (.bipush 7, 2) := by decide +kernel
theorem dX0_init_49 : decode cX0_init 49 = .ok (.newarray .int, 2) := by decide +kernel
theorem dX0_init_51 : decode cX0_init 51 = .ok (.putfield 29, 3) := by decide +kernel
theorem dX0_init_54 : decode cX0_init 54 = .ok (.aload_n 0, 1) := by decide +kernel
theorem dX0_init_55 : decode cX0_init 55 = .ok (.bipush 7, 2) := by decide +kernel
theorem dX0_init_57 : decode cX0_init 57 = .ok (.newarray .int, 2) := by decide +kernel
theorem dX0_init_59 : decode cX0_init 59 = .ok (.putfield 32, 3) := by decide +kernel
theorem dX0_init_62 : decode cX0_init 62 = .ok (.aload_n 0, 1) := by decide +kernel
theorem dX0_init_63 : decode cX0_init 63 = .ok (.bipush 7, 2) := by decide +kernel
theorem dX0_init_65 : decode cX0_init 65 = .ok (.newarray .int, 2) := by decide +kernel
theorem dX0_init_67 : decode cX0_init 67 = .ok (.putfield 35, 3) := by decide +kernel
theorem dX0_init_70 : decode cX0_init 70 = .ok (.aload_n 0, 1) := by decide +kernel
theorem dX0_init_71 : decode cX0_init 71 = .ok (.iconst 3, 1) := by decide +kernel
theorem dX0_init_72 : decode cX0_init 72 = .ok (.newarray .boolean, 2) := by decide +kernel
theorem dX0_init_74 : decode cX0_init 74 = .ok (.putfield 38, 3) := by decide +kernel
theorem dX0_init_77 : decode cX0_init 77 = .ok (.aload_n 0, 1) := by decide +kernel
theorem dX0_init_78 : decode cX0_init 78 = .ok (.iconst 3, 1) := by decide +kernel
theorem dX0_init_79 : decode cX0_init 79 = .ok (.newarray .int, 2) := by decide +kernel
theorem dX0_init_81 : decode cX0_init 81 = .ok (.putfield 42, 3) := by decide +kernel
theorem dX0_init_84 : decode cX0_init 84 = .ok (.aload_n 0, 1) := by decide +kernel
theorem dX0_init_85 : decode cX0_init 85 = .ok (.iconst 3, 1) := by decide +kernel
theorem dX0_init_86 : decode cX0_init 86 = .ok (.newarray .int, 2) := by decide +kernel
theorem dX0_init_88 : decode cX0_init 88 = .ok (.putfield 45, 3) := by decide +kernel
theorem dX0_init_91 : decode cX0_init 91 = .ok (.aload_n 0, 1) := by decide +kernel
theorem dX0_init_92 : decode cX0_init 92 = .ok (.bipush 21, 2) := by decide +kernel
theorem dX0_init_94 : decode cX0_init 94 = .ok (.newarray .int, 2) := by decide +kernel
theorem dX0_init_96 : decode cX0_init 96 = .ok (.putfield 48, 3) := by decide +kernel
theorem dX0_init_99 : decode cX0_init 99 = .ok (.return_, 1) := by decide +kernel
set_option maxRecDepth 20000 in
theorem ggX0_addJob_X0_forgetBestOrders : GoodIn wsX0_addJob wsX0_forgetBestOrders := goodIn_r _ [9, 10, 11, 12, 13, 14, 15, 16, 17, 18, 19, 20, 21, 22, 23] (by decide +kernel) (by decide +kernel)
set_option maxRecDepth 20000 in
theorem gX0_addJob_X0_forgetBestOrders : GoodIn wsX0_addJob (wsV RX0 58 RX0 yX0_forgetBestOrders wsX0_forgetBestOrders) := goodIn_app (goodIn_of _ (by decide +kernel)) ggX0_addJob_X0_forgetBestOrders
theorem dX0_addJob_0 : decode cX0_addJob 0 = .ok (.aload_n 0, 1) := by decide +kernel
theorem dX0_addJob_1 : decode cX0_addJob 1 = .ok (.getfield 7, 3) := by decide +kernel
theorem dX0_addJob_4 : decode cX0_addJob 4 = .ok (.bipush 7, 2) := by decide +kernel
theorem dX0_addJob_6 : decode cX0_addJob 6 = .ok (.if_icmp .lt 13, 3) := by decide +kernel
theorem dX0_addJob_9 : decode cX0_addJob 9 = .ok (.new 51, 3) := by decide +kernel
theorem dX0_addJob_12 : decode cX0_addJob 12 = .ok (.dup, 1) := by decide +kernel
theorem dX0_addJob_13 : decode cX0_addJob 13 = .ok (.ldc 53, 2) := by decide +kernel
theorem dX0_addJob_15 : decode cX0_addJob 15 = .ok (.invokespecial 55, 3) := by decide +kernel
theorem dX0_addJob_18 : decode cX0_addJob 18 = .ok (.athrow, 1) := by decide +kernel
theorem dX0_addJob_19 : decode cX0_addJob 19 = .ok (.aload_n 0, 1) := by decide +kernel
theorem dX0_addJob_20 : decode cX0_addJob 20 = .ok (.getfield 7, 3) := by decide +kernel
theorem dX0_addJob_23 : decode cX0_addJob 23 = .ok (.istore_n 1, 1) := by decide +kernel
theorem dX0_addJob_24 : decode cX0_addJob 24 = .ok (.aload_n 0, 1) := by decide +kernel
theorem dX0_addJob_25 : decode cX0_addJob 25 = .ok (.getfield 29, 3) := by decide +kernel
theorem dX0_addJob_28 : decode cX0_addJob 28 = .ok (.iload_n 1, 1) := by decide +kernel
theorem dX0_addJob_29 : decode cX0_addJob 29 = .ok (.iload_n 1, 1) := by decide +kernel
theorem dX0_addJob_30 : decode cX0_addJob 30 = .ok (.iastore, 1) := by decide +kernel
theorem dX0_addJob_31 : decode cX0_addJob 31 = .ok (.aload_n 0, 1) := by decide +kernel
theorem dX0_addJob_32 : decode cX0_addJob 32 = .ok (.iload_n 1, 1) := by decide +kernel
theorem dX0_addJob_33 : decode cX0_addJob 33 = .ok (.iconst 1, 1) := by decide +kernel
theorem dX0_addJob_34 : decode cX0_addJob 34 = .ok (.iadd, 1) := by decide +kernel
theorem dX0_addJob_35 : decode cX0_addJob 35 = .ok (.putfield 7, 3) := by decide +kernel
theorem dX0_addJob_38 : decode cX0_addJob 38 = .ok (.aload_n 0, 1) := by decide +kernel
theorem dX0_addJob_39 : decode cX0_addJob 39 = .ok (.invokevirtual 58, 3) := by decide +kernel
theorem dX0_addJob_42 : decode cX0_addJob 42 = .ok (.iload_n 1, 1) := by decide +kernel
theorem dX0_addJob_43 : decode cX0_addJob 43 = .ok (.ireturn, 1) := by decide +kernel
set_option maxRecDepth 20000 in
theorem ggX0_setMachines_X0_cell : GoodIn wsX0_setMachines wsX0_cell := goodIn_r _ [9] (by decide +kernel) (by decide +kernel)
set_option maxRecDepth 20000 in
theorem gX0_setMachines_X0_cell : GoodIn wsX0_setMachines (va_wsS RX0 66 yX0_cell wsX0_cell) := goodIn_app (goodIn_of _ (by decide +kernel)) ggX0_setMachines_X0_cell
set_option maxRecDepth 20000 in
theorem ggX0_setMachines_X0_forgetBestOrders : GoodIn wsX0_setMachines wsX0_forgetBestOrders := goodIn_r _ [13, 14, 15, 16, 17, 18, 19, 20, 21, 22, 23, 24, 25, 26, 27] (by decide +kernel) (by decide +kernel)
set_option maxRecDepth 20000 in
theorem gX0_setMachines_X0_forgetBestOrders : GoodIn wsX0_setMachines (wsV RX0 58 RX0 yX0_forgetBestOrders wsX0_forgetBestOrders) := goodIn_app (goodIn_of _ (by decide +kernel)) ggX0_setMachines_X0_forgetBestOrders
theorem dX0_setMachines_0 : decode cX0_setMachines 0 = .ok (.iload_n 1, 1) := by decide +kernel
theorem dX0_setMachines_1 : decode cX0_setMachines 1 = .ok (.iconst 1, 1) := by decide +kernel
theorem dX0_setMachines_2 : decode cX0_setMachines 2 = .ok (.if_icmp .lt 8, 3) := by decide +kernel
theorem dX0_setMachines_5 : decode cX0_setMachines 5 = .ok (.iload_n 1, 1) := by decide +kernel
theorem dX0_setMachines_6 : decode cX0_setMachines 6 = .ok (.iconst 5, 1) := by decide +kernel
theorem dX0_setMachines_7 : decode cX0_setMachines 7 = .ok (.if_icmp .le 13, 3) := by decide +kernel
theorem dX0_setMachines_10 : decode cX0_setMachines 10 = .ok (.new 61, 3) := by decide +kernel
theorem dX0_setMachines_13 : decode cX0_setMachines 13 = .ok (.dup, 1) := by decide +kernel
theorem dX0_setMachines_14 : decode cX0_setMachines 14 = .ok (.ldc 63, 2) := by decide +kernel
theorem dX0_setMachines_16 : decode cX0_setMachines 16 = .ok (.invokespecial 65, 3) := by decide +kernel
theorem dX0_setMachines_19 : decode cX0_setMachines 19 = .ok (.athrow, 1) := by decide +kernel
theorem dX0_setMachines_20 : decode cX0_setMachines 20 = .ok (.aload_n 0, 1) := by decide +kernel
theorem dX0_setMachines_21 : decode cX0_setMachines 21 = .ok (.getfield 13, 3) := by decide +kernel
theorem dX0_setMachines_24 : decode cX0_setMachines 24 = .ok (.istore_n 2, 1) := by decide +kernel
theorem dX0_setMachines_25 : decode cX0_setMachines 25 = .ok (.iconst 0, 1) := by decide +kernel
theorem dX0_setMachines_26 : decode cX0_setMachines 26 = .ok (.istore_n 3, 1) := by decide +kernel
theorem dX0_setMachines_27 : decode cX0_setMachines 27 = .ok (.iload_n 3, 1) := by decide +kernel
theorem dX0_setMachines_28 : decode cX0_setMachines 28 = .ok (.aload_n 0, 1) := by decide +kernel
theorem dX0_setMachines_29 : decode cX0_setMachines 29 = .ok (.getfield 7, 3) := by decide +kernel
theorem dX0_setMachines_32 : decode cX0_setMachines 32 = .ok (.if_icmp .ge 36, 3) := by decide +kernel
theorem dX0_setMachines_35 : decode cX0_setMachines 35 = .ok (.iload_n 1, 1) := by decide +kernel
theorem dX0_setMachines_36 : decode cX0_setMachines 36 = .ok (.istore 4, 2) := by decide +kernel
theorem dX0_setMachines_38 : decode cX0_setMachines 38 = .ok (.iload 4, 2) := by decide +kernel
theorem dX0_setMachines_40 : decode cX0_setMachines 40 = .ok (.iconst 5, 1) := by decide +kernel
theorem dX0_setMachines_41 : decode cX0_setMachines 41 = .ok (.if_icmp .ge 21, 3) := by decide +kernel
theorem dX0_setMachines_44 : decode cX0_setMachines 44 = .ok (.aload_n 0, 1) := by decide +kernel
theorem dX0_setMachines_45 : decode cX0_setMachines 45 = .ok (.getfield 16, 3) := by decide +kernel
theorem dX0_setMachines_48 : decode cX0_setMachines 48 = .ok (.iload_n 3, 1) := by decide +kernel
theorem dX0_setMachines_49 : decode cX0_setMachines 49 = .ok (.iload 4, 2) := by decide +kernel
theorem dX0_setMachines_51 : decode cX0_setMachines 51 = .ok (.invokestatic 66, 3) := by decide +kernel
theorem dX0_setMachines_54 : decode cX0_setMachines 54 = .ok (.iconst 0, 1) := by decide +kernel
theorem dX0_setMachines_55 : decode cX0_setMachines 55 = .ok (.iastore, 1) := by decide +kernel
theorem dX0_setMachines_56 : decode cX0_setMachines 56 = .ok (.iinc 4 1, 3) := by decide +kernel
theorem dX0_setMachines_59 : decode cX0_setMachines 59 = .ok (.goto (-21), 3) := by decide +kernel
theorem dX0_setMachines_62 : decode cX0_setMachines 62 = .ok (.iinc 3 1, 3) := by decide +kernel
theorem dX0_setMachines_65 : decode cX0_setMachines 65 = .ok (.goto (-38), 3) := by decide +kernel
theorem dX0_setMachines_68 : decode cX0_setMachines 68 = .ok (.aload_n 0, 1) := by decide +kernel
theorem dX0_setMachines_69 : decode cX0_setMachines 69 = .ok (.iload_n 1, 1) := by decide +kernel
theorem dX0_setMachines_70 : decode cX0_setMachines 70 = .ok (.putfield 13, 3) := by decide +kernel
theorem dX0_setMachines_73 : decode cX0_setMachines 73 = .ok (.aload_n 0, 1) := by decide +kernel
theorem dX0_setMachines_74 : decode cX0_setMachines 74 = .ok (.invokevirtual 58, 3) := by decide +kernel
theorem dX0_setMachines_77 : decode cX0_setMachines 77 = .ok (.iload_n 2, 1) := by decide +kernel
theorem dX0_setMachines_78 : decode cX0_setMachines 78 = .ok (.ireturn, 1) := by decide +kernel
set_option maxRecDepth 20000 in
theorem ggX0_setTime_X0_requireJob : GoodIn wsX0_setTime wsX0_requireJob := goodIn_ca (goodIn_r _ [8, 9, 10, 11, 25, 26, 27, 28, 29, 30, 31, 32, 33, 34, 35, 36, 37] (by decide +kernel) (by decide +kernel)) (goodIn_sub (fun _ h => List.mem_cons_of_mem _ (List.mem_append_right _ h)) (by decide +kernel))
set_option maxRecDepth 20000 in
theorem gX0_setTime_X0_requireJob : GoodIn wsX0_setTime (wsV RX0 70 RX0 yX0_requireJob wsX0_requireJob) := goodIn_app (goodIn_of _ (by decide +kernel)) ggX0_setTime_X0_requireJob
set_option maxRecDepth 20000 in
theorem ggX0_setTime_X0_requireMachine : GoodIn wsX0_setTime wsX0_requireMachine := goodIn_ca (goodIn_r _ [15, 9, 10, 16, 25, 26, 27, 28, 29, 30, 31, 32, 33, 34, 35, 36, 37] (by decide +kernel) (by decide +kernel)) (goodIn_sub (fun _ h => List.mem_cons_of_mem _ (List.mem_append_right _ h)) (by decide +kernel))
set_option maxRecDepth 20000 in
theorem gX0_setTime_X0_requireMachine : GoodIn wsX0_setTime (wsV RX0 74 RX0 yX0_requireMachine wsX0_requireMachine) := goodIn_app (goodIn_of _ (by decide +kernel)) ggX0_setTime_X0_requireMachine
set_option maxRecDepth 20000 in
theorem ggX0_setTime_X0_cell : GoodIn wsX0_setTime wsX0_cell := goodIn_r _ [19] (by decide +kernel) (by decide +kernel)
set_option maxRecDepth 20000 in
theorem gX0_setTime_X0_cell : GoodIn wsX0_setTime (va_wsS RX0 66 yX0_cell wsX0_cell) := goodIn_app (goodIn_of _ (by decide +kernel)) ggX0_setTime_X0_cell
set_option maxRecDepth 20000 in
theorem ggX0_setTime_X0_forgetBestOrders : GoodIn wsX0_setTime wsX0_forgetBestOrders := goodIn_r _ [23, 24, 25, 26, 27, 28, 29, 30, 31, 32, 33, 34, 35, 36, 37] (by decide +kernel) (by decide +kernel)
set_option maxRecDepth 20000 in
theorem gX0_setTime_X0_forgetBestOrders : GoodIn wsX0_setTime (wsV RX0 58 RX0 yX0_forgetBestOrders wsX0_forgetBestOrders) := goodIn_app (goodIn_of _ (by decide +kernel)) ggX0_setTime_X0_forgetBestOrders
theorem dX0_setTime_0 : decode cX0_setTime 0 = .ok (.aload_n 0, 1) := by decide +kernel
theorem dX0_setTime_1 : decode cX0_setTime 1 = .ok (.iload_n 1, 1) := by decide +kernel
theorem dX0_setTime_2 : decode cX0_setTime 2 = .ok (.invokevirtual 70, 3) := by decide +kernel
theorem dX0_setTime_5 : decode cX0_setTime 5 = .ok (.aload_n 0, 1) := by decide +kernel
theorem dX0_setTime_6 : decode cX0_setTime 6 = .ok (.iload_n 2, 1) := by decide +kernel
theorem dX0_setTime_7 : decode cX0_setTime 7 = .ok (.invokevirtual 74, 3) := by decide +kernel
theorem dX0_setTime_10 : decode cX0_setTime 10 = .ok (.iload_n 3, 1) := by decide +kernel
theorem dX0_setTime_11 : decode cX0_setTime 11 = .ok (.ifCond .lt 9, 3) := by decide +kernel
theorem dX0_setTime_14 : decode cX0_setTime 14 = .ok (.iload_n 3, 1) := by decide +kernel
theorem dX0_setTime_15 : decode cX0_setTime 15 = .ok (.bipush 99, 2) := by decide +kernel
theorem dX0_setTime_17 : decode cX0_setTime 17 = .ok (.if_icmp .le 13, 3) := by decide +kernel
theorem dX0_setTime_20 : decode cX0_setTime 20 = .ok (.new 61, 3) := by decide +kernel
theorem dX0_setTime_23 : decode cX0_setTime 23 = .ok (.dup, 1) := by decide +kernel
theorem dX0_setTime_24 : decode cX0_setTime 24 = .ok (.ldc 77, 2) := by decide +kernel
theorem dX0_setTime_26 : decode cX0_setTime 26 = .ok (.invokespecial 65, 3) := by decide +kernel
theorem dX0_setTime_29 : decode cX0_setTime 29 = .ok (.athrow, 1) := by decide +kernel
theorem dX0_setTime_30 : decode cX0_setTime 30 = .ok (.aload_n 0, 1) := by decide +kernel
theorem dX0_setTime_31 : decode cX0_setTime 31 = .ok (.getfield 16, 3) := by decide +kernel
theorem dX0_setTime_34 : decode cX0_setTime 34 = .ok (.iload_n 1, 1) := by decide +kernel
theorem dX0_setTime_35 : decode cX0_setTime 35 = .ok (.iload_n 2, 1) := by decide +kernel
theorem dX0_setTime_36 : decode cX0_setTime 36 = .ok (.invokestatic 66, 3) := by decide +kernel
theorem dX0_setTime_39 : decode cX0_setTime 39 = .ok (.iaload, 1) := by decide +kernel
theorem dX0_setTime_40 : decode cX0_setTime 40 = .ok (.istore 4, 2) := by decide +kernel
theorem dX0_setTime_42 : decode cX0_setTime 42 = .ok (.aload_n 0, 1) := by decide +kernel
theorem dX0_setTime_43 : decode cX0_setTime 43 = .ok (.getfield 16, 3) := by decide +kernel
theorem dX0_setTime_46 : decode cX0_setTime 46 = .ok (.iload_n 1, 1) := by decide +kernel
theorem dX0_setTime_47 : decode cX0_setTime 47 = .ok (.iload_n 2, 1) := by decide +kernel
theorem dX0_setTime_48 : decode cX0_setTime 48 = .ok (.invokestatic 66, 3) := by decide +kernel
theorem dX0_setTime_51 : decode cX0_setTime 51 = .ok (.iload_n 3, 1) := by decide +kernel
theorem dX0_setTime_52 : decode cX0_setTime 52 = .ok (.iastore, 1) := by decide +kernel
theorem dX0_setTime_53 : decode cX0_setTime 53 = .ok (.aload_n 0, 1) := by decide +kernel
theorem dX0_setTime_54 : decode cX0_setTime 54 = .ok (.invokevirtual 58, 3) := by decide +kernel
theorem dX0_setTime_57 : decode cX0_setTime 57 = .ok (.iload 4, 2) := by decide +kernel
theorem dX0_setTime_59 : decode cX0_setTime 59 = .ok (.ireturn, 1) := by decide +kernel
theorem dX0_jobs_0 : decode cX0_jobs 0 = .ok (.aload_n 0, 1) := by decide +kernel
theorem dX0_jobs_1 : decode cX0_jobs 1 = .ok (.getfield 7, 3) := by decide +kernel
theorem dX0_jobs_4 : decode cX0_jobs 4 = .ok (.ireturn, 1) := by decide +kernel
theorem dX0_machines_0 : decode cX0_machines 0 = .ok (.aload_n 0, 1) := by decide +kernel
theorem dX0_machines_1 : decode cX0_machines 1 = .ok (.getfield 13, 3) := by decide +kernel
theorem dX0_machines_4 : decode cX0_machines 4 = .ok (.ireturn, 1) := by decide +kernel
set_option maxRecDepth 20000 in
theorem ggX0_move_X0_requireJob : GoodIn wsX0_move wsX0_requireJob := goodIn_ca (goodIn_r _ [6, 7, 8, 9, 21, 22, 23, 24, 25, 26, 27, 28, 29, 30, 31, 32, 33] (by decide +kernel) (by decide +kernel)) (goodIn_sub (fun _ h => List.mem_cons_of_mem _ (List.mem_append_right _ h)) (by decide +kernel))
set_option maxRecDepth 20000 in
theorem gX0_move_X0_requireJob : GoodIn wsX0_move (wsV RX0 70 RX0 yX0_requireJob wsX0_requireJob) := goodIn_app (goodIn_of _ (by decide +kernel)) ggX0_move_X0_requireJob
set_option maxRecDepth 20000 in
theorem ggX0_move_X0_requirePlace : GoodIn wsX0_move wsX0_requirePlace := goodIn_ca (goodIn_r _ [13, 7, 8, 9, 21, 22, 23, 24, 25, 26, 27, 28, 29, 30, 31, 32, 33] (by decide +kernel) (by decide +kernel)) (goodIn_sub (fun _ h => List.mem_cons_of_mem _ (List.mem_append_right _ h)) (by decide +kernel))
set_option maxRecDepth 20000 in
theorem gX0_move_X0_requirePlace : GoodIn wsX0_move (wsV RX0 79 RX0 yX0_requirePlace wsX0_requirePlace) := goodIn_app (goodIn_of _ (by decide +kernel)) ggX0_move_X0_requirePlace
set_option maxRecDepth 20000 in
theorem ggX0_move_X0_placeOf : GoodIn wsX0_move wsX0_placeOf := goodIn_r _ [17, 9, 1, 21, 22, 23, 24, 25, 26, 27, 28, 29, 30, 31, 32, 33] (by decide +kernel) (by decide +kernel)
set_option maxRecDepth 20000 in
theorem gX0_move_X0_placeOf : GoodIn wsX0_move (wsV RX0 82 RX0 yX0_placeOf wsX0_placeOf) := goodIn_app (goodIn_of _ (by decide +kernel)) ggX0_move_X0_placeOf
set_option maxRecDepth 20000 in
theorem ggX0_move_X0_shift : GoodIn wsX0_move wsX0_shift := goodIn_r _ [20] (by decide +kernel) (by decide +kernel)
set_option maxRecDepth 20000 in
theorem gX0_move_X0_shift : GoodIn wsX0_move (va_wsS RX0 86 yX0_shift wsX0_shift) := goodIn_app (goodIn_of _ (by decide +kernel)) ggX0_move_X0_shift
theorem dX0_move_0 : decode cX0_move 0 = .ok (.aload_n 0, 1) := by decide +kernel
theorem dX0_move_1 : decode cX0_move 1 = .ok (.iload_n 1, 1) := by decide +kernel
theorem dX0_move_2 : decode cX0_move 2 = .ok (.invokevirtual 70, 3) := by decide +kernel
theorem dX0_move_5 : decode cX0_move 5 = .ok (.aload_n 0, 1) := by decide +kernel
theorem dX0_move_6 : decode cX0_move 6 = .ok (.iload_n 2, 1) := by decide +kernel
theorem dX0_move_7 : decode cX0_move 7 = .ok (.invokevirtual 79, 3) := by decide +kernel
theorem dX0_move_10 : decode cX0_move 10 = .ok (.aload_n 0, 1) := by decide +kernel
theorem dX0_move_11 : decode cX0_move 11 = .ok (.iload_n 1, 1) := by decide +kernel
theorem dX0_move_12 : decode cX0_move 12 = .ok (.invokevirtual 82, 3) := by decide +kernel
theorem dX0_move_15 : decode cX0_move 15 = .ok (.istore_n 3, 1) := by decide +kernel
theorem dX0_move_16 : decode cX0_move 16 = .ok (.aload_n 0, 1) := by decide +kernel
theorem dX0_move_17 : decode cX0_move 17 = .ok (.getfield 29, 3) := by decide +kernel
theorem dX0_move_20 : decode cX0_move 20 = .ok (.iload_n 3, 1) := by decide +kernel
theorem dX0_move_21 : decode cX0_move 21 = .ok (.iload_n 2, 1) := by decide +kernel
theorem dX0_move_22 : decode cX0_move 22 = .ok (.invokestatic 86, 3) := by decide +kernel
theorem dX0_move_25 : decode cX0_move 25 = .ok (.iload_n 3, 1) := by decide +kernel
theorem dX0_move_26 : decode cX0_move 26 = .ok (.ireturn, 1) := by decide +kernel
set_option maxRecDepth 20000 in
theorem ggX0_orderByRule_X0_fillByRule : GoodIn wsX0_orderByRule wsX0_fillByRule := goodIn_r _ [9, 10, 11, 12, 13, 8, 14, 15, 16, 17, 18, 19, 20, 21, 22, 49, 50, 51, 52, 53, 54, 55, 56, 57, 58, 59, 60, 61] (by decide +kernel) (by decide +kernel)
set_option maxRecDepth 20000 in
theorem gX0_orderByRule_X0_fillByRule : GoodIn wsX0_orderByRule (wsV RX0 96 RX0 yX0_fillByRule wsX0_fillByRule) := goodIn_app (goodIn_of _ (by decide +kernel)) ggX0_orderByRule_X0_fillByRule
set_option maxRecDepth 20000 in
theorem ggX0_orderByRule_X0_scheduleOrder : GoodIn wsX0_orderByRule wsX0_scheduleOrder := goodIn_r _ [26, 10, 4, 27, 28, 29, 8, 30, 3, 31, 32, 33, 34, 35, 36, 37, 38, 39, 40, 41, 42, 43, 44, 20, 21, 22, 15, 16, 17, 18, 19, 45, 46, 47, 48, 49, 50, 51, 52, 53, 54, 55, 56, 57, 58, 59, 60, 61] (by decide +kernel) (by decide +kernel)
set_option maxRecDepth 20000 in
theorem gX0_orderByRule_X0_scheduleOrder : GoodIn wsX0_orderByRule (wsV RX0 99 RX0 yX0_scheduleOrder wsX0_scheduleOrder) := goodIn_app (goodIn_of _ (by decide +kernel)) ggX0_orderByRule_X0_scheduleOrder
theorem dX0_orderByRule_0 : decode cX0_orderByRule 0 = .ok (.aload_n 0, 1) := by decide +kernel
theorem dX0_orderByRule_1 : decode cX0_orderByRule 1 = .ok (.getfield 13, 3) := by decide +kernel
theorem dX0_orderByRule_4 : decode cX0_orderByRule 4 = .ok (.iconst 2, 1) := by decide +kernel
theorem dX0_orderByRule_5 : decode cX0_orderByRule 5 = .ok (.if_icmp .eq 13, 3) := by decide +kernel
theorem dX0_orderByRule_8 : decode cX0_orderByRule 8 = .ok (.new 51, 3) := by decide +kernel
theorem dX0_orderByRule_11 : decode cX0_orderByRule 11 = .ok (.dup, 1) := by decide +kernel
theorem dX0_orderByRule_12 : decode cX0_orderByRule 12 = .ok (.ldc 94, 2) := by decide +kernel
theorem dX0_orderByRule_14 : decode cX0_orderByRule 14 = .ok (.invokespecial 55, 3) := by decide +kernel
theorem dX0_orderByRule_17 : decode cX0_orderByRule 17 = .ok (.athrow, 1) := by decide +kernel
theorem dX0_orderByRule_18 : decode cX0_orderByRule 18 = .ok (.aload_n 0, 1) := by decide +kernel
theorem dX0_orderByRule_19 : decode cX0_orderByRule 19 = .ok (.aload_n 0, 1) := by decide +kernel
theorem dX0_orderByRule_20 : decode cX0_orderByRule 20 = .ok (.getfield 29, 3) := by decide +kernel
theorem dX0_orderByRule_23 : decode cX0_orderByRule 23 = .ok (.iconst 0, 1) := by decide +kernel
theorem dX0_orderByRule_24 : decode cX0_orderByRule 24 = .ok (.iconst 1, 1) := by decide +kernel
theorem dX0_orderByRule_25 : decode cX0_orderByRule 25 = .ok (.invokevirtual 96, 3) := by decide +kernel
theorem dX0_orderByRule_28 : decode cX0_orderByRule 28 = .ok (.aload_n 0, 1) := by decide +kernel
theorem dX0_orderByRule_29 : decode cX0_orderByRule 29 = .ok (.iconst 0, 1) := by decide +kernel
theorem dX0_orderByRule_30 : decode cX0_orderByRule 30 = .ok (.invokevirtual 99, 3) := by decide +kernel
theorem dX0_orderByRule_33 : decode cX0_orderByRule 33 = .ok (.ireturn, 1) := by decide +kernel
set_option maxRecDepth 20000 in
theorem ggX0_orderByInsertion_X0_fillQueueBySum : GoodIn wsX0_orderByInsertion wsX0_fillQueueBySum := goodIn_r _ [8, 1, 9, 3, 10, 11, 12, 7, 13, 14, 15, 16, 17, 18, 19, 20, 21, 64, 65, 66, 67, 68, 69, 70, 71, 72, 73, 74, 75, 76] (by decide +kernel) (by decide +kernel)
set_option maxRecDepth 20000 in
theorem gX0_orderByInsertion_X0_fillQueueBySum : GoodIn wsX0_orderByInsertion (wsV RX0 102 RX0 yX0_fillQueueBySum wsX0_fillQueueBySum) := goodIn_app (goodIn_of _ (by decide +kernel)) ggX0_orderByInsertion_X0_fillQueueBySum
set_option maxRecDepth 20000 in
theorem ggX0_orderByInsertion_X0_placeForLast : GoodIn wsX0_orderByInsertion wsX0_placeForLast := goodIn_r _ [25, 26, 27, 28, 7, 29, 2, 30, 31, 32, 33, 34, 35, 36, 37, 38, 39, 40, 41, 9, 42, 43, 44, 45, 46, 47, 48, 49, 50, 51, 52, 53, 54, 55, 19, 20, 21, 14, 15, 16, 17, 18, 56, 57, 58, 59, 64, 65, 66, 67, 68, 69, 70, 71, 72, 73, 74, 75, 76] (by decide +kernel) (by decide +kernel)
set_option maxRecDepth 20000 in
theorem gX0_orderByInsertion_X0_placeForLast : GoodIn wsX0_orderByInsertion (wsV RX0 105 RX0 yX0_placeForLast wsX0_placeForLast) := goodIn_app (goodIn_of _ (by decide +kernel)) ggX0_orderByInsertion_X0_placeForLast
set_option maxRecDepth 20000 in
theorem ggX0_orderByInsertion_X0_shift : GoodIn wsX0_orderByInsertion wsX0_shift := goodIn_r _ [37] (by decide +kernel) (by decide +kernel)
set_option maxRecDepth 20000 in
theorem gX0_orderByInsertion_X0_shift : GoodIn wsX0_orderByInsertion (va_wsS RX0 86 yX0_shift wsX0_shift) := goodIn_app (goodIn_of _ (by decide +kernel)) ggX0_orderByInsertion_X0_shift
set_option maxRecDepth 20000 in
theorem ggX0_orderByInsertion_X0_scheduleOrder : GoodIn wsX0_orderByInsertion wsX0_scheduleOrder := goodIn_r _ [63, 1, 2, 38, 39, 40, 7, 41, 9, 42, 43, 44, 45, 46, 47, 48, 49, 50, 51, 52, 53, 54, 55, 19, 20, 21, 14, 15, 16, 17, 18, 56, 57, 58, 59, 64, 65, 66, 67, 68, 69, 70, 71, 72, 73, 74, 75, 76] (by decide +kernel) (by decide +kernel)
set_option maxRecDepth 20000 in
theorem gX0_orderByInsertion_X0_scheduleOrder : GoodIn wsX0_orderByInsertion (wsV RX0 99 RX0 yX0_scheduleOrder wsX0_scheduleOrder) := goodIn_app (goodIn_of _ (by decide +kernel)) ggX0_orderByInsertion_X0_scheduleOrder
theorem dX0_orderByInsertion_0 : decode cX0_orderByInsertion 0 = .ok (.aload_n 0, 1) := by decide +kernel
theorem dX0_orderByInsertion_1 : decode cX0_orderByInsertion 1 = .ok (.invokevirtual 102, 3) := by decide +kernel
theorem dX0_orderByInsertion_4 : decode cX0_orderByInsertion 4 = .ok (.iconst 0, 1) := by decide +kernel
theorem dX0_orderByInsertion_5 : decode cX0_orderByInsertion 5 = .ok (.istore_n 1, 1) := by decide +kernel
theorem dX0_orderByInsertion_6 : decode cX0_orderByInsertion 6 = .ok (.iload_n 1, 1) := by decide +kernel
theorem dX0_orderByInsertion_7 : decode cX0_orderByInsertion 7 = .ok (.aload_n 0, 1) := by decide +kernel
theorem dX0_orderByInsertion_8 : decode cX0_orderByInsertion 8 = .ok (.getfield 7, 3) := by decide +kernel
theorem dX0_orderByInsertion_11 : decode cX0_orderByInsertion 11 = .ok (.if_icmp .ge 34, 3) := by decide +kernel
theorem dX0_orderByInsertion_14 : decode cX0_orderByInsertion 14 = .ok (.aload_n 0, 1) := by decide +kernel
theorem dX0_orderByInsertion_15 : decode cX0_orderByInsertion 15 = .ok (.getfield 29, 3) := by decide +kernel
theorem dX0_orderByInsertion_18 : decode cX0_orderByInsertion 18 = .ok (.iload_n 1, 1) := by decide +kernel
theorem dX0_orderByInsertion_19 : decode cX0_orderByInsertion 19 = .ok (.aload_n 0, 1) := by decide +kernel
theorem dX0_orderByInsertion_20 : decode cX0_orderByInsertion 20 = .ok (.getfield 35, 3) := by decide +kernel
theorem dX0_orderByInsertion_23 : decode cX0_orderByInsertion 23 = .ok (.iload_n 1, 1) := by decide +kernel
theorem dX0_orderByInsertion_24 : decode cX0_orderByInsertion 24 = .ok (.iaload, 1) := by decide +kernel
theorem dX0_orderByInsertion_25 : decode cX0_orderByInsertion 25 = .ok (.iastore, 1) := by decide +kernel
theorem dX0_orderByInsertion_26 : decode cX0_orderByInsertion 26 = .ok (.aload_n 0, 1) := by decide +kernel
theorem dX0_orderByInsertion_27 : decode cX0_orderByInsertion 27 = .ok (.getfield 29, 3) := by decide +kernel
theorem dX0_orderByInsertion_30 : decode cX0_orderByInsertion 30 = .ok (.iload_n 1, 1) := by decide +kernel
theorem dX0_orderByInsertion_31 : decode cX0_orderByInsertion 31 = .ok (.aload_n 0, 1) := by decide +kernel
theorem dX0_orderByInsertion_32 : decode cX0_orderByInsertion 32 = .ok (.iload_n 1, 1) := by decide +kernel
theorem dX0_orderByInsertion_33 : decode cX0_orderByInsertion 33 = .ok (.invokevirtual 105, 3) := by decide +kernel
theorem dX0_orderByInsertion_36 : decode cX0_orderByInsertion 36 = .ok (.invokestatic 86, 3) := by decide +kernel
theorem dX0_orderByInsertion_39 : decode cX0_orderByInsertion 39 = .ok (.iinc 1 1, 3) := by decide +kernel
theorem dX0_orderByInsertion_42 : decode cX0_orderByInsertion 42 = .ok (.goto (-36), 3) := by decide +kernel
theorem dX0_orderByInsertion_45 : decode cX0_orderByInsertion 45 = .ok (.aload_n 0, 1) := by decide +kernel
theorem dX0_orderByInsertion_46 : decode cX0_orderByInsertion 46 = .ok (.iconst 0, 1) := by decide +kernel
theorem dX0_orderByInsertion_47 : decode cX0_orderByInsertion 47 = .ok (.invokevirtual 99, 3) := by decide +kernel
theorem dX0_orderByInsertion_50 : decode cX0_orderByInsertion 50 = .ok (.ireturn, 1) := by decide +kernel
set_option maxRecDepth 20000 in
theorem ggX0_improve_X0_scheduleOrder : GoodIn wsX0_improve wsX0_scheduleOrder := goodIn_r _ [7, 1, 2, 8, 9, 10, 6, 11, 12, 13, 14, 15, 16, 17, 18, 19, 20, 21, 22, 23, 24, 25, 26, 27, 28, 29, 30, 31, 32, 33, 34, 35, 36, 37, 38, 51, 52, 53, 54, 55, 56, 57, 58, 59, 60, 61, 62, 63] (by decide +kernel) (by decide +kernel)
set_option maxRecDepth 20000 in
theorem gX0_improve_X0_scheduleOrder : GoodIn wsX0_improve (wsV RX0 99 RX0 yX0_scheduleOrder wsX0_scheduleOrder) := goodIn_app (goodIn_of _ (by decide +kernel)) ggX0_improve_X0_scheduleOrder
set_option maxRecDepth 20000 in
theorem ggX0_improve_X0_makespanIfShifted : GoodIn wsX0_improve wsX0_makespanIfShifted := goodIn_r _ [42, 2, 43, 44, 45, 46, 47, 48, 49, 6, 50, 8, 9, 10, 11, 12, 13, 14, 15, 16, 17, 18, 19, 20, 21, 22, 23, 24, 25, 26, 27, 28, 29, 30, 31, 32, 33, 34, 35, 36, 37, 38, 51, 52, 53, 54, 55, 56, 57, 58, 59, 60, 61, 62, 63] (by decide +kernel) (by decide +kernel)
set_option maxRecDepth 20000 in
theorem gX0_improve_X0_makespanIfShifted : GoodIn wsX0_improve (wsV RX0 90 RX0 yX0_makespanIfShifted wsX0_makespanIfShifted) := goodIn_app (goodIn_of _ (by decide +kernel)) ggX0_improve_X0_makespanIfShifted
set_option maxRecDepth 20000 in
theorem ggX0_improve_X0_shift : GoodIn wsX0_improve wsX0_shift := goodIn_r _ [50] (by decide +kernel) (by decide +kernel)
set_option maxRecDepth 20000 in
theorem gX0_improve_X0_shift : GoodIn wsX0_improve (va_wsS RX0 86 yX0_shift wsX0_shift) := goodIn_app (goodIn_of _ (by decide +kernel)) ggX0_improve_X0_shift
theorem dX0_improve_0 : decode cX0_improve 0 = .ok (.aload_n 0, 1) := by decide +kernel
theorem dX0_improve_1 : decode cX0_improve 1 = .ok (.iconst 0, 1) := by decide +kernel
theorem dX0_improve_2 : decode cX0_improve 2 = .ok (.invokevirtual 99, 3) := by decide +kernel
theorem dX0_improve_5 : decode cX0_improve 5 = .ok (.istore_n 1, 1) := by decide +kernel
theorem dX0_improve_6 : decode cX0_improve 6 = .ok (.iload_n 1, 1) := by decide +kernel
theorem dX0_improve_7 : decode cX0_improve 7 = .ok (.istore_n 2, 1) := by decide +kernel
theorem dX0_improve_8 : decode cX0_improve 8 = .ok (.iconst 0, 1) := by decide +kernel
theorem dX0_improve_9 : decode cX0_improve 9 = .ok (.istore_n 3, 1) := by decide +kernel
theorem dX0_improve_10 : decode cX0_improve 10 = .ok (.iconst 0, 1) := by decide +kernel
theorem dX0_improve_11 : decode cX0_improve 11 = .ok (.istore 4, 2) := by decide +kernel
theorem dX0_improve_13 : decode cX0_improve 13 = .ok (.iconst 0, 1) := by decide +kernel
theorem dX0_improve_14 : decode cX0_improve 14 = .ok (.istore 5, 2) := by decide +kernel
theorem dX0_improve_16 : decode cX0_improve 16 = .ok (.iload 5, 2) := by decide +kernel
theorem dX0_improve_18 : decode cX0_improve 18 = .ok (.aload_n 0, 1) := by decide +kernel
theorem dX0_improve_19 : decode cX0_improve 19 = .ok (.getfield 7, 3) := by decide +kernel
theorem dX0_improve_22 : decode cX0_improve 22 = .ok (.if_icmp .ge 57, 3) := by decide +kernel
theorem dX0_improve_25 : decode cX0_improve 25 = .ok (.iconst 0, 1) := by decide +kernel
theorem dX0_improve_26 : decode cX0_improve 26 = .ok (.istore 6, 2) := by decide +kernel
theorem dX0_improve_28 : decode cX0_improve 28 = .ok (.iload 6, 2) := by decide +kernel
theorem dX0_improve_30 : decode cX0_improve 30 = .ok (.aload_n 0, 1) := by decide +kernel
theorem dX0_improve_31 : decode cX0_improve 31 = .ok (.getfield 7, 3) := by decide +kernel
theorem dX0_improve_34 : decode cX0_improve 34 = .ok (.if_icmp .ge 39, 3) := by decide +kernel
theorem dX0_improve_37 : decode cX0_improve 37 = .ok (.aload_n 0, 1) := by decide +kernel
theorem dX0_improve_38 : decode cX0_improve 38 = .ok (.iload 5, 2) := by decide +kernel
theorem dX0_improve_40 : decode cX0_improve 40 = .ok (.iload 6, 2) := by decide +kernel
theorem dX0_improve_42 : decode cX0_improve 42 = .ok (.aload_n 0, 1) := by decide +kernel
theorem dX0_improve_43 : decode cX0_improve 43 = .ok (.getfield 7, 3) := by decide +kernel
theorem dX0_improve_46 : decode cX0_improve 46 = .ok (.invokevirtual 90, 3) := by decide +kernel
theorem dX0_improve_49 : decode cX0_improve 49 = .ok (.istore 7, 2) := by decide +kernel
theorem dX0_improve_51 : decode cX0_improve 51 = .ok (.iload 7, 2) := by decide +kernel
theorem dX0_improve_53 : decode cX0_improve 53 = .ok (.iload_n 2, 1) := by decide +kernel
theorem dX0_improve_54 : decode cX0_improve 54 = .ok (.if_icmp .ge 13, 3) := by decide +kernel
theorem dX0_improve_57 : decode cX0_improve 57 = .ok (.iload 7, 2) := by decide +kernel
theorem dX0_improve_59 : decode cX0_improve 59 = .ok (.istore_n 2, 1) := by decide +kernel
theorem dX0_improve_60 : decode cX0_improve 60 = .ok (.iload 5, 2) := by decide +kernel
theorem dX0_improve_62 : decode cX0_improve 62 = .ok (.istore_n 3, 1) := by decide +kernel
theorem dX0_improve_63 : decode cX0_improve 63 = .ok (.iload 6, 2) := by decide +kernel
theorem dX0_improve_65 : decode cX0_improve 65 = .ok (.istore 4, 2) := by decide +kernel
theorem dX0_improve_67 : decode cX0_improve 67 = .ok (.iinc 6 1, 3) := by decide +kernel
theorem dX0_improve_70 : decode cX0_improve 70 = .ok (.goto (-42), 3) := by decide +kernel
theorem dX0_improve_73 : decode cX0_improve 73 = .ok (.iinc 5 1, 3) := by decide +kernel
theorem dX0_improve_76 : decode cX0_improve 76 = .ok (.goto (-60), 3) := by decide +kernel
theorem dX0_improve_79 : decode cX0_improve 79 = .ok (.iload_n 2, 1) := by decide +kernel
theorem dX0_improve_80 : decode cX0_improve 80 = .ok (.iload_n 1, 1) := by decide +kernel
theorem dX0_improve_81 : decode cX0_improve 81 = .ok (.if_icmp .ge 13, 3) := by decide +kernel
theorem dX0_improve_84 : decode cX0_improve 84 = .ok (.aload_n 0, 1) := by decide +kernel
theorem dX0_improve_85 : decode cX0_improve 85 = .ok (.getfield 29, 3) := by decide +kernel
theorem dX0_improve_88 : decode cX0_improve 88 = .ok (.iload_n 3, 1) := by decide +kernel
theorem dX0_improve_89 : decode cX0_improve 89 = .ok (.iload 4, 2) := by decide +kernel
theorem dX0_improve_91 : decode cX0_improve 91 = .ok (.invokestatic 86, 3) := by decide +kernel
theorem dX0_improve_94 : decode cX0_improve 94 = .ok (.iload_n 1, 1) := by decide +kernel
theorem dX0_improve_95 : decode cX0_improve 95 = .ok (.iload_n 2, 1) := by decide +kernel
theorem dX0_improve_96 : decode cX0_improve 96 = .ok (.isub, 1) := by decide +kernel
theorem dX0_improve_97 : decode cX0_improve 97 = .ok (.ireturn, 1) := by decide +kernel
set_option maxRecDepth 20000 in
theorem ggX0_makespan_X0_requireVariant : GoodIn wsX0_makespan wsX0_requireVariant := goodIn_ca (goodIn_r _ [4, 5, 6] (by decide +kernel) (by decide +kernel)) (goodIn_sub (fun _ h => List.mem_cons_of_mem _ (List.mem_append_right _ h)) (by decide +kernel))
set_option maxRecDepth 20000 in
theorem gX0_makespan_X0_requireVariant : GoodIn wsX0_makespan (va_wsS RX0 108 yX0_requireVariant wsX0_requireVariant) := goodIn_app (goodIn_of _ (by decide +kernel)) ggX0_makespan_X0_requireVariant
set_option maxRecDepth 20000 in
theorem ggX0_makespan_X0_scheduleOrder : GoodIn wsX0_makespan wsX0_scheduleOrder := goodIn_r _ [10, 11, 12, 13, 14, 15, 3, 16, 17, 18, 19, 20, 21, 22, 23, 24, 25, 26, 27, 28, 29, 30, 31, 32, 33, 34, 35, 36, 37, 38, 39, 40, 41, 42, 43, 44, 45, 46, 47, 48, 49, 50, 51, 52, 53, 54, 55, 56] (by decide +kernel) (by decide +kernel)
set_option maxRecDepth 20000 in
theorem gX0_makespan_X0_scheduleOrder : GoodIn wsX0_makespan (wsV RX0 99 RX0 yX0_scheduleOrder wsX0_scheduleOrder) := goodIn_app (goodIn_of _ (by decide +kernel)) ggX0_makespan_X0_scheduleOrder
theorem dX0_makespan_0 : decode cX0_makespan 0 = .ok (.iload_n 1, 1) := by decide +kernel
theorem dX0_makespan_1 : decode cX0_makespan 1 = .ok (.invokestatic 108, 3) := by decide +kernel
theorem dX0_makespan_4 : decode cX0_makespan 4 = .ok (.aload_n 0, 1) := by decide +kernel
theorem dX0_makespan_5 : decode cX0_makespan 5 = .ok (.iload_n 1, 1) := by decide +kernel
theorem dX0_makespan_6 : decode cX0_makespan 6 = .ok (.invokevirtual 99, 3) := by decide +kernel
theorem dX0_makespan_9 : decode cX0_makespan 9 = .ok (.ireturn, 1) := by decide +kernel
set_option maxRecDepth 20000 in
theorem ggX0_machineBound_X0_requireMachine : GoodIn wsX0_machineBound wsX0_requireMachine := goodIn_ca (goodIn_r _ [6, 7, 8, 1, 34, 35, 36, 37, 38, 39, 40, 41, 42, 43, 44, 45, 46] (by decide +kernel) (by decide +kernel)) (goodIn_sub (fun _ h => List.mem_cons_of_mem _ (List.mem_append_right _ h)) (by decide +kernel))
set_option maxRecDepth 20000 in
theorem gX0_machineBound_X0_requireMachine : GoodIn wsX0_machineBound (wsV RX0 74 RX0 yX0_requireMachine wsX0_requireMachine) := goodIn_app (goodIn_of _ (by decide +kernel)) ggX0_machineBound_X0_requireMachine
set_option maxRecDepth 20000 in
theorem ggX0_machineBound_X0_loadOf : GoodIn wsX0_machineBound wsX0_loadOf := goodIn_r _ [12, 13, 14, 15, 16, 5, 17, 18, 19, 20, 21, 34, 35, 36, 37, 38, 39, 40, 41, 42, 43, 44, 45, 46] (by decide +kernel) (by decide +kernel)
set_option maxRecDepth 20000 in
theorem gX0_machineBound_X0_loadOf : GoodIn wsX0_machineBound (wsV RX0 117 RX0 yX0_loadOf wsX0_loadOf) := goodIn_app (goodIn_of _ (by decide +kernel)) ggX0_machineBound_X0_loadOf
set_option maxRecDepth 20000 in
theorem ggX0_machineBound_X0_leastSum : GoodIn wsX0_machineBound wsX0_leastSum := goodIn_r _ [25, 13, 26, 27, 28, 29, 30, 31, 32, 5, 33, 14, 15, 16, 17, 18, 19, 20, 21, 34, 35, 36, 37, 38, 39, 40, 41, 42, 43, 44, 45, 46] (by decide +kernel) (by decide +kernel)
set_option maxRecDepth 20000 in
theorem gX0_machineBound_X0_leastSum : GoodIn wsX0_machineBound (wsV RX0 120 RX0 yX0_leastSum wsX0_leastSum) := goodIn_app (goodIn_of _ (by decide +kernel)) ggX0_machineBound_X0_leastSum
theorem dX0_machineBound_0 : decode cX0_machineBound 0 = .ok (.aload_n 0, 1) := by decide +kernel
theorem dX0_machineBound_1 : decode cX0_machineBound 1 = .ok (.iload_n 1, 1) := by decide +kernel
theorem dX0_machineBound_2 : decode cX0_machineBound 2 = .ok (.invokevirtual 74, 3) := by decide +kernel
theorem dX0_machineBound_5 : decode cX0_machineBound 5 = .ok (.aload_n 0, 1) := by decide +kernel
theorem dX0_machineBound_6 : decode cX0_machineBound 6 = .ok (.iload_n 1, 1) := by decide +kernel
theorem dX0_machineBound_7 : decode cX0_machineBound 7 = .ok (.invokevirtual 117, 3) := by decide +kernel
theorem dX0_machineBound_10 : decode cX0_machineBound 10 = .ok (.aload_n 0, 1) := by decide +kernel
theorem dX0_machineBound_11 : decode cX0_machineBound 11 = .ok (.iconst 0, 1) := by decide +kernel
theorem dX0_machineBound_12 : decode cX0_machineBound 12 = .ok (.iload_n 1, 1) := by decide +kernel
theorem dX0_machineBound_13 : decode cX0_machineBound 13 = .ok (.invokevirtual 120, 3) := by decide +kernel
theorem dX0_machineBound_16 : decode cX0_machineBound 16 = .ok (.iadd, 1) := by decide +kernel
theorem dX0_machineBound_17 : decode cX0_machineBound 17 = .ok (.aload_n 0, 1) := by decide +kernel
theorem dX0_machineBound_18 : decode cX0_machineBound 18 = .ok (.iload_n 1, 1) := by decide +kernel
theorem dX0_machineBound_19 : decode cX0_machineBound 19 = .ok (.iconst 1, 1) := by decide +kernel
theorem dX0_machineBound_20 : decode cX0_machineBound 20 = .ok (.iadd, 1) := by decide +kernel
theorem dX0_machineBound_21 : decode cX0_machineBound 21 = .ok (.aload_n 0, 1) := by decide +kernel
theorem dX0_machineBound_22 : decode cX0_machineBound 22 = .ok (.getfield 13, 3) := by decide +kernel
theorem dX0_machineBound_25 : decode cX0_machineBound 25 = .ok (.invokevirtual 120, 3) := by decide +kernel
theorem dX0_machineBound_28 : decode cX0_machineBound 28 = .ok (.iadd, 1) := by decide +kernel
theorem dX0_machineBound_29 : decode cX0_machineBound 29 = .ok (.ireturn, 1) := by decide +kernel
set_option maxRecDepth 20000 in
theorem ggX0_pairBound_X0_requireMachine : GoodIn wsX0_pairBound wsX0_requireMachine := goodIn_ca (goodIn_r _ [8, 9, 10, 3, 48, 49, 50, 51, 52, 53, 54, 55, 56, 57, 58, 59, 60] (by decide +kernel) (by decide +kernel)) (goodIn_sub (fun _ h => List.mem_cons_of_mem _ (List.mem_append_right _ h)) (by decide +kernel))
set_option maxRecDepth 20000 in
theorem gX0_pairBound_X0_requireMachine : GoodIn wsX0_pairBound (wsV RX0 74 RX0 yX0_requireMachine wsX0_requireMachine) := goodIn_app (goodIn_of _ (by decide +kernel)) ggX0_pairBound_X0_requireMachine
set_option maxRecDepth 20000 in
theorem ggX0_pairBound_X0_leastOfPair : GoodIn wsX0_pairBound wsX0_leastOfPair := goodIn_r _ [14, 15, 16, 17, 18, 19, 20, 21, 22, 23, 7, 24, 25, 26, 27, 28, 29, 30, 31, 32, 33, 34, 35, 36, 48, 49, 50, 51, 52, 53, 54, 55, 56, 57, 58, 59, 60] (by decide +kernel) (by decide +kernel)
set_option maxRecDepth 20000 in
theorem gX0_pairBound_X0_leastOfPair : GoodIn wsX0_pairBound (wsV RX0 125 RX0 yX0_leastOfPair wsX0_leastOfPair) := goodIn_app (goodIn_of _ (by decide +kernel)) ggX0_pairBound_X0_leastOfPair
set_option maxRecDepth 20000 in
theorem ggX0_pairBound_X0_leastSum : GoodIn wsX0_pairBound wsX0_leastSum := goodIn_r _ [40, 16, 41, 42, 19, 43, 44, 45, 46, 7, 47, 29, 30, 31, 32, 33, 34, 35, 36, 48, 49, 50, 51, 52, 53, 54, 55, 56, 57, 58, 59, 60] (by decide +kernel) (by decide +kernel)
set_option maxRecDepth 20000 in
theorem gX0_pairBound_X0_leastSum : GoodIn wsX0_pairBound (wsV RX0 120 RX0 yX0_leastSum wsX0_leastSum) := goodIn_app (goodIn_of _ (by decide +kernel)) ggX0_pairBound_X0_leastSum
theorem dX0_pairBound_0 : decode cX0_pairBound 0 = .ok (.aload_n 0, 1) := by decide +kernel
theorem dX0_pairBound_1 : decode cX0_pairBound 1 = .ok (.iload_n 1, 1) := by decide +kernel
theorem dX0_pairBound_2 : decode cX0_pairBound 2 = .ok (.invokevirtual 74, 3) := by decide +kernel
theorem dX0_pairBound_5 : decode cX0_pairBound 5 = .ok (.aload_n 0, 1) := by decide +kernel
theorem dX0_pairBound_6 : decode cX0_pairBound 6 = .ok (.iload_n 2, 1) := by decide +kernel
theorem dX0_pairBound_7 : decode cX0_pairBound 7 = .ok (.invokevirtual 74, 3) := by decide +kernel
theorem dX0_pairBound_10 : decode cX0_pairBound 10 = .ok (.iload_n 1, 1) := by decide +kernel
theorem dX0_pairBound_11 : decode cX0_pairBound 11 = .ok (.iload_n 2, 1) := by decide +kernel
theorem dX0_pairBound_12 : decode cX0_pairBound 12 = .ok (.if_icmp .lt 13, 3) := by decide +kernel
theorem dX0_pairBound_15 : decode cX0_pairBound 15 = .ok (.new 61, 3) := by decide +kernel
theorem dX0_pairBound_18 : decode cX0_pairBound 18 = .ok (.dup, 1) := by decide +kernel
theorem dX0_pairBound_19 : decode cX0_pairBound 19 = .ok (.ldc 123, 2) := by decide +kernel
theorem dX0_pairBound_21 : decode cX0_pairBound 21 = .ok (.invokespecial 65, 3) := by decide +kernel
theorem dX0_pairBound_24 : decode cX0_pairBound 24 = .ok (.athrow, 1) := by decide +kernel
theorem dX0_pairBound_25 : decode cX0_pairBound 25 = .ok (.aload_n 0, 1) := by decide +kernel
theorem dX0_pairBound_26 : decode cX0_pairBound 26 = .ok (.iload_n 1, 1) := by decide +kernel
theorem dX0_pairBound_27 : decode cX0_pairBound 27 = .ok (.iload_n 2, 1) := by decide +kernel
theorem dX0_pairBound_28 : decode cX0_pairBound 28 = .ok (.invokevirtual 125, 3) := by decide +kernel
theorem dX0_pairBound_31 : decode cX0_pairBound 31 = .ok (.aload_n 0, 1) := by decide +kernel
theorem dX0_pairBound_32 : decode cX0_pairBound 32 = .ok (.iconst 0, 1) := by decide +kernel
theorem dX0_pairBound_33 : decode cX0_pairBound 33 = .ok (.iload_n 1, 1) := by decide +kernel
theorem dX0_pairBound_34 : decode cX0_pairBound 34 = .ok (.invokevirtual 120, 3) := by decide +kernel
theorem dX0_pairBound_37 : decode cX0_pairBound 37 = .ok (.iadd, 1) := by decide +kernel
theorem dX0_pairBound_38 : decode cX0_pairBound 38 = .ok (.aload_n 0, 1) := by decide +kernel
theorem dX0_pairBound_39 : decode cX0_pairBound 39 = .ok (.iload_n 2, 1) := by decide +kernel
theorem dX0_pairBound_40 : decode cX0_pairBound 40 = .ok (.iconst 1, 1) := by decide +kernel
theorem dX0_pairBound_41 : decode cX0_pairBound 41 = .ok (.iadd, 1) := by decide +kernel
theorem dX0_pairBound_42 : decode cX0_pairBound 42 = .ok (.aload_n 0, 1) := by decide +kernel
theorem dX0_pairBound_43 : decode cX0_pairBound 43 = .ok (.getfield 13, 3) := by decide +kernel
theorem dX0_pairBound_46 : decode cX0_pairBound 46 = .ok (.invokevirtual 120, 3) := by decide +kernel
theorem dX0_pairBound_49 : decode cX0_pairBound 49 = .ok (.iadd, 1) := by decide +kernel
theorem dX0_pairBound_50 : decode cX0_pairBound 50 = .ok (.ireturn, 1) := by decide +kernel
set_option maxRecDepth 20000 in
theorem ggX0_best_X0_requireVariant : GoodIn wsX0_best wsX0_requireVariant := goodIn_ca (goodIn_r _ [5, 6, 7] (by decide +kernel) (by decide +kernel)) (goodIn_sub (fun _ h => List.mem_cons_of_mem _ (List.mem_append_right _ h)) (by decide +kernel))
set_option maxRecDepth 20000 in
theorem gX0_best_X0_requireVariant : GoodIn wsX0_best (va_wsS RX0 108 yX0_requireVariant wsX0_requireVariant) := goodIn_app (goodIn_of _ (by decide +kernel)) ggX0_best_X0_requireVariant
set_option maxRecDepth 20000 in
theorem ggX0_best_X0_findBestOrder : GoodIn wsX0_best wsX0_findBestOrder := goodIn_r _ [11, 12, 13, 14, 15, 16, 17, 18, 4, 19, 20, 21, 22, 23, 24, 25, 26, 27, 28, 29, 30, 31, 32, 33, 34, 35, 36, 37, 38, 39, 40, 41, 42, 43, 44, 45, 46, 47, 48, 49, 50, 1, 51, 52, 53, 54, 55, 56, 57, 58, 59, 60, 61, 62, 63, 64, 65, 66, 67, 68, 69, 70, 71, 72, 73, 74, 75, 76] (by decide +kernel) (by decide +kernel)
set_option maxRecDepth 20000 in
theorem gX0_best_X0_findBestOrder : GoodIn wsX0_best (wsV RX0 128 RX0 yX0_findBestOrder wsX0_findBestOrder) := goodIn_app (goodIn_of _ (by decide +kernel)) ggX0_best_X0_findBestOrder
theorem dX0_best_0 : decode cX0_best 0 = .ok (.iload_n 1, 1) := by decide +kernel
theorem dX0_best_1 : decode cX0_best 1 = .ok (.invokestatic 108, 3) := by decide +kernel
theorem dX0_best_4 : decode cX0_best 4 = .ok (.aload_n 0, 1) := by decide +kernel
theorem dX0_best_5 : decode cX0_best 5 = .ok (.iload_n 1, 1) := by decide +kernel
theorem dX0_best_6 : decode cX0_best 6 = .ok (.invokevirtual 128, 3) := by decide +kernel
theorem dX0_best_9 : decode cX0_best 9 = .ok (.aload_n 0, 1) := by decide +kernel
theorem dX0_best_10 : decode cX0_best 10 = .ok (.getfield 42, 3) := by decide +kernel
theorem dX0_best_13 : decode cX0_best 13 = .ok (.iload_n 1, 1) := by decide +kernel
theorem dX0_best_14 : decode cX0_best 14 = .ok (.iaload, 1) := by decide +kernel
theorem dX0_best_15 : decode cX0_best 15 = .ok (.ireturn, 1) := by decide +kernel
set_option maxRecDepth 20000 in
theorem ggX0_bestAt_X0_requireVariant : GoodIn wsX0_bestAt wsX0_requireVariant := goodIn_ca (goodIn_r _ [5, 6, 7] (by decide +kernel) (by decide +kernel)) (goodIn_sub (fun _ h => List.mem_cons_of_mem _ (List.mem_append_left _ (List.mem_append_right _ h))) (by decide +kernel))
set_option maxRecDepth 20000 in
theorem gX0_bestAt_X0_requireVariant : GoodIn wsX0_bestAt (va_wsS RX0 108 yX0_requireVariant wsX0_requireVariant) := goodIn_app (goodIn_of _ (by decide +kernel)) ggX0_bestAt_X0_requireVariant
set_option maxRecDepth 20000 in
theorem ggX0_bestAt_X0_requirePlace : GoodIn wsX0_bestAt wsX0_requirePlace := goodIn_ca (goodIn_r _ [11, 12, 13, 14, 70, 71, 72, 73, 74, 75, 76, 77, 78, 79, 80, 81, 82] (by decide +kernel) (by decide +kernel)) (goodIn_sub (fun _ h => List.mem_cons_of_mem _ (List.mem_append_right _ h)) (by decide +kernel))
set_option maxRecDepth 20000 in
theorem gX0_bestAt_X0_requirePlace : GoodIn wsX0_bestAt (wsV RX0 79 RX0 yX0_requirePlace wsX0_requirePlace) := goodIn_app (goodIn_of _ (by decide +kernel)) ggX0_bestAt_X0_requirePlace
set_option maxRecDepth 20000 in
theorem ggX0_bestAt_X0_findBestOrder : GoodIn wsX0_bestAt wsX0_findBestOrder := goodIn_r _ [18, 19, 20, 14, 21, 22, 23, 24, 4, 25, 26, 27, 28, 29, 30, 31, 32, 33, 34, 35, 36, 37, 38, 39, 40, 41, 42, 43, 44, 45, 46, 47, 48, 49, 50, 51, 52, 53, 54, 55, 56, 57, 1, 58, 59, 60, 61, 62, 63, 64, 65, 66, 67, 68, 69, 70, 71, 72, 73, 74, 75, 76, 77, 78, 79, 80, 81, 82] (by decide +kernel) (by decide +kernel)
set_option maxRecDepth 20000 in
theorem gX0_bestAt_X0_findBestOrder : GoodIn wsX0_bestAt (wsV RX0 128 RX0 yX0_findBestOrder wsX0_findBestOrder) := goodIn_app (goodIn_of _ (by decide +kernel)) ggX0_bestAt_X0_findBestOrder
theorem dX0_bestAt_0 : decode cX0_bestAt 0 = .ok (.iload_n 1, 1) := by decide +kernel
theorem dX0_bestAt_1 : decode cX0_bestAt 1 = .ok (.invokestatic 108, 3) := by decide +kernel
theorem dX0_bestAt_4 : decode cX0_bestAt 4 = .ok (.aload_n 0, 1) := by decide +kernel
theorem dX0_bestAt_5 : decode cX0_bestAt 5 = .ok (.iload_n 2, 1) := by decide +kernel
theorem dX0_bestAt_6 : decode cX0_bestAt 6 = .ok (.invokevirtual 79, 3) := by decide +kernel
theorem dX0_bestAt_9 : decode cX0_bestAt 9 = .ok (.aload_n 0, 1) := by decide +kernel
theorem dX0_bestAt_10 : decode cX0_bestAt 10 = .ok (.iload_n 1, 1) := by decide +kernel
theorem dX0_bestAt_11 : decode cX0_bestAt 11 = .ok (.invokevirtual 128, 3) := by decide +kernel
theorem dX0_bestAt_14 : decode cX0_bestAt 14 = .ok (.aload_n 0, 1) := by decide +kernel
theorem dX0_bestAt_15 : decode cX0_bestAt 15 = .ok (.getfield 48, 3) := by decide +kernel
theorem dX0_bestAt_18 : decode cX0_bestAt 18 = .ok (.iload_n 1, 1) := by decide +kernel
theorem dX0_bestAt_19 : decode cX0_bestAt 19 = .ok (.bipush 7, 2) := by decide +kernel
theorem dX0_bestAt_21 : decode cX0_bestAt 21 = .ok (.imul, 1) := by decide +kernel
theorem dX0_bestAt_22 : decode cX0_bestAt 22 = .ok (.iload_n 2, 1) := by decide +kernel
theorem dX0_bestAt_23 : decode cX0_bestAt 23 = .ok (.iadd, 1) := by decide +kernel
theorem dX0_bestAt_24 : decode cX0_bestAt 24 = .ok (.iaload, 1) := by decide +kernel
theorem dX0_bestAt_25 : decode cX0_bestAt 25 = .ok (.ireturn, 1) := by decide +kernel
set_option maxRecDepth 20000 in
theorem ggX0_bestOrders_X0_requireVariant : GoodIn wsX0_bestOrders wsX0_requireVariant := goodIn_ca (goodIn_r _ [5, 6, 7] (by decide +kernel) (by decide +kernel)) (goodIn_sub (fun _ h => List.mem_cons_of_mem _ (List.mem_append_right _ h)) (by decide +kernel))
set_option maxRecDepth 20000 in
theorem gX0_bestOrders_X0_requireVariant : GoodIn wsX0_bestOrders (va_wsS RX0 108 yX0_requireVariant wsX0_requireVariant) := goodIn_app (goodIn_of _ (by decide +kernel)) ggX0_bestOrders_X0_requireVariant
set_option maxRecDepth 20000 in
theorem ggX0_bestOrders_X0_findBestOrder : GoodIn wsX0_bestOrders wsX0_findBestOrder := goodIn_r _ [11, 12, 1, 13, 14, 15, 16, 17, 4, 18, 19, 20, 21, 22, 23, 24, 25, 26, 27, 28, 29, 30, 31, 32, 33, 34, 35, 36, 37, 38, 39, 40, 41, 42, 43, 44, 45, 46, 47, 48, 49, 50, 51, 52, 53, 54, 55, 56, 57, 58, 59, 60, 61, 62, 63, 64, 65, 66, 67, 68, 69, 70, 71, 72, 73, 74, 75, 76] (by decide +kernel) (by decide +kernel)
set_option maxRecDepth 20000 in
theorem gX0_bestOrders_X0_findBestOrder : GoodIn wsX0_bestOrders (wsV RX0 128 RX0 yX0_findBestOrder wsX0_findBestOrder) := goodIn_app (goodIn_of _ (by decide +kernel)) ggX0_bestOrders_X0_findBestOrder
theorem dX0_bestOrders_0 : decode cX0_bestOrders 0 = .ok (.iload_n 1, 1) := by decide +kernel
theorem dX0_bestOrders_1 : decode cX0_bestOrders 1 = .ok (.invokestatic 108, 3) := by decide +kernel
theorem dX0_bestOrders_4 : decode cX0_bestOrders 4 = .ok (.aload_n 0, 1) := by decide +kernel
theorem dX0_bestOrders_5 : decode cX0_bestOrders 5 = .ok (.iload_n 1, 1) := by decide +kernel
theorem dX0_bestOrders_6 : decode cX0_bestOrders 6 = .ok (.invokevirtual 128, 3) := by decide +kernel
theorem dX0_bestOrders_9 : decode cX0_bestOrders 9 = .ok (.aload_n 0, 1) := by decide +kernel
theorem dX0_bestOrders_10 : decode cX0_bestOrders 10 = .ok (.getfield 45, 3) := by decide +kernel
theorem dX0_bestOrders_13 : decode cX0_bestOrders 13 = .ok (.iload_n 1, 1) := by decide +kernel
theorem dX0_bestOrders_14 : decode cX0_bestOrders 14 = .ok (.iaload, 1) := by decide +kernel
theorem dX0_bestOrders_15 : decode cX0_bestOrders 15 = .ok (.ireturn, 1) := by decide +kernel
set_option maxRecDepth 20000 in
theorem ggX0_gap_X0_scheduleOrder : GoodIn wsX0_gap wsX0_scheduleOrder := goodIn_r _ [6, 7, 8, 9, 10, 11, 5, 12, 13, 14, 15, 16, 17, 18, 19, 20, 21, 22, 23, 24, 25, 26, 27, 28, 29, 30, 31, 32, 33, 34, 35, 36, 37, 38, 39, 64, 65, 66, 67, 68, 69, 70, 71, 72, 73, 74, 75, 76] (by decide +kernel) (by decide +kernel)
set_option maxRecDepth 20000 in
theorem gX0_gap_X0_scheduleOrder : GoodIn wsX0_gap (wsV RX0 99 RX0 yX0_scheduleOrder wsX0_scheduleOrder) := goodIn_app (goodIn_of _ (by decide +kernel)) ggX0_gap_X0_scheduleOrder
set_option maxRecDepth 20000 in
theorem ggX0_gap_X0_findBestOrder : GoodIn wsX0_gap wsX0_findBestOrder := goodIn_r _ [43, 44, 45, 7, 46, 9, 10, 11, 5, 12, 13, 14, 15, 16, 17, 18, 19, 20, 21, 22, 23, 24, 25, 26, 27, 28, 29, 30, 31, 32, 33, 34, 35, 36, 37, 38, 39, 47, 48, 49, 50, 1, 51, 52, 53, 54, 55, 56, 57, 58, 59, 60, 61, 62, 63, 64, 65, 66, 67, 68, 69, 70, 71, 72, 73, 74, 75, 76] (by decide +kernel) (by decide +kernel)
set_option maxRecDepth 20000 in
theorem gX0_gap_X0_findBestOrder : GoodIn wsX0_gap (wsV RX0 128 RX0 yX0_findBestOrder wsX0_findBestOrder) := goodIn_app (goodIn_of _ (by decide +kernel)) ggX0_gap_X0_findBestOrder
theorem dX0_gap_0 : decode cX0_gap 0 = .ok (.aload_n 0, 1) := by decide +kernel
theorem dX0_gap_1 : decode cX0_gap 1 = .ok (.iconst 0, 1) := by decide +kernel
theorem dX0_gap_2 : decode cX0_gap 2 = .ok (.invokevirtual 99, 3) := by decide +kernel
theorem dX0_gap_5 : decode cX0_gap 5 = .ok (.istore_n 1, 1) := by decide +kernel
theorem dX0_gap_6 : decode cX0_gap 6 = .ok (.aload_n 0, 1) := by decide +kernel
theorem dX0_gap_7 : decode cX0_gap 7 = .ok (.iconst 0, 1) := by decide +kernel
theorem dX0_gap_8 : decode cX0_gap 8 = .ok (.invokevirtual 128, 3) := by decide +kernel
theorem dX0_gap_11 : decode cX0_gap 11 = .ok (.aload_n 0, 1) := by decide +kernel
theorem dX0_gap_12 : decode cX0_gap 12 = .ok (.getfield 42, 3) := by decide +kernel
theorem dX0_gap_15 : decode cX0_gap 15 = .ok (.iconst 0, 1) := by decide +kernel
theorem dX0_gap_16 : decode cX0_gap 16 = .ok (.iaload, 1) := by decide +kernel
theorem dX0_gap_17 : decode cX0_gap 17 = .ok (.istore_n 2, 1) := by decide +kernel
theorem dX0_gap_18 : decode cX0_gap 18 = .ok (.iload_n 2, 1) := by decide +kernel
theorem dX0_gap_19 : decode cX0_gap 19 = .ok (.ifCond .ne 5, 3) := by decide +kernel
theorem dX0_gap_22 : decode cX0_gap 22 = .ok (.dconst 0, 1) := by decide +kernel
theorem dX0_gap_23 : decode cX0_gap 23 = .ok (.dreturn, 1) := by decide +kernel
theorem dX0_gap_24 : decode cX0_gap 24 = .ok (.iload_n 1, 1) := by decide +kernel
theorem dX0_gap_25 : decode cX0_gap 25 = .ok (.iload_n 2, 1) := by decide +kernel
theorem dX0_gap_26 : decode cX0_gap 26 = .ok (.isub, 1) := by decide +kernel
theorem dX0_gap_27 : decode cX0_gap 27 = .ok (.i2d, 1) := by decide +kernel
theorem dX0_gap_28 : decode cX0_gap 28 = .ok (.iload_n 2, 1) := by decide +kernel
theorem dX0_gap_29 : decode cX0_gap 29 = .ok (.i2d, 1) := by decide +kernel
theorem dX0_gap_30 : decode cX0_gap 30 = .ok (.ddiv, 1) := by decide +kernel
theorem dX0_gap_31 : decode cX0_gap 31 = .ok (.dreturn, 1) := by decide +kernel
theorem dX0_requireJob_0 : decode cX0_requireJob 0 = .ok (.iload_n 1, 1) := by decide +kernel
theorem dX0_requireJob_1 : decode cX0_requireJob 1 = .ok (.ifCond .lt 11, 3) := by decide +kernel
theorem dX0_requireJob_4 : decode cX0_requireJob 4 = .ok (.iload_n 1, 1) := by decide +kernel
theorem dX0_requireJob_5 : decode cX0_requireJob 5 = .ok (.aload_n 0, 1) := by decide +kernel
theorem dX0_requireJob_6 : decode cX0_requireJob 6 = .ok (.getfield 7, 3) := by decide +kernel
theorem dX0_requireJob_9 : decode cX0_requireJob 9 = .ok (.if_icmp .lt 13, 3) := by decide +kernel
theorem dX0_requireJob_12 : decode cX0_requireJob 12 = .ok (.new 131, 3) := by decide +kernel
theorem dX0_requireJob_15 : decode cX0_requireJob 15 = .ok (.dup, 1) := by decide +kernel
theorem dX0_requireJob_16 : decode cX0_requireJob 16 = .ok (.ldc 133, 2) := by decide +kernel
theorem dX0_requireJob_18 : decode cX0_requireJob 18 = .ok (.invokespecial 135, 3) := by decide +kernel
theorem dX0_requireJob_21 : decode cX0_requireJob 21 = .ok (.athrow, 1) := by decide +kernel
theorem dX0_requireJob_22 : decode cX0_requireJob 22 = .ok (.return_, 1) := by decide +kernel
theorem dX0_requirePlace_0 : decode cX0_requirePlace 0 = .ok (.iload_n 1, 1) := by decide +kernel
theorem dX0_requirePlace_1 : decode cX0_requirePlace 1 = .ok (.ifCond .lt 11, 3) := by decide +kernel
theorem dX0_requirePlace_4 : decode cX0_requirePlace 4 = .ok (.iload_n 1, 1) := by decide +kernel
theorem dX0_requirePlace_5 : decode cX0_requirePlace 5 = .ok (.aload_n 0, 1) := by decide +kernel
theorem dX0_requirePlace_6 : decode cX0_requirePlace 6 = .ok (.getfield 7, 3) := by decide +kernel
theorem dX0_requirePlace_9 : decode cX0_requirePlace 9 = .ok (.if_icmp .lt 13, 3) := by decide +kernel
theorem dX0_requirePlace_12 : decode cX0_requirePlace 12 = .ok (.new 131, 3) := by decide +kernel
theorem dX0_requirePlace_15 : decode cX0_requirePlace 15 = .ok (.dup, 1) := by decide +kernel
theorem dX0_requirePlace_16 : decode cX0_requirePlace 16 = .ok (.ldc 136, 2) := by decide +kernel
theorem dX0_requirePlace_18 : decode cX0_requirePlace 18 = .ok (.invokespecial 135, 3) := by decide +kernel
theorem dX0_requirePlace_21 : decode cX0_requirePlace 21 = .ok (.athrow, 1) := by decide +kernel
theorem dX0_requirePlace_22 : decode cX0_requirePlace 22 = .ok (.return_, 1) := by decide +kernel
theorem dX0_requireMachine_0 : decode cX0_requireMachine 0 = .ok (.iload_n 1, 1) := by decide +kernel
theorem dX0_requireMachine_1 : decode cX0_requireMachine 1 = .ok (.ifCond .lt 11, 3) := by decide +kernel
theorem dX0_requireMachine_4 : decode cX0_requireMachine 4 = .ok (.iload_n 1, 1) := by decide +kernel
theorem dX0_requireMachine_5 : decode cX0_requireMachine 5 = .ok (.aload_n 0, 1) := by decide +kernel
theorem dX0_requireMachine_6 : decode cX0_requireMachine 6 = .ok (.getfield 13, 3) := by decide +kernel
theorem dX0_requireMachine_9 : decode cX0_requireMachine 9 = .ok (.if_icmp .lt 13, 3) := by decide +kernel
theorem dX0_requireMachine_12 : decode cX0_requireMachine 12 = .ok (.new 131, 3) := by decide +kernel
theorem dX0_requireMachine_15 : decode cX0_requireMachine 15 = .ok (.dup, 1) := by decide +kernel
theorem dX0_requireMachine_16 : decode cX0_requireMachine 16 = .ok (.ldc 138, 2) := by decide +kernel
theorem dX0_requireMachine_18 : decode cX0_requireMachine 18 = .ok (.invokespecial 135, 3) := by decide +kernel
theorem dX0_requireMachine_21 : decode cX0_requireMachine 21 = .ok (.athrow, 1) := by decide +kernel
theorem dX0_requireMachine_22 : decode cX0_requireMachine 22 = .ok (.return_, 1) := by decide +kernel
theorem dX0_requireVariant_0 : decode cX0_requireVariant 0 = .ok (.iload_n 0, 1) := by decide +kernel
theorem dX0_requireVariant_1 : decode cX0_requireVariant 1 = .ok (.ifCond .lt 8, 3) := by decide +kernel
theorem dX0_requireVariant_4 : decode cX0_requireVariant 4 = .ok (.iload_n 0, 1) := by decide +kernel
theorem dX0_requireVariant_5 : decode cX0_requireVariant 5 = .ok (.iconst 3, 1) := by decide +kernel
theorem dX0_requireVariant_6 : decode cX0_requireVariant 6 = .ok (.if_icmp .lt 13, 3) := by decide +kernel
theorem dX0_requireVariant_9 : decode cX0_requireVariant 9 = .ok (.new 61, 3) := by decide +kernel
theorem dX0_requireVariant_12 : decode cX0_requireVariant 12 = .ok (.dup, 1) := by decide +kernel
theorem dX0_requireVariant_13 : decode cX0_requireVariant 13 = .ok (.ldc 140, 2) := by decide +kernel
theorem dX0_requireVariant_15 : decode cX0_requireVariant 15 = .ok (.invokespecial 65, 3) := by decide +kernel
theorem dX0_requireVariant_18 : decode cX0_requireVariant 18 = .ok (.athrow, 1) := by decide +kernel
theorem dX0_requireVariant_19 : decode cX0_requireVariant 19 = .ok (.return_, 1) := by decide +kernel
theorem dX0_cell_0 : decode cX0_cell 0 = .ok (.iload_n 0, 1) := by decide +kernel
theorem dX0_cell_1 : decode cX0_cell 1 = .ok (.iconst 5, 1) := by decide +kernel
theorem dX0_cell_2 : decode cX0_cell 2 = .ok (.imul, 1) := by decide +kernel
theorem dX0_cell_3 : decode cX0_cell 3 = .ok (.iload_n 1, 1) := by decide +kernel
theorem dX0_cell_4 : decode cX0_cell 4 = .ok (.iadd, 1) := by decide +kernel
theorem dX0_cell_5 : decode cX0_cell 5 = .ok (.ireturn, 1) := by decide +kernel
set_option maxRecDepth 20000 in
theorem ggX0_timeOf_X0_cell : GoodIn wsX0_timeOf wsX0_cell := goodIn_r _ [5] (by decide +kernel) (by decide +kernel)
set_option maxRecDepth 20000 in
theorem gX0_timeOf_X0_cell : GoodIn wsX0_timeOf (va_wsS RX0 66 yX0_cell wsX0_cell) := goodIn_app (goodIn_of _ (by decide +kernel)) ggX0_timeOf_X0_cell
theorem dX0_timeOf_0 : decode cX0_timeOf 0 = .ok (.iload_n 1, 1) := by decide +kernel
theorem dX0_timeOf_1 : decode cX0_timeOf 1 = .ok (.ifCond .lt 18, 3) := by decide +kernel
theorem dX0_timeOf_4 : decode cX0_timeOf 4 = .ok (.iload_n 1, 1) := by decide +kernel
theorem dX0_timeOf_5 : decode cX0_timeOf 5 = .ok (.bipush 7, 2) := by decide +kernel
theorem dX0_timeOf_7 : decode cX0_timeOf 7 = .ok (.if_icmp .ge 12, 3) := by decide +kernel
theorem dX0_timeOf_10 : decode cX0_timeOf 10 = .ok (.iload_n 2, 1) := by decide +kernel
theorem dX0_timeOf_11 : decode cX0_timeOf 11 = .ok (.ifCond .lt 8, 3) := by decide +kernel
theorem dX0_timeOf_14 : decode cX0_timeOf 14 = .ok (.iload_n 2, 1) := by decide +kernel
theorem dX0_timeOf_15 : decode cX0_timeOf 15 = .ok (.iconst 5, 1) := by decide +kernel
theorem dX0_timeOf_16 : decode cX0_timeOf 16 = .ok (.if_icmp .lt 5, 3) := by decide +kernel
theorem dX0_timeOf_19 : decode cX0_timeOf 19 = .ok (.iconst 0, 1) := by decide +kernel
theorem dX0_timeOf_20 : decode cX0_timeOf 20 = .ok (.ireturn, 1) := by decide +kernel
theorem dX0_timeOf_21 : decode cX0_timeOf 21 = .ok (.aload_n 0, 1) := by decide +kernel
theorem dX0_timeOf_22 : decode cX0_timeOf 22 = .ok (.getfield 16, 3) := by decide +kernel
theorem dX0_timeOf_25 : decode cX0_timeOf 25 = .ok (.iload_n 1, 1) := by decide +kernel
theorem dX0_timeOf_26 : decode cX0_timeOf 26 = .ok (.iload_n 2, 1) := by decide +kernel
theorem dX0_timeOf_27 : decode cX0_timeOf 27 = .ok (.invokestatic 66, 3) := by decide +kernel
theorem dX0_timeOf_30 : decode cX0_timeOf 30 = .ok (.iaload, 1) := by decide +kernel
theorem dX0_timeOf_31 : decode cX0_timeOf 31 = .ok (.ireturn, 1) := by decide +kernel
set_option maxRecDepth 20000 in
theorem ggX0_sumOf_X0_timeOf : GoodIn wsX0_sumOf wsX0_timeOf := goodIn_r _ [5, 6, 7, 8, 4, 9, 10, 11, 12, 13, 14, 15, 16, 17, 18, 19, 20, 21, 22] (by decide +kernel) (by decide +kernel)
set_option maxRecDepth 20000 in
theorem gX0_sumOf_X0_timeOf : GoodIn wsX0_sumOf (wsV RX0 114 RX0 yX0_timeOf wsX0_timeOf) := goodIn_app (goodIn_of _ (by decide +kernel)) ggX0_sumOf_X0_timeOf
theorem dX0_sumOf_0 : decode cX0_sumOf 0 = .ok (.iconst 0, 1) := by decide +kernel
theorem dX0_sumOf_1 : decode cX0_sumOf 1 = .ok (.istore 4, 2) := by decide +kernel
theorem dX0_sumOf_3 : decode cX0_sumOf 3 = .ok (.iload_n 2, 1) := by decide +kernel
theorem dX0_sumOf_4 : decode cX0_sumOf 4 = .ok (.istore 5, 2) := by decide +kernel
theorem dX0_sumOf_6 : decode cX0_sumOf 6 = .ok (.iload 5, 2) := by decide +kernel
theorem dX0_sumOf_8 : decode cX0_sumOf 8 = .ok (.iload_n 3, 1) := by decide +kernel
theorem dX0_sumOf_9 : decode cX0_sumOf 9 = .ok (.if_icmp .ge 21, 3) := by decide +kernel
theorem dX0_sumOf_12 : decode cX0_sumOf 12 = .ok (.iload 4, 2) := by decide +kernel
theorem dX0_sumOf_14 : decode cX0_sumOf 14 = .ok (.aload_n 0, 1) := by decide +kernel
theorem dX0_sumOf_15 : decode cX0_sumOf 15 = .ok (.iload_n 1, 1) := by decide +kernel
theorem dX0_sumOf_16 : decode cX0_sumOf 16 = .ok (.iload 5, 2) := by decide +kernel
theorem dX0_sumOf_18 : decode cX0_sumOf 18 = .ok (.invokevirtual 114, 3) := by decide +kernel
theorem dX0_sumOf_21 : decode cX0_sumOf 21 = .ok (.iadd, 1) := by decide +kernel
theorem dX0_sumOf_22 : decode cX0_sumOf 22 = .ok (.istore 4, 2) := by decide +kernel
theorem dX0_sumOf_24 : decode cX0_sumOf 24 = .ok (.iinc 5 1, 3) := by decide +kernel
theorem dX0_sumOf_27 : decode cX0_sumOf 27 = .ok (.goto (-21), 3) := by decide +kernel
theorem dX0_sumOf_30 : decode cX0_sumOf 30 = .ok (.iload 4, 2) := by decide +kernel
theorem dX0_sumOf_32 : decode cX0_sumOf 32 = .ok (.ireturn, 1) := by decide +kernel
set_option maxRecDepth 20000 in
theorem ggX0_leastSum_X0_sumOf : GoodIn wsX0_leastSum wsX0_sumOf := goodIn_r _ [10, 11, 12, 13, 9, 14, 15, 16, 17, 18, 19, 20, 21, 22, 23, 24, 25, 26, 27, 28, 29, 30, 31] (by decide +kernel) (by decide +kernel)
set_option maxRecDepth 20000 in
theorem gX0_leastSum_X0_sumOf : GoodIn wsX0_leastSum (wsV RX0 142 RX0 yX0_sumOf wsX0_sumOf) := goodIn_app (goodIn_of _ (by decide +kernel)) ggX0_leastSum_X0_sumOf
theorem dX0_leastSum_0 : decode cX0_leastSum 0 = .ok (.aload_n 0, 1) := by decide +kernel
theorem dX0_leastSum_1 : decode cX0_leastSum 1 = .ok (.iconst 0, 1) := by decide +kernel
theorem dX0_leastSum_2 : decode cX0_leastSum 2 = .ok (.iload_n 1, 1) := by decide +kernel
theorem dX0_leastSum_3 : decode cX0_leastSum 3 = .ok (.iload_n 2, 1) := by decide +kernel
theorem dX0_leastSum_4 : decode cX0_leastSum 4 = .ok (.invokevirtual 142, 3) := by decide +kernel
theorem dX0_leastSum_7 : decode cX0_leastSum 7 = .ok (.istore_n 3, 1) := by decide +kernel
theorem dX0_leastSum_8 : decode cX0_leastSum 8 = .ok (.iconst 1, 1) := by decide +kernel
theorem dX0_leastSum_9 : decode cX0_leastSum 9 = .ok (.istore 4, 2) := by decide +kernel
theorem dX0_leastSum_11 : decode cX0_leastSum 11 = .ok (.iload 4, 2) := by decide +kernel
theorem dX0_leastSum_13 : decode cX0_leastSum 13 = .ok (.aload_n 0, 1) := by decide +kernel
theorem dX0_leastSum_14 : decode cX0_leastSum 14 = .ok (.getfield 7, 3) := by decide +kernel
theorem dX0_leastSum_17 : decode cX0_leastSum 17 = .ok (.if_icmp .ge 22, 3) := by decide +kernel
theorem dX0_leastSum_20 : decode cX0_leastSum 20 = .ok (.iload_n 3, 1) := by decide +kernel
theorem dX0_leastSum_21 : decode cX0_leastSum 21 = .ok (.aload_n 0, 1) := by decide +kernel
theorem dX0_leastSum_22 : decode cX0_leastSum 22 = .ok (.iload 4, 2) := by decide +kernel
theorem dX0_leastSum_24 : decode cX0_leastSum 24 = .ok (.iload_n 1, 1) := by decide +kernel
theorem dX0_leastSum_25 : decode cX0_leastSum 25 = .ok (.iload_n 2, 1) := by decide +kernel
theorem dX0_leastSum_26 : decode cX0_leastSum 26 = .ok (.invokevirtual 142, 3) := by decide +kernel
theorem dX0_leastSum_29 : decode cX0_leastSum 29 = .ok (.invokestatic 145, 3) := by decide +kernel
theorem dX0_leastSum_32 : decode cX0_leastSum 32 = .ok (.istore_n 3, 1) := by decide +kernel
theorem dX0_leastSum_33 : decode cX0_leastSum 33 = .ok (.iinc 4 1, 3) := by decide +kernel
theorem dX0_leastSum_36 : decode cX0_leastSum 36 = .ok (.goto (-25), 3) := by decide +kernel
theorem dX0_leastSum_39 : decode cX0_leastSum 39 = .ok (.iload_n 3, 1) := by decide +kernel
theorem dX0_leastSum_40 : decode cX0_leastSum 40 = .ok (.ireturn, 1) := by decide +kernel
set_option maxRecDepth 20000 in
theorem ggX0_loadOf_X0_timeOf : GoodIn wsX0_loadOf wsX0_timeOf := goodIn_r _ [6, 7, 8, 9, 5, 10, 11, 12, 13, 14, 15, 16, 17, 18, 19, 20, 21, 22, 23] (by decide +kernel) (by decide +kernel)
set_option maxRecDepth 20000 in
theorem gX0_loadOf_X0_timeOf : GoodIn wsX0_loadOf (wsV RX0 114 RX0 yX0_timeOf wsX0_timeOf) := goodIn_app (goodIn_of _ (by decide +kernel)) ggX0_loadOf_X0_timeOf
theorem dX0_loadOf_0 : decode cX0_loadOf 0 = .ok (.iconst 0, 1) := by decide +kernel
theorem dX0_loadOf_1 : decode cX0_loadOf 1 = .ok (.istore_n 2, 1) := by decide +kernel
theorem dX0_loadOf_2 : decode cX0_loadOf 2 = .ok (.iconst 0, 1) := by decide +kernel
theorem dX0_loadOf_3 : decode cX0_loadOf 3 = .ok (.istore_n 3, 1) := by decide +kernel
theorem dX0_loadOf_4 : decode cX0_loadOf 4 = .ok (.iload_n 3, 1) := by decide +kernel
theorem dX0_loadOf_5 : decode cX0_loadOf 5 = .ok (.aload_n 0, 1) := by decide +kernel
theorem dX0_loadOf_6 : decode cX0_loadOf 6 = .ok (.getfield 7, 3) := by decide +kernel
theorem dX0_loadOf_9 : decode cX0_loadOf 9 = .ok (.if_icmp .ge 18, 3) := by decide +kernel
theorem dX0_loadOf_12 : decode cX0_loadOf 12 = .ok (.iload_n 2, 1) := by decide +kernel
theorem dX0_loadOf_13 : decode cX0_loadOf 13 = .ok (.aload_n 0, 1) := by decide +kernel
theorem dX0_loadOf_14 : decode cX0_loadOf 14 = .ok (.iload_n 3, 1) := by decide +kernel
theorem dX0_loadOf_15 : decode cX0_loadOf 15 = .ok (.iload_n 1, 1) := by decide +kernel
theorem dX0_loadOf_16 : decode cX0_loadOf 16 = .ok (.invokevirtual 114, 3) := by decide +kernel
theorem dX0_loadOf_19 : decode cX0_loadOf 19 = .ok (.iadd, 1) := by decide +kernel
theorem dX0_loadOf_20 : decode cX0_loadOf 20 = .ok (.istore_n 2, 1) := by decide +kernel
theorem dX0_loadOf_21 : decode cX0_loadOf 21 = .ok (.iinc 3 1, 3) := by decide +kernel
theorem dX0_loadOf_24 : decode cX0_loadOf 24 = .ok (.goto (-20), 3) := by decide +kernel
theorem dX0_loadOf_27 : decode cX0_loadOf 27 = .ok (.iload_n 2, 1) := by decide +kernel
theorem dX0_loadOf_28 : decode cX0_loadOf 28 = .ok (.ireturn, 1) := by decide +kernel
theorem dX0_placeOf_0 : decode cX0_placeOf 0 = .ok (.iconst 0, 1) := by decide +kernel
theorem dX0_placeOf_1 : decode cX0_placeOf 1 = .ok (.istore_n 2, 1) := by decide +kernel
theorem dX0_placeOf_2 : decode cX0_placeOf 2 = .ok (.iload_n 2, 1) := by decide +kernel
theorem dX0_placeOf_3 : decode cX0_placeOf 3 = .ok (.aload_n 0, 1) := by decide +kernel
theorem dX0_placeOf_4 : decode cX0_placeOf 4 = .ok (.getfield 7, 3) := by decide +kernel
theorem dX0_placeOf_7 : decode cX0_placeOf 7 = .ok (.iconst 1, 1) := by decide +kernel
theorem dX0_placeOf_8 : decode cX0_placeOf 8 = .ok (.isub, 1) := by decide +kernel
theorem dX0_placeOf_9 : decode cX0_placeOf 9 = .ok (.if_icmp .ge 19, 3) := by decide +kernel
theorem dX0_placeOf_12 : decode cX0_placeOf 12 = .ok (.aload_n 0, 1) := by decide +kernel
theorem dX0_placeOf_13 : decode cX0_placeOf 13 = .ok (.getfield 29, 3) := by decide +kernel
theorem dX0_placeOf_16 : decode cX0_placeOf 16 = .ok (.iload_n 2, 1) := by decide +kernel
theorem dX0_placeOf_17 : decode cX0_placeOf 17 = .ok (.iaload, 1) := by decide +kernel
theorem dX0_placeOf_18 : decode cX0_placeOf 18 = .ok (.iload_n 1, 1) := by decide +kernel
theorem dX0_placeOf_19 : decode cX0_placeOf 19 = .ok (.if_icmp .eq 9, 3) := by decide +kernel
theorem dX0_placeOf_22 : decode cX0_placeOf 22 = .ok (.iinc 2 1, 3) := by decide +kernel
theorem dX0_placeOf_25 : decode cX0_placeOf 25 = .ok (.goto (-23), 3) := by decide +kernel
theorem dX0_placeOf_28 : decode cX0_placeOf 28 = .ok (.iload_n 2, 1) := by decide +kernel
theorem dX0_placeOf_29 : decode cX0_placeOf 29 = .ok (.ireturn, 1) := by decide +kernel
theorem dX0_shift_0 : decode cX0_shift 0 = .ok (.aload_n 0, 1) := by decide +kernel
theorem dX0_shift_1 : decode cX0_shift 1 = .ok (.iload_n 1, 1) := by decide +kernel
theorem dX0_shift_2 : decode cX0_shift 2 = .ok (.iaload, 1) := by decide +kernel
theorem dX0_shift_3 : decode cX0_shift 3 = .ok (.istore_n 3, 1) := by decide +kernel
theorem dX0_shift_4 : decode cX0_shift 4 = .ok (.iload_n 1, 1) := by decide +kernel
theorem dX0_shift_5 : decode cX0_shift 5 = .ok (.istore 4, 2) := by decide +kernel
theorem dX0_shift_7 : decode cX0_shift 7 = .ok (.iload 4, 2) := by decide +kernel
theorem dX0_shift_9 : decode cX0_shift 9 = .ok (.iload_n 2, 1) := by decide +kernel
theorem dX0_shift_10 : decode cX0_shift 10 = .ok (.if_icmp .ge 19, 3) := by decide +kernel
theorem dX0_shift_13 : decode cX0_shift 13 = .ok (.aload_n 0, 1) := by decide +kernel
theorem dX0_shift_14 : decode cX0_shift 14 = .ok (.iload 4, 2) := by decide +kernel
theorem dX0_shift_16 : decode cX0_shift 16 = .ok (.aload_n 0, 1) := by decide +kernel
theorem dX0_shift_17 : decode cX0_shift 17 = .ok (.iload 4, 2) := by decide +kernel
theorem dX0_shift_19 : decode cX0_shift 19 = .ok (.iconst 1, 1) := by decide +kernel
theorem dX0_shift_20 : decode cX0_shift 20 = .ok (.iadd, 1) := by decide +kernel
theorem dX0_shift_21 : decode cX0_shift 21 = .ok (.iaload, 1) := by decide +kernel
theorem dX0_shift_22 : decode cX0_shift 22 = .ok (.iastore, 1) := by decide +kernel
theorem dX0_shift_23 : decode cX0_shift 23 = .ok (.iinc 4 1, 3) := by decide +kernel
theorem dX0_shift_26 : decode cX0_shift 26 = .ok (.goto (-19), 3) := by decide +kernel
theorem dX0_shift_29 : decode cX0_shift 29 = .ok (.iload_n 1, 1) := by decide +kernel
theorem dX0_shift_30 : decode cX0_shift 30 = .ok (.istore 4, 2) := by decide +kernel
theorem dX0_shift_32 : decode cX0_shift 32 = .ok (.iload 4, 2) := by decide +kernel
theorem dX0_shift_34 : decode cX0_shift 34 = .ok (.iload_n 2, 1) := by decide +kernel
theorem dX0_shift_35 : decode cX0_shift 35 = .ok (.if_icmp .le 19, 3) := by decide +kernel
theorem dX0_shift_38 : decode cX0_shift 38 = .ok (.aload_n 0, 1) := by decide +kernel
theorem dX0_shift_39 : decode cX0_shift 39 = .ok (.iload 4, 2) := by decide +kernel
theorem dX0_shift_41 : decode cX0_shift 41 = .ok (.aload_n 0, 1) := by decide +kernel
theorem dX0_shift_42 : decode cX0_shift 42 = .ok (.iload 4, 2) := by decide +kernel
theorem dX0_shift_44 : decode cX0_shift 44 = .ok (.iconst 1, 1) := by decide +kernel
theorem dX0_shift_45 : decode cX0_shift 45 = .ok (.isub, 1) := by decide +kernel
theorem dX0_shift_46 : decode cX0_shift 46 = .ok (.iaload, 1) := by decide +kernel
theorem dX0_shift_47 : decode cX0_shift 47 = .ok (.iastore, 1) := by decide +kernel
theorem dX0_shift_48 : decode cX0_shift 48 = .ok (.iinc 4 (-1), 3) := by decide +kernel
theorem dX0_shift_51 : decode cX0_shift 51 = .ok (.goto (-19), 3) := by decide +kernel
theorem dX0_shift_54 : decode cX0_shift 54 = .ok (.aload_n 0, 1) := by decide +kernel
theorem dX0_shift_55 : decode cX0_shift 55 = .ok (.iload_n 2, 1) := by decide +kernel
theorem dX0_shift_56 : decode cX0_shift 56 = .ok (.iload_n 3, 1) := by decide +kernel
theorem dX0_shift_57 : decode cX0_shift 57 = .ok (.iastore, 1) := by decide +kernel
theorem dX0_shift_58 : decode cX0_shift 58 = .ok (.return_, 1) := by decide +kernel
set_option maxRecDepth 20000 in
theorem ggX0_makespanIfShifted_X0_shift : GoodIn wsX0_makespanIfShifted wsX0_shift := goodIn_r _ [10] (by decide +kernel) (by decide +kernel)
set_option maxRecDepth 20000 in
theorem gX0_makespanIfShifted_X0_shift : GoodIn wsX0_makespanIfShifted (va_wsS RX0 86 yX0_shift wsX0_shift) := goodIn_app (goodIn_of _ (by decide +kernel)) ggX0_makespanIfShifted_X0_shift
set_option maxRecDepth 20000 in
theorem ggX0_makespanIfShifted_X0_scheduleJob : GoodIn wsX0_makespanIfShifted wsX0_scheduleJob := goodIn_r _ [14, 15, 16, 17, 18, 19, 20, 21, 22, 23, 24, 9, 25, 26, 27, 28, 29, 30, 31, 32, 33, 34, 35, 36, 37, 42, 43, 44, 45, 46, 47, 48, 49, 50, 51, 52, 53, 54] (by decide +kernel) (by decide +kernel)
set_option maxRecDepth 20000 in
theorem gX0_makespanIfShifted_X0_scheduleJob : GoodIn wsX0_makespanIfShifted (wsV RX0 156 RX0 yX0_scheduleJob wsX0_scheduleJob) := goodIn_app (goodIn_of _ (by decide +kernel)) ggX0_makespanIfShifted_X0_scheduleJob
set_option maxRecDepth 20000 in
theorem ggX0_makespanIfShifted_X0_lastEnd : GoodIn wsX0_makespanIfShifted wsX0_lastEnd := goodIn_r _ [41, 21, 15, 30, 31, 9, 32, 42, 43, 44, 45, 46, 47, 48, 49, 50, 51, 52, 53, 54] (by decide +kernel) (by decide +kernel)
set_option maxRecDepth 20000 in
theorem gX0_makespanIfShifted_X0_lastEnd : GoodIn wsX0_makespanIfShifted (wsV RX0 160 RX0 yX0_lastEnd wsX0_lastEnd) := goodIn_app (goodIn_of _ (by decide +kernel)) ggX0_makespanIfShifted_X0_lastEnd
theorem dX0_makespanIfShifted_0 : decode cX0_makespanIfShifted 0 = .ok (.aload_n 0, 1) := by decide +kernel
theorem dX0_makespanIfShifted_1 : decode cX0_makespanIfShifted 1 = .ok (.getfield 29, 3) := by decide +kernel
theorem dX0_makespanIfShifted_4 : decode cX0_makespanIfShifted 4 = .ok (.iconst 0, 1) := by decide +kernel
theorem dX0_makespanIfShifted_5 : decode cX0_makespanIfShifted 5 = .ok (.aload_n 0, 1) := by decide +kernel
theorem dX0_makespanIfShifted_6 : decode cX0_makespanIfShifted 6 = .ok (.getfield 32, 3) := by decide +kernel
theorem dX0_makespanIfShifted_9 : decode cX0_makespanIfShifted 9 = .ok (.iconst 0, 1) := by decide +kernel
theorem dX0_makespanIfShifted_10 : decode cX0_makespanIfShifted 10 = .ok (.iload_n 3, 1) := by decide +kernel
theorem dX0_makespanIfShifted_11 : decode cX0_makespanIfShifted 11 = .ok (.invokestatic 150, 3) := by decide +kernel
theorem dX0_makespanIfShifted_14 : decode cX0_makespanIfShifted 14 = .ok (.aload_n 0, 1) := by decide +kernel
theorem dX0_makespanIfShifted_15 : decode cX0_makespanIfShifted 15 = .ok (.getfield 32, 3) := by decide +kernel
theorem dX0_makespanIfShifted_18 : decode cX0_makespanIfShifted 18 = .ok (.iload_n 1, 1) := by decide +kernel
theorem dX0_makespanIfShifted_19 : decode cX0_makespanIfShifted 19 = .ok (.iload_n 2, 1) := by decide +kernel
theorem dX0_makespanIfShifted_20 : decode cX0_makespanIfShifted 20 = .ok (.invokestatic 86, 3) := by decide +kernel
theorem dX0_makespanIfShifted_23 : decode cX0_makespanIfShifted 23 = .ok (.iconst 0, 1) := by decide +kernel
theorem dX0_makespanIfShifted_24 : decode cX0_makespanIfShifted 24 = .ok (.istore 4, 2) := by decide +kernel
theorem dX0_makespanIfShifted_26 : decode cX0_makespanIfShifted 26 = .ok (.iload 4, 2) := by decide +kernel
theorem dX0_makespanIfShifted_28 : decode cX0_makespanIfShifted 28 = .ok (.iload_n 3, 1) := by decide +kernel
theorem dX0_makespanIfShifted_29 : decode cX0_makespanIfShifted 29 = .ok (.if_icmp .ge 23, 3) := by decide +kernel
theorem dX0_makespanIfShifted_32 : decode cX0_makespanIfShifted 32 = .ok (.aload_n 0, 1) := by decide +kernel
theorem dX0_makespanIfShifted_33 : decode cX0_makespanIfShifted 33 = .ok (.iconst 0, 1) := by decide +kernel
theorem dX0_makespanIfShifted_34 : decode cX0_makespanIfShifted 34 = .ok (.iload 4, 2) := by decide +kernel
theorem dX0_makespanIfShifted_36 : decode cX0_makespanIfShifted 36 = .ok (.aload_n 0, 1) := by decide +kernel
theorem dX0_makespanIfShifted_37 : decode cX0_makespanIfShifted 37 = .ok (.getfield 32, 3) := by decide +kernel
theorem dX0_makespanIfShifted_40 : decode cX0_makespanIfShifted 40 = .ok (.iload 4, 2) := by decide +kernel
theorem dX0_makespanIfShifted_42 : decode cX0_makespanIfShifted 42 = .ok (.iaload, 1) := by decide +kernel
theorem dX0_makespanIfShifted_43 : decode cX0_makespanIfShifted 43 = .ok (.invokevirtual 156, 3) := by decide +kernel
theorem dX0_makespanIfShifted_46 : decode cX0_makespanIfShifted 46 = .ok (.iinc 4 1, 3) := by decide +kernel
theorem dX0_makespanIfShifted_49 : decode cX0_makespanIfShifted 49 = .ok (.goto (-23), 3) := by decide +kernel
theorem dX0_makespanIfShifted_52 : decode cX0_makespanIfShifted 52 = .ok (.aload_n 0, 1) := by decide +kernel
theorem dX0_makespanIfShifted_53 : decode cX0_makespanIfShifted 53 = .ok (.iload_n 3, 1) := by decide +kernel
theorem dX0_makespanIfShifted_54 : decode cX0_makespanIfShifted 54 = .ok (.invokevirtual 160, 3) := by decide +kernel
theorem dX0_makespanIfShifted_57 : decode cX0_makespanIfShifted 57 = .ok (.ireturn, 1) := by decide +kernel
set_option maxRecDepth 20000 in
theorem ggX0_placeForLast_X0_makespanIfShifted : GoodIn wsX0_placeForLast wsX0_makespanIfShifted := goodIn_r _ [5, 6, 7, 8, 9, 10, 11, 12, 13, 4, 14, 15, 16, 17, 18, 19, 20, 21, 22, 23, 24, 25, 26, 27, 28, 29, 30, 31, 32, 33, 34, 35, 36, 37, 38, 39, 40, 41, 42, 43, 44, 45, 46, 47, 48, 49, 50, 51, 52, 53, 54, 55, 56, 57, 58] (by decide +kernel) (by decide +kernel)
set_option maxRecDepth 20000 in
theorem gX0_placeForLast_X0_makespanIfShifted : GoodIn wsX0_placeForLast (wsV RX0 90 RX0 yX0_makespanIfShifted wsX0_makespanIfShifted) := goodIn_app (goodIn_of _ (by decide +kernel)) ggX0_placeForLast_X0_makespanIfShifted
theorem dX0_placeForLast_0 : decode cX0_placeForLast 0 = .ok (.iconst 0, 1) := by decide +kernel
theorem dX0_placeForLast_1 : decode cX0_placeForLast 1 = .ok (.istore_n 2, 1) := by decide +kernel
theorem dX0_placeForLast_2 : decode cX0_placeForLast 2 = .ok (.aload_n 0, 1) := by decide +kernel
theorem dX0_placeForLast_3 : decode cX0_placeForLast 3 = .ok (.iload_n 1, 1) := by decide +kernel
theorem dX0_placeForLast_4 : decode cX0_placeForLast 4 = .ok (.iconst 0, 1) := by decide +kernel
theorem dX0_placeForLast_5 : decode cX0_placeForLast 5 = .ok (.iload_n 1, 1) := by decide +kernel
theorem dX0_placeForLast_6 : decode cX0_placeForLast 6 = .ok (.iconst 1, 1) := by decide +kernel
theorem dX0_placeForLast_7 : decode cX0_placeForLast 7 = .ok (.iadd, 1) := by decide +kernel
theorem dX0_placeForLast_8 : decode cX0_placeForLast 8 = .ok (.invokevirtual 90, 3) := by decide +kernel
theorem dX0_placeForLast_11 : decode cX0_placeForLast 11 = .ok (.istore_n 3, 1) := by decide +kernel
theorem dX0_placeForLast_12 : decode cX0_placeForLast 12 = .ok (.iconst 1, 1) := by decide +kernel
theorem dX0_placeForLast_13 : decode cX0_placeForLast 13 = .ok (.istore 4, 2) := by decide +kernel
theorem dX0_placeForLast_15 : decode cX0_placeForLast 15 = .ok (.iload 4, 2) := by decide +kernel
theorem dX0_placeForLast_17 : decode cX0_placeForLast 17 = .ok (.iload_n 1, 1) := by decide +kernel
theorem dX0_placeForLast_18 : decode cX0_placeForLast 18 = .ok (.if_icmp .gt 33, 3) := by decide +kernel
theorem dX0_placeForLast_21 : decode cX0_placeForLast 21 = .ok (.aload_n 0, 1) := by decide +kernel
theorem dX0_placeForLast_22 : decode cX0_placeForLast 22 = .ok (.iload_n 1, 1) := by decide +kernel
theorem dX0_placeForLast_23 : decode cX0_placeForLast 23 = .ok (.iload 4, 2) := by decide +kernel
theorem dX0_placeForLast_25 : decode cX0_placeForLast 25 = .ok (.iload_n 1, 1) := by decide +kernel
theorem dX0_placeForLast_26 : decode cX0_placeForLast 26 = .ok (.iconst 1, 1) := by decide +kernel
theorem dX0_placeForLast_27 : decode cX0_placeForLast 27 = .ok (.iadd, 1) := by decide +kernel
theorem dX0_placeForLast_28 : decode cX0_placeForLast 28 = .ok (.invokevirtual 90, 3) := by decide +kernel
theorem dX0_placeForLast_31 : decode cX0_placeForLast 31 = .ok (.istore 5, 2) := by decide +kernel
theorem dX0_placeForLast_33 : decode cX0_placeForLast 33 = .ok (.iload 5, 2) := by decide +kernel
theorem dX0_placeForLast_35 : decode cX0_placeForLast 35 = .ok (.iload_n 3, 1) := by decide +kernel
theorem dX0_placeForLast_36 : decode cX0_placeForLast 36 = .ok (.if_icmp .ge 9, 3) := by decide +kernel
theorem dX0_placeForLast_39 : decode cX0_placeForLast 39 = .ok (.iload 5, 2) := by decide +kernel
theorem dX0_placeForLast_41 : decode cX0_placeForLast 41 = .ok (.istore_n 3, 1) := by decide +kernel
theorem dX0_placeForLast_42 : decode cX0_placeForLast 42 = .ok (.iload 4, 2) := by decide +kernel
theorem dX0_placeForLast_44 : decode cX0_placeForLast 44 = .ok (.istore_n 2, 1) := by decide +kernel
theorem dX0_placeForLast_45 : decode cX0_placeForLast 45 = .ok (.iinc 4 1, 3) := by decide +kernel
theorem dX0_placeForLast_48 : decode cX0_placeForLast 48 = .ok (.goto (-33), 3) := by decide +kernel
theorem dX0_placeForLast_51 : decode cX0_placeForLast 51 = .ok (.iload_n 2, 1) := by decide +kernel
theorem dX0_placeForLast_52 : decode cX0_placeForLast 52 = .ok (.ireturn, 1) := by decide +kernel
set_option maxRecDepth 20000 in
theorem ggX0_fillQueueBySum_X0_sumOf : GoodIn wsX0_fillQueueBySum wsX0_sumOf := goodIn_r _ [8, 9, 10, 11, 7, 12, 13, 14, 15, 16, 17, 18, 19, 20, 21, 22, 23, 24, 25, 26, 27, 28, 29] (by decide +kernel) (by decide +kernel)
set_option maxRecDepth 20000 in
theorem gX0_fillQueueBySum_X0_sumOf : GoodIn wsX0_fillQueueBySum (wsV RX0 142 RX0 yX0_sumOf wsX0_sumOf) := goodIn_app (goodIn_of _ (by decide +kernel)) ggX0_fillQueueBySum_X0_sumOf
theorem dX0_fillQueueBySum_0 : decode cX0_fillQueueBySum 0 = .ok (.iconst 0, 1) := by decide +kernel
theorem dX0_fillQueueBySum_1 : decode cX0_fillQueueBySum 1 = .ok (.istore_n 1, 1) := by decide +kernel
theorem dX0_fillQueueBySum_2 : decode cX0_fillQueueBySum 2 = .ok (.iload_n 1, 1) := by decide +kernel
theorem dX0_fillQueueBySum_3 : decode cX0_fillQueueBySum 3 = .ok (.aload_n 0, 1) := by decide +kernel
theorem dX0_fillQueueBySum_4 : decode cX0_fillQueueBySum 4 = .ok (.getfield 7, 3) := by decide +kernel
theorem dX0_fillQueueBySum_7 : decode cX0_fillQueueBySum 7 = .ok (.if_icmp .ge 74, 3) := by decide +kernel
theorem dX0_fillQueueBySum_10 : decode cX0_fillQueueBySum 10 = .ok (.aload_n 0, 1) := by decide +kernel
theorem dX0_fillQueueBySum_11 : decode cX0_fillQueueBySum 11 = .ok (.iload_n 1, 1) := by decide +kernel
theorem dX0_fillQueueBySum_12 : decode cX0_fillQueueBySum 12 = .ok (.iconst 0, 1) := by decide +kernel
theorem dX0_fillQueueBySum_13 : decode cX0_fillQueueBySum 13 = .ok (.aload_n 0, 1) := by decide +kernel
theorem dX0_fillQueueBySum_14 : decode cX0_fillQueueBySum 14 = .ok (.getfield 13, 3) := by decide +kernel
theorem dX0_fillQueueBySum_17 : decode cX0_fillQueueBySum 17 = .ok (.invokevirtual 142, 3) := by decide +kernel
theorem dX0_fillQueueBySum_20 : decode cX0_fillQueueBySum 20 = .ok (.istore_n 2, 1) := by decide +kernel
theorem dX0_fillQueueBySum_21 : decode cX0_fillQueueBySum 21 = .ok (.iload_n 1, 1) := by decide +kernel
theorem dX0_fillQueueBySum_22 : decode cX0_fillQueueBySum 22 = .ok (.istore_n 3, 1) := by decide +kernel
theorem dX0_fillQueueBySum_23 : decode cX0_fillQueueBySum 23 = .ok (.iload_n 3, 1) := by decide +kernel
theorem dX0_fillQueueBySum_24 : decode cX0_fillQueueBySum 24 = .ok (.ifCond .le 44, 3) := by decide +kernel
theorem dX0_fillQueueBySum_27 : decode cX0_fillQueueBySum 27 = .ok (.iload_n 2, 1) := by decide +kernel
theorem dX0_fillQueueBySum_28 : decode cX0_fillQueueBySum 28 = .ok (.aload_n 0, 1) := by decide +kernel
theorem dX0_fillQueueBySum_29 : decode cX0_fillQueueBySum 29 = .ok (.aload_n 0, 1) := by decide +kernel
theorem dX0_fillQueueBySum_30 : decode cX0_fillQueueBySum 30 = .ok (.getfield 35, 3) := by decide +kernel
theorem dX0_fillQueueBySum_33 : decode cX0_fillQueueBySum 33 = .ok (.iload_n 3, 1) := by decide +kernel
theorem dX0_fillQueueBySum_34 : decode cX0_fillQueueBySum 34 = .ok (.iconst 1, 1) := by decide +kernel
theorem dX0_fillQueueBySum_35 : decode cX0_fillQueueBySum 35 = .ok (.isub, 1) := by decide +kernel
theorem dX0_fillQueueBySum_36 : decode cX0_fillQueueBySum 36 = .ok (.iaload, 1) := by decide +kernel
theorem dX0_fillQueueBySum_37 : decode cX0_fillQueueBySum 37 = .ok (.iconst 0, 1) := by decide +kernel
theorem dX0_fillQueueBySum_38 : decode cX0_fillQueueBySum 38 = .ok (.aload_n 0, 1) := by decide +kernel
theorem dX0_fillQueueBySum_39 : decode cX0_fillQueueBySum 39 = .ok (.getfield 13, 3) := by decide +kernel
theorem dX0_fillQueueBySum_42 : decode cX0_fillQueueBySum 42 = .ok (.invokevirtual 142, 3) := by decide +kernel
theorem dX0_fillQueueBySum_45 : decode cX0_fillQueueBySum 45 = .ok (.if_icmp .le 23, 3) := by decide +kernel
theorem dX0_fillQueueBySum_48 : decode cX0_fillQueueBySum 48 = .ok (.aload_n 0, 1) := by decide +kernel
theorem dX0_fillQueueBySum_49 : decode cX0_fillQueueBySum 49 = .ok (.getfield 35, 3) := by decide +kernel
theorem dX0_fillQueueBySum_52 : decode cX0_fillQueueBySum 52 = .ok (.iload_n 3, 1) := by decide +kernel
theorem dX0_fillQueueBySum_53 : decode cX0_fillQueueBySum 53 = .ok (.aload_n 0, 1) := by decide +kernel
theorem dX0_fillQueueBySum_54 : decode cX0_fillQueueBySum 54 = .ok (.getfield 35, 3) := by decide +kernel
theorem dX0_fillQueueBySum_57 : decode cX0_fillQueueBySum 57 = .ok (.iload_n 3, 1) := by decide +kernel
theorem dX0_fillQueueBySum_58 : decode cX0_fillQueueBySum 58 = .ok (.iconst 1, 1) := by decide +kernel
theorem dX0_fillQueueBySum_59 : decode cX0_fillQueueBySum 59 = .ok (.isub, 1) := by decide +kernel
theorem dX0_fillQueueBySum_60 : decode cX0_fillQueueBySum 60 = .ok (.iaload, 1) := by decide +kernel
theorem dX0_fillQueueBySum_61 : decode cX0_fillQueueBySum 61 = .ok (.iastore, 1) := by decide +kernel
theorem dX0_fillQueueBySum_62 : decode cX0_fillQueueBySum 62 = .ok (.iinc 3 (-1), 3) := by decide +kernel
theorem dX0_fillQueueBySum_65 : decode cX0_fillQueueBySum 65 = .ok (.goto (-42), 3) := by decide +kernel
theorem dX0_fillQueueBySum_68 : decode cX0_fillQueueBySum 68 = .ok (.aload_n 0, 1) := by decide +kernel
theorem dX0_fillQueueBySum_69 : decode cX0_fillQueueBySum 69 = .ok (.getfield 35, 3) := by decide +kernel
theorem dX0_fillQueueBySum_72 : decode cX0_fillQueueBySum 72 = .ok (.iload_n 3, 1) := by decide +kernel
theorem dX0_fillQueueBySum_73 : decode cX0_fillQueueBySum 73 = .ok (.iload_n 1, 1) := by decide +kernel
theorem dX0_fillQueueBySum_74 : decode cX0_fillQueueBySum 74 = .ok (.iastore, 1) := by decide +kernel
theorem dX0_fillQueueBySum_75 : decode cX0_fillQueueBySum 75 = .ok (.iinc 1 1, 3) := by decide +kernel
theorem dX0_fillQueueBySum_78 : decode cX0_fillQueueBySum 78 = .ok (.goto (-76), 3) := by decide +kernel
theorem dX0_fillQueueBySum_81 : decode cX0_fillQueueBySum 81 = .ok (.return_, 1) := by decide +kernel
set_option maxRecDepth 20000 in
theorem ggX0_fillByRule_X0_goesBefore : GoodIn wsX0_fillByRule wsX0_goesBefore := goodIn_r _ [6, 7, 8, 9, 5, 10, 11, 12, 13, 14, 15, 16, 17, 18, 19, 20, 21, 22, 23, 24, 25, 26, 27] (by decide +kernel) (by decide +kernel)
set_option maxRecDepth 20000 in
theorem gX0_fillByRule_X0_goesBefore : GoodIn wsX0_fillByRule (wsV RX0 163 RX0 yX0_goesBefore wsX0_goesBefore) := goodIn_app (goodIn_of _ (by decide +kernel)) ggX0_fillByRule_X0_goesBefore
theorem dX0_fillByRule_0 : decode cX0_fillByRule 0 = .ok (.iconst 0, 1) := by decide +kernel
theorem dX0_fillByRule_1 : decode cX0_fillByRule 1 = .ok (.istore 4, 2) := by decide +kernel
theorem dX0_fillByRule_3 : decode cX0_fillByRule 3 = .ok (.iload 4, 2) := by decide +kernel
theorem dX0_fillByRule_5 : decode cX0_fillByRule 5 = .ok (.aload_n 0, 1) := by decide +kernel
theorem dX0_fillByRule_6 : decode cX0_fillByRule 6 = .ok (.getfield 7, 3) := by decide +kernel
theorem dX0_fillByRule_9 : decode cX0_fillByRule 9 = .ok (.if_icmp .ge 57, 3) := by decide +kernel
theorem dX0_fillByRule_12 : decode cX0_fillByRule 12 = .ok (.iload 4, 2) := by decide +kernel
theorem dX0_fillByRule_14 : decode cX0_fillByRule 14 = .ok (.istore 5, 2) := by decide +kernel
theorem dX0_fillByRule_16 : decode cX0_fillByRule 16 = .ok (.iload 5, 2) := by decide +kernel
theorem dX0_fillByRule_18 : decode cX0_fillByRule 18 = .ok (.ifCond .le 36, 3) := by decide +kernel
theorem dX0_fillByRule_21 : decode cX0_fillByRule 21 = .ok (.aload_n 0, 1) := by decide +kernel
theorem dX0_fillByRule_22 : decode cX0_fillByRule 22 = .ok (.iload 4, 2) := by decide +kernel
theorem dX0_fillByRule_24 : decode cX0_fillByRule 24 = .ok (.aload_n 1, 1) := by decide +kernel
theorem dX0_fillByRule_25 : decode cX0_fillByRule 25 = .ok (.iload 5, 2) := by decide +kernel
theorem dX0_fillByRule_27 : decode cX0_fillByRule 27 = .ok (.iconst 1, 1) := by decide +kernel
theorem dX0_fillByRule_28 : decode cX0_fillByRule 28 = .ok (.isub, 1) := by decide +kernel
theorem dX0_fillByRule_29 : decode cX0_fillByRule 29 = .ok (.iaload, 1) := by decide +kernel
theorem dX0_fillByRule_30 : decode cX0_fillByRule 30 = .ok (.iload_n 2, 1) := by decide +kernel
theorem dX0_fillByRule_31 : decode cX0_fillByRule 31 = .ok (.iload_n 3, 1) := by decide +kernel
theorem dX0_fillByRule_32 : decode cX0_fillByRule 32 = .ok (.invokevirtual 163, 3) := by decide +kernel
theorem dX0_fillByRule_35 : decode cX0_fillByRule 35 = .ok (.ifCond .eq 19, 3) := by decide +kernel
theorem dX0_fillByRule_38 : decode cX0_fillByRule 38 = .ok (.aload_n 1, 1) := by decide +kernel
theorem dX0_fillByRule_39 : decode cX0_fillByRule 39 = .ok (.iload 5, 2) := by decide +kernel
theorem dX0_fillByRule_41 : decode cX0_fillByRule 41 = .ok (.aload_n 1, 1) := by decide +kernel
theorem dX0_fillByRule_42 : decode cX0_fillByRule 42 = .ok (.iload 5, 2) := by decide +kernel
theorem dX0_fillByRule_44 : decode cX0_fillByRule 44 = .ok (.iconst 1, 1) := by decide +kernel
theorem dX0_fillByRule_45 : decode cX0_fillByRule 45 = .ok (.isub, 1) := by decide +kernel
theorem dX0_fillByRule_46 : decode cX0_fillByRule 46 = .ok (.iaload, 1) := by decide +kernel
theorem dX0_fillByRule_47 : decode cX0_fillByRule 47 = .ok (.iastore, 1) := by decide +kernel
theorem dX0_fillByRule_48 : decode cX0_fillByRule 48 = .ok (.iinc 5 (-1), 3) := by decide +kernel
theorem dX0_fillByRule_51 : decode cX0_fillByRule 51 = .ok (.goto (-35), 3) := by decide +kernel
theorem dX0_fillByRule_54 : decode cX0_fillByRule 54 = .ok (.aload_n 1, 1) := by decide +kernel
theorem dX0_fillByRule_55 : decode cX0_fillByRule 55 = .ok (.iload 5, 2) := by decide +kernel
theorem dX0_fillByRule_57 : decode cX0_fillByRule 57 = .ok (.iload 4, 2) := by decide +kernel
theorem dX0_fillByRule_59 : decode cX0_fillByRule 59 = .ok (.iastore, 1) := by decide +kernel
theorem dX0_fillByRule_60 : decode cX0_fillByRule 60 = .ok (.iinc 4 1, 3) := by decide +kernel
theorem dX0_fillByRule_63 : decode cX0_fillByRule 63 = .ok (.goto (-60), 3) := by decide +kernel
theorem dX0_fillByRule_66 : decode cX0_fillByRule 66 = .ok (.return_, 1) := by decide +kernel
set_option maxRecDepth 20000 in
theorem ggX0_goesBefore_X0_timeOf : GoodIn wsX0_goesBefore wsX0_timeOf := goodIn_r _ [5, 6, 7, 8, 4, 9, 10, 11, 12, 13, 14, 15, 16, 17, 18, 19, 20, 21, 22] (by decide +kernel) (by decide +kernel)
set_option maxRecDepth 20000 in
theorem gX0_goesBefore_X0_timeOf : GoodIn wsX0_goesBefore (wsV RX0 114 RX0 yX0_timeOf wsX0_timeOf) := goodIn_app (goodIn_of _ (by decide +kernel)) ggX0_goesBefore_X0_timeOf
theorem dX0_goesBefore_0 : decode cX0_goesBefore 0 = .ok (.aload_n 0, 1) := by decide +kernel
theorem dX0_goesBefore_1 : decode cX0_goesBefore 1 = .ok (.iload_n 1, 1) := by decide +kernel
theorem dX0_goesBefore_2 : decode cX0_goesBefore 2 = .ok (.iload_n 3, 1) := by decide +kernel
theorem dX0_goesBefore_3 : decode cX0_goesBefore 3 = .ok (.invokevirtual 114, 3) := by decide +kernel
theorem dX0_goesBefore_6 : decode cX0_goesBefore 6 = .ok (.aload_n 0, 1) := by decide +kernel
theorem dX0_goesBefore_7 : decode cX0_goesBefore 7 = .ok (.iload_n 1, 1) := by decide +kernel
theorem dX0_goesBefore_8 : decode cX0_goesBefore 8 = .ok (.iload 4, 2) := by decide +kernel
theorem dX0_goesBefore_10 : decode cX0_goesBefore 10 = .ok (.invokevirtual 114, 3) := by decide +kernel
theorem dX0_goesBefore_13 : decode cX0_goesBefore 13 = .ok (.if_icmp .gt 7, 3) := by decide +kernel
theorem dX0_goesBefore_16 : decode cX0_goesBefore 16 = .ok (.iconst 1, 1) := by decide +kernel
theorem dX0_goesBefore_17 : decode cX0_goesBefore 17 = .ok (.goto 4, 3) := by decide +kernel
theorem dX0_goesBefore_20 : decode cX0_goesBefore 20 = .ok (.iconst 0, 1) := by decide +kernel
theorem dX0_goesBefore_21 : decode cX0_goesBefore 21 = .ok (.istore 5, 2) := by decide +kernel
theorem dX0_goesBefore_23 : decode cX0_goesBefore 23 = .ok (.aload_n 0, 1) := by decide +kernel
theorem dX0_goesBefore_24 : decode cX0_goesBefore 24 = .ok (.iload_n 2, 1) := by decide +kernel
theorem dX0_goesBefore_25 : decode cX0_goesBefore 25 = .ok (.iload_n 3, 1) := by decide +kernel
theorem dX0_goesBefore_26 : decode cX0_goesBefore 26 = .ok (.invokevirtual 114, 3) := by decide +kernel
theorem dX0_goesBefore_29 : decode cX0_goesBefore 29 = .ok (.aload_n 0, 1) := by decide +kernel
theorem dX0_goesBefore_30 : decode cX0_goesBefore 30 = .ok (.iload_n 2, 1) := by decide +kernel
theorem dX0_goesBefore_31 : decode cX0_goesBefore 31 = .ok (.iload 4, 2) := by decide +kernel
theorem dX0_goesBefore_33 : decode cX0_goesBefore 33 = .ok (.invokevirtual 114, 3) := by decide +kernel
theorem dX0_goesBefore_36 : decode cX0_goesBefore 36 = .ok (.if_icmp .gt 7, 3) := by decide +kernel
theorem dX0_goesBefore_39 : decode cX0_goesBefore 39 = .ok (.iconst 1, 1) := by decide +kernel
theorem dX0_goesBefore_40 : decode cX0_goesBefore 40 = .ok (.goto 4, 3) := by decide +kernel
theorem dX0_goesBefore_43 : decode cX0_goesBefore 43 = .ok (.iconst 0, 1) := by decide +kernel
theorem dX0_goesBefore_44 : decode cX0_goesBefore 44 = .ok (.istore 6, 2) := by decide +kernel
theorem dX0_goesBefore_46 : decode cX0_goesBefore 46 = .ok (.iload 5, 2) := by decide +kernel
theorem dX0_goesBefore_48 : decode cX0_goesBefore 48 = .ok (.iload 6, 2) := by decide +kernel
theorem dX0_goesBefore_50 : decode cX0_goesBefore 50 = .ok (.if_icmp .eq 6, 3) := by decide +kernel
theorem dX0_goesBefore_53 : decode cX0_goesBefore 53 = .ok (.iload 5, 2) := by decide +kernel
theorem dX0_goesBefore_55 : decode cX0_goesBefore 55 = .ok (.ireturn, 1) := by decide +kernel
theorem dX0_goesBefore_56 : decode cX0_goesBefore 56 = .ok (.iload 5, 2) := by decide +kernel
theorem dX0_goesBefore_58 : decode cX0_goesBefore 58 = .ok (.ifCond .eq 24, 3) := by decide +kernel
theorem dX0_goesBefore_61 : decode cX0_goesBefore 61 = .ok (.aload_n 0, 1) := by decide +kernel
theorem dX0_goesBefore_62 : decode cX0_goesBefore 62 = .ok (.iload_n 1, 1) := by decide +kernel
theorem dX0_goesBefore_63 : decode cX0_goesBefore 63 = .ok (.iload_n 3, 1) := by decide +kernel
theorem dX0_goesBefore_64 : decode cX0_goesBefore 64 = .ok (.invokevirtual 114, 3) := by decide +kernel
theorem dX0_goesBefore_67 : decode cX0_goesBefore 67 = .ok (.aload_n 0, 1) := by decide +kernel
theorem dX0_goesBefore_68 : decode cX0_goesBefore 68 = .ok (.iload_n 2, 1) := by decide +kernel
theorem dX0_goesBefore_69 : decode cX0_goesBefore 69 = .ok (.iload_n 3, 1) := by decide +kernel
theorem dX0_goesBefore_70 : decode cX0_goesBefore 70 = .ok (.invokevirtual 114, 3) := by decide +kernel
theorem dX0_goesBefore_73 : decode cX0_goesBefore 73 = .ok (.if_icmp .ge 7, 3) := by decide +kernel
theorem dX0_goesBefore_76 : decode cX0_goesBefore 76 = .ok (.iconst 1, 1) := by decide +kernel
theorem dX0_goesBefore_77 : decode cX0_goesBefore 77 = .ok (.goto 4, 3) := by decide +kernel
theorem dX0_goesBefore_80 : decode cX0_goesBefore 80 = .ok (.iconst 0, 1) := by decide +kernel
theorem dX0_goesBefore_81 : decode cX0_goesBefore 81 = .ok (.ireturn, 1) := by decide +kernel
theorem dX0_goesBefore_82 : decode cX0_goesBefore 82 = .ok (.aload_n 0, 1) := by decide +kernel
theorem dX0_goesBefore_83 : decode cX0_goesBefore 83 = .ok (.iload_n 1, 1) := by decide +kernel
theorem dX0_goesBefore_84 : decode cX0_goesBefore 84 = .ok (.iload 4, 2) := by decide +kernel
theorem dX0_goesBefore_86 : decode cX0_goesBefore 86 = .ok (.invokevirtual 114, 3) := by decide +kernel
theorem dX0_goesBefore_89 : decode cX0_goesBefore 89 = .ok (.aload_n 0, 1) := by decide +kernel
theorem dX0_goesBefore_90 : decode cX0_goesBefore 90 = .ok (.iload_n 2, 1) := by decide +kernel
theorem dX0_goesBefore_91 : decode cX0_goesBefore 91 = .ok (.iload 4, 2) := by decide +kernel
theorem dX0_goesBefore_93 : decode cX0_goesBefore 93 = .ok (.invokevirtual 114, 3) := by decide +kernel
theorem dX0_goesBefore_96 : decode cX0_goesBefore 96 = .ok (.if_icmp .le 7, 3) := by decide +kernel
theorem dX0_goesBefore_99 : decode cX0_goesBefore 99 = .ok (.iconst 1, 1) := by decide +kernel
theorem dX0_goesBefore_100 : decode cX0_goesBefore 100 = .ok (.goto 4, 3) := by decide +kernel
theorem dX0_goesBefore_103 : decode cX0_goesBefore 103 = .ok (.iconst 0, 1) := by decide +kernel
theorem dX0_goesBefore_104 : decode cX0_goesBefore 104 = .ok (.ireturn, 1) := by decide +kernel
set_option maxRecDepth 20000 in
theorem ggX0_leastOfPair_X0_fillByRule : GoodIn wsX0_leastOfPair wsX0_fillByRule := goodIn_r _ [11, 2, 12, 13, 14, 10, 15, 16, 17, 18, 19, 20, 21, 22, 23, 24, 25, 26, 27, 28, 29, 30, 31, 32, 33, 34, 35, 36] (by decide +kernel) (by decide +kernel)
set_option maxRecDepth 20000 in
theorem gX0_leastOfPair_X0_fillByRule : GoodIn wsX0_leastOfPair (wsV RX0 96 RX0 yX0_fillByRule wsX0_fillByRule) := goodIn_app (goodIn_of _ (by decide +kernel)) ggX0_leastOfPair_X0_fillByRule
set_option maxRecDepth 20000 in
theorem ggX0_leastOfPair_X0_timeOf : GoodIn wsX0_leastOfPair wsX0_timeOf := goodIn_r _ [19, 20, 21, 22, 10, 23, 24, 25, 26, 27, 28, 29, 30, 31, 32, 33, 34, 35, 36] (by decide +kernel) (by decide +kernel)
set_option maxRecDepth 20000 in
theorem gX0_leastOfPair_X0_timeOf : GoodIn wsX0_leastOfPair (wsV RX0 114 RX0 yX0_timeOf wsX0_timeOf) := goodIn_app (goodIn_of _ (by decide +kernel)) ggX0_leastOfPair_X0_timeOf
theorem dX0_leastOfPair_0 : decode cX0_leastOfPair 0 = .ok (.aload_n 0, 1) := by decide +kernel
theorem dX0_leastOfPair_1 : decode cX0_leastOfPair 1 = .ok (.aload_n 0, 1) := by decide +kernel
theorem dX0_leastOfPair_2 : decode cX0_leastOfPair 2 = .ok (.getfield 32, 3) := by decide +kernel
theorem dX0_leastOfPair_5 : decode cX0_leastOfPair 5 = .ok (.iload_n 1, 1) := by decide +kernel
theorem dX0_leastOfPair_6 : decode cX0_leastOfPair 6 = .ok (.iload_n 2, 1) := by decide +kernel
theorem dX0_leastOfPair_7 : decode cX0_leastOfPair 7 = .ok (.invokevirtual 96, 3) := by decide +kernel
theorem dX0_leastOfPair_10 : decode cX0_leastOfPair 10 = .ok (.iconst 0, 1) := by decide +kernel
theorem dX0_leastOfPair_11 : decode cX0_leastOfPair 11 = .ok (.istore_n 3, 1) := by decide +kernel
theorem dX0_leastOfPair_12 : decode cX0_leastOfPair 12 = .ok (.iconst 0, 1) := by decide +kernel
theorem dX0_leastOfPair_13 : decode cX0_leastOfPair 13 = .ok (.istore 4, 2) := by decide +kernel
theorem dX0_leastOfPair_15 : decode cX0_leastOfPair 15 = .ok (.iconst 0, 1) := by decide +kernel
theorem dX0_leastOfPair_16 : decode cX0_leastOfPair 16 = .ok (.istore 5, 2) := by decide +kernel
theorem dX0_leastOfPair_18 : decode cX0_leastOfPair 18 = .ok (.iload 5, 2) := by decide +kernel
theorem dX0_leastOfPair_20 : decode cX0_leastOfPair 20 = .ok (.aload_n 0, 1) := by decide +kernel
theorem dX0_leastOfPair_21 : decode cX0_leastOfPair 21 = .ok (.getfield 7, 3) := by decide +kernel
theorem dX0_leastOfPair_24 : decode cX0_leastOfPair 24 = .ok (.if_icmp .ge 45, 3) := by decide +kernel
theorem dX0_leastOfPair_27 : decode cX0_leastOfPair 27 = .ok (.iload_n 3, 1) := by decide +kernel
theorem dX0_leastOfPair_28 : decode cX0_leastOfPair 28 = .ok (.aload_n 0, 1) := by decide +kernel
theorem dX0_leastOfPair_29 : decode cX0_leastOfPair 29 = .ok (.aload_n 0, 1) := by decide +kernel
theorem dX0_leastOfPair_30 : decode cX0_leastOfPair 30 = .ok (.getfield 32, 3) := by decide +kernel
theorem dX0_leastOfPair_33 : decode cX0_leastOfPair 33 = .ok (.iload 5, 2) := by decide +kernel
theorem dX0_leastOfPair_35 : decode cX0_leastOfPair 35 = .ok (.iaload, 1) := by decide +kernel
theorem dX0_leastOfPair_36 : decode cX0_leastOfPair 36 = .ok (.iload_n 1, 1) := by decide +kernel
theorem dX0_leastOfPair_37 : decode cX0_leastOfPair 37 = .ok (.invokevirtual 114, 3) := by decide +kernel
theorem dX0_leastOfPair_40 : decode cX0_leastOfPair 40 = .ok (.iadd, 1) := by decide +kernel
theorem dX0_leastOfPair_41 : decode cX0_leastOfPair 41 = .ok (.istore_n 3, 1) := by decide +kernel
theorem dX0_leastOfPair_42 : decode cX0_leastOfPair 42 = .ok (.iload_n 3, 1) := by decide +kernel
theorem dX0_leastOfPair_43 : decode cX0_leastOfPair 43 = .ok (.iload 4, 2) := by decide +kernel
theorem dX0_leastOfPair_45 : decode cX0_leastOfPair 45 = .ok (.invokestatic 167, 3) := by decide +kernel
theorem dX0_leastOfPair_48 : decode cX0_leastOfPair 48 = .ok (.aload_n 0, 1) := by decide +kernel
theorem dX0_leastOfPair_49 : decode cX0_leastOfPair 49 = .ok (.aload_n 0, 1) := by decide +kernel
theorem dX0_leastOfPair_50 : decode cX0_leastOfPair 50 = .ok (.getfield 32, 3) := by decide +kernel
theorem dX0_leastOfPair_53 : decode cX0_leastOfPair 53 = .ok (.iload 5, 2) := by decide +kernel
theorem dX0_leastOfPair_55 : decode cX0_leastOfPair 55 = .ok (.iaload, 1) := by decide +kernel
theorem dX0_leastOfPair_56 : decode cX0_leastOfPair 56 = .ok (.iload_n 2, 1) := by decide +kernel
theorem dX0_leastOfPair_57 : decode cX0_leastOfPair 57 = .ok (.invokevirtual 114, 3) := by decide +kernel
theorem dX0_leastOfPair_60 : decode cX0_leastOfPair 60 = .ok (.iadd, 1) := by decide +kernel
theorem dX0_leastOfPair_61 : decode cX0_leastOfPair 61 = .ok (.istore 4, 2) := by decide +kernel
theorem dX0_leastOfPair_63 : decode cX0_leastOfPair 63 = .ok (.iinc 5 1, 3) := by decide +kernel
theorem dX0_leastOfPair_66 : decode cX0_leastOfPair 66 = .ok (.goto (-48), 3) := by decide +kernel
theorem dX0_leastOfPair_69 : decode cX0_leastOfPair 69 = .ok (.iload 4, 2) := by decide +kernel
theorem dX0_leastOfPair_71 : decode cX0_leastOfPair 71 = .ok (.ireturn, 1) := by decide +kernel
set_option maxRecDepth 20000 in
theorem ggX0_scheduleOrder_X0_scheduleJob : GoodIn wsX0_scheduleOrder wsX0_scheduleJob := goodIn_r _ [7, 8, 9, 10, 11, 12, 13, 14, 15, 16, 17, 6, 18, 19, 20, 21, 22, 23, 24, 25, 26, 27, 28, 29, 30, 35, 36, 37, 38, 39, 40, 41, 42, 43, 44, 45, 46, 47] (by decide +kernel) (by decide +kernel)
set_option maxRecDepth 20000 in
theorem gX0_scheduleOrder_X0_scheduleJob : GoodIn wsX0_scheduleOrder (wsV RX0 156 RX0 yX0_scheduleJob wsX0_scheduleJob) := goodIn_app (goodIn_of _ (by decide +kernel)) ggX0_scheduleOrder_X0_scheduleJob
set_option maxRecDepth 20000 in
theorem ggX0_scheduleOrder_X0_lastEnd : GoodIn wsX0_scheduleOrder wsX0_lastEnd := goodIn_r _ [34, 14, 8, 23, 24, 6, 25, 35, 36, 37, 38, 39, 40, 41, 42, 43, 44, 45, 46, 47] (by decide +kernel) (by decide +kernel)
set_option maxRecDepth 20000 in
theorem gX0_scheduleOrder_X0_lastEnd : GoodIn wsX0_scheduleOrder (wsV RX0 160 RX0 yX0_lastEnd wsX0_lastEnd) := goodIn_app (goodIn_of _ (by decide +kernel)) ggX0_scheduleOrder_X0_lastEnd
theorem dX0_scheduleOrder_0 : decode cX0_scheduleOrder 0 = .ok (.iconst 0, 1) := by decide +kernel
theorem dX0_scheduleOrder_1 : decode cX0_scheduleOrder 1 = .ok (.istore_n 2, 1) := by decide +kernel
theorem dX0_scheduleOrder_2 : decode cX0_scheduleOrder 2 = .ok (.iload_n 2, 1) := by decide +kernel
theorem dX0_scheduleOrder_3 : decode cX0_scheduleOrder 3 = .ok (.aload_n 0, 1) := by decide +kernel
theorem dX0_scheduleOrder_4 : decode cX0_scheduleOrder 4 = .ok (.getfield 7, 3) := by decide +kernel
theorem dX0_scheduleOrder_7 : decode cX0_scheduleOrder 7 = .ok (.if_icmp .ge 21, 3) := by decide +kernel
theorem dX0_scheduleOrder_10 : decode cX0_scheduleOrder 10 = .ok (.aload_n 0, 1) := by decide +kernel
theorem dX0_scheduleOrder_11 : decode cX0_scheduleOrder 11 = .ok (.iload_n 1, 1) := by decide +kernel
theorem dX0_scheduleOrder_12 : decode cX0_scheduleOrder 12 = .ok (.iload_n 2, 1) := by decide +kernel
theorem dX0_scheduleOrder_13 : decode cX0_scheduleOrder 13 = .ok (.aload_n 0, 1) := by decide +kernel
theorem dX0_scheduleOrder_14 : decode cX0_scheduleOrder 14 = .ok (.getfield 29, 3) := by decide +kernel
theorem dX0_scheduleOrder_17 : decode cX0_scheduleOrder 17 = .ok (.iload_n 2, 1) := by decide +kernel
theorem dX0_scheduleOrder_18 : decode cX0_scheduleOrder 18 = .ok (.iaload, 1) := by decide +kernel
theorem dX0_scheduleOrder_19 : decode cX0_scheduleOrder 19 = .ok (.invokevirtual 156, 3) := by decide +kernel
theorem dX0_scheduleOrder_22 : decode cX0_scheduleOrder 22 = .ok (.iinc 2 1, 3) := by decide +kernel
theorem dX0_scheduleOrder_25 : decode cX0_scheduleOrder 25 = .ok (.goto (-23), 3) := by decide +kernel
theorem dX0_scheduleOrder_28 : decode cX0_scheduleOrder 28 = .ok (.aload_n 0, 1) := by decide +kernel
theorem dX0_scheduleOrder_29 : decode cX0_scheduleOrder 29 = .ok (.aload_n 0, 1) := by decide +kernel
theorem dX0_scheduleOrder_30 : decode cX0_scheduleOrder 30 = .ok (.getfield 7, 3) := by decide +kernel
theorem dX0_scheduleOrder_33 : decode cX0_scheduleOrder 33 = .ok (.invokevirtual 160, 3) := by decide +kernel
theorem dX0_scheduleOrder_36 : decode cX0_scheduleOrder 36 = .ok (.ireturn, 1) := by decide +kernel
set_option maxRecDepth 20000 in
theorem ggX0_lastEnd_X0_cell : GoodIn wsX0_lastEnd wsX0_cell := goodIn_r _ [6] (by decide +kernel) (by decide +kernel)
set_option maxRecDepth 20000 in
theorem gX0_lastEnd_X0_cell : GoodIn wsX0_lastEnd (va_wsS RX0 66 yX0_cell wsX0_cell) := goodIn_app (goodIn_of _ (by decide +kernel)) ggX0_lastEnd_X0_cell
theorem dX0_lastEnd_0 : decode cX0_lastEnd 0 = .ok (.iload_n 1, 1) := by decide +kernel
theorem dX0_lastEnd_1 : decode cX0_lastEnd 1 = .ok (.iconst 1, 1) := by decide +kernel
theorem dX0_lastEnd_2 : decode cX0_lastEnd 2 = .ok (.if_icmp .ge 5, 3) := by decide +kernel
theorem dX0_lastEnd_5 : decode cX0_lastEnd 5 = .ok (.iconst 0, 1) := by decide +kernel
theorem dX0_lastEnd_6 : decode cX0_lastEnd 6 = .ok (.ireturn, 1) := by decide +kernel
theorem dX0_lastEnd_7 : decode cX0_lastEnd 7 = .ok (.aload_n 0, 1) := by decide +kernel
theorem dX0_lastEnd_8 : decode cX0_lastEnd 8 = .ok (.getfield 23, 3) := by decide +kernel
theorem dX0_lastEnd_11 : decode cX0_lastEnd 11 = .ok (.iload_n 1, 1) := by decide +kernel
theorem dX0_lastEnd_12 : decode cX0_lastEnd 12 = .ok (.iconst 1, 1) := by decide +kernel
theorem dX0_lastEnd_13 : decode cX0_lastEnd 13 = .ok (.isub, 1) := by decide +kernel
theorem dX0_lastEnd_14 : decode cX0_lastEnd 14 = .ok (.aload_n 0, 1) := by decide +kernel
theorem dX0_lastEnd_15 : decode cX0_lastEnd 15 = .ok (.getfield 13, 3) := by decide +kernel
theorem dX0_lastEnd_18 : decode cX0_lastEnd 18 = .ok (.iconst 1, 1) := by decide +kernel
theorem dX0_lastEnd_19 : decode cX0_lastEnd 19 = .ok (.isub, 1) := by decide +kernel
theorem dX0_lastEnd_20 : decode cX0_lastEnd 20 = .ok (.invokestatic 66, 3) := by decide +kernel
theorem dX0_lastEnd_23 : decode cX0_lastEnd 23 = .ok (.iaload, 1) := by decide +kernel
theorem dX0_lastEnd_24 : decode cX0_lastEnd 24 = .ok (.ireturn, 1) := by decide +kernel
set_option maxRecDepth 20000 in
theorem ggX0_scheduleJob_X0_beginWithoutWaiting : GoodIn wsX0_scheduleJob wsX0_beginWithoutWaiting := goodIn_r _ [12, 1, 2, 3, 4, 5, 13, 14, 15, 11, 16, 6, 7, 17, 18, 19, 20, 21, 22, 23, 24, 25, 26, 27, 28, 29, 30, 31, 32, 33, 34, 35, 36, 37] (by decide +kernel) (by decide +kernel)
set_option maxRecDepth 20000 in
theorem gX0_scheduleJob_X0_beginWithoutWaiting : GoodIn wsX0_scheduleJob (wsV RX0 170 RX0 yX0_beginWithoutWaiting wsX0_beginWithoutWaiting) := goodIn_app (goodIn_of _ (by decide +kernel)) ggX0_scheduleJob_X0_beginWithoutWaiting
set_option maxRecDepth 20000 in
theorem ggX0_scheduleJob_X0_freeFrom : GoodIn wsX0_scheduleJob wsX0_freeFrom := goodIn_r _ [16, 1, 6, 7, 17, 18, 11, 19, 25, 26, 27, 28, 29, 30, 31, 32, 33, 34, 35, 36, 37] (by decide +kernel) (by decide +kernel)
set_option maxRecDepth 20000 in
theorem gX0_scheduleJob_X0_freeFrom : GoodIn wsX0_scheduleJob (wsV RX0 173 RX0 yX0_freeFrom wsX0_freeFrom) := goodIn_app (goodIn_of _ (by decide +kernel)) ggX0_scheduleJob_X0_freeFrom
set_option maxRecDepth 20000 in
theorem ggX0_scheduleJob_X0_cell : GoodIn wsX0_scheduleJob wsX0_cell := goodIn_r _ [19] (by decide +kernel) (by decide +kernel)
set_option maxRecDepth 20000 in
theorem gX0_scheduleJob_X0_cell : GoodIn wsX0_scheduleJob (va_wsS RX0 66 yX0_cell wsX0_cell) := goodIn_app (goodIn_of _ (by decide +kernel)) ggX0_scheduleJob_X0_cell
set_option maxRecDepth 20000 in
theorem ggX0_scheduleJob_X0_timeOf : GoodIn wsX0_scheduleJob wsX0_timeOf := goodIn_r _ [23, 24, 17, 18, 11, 19, 25, 26, 27, 28, 29, 30, 31, 32, 33, 34, 35, 36, 37] (by decide +kernel) (by decide +kernel)
set_option maxRecDepth 20000 in
theorem gX0_scheduleJob_X0_timeOf : GoodIn wsX0_scheduleJob (wsV RX0 114 RX0 yX0_timeOf wsX0_timeOf) := goodIn_app (goodIn_of _ (by decide +kernel)) ggX0_scheduleJob_X0_timeOf
theorem dX0_scheduleJob_0 : decode cX0_scheduleJob 0 = .ok (.iload_n 1, 1) := by decide +kernel
theorem dX0_scheduleJob_1 : decode cX0_scheduleJob 1 = .ok (.iconst 2, 1) := by decide +kernel
theorem dX0_scheduleJob_2 : decode cX0_scheduleJob 2 = .ok (.if_icmp .ne 12, 3) := by decide +kernel
theorem dX0_scheduleJob_5 : decode cX0_scheduleJob 5 = .ok (.aload_n 0, 1) := by decide +kernel
theorem dX0_scheduleJob_6 : decode cX0_scheduleJob 6 = .ok (.iload_n 2, 1) := by decide +kernel
theorem dX0_scheduleJob_7 : decode cX0_scheduleJob 7 = .ok (.iload_n 3, 1) := by decide +kernel
theorem dX0_scheduleJob_8 : decode cX0_scheduleJob 8 = .ok (.invokevirtual 170, 3) := by decide +kernel
theorem dX0_scheduleJob_11 : decode cX0_scheduleJob 11 = .ok (.goto 4, 3) := by decide +kernel
theorem dX0_scheduleJob_14 : decode cX0_scheduleJob 14 = .ok (.iconst 0, 1) := by decide +kernel
theorem dX0_scheduleJob_15 : decode cX0_scheduleJob 15 = .ok (.istore 4, 2) := by decide +kernel
theorem dX0_scheduleJob_17 : decode cX0_scheduleJob 17 = .ok (.iconst 0, 1) := by decide +kernel
theorem dX0_scheduleJob_18 : decode cX0_scheduleJob 18 = .ok (.istore 5, 2) := by decide +kernel
theorem dX0_scheduleJob_20 : decode cX0_scheduleJob 20 = .ok (.iload 5, 2) := by decide +kernel
theorem dX0_scheduleJob_22 : decode cX0_scheduleJob 22 = .ok (.aload_n 0, 1) := by decide +kernel
theorem dX0_scheduleJob_23 : decode cX0_scheduleJob 23 = .ok (.getfield 13, 3) := by decide +kernel
theorem dX0_scheduleJob_26 : decode cX0_scheduleJob 26 = .ok (.if_icmp .ge 62, 3) := by decide +kernel
theorem dX0_scheduleJob_29 : decode cX0_scheduleJob 29 = .ok (.iload 4, 2) := by decide +kernel
theorem dX0_scheduleJob_31 : decode cX0_scheduleJob 31 = .ok (.aload_n 0, 1) := by decide +kernel
theorem dX0_scheduleJob_32 : decode cX0_scheduleJob 32 = .ok (.iload_n 1, 1) := by decide +kernel
theorem dX0_scheduleJob_33 : decode cX0_scheduleJob 33 = .ok (.iload_n 2, 1) := by decide +kernel
theorem dX0_scheduleJob_34 : decode cX0_scheduleJob 34 = .ok (.iload 5, 2) := by decide +kernel
theorem dX0_scheduleJob_36 : decode cX0_scheduleJob 36 = .ok (.invokevirtual 173, 3) := by decide +kernel
theorem dX0_scheduleJob_39 : decode cX0_scheduleJob 39 = .ok (.invokestatic 167, 3) := by decide +kernel
theorem dX0_scheduleJob_42 : decode cX0_scheduleJob 42 = .ok (.istore 6, 2) := by decide +kernel
theorem dX0_scheduleJob_44 : decode cX0_scheduleJob 44 = .ok (.aload_n 0, 1) := by decide +kernel
theorem dX0_scheduleJob_45 : decode cX0_scheduleJob 45 = .ok (.getfield 20, 3) := by decide +kernel
theorem dX0_scheduleJob_48 : decode cX0_scheduleJob 48 = .ok (.iload_n 2, 1) := by decide +kernel
theorem dX0_scheduleJob_49 : decode cX0_scheduleJob 49 = .ok (.iload 5, 2) := by decide +kernel
theorem dX0_scheduleJob_51 : decode cX0_scheduleJob 51 = .ok (.invokestatic 66, 3) := by decide +kernel
theorem dX0_scheduleJob_54 : decode cX0_scheduleJob 54 = .ok (.iload 6, 2) := by decide +kernel
theorem dX0_scheduleJob_56 : decode cX0_scheduleJob 56 = .ok (.iastore, 1) := by decide +kernel
theorem dX0_scheduleJob_57 : decode cX0_scheduleJob 57 = .ok (.iload 6, 2) := by decide +kernel
theorem dX0_scheduleJob_59 : decode cX0_scheduleJob 59 = .ok (.aload_n 0, 1) := by decide +kernel
theorem dX0_scheduleJob_60 : decode cX0_scheduleJob 60 = .ok (.iload_n 3, 1) := by decide +kernel
theorem dX0_scheduleJob_61 : decode cX0_scheduleJob 61 = .ok (.iload 5, 2) := by decide +kernel
theorem dX0_scheduleJob_63 : decode cX0_scheduleJob 63 = .ok (.invokevirtual 114, 3) := by decide +kernel
theorem dX0_scheduleJob_66 : decode cX0_scheduleJob 66 = .ok (.iadd, 1) := by decide +kernel
theorem dX0_scheduleJob_67 : decode cX0_scheduleJob 67 = .ok (.istore 4, 2) := by decide +kernel
theorem dX0_scheduleJob_69 : decode cX0_scheduleJob 69 = .ok (.aload_n 0, 1) := by decide +kernel
theorem dX0_scheduleJob_70 : decode cX0_scheduleJob 70 = .ok (.getfield 23, 3) := by decide +kernel
theorem dX0_scheduleJob_73 : decode cX0_scheduleJob 73 = .ok (.iload_n 2, 1) := by decide +kernel
theorem dX0_scheduleJob_74 : decode cX0_scheduleJob 74 = .ok (.iload 5, 2) := by decide +kernel
theorem dX0_scheduleJob_76 : decode cX0_scheduleJob 76 = .ok (.invokestatic 66, 3) := by decide +kernel
theorem dX0_scheduleJob_79 : decode cX0_scheduleJob 79 = .ok (.iload 4, 2) := by decide +kernel
theorem dX0_scheduleJob_81 : decode cX0_scheduleJob 81 = .ok (.iastore, 1) := by decide +kernel
theorem dX0_scheduleJob_82 : decode cX0_scheduleJob 82 = .ok (.iinc 5 1, 3) := by decide +kernel
theorem dX0_scheduleJob_85 : decode cX0_scheduleJob 85 = .ok (.goto (-65), 3) := by decide +kernel
theorem dX0_scheduleJob_88 : decode cX0_scheduleJob 88 = .ok (.return_, 1) := by decide +kernel
set_option maxRecDepth 20000 in
theorem ggX0_beginWithoutWaiting_X0_freeFrom : GoodIn wsX0_beginWithoutWaiting wsX0_freeFrom := goodIn_r _ [10, 1, 11, 12, 13, 14, 9, 15, 21, 22, 23, 24, 25, 26, 27, 28, 29, 30, 31, 32, 33] (by decide +kernel) (by decide +kernel)
set_option maxRecDepth 20000 in
theorem gX0_beginWithoutWaiting_X0_freeFrom : GoodIn wsX0_beginWithoutWaiting (wsV RX0 173 RX0 yX0_freeFrom wsX0_freeFrom) := goodIn_app (goodIn_of _ (by decide +kernel)) ggX0_beginWithoutWaiting_X0_freeFrom
set_option maxRecDepth 20000 in
theorem ggX0_beginWithoutWaiting_X0_timeOf : GoodIn wsX0_beginWithoutWaiting wsX0_timeOf := goodIn_r _ [19, 20, 13, 14, 9, 15, 21, 22, 23, 24, 25, 26, 27, 28, 29, 30, 31, 32, 33] (by decide +kernel) (by decide +kernel)
set_option maxRecDepth 20000 in
theorem gX0_beginWithoutWaiting_X0_timeOf : GoodIn wsX0_beginWithoutWaiting (wsV RX0 114 RX0 yX0_timeOf wsX0_timeOf) := goodIn_app (goodIn_of _ (by decide +kernel)) ggX0_beginWithoutWaiting_X0_timeOf
theorem dX0_beginWithoutWaiting_0 : decode cX0_beginWithoutWaiting 0 = .ok (.iconst 0, 1) := by decide +kernel
theorem dX0_beginWithoutWaiting_1 : decode cX0_beginWithoutWaiting 1 = .ok (.istore_n 3, 1) := by decide +kernel
theorem dX0_beginWithoutWaiting_2 : decode cX0_beginWithoutWaiting 2 = .ok (.iconst 0, 1) := by decide +kernel
theorem dX0_beginWithoutWaiting_3 : decode cX0_beginWithoutWaiting 3 = .ok (.istore 4, 2) := by decide +kernel
theorem dX0_beginWithoutWaiting_5 : decode cX0_beginWithoutWaiting 5 = .ok (.iconst 0, 1) := by decide +kernel
theorem dX0_beginWithoutWaiting_6 : decode cX0_beginWithoutWaiting 6 = .ok (.istore 5, 2) := by decide +kernel
theorem dX0_beginWithoutWaiting_8 : decode cX0_beginWithoutWaiting 8 = .ok (.iload 5, 2) := by decide +kernel
theorem dX0_beginWithoutWaiting_10 : decode cX0_beginWithoutWaiting 10 = .ok (.aload_n 0, 1) := by decide +kernel
theorem dX0_beginWithoutWaiting_11 : decode cX0_beginWithoutWaiting 11 = .ok (.getfield 13, 3) := by decide +kernel
theorem dX0_beginWithoutWaiting_14 : decode cX0_beginWithoutWaiting 14 = .ok (.if_icmp .ge 37, 3) := by decide +kernel
theorem dX0_beginWithoutWaiting_17 : decode cX0_beginWithoutWaiting 17 = .ok (.iload_n 3, 1) := by decide +kernel
theorem dX0_beginWithoutWaiting_18 : decode cX0_beginWithoutWaiting 18 = .ok (.aload_n 0, 1) := by decide +kernel
theorem dX0_beginWithoutWaiting_19 : decode cX0_beginWithoutWaiting 19 = .ok (.iconst 2, 1) := by decide +kernel
theorem dX0_beginWithoutWaiting_20 : decode cX0_beginWithoutWaiting 20 = .ok (.iload_n 1, 1) := by decide +kernel
theorem dX0_beginWithoutWaiting_21 : decode cX0_beginWithoutWaiting 21 = .ok (.iload 5, 2) := by decide +kernel
theorem dX0_beginWithoutWaiting_23 : decode cX0_beginWithoutWaiting 23 = .ok (.invokevirtual 173, 3) := by decide +kernel
theorem dX0_beginWithoutWaiting_26 : decode cX0_beginWithoutWaiting 26 = .ok (.iload 4, 2) := by decide +kernel
theorem dX0_beginWithoutWaiting_28 : decode cX0_beginWithoutWaiting 28 = .ok (.isub, 1) := by decide +kernel
theorem dX0_beginWithoutWaiting_29 : decode cX0_beginWithoutWaiting 29 = .ok (.invokestatic 167, 3) := by decide +kernel
theorem dX0_beginWithoutWaiting_32 : decode cX0_beginWithoutWaiting 32 = .ok (.istore_n 3, 1) := by decide +kernel
theorem dX0_beginWithoutWaiting_33 : decode cX0_beginWithoutWaiting 33 = .ok (.iload 4, 2) := by decide +kernel
theorem dX0_beginWithoutWaiting_35 : decode cX0_beginWithoutWaiting 35 = .ok (.aload_n 0, 1) := by decide +kernel
theorem dX0_beginWithoutWaiting_36 : decode cX0_beginWithoutWaiting 36 = .ok (.iload_n 2, 1) := by decide +kernel
theorem dX0_beginWithoutWaiting_37 : decode cX0_beginWithoutWaiting 37 = .ok (.iload 5, 2) := by decide +kernel
theorem dX0_beginWithoutWaiting_39 : decode cX0_beginWithoutWaiting 39 = .ok (.invokevirtual 114, 3) := by decide +kernel
theorem dX0_beginWithoutWaiting_42 : decode cX0_beginWithoutWaiting 42 = .ok (.iadd, 1) := by decide +kernel
theorem dX0_beginWithoutWaiting_43 : decode cX0_beginWithoutWaiting 43 = .ok (.istore 4, 2) := by decide +kernel
theorem dX0_beginWithoutWaiting_45 : decode cX0_beginWithoutWaiting 45 = .ok (.iinc 5 1, 3) := by decide +kernel
theorem dX0_beginWithoutWaiting_48 : decode cX0_beginWithoutWaiting 48 = .ok (.goto (-40), 3) := by decide +kernel
theorem dX0_beginWithoutWaiting_51 : decode cX0_beginWithoutWaiting 51 = .ok (.iload_n 3, 1) := by decide +kernel
theorem dX0_beginWithoutWaiting_52 : decode cX0_beginWithoutWaiting 52 = .ok (.ireturn, 1) := by decide +kernel
set_option maxRecDepth 20000 in
theorem ggX0_freeFrom_X0_cell : GoodIn wsX0_freeFrom wsX0_cell := goodIn_r _ [7] (by decide +kernel) (by decide +kernel)
set_option maxRecDepth 20000 in
theorem gX0_freeFrom_X0_cell : GoodIn wsX0_freeFrom (va_wsS RX0 66 yX0_cell wsX0_cell) := goodIn_app (goodIn_of _ (by decide +kernel)) ggX0_freeFrom_X0_cell
theorem dX0_freeFrom_0 : decode cX0_freeFrom 0 = .ok (.iload_n 2, 1) := by decide +kernel
theorem dX0_freeFrom_1 : decode cX0_freeFrom 1 = .ok (.iconst 1, 1) := by decide +kernel
theorem dX0_freeFrom_2 : decode cX0_freeFrom 2 = .ok (.if_icmp .ge 5, 3) := by decide +kernel
theorem dX0_freeFrom_5 : decode cX0_freeFrom 5 = .ok (.iconst 0, 1) := by decide +kernel
theorem dX0_freeFrom_6 : decode cX0_freeFrom 6 = .ok (.ireturn, 1) := by decide +kernel
theorem dX0_freeFrom_7 : decode cX0_freeFrom 7 = .ok (.iload_n 1, 1) := by decide +kernel
theorem dX0_freeFrom_8 : decode cX0_freeFrom 8 = .ok (.iconst 1, 1) := by decide +kernel
theorem dX0_freeFrom_9 : decode cX0_freeFrom 9 = .ok (.if_icmp .ne 28, 3) := by decide +kernel
theorem dX0_freeFrom_12 : decode cX0_freeFrom 12 = .ok (.iload_n 3, 1) := by decide +kernel
theorem dX0_freeFrom_13 : decode cX0_freeFrom 13 = .ok (.aload_n 0, 1) := by decide +kernel
theorem dX0_freeFrom_14 : decode cX0_freeFrom 14 = .ok (.getfield 13, 3) := by decide +kernel
theorem dX0_freeFrom_17 : decode cX0_freeFrom 17 = .ok (.iconst 1, 1) := by decide +kernel
theorem dX0_freeFrom_18 : decode cX0_freeFrom 18 = .ok (.isub, 1) := by decide +kernel
theorem dX0_freeFrom_19 : decode cX0_freeFrom 19 = .ok (.if_icmp .ge 18, 3) := by decide +kernel
theorem dX0_freeFrom_22 : decode cX0_freeFrom 22 = .ok (.aload_n 0, 1) := by decide +kernel
theorem dX0_freeFrom_23 : decode cX0_freeFrom 23 = .ok (.getfield 20, 3) := by decide +kernel
theorem dX0_freeFrom_26 : decode cX0_freeFrom 26 = .ok (.iload_n 2, 1) := by decide +kernel
theorem dX0_freeFrom_27 : decode cX0_freeFrom 27 = .ok (.iconst 1, 1) := by decide +kernel
theorem dX0_freeFrom_28 : decode cX0_freeFrom 28 = .ok (.isub, 1) := by decide +kernel
theorem dX0_freeFrom_29 : decode cX0_freeFrom 29 = .ok (.iload_n 3, 1) := by decide +kernel
theorem dX0_freeFrom_30 : decode cX0_freeFrom 30 = .ok (.iconst 1, 1) := by decide +kernel
theorem dX0_freeFrom_31 : decode cX0_freeFrom 31 = .ok (.iadd, 1) := by decide +kernel
theorem dX0_freeFrom_32 : decode cX0_freeFrom 32 = .ok (.invokestatic 66, 3) := by decide +kernel
theorem dX0_freeFrom_35 : decode cX0_freeFrom 35 = .ok (.iaload, 1) := by decide +kernel
theorem dX0_freeFrom_36 : decode cX0_freeFrom 36 = .ok (.ireturn, 1) := by decide +kernel
theorem dX0_freeFrom_37 : decode cX0_freeFrom 37 = .ok (.aload_n 0, 1) := by decide +kernel
theorem dX0_freeFrom_38 : decode cX0_freeFrom 38 = .ok (.getfield 23, 3) := by decide +kernel
theorem dX0_freeFrom_41 : decode cX0_freeFrom 41 = .ok (.iload_n 2, 1) := by decide +kernel
theorem dX0_freeFrom_42 : decode cX0_freeFrom 42 = .ok (.iconst 1, 1) := by decide +kernel
theorem dX0_freeFrom_43 : decode cX0_freeFrom 43 = .ok (.isub, 1) := by decide +kernel
theorem dX0_freeFrom_44 : decode cX0_freeFrom 44 = .ok (.iload_n 3, 1) := by decide +kernel
theorem dX0_freeFrom_45 : decode cX0_freeFrom 45 = .ok (.invokestatic 66, 3) := by decide +kernel
theorem dX0_freeFrom_48 : decode cX0_freeFrom 48 = .ok (.iaload, 1) := by decide +kernel
theorem dX0_freeFrom_49 : decode cX0_freeFrom 49 = .ok (.ireturn, 1) := by decide +kernel
theorem dX0_forgetBestOrders_0 : decode cX0_forgetBestOrders 0 = .ok (.iconst 0, 1) := by decide +kernel
theorem dX0_forgetBestOrders_1 : decode cX0_forgetBestOrders 1 = .ok (.istore_n 1, 1) := by decide +kernel
theorem dX0_forgetBestOrders_2 : decode cX0_forgetBestOrders 2 = .ok (.iload_n 1, 1) := by decide +kernel
theorem dX0_forgetBestOrders_3 : decode cX0_forgetBestOrders 3 = .ok (.iconst 3, 1) := by decide +kernel
theorem dX0_forgetBestOrders_4 : decode cX0_forgetBestOrders 4 = .ok (.if_icmp .ge 16, 3) := by decide +kernel
theorem dX0_forgetBestOrders_7 : decode cX0_forgetBestOrders 7 = .ok (.aload_n 0, 1) := by decide +kernel
theorem dX0_forgetBestOrders_8 : decode cX0_forgetBestOrders 8 = .ok (.getfield 38, 3) := by decide +kernel
theorem dX0_forgetBestOrders_11 : decode cX0_forgetBestOrders 11 = .ok (.iload_n 1, 1) := by decide +kernel
theorem dX0_forgetBestOrders_12 : decode cX0_forgetBestOrders 12 = .ok (.iconst 0, 1) := by decide +kernel
theorem dX0_forgetBestOrders_13 : decode cX0_forgetBestOrders 13 = .ok (.bastore, 1) := by decide +kernel
theorem dX0_forgetBestOrders_14 : decode cX0_forgetBestOrders 14 = .ok (.iinc 1 1, 3) := by decide +kernel
theorem dX0_forgetBestOrders_17 : decode cX0_forgetBestOrders 17 = .ok (.goto (-15), 3) := by decide +kernel
theorem dX0_forgetBestOrders_20 : decode cX0_forgetBestOrders 20 = .ok (.return_, 1) := by decide +kernel
set_option maxRecDepth 20000 in
theorem ggX0_findBestOrder_X0_scheduleJob : GoodIn wsX0_findBestOrder wsX0_scheduleJob := goodIn_r _ [9, 10, 11, 12, 13, 14, 15, 16, 17, 18, 19, 8, 20, 21, 22, 23, 24, 25, 26, 27, 28, 29, 30, 31, 32, 55, 56, 57, 58, 59, 60, 61, 62, 63, 64, 65, 66, 67] (by decide +kernel) (by decide +kernel)
set_option maxRecDepth 20000 in
theorem gX0_findBestOrder_X0_scheduleJob : GoodIn wsX0_findBestOrder (wsV RX0 156 RX0 yX0_scheduleJob wsX0_scheduleJob) := goodIn_app (goodIn_of _ (by decide +kernel)) ggX0_findBestOrder_X0_scheduleJob
set_option maxRecDepth 20000 in
theorem ggX0_findBestOrder_X0_lastEnd : GoodIn wsX0_findBestOrder wsX0_lastEnd := goodIn_r _ [36, 16, 10, 25, 26, 8, 27, 55, 56, 57, 58, 59, 60, 61, 62, 63, 64, 65, 66, 67] (by decide +kernel) (by decide +kernel)
set_option maxRecDepth 20000 in
theorem gX0_findBestOrder_X0_lastEnd : GoodIn wsX0_findBestOrder (wsV RX0 160 RX0 yX0_lastEnd wsX0_lastEnd) := goodIn_app (goodIn_of _ (by decide +kernel)) ggX0_findBestOrder_X0_lastEnd
set_option maxRecDepth 20000 in
theorem ggX0_findBestOrder_X0_countTrial : GoodIn wsX0_findBestOrder wsX0_countTrial := goodIn_r _ [40, 2, 41, 4, 42, 3, 43, 44, 45, 46, 55, 56, 57, 58, 59, 60, 61, 62, 63, 64, 65, 66, 67] (by decide +kernel) (by decide +kernel)
set_option maxRecDepth 20000 in
theorem gX0_findBestOrder_X0_countTrial : GoodIn wsX0_findBestOrder (wsV RX0 176 RX0 yX0_countTrial wsX0_countTrial) := goodIn_app (goodIn_of _ (by decide +kernel)) ggX0_findBestOrder_X0_countTrial
set_option maxRecDepth 20000 in
theorem ggX0_findBestOrder_X0_stepTrial : GoodIn wsX0_findBestOrder wsX0_stepTrial := goodIn_r _ [50, 3, 4, 51, 52, 53, 8, 54, 55, 56, 57, 58, 59, 60, 61, 62, 63, 64, 65, 66, 67] (by decide +kernel) (by decide +kernel)
set_option maxRecDepth 20000 in
theorem gX0_findBestOrder_X0_stepTrial : GoodIn wsX0_findBestOrder (wsV RX0 180 RX0 yX0_stepTrial wsX0_stepTrial) := goodIn_app (goodIn_of _ (by decide +kernel)) ggX0_findBestOrder_X0_stepTrial
theorem dX0_findBestOrder_0 : decode cX0_findBestOrder 0 = .ok (.aload_n 0, 1) := by decide +kernel
theorem dX0_findBestOrder_1 : decode cX0_findBestOrder 1 = .ok (.getfield 38, 3) := by decide +kernel
theorem dX0_findBestOrder_4 : decode cX0_findBestOrder 4 = .ok (.iload_n 1, 1) := by decide +kernel
theorem dX0_findBestOrder_5 : decode cX0_findBestOrder 5 = .ok (.baload, 1) := by decide +kernel
theorem dX0_findBestOrder_6 : decode cX0_findBestOrder 6 = .ok (.ifCond .eq 4, 3) := by decide +kernel
theorem dX0_findBestOrder_9 : decode cX0_findBestOrder 9 = .ok (.return_, 1) := by decide +kernel
theorem dX0_findBestOrder_10 : decode cX0_findBestOrder 10 = .ok (.aload_n 0, 1) := by decide +kernel
theorem dX0_findBestOrder_11 : decode cX0_findBestOrder 11 = .ok (.getfield 45, 3) := by decide +kernel
theorem dX0_findBestOrder_14 : decode cX0_findBestOrder 14 = .ok (.iload_n 1, 1) := by decide +kernel
theorem dX0_findBestOrder_15 : decode cX0_findBestOrder 15 = .ok (.iconst 0, 1) := by decide +kernel
theorem dX0_findBestOrder_16 : decode cX0_findBestOrder 16 = .ok (.iastore, 1) := by decide +kernel
theorem dX0_findBestOrder_17 : decode cX0_findBestOrder 17 = .ok (.iconst 0, 1) := by decide +kernel
theorem dX0_findBestOrder_18 : decode cX0_findBestOrder 18 = .ok (.istore_n 2, 1) := by decide +kernel
theorem dX0_findBestOrder_19 : decode cX0_findBestOrder 19 = .ok (.iload_n 2, 1) := by decide +kernel
theorem dX0_findBestOrder_20 : decode cX0_findBestOrder 20 = .ok (.aload_n 0, 1) := by decide +kernel
theorem dX0_findBestOrder_21 : decode cX0_findBestOrder 21 = .ok (.getfield 7, 3) := by decide +kernel
theorem dX0_findBestOrder_24 : decode cX0_findBestOrder 24 = .ok (.if_icmp .ge 16, 3) := by decide +kernel
theorem dX0_findBestOrder_27 : decode cX0_findBestOrder 27 = .ok (.aload_n 0, 1) := by decide +kernel
theorem dX0_findBestOrder_28 : decode cX0_findBestOrder 28 = .ok (.getfield 32, 3) := by decide +kernel
theorem dX0_findBestOrder_31 : decode cX0_findBestOrder 31 = .ok (.iload_n 2, 1) := by decide +kernel
theorem dX0_findBestOrder_32 : decode cX0_findBestOrder 32 = .ok (.iload_n 2, 1) := by decide +kernel
theorem dX0_findBestOrder_33 : decode cX0_findBestOrder 33 = .ok (.iastore, 1) := by decide +kernel
theorem dX0_findBestOrder_34 : decode cX0_findBestOrder 34 = .ok (.iinc 2 1, 3) := by decide +kernel
theorem dX0_findBestOrder_37 : decode cX0_findBestOrder 37 = .ok (.goto (-18), 3) := by decide +kernel
theorem dX0_findBestOrder_40 : decode cX0_findBestOrder 40 = .ok (.iconst 0, 1) := by decide +kernel
theorem dX0_findBestOrder_41 : decode cX0_findBestOrder 41 = .ok (.istore_n 2, 1) := by decide +kernel
theorem dX0_findBestOrder_42 : decode cX0_findBestOrder 42 = .ok (.iconst 0, 1) := by decide +kernel
theorem dX0_findBestOrder_43 : decode cX0_findBestOrder 43 = .ok (.istore_n 3, 1) := by decide +kernel
theorem dX0_findBestOrder_44 : decode cX0_findBestOrder 44 = .ok (.iload_n 3, 1) := by decide +kernel
theorem dX0_findBestOrder_45 : decode cX0_findBestOrder 45 = .ok (.sipush 5040, 3) := by decide +kernel
theorem dX0_findBestOrder_48 : decode cX0_findBestOrder 48 = .ok (.if_icmp .ge 63, 3) := by decide +kernel
theorem dX0_findBestOrder_51 : decode cX0_findBestOrder 51 = .ok (.iload_n 2, 1) := by decide +kernel
theorem dX0_findBestOrder_52 : decode cX0_findBestOrder 52 = .ok (.ifCond .lt 59, 3) := by decide +kernel
theorem dX0_findBestOrder_55 : decode cX0_findBestOrder 55 = .ok (.iload_n 2, 1) := by decide +kernel
theorem dX0_findBestOrder_56 : decode cX0_findBestOrder 56 = .ok (.istore 4, 2) := by decide +kernel
theorem dX0_findBestOrder_58 : decode cX0_findBestOrder 58 = .ok (.iload 4, 2) := by decide +kernel
theorem dX0_findBestOrder_60 : decode cX0_findBestOrder 60 = .ok (.aload_n 0, 1) := by decide +kernel
theorem dX0_findBestOrder_61 : decode cX0_findBestOrder 61 = .ok (.getfield 7, 3) := by decide +kernel
theorem dX0_findBestOrder_64 : decode cX0_findBestOrder 64 = .ok (.if_icmp .ge 23, 3) := by decide +kernel
theorem dX0_findBestOrder_67 : decode cX0_findBestOrder 67 = .ok (.aload_n 0, 1) := by decide +kernel
theorem dX0_findBestOrder_68 : decode cX0_findBestOrder 68 = .ok (.iload_n 1, 1) := by decide +kernel
theorem dX0_findBestOrder_69 : decode cX0_findBestOrder 69 = .ok (.iload 4, 2) := by decide +kernel
theorem dX0_findBestOrder_71 : decode cX0_findBestOrder 71 = .ok (.aload_n 0, 1) := by decide +kernel
theorem dX0_findBestOrder_72 : decode cX0_findBestOrder 72 = .ok (.getfield 32, 3) := by decide +kernel
theorem dX0_findBestOrder_75 : decode cX0_findBestOrder 75 = .ok (.iload 4, 2) := by decide +kernel
theorem dX0_findBestOrder_77 : decode cX0_findBestOrder 77 = .ok (.iaload, 1) := by decide +kernel
theorem dX0_findBestOrder_78 : decode cX0_findBestOrder 78 = .ok (.invokevirtual 156, 3) := by decide +kernel
theorem dX0_findBestOrder_81 : decode cX0_findBestOrder 81 = .ok (.iinc 4 1, 3) := by decide +kernel
theorem dX0_findBestOrder_84 : decode cX0_findBestOrder 84 = .ok (.goto (-26), 3) := by decide +kernel
theorem dX0_findBestOrder_87 : decode cX0_findBestOrder 87 = .ok (.aload_n 0, 1) := by decide +kernel
theorem dX0_findBestOrder_88 : decode cX0_findBestOrder 88 = .ok (.iload_n 1, 1) := by decide +kernel
theorem dX0_findBestOrder_89 : decode cX0_findBestOrder 89 = .ok (.aload_n 0, 1) := by decide +kernel
theorem dX0_findBestOrder_90 : decode cX0_findBestOrder 90 = .ok (.aload_n 0, 1) := by decide +kernel
theorem dX0_findBestOrder_91 : decode cX0_findBestOrder 91 = .ok (.getfield 7, 3) := by decide +kernel
theorem dX0_findBestOrder_94 : decode cX0_findBestOrder 94 = .ok (.invokevirtual 160, 3) := by decide +kernel
theorem dX0_findBestOrder_97 : decode cX0_findBestOrder 97 = .ok (.invokevirtual 176, 3) := by decide +kernel
theorem dX0_findBestOrder_100 : decode cX0_findBestOrder 100 = .ok (.aload_n 0, 1) := by decide +kernel
theorem dX0_findBestOrder_101 : decode cX0_findBestOrder 101 = .ok (.invokevirtual 180, 3) := by decide +kernel
theorem dX0_findBestOrder_104 : decode cX0_findBestOrder 104 = .ok (.istore_n 2, 1) := by decide +kernel
theorem dX0_findBestOrder_105 : decode cX0_findBestOrder 105 = .ok (.iinc 3 1, 3) := by decide +kernel
theorem dX0_findBestOrder_108 : decode cX0_findBestOrder 108 = .ok (.goto (-64), 3) := by decide +kernel
theorem dX0_findBestOrder_111 : decode cX0_findBestOrder 111 = .ok (.aload_n 0, 1) := by decide +kernel
theorem dX0_findBestOrder_112 : decode cX0_findBestOrder 112 = .ok (.getfield 38, 3) := by decide +kernel
theorem dX0_findBestOrder_115 : decode cX0_findBestOrder 115 = .ok (.iload_n 1, 1) := by decide +kernel
theorem dX0_findBestOrder_116 : decode cX0_findBestOrder 116 = .ok (.iconst 1, 1) := by decide +kernel
theorem dX0_findBestOrder_117 : decode cX0_findBestOrder 117 = .ok (.bastore, 1) := by decide +kernel
theorem dX0_findBestOrder_118 : decode cX0_findBestOrder 118 = .ok (.return_, 1) := by decide +kernel
theorem dX0_countTrial_0 : decode cX0_countTrial 0 = .ok (.aload_n 0, 1) := by decide +kernel
theorem dX0_countTrial_1 : decode cX0_countTrial 1 = .ok (.getfield 45, 3) := by decide +kernel
theorem dX0_countTrial_4 : decode cX0_countTrial 4 = .ok (.iload_n 1, 1) := by decide +kernel
theorem dX0_countTrial_5 : decode cX0_countTrial 5 = .ok (.iaload, 1) := by decide +kernel
theorem dX0_countTrial_6 : decode cX0_countTrial 6 = .ok (.ifCond .eq 13, 3) := by decide +kernel
theorem dX0_countTrial_9 : decode cX0_countTrial 9 = .ok (.iload_n 2, 1) := by decide +kernel
theorem dX0_countTrial_10 : decode cX0_countTrial 10 = .ok (.aload_n 0, 1) := by decide +kernel
theorem dX0_countTrial_11 : decode cX0_countTrial 11 = .ok (.getfield 42, 3) := by decide +kernel
theorem dX0_countTrial_14 : decode cX0_countTrial 14 = .ok (.iload_n 1, 1) := by decide +kernel
theorem dX0_countTrial_15 : decode cX0_countTrial 15 = .ok (.iaload, 1) := by decide +kernel
theorem dX0_countTrial_16 : decode cX0_countTrial 16 = .ok (.if_icmp .ge 37, 3) := by decide +kernel
theorem dX0_countTrial_19 : decode cX0_countTrial 19 = .ok (.aload_n 0, 1) := by decide +kernel
theorem dX0_countTrial_20 : decode cX0_countTrial 20 = .ok (.getfield 42, 3) := by decide +kernel
theorem dX0_countTrial_23 : decode cX0_countTrial 23 = .ok (.iload_n 1, 1) := by decide +kernel
theorem dX0_countTrial_24 : decode cX0_countTrial 24 = .ok (.iload_n 2, 1) := by decide +kernel
theorem dX0_countTrial_25 : decode cX0_countTrial 25 = .ok (.iastore, 1) := by decide +kernel
theorem dX0_countTrial_26 : decode cX0_countTrial 26 = .ok (.aload_n 0, 1) := by decide +kernel
theorem dX0_countTrial_27 : decode cX0_countTrial 27 = .ok (.getfield 45, 3) := by decide +kernel
theorem dX0_countTrial_30 : decode cX0_countTrial 30 = .ok (.iload_n 1, 1) := by decide +kernel
theorem dX0_countTrial_31 : decode cX0_countTrial 31 = .ok (.iconst 0, 1) := by decide +kernel
theorem dX0_countTrial_32 : decode cX0_countTrial 32 = .ok (.iastore, 1) := by decide +kernel
theorem dX0_countTrial_33 : decode cX0_countTrial 33 = .ok (.aload_n 0, 1) := by decide +kernel
theorem dX0_countTrial_34 : decode cX0_countTrial 34 = .ok (.getfield 32, 3) := by decide +kernel
theorem dX0_countTrial_37 : decode cX0_countTrial 37 = .ok (.iconst 0, 1) := by decide +kernel
theorem dX0_countTrial_38 : decode cX0_countTrial 38 = .ok (.aload_n 0, 1) := by decide +kernel
theorem dX0_countTrial_39 : decode cX0_countTrial 39 = .ok (.getfield 48, 3) := by decide +kernel
theorem dX0_countTrial_42 : decode cX0_countTrial 42 = .ok (.iload_n 1, 1) := by decide +kernel
theorem dX0_countTrial_43 : decode cX0_countTrial 43 = .ok (.bipush 7, 2) := by decide +kernel
theorem dX0_countTrial_45 : decode cX0_countTrial 45 = .ok (.imul, 1) := by decide +kernel
theorem dX0_countTrial_46 : decode cX0_countTrial 46 = .ok (.aload_n 0, 1) := by decide +kernel
theorem dX0_countTrial_47 : decode cX0_countTrial 47 = .ok (.getfield 7, 3) := by decide +kernel
theorem dX0_countTrial_50 : decode cX0_countTrial 50 = .ok (.invokestatic 150, 3) := by decide +kernel
theorem dX0_countTrial_53 : decode cX0_countTrial 53 = .ok (.iload_n 2, 1) := by decide +kernel
theorem dX0_countTrial_54 : decode cX0_countTrial 54 = .ok (.aload_n 0, 1) := by decide +kernel
theorem dX0_countTrial_55 : decode cX0_countTrial 55 = .ok (.getfield 42, 3) := by decide +kernel
theorem dX0_countTrial_58 : decode cX0_countTrial 58 = .ok (.iload_n 1, 1) := by decide +kernel
theorem dX0_countTrial_59 : decode cX0_countTrial 59 = .ok (.iaload, 1) := by decide +kernel
theorem dX0_countTrial_60 : decode cX0_countTrial 60 = .ok (.if_icmp .ne 13, 3) := by decide +kernel
theorem dX0_countTrial_63 : decode cX0_countTrial 63 = .ok (.aload_n 0, 1) := by decide +kernel
theorem dX0_countTrial_64 : decode cX0_countTrial 64 = .ok (.getfield 45, 3) := by decide +kernel
theorem dX0_countTrial_67 : decode cX0_countTrial 67 = .ok (.iload_n 1, 1) := by decide +kernel
theorem dX0_countTrial_68 : decode cX0_countTrial 68 = .ok (.dup2, 1) := by decide +kernel
theorem dX0_countTrial_69 : decode cX0_countTrial 69 = .ok (.iaload, 1) := by decide +kernel
theorem dX0_countTrial_70 : decode cX0_countTrial 70 = .ok (.iconst 1, 1) := by decide +kernel
theorem dX0_countTrial_71 : decode cX0_countTrial 71 = .ok (.iadd, 1) := by decide +kernel
theorem dX0_countTrial_72 : decode cX0_countTrial 72 = .ok (.iastore, 1) := by decide +kernel
theorem dX0_countTrial_73 : decode cX0_countTrial 73 = .ok (.return_, 1) := by decide +kernel
set_option maxRecDepth 20000 in
theorem ggX0_stepTrial_X0_swapInTrial : GoodIn wsX0_stepTrial wsX0_swapInTrial := goodIn_r _ [7, 2, 8, 9, 10, 11, 12, 13, 14, 15, 16, 17, 18, 19, 20] (by decide +kernel) (by decide +kernel)
set_option maxRecDepth 20000 in
theorem gX0_stepTrial_X0_swapInTrial : GoodIn wsX0_stepTrial (wsV RX0 184 RX0 yX0_swapInTrial wsX0_swapInTrial) := goodIn_app (goodIn_of _ (by decide +kernel)) ggX0_stepTrial_X0_swapInTrial
theorem dX0_stepTrial_0 : decode cX0_stepTrial 0 = .ok (.aload_n 0, 1) := by decide +kernel
theorem dX0_stepTrial_1 : decode cX0_stepTrial 1 = .ok (.getfield 7, 3) := by decide +kernel
theorem dX0_stepTrial_4 : decode cX0_stepTrial 4 = .ok (.iconst 2, 1) := by decide +kernel
theorem dX0_stepTrial_5 : decode cX0_stepTrial 5 = .ok (.isub, 1) := by decide +kernel
theorem dX0_stepTrial_6 : decode cX0_stepTrial 6 = .ok (.istore_n 1, 1) := by decide +kernel
theorem dX0_stepTrial_7 : decode cX0_stepTrial 7 = .ok (.iload_n 1, 1) := by decide +kernel
theorem dX0_stepTrial_8 : decode cX0_stepTrial 8 = .ok (.ifCond .lt 26, 3) := by decide +kernel
theorem dX0_stepTrial_11 : decode cX0_stepTrial 11 = .ok (.aload_n 0, 1) := by decide +kernel
theorem dX0_stepTrial_12 : decode cX0_stepTrial 12 = .ok (.getfield 32, 3) := by decide +kernel
theorem dX0_stepTrial_15 : decode cX0_stepTrial 15 = .ok (.iload_n 1, 1) := by decide +kernel
theorem dX0_stepTrial_16 : decode cX0_stepTrial 16 = .ok (.iaload, 1) := by decide +kernel
theorem dX0_stepTrial_17 : decode cX0_stepTrial 17 = .ok (.aload_n 0, 1) := by decide +kernel
theorem dX0_stepTrial_18 : decode cX0_stepTrial 18 = .ok (.getfield 32, 3) := by decide +kernel
theorem dX0_stepTrial_21 : decode cX0_stepTrial 21 = .ok (.iload_n 1, 1) := by decide +kernel
theorem dX0_stepTrial_22 : decode cX0_stepTrial 22 = .ok (.iconst 1, 1) := by decide +kernel
theorem dX0_stepTrial_23 : decode cX0_stepTrial 23 = .ok (.iadd, 1) := by decide +kernel
theorem dX0_stepTrial_24 : decode cX0_stepTrial 24 = .ok (.iaload, 1) := by decide +kernel
theorem dX0_stepTrial_25 : decode cX0_stepTrial 25 = .ok (.if_icmp .le 9, 3) := by decide +kernel
theorem dX0_stepTrial_28 : decode cX0_stepTrial 28 = .ok (.iinc 1 (-1), 3) := by decide +kernel
theorem dX0_stepTrial_31 : decode cX0_stepTrial 31 = .ok (.goto (-24), 3) := by decide +kernel
theorem dX0_stepTrial_34 : decode cX0_stepTrial 34 = .ok (.iload_n 1, 1) := by decide +kernel
theorem dX0_stepTrial_35 : decode cX0_stepTrial 35 = .ok (.ifCond .ge 5, 3) := by decide +kernel
theorem dX0_stepTrial_38 : decode cX0_stepTrial 38 = .ok (.iconst (-1), 1) := by decide +kernel
theorem dX0_stepTrial_39 : decode cX0_stepTrial 39 = .ok (.ireturn, 1) := by decide +kernel
theorem dX0_stepTrial_40 : decode cX0_stepTrial 40 = .ok (.aload_n 0, 1) := by decide +kernel
theorem dX0_stepTrial_41 : decode cX0_stepTrial 41 = .ok (.getfield 7, 3) := by decide +kernel
theorem dX0_stepTrial_44 : decode cX0_stepTrial 44 = .ok (.iconst 1, 1) := by decide +kernel
theorem dX0_stepTrial_45 : decode cX0_stepTrial 45 = .ok (.isub, 1) := by decide +kernel
theorem dX0_stepTrial_46 : decode cX0_stepTrial 46 = .ok (.istore_n 2, 1) := by decide +kernel
theorem dX0_stepTrial_47 : decode cX0_stepTrial 47 = .ok (.iload_n 2, 1) := by decide +kernel
theorem dX0_stepTrial_48 : decode cX0_stepTrial 48 = .ok (.iload_n 1, 1) := by decide +kernel
theorem dX0_stepTrial_49 : decode cX0_stepTrial 49 = .ok (.iconst 1, 1) := by decide +kernel
theorem dX0_stepTrial_50 : decode cX0_stepTrial 50 = .ok (.iadd, 1) := by decide +kernel
theorem dX0_stepTrial_51 : decode cX0_stepTrial 51 = .ok (.if_icmp .le 24, 3) := by decide +kernel
theorem dX0_stepTrial_54 : decode cX0_stepTrial 54 = .ok (.aload_n 0, 1) := by decide +kernel
theorem dX0_stepTrial_55 : decode cX0_stepTrial 55 = .ok (.getfield 32, 3) := by decide +kernel
theorem dX0_stepTrial_58 : decode cX0_stepTrial 58 = .ok (.iload_n 2, 1) := by decide +kernel
theorem dX0_stepTrial_59 : decode cX0_stepTrial 59 = .ok (.iaload, 1) := by decide +kernel
theorem dX0_stepTrial_60 : decode cX0_stepTrial 60 = .ok (.aload_n 0, 1) := by decide +kernel
theorem dX0_stepTrial_61 : decode cX0_stepTrial 61 = .ok (.getfield 32, 3) := by decide +kernel
theorem dX0_stepTrial_64 : decode cX0_stepTrial 64 = .ok (.iload_n 1, 1) := by decide +kernel
theorem dX0_stepTrial_65 : decode cX0_stepTrial 65 = .ok (.iaload, 1) := by decide +kernel
theorem dX0_stepTrial_66 : decode cX0_stepTrial 66 = .ok (.if_icmp .ge 9, 3) := by decide +kernel
theorem dX0_stepTrial_69 : decode cX0_stepTrial 69 = .ok (.iinc 2 (-1), 3) := by decide +kernel
theorem dX0_stepTrial_72 : decode cX0_stepTrial 72 = .ok (.goto (-25), 3) := by decide +kernel
theorem dX0_stepTrial_75 : decode cX0_stepTrial 75 = .ok (.aload_n 0, 1) := by decide +kernel
theorem dX0_stepTrial_76 : decode cX0_stepTrial 76 = .ok (.iload_n 1, 1) := by decide +kernel
theorem dX0_stepTrial_77 : decode cX0_stepTrial 77 = .ok (.iload_n 2, 1) := by decide +kernel
theorem dX0_stepTrial_78 : decode cX0_stepTrial 78 = .ok (.invokevirtual 184, 3) := by decide +kernel
theorem dX0_stepTrial_81 : decode cX0_stepTrial 81 = .ok (.iload_n 1, 1) := by decide +kernel
theorem dX0_stepTrial_82 : decode cX0_stepTrial 82 = .ok (.iconst 1, 1) := by decide +kernel
theorem dX0_stepTrial_83 : decode cX0_stepTrial 83 = .ok (.iadd, 1) := by decide +kernel
theorem dX0_stepTrial_84 : decode cX0_stepTrial 84 = .ok (.istore_n 3, 1) := by decide +kernel
theorem dX0_stepTrial_85 : decode cX0_stepTrial 85 = .ok (.aload_n 0, 1) := by decide +kernel
theorem dX0_stepTrial_86 : decode cX0_stepTrial 86 = .ok (.getfield 7, 3) := by decide +kernel
theorem dX0_stepTrial_89 : decode cX0_stepTrial 89 = .ok (.iconst 1, 1) := by decide +kernel
theorem dX0_stepTrial_90 : decode cX0_stepTrial 90 = .ok (.isub, 1) := by decide +kernel
theorem dX0_stepTrial_91 : decode cX0_stepTrial 91 = .ok (.istore 4, 2) := by decide +kernel
theorem dX0_stepTrial_93 : decode cX0_stepTrial 93 = .ok (.iload_n 3, 1) := by decide +kernel
theorem dX0_stepTrial_94 : decode cX0_stepTrial 94 = .ok (.iload 4, 2) := by decide +kernel
theorem dX0_stepTrial_96 : decode cX0_stepTrial 96 = .ok (.if_icmp .ge 19, 3) := by decide +kernel
theorem dX0_stepTrial_99 : decode cX0_stepTrial 99 = .ok (.aload_n 0, 1) := by decide +kernel
theorem dX0_stepTrial_100 : decode cX0_stepTrial 100 = .ok (.iload_n 3, 1) := by decide +kernel
theorem dX0_stepTrial_101 : decode cX0_stepTrial 101 = .ok (.iload 4, 2) := by decide +kernel
theorem dX0_stepTrial_103 : decode cX0_stepTrial 103 = .ok (.invokevirtual 184, 3) := by decide +kernel
theorem dX0_stepTrial_106 : decode cX0_stepTrial 106 = .ok (.iinc 3 1, 3) := by decide +kernel
theorem dX0_stepTrial_109 : decode cX0_stepTrial 109 = .ok (.iinc 4 (-1), 3) := by decide +kernel
theorem dX0_stepTrial_112 : decode cX0_stepTrial 112 = .ok (.goto (-19), 3) := by decide +kernel
theorem dX0_stepTrial_115 : decode cX0_stepTrial 115 = .ok (.iload_n 1, 1) := by decide +kernel
theorem dX0_stepTrial_116 : decode cX0_stepTrial 116 = .ok (.ireturn, 1) := by decide +kernel
theorem dX0_swapInTrial_0 : decode cX0_swapInTrial 0 = .ok (.aload_n 0, 1) := by decide +kernel
theorem dX0_swapInTrial_1 : decode cX0_swapInTrial 1 = .ok (.getfield 32, 3) := by decide +kernel
theorem dX0_swapInTrial_4 : decode cX0_swapInTrial 4 = .ok (.iload_n 1, 1) := by decide +kernel
theorem dX0_swapInTrial_5 : decode cX0_swapInTrial 5 = .ok (.iaload, 1) := by decide +kernel
theorem dX0_swapInTrial_6 : decode cX0_swapInTrial 6 = .ok (.istore_n 3, 1) := by decide +kernel
theorem dX0_swapInTrial_7 : decode cX0_swapInTrial 7 = .ok (.aload_n 0, 1) := by decide +kernel
theorem dX0_swapInTrial_8 : decode cX0_swapInTrial 8 = .ok (.getfield 32, 3) := by decide +kernel
theorem dX0_swapInTrial_11 : decode cX0_swapInTrial 11 = .ok (.iload_n 1, 1) := by decide +kernel
theorem dX0_swapInTrial_12 : decode cX0_swapInTrial 12 = .ok (.aload_n 0, 1) := by decide +kernel
theorem dX0_swapInTrial_13 : decode cX0_swapInTrial 13 = .ok (.getfield 32, 3) := by decide +kernel
theorem dX0_swapInTrial_16 : decode cX0_swapInTrial 16 = .ok (.iload_n 2, 1) := by decide +kernel
theorem dX0_swapInTrial_17 : decode cX0_swapInTrial 17 = .ok (.iaload, 1) := by decide +kernel
theorem dX0_swapInTrial_18 : decode cX0_swapInTrial 18 = .ok (.iastore, 1) := by decide +kernel
theorem dX0_swapInTrial_19 : decode cX0_swapInTrial 19 = .ok (.aload_n 0, 1) := by decide +kernel
theorem dX0_swapInTrial_20 : decode cX0_swapInTrial 20 = .ok (.getfield 32, 3) := by decide +kernel
theorem dX0_swapInTrial_23 : decode cX0_swapInTrial 23 = .ok (.iload_n 2, 1) := by decide +kernel
theorem dX0_swapInTrial_24 : decode cX0_swapInTrial 24 = .ok (.iload_n 3, 1) := by decide +kernel
theorem dX0_swapInTrial_25 : decode cX0_swapInTrial 25 = .ok (.iastore, 1) := by decide +kernel
theorem dX0_swapInTrial_26 : decode cX0_swapInTrial 26 = .ok (.return_, 1) := by decide +kernel
end
section
theorem dJ9_max_7cf53_0 : decode cJ9_max_7cf53 0 = .ok (.iload_n 0, 1) := by decide +kernel
theorem dJ9_max_7cf53_1 : decode cJ9_max_7cf53 1 = .ok (.iload_n 1, 1) := by decide +kernel
theorem dJ9_max_7cf53_2 : decode cJ9_max_7cf53 2 = .ok (.if_icmp .lt 7, 3) := by decide +kernel
theorem dJ9_max_7cf53_5 : decode cJ9_max_7cf53 5 = .ok (.iload_n 0, 1) := by decide +kernel
theorem dJ9_max_7cf53_6 : decode cJ9_max_7cf53 6 = .ok (.goto 4, 3) := by decide +kernel
theorem dJ9_max_7cf53_9 : decode cJ9_max_7cf53 9 = .ok (.iload_n 1, 1) := by decide +kernel
theorem dJ9_max_7cf53_10 : decode cJ9_max_7cf53 10 = .ok (.ireturn, 1) := by decide +kernel
theorem dJ9_min_7cf53_0 : decode cJ9_min_7cf53 0 = .ok (.iload_n 0, 1) := by decide +kernel
theorem dJ9_min_7cf53_1 : decode cJ9_min_7cf53 1 = .ok (.iload_n 1, 1) := by decide +kernel
theorem dJ9_min_7cf53_2 : decode cJ9_min_7cf53 2 = .ok (.if_icmp .gt 7, 3) := by decide +kernel
theorem dJ9_min_7cf53_5 : decode cJ9_min_7cf53 5 = .ok (.iload_n 0, 1) := by decide +kernel
theorem dJ9_min_7cf53_6 : decode cJ9_min_7cf53 6 = .ok (.goto 4, 3) := by decide +kernel
theorem dJ9_min_7cf53_9 : decode cJ9_min_7cf53 9 = .ok (.iload_n 1, 1) := by decide +kernel
theorem dJ9_min_7cf53_10 : decode cJ9_min_7cf53 10 = .ok (.ireturn, 1) := by decide +kernel
theorem dL_cell_0 : decode cL_cell 0 = .ok (.iload_n 1, 1) := by decide +kernel
theorem dL_cell_1 : decode cL_cell 1 = .ok (.aload_n 0, 1) := by decide +kernel
theorem dL_cell_2 : decode cL_cell 2 = .ok (.arraylength, 1) := by decide +kernel
theorem dL_cell_3 : decode cL_cell 3 = .ok (.if_icmp .ge 9, 3) := by decide +kernel
theorem dL_cell_6 : decode cL_cell 6 = .ok (.aload_n 0, 1) := by decide +kernel
theorem dL_cell_7 : decode cL_cell 7 = .ok (.iload_n 1, 1) := by decide +kernel
theorem dL_cell_8 : decode cL_cell 8 = .ok (.iaload, 1) := by decide +kernel
theorem dL_cell_9 : decode cL_cell 9 = .ok (.goto 15, 3) := by decide +kernel
theorem dL_cell_12 : decode cL_cell 12 = .ok (.sipush 7919, 3) := by decide +kernel
theorem dL_cell_15 : decode cL_cell 15 = .ok (.iload_n 1, 1) := by decide +kernel
theorem dL_cell_16 : decode cL_cell 16 = .ok (.iconst 3, 1) := by decide +kernel
theorem dL_cell_17 : decode cL_cell 17 = .ok (.iadd, 1) := by decide +kernel
theorem dL_cell_18 : decode cL_cell 18 = .ok (.imul, 1) := by decide +kernel
theorem dL_cell_19 : decode cL_cell 19 = .ok (.iload_n 1, 1) := by decide +kernel
theorem dL_cell_20 : decode cL_cell 20 = .ok (.bipush 11, 2) := by decide +kernel
theorem dL_cell_22 : decode cL_cell 22 = .ok (.iadd, 1) := by decide +kernel
theorem dL_cell_23 : decode cL_cell 23 = .ok (.imul, 1) := by decide +kernel
theorem dL_cell_24 : decode cL_cell 24 = .ok (.ireturn, 1) := by decide +kernel
theorem dL_low_0 : decode cL_low 0 = .ok (.iload_n 0, 1) := by decide +kernel
theorem dL_low_1 : decode cL_low 1 = .ok (.ldc 7, 2) := by decide +kernel
theorem dL_low_3 : decode cL_low 3 = .ok (.iand, 1) := by decide +kernel
theorem dL_low_4 : decode cL_low 4 = .ok (.iload_n 1, 1) := by decide +kernel
theorem dL_low_5 : decode cL_low 5 = .ok (.irem, 1) := by decide +kernel
theorem dL_low_6 : decode cL_low 6 = .ok (.ireturn, 1) := by decide +kernel
set_option maxRecDepth 20000 in
theorem ggL_areBest_X0_best : GoodIn wsL_areBest wsX0_best := goodIn_ca (goodIn_r _ [5, 6, 7, 8, 4, 9, 10, 11, 12, 13, 14, 15, 16, 17, 18, 19, 20, 21, 22, 23, 24, 25, 26, 27, 28, 29, 30, 31, 32, 33, 34, 35, 36, 37, 38, 39, 40, 41, 42, 43, 44, 45, 46, 47, 48, 49, 50, 51, 52, 53, 54, 55, 56, 57, 58, 59, 60, 61, 62, 63, 64, 65, 66, 67, 122, 123, 124, 125, 126, 127, 128, 129, 130, 131, 132, 133, 134] (by decide +kernel) (by decide +kernel)) (goodIn_sub (fun _ h => List.mem_cons_of_mem _ (List.mem_append_left _ (List.mem_append_right _ h))) (by decide +kernel))
set_option maxRecDepth 20000 in
theorem gL_areBest_X0_best : GoodIn wsL_areBest (wsV RL 8 RX0 yX0_best wsX0_best) := goodIn_app (goodIn_of _ (by decide +kernel)) ggL_areBest_X0_best
set_option maxRecDepth 20000 in
theorem ggL_areBest_X0_makespan : GoodIn wsL_areBest wsX0_makespan := goodIn_ca (goodIn_r _ [71, 7, 8, 4, 9, 10, 11, 72, 73, 74, 75, 18, 76, 20, 21, 22, 23, 24, 25, 26, 27, 28, 29, 30, 31, 32, 33, 34, 35, 36, 37, 38, 39, 40, 41, 42, 43, 44, 45, 46, 47, 48, 49, 50, 122, 123, 124, 125, 126, 127, 128, 129, 130, 131, 132, 133, 134] (by decide +kernel) (by decide +kernel)) (goodIn_sub (fun _ h => List.mem_cons_of_mem _ (List.mem_append_left _ (List.mem_append_right _ h))) (by decide +kernel))
set_option maxRecDepth 20000 in
theorem gL_areBest_X0_makespan : GoodIn wsL_areBest (wsV RL 14 RX0 yX0_makespan wsX0_makespan) := goodIn_app (goodIn_of _ (by decide +kernel)) ggL_areBest_X0_makespan
set_option maxRecDepth 20000 in
theorem ggL_areBest_X0_machines : GoodIn wsL_areBest wsX0_machines := goodIn_r _ [80, 24, 122, 123, 124, 125, 126, 127, 128, 129, 130, 131, 132, 133, 134] (by decide +kernel) (by decide +kernel)
set_option maxRecDepth 20000 in
theorem gL_areBest_X0_machines : GoodIn wsL_areBest (wsV RL 17 RX0 yX0_machines wsX0_machines) := goodIn_app (goodIn_of _ (by decide +kernel)) ggL_areBest_X0_machines
set_option maxRecDepth 20000 in
theorem ggL_areBest_X0_machineBound : GoodIn wsL_areBest wsX0_machineBound := goodIn_ca (goodIn_r _ [84, 24, 85, 86, 87, 4, 88, 89, 90, 91, 92, 93, 94, 18, 42, 43, 44, 45, 46, 39, 40, 41, 95, 96, 97, 98, 99, 100, 27, 101, 102, 103, 104, 105, 122, 123, 124, 125, 126, 127, 128, 129, 130, 131, 132, 133, 134] (by decide +kernel) (by decide +kernel)) (goodIn_sub (fun _ h => List.mem_cons_of_mem _ (List.mem_append_right _ h)) (by decide +kernel))
set_option maxRecDepth 20000 in
theorem gL_areBest_X0_machineBound : GoodIn wsL_areBest (wsV RL 21 RX0 yX0_machineBound wsX0_machineBound) := goodIn_app (goodIn_of _ (by decide +kernel)) ggL_areBest_X0_machineBound
set_option maxRecDepth 20000 in
theorem ggL_areBest_X0_pairBound : GoodIn wsL_areBest wsX0_pairBound := goodIn_ca (goodIn_ca (goodIn_r _ [109, 10, 11, 24, 85, 86, 87, 4, 88, 89, 90, 110, 111, 112, 113, 19, 18, 25, 26, 27, 28, 114, 115, 116, 117, 118, 119, 120, 121, 42, 43, 44, 45, 46, 39, 40, 41, 95, 96, 97, 98, 99, 100, 101, 102, 103, 104, 105, 122, 123, 124, 125, 126, 127, 128, 129, 130, 131, 132, 133, 134] (by decide +kernel) (by decide +kernel)) (goodIn_sub (fun _ h => List.mem_cons_of_mem _ (List.mem_append_left _ (List.mem_append_right _ h))) (by decide +kernel))) (goodIn_sub (fun _ h => List.mem_cons_of_mem _ (List.mem_append_right _ h)) (by decide +kernel))
set_option maxRecDepth 20000 in
theorem gL_areBest_X0_pairBound : GoodIn wsL_areBest (wsV RL 24 RX0 yX0_pairBound wsX0_pairBound) := goodIn_app (goodIn_of _ (by decide +kernel)) ggL_areBest_X0_pairBound
theorem dL_areBest_0 : decode cL_areBest 0 = .ok (.aload_n 0, 1) := by decide +kernel
theorem dL_areBest_1 : decode cL_areBest 1 = .ok (.iconst 0, 1) := by decide +kernel
theorem dL_areBest_2 : decode cL_areBest 2 = .ok (.invokevirtual 8, 3) := by decide +kernel
theorem dL_areBest_5 : decode cL_areBest 5 = .ok (.istore_n 1, 1) := by decide +kernel
theorem dL_areBest_6 : decode cL_areBest 6 = .ok (.aload_n 0, 1) := by decide +kernel
theorem dL_areBest_7 : decode cL_areBest 7 = .ok (.iconst 1, 1) := by decide +kernel
theorem dL_areBest_8 : decode cL_areBest 8 = .ok (.invokevirtual 8, 3) := by decide +kernel
theorem dL_areBest_11 : decode cL_areBest 11 = .ok (.istore_n 2, 1) := by decide +kernel
theorem dL_areBest_12 : decode cL_areBest 12 = .ok (.aload_n 0, 1) := by decide +kernel
theorem dL_areBest_13 : decode cL_areBest 13 = .ok (.iconst 2, 1) := by decide +kernel
theorem dL_areBest_14 : decode cL_areBest 14 = .ok (.invokevirtual 8, 3) := by decide +kernel
theorem dL_areBest_17 : decode cL_areBest 17 = .ok (.istore_n 3, 1) := by decide +kernel
theorem dL_areBest_18 : decode cL_areBest 18 = .ok (.iload_n 1, 1) := by decide +kernel
theorem dL_areBest_19 : decode cL_areBest 19 = .ok (.iload_n 2, 1) := by decide +kernel
theorem dL_areBest_20 : decode cL_areBest 20 = .ok (.if_icmp .gt 39, 3) := by decide +kernel
theorem dL_areBest_23 : decode cL_areBest 23 = .ok (.iload_n 2, 1) := by decide +kernel
theorem dL_areBest_24 : decode cL_areBest 24 = .ok (.iload_n 3, 1) := by decide +kernel
theorem dL_areBest_25 : decode cL_areBest 25 = .ok (.if_icmp .gt 34, 3) := by decide +kernel
theorem dL_areBest_28 : decode cL_areBest 28 = .ok (.aload_n 0, 1) := by decide +kernel
theorem dL_areBest_29 : decode cL_areBest 29 = .ok (.iconst 0, 1) := by decide +kernel
theorem dL_areBest_30 : decode cL_areBest 30 = .ok (.invokevirtual 14, 3) := by decide +kernel
theorem dL_areBest_33 : decode cL_areBest 33 = .ok (.iload_n 1, 1) := by decide +kernel
theorem dL_areBest_34 : decode cL_areBest 34 = .ok (.if_icmp .lt 25, 3) := by decide +kernel
theorem dL_areBest_37 : decode cL_areBest 37 = .ok (.aload_n 0, 1) := by decide +kernel
theorem dL_areBest_38 : decode cL_areBest 38 = .ok (.iconst 1, 1) := by decide +kernel
theorem dL_areBest_39 : decode cL_areBest 39 = .ok (.invokevirtual 14, 3) := by decide +kernel
theorem dL_areBest_42 : decode cL_areBest 42 = .ok (.iload_n 2, 1) := by decide +kernel
theorem dL_areBest_43 : decode cL_areBest 43 = .ok (.if_icmp .lt 16, 3) := by decide +kernel
theorem dL_areBest_46 : decode cL_areBest 46 = .ok (.aload_n 0, 1) := by decide +kernel
theorem dL_areBest_47 : decode cL_areBest 47 = .ok (.iconst 2, 1) := by decide +kernel
theorem dL_areBest_48 : decode cL_areBest 48 = .ok (.invokevirtual 14, 3) := by decide +kernel
theorem dL_areBest_51 : decode cL_areBest 51 = .ok (.iload_n 3, 1) := by decide +kernel
theorem dL_areBest_52 : decode cL_areBest 52 = .ok (.if_icmp .lt 7, 3) := by decide +kernel
theorem dL_areBest_55 : decode cL_areBest 55 = .ok (.iconst 1, 1) := by decide +kernel
theorem dL_areBest_56 : decode cL_areBest 56 = .ok (.goto 4, 3) := by decide +kernel
theorem dL_areBest_59 : decode cL_areBest 59 = .ok (.iconst 0, 1) := by decide +kernel
theorem dL_areBest_60 : decode cL_areBest 60 = .ok (.istore 4, 2) := by decide +kernel
theorem dL_areBest_62 : decode cL_areBest 62 = .ok (.iload 4, 2) := by decide +kernel
theorem dL_areBest_64 : decode cL_areBest 64 = .ok (.ifCond .eq 33, 3) := by decide +kernel
theorem dL_areBest_67 : decode cL_areBest 67 = .ok (.aload_n 0, 1) := by decide +kernel
theorem dL_areBest_68 : decode cL_areBest 68 = .ok (.iconst 0, 1) := by decide +kernel
theorem dL_areBest_69 : decode cL_areBest 69 = .ok (.invokevirtual 14, 3) := by decide +kernel
theorem dL_areBest_72 : decode cL_areBest 72 = .ok (.aload_n 0, 1) := by decide +kernel
theorem dL_areBest_73 : decode cL_areBest 73 = .ok (.iconst 1, 1) := by decide +kernel
theorem dL_areBest_74 : decode cL_areBest 74 = .ok (.invokevirtual 14, 3) := by decide +kernel
theorem dL_areBest_77 : decode cL_areBest 77 = .ok (.if_icmp .gt 20, 3) := by decide +kernel
theorem dL_areBest_80 : decode cL_areBest 80 = .ok (.aload_n 0, 1) := by decide +kernel
theorem dL_areBest_81 : decode cL_areBest 81 = .ok (.iconst 1, 1) := by decide +kernel
theorem dL_areBest_82 : decode cL_areBest 82 = .ok (.invokevirtual 14, 3) := by decide +kernel
theorem dL_areBest_85 : decode cL_areBest 85 = .ok (.aload_n 0, 1) := by decide +kernel
theorem dL_areBest_86 : decode cL_areBest 86 = .ok (.iconst 2, 1) := by decide +kernel
theorem dL_areBest_87 : decode cL_areBest 87 = .ok (.invokevirtual 14, 3) := by decide +kernel
theorem dL_areBest_90 : decode cL_areBest 90 = .ok (.if_icmp .gt 7, 3) := by decide +kernel
theorem dL_areBest_93 : decode cL_areBest 93 = .ok (.iconst 1, 1) := by decide +kernel
theorem dL_areBest_94 : decode cL_areBest 94 = .ok (.goto 4, 3) := by decide +kernel
theorem dL_areBest_97 : decode cL_areBest 97 = .ok (.iconst 0, 1) := by decide +kernel
theorem dL_areBest_98 : decode cL_areBest 98 = .ok (.istore 4, 2) := by decide +kernel
theorem dL_areBest_100 : decode cL_areBest 100 = .ok (.iconst 0, 1) := by decide +kernel
theorem dL_areBest_101 : decode cL_areBest 101 = .ok (.istore 5, 2) := by decide +kernel
theorem dL_areBest_103 : decode cL_areBest 103 = .ok (.iload 5, 2) := by decide +kernel
theorem dL_areBest_105 : decode cL_areBest 105 = .ok (.aload_n 0, 1) := by decide +kernel
theorem dL_areBest_106 : decode cL_areBest 106 = .ok (.invokevirtual 17, 3) := by decide +kernel
theorem dL_areBest_109 : decode cL_areBest 109 = .ok (.if_icmp .ge 94, 3) := by decide +kernel
theorem dL_areBest_112 : decode cL_areBest 112 = .ok (.iload 4, 2) := by decide +kernel
theorem dL_areBest_114 : decode cL_areBest 114 = .ok (.ifCond .eq 89, 3) := by decide +kernel
theorem dL_areBest_117 : decode cL_areBest 117 = .ok (.aload_n 0, 1) := by decide +kernel
theorem dL_areBest_118 : decode cL_areBest 118 = .ok (.iload 5, 2) := by decide +kernel
theorem dL_areBest_120 : decode cL_areBest 120 = .ok (.invokevirtual 21, 3) := by decide +kernel
theorem dL_areBest_123 : decode cL_areBest 123 = .ok (.iload_n 1, 1) := by decide +kernel
theorem dL_areBest_124 : decode cL_areBest 124 = .ok (.if_icmp .gt 7, 3) := by decide +kernel
theorem dL_areBest_127 : decode cL_areBest 127 = .ok (.iconst 1, 1) := by decide +kernel
theorem dL_areBest_128 : decode cL_areBest 128 = .ok (.goto 4, 3) := by decide +kernel
theorem dL_areBest_131 : decode cL_areBest 131 = .ok (.iconst 0, 1) := by decide +kernel
theorem dL_areBest_132 : decode cL_areBest 132 = .ok (.istore 4, 2) := by decide +kernel
theorem dL_areBest_134 : decode cL_areBest 134 = .ok (.iload 5, 2) := by decide +kernel
theorem dL_areBest_136 : decode cL_areBest 136 = .ok (.iconst 1, 1) := by decide +kernel
theorem dL_areBest_137 : decode cL_areBest 137 = .ok (.iadd, 1) := by decide +kernel
theorem dL_areBest_138 : decode cL_areBest 138 = .ok (.istore 6, 2) := by decide +kernel
theorem dL_areBest_140 : decode cL_areBest 140 = .ok (.iload 6, 2) := by decide +kernel
theorem dL_areBest_142 : decode cL_areBest 142 = .ok (.aload_n 0, 1) := by decide +kernel
theorem dL_areBest_143 : decode cL_areBest 143 = .ok (.invokevirtual 17, 3) := by decide +kernel
theorem dL_areBest_146 : decode cL_areBest 146 = .ok (.if_icmp .ge 51, 3) := by decide +kernel
theorem dL_areBest_149 : decode cL_areBest 149 = .ok (.iload 4, 2) := by decide +kernel
theorem dL_areBest_151 : decode cL_areBest 151 = .ok (.ifCond .eq 46, 3) := by decide +kernel
theorem dL_areBest_154 : decode cL_areBest 154 = .ok (.aload_n 0, 1) := by decide +kernel
theorem dL_areBest_155 : decode cL_areBest 155 = .ok (.iload 5, 2) := by decide +kernel
theorem dL_areBest_157 : decode cL_areBest 157 = .ok (.iload 6, 2) := by decide +kernel
theorem dL_areBest_159 : decode cL_areBest 159 = .ok (.invokevirtual 24, 3) := by decide +kernel
theorem dL_areBest_162 : decode cL_areBest 162 = .ok (.istore 7, 2) := by decide +kernel
theorem dL_areBest_164 : decode cL_areBest 164 = .ok (.iload 7, 2) := by decide +kernel
theorem dL_areBest_166 : decode cL_areBest 166 = .ok (.iload_n 1, 1) := by decide +kernel
theorem dL_areBest_167 : decode cL_areBest 167 = .ok (.if_icmp .gt 21, 3) := by decide +kernel
theorem dL_areBest_170 : decode cL_areBest 170 = .ok (.aload_n 0, 1) := by decide +kernel
theorem dL_areBest_171 : decode cL_areBest 171 = .ok (.invokevirtual 17, 3) := by decide +kernel
theorem dL_areBest_174 : decode cL_areBest 174 = .ok (.iconst 2, 1) := by decide +kernel
theorem dL_areBest_175 : decode cL_areBest 175 = .ok (.if_icmp .ne 9, 3) := by decide +kernel
theorem dL_areBest_178 : decode cL_areBest 178 = .ok (.iload 7, 2) := by decide +kernel
theorem dL_areBest_180 : decode cL_areBest 180 = .ok (.iload_n 1, 1) := by decide +kernel
theorem dL_areBest_181 : decode cL_areBest 181 = .ok (.if_icmp .ne 7, 3) := by decide +kernel
theorem dL_areBest_184 : decode cL_areBest 184 = .ok (.iconst 1, 1) := by decide +kernel
theorem dL_areBest_185 : decode cL_areBest 185 = .ok (.goto 4, 3) := by decide +kernel
theorem dL_areBest_188 : decode cL_areBest 188 = .ok (.iconst 0, 1) := by decide +kernel
theorem dL_areBest_189 : decode cL_areBest 189 = .ok (.istore 4, 2) := by decide +kernel
theorem dL_areBest_191 : decode cL_areBest 191 = .ok (.iinc 6 1, 3) := by decide +kernel
theorem dL_areBest_194 : decode cL_areBest 194 = .ok (.goto (-54), 3) := by decide +kernel
theorem dL_areBest_197 : decode cL_areBest 197 = .ok (.iinc 5 1, 3) := by decide +kernel
theorem dL_areBest_200 : decode cL_areBest 200 = .ok (.goto (-97), 3) := by decide +kernel
theorem dL_areBest_203 : decode cL_areBest 203 = .ok (.iload 4, 2) := by decide +kernel
theorem dL_areBest_205 : decode cL_areBest 205 = .ok (.ireturn, 1) := by decide +kernel
set_option maxRecDepth 20000 in
theorem ggL_isReached_X0_best : GoodIn wsL_isReached wsX0_best := goodIn_ca (goodIn_r _ [6, 7, 8, 9, 5, 10, 11, 12, 13, 14, 15, 16, 17, 18, 19, 20, 21, 22, 23, 24, 25, 26, 27, 28, 29, 30, 31, 32, 33, 34, 35, 36, 37, 38, 39, 40, 41, 42, 43, 44, 45, 46, 47, 48, 49, 50, 51, 52, 53, 54, 55, 56, 57, 58, 59, 60, 61, 62, 63, 64, 65, 66, 67, 68, 123, 124, 125, 126, 127, 128, 129, 130, 131, 132, 133, 134, 135] (by decide +kernel) (by decide +kernel)) (goodIn_sub (fun _ h => List.mem_cons_of_mem _ (List.mem_append_left _ (List.mem_append_right _ h))) (by decide +kernel))
set_option maxRecDepth 20000 in
theorem gL_isReached_X0_best : GoodIn wsL_isReached (wsV RL 8 RX0 yX0_best wsX0_best) := goodIn_app (goodIn_of _ (by decide +kernel)) ggL_isReached_X0_best
set_option maxRecDepth 20000 in
theorem ggL_isReached_X0_jobs : GoodIn wsL_isReached wsX0_jobs := goodIn_r _ [72, 19, 123, 124, 125, 126, 127, 128, 129, 130, 131, 132, 133, 134, 135] (by decide +kernel) (by decide +kernel)
set_option maxRecDepth 20000 in
theorem gL_isReached_X0_jobs : GoodIn wsL_isReached (wsV RL 28 RX0 yX0_jobs wsX0_jobs) := goodIn_app (goodIn_of _ (by decide +kernel)) ggL_isReached_X0_jobs
set_option maxRecDepth 20000 in
theorem ggL_isReached_X0_bestAt : GoodIn wsL_isReached wsX0_bestAt := goodIn_ca (goodIn_ca (goodIn_r _ [76, 56, 8, 9, 5, 10, 11, 12, 77, 78, 79, 80, 81, 82, 19, 13, 14, 15, 16, 17, 18, 20, 21, 22, 23, 24, 25, 26, 27, 28, 29, 30, 31, 32, 33, 34, 35, 36, 37, 38, 39, 40, 41, 42, 43, 44, 45, 46, 47, 48, 49, 50, 51, 52, 53, 54, 55, 7, 57, 58, 59, 60, 61, 62, 63, 64, 65, 66, 67, 68, 123, 124, 125, 126, 127, 128, 129, 130, 131, 132, 133, 134, 135] (by decide +kernel) (by decide +kernel)) (goodIn_sub (fun _ h => List.mem_cons_of_mem _ (List.mem_append_left _ (List.mem_append_right _ h))) (by decide +kernel))) (goodIn_sub (fun _ h => List.mem_cons_of_mem _ (List.mem_append_right _ h)) (by decide +kernel))
set_option maxRecDepth 20000 in
theorem gL_isReached_X0_bestAt : GoodIn wsL_isReached (wsV RL 31 RX0 yX0_bestAt wsX0_bestAt) := goodIn_app (goodIn_of _ (by decide +kernel)) ggL_isReached_X0_bestAt
set_option maxRecDepth 20000 in
theorem ggL_isReached_X0_move : GoodIn wsL_isReached wsX0_move := goodIn_ca (goodIn_r _ [86, 87, 88, 89, 90, 5, 91, 81, 82, 19, 77, 78, 79, 80, 92, 93, 94, 95, 96, 97, 98, 123, 124, 125, 126, 127, 128, 129, 130, 131, 132, 133, 134, 135] (by decide +kernel) (by decide +kernel)) (goodIn_sub (fun _ h => List.mem_cons_of_mem _ (List.mem_append_right _ h)) (by decide +kernel))
set_option maxRecDepth 20000 in
theorem gL_isReached_X0_move : GoodIn wsL_isReached (wsV RL 34 RX0 yX0_move wsX0_move) := goodIn_app (goodIn_of _ (by decide +kernel)) ggL_isReached_X0_move
set_option maxRecDepth 20000 in
theorem ggL_isReached_X0_makespan : GoodIn wsL_isReached wsX0_makespan := goodIn_ca (goodIn_r _ [102, 8, 9, 5, 10, 11, 12, 103, 104, 105, 106, 19, 87, 21, 22, 23, 24, 25, 26, 27, 28, 29, 30, 31, 32, 33, 34, 35, 36, 37, 38, 39, 40, 41, 42, 43, 44, 45, 46, 47, 48, 49, 50, 51, 123, 124, 125, 126, 127, 128, 129, 130, 131, 132, 133, 134, 135] (by decide +kernel) (by decide +kernel)) (goodIn_sub (fun _ h => List.mem_cons_of_mem _ (List.mem_append_left _ (List.mem_append_right _ h))) (by decide +kernel))
set_option maxRecDepth 20000 in
theorem gL_isReached_X0_makespan : GoodIn wsL_isReached (wsV RL 14 RX0 yX0_makespan wsX0_makespan) := goodIn_app (goodIn_of _ (by decide +kernel)) ggL_isReached_X0_makespan
set_option maxRecDepth 20000 in
theorem ggL_isReached_X0_bestOrders : GoodIn wsL_isReached wsX0_bestOrders := goodIn_ca (goodIn_r _ [110, 18, 8, 9, 5, 10, 11, 12, 13, 14, 15, 16, 17, 19, 20, 21, 22, 23, 24, 25, 26, 27, 28, 29, 30, 31, 32, 33, 34, 35, 36, 37, 38, 39, 40, 41, 42, 43, 44, 45, 46, 47, 48, 49, 50, 51, 52, 53, 54, 55, 7, 56, 57, 58, 59, 60, 61, 62, 63, 64, 65, 66, 67, 68, 123, 124, 125, 126, 127, 128, 129, 130, 131, 132, 133, 134, 135] (by decide +kernel) (by decide +kernel)) (goodIn_sub (fun _ h => List.mem_cons_of_mem _ (List.mem_append_left _ (List.mem_append_right _ h))) (by decide +kernel))
set_option maxRecDepth 20000 in
theorem gL_isReached_X0_bestOrders : GoodIn wsL_isReached (wsV RL 37 RX0 yX0_bestOrders wsX0_bestOrders) := goodIn_app (goodIn_of _ (by decide +kernel)) ggL_isReached_X0_bestOrders
set_option maxRecDepth 20000 in
theorem ggL_isReached_X0_gap : GoodIn wsL_isReached wsX0_gap := goodIn_r _ [114, 7, 103, 104, 105, 5, 106, 19, 87, 21, 22, 23, 24, 25, 26, 27, 28, 29, 30, 31, 32, 33, 34, 35, 36, 37, 38, 39, 40, 41, 42, 43, 44, 45, 46, 47, 48, 49, 50, 51, 13, 14, 15, 16, 17, 18, 20, 52, 53, 54, 55, 56, 57, 58, 59, 60, 61, 62, 63, 64, 65, 66, 67, 68, 123, 124, 125, 126, 127, 128, 129, 130, 131, 132, 133, 134, 135] (by decide +kernel) (by decide +kernel)
set_option maxRecDepth 20000 in
theorem gL_isReached_X0_gap : GoodIn wsL_isReached (wsV RL 40 RX0 yX0_gap wsX0_gap) := goodIn_app (goodIn_of _ (by decide +kernel)) ggL_isReached_X0_gap
set_option maxRecDepth 20000 in
theorem ggL_isReached_X0_improve : GoodIn wsL_isReached wsX0_improve := goodIn_r _ [118, 19, 87, 103, 104, 105, 5, 106, 21, 22, 23, 24, 25, 26, 27, 28, 29, 30, 31, 32, 33, 34, 35, 36, 37, 38, 39, 40, 41, 42, 43, 44, 45, 46, 47, 48, 49, 50, 51, 119, 120, 121, 122, 20, 57, 58, 59, 60, 96, 97, 98, 123, 124, 125, 126, 127, 128, 129, 130, 131, 132, 133, 134, 135] (by decide +kernel) (by decide +kernel)
set_option maxRecDepth 20000 in
theorem gL_isReached_X0_improve : GoodIn wsL_isReached (wsV RL 44 RX0 yX0_improve wsX0_improve) := goodIn_app (goodIn_of _ (by decide +kernel)) ggL_isReached_X0_improve
theorem dL_isReached_0 : decode cL_isReached 0 = .ok (.aload_n 0, 1) := by decide +kernel
theorem dL_isReached_1 : decode cL_isReached 1 = .ok (.iload_n 1, 1) := by decide +kernel
theorem dL_isReached_2 : decode cL_isReached 2 = .ok (.invokevirtual 8, 3) := by decide +kernel
theorem dL_isReached_5 : decode cL_isReached 5 = .ok (.istore_n 2, 1) := by decide +kernel
theorem dL_isReached_6 : decode cL_isReached 6 = .ok (.iconst 0, 1) := by decide +kernel
theorem dL_isReached_7 : decode cL_isReached 7 = .ok (.istore_n 3, 1) := by decide +kernel
theorem dL_isReached_8 : decode cL_isReached 8 = .ok (.bipush 7, 2) := by decide +kernel
theorem dL_isReached_10 : decode cL_isReached 10 = .ok (.newarray .int, 2) := by decide +kernel
theorem dL_isReached_12 : decode cL_isReached 12 = .ok (.astore 4, 2) := by decide +kernel
theorem dL_isReached_14 : decode cL_isReached 14 = .ok (.iconst 0, 1) := by decide +kernel
theorem dL_isReached_15 : decode cL_isReached 15 = .ok (.istore 5, 2) := by decide +kernel
theorem dL_isReached_17 : decode cL_isReached 17 = .ok (.iload 5, 2) := by decide +kernel
theorem dL_isReached_19 : decode cL_isReached 19 = .ok (.aload_n 0, 1) := by decide +kernel
theorem dL_isReached_20 : decode cL_isReached 20 = .ok (.invokevirtual 28, 3) := by decide +kernel
theorem dL_isReached_23 : decode cL_isReached 23 = .ok (.if_icmp .ge 31, 3) := by decide +kernel
theorem dL_isReached_26 : decode cL_isReached 26 = .ok (.aload 4, 2) := by decide +kernel
theorem dL_isReached_28 : decode cL_isReached 28 = .ok (.iload 5, 2) := by decide +kernel
theorem dL_isReached_30 : decode cL_isReached 30 = .ok (.aload_n 0, 1) := by decide +kernel
theorem dL_isReached_31 : decode cL_isReached 31 = .ok (.iload_n 1, 1) := by decide +kernel
theorem dL_isReached_32 : decode cL_isReached 32 = .ok (.iload 5, 2) := by decide +kernel
theorem dL_isReached_34 : decode cL_isReached 34 = .ok (.invokevirtual 31, 3) := by decide +kernel
theorem dL_isReached_37 : decode cL_isReached 37 = .ok (.iastore, 1) := by decide +kernel
theorem dL_isReached_38 : decode cL_isReached 38 = .ok (.iload_n 3, 1) := by decide +kernel
theorem dL_isReached_39 : decode cL_isReached 39 = .ok (.iconst 1, 1) := by decide +kernel
theorem dL_isReached_40 : decode cL_isReached 40 = .ok (.aload 4, 2) := by decide +kernel
theorem dL_isReached_42 : decode cL_isReached 42 = .ok (.iload 5, 2) := by decide +kernel
theorem dL_isReached_44 : decode cL_isReached 44 = .ok (.iaload, 1) := by decide +kernel
theorem dL_isReached_45 : decode cL_isReached 45 = .ok (.ishl, 1) := by decide +kernel
theorem dL_isReached_46 : decode cL_isReached 46 = .ok (.ior, 1) := by decide +kernel
theorem dL_isReached_47 : decode cL_isReached 47 = .ok (.istore_n 3, 1) := by decide +kernel
theorem dL_isReached_48 : decode cL_isReached 48 = .ok (.iinc 5 1, 3) := by decide +kernel
theorem dL_isReached_51 : decode cL_isReached 51 = .ok (.goto (-34), 3) := by decide +kernel
theorem dL_isReached_54 : decode cL_isReached 54 = .ok (.iconst 0, 1) := by decide +kernel
theorem dL_isReached_55 : decode cL_isReached 55 = .ok (.istore 5, 2) := by decide +kernel
theorem dL_isReached_57 : decode cL_isReached 57 = .ok (.iload 5, 2) := by decide +kernel
theorem dL_isReached_59 : decode cL_isReached 59 = .ok (.aload_n 0, 1) := by decide +kernel
theorem dL_isReached_60 : decode cL_isReached 60 = .ok (.invokevirtual 28, 3) := by decide +kernel
theorem dL_isReached_63 : decode cL_isReached 63 = .ok (.if_icmp .ge 21, 3) := by decide +kernel
theorem dL_isReached_66 : decode cL_isReached 66 = .ok (.aload_n 0, 1) := by decide +kernel
theorem dL_isReached_67 : decode cL_isReached 67 = .ok (.aload 4, 2) := by decide +kernel
theorem dL_isReached_69 : decode cL_isReached 69 = .ok (.iload 5, 2) := by decide +kernel
theorem dL_isReached_71 : decode cL_isReached 71 = .ok (.iaload, 1) := by decide +kernel
theorem dL_isReached_72 : decode cL_isReached 72 = .ok (.iload 5, 2) := by decide +kernel
theorem dL_isReached_74 : decode cL_isReached 74 = .ok (.invokevirtual 34, 3) := by decide +kernel
theorem dL_isReached_77 : decode cL_isReached 77 = .ok (.pop, 1) := by decide +kernel
theorem dL_isReached_78 : decode cL_isReached 78 = .ok (.iinc 5 1, 3) := by decide +kernel
theorem dL_isReached_81 : decode cL_isReached 81 = .ok (.goto (-24), 3) := by decide +kernel
theorem dL_isReached_84 : decode cL_isReached 84 = .ok (.iload_n 3, 1) := by decide +kernel
theorem dL_isReached_85 : decode cL_isReached 85 = .ok (.iconst 1, 1) := by decide +kernel
theorem dL_isReached_86 : decode cL_isReached 86 = .ok (.aload_n 0, 1) := by decide +kernel
theorem dL_isReached_87 : decode cL_isReached 87 = .ok (.invokevirtual 28, 3) := by decide +kernel
theorem dL_isReached_90 : decode cL_isReached 90 = .ok (.ishl, 1) := by decide +kernel
theorem dL_isReached_91 : decode cL_isReached 91 = .ok (.iconst 1, 1) := by decide +kernel
theorem dL_isReached_92 : decode cL_isReached 92 = .ok (.isub, 1) := by decide +kernel
theorem dL_isReached_93 : decode cL_isReached 93 = .ok (.if_icmp .ne 24, 3) := by decide +kernel
theorem dL_isReached_96 : decode cL_isReached 96 = .ok (.aload_n 0, 1) := by decide +kernel
theorem dL_isReached_97 : decode cL_isReached 97 = .ok (.iload_n 1, 1) := by decide +kernel
theorem dL_isReached_98 : decode cL_isReached 98 = .ok (.invokevirtual 14, 3) := by decide +kernel
theorem dL_isReached_101 : decode cL_isReached 101 = .ok (.iload_n 2, 1) := by decide +kernel
theorem dL_isReached_102 : decode cL_isReached 102 = .ok (.if_icmp .ne 15, 3) := by decide +kernel
theorem dL_isReached_105 : decode cL_isReached 105 = .ok (.aload_n 0, 1) := by decide +kernel
theorem dL_isReached_106 : decode cL_isReached 106 = .ok (.iload_n 1, 1) := by decide +kernel
theorem dL_isReached_107 : decode cL_isReached 107 = .ok (.invokevirtual 37, 3) := by decide +kernel
theorem dL_isReached_110 : decode cL_isReached 110 = .ok (.ifCond .le 7, 3) := by decide +kernel
theorem dL_isReached_113 : decode cL_isReached 113 = .ok (.iconst 1, 1) := by decide +kernel
theorem dL_isReached_114 : decode cL_isReached 114 = .ok (.goto 4, 3) := by decide +kernel
theorem dL_isReached_117 : decode cL_isReached 117 = .ok (.iconst 0, 1) := by decide +kernel
theorem dL_isReached_118 : decode cL_isReached 118 = .ok (.istore 5, 2) := by decide +kernel
theorem dL_isReached_120 : decode cL_isReached 120 = .ok (.iload 5, 2) := by decide +kernel
theorem dL_isReached_122 : decode cL_isReached 122 = .ok (.ifCond .eq 27, 3) := by decide +kernel
theorem dL_isReached_125 : decode cL_isReached 125 = .ok (.iload_n 1, 1) := by decide +kernel
theorem dL_isReached_126 : decode cL_isReached 126 = .ok (.ifCond .gt 19, 3) := by decide +kernel
theorem dL_isReached_129 : decode cL_isReached 129 = .ok (.aload_n 0, 1) := by decide +kernel
theorem dL_isReached_130 : decode cL_isReached 130 = .ok (.invokevirtual 40, 3) := by decide +kernel
theorem dL_isReached_133 : decode cL_isReached 133 = .ok (.dconst 0, 1) := by decide +kernel
theorem dL_isReached_134 : decode cL_isReached 134 = .ok (.dcmp .l, 1) := by decide +kernel
theorem dL_isReached_135 : decode cL_isReached 135 = .ok (.ifCond .ne 14, 3) := by decide +kernel
theorem dL_isReached_138 : decode cL_isReached 138 = .ok (.aload_n 0, 1) := by decide +kernel
theorem dL_isReached_139 : decode cL_isReached 139 = .ok (.invokevirtual 44, 3) := by decide +kernel
theorem dL_isReached_142 : decode cL_isReached 142 = .ok (.ifCond .ne 7, 3) := by decide +kernel
theorem dL_isReached_145 : decode cL_isReached 145 = .ok (.iconst 1, 1) := by decide +kernel
theorem dL_isReached_146 : decode cL_isReached 146 = .ok (.goto 4, 3) := by decide +kernel
theorem dL_isReached_149 : decode cL_isReached 149 = .ok (.iconst 0, 1) := by decide +kernel
theorem dL_isReached_150 : decode cL_isReached 150 = .ok (.ireturn, 1) := by decide +kernel
set_option maxRecDepth 20000 in
theorem ggL_isImproved_X0_best : GoodIn wsL_isImproved wsX0_best := goodIn_ca (goodIn_r _ [5, 6, 7, 8, 4, 9, 10, 11, 12, 13, 14, 15, 16, 17, 18, 19, 20, 21, 22, 23, 24, 25, 26, 27, 28, 29, 30, 31, 32, 33, 34, 35, 36, 37, 38, 39, 40, 41, 42, 43, 44, 45, 46, 47, 48, 49, 50, 51, 52, 53, 54, 55, 56, 57, 58, 59, 60, 61, 62, 63, 64, 65, 66, 67, 127, 128, 129, 130, 131, 132, 133, 134, 135, 136, 137, 138, 139] (by decide +kernel) (by decide +kernel)) (goodIn_sub (fun _ h => List.mem_cons_of_mem _ (List.mem_append_left _ (List.mem_append_right _ h))) (by decide +kernel))
set_option maxRecDepth 20000 in
theorem gL_isImproved_X0_best : GoodIn wsL_isImproved (wsV RL 8 RX0 yX0_best wsX0_best) := goodIn_app (goodIn_of _ (by decide +kernel)) ggL_isImproved_X0_best
set_option maxRecDepth 20000 in
theorem ggL_isImproved_X0_makespan : GoodIn wsL_isImproved wsX0_makespan := goodIn_ca (goodIn_r _ [71, 7, 8, 4, 9, 10, 11, 72, 73, 74, 75, 18, 76, 20, 21, 22, 23, 24, 25, 26, 27, 28, 29, 30, 31, 32, 33, 34, 35, 36, 37, 38, 39, 40, 41, 42, 43, 44, 45, 46, 47, 48, 49, 50, 127, 128, 129, 130, 131, 132, 133, 134, 135, 136, 137, 138, 139] (by decide +kernel) (by decide +kernel)) (goodIn_sub (fun _ h => List.mem_cons_of_mem _ (List.mem_append_left _ (List.mem_append_right _ h))) (by decide +kernel))
set_option maxRecDepth 20000 in
theorem gL_isImproved_X0_makespan : GoodIn wsL_isImproved (wsV RL 14 RX0 yX0_makespan wsX0_makespan) := goodIn_app (goodIn_of _ (by decide +kernel)) ggL_isImproved_X0_makespan
set_option maxRecDepth 20000 in
theorem ggL_isImproved_X0_improve : GoodIn wsL_isImproved wsX0_improve := goodIn_r _ [80, 18, 76, 72, 73, 74, 4, 75, 20, 21, 22, 23, 24, 25, 26, 27, 28, 29, 30, 31, 32, 33, 34, 35, 36, 37, 38, 39, 40, 41, 42, 43, 44, 45, 46, 47, 48, 49, 50, 81, 82, 83, 84, 19, 56, 57, 58, 59, 85, 86, 87, 127, 128, 129, 130, 131, 132, 133, 134, 135, 136, 137, 138, 139] (by decide +kernel) (by decide +kernel)
set_option maxRecDepth 20000 in
theorem gL_isImproved_X0_improve : GoodIn wsL_isImproved (wsV RL 44 RX0 yX0_improve wsX0_improve) := goodIn_app (goodIn_of _ (by decide +kernel)) ggL_isImproved_X0_improve
set_option maxRecDepth 20000 in
theorem ggL_isImproved_X0_orderByInsertion : GoodIn wsL_isImproved wsX0_orderByInsertion := goodIn_r _ [91, 18, 76, 92, 93, 94, 95, 4, 96, 24, 97, 98, 99, 100, 42, 43, 44, 45, 46, 39, 40, 41, 101, 102, 103, 104, 81, 82, 83, 84, 19, 56, 57, 58, 59, 85, 86, 87, 20, 21, 22, 23, 25, 26, 27, 28, 29, 30, 31, 32, 33, 34, 35, 36, 37, 38, 47, 48, 49, 50, 72, 73, 74, 75, 127, 128, 129, 130, 131, 132, 133, 134, 135, 136, 137, 138, 139] (by decide +kernel) (by decide +kernel)
set_option maxRecDepth 20000 in
theorem gL_isImproved_X0_orderByInsertion : GoodIn wsL_isImproved (wsV RL 47 RX0 yX0_orderByInsertion wsX0_orderByInsertion) := goodIn_app (goodIn_of _ (by decide +kernel)) ggL_isImproved_X0_orderByInsertion
set_option maxRecDepth 20000 in
theorem ggL_isImproved_X0_machines : GoodIn wsL_isImproved wsX0_machines := goodIn_r _ [108, 24, 127, 128, 129, 130, 131, 132, 133, 134, 135, 136, 137, 138, 139] (by decide +kernel) (by decide +kernel)
set_option maxRecDepth 20000 in
theorem gL_isImproved_X0_machines : GoodIn wsL_isImproved (wsV RL 17 RX0 yX0_machines wsX0_machines) := goodIn_app (goodIn_of _ (by decide +kernel)) ggL_isImproved_X0_machines
set_option maxRecDepth 20000 in
theorem ggL_isImproved_X0_orderByRule : GoodIn wsL_isImproved wsX0_orderByRule := goodIn_ca (goodIn_r _ [112, 113, 114, 24, 76, 115, 116, 117, 4, 118, 18, 119, 120, 121, 122, 42, 43, 44, 45, 46, 39, 40, 41, 72, 73, 74, 75, 20, 21, 22, 23, 25, 26, 27, 28, 29, 30, 31, 32, 33, 34, 35, 36, 37, 38, 47, 48, 49, 50, 127, 128, 129, 130, 131, 132, 133, 134, 135, 136, 137, 138, 139] (by decide +kernel) (by decide +kernel)) (goodIn_sub (fun _ h => List.mem_cons_of_mem _ (List.mem_append_right _ h)) (by decide +kernel))
set_option maxRecDepth 20000 in
theorem gL_isImproved_X0_orderByRule : GoodIn wsL_isImproved (wsV RL 50 RX0 yX0_orderByRule wsX0_orderByRule) := goodIn_app (goodIn_of _ (by decide +kernel)) ggL_isImproved_X0_orderByRule
set_option maxRecDepth 20000 in
theorem ggL_isImproved_X0_gap : GoodIn wsL_isImproved wsX0_gap := goodIn_r _ [126, 6, 72, 73, 74, 4, 75, 18, 76, 20, 21, 22, 23, 24, 25, 26, 27, 28, 29, 30, 31, 32, 33, 34, 35, 36, 37, 38, 39, 40, 41, 42, 43, 44, 45, 46, 47, 48, 49, 50, 12, 13, 14, 15, 16, 17, 19, 51, 52, 53, 54, 55, 56, 57, 58, 59, 60, 61, 62, 63, 64, 65, 66, 67, 127, 128, 129, 130, 131, 132, 133, 134, 135, 136, 137, 138, 139] (by decide +kernel) (by decide +kernel)
set_option maxRecDepth 20000 in
theorem gL_isImproved_X0_gap : GoodIn wsL_isImproved (wsV RL 40 RX0 yX0_gap wsX0_gap) := goodIn_app (goodIn_of _ (by decide +kernel)) ggL_isImproved_X0_gap
theorem dL_isImproved_0 : decode cL_isImproved 0 = .ok (.aload_n 0, 1) := by decide +kernel
theorem dL_isImproved_1 : decode cL_isImproved 1 = .ok (.iconst 0, 1) := by decide +kernel
theorem dL_isImproved_2 : decode cL_isImproved 2 = .ok (.invokevirtual 8, 3) := by decide +kernel
theorem dL_isImproved_5 : decode cL_isImproved 5 = .ok (.istore_n 1, 1) := by decide +kernel
theorem dL_isImproved_6 : decode cL_isImproved 6 = .ok (.iconst 1, 1) := by decide +kernel
theorem dL_isImproved_7 : decode cL_isImproved 7 = .ok (.istore_n 2, 1) := by decide +kernel
theorem dL_isImproved_8 : decode cL_isImproved 8 = .ok (.iconst 0, 1) := by decide +kernel
theorem dL_isImproved_9 : decode cL_isImproved 9 = .ok (.istore_n 3, 1) := by decide +kernel
theorem dL_isImproved_10 : decode cL_isImproved 10 = .ok (.aload_n 0, 1) := by decide +kernel
theorem dL_isImproved_11 : decode cL_isImproved 11 = .ok (.iconst 0, 1) := by decide +kernel
theorem dL_isImproved_12 : decode cL_isImproved 12 = .ok (.invokevirtual 14, 3) := by decide +kernel
theorem dL_isImproved_15 : decode cL_isImproved 15 = .ok (.istore 4, 2) := by decide +kernel
theorem dL_isImproved_17 : decode cL_isImproved 17 = .ok (.aload_n 0, 1) := by decide +kernel
theorem dL_isImproved_18 : decode cL_isImproved 18 = .ok (.invokevirtual 44, 3) := by decide +kernel
theorem dL_isImproved_21 : decode cL_isImproved 21 = .ok (.istore 5, 2) := by decide +kernel
theorem dL_isImproved_23 : decode cL_isImproved 23 = .ok (.iload 5, 2) := by decide +kernel
theorem dL_isImproved_25 : decode cL_isImproved 25 = .ok (.ifCond .le 52, 3) := by decide +kernel
theorem dL_isImproved_28 : decode cL_isImproved 28 = .ok (.iload_n 2, 1) := by decide +kernel
theorem dL_isImproved_29 : decode cL_isImproved 29 = .ok (.ifCond .eq 48, 3) := by decide +kernel
theorem dL_isImproved_32 : decode cL_isImproved 32 = .ok (.iload_n 3, 1) := by decide +kernel
theorem dL_isImproved_33 : decode cL_isImproved 33 = .ok (.sipush 200, 3) := by decide +kernel
theorem dL_isImproved_36 : decode cL_isImproved 36 = .ok (.if_icmp .ge 41, 3) := by decide +kernel
theorem dL_isImproved_39 : decode cL_isImproved 39 = .ok (.aload_n 0, 1) := by decide +kernel
theorem dL_isImproved_40 : decode cL_isImproved 40 = .ok (.iconst 0, 1) := by decide +kernel
theorem dL_isImproved_41 : decode cL_isImproved 41 = .ok (.invokevirtual 14, 3) := by decide +kernel
theorem dL_isImproved_44 : decode cL_isImproved 44 = .ok (.iload 4, 2) := by decide +kernel
theorem dL_isImproved_46 : decode cL_isImproved 46 = .ok (.iload 5, 2) := by decide +kernel
theorem dL_isImproved_48 : decode cL_isImproved 48 = .ok (.isub, 1) := by decide +kernel
theorem dL_isImproved_49 : decode cL_isImproved 49 = .ok (.if_icmp .ne 7, 3) := by decide +kernel
theorem dL_isImproved_52 : decode cL_isImproved 52 = .ok (.iconst 1, 1) := by decide +kernel
theorem dL_isImproved_53 : decode cL_isImproved 53 = .ok (.goto 4, 3) := by decide +kernel
theorem dL_isImproved_56 : decode cL_isImproved 56 = .ok (.iconst 0, 1) := by decide +kernel
theorem dL_isImproved_57 : decode cL_isImproved 57 = .ok (.istore_n 2, 1) := by decide +kernel
theorem dL_isImproved_58 : decode cL_isImproved 58 = .ok (.iload 4, 2) := by decide +kernel
theorem dL_isImproved_60 : decode cL_isImproved 60 = .ok (.iload 5, 2) := by decide +kernel
theorem dL_isImproved_62 : decode cL_isImproved 62 = .ok (.isub, 1) := by decide +kernel
theorem dL_isImproved_63 : decode cL_isImproved 63 = .ok (.istore 4, 2) := by decide +kernel
theorem dL_isImproved_65 : decode cL_isImproved 65 = .ok (.aload_n 0, 1) := by decide +kernel
theorem dL_isImproved_66 : decode cL_isImproved 66 = .ok (.invokevirtual 44, 3) := by decide +kernel
theorem dL_isImproved_69 : decode cL_isImproved 69 = .ok (.istore 5, 2) := by decide +kernel
theorem dL_isImproved_71 : decode cL_isImproved 71 = .ok (.iinc 3 1, 3) := by decide +kernel
theorem dL_isImproved_74 : decode cL_isImproved 74 = .ok (.goto (-51), 3) := by decide +kernel
theorem dL_isImproved_77 : decode cL_isImproved 77 = .ok (.iload_n 2, 1) := by decide +kernel
theorem dL_isImproved_78 : decode cL_isImproved 78 = .ok (.ifCond .eq 28, 3) := by decide +kernel
theorem dL_isImproved_81 : decode cL_isImproved 81 = .ok (.iload 5, 2) := by decide +kernel
theorem dL_isImproved_83 : decode cL_isImproved 83 = .ok (.ifCond .ne 23, 3) := by decide +kernel
theorem dL_isImproved_86 : decode cL_isImproved 86 = .ok (.aload_n 0, 1) := by decide +kernel
theorem dL_isImproved_87 : decode cL_isImproved 87 = .ok (.iconst 0, 1) := by decide +kernel
theorem dL_isImproved_88 : decode cL_isImproved 88 = .ok (.invokevirtual 14, 3) := by decide +kernel
theorem dL_isImproved_91 : decode cL_isImproved 91 = .ok (.iload 4, 2) := by decide +kernel
theorem dL_isImproved_93 : decode cL_isImproved 93 = .ok (.if_icmp .ne 13, 3) := by decide +kernel
theorem dL_isImproved_96 : decode cL_isImproved 96 = .ok (.iload 4, 2) := by decide +kernel
theorem dL_isImproved_98 : decode cL_isImproved 98 = .ok (.iload_n 1, 1) := by decide +kernel
theorem dL_isImproved_99 : decode cL_isImproved 99 = .ok (.if_icmp .lt 7, 3) := by decide +kernel
theorem dL_isImproved_102 : decode cL_isImproved 102 = .ok (.iconst 1, 1) := by decide +kernel
theorem dL_isImproved_103 : decode cL_isImproved 103 = .ok (.goto 4, 3) := by decide +kernel
theorem dL_isImproved_106 : decode cL_isImproved 106 = .ok (.iconst 0, 1) := by decide +kernel
theorem dL_isImproved_107 : decode cL_isImproved 107 = .ok (.istore_n 2, 1) := by decide +kernel
theorem dL_isImproved_108 : decode cL_isImproved 108 = .ok (.aload_n 0, 1) := by decide +kernel
theorem dL_isImproved_109 : decode cL_isImproved 109 = .ok (.invokevirtual 47, 3) := by decide +kernel
theorem dL_isImproved_112 : decode cL_isImproved 112 = .ok (.istore 6, 2) := by decide +kernel
theorem dL_isImproved_114 : decode cL_isImproved 114 = .ok (.iload_n 2, 1) := by decide +kernel
theorem dL_isImproved_115 : decode cL_isImproved 115 = .ok (.ifCond .eq 23, 3) := by decide +kernel
theorem dL_isImproved_118 : decode cL_isImproved 118 = .ok (.iload 6, 2) := by decide +kernel
theorem dL_isImproved_120 : decode cL_isImproved 120 = .ok (.aload_n 0, 1) := by decide +kernel
theorem dL_isImproved_121 : decode cL_isImproved 121 = .ok (.iconst 0, 1) := by decide +kernel
theorem dL_isImproved_122 : decode cL_isImproved 122 = .ok (.invokevirtual 14, 3) := by decide +kernel
theorem dL_isImproved_125 : decode cL_isImproved 125 = .ok (.if_icmp .ne 13, 3) := by decide +kernel
theorem dL_isImproved_128 : decode cL_isImproved 128 = .ok (.iload 6, 2) := by decide +kernel
theorem dL_isImproved_130 : decode cL_isImproved 130 = .ok (.iload_n 1, 1) := by decide +kernel
theorem dL_isImproved_131 : decode cL_isImproved 131 = .ok (.if_icmp .lt 7, 3) := by decide +kernel
theorem dL_isImproved_134 : decode cL_isImproved 134 = .ok (.iconst 1, 1) := by decide +kernel
theorem dL_isImproved_135 : decode cL_isImproved 135 = .ok (.goto 4, 3) := by decide +kernel
theorem dL_isImproved_138 : decode cL_isImproved 138 = .ok (.iconst 0, 1) := by decide +kernel
theorem dL_isImproved_139 : decode cL_isImproved 139 = .ok (.istore_n 2, 1) := by decide +kernel
theorem dL_isImproved_140 : decode cL_isImproved 140 = .ok (.aload_n 0, 1) := by decide +kernel
theorem dL_isImproved_141 : decode cL_isImproved 141 = .ok (.invokevirtual 17, 3) := by decide +kernel
theorem dL_isImproved_144 : decode cL_isImproved 144 = .ok (.iconst 2, 1) := by decide +kernel
theorem dL_isImproved_145 : decode cL_isImproved 145 = .ok (.if_icmp .ne 44, 3) := by decide +kernel
theorem dL_isImproved_148 : decode cL_isImproved 148 = .ok (.aload_n 0, 1) := by decide +kernel
theorem dL_isImproved_149 : decode cL_isImproved 149 = .ok (.invokevirtual 50, 3) := by decide +kernel
theorem dL_isImproved_152 : decode cL_isImproved 152 = .ok (.istore 7, 2) := by decide +kernel
theorem dL_isImproved_154 : decode cL_isImproved 154 = .ok (.iload_n 2, 1) := by decide +kernel
theorem dL_isImproved_155 : decode cL_isImproved 155 = .ok (.ifCond .eq 32, 3) := by decide +kernel
theorem dL_isImproved_158 : decode cL_isImproved 158 = .ok (.iload 7, 2) := by decide +kernel
theorem dL_isImproved_160 : decode cL_isImproved 160 = .ok (.iload_n 1, 1) := by decide +kernel
theorem dL_isImproved_161 : decode cL_isImproved 161 = .ok (.if_icmp .ne 26, 3) := by decide +kernel
theorem dL_isImproved_164 : decode cL_isImproved 164 = .ok (.iload 7, 2) := by decide +kernel
theorem dL_isImproved_166 : decode cL_isImproved 166 = .ok (.aload_n 0, 1) := by decide +kernel
theorem dL_isImproved_167 : decode cL_isImproved 167 = .ok (.iconst 0, 1) := by decide +kernel
theorem dL_isImproved_168 : decode cL_isImproved 168 = .ok (.invokevirtual 14, 3) := by decide +kernel
theorem dL_isImproved_171 : decode cL_isImproved 171 = .ok (.if_icmp .ne 16, 3) := by decide +kernel
theorem dL_isImproved_174 : decode cL_isImproved 174 = .ok (.aload_n 0, 1) := by decide +kernel
theorem dL_isImproved_175 : decode cL_isImproved 175 = .ok (.invokevirtual 40, 3) := by decide +kernel
theorem dL_isImproved_178 : decode cL_isImproved 178 = .ok (.dconst 0, 1) := by decide +kernel
theorem dL_isImproved_179 : decode cL_isImproved 179 = .ok (.dcmp .l, 1) := by decide +kernel
theorem dL_isImproved_180 : decode cL_isImproved 180 = .ok (.ifCond .ne 7, 3) := by decide +kernel
theorem dL_isImproved_183 : decode cL_isImproved 183 = .ok (.iconst 1, 1) := by decide +kernel
theorem dL_isImproved_184 : decode cL_isImproved 184 = .ok (.goto 4, 3) := by decide +kernel
theorem dL_isImproved_187 : decode cL_isImproved 187 = .ok (.iconst 0, 1) := by decide +kernel
theorem dL_isImproved_188 : decode cL_isImproved 188 = .ok (.istore_n 2, 1) := by decide +kernel
theorem dL_isImproved_189 : decode cL_isImproved 189 = .ok (.iload_n 2, 1) := by decide +kernel
theorem dL_isImproved_190 : decode cL_isImproved 190 = .ok (.ireturn, 1) := by decide +kernel
set_option maxRecDepth 20000 in
theorem ggL_law_X0_init : GoodIn wsL_law wsX0_init := goodIn_r _ [5, 6, 7, 8, 9, 10, 11, 12, 13, 14, 15, 16, 17, 18, 19, 20, 21, 22, 23, 227, 228, 229, 230, 231, 232, 233, 234, 235, 236, 237, 238, 239] (by decide +kernel) (by decide +kernel)
set_option maxRecDepth 20000 in
theorem gL_law_X0_init : GoodIn wsL_law (wsX0_init) := ggL_law_X0_init
set_option maxRecDepth 20000 in
theorem ggL_law_L_cell : GoodIn wsL_law wsL_cell := goodIn_r _ [27] (by decide +kernel) (by decide +kernel)
set_option maxRecDepth 20000 in
theorem gL_law_L_cell : GoodIn wsL_law (va_wsS RL 54 yL_cell wsL_cell) := goodIn_app (goodIn_of _ (by decide +kernel)) ggL_law_L_cell
set_option maxRecDepth 20000 in
theorem ggL_law_L_low : GoodIn wsL_law wsL_low := goodIn_r _ [30, 31] (by decide +kernel) (by decide +kernel)
set_option maxRecDepth 20000 in
theorem gL_law_L_low : GoodIn wsL_law (va_wsS RL 60 yL_low wsL_low) := goodIn_app (goodIn_of _ (by decide +kernel)) ggL_law_L_low
set_option maxRecDepth 20000 in
theorem ggL_law_X0_setMachines : GoodIn wsL_law wsX0_setMachines := goodIn_ca (goodIn_r _ [35, 36, 37, 10, 9, 12, 38, 39, 2, 40, 41, 42, 43, 44, 20, 227, 228, 229, 230, 231, 232, 233, 234, 235, 236, 237, 238, 239] (by decide +kernel) (by decide +kernel)) (goodIn_sub (fun _ h => List.mem_append_left _ (List.mem_append_left _ (List.mem_append_right _ h))) (by decide +kernel))
set_option maxRecDepth 20000 in
theorem gL_law_X0_setMachines : GoodIn wsL_law (wsV RL 63 RX0 yX0_setMachines wsX0_setMachines) := goodIn_app (goodIn_of _ (by decide +kernel)) ggL_law_X0_setMachines
set_option maxRecDepth 20000 in
theorem ggL_law_X0_jobs : GoodIn wsL_law wsX0_jobs := goodIn_r _ [48, 9, 227, 228, 229, 230, 231, 232, 233, 234, 235, 236, 237, 238, 239] (by decide +kernel) (by decide +kernel)
set_option maxRecDepth 20000 in
theorem gL_law_X0_jobs : GoodIn wsL_law (wsV RL 28 RX0 yX0_jobs wsX0_jobs) := goodIn_app (goodIn_of _ (by decide +kernel)) ggL_law_X0_jobs
set_option maxRecDepth 20000 in
theorem ggL_law_X0_addJob : GoodIn wsL_law wsX0_addJob := goodIn_ca (goodIn_r _ [52, 53, 54, 9, 16, 41, 42, 43, 2, 44, 20, 227, 228, 229, 230, 231, 232, 233, 234, 235, 236, 237, 238, 239] (by decide +kernel) (by decide +kernel)) (goodIn_sub (fun _ h => List.mem_append_left _ (List.mem_append_right _ h)) (by decide +kernel))
set_option maxRecDepth 20000 in
theorem gL_law_X0_addJob : GoodIn wsL_law (wsV RL 66 RX0 yX0_addJob wsX0_addJob) := goodIn_app (goodIn_of _ (by decide +kernel)) ggL_law_X0_addJob
set_option maxRecDepth 20000 in
theorem ggL_law_X0_setTime : GoodIn wsL_law wsX0_setTime := goodIn_ca (goodIn_ca (goodIn_r _ [58, 36, 37, 12, 59, 60, 61, 2, 62, 63, 64, 9, 65, 66, 67, 68, 10, 38, 39, 40, 41, 42, 43, 44, 20, 227, 228, 229, 230, 231, 232, 233, 234, 235, 236, 237, 238, 239] (by decide +kernel) (by decide +kernel)) (goodIn_sub (fun _ h => List.mem_append_left _ (List.mem_append_left _ (List.mem_append_right _ h))) (by decide +kernel))) (goodIn_sub (fun _ h => List.mem_append_right _ h) (by decide +kernel))
set_option maxRecDepth 20000 in
theorem gL_law_X0_setTime : GoodIn wsL_law (wsV RL 69 RX0 yX0_setTime wsX0_setTime) := goodIn_app (goodIn_of _ (by decide +kernel)) ggL_law_X0_setTime
set_option maxRecDepth 20000 in
theorem ggL_law_L_areBest : GoodIn wsL_law wsL_areBest := goodIn_ca (goodIn_ca (goodIn_r _ [71, 72, 73, 74, 2, 75, 21, 76, 77, 78, 36, 37, 79, 80, 81, 82, 20, 22, 9, 17, 83, 84, 85, 86, 10, 87, 88, 89, 90, 13, 14, 91, 92, 93, 94, 95, 96, 97, 98, 38, 39, 40, 99, 100, 101, 102, 12, 103, 104, 105, 106, 107, 108, 109, 110, 23, 111, 112, 113, 114, 115, 116, 117, 118, 119, 120, 121, 122, 123, 124, 125, 126, 127, 128, 129, 130, 16, 131, 132, 133, 134, 135, 136, 137, 138, 65, 66, 67, 68, 63, 64, 139, 140, 141, 142, 143, 144, 145, 146, 147, 148, 149, 150, 151, 152, 153, 154, 155, 156, 157, 158, 159, 160, 161, 162, 163, 164, 165, 166, 167, 168, 169, 227, 228, 229, 230, 231, 232, 233, 234, 235, 236, 237, 238, 239] (by decide +kernel) (by decide +kernel)) (goodIn_sub (fun _ h => List.mem_append_left _ (List.mem_append_left _ (List.mem_append_right _ h))) (by decide +kernel))) (goodIn_sub (fun _ h => List.mem_append_right _ h) (by decide +kernel))
set_option maxRecDepth 20000 in
theorem gL_law_L_areBest : GoodIn wsL_law (va_wsS RL 73 yL_areBest wsL_areBest) := goodIn_app (goodIn_of _ (by decide +kernel)) ggL_law_L_areBest
set_option maxRecDepth 20000 in
theorem ggL_law_L_isImproved : GoodIn wsL_law wsL_isImproved := goodIn_ca (goodIn_ca (goodIn_r _ [172, 72, 73, 74, 2, 75, 21, 76, 77, 78, 36, 37, 79, 80, 81, 82, 20, 22, 9, 17, 83, 84, 85, 86, 10, 87, 88, 89, 90, 13, 14, 91, 92, 93, 94, 95, 96, 97, 98, 38, 39, 40, 99, 100, 101, 102, 12, 103, 104, 105, 106, 107, 108, 109, 110, 23, 111, 112, 113, 114, 115, 116, 117, 118, 119, 120, 121, 122, 123, 124, 125, 126, 127, 128, 129, 130, 16, 173, 174, 175, 176, 177, 178, 179, 180, 181, 182, 183, 184, 185, 186, 187, 18, 188, 189, 190, 191, 150, 151, 152, 153, 192, 193, 194, 195, 131, 132, 133, 134, 196, 197, 198, 199, 53, 54, 162, 163, 164, 165, 166, 167, 168, 169, 200, 201, 202, 203, 227, 228, 229, 230, 231, 232, 233, 234, 235, 236, 237, 238, 239] (by decide +kernel) (by decide +kernel)) (goodIn_sub (fun _ h => List.mem_append_left _ (List.mem_append_left _ (List.mem_append_right _ h))) (by decide +kernel))) (goodIn_sub (fun _ h => List.mem_append_left _ (List.mem_append_right _ h)) (by decide +kernel))
set_option maxRecDepth 20000 in
theorem gL_law_L_isImproved : GoodIn wsL_law (va_wsS RL 77 yL_isImproved wsL_isImproved) := goodIn_app (goodIn_of _ (by decide +kernel)) ggL_law_L_isImproved
set_option maxRecDepth 20000 in
theorem ggL_law_L_isReached : GoodIn wsL_law wsL_isReached := goodIn_ca (goodIn_ca (goodIn_r _ [206, 11, 72, 73, 74, 2, 75, 21, 76, 77, 78, 36, 37, 79, 80, 81, 82, 20, 22, 9, 17, 83, 84, 85, 86, 10, 87, 88, 89, 90, 13, 14, 91, 92, 93, 94, 95, 96, 97, 98, 38, 39, 40, 99, 100, 101, 102, 12, 103, 104, 105, 106, 107, 108, 109, 110, 23, 111, 112, 113, 114, 115, 116, 117, 118, 119, 120, 121, 122, 45, 46, 47, 48, 207, 208, 209, 210, 211, 212, 213, 214, 63, 64, 215, 216, 217, 218, 16, 59, 60, 61, 62, 219, 220, 221, 222, 181, 182, 183, 123, 124, 125, 126, 127, 128, 129, 130, 223, 224, 225, 226, 200, 201, 202, 203, 173, 174, 175, 176, 177, 178, 179, 180, 227, 228, 229, 230, 231, 232, 233, 234, 235, 236, 237, 238, 239] (by decide +kernel) (by decide +kernel)) (goodIn_sub (fun _ h => List.mem_append_left _ (List.mem_append_left _ (List.mem_append_right _ h))) (by decide +kernel))) (goodIn_sub (fun _ h => List.mem_append_right _ h) (by decide +kernel))
set_option maxRecDepth 20000 in
theorem gL_law_L_isReached : GoodIn wsL_law (va_wsS RL 80 yL_isReached wsL_isReached) := goodIn_app (goodIn_of _ (by decide +kernel)) ggL_law_L_isReached
theorem dL_law_0 : decode cL_law 0 = .ok (.new 9, 3) := by decide +kernel
theorem dL_law_3 : decode cL_law 3 = .ok (.dup, 1) := by decide +kernel
theorem dL_law_4 : decode cL_law 4 = .ok (.invokespecial 53, 3) := by decide +kernel
theorem dL_law_7 : decode cL_law 7 = .ok (.astore_n 1, 1) := by decide +kernel
theorem dL_law_8 : decode cL_law 8 = .ok (.iconst 0, 1) := by decide +kernel
theorem dL_law_9 : decode cL_law 9 = .ok (.istore_n 2, 1) := by decide +kernel
theorem dL_law_10 : decode cL_law 10 = .ok (.iload_n 2, 1) := by decide +kernel
theorem dL_law_11 : decode cL_law 11 = .ok (.iconst 5, 1) := by decide +kernel
theorem dL_law_12 : decode cL_law 12 = .ok (.if_icmp .ge 222, 3) := by decide +kernel
theorem dL_law_15 : decode cL_law 15 = .ok (.aload_n 0, 1) := by decide +kernel
theorem dL_law_16 : decode cL_law 16 = .ok (.bipush 8, 2) := by decide +kernel
theorem dL_law_18 : decode cL_law 18 = .ok (.iload_n 2, 1) := by decide +kernel
theorem dL_law_19 : decode cL_law 19 = .ok (.imul, 1) := by decide +kernel
theorem dL_law_20 : decode cL_law 20 = .ok (.invokestatic 54, 3) := by decide +kernel
theorem dL_law_23 : decode cL_law 23 = .ok (.istore_n 3, 1) := by decide +kernel
theorem dL_law_24 : decode cL_law 24 = .ok (.iload_n 3, 1) := by decide +kernel
theorem dL_law_25 : decode cL_law 25 = .ok (.iconst 3, 1) := by decide +kernel
theorem dL_law_26 : decode cL_law 26 = .ok (.invokestatic 60, 3) := by decide +kernel
theorem dL_law_29 : decode cL_law 29 = .ok (.ifCond .ne 7, 3) := by decide +kernel
theorem dL_law_32 : decode cL_law 32 = .ok (.iconst 2, 1) := by decide +kernel
theorem dL_law_33 : decode cL_law 33 = .ok (.goto 12, 3) := by decide +kernel
theorem dL_law_36 : decode cL_law 36 = .ok (.iconst 1, 1) := by decide +kernel
theorem dL_law_37 : decode cL_law 37 = .ok (.iload_n 3, 1) := by decide +kernel
theorem dL_law_38 : decode cL_law 38 = .ok (.iconst 2, 1) := by decide +kernel
theorem dL_law_39 : decode cL_law 39 = .ok (.ishr, 1) := by decide +kernel
theorem dL_law_40 : decode cL_law 40 = .ok (.iconst 5, 1) := by decide +kernel
theorem dL_law_41 : decode cL_law 41 = .ok (.invokestatic 60, 3) := by decide +kernel
theorem dL_law_44 : decode cL_law 44 = .ok (.iadd, 1) := by decide +kernel
theorem dL_law_45 : decode cL_law 45 = .ok (.istore 4, 2) := by decide +kernel
theorem dL_law_47 : decode cL_law 47 = .ok (.aload_n 1, 1) := by decide +kernel
theorem dL_law_48 : decode cL_law 48 = .ok (.iload 4, 2) := by decide +kernel
theorem dL_law_50 : decode cL_law 50 = .ok (.invokevirtual 63, 3) := by decide +kernel
theorem dL_law_53 : decode cL_law 53 = .ok (.pop, 1) := by decide +kernel
theorem dL_law_54 : decode cL_law 54 = .ok (.iconst 1, 1) := by decide +kernel
theorem dL_law_55 : decode cL_law 55 = .ok (.iload_n 3, 1) := by decide +kernel
theorem dL_law_56 : decode cL_law 56 = .ok (.iconst 5, 1) := by decide +kernel
theorem dL_law_57 : decode cL_law 57 = .ok (.ishr, 1) := by decide +kernel
theorem dL_law_58 : decode cL_law 58 = .ok (.iconst 2, 1) := by decide +kernel
theorem dL_law_59 : decode cL_law 59 = .ok (.invokestatic 60, 3) := by decide +kernel
theorem dL_law_62 : decode cL_law 62 = .ok (.iadd, 1) := by decide +kernel
theorem dL_law_63 : decode cL_law 63 = .ok (.istore 5, 2) := by decide +kernel
theorem dL_law_65 : decode cL_law 65 = .ok (.iconst 0, 1) := by decide +kernel
theorem dL_law_66 : decode cL_law 66 = .ok (.istore 6, 2) := by decide +kernel
theorem dL_law_68 : decode cL_law 68 = .ok (.iload 6, 2) := by decide +kernel
theorem dL_law_70 : decode cL_law 70 = .ok (.iload 5, 2) := by decide +kernel
theorem dL_law_72 : decode cL_law 72 = .ok (.if_icmp .ge 23, 3) := by decide +kernel
theorem dL_law_75 : decode cL_law 75 = .ok (.aload_n 1, 1) := by decide +kernel
theorem dL_law_76 : decode cL_law 76 = .ok (.invokevirtual 28, 3) := by decide +kernel
theorem dL_law_79 : decode cL_law 79 = .ok (.bipush 6, 2) := by decide +kernel
theorem dL_law_81 : decode cL_law 81 = .ok (.if_icmp .ge 14, 3) := by decide +kernel
theorem dL_law_84 : decode cL_law 84 = .ok (.aload_n 1, 1) := by decide +kernel
theorem dL_law_85 : decode cL_law 85 = .ok (.invokevirtual 66, 3) := by decide +kernel
theorem dL_law_88 : decode cL_law 88 = .ok (.pop, 1) := by decide +kernel
theorem dL_law_89 : decode cL_law 89 = .ok (.iinc 6 1, 3) := by decide +kernel
theorem dL_law_92 : decode cL_law 92 = .ok (.goto (-24), 3) := by decide +kernel
theorem dL_law_95 : decode cL_law 95 = .ok (.iconst 2, 1) := by decide +kernel
theorem dL_law_96 : decode cL_law 96 = .ok (.iload_n 3, 1) := by decide +kernel
theorem dL_law_97 : decode cL_law 97 = .ok (.bipush 7, 2) := by decide +kernel
theorem dL_law_99 : decode cL_law 99 = .ok (.ishr, 1) := by decide +kernel
theorem dL_law_100 : decode cL_law 100 = .ok (.iload_n 3, 1) := by decide +kernel
theorem dL_law_101 : decode cL_law 101 = .ok (.bipush 9, 2) := by decide +kernel
theorem dL_law_103 : decode cL_law 103 = .ok (.ishr, 1) := by decide +kernel
theorem dL_law_104 : decode cL_law 104 = .ok (.iconst 2, 1) := by decide +kernel
theorem dL_law_105 : decode cL_law 105 = .ok (.invokestatic 60, 3) := by decide +kernel
theorem dL_law_108 : decode cL_law 108 = .ok (.ifCond .ne 7, 3) := by decide +kernel
theorem dL_law_111 : decode cL_law 111 = .ok (.iconst 4, 1) := by decide +kernel
theorem dL_law_112 : decode cL_law 112 = .ok (.goto 5, 3) := by decide +kernel
theorem dL_law_115 : decode cL_law 115 = .ok (.bipush 98, 2) := by decide +kernel
theorem dL_law_117 : decode cL_law 117 = .ok (.invokestatic 60, 3) := by decide +kernel
theorem dL_law_120 : decode cL_law 120 = .ok (.iadd, 1) := by decide +kernel
theorem dL_law_121 : decode cL_law 121 = .ok (.istore 6, 2) := by decide +kernel
theorem dL_law_123 : decode cL_law 123 = .ok (.iconst 0, 1) := by decide +kernel
theorem dL_law_124 : decode cL_law 124 = .ok (.istore 7, 2) := by decide +kernel
theorem dL_law_126 : decode cL_law 126 = .ok (.iload 7, 2) := by decide +kernel
theorem dL_law_128 : decode cL_law 128 = .ok (.aload_n 1, 1) := by decide +kernel
theorem dL_law_129 : decode cL_law 129 = .ok (.invokevirtual 28, 3) := by decide +kernel
theorem dL_law_132 : decode cL_law 132 = .ok (.if_icmp .ge 58, 3) := by decide +kernel
theorem dL_law_135 : decode cL_law 135 = .ok (.iconst 0, 1) := by decide +kernel
theorem dL_law_136 : decode cL_law 136 = .ok (.istore 8, 2) := by decide +kernel
theorem dL_law_138 : decode cL_law 138 = .ok (.iload 8, 2) := by decide +kernel
theorem dL_law_140 : decode cL_law 140 = .ok (.iload 4, 2) := by decide +kernel
theorem dL_law_142 : decode cL_law 142 = .ok (.if_icmp .ge 42, 3) := by decide +kernel
theorem dL_law_145 : decode cL_law 145 = .ok (.aload_n 1, 1) := by decide +kernel
theorem dL_law_146 : decode cL_law 146 = .ok (.iload 7, 2) := by decide +kernel
theorem dL_law_148 : decode cL_law 148 = .ok (.iload 8, 2) := by decide +kernel
theorem dL_law_150 : decode cL_law 150 = .ok (.aload_n 0, 1) := by decide +kernel
theorem dL_law_151 : decode cL_law 151 = .ok (.bipush 8, 2) := by decide +kernel
theorem dL_law_153 : decode cL_law 153 = .ok (.iload_n 2, 1) := by decide +kernel
theorem dL_law_154 : decode cL_law 154 = .ok (.imul, 1) := by decide +kernel
theorem dL_law_155 : decode cL_law 155 = .ok (.iconst 1, 1) := by decide +kernel
theorem dL_law_156 : decode cL_law 156 = .ok (.iadd, 1) := by decide +kernel
theorem dL_law_157 : decode cL_law 157 = .ok (.iload 7, 2) := by decide +kernel
theorem dL_law_159 : decode cL_law 159 = .ok (.iadd, 1) := by decide +kernel
theorem dL_law_160 : decode cL_law 160 = .ok (.invokestatic 54, 3) := by decide +kernel
theorem dL_law_163 : decode cL_law 163 = .ok (.bipush 6, 2) := by decide +kernel
theorem dL_law_165 : decode cL_law 165 = .ok (.iload 8, 2) := by decide +kernel
theorem dL_law_167 : decode cL_law 167 = .ok (.imul, 1) := by decide +kernel
theorem dL_law_168 : decode cL_law 168 = .ok (.ishr, 1) := by decide +kernel
theorem dL_law_169 : decode cL_law 169 = .ok (.iload 6, 2) := by decide +kernel
theorem dL_law_171 : decode cL_law 171 = .ok (.invokestatic 60, 3) := by decide +kernel
theorem dL_law_174 : decode cL_law 174 = .ok (.invokevirtual 69, 3) := by decide +kernel
theorem dL_law_177 : decode cL_law 177 = .ok (.pop, 1) := by decide +kernel
theorem dL_law_178 : decode cL_law 178 = .ok (.iinc 8 1, 3) := by decide +kernel
theorem dL_law_181 : decode cL_law 181 = .ok (.goto (-43), 3) := by decide +kernel
theorem dL_law_184 : decode cL_law 184 = .ok (.iinc 7 1, 3) := by decide +kernel
theorem dL_law_187 : decode cL_law 187 = .ok (.goto (-61), 3) := by decide +kernel
theorem dL_law_190 : decode cL_law 190 = .ok (.aload_n 1, 1) := by decide +kernel
theorem dL_law_191 : decode cL_law 191 = .ok (.invokestatic 73, 3) := by decide +kernel
theorem dL_law_194 : decode cL_law 194 = .ok (.ifCond .eq 32, 3) := by decide +kernel
theorem dL_law_197 : decode cL_law 197 = .ok (.aload_n 1, 1) := by decide +kernel
theorem dL_law_198 : decode cL_law 198 = .ok (.invokestatic 77, 3) := by decide +kernel
theorem dL_law_201 : decode cL_law 201 = .ok (.ifCond .eq 25, 3) := by decide +kernel
theorem dL_law_204 : decode cL_law 204 = .ok (.aload_n 1, 1) := by decide +kernel
theorem dL_law_205 : decode cL_law 205 = .ok (.invokestatic 73, 3) := by decide +kernel
theorem dL_law_208 : decode cL_law 208 = .ok (.ifCond .eq 18, 3) := by decide +kernel
theorem dL_law_211 : decode cL_law 211 = .ok (.aload_n 1, 1) := by decide +kernel
theorem dL_law_212 : decode cL_law 212 = .ok (.iload_n 3, 1) := by decide +kernel
theorem dL_law_213 : decode cL_law 213 = .ok (.bipush 11, 2) := by decide +kernel
theorem dL_law_215 : decode cL_law 215 = .ok (.ishr, 1) := by decide +kernel
theorem dL_law_216 : decode cL_law 216 = .ok (.iconst 3, 1) := by decide +kernel
theorem dL_law_217 : decode cL_law 217 = .ok (.invokestatic 60, 3) := by decide +kernel
theorem dL_law_220 : decode cL_law 220 = .ok (.invokestatic 80, 3) := by decide +kernel
theorem dL_law_223 : decode cL_law 223 = .ok (.ifCond .ne 5, 3) := by decide +kernel
theorem dL_law_226 : decode cL_law 226 = .ok (.iconst 0, 1) := by decide +kernel
theorem dL_law_227 : decode cL_law 227 = .ok (.ireturn, 1) := by decide +kernel
theorem dL_law_228 : decode cL_law 228 = .ok (.iinc 2 1, 3) := by decide +kernel
theorem dL_law_231 : decode cL_law 231 = .ok (.goto (-221), 3) := by decide +kernel
theorem dL_law_234 : decode cL_law 234 = .ok (.iconst 1, 1) := by decide +kernel
theorem dL_law_235 : decode cL_law 235 = .ok (.ireturn, 1) := by decide +kernel
end
section
/-! whole numbers as ints, and rows over them -/
def iI (z : Int) : Int32 := Int32.ofInt z
theorem iI_add (a b : Int) : iI a + iI b = iI (a + b) := (Int32.ofInt_add a b).symm
theorem iI_sub (a b : Int) : iI a - iI b = iI (a - b) := (Int32.ofInt_sub a b).symm
theorem iI_mul (a b : Int) : iI a * iI b = iI (a * b) := (Int32.ofInt_mul a b).symm
theorem iI_neg (a : Int) : -iI a = iI (-a) := (Int32.ofInt_neg a).symm
abbrev rg (z : Int) : Prop := -2147483648 ≤ z ∧ z < 2147483648
theorem iI_toInt {z : Int} (h : rg z) : (iI z).toInt = z := Int32.toInt_ofInt_of_le (by have := h.1; omega) (by have := h.2; omega)
theorem iI_le {a b : Int} (ha : rg a) (hb : rg b) : iI a ≤ iI b ↔ a ≤ b := by rw [Int32.le_iff_toInt_le, iI_toInt ha, iI_toInt hb]
theorem iI_lt {a b : Int} (ha : rg a) (hb : rg b) : iI a < iI b ↔ a < b := by rw [Int32.lt_iff_toInt_lt, iI_toInt ha, iI_toInt hb]
theorem iI_eq {a b : Int} (ha : rg a) (hb : rg b) : iI a = iI b ↔ a = b := by rw [← Int32.toInt_inj, iI_toInt ha, iI_toInt hb]
theorem iI_of (x : Int32) : ∃ z : Int, rg z ∧ x = iI z := ⟨x.toInt, ⟨by have := Int32.le_toInt x; omega, by have := Int32.toInt_lt x; omega⟩, (Int32.ofInt_toInt x).symm⟩
theorem iI_cl {z : Int} {k : Nat} (hz : z = (k : Int)) (hk : k < 2147483648) : (iI z).toNatClampNeg = k := by
  show (iI z).toInt.toNat = k
  rw [iI_toInt ⟨by omega, by omega⟩]
  omega
theorem iI_in {z : Int} {k n : Nat} (hz : z = (k : Int)) (hk : k < n) (hn : n ≤ 2147483648) : vp_in (iI z) n := by
  intro h
  rcases h with h | h
  · have := (iI_lt (a := z) (b := 0) ⟨by omega, by omega⟩ ⟨by omega, by omega⟩).mp h
    omega
  · rw [iI_cl hz (by omega)] at h
    omega
theorem iI_inc {a z n : Int} (h : a + n = z) : iI a + Int32.ofInt n = iI z := by rw [← h]; exact iI_add a n
theorem iI_max {a b : Int} (ha : rg a) (hb : rg b) : (if iI a < iI b then iI b else iI a) = iI (max a b) := by
  by_cases h : a < b
  · rw [if_pos ((iI_lt ha hb).mpr h), show max a b = b by omega]
  · rw [if_neg (fun q => h ((iI_lt ha hb).mp q)), show max a b = a by omega]
theorem iI_min {a b : Int} (ha : rg a) (hb : rg b) : (if iI b < iI a then iI b else iI a) = iI (min a b) := by
  by_cases h : b < a
  · rw [if_pos ((iI_lt hb ha).mpr h), show min a b = b by omega]
  · rw [if_neg (fun q => h ((iI_lt hb ha).mp q)), show min a b = a by omega]
end
section
section WK
variable {p : Program} {l : Launch} {e : Env} {R : Room} {s : State} {m : MethodId} {args : Array Value} {below : List Frame} {meth : Method} {c : Code} {H : Heap} {locs : List Loc} {cells slots : Nat} {Q : State → Prop}
variable {cc : ByteArray} {pc : Nat} {ls : Array Slot} {rest : List Value}
theorem w_top {x v : Int32} (h : x = v) (k : W p l e R s m args below meth c H locs cells slots Q (F0 m pc ls (.int v :: rest))) : W p l e R s m args below meth c H locs cells slots Q (F0 m pc ls (.int x :: rest)) := by rw [h]; exact k
theorem w_iadd (hx : p.tables.exec = Jvm.exec) (hb : c.code = cc) {a b z : Int} (hd : decode cc pc = .ok (.iadd, 1)) (hz : a + b = z)
    (k : W p l e R s m args below meth c H locs cells slots Q (F0 m (pc + 1) ls (.int (iI z) :: rest))) : W p l e R s m args below meth c H locs cells slots Q (F0 m pc ls (.int (iI b) :: .int (iI a) :: rest)) := lv_iadd hx hb hd (by rw [iI_add, hz]; exact k)
theorem w_isub (hx : p.tables.exec = Jvm.exec) (hb : c.code = cc) {a b z : Int} (hd : decode cc pc = .ok (.isub, 1)) (hz : a - b = z)
    (k : W p l e R s m args below meth c H locs cells slots Q (F0 m (pc + 1) ls (.int (iI z) :: rest))) : W p l e R s m args below meth c H locs cells slots Q (F0 m pc ls (.int (iI b) :: .int (iI a) :: rest)) := lv_isub hx hb hd (by rw [iI_sub, hz]; exact k)
theorem w_imul (hx : p.tables.exec = Jvm.exec) (hb : c.code = cc) {a b z : Int} (hd : decode cc pc = .ok (.imul, 1)) (hz : a * b = z)
    (k : W p l e R s m args below meth c H locs cells slots Q (F0 m (pc + 1) ls (.int (iI z) :: rest))) : W p l e R s m args below meth c H locs cells slots Q (F0 m pc ls (.int (iI b) :: .int (iI a) :: rest)) := lv_imul hx hb hd (by rw [iI_mul, hz]; exact k)
theorem w_ineg (hx : p.tables.exec = Jvm.exec) (hb : c.code = cc) {a z : Int} (hd : decode cc pc = .ok (.ineg, 1)) (hz : -a = z)
    (k : W p l e R s m args below meth c H locs cells slots Q (F0 m (pc + 1) ls (.int (iI z) :: rest))) : W p l e R s m args below meth c H locs cells slots Q (F0 m pc ls (.int (iI a) :: rest)) := lv_ineg hx hb hd (by rw [iI_neg, hz]; exact k)
theorem w_icmp_ge (hx : p.tables.exec = Jvm.exec) (hb : c.code = cc) {a b : Int} {off : Int} {tgt : Nat} (hd : decode cc pc = .ok (.if_icmp .ge off, 3)) (ht : (pc : Int) + off = (tgt : Int)) (ra : rg a) (rb : rg b)
    (kt : b ≤ a → W p l e R s m args below meth c H locs cells slots Q (F0 m tgt ls rest)) (kf : a < b → W p l e R s m args below meth c H locs cells slots Q (F0 m (pc + 3) ls rest)) : W p l e R s m args below meth c H locs cells slots Q (F0 m pc ls (.int (iI b) :: .int (iI a) :: rest)) :=
  lv_icmp_ge hx hb hd ht (fun h => kt ((iI_le rb ra).mp h)) (fun h => kf (by have := mt (iI_le rb ra).mpr h; omega))
theorem w_icmp_gt (hx : p.tables.exec = Jvm.exec) (hb : c.code = cc) {a b : Int} {off : Int} {tgt : Nat} (hd : decode cc pc = .ok (.if_icmp .gt off, 3)) (ht : (pc : Int) + off = (tgt : Int)) (ra : rg a) (rb : rg b)
    (kt : b < a → W p l e R s m args below meth c H locs cells slots Q (F0 m tgt ls rest)) (kf : a ≤ b → W p l e R s m args below meth c H locs cells slots Q (F0 m (pc + 3) ls rest)) : W p l e R s m args below meth c H locs cells slots Q (F0 m pc ls (.int (iI b) :: .int (iI a) :: rest)) :=
  lv_icmp_gt hx hb hd ht (fun h => kt ((iI_lt rb ra).mp h)) (fun h => kf (by have := mt (iI_lt rb ra).mpr h; omega))
theorem w_icmp_le (hx : p.tables.exec = Jvm.exec) (hb : c.code = cc) {a b : Int} {off : Int} {tgt : Nat} (hd : decode cc pc = .ok (.if_icmp .le off, 3)) (ht : (pc : Int) + off = (tgt : Int)) (ra : rg a) (rb : rg b)
    (kt : a ≤ b → W p l e R s m args below meth c H locs cells slots Q (F0 m tgt ls rest)) (kf : b < a → W p l e R s m args below meth c H locs cells slots Q (F0 m (pc + 3) ls rest)) : W p l e R s m args below meth c H locs cells slots Q (F0 m pc ls (.int (iI b) :: .int (iI a) :: rest)) :=
  lv_icmp_le hx hb hd ht (fun h => kt ((iI_le ra rb).mp h)) (fun h => kf (by have := mt (iI_le ra rb).mpr h; omega))
theorem w_icmp_lt (hx : p.tables.exec = Jvm.exec) (hb : c.code = cc) {a b : Int} {off : Int} {tgt : Nat} (hd : decode cc pc = .ok (.if_icmp .lt off, 3)) (ht : (pc : Int) + off = (tgt : Int)) (ra : rg a) (rb : rg b)
    (kt : a < b → W p l e R s m args below meth c H locs cells slots Q (F0 m tgt ls rest)) (kf : b ≤ a → W p l e R s m args below meth c H locs cells slots Q (F0 m (pc + 3) ls rest)) : W p l e R s m args below meth c H locs cells slots Q (F0 m pc ls (.int (iI b) :: .int (iI a) :: rest)) :=
  lv_icmp_lt hx hb hd ht (fun h => kt ((iI_lt ra rb).mp h)) (fun h => kf (by have := mt (iI_lt ra rb).mpr h; omega))
theorem w_icmp_eq (hx : p.tables.exec = Jvm.exec) (hb : c.code = cc) {a b : Int} {off : Int} {tgt : Nat} (hd : decode cc pc = .ok (.if_icmp .eq off, 3)) (ht : (pc : Int) + off = (tgt : Int)) (ra : rg a) (rb : rg b)
    (kt : a = b → W p l e R s m args below meth c H locs cells slots Q (F0 m tgt ls rest)) (kf : a ≠ b → W p l e R s m args below meth c H locs cells slots Q (F0 m (pc + 3) ls rest)) : W p l e R s m args below meth c H locs cells slots Q (F0 m pc ls (.int (iI b) :: .int (iI a) :: rest)) :=
  lv_icmp_eq hx hb hd ht (fun h => kt ((iI_eq ra rb).mp h)) (fun h => kf (fun q => h (by rw [q])))
theorem w_icmp_ne (hx : p.tables.exec = Jvm.exec) (hb : c.code = cc) {a b : Int} {off : Int} {tgt : Nat} (hd : decode cc pc = .ok (.if_icmp .ne off, 3)) (ht : (pc : Int) + off = (tgt : Int)) (ra : rg a) (rb : rg b)
    (kt : a ≠ b → W p l e R s m args below meth c H locs cells slots Q (F0 m tgt ls rest)) (kf : a = b → W p l e R s m args below meth c H locs cells slots Q (F0 m (pc + 3) ls rest)) : W p l e R s m args below meth c H locs cells slots Q (F0 m pc ls (.int (iI b) :: .int (iI a) :: rest)) :=
  lv_icmp_ne hx hb hd ht (fun h => kt (fun q => h (by rw [q]))) (fun h => kf ((iI_eq ra rb).mp h))
theorem w_if_ge (hx : p.tables.exec = Jvm.exec) (hb : c.code = cc) {a : Int} {off : Int} {tgt : Nat} (hd : decode cc pc = .ok (.ifCond .ge off, 3)) (ht : (pc : Int) + off = (tgt : Int)) (ra : rg a)
    (kt : 0 ≤ a → W p l e R s m args below meth c H locs cells slots Q (F0 m tgt ls rest)) (kf : a < 0 → W p l e R s m args below meth c H locs cells slots Q (F0 m (pc + 3) ls rest)) : W p l e R s m args below meth c H locs cells slots Q (F0 m pc ls (.int (iI a) :: rest)) :=
  lv_if_ge hx hb hd ht (fun h => kt ((iI_le (a := 0) ⟨by omega, by omega⟩ ra).mp h)) (fun h => kf (by have := mt (iI_le (a := 0) ⟨by omega, by omega⟩ ra).mpr h; omega))
theorem w_if_gt (hx : p.tables.exec = Jvm.exec) (hb : c.code = cc) {a : Int} {off : Int} {tgt : Nat} (hd : decode cc pc = .ok (.ifCond .gt off, 3)) (ht : (pc : Int) + off = (tgt : Int)) (ra : rg a)
    (kt : 0 < a → W p l e R s m args below meth c H locs cells slots Q (F0 m tgt ls rest)) (kf : a ≤ 0 → W p l e R s m args below meth c H locs cells slots Q (F0 m (pc + 3) ls rest)) : W p l e R s m args below meth c H locs cells slots Q (F0 m pc ls (.int (iI a) :: rest)) :=
  lv_if_gt hx hb hd ht (fun h => kt ((iI_lt (a := 0) ⟨by omega, by omega⟩ ra).mp h)) (fun h => kf (by have := mt (iI_lt (a := 0) ⟨by omega, by omega⟩ ra).mpr h; omega))
theorem w_if_le (hx : p.tables.exec = Jvm.exec) (hb : c.code = cc) {a : Int} {off : Int} {tgt : Nat} (hd : decode cc pc = .ok (.ifCond .le off, 3)) (ht : (pc : Int) + off = (tgt : Int)) (ra : rg a)
    (kt : a ≤ 0 → W p l e R s m args below meth c H locs cells slots Q (F0 m tgt ls rest)) (kf : 0 < a → W p l e R s m args below meth c H locs cells slots Q (F0 m (pc + 3) ls rest)) : W p l e R s m args below meth c H locs cells slots Q (F0 m pc ls (.int (iI a) :: rest)) :=
  lv_if_le hx hb hd ht (fun h => kt ((iI_le (b := 0) ra ⟨by omega, by omega⟩).mp h)) (fun h => kf (by have := mt (iI_le (b := 0) ra ⟨by omega, by omega⟩).mpr h; omega))
theorem w_if_lt (hx : p.tables.exec = Jvm.exec) (hb : c.code = cc) {a : Int} {off : Int} {tgt : Nat} (hd : decode cc pc = .ok (.ifCond .lt off, 3)) (ht : (pc : Int) + off = (tgt : Int)) (ra : rg a)
    (kt : a < 0 → W p l e R s m args below meth c H locs cells slots Q (F0 m tgt ls rest)) (kf : 0 ≤ a → W p l e R s m args below meth c H locs cells slots Q (F0 m (pc + 3) ls rest)) : W p l e R s m args below meth c H locs cells slots Q (F0 m pc ls (.int (iI a) :: rest)) :=
  lv_if_lt hx hb hd ht (fun h => kt ((iI_lt (b := 0) ra ⟨by omega, by omega⟩).mp h)) (fun h => kf (by have := mt (iI_lt (b := 0) ra ⟨by omega, by omega⟩).mpr h; omega))
theorem w_if_eq (hx : p.tables.exec = Jvm.exec) (hb : c.code = cc) {a : Int} {off : Int} {tgt : Nat} (hd : decode cc pc = .ok (.ifCond .eq off, 3)) (ht : (pc : Int) + off = (tgt : Int)) (ra : rg a)
    (kt : a = 0 → W p l e R s m args below meth c H locs cells slots Q (F0 m tgt ls rest)) (kf : a ≠ 0 → W p l e R s m args below meth c H locs cells slots Q (F0 m (pc + 3) ls rest)) : W p l e R s m args below meth c H locs cells slots Q (F0 m pc ls (.int (iI a) :: rest)) :=
  lv_if_eq hx hb hd ht (fun h => kt ((iI_eq (b := 0) ra ⟨by omega, by omega⟩).mp h)) (fun h => kf (fun q => h (by rw [q]; rfl)))
theorem w_if_ne (hx : p.tables.exec = Jvm.exec) (hb : c.code = cc) {a : Int} {off : Int} {tgt : Nat} (hd : decode cc pc = .ok (.ifCond .ne off, 3)) (ht : (pc : Int) + off = (tgt : Int)) (ra : rg a)
    (kt : a ≠ 0 → W p l e R s m args below meth c H locs cells slots Q (F0 m tgt ls rest)) (kf : a = 0 → W p l e R s m args below meth c H locs cells slots Q (F0 m (pc + 3) ls rest)) : W p l e R s m args below meth c H locs cells slots Q (F0 m pc ls (.int (iI a) :: rest)) :=
  lv_if_ne hx hb hd ht (fun h => kt (fun q => h (by rw [q]; rfl))) (fun h => kf ((iI_eq (b := 0) ra ⟨by omega, by omega⟩).mp h))
end WK
end
section
section WK
variable {p : Program} {l : Launch} {e : Env} {R : Room} {s : State} {m : MethodId} {args : Array Value} {below : List Frame} {meth : Method} {c : Code} {H : Heap} {locs : List Loc} {cells slots : Nat} {Q : State → Prop}
variable {cc : ByteArray} {pc : Nat} {ls : Array Slot} {rest : List Value}
variable {D : va_G} {cl : List vw_C} {tys : List (ClassId × FieldType)} {ws : va_W} {A : Nat → Prop} {H0 : Heap} {a0 : Nat}
/-- a place of an int array is read -/
theorem w_iald (hx : p.tables.exec = Jvm.exec) (hb : c.code = cc) (hK : va_K D cl tys s) (hP : va_P D cl ws H) (q0 t0 : Nat) {cA : ClassId} {n : Nat} {f : Nat → Int32} (ha : ws[q0]? = some (a0, .inl (cA, n, .inl f))) (ht : tys[t0]? = some (cA, .int)) {z : Int} (k : Nat) {v : Int32} (hz : z = (k : Int)) (hk : k < n) (hn : n ≤ 2147483648) (hv : f k = v) (hd : decode cc pc = .ok (.iaload, 1))
    (kk : W p l e R s m args below meth c H locs cells slots Q (F0 m (pc + 1) ls (.int v :: rest))) : W p l e R s m args below meth c H locs cells slots Q (F0 m pc ls (.int (iI z) :: .ref a0 :: rest)) :=
  va_iald hx hb hK hP q0 t0 ha ht (iI_in hz hk hn) hd (by rw [iI_cl hz (by omega), hv]; exact kk)
theorem w_zald (hx : p.tables.exec = Jvm.exec) (hb : c.code = cc) (hK : va_K D cl tys s) (hP : va_P D cl ws H) (q0 t0 : Nat) {cA : ClassId} {n : Nat} {f : Nat → Int32} (ha : ws[q0]? = some (a0, .inl (cA, n, .inl f))) (ht : tys[t0]? = some (cA, .boolean)) {z : Int} (k : Nat) {v : Int32} (hz : z = (k : Int)) (hk : k < n) (hn : n ≤ 2147483648) (hv : f k = v) (hd : decode cc pc = .ok (.baload, 1))
    (kk : W p l e R s m args below meth c H locs cells slots Q (F0 m (pc + 1) ls (.int v :: rest))) : W p l e R s m args below meth c H locs cells slots Q (F0 m pc ls (.int (iI z) :: .ref a0 :: rest)) :=
  va_zald hx hb hK hP q0 t0 ha ht (iI_in hz hk hn) hd (by rw [iI_cl hz (by omega), hv]; exact kk)
/-- a place of an int array is written; ws' names the world behind it -/
theorem w_iast (hx : p.tables.exec = Jvm.exec) (hb : c.code = cc) (hK : va_K D cl tys s) (hP : va_P D cl ws H) (hD : va_D A ws) (hS : va_S A H0 H locs) (q0 t0 : Nat) {cA : ClassId} {n : Nat} {f : Nat → Int32} (ha : ws[q0]? = some (a0, .inl (cA, n, .inl f))) (ht : tys[t0]? = some (cA, .int)) {z : Int} {x : Int32} (k : Nat) (hz : z = (k : Int)) (hk : k < n) (hn : n ≤ 2147483648) (g : Nat → Int32) (hg : upd f k x = g) (ws' : va_W) (hw : ws.set q0 (a0, .inl (cA, n, .inl g)) = ws') (hd : decode cc pc = .ok (.iastore, 1))
    (kk : ∀ (H1 : Heap) (locs1 : List Loc), va_P D cl ws' H1 → va_D A ws' → va_S A H0 H1 locs1 → W p l e R s m args below meth c H1 locs1 cells slots Q (F0 m (pc + 1) ls rest)) : W p l e R s m args below meth c H locs cells slots Q (F0 m pc ls (.int x :: .int (iI z) :: .ref a0 :: rest)) :=
  va_iast hx hb hK hP hD hS q0 t0 ha ht (iI_in hz hk hn) hd (fun H1 locs1 h1 h2 h3 => by
    rw [iI_cl hz (by omega), hg, hw] at h1 h2
    exact kk H1 locs1 h1 h2 h3)
theorem w_zast (hx : p.tables.exec = Jvm.exec) (hb : c.code = cc) (hK : va_K D cl tys s) (hP : va_P D cl ws H) (hD : va_D A ws) (hS : va_S A H0 H locs) (q0 t0 : Nat) {cA : ClassId} {n : Nat} {f : Nat → Int32} (ha : ws[q0]? = some (a0, .inl (cA, n, .inl f))) (ht : tys[t0]? = some (cA, .boolean)) {z : Int} {x : Int32} (k : Nat) (hz : z = (k : Int)) (hk : k < n) (hn : n ≤ 2147483648) (hx1 : vp_nar .boolean x = x) (g : Nat → Int32) (hg : upd f k x = g) (ws' : va_W) (hw : ws.set q0 (a0, .inl (cA, n, .inl g)) = ws') (hd : decode cc pc = .ok (.bastore, 1))
    (kk : ∀ (H1 : Heap) (locs1 : List Loc), va_P D cl ws' H1 → va_D A ws' → va_S A H0 H1 locs1 → W p l e R s m args below meth c H1 locs1 cells slots Q (F0 m (pc + 1) ls rest)) : W p l e R s m args below meth c H locs cells slots Q (F0 m pc ls (.int x :: .int (iI z) :: .ref a0 :: rest)) :=
  va_zast hx hb hK hP hD hS q0 t0 ha ht (iI_in hz hk hn) hd (fun H1 locs1 h1 h2 h3 => by
    rw [iI_cl hz (by omega), hx1, hg, hw] at h1 h2
    exact kk H1 locs1 h1 h2 h3)
end WK
end
section
/-! contracts: PM reads its world alone; IM changes cells of its world in place -/
def PM (l : Launch) (y : MethodName) (wd : List Cond) (rm : Room) (D : va_G) (tys : List (ClassId × FieldType)) (ws : va_W) (av : List Value) (Qc : Array Value → State → Outcome → State → Prop) : Prop :=
  Met l y wd rm (va_Pc av (fun U => va_P D vwCl ws U.heap ∧ va_K D vwCl tys U)) Qc 0 0 (fun _ => False)
def IM (l : Launch) (y : MethodName) (wd : List Cond) (rm : Room) (D : va_G) (tys : List (ClassId × FieldType)) (ws : va_W) (av : List Value) (Qc : (Nat → Prop) → Array Value → State → Outcome → State → Prop) : Prop :=
  ∀ sz : Nat, Met l y wd rm (va_Pc av (fun U => U.heap.size = sz ∧ va_P D vwCl ws U.heap ∧ va_K D vwCl tys U ∧ va_D (fun _ => True) ws)) (Qc (va_A ws sz)) 0 0 (va_A ws sz)
def BI {S : Type} (D : va_G) (tys : List (ClassId × FieldType)) (out : S → va_W) (A : Nat → Prop) : S → State → Prop := fun u t => va_P D vwCl (out u) t.heap ∧ va_K D vwCl tys t ∧ va_D A (out u)
def QI {S : Type} (D : va_G) (tys : List (ClassId × FieldType)) (out : S → va_W) (post : Int32 → S → Prop) : (Nat → Prop) → Array Value → State → Outcome → State → Prop := fun A => va_Qi post (BI D tys out A) A
def QV {S : Type} (D : va_G) (tys : List (ClassId × FieldType)) (out : S → va_W) (post : S → Prop) : (Nat → Prop) → Array Value → State → Outcome → State → Prop := fun A => va_Qv post (BI D tys out A) A
def QD {S : Type} (D : va_G) (tys : List (ClassId × FieldType)) (out : S → va_W) (post : UInt64 → S → Prop) : (Nat → Prop) → Array Value → State → Outcome → State → Prop := fun A => va_Qd post (BI D tys out A) A
def rmx (f lo : Nat) : Room := { frames := f, cells := 0, slots := 0, locals := lo }
theorem pm_of {l : Launch} {y : MethodName} {wd wd' : List Cond} {rm : Room} {D : va_G} {tys : List (ClassId × FieldType)} {ws : va_W} {av : List Value} {Qc : Array Value → State → Outcome → State → Prop} {cc : ByteArray} {maxL : Nat} {ret : Option FieldType}
    (hy : plainName y.cls = true) (hw : wd = Cond.code y cc maxL ret :: wd') (hlen : (lg_sl av).length ≤ maxL)
    (body : ∀ (p : Program) (e : Env) (s : State) (m : MethodId) (args : Array Value) (below : List Frame) (meth : Method) (c : Code), p.tables.exec = Jvm.exec → c.code = cc → meth.sig.returnType = ret → c.maxLocals = maxL → meth.locks = false → s.vm.findClass y.cls = some m.cls → (∀ w ∈ wd, w.before args s = true) → va_K D vwCl tys s → va_P D vwCl ws s.heap →
      ∀ ls : Array Slot, lv_has ls maxL (lv_args 0 av) → W p l e rm s m args below meth c s.heap [] 0 0 (MQ below Qc args s 0 0 (fun _ => False)) (F0 m 0 ls [])) : PM l y wd rm D tys ws av Qc := by
  refine Met.ofW (cc := cc) (maxL := maxL) (ret := ret) hy hw ?_
  intro p e s m args below meth c s₁ B hml hv
  obtain ⟨rfl, hP, hK⟩ := hv
  have hl := lv_entry av (n := maxL) hlen
  rw [lg_entry_eq]
  exact body p e s m _ below meth c B.exec B.bytes B.returns hml B.notSynchronized (findClass_of_methodNamed B.named) (atoms_spec (ws := wd) B.pre) hK hP _ hl
theorem im_of {l : Launch} {y : MethodName} {wd wd' : List Cond} {rm : Room} {D : va_G} {tys : List (ClassId × FieldType)} {ws : va_W} {av : List Value} {Qc : (Nat → Prop) → Array Value → State → Outcome → State → Prop} {cc : ByteArray} {maxL : Nat} {ret : Option FieldType}
    (hy : plainName y.cls = true) (hw : wd = Cond.code y cc maxL ret :: wd') (hlen : (lg_sl av).length ≤ maxL)
    (body : ∀ (p : Program) (e : Env) (s : State) (m : MethodId) (args : Array Value) (below : List Frame) (meth : Method) (c : Code) (A : Nat → Prop), p.tables.exec = Jvm.exec → c.code = cc → meth.sig.returnType = ret → c.maxLocals = maxL → meth.locks = false → s.vm.findClass y.cls = some m.cls → (∀ w ∈ wd, w.before args s = true) → (∀ q : Nat, s.heap.size ≤ q → A q) → va_K D vwCl tys s → va_P D vwCl ws s.heap → va_D A ws → va_S A s.heap s.heap [] →
      ∀ ls : Array Slot, lv_has ls maxL (lv_args 0 av) → W p l e rm s m args below meth c s.heap [] 0 0 (MQ below (Qc A) args s 0 0 A) (F0 m 0 ls [])) : IM l y wd rm D tys ws av Qc := by
  intro sz
  refine Met.ofW (cc := cc) (maxL := maxL) (ret := ret) hy hw ?_
  intro p e s m args below meth c s₁ B hml hv
  obtain ⟨rfl, hsz, hP, hK, hD0⟩ := hv
  subst hsz
  have hl := lv_entry av (n := maxL) hlen
  rw [lg_entry_eq]
  exact body p e s m _ below meth c _ B.exec B.bytes B.returns hml B.notSynchronized (findClass_of_methodNamed B.named) (atoms_spec (ws := wd) B.pre) (fun q h => Or.inr h) hK hP (hD0.self (sz := s.heap.size)) va_S.rf _ hl
end
section
section WE
variable {p : Program} {l : Launch} {e : Env} {R : Room} {s : State} {m : MethodId} {args : Array Value} {below : List Frame} {meth : Method} {c : Code} {H : Heap} {locs : List Loc} {cells slots : Nat} {Q : State → Prop}
variable {cc : ByteArray} {pc : Nat} {ls : Array Slot} {rest st0 : List Value} {D : va_G} {tys : List (ClassId × FieldType)} {ws : va_W} {A : Nat → Prop}
theorem w_iretP {post : Int32 → Prop} {v : Int32} (hx : p.tables.exec = Jvm.exec) (hb : c.code = cc) (hr : meth.sig.returnType = some .int) (hlocks : meth.locks = false) (hv : post v) (hd : decode cc pc = .ok (.ireturn, 1)) :
    W p l e R s m args below meth c s.heap [] 0 0 (MQ below (vp_Si post) args s 0 0 (fun _ => False)) (F0 m pc ls [.int v]) :=
  W.iret (v := v) hx hb hr (fun t ht hW => ⟨v, rfl, hv, ht⟩) (fun q hq => absurd hq List.not_mem_nil) hd
theorem w_zretP {post : Int32 → Prop} {v : Int32} (hx : p.tables.exec = Jvm.exec) (hb : c.code = cc) (hr : meth.sig.returnType = some .boolean) (hlocks : meth.locks = false) (hn : narrow .boolean (.int v) = .int v) (hv : post v) (hd : decode cc pc = .ok (.ireturn, 1)) :
    W p l e R s m args below meth c s.heap [] 0 0 (MQ below (vp_Si post) args s 0 0 (fun _ => False)) (F0 m pc ls [.int v]) :=
  W.zret (v := v) hx hb hr hn (fun t ht hW => ⟨v, rfl, hv, ht⟩) (fun q hq => absurd hq List.not_mem_nil) hd
theorem w_vretP {post : Unit → Prop} (hx : p.tables.exec = Jvm.exec) (hb : c.code = cc) (hr : meth.sig.returnType = none) (hlocks : meth.locks = false) (hv : post ()) (hd : decode cc pc = .ok (.return_, 1)) :
    W p l e R s m args below meth c s.heap [] 0 0 (MQ below (va_Sv post) args s 0 0 (fun _ => False)) (F0 m pc ls []) :=
  W.vret hx hb hr (fun t ht hW => ⟨rfl, hv, ht⟩) (fun q hq => absurd hq List.not_mem_nil) hd
variable {S : Type} {out : S → va_W}
theorem w_iret {post : Int32 → S → Prop} {v : Int32} (u : S) (hx : p.tables.exec = Jvm.exec) (hb : c.code = cc) (hr : meth.sig.returnType = some .int) (hlocks : meth.locks = false) (hK : va_K D vwCl tys s) (hP : va_P D vwCl (out u) H) (hD : va_D A (out u)) (hS : va_S A s.heap H locs) (hv : post v u) (hd : decode cc pc = .ok (.ireturn, 1)) :
    W p l e R s m args below meth c H locs 0 0 (MQ below (QI D tys out post A) args s 0 0 A) (F0 m pc ls [.int v]) :=
  W.iret (v := v) hx hb hr (fun t ht hW => ⟨⟨v, u, rfl, hv, by rw [ht]; exact hP, va_K.moved hW.alike hK, hD⟩, hS.F ht⟩) hS.2.2 hd
theorem w_zret {post : Int32 → S → Prop} {v : Int32} (u : S) (hx : p.tables.exec = Jvm.exec) (hb : c.code = cc) (hr : meth.sig.returnType = some .boolean) (hlocks : meth.locks = false) (hn : narrow .boolean (.int v) = .int v) (hK : va_K D vwCl tys s) (hP : va_P D vwCl (out u) H) (hD : va_D A (out u)) (hS : va_S A s.heap H locs) (hv : post v u) (hd : decode cc pc = .ok (.ireturn, 1)) :
    W p l e R s m args below meth c H locs 0 0 (MQ below (QI D tys out post A) args s 0 0 A) (F0 m pc ls [.int v]) :=
  W.zret (v := v) hx hb hr hn (fun t ht hW => ⟨⟨v, u, rfl, hv, by rw [ht]; exact hP, va_K.moved hW.alike hK, hD⟩, hS.F ht⟩) hS.2.2 hd
theorem w_vret {post : S → Prop} (u : S) (hx : p.tables.exec = Jvm.exec) (hb : c.code = cc) (hr : meth.sig.returnType = none) (hlocks : meth.locks = false) (hK : va_K D vwCl tys s) (hP : va_P D vwCl (out u) H) (hD : va_D A (out u)) (hS : va_S A s.heap H locs) (hv : post u) (hd : decode cc pc = .ok (.return_, 1)) :
    W p l e R s m args below meth c H locs 0 0 (MQ below (QV D tys out post A) args s 0 0 A) (F0 m pc ls []) :=
  W.vret hx hb hr (fun t ht hW => ⟨⟨u, rfl, hv, by rw [ht]; exact hP, va_K.moved hW.alike hK, hD⟩, hS.F ht⟩) hS.2.2 hd
theorem w_dret {post : UInt64 → S → Prop} {v : UInt64} (u : S) (hx : p.tables.exec = Jvm.exec) (hb : c.code = cc) (hr : meth.sig.returnType = some .double) (hlocks : meth.locks = false) (hK : va_K D vwCl tys s) (hP : va_P D vwCl (out u) H) (hD : va_D A (out u)) (hS : va_S A s.heap H locs) (hv : post v u) (hd : decode cc pc = .ok (.dreturn, 1)) :
    W p l e R s m args below meth c H locs 0 0 (MQ below (QD D tys out post A) args s 0 0 A) (F0 m pc ls [.double v]) :=
  W.dret (v := v) hx hb hr (fun t ht hW => ⟨⟨v, u, rfl, hv, by rw [ht]; exact hP, va_K.moved hW.alike hK, hD⟩, hS.F ht⟩) hS.2.2 hd
end WE
end
section
section WE
variable {p : Program} {l : Launch} {e : Env} {R : Room} {s : State} {m : MethodId} {args : Array Value} {below : List Frame} {meth : Method} {c : Code} {H : Heap} {locs : List Loc} {cells slots : Nat} {Q : State → Prop}
variable {cc : ByteArray} {pc : Nat} {ls : Array Slot} {rest st0 : List Value} {D : va_G} {tys : List (ClassId × FieldType)} {ws : va_W} {A : Nat → Prop}
variable {S : Type} {out : S → va_W}
variable {y : MethodName} {bytes : ByteArray} {maxL nL n index : Nat} {ret : Option FieldType} {wd Ts : List Cond} {rm : Room} {own C : String} {b : Addr} {As : List Value}
theorem pm_blind {av : List Value} : FrameBlind (va_Pc av (fun U => va_P D vwCl ws U.heap ∧ va_K D vwCl tys U)) := fun a U g mk q => ⟨q.1, q.2.1, va_K.moved (u := U) (U := U.calling g mk a) (Vm.Alike.refl U.vm) q.2.2⟩
theorem im_blind {av : List Value} {sz : Nat} {wc : va_W} : FrameBlind (va_Pc av (fun U => U.heap.size = sz ∧ va_P D vwCl wc U.heap ∧ va_K D vwCl tys U ∧ va_D (fun _ => True) wc)) := fun a U g mk q => ⟨q.1, q.2.1, q.2.2.1, va_K.moved (u := U) (U := U.calling g mk a) (Vm.Alike.refl U.vm) q.2.2.2.1, q.2.2.2.2⟩
/-- calls of what only reads: the callee's world is the caller's -/
theorem w_pV {post : Int32 → Prop} (S9 : CallFix p m c cc nL s args Ts own) (hK : va_K D vwCl tys s) (hP : va_P D vwCl ws H) (hM : PM l y wd rm D tys ws (.ref b :: As) (vp_Si post)) (cw : CallW R s args own C index y bytes maxL ret wd rm 0 0 n) {ci : Nat} {q : vw_C} {fs : List Value} (hc : vwCl[ci]? = some q) (he : ws[0]? = some (b, .inr (ci, fs))) (hC : q.1 = C) (hn : As.length = n) (hsz : ls.size = nL) (hst : st0 = As.reverse ++ .ref b :: rest) (hro : (rest.map fun v => v.category).sum ≤ 8) (hd : decode cc pc = .ok (.invokevirtual index, 3)) (hf : cells ≤ R.cells ∧ slots ≤ R.slots)
    (kk : ∀ r : Int32, post r → W p l e R s m args below meth c H locs cells slots Q (F0 m (pc + 3) ls (.int r :: rest))) : W p l e R s m args below meth c H locs cells slots Q (F0 m pc ls st0) := by
  subst hC
  exact vp_callSi (W.runV (g := F0 m pc ls st0) (As := As) (rest := rest) S9 hM cw ⟨pm_blind, va_recv hK hP hc he, fun U hU hW => ⟨rfl, by rw [hU]; exact hP, va_K.moved hW.alike hK⟩⟩ rfl hn hsz hst (lv_room hro) hd hf) kk
theorem w_pVv {post : Unit → Prop} (S9 : CallFix p m c cc nL s args Ts own) (hK : va_K D vwCl tys s) (hP : va_P D vwCl ws H) (hM : PM l y wd rm D tys ws (.ref b :: As) (va_Sv post)) (cw : CallW R s args own C index y bytes maxL ret wd rm 0 0 n) {ci : Nat} {q : vw_C} {fs : List Value} (hc : vwCl[ci]? = some q) (he : ws[0]? = some (b, .inr (ci, fs))) (hC : q.1 = C) (hn : As.length = n) (hsz : ls.size = nL) (hst : st0 = As.reverse ++ .ref b :: rest) (hro : (rest.map fun v => v.category).sum ≤ 8) (hd : decode cc pc = .ok (.invokevirtual index, 3)) (hf : cells ≤ R.cells ∧ slots ≤ R.slots)
    (kk : post () → W p l e R s m args below meth c H locs cells slots Q (F0 m (pc + 3) ls rest)) : W p l e R s m args below meth c H locs cells slots Q (F0 m pc ls st0) := by
  subst hC
  exact va_csv (W.runV (g := F0 m pc ls st0) (As := As) (rest := rest) S9 hM cw ⟨pm_blind, va_recv hK hP hc he, fun U hU hW => ⟨rfl, by rw [hU]; exact hP, va_K.moved hW.alike hK⟩⟩ rfl hn hsz hst (lv_room hro) hd hf) kk
theorem w_pS {post : Int32 → Prop} (S9 : CallFix p m c cc nL s args Ts own) (hK : va_K D vwCl tys s) (hP : va_P D vwCl ws H) (hM : PM l y wd rm D tys ws As (vp_Si post)) (cw : CallB R s args own index y bytes maxL ret wd rm 0 0 n ∧ (Cond.static y).before args s = true) (hn : As.length = n) (hsz : ls.size = nL) (hst : st0 = As.reverse ++ rest) (hro : (rest.map fun v => v.category).sum ≤ 8) (hd : decode cc pc = .ok (.invokestatic index, 3)) (hf : cells ≤ R.cells ∧ slots ≤ R.slots)
    (kk : ∀ r : Int32, post r → W p l e R s m args below meth c H locs cells slots Q (F0 m (pc + 3) ls (.int r :: rest))) : W p l e R s m args below meth c H locs cells slots Q (F0 m pc ls st0) :=
  vp_callSi (W.runS (g := F0 m pc ls st0) (As := As) (rest := rest) S9 hM cw ⟨pm_blind, fun U hU hW => ⟨rfl, by rw [hU]; exact hP, va_K.moved hW.alike hK⟩⟩ rfl hn hsz hst (lv_room hro) hd hf) kk
theorem w_pSv {post : Unit → Prop} (S9 : CallFix p m c cc nL s args Ts own) (hK : va_K D vwCl tys s) (hP : va_P D vwCl ws H) (hM : PM l y wd rm D tys ws As (va_Sv post)) (cw : CallB R s args own index y bytes maxL ret wd rm 0 0 n ∧ (Cond.static y).before args s = true) (hn : As.length = n) (hsz : ls.size = nL) (hst : st0 = As.reverse ++ rest) (hro : (rest.map fun v => v.category).sum ≤ 8) (hd : decode cc pc = .ok (.invokestatic index, 3)) (hf : cells ≤ R.cells ∧ slots ≤ R.slots)
    (kk : post () → W p l e R s m args below meth c H locs cells slots Q (F0 m (pc + 3) ls rest)) : W p l e R s m args below meth c H locs cells slots Q (F0 m pc ls st0) :=
  va_csv (W.runS (g := F0 m pc ls st0) (As := As) (rest := rest) S9 hM cw ⟨pm_blind, fun U hU hW => ⟨rfl, by rw [hU]; exact hP, va_K.moved hW.alike hK⟩⟩ rfl hn hsz hst (lv_room hro) hd hf) kk
theorem w_fm {α β : Type} {f : α → Option β} {is : List α} {w : List β} (h : is.map f = w.map some) : is.filterMap f = w := by
  have h2 : (is.map f).filterMap id = (w.map some).filterMap id := by rw [h]
  rw [List.filterMap_map, List.filterMap_map] at h2
  simpa using h2
/-- calls of what changes its world: the callee's world wc at the places isC of the caller's, the rest wr at isR; wf names the caller's world behind it, by its places in wr ++ out -/
theorem w_iV {post : Int32 → S → Prop} {wc wr : va_W} (S9 : CallFix p m c cc nL s args Ts own) (hK : va_K D vwCl tys s) (hP : va_P D vwCl ws H) (hD : va_D A ws) (hS : va_S A s.heap H locs) (hA : ∀ q : Nat, s.heap.size ≤ q → A q) (hM : IM l y wd rm D tys wc (.ref b :: As) (QI D tys out post)) (cw : CallW R s args own C index y bytes maxL ret wd rm 0 0 n)
    (isC isR pf : List Nat) (hC1 : isC.map (fun i => ws[i]?) = wc.map some) (hR1 : isR.map (fun i => ws[i]?) = wr.map some) (hn1 : va_nd isR = true) (hn2 : va_nd isC = true) (hdis : ∀ i ∈ isR, i ∉ isC) (wf : S → va_W) (hwf : ∀ u, pf.map (fun i => (wr ++ out u)[i]?) = (wf u).map some) (hn3 : va_nd pf = true)
    {ci : Nat} {q : vw_C} {fs : List Value} (hc : vwCl[ci]? = some q) (he : wc[0]? = some (b, .inr (ci, fs))) (hC : q.1 = C) (hn : As.length = n) (hsz : ls.size = nL) (hst : st0 = As.reverse ++ .ref b :: rest) (hro : (rest.map fun v => v.category).sum ≤ 8) (hd : decode cc pc = .ok (.invokevirtual index, 3)) (hf : cells ≤ R.cells ∧ slots ≤ R.slots)
    (kk : ∀ (r : Int32) (u : S) (H1 : Heap) (locs1 : List Loc), post r u → va_P D vwCl (wf u) H1 → va_D A (wf u) → va_S A s.heap H1 locs1 → W p l e R s m args below meth c H1 locs1 cells slots Q (F0 m (pc + 3) ls (.int r :: rest))) : W p l e R s m args below meth c H locs cells slots Q (F0 m pc ls st0) := by
  subst hC
  have hPc : va_P D vwCl wc H := hP.sub isC (w_fm hC1)
  have hDc : va_D (fun _ => True) wc := (hD.sub isC hn2 hC1).weaken (fun _ _ _ _ => trivial)
  have hFc := va_free (wc := wc) hD hS hA isC hC1
  refine va_calli (va_runV (g := F0 m pc ls st0) (As := As) (rest := rest) S9 (hM H.size) cw ⟨im_blind, va_recv hK hPc hc he, fun U hU hW => ⟨rfl, by rw [hU], by rw [hU]; exact hPc, va_K.moved hW.alike hK, hDc⟩⟩ rfl hn hsz hst (lv_room hro) hd hf) hS (fun q _ h => hFc q h) hFc (fun r u t H1 locs1 ht hvm hw hB hz1 hk1 hS1 => ?_)
  obtain ⟨hP1, hK1, hD1⟩ := hB
  rw [ht] at hP1
  obtain ⟨hP2, hD2⟩ := va_join (wr := wr) (w1 := out u) hP hD isC isR hC1 hR1 hn1 hdis hk1 hFc hP1 hD1
  exact kk r u H1 locs1 hw (hP2.sub pf (w_fm (hwf u))) (hD2.sub pf hn3 (hwf u)) hS1
theorem w_iVv {post : S → Prop} {wc wr : va_W} (S9 : CallFix p m c cc nL s args Ts own) (hK : va_K D vwCl tys s) (hP : va_P D vwCl ws H) (hD : va_D A ws) (hS : va_S A s.heap H locs) (hA : ∀ q : Nat, s.heap.size ≤ q → A q) (hM : IM l y wd rm D tys wc (.ref b :: As) (QV D tys out post)) (cw : CallW R s args own C index y bytes maxL ret wd rm 0 0 n)
    (isC isR pf : List Nat) (hC1 : isC.map (fun i => ws[i]?) = wc.map some) (hR1 : isR.map (fun i => ws[i]?) = wr.map some) (hn1 : va_nd isR = true) (hn2 : va_nd isC = true) (hdis : ∀ i ∈ isR, i ∉ isC) (wf : S → va_W) (hwf : ∀ u, pf.map (fun i => (wr ++ out u)[i]?) = (wf u).map some) (hn3 : va_nd pf = true)
    {ci : Nat} {q : vw_C} {fs : List Value} (hc : vwCl[ci]? = some q) (he : wc[0]? = some (b, .inr (ci, fs))) (hC : q.1 = C) (hn : As.length = n) (hsz : ls.size = nL) (hst : st0 = As.reverse ++ .ref b :: rest) (hro : (rest.map fun v => v.category).sum ≤ 8) (hd : decode cc pc = .ok (.invokevirtual index, 3)) (hf : cells ≤ R.cells ∧ slots ≤ R.slots)
    (kk : ∀ (u : S) (H1 : Heap) (locs1 : List Loc), post u → va_P D vwCl (wf u) H1 → va_D A (wf u) → va_S A s.heap H1 locs1 → W p l e R s m args below meth c H1 locs1 cells slots Q (F0 m (pc + 3) ls rest)) : W p l e R s m args below meth c H locs cells slots Q (F0 m pc ls st0) := by
  subst hC
  have hPc : va_P D vwCl wc H := hP.sub isC (w_fm hC1)
  have hDc : va_D (fun _ => True) wc := (hD.sub isC hn2 hC1).weaken (fun _ _ _ _ => trivial)
  have hFc := va_free (wc := wc) hD hS hA isC hC1
  refine va_callv (va_runV (g := F0 m pc ls st0) (As := As) (rest := rest) S9 (hM H.size) cw ⟨im_blind, va_recv hK hPc hc he, fun U hU hW => ⟨rfl, by rw [hU], by rw [hU]; exact hPc, va_K.moved hW.alike hK, hDc⟩⟩ rfl hn hsz hst (lv_room hro) hd hf) hS (fun q _ h => hFc q h) hFc (fun u t H1 locs1 ht hvm hw hB hz1 hk1 hS1 => ?_)
  obtain ⟨hP1, hK1, hD1⟩ := hB
  rw [ht] at hP1
  obtain ⟨hP2, hD2⟩ := va_join (wr := wr) (w1 := out u) hP hD isC isR hC1 hR1 hn1 hdis hk1 hFc hP1 hD1
  exact kk u H1 locs1 hw (hP2.sub pf (w_fm (hwf u))) (hD2.sub pf hn3 (hwf u)) hS1
theorem w_iVd {post : UInt64 → S → Prop} {wc wr : va_W} (S9 : CallFix p m c cc nL s args Ts own) (hK : va_K D vwCl tys s) (hP : va_P D vwCl ws H) (hD : va_D A ws) (hS : va_S A s.heap H locs) (hA : ∀ q : Nat, s.heap.size ≤ q → A q) (hM : IM l y wd rm D tys wc (.ref b :: As) (QD D tys out post)) (cw : CallW R s args own C index y bytes maxL ret wd rm 0 0 n)
    (isC isR pf : List Nat) (hC1 : isC.map (fun i => ws[i]?) = wc.map some) (hR1 : isR.map (fun i => ws[i]?) = wr.map some) (hn1 : va_nd isR = true) (hn2 : va_nd isC = true) (hdis : ∀ i ∈ isR, i ∉ isC) (wf : S → va_W) (hwf : ∀ u, pf.map (fun i => (wr ++ out u)[i]?) = (wf u).map some) (hn3 : va_nd pf = true)
    {ci : Nat} {q : vw_C} {fs : List Value} (hc : vwCl[ci]? = some q) (he : wc[0]? = some (b, .inr (ci, fs))) (hC : q.1 = C) (hn : As.length = n) (hsz : ls.size = nL) (hst : st0 = As.reverse ++ .ref b :: rest) (hro : (rest.map fun v => v.category).sum ≤ 8) (hd : decode cc pc = .ok (.invokevirtual index, 3)) (hf : cells ≤ R.cells ∧ slots ≤ R.slots)
    (kk : ∀ (r : UInt64) (u : S) (H1 : Heap) (locs1 : List Loc), post r u → va_P D vwCl (wf u) H1 → va_D A (wf u) → va_S A s.heap H1 locs1 → W p l e R s m args below meth c H1 locs1 cells slots Q (F0 m (pc + 3) ls (.double r :: rest))) : W p l e R s m args below meth c H locs cells slots Q (F0 m pc ls st0) := by
  subst hC
  have hPc : va_P D vwCl wc H := hP.sub isC (w_fm hC1)
  have hDc : va_D (fun _ => True) wc := (hD.sub isC hn2 hC1).weaken (fun _ _ _ _ => trivial)
  have hFc := va_free (wc := wc) hD hS hA isC hC1
  refine va_calld (va_runV (g := F0 m pc ls st0) (As := As) (rest := rest) S9 (hM H.size) cw ⟨im_blind, va_recv hK hPc hc he, fun U hU hW => ⟨rfl, by rw [hU], by rw [hU]; exact hPc, va_K.moved hW.alike hK, hDc⟩⟩ rfl hn hsz hst (lv_room hro) hd hf) hS (fun q _ h => hFc q h) hFc (fun r u t H1 locs1 ht hvm hw hB hz1 hk1 hS1 => ?_)
  obtain ⟨hP1, hK1, hD1⟩ := hB
  rw [ht] at hP1
  obtain ⟨hP2, hD2⟩ := va_join (wr := wr) (w1 := out u) hP hD isC isR hC1 hR1 hn1 hdis hk1 hFc hP1 hD1
  exact kk r u H1 locs1 hw (hP2.sub pf (w_fm (hwf u))) (hD2.sub pf hn3 (hwf u)) hS1
theorem w_iSv {post : S → Prop} {wc wr : va_W} (S9 : CallFix p m c cc nL s args Ts own) (hK : va_K D vwCl tys s) (hP : va_P D vwCl ws H) (hD : va_D A ws) (hS : va_S A s.heap H locs) (hA : ∀ q : Nat, s.heap.size ≤ q → A q) (hM : IM l y wd rm D tys wc As (QV D tys out post)) (cw : CallB R s args own index y bytes maxL ret wd rm 0 0 n ∧ (Cond.static y).before args s = true)
    (isC isR pf : List Nat) (hC1 : isC.map (fun i => ws[i]?) = wc.map some) (hR1 : isR.map (fun i => ws[i]?) = wr.map some) (hn1 : va_nd isR = true) (hn2 : va_nd isC = true) (hdis : ∀ i ∈ isR, i ∉ isC) (wf : S → va_W) (hwf : ∀ u, pf.map (fun i => (wr ++ out u)[i]?) = (wf u).map some) (hn3 : va_nd pf = true)
    (hn : As.length = n) (hsz : ls.size = nL) (hst : st0 = As.reverse ++ rest) (hro : (rest.map fun v => v.category).sum ≤ 8) (hd : decode cc pc = .ok (.invokestatic index, 3)) (hf : cells ≤ R.cells ∧ slots ≤ R.slots)
    (kk : ∀ (u : S) (H1 : Heap) (locs1 : List Loc), post u → va_P D vwCl (wf u) H1 → va_D A (wf u) → va_S A s.heap H1 locs1 → W p l e R s m args below meth c H1 locs1 cells slots Q (F0 m (pc + 3) ls rest)) : W p l e R s m args below meth c H locs cells slots Q (F0 m pc ls st0) := by
  have hPc : va_P D vwCl wc H := hP.sub isC (w_fm hC1)
  have hDc : va_D (fun _ => True) wc := (hD.sub isC hn2 hC1).weaken (fun _ _ _ _ => trivial)
  have hFc := va_free (wc := wc) hD hS hA isC hC1
  refine va_callv (va_runS (g := F0 m pc ls st0) (As := As) (rest := rest) S9 (hM H.size) cw ⟨im_blind, fun U hU hW => ⟨rfl, by rw [hU], by rw [hU]; exact hPc, va_K.moved hW.alike hK, hDc⟩⟩ rfl hn hsz hst (lv_room hro) hd hf) hS (fun q _ h => hFc q h) hFc (fun u t H1 locs1 ht hvm hw hB hz1 hk1 hS1 => ?_)
  obtain ⟨hP1, hK1, hD1⟩ := hB
  rw [ht] at hP1
  obtain ⟨hP2, hD2⟩ := va_join (wr := wr) (w1 := out u) hP hD isC isR hC1 hR1 hn1 hdis hk1 hFc hP1 hD1
  exact kk u H1 locs1 hw (hP2.sub pf (w_fm (hwf u))) (hD2.sub pf hn3 (hwf u)) hS1
theorem w_iS {post : Int32 → S → Prop} {wc wr : va_W} (S9 : CallFix p m c cc nL s args Ts own) (hK : va_K D vwCl tys s) (hP : va_P D vwCl ws H) (hD : va_D A ws) (hS : va_S A s.heap H locs) (hA : ∀ q : Nat, s.heap.size ≤ q → A q) (hM : IM l y wd rm D tys wc As (QI D tys out post)) (cw : CallB R s args own index y bytes maxL ret wd rm 0 0 n ∧ (Cond.static y).before args s = true)
    (isC isR pf : List Nat) (hC1 : isC.map (fun i => ws[i]?) = wc.map some) (hR1 : isR.map (fun i => ws[i]?) = wr.map some) (hn1 : va_nd isR = true) (hn2 : va_nd isC = true) (hdis : ∀ i ∈ isR, i ∉ isC) (wf : S → va_W) (hwf : ∀ u, pf.map (fun i => (wr ++ out u)[i]?) = (wf u).map some) (hn3 : va_nd pf = true)
    (hn : As.length = n) (hsz : ls.size = nL) (hst : st0 = As.reverse ++ rest) (hro : (rest.map fun v => v.category).sum ≤ 8) (hd : decode cc pc = .ok (.invokestatic index, 3)) (hf : cells ≤ R.cells ∧ slots ≤ R.slots)
    (kk : ∀ (r : Int32) (u : S) (H1 : Heap) (locs1 : List Loc), post r u → va_P D vwCl (wf u) H1 → va_D A (wf u) → va_S A s.heap H1 locs1 → W p l e R s m args below meth c H1 locs1 cells slots Q (F0 m (pc + 3) ls (.int r :: rest))) : W p l e R s m args below meth c H locs cells slots Q (F0 m pc ls st0) := by
  have hPc : va_P D vwCl wc H := hP.sub isC (w_fm hC1)
  have hDc : va_D (fun _ => True) wc := (hD.sub isC hn2 hC1).weaken (fun _ _ _ _ => trivial)
  have hFc := va_free (wc := wc) hD hS hA isC hC1
  refine va_calli (va_runS (g := F0 m pc ls st0) (As := As) (rest := rest) S9 (hM H.size) cw ⟨im_blind, fun U hU hW => ⟨rfl, by rw [hU], by rw [hU]; exact hPc, va_K.moved hW.alike hK, hDc⟩⟩ rfl hn hsz hst (lv_room hro) hd hf) hS (fun q _ h => hFc q h) hFc (fun r u t H1 locs1 ht hvm hw hB hz1 hk1 hS1 => ?_)
  obtain ⟨hP1, hK1, hD1⟩ := hB
  rw [ht] at hP1
  obtain ⟨hP2, hD2⟩ := va_join (wr := wr) (w1 := out u) hP hD isC isR hC1 hR1 hn1 hdis hk1 hFc hP1 hD1
  exact kk r u H1 locs1 hw (hP2.sub pf (w_fm (hwf u))) (hD2.sub pf hn3 (hwf u)) hS1
end WE
end
section
section WO
variable {l : Launch} {y : MethodName} {wd wd' : List Cond} {rm : Room} {D : va_G} {tys : List (ClassId × FieldType)} {ws : va_W} {av : List Value} {cc : ByteArray} {maxL : Nat}
theorem pmI_of {post : Int32 → Prop} (hy : plainName y.cls = true) (hw : wd = Cond.code y cc maxL (some .int) :: wd') (hlen : (lg_sl av).length ≤ maxL)
    (body : ∀ (p : Program) (e : Env) (s : State) (m : MethodId) (args : Array Value) (below : List Frame) (meth : Method) (c : Code) (Q : State → Prop), p.tables.exec = Jvm.exec → c.code = cc → c.maxLocals = maxL → s.vm.findClass y.cls = some m.cls → (∀ w ∈ wd, w.before args s = true) → va_K D vwCl tys s → va_P D vwCl ws s.heap →
      (∀ (pc : Nat) (ls : Array Slot) (v : Int32), post v → decode cc pc = .ok (.ireturn, 1) → W p l e rm s m args below meth c s.heap [] 0 0 Q (F0 m pc ls [.int v])) →
      ∀ ls : Array Slot, lv_has ls maxL (lv_args 0 av) → W p l e rm s m args below meth c s.heap [] 0 0 Q (F0 m 0 ls [])) : PM l y wd rm D tys ws av (vp_Si post) :=
  pm_of hy hw hlen (fun p e s m args below meth c hx hb hr hml hlocks hown hts hK hP ls hl => body p e s m args below meth c _ hx hb hml hown hts hK hP (fun pc ls v h1 h2 => w_iretP hx hb hr hlocks h1 h2) ls hl)
theorem pmZ_of {post : Int32 → Prop} (hy : plainName y.cls = true) (hw : wd = Cond.code y cc maxL (some .boolean) :: wd') (hlen : (lg_sl av).length ≤ maxL)
    (body : ∀ (p : Program) (e : Env) (s : State) (m : MethodId) (args : Array Value) (below : List Frame) (meth : Method) (c : Code) (Q : State → Prop), p.tables.exec = Jvm.exec → c.code = cc → c.maxLocals = maxL → s.vm.findClass y.cls = some m.cls → (∀ w ∈ wd, w.before args s = true) → va_K D vwCl tys s → va_P D vwCl ws s.heap →
      (∀ (pc : Nat) (ls : Array Slot) (v : Int32), narrow .boolean (.int v) = .int v → post v → decode cc pc = .ok (.ireturn, 1) → W p l e rm s m args below meth c s.heap [] 0 0 Q (F0 m pc ls [.int v])) →
      ∀ ls : Array Slot, lv_has ls maxL (lv_args 0 av) → W p l e rm s m args below meth c s.heap [] 0 0 Q (F0 m 0 ls [])) : PM l y wd rm D tys ws av (vp_Si post) :=
  pm_of hy hw hlen (fun p e s m args below meth c hx hb hr hml hlocks hown hts hK hP ls hl => body p e s m args below meth c _ hx hb hml hown hts hK hP (fun pc ls v h0 h1 h2 => w_zretP hx hb hr hlocks h0 h1 h2) ls hl)
theorem pmV_of {post : Unit → Prop} (hy : plainName y.cls = true) (hw : wd = Cond.code y cc maxL (none) :: wd') (hlen : (lg_sl av).length ≤ maxL)
    (body : ∀ (p : Program) (e : Env) (s : State) (m : MethodId) (args : Array Value) (below : List Frame) (meth : Method) (c : Code) (Q : State → Prop), p.tables.exec = Jvm.exec → c.code = cc → c.maxLocals = maxL → s.vm.findClass y.cls = some m.cls → (∀ w ∈ wd, w.before args s = true) → va_K D vwCl tys s → va_P D vwCl ws s.heap →
      (∀ (pc : Nat) (ls : Array Slot), post () → decode cc pc = .ok (.return_, 1) → W p l e rm s m args below meth c s.heap [] 0 0 Q (F0 m pc ls [])) →
      ∀ ls : Array Slot, lv_has ls maxL (lv_args 0 av) → W p l e rm s m args below meth c s.heap [] 0 0 Q (F0 m 0 ls [])) : PM l y wd rm D tys ws av (va_Sv post) :=
  pm_of hy hw hlen (fun p e s m args below meth c hx hb hr hml hlocks hown hts hK hP ls hl => body p e s m args below meth c _ hx hb hml hown hts hK hP (fun pc ls h1 h2 => w_vretP hx hb hr hlocks h1 h2) ls hl)
theorem imI_of {S : Type} {out : S → va_W} {post : Int32 → S → Prop} (hy : plainName y.cls = true) (hw : wd = Cond.code y cc maxL (some .int) :: wd') (hlen : (lg_sl av).length ≤ maxL)
    (body : ∀ (p : Program) (e : Env) (s : State) (m : MethodId) (args : Array Value) (below : List Frame) (meth : Method) (c : Code) (A : Nat → Prop) (Q : State → Prop), p.tables.exec = Jvm.exec → c.code = cc → c.maxLocals = maxL → s.vm.findClass y.cls = some m.cls → (∀ w ∈ wd, w.before args s = true) → (∀ q : Nat, s.heap.size ≤ q → A q) → va_K D vwCl tys s → va_P D vwCl ws s.heap → va_D A ws → va_S A s.heap s.heap [] →
      (∀ (H : Heap) (locs : List Loc) (pc : Nat) (ls : Array Slot) (v : Int32) (u : S), va_P D vwCl (out u) H → va_D A (out u) → va_S A s.heap H locs → post v u → decode cc pc = .ok (.ireturn, 1) → W p l e rm s m args below meth c H locs 0 0 Q (F0 m pc ls [.int v])) →
      ∀ ls : Array Slot, lv_has ls maxL (lv_args 0 av) → W p l e rm s m args below meth c s.heap [] 0 0 Q (F0 m 0 ls [])) : IM l y wd rm D tys ws av (QI D tys out post) :=
  im_of hy hw hlen (fun p e s m args below meth c A hx hb hr hml hlocks hown hts hA hK hP hD hS ls hl => body p e s m args below meth c A _ hx hb hml hown hts hA hK hP hD hS (fun H locs pc ls v u h1 h2 h3 h4 h5 => w_iret u hx hb hr hlocks hK h1 h2 h3 h4 h5) ls hl)
theorem imZ_of {S : Type} {out : S → va_W} {post : Int32 → S → Prop} (hy : plainName y.cls = true) (hw : wd = Cond.code y cc maxL (some .boolean) :: wd') (hlen : (lg_sl av).length ≤ maxL)
    (body : ∀ (p : Program) (e : Env) (s : State) (m : MethodId) (args : Array Value) (below : List Frame) (meth : Method) (c : Code) (A : Nat → Prop) (Q : State → Prop), p.tables.exec = Jvm.exec → c.code = cc → c.maxLocals = maxL → s.vm.findClass y.cls = some m.cls → (∀ w ∈ wd, w.before args s = true) → (∀ q : Nat, s.heap.size ≤ q → A q) → va_K D vwCl tys s → va_P D vwCl ws s.heap → va_D A ws → va_S A s.heap s.heap [] →
      (∀ (H : Heap) (locs : List Loc) (pc : Nat) (ls : Array Slot) (v : Int32) (u : S), narrow .boolean (.int v) = .int v → va_P D vwCl (out u) H → va_D A (out u) → va_S A s.heap H locs → post v u → decode cc pc = .ok (.ireturn, 1) → W p l e rm s m args below meth c H locs 0 0 Q (F0 m pc ls [.int v])) →
      ∀ ls : Array Slot, lv_has ls maxL (lv_args 0 av) → W p l e rm s m args below meth c s.heap [] 0 0 Q (F0 m 0 ls [])) : IM l y wd rm D tys ws av (QI D tys out post) :=
  im_of hy hw hlen (fun p e s m args below meth c A hx hb hr hml hlocks hown hts hA hK hP hD hS ls hl => body p e s m args below meth c A _ hx hb hml hown hts hA hK hP hD hS (fun H locs pc ls v u h0 h1 h2 h3 h4 h5 => w_zret u hx hb hr hlocks h0 hK h1 h2 h3 h4 h5) ls hl)
theorem imV_of {S : Type} {out : S → va_W} {post : S → Prop} (hy : plainName y.cls = true) (hw : wd = Cond.code y cc maxL (none) :: wd') (hlen : (lg_sl av).length ≤ maxL)
    (body : ∀ (p : Program) (e : Env) (s : State) (m : MethodId) (args : Array Value) (below : List Frame) (meth : Method) (c : Code) (A : Nat → Prop) (Q : State → Prop), p.tables.exec = Jvm.exec → c.code = cc → c.maxLocals = maxL → s.vm.findClass y.cls = some m.cls → (∀ w ∈ wd, w.before args s = true) → (∀ q : Nat, s.heap.size ≤ q → A q) → va_K D vwCl tys s → va_P D vwCl ws s.heap → va_D A ws → va_S A s.heap s.heap [] →
      (∀ (H : Heap) (locs : List Loc) (pc : Nat) (ls : Array Slot) (u : S), va_P D vwCl (out u) H → va_D A (out u) → va_S A s.heap H locs → post u → decode cc pc = .ok (.return_, 1) → W p l e rm s m args below meth c H locs 0 0 Q (F0 m pc ls [])) →
      ∀ ls : Array Slot, lv_has ls maxL (lv_args 0 av) → W p l e rm s m args below meth c s.heap [] 0 0 Q (F0 m 0 ls [])) : IM l y wd rm D tys ws av (QV D tys out post) :=
  im_of hy hw hlen (fun p e s m args below meth c A hx hb hr hml hlocks hown hts hA hK hP hD hS ls hl => body p e s m args below meth c A _ hx hb hml hown hts hA hK hP hD hS (fun H locs pc ls u h1 h2 h3 h4 h5 => w_vret u hx hb hr hlocks hK h1 h2 h3 h4 h5) ls hl)
theorem imD_of {S : Type} {out : S → va_W} {post : UInt64 → S → Prop} (hy : plainName y.cls = true) (hw : wd = Cond.code y cc maxL (some .double) :: wd') (hlen : (lg_sl av).length ≤ maxL)
    (body : ∀ (p : Program) (e : Env) (s : State) (m : MethodId) (args : Array Value) (below : List Frame) (meth : Method) (c : Code) (A : Nat → Prop) (Q : State → Prop), p.tables.exec = Jvm.exec → c.code = cc → c.maxLocals = maxL → s.vm.findClass y.cls = some m.cls → (∀ w ∈ wd, w.before args s = true) → (∀ q : Nat, s.heap.size ≤ q → A q) → va_K D vwCl tys s → va_P D vwCl ws s.heap → va_D A ws → va_S A s.heap s.heap [] →
      (∀ (H : Heap) (locs : List Loc) (pc : Nat) (ls : Array Slot) (v : UInt64) (u : S), va_P D vwCl (out u) H → va_D A (out u) → va_S A s.heap H locs → post v u → decode cc pc = .ok (.dreturn, 1) → W p l e rm s m args below meth c H locs 0 0 Q (F0 m pc ls [.double v])) →
      ∀ ls : Array Slot, lv_has ls maxL (lv_args 0 av) → W p l e rm s m args below meth c s.heap [] 0 0 Q (F0 m 0 ls [])) : IM l y wd rm D tys ws av (QD D tys out post) :=
  im_of hy hw hlen (fun p e s m args below meth c A hx hb hr hml hlocks hown hts hA hK hP hD hS ls hl => body p e s m args below meth c A _ hx hb hml hown hts hA hK hP hD hS (fun H locs pc ls v u h1 h2 h3 h4 h5 => w_dret u hx hb hr hlocks hK h1 h2 h3 h4 h5) ls hl)
end WO
end
section
/-! the worlds: a Flowforge ad, a FlowforgeModel bd -/
def tI (f : Nat → Int) : Nat → Int32 := fun k => iI (f k)
def jI (f : Nat → Nat) : Nat → Int32 := fun k => iI ((f k : Nat) : Int)
theorem tI_up {f : Nat → Int} {k : Nat} {v : Int} : upd (tI f) k (iI v) = tI (va_up f k v) := by
  funext j
  unfold upd tI va_up
  split <;> rfl
theorem jI_up {f : Nat → Nat} {k v : Nat} : upd (jI f) k (iI ((v : Nat) : Int)) = jI (va_up f k v) := by
  funext j
  unfold upd jI va_up
  split <;> rfl
theorem tI_cpy {f g : Nat → Int} {sp dp n : Nat} : va_cpy (tI f) (tI g) sp dp n = tI (va_cpy f g sp dp n) := by
  funext j
  by_cases h : dp ≤ j ∧ j < dp + n
  · simp only [va_cpy, tI, if_pos h]
  · simp only [va_cpy, tI, if_neg h]
theorem jI_cpy {f g : Nat → Nat} {sp dp n : Nat} : va_cpy (jI f) (jI g) sp dp n = jI (va_cpy f g sp dp n) := by
  funext j
  by_cases h : dp ≤ j ∧ j < dp + n
  · simp only [va_cpy, jI, if_pos h]
  · simp only [va_cpy, jI, if_neg h]
def xw (ad : Nat → Nat) (cI cZ : ClassId) (nn mm : Nat) (tT tB tE tL : Nat → Int) (oO oR oQ : Nat → Nat) (zS zM zN : Nat → Int) (oJ : Nat → Nat) : va_W :=
  [(ad 0, .inr (0, [.int (iI (nn : Int)), .int (iI (mm : Int)), .ref (ad 1), .ref (ad 2), .ref (ad 3), .ref (ad 4), .ref (ad 5), .ref (ad 6), .ref (ad 7), .ref (ad 8), .ref (ad 9), .ref (ad 10), .ref (ad 11)])),
   (ad 1, .inl (cI, 35, .inl (tI tT))), (ad 2, .inl (cI, 35, .inl (tI tB))), (ad 3, .inl (cI, 35, .inl (tI tE))), (ad 4, .inl (cI, 35, .inl (tI tL))),
   (ad 5, .inl (cI, 7, .inl (jI oO))), (ad 6, .inl (cI, 7, .inl (jI oR))), (ad 7, .inl (cI, 7, .inl (jI oQ))),
   (ad 8, .inl (cZ, 3, .inl (tI zS))), (ad 9, .inl (cI, 3, .inl (tI zM))), (ad 10, .inl (cI, 3, .inl (tI zN))), (ad 11, .inl (cI, 21, .inl (jI oJ)))]
def mw (bd : Nat → Nat) (cI : ClassId) (th : Int) (nn mm : Nat) (bm : Int) (tT : Nat → Int) (oO : Nat → Nat) (tB tL : Nat → Int) (oR oJ : Nat → Nat) : va_W :=
  [(bd 0, .inr (1, [.int (iI th), .int (iI (nn : Int)), .int (iI (mm : Int)), .ref (bd 1), .ref (bd 2), .ref (bd 3), .ref (bd 4), .ref (bd 5), .ref (bd 6), .int (iI bm)])),
   (bd 1, .inl (cI, 35, .inl (tI tT))), (bd 2, .inl (cI, 7, .inl (jI oO))), (bd 3, .inl (cI, 35, .inl (tI tB))), (bd 4, .inl (cI, 40, .inl (tI tL))),
   (bd 5, .inl (cI, 7, .inl (jI oR))), (bd 6, .inl (cI, 7, .inl (jI oJ)))]
def tyk (cI cZ cJ : ClassId) : List (ClassId × FieldType) := [(cI, .int), (cZ, .boolean), (cJ, .long)]
section WC
variable {p : Program} {l : Launch} {e : Env} {R : Room} {s : State} {m : MethodId} {args : Array Value} {below : List Frame} {meth : Method} {c : Code} {H : Heap} {locs : List Loc} {cells slots : Nat} {Q : State → Prop}
variable {cc : ByteArray} {pc : Nat} {ls : Array Slot} {rest : List Value} {D : va_G} {cl : List vw_C} {tys : List (ClassId × FieldType)} {ws : va_W} {A : Nat → Prop} {H0 : Heap}
theorem w_copy {own : String} {index : Nat} (ws' : va_W) (g2 : Nat → Int32) (hx : p.tables.exec = Jvm.exec) (hb : c.code = cc) (hml : c.maxLocals = ls.size) (hown : s.vm.findClass own = some m.cls) (hlink : (Cond.methodLink own index arraycopyName).before args s = true) (hnat : (Cond.native arraycopyName).before args s = true) (hstat : (Cond.static arraycopyName).before args s = true) (hini : (Cond.initialized "java/lang/System").before args s = true)
    (hK : va_K D cl tys s) (hP : va_P D cl ws H) (hD : va_D A ws) (hS : va_S A H0 H locs) (q0 q1 : Nat) {a1 a2 : Nat} {c0 : ClassId} {n0 n1 : Nat} {f g : Nat → Int32} (ha0 : ws[q0]? = some (a1, .inl (c0, n0, .inl f))) (ha1 : ws[q1]? = some (a2, .inl (c0, n1, .inl g))) (ht : tys[0]? = some (c0, .int)) {zs zd zn : Int} (sp dp n : Nat) (h1 : zs = (sp : Int)) (h2 : zd = (dp : Int)) (h3 : zn = (n : Int)) (h4 : sp + n ≤ n0) (h5 : dp + n ≤ n1)
    (hframes : 1 ≤ R.frames) (hlocals : (rest.map fun v => v.category).sum + (nativeFrameWords "java/lang/System" "arraycopy" 5 + 11) ≤ R.locals) (hbd : n0 ≤ 2147483647 ∧ n1 ≤ 2147483647) (hg : va_cpy f g sp dp n = g2) (hw : ws.set q1 (a2, .inl (c0, n1, .inl g2)) = ws') (hd : decode cc pc = .ok (.invokestatic index, 3))
    (kk : ∀ (H1 : Heap) (locs1 : List Loc), va_P D cl ws' H1 → va_D A ws' → va_S A H0 H1 locs1 → W p l e R s m args below meth c H1 locs1 cells slots Q (F0 m (pc + 3) ls rest)) : W p l e R s m args below meth c H locs cells slots Q (F0 m pc ls (.int (iI zn) :: .int (iI zd) :: .ref a2 :: .int (iI zs) :: .ref a1 :: rest)) := by
  obtain ⟨b0, b1⟩ := hbd
  have e1 : (iI zs).toNatClampNeg = sp := iI_cl h1 (by omega)
  have e2 : (iI zd).toNatClampNeg = dp := iI_cl h2 (by omega)
  have e3 : (iI zn).toNatClampNeg = n := iI_cl h3 (by omega)
  have ng : ∀ {z : Int} {k : Nat}, z = (k : Int) → k < 2147483648 → ¬ iI z < 0 := fun {z k} hz hk h => by
    have := (iI_lt (a := z) (b := 0) ⟨by omega, by omega⟩ ⟨by omega, by omega⟩).mp h
    omega
  refine va_copyi hx hb hml hown hlink hnat hstat hini hK hP hD hS q0 q1 0 0 ha0 ha1 ht ht rfl (ng h1 (by omega)) (ng h2 (by omega)) (ng h3 (by omega)) (by rw [e1, e3]; exact h4) (by rw [e2, e3]; exact h5) (fun _ _ => rfl) hframes hlocals hd (fun H1 locs1 k1 k2 k3 => ?_)
  rw [e1, e2, e3, hg, hw] at k1 k2
  exact kk H1 locs1 k1 k2 k3
end WC
end
section
/-! what the methods work out, over whole numbers: t times (5 a job), o orders -/
def smC (t : Nat → Int) (j fr : Nat) : Nat → Int
  | 0 => 0
  | c + 1 => smC t j fr c + t (5 * j + (fr + c))
def smR (t : Nat → Int) (j fr to : Nat) : Int := smC t j fr (to - fr)
def lsX (t : Nat → Int) (fr to : Nat) : Nat → Int
  | 0 => smR t 0 fr to
  | k + 1 => min (lsX t fr to k) (smR t (k + 1) fr to)
def ldC (t : Nat → Int) (m : Nat) : Nat → Int
  | 0 => 0
  | k + 1 => ldC t m k + t (5 * k + m)
/-- a row laid into a table -/
def pt (f g : Nat → Int) (a n : Nat) : Nat → Int := fun k => if a ≤ k ∧ k < a + n then g (k - a) else f k
theorem pt_0 (f g : Nat → Int) (a : Nat) : pt f g a 0 = f := by
  funext k
  unfold pt
  rw [if_neg (by omega)]
theorem pt_s {f g : Nat → Int} {a n : Nat} : va_up (pt f g a n) (a + n) (g n) = pt f g a (n + 1) := by
  funext k
  unfold va_up pt
  by_cases h : k = a + n
  · subst h
    rw [if_pos rfl, if_pos (by omega), show a + n - a = n by omega]
  · rw [if_neg h]
    by_cases h2 : a ≤ k ∧ k < a + n
    · rw [if_pos h2, if_pos (by omega)]
    · rw [if_neg h2, if_neg (by omega)]
theorem pt_in {f g : Nat → Int} {a n k : Nat} (h : k < n) : pt f g a n (a + k) = g k := by
  unfold pt
  rw [if_pos (by omega), show a + k - a = k by omega]
theorem pt_out {f g : Nat → Int} {a n k : Nat} (h : k < a ∨ a + n ≤ k) : pt f g a n k = f k := by
  unfold pt
  rw [if_neg (by omega)]
/-- when the job ahead leaves a machine free: b, e its begins and ends -/
def frm (v mm : Nat) (b e : Nat → Int) (k : Nat) : Int := if v = 1 ∧ k + 1 < mm then b (k + 1) else e k
/-- a job with times t behind one with begins b and ends e, not before m0: when it comes to a machine, begins, ends there -/
def mom (v mm : Nat) (t b e : Nat → Int) (m0 : Int) : Nat → Int
  | 0 => m0
  | k + 1 => max (mom v mm t b e m0 k) (frm v mm b e k) + t k
def nbg (v mm : Nat) (t b e : Nat → Int) (m0 : Int) (k : Nat) : Int := max (mom v mm t b e m0 k) (frm v mm b e k)
def nen (v mm : Nat) (t b e : Nat → Int) (m0 : Int) (k : Nat) : Int := mom v mm t b e m0 (k + 1)
/-- without waiting: the way to a machine, the earliest start -/
def wyC (t : Nat → Int) : Nat → Int
  | 0 => 0
  | k + 1 => wyC t k + t k
def stC (t e : Nat → Int) : Nat → Int
  | 0 => 0
  | k + 1 => max (stC t e k) (e k - wyC t k)
def m0v (v mm : Nat) (t e : Nat → Int) : Int := if v = 2 then stC t e mm else 0
/-- the row ahead of a place, out of a table -/
def prv (f : Nat → Int) (p : Nat) : Nat → Int := fun k => if p = 0 then 0 else f (5 * (p - 1) + k)
/-- a job's times -/
def tj (t : Nat → Int) (j : Nat) : Nat → Int := fun k => t (5 * j + k)
def sjB (v mm : Nat) (t : Nat → Int) (p j : Nat) (B E : Nat → Int) : Nat → Int := nbg v mm (tj t j) (prv B p) (prv E p) (m0v v mm (tj t j) (prv E p))
def sjE (v mm : Nat) (t : Nat → Int) (p j : Nat) (B E : Nat → Int) : Nat → Int := nen v mm (tj t j) (prv B p) (prv E p) (m0v v mm (tj t j) (prv E p))
/-- begins and ends of the job ahead of a place, in an order -/
def row (v mm : Nat) (t : Nat → Int) (o : Nat → Nat) : Nat → (Nat → Int) × (Nat → Int)
  | 0 => (fun _ => 0, fun _ => 0)
  | p + 1 => (nbg v mm (tj t (o p)) (row v mm t o p).1 (row v mm t o p).2 (m0v v mm (tj t (o p)) (row v mm t o p).2),
      nen v mm (tj t (o p)) (row v mm t o p).1 (row v mm t o p).2 (m0v v mm (tj t (o p)) (row v mm t o p).2))
/-- the makespan of the first c jobs of an order -/
def mk (v mm : Nat) (t : Nat → Int) (o : Nat → Nat) (c : Nat) : Int := (row v mm t o c).2 (mm - 1)
/-- the tables hold the schedule of the first c places -/
def rows (v mm : Nat) (t : Nat → Int) (o : Nat → Nat) (B E : Nat → Int) (c : Nat) : Prop :=
  ∀ p, p < c → ∀ k, k < mm → B (5 * p + k) = (row v mm t o (p + 1)).1 k ∧ E (5 * p + k) = (row v mm t o (p + 1)).2 k
/-- the last end of so many places, out of the table of ends -/
def lstE (mm c : Nat) (E : Nat → Int) : Int := if c < 1 then 0 else E (5 * (c - 1) + (mm - 1))
/-- a place of a list moved to another -/
def sh1 (f : Nat → Nat) (a i : Nat) : Nat → Nat := fun k => if a ≤ k ∧ k < a + i then f (k + 1) else f k
def sh2 (f : Nat → Nat) (a i : Nat) : Nat → Nat := fun k => if a < k + i ∧ k ≤ a then f (k - 1) else f k
def shf (f : Nat → Nat) (a b : Nat) : Nat → Nat := va_up (sh2 (sh1 f a (b - a)) a (a - b)) b (f a)
theorem sh1_0 (f : Nat → Nat) (a : Nat) : sh1 f a 0 = f := by
  funext k
  unfold sh1
  rw [if_neg (by omega)]
theorem sh1_s {f : Nat → Nat} {a i : Nat} : va_up (sh1 f a i) (a + i) (f (a + i + 1)) = sh1 f a (i + 1) := by
  funext k
  unfold va_up sh1
  by_cases h : k = a + i
  · subst h
    rw [if_pos rfl, if_pos (by omega)]
  · rw [if_neg h]
    by_cases h2 : a ≤ k ∧ k < a + i
    · rw [if_pos h2, if_pos (by omega)]
    · rw [if_neg h2, if_neg (by omega)]
theorem sh1_at {f : Nat → Nat} {a i k : Nat} (h : a + i ≤ k) : sh1 f a i k = f k := by
  unfold sh1
  rw [if_neg (by omega)]
theorem sh2_0 (f : Nat → Nat) (a : Nat) : sh2 f a 0 = f := by
  funext k
  unfold sh2
  rw [if_neg (by omega)]
theorem sh2_s {f : Nat → Nat} {a i : Nat} (h : i < a) : va_up (sh2 f a i) (a - i) (f (a - i - 1)) = sh2 f a (i + 1) := by
  funext k
  unfold va_up sh2
  by_cases h1 : k = a - i
  · subst h1
    rw [if_pos rfl, if_pos (by omega)]
  · rw [if_neg h1]
    by_cases h2 : a < k + i ∧ k ≤ a
    · rw [if_pos h2, if_pos (by omega)]
    · rw [if_neg h2, if_neg (by omega)]
theorem sh2_at {f : Nat → Nat} {a i k : Nat} (h : k + i ≤ a) : sh2 f a i k = f k := by
  unfold sh2
  rw [if_neg (by omega)]
theorem smC_rg {t : Nat → Int} (h : ∀ k, 0 ≤ t k ∧ t k ≤ 99) (j fr : Nat) : ∀ c, 0 ≤ smC t j fr c ∧ smC t j fr c ≤ 99 * c
  | 0 => ⟨Int.le_refl _, Int.le_refl _⟩
  | c + 1 => by
    have := smC_rg h j fr c
    have := h (5 * j + (fr + c))
    unfold smC
    constructor <;> omega
theorem smR_rg {t : Nat → Int} (h : ∀ k, 0 ≤ t k ∧ t k ≤ 99) (j fr to : Nat) : 0 ≤ smR t j fr to ∧ smR t j fr to ≤ 99 * to := by
  have := smC_rg h j fr (to - fr)
  unfold smR
  omega
theorem lsX_rg {t : Nat → Int} (h : ∀ k, 0 ≤ t k ∧ t k ≤ 99) (fr to : Nat) : ∀ k, 0 ≤ lsX t fr to k ∧ lsX t fr to k ≤ 99 * to
  | 0 => smR_rg h 0 fr to
  | k + 1 => by
    have := lsX_rg h fr to k
    have := smR_rg h (k + 1) fr to
    unfold lsX
    omega
theorem ldC_rg {t : Nat → Int} (h : ∀ k, 0 ≤ t k ∧ t k ≤ 99) (m : Nat) : ∀ c, 0 ≤ ldC t m c ∧ ldC t m c ≤ 99 * c
  | 0 => ⟨Int.le_refl _, Int.le_refl _⟩
  | c + 1 => by
    have := ldC_rg h m c
    have := h (5 * c + m)
    unfold ldC
    constructor <;> omega
theorem frm_0 {v mm k : Nat} {f g : Nat → Int} : frm v mm (prv f 0) (prv g 0) k = 0 := by
  unfold frm prv
  split <;> rfl
theorem frm_2 {mm k : Nat} {b e : Nat → Int} : frm 2 mm b e k = e k := by
  unfold frm
  rw [if_neg (by omega)]
theorem prv_pt {f g : Nat → Int} {p i k : Nat} (h : k < 5) : prv (pt f g (5 * p) i) p k = prv f p k := by
  unfold prv
  by_cases hp : p = 0
  · rw [if_pos hp, if_pos hp]
  · rw [if_neg hp, if_neg hp, pt_out (by omega)]
theorem frm_pt {v mm : Nat} {B E g h : Nat → Int} {p i k : Nat} (hm : mm ≤ 5) (hk : k < mm) : frm v mm (prv (pt B g (5 * p) i) p) (prv (pt E h (5 * p) i) p) k = frm v mm (prv B p) (prv E p) k := by
  unfold frm
  split
  · rw [prv_pt (by omega)]
  · rw [prv_pt (by omega)]
theorem frm_cg {v mm : Nat} {b e b' e' : Nat → Int} (h : ∀ k, k < mm → b k = b' k ∧ e k = e' k) {k : Nat} (hk : k < mm) : frm v mm b e k = frm v mm b' e' k := by
  unfold frm
  split
  · rename_i h1
    exact (h _ h1.2).1
  · exact (h _ hk).2
theorem frm_rg {v mm : Nat} {b e : Nat → Int} {K : Int} (h : ∀ k, k < mm → (0 ≤ b k ∧ b k ≤ K) ∧ 0 ≤ e k ∧ e k ≤ K) {k : Nat} (hk : k < mm) : 0 ≤ frm v mm b e k ∧ frm v mm b e k ≤ K := by
  unfold frm
  split
  · rename_i h1
    exact (h _ h1.2).1
  · exact (h _ hk).2
theorem mom_cg {v mm : Nat} {t b e b' e' : Nat → Int} {m0 : Int} (h : ∀ k, k < mm → b k = b' k ∧ e k = e' k) : ∀ k, k ≤ mm → mom v mm t b e m0 k = mom v mm t b' e' m0 k
  | 0, _ => rfl
  | k + 1, hk => by
    unfold mom
    rw [mom_cg h k (by omega), frm_cg h (by omega)]
theorem wyC_rg {t : Nat → Int} (h : ∀ k, 0 ≤ t k ∧ t k ≤ 99) : ∀ k, 0 ≤ wyC t k ∧ wyC t k ≤ 99 * k
  | 0 => ⟨Int.le_refl _, Int.le_refl _⟩
  | k + 1 => by
    have := wyC_rg h k
    have := h k
    unfold wyC
    constructor <;> omega
theorem stC_rg {t e : Nat → Int} {mm : Nat} {K : Int} (hK : 0 ≤ K) (ht : ∀ k, 0 ≤ t k ∧ t k ≤ 99) (h : ∀ k, k < mm → e k ≤ K) : ∀ k, k ≤ mm → 0 ≤ stC t e k ∧ stC t e k ≤ K
  | 0, _ => ⟨Int.le_refl _, hK⟩
  | k + 1, hk => by
    have h1 := stC_rg hK ht h k (by omega)
    have h2 := h k (by omega)
    have h3 := wyC_rg ht k
    unfold stC
    omega
theorem stC_cg {t e e' : Nat → Int} {mm : Nat} (h : ∀ k, k < mm → e k = e' k) : ∀ k, k ≤ mm → stC t e k = stC t e' k
  | 0, _ => rfl
  | k + 1, hk => by
    unfold stC
    rw [stC_cg h k (by omega), h k (by omega)]
theorem m0v_rg {v mm : Nat} {t e : Nat → Int} {K : Int} (hK : 0 ≤ K) (ht : ∀ k, 0 ≤ t k ∧ t k ≤ 99) (h : ∀ k, k < mm → e k ≤ K) : 0 ≤ m0v v mm t e ∧ m0v v mm t e ≤ K := by
  unfold m0v
  split
  · exact stC_rg hK ht h mm (Nat.le_refl _)
  · exact ⟨Int.le_refl _, hK⟩
theorem mom_rg {v mm : Nat} {t b e : Nat → Int} {m0 K : Int} (ht : ∀ k, 0 ≤ t k ∧ t k ≤ 99) (h : ∀ k, k < mm → (0 ≤ b k ∧ b k ≤ K) ∧ 0 ≤ e k ∧ e k ≤ K) (h0 : 0 ≤ m0 ∧ m0 ≤ K) : ∀ k, k ≤ mm → 0 ≤ mom v mm t b e m0 k ∧ mom v mm t b e m0 k ≤ K + 99 * k
  | 0, _ => by
    unfold mom
    omega
  | k + 1, hk => by
    have h1 := mom_rg (v := v) ht h h0 k (by omega)
    have h2 := frm_rg (v := v) h (show k < mm by omega)
    have h3 := ht k
    unfold mom
    omega
theorem row_rg {v mm : Nat} {t : Nat → Int} {o : Nat → Nat} (hm : mm ≤ 5) (ht : ∀ k, 0 ≤ t k ∧ t k ≤ 99) : ∀ p k, k < mm → (0 ≤ (row v mm t o p).1 k ∧ (row v mm t o p).1 k ≤ 495 * p) ∧ 0 ≤ (row v mm t o p).2 k ∧ (row v mm t o p).2 k ≤ 495 * p
  | 0, _, _ => by
    unfold row
    exact ⟨⟨Int.le_refl _, Int.le_refl _⟩, Int.le_refl _, Int.le_refl _⟩
  | p + 1, k, hk => by
    have h1 := row_rg (v := v) (o := o) hm ht p
    have h2 := m0v_rg (v := v) (mm := mm) (t := tj t (o p)) (e := (row v mm t o p).2) (K := 495 * p) (by omega) (fun k => ht _) (fun k hk => (h1 k hk).2.2)
    have h3 := mom_rg (v := v) (t := tj t (o p)) (fun k => ht _) h1 h2 k (by omega)
    have h4 := mom_rg (v := v) (t := tj t (o p)) (fun k => ht _) h1 h2 (k + 1) (by omega)
    have h5 := frm_rg (v := v) h1 hk
    refine ⟨?_, ?_⟩
    · show 0 ≤ nbg _ _ _ _ _ _ _ ∧ nbg _ _ _ _ _ _ _ ≤ _
      unfold nbg
      omega
    · show 0 ≤ mom _ _ _ _ _ _ (k + 1) ∧ mom _ _ _ _ _ _ (k + 1) ≤ _
      omega
theorem rows_0 {v mm : Nat} {t : Nat → Int} {o : Nat → Nat} {B E : Nat → Int} : rows v mm t o B E 0 := fun _ h => absurd h (Nat.not_lt_zero _)
theorem rows_le {v mm : Nat} {t : Nat → Int} {o : Nat → Nat} {B E : Nat → Int} {c d : Nat} (h : rows v mm t o B E c) (hd : d ≤ c) : rows v mm t o B E d := fun p hp => h p (by omega)
theorem rows_prv {v mm : Nat} {t : Nat → Int} {o : Nat → Nat} {B E : Nat → Int} {c : Nat} (h : rows v mm t o B E c) {k : Nat} (hk : k < mm) : prv B c k = (row v mm t o c).1 k ∧ prv E c k = (row v mm t o c).2 k := by
  cases c with
  | zero => exact ⟨rfl, rfl⟩
  | succ c =>
    unfold prv
    rw [if_neg (by omega), if_neg (by omega), Nat.add_sub_cancel]
    exact h c (by omega) k hk
theorem rows_rg {v mm : Nat} {t : Nat → Int} {o : Nat → Nat} {B E : Nat → Int} {c : Nat} (hm : mm ≤ 5) (ht : ∀ k, 0 ≤ t k ∧ t k ≤ 99) (hc : c ≤ 7) (h : rows v mm t o B E c) : ∀ k, k < mm → (0 ≤ prv B c k ∧ prv B c k ≤ 1000000) ∧ 0 ≤ prv E c k ∧ prv E c k ≤ 1000000 := by
  intro k hk
  rw [(rows_prv h hk).1, (rows_prv h hk).2]
  have := row_rg (v := v) (o := o) hm ht c k hk
  omega
theorem rows_s {v mm : Nat} {t : Nat → Int} {o : Nat → Nat} {B E : Nat → Int} {c : Nat} (hm : mm ≤ 5) (h : rows v mm t o B E c) : rows v mm t o (pt B (sjB v mm t c (o c) B E) (5 * c) mm) (pt E (sjE v mm t c (o c) B E) (5 * c) mm) (c + 1) := by
  intro p hp k hk
  by_cases hpc : p = c
  · subst hpc
    rw [pt_in hk, pt_in hk]
    have h1 := fun k hk => rows_prv h (k := k) hk
    have h2 : m0v v mm (tj t (o p)) (prv E p) = m0v v mm (tj t (o p)) (row v mm t o p).2 := by
      unfold m0v
      rw [stC_cg (fun k hk => (h1 k hk).2) mm (Nat.le_refl _)]
    unfold sjB sjE nbg nen row
    rw [h2]
    refine ⟨?_, ?_⟩
    · rw [mom_cg h1 k (by omega), frm_cg h1 hk]
      rfl
    · rw [mom_cg h1 (k + 1) (by omega)]
      rfl
  · rw [pt_out (by omega), pt_out (by omega)]
    exact h p (by omega) k hk
theorem row_cg {v mm : Nat} {t : Nat → Int} {o o' : Nat → Nat} : ∀ {c : Nat}, (∀ k, k < c → o k = o' k) → row v mm t o c = row v mm t o' c
  | 0, _ => rfl
  | c + 1, h => by
    unfold row
    rw [row_cg (fun k hk => h k (by omega)), h c (by omega)]
theorem mk_cg {v mm : Nat} {t : Nat → Int} {o o' : Nat → Nat} {c : Nat} (h : ∀ k, k < c → o k = o' k) : mk v mm t o c = mk v mm t o' c := by
  unfold mk
  rw [row_cg h]
theorem rows_cg {v mm : Nat} {t : Nat → Int} {o o' : Nat → Nat} {B E : Nat → Int} {c : Nat} (h : rows v mm t o B E c) (e : ∀ k, k < c → o k = o' k) : rows v mm t o' B E c := by
  intro p hp
  rw [← row_cg (o := o) (fun k hk => e k (by omega))]
  exact h p hp
theorem mk_rg {v mm : Nat} {t : Nat → Int} {o : Nat → Nat} {c : Nat} (h1 : 1 ≤ mm) (hm : mm ≤ 5) (ht : ∀ k, 0 ≤ t k ∧ t k ≤ 99) (hc : c ≤ 7) : 0 ≤ mk v mm t o c ∧ mk v mm t o c ≤ 3465 := by
  have := row_rg (v := v) (o := o) hm ht c (mm - 1) (by omega)
  unfold mk
  omega
theorem lstE_rows {v mm : Nat} {t : Nat → Int} {o : Nat → Nat} {B E : Nat → Int} {c : Nat} (h1 : 1 ≤ mm) (h : rows v mm t o B E c) : lstE mm c E = mk v mm t o c := by
  unfold lstE mk
  cases c with
  | zero => rfl
  | succ c =>
    rw [if_neg (by omega), Nat.add_sub_cancel]
    exact (h c (by omega) (mm - 1) (by omega)).2
end
section
/-! sorting by putting in, and orders one behind another -/
def pos (bef : Nat → Nat → Bool) (f : Nat → Nat) (j : Nat) : Nat → Nat
  | 0 => 0
  | p + 1 => if bef j (f p) = true then pos bef f j p else p + 1
def ins (bef : Nat → Nat → Bool) (f : Nat → Nat) (i : Nat) : Nat → Nat := va_up (sh2 f i (i - pos bef f i i)) (pos bef f i i) i
def srt (bef : Nat → Nat → Bool) (f0 : Nat → Nat) : Nat → Nat → Nat
  | 0 => f0
  | i + 1 => ins bef (srt bef f0 i) i
theorem pos_le (bef : Nat → Nat → Bool) (f : Nat → Nat) (j : Nat) : ∀ p, pos bef f j p ≤ p
  | 0 => Nat.le_refl _
  | p + 1 => by
    have := pos_le bef f j p
    unfold pos
    split <;> omega
theorem pos_go {bef : Nat → Nat → Bool} {f : Nat → Nat} {j p : Nat} (h0 : 0 < p) (h : bef j (f (p - 1)) = true) : pos bef f j p = pos bef f j (p - 1) := by
  obtain ⟨q, rfl⟩ : ∃ q, p = q + 1 := ⟨p - 1, by omega⟩
  rw [Nat.add_sub_cancel] at h ⊢
  rw [pos, if_pos h]
theorem pos_stop {bef : Nat → Nat → Bool} {f : Nat → Nat} {j p : Nat} (h0 : 0 < p) (h : ¬ bef j (f (p - 1)) = true) : pos bef f j p = p := by
  obtain ⟨q, rfl⟩ : ∃ q, p = q + 1 := ⟨p - 1, by omega⟩
  rw [Nat.add_sub_cancel] at h
  rw [pos, if_neg h]
theorem sh2_p {f : Nat → Nat} {a p : Nat} (h0 : 0 < p) (hp : p ≤ a) : va_up (sh2 f a (a - p)) p (f (p - 1)) = sh2 f a (a - (p - 1)) := by
  have h := sh2_s (f := f) (a := a) (i := a - p) (by omega)
  rw [show a - (a - p) = p by omega, show a - p + 1 = a - (p - 1) by omega] at h
  exact h
theorem ins_at {bef : Nat → Nat → Bool} {f : Nat → Nat} {i k : Nat} : ins bef f i k = if k = pos bef f i i then i else if pos bef f i i < k ∧ k ≤ i then f (k - 1) else f k := by
  have h := pos_le bef f i i
  unfold ins va_up sh2
  by_cases h1 : k = pos bef f i i
  · rw [if_pos h1, if_pos h1]
  · rw [if_neg h1, if_neg h1]
    by_cases h2 : pos bef f i i < k ∧ k ≤ i
    · rw [if_pos h2, if_pos (by omega)]
    · rw [if_neg h2, if_neg (by omega)]
theorem srt_lt {bef : Nat → Nat → Bool} {f0 : Nat → Nat} : ∀ {i k : Nat}, k < i → srt bef f0 i k < i
  | i + 1, k, hk => by
    show ins bef (srt bef f0 i) i k < i + 1
    have h := pos_le bef (srt bef f0 i) i i
    rw [ins_at]
    split
    · omega
    · split
      · have := srt_lt (bef := bef) (f0 := f0) (i := i) (k := k - 1) (by omega)
        omega
      · have := srt_lt (bef := bef) (f0 := f0) (i := i) (k := k) (by omega)
        omega
/-- which of two jobs goes first: by sums, by the rule -/
def bqs (t : Nat → Int) (mm : Nat) (i x : Nat) : Bool := if smR t x 0 mm < smR t i 0 mm then true else false
def gbr (t : Nat → Int) (a b i j : Nat) : Bool :=
  if t (5 * i + a) ≤ t (5 * i + b) then (if t (5 * j + a) ≤ t (5 * j + b) then (if t (5 * i + a) < t (5 * j + a) then true else false) else true)
  else (if t (5 * j + a) ≤ t (5 * j + b) then false else (if t (5 * j + b) < t (5 * i + b) then true else false))
/-- two machines alone: ends on the first, on the second, of the first jobs of an order -/
def opF (t : Nat → Int) (r : Nat → Nat) (a : Nat) : Nat → Int
  | 0 => 0
  | i + 1 => opF t r a i + t (5 * r i + a)
def opS (t : Nat → Int) (r : Nat → Nat) (a b : Nat) : Nat → Int
  | 0 => 0
  | i + 1 => max (opF t r a (i + 1)) (opS t r a b i) + t (5 * r i + b)
theorem opF_rg {t : Nat → Int} (h : ∀ k, 0 ≤ t k ∧ t k ≤ 99) (r : Nat → Nat) (a : Nat) : ∀ c, 0 ≤ opF t r a c ∧ opF t r a c ≤ 99 * c
  | 0 => ⟨Int.le_refl _, Int.le_refl _⟩
  | c + 1 => by
    have := opF_rg h r a c
    have := h (5 * r c + a)
    unfold opF
    constructor <;> omega
theorem opS_rg {t : Nat → Int} (h : ∀ k, 0 ≤ t k ∧ t k ≤ 99) (r : Nat → Nat) (a b : Nat) : ∀ c, 0 ≤ opS t r a b c ∧ opS t r a b c ≤ 198 * c
  | 0 => ⟨Int.le_refl _, Int.le_refl _⟩
  | c + 1 => by
    have := opS_rg h r a b c
    have := opF_rg h r a (c + 1)
    have := h (5 * r c + b)
    unfold opS
    constructor <;> omega
/-- tails: of a place from the last machine on, n those of the next place; of the places from the last one on -/
def tlq (n t : Nat → Int) (mm : Nat) : Nat → Int
  | 0 => 0
  | c + 1 => t (mm - 1 - c) + max (tlq n t mm c) (n (mm - 1 - c))
def tlr (t : Nat → Int) (o : Nat → Nat) (nn mm : Nat) : Nat → Nat → Int
  | 0 => fun _ => 0
  | q + 1 => fun k => tlq (tlr t o nn mm q) (tj t (o (nn - 1 - q))) mm (mm - k)
theorem tlq_rg {n t : Nat → Int} {mm : Nat} {K : Int} (ht : ∀ k, 0 ≤ t k ∧ t k ≤ 99) (hK : 0 ≤ K) (hn : ∀ k, 0 ≤ n k ∧ n k ≤ K) : ∀ c, 0 ≤ tlq n t mm c ∧ tlq n t mm c ≤ K + 99 * c
  | 0 => by
    unfold tlq
    omega
  | c + 1 => by
    have := tlq_rg (mm := mm) ht hK hn c
    have := ht (mm - 1 - c)
    have := hn (mm - 1 - c)
    unfold tlq
    constructor <;> omega
theorem tlr_rg {t : Nat → Int} {o : Nat → Nat} {nn mm : Nat} (hm : mm ≤ 5) (ht : ∀ k, 0 ≤ t k ∧ t k ≤ 99) : ∀ q k, 0 ≤ tlr t o nn mm q k ∧ tlr t o nn mm q k ≤ 495 * q
  | 0, _ => by
    unfold tlr
    exact ⟨Int.le_refl _, Int.le_refl _⟩
  | q + 1, k => by
    have h := tlq_rg (n := tlr t o nn mm q) (t := tj t (o (nn - 1 - q))) (mm := mm) (K := 495 * q) (fun k => ht _) (by omega) (fun k => tlr_rg hm ht q k) (mm - k)
    show 0 ≤ tlq _ _ _ (mm - k) ∧ tlq _ _ _ (mm - k) ≤ _
    omega
/-- the table holds the tails of the last q places -/
def trow (t : Nat → Int) (o : Nat → Nat) (nn mm : Nat) (L : Nat → Int) (q : Nat) : Prop := ∀ p, nn - q ≤ p → p < nn → ∀ k, k < mm → L (5 * p + k) = tlr t o nn mm (nn - p) k
/-- and of the next place from the last machine on those of c machines -/
def tcol (t : Nat → Int) (o : Nat → Nat) (nn mm : Nat) (L : Nat → Int) (q c : Nat) : Prop := ∀ k, k < mm → mm - c ≤ k → L (5 * (nn - 1 - q) + k) = tlr t o nn mm (q + 1) k
theorem trow_0 {t : Nat → Int} {o : Nat → Nat} {nn mm : Nat} {L : Nat → Int} : trow t o nn mm L 0 := fun p h1 h2 => absurd h2 (by omega)
theorem tcol_0 {t : Nat → Int} {o : Nat → Nat} {nn mm : Nat} {L : Nat → Int} {q : Nat} : tcol t o nn mm L q 0 := fun k h1 h2 => absurd h2 (by omega)
theorem trow_up {t : Nat → Int} {o : Nat → Nat} {nn mm : Nat} {L : Nat → Int} {q j : Nat} {x : Int} (hm : mm ≤ 5) (hj : j < mm) (hq : q < nn) (h : trow t o nn mm L q) : trow t o nn mm (va_up L (5 * (nn - 1 - q) + j) x) q := by
  intro p h1 h2 k hk
  unfold va_up
  rw [if_neg (by omega)]
  exact h p h1 h2 k hk
theorem tcol_s {t : Nat → Int} {o : Nat → Nat} {nn mm : Nat} {L : Nat → Int} {q c : Nat} (hm : mm ≤ 5) (hc : c < mm) (hq : q < nn) (h : tcol t o nn mm L q c) :
    tcol t o nn mm (va_up L (5 * (nn - 1 - q) + (mm - 1 - c)) (tlq (tlr t o nn mm q) (tj t (o (nn - 1 - q))) mm (c + 1))) q (c + 1) := by
  intro k hk h2
  unfold va_up
  by_cases hkc : k = mm - 1 - c
  · subst hkc
    rw [if_pos rfl]
    show tlq _ _ _ _ = tlq _ _ _ (mm - (mm - 1 - c))
    rw [show mm - (mm - 1 - c) = c + 1 by omega]
  · rw [if_neg (by omega)]
    exact h k hk (by omega)
theorem trow_s {t : Nat → Int} {o : Nat → Nat} {nn mm : Nat} {L : Nat → Int} {q : Nat} (hq : q < nn) (h : trow t o nn mm L q) (h2 : tcol t o nn mm L q mm) : trow t o nn mm L (q + 1) := by
  intro p h3 h4 k hk
  by_cases hp : p = nn - 1 - q
  · subst hp
    rw [show nn - (nn - 1 - q) = q + 1 by omega]
    exact h2 k hk (by omega)
  · exact h p (by omega) h4 k hk
/-- the next order: the place behind which it changes, the partner, the turning round -/
def pvt (r : Nat → Nat) : Nat → Nat
  | 0 => 0
  | c + 1 => if r c ≤ r (c + 1) then c + 1 else pvt r c
def ptn (r : Nat → Nat) (P : Nat) : Nat → Nat
  | 0 => 0
  | c + 1 => if c + 1 ≤ P + 1 then c + 1 else if r P ≤ r (c + 1) then c + 1 else ptn r P c
def swp (r : Nat → Nat) (a b : Nat) : Nat → Nat := va_up (va_up r a (r b)) b (r a)
def rvs (r : Nat → Nat) (a b : Nat) : Nat → Nat → Nat
  | 0 => r
  | i + 1 => swp (rvs r a b i) (a + i) (b - i)
def nxT (r : Nat → Nat) (nn : Nat) : Nat → Nat :=
  if pvt r (nn - 1) = 0 then r else rvs (swp r (pvt r (nn - 1) - 1) (ptn r (pvt r (nn - 1) - 1) (nn - 1))) (pvt r (nn - 1)) (nn - 1) ((nn - pvt r (nn - 1)) / 2)
theorem pvt_le (r : Nat → Nat) : ∀ c, pvt r c ≤ c
  | 0 => Nat.le_refl _
  | c + 1 => by
    have := pvt_le r c
    unfold pvt
    split <;> omega
theorem ptn_le (r : Nat → Nat) (P : Nat) : ∀ c, ptn r P c ≤ c
  | 0 => Nat.le_refl _
  | c + 1 => by
    have := ptn_le r P c
    unfold ptn
    split
    · exact Nat.le_refl _
    · split
      · exact Nat.le_refl _
      · omega
theorem ptn_gt (r : Nat → Nat) (P : Nat) : ∀ c, P + 1 ≤ c → P + 1 ≤ ptn r P c
  | c + 1, h => by
    unfold ptn
    split
    · exact h
    · split
      · exact h
      · exact ptn_gt r P c (by omega)
theorem swp_lo {r : Nat → Nat} {a b k : Nat} (h : k ≠ a) (h2 : k ≠ b) : swp r a b k = r k := by
  unfold swp va_up
  rw [if_neg h2, if_neg h]
theorem rvs_lo {r : Nat → Nat} {a b k : Nat} (h : k < a) : ∀ i, a + i ≤ b + 1 → 2 * i ≤ b + 1 - a → rvs r a b i k = r k
  | 0, _, _ => rfl
  | i + 1, h1, h2 => by
    unfold rvs
    rw [swp_lo (by omega) (by omega)]
    exact rvs_lo h i (by omega) (by omega)
theorem nxT_lo {r : Nat → Nat} {nn k : Nat} (h : k + 1 < pvt r (nn - 1)) : nxT r nn k = r k := by
  have h1 := pvt_le r (nn - 1)
  have h2 := ptn_gt r (pvt r (nn - 1) - 1) (nn - 1) (by omega)
  unfold nxT
  rw [if_neg (by omega), rvs_lo (by omega) _ (by omega) (by omega), swp_lo (by omega) (by omega)]
theorem swp_lt {r : Nat → Nat} {a b n N : Nat} (ha : a < n) (hb : b < n) (h : ∀ k, k < n → r k < N) : ∀ k, k < n → swp r a b k < N := by
  intro k hk
  unfold swp va_up
  split
  · exact h a ha
  · split
    · exact h b hb
    · exact h k hk
theorem rvs_lt {r : Nat → Nat} {a b n N : Nat} (hb : b < n) (h : ∀ k, k < n → r k < N) : ∀ i, a + i ≤ b + 1 → ∀ k, k < n → rvs r a b i k < N
  | 0, _ => h
  | i + 1, h1 => by
    unfold rvs
    exact swp_lt (by omega) (by omega) (rvs_lt hb h i (by omega))
theorem nxT_lt {r : Nat → Nat} {nn N : Nat} (h : ∀ k, k < nn → r k < N) : ∀ k, k < nn → nxT r nn k < N := by
  intro k hk
  have h1 := pvt_le r (nn - 1)
  have h2 := ptn_le r (pvt r (nn - 1) - 1) (nn - 1)
  unfold nxT
  split
  · exact h k hk
  · exact rvs_lt (by omega) (swp_lt (by omega) (by omega) h) _ (by omega) k hk
def sq (r : Nat → Nat) (nn : Nat) : Nat → Nat → Nat
  | 0 => r
  | i + 1 => nxT (sq r nn i) nn
theorem sq_lt {r : Nat → Nat} {nn N : Nat} (h : ∀ k, k < nn → r k < N) : ∀ i k, k < nn → sq r nn i k < N
  | 0 => h
  | i + 1 => nxT_lt (sq_lt h i)
/-- the first i numbers, then r -/
def idr (r : Nat → Nat) (i : Nat) : Nat → Nat := fun k => if k < i then k else r k
theorem idr_0 (r : Nat → Nat) : idr r 0 = r := by
  funext k
  unfold idr
  rw [if_neg (by omega)]
theorem idr_s {r : Nat → Nat} {i : Nat} : va_up (idr r i) i i = idr r (i + 1) := by
  funext k
  unfold va_up idr
  by_cases h : k = i
  · subst h
    rw [if_pos rfl, if_pos (by omega)]
  · rw [if_neg h]
    by_cases h2 : k < i
    · rw [if_pos h2, if_pos (by omega)]
    · rw [if_neg h2, if_neg (by omega)]
/-- the least of g 0 .. , how many have it, the first that has it -/
def bst (g : Nat → Int) : Nat → Int × Nat × Nat
  | 0 => (0, 0, 0)
  | i + 1 => if (bst g i).2.1 = 0 ∨ g i < (bst g i).1 then (g i, 1, i) else if g i = (bst g i).1 then ((bst g i).1, (bst g i).2.1 + 1, (bst g i).2.2) else bst g i
theorem bst_rg {g : Nat → Int} {K : Int} (hK : 0 ≤ K) (h : ∀ i, 0 ≤ g i ∧ g i ≤ K) : ∀ i, (0 ≤ (bst g i).1 ∧ (bst g i).1 ≤ K) ∧ (bst g i).2.1 ≤ i ∧ (0 < i → (bst g i).2.2 < i)
  | 0 => ⟨⟨Int.le_refl _, hK⟩, Nat.le_refl _, fun h => absurd h (Nat.lt_irrefl _)⟩
  | i + 1 => by
    have h1 := bst_rg hK h i
    have h2 := h i
    unfold bst
    split
    · exact ⟨h2, by simp, fun _ => by simp⟩
    · rename_i hn
      have hi : 0 < i := by
        rcases Nat.eq_zero_or_pos i with q | q
        · subst q
          exact absurd (Or.inl rfl) hn
        · exact q
      split
      · exact ⟨h1.1, by simp only; omega, fun _ => by have := h1.2.2 hi; simp only; omega⟩
      · exact ⟨h1.1, by omega, fun _ => by have := h1.2.2 hi; omega⟩
/-- the first place with the least -/
def amin (g : Nat → Int) : Nat → Nat
  | 0 => 0
  | i + 1 => if g (i + 1) < g (amin g i) then i + 1 else amin g i
theorem amin_le (g : Nat → Int) : ∀ i, amin g i ≤ i
  | 0 => Nat.le_refl _
  | i + 1 => by
    have := amin_le g i
    unfold amin
    split <;> omega
theorem shf_lt {f : Nat → Nat} {a b n N : Nat} (ha : a < n) (hb : b < n) (h : ∀ k, k < n → f k < N) : ∀ k, k < n → shf f a b k < N := by
  intro k hk
  unfold shf va_up sh2 sh1
  split
  · exact h a ha
  · split
    · split
      · exact h _ (by omega)
      · exact h _ (by omega)
    · split
      · exact h _ (by omega)
      · exact h _ (by omega)
theorem shf_cg {f g : Nat → Nat} {a b n : Nat} (ha : a < n) (hb : b < n) (h : ∀ k, k < n → f k = g k) : ∀ k, k < n → shf f a b k = shf g a b k := by
  intro k hk
  unfold shf va_up sh2 sh1
  split
  · exact h a ha
  · split
    · split
      · exact h _ (by omega)
      · exact h _ (by omega)
    · split
      · exact h _ (by omega)
      · exact h _ (by omega)
theorem cpy_in {f g : Nat → Nat} {n k : Nat} (h : k < n) : va_cpy f g 0 0 n k = f k := by
  unfold va_cpy
  rw [if_pos (by omega), show 0 + (k - 0) = k by omega]
theorem nx_pos (f : Nat → Nat) (a b k : Nat) : shf f a b k = if k = b then f a else if a ≤ k ∧ k < b then f (k + 1) else if b < k ∧ k ≤ a then f (k - 1) else f k := by
  unfold shf va_up sh2 sh1
  by_cases h : k = b
  · rw [if_pos h, if_pos h]
  · rw [if_neg h, if_neg h]
    by_cases h1 : a ≤ k ∧ k < b
    · rw [if_pos h1]
      by_cases h2 : a < k + (a - b) ∧ k ≤ a
      · omega
      · rw [if_neg h2, if_pos (by omega)]
    · rw [if_neg h1]
      by_cases h2 : b < k ∧ k ≤ a
      · rw [if_pos h2, if_pos (by omega)]
        rw [if_neg (by omega)]
      · rw [if_neg h2, if_neg (by omega), if_neg (by omega)]
def mkS (t : Nat → Int) (mm : Nat) (o : Nat → Nat) (a c : Nat) (q : Nat) : Int := mk 0 mm t (shf o a q) c
theorem mkS_rg {t : Nat → Int} {mm : Nat} {o : Nat → Nat} {a c : Nat} (hm : 1 ≤ mm ∧ mm ≤ 5) (ht : ∀ k, 0 ≤ t k ∧ t k ≤ 99) (hc : c ≤ 7) : ∀ q, 0 ≤ mkS t mm o a c q ∧ mkS t mm o a c q ≤ 3465 := fun q => mk_rg hm.1 hm.2 ht hc
theorem gb_t {b : Bool} (h : b = true) : iI 1 = iI (if b = true then 1 else 0) := by rw [if_pos h]
theorem gb_f {b : Bool} (h : b = false) : iI 0 = iI (if b = true then 1 else 0) := by rw [h]; rfl
end
section
/-! rows for the search -/
def zfl (f : Nat → Int) (i : Nat) : Nat → Int := fun k => if k < i then 0 else f k
theorem zfl_0 (f : Nat → Int) : zfl f 0 = f := by
  funext k
  unfold zfl
  rw [if_neg (by omega)]
theorem zfl_s {f : Nat → Int} {i : Nat} : va_up (zfl f i) i 0 = zfl f (i + 1) := by
  funext k
  unfold va_up zfl
  by_cases h : k = i
  · subst h
    rw [if_pos rfl, if_pos (by omega)]
  · rw [if_neg h]
    by_cases h2 : k < i
    · rw [if_pos h2, if_pos (by omega)]
    · rw [if_neg h2, if_neg (by omega)]
theorem pvt_y {r : Nat → Nat} {c : Nat} (h0 : 0 < c) (h : r (c - 1) ≤ r c) : pvt r c = c := by
  obtain ⟨q, rfl⟩ : ∃ q, c = q + 1 := ⟨c - 1, by omega⟩
  rw [Nat.add_sub_cancel] at h
  rw [pvt, if_pos h]
theorem pvt_n {r : Nat → Nat} {c : Nat} (h0 : 0 < c) (h : r c < r (c - 1)) : pvt r c = pvt r (c - 1) := by
  obtain ⟨q, rfl⟩ : ∃ q, c = q + 1 := ⟨c - 1, by omega⟩
  rw [Nat.add_sub_cancel] at h ⊢
  rw [pvt, if_neg (by omega)]
theorem ptn_y1 {r : Nat → Nat} {P c : Nat} (h : c ≤ P + 1) : ptn r P c = c := by
  cases c with
  | zero => rfl
  | succ c => rw [ptn, if_pos h]
theorem ptn_y2 {r : Nat → Nat} {P c : Nat} (h : r P ≤ r c) : ptn r P c = c := by
  cases c with
  | zero => rfl
  | succ c =>
    rw [ptn]
    by_cases h2 : c + 1 ≤ P + 1
    · rw [if_pos h2]
    · rw [if_neg h2, if_pos h]
theorem ptn_n {r : Nat → Nat} {P c : Nat} (h1 : P + 1 < c) (h : r c < r P) : ptn r P c = ptn r P (c - 1) := by
  obtain ⟨q, rfl⟩ : ∃ q, c = q + 1 := ⟨c - 1, by omega⟩
  rw [Nat.add_sub_cancel, ptn, if_neg (by omega), if_neg (by omega)]
/-- makespans of the orders one behind another -/
def gsq (v mm : Nat) (t : Nat → Int) (r : Nat → Nat) (nn i : Nat) : Int := mk v mm t (sq r nn i) nn
theorem gsq_rg {v mm : Nat} {t : Nat → Int} {r : Nat → Nat} {nn : Nat} (hm : 1 ≤ mm ∧ mm ≤ 5) (ht : ∀ k, 0 ≤ t k ∧ t k ≤ 99) (hn : nn ≤ 7) : ∀ i, 0 ≤ gsq v mm t r nn i ∧ gsq v mm t r nn i ≤ 3465 := fun i => mk_rg hm.1 hm.2 ht hn
/-- what is kept of the first y orders -/
def BS (v nn : Nat) (zM zN : Nat → Int) (oJ r : Nat → Nat) (g : Nat → Int) (y : Nat) (M N : Nat → Int) (J : Nat → Nat) : Prop :=
  (∀ x, x ≠ v → M x = zM x) ∧ (∀ x, x ≠ v → N x = zN x) ∧ (0 < y → M v = (bst g y).1) ∧ N v = ((bst g y).2.1 : Int) ∧ (0 < y → ∀ k, k < nn → J (7 * v + k) = sq r nn (bst g y).2.2 k) ∧ ∀ k, (k < 7 * v ∨ 7 * v + nn ≤ k) → J k = oJ k
theorem BS_0 {v nn : Nat} {zM zN : Nat → Int} {oJ r : Nat → Nat} {g : Nat → Int} : BS v nn zM zN oJ r g 0 zM (va_up zN v 0) oJ :=
  ⟨fun _ _ => rfl, fun x hx => if_neg hx, fun h => absurd h (Nat.lt_irrefl _), if_pos rfl, fun h => absurd h (Nat.lt_irrefl _), fun _ _ => rfl⟩
theorem bst_pos {g : Nat → Int} : ∀ {i : Nat}, 0 < i → 0 < (bst g i).2.1
  | i + 1, _ => by
    unfold bst
    split
    · exact Nat.one_pos
    · rename_i h
      split
      · exact Nat.succ_pos _
      · exact Nat.pos_of_ne_zero (fun q => h (Or.inl q))
theorem BS_A {v nn : Nat} {zM zN : Nat → Int} {oJ r : Nat → Nat} {g : Nat → Int} {y : Nat} {M N : Nat → Int} {J : Nat → Nat} (h : BS v nn zM zN oJ r g y M N J) (hC : N v = 0 ∨ g y < M v) : BS v nn zM zN oJ r g (y + 1) (va_up M v (g y)) (va_up (va_up N v 0) v 1) (va_cpy (sq r nn y) J 0 (7 * v) nn) := by
  obtain ⟨h1, h2, h3, h4, h5, h6⟩ := h
  have hC2 : (bst g y).2.1 = 0 ∨ g y < (bst g y).1 := by
    rcases Nat.eq_zero_or_pos y with q | q
    · subst q
      exact Or.inl rfl
    · have := h3 q
      rcases hC with c | c
      · exact Or.inl (by omega)
      · exact Or.inr (by omega)
  have e : bst g (y + 1) = (g y, 1, y) := by rw [bst, if_pos hC2]
  refine ⟨fun x hx => ?_, fun x hx => ?_, fun _ => ?_, ?_, fun _ k hk => ?_, fun k hk => ?_⟩
  · exact (if_neg hx).trans (h1 x hx)
  · exact (if_neg hx).trans ((if_neg hx).trans (h2 x hx))
  · rw [e]
    exact if_pos rfl
  · rw [e]
    exact if_pos rfl
  · rw [e]
    unfold va_cpy
    rw [if_pos (by omega), show 0 + (7 * v + k - 7 * v) = k by omega]
  · unfold va_cpy
    rw [if_neg (by omega)]
    exact h6 k hk
theorem BS_B {v nn : Nat} {zM zN : Nat → Int} {oJ r : Nat → Nat} {g : Nat → Int} {y : Nat} {M N : Nat → Int} {J : Nat → Nat} (h : BS v nn zM zN oJ r g y M N J) (hC : ¬ (N v = 0 ∨ g y < M v)) : BS v nn zM zN oJ r g (y + 1) M (if g y = M v then va_up N v (N v + 1) else N) J := by
  obtain ⟨h1, h2, h3, h4, h5, h6⟩ := h
  have hy : 0 < y := by
    rcases Nat.eq_zero_or_pos y with q | q
    · subst q
      exact absurd (Or.inl h4) hC
    · exact q
  have h3' := h3 hy
  have hC2 : ¬ ((bst g y).2.1 = 0 ∨ g y < (bst g y).1) := fun q => hC (q.elim (fun a => Or.inl (by omega)) (fun a => Or.inr (by omega)))
  by_cases hq : g y = M v
  · have e : bst g (y + 1) = ((bst g y).1, (bst g y).2.1 + 1, (bst g y).2.2) := by rw [bst, if_neg hC2, if_pos (by omega)]
    rw [if_pos hq]
    refine ⟨h1, fun x hx => (if_neg hx).trans (h2 x hx), fun _ => by rw [e]; exact h3', ?_, fun _ k hk => by rw [e]; exact h5 hy k hk, h6⟩
    rw [e]
    refine (if_pos rfl).trans ?_
    simp only
    omega
  · have e : bst g (y + 1) = bst g y := by rw [bst, if_neg hC2, if_neg (by omega)]
    rw [if_neg hq]
    exact ⟨h1, h2, fun _ => by rw [e]; exact h3', by rw [e]; exact h4, fun _ k hk => by rw [e]; exact h5 hy k hk, h6⟩
end
section
/-! rows for the calls of the face -/
def tzr (t : Nat → Int) (w i c : Nat) : Nat → Int := fun x => if w ≤ x % 5 ∧ (x / 5 < i ∨ (x / 5 = i ∧ x % 5 < w + c)) then 0 else t x
theorem tzr_0 (t : Nat → Int) (w : Nat) : tzr t w 0 0 = t := by
  funext x
  unfold tzr
  rw [if_neg (by omega)]
theorem tzr_s {t : Nat → Int} {w i c : Nat} (h : w + c < 5) : va_up (tzr t w i c) (5 * i + (w + c)) 0 = tzr t w i (c + 1) := by
  funext x
  unfold va_up tzr
  by_cases h1 : x = 5 * i + (w + c)
  · subst h1
    rw [if_pos rfl, if_pos (by omega)]
  · rw [if_neg h1]
    by_cases h2 : w ≤ x % 5 ∧ (x / 5 < i ∨ (x / 5 = i ∧ x % 5 < w + c))
    · rw [if_pos h2, if_pos (by omega)]
    · rw [if_neg h2, if_neg (by omega)]
theorem tzr_n {t : Nat → Int} {w i : Nat} (h : w ≤ 5) : tzr t w i (5 - w) = tzr t w (i + 1) 0 := by
  funext x
  unfold tzr
  by_cases h2 : w ≤ x % 5 ∧ (x / 5 < i ∨ (x / 5 = i ∧ x % 5 < w + (5 - w)))
  · rw [if_pos h2, if_pos (by omega)]
  · rw [if_neg h2, if_neg (by omega)]
/-- the order by insertion, out of a queue -/
def ini (t : Nat → Int) (mm : Nat) (o q : Nat → Nat) : Nat → Nat → Nat
  | 0 => o
  | i + 1 => shf (va_up (ini t mm o q i) i (q i)) i (amin (mkS t mm (va_up (ini t mm o q i) i (q i)) i (i + 1)) i)
theorem up_lt {f : Nat → Nat} {a x n N : Nat} (hx : x < N) (h : ∀ k, k < n → f k < N) : ∀ k, k < n → va_up f a x k < N := by
  intro k hk
  unfold va_up
  split
  · exact hx
  · exact h k hk
theorem ini_lt {t : Nat → Int} {mm n N : Nat} {o q : Nat → Nat} (ho : ∀ k, k < n → o k < N) (hq : ∀ k, k < n → q k < N) : ∀ i, i ≤ n → ∀ k, k < n → ini t mm o q i k < N
  | 0, _ => ho
  | i + 1, hi => by
    have h := amin_le (mkS t mm (va_up (ini t mm o q i) i (q i)) i (i + 1)) i
    exact shf_lt (by omega) (by omega) (up_lt (hq i (by omega)) (ini_lt ho hq i (by omega)))
/-- the best move: over places from, to -/
def stp (f : Nat → Nat → Int) (a b : Nat) (s : Int × Nat × Nat) : Int × Nat × Nat := if f a b < s.1 then (f a b, a, b) else s
def inr (f : Nat → Nat → Int) (a : Nat) (s : Int × Nat × Nat) : Nat → Int × Nat × Nat
  | 0 => s
  | j + 1 => stp f a j (inr f a s j)
def otr (f : Nat → Nat → Int) (n : Nat) (s : Int × Nat × Nat) : Nat → Int × Nat × Nat
  | 0 => s
  | i + 1 => inr f i (otr f n s i) n
def okS (n : Nat) (L K : Int) (s : Int × Nat × Nat) : Prop := (0 ≤ s.1 ∧ s.1 ≤ K) ∧ (s.1 < L → s.2.1 < n ∧ s.2.2 < n) ∧ s.2.1 ≤ n ∧ s.2.2 ≤ n
theorem stp_ok {f : Nat → Nat → Int} {n a b : Nat} {L K : Int} {s : Int × Nat × Nat} (hf : ∀ a b, 0 ≤ f a b ∧ f a b ≤ K) (ha : a < n) (hb : b < n) (h : okS n L K s) : okS n L K (stp f a b s) := by
  unfold stp
  split
  · exact ⟨hf a b, fun _ => ⟨ha, hb⟩, Nat.le_of_lt ha, Nat.le_of_lt hb⟩
  · exact h
theorem inr_ok {f : Nat → Nat → Int} {n a : Nat} {L K : Int} {s : Int × Nat × Nat} (hf : ∀ a b, 0 ≤ f a b ∧ f a b ≤ K) (ha : a < n) (h : okS n L K s) : ∀ j, j ≤ n → okS n L K (inr f a s j)
  | 0, _ => h
  | j + 1, hj => stp_ok hf ha (by omega) (inr_ok hf ha h j (by omega))
theorem otr_ok {f : Nat → Nat → Int} {n : Nat} {L K : Int} {s : Int × Nat × Nat} (hf : ∀ a b, 0 ≤ f a b ∧ f a b ≤ K) (h : okS n L K s) : ∀ i, i ≤ n → okS n L K (otr f n s i)
  | 0, _ => h
  | i + 1, hi => inr_ok hf (by omega) (otr_ok hf h i (by omega)) n (Nat.le_refl _)
def imF (t : Nat → Int) (mm : Nat) (o : Nat → Nat) (nn : Nat) (a b : Nat) : Int := mkS t mm o a nn b
def im0 (t : Nat → Int) (mm : Nat) (o : Nat → Nat) (nn : Nat) : Int × Nat × Nat := (mk 0 mm t o nn, 0, 0)
def imS (t : Nat → Int) (mm : Nat) (o : Nat → Nat) (nn i : Nat) : Int × Nat × Nat := otr (imF t mm o nn) nn (im0 t mm o nn) i
def imT (t : Nat → Int) (mm : Nat) (o : Nat → Nat) (nn i j : Nat) : Int × Nat × Nat := inr (imF t mm o nn) i (imS t mm o nn i) j
theorem imF_rg {t : Nat → Int} {mm : Nat} {o : Nat → Nat} {nn : Nat} (hm : 1 ≤ mm ∧ mm ≤ 5) (ht : ∀ k, 0 ≤ t k ∧ t k ≤ 99) (hn : nn ≤ 7) : ∀ a b, 0 ≤ imF t mm o nn a b ∧ imF t mm o nn a b ≤ 3465 := fun a b => mkS_rg hm ht hn b
theorem im0_ok {t : Nat → Int} {mm : Nat} {o : Nat → Nat} {nn : Nat} (hm : 1 ≤ mm ∧ mm ≤ 5) (ht : ∀ k, 0 ≤ t k ∧ t k ≤ 99) (hn : nn ≤ 7) : okS nn (mk 0 mm t o nn) 3465 (im0 t mm o nn) :=
  ⟨mk_rg hm.1 hm.2 ht hn, fun h => absurd h (Int.lt_irrefl _), Nat.zero_le _, Nat.zero_le _⟩
theorem imS_ok {t : Nat → Int} {mm : Nat} {o : Nat → Nat} {nn : Nat} (hm : 1 ≤ mm ∧ mm ≤ 5) (ht : ∀ k, 0 ≤ t k ∧ t k ≤ 99) (hn : nn ≤ 7) {i : Nat} (hi : i ≤ nn) : okS nn (mk 0 mm t o nn) 3465 (imS t mm o nn i) := otr_ok (imF_rg hm ht hn) (im0_ok hm ht hn) i hi
theorem imT_ok {t : Nat → Int} {mm : Nat} {o : Nat → Nat} {nn : Nat} (hm : 1 ≤ mm ∧ mm ≤ 5) (ht : ∀ k, 0 ≤ t k ∧ t k ≤ 99) (hn : nn ≤ 7) {i j : Nat} (hi : i < nn) (hj : j ≤ nn) : okS nn (mk 0 mm t o nn) 3465 (imT t mm o nn i j) := inr_ok (imF_rg hm ht hn) hi (imS_ok hm ht hn (by omega)) j hj
theorem imT_y {t : Nat → Int} {mm : Nat} {o : Nat → Nat} {nn i j : Nat} (h : mkS t mm o i nn j < (imT t mm o nn i j).1) : imT t mm o nn i (j + 1) = (mkS t mm o i nn j, i, j) := if_pos h
theorem imT_n {t : Nat → Int} {mm : Nat} {o : Nat → Nat} {nn i j : Nat} (h : ¬ mkS t mm o i nn j < (imT t mm o nn i j).1) : imT t mm o nn i (j + 1) = imT t mm o nn i j := if_neg h
/-- sums of ends -/
def toC (t : Nat → Int) (mm : Nat) (o : Nat → Nat) : Nat → Int
  | 0 => 0
  | i + 1 => toC t mm o i + mk 0 mm t o (i + 1)
theorem toC_rg {t : Nat → Int} {mm : Nat} {o : Nat → Nat} (hm : 1 ≤ mm ∧ mm ≤ 5) (ht : ∀ k, 0 ≤ t k ∧ t k ≤ 99) : ∀ c, c ≤ 7 → 0 ≤ toC t mm o c ∧ toC t mm o c ≤ 3465 * c
  | 0, _ => ⟨Int.le_refl _, Int.le_refl _⟩
  | c + 1, h => by
    have := toC_rg (o := o) hm ht c (by omega)
    have := mk_rg (v := 0) (o := o) hm.1 hm.2 ht h
    unfold toC
    constructor <;> omega
/-- how many orders there are -/
def fac : Nat → Nat
  | 0 => 1
  | n + 1 => (n + 1) * fac n
theorem fac_le {nn : Nat} (h : nn ≤ 7) : 1 ≤ fac nn ∧ fac nn ≤ 5040 := by
  rcases (show nn = 0 ∨ nn = 1 ∨ nn = 2 ∨ nn = 3 ∨ nn = 4 ∨ nn = 5 ∨ nn = 6 ∨ nn = 7 by omega) with rfl | rfl | rfl | rfl | rfl | rfl | rfl | rfl <;> decide
def nId : Nat → Nat := fun k => k
/-- the orders from the first one on end at the last of fac nn -/
def Enu (nn : Nat) : Prop := (∀ i, i + 1 < fac nn → 1 ≤ pvt (sq nId nn i) (nn - 1)) ∧ pvt (sq nId nn (fac nn - 1)) (nn - 1) = 0
theorem pvt_cg {r r' : Nat → Nat} : ∀ {c : Nat}, (∀ k, k ≤ c → r k = r' k) → pvt r c = pvt r' c
  | 0, _ => rfl
  | c + 1, h => by
    unfold pvt
    rw [h c (by omega), h (c + 1) (by omega), pvt_cg (fun k hk => h k (by omega))]
theorem ptn_cg {r r' : Nat → Nat} {P : Nat} : ∀ {c : Nat}, r P = r' P → (∀ k, k ≤ c → r k = r' k) → ptn r P c = ptn r' P c
  | 0, _, _ => rfl
  | c + 1, h0, h => by
    unfold ptn
    rw [h0, h (c + 1) (by omega), ptn_cg h0 (fun k hk => h k (by omega))]
theorem swp_cg {r r' : Nat → Nat} {a b n : Nat} (ha : a < n) (hb : b < n) (h : ∀ k, k < n → r k = r' k) : ∀ k, k < n → swp r a b k = swp r' a b k := by
  intro k hk
  unfold swp va_up
  rw [h a ha, h b hb, h k hk]
theorem rvs_cg {r r' : Nat → Nat} {a b n : Nat} (hb : b < n) (h : ∀ k, k < n → r k = r' k) : ∀ i, a + i ≤ b + 1 → ∀ k, k < n → rvs r a b i k = rvs r' a b i k
  | 0, _ => h
  | i + 1, h1 => by
    unfold rvs
    exact swp_cg (by omega) (by omega) (rvs_cg hb h i (by omega))
theorem nxT_cg {r r' : Nat → Nat} {nn : Nat} (h : ∀ k, k < nn → r k = r' k) : ∀ k, k < nn → nxT r nn k = nxT r' nn k := by
  intro k hk
  have h1 := pvt_le r' (nn - 1)
  have e1 : pvt r (nn - 1) = pvt r' (nn - 1) := pvt_cg (fun k hk => h k (by omega))
  unfold nxT
  rw [e1]
  split
  · exact h k hk
  · have h2 := ptn_le r' (pvt r' (nn - 1) - 1) (nn - 1)
    rw [ptn_cg (h _ (by omega)) (fun k hk => h k (by omega))]
    exact rvs_cg (by omega) (swp_cg (by omega) (by omega) h) _ (by omega) k hk
theorem sq_cg {r r' : Nat → Nat} {nn : Nat} (h : ∀ k, k < nn → r k = r' k) : ∀ i k, k < nn → sq r nn i k = sq r' nn i k
  | 0 => h
  | i + 1 => nxT_cg (sq_cg h i)
theorem sq_pvt {r : Nat → Nat} {nn i : Nat} (h : ∀ k, k < nn → r k = nId k) : pvt (sq r nn i) (nn - 1) = pvt (sq nId nn i) (nn - 1) := by
  cases nn with
  | zero => rfl
  | succ n => exact pvt_cg (fun k hk => sq_cg h i k (by omega))
theorem idr_id {r : Nat → Nat} {nn : Nat} : ∀ k, k < nn → idr r nn k = nId k := fun k hk => if_pos hk
theorem gsq_cg {v mm : Nat} {t : Nat → Int} {r r' : Nat → Nat} {nn : Nat} (h : ∀ k, k < nn → r k = r' k) : gsq v mm t r nn = gsq v mm t r' nn := by
  funext i
  exact mk_cg (sq_cg h i)
/-- what the search finds: the least, how many, which is the first -/
def sol (v mm : Nat) (t : Nat → Int) (nn : Nat) : Int × Nat × Nat := bst (gsq v mm t nId nn) (fac nn)
def solJ (v mm : Nat) (t : Nat → Int) (nn : Nat) : Nat → Nat := sq nId nn (sol v mm t nn).2.2
/-- what is kept of a variant holds -/
def CV (v mm : Nat) (t : Nat → Int) (nn : Nat) (M N : Nat → Int) (J : Nat → Nat) : Prop := M v = (sol v mm t nn).1 ∧ N v = ((sol v mm t nn).2.1 : Int) ∧ ∀ k, k < nn → J (7 * v + k) = solJ v mm t nn k
def CK (mm : Nat) (t : Nat → Int) (nn : Nat) (S M N : Nat → Int) (J : Nat → Nat) : Prop := ∀ v, v ≤ 2 → S v = 0 ∨ (S v = 1 ∧ CV v mm t nn M N J)
theorem sol_rg {v mm : Nat} {t : Nat → Int} {nn : Nat} (hm : 1 ≤ mm ∧ mm ≤ 5) (ht : ∀ k, 0 ≤ t k ∧ t k ≤ 99) (hn : nn ≤ 7) : (0 ≤ (sol v mm t nn).1 ∧ (sol v mm t nn).1 ≤ 3465) ∧ 1 ≤ (sol v mm t nn).2.1 ∧ (sol v mm t nn).2.1 ≤ 5040 := by
  have h := bst_rg (g := gsq v mm t nId nn) (K := 3465) (by omega) (gsq_rg hm ht hn) (fac nn)
  have h2 := fac_le hn
  have h3 : 0 < (sol v mm t nn).2.1 := bst_pos h2.1
  unfold sol at h3 ⊢
  omega
theorem CK_0 {mm : Nat} {t : Nat → Int} {nn : Nat} {S M N : Nat → Int} {J : Nat → Nat} : CK mm t nn (zfl S 3) M N J := fun v hv => Or.inl (if_pos (by omega))
/-- behind the search of a variant -/
theorem CK_s {v mm : Nat} {t : Nat → Int} {nn : Nat} {S M N M2 N2 : Nat → Int} {J J2 r : Nat → Nat} (hn : nn ≤ 7) (hv : v ≤ 2) (hr : ∀ k, k < nn → r k = nId k) (h : CK mm t nn S M N J) (hB : BS v nn M N J r (gsq v mm t r nn) (fac nn) M2 N2 J2) : CK mm t nn (va_up S v 1) M2 N2 J2 ∧ CV v mm t nn M2 N2 J2 := by
  have hf := (fac_le hn).1
  obtain ⟨h1, h2, h3, h4, h5, h6⟩ := hB
  rw [gsq_cg hr] at h3 h4 h5
  have hc : CV v mm t nn M2 N2 J2 := ⟨h3 hf, h4, fun k hk => (h5 hf k hk).trans (sq_cg hr _ k hk)⟩
  refine ⟨fun w hw => ?_, hc⟩
  by_cases hwv : w = v
  · subst hwv
    exact Or.inr ⟨if_pos rfl, hc⟩
  · rcases h w hw with q | ⟨q1, q2, q3, q4⟩
    · exact Or.inl ((if_neg hwv).trans q)
    · refine Or.inr ⟨(if_neg hwv).trans q1, (h1 w hwv).trans q2, (h2 w hwv).trans q3, fun k hk => (h6 _ ?_).trans (q4 k hk)⟩
      omega
theorem tj_rg {t : Nat → Int} (h : ∀ k, 0 ≤ t k ∧ t k ≤ 99) (j : Nat) : ∀ k, 0 ≤ tj t j k ∧ tj t j k ≤ 99 := fun k => h (5 * j + k)
theorem bqs_y {t : Nat → Int} {mm i x : Nat} (h : smR t x 0 mm < smR t i 0 mm) : bqs t mm i x = true := if_pos h
theorem bqs_n {t : Nat → Int} {mm i x : Nat} (h : smR t i 0 mm ≤ smR t x 0 mm) : ¬ bqs t mm i x = true := by
  unfold bqs
  rw [if_neg (by omega)]
  decide
end
section
section
variable {l : Launch} {D : va_G} {cI cZ cJ : ClassId} {ad bd : Nat → Nat} {a0 : Nat} {ws : va_W} {nn mm : Nat} {th bm : Int} {tT tB tE tL : Nat → Int} {oO oR oQ : Nat → Nat} {zS zM zN : Nat → Int} {oJ fF : Nat → Nat}
set_option maxHeartbeats 4000000 in
set_option maxRecDepth 100000 in
theorem mX0_cell {r k : Int} : PM l yX0_cell wsX0_cell (rmx 0 0) D (tyk cI cZ cJ) (ws) [.int (iI (r)), .int (iI (k))] (vp_Si (fun x => x = iI (5 * r + k))) := by
  refine pmI_of (cc := cX0_cell) (maxL := 2) (by decide) rfl (Nat.le_of_ble_eq_true rfl) ?_
  intro p e s m args below meth c Q hx hb hml hown hts hK hP hret ls hl
  have hown : s.vm.findClass RX0 = some m.cls := hown
  have hl : lv_has ls 2 [(0, .int (iI (r))), (1, .int (iI (k)))] := hl
  refine lv_iload_n hx hb dX0_cell_0 rfl (lv_at hl 0 rfl) ?_
  refine lv_iconst (v := iI 5) hx hb dX0_cell_1 rfl ?_
  refine w_imul (z := 5 * r) hx hb dX0_cell_2 (by omega) ?_
  refine lv_iload_n hx hb dX0_cell_3 rfl (lv_at hl 1 rfl) ?_
  refine w_iadd (z := 5 * r + k) hx hb dX0_cell_4 (by omega) ?_
  exact hret 5 ls _ (rfl) dX0_cell_5
set_option maxHeartbeats 4000000 in
set_option maxRecDepth 100000 in
theorem mX0_timeOf {j k : Nat} (hj : j < 7) (hk : k < 5) : PM l yX0_timeOf wsX0_timeOf (rmx 1 21) D (tyk cI cZ cJ) (xw ad cI cZ nn mm tT tB tE tL oO oR oQ zS zM zN oJ) [.ref (ad 0), .int (iI ((j : Int))), .int (iI ((k : Int)))] (vp_Si (fun x => x = iI (tT (5 * j + k)))) := by
  refine pmI_of (cc := cX0_timeOf) (maxL := 3) (by decide) rfl (Nat.le_of_ble_eq_true rfl) ?_
  intro p e s m args below meth c Q hx hb hml hown hts hK hP hret ls hl
  have hown : s.vm.findClass RX0 = some m.cls := hown
  have hl : lv_has ls 3 [(0, .ref (ad 0)), (1, .int (iI ((j : Int)))), (2, .int (iI ((k : Int))))] := hl
  have inW : ∀ w ∈ wsX00, w ∈ wsX0_timeOf := by first | exact (fun w h => List.mem_cons_of_mem _ (List.mem_append_right _ h)) | exact (fun w h => List.mem_cons_of_mem _ (List.mem_append_left _ (List.mem_append_right _ h))) | exact (fun w h => List.mem_cons_of_mem _ (List.mem_append_left _ (List.mem_append_left _ (List.mem_append_right _ h)))) | decide +kernel
  refine lv_iload_n hx hb dX0_timeOf_0 rfl (lv_at hl 1 rfl) ?_
  refine w_if_lt (tgt := 19) hx hb dX0_timeOf_1 (by decide) ⟨by omega, by omega⟩ (fun c1 => absurd c1 (by omega)) (fun c1 => ?_)
  refine lv_iload_n hx hb dX0_timeOf_4 rfl (lv_at hl 1 rfl) ?_
  refine lv_bipush (v := iI 7) hx hb dX0_timeOf_5 (by decide) ?_
  refine w_icmp_ge (tgt := 19) hx hb dX0_timeOf_7 (by decide) ⟨by omega, by omega⟩ ⟨by omega, by omega⟩ (fun c7 => absurd c7 (by omega)) (fun c7 => ?_)
  refine lv_iload_n hx hb dX0_timeOf_10 rfl (lv_at hl 2 rfl) ?_
  refine w_if_lt (tgt := 19) hx hb dX0_timeOf_11 (by decide) ⟨by omega, by omega⟩ (fun c11 => absurd c11 (by omega)) (fun c11 => ?_)
  refine lv_iload_n hx hb dX0_timeOf_14 rfl (lv_at hl 2 rfl) ?_
  refine lv_iconst (v := iI 5) hx hb dX0_timeOf_15 rfl ?_
  refine w_icmp_lt (tgt := 21) hx hb dX0_timeOf_16 (by decide) ⟨by omega, by omega⟩ ⟨by omega, by omega⟩ (fun c16 => ?_) (fun c16 => absurd c16 (by omega))
  refine lv_aload_n hx hb dX0_timeOf_21 rfl (lv_at hl 0 rfl) ?_
  refine va_get (D := D) (ci := 0) (C := RX0) (T := TX0) (N := 13) hx hb hts inW hown hK hP 0 rfl rfl 2 (by decide) (hts (.fieldLink RX0 16 "Flowforge" "times" "[I") (List.mem_of_getElem? (i := 1) rfl)) (fun _ h9 => h9) rfl dX0_timeOf_22 ?_
  refine lv_iload_n hx hb dX0_timeOf_25 rfl (lv_at hl 1 rfl) ?_
  refine lv_iload_n hx hb dX0_timeOf_26 rfl (lv_at hl 2 rfl) ?_
  refine w_pS (As := [.int (iI ((j : Int))), .int (iI ((k : Int)))]) (rest := [.ref (ad 1)]) ⟨hx, hb, hml, hown, hts⟩ hK hP (mX0_cell  ) (va_cwS 2 hts gX0_timeOf_X0_cell rfl rfl rfl (by decide +kernel) ⟨Nat.le_of_ble_eq_true rfl, Nat.le_of_ble_eq_true rfl⟩) rfl hl.1 rfl (Nat.le_of_ble_eq_true rfl) dX0_timeOf_27 ⟨Nat.zero_le _, Nat.zero_le _⟩ (fun r27 hr27 => ?_)
  refine w_top (v := iI (5 * (j : Int) + (k : Int))) (hr27.trans (congrArg iI (by omega))) ?_
  refine w_iald (v := iI (tT (5 * j + k))) hx hb hK hP 1 0 rfl rfl (5 * j + k) (by omega) (by omega) (by decide) rfl dX0_timeOf_30 ?_
  exact hret 31 ls _ (rfl) dX0_timeOf_31
set_option maxHeartbeats 4000000 in
set_option maxRecDepth 100000 in
theorem mX0_requireJob {x : Int} (hn : nn ≤ 7) (hm : mm ≤ 5) (h0 : 0 ≤ x) (h1 : x < (nn : Int)) : PM l yX0_requireJob wsX0_requireJob (rmx 0 0) D (tyk cI cZ cJ) (xw ad cI cZ nn mm tT tB tE tL oO oR oQ zS zM zN oJ) [.ref (ad 0), .int (iI (x))] (va_Sv (fun _ => True)) := by
  refine pmV_of (cc := cX0_requireJob) (maxL := 2) (by decide) rfl (Nat.le_of_ble_eq_true rfl) ?_
  intro p e s m args below meth c Q hx hb hml hown hts hK hP hret ls hl
  have hown : s.vm.findClass RX0 = some m.cls := hown
  have hl : lv_has ls 2 [(0, .ref (ad 0)), (1, .int (iI (x)))] := hl
  have inW : ∀ w ∈ wsX00, w ∈ wsX0_requireJob := by first | exact (fun w h => List.mem_cons_of_mem _ (List.mem_append_right _ h)) | exact (fun w h => List.mem_cons_of_mem _ (List.mem_append_left _ (List.mem_append_right _ h))) | exact (fun w h => List.mem_cons_of_mem _ (List.mem_append_left _ (List.mem_append_left _ (List.mem_append_right _ h)))) | decide +kernel
  refine lv_iload_n hx hb dX0_requireJob_0 rfl (lv_at hl 1 rfl) ?_
  refine w_if_lt (tgt := 12) hx hb dX0_requireJob_1 (by decide) ⟨by omega, by omega⟩ (fun c1 => absurd c1 (by omega)) (fun c1 => ?_)
  refine lv_iload_n hx hb dX0_requireJob_4 rfl (lv_at hl 1 rfl) ?_
  refine lv_aload_n hx hb dX0_requireJob_5 rfl (lv_at hl 0 rfl) ?_
  refine va_get (D := D) (ci := 0) (C := RX0) (T := TX0) (N := 13) hx hb hts inW hown hK hP 0 rfl rfl 0 (by decide) (hts (.fieldLink RX0 7 "Flowforge" "jobCount" "I") (List.mem_of_getElem? (i := 3) rfl)) (fun _ h9 => h9) rfl dX0_requireJob_6 ?_
  refine w_icmp_lt (tgt := 22) hx hb dX0_requireJob_9 (by decide) ⟨by omega, by omega⟩ ⟨by omega, by omega⟩ (fun c9 => ?_) (fun c9 => absurd c9 (by omega))
  exact hret 22 ls (trivial) dX0_requireJob_22
set_option maxHeartbeats 4000000 in
set_option maxRecDepth 100000 in
theorem mX0_requirePlace {x : Int} (hn : nn ≤ 7) (hm : mm ≤ 5) (h0 : 0 ≤ x) (h1 : x < (nn : Int)) : PM l yX0_requirePlace wsX0_requirePlace (rmx 0 0) D (tyk cI cZ cJ) (xw ad cI cZ nn mm tT tB tE tL oO oR oQ zS zM zN oJ) [.ref (ad 0), .int (iI (x))] (va_Sv (fun _ => True)) := by
  refine pmV_of (cc := cX0_requirePlace) (maxL := 2) (by decide) rfl (Nat.le_of_ble_eq_true rfl) ?_
  intro p e s m args below meth c Q hx hb hml hown hts hK hP hret ls hl
  have hown : s.vm.findClass RX0 = some m.cls := hown
  have hl : lv_has ls 2 [(0, .ref (ad 0)), (1, .int (iI (x)))] := hl
  have inW : ∀ w ∈ wsX00, w ∈ wsX0_requirePlace := by first | exact (fun w h => List.mem_cons_of_mem _ (List.mem_append_right _ h)) | exact (fun w h => List.mem_cons_of_mem _ (List.mem_append_left _ (List.mem_append_right _ h))) | exact (fun w h => List.mem_cons_of_mem _ (List.mem_append_left _ (List.mem_append_left _ (List.mem_append_right _ h)))) | decide +kernel
  refine lv_iload_n hx hb dX0_requirePlace_0 rfl (lv_at hl 1 rfl) ?_
  refine w_if_lt (tgt := 12) hx hb dX0_requirePlace_1 (by decide) ⟨by omega, by omega⟩ (fun c1 => absurd c1 (by omega)) (fun c1 => ?_)
  refine lv_iload_n hx hb dX0_requirePlace_4 rfl (lv_at hl 1 rfl) ?_
  refine lv_aload_n hx hb dX0_requirePlace_5 rfl (lv_at hl 0 rfl) ?_
  refine va_get (D := D) (ci := 0) (C := RX0) (T := TX0) (N := 13) hx hb hts inW hown hK hP 0 rfl rfl 0 (by decide) (hts (.fieldLink RX0 7 "Flowforge" "jobCount" "I") (List.mem_of_getElem? (i := 3) rfl)) (fun _ h9 => h9) rfl dX0_requirePlace_6 ?_
  refine w_icmp_lt (tgt := 22) hx hb dX0_requirePlace_9 (by decide) ⟨by omega, by omega⟩ ⟨by omega, by omega⟩ (fun c9 => ?_) (fun c9 => absurd c9 (by omega))
  exact hret 22 ls (trivial) dX0_requirePlace_22
set_option maxHeartbeats 4000000 in
set_option maxRecDepth 100000 in
theorem mX0_requireMachine {x : Int} (hn : nn ≤ 7) (hm : mm ≤ 5) (h0 : 0 ≤ x) (h1 : x < (mm : Int)) : PM l yX0_requireMachine wsX0_requireMachine (rmx 0 0) D (tyk cI cZ cJ) (xw ad cI cZ nn mm tT tB tE tL oO oR oQ zS zM zN oJ) [.ref (ad 0), .int (iI (x))] (va_Sv (fun _ => True)) := by
  refine pmV_of (cc := cX0_requireMachine) (maxL := 2) (by decide) rfl (Nat.le_of_ble_eq_true rfl) ?_
  intro p e s m args below meth c Q hx hb hml hown hts hK hP hret ls hl
  have hown : s.vm.findClass RX0 = some m.cls := hown
  have hl : lv_has ls 2 [(0, .ref (ad 0)), (1, .int (iI (x)))] := hl
  have inW : ∀ w ∈ wsX00, w ∈ wsX0_requireMachine := by first | exact (fun w h => List.mem_cons_of_mem _ (List.mem_append_right _ h)) | exact (fun w h => List.mem_cons_of_mem _ (List.mem_append_left _ (List.mem_append_right _ h))) | exact (fun w h => List.mem_cons_of_mem _ (List.mem_append_left _ (List.mem_append_left _ (List.mem_append_right _ h)))) | decide +kernel
  refine lv_iload_n hx hb dX0_requireMachine_0 rfl (lv_at hl 1 rfl) ?_
  refine w_if_lt (tgt := 12) hx hb dX0_requireMachine_1 (by decide) ⟨by omega, by omega⟩ (fun c1 => absurd c1 (by omega)) (fun c1 => ?_)
  refine lv_iload_n hx hb dX0_requireMachine_4 rfl (lv_at hl 1 rfl) ?_
  refine lv_aload_n hx hb dX0_requireMachine_5 rfl (lv_at hl 0 rfl) ?_
  refine va_get (D := D) (ci := 0) (C := RX0) (T := TX0) (N := 13) hx hb hts inW hown hK hP 0 rfl rfl 1 (by decide) (hts (.fieldLink RX0 13 "Flowforge" "machineCount" "I") (List.mem_of_getElem? (i := 3) rfl)) (fun _ h9 => h9) rfl dX0_requireMachine_6 ?_
  refine w_icmp_lt (tgt := 22) hx hb dX0_requireMachine_9 (by decide) ⟨by omega, by omega⟩ ⟨by omega, by omega⟩ (fun c9 => ?_) (fun c9 => absurd c9 (by omega))
  exact hret 22 ls (trivial) dX0_requireMachine_22
set_option maxHeartbeats 4000000 in
set_option maxRecDepth 100000 in
theorem mX0_requireVariant {x : Int} (h0 : 0 ≤ x) (h1 : x < 3) : PM l yX0_requireVariant wsX0_requireVariant (rmx 0 0) D (tyk cI cZ cJ) (ws) [.int (iI (x))] (va_Sv (fun _ => True)) := by
  refine pmV_of (cc := cX0_requireVariant) (maxL := 1) (by decide) rfl (Nat.le_of_ble_eq_true rfl) ?_
  intro p e s m args below meth c Q hx hb hml hown hts hK hP hret ls hl
  have hown : s.vm.findClass RX0 = some m.cls := hown
  have hl : lv_has ls 1 [(0, .int (iI (x)))] := hl
  refine lv_iload_n hx hb dX0_requireVariant_0 rfl (lv_at hl 0 rfl) ?_
  refine w_if_lt (tgt := 9) hx hb dX0_requireVariant_1 (by decide) ⟨by omega, by omega⟩ (fun c1 => absurd c1 (by omega)) (fun c1 => ?_)
  refine lv_iload_n hx hb dX0_requireVariant_4 rfl (lv_at hl 0 rfl) ?_
  refine lv_iconst (v := iI 3) hx hb dX0_requireVariant_5 rfl ?_
  refine w_icmp_lt (tgt := 19) hx hb dX0_requireVariant_6 (by decide) ⟨by omega, by omega⟩ ⟨by omega, by omega⟩ (fun c6 => ?_) (fun c6 => absurd c6 (by omega))
  exact hret 19 ls (trivial) dX0_requireVariant_19
set_option maxHeartbeats 4000000 in
set_option maxRecDepth 100000 in
theorem mX0_sumOf {j fr to : Nat} (hT : ∀ k, 0 ≤ tT k ∧ tT k ≤ 99) (hj : j < 7) (hft : fr ≤ to) (hto : to ≤ 5) : PM l yX0_sumOf wsX0_sumOf (rmx 2 43) D (tyk cI cZ cJ) (xw ad cI cZ nn mm tT tB tE tL oO oR oQ zS zM zN oJ) [.ref (ad 0), .int (iI ((j : Int))), .int (iI ((fr : Int))), .int (iI ((to : Int)))] (vp_Si (fun x => x = iI (smR tT j fr to))) := by
  refine pmI_of (cc := cX0_sumOf) (maxL := 6) (by decide) rfl (Nat.le_of_ble_eq_true rfl) ?_
  intro p e s m args below meth c Q hx hb hml hown hts hK hP hret ls hl
  have hown : s.vm.findClass RX0 = some m.cls := hown
  have hl : lv_has ls 6 [(0, .ref (ad 0)), (1, .int (iI ((j : Int)))), (2, .int (iI ((fr : Int)))), (3, .int (iI ((to : Int))))] := hl
  refine lv_iconst (v := iI 0) hx hb dX0_sumOf_0 rfl ?_
  refine lv_istore (lv' := [(4, .int (iI 0)), (0, .ref (ad 0)), (1, .int (iI ((j : Int)))), (2, .int (iI ((fr : Int)))), (3, .int (iI ((to : Int))))]) hx hb dX0_sumOf_1 hl (by decide) rfl (fun ls hl => ?_)
  refine lv_iload_n hx hb dX0_sumOf_3 rfl (lv_at hl 3 rfl) ?_
  refine lv_istore (lv' := [(5, .int (iI ((fr : Int)))), (4, .int (iI 0)), (0, .ref (ad 0)), (1, .int (iI ((j : Int)))), (2, .int (iI ((fr : Int)))), (3, .int (iI ((to : Int))))]) hx hb dX0_sumOf_4 hl (by decide) rfl (fun ls hl => ?_)
  have L6 : ∀ (fu : Nat) (i : Nat) (x5_6 : Int) (x4_6 : Int), (i ≤ to - fr) → (x5_6 = (fr : Int) + (i : Int)) → (x4_6 = (smC tT j fr i)) → to - fr - i < fu → ∀ ls : Array Slot, lv_has ls 6 [(5, .int (iI (x5_6))), (4, .int (iI (x4_6))), (0, .ref (ad 0)), (1, .int (iI ((j : Int)))), (2, .int (iI ((fr : Int)))), (3, .int (iI ((to : Int))))] → W p l e (rmx 2 43) s m args below meth c s.heap [] 0 0 Q (F0 m 6 ls []) := by
    intro fu
    induction fu with
    | zero =>
      intro i x5_6 x4_6 hi hq0 hq1 hfu
      exact absurd hfu (Nat.not_lt_zero _)
    | succ fu ih =>
      intro i x5_6 x4_6 hi hq0 hq1 hfu ls hl
      subst hq0
      subst hq1
      have ih6 := ih
      refine lv_iload hx hb dX0_sumOf_6 (lv_at hl 0 rfl) ?_
      refine lv_iload_n hx hb dX0_sumOf_8 rfl (lv_at hl 5 rfl) ?_
      refine w_icmp_ge (tgt := 30) hx hb dX0_sumOf_9 (by decide) ⟨by omega, by omega⟩ ⟨by omega, by omega⟩ (fun c9 => ?_) (fun c9 => ?_)
      · refine lv_iload hx hb dX0_sumOf_30 (lv_at hl 1 rfl) ?_
        exact hret 32 ls _ (by rw [show i = to - fr by omega]; rfl) dX0_sumOf_32
      · refine lv_iload hx hb dX0_sumOf_12 (lv_at hl 1 rfl) ?_
        refine lv_aload_n hx hb dX0_sumOf_14 rfl (lv_at hl 2 rfl) ?_
        refine lv_iload_n hx hb dX0_sumOf_15 rfl (lv_at hl 3 rfl) ?_
        refine lv_iload hx hb dX0_sumOf_16 (lv_at hl 0 rfl) ?_
        refine w_pV (As := [.int (iI ((j : Int))), .int (iI ((((fr + i) : Nat) : Int)))]) (rest := [.int (iI ((smC tT j fr i)))]) ⟨hx, hb, hml, hown, hts⟩ hK hP (mX0_timeOf (k := fr + i) hj (by omega)) (cwV 2 hts gX0_sumOf_X0_timeOf rfl rfl rfl (by decide +kernel) ⟨Nat.le_of_ble_eq_true rfl, Nat.le_of_ble_eq_true rfl⟩) (ci := 0) rfl rfl rfl rfl hl.1 (by rw [show (((fr : Int) + (i : Int)) : Int) = (((fr + i) : Nat) : Int) by omega]; try rfl) (Nat.le_of_ble_eq_true rfl) dX0_sumOf_18 ⟨Nat.zero_le _, Nat.zero_le _⟩ (fun r18 hr18 => ?_)
        refine w_top (v := iI ((tT (5 * j + (fr + i))))) (hr18) ?_
        refine w_iadd (z := (smC tT j fr i) + (tT (5 * j + (fr + i)))) hx hb dX0_sumOf_21 (by omega) ?_
        refine lv_istore (lv' := [(4, .int (iI ((smC tT j fr i) + (tT (5 * j + (fr + i)))))), (5, .int (iI ((fr : Int) + (i : Int)))), (0, .ref (ad 0)), (1, .int (iI ((j : Int)))), (2, .int (iI ((fr : Int)))), (3, .int (iI ((to : Int))))]) hx hb dX0_sumOf_22 hl (by decide) rfl (fun ls hl => ?_)
        refine lv_iinc (v := iI ((fr : Int) + (i : Int) + 1)) (lv' := [(5, .int (iI ((fr : Int) + (i : Int) + 1))), (4, .int (iI ((smC tT j fr i) + (tT (5 * j + (fr + i)))))), (0, .ref (ad 0)), (1, .int (iI ((j : Int)))), (2, .int (iI ((fr : Int)))), (3, .int (iI ((to : Int))))]) hx hb dX0_sumOf_24 hl (k := 1) rfl (iI_inc (by omega)) (by decide) rfl (fun ls hl => ?_)
        refine lv_goto (tgt := 6) hx hb dX0_sumOf_27 (by decide) ?_
        exact ih6 (i + 1) ((fr : Int) + (i : Int) + 1) ((smC tT j fr i) + (tT (5 * j + (fr + i)))) (by omega) (by omega) (rfl) (by omega) ls (lv_sub hl [0, 1, 2, 3, 4, 5] rfl)
  exact L6 (to - fr - 0 + 1) 0 ((fr : Int)) (0) (by omega) (by omega) (rfl) (Nat.lt_succ_self _) ls (lv_sub hl [0, 1, 2, 3, 4, 5] rfl)
set_option maxHeartbeats 4000000 in
set_option maxRecDepth 100000 in
theorem mX0_leastSum {fr to : Nat} (hT : ∀ k, 0 ≤ tT k ∧ tT k ≤ 99) (hn : nn ≤ 7) (hft : fr ≤ to) (hto : to ≤ 5) : PM l yX0_leastSum wsX0_leastSum (rmx 3 68) D (tyk cI cZ cJ) (xw ad cI cZ nn mm tT tB tE tL oO oR oQ zS zM zN oJ) [.ref (ad 0), .int (iI ((fr : Int))), .int (iI ((to : Int)))] (vp_Si (fun x => x = iI (lsX tT fr to (nn - 1)))) := by
  refine pmI_of (cc := cX0_leastSum) (maxL := 5) (by decide) rfl (Nat.le_of_ble_eq_true rfl) ?_
  intro p e s m args below meth c Q hx hb hml hown hts hK hP hret ls hl
  have hown : s.vm.findClass RX0 = some m.cls := hown
  have hl : lv_has ls 5 [(0, .ref (ad 0)), (1, .int (iI ((fr : Int)))), (2, .int (iI ((to : Int))))] := hl
  have inW : ∀ w ∈ wsX00, w ∈ wsX0_leastSum := by first | exact (fun w h => List.mem_cons_of_mem _ (List.mem_append_right _ h)) | exact (fun w h => List.mem_cons_of_mem _ (List.mem_append_left _ (List.mem_append_right _ h))) | exact (fun w h => List.mem_cons_of_mem _ (List.mem_append_left _ (List.mem_append_left _ (List.mem_append_right _ h)))) | decide +kernel
  refine lv_aload_n hx hb dX0_leastSum_0 rfl (lv_at hl 0 rfl) ?_
  refine lv_iconst (v := iI 0) hx hb dX0_leastSum_1 rfl ?_
  refine lv_iload_n hx hb dX0_leastSum_2 rfl (lv_at hl 1 rfl) ?_
  refine lv_iload_n hx hb dX0_leastSum_3 rfl (lv_at hl 2 rfl) ?_
  refine w_pV (As := [.int (iI 0), .int (iI ((fr : Int))), .int (iI ((to : Int)))]) (rest := []) ⟨hx, hb, hml, hown, hts⟩ hK hP (mX0_sumOf  (j := 0) hT (by omega) hft hto) (cwV 3 hts gX0_leastSum_X0_sumOf rfl rfl rfl (by decide +kernel) ⟨Nat.le_of_ble_eq_true rfl, Nat.le_of_ble_eq_true rfl⟩) (ci := 0) rfl rfl rfl rfl hl.1 rfl (Nat.le_of_ble_eq_true rfl) dX0_leastSum_4 ⟨Nat.zero_le _, Nat.zero_le _⟩ (fun r4 hr4 => ?_)
  refine w_top (v := iI ((smR tT 0 fr to))) (hr4) ?_
  refine lv_istore_n (lv' := [(3, .int (iI ((smR tT 0 fr to)))), (0, .ref (ad 0)), (1, .int (iI ((fr : Int)))), (2, .int (iI ((to : Int))))]) hx hb dX0_leastSum_7 rfl hl (by decide) rfl (fun ls hl => ?_)
  refine lv_iconst (v := iI 1) hx hb dX0_leastSum_8 rfl ?_
  refine lv_istore (lv' := [(4, .int (iI 1)), (3, .int (iI ((smR tT 0 fr to)))), (0, .ref (ad 0)), (1, .int (iI ((fr : Int)))), (2, .int (iI ((to : Int))))]) hx hb dX0_leastSum_9 hl (by decide) rfl (fun ls hl => ?_)
  have L11 : ∀ (fu : Nat) (i : Nat) (x4_11 : Int) (x3_11 : Int), (i + 1 ≤ nn ∨ i = 0) → (x4_11 = (i : Int) + 1) → (x3_11 = (lsX tT fr to i)) → nn - i < fu → ∀ ls : Array Slot, lv_has ls 5 [(4, .int (iI (x4_11))), (3, .int (iI (x3_11))), (0, .ref (ad 0)), (1, .int (iI ((fr : Int)))), (2, .int (iI ((to : Int))))] → W p l e (rmx 3 68) s m args below meth c s.heap [] 0 0 Q (F0 m 11 ls []) := by
    intro fu
    induction fu with
    | zero =>
      intro i x4_11 x3_11 hi hq0 hq1 hfu
      exact absurd hfu (Nat.not_lt_zero _)
    | succ fu ih =>
      intro i x4_11 x3_11 hi hq0 hq1 hfu ls hl
      subst hq0
      subst hq1
      have ih11 := ih
      have h9 := lsX_rg hT fr to i
      refine lv_iload hx hb dX0_leastSum_11 (lv_at hl 0 rfl) ?_
      refine lv_aload_n hx hb dX0_leastSum_13 rfl (lv_at hl 2 rfl) ?_
      refine va_get (D := D) (ci := 0) (C := RX0) (T := TX0) (N := 13) hx hb hts inW hown hK hP 0 rfl rfl 0 (by decide) (hts (.fieldLink RX0 7 "Flowforge" "jobCount" "I") (List.mem_of_getElem? (i := 1) rfl)) (fun _ h9 => h9) rfl dX0_leastSum_14 ?_
      refine w_icmp_ge (tgt := 39) hx hb dX0_leastSum_17 (by decide) ⟨by omega, by omega⟩ ⟨by omega, by omega⟩ (fun c17 => ?_) (fun c17 => ?_)
      · refine lv_iload_n hx hb dX0_leastSum_39 rfl (lv_at hl 1 rfl) ?_
        exact hret 40 ls _ (by rw [show i = nn - 1 by omega]) dX0_leastSum_40
      · refine lv_iload_n hx hb dX0_leastSum_20 rfl (lv_at hl 1 rfl) ?_
        refine lv_aload_n hx hb dX0_leastSum_21 rfl (lv_at hl 2 rfl) ?_
        refine lv_iload hx hb dX0_leastSum_22 (lv_at hl 0 rfl) ?_
        refine lv_iload_n hx hb dX0_leastSum_24 rfl (lv_at hl 3 rfl) ?_
        refine lv_iload_n hx hb dX0_leastSum_25 rfl (lv_at hl 4 rfl) ?_
        refine w_pV (As := [.int (iI ((((i + 1) : Nat) : Int))), .int (iI ((fr : Int))), .int (iI ((to : Int)))]) (rest := [.int (iI ((lsX tT fr to i)))]) ⟨hx, hb, hml, hown, hts⟩ hK hP (mX0_sumOf  (j := i + 1) hT (by omega) hft hto) (cwV 3 hts gX0_leastSum_X0_sumOf rfl rfl rfl (by decide +kernel) ⟨Nat.le_of_ble_eq_true rfl, Nat.le_of_ble_eq_true rfl⟩) (ci := 0) rfl rfl rfl rfl hl.1 (by rw [show (((i : Int) + 1) : Int) = (((i + 1) : Nat) : Int) by omega]; try rfl) (Nat.le_of_ble_eq_true rfl) dX0_leastSum_26 ⟨Nat.zero_le _, Nat.zero_le _⟩ (fun r26 hr26 => ?_)
        have h8 := smR_rg hT (i + 1) fr to
        refine w_top (v := iI ((smR tT (i + 1) fr to))) (hr26) ?_
        refine va_mmin hx hb (hml.trans hl.1.symm) hown (hts (.methodLink RX0 145 Lib.Math.min.name) (List.mem_of_getElem? (i := 2) rfl)) (hts (.static Lib.Math.min.name) (List.mem_of_getElem? (i := 3) rfl)) (hts (.initialized "java/lang/Math") (List.mem_of_getElem? (i := 4) rfl)) (hts (.code Lib.Math.min.name Lib.Math.min.code 2 (some .int)) (List.mem_of_getElem? (i := 5) rfl)) (Nat.le_of_ble_eq_true rfl) (Nat.le_of_ble_eq_true rfl) (Nat.zero_le _) (Nat.zero_le _) dX0_leastSum_29 ?_
        refine w_top (v := iI ((min ((lsX tT fr to i)) ((smR tT (i + 1) fr to))))) (iI_min ⟨by omega, by omega⟩ ⟨by omega, by omega⟩) ?_
        refine lv_istore_n (lv' := [(3, .int (iI ((min ((lsX tT fr to i)) ((smR tT (i + 1) fr to)))))), (4, .int (iI ((i : Int) + 1))), (0, .ref (ad 0)), (1, .int (iI ((fr : Int)))), (2, .int (iI ((to : Int))))]) hx hb dX0_leastSum_32 rfl hl (by decide) rfl (fun ls hl => ?_)
        refine lv_iinc (v := iI ((i : Int) + 2)) (lv' := [(4, .int (iI ((i : Int) + 2))), (3, .int (iI ((min ((lsX tT fr to i)) ((smR tT (i + 1) fr to)))))), (0, .ref (ad 0)), (1, .int (iI ((fr : Int)))), (2, .int (iI ((to : Int))))]) hx hb dX0_leastSum_33 hl (k := 1) rfl (iI_inc (by omega)) (by decide) rfl (fun ls hl => ?_)
        refine lv_goto (tgt := 11) hx hb dX0_leastSum_36 (by decide) ?_
        exact ih11 (i + 1) ((i : Int) + 2) ((min ((lsX tT fr to i)) ((smR tT (i + 1) fr to)))) (by omega) (by omega) (rfl) (by omega) ls (lv_sub hl [0, 1, 2, 3, 4] rfl)
  exact L11 (nn - 0 + 1) 0 (1) ((smR tT 0 fr to)) (by omega) (by omega) (rfl) (Nat.lt_succ_self _) ls (lv_sub hl [0, 1, 2, 3, 4] rfl)
set_option maxHeartbeats 4000000 in
set_option maxRecDepth 100000 in
theorem mX0_loadOf {k : Nat} (hT : ∀ k, 0 ≤ tT k ∧ tT k ≤ 99) (hn : nn ≤ 7) (hk : k < 5) : PM l yX0_loadOf wsX0_loadOf (rmx 2 43) D (tyk cI cZ cJ) (xw ad cI cZ nn mm tT tB tE tL oO oR oQ zS zM zN oJ) [.ref (ad 0), .int (iI ((k : Int)))] (vp_Si (fun x => x = iI (ldC tT k nn))) := by
  refine pmI_of (cc := cX0_loadOf) (maxL := 4) (by decide) rfl (Nat.le_of_ble_eq_true rfl) ?_
  intro p e s m args below meth c Q hx hb hml hown hts hK hP hret ls hl
  have hown : s.vm.findClass RX0 = some m.cls := hown
  have hl : lv_has ls 4 [(0, .ref (ad 0)), (1, .int (iI ((k : Int))))] := hl
  have inW : ∀ w ∈ wsX00, w ∈ wsX0_loadOf := by first | exact (fun w h => List.mem_cons_of_mem _ (List.mem_append_right _ h)) | exact (fun w h => List.mem_cons_of_mem _ (List.mem_append_left _ (List.mem_append_right _ h))) | exact (fun w h => List.mem_cons_of_mem _ (List.mem_append_left _ (List.mem_append_left _ (List.mem_append_right _ h)))) | decide +kernel
  refine lv_iconst (v := iI 0) hx hb dX0_loadOf_0 rfl ?_
  refine lv_istore_n (lv' := [(2, .int (iI 0)), (0, .ref (ad 0)), (1, .int (iI ((k : Int))))]) hx hb dX0_loadOf_1 rfl hl (by decide) rfl (fun ls hl => ?_)
  refine lv_iconst (v := iI 0) hx hb dX0_loadOf_2 rfl ?_
  refine lv_istore_n (lv' := [(3, .int (iI 0)), (2, .int (iI 0)), (0, .ref (ad 0)), (1, .int (iI ((k : Int))))]) hx hb dX0_loadOf_3 rfl hl (by decide) rfl (fun ls hl => ?_)
  have L4 : ∀ (fu : Nat) (i : Nat) (x3_4 : Int) (x2_4 : Int), (i ≤ nn) → (x3_4 = (i : Int)) → (x2_4 = (ldC tT k i)) → nn - i < fu → ∀ ls : Array Slot, lv_has ls 4 [(3, .int (iI (x3_4))), (2, .int (iI (x2_4))), (0, .ref (ad 0)), (1, .int (iI ((k : Int))))] → W p l e (rmx 2 43) s m args below meth c s.heap [] 0 0 Q (F0 m 4 ls []) := by
    intro fu
    induction fu with
    | zero =>
      intro i x3_4 x2_4 hi hq0 hq1 hfu
      exact absurd hfu (Nat.not_lt_zero _)
    | succ fu ih =>
      intro i x3_4 x2_4 hi hq0 hq1 hfu ls hl
      subst hq0
      subst hq1
      have ih4 := ih
      refine lv_iload_n hx hb dX0_loadOf_4 rfl (lv_at hl 0 rfl) ?_
      refine lv_aload_n hx hb dX0_loadOf_5 rfl (lv_at hl 2 rfl) ?_
      refine va_get (D := D) (ci := 0) (C := RX0) (T := TX0) (N := 13) hx hb hts inW hown hK hP 0 rfl rfl 0 (by decide) (hts (.fieldLink RX0 7 "Flowforge" "jobCount" "I") (List.mem_of_getElem? (i := 1) rfl)) (fun _ h9 => h9) rfl dX0_loadOf_6 ?_
      refine w_icmp_ge (tgt := 27) hx hb dX0_loadOf_9 (by decide) ⟨by omega, by omega⟩ ⟨by omega, by omega⟩ (fun c9 => ?_) (fun c9 => ?_)
      · refine lv_iload_n hx hb dX0_loadOf_27 rfl (lv_at hl 1 rfl) ?_
        exact hret 28 ls _ (by rw [show i = nn by omega]) dX0_loadOf_28
      · refine lv_iload_n hx hb dX0_loadOf_12 rfl (lv_at hl 1 rfl) ?_
        refine lv_aload_n hx hb dX0_loadOf_13 rfl (lv_at hl 2 rfl) ?_
        refine lv_iload_n hx hb dX0_loadOf_14 rfl (lv_at hl 0 rfl) ?_
        refine lv_iload_n hx hb dX0_loadOf_15 rfl (lv_at hl 3 rfl) ?_
        refine w_pV (As := [.int (iI ((i : Int))), .int (iI ((k : Int)))]) (rest := [.int (iI ((ldC tT k i)))]) ⟨hx, hb, hml, hown, hts⟩ hK hP (mX0_timeOf  (by omega) hk) (cwV 2 hts gX0_loadOf_X0_timeOf rfl rfl rfl (by decide +kernel) ⟨Nat.le_of_ble_eq_true rfl, Nat.le_of_ble_eq_true rfl⟩) (ci := 0) rfl rfl rfl rfl hl.1 rfl (Nat.le_of_ble_eq_true rfl) dX0_loadOf_16 ⟨Nat.zero_le _, Nat.zero_le _⟩ (fun r16 hr16 => ?_)
        refine w_top (v := iI ((tT (5 * i + k)))) (hr16) ?_
        refine w_iadd (z := (ldC tT k i) + (tT (5 * i + k))) hx hb dX0_loadOf_19 (by omega) ?_
        refine lv_istore_n (lv' := [(2, .int (iI ((ldC tT k i) + (tT (5 * i + k))))), (3, .int (iI ((i : Int)))), (0, .ref (ad 0)), (1, .int (iI ((k : Int))))]) hx hb dX0_loadOf_20 rfl hl (by decide) rfl (fun ls hl => ?_)
        refine lv_iinc (v := iI ((i : Int) + 1)) (lv' := [(3, .int (iI ((i : Int) + 1))), (2, .int (iI ((ldC tT k i) + (tT (5 * i + k))))), (0, .ref (ad 0)), (1, .int (iI ((k : Int))))]) hx hb dX0_loadOf_21 hl (k := 1) rfl (iI_inc (by omega)) (by decide) rfl (fun ls hl => ?_)
        refine lv_goto (tgt := 4) hx hb dX0_loadOf_24 (by decide) ?_
        exact ih4 (i + 1) ((i : Int) + 1) ((ldC tT k i) + (tT (5 * i + k))) (by omega) (by omega) (rfl) (by omega) ls (lv_sub hl [0, 1, 2, 3] rfl)
  exact L4 (nn - 0 + 1) 0 (0) (0) (by omega) (by omega) (rfl) (Nat.lt_succ_self _) ls (lv_sub hl [0, 1, 2, 3] rfl)
set_option maxHeartbeats 4000000 in
set_option maxRecDepth 100000 in
theorem mX0_placeOf {j q : Nat} (hn : nn ≤ 7) (hq : q < nn) (hj : j = oO q) (hw : ∀ k, k < q → oO k ≠ j) (hO : ∀ k, k < nn → oO k < 7) : PM l yX0_placeOf wsX0_placeOf (rmx 0 0) D (tyk cI cZ cJ) (xw ad cI cZ nn mm tT tB tE tL oO oR oQ zS zM zN oJ) [.ref (ad 0), .int (iI ((j : Int)))] (vp_Si (fun x => x = iI (q : Int))) := by
  refine pmI_of (cc := cX0_placeOf) (maxL := 3) (by decide) rfl (Nat.le_of_ble_eq_true rfl) ?_
  intro p e s m args below meth c Q hx hb hml hown hts hK hP hret ls hl
  have hown : s.vm.findClass RX0 = some m.cls := hown
  have hl : lv_has ls 3 [(0, .ref (ad 0)), (1, .int (iI ((j : Int))))] := hl
  have inW : ∀ w ∈ wsX00, w ∈ wsX0_placeOf := by first | exact (fun w h => List.mem_cons_of_mem _ (List.mem_append_right _ h)) | exact (fun w h => List.mem_cons_of_mem _ (List.mem_append_left _ (List.mem_append_right _ h))) | exact (fun w h => List.mem_cons_of_mem _ (List.mem_append_left _ (List.mem_append_left _ (List.mem_append_right _ h)))) | decide +kernel
  refine lv_iconst (v := iI 0) hx hb dX0_placeOf_0 rfl ?_
  refine lv_istore_n (lv' := [(2, .int (iI 0)), (0, .ref (ad 0)), (1, .int (iI ((j : Int))))]) hx hb dX0_placeOf_1 rfl hl (by decide) rfl (fun ls hl => ?_)
  have L2 : ∀ (fu : Nat) (i : Nat) (x2_2 : Int), (i ≤ q) → (x2_2 = (i : Int)) → q - i < fu → ∀ ls : Array Slot, lv_has ls 3 [(2, .int (iI (x2_2))), (0, .ref (ad 0)), (1, .int (iI ((j : Int))))] → W p l e (rmx 0 0) s m args below meth c s.heap [] 0 0 Q (F0 m 2 ls []) := by
    intro fu
    induction fu with
    | zero =>
      intro i x2_2 hi hq0 hfu
      exact absurd hfu (Nat.not_lt_zero _)
    | succ fu ih =>
      intro i x2_2 hi hq0 hfu ls hl
      subst hq0
      have ih2 := ih
      refine lv_iload_n hx hb dX0_placeOf_2 rfl (lv_at hl 0 rfl) ?_
      refine lv_aload_n hx hb dX0_placeOf_3 rfl (lv_at hl 1 rfl) ?_
      refine va_get (D := D) (ci := 0) (C := RX0) (T := TX0) (N := 13) hx hb hts inW hown hK hP 0 rfl rfl 0 (by decide) (hts (.fieldLink RX0 7 "Flowforge" "jobCount" "I") (List.mem_of_getElem? (i := 1) rfl)) (fun _ h9 => h9) rfl dX0_placeOf_4 ?_
      refine lv_iconst (v := iI 1) hx hb dX0_placeOf_7 rfl ?_
      refine w_isub (z := (nn : Int) - 1) hx hb dX0_placeOf_8 (by omega) ?_
      refine w_icmp_ge (tgt := 28) hx hb dX0_placeOf_9 (by decide) ⟨by omega, by omega⟩ ⟨by omega, by omega⟩ (fun c9 => ?_) (fun c9 => ?_)
      · have hiq : i = q := by omega
        refine lv_iload_n hx hb dX0_placeOf_28 rfl (lv_at hl 0 rfl) ?_
        exact hret 29 ls _ (by rw [hiq]) dX0_placeOf_29
      · have h8 := hO i (by omega)
        have h7 := hO q hq
        refine lv_aload_n hx hb dX0_placeOf_12 rfl (lv_at hl 1 rfl) ?_
        refine va_get (D := D) (ci := 0) (C := RX0) (T := TX0) (N := 13) hx hb hts inW hown hK hP 0 rfl rfl 6 (by decide) (hts (.fieldLink RX0 29 "Flowforge" "order" "[I") (List.mem_of_getElem? (i := 2) rfl)) (fun _ h9 => h9) rfl dX0_placeOf_13 ?_
        refine lv_iload_n hx hb dX0_placeOf_16 rfl (lv_at hl 0 rfl) ?_
        refine w_iald (v := iI ((oO i : Nat) : Int)) hx hb hK hP 5 0 rfl rfl (i) (by omega) (by omega) (by decide) rfl dX0_placeOf_17 ?_
        refine lv_iload_n hx hb dX0_placeOf_18 rfl (lv_at hl 2 rfl) ?_
        refine w_icmp_eq (tgt := 28) hx hb dX0_placeOf_19 (by decide) ⟨by omega, by omega⟩ ⟨by omega, by omega⟩ (fun c19 => ?_) (fun c19 => ?_)
        · have hiq : i = q := (Nat.lt_or_ge i q).elim (fun h => absurd (show oO i = j by omega) (hw i h)) (fun h => by omega)
          refine lv_iload_n hx hb dX0_placeOf_28 rfl (lv_at hl 0 rfl) ?_
          exact hret 29 ls _ (by rw [hiq]) dX0_placeOf_29
        · have hne : i ≠ q := fun h => c19 (by rw [h, hj])
          refine lv_iinc (v := iI ((i : Int) + 1)) (lv' := [(2, .int (iI ((i : Int) + 1))), (0, .ref (ad 0)), (1, .int (iI ((j : Int))))]) hx hb dX0_placeOf_22 hl (k := 0) rfl (iI_inc (by omega)) (by decide) rfl (fun ls hl => ?_)
          refine lv_goto (tgt := 2) hx hb dX0_placeOf_25 (by decide) ?_
          exact ih2 (i + 1) ((i : Int) + 1) (by omega) (by omega) (by omega) ls (lv_sub hl [0, 1, 2] rfl)
  exact L2 (q - 0 + 1) 0 (0) (by omega) (by omega) (Nat.lt_succ_self _) ls (lv_sub hl [0, 1, 2] rfl)
set_option maxHeartbeats 4000000 in
set_option maxRecDepth 100000 in
theorem mX0_shift {a b : Nat} (ha : a < 7) (hb7 : b < 7) : IM l yX0_shift wsX0_shift (rmx 0 0) D (tyk cI cZ cJ) ([(a0, .inl (cI, 7, .inl (jI fF)))]) [.ref (a0), .int (iI ((a : Int))), .int (iI ((b : Int)))] (QV D (tyk cI cZ cJ) (fun u : Unit => [(a0, .inl (cI, 7, .inl (jI (shf fF a b))))]) (fun _ => True)) := by
  refine imV_of (cc := cX0_shift) (maxL := 5) (by decide) rfl (Nat.le_of_ble_eq_true rfl) ?_
  intro p e s m args below meth c A Q hx hb hml hown hts hA hK hP hD hS hret ls hl
  have hown : s.vm.findClass RX0 = some m.cls := hown
  have hl : lv_has ls 5 [(0, .ref (a0)), (1, .int (iI ((a : Int)))), (2, .int (iI ((b : Int))))] := hl
  refine lv_aload_n hx hb dX0_shift_0 rfl (lv_at hl 0 rfl) ?_
  refine lv_iload_n hx hb dX0_shift_1 rfl (lv_at hl 1 rfl) ?_
  refine w_iald (v := iI ((fF a : Nat) : Int)) hx hb hK hP 0 0 rfl rfl (a) (by omega) (by omega) (by decide) rfl dX0_shift_2 ?_
  refine lv_istore_n (lv' := [(3, .int (iI (((fF a : Nat) : Int)))), (0, .ref (a0)), (1, .int (iI ((a : Int)))), (2, .int (iI ((b : Int))))]) hx hb dX0_shift_3 rfl hl (by decide) rfl (fun ls hl => ?_)
  refine lv_iload_n hx hb dX0_shift_4 rfl (lv_at hl 2 rfl) ?_
  refine lv_istore (lv' := [(4, .int (iI ((a : Int)))), (3, .int (iI (((fF a : Nat) : Int)))), (0, .ref (a0)), (1, .int (iI ((a : Int)))), (2, .int (iI ((b : Int))))]) hx hb dX0_shift_5 hl (by decide) rfl (fun ls hl => ?_)
  have L7 : ∀ (fu : Nat) (i : Nat) (wlist7 : Nat → Nat) (x4_7 : Int), (i ≤ b - a) → (wlist7 = sh1 fF a i) → (x4_7 = (a : Int) + (i : Int)) → b - a - i < fu → ∀ (H : Heap) (locs : List Loc), va_P D vwCl ([(a0, .inl (cI, 7, .inl (jI wlist7)))]) H → va_D A ([(a0, .inl (cI, 7, .inl (jI wlist7)))]) → va_S A s.heap H locs → ∀ ls : Array Slot, lv_has ls 5 [(4, .int (iI (x4_7))), (3, .int (iI (((fF a : Nat) : Int)))), (0, .ref (a0)), (1, .int (iI ((a : Int)))), (2, .int (iI ((b : Int))))] → W p l e (rmx 0 0) s m args below meth c H locs 0 0 Q (F0 m 7 ls []) := by
    intro fu
    induction fu with
    | zero =>
      intro i wlist7 x4_7 hi hq0 hq1 hfu
      exact absurd hfu (Nat.not_lt_zero _)
    | succ fu ih =>
      intro i wlist7 x4_7 hi hq0 hq1 hfu H locs hP hD hS ls hl
      subst hq0
      subst hq1
      have ih7 := ih
      refine lv_iload hx hb dX0_shift_7 (lv_at hl 0 rfl) ?_
      refine lv_iload_n hx hb dX0_shift_9 rfl (lv_at hl 4 rfl) ?_
      refine w_icmp_ge (tgt := 29) hx hb dX0_shift_10 (by decide) ⟨by omega, by omega⟩ ⟨by omega, by omega⟩ (fun c10 => ?_) (fun c10 => ?_)
      · obtain rfl : i = b - a := by omega
        refine lv_iload_n hx hb dX0_shift_29 rfl (lv_at hl 3 rfl) ?_
        refine lv_istore (lv' := [(4, .int (iI ((a : Int)))), (3, .int (iI (((fF a : Nat) : Int)))), (0, .ref (a0)), (1, .int (iI ((a : Int)))), (2, .int (iI ((b : Int))))]) hx hb dX0_shift_30 hl (by decide) rfl (fun ls hl => ?_)
        have L32 : ∀ (fu : Nat) (z : Nat) (wlist32 : Nat → Nat) (x4_32 : Int), (z ≤ a - b) → (wlist32 = sh2 (sh1 fF a (b - a)) a z) → (x4_32 = (a : Int) - (z : Int)) → a - b - z < fu → ∀ (H : Heap) (locs : List Loc), va_P D vwCl ([(a0, .inl (cI, 7, .inl (jI wlist32)))]) H → va_D A ([(a0, .inl (cI, 7, .inl (jI wlist32)))]) → va_S A s.heap H locs → ∀ ls : Array Slot, lv_has ls 5 [(4, .int (iI (x4_32))), (3, .int (iI (((fF a : Nat) : Int)))), (0, .ref (a0)), (1, .int (iI ((a : Int)))), (2, .int (iI ((b : Int))))] → W p l e (rmx 0 0) s m args below meth c H locs 0 0 Q (F0 m 32 ls []) := by
          intro fu
          induction fu with
          | zero =>
            intro z wlist32 x4_32 hz hq0 hq1 hfu
            exact absurd hfu (Nat.not_lt_zero _)
          | succ fu ih =>
            intro z wlist32 x4_32 hz hq0 hq1 hfu H locs hP hD hS ls hl
            subst hq0
            subst hq1
            have ih32 := ih
            refine lv_iload hx hb dX0_shift_32 (lv_at hl 0 rfl) ?_
            refine lv_iload_n hx hb dX0_shift_34 rfl (lv_at hl 4 rfl) ?_
            refine w_icmp_le (tgt := 54) hx hb dX0_shift_35 (by decide) ⟨by omega, by omega⟩ ⟨by omega, by omega⟩ (fun c35 => ?_) (fun c35 => ?_)
            · obtain rfl : z = a - b := by omega
              refine lv_aload_n hx hb dX0_shift_54 rfl (lv_at hl 2 rfl) ?_
              refine lv_iload_n hx hb dX0_shift_55 rfl (lv_at hl 4 rfl) ?_
              refine lv_iload_n hx hb dX0_shift_56 rfl (lv_at hl 1 rfl) ?_
              refine w_iast (g := jI (va_up (sh2 (sh1 fF a (b - a)) a (a - b)) b ((fF a)))) (ws' := [(a0, .inl (cI, 7, .inl (jI (va_up (sh2 (sh1 fF a (b - a)) a (a - b)) b ((fF a))))))]) hx hb hK hP hD hS 0 0 rfl rfl (b) (by omega) (by omega) (by decide) (hg := jI_up) (hw := rfl) (hd := dX0_shift_57) (kk := fun H locs hP hD hS => ?_)
              exact hret _ _ 58 ls (()) hP hD hS (trivial) dX0_shift_58
            · refine lv_aload_n hx hb dX0_shift_38 rfl (lv_at hl 2 rfl) ?_
              refine lv_iload hx hb dX0_shift_39 (lv_at hl 0 rfl) ?_
              refine lv_aload_n hx hb dX0_shift_41 rfl (lv_at hl 2 rfl) ?_
              refine lv_iload hx hb dX0_shift_42 (lv_at hl 0 rfl) ?_
              refine lv_iconst (v := iI 1) hx hb dX0_shift_44 rfl ?_
              refine w_isub (z := (a : Int) - (z : Int) - 1) hx hb dX0_shift_45 (by omega) ?_
              refine w_iald (v := iI ((sh1 fF a (b - a) (a - z - 1) : Nat) : Int)) hx hb hK hP 0 0 rfl rfl (a - z - 1) (by omega) (by omega) (by decide) (congrArg (fun q : Nat => iI (q : Int)) (sh2_at (by omega))) dX0_shift_46 ?_
              refine w_iast (g := jI (va_up (sh2 (sh1 fF a (b - a)) a z) (a - z) ((sh1 fF a (b - a) (a - z - 1))))) (ws' := [(a0, .inl (cI, 7, .inl (jI (va_up (sh2 (sh1 fF a (b - a)) a z) (a - z) ((sh1 fF a (b - a) (a - z - 1)))))))]) hx hb hK hP hD hS 0 0 rfl rfl (a - z) (by omega) (by omega) (by decide) (hg := jI_up) (hw := rfl) (hd := dX0_shift_47) (kk := fun H locs hP hD hS => ?_)
              refine lv_iinc (v := iI ((a : Int) - (z : Int) - 1)) (lv' := [(4, .int (iI ((a : Int) - (z : Int) - 1))), (3, .int (iI (((fF a : Nat) : Int)))), (0, .ref (a0)), (1, .int (iI ((a : Int)))), (2, .int (iI ((b : Int))))]) hx hb dX0_shift_48 hl (k := 0) rfl (iI_inc (by omega)) (by decide) rfl (fun ls hl => ?_)
              refine lv_goto (tgt := 32) hx hb dX0_shift_51 (by decide) ?_
              exact ih32 (z + 1) (va_up (sh2 (sh1 fF a (b - a)) a z) (a - z) ((sh1 fF a (b - a) (a - z - 1)))) ((a : Int) - (z : Int) - 1) (by omega) (sh2_s (by omega)) (by omega) (by omega) _ _ hP hD hS ls (lv_sub hl [0, 1, 2, 3, 4] rfl)
        exact L32 (a - b - 0 + 1) 0 (sh1 fF a (b - a)) ((a : Int)) (by omega) ((sh2_0 _ _).symm) (by omega) (Nat.lt_succ_self _) _ _ hP hD hS ls (lv_sub hl [0, 1, 2, 3, 4] rfl)
      · refine lv_aload_n hx hb dX0_shift_13 rfl (lv_at hl 2 rfl) ?_
        refine lv_iload hx hb dX0_shift_14 (lv_at hl 0 rfl) ?_
        refine lv_aload_n hx hb dX0_shift_16 rfl (lv_at hl 2 rfl) ?_
        refine lv_iload hx hb dX0_shift_17 (lv_at hl 0 rfl) ?_
        refine lv_iconst (v := iI 1) hx hb dX0_shift_19 rfl ?_
        refine w_iadd (z := (a : Int) + (i : Int) + 1) hx hb dX0_shift_20 (by omega) ?_
        refine w_iald (v := iI ((fF (a + i + 1) : Nat) : Int)) hx hb hK hP 0 0 rfl rfl (a + i + 1) (by omega) (by omega) (by decide) (congrArg (fun q : Nat => iI (q : Int)) (sh1_at (by omega))) dX0_shift_21 ?_
        refine w_iast (g := jI (va_up (sh1 fF a i) (a + i) ((fF (a + i + 1))))) (ws' := [(a0, .inl (cI, 7, .inl (jI (va_up (sh1 fF a i) (a + i) ((fF (a + i + 1)))))))]) hx hb hK hP hD hS 0 0 rfl rfl (a + i) (by omega) (by omega) (by decide) (hg := jI_up) (hw := rfl) (hd := dX0_shift_22) (kk := fun H locs hP hD hS => ?_)
        refine lv_iinc (v := iI ((a : Int) + (i : Int) + 1)) (lv' := [(4, .int (iI ((a : Int) + (i : Int) + 1))), (3, .int (iI (((fF a : Nat) : Int)))), (0, .ref (a0)), (1, .int (iI ((a : Int)))), (2, .int (iI ((b : Int))))]) hx hb dX0_shift_23 hl (k := 0) rfl (iI_inc (by omega)) (by decide) rfl (fun ls hl => ?_)
        refine lv_goto (tgt := 7) hx hb dX0_shift_26 (by decide) ?_
        exact ih7 (i + 1) (va_up (sh1 fF a i) (a + i) ((fF (a + i + 1)))) ((a : Int) + (i : Int) + 1) (by omega) (sh1_s) (by omega) (by omega) _ _ hP hD hS ls (lv_sub hl [0, 1, 2, 3, 4] rfl)
  exact L7 (b - a - 0 + 1) 0 fF ((a : Int)) (by omega) ((sh1_0 _ _).symm) (by omega) (Nat.lt_succ_self _) _ _ hP hD hS ls (lv_sub hl [0, 1, 2, 3, 4] rfl)
set_option maxHeartbeats 4000000 in
set_option maxRecDepth 100000 in
theorem mX0_freeFrom {v q k : Nat} (hm : 1 ≤ mm ∧ mm ≤ 5) (hv : v ≤ 2) (hp : q < 7) (hk : k < mm) : PM l yX0_freeFrom wsX0_freeFrom (rmx 1 21) D (tyk cI cZ cJ) (xw ad cI cZ nn mm tT tB tE tL oO oR oQ zS zM zN oJ) [.ref (ad 0), .int (iI ((v : Int))), .int (iI ((q : Int))), .int (iI ((k : Int)))] (vp_Si (fun x => x = iI (frm v mm (prv tB q) (prv tE q) k))) := by
  refine pmI_of (cc := cX0_freeFrom) (maxL := 4) (by decide) rfl (Nat.le_of_ble_eq_true rfl) ?_
  intro p e s m args below meth c Q hx hb hml hown hts hK hP hret ls hl
  have hown : s.vm.findClass RX0 = some m.cls := hown
  have hl : lv_has ls 4 [(0, .ref (ad 0)), (1, .int (iI ((v : Int)))), (2, .int (iI ((q : Int)))), (3, .int (iI ((k : Int))))] := hl
  have inW : ∀ w ∈ wsX00, w ∈ wsX0_freeFrom := by first | exact (fun w h => List.mem_cons_of_mem _ (List.mem_append_right _ h)) | exact (fun w h => List.mem_cons_of_mem _ (List.mem_append_left _ (List.mem_append_right _ h))) | exact (fun w h => List.mem_cons_of_mem _ (List.mem_append_left _ (List.mem_append_left _ (List.mem_append_right _ h)))) | decide +kernel
  refine lv_iload_n hx hb dX0_freeFrom_0 rfl (lv_at hl 2 rfl) ?_
  refine lv_iconst (v := iI 1) hx hb dX0_freeFrom_1 rfl ?_
  refine w_icmp_ge (tgt := 7) hx hb dX0_freeFrom_2 (by decide) ⟨by omega, by omega⟩ ⟨by omega, by omega⟩ (fun c2 => ?_) (fun c2 => ?_)
  · refine lv_iload_n hx hb dX0_freeFrom_7 rfl (lv_at hl 1 rfl) ?_
    refine lv_iconst (v := iI 1) hx hb dX0_freeFrom_8 rfl ?_
    refine w_icmp_ne (tgt := 37) hx hb dX0_freeFrom_9 (by decide) ⟨by omega, by omega⟩ ⟨by omega, by omega⟩ (fun c9 => ?_) (fun c9 => ?_)
    · refine lv_aload_n hx hb dX0_freeFrom_37 rfl (lv_at hl 0 rfl) ?_
      refine va_get (D := D) (ci := 0) (C := RX0) (T := TX0) (N := 13) hx hb hts inW hown hK hP 0 rfl rfl 4 (by decide) (hts (.fieldLink RX0 23 "Flowforge" "ends" "[I") (List.mem_of_getElem? (i := 3) rfl)) (fun _ h9 => h9) rfl dX0_freeFrom_38 ?_
      refine lv_iload_n hx hb dX0_freeFrom_41 rfl (lv_at hl 2 rfl) ?_
      refine lv_iconst (v := iI 1) hx hb dX0_freeFrom_42 rfl ?_
      refine w_isub (z := (q : Int) - 1) hx hb dX0_freeFrom_43 (by omega) ?_
      refine lv_iload_n hx hb dX0_freeFrom_44 rfl (lv_at hl 3 rfl) ?_
      refine w_pS (As := [.int (iI ((q : Int) - 1)), .int (iI ((k : Int)))]) (rest := [.ref (ad 3)]) ⟨hx, hb, hml, hown, hts⟩ hK hP (mX0_cell  ) (va_cwS 2 hts gX0_freeFrom_X0_cell rfl rfl rfl (by decide +kernel) ⟨Nat.le_of_ble_eq_true rfl, Nat.le_of_ble_eq_true rfl⟩) rfl hl.1 rfl (Nat.le_of_ble_eq_true rfl) dX0_freeFrom_45 ⟨Nat.zero_le _, Nat.zero_le _⟩ (fun r45 hr45 => ?_)
      refine w_top (v := iI (5 * (q : Int) + (k : Int) - 5)) (hr45.trans (congrArg iI (by omega))) ?_
      refine w_iald (v := iI (tE (5 * (q - 1) + k))) hx hb hK hP 3 0 rfl rfl (5 * (q - 1) + k) (by omega) (by omega) (by decide) rfl dX0_freeFrom_48 ?_
      exact hret 49 ls _ (by unfold frm prv; rw [if_neg (by omega), if_neg (by omega)]) dX0_freeFrom_49
    · refine lv_iload_n hx hb dX0_freeFrom_12 rfl (lv_at hl 3 rfl) ?_
      refine lv_aload_n hx hb dX0_freeFrom_13 rfl (lv_at hl 0 rfl) ?_
      refine va_get (D := D) (ci := 0) (C := RX0) (T := TX0) (N := 13) hx hb hts inW hown hK hP 0 rfl rfl 1 (by decide) (hts (.fieldLink RX0 13 "Flowforge" "machineCount" "I") (List.mem_of_getElem? (i := 1) rfl)) (fun _ h9 => h9) rfl dX0_freeFrom_14 ?_
      refine lv_iconst (v := iI 1) hx hb dX0_freeFrom_17 rfl ?_
      refine w_isub (z := (mm : Int) - 1) hx hb dX0_freeFrom_18 (by omega) ?_
      refine w_icmp_ge (tgt := 37) hx hb dX0_freeFrom_19 (by decide) ⟨by omega, by omega⟩ ⟨by omega, by omega⟩ (fun c19 => ?_) (fun c19 => ?_)
      · refine lv_aload_n hx hb dX0_freeFrom_37 rfl (lv_at hl 0 rfl) ?_
        refine va_get (D := D) (ci := 0) (C := RX0) (T := TX0) (N := 13) hx hb hts inW hown hK hP 0 rfl rfl 4 (by decide) (hts (.fieldLink RX0 23 "Flowforge" "ends" "[I") (List.mem_of_getElem? (i := 3) rfl)) (fun _ h9 => h9) rfl dX0_freeFrom_38 ?_
        refine lv_iload_n hx hb dX0_freeFrom_41 rfl (lv_at hl 2 rfl) ?_
        refine lv_iconst (v := iI 1) hx hb dX0_freeFrom_42 rfl ?_
        refine w_isub (z := (q : Int) - 1) hx hb dX0_freeFrom_43 (by omega) ?_
        refine lv_iload_n hx hb dX0_freeFrom_44 rfl (lv_at hl 3 rfl) ?_
        refine w_pS (As := [.int (iI ((q : Int) - 1)), .int (iI ((k : Int)))]) (rest := [.ref (ad 3)]) ⟨hx, hb, hml, hown, hts⟩ hK hP (mX0_cell  ) (va_cwS 2 hts gX0_freeFrom_X0_cell rfl rfl rfl (by decide +kernel) ⟨Nat.le_of_ble_eq_true rfl, Nat.le_of_ble_eq_true rfl⟩) rfl hl.1 rfl (Nat.le_of_ble_eq_true rfl) dX0_freeFrom_45 ⟨Nat.zero_le _, Nat.zero_le _⟩ (fun r45 hr45 => ?_)
        refine w_top (v := iI (5 * (q : Int) + (k : Int) - 5)) (hr45.trans (congrArg iI (by omega))) ?_
        refine w_iald (v := iI (tE (5 * (q - 1) + k))) hx hb hK hP 3 0 rfl rfl (5 * (q - 1) + k) (by omega) (by omega) (by decide) rfl dX0_freeFrom_48 ?_
        exact hret 49 ls _ (by unfold frm prv; rw [if_neg (by omega), if_neg (by omega)]) dX0_freeFrom_49
      · refine lv_aload_n hx hb dX0_freeFrom_22 rfl (lv_at hl 0 rfl) ?_
        refine va_get (D := D) (ci := 0) (C := RX0) (T := TX0) (N := 13) hx hb hts inW hown hK hP 0 rfl rfl 3 (by decide) (hts (.fieldLink RX0 20 "Flowforge" "begins" "[I") (List.mem_of_getElem? (i := 2) rfl)) (fun _ h9 => h9) rfl dX0_freeFrom_23 ?_
        refine lv_iload_n hx hb dX0_freeFrom_26 rfl (lv_at hl 2 rfl) ?_
        refine lv_iconst (v := iI 1) hx hb dX0_freeFrom_27 rfl ?_
        refine w_isub (z := (q : Int) - 1) hx hb dX0_freeFrom_28 (by omega) ?_
        refine lv_iload_n hx hb dX0_freeFrom_29 rfl (lv_at hl 3 rfl) ?_
        refine lv_iconst (v := iI 1) hx hb dX0_freeFrom_30 rfl ?_
        refine w_iadd (z := (k : Int) + 1) hx hb dX0_freeFrom_31 (by omega) ?_
        refine w_pS (As := [.int (iI ((q : Int) - 1)), .int (iI ((k : Int) + 1))]) (rest := [.ref (ad 2)]) ⟨hx, hb, hml, hown, hts⟩ hK hP (mX0_cell  ) (va_cwS 2 hts gX0_freeFrom_X0_cell rfl rfl rfl (by decide +kernel) ⟨Nat.le_of_ble_eq_true rfl, Nat.le_of_ble_eq_true rfl⟩) rfl hl.1 rfl (Nat.le_of_ble_eq_true rfl) dX0_freeFrom_32 ⟨Nat.zero_le _, Nat.zero_le _⟩ (fun r32 hr32 => ?_)
        refine w_top (v := iI (5 * (q : Int) + (k : Int) - 4)) (hr32.trans (congrArg iI (by omega))) ?_
        refine w_iald (v := iI (tB (5 * (q - 1) + (k + 1)))) hx hb hK hP 2 0 rfl rfl (5 * (q - 1) + (k + 1)) (by omega) (by omega) (by decide) rfl dX0_freeFrom_35 ?_
        exact hret 36 ls _ (by unfold frm prv; rw [if_pos ⟨by omega, by omega⟩, if_neg (by omega)]) dX0_freeFrom_36
  · refine lv_iconst (v := iI 0) hx hb dX0_freeFrom_5 rfl ?_
    exact hret 6 ls _ (by rw [show q = 0 by omega, frm_0]) dX0_freeFrom_6
set_option maxHeartbeats 4000000 in
set_option maxRecDepth 100000 in
theorem mX0_beginWithoutWaiting {q j : Nat} (hT : ∀ k, 0 ≤ tT k ∧ tT k ≤ 99) (hm : 1 ≤ mm ∧ mm ≤ 5) (hp : q < 7) (hj : j < 7) (hB : ∀ k, k < mm → (0 ≤ prv tB q k ∧ prv tB q k ≤ 1000000) ∧ 0 ≤ prv tE q k ∧ prv tE q k ≤ 1000000) : PM l yX0_beginWithoutWaiting wsX0_beginWithoutWaiting (rmx 2 44) D (tyk cI cZ cJ) (xw ad cI cZ nn mm tT tB tE tL oO oR oQ zS zM zN oJ) [.ref (ad 0), .int (iI ((q : Int))), .int (iI ((j : Int)))] (vp_Si (fun x => x = iI (stC (tj tT j) (prv tE q) mm))) := by
  refine pmI_of (cc := cX0_beginWithoutWaiting) (maxL := 6) (by decide) rfl (Nat.le_of_ble_eq_true rfl) ?_
  intro p e s m args below meth c Q hx hb hml hown hts hK hP hret ls hl
  have hown : s.vm.findClass RX0 = some m.cls := hown
  have hl : lv_has ls 6 [(0, .ref (ad 0)), (1, .int (iI ((q : Int)))), (2, .int (iI ((j : Int))))] := hl
  have inW : ∀ w ∈ wsX00, w ∈ wsX0_beginWithoutWaiting := by first | exact (fun w h => List.mem_cons_of_mem _ (List.mem_append_right _ h)) | exact (fun w h => List.mem_cons_of_mem _ (List.mem_append_left _ (List.mem_append_right _ h))) | exact (fun w h => List.mem_cons_of_mem _ (List.mem_append_left _ (List.mem_append_left _ (List.mem_append_right _ h)))) | decide +kernel
  refine lv_iconst (v := iI 0) hx hb dX0_beginWithoutWaiting_0 rfl ?_
  refine lv_istore_n (lv' := [(3, .int (iI 0)), (0, .ref (ad 0)), (1, .int (iI ((q : Int)))), (2, .int (iI ((j : Int))))]) hx hb dX0_beginWithoutWaiting_1 rfl hl (by decide) rfl (fun ls hl => ?_)
  refine lv_iconst (v := iI 0) hx hb dX0_beginWithoutWaiting_2 rfl ?_
  refine lv_istore (lv' := [(4, .int (iI 0)), (3, .int (iI 0)), (0, .ref (ad 0)), (1, .int (iI ((q : Int)))), (2, .int (iI ((j : Int))))]) hx hb dX0_beginWithoutWaiting_3 hl (by decide) rfl (fun ls hl => ?_)
  refine lv_iconst (v := iI 0) hx hb dX0_beginWithoutWaiting_5 rfl ?_
  refine lv_istore (lv' := [(5, .int (iI 0)), (4, .int (iI 0)), (3, .int (iI 0)), (0, .ref (ad 0)), (1, .int (iI ((q : Int)))), (2, .int (iI ((j : Int))))]) hx hb dX0_beginWithoutWaiting_6 hl (by decide) rfl (fun ls hl => ?_)
  have L8 : ∀ (fu : Nat) (i : Nat) (x5_8 : Int) (x4_8 : Int) (x3_8 : Int), (i ≤ mm) → (x5_8 = (i : Int)) → (x4_8 = (wyC (tj tT j) i)) → (x3_8 = (stC (tj tT j) (prv tE q) i)) → mm - i < fu → ∀ ls : Array Slot, lv_has ls 6 [(5, .int (iI (x5_8))), (4, .int (iI (x4_8))), (3, .int (iI (x3_8))), (0, .ref (ad 0)), (1, .int (iI ((q : Int)))), (2, .int (iI ((j : Int))))] → W p l e (rmx 2 44) s m args below meth c s.heap [] 0 0 Q (F0 m 8 ls []) := by
    intro fu
    induction fu with
    | zero =>
      intro i x5_8 x4_8 x3_8 hi hq0 hq1 hq2 hfu
      exact absurd hfu (Nat.not_lt_zero _)
    | succ fu ih =>
      intro i x5_8 x4_8 x3_8 hi hq0 hq1 hq2 hfu ls hl
      subst hq0
      subst hq1
      subst hq2
      have ih8 := ih
      have h9 := stC_rg (K := 1000000) (by omega) (tj_rg hT j) (fun k hk => (hB k hk).2.2) i hi
      have h8 := wyC_rg (tj_rg hT j) i
      refine lv_iload hx hb dX0_beginWithoutWaiting_8 (lv_at hl 0 rfl) ?_
      refine lv_aload_n hx hb dX0_beginWithoutWaiting_10 rfl (lv_at hl 3 rfl) ?_
      refine va_get (D := D) (ci := 0) (C := RX0) (T := TX0) (N := 13) hx hb hts inW hown hK hP 0 rfl rfl 1 (by decide) (hts (.fieldLink RX0 13 "Flowforge" "machineCount" "I") (List.mem_of_getElem? (i := 1) rfl)) (fun _ h9 => h9) rfl dX0_beginWithoutWaiting_11 ?_
      refine w_icmp_ge (tgt := 51) hx hb dX0_beginWithoutWaiting_14 (by decide) ⟨by omega, by omega⟩ ⟨by omega, by omega⟩ (fun c14 => ?_) (fun c14 => ?_)
      · refine lv_iload_n hx hb dX0_beginWithoutWaiting_51 rfl (lv_at hl 2 rfl) ?_
        exact hret 52 ls _ (by rw [show i = mm by omega]) dX0_beginWithoutWaiting_52
      · refine lv_iload_n hx hb dX0_beginWithoutWaiting_17 rfl (lv_at hl 2 rfl) ?_
        refine lv_aload_n hx hb dX0_beginWithoutWaiting_18 rfl (lv_at hl 3 rfl) ?_
        refine lv_iconst (v := iI 2) hx hb dX0_beginWithoutWaiting_19 rfl ?_
        refine lv_iload_n hx hb dX0_beginWithoutWaiting_20 rfl (lv_at hl 4 rfl) ?_
        refine lv_iload hx hb dX0_beginWithoutWaiting_21 (lv_at hl 0 rfl) ?_
        have h7 := hB i (by omega)
        refine w_pV (As := [.int (iI 2), .int (iI ((q : Int))), .int (iI ((i : Int)))]) (rest := [.int (iI ((stC (tj tT j) (prv tE q) i)))]) ⟨hx, hb, hml, hown, hts⟩ hK hP (mX0_freeFrom  (v := 2) hm (by omega) hp (by omega)) (cwV 3 hts gX0_beginWithoutWaiting_X0_freeFrom rfl rfl rfl (by decide +kernel) ⟨Nat.le_of_ble_eq_true rfl, Nat.le_of_ble_eq_true rfl⟩) (ci := 0) rfl rfl rfl rfl hl.1 rfl (Nat.le_of_ble_eq_true rfl) dX0_beginWithoutWaiting_23 ⟨Nat.zero_le _, Nat.zero_le _⟩ (fun r23 hr23 => ?_)
        refine w_top (v := iI ((prv tE q i))) (hr23.trans (congrArg iI frm_2)) ?_
        refine lv_iload hx hb dX0_beginWithoutWaiting_26 (lv_at hl 1 rfl) ?_
        refine w_isub (z := (prv tE q i) - (wyC (tj tT j) i)) hx hb dX0_beginWithoutWaiting_28 (by omega) ?_
        refine va_mmax hx hb (hml.trans hl.1.symm) hown (hts (.methodLink RX0 167 Lib.Math.max.name) (List.mem_of_getElem? (i := 2) rfl)) (hts (.static Lib.Math.max.name) (List.mem_of_getElem? (i := 3) rfl)) (hts (.initialized "java/lang/Math") (List.mem_of_getElem? (i := 4) rfl)) (hts (.code Lib.Math.max.name Lib.Math.max.code 2 (some .int)) (List.mem_of_getElem? (i := 5) rfl)) (Nat.le_of_ble_eq_true rfl) (Nat.le_of_ble_eq_true rfl) (Nat.zero_le _) (Nat.zero_le _) dX0_beginWithoutWaiting_29 ?_
        refine w_top (v := iI ((max ((stC (tj tT j) (prv tE q) i)) ((prv tE q i) - (wyC (tj tT j) i))))) (iI_max ⟨by omega, by omega⟩ ⟨by omega, by omega⟩) ?_
        refine lv_istore_n (lv' := [(3, .int (iI ((max ((stC (tj tT j) (prv tE q) i)) ((prv tE q i) - (wyC (tj tT j) i)))))), (5, .int (iI ((i : Int)))), (4, .int (iI ((wyC (tj tT j) i)))), (0, .ref (ad 0)), (1, .int (iI ((q : Int)))), (2, .int (iI ((j : Int))))]) hx hb dX0_beginWithoutWaiting_32 rfl hl (by decide) rfl (fun ls hl => ?_)
        refine lv_iload hx hb dX0_beginWithoutWaiting_33 (lv_at hl 2 rfl) ?_
        refine lv_aload_n hx hb dX0_beginWithoutWaiting_35 rfl (lv_at hl 3 rfl) ?_
        refine lv_iload_n hx hb dX0_beginWithoutWaiting_36 rfl (lv_at hl 5 rfl) ?_
        refine lv_iload hx hb dX0_beginWithoutWaiting_37 (lv_at hl 1 rfl) ?_
        refine w_pV (As := [.int (iI ((j : Int))), .int (iI ((i : Int)))]) (rest := [.int (iI ((wyC (tj tT j) i)))]) ⟨hx, hb, hml, hown, hts⟩ hK hP (mX0_timeOf  hj (by omega)) (cwV 2 hts gX0_beginWithoutWaiting_X0_timeOf rfl rfl rfl (by decide +kernel) ⟨Nat.le_of_ble_eq_true rfl, Nat.le_of_ble_eq_true rfl⟩) (ci := 0) rfl rfl rfl rfl hl.1 rfl (Nat.le_of_ble_eq_true rfl) dX0_beginWithoutWaiting_39 ⟨Nat.zero_le _, Nat.zero_le _⟩ (fun r39 hr39 => ?_)
        refine w_top (v := iI ((tT (5 * j + i)))) (hr39) ?_
        refine w_iadd (z := (wyC (tj tT j) i) + (tT (5 * j + i))) hx hb dX0_beginWithoutWaiting_42 (by omega) ?_
        refine lv_istore (lv' := [(4, .int (iI ((wyC (tj tT j) i) + (tT (5 * j + i))))), (3, .int (iI ((max ((stC (tj tT j) (prv tE q) i)) ((prv tE q i) - (wyC (tj tT j) i)))))), (5, .int (iI ((i : Int)))), (0, .ref (ad 0)), (1, .int (iI ((q : Int)))), (2, .int (iI ((j : Int))))]) hx hb dX0_beginWithoutWaiting_43 hl (by decide) rfl (fun ls hl => ?_)
        refine lv_iinc (v := iI ((i : Int) + 1)) (lv' := [(5, .int (iI ((i : Int) + 1))), (4, .int (iI ((wyC (tj tT j) i) + (tT (5 * j + i))))), (3, .int (iI ((max ((stC (tj tT j) (prv tE q) i)) ((prv tE q i) - (wyC (tj tT j) i)))))), (0, .ref (ad 0)), (1, .int (iI ((q : Int)))), (2, .int (iI ((j : Int))))]) hx hb dX0_beginWithoutWaiting_45 hl (k := 2) rfl (iI_inc (by omega)) (by decide) rfl (fun ls hl => ?_)
        refine lv_goto (tgt := 8) hx hb dX0_beginWithoutWaiting_48 (by decide) ?_
        exact ih8 (i + 1) ((i : Int) + 1) ((wyC (tj tT j) i) + (tT (5 * j + i))) ((max ((stC (tj tT j) (prv tE q) i)) ((prv tE q i) - (wyC (tj tT j) i)))) (by omega) (by omega) (rfl) (rfl) (by omega) ls (lv_sub hl [0, 1, 2, 3, 4, 5] rfl)
  exact L8 (mm - 0 + 1) 0 (0) (0) (0) (by omega) (by omega) (rfl) (rfl) (Nat.lt_succ_self _) ls (lv_sub hl [0, 1, 2, 3, 4, 5] rfl)
set_option maxHeartbeats 4000000 in
set_option maxRecDepth 100000 in
theorem mX0_scheduleJob {v q j : Nat} (hT : ∀ k, 0 ≤ tT k ∧ tT k ≤ 99) (hm : 1 ≤ mm ∧ mm ≤ 5) (hv : v ≤ 2) (hp : q < 7) (hj : j < 7) (hB : ∀ k, k < mm → (0 ≤ prv tB q k ∧ prv tB q k ≤ 1000000) ∧ 0 ≤ prv tE q k ∧ prv tE q k ≤ 1000000) : IM l yX0_scheduleJob wsX0_scheduleJob (rmx 3 69) D (tyk cI cZ cJ) (xw ad cI cZ nn mm tT tB tE tL oO oR oQ zS zM zN oJ) [.ref (ad 0), .int (iI ((v : Int))), .int (iI ((q : Int))), .int (iI ((j : Int)))] (QV D (tyk cI cZ cJ) (fun u : Unit => xw ad cI cZ nn mm tT (pt tB (sjB v mm tT q j tB tE) (5 * q) mm) (pt tE (sjE v mm tT q j tB tE) (5 * q) mm) tL oO oR oQ zS zM zN oJ) (fun _ => True)) := by
  refine imV_of (cc := cX0_scheduleJob) (maxL := 7) (by decide) rfl (Nat.le_of_ble_eq_true rfl) ?_
  intro p e s m args below meth c A Q hx hb hml hown hts hA hK hP hD hS hret ls hl
  have hown : s.vm.findClass RX0 = some m.cls := hown
  have hl : lv_has ls 7 [(0, .ref (ad 0)), (1, .int (iI ((v : Int)))), (2, .int (iI ((q : Int)))), (3, .int (iI ((j : Int))))] := hl
  have inW : ∀ w ∈ wsX00, w ∈ wsX0_scheduleJob := by first | exact (fun w h => List.mem_cons_of_mem _ (List.mem_append_right _ h)) | exact (fun w h => List.mem_cons_of_mem _ (List.mem_append_left _ (List.mem_append_right _ h))) | exact (fun w h => List.mem_cons_of_mem _ (List.mem_append_left _ (List.mem_append_left _ (List.mem_append_right _ h)))) | decide +kernel
  refine lv_iload_n hx hb dX0_scheduleJob_0 rfl (lv_at hl 1 rfl) ?_
  refine lv_iconst (v := iI 2) hx hb dX0_scheduleJob_1 rfl ?_
  have J15 : ∀ (H : Heap) (locs : List Loc), va_P D vwCl (xw ad cI cZ nn mm tT tB tE tL oO oR oQ zS zM zN oJ) H → va_D A (xw ad cI cZ nn mm tT tB tE tL oO oR oQ zS zM zN oJ) → va_S A s.heap H locs → ∀ ls : Array Slot, lv_has ls 7 [(0, .ref (ad 0)), (1, .int (iI ((v : Int)))), (2, .int (iI ((q : Int)))), (3, .int (iI ((j : Int))))] → W p l e (rmx 3 69) s m args below meth c H locs 0 0 Q (F0 m 15 ls [.int (iI ((m0v v mm (tj tT j) (prv tE q))))]) := by
    intro H locs hP hD hS ls hl
    refine lv_istore (lv' := [(4, .int (iI ((m0v v mm (tj tT j) (prv tE q))))), (0, .ref (ad 0)), (1, .int (iI ((v : Int)))), (2, .int (iI ((q : Int)))), (3, .int (iI ((j : Int))))]) hx hb dX0_scheduleJob_15 hl (by decide) rfl (fun ls hl => ?_)
    refine lv_iconst (v := iI 0) hx hb dX0_scheduleJob_17 rfl ?_
    refine lv_istore (lv' := [(5, .int (iI 0)), (4, .int (iI ((m0v v mm (tj tT j) (prv tE q))))), (0, .ref (ad 0)), (1, .int (iI ((v : Int)))), (2, .int (iI ((q : Int)))), (3, .int (iI ((j : Int))))]) hx hb dX0_scheduleJob_18 hl (by decide) rfl (fun ls hl => ?_)
    have L20 : ∀ (fu : Nat) (i : Nat) (wbegins20 : Nat → Int) (wends20 : Nat → Int) (x5_20 : Int) (x4_20 : Int), (i ≤ mm) → (wbegins20 = pt tB (sjB v mm tT q j tB tE) (5 * q) i) → (wends20 = pt tE (sjE v mm tT q j tB tE) (5 * q) i) → (x5_20 = (i : Int)) → (x4_20 = (mom v mm (tj tT j) (prv tB q) (prv tE q) (m0v v mm (tj tT j) (prv tE q)) i)) → mm - i < fu → ∀ (H : Heap) (locs : List Loc), va_P D vwCl (xw ad cI cZ nn mm tT wbegins20 wends20 tL oO oR oQ zS zM zN oJ) H → va_D A (xw ad cI cZ nn mm tT wbegins20 wends20 tL oO oR oQ zS zM zN oJ) → va_S A s.heap H locs → ∀ ls : Array Slot, lv_has ls 7 [(5, .int (iI (x5_20))), (4, .int (iI (x4_20))), (0, .ref (ad 0)), (1, .int (iI ((v : Int)))), (2, .int (iI ((q : Int)))), (3, .int (iI ((j : Int))))] → W p l e (rmx 3 69) s m args below meth c H locs 0 0 Q (F0 m 20 ls []) := by
      intro fu
      induction fu with
      | zero =>
        intro i wbegins20 wends20 x5_20 x4_20 hi hq0 hq1 hq2 hq3 hfu
        exact absurd hfu (Nat.not_lt_zero _)
      | succ fu ih =>
        intro i wbegins20 wends20 x5_20 x4_20 hi hq0 hq1 hq2 hq3 hfu H locs hP hD hS ls hl
        subst hq0
        subst hq1
        subst hq2
        subst hq3
        have ih20 := ih
        have h9 := mom_rg (v := v) (tj_rg hT j) hB (m0v_rg (v := v) (mm := mm) (e := prv tE q) (K := 1000000) (by omega) (tj_rg hT j) (fun k hk => (hB k hk).2.2)) i hi
        refine lv_iload hx hb dX0_scheduleJob_20 (lv_at hl 0 rfl) ?_
        refine lv_aload_n hx hb dX0_scheduleJob_22 rfl (lv_at hl 2 rfl) ?_
        refine va_get (D := D) (ci := 0) (C := RX0) (T := TX0) (N := 13) hx hb hts inW hown hK hP 0 rfl rfl 1 (by decide) (hts (.fieldLink RX0 13 "Flowforge" "machineCount" "I") (List.mem_of_getElem? (i := 1) rfl)) (fun _ h9 => h9) rfl dX0_scheduleJob_23 ?_
        refine w_icmp_ge (tgt := 88) hx hb dX0_scheduleJob_26 (by decide) ⟨by omega, by omega⟩ ⟨by omega, by omega⟩ (fun c26 => ?_) (fun c26 => ?_)
        · obtain rfl : mm = i := by omega
          exact hret _ _ 88 ls (()) hP hD hS (trivial) dX0_scheduleJob_88
        · have h8 := frm_rg (v := v) hB (show i < mm by omega)
          refine lv_iload hx hb dX0_scheduleJob_29 (lv_at hl 1 rfl) ?_
          refine lv_aload_n hx hb dX0_scheduleJob_31 rfl (lv_at hl 2 rfl) ?_
          refine lv_iload_n hx hb dX0_scheduleJob_32 rfl (lv_at hl 3 rfl) ?_
          refine lv_iload_n hx hb dX0_scheduleJob_33 rfl (lv_at hl 4 rfl) ?_
          refine lv_iload hx hb dX0_scheduleJob_34 (lv_at hl 0 rfl) ?_
          refine w_pV (As := [.int (iI ((v : Int))), .int (iI ((q : Int))), .int (iI ((i : Int)))]) (rest := [.int (iI ((mom v mm (tj tT j) (prv tB q) (prv tE q) (m0v v mm (tj tT j) (prv tE q)) i)))]) ⟨hx, hb, hml, hown, hts⟩ hK hP (mX0_freeFrom  hm hv hp (by omega)) (cwV 3 hts gX0_scheduleJob_X0_freeFrom rfl rfl rfl (by decide +kernel) ⟨Nat.le_of_ble_eq_true rfl, Nat.le_of_ble_eq_true rfl⟩) (ci := 0) rfl rfl rfl rfl hl.1 rfl (Nat.le_of_ble_eq_true rfl) dX0_scheduleJob_36 ⟨Nat.zero_le _, Nat.zero_le _⟩ (fun r36 hr36 => ?_)
          refine w_top (v := iI ((frm v mm (prv tB q) (prv tE q) i))) (hr36.trans (congrArg iI (frm_pt hm.2 (by omega)))) ?_
          refine va_mmax hx hb (hml.trans hl.1.symm) hown (hts (.methodLink RX0 167 Lib.Math.max.name) (List.mem_of_getElem? (i := 2) rfl)) (hts (.static Lib.Math.max.name) (List.mem_of_getElem? (i := 3) rfl)) (hts (.initialized "java/lang/Math") (List.mem_of_getElem? (i := 4) rfl)) (hts (.code Lib.Math.max.name Lib.Math.max.code 2 (some .int)) (List.mem_of_getElem? (i := 5) rfl)) (Nat.le_of_ble_eq_true rfl) (Nat.le_of_ble_eq_true rfl) (Nat.zero_le _) (Nat.zero_le _) dX0_scheduleJob_39 ?_
          refine w_top (v := iI ((sjB v mm tT q j tB tE i))) (iI_max ⟨by omega, by omega⟩ ⟨by omega, by omega⟩) ?_
          refine lv_istore (lv' := [(6, .int (iI ((sjB v mm tT q j tB tE i)))), (5, .int (iI ((i : Int)))), (4, .int (iI ((mom v mm (tj tT j) (prv tB q) (prv tE q) (m0v v mm (tj tT j) (prv tE q)) i)))), (0, .ref (ad 0)), (1, .int (iI ((v : Int)))), (2, .int (iI ((q : Int)))), (3, .int (iI ((j : Int))))]) hx hb dX0_scheduleJob_42 hl (by decide) rfl (fun ls hl => ?_)
          refine lv_aload_n hx hb dX0_scheduleJob_44 rfl (lv_at hl 3 rfl) ?_
          refine va_get (D := D) (ci := 0) (C := RX0) (T := TX0) (N := 13) hx hb hts inW hown hK hP 0 rfl rfl 3 (by decide) (hts (.fieldLink RX0 20 "Flowforge" "begins" "[I") (List.mem_of_getElem? (i := 6) rfl)) (fun _ h9 => h9) rfl dX0_scheduleJob_45 ?_
          refine lv_iload_n hx hb dX0_scheduleJob_48 rfl (lv_at hl 5 rfl) ?_
          refine lv_iload hx hb dX0_scheduleJob_49 (lv_at hl 1 rfl) ?_
          refine w_pS (As := [.int (iI ((q : Int))), .int (iI ((i : Int)))]) (rest := [.ref (ad 2)]) ⟨hx, hb, hml, hown, hts⟩ hK hP (mX0_cell  ) (va_cwS 2 hts gX0_scheduleJob_X0_cell rfl rfl rfl (by decide +kernel) ⟨Nat.le_of_ble_eq_true rfl, Nat.le_of_ble_eq_true rfl⟩) rfl hl.1 rfl (Nat.le_of_ble_eq_true rfl) dX0_scheduleJob_51 ⟨Nat.zero_le _, Nat.zero_le _⟩ (fun r51 hr51 => ?_)
          refine w_top (v := iI (5 * (q : Int) + (i : Int))) (hr51.trans (congrArg iI (by omega))) ?_
          refine lv_iload hx hb dX0_scheduleJob_54 (lv_at hl 0 rfl) ?_
          refine w_iast (g := tI (pt tB (sjB v mm tT q j tB tE) (5 * q) (i + 1))) (ws' := xw ad cI cZ nn mm tT (pt tB (sjB v mm tT q j tB tE) (5 * q) (i + 1)) (pt tE (sjE v mm tT q j tB tE) (5 * q) i) tL oO oR oQ zS zM zN oJ) hx hb hK hP hD hS 2 0 rfl rfl (5 * q + i) (by omega) (by omega) (by decide) (hg := (tI_up.trans (congrArg tI pt_s))) (hw := rfl) (hd := dX0_scheduleJob_56) (kk := fun H locs hP hD hS => ?_)
          refine lv_iload hx hb dX0_scheduleJob_57 (lv_at hl 0 rfl) ?_
          refine lv_aload_n hx hb dX0_scheduleJob_59 rfl (lv_at hl 3 rfl) ?_
          refine lv_iload_n hx hb dX0_scheduleJob_60 rfl (lv_at hl 6 rfl) ?_
          refine lv_iload hx hb dX0_scheduleJob_61 (lv_at hl 1 rfl) ?_
          refine w_pV (As := [.int (iI ((j : Int))), .int (iI ((i : Int)))]) (rest := [.int (iI ((sjB v mm tT q j tB tE i)))]) ⟨hx, hb, hml, hown, hts⟩ hK hP (mX0_timeOf  hj (by omega)) (cwV 2 hts gX0_scheduleJob_X0_timeOf rfl rfl rfl (by decide +kernel) ⟨Nat.le_of_ble_eq_true rfl, Nat.le_of_ble_eq_true rfl⟩) (ci := 0) rfl rfl rfl rfl hl.1 rfl (Nat.le_of_ble_eq_true rfl) dX0_scheduleJob_63 ⟨Nat.zero_le _, Nat.zero_le _⟩ (fun r63 hr63 => ?_)
          refine w_top (v := iI ((tT (5 * j + i)))) (hr63) ?_
          refine w_iadd (z := (sjE v mm tT q j tB tE i)) hx hb dX0_scheduleJob_66 (rfl) ?_
          refine lv_istore (lv' := [(4, .int (iI ((sjE v mm tT q j tB tE i)))), (6, .int (iI ((sjB v mm tT q j tB tE i)))), (5, .int (iI ((i : Int)))), (0, .ref (ad 0)), (1, .int (iI ((v : Int)))), (2, .int (iI ((q : Int)))), (3, .int (iI ((j : Int))))]) hx hb dX0_scheduleJob_67 hl (by decide) rfl (fun ls hl => ?_)
          refine lv_aload_n hx hb dX0_scheduleJob_69 rfl (lv_at hl 3 rfl) ?_
          refine va_get (D := D) (ci := 0) (C := RX0) (T := TX0) (N := 13) hx hb hts inW hown hK hP 0 rfl rfl 4 (by decide) (hts (.fieldLink RX0 23 "Flowforge" "ends" "[I") (List.mem_of_getElem? (i := 7) rfl)) (fun _ h9 => h9) rfl dX0_scheduleJob_70 ?_
          refine lv_iload_n hx hb dX0_scheduleJob_73 rfl (lv_at hl 5 rfl) ?_
          refine lv_iload hx hb dX0_scheduleJob_74 (lv_at hl 2 rfl) ?_
          refine w_pS (As := [.int (iI ((q : Int))), .int (iI ((i : Int)))]) (rest := [.ref (ad 3)]) ⟨hx, hb, hml, hown, hts⟩ hK hP (mX0_cell  ) (va_cwS 2 hts gX0_scheduleJob_X0_cell rfl rfl rfl (by decide +kernel) ⟨Nat.le_of_ble_eq_true rfl, Nat.le_of_ble_eq_true rfl⟩) rfl hl.1 rfl (Nat.le_of_ble_eq_true rfl) dX0_scheduleJob_76 ⟨Nat.zero_le _, Nat.zero_le _⟩ (fun r76 hr76 => ?_)
          refine w_top (v := iI (5 * (q : Int) + (i : Int))) (hr76.trans (congrArg iI (by omega))) ?_
          refine lv_iload hx hb dX0_scheduleJob_79 (lv_at hl 0 rfl) ?_
          refine w_iast (g := tI (pt tE (sjE v mm tT q j tB tE) (5 * q) (i + 1))) (ws' := xw ad cI cZ nn mm tT (pt tB (sjB v mm tT q j tB tE) (5 * q) (i + 1)) (pt tE (sjE v mm tT q j tB tE) (5 * q) (i + 1)) tL oO oR oQ zS zM zN oJ) hx hb hK hP hD hS 3 0 rfl rfl (5 * q + i) (by omega) (by omega) (by decide) (hg := (tI_up.trans (congrArg tI pt_s))) (hw := rfl) (hd := dX0_scheduleJob_81) (kk := fun H locs hP hD hS => ?_)
          refine lv_iinc (v := iI ((i : Int) + 1)) (lv' := [(5, .int (iI ((i : Int) + 1))), (4, .int (iI ((sjE v mm tT q j tB tE i)))), (6, .int (iI ((sjB v mm tT q j tB tE i)))), (0, .ref (ad 0)), (1, .int (iI ((v : Int)))), (2, .int (iI ((q : Int)))), (3, .int (iI ((j : Int))))]) hx hb dX0_scheduleJob_82 hl (k := 2) rfl (iI_inc (by omega)) (by decide) rfl (fun ls hl => ?_)
          refine lv_goto (tgt := 20) hx hb dX0_scheduleJob_85 (by decide) ?_
          exact ih20 (i + 1) (pt tB (sjB v mm tT q j tB tE) (5 * q) (i + 1)) (pt tE (sjE v mm tT q j tB tE) (5 * q) (i + 1)) ((i : Int) + 1) ((sjE v mm tT q j tB tE i)) (by omega) (rfl) (rfl) (by omega) (rfl) (by omega) _ _ hP hD hS ls (lv_sub hl [0, 1, 3, 4, 5, 6] rfl)
    exact L20 (mm - 0 + 1) 0 tB tE (0) ((m0v v mm (tj tT j) (prv tE q))) (by omega) ((pt_0 _ _ _).symm) ((pt_0 _ _ _).symm) (by omega) (rfl) (Nat.lt_succ_self _) _ _ hP hD hS ls (lv_sub hl [0, 1, 2, 3, 4, 5] rfl)
  refine w_icmp_ne (tgt := 14) hx hb dX0_scheduleJob_2 (by decide) ⟨by omega, by omega⟩ ⟨by omega, by omega⟩ (fun c2 => ?_) (fun c2 => ?_)
  · refine lv_iconst (v := iI 0) hx hb dX0_scheduleJob_14 rfl ?_
    refine w_top (v := iI ((m0v v mm (tj tT j) (prv tE q)))) (by unfold m0v; rw [if_neg (by omega)]) ?_
    exact J15  _ _ hP hD hS ls (lv_sub hl [0, 1, 2, 3] rfl)
  · refine lv_aload_n hx hb dX0_scheduleJob_5 rfl (lv_at hl 0 rfl) ?_
    refine lv_iload_n hx hb dX0_scheduleJob_6 rfl (lv_at hl 2 rfl) ?_
    refine lv_iload_n hx hb dX0_scheduleJob_7 rfl (lv_at hl 3 rfl) ?_
    refine w_pV (As := [.int (iI ((q : Int))), .int (iI ((j : Int)))]) (rest := []) ⟨hx, hb, hml, hown, hts⟩ hK hP (mX0_beginWithoutWaiting  hT hm hp hj hB) (cwV 2 hts gX0_scheduleJob_X0_beginWithoutWaiting rfl rfl rfl (by decide +kernel) ⟨Nat.le_of_ble_eq_true rfl, Nat.le_of_ble_eq_true rfl⟩) (ci := 0) rfl rfl rfl rfl hl.1 rfl (Nat.le_of_ble_eq_true rfl) dX0_scheduleJob_8 ⟨Nat.zero_le _, Nat.zero_le _⟩ (fun r8 hr8 => ?_)
    refine w_top (v := iI ((stC (tj tT j) (prv tE q) mm))) (hr8) ?_
    refine lv_goto (tgt := 15) hx hb dX0_scheduleJob_11 (by decide) ?_
    refine w_top (v := iI ((m0v v mm (tj tT j) (prv tE q)))) (by unfold m0v; rw [if_pos (by omega)]) ?_
    exact J15  _ _ hP hD hS ls (lv_sub hl [0, 1, 2, 3] rfl)
set_option maxHeartbeats 4000000 in
set_option maxRecDepth 100000 in
theorem mX0_lastEnd {c0 : Nat} (hm : 1 ≤ mm ∧ mm ≤ 5) (hc : c0 ≤ 7) : PM l yX0_lastEnd wsX0_lastEnd (rmx 1 21) D (tyk cI cZ cJ) (xw ad cI cZ nn mm tT tB tE tL oO oR oQ zS zM zN oJ) [.ref (ad 0), .int (iI ((c0 : Int)))] (vp_Si (fun x => x = iI (lstE mm c0 tE))) := by
  refine pmI_of (cc := cX0_lastEnd) (maxL := 2) (by decide) rfl (Nat.le_of_ble_eq_true rfl) ?_
  intro p e s m args below meth c Q hx hb hml hown hts hK hP hret ls hl
  have hown : s.vm.findClass RX0 = some m.cls := hown
  have hl : lv_has ls 2 [(0, .ref (ad 0)), (1, .int (iI ((c0 : Int))))] := hl
  have inW : ∀ w ∈ wsX00, w ∈ wsX0_lastEnd := by first | exact (fun w h => List.mem_cons_of_mem _ (List.mem_append_right _ h)) | exact (fun w h => List.mem_cons_of_mem _ (List.mem_append_left _ (List.mem_append_right _ h))) | exact (fun w h => List.mem_cons_of_mem _ (List.mem_append_left _ (List.mem_append_left _ (List.mem_append_right _ h)))) | decide +kernel
  refine lv_iload_n hx hb dX0_lastEnd_0 rfl (lv_at hl 1 rfl) ?_
  refine lv_iconst (v := iI 1) hx hb dX0_lastEnd_1 rfl ?_
  refine w_icmp_ge (tgt := 7) hx hb dX0_lastEnd_2 (by decide) ⟨by omega, by omega⟩ ⟨by omega, by omega⟩ (fun c2 => ?_) (fun c2 => ?_)
  · refine lv_aload_n hx hb dX0_lastEnd_7 rfl (lv_at hl 0 rfl) ?_
    refine va_get (D := D) (ci := 0) (C := RX0) (T := TX0) (N := 13) hx hb hts inW hown hK hP 0 rfl rfl 4 (by decide) (hts (.fieldLink RX0 23 "Flowforge" "ends" "[I") (List.mem_of_getElem? (i := 1) rfl)) (fun _ h9 => h9) rfl dX0_lastEnd_8 ?_
    refine lv_iload_n hx hb dX0_lastEnd_11 rfl (lv_at hl 1 rfl) ?_
    refine lv_iconst (v := iI 1) hx hb dX0_lastEnd_12 rfl ?_
    refine w_isub (z := (c0 : Int) - 1) hx hb dX0_lastEnd_13 (by omega) ?_
    refine lv_aload_n hx hb dX0_lastEnd_14 rfl (lv_at hl 0 rfl) ?_
    refine va_get (D := D) (ci := 0) (C := RX0) (T := TX0) (N := 13) hx hb hts inW hown hK hP 0 rfl rfl 1 (by decide) (hts (.fieldLink RX0 13 "Flowforge" "machineCount" "I") (List.mem_of_getElem? (i := 2) rfl)) (fun _ h9 => h9) rfl dX0_lastEnd_15 ?_
    refine lv_iconst (v := iI 1) hx hb dX0_lastEnd_18 rfl ?_
    refine w_isub (z := (mm : Int) - 1) hx hb dX0_lastEnd_19 (by omega) ?_
    refine w_pS (As := [.int (iI ((c0 : Int) - 1)), .int (iI ((mm : Int) - 1))]) (rest := [.ref (ad 3)]) ⟨hx, hb, hml, hown, hts⟩ hK hP (mX0_cell  ) (va_cwS 2 hts gX0_lastEnd_X0_cell rfl rfl rfl (by decide +kernel) ⟨Nat.le_of_ble_eq_true rfl, Nat.le_of_ble_eq_true rfl⟩) rfl hl.1 rfl (Nat.le_of_ble_eq_true rfl) dX0_lastEnd_20 ⟨Nat.zero_le _, Nat.zero_le _⟩ (fun r20 hr20 => ?_)
    refine w_top (v := iI (5 * (c0 : Int) + (mm : Int) - 6)) (hr20.trans (congrArg iI (by omega))) ?_
    refine w_iald (v := iI (tE (5 * (c0 - 1) + (mm - 1)))) hx hb hK hP 3 0 rfl rfl (5 * (c0 - 1) + (mm - 1)) (by omega) (by omega) (by decide) rfl dX0_lastEnd_23 ?_
    exact hret 24 ls _ (by unfold lstE; rw [if_neg (by omega)]) dX0_lastEnd_24
  · refine lv_iconst (v := iI 0) hx hb dX0_lastEnd_5 rfl ?_
    exact hret 6 ls _ (by unfold lstE; rw [if_pos (by omega)]) dX0_lastEnd_6
set_option maxHeartbeats 4000000 in
set_option maxRecDepth 100000 in
theorem mX0_scheduleOrder {v : Nat} (hT : ∀ k, 0 ≤ tT k ∧ tT k ≤ 99) (hn : nn ≤ 7) (hm : 1 ≤ mm ∧ mm ≤ 5) (hv : v ≤ 2) (hO : ∀ k, k < nn → oO k < 7) : IM l yX0_scheduleOrder wsX0_scheduleOrder (rmx 4 95) D (tyk cI cZ cJ) (xw ad cI cZ nn mm tT tB tE tL oO oR oQ zS zM zN oJ) [.ref (ad 0), .int (iI ((v : Int)))] (QI D (tyk cI cZ cJ) (fun u : (Nat → Int) × (Nat → Int) => xw ad cI cZ nn mm tT u.1 u.2 tL oO oR oQ zS zM zN oJ) (fun x u => x = iI (mk v mm tT oO nn) ∧ rows v mm tT oO u.1 u.2 nn)) := by
  refine imI_of (cc := cX0_scheduleOrder) (maxL := 3) (by decide) rfl (Nat.le_of_ble_eq_true rfl) ?_
  intro p e s m args below meth c A Q hx hb hml hown hts hA hK hP hD hS hret ls hl
  have hown : s.vm.findClass RX0 = some m.cls := hown
  have hl : lv_has ls 3 [(0, .ref (ad 0)), (1, .int (iI ((v : Int))))] := hl
  have inW : ∀ w ∈ wsX00, w ∈ wsX0_scheduleOrder := by first | exact (fun w h => List.mem_cons_of_mem _ (List.mem_append_right _ h)) | exact (fun w h => List.mem_cons_of_mem _ (List.mem_append_left _ (List.mem_append_right _ h))) | exact (fun w h => List.mem_cons_of_mem _ (List.mem_append_left _ (List.mem_append_left _ (List.mem_append_right _ h)))) | decide +kernel
  refine lv_iconst (v := iI 0) hx hb dX0_scheduleOrder_0 rfl ?_
  refine lv_istore_n (lv' := [(2, .int (iI 0)), (0, .ref (ad 0)), (1, .int (iI ((v : Int))))]) hx hb dX0_scheduleOrder_1 rfl hl (by decide) rfl (fun ls hl => ?_)
  have L2 : ∀ (fu : Nat) (i : Nat) (wbegins2 : Nat → Int) (wends2 : Nat → Int) (x2_2 : Int), (i ≤ nn) → (rows v mm tT oO wbegins2 wends2 i) → (x2_2 = (i : Int)) → nn - i < fu → ∀ (H : Heap) (locs : List Loc), va_P D vwCl (xw ad cI cZ nn mm tT wbegins2 wends2 tL oO oR oQ zS zM zN oJ) H → va_D A (xw ad cI cZ nn mm tT wbegins2 wends2 tL oO oR oQ zS zM zN oJ) → va_S A s.heap H locs → ∀ ls : Array Slot, lv_has ls 3 [(2, .int (iI (x2_2))), (0, .ref (ad 0)), (1, .int (iI ((v : Int))))] → W p l e (rmx 4 95) s m args below meth c H locs 0 0 Q (F0 m 2 ls []) := by
    intro fu
    induction fu with
    | zero =>
      intro i wbegins2 wends2 x2_2 hi hI hq0 hfu
      exact absurd hfu (Nat.not_lt_zero _)
    | succ fu ih =>
      intro i wbegins2 wends2 x2_2 hi hI hq0 hfu H locs hP hD hS ls hl
      subst hq0
      have ih2 := ih
      refine lv_iload_n hx hb dX0_scheduleOrder_2 rfl (lv_at hl 0 rfl) ?_
      refine lv_aload_n hx hb dX0_scheduleOrder_3 rfl (lv_at hl 1 rfl) ?_
      refine va_get (D := D) (ci := 0) (C := RX0) (T := TX0) (N := 13) hx hb hts inW hown hK hP 0 rfl rfl 0 (by decide) (hts (.fieldLink RX0 7 "Flowforge" "jobCount" "I") (List.mem_of_getElem? (i := 1) rfl)) (fun _ h9 => h9) rfl dX0_scheduleOrder_4 ?_
      refine w_icmp_ge (tgt := 28) hx hb dX0_scheduleOrder_7 (by decide) ⟨by omega, by omega⟩ ⟨by omega, by omega⟩ (fun c7 => ?_) (fun c7 => ?_)
      · obtain rfl : nn = i := by omega
        refine lv_aload_n hx hb dX0_scheduleOrder_28 rfl (lv_at hl 1 rfl) ?_
        refine lv_aload_n hx hb dX0_scheduleOrder_29 rfl (lv_at hl 1 rfl) ?_
        refine va_get (D := D) (ci := 0) (C := RX0) (T := TX0) (N := 13) hx hb hts inW hown hK hP 0 rfl rfl 0 (by decide) (hts (.fieldLink RX0 7 "Flowforge" "jobCount" "I") (List.mem_of_getElem? (i := 1) rfl)) (fun _ h9 => h9) rfl dX0_scheduleOrder_30 ?_
        refine w_pV (As := [.int (iI ((nn : Int)))]) (rest := []) ⟨hx, hb, hml, hown, hts⟩ hK hP (mX0_lastEnd  hm hn) (cwV 1 hts gX0_scheduleOrder_X0_lastEnd rfl rfl rfl (by decide +kernel) ⟨Nat.le_of_ble_eq_true rfl, Nat.le_of_ble_eq_true rfl⟩) (ci := 0) rfl rfl rfl rfl hl.1 rfl (Nat.le_of_ble_eq_true rfl) dX0_scheduleOrder_33 ⟨Nat.zero_le _, Nat.zero_le _⟩ (fun r33 hr33 => ?_)
        refine w_top (v := iI ((mk v mm tT oO nn))) (hr33.trans (congrArg iI (lstE_rows hm.1 hI))) ?_
        exact hret _ _ 36 ls _ ((wbegins2, wends2)) hP hD hS (⟨rfl, hI⟩) dX0_scheduleOrder_36
      · refine lv_aload_n hx hb dX0_scheduleOrder_10 rfl (lv_at hl 1 rfl) ?_
        refine lv_iload_n hx hb dX0_scheduleOrder_11 rfl (lv_at hl 2 rfl) ?_
        refine lv_iload_n hx hb dX0_scheduleOrder_12 rfl (lv_at hl 0 rfl) ?_
        refine lv_aload_n hx hb dX0_scheduleOrder_13 rfl (lv_at hl 1 rfl) ?_
        refine va_get (D := D) (ci := 0) (C := RX0) (T := TX0) (N := 13) hx hb hts inW hown hK hP 0 rfl rfl 6 (by decide) (hts (.fieldLink RX0 29 "Flowforge" "order" "[I") (List.mem_of_getElem? (i := 2) rfl)) (fun _ h9 => h9) rfl dX0_scheduleOrder_14 ?_
        refine lv_iload_n hx hb dX0_scheduleOrder_17 rfl (lv_at hl 0 rfl) ?_
        refine w_iald (v := iI ((oO i : Nat) : Int)) hx hb hK hP 5 0 rfl rfl (i) (by omega) (by omega) (by decide) rfl dX0_scheduleOrder_18 ?_
        refine w_iVv (As := [.int (iI ((v : Int))), .int (iI ((i : Int))), .int (iI (((((oO i)) : Nat) : Int)))]) (rest := []) (wf := fun u : Unit => xw ad cI cZ nn mm tT (pt wbegins2 (sjB v mm tT i ((oO i)) wbegins2 wends2) (5 * i) mm) (pt wends2 (sjE v mm tT i ((oO i)) wbegins2 wends2) (5 * i) mm) tL oO oR oQ zS zM zN oJ) (wr := []) ⟨hx, hb, hml, hown, hts⟩ hK hP hD hS hA (mX0_scheduleJob  hT hm hv (by omega) (hO i (by omega)) (rows_rg hm.2 hT (by omega) hI)) (cwV 3 hts gX0_scheduleOrder_X0_scheduleJob rfl rfl rfl (by decide +kernel) ⟨Nat.le_of_ble_eq_true rfl, Nat.le_of_ble_eq_true rfl⟩) [0, 1, 2, 3, 4, 5, 6, 7, 8, 9, 10, 11] [] [0, 1, 2, 3, 4, 5, 6, 7, 8, 9, 10, 11] rfl rfl (by decide) (by decide) (by decide) (hwf := fun _ => rfl) (by decide) (ci := 0) rfl rfl rfl rfl hl.1 (by rw [show ((((oO i : Nat) : Int)) : Int) = ((((oO i)) : Nat) : Int) by omega]; try rfl) (Nat.le_of_ble_eq_true rfl) dX0_scheduleOrder_19 ⟨Nat.zero_le _, Nat.zero_le _⟩ (fun u H locs hr19 hP hD hS => ?_)
        refine lv_iinc (v := iI ((i : Int) + 1)) (lv' := [(2, .int (iI ((i : Int) + 1))), (0, .ref (ad 0)), (1, .int (iI ((v : Int))))]) hx hb dX0_scheduleOrder_22 hl (k := 0) rfl (iI_inc (by omega)) (by decide) rfl (fun ls hl => ?_)
        refine lv_goto (tgt := 2) hx hb dX0_scheduleOrder_25 (by decide) ?_
        exact ih2 (i + 1) (pt wbegins2 (sjB v mm tT i ((oO i)) wbegins2 wends2) (5 * i) mm) (pt wends2 (sjE v mm tT i ((oO i)) wbegins2 wends2) (5 * i) mm) ((i : Int) + 1) (by omega) (rows_s hm.2 hI) (by omega) (by omega) _ _ hP hD hS ls (lv_sub hl [0, 1, 2] rfl)
  exact L2 (nn - 0 + 1) 0 tB tE (0) (by omega) (rows_0) (by omega) (Nat.lt_succ_self _) _ _ hP hD hS ls (lv_sub hl [0, 1, 2] rfl)
end
end
section
section
variable {l : Launch} {D : va_G} {cI cZ cJ : ClassId} {ad bd : Nat → Nat} {a0 : Nat} {ws : va_W} {nn mm : Nat} {th bm : Int} {tT tB tE tL : Nat → Int} {oO oR oQ : Nat → Nat} {zS zM zN : Nat → Int} {oJ fF : Nat → Nat}
set_option maxHeartbeats 4000000 in
set_option maxRecDepth 100000 in
theorem mX0_makespanIfShifted {fr to c0 : Nat} (hT : ∀ k, 0 ≤ tT k ∧ tT k ≤ 99) (hn : nn ≤ 7) (hm : 1 ≤ mm ∧ mm ≤ 5) (hc : c0 ≤ nn) (hf : fr < c0) (ht : to < c0) (hO : ∀ k, k < nn → oO k < 7) : IM l yX0_makespanIfShifted wsX0_makespanIfShifted (rmx 4 95) D (tyk cI cZ cJ) (xw ad cI cZ nn mm tT tB tE tL oO oR oQ zS zM zN oJ) [.ref (ad 0), .int (iI ((fr : Int))), .int (iI ((to : Int))), .int (iI ((c0 : Int)))] (QI D (tyk cI cZ cJ) (fun u : (Nat → Nat) × (Nat → Int) × (Nat → Int) => xw ad cI cZ nn mm tT u.2.1 u.2.2 tL oO u.1 oQ zS zM zN oJ) (fun x u => x = iI (mkS tT mm oO fr c0 to))) := by
  refine imI_of (cc := cX0_makespanIfShifted) (maxL := 5) (by decide) rfl (Nat.le_of_ble_eq_true rfl) ?_
  intro p e s m args below meth c A Q hx hb hml hown hts hA hK hP hD hS hret ls hl
  have hown : s.vm.findClass RX0 = some m.cls := hown
  have hl : lv_has ls 5 [(0, .ref (ad 0)), (1, .int (iI ((fr : Int)))), (2, .int (iI ((to : Int)))), (3, .int (iI ((c0 : Int))))] := hl
  have inW : ∀ w ∈ wsX00, w ∈ wsX0_makespanIfShifted := by first | exact (fun w h => List.mem_cons_of_mem _ (List.mem_append_right _ h)) | exact (fun w h => List.mem_cons_of_mem _ (List.mem_append_left _ (List.mem_append_right _ h))) | exact (fun w h => List.mem_cons_of_mem _ (List.mem_append_left _ (List.mem_append_left _ (List.mem_append_right _ h)))) | decide +kernel
  refine lv_aload_n hx hb dX0_makespanIfShifted_0 rfl (lv_at hl 0 rfl) ?_
  refine va_get (D := D) (ci := 0) (C := RX0) (T := TX0) (N := 13) hx hb hts inW hown hK hP 0 rfl rfl 6 (by decide) (hts (.fieldLink RX0 29 "Flowforge" "order" "[I") (List.mem_of_getElem? (i := 1) rfl)) (fun _ h9 => h9) rfl dX0_makespanIfShifted_1 ?_
  refine lv_iconst (v := iI 0) hx hb dX0_makespanIfShifted_4 rfl ?_
  refine lv_aload_n hx hb dX0_makespanIfShifted_5 rfl (lv_at hl 0 rfl) ?_
  refine va_get (D := D) (ci := 0) (C := RX0) (T := TX0) (N := 13) hx hb hts inW hown hK hP 0 rfl rfl 7 (by decide) (hts (.fieldLink RX0 32 "Flowforge" "trial" "[I") (List.mem_of_getElem? (i := 2) rfl)) (fun _ h9 => h9) rfl dX0_makespanIfShifted_6 ?_
  refine lv_iconst (v := iI 0) hx hb dX0_makespanIfShifted_9 rfl ?_
  refine lv_iload_n hx hb dX0_makespanIfShifted_10 rfl (lv_at hl 3 rfl) ?_
  refine w_copy (ws' := xw ad cI cZ nn mm tT tB tE tL oO (va_cpy oO oR 0 0 c0) oQ zS zM zN oJ) (g2 := jI (va_cpy oO oR 0 0 c0)) hx hb (hml.trans hl.1.symm) hown (hts (.methodLink RX0 150 arraycopyName) (List.mem_of_getElem? (i := 3) rfl)) (hts (.native arraycopyName) (List.mem_of_getElem? (i := 4) rfl)) (hts (.static arraycopyName) (List.mem_of_getElem? (i := 5) rfl)) (hts (.initialized "java/lang/System") (List.mem_of_getElem? (i := 6) rfl)) hK hP hD hS 5 6 rfl rfl rfl (0) (0) (c0) (by omega) (by omega) (by omega) (by omega) (by omega) (Nat.le_of_ble_eq_true rfl) (Nat.le_of_ble_eq_true rfl) (by decide) jI_cpy rfl dX0_makespanIfShifted_11 (fun H locs hP hD hS => ?_)
  refine lv_aload_n hx hb dX0_makespanIfShifted_14 rfl (lv_at hl 0 rfl) ?_
  refine va_get (D := D) (ci := 0) (C := RX0) (T := TX0) (N := 13) hx hb hts inW hown hK hP 0 rfl rfl 7 (by decide) (hts (.fieldLink RX0 32 "Flowforge" "trial" "[I") (List.mem_of_getElem? (i := 2) rfl)) (fun _ h9 => h9) rfl dX0_makespanIfShifted_15 ?_
  refine lv_iload_n hx hb dX0_makespanIfShifted_18 rfl (lv_at hl 1 rfl) ?_
  refine lv_iload_n hx hb dX0_makespanIfShifted_19 rfl (lv_at hl 2 rfl) ?_
  refine w_iSv (As := [.ref (ad 6), .int (iI ((fr : Int))), .int (iI ((to : Int)))]) (rest := []) (wf := fun u : Unit => xw ad cI cZ nn mm tT tB tE tL oO (shf (va_cpy oO oR 0 0 c0) fr to) oQ zS zM zN oJ) (wr := (xw ad cI cZ nn mm tT tB tE tL oO (va_cpy oO oR 0 0 c0) oQ zS zM zN oJ).eraseIdx 6) ⟨hx, hb, hml, hown, hts⟩ hK hP hD hS hA (mX0_shift  (by omega) (by omega)) (va_cwS 3 hts gX0_makespanIfShifted_X0_shift rfl rfl rfl (by decide +kernel) ⟨Nat.le_of_ble_eq_true rfl, Nat.le_of_ble_eq_true rfl⟩) [6] [0, 1, 2, 3, 4, 5, 7, 8, 9, 10, 11] [0, 1, 2, 3, 4, 5, 11, 6, 7, 8, 9, 10] rfl rfl (by decide) (by decide) (by decide) (hwf := fun _ => rfl) (by decide) rfl hl.1 rfl (Nat.le_of_ble_eq_true rfl) dX0_makespanIfShifted_20 ⟨Nat.zero_le _, Nat.zero_le _⟩ (fun u H locs hr20 hP hD hS => ?_)
  have hr9 : ∀ k, k < c0 → (shf (va_cpy oO oR 0 0 c0) fr to) k < 7 := shf_lt hf ht (fun k hk => by rw [cpy_in hk]; exact hO k (by omega))
  refine lv_iconst (v := iI 0) hx hb dX0_makespanIfShifted_23 rfl ?_
  refine lv_istore (lv' := [(4, .int (iI 0)), (0, .ref (ad 0)), (1, .int (iI ((fr : Int)))), (2, .int (iI ((to : Int)))), (3, .int (iI ((c0 : Int))))]) hx hb dX0_makespanIfShifted_24 hl (by decide) rfl (fun ls hl => ?_)
  have L26 : ∀ (fu : Nat) (i : Nat) (wbegins26 : Nat → Int) (wends26 : Nat → Int) (x4_26 : Int), (i ≤ c0) → (rows 0 mm tT (shf (va_cpy oO oR 0 0 c0) fr to) wbegins26 wends26 i) → (x4_26 = (i : Int)) → c0 - i < fu → ∀ (H : Heap) (locs : List Loc), va_P D vwCl (xw ad cI cZ nn mm tT wbegins26 wends26 tL oO (shf (va_cpy oO oR 0 0 c0) fr to) oQ zS zM zN oJ) H → va_D A (xw ad cI cZ nn mm tT wbegins26 wends26 tL oO (shf (va_cpy oO oR 0 0 c0) fr to) oQ zS zM zN oJ) → va_S A s.heap H locs → ∀ ls : Array Slot, lv_has ls 5 [(4, .int (iI (x4_26))), (0, .ref (ad 0)), (1, .int (iI ((fr : Int)))), (2, .int (iI ((to : Int)))), (3, .int (iI ((c0 : Int))))] → W p l e (rmx 4 95) s m args below meth c H locs 0 0 Q (F0 m 26 ls []) := by
    intro fu
    induction fu with
    | zero =>
      intro i wbegins26 wends26 x4_26 hi hI hq0 hfu
      exact absurd hfu (Nat.not_lt_zero _)
    | succ fu ih =>
      intro i wbegins26 wends26 x4_26 hi hI hq0 hfu H locs hP hD hS ls hl
      subst hq0
      have ih26 := ih
      refine lv_iload hx hb dX0_makespanIfShifted_26 (lv_at hl 0 rfl) ?_
      refine lv_iload_n hx hb dX0_makespanIfShifted_28 rfl (lv_at hl 4 rfl) ?_
      refine w_icmp_ge (tgt := 52) hx hb dX0_makespanIfShifted_29 (by decide) ⟨by omega, by omega⟩ ⟨by omega, by omega⟩ (fun c29 => ?_) (fun c29 => ?_)
      · obtain rfl : c0 = i := by omega
        refine lv_aload_n hx hb dX0_makespanIfShifted_52 rfl (lv_at hl 1 rfl) ?_
        refine lv_iload_n hx hb dX0_makespanIfShifted_53 rfl (lv_at hl 4 rfl) ?_
        refine w_pV (As := [.int (iI ((c0 : Int)))]) (rest := []) ⟨hx, hb, hml, hown, hts⟩ hK hP (mX0_lastEnd  hm (by omega)) (cwV 1 hts gX0_makespanIfShifted_X0_lastEnd rfl rfl rfl (by decide +kernel) ⟨Nat.le_of_ble_eq_true rfl, Nat.le_of_ble_eq_true rfl⟩) (ci := 0) rfl rfl rfl rfl hl.1 rfl (Nat.le_of_ble_eq_true rfl) dX0_makespanIfShifted_54 ⟨Nat.zero_le _, Nat.zero_le _⟩ (fun r54 hr54 => ?_)
        refine w_top (v := iI ((mkS tT mm oO fr c0 to))) (hr54.trans (congrArg iI ((lstE_rows hm.1 hI).trans (mk_cg (shf_cg hf ht (fun k hk => cpy_in hk)))))) ?_
        exact hret _ _ 57 ls _ ((shf (va_cpy oO oR 0 0 c0) fr to, wbegins26, wends26)) hP hD hS (rfl) dX0_makespanIfShifted_57
      · refine lv_aload_n hx hb dX0_makespanIfShifted_32 rfl (lv_at hl 1 rfl) ?_
        refine lv_iconst (v := iI 0) hx hb dX0_makespanIfShifted_33 rfl ?_
        refine lv_iload hx hb dX0_makespanIfShifted_34 (lv_at hl 0 rfl) ?_
        refine lv_aload_n hx hb dX0_makespanIfShifted_36 rfl (lv_at hl 1 rfl) ?_
        refine va_get (D := D) (ci := 0) (C := RX0) (T := TX0) (N := 13) hx hb hts inW hown hK hP 0 rfl rfl 7 (by decide) (hts (.fieldLink RX0 32 "Flowforge" "trial" "[I") (List.mem_of_getElem? (i := 2) rfl)) (fun _ h9 => h9) rfl dX0_makespanIfShifted_37 ?_
        refine lv_iload hx hb dX0_makespanIfShifted_40 (lv_at hl 0 rfl) ?_
        refine w_iald (v := iI (((shf (va_cpy oO oR 0 0 c0) fr to) i : Nat) : Int)) hx hb hK hP 6 0 rfl rfl (i) (by omega) (by omega) (by decide) rfl dX0_makespanIfShifted_42 ?_
        refine w_iVv (As := [.int (iI 0), .int (iI ((i : Int))), .int (iI ((((((shf (va_cpy oO oR 0 0 c0) fr to) i)) : Nat) : Int)))]) (rest := []) (wf := fun u : Unit => xw ad cI cZ nn mm tT (pt wbegins26 (sjB 0 mm tT i (((shf (va_cpy oO oR 0 0 c0) fr to) i)) wbegins26 wends26) (5 * i) mm) (pt wends26 (sjE 0 mm tT i (((shf (va_cpy oO oR 0 0 c0) fr to) i)) wbegins26 wends26) (5 * i) mm) tL oO (shf (va_cpy oO oR 0 0 c0) fr to) oQ zS zM zN oJ) (wr := []) ⟨hx, hb, hml, hown, hts⟩ hK hP hD hS hA (mX0_scheduleJob  (v := 0) hT hm (by omega) (by omega) (hr9 i (by omega)) (rows_rg hm.2 hT (by omega) hI)) (cwV 3 hts gX0_makespanIfShifted_X0_scheduleJob rfl rfl rfl (by decide +kernel) ⟨Nat.le_of_ble_eq_true rfl, Nat.le_of_ble_eq_true rfl⟩) [0, 1, 2, 3, 4, 5, 6, 7, 8, 9, 10, 11] [] [0, 1, 2, 3, 4, 5, 6, 7, 8, 9, 10, 11] rfl rfl (by decide) (by decide) (by decide) (hwf := fun _ => rfl) (by decide) (ci := 0) rfl rfl rfl rfl hl.1 (by rw [show (((((shf (va_cpy oO oR 0 0 c0) fr to) i : Nat) : Int)) : Int) = (((((shf (va_cpy oO oR 0 0 c0) fr to) i)) : Nat) : Int) by omega]; try rfl) (Nat.le_of_ble_eq_true rfl) dX0_makespanIfShifted_43 ⟨Nat.zero_le _, Nat.zero_le _⟩ (fun u H locs hr43 hP hD hS => ?_)
        refine lv_iinc (v := iI ((i : Int) + 1)) (lv' := [(4, .int (iI ((i : Int) + 1))), (0, .ref (ad 0)), (1, .int (iI ((fr : Int)))), (2, .int (iI ((to : Int)))), (3, .int (iI ((c0 : Int))))]) hx hb dX0_makespanIfShifted_46 hl (k := 0) rfl (iI_inc (by omega)) (by decide) rfl (fun ls hl => ?_)
        refine lv_goto (tgt := 26) hx hb dX0_makespanIfShifted_49 (by decide) ?_
        exact ih26 (i + 1) (pt wbegins26 (sjB 0 mm tT i (((shf (va_cpy oO oR 0 0 c0) fr to) i)) wbegins26 wends26) (5 * i) mm) (pt wends26 (sjE 0 mm tT i (((shf (va_cpy oO oR 0 0 c0) fr to) i)) wbegins26 wends26) (5 * i) mm) ((i : Int) + 1) (by omega) (rows_s hm.2 hI) (by omega) (by omega) _ _ hP hD hS ls (lv_sub hl [0, 1, 2, 3, 4] rfl)
  exact L26 (c0 - 0 + 1) 0 tB tE (0) (by omega) (rows_0) (by omega) (Nat.lt_succ_self _) _ _ hP hD hS ls (lv_sub hl [0, 1, 2, 3, 4] rfl)
set_option maxHeartbeats 4000000 in
set_option maxRecDepth 100000 in
theorem mX0_placeForLast {la : Nat} (hT : ∀ k, 0 ≤ tT k ∧ tT k ≤ 99) (hn : nn ≤ 7) (hm : 1 ≤ mm ∧ mm ≤ 5) (hla : la < nn) (hO : ∀ k, k < nn → oO k < 7) : IM l yX0_placeForLast wsX0_placeForLast (rmx 5 119) D (tyk cI cZ cJ) (xw ad cI cZ nn mm tT tB tE tL oO oR oQ zS zM zN oJ) [.ref (ad 0), .int (iI ((la : Int)))] (QI D (tyk cI cZ cJ) (fun u : (Nat → Nat) × (Nat → Int) × (Nat → Int) => xw ad cI cZ nn mm tT u.2.1 u.2.2 tL oO u.1 oQ zS zM zN oJ) (fun x u => x = iI ((amin (mkS tT mm oO la (la + 1)) la : Nat) : Int))) := by
  refine imI_of (cc := cX0_placeForLast) (maxL := 6) (by decide) rfl (Nat.le_of_ble_eq_true rfl) ?_
  intro p e s m args below meth c A Q hx hb hml hown hts hA hK hP hD hS hret ls hl
  have hown : s.vm.findClass RX0 = some m.cls := hown
  have hl : lv_has ls 6 [(0, .ref (ad 0)), (1, .int (iI ((la : Int))))] := hl
  refine lv_iconst (v := iI 0) hx hb dX0_placeForLast_0 rfl ?_
  refine lv_istore_n (lv' := [(2, .int (iI 0)), (0, .ref (ad 0)), (1, .int (iI ((la : Int))))]) hx hb dX0_placeForLast_1 rfl hl (by decide) rfl (fun ls hl => ?_)
  refine lv_aload_n hx hb dX0_placeForLast_2 rfl (lv_at hl 1 rfl) ?_
  refine lv_iload_n hx hb dX0_placeForLast_3 rfl (lv_at hl 2 rfl) ?_
  refine lv_iconst (v := iI 0) hx hb dX0_placeForLast_4 rfl ?_
  refine lv_iload_n hx hb dX0_placeForLast_5 rfl (lv_at hl 2 rfl) ?_
  refine lv_iconst (v := iI 1) hx hb dX0_placeForLast_6 rfl ?_
  refine w_iadd (z := (la : Int) + 1) hx hb dX0_placeForLast_7 (by omega) ?_
  refine w_iV (As := [.int (iI ((la : Int))), .int (iI 0), .int (iI ((((la + 1) : Nat) : Int)))]) (rest := []) (wf := fun u : (Nat → Nat) × (Nat → Int) × (Nat → Int) => xw ad cI cZ nn mm tT u.2.1 u.2.2 tL oO u.1 oQ zS zM zN oJ) (wr := []) ⟨hx, hb, hml, hown, hts⟩ hK hP hD hS hA (mX0_makespanIfShifted (to := 0) hT hn hm (by omega) (by omega) (by omega) hO) (cwV 3 hts gX0_placeForLast_X0_makespanIfShifted rfl rfl rfl (by decide +kernel) ⟨Nat.le_of_ble_eq_true rfl, Nat.le_of_ble_eq_true rfl⟩) [0, 1, 2, 3, 4, 5, 6, 7, 8, 9, 10, 11] [] [0, 1, 2, 3, 4, 5, 6, 7, 8, 9, 10, 11] rfl rfl (by decide) (by decide) (by decide) (hwf := fun _ => rfl) (by decide) (ci := 0) rfl rfl rfl rfl hl.1 (by rw [show (((la : Int) + 1) : Int) = (((la + 1) : Nat) : Int) by omega]; try rfl) (Nat.le_of_ble_eq_true rfl) dX0_placeForLast_8 ⟨Nat.zero_le _, Nat.zero_le _⟩ (fun r8 u H locs hr8 hP hD hS => ?_)
  obtain ⟨uR, uB, uE⟩ := u
  have hP : va_P D vwCl (xw ad cI cZ nn mm tT uB uE tL oO uR oQ zS zM zN oJ) H := hP
  have hD : va_D A (xw ad cI cZ nn mm tT uB uE tL oO uR oQ zS zM zN oJ) := hD
  refine w_top (v := iI ((mkS tT mm oO la (la + 1) 0))) (hr8) ?_
  refine lv_istore_n (lv' := [(3, .int (iI ((mkS tT mm oO la (la + 1) 0)))), (2, .int (iI 0)), (0, .ref (ad 0)), (1, .int (iI ((la : Int))))]) hx hb dX0_placeForLast_11 rfl hl (by decide) rfl (fun ls hl => ?_)
  refine lv_iconst (v := iI 1) hx hb dX0_placeForLast_12 rfl ?_
  refine lv_istore (lv' := [(4, .int (iI 1)), (3, .int (iI ((mkS tT mm oO la (la + 1) 0)))), (2, .int (iI 0)), (0, .ref (ad 0)), (1, .int (iI ((la : Int))))]) hx hb dX0_placeForLast_13 hl (by decide) rfl (fun ls hl => ?_)
  have L15 : ∀ (fu : Nat) (i : Nat) (wtrial15 : Nat → Nat) (wbegins15 : Nat → Int) (wends15 : Nat → Int) (x4_15 : Int) (x3_15 : Int) (x2_15 : Int), (i ≤ la) → (x4_15 = (i : Int) + 1) → (x3_15 = ((mkS tT mm oO la (la + 1)) (amin (mkS tT mm oO la (la + 1)) i))) → (x2_15 = ((amin (mkS tT mm oO la (la + 1)) i : Nat) : Int)) → la - i < fu → ∀ (H : Heap) (locs : List Loc), va_P D vwCl (xw ad cI cZ nn mm tT wbegins15 wends15 tL oO wtrial15 oQ zS zM zN oJ) H → va_D A (xw ad cI cZ nn mm tT wbegins15 wends15 tL oO wtrial15 oQ zS zM zN oJ) → va_S A s.heap H locs → ∀ ls : Array Slot, lv_has ls 6 [(4, .int (iI (x4_15))), (3, .int (iI (x3_15))), (2, .int (iI (x2_15))), (0, .ref (ad 0)), (1, .int (iI ((la : Int))))] → W p l e (rmx 5 119) s m args below meth c H locs 0 0 Q (F0 m 15 ls []) := by
    intro fu
    induction fu with
    | zero =>
      intro i wtrial15 wbegins15 wends15 x4_15 x3_15 x2_15 hi hq0 hq1 hq2 hfu
      exact absurd hfu (Nat.not_lt_zero _)
    | succ fu ih =>
      intro i wtrial15 wbegins15 wends15 x4_15 x3_15 x2_15 hi hq0 hq1 hq2 hfu H locs hP hD hS ls hl
      subst hq0
      subst hq1
      subst hq2
      have ih15 := ih
      have h9 := mkS_rg (o := oO) (a := la) (c := la + 1) hm hT (by omega)
      have h8 := h9 (amin (mkS tT mm oO la (la + 1)) i)
      have h7 := h9 (i + 1)
      refine lv_iload hx hb dX0_placeForLast_15 (lv_at hl 0 rfl) ?_
      refine lv_iload_n hx hb dX0_placeForLast_17 rfl (lv_at hl 4 rfl) ?_
      refine w_icmp_gt (tgt := 51) hx hb dX0_placeForLast_18 (by decide) ⟨by omega, by omega⟩ ⟨by omega, by omega⟩ (fun c18 => ?_) (fun c18 => ?_)
      · obtain rfl : la = i := by omega
        refine lv_iload_n hx hb dX0_placeForLast_51 rfl (lv_at hl 2 rfl) ?_
        exact hret _ _ 52 ls _ ((wtrial15, wbegins15, wends15)) hP hD hS (rfl) dX0_placeForLast_52
      · refine lv_aload_n hx hb dX0_placeForLast_21 rfl (lv_at hl 3 rfl) ?_
        refine lv_iload_n hx hb dX0_placeForLast_22 rfl (lv_at hl 4 rfl) ?_
        refine lv_iload hx hb dX0_placeForLast_23 (lv_at hl 0 rfl) ?_
        refine lv_iload_n hx hb dX0_placeForLast_25 rfl (lv_at hl 4 rfl) ?_
        refine lv_iconst (v := iI 1) hx hb dX0_placeForLast_26 rfl ?_
        refine w_iadd (z := (la : Int) + 1) hx hb dX0_placeForLast_27 (by omega) ?_
        refine w_iV (As := [.int (iI ((la : Int))), .int (iI ((((i + 1) : Nat) : Int))), .int (iI ((((la + 1) : Nat) : Int)))]) (rest := []) (wf := fun u : (Nat → Nat) × (Nat → Int) × (Nat → Int) => xw ad cI cZ nn mm tT u.2.1 u.2.2 tL oO u.1 oQ zS zM zN oJ) (wr := []) ⟨hx, hb, hml, hown, hts⟩ hK hP hD hS hA (mX0_makespanIfShifted (to := i + 1) hT hn hm (by omega) (by omega) (by omega) hO) (cwV 3 hts gX0_placeForLast_X0_makespanIfShifted rfl rfl rfl (by decide +kernel) ⟨Nat.le_of_ble_eq_true rfl, Nat.le_of_ble_eq_true rfl⟩) [0, 1, 2, 3, 4, 5, 6, 7, 8, 9, 10, 11] [] [0, 1, 2, 3, 4, 5, 6, 7, 8, 9, 10, 11] rfl rfl (by decide) (by decide) (by decide) (hwf := fun _ => rfl) (by decide) (ci := 0) rfl rfl rfl rfl hl.1 (by rw [show (((i : Int) + 1) : Int) = (((i + 1) : Nat) : Int) by omega]; rw [show (((la : Int) + 1) : Int) = (((la + 1) : Nat) : Int) by omega]; try rfl) (Nat.le_of_ble_eq_true rfl) dX0_placeForLast_28 ⟨Nat.zero_le _, Nat.zero_le _⟩ (fun r28 u H locs hr28 hP hD hS => ?_)
        obtain ⟨uR, uB, uE⟩ := u
        have hP : va_P D vwCl (xw ad cI cZ nn mm tT uB uE tL oO uR oQ zS zM zN oJ) H := hP
        have hD : va_D A (xw ad cI cZ nn mm tT uB uE tL oO uR oQ zS zM zN oJ) := hD
        refine w_top (v := iI ((mkS tT mm oO la (la + 1) (i + 1)))) (hr28) ?_
        refine lv_istore (lv' := [(5, .int (iI ((mkS tT mm oO la (la + 1) (i + 1))))), (4, .int (iI ((i : Int) + 1))), (3, .int (iI (((mkS tT mm oO la (la + 1)) (amin (mkS tT mm oO la (la + 1)) i))))), (2, .int (iI (((amin (mkS tT mm oO la (la + 1)) i : Nat) : Int)))), (0, .ref (ad 0)), (1, .int (iI ((la : Int))))]) hx hb dX0_placeForLast_31 hl (by decide) rfl (fun ls hl => ?_)
        refine lv_iload hx hb dX0_placeForLast_33 (lv_at hl 0 rfl) ?_
        refine lv_iload_n hx hb dX0_placeForLast_35 rfl (lv_at hl 2 rfl) ?_
        refine w_icmp_ge (tgt := 45) hx hb dX0_placeForLast_36 (by decide) ⟨by omega, by omega⟩ ⟨by omega, by omega⟩ (fun c36 => ?_) (fun c36 => ?_)
        · have e7 : amin (mkS tT mm oO la (la + 1)) (i + 1) = amin (mkS tT mm oO la (la + 1)) i := if_neg (by omega)
          refine lv_iinc (v := iI ((i : Int) + 2)) (lv' := [(4, .int (iI ((i : Int) + 2))), (5, .int (iI ((mkS tT mm oO la (la + 1) (i + 1))))), (3, .int (iI (((mkS tT mm oO la (la + 1)) (amin (mkS tT mm oO la (la + 1)) i))))), (2, .int (iI (((amin (mkS tT mm oO la (la + 1)) i : Nat) : Int)))), (0, .ref (ad 0)), (1, .int (iI ((la : Int))))]) hx hb dX0_placeForLast_45 hl (k := 1) rfl (iI_inc (by omega)) (by decide) rfl (fun ls hl => ?_)
          refine lv_goto (tgt := 15) hx hb dX0_placeForLast_48 (by decide) ?_
          exact ih15 (i + 1) uR uB uE ((i : Int) + 2) (((mkS tT mm oO la (la + 1)) (amin (mkS tT mm oO la (la + 1)) i))) (((amin (mkS tT mm oO la (la + 1)) i : Nat) : Int)) (by omega) (by omega) (by rw [e7]) (by rw [e7]; try omega) (by omega) _ _ hP hD hS ls (lv_sub hl [0, 2, 3, 4, 5] rfl)
        · have e7 : amin (mkS tT mm oO la (la + 1)) (i + 1) = i + 1 := if_pos (by omega)
          refine lv_iload hx hb dX0_placeForLast_39 (lv_at hl 0 rfl) ?_
          refine lv_istore_n (lv' := [(3, .int (iI ((mkS tT mm oO la (la + 1) (i + 1))))), (5, .int (iI ((mkS tT mm oO la (la + 1) (i + 1))))), (4, .int (iI ((i : Int) + 1))), (2, .int (iI (((amin (mkS tT mm oO la (la + 1)) i : Nat) : Int)))), (0, .ref (ad 0)), (1, .int (iI ((la : Int))))]) hx hb dX0_placeForLast_41 rfl hl (by decide) rfl (fun ls hl => ?_)
          refine lv_iload hx hb dX0_placeForLast_42 (lv_at hl 2 rfl) ?_
          refine lv_istore_n (lv' := [(2, .int (iI ((i : Int) + 1))), (3, .int (iI ((mkS tT mm oO la (la + 1) (i + 1))))), (5, .int (iI ((mkS tT mm oO la (la + 1) (i + 1))))), (4, .int (iI ((i : Int) + 1))), (0, .ref (ad 0)), (1, .int (iI ((la : Int))))]) hx hb dX0_placeForLast_44 rfl hl (by decide) rfl (fun ls hl => ?_)
          refine lv_iinc (v := iI ((i : Int) + 2)) (lv' := [(4, .int (iI ((i : Int) + 2))), (2, .int (iI ((i : Int) + 1))), (3, .int (iI ((mkS tT mm oO la (la + 1) (i + 1))))), (5, .int (iI ((mkS tT mm oO la (la + 1) (i + 1))))), (0, .ref (ad 0)), (1, .int (iI ((la : Int))))]) hx hb dX0_placeForLast_45 hl (k := 3) rfl (iI_inc (by omega)) (by decide) rfl (fun ls hl => ?_)
          refine lv_goto (tgt := 15) hx hb dX0_placeForLast_48 (by decide) ?_
          exact ih15 (i + 1) uR uB uE ((i : Int) + 2) ((mkS tT mm oO la (la + 1) (i + 1))) ((i : Int) + 1) (by omega) (by omega) (by rw [e7]) (by rw [e7]; try omega) (by omega) _ _ hP hD hS ls (lv_sub hl [0, 2, 1, 4, 5] rfl)
  exact L15 (la - 0 + 1) 0 uR uB uE (1) ((mkS tT mm oO la (la + 1) 0)) (0) (by omega) (by omega) (rfl) (rfl) (Nat.lt_succ_self _) _ _ hP hD hS ls (lv_sub hl [0, 1, 2, 3, 4] rfl)
end
end
section
section
variable {l : Launch} {D : va_G} {cI cZ cJ : ClassId} {ad bd : Nat → Nat} {a0 : Nat} {ws : va_W} {nn mm : Nat} {th bm : Int} {tT tB tE tL : Nat → Int} {oO oR oQ : Nat → Nat} {zS zM zN : Nat → Int} {oJ fF : Nat → Nat}
set_option maxHeartbeats 4000000 in
set_option maxRecDepth 100000 in
theorem mX0_fillQueueBySum (hT : ∀ k, 0 ≤ tT k ∧ tT k ≤ 99) (hn : nn ≤ 7) (hm : 1 ≤ mm ∧ mm ≤ 5) : IM l yX0_fillQueueBySum wsX0_fillQueueBySum (rmx 3 68) D (tyk cI cZ cJ) (xw ad cI cZ nn mm tT tB tE tL oO oR oQ zS zM zN oJ) [.ref (ad 0)] (QV D (tyk cI cZ cJ) (fun u : Unit => xw ad cI cZ nn mm tT tB tE tL oO oR (srt (bqs tT mm) oQ nn) zS zM zN oJ) (fun _ => True)) := by
  refine imV_of (cc := cX0_fillQueueBySum) (maxL := 4) (by decide) rfl (Nat.le_of_ble_eq_true rfl) ?_
  intro p e s m args below meth c A Q hx hb hml hown hts hA hK hP hD hS hret ls hl
  have hown : s.vm.findClass RX0 = some m.cls := hown
  have hl : lv_has ls 4 [(0, .ref (ad 0))] := hl
  have inW : ∀ w ∈ wsX00, w ∈ wsX0_fillQueueBySum := by first | exact (fun w h => List.mem_cons_of_mem _ (List.mem_append_right _ h)) | exact (fun w h => List.mem_cons_of_mem _ (List.mem_append_left _ (List.mem_append_right _ h))) | exact (fun w h => List.mem_cons_of_mem _ (List.mem_append_left _ (List.mem_append_left _ (List.mem_append_right _ h)))) | decide +kernel
  refine lv_iconst (v := iI 0) hx hb dX0_fillQueueBySum_0 rfl ?_
  refine lv_istore_n (lv' := [(1, .int (iI 0)), (0, .ref (ad 0))]) hx hb dX0_fillQueueBySum_1 rfl hl (by decide) rfl (fun ls hl => ?_)
  have L2 : ∀ (fu : Nat) (i : Nat) (wqueue2 : Nat → Nat) (x1_2 : Int), (i ≤ nn) → (wqueue2 = srt (bqs tT mm) oQ i) → (x1_2 = (i : Int)) → nn - i < fu → ∀ (H : Heap) (locs : List Loc), va_P D vwCl (xw ad cI cZ nn mm tT tB tE tL oO oR wqueue2 zS zM zN oJ) H → va_D A (xw ad cI cZ nn mm tT tB tE tL oO oR wqueue2 zS zM zN oJ) → va_S A s.heap H locs → ∀ ls : Array Slot, lv_has ls 4 [(1, .int (iI (x1_2))), (0, .ref (ad 0))] → W p l e (rmx 3 68) s m args below meth c H locs 0 0 Q (F0 m 2 ls []) := by
    intro fu
    induction fu with
    | zero =>
      intro i wqueue2 x1_2 hi hq0 hq1 hfu
      exact absurd hfu (Nat.not_lt_zero _)
    | succ fu ih =>
      intro i wqueue2 x1_2 hi hq0 hq1 hfu H locs hP hD hS ls hl
      subst hq0
      subst hq1
      have ih2 := ih
      refine lv_iload_n hx hb dX0_fillQueueBySum_2 rfl (lv_at hl 0 rfl) ?_
      refine lv_aload_n hx hb dX0_fillQueueBySum_3 rfl (lv_at hl 1 rfl) ?_
      refine va_get (D := D) (ci := 0) (C := RX0) (T := TX0) (N := 13) hx hb hts inW hown hK hP 0 rfl rfl 0 (by decide) (hts (.fieldLink RX0 7 "Flowforge" "jobCount" "I") (List.mem_of_getElem? (i := 1) rfl)) (fun _ h9 => h9) rfl dX0_fillQueueBySum_4 ?_
      refine w_icmp_ge (tgt := 81) hx hb dX0_fillQueueBySum_7 (by decide) ⟨by omega, by omega⟩ ⟨by omega, by omega⟩ (fun c7 => ?_) (fun c7 => ?_)
      · obtain rfl : nn = i := by omega
        exact hret _ _ 81 ls (()) hP hD hS (trivial) dX0_fillQueueBySum_81
      · refine lv_aload_n hx hb dX0_fillQueueBySum_10 rfl (lv_at hl 1 rfl) ?_
        refine lv_iload_n hx hb dX0_fillQueueBySum_11 rfl (lv_at hl 0 rfl) ?_
        refine lv_iconst (v := iI 0) hx hb dX0_fillQueueBySum_12 rfl ?_
        refine lv_aload_n hx hb dX0_fillQueueBySum_13 rfl (lv_at hl 1 rfl) ?_
        refine va_get (D := D) (ci := 0) (C := RX0) (T := TX0) (N := 13) hx hb hts inW hown hK hP 0 rfl rfl 1 (by decide) (hts (.fieldLink RX0 13 "Flowforge" "machineCount" "I") (List.mem_of_getElem? (i := 2) rfl)) (fun _ h9 => h9) rfl dX0_fillQueueBySum_14 ?_
        refine w_pV (As := [.int (iI ((i : Int))), .int (iI 0), .int (iI ((mm : Int)))]) (rest := []) ⟨hx, hb, hml, hown, hts⟩ hK hP (mX0_sumOf (fr := 0) hT (by omega) (by omega) hm.2) (cwV 3 hts gX0_fillQueueBySum_X0_sumOf rfl rfl rfl (by decide +kernel) ⟨Nat.le_of_ble_eq_true rfl, Nat.le_of_ble_eq_true rfl⟩) (ci := 0) rfl rfl rfl rfl hl.1 rfl (Nat.le_of_ble_eq_true rfl) dX0_fillQueueBySum_17 ⟨Nat.zero_le _, Nat.zero_le _⟩ (fun r17 hr17 => ?_)
        refine w_top (v := iI ((smR tT i 0 mm))) (hr17) ?_
        refine lv_istore_n (lv' := [(2, .int (iI ((smR tT i 0 mm)))), (1, .int (iI ((i : Int)))), (0, .ref (ad 0))]) hx hb dX0_fillQueueBySum_20 rfl hl (by decide) rfl (fun ls hl => ?_)
        refine lv_iload_n hx hb dX0_fillQueueBySum_21 rfl (lv_at hl 1 rfl) ?_
        refine lv_istore_n (lv' := [(3, .int (iI ((i : Int)))), (2, .int (iI ((smR tT i 0 mm)))), (1, .int (iI ((i : Int)))), (0, .ref (ad 0))]) hx hb dX0_fillQueueBySum_22 rfl hl (by decide) rfl (fun ls hl => ?_)
        have L23 : ∀ (fu : Nat) (g : Nat) (wqueue23 : Nat → Nat) (x3_23 : Int), (g ≤ i) → (pos (bqs tT mm) (srt (bqs tT mm) oQ i) i i = pos (bqs tT mm) (srt (bqs tT mm) oQ i) i g) → (wqueue23 = sh2 (srt (bqs tT mm) oQ i) i (i - g)) → (x3_23 = (g : Int)) → g < fu → ∀ (H : Heap) (locs : List Loc), va_P D vwCl (xw ad cI cZ nn mm tT tB tE tL oO oR wqueue23 zS zM zN oJ) H → va_D A (xw ad cI cZ nn mm tT tB tE tL oO oR wqueue23 zS zM zN oJ) → va_S A s.heap H locs → ∀ ls : Array Slot, lv_has ls 4 [(3, .int (iI (x3_23))), (2, .int (iI ((smR tT i 0 mm)))), (1, .int (iI ((i : Int)))), (0, .ref (ad 0))] → W p l e (rmx 3 68) s m args below meth c H locs 0 0 Q (F0 m 23 ls []) := by
          intro fu
          induction fu with
          | zero =>
            intro g wqueue23 x3_23 hg hps hq0 hq1 hfu
            exact absurd hfu (Nat.not_lt_zero _)
          | succ fu ih =>
            intro g wqueue23 x3_23 hg hps hq0 hq1 hfu H locs hP hD hS ls hl
            subst hq0
            subst hq1
            have ih23 := ih
            have h9 := smR_rg hT i 0 mm
            refine lv_iload_n hx hb dX0_fillQueueBySum_23 rfl (lv_at hl 0 rfl) ?_
            refine w_if_le (tgt := 68) hx hb dX0_fillQueueBySum_24 (by decide) ⟨by omega, by omega⟩ (fun c24 => ?_) (fun c24 => ?_)
            · have hpp : pos (bqs tT mm) (srt (bqs tT mm) oQ i) i i = g := by rw [hps, show g = 0 by omega]; rfl
              refine lv_aload_n hx hb dX0_fillQueueBySum_68 rfl (lv_at hl 3 rfl) ?_
              refine va_get (D := D) (ci := 0) (C := RX0) (T := TX0) (N := 13) hx hb hts inW hown hK hP 0 rfl rfl 8 (by decide) (hts (.fieldLink RX0 35 "Flowforge" "queue" "[I") (List.mem_of_getElem? (i := 3) rfl)) (fun _ h9 => h9) rfl dX0_fillQueueBySum_69 ?_
              refine lv_iload_n hx hb dX0_fillQueueBySum_72 rfl (lv_at hl 0 rfl) ?_
              refine lv_iload_n hx hb dX0_fillQueueBySum_73 rfl (lv_at hl 2 rfl) ?_
              refine w_iast (g := jI (va_up (sh2 (srt (bqs tT mm) oQ i) i (i - g)) g i)) (ws' := xw ad cI cZ nn mm tT tB tE tL oO oR (va_up (sh2 (srt (bqs tT mm) oQ i) i (i - g)) g i) zS zM zN oJ) hx hb hK hP hD hS 7 0 rfl rfl (g) (by omega) (by omega) (by decide) (hg := jI_up) (hw := rfl) (hd := dX0_fillQueueBySum_74) (kk := fun H locs hP hD hS => ?_)
              refine lv_iinc (v := iI ((i : Int) + 1)) (lv' := [(1, .int (iI ((i : Int) + 1))), (3, .int (iI ((g : Int)))), (2, .int (iI ((smR tT i 0 mm)))), (0, .ref (ad 0))]) hx hb dX0_fillQueueBySum_75 hl (k := 2) rfl (iI_inc (by omega)) (by decide) rfl (fun ls hl => ?_)
              refine lv_goto (tgt := 2) hx hb dX0_fillQueueBySum_78 (by decide) ?_
              exact ih2 (i + 1) (va_up (sh2 (srt (bqs tT mm) oQ i) i (i - g)) g i) ((i : Int) + 1) (by omega) (by show _ = ins _ _ _; unfold ins; rw [hpp]) (by omega) (by omega) _ _ hP hD hS ls (lv_sub hl [0, 3] rfl)
            · have h8 : (srt (bqs tT mm) oQ i) (g - 1) < i := srt_lt (by omega)
              have h7 := smR_rg hT ((srt (bqs tT mm) oQ i) (g - 1)) 0 mm
              refine lv_iload_n hx hb dX0_fillQueueBySum_27 rfl (lv_at hl 1 rfl) ?_
              refine lv_aload_n hx hb dX0_fillQueueBySum_28 rfl (lv_at hl 3 rfl) ?_
              refine lv_aload_n hx hb dX0_fillQueueBySum_29 rfl (lv_at hl 3 rfl) ?_
              refine va_get (D := D) (ci := 0) (C := RX0) (T := TX0) (N := 13) hx hb hts inW hown hK hP 0 rfl rfl 8 (by decide) (hts (.fieldLink RX0 35 "Flowforge" "queue" "[I") (List.mem_of_getElem? (i := 3) rfl)) (fun _ h9 => h9) rfl dX0_fillQueueBySum_30 ?_
              refine lv_iload_n hx hb dX0_fillQueueBySum_33 rfl (lv_at hl 0 rfl) ?_
              refine lv_iconst (v := iI 1) hx hb dX0_fillQueueBySum_34 rfl ?_
              refine w_isub (z := (g : Int) - 1) hx hb dX0_fillQueueBySum_35 (by omega) ?_
              refine w_iald (v := iI (((srt (bqs tT mm) oQ i) (g - 1) : Nat) : Int)) hx hb hK hP 7 0 rfl rfl (g - 1) (by omega) (by omega) (by decide) (congrArg (fun q : Nat => iI (q : Int)) (sh2_at (by omega))) dX0_fillQueueBySum_36 ?_
              refine lv_iconst (v := iI 0) hx hb dX0_fillQueueBySum_37 rfl ?_
              refine lv_aload_n hx hb dX0_fillQueueBySum_38 rfl (lv_at hl 3 rfl) ?_
              refine va_get (D := D) (ci := 0) (C := RX0) (T := TX0) (N := 13) hx hb hts inW hown hK hP 0 rfl rfl 1 (by decide) (hts (.fieldLink RX0 13 "Flowforge" "machineCount" "I") (List.mem_of_getElem? (i := 2) rfl)) (fun _ h9 => h9) rfl dX0_fillQueueBySum_39 ?_
              refine w_pV (As := [.int (iI ((((((srt (bqs tT mm) oQ i) (g - 1))) : Nat) : Int))), .int (iI 0), .int (iI ((mm : Int)))]) (rest := [.int (iI ((smR tT i 0 mm)))]) ⟨hx, hb, hml, hown, hts⟩ hK hP (mX0_sumOf (fr := 0) hT (by omega) (by omega) hm.2) (cwV 3 hts gX0_fillQueueBySum_X0_sumOf rfl rfl rfl (by decide +kernel) ⟨Nat.le_of_ble_eq_true rfl, Nat.le_of_ble_eq_true rfl⟩) (ci := 0) rfl rfl rfl rfl hl.1 (by rw [show (((((srt (bqs tT mm) oQ i) (g - 1) : Nat) : Int)) : Int) = (((((srt (bqs tT mm) oQ i) (g - 1))) : Nat) : Int) by omega]; try rfl) (Nat.le_of_ble_eq_true rfl) dX0_fillQueueBySum_42 ⟨Nat.zero_le _, Nat.zero_le _⟩ (fun r42 hr42 => ?_)
              refine w_top (v := iI ((smR tT (((srt (bqs tT mm) oQ i) (g - 1))) 0 mm))) (hr42) ?_
              refine w_icmp_le (tgt := 68) hx hb dX0_fillQueueBySum_45 (by decide) ⟨by omega, by omega⟩ ⟨by omega, by omega⟩ (fun c45 => ?_) (fun c45 => ?_)
              · have hbe : ¬ bqs tT mm i ((srt (bqs tT mm) oQ i) (g - 1)) = true := bqs_n (by omega)
                have hpp : pos (bqs tT mm) (srt (bqs tT mm) oQ i) i i = g := hps.trans (pos_stop (by omega) hbe)
                refine lv_aload_n hx hb dX0_fillQueueBySum_68 rfl (lv_at hl 3 rfl) ?_
                refine va_get (D := D) (ci := 0) (C := RX0) (T := TX0) (N := 13) hx hb hts inW hown hK hP 0 rfl rfl 8 (by decide) (hts (.fieldLink RX0 35 "Flowforge" "queue" "[I") (List.mem_of_getElem? (i := 3) rfl)) (fun _ h9 => h9) rfl dX0_fillQueueBySum_69 ?_
                refine lv_iload_n hx hb dX0_fillQueueBySum_72 rfl (lv_at hl 0 rfl) ?_
                refine lv_iload_n hx hb dX0_fillQueueBySum_73 rfl (lv_at hl 2 rfl) ?_
                refine w_iast (g := jI (va_up (sh2 (srt (bqs tT mm) oQ i) i (i - g)) g i)) (ws' := xw ad cI cZ nn mm tT tB tE tL oO oR (va_up (sh2 (srt (bqs tT mm) oQ i) i (i - g)) g i) zS zM zN oJ) hx hb hK hP hD hS 7 0 rfl rfl (g) (by omega) (by omega) (by decide) (hg := jI_up) (hw := rfl) (hd := dX0_fillQueueBySum_74) (kk := fun H locs hP hD hS => ?_)
                refine lv_iinc (v := iI ((i : Int) + 1)) (lv' := [(1, .int (iI ((i : Int) + 1))), (3, .int (iI ((g : Int)))), (2, .int (iI ((smR tT i 0 mm)))), (0, .ref (ad 0))]) hx hb dX0_fillQueueBySum_75 hl (k := 2) rfl (iI_inc (by omega)) (by decide) rfl (fun ls hl => ?_)
                refine lv_goto (tgt := 2) hx hb dX0_fillQueueBySum_78 (by decide) ?_
                exact ih2 (i + 1) (va_up (sh2 (srt (bqs tT mm) oQ i) i (i - g)) g i) ((i : Int) + 1) (by omega) (by show _ = ins _ _ _; unfold ins; rw [hpp]) (by omega) (by omega) _ _ hP hD hS ls (lv_sub hl [0, 3] rfl)
              · have hbe : bqs tT mm i ((srt (bqs tT mm) oQ i) (g - 1)) = true := bqs_y (by omega)
                refine lv_aload_n hx hb dX0_fillQueueBySum_48 rfl (lv_at hl 3 rfl) ?_
                refine va_get (D := D) (ci := 0) (C := RX0) (T := TX0) (N := 13) hx hb hts inW hown hK hP 0 rfl rfl 8 (by decide) (hts (.fieldLink RX0 35 "Flowforge" "queue" "[I") (List.mem_of_getElem? (i := 3) rfl)) (fun _ h9 => h9) rfl dX0_fillQueueBySum_49 ?_
                refine lv_iload_n hx hb dX0_fillQueueBySum_52 rfl (lv_at hl 0 rfl) ?_
                refine lv_aload_n hx hb dX0_fillQueueBySum_53 rfl (lv_at hl 3 rfl) ?_
                refine va_get (D := D) (ci := 0) (C := RX0) (T := TX0) (N := 13) hx hb hts inW hown hK hP 0 rfl rfl 8 (by decide) (hts (.fieldLink RX0 35 "Flowforge" "queue" "[I") (List.mem_of_getElem? (i := 3) rfl)) (fun _ h9 => h9) rfl dX0_fillQueueBySum_54 ?_
                refine lv_iload_n hx hb dX0_fillQueueBySum_57 rfl (lv_at hl 0 rfl) ?_
                refine lv_iconst (v := iI 1) hx hb dX0_fillQueueBySum_58 rfl ?_
                refine w_isub (z := (g : Int) - 1) hx hb dX0_fillQueueBySum_59 (by omega) ?_
                refine w_iald (v := iI (((srt (bqs tT mm) oQ i) (g - 1) : Nat) : Int)) hx hb hK hP 7 0 rfl rfl (g - 1) (by omega) (by omega) (by decide) (congrArg (fun q : Nat => iI (q : Int)) (sh2_at (by omega))) dX0_fillQueueBySum_60 ?_
                refine w_iast (g := jI (va_up (sh2 (srt (bqs tT mm) oQ i) i (i - g)) g (((srt (bqs tT mm) oQ i) (g - 1))))) (ws' := xw ad cI cZ nn mm tT tB tE tL oO oR (va_up (sh2 (srt (bqs tT mm) oQ i) i (i - g)) g (((srt (bqs tT mm) oQ i) (g - 1)))) zS zM zN oJ) hx hb hK hP hD hS 7 0 rfl rfl (g) (by omega) (by omega) (by decide) (hg := jI_up) (hw := rfl) (hd := dX0_fillQueueBySum_61) (kk := fun H locs hP hD hS => ?_)
                refine lv_iinc (v := iI ((g : Int) - 1)) (lv' := [(3, .int (iI ((g : Int) - 1))), (2, .int (iI ((smR tT i 0 mm)))), (1, .int (iI ((i : Int)))), (0, .ref (ad 0))]) hx hb dX0_fillQueueBySum_62 hl (k := 0) rfl (iI_inc (by omega)) (by decide) rfl (fun ls hl => ?_)
                refine lv_goto (tgt := 23) hx hb dX0_fillQueueBySum_65 (by decide) ?_
                exact ih23 (g - 1) (va_up (sh2 (srt (bqs tT mm) oQ i) i (i - g)) g (((srt (bqs tT mm) oQ i) (g - 1)))) ((g : Int) - 1) (by omega) (hps.trans (pos_go (by omega) hbe)) (sh2_p (by omega) hg) (by omega) (by omega) _ _ hP hD hS ls (lv_sub hl [0, 1, 2, 3] rfl)
        exact L23 (i + 1) i (srt (bqs tT mm) oQ i) ((i : Int)) (by omega) (rfl) (by rw [Nat.sub_self, sh2_0]) (by omega) (Nat.lt_succ_self _) _ _ hP hD hS ls (lv_sub hl [0, 1, 2, 3] rfl)
  exact L2 (nn - 0 + 1) 0 oQ (0) (by omega) (rfl) (by omega) (Nat.lt_succ_self _) _ _ hP hD hS ls (lv_sub hl [0, 1] rfl)
set_option maxHeartbeats 4000000 in
set_option maxRecDepth 100000 in
theorem mX0_goesBefore {i j a b : Nat} (hT : ∀ k, 0 ≤ tT k ∧ tT k ≤ 99) (hi : i < 7) (hj : j < 7) (ha : a < 5) (hb5 : b < 5) : PM l yX0_goesBefore wsX0_goesBefore (rmx 2 43) D (tyk cI cZ cJ) (xw ad cI cZ nn mm tT tB tE tL oO oR oQ zS zM zN oJ) [.ref (ad 0), .int (iI ((i : Int))), .int (iI ((j : Int))), .int (iI ((a : Int))), .int (iI ((b : Int)))] (vp_Si (fun x => x = iI (if gbr tT a b i j = true then 1 else 0))) := by
  refine pmZ_of (cc := cX0_goesBefore) (maxL := 7) (by decide) rfl (Nat.le_of_ble_eq_true rfl) ?_
  intro p e s m args below meth c Q hx hb hml hown hts hK hP hret ls hl
  have hown : s.vm.findClass RX0 = some m.cls := hown
  have hl : lv_has ls 7 [(0, .ref (ad 0)), (1, .int (iI ((i : Int)))), (2, .int (iI ((j : Int)))), (3, .int (iI ((a : Int)))), (4, .int (iI ((b : Int))))] := hl
  have q1 := hT (5 * i + a)
  have q2 := hT (5 * i + b)
  have q3 := hT (5 * j + a)
  have q4 := hT (5 * j + b)
  refine lv_aload_n hx hb dX0_goesBefore_0 rfl (lv_at hl 0 rfl) ?_
  refine lv_iload_n hx hb dX0_goesBefore_1 rfl (lv_at hl 1 rfl) ?_
  refine lv_iload_n hx hb dX0_goesBefore_2 rfl (lv_at hl 3 rfl) ?_
  refine w_pV (As := [.int (iI ((i : Int))), .int (iI ((a : Int)))]) (rest := []) ⟨hx, hb, hml, hown, hts⟩ hK hP (mX0_timeOf  hi ha) (cwV 2 hts gX0_goesBefore_X0_timeOf rfl rfl rfl (by decide +kernel) ⟨Nat.le_of_ble_eq_true rfl, Nat.le_of_ble_eq_true rfl⟩) (ci := 0) rfl rfl rfl rfl hl.1 rfl (Nat.le_of_ble_eq_true rfl) dX0_goesBefore_3 ⟨Nat.zero_le _, Nat.zero_le _⟩ (fun r3 hr3 => ?_)
  refine w_top (v := iI ((tT (5 * i + a)))) (hr3) ?_
  refine lv_aload_n hx hb dX0_goesBefore_6 rfl (lv_at hl 0 rfl) ?_
  refine lv_iload_n hx hb dX0_goesBefore_7 rfl (lv_at hl 1 rfl) ?_
  refine lv_iload hx hb dX0_goesBefore_8 (lv_at hl 4 rfl) ?_
  refine w_pV (As := [.int (iI ((i : Int))), .int (iI ((b : Int)))]) (rest := [.int (iI ((tT (5 * i + a))))]) ⟨hx, hb, hml, hown, hts⟩ hK hP (mX0_timeOf  hi hb5) (cwV 2 hts gX0_goesBefore_X0_timeOf rfl rfl rfl (by decide +kernel) ⟨Nat.le_of_ble_eq_true rfl, Nat.le_of_ble_eq_true rfl⟩) (ci := 0) rfl rfl rfl rfl hl.1 rfl (Nat.le_of_ble_eq_true rfl) dX0_goesBefore_10 ⟨Nat.zero_le _, Nat.zero_le _⟩ (fun r10 hr10 => ?_)
  refine w_top (v := iI ((tT (5 * i + b)))) (hr10) ?_
  refine w_icmp_gt (tgt := 20) hx hb dX0_goesBefore_13 (by decide) ⟨by omega, by omega⟩ ⟨by omega, by omega⟩ (fun c13 => ?_) (fun c13 => ?_)
  · refine lv_iconst (v := iI 0) hx hb dX0_goesBefore_20 rfl ?_
    refine lv_istore (lv' := [(5, .int (iI 0)), (0, .ref (ad 0)), (1, .int (iI ((i : Int)))), (2, .int (iI ((j : Int)))), (3, .int (iI ((a : Int)))), (4, .int (iI ((b : Int))))]) hx hb dX0_goesBefore_21 hl (by decide) rfl (fun ls hl => ?_)
    refine lv_aload_n hx hb dX0_goesBefore_23 rfl (lv_at hl 1 rfl) ?_
    refine lv_iload_n hx hb dX0_goesBefore_24 rfl (lv_at hl 3 rfl) ?_
    refine lv_iload_n hx hb dX0_goesBefore_25 rfl (lv_at hl 4 rfl) ?_
    refine w_pV (As := [.int (iI ((j : Int))), .int (iI ((a : Int)))]) (rest := []) ⟨hx, hb, hml, hown, hts⟩ hK hP (mX0_timeOf  hj ha) (cwV 2 hts gX0_goesBefore_X0_timeOf rfl rfl rfl (by decide +kernel) ⟨Nat.le_of_ble_eq_true rfl, Nat.le_of_ble_eq_true rfl⟩) (ci := 0) rfl rfl rfl rfl hl.1 rfl (Nat.le_of_ble_eq_true rfl) dX0_goesBefore_26 ⟨Nat.zero_le _, Nat.zero_le _⟩ (fun r26 hr26 => ?_)
    refine w_top (v := iI ((tT (5 * j + a)))) (hr26) ?_
    refine lv_aload_n hx hb dX0_goesBefore_29 rfl (lv_at hl 1 rfl) ?_
    refine lv_iload_n hx hb dX0_goesBefore_30 rfl (lv_at hl 3 rfl) ?_
    refine lv_iload hx hb dX0_goesBefore_31 (lv_at hl 5 rfl) ?_
    refine w_pV (As := [.int (iI ((j : Int))), .int (iI ((b : Int)))]) (rest := [.int (iI ((tT (5 * j + a))))]) ⟨hx, hb, hml, hown, hts⟩ hK hP (mX0_timeOf  hj hb5) (cwV 2 hts gX0_goesBefore_X0_timeOf rfl rfl rfl (by decide +kernel) ⟨Nat.le_of_ble_eq_true rfl, Nat.le_of_ble_eq_true rfl⟩) (ci := 0) rfl rfl rfl rfl hl.1 rfl (Nat.le_of_ble_eq_true rfl) dX0_goesBefore_33 ⟨Nat.zero_le _, Nat.zero_le _⟩ (fun r33 hr33 => ?_)
    refine w_top (v := iI ((tT (5 * j + b)))) (hr33) ?_
    refine w_icmp_gt (tgt := 43) hx hb dX0_goesBefore_36 (by decide) ⟨by omega, by omega⟩ ⟨by omega, by omega⟩ (fun c36 => ?_) (fun c36 => ?_)
    · refine lv_iconst (v := iI 0) hx hb dX0_goesBefore_43 rfl ?_
      refine lv_istore (lv' := [(6, .int (iI 0)), (5, .int (iI 0)), (0, .ref (ad 0)), (1, .int (iI ((i : Int)))), (2, .int (iI ((j : Int)))), (3, .int (iI ((a : Int)))), (4, .int (iI ((b : Int))))]) hx hb dX0_goesBefore_44 hl (by decide) rfl (fun ls hl => ?_)
      refine lv_iload hx hb dX0_goesBefore_46 (lv_at hl 1 rfl) ?_
      refine lv_iload hx hb dX0_goesBefore_48 (lv_at hl 0 rfl) ?_
      refine w_icmp_eq (tgt := 56) hx hb dX0_goesBefore_50 (by decide) ⟨by omega, by omega⟩ ⟨by omega, by omega⟩ (fun c50 => ?_) (fun c50 => absurd c50 (by omega))
      refine lv_iload hx hb dX0_goesBefore_56 (lv_at hl 1 rfl) ?_
      refine w_if_eq (tgt := 82) hx hb dX0_goesBefore_58 (by decide) ⟨by omega, by omega⟩ (fun c58 => ?_) (fun c58 => absurd c58 (by omega))
      refine lv_aload_n hx hb dX0_goesBefore_82 rfl (lv_at hl 2 rfl) ?_
      refine lv_iload_n hx hb dX0_goesBefore_83 rfl (lv_at hl 3 rfl) ?_
      refine lv_iload hx hb dX0_goesBefore_84 (lv_at hl 6 rfl) ?_
      refine w_pV (As := [.int (iI ((i : Int))), .int (iI ((b : Int)))]) (rest := []) ⟨hx, hb, hml, hown, hts⟩ hK hP (mX0_timeOf  hi hb5) (cwV 2 hts gX0_goesBefore_X0_timeOf rfl rfl rfl (by decide +kernel) ⟨Nat.le_of_ble_eq_true rfl, Nat.le_of_ble_eq_true rfl⟩) (ci := 0) rfl rfl rfl rfl hl.1 rfl (Nat.le_of_ble_eq_true rfl) dX0_goesBefore_86 ⟨Nat.zero_le _, Nat.zero_le _⟩ (fun r86 hr86 => ?_)
      refine w_top (v := iI ((tT (5 * i + b)))) (hr86) ?_
      refine lv_aload_n hx hb dX0_goesBefore_89 rfl (lv_at hl 2 rfl) ?_
      refine lv_iload_n hx hb dX0_goesBefore_90 rfl (lv_at hl 4 rfl) ?_
      refine lv_iload hx hb dX0_goesBefore_91 (lv_at hl 6 rfl) ?_
      refine w_pV (As := [.int (iI ((j : Int))), .int (iI ((b : Int)))]) (rest := [.int (iI ((tT (5 * i + b))))]) ⟨hx, hb, hml, hown, hts⟩ hK hP (mX0_timeOf  hj hb5) (cwV 2 hts gX0_goesBefore_X0_timeOf rfl rfl rfl (by decide +kernel) ⟨Nat.le_of_ble_eq_true rfl, Nat.le_of_ble_eq_true rfl⟩) (ci := 0) rfl rfl rfl rfl hl.1 rfl (Nat.le_of_ble_eq_true rfl) dX0_goesBefore_93 ⟨Nat.zero_le _, Nat.zero_le _⟩ (fun r93 hr93 => ?_)
      refine w_top (v := iI ((tT (5 * j + b)))) (hr93) ?_
      refine w_icmp_le (tgt := 103) hx hb dX0_goesBefore_96 (by decide) ⟨by omega, by omega⟩ ⟨by omega, by omega⟩ (fun c96 => ?_) (fun c96 => ?_)
      · refine lv_iconst (v := iI 0) hx hb dX0_goesBefore_103 rfl ?_
        exact hret 104 ls _ rfl (gb_f (by unfold gbr; split <;> (try split) <;> (try split) <;> first | rfl | (exfalso; omega))) dX0_goesBefore_104
      · refine lv_iconst (v := iI 1) hx hb dX0_goesBefore_99 rfl ?_
        refine lv_goto (tgt := 104) hx hb dX0_goesBefore_100 (by decide) ?_
        exact hret 104 ls _ rfl (gb_t (by unfold gbr; split <;> (try split) <;> (try split) <;> first | rfl | (exfalso; omega))) dX0_goesBefore_104
    · refine lv_iconst (v := iI 1) hx hb dX0_goesBefore_39 rfl ?_
      refine lv_goto (tgt := 44) hx hb dX0_goesBefore_40 (by decide) ?_
      refine lv_istore (lv' := [(6, .int (iI 1)), (5, .int (iI 0)), (0, .ref (ad 0)), (1, .int (iI ((i : Int)))), (2, .int (iI ((j : Int)))), (3, .int (iI ((a : Int)))), (4, .int (iI ((b : Int))))]) hx hb dX0_goesBefore_44 hl (by decide) rfl (fun ls hl => ?_)
      refine lv_iload hx hb dX0_goesBefore_46 (lv_at hl 1 rfl) ?_
      refine lv_iload hx hb dX0_goesBefore_48 (lv_at hl 0 rfl) ?_
      refine w_icmp_eq (tgt := 56) hx hb dX0_goesBefore_50 (by decide) ⟨by omega, by omega⟩ ⟨by omega, by omega⟩ (fun c50 => absurd c50 (by omega)) (fun c50 => ?_)
      refine lv_iload hx hb dX0_goesBefore_53 (lv_at hl 1 rfl) ?_
      exact hret 55 ls _ rfl (gb_f (by unfold gbr; split <;> (try split) <;> (try split) <;> first | rfl | (exfalso; omega))) dX0_goesBefore_55
  · refine lv_iconst (v := iI 1) hx hb dX0_goesBefore_16 rfl ?_
    refine lv_goto (tgt := 21) hx hb dX0_goesBefore_17 (by decide) ?_
    refine lv_istore (lv' := [(5, .int (iI 1)), (0, .ref (ad 0)), (1, .int (iI ((i : Int)))), (2, .int (iI ((j : Int)))), (3, .int (iI ((a : Int)))), (4, .int (iI ((b : Int))))]) hx hb dX0_goesBefore_21 hl (by decide) rfl (fun ls hl => ?_)
    refine lv_aload_n hx hb dX0_goesBefore_23 rfl (lv_at hl 1 rfl) ?_
    refine lv_iload_n hx hb dX0_goesBefore_24 rfl (lv_at hl 3 rfl) ?_
    refine lv_iload_n hx hb dX0_goesBefore_25 rfl (lv_at hl 4 rfl) ?_
    refine w_pV (As := [.int (iI ((j : Int))), .int (iI ((a : Int)))]) (rest := []) ⟨hx, hb, hml, hown, hts⟩ hK hP (mX0_timeOf  hj ha) (cwV 2 hts gX0_goesBefore_X0_timeOf rfl rfl rfl (by decide +kernel) ⟨Nat.le_of_ble_eq_true rfl, Nat.le_of_ble_eq_true rfl⟩) (ci := 0) rfl rfl rfl rfl hl.1 rfl (Nat.le_of_ble_eq_true rfl) dX0_goesBefore_26 ⟨Nat.zero_le _, Nat.zero_le _⟩ (fun r26 hr26 => ?_)
    refine w_top (v := iI ((tT (5 * j + a)))) (hr26) ?_
    refine lv_aload_n hx hb dX0_goesBefore_29 rfl (lv_at hl 1 rfl) ?_
    refine lv_iload_n hx hb dX0_goesBefore_30 rfl (lv_at hl 3 rfl) ?_
    refine lv_iload hx hb dX0_goesBefore_31 (lv_at hl 5 rfl) ?_
    refine w_pV (As := [.int (iI ((j : Int))), .int (iI ((b : Int)))]) (rest := [.int (iI ((tT (5 * j + a))))]) ⟨hx, hb, hml, hown, hts⟩ hK hP (mX0_timeOf  hj hb5) (cwV 2 hts gX0_goesBefore_X0_timeOf rfl rfl rfl (by decide +kernel) ⟨Nat.le_of_ble_eq_true rfl, Nat.le_of_ble_eq_true rfl⟩) (ci := 0) rfl rfl rfl rfl hl.1 rfl (Nat.le_of_ble_eq_true rfl) dX0_goesBefore_33 ⟨Nat.zero_le _, Nat.zero_le _⟩ (fun r33 hr33 => ?_)
    refine w_top (v := iI ((tT (5 * j + b)))) (hr33) ?_
    refine w_icmp_gt (tgt := 43) hx hb dX0_goesBefore_36 (by decide) ⟨by omega, by omega⟩ ⟨by omega, by omega⟩ (fun c36 => ?_) (fun c36 => ?_)
    · refine lv_iconst (v := iI 0) hx hb dX0_goesBefore_43 rfl ?_
      refine lv_istore (lv' := [(6, .int (iI 0)), (5, .int (iI 1)), (0, .ref (ad 0)), (1, .int (iI ((i : Int)))), (2, .int (iI ((j : Int)))), (3, .int (iI ((a : Int)))), (4, .int (iI ((b : Int))))]) hx hb dX0_goesBefore_44 hl (by decide) rfl (fun ls hl => ?_)
      refine lv_iload hx hb dX0_goesBefore_46 (lv_at hl 1 rfl) ?_
      refine lv_iload hx hb dX0_goesBefore_48 (lv_at hl 0 rfl) ?_
      refine w_icmp_eq (tgt := 56) hx hb dX0_goesBefore_50 (by decide) ⟨by omega, by omega⟩ ⟨by omega, by omega⟩ (fun c50 => absurd c50 (by omega)) (fun c50 => ?_)
      refine lv_iload hx hb dX0_goesBefore_53 (lv_at hl 1 rfl) ?_
      exact hret 55 ls _ rfl (gb_t (by unfold gbr; split <;> (try split) <;> (try split) <;> first | rfl | (exfalso; omega))) dX0_goesBefore_55
    · refine lv_iconst (v := iI 1) hx hb dX0_goesBefore_39 rfl ?_
      refine lv_goto (tgt := 44) hx hb dX0_goesBefore_40 (by decide) ?_
      refine lv_istore (lv' := [(6, .int (iI 1)), (5, .int (iI 1)), (0, .ref (ad 0)), (1, .int (iI ((i : Int)))), (2, .int (iI ((j : Int)))), (3, .int (iI ((a : Int)))), (4, .int (iI ((b : Int))))]) hx hb dX0_goesBefore_44 hl (by decide) rfl (fun ls hl => ?_)
      refine lv_iload hx hb dX0_goesBefore_46 (lv_at hl 1 rfl) ?_
      refine lv_iload hx hb dX0_goesBefore_48 (lv_at hl 0 rfl) ?_
      refine w_icmp_eq (tgt := 56) hx hb dX0_goesBefore_50 (by decide) ⟨by omega, by omega⟩ ⟨by omega, by omega⟩ (fun c50 => ?_) (fun c50 => absurd c50 (by omega))
      refine lv_iload hx hb dX0_goesBefore_56 (lv_at hl 1 rfl) ?_
      refine w_if_eq (tgt := 82) hx hb dX0_goesBefore_58 (by decide) ⟨by omega, by omega⟩ (fun c58 => absurd c58 (by omega)) (fun c58 => ?_)
      refine lv_aload_n hx hb dX0_goesBefore_61 rfl (lv_at hl 2 rfl) ?_
      refine lv_iload_n hx hb dX0_goesBefore_62 rfl (lv_at hl 3 rfl) ?_
      refine lv_iload_n hx hb dX0_goesBefore_63 rfl (lv_at hl 5 rfl) ?_
      refine w_pV (As := [.int (iI ((i : Int))), .int (iI ((a : Int)))]) (rest := []) ⟨hx, hb, hml, hown, hts⟩ hK hP (mX0_timeOf  hi ha) (cwV 2 hts gX0_goesBefore_X0_timeOf rfl rfl rfl (by decide +kernel) ⟨Nat.le_of_ble_eq_true rfl, Nat.le_of_ble_eq_true rfl⟩) (ci := 0) rfl rfl rfl rfl hl.1 rfl (Nat.le_of_ble_eq_true rfl) dX0_goesBefore_64 ⟨Nat.zero_le _, Nat.zero_le _⟩ (fun r64 hr64 => ?_)
      refine w_top (v := iI ((tT (5 * i + a)))) (hr64) ?_
      refine lv_aload_n hx hb dX0_goesBefore_67 rfl (lv_at hl 2 rfl) ?_
      refine lv_iload_n hx hb dX0_goesBefore_68 rfl (lv_at hl 4 rfl) ?_
      refine lv_iload_n hx hb dX0_goesBefore_69 rfl (lv_at hl 5 rfl) ?_
      refine w_pV (As := [.int (iI ((j : Int))), .int (iI ((a : Int)))]) (rest := [.int (iI ((tT (5 * i + a))))]) ⟨hx, hb, hml, hown, hts⟩ hK hP (mX0_timeOf  hj ha) (cwV 2 hts gX0_goesBefore_X0_timeOf rfl rfl rfl (by decide +kernel) ⟨Nat.le_of_ble_eq_true rfl, Nat.le_of_ble_eq_true rfl⟩) (ci := 0) rfl rfl rfl rfl hl.1 rfl (Nat.le_of_ble_eq_true rfl) dX0_goesBefore_70 ⟨Nat.zero_le _, Nat.zero_le _⟩ (fun r70 hr70 => ?_)
      refine w_top (v := iI ((tT (5 * j + a)))) (hr70) ?_
      refine w_icmp_ge (tgt := 80) hx hb dX0_goesBefore_73 (by decide) ⟨by omega, by omega⟩ ⟨by omega, by omega⟩ (fun c73 => ?_) (fun c73 => ?_)
      · refine lv_iconst (v := iI 0) hx hb dX0_goesBefore_80 rfl ?_
        exact hret 81 ls _ rfl (gb_f (by unfold gbr; split <;> (try split) <;> (try split) <;> first | rfl | (exfalso; omega))) dX0_goesBefore_81
      · refine lv_iconst (v := iI 1) hx hb dX0_goesBefore_76 rfl ?_
        refine lv_goto (tgt := 81) hx hb dX0_goesBefore_77 (by decide) ?_
        exact hret 81 ls _ rfl (gb_t (by unfold gbr; split <;> (try split) <;> (try split) <;> first | rfl | (exfalso; omega))) dX0_goesBefore_81
set_option maxHeartbeats 4000000 in
set_option maxRecDepth 100000 in
theorem mX0_fillByRule_o {a b : Nat} (hT : ∀ k, 0 ≤ tT k ∧ tT k ≤ 99) (hn : nn ≤ 7) (ha : a < 5) (hb5 : b < 5) : IM l yX0_fillByRule wsX0_fillByRule (rmx 3 69) D (tyk cI cZ cJ) (xw ad cI cZ nn mm tT tB tE tL oO oR oQ zS zM zN oJ) [.ref (ad 0), .ref (ad 5), .int (iI ((a : Int))), .int (iI ((b : Int)))] (QV D (tyk cI cZ cJ) (fun u : Unit => xw ad cI cZ nn mm tT tB tE tL (srt (gbr tT a b) oO nn) oR oQ zS zM zN oJ) (fun _ => True)) := by
  refine imV_of (cc := cX0_fillByRule) (maxL := 6) (by decide) rfl (Nat.le_of_ble_eq_true rfl) ?_
  intro p e s m args below meth c A Q hx hb hml hown hts hA hK hP hD hS hret ls hl
  have hown : s.vm.findClass RX0 = some m.cls := hown
  have hl : lv_has ls 6 [(0, .ref (ad 0)), (1, .ref (ad 5)), (2, .int (iI ((a : Int)))), (3, .int (iI ((b : Int))))] := hl
  have inW : ∀ w ∈ wsX00, w ∈ wsX0_fillByRule := by first | exact (fun w h => List.mem_cons_of_mem _ (List.mem_append_right _ h)) | exact (fun w h => List.mem_cons_of_mem _ (List.mem_append_left _ (List.mem_append_right _ h))) | exact (fun w h => List.mem_cons_of_mem _ (List.mem_append_left _ (List.mem_append_left _ (List.mem_append_right _ h)))) | decide +kernel
  refine lv_iconst (v := iI 0) hx hb dX0_fillByRule_0 rfl ?_
  refine lv_istore (lv' := [(4, .int (iI 0)), (0, .ref (ad 0)), (1, .ref (ad 5)), (2, .int (iI ((a : Int)))), (3, .int (iI ((b : Int))))]) hx hb dX0_fillByRule_1 hl (by decide) rfl (fun ls hl => ?_)
  have L3 : ∀ (fu : Nat) (i : Nat) (worder3 : Nat → Nat) (x4_3 : Int), (i ≤ nn) → (worder3 = srt (gbr tT a b) oO i) → (x4_3 = (i : Int)) → nn - i < fu → ∀ (H : Heap) (locs : List Loc), va_P D vwCl (xw ad cI cZ nn mm tT tB tE tL worder3 oR oQ zS zM zN oJ) H → va_D A (xw ad cI cZ nn mm tT tB tE tL worder3 oR oQ zS zM zN oJ) → va_S A s.heap H locs → ∀ ls : Array Slot, lv_has ls 6 [(4, .int (iI (x4_3))), (0, .ref (ad 0)), (1, .ref (ad 5)), (2, .int (iI ((a : Int)))), (3, .int (iI ((b : Int))))] → W p l e (rmx 3 69) s m args below meth c H locs 0 0 Q (F0 m 3 ls []) := by
    intro fu
    induction fu with
    | zero =>
      intro i worder3 x4_3 hi hq0 hq1 hfu
      exact absurd hfu (Nat.not_lt_zero _)
    | succ fu ih =>
      intro i worder3 x4_3 hi hq0 hq1 hfu H locs hP hD hS ls hl
      subst hq0
      subst hq1
      have ih3 := ih
      refine lv_iload hx hb dX0_fillByRule_3 (lv_at hl 0 rfl) ?_
      refine lv_aload_n hx hb dX0_fillByRule_5 rfl (lv_at hl 1 rfl) ?_
      refine va_get (D := D) (ci := 0) (C := RX0) (T := TX0) (N := 13) hx hb hts inW hown hK hP 0 rfl rfl 0 (by decide) (hts (.fieldLink RX0 7 "Flowforge" "jobCount" "I") (List.mem_of_getElem? (i := 1) rfl)) (fun _ h9 => h9) rfl dX0_fillByRule_6 ?_
      refine w_icmp_ge (tgt := 66) hx hb dX0_fillByRule_9 (by decide) ⟨by omega, by omega⟩ ⟨by omega, by omega⟩ (fun c9 => ?_) (fun c9 => ?_)
      · obtain rfl : nn = i := by omega
        exact hret _ _ 66 ls (()) hP hD hS (trivial) dX0_fillByRule_66
      · refine lv_iload hx hb dX0_fillByRule_12 (lv_at hl 0 rfl) ?_
        refine lv_istore (lv' := [(5, .int (iI ((i : Int)))), (4, .int (iI ((i : Int)))), (0, .ref (ad 0)), (1, .ref (ad 5)), (2, .int (iI ((a : Int)))), (3, .int (iI ((b : Int))))]) hx hb dX0_fillByRule_14 hl (by decide) rfl (fun ls hl => ?_)
        have L16 : ∀ (fu : Nat) (g : Nat) (worder16 : Nat → Nat) (x5_16 : Int), (g ≤ i) → (pos (gbr tT a b) (srt (gbr tT a b) oO i) i i = pos (gbr tT a b) (srt (gbr tT a b) oO i) i g) → (worder16 = sh2 (srt (gbr tT a b) oO i) i (i - g)) → (x5_16 = (g : Int)) → g < fu → ∀ (H : Heap) (locs : List Loc), va_P D vwCl (xw ad cI cZ nn mm tT tB tE tL worder16 oR oQ zS zM zN oJ) H → va_D A (xw ad cI cZ nn mm tT tB tE tL worder16 oR oQ zS zM zN oJ) → va_S A s.heap H locs → ∀ ls : Array Slot, lv_has ls 6 [(5, .int (iI (x5_16))), (4, .int (iI ((i : Int)))), (0, .ref (ad 0)), (1, .ref (ad 5)), (2, .int (iI ((a : Int)))), (3, .int (iI ((b : Int))))] → W p l e (rmx 3 69) s m args below meth c H locs 0 0 Q (F0 m 16 ls []) := by
          intro fu
          induction fu with
          | zero =>
            intro g worder16 x5_16 hg hps hq0 hq1 hfu
            exact absurd hfu (Nat.not_lt_zero _)
          | succ fu ih =>
            intro g worder16 x5_16 hg hps hq0 hq1 hfu H locs hP hD hS ls hl
            subst hq0
            subst hq1
            have ih16 := ih
            refine lv_iload hx hb dX0_fillByRule_16 (lv_at hl 0 rfl) ?_
            refine w_if_le (tgt := 54) hx hb dX0_fillByRule_18 (by decide) ⟨by omega, by omega⟩ (fun c18 => ?_) (fun c18 => ?_)
            · have hpp : pos (gbr tT a b) (srt (gbr tT a b) oO i) i i = g := by rw [hps, show g = 0 by omega]; rfl
              refine lv_aload_n hx hb dX0_fillByRule_54 rfl (lv_at hl 3 rfl) ?_
              refine lv_iload hx hb dX0_fillByRule_55 (lv_at hl 0 rfl) ?_
              refine lv_iload hx hb dX0_fillByRule_57 (lv_at hl 1 rfl) ?_
              refine w_iast (g := jI (va_up (sh2 (srt (gbr tT a b) oO i) i (i - g)) g i)) (ws' := xw ad cI cZ nn mm tT tB tE tL (va_up (sh2 (srt (gbr tT a b) oO i) i (i - g)) g i) oR oQ zS zM zN oJ) hx hb hK hP hD hS 5 0 rfl rfl (g) (by omega) (by omega) (by decide) (hg := jI_up) (hw := rfl) (hd := dX0_fillByRule_59) (kk := fun H locs hP hD hS => ?_)
              refine lv_iinc (v := iI ((i : Int) + 1)) (lv' := [(4, .int (iI ((i : Int) + 1))), (5, .int (iI ((g : Int)))), (0, .ref (ad 0)), (1, .ref (ad 5)), (2, .int (iI ((a : Int)))), (3, .int (iI ((b : Int))))]) hx hb dX0_fillByRule_60 hl (k := 1) rfl (iI_inc (by omega)) (by decide) rfl (fun ls hl => ?_)
              refine lv_goto (tgt := 3) hx hb dX0_fillByRule_63 (by decide) ?_
              exact ih3 (i + 1) (va_up (sh2 (srt (gbr tT a b) oO i) i (i - g)) g i) ((i : Int) + 1) (by omega) (by show _ = ins _ _ _; unfold ins; rw [hpp]) (by omega) (by omega) _ _ hP hD hS ls (lv_sub hl [0, 2, 3, 4, 5] rfl)
            · have h8 : (srt (gbr tT a b) oO i) (g - 1) < i := srt_lt (by omega)
              refine lv_aload_n hx hb dX0_fillByRule_21 rfl (lv_at hl 2 rfl) ?_
              refine lv_iload hx hb dX0_fillByRule_22 (lv_at hl 1 rfl) ?_
              refine lv_aload_n hx hb dX0_fillByRule_24 rfl (lv_at hl 3 rfl) ?_
              refine lv_iload hx hb dX0_fillByRule_25 (lv_at hl 0 rfl) ?_
              refine lv_iconst (v := iI 1) hx hb dX0_fillByRule_27 rfl ?_
              refine w_isub (z := (g : Int) - 1) hx hb dX0_fillByRule_28 (by omega) ?_
              refine w_iald (v := iI (((srt (gbr tT a b) oO i) (g - 1) : Nat) : Int)) hx hb hK hP 5 0 rfl rfl (g - 1) (by omega) (by omega) (by decide) (congrArg (fun q : Nat => iI (q : Int)) (sh2_at (by omega))) dX0_fillByRule_29 ?_
              refine lv_iload_n hx hb dX0_fillByRule_30 rfl (lv_at hl 4 rfl) ?_
              refine lv_iload_n hx hb dX0_fillByRule_31 rfl (lv_at hl 5 rfl) ?_
              refine w_pV (As := [.int (iI ((i : Int))), .int (iI ((((((srt (gbr tT a b) oO i) (g - 1))) : Nat) : Int))), .int (iI ((a : Int))), .int (iI ((b : Int)))]) (rest := []) ⟨hx, hb, hml, hown, hts⟩ hK hP (mX0_goesBefore  hT (by omega) (by omega) ha hb5) (cwV 4 hts gX0_fillByRule_X0_goesBefore rfl rfl rfl (by decide +kernel) ⟨Nat.le_of_ble_eq_true rfl, Nat.le_of_ble_eq_true rfl⟩) (ci := 0) rfl rfl rfl rfl hl.1 (by rw [show (((((srt (gbr tT a b) oO i) (g - 1) : Nat) : Int)) : Int) = (((((srt (gbr tT a b) oO i) (g - 1))) : Nat) : Int) by omega]; try rfl) (Nat.le_of_ble_eq_true rfl) dX0_fillByRule_32 ⟨Nat.zero_le _, Nat.zero_le _⟩ (fun r32 hr32 => ?_)
              have h7 : (if gbr tT a b i ((srt (gbr tT a b) oO i) (g - 1)) = true then (1 : Int) else 0) = 0 ∨ (if gbr tT a b i ((srt (gbr tT a b) oO i) (g - 1)) = true then (1 : Int) else 0) = 1 := by split <;> simp
              refine w_top (v := iI ((if gbr tT a b i (((srt (gbr tT a b) oO i) (g - 1))) = true then 1 else 0))) (hr32) ?_
              refine w_if_eq (tgt := 54) hx hb dX0_fillByRule_35 (by decide) ⟨by omega, by omega⟩ (fun c35 => ?_) (fun c35 => ?_)
              · have hbe : ¬ gbr tT a b i ((srt (gbr tT a b) oO i) (g - 1)) = true := fun q => by rw [if_pos q] at c35; exact absurd c35 (by omega)
                have hpp : pos (gbr tT a b) (srt (gbr tT a b) oO i) i i = g := hps.trans (pos_stop (by omega) hbe)
                refine lv_aload_n hx hb dX0_fillByRule_54 rfl (lv_at hl 3 rfl) ?_
                refine lv_iload hx hb dX0_fillByRule_55 (lv_at hl 0 rfl) ?_
                refine lv_iload hx hb dX0_fillByRule_57 (lv_at hl 1 rfl) ?_
                refine w_iast (g := jI (va_up (sh2 (srt (gbr tT a b) oO i) i (i - g)) g i)) (ws' := xw ad cI cZ nn mm tT tB tE tL (va_up (sh2 (srt (gbr tT a b) oO i) i (i - g)) g i) oR oQ zS zM zN oJ) hx hb hK hP hD hS 5 0 rfl rfl (g) (by omega) (by omega) (by decide) (hg := jI_up) (hw := rfl) (hd := dX0_fillByRule_59) (kk := fun H locs hP hD hS => ?_)
                refine lv_iinc (v := iI ((i : Int) + 1)) (lv' := [(4, .int (iI ((i : Int) + 1))), (5, .int (iI ((g : Int)))), (0, .ref (ad 0)), (1, .ref (ad 5)), (2, .int (iI ((a : Int)))), (3, .int (iI ((b : Int))))]) hx hb dX0_fillByRule_60 hl (k := 1) rfl (iI_inc (by omega)) (by decide) rfl (fun ls hl => ?_)
                refine lv_goto (tgt := 3) hx hb dX0_fillByRule_63 (by decide) ?_
                exact ih3 (i + 1) (va_up (sh2 (srt (gbr tT a b) oO i) i (i - g)) g i) ((i : Int) + 1) (by omega) (by show _ = ins _ _ _; unfold ins; rw [hpp]) (by omega) (by omega) _ _ hP hD hS ls (lv_sub hl [0, 2, 3, 4, 5] rfl)
              · have hbe : gbr tT a b i ((srt (gbr tT a b) oO i) (g - 1)) = true := Classical.byContradiction (fun q => c35 (if_neg q))
                refine lv_aload_n hx hb dX0_fillByRule_38 rfl (lv_at hl 3 rfl) ?_
                refine lv_iload hx hb dX0_fillByRule_39 (lv_at hl 0 rfl) ?_
                refine lv_aload_n hx hb dX0_fillByRule_41 rfl (lv_at hl 3 rfl) ?_
                refine lv_iload hx hb dX0_fillByRule_42 (lv_at hl 0 rfl) ?_
                refine lv_iconst (v := iI 1) hx hb dX0_fillByRule_44 rfl ?_
                refine w_isub (z := (g : Int) - 1) hx hb dX0_fillByRule_45 (by omega) ?_
                refine w_iald (v := iI (((srt (gbr tT a b) oO i) (g - 1) : Nat) : Int)) hx hb hK hP 5 0 rfl rfl (g - 1) (by omega) (by omega) (by decide) (congrArg (fun q : Nat => iI (q : Int)) (sh2_at (by omega))) dX0_fillByRule_46 ?_
                refine w_iast (g := jI (va_up (sh2 (srt (gbr tT a b) oO i) i (i - g)) g (((srt (gbr tT a b) oO i) (g - 1))))) (ws' := xw ad cI cZ nn mm tT tB tE tL (va_up (sh2 (srt (gbr tT a b) oO i) i (i - g)) g (((srt (gbr tT a b) oO i) (g - 1)))) oR oQ zS zM zN oJ) hx hb hK hP hD hS 5 0 rfl rfl (g) (by omega) (by omega) (by decide) (hg := jI_up) (hw := rfl) (hd := dX0_fillByRule_47) (kk := fun H locs hP hD hS => ?_)
                refine lv_iinc (v := iI ((g : Int) - 1)) (lv' := [(5, .int (iI ((g : Int) - 1))), (4, .int (iI ((i : Int)))), (0, .ref (ad 0)), (1, .ref (ad 5)), (2, .int (iI ((a : Int)))), (3, .int (iI ((b : Int))))]) hx hb dX0_fillByRule_48 hl (k := 0) rfl (iI_inc (by omega)) (by decide) rfl (fun ls hl => ?_)
                refine lv_goto (tgt := 16) hx hb dX0_fillByRule_51 (by decide) ?_
                exact ih16 (g - 1) (va_up (sh2 (srt (gbr tT a b) oO i) i (i - g)) g (((srt (gbr tT a b) oO i) (g - 1)))) ((g : Int) - 1) (by omega) (hps.trans (pos_go (by omega) hbe)) (sh2_p (by omega) hg) (by omega) (by omega) _ _ hP hD hS ls (lv_sub hl [0, 1, 2, 3, 4, 5] rfl)
        exact L16 (i + 1) i (srt (gbr tT a b) oO i) ((i : Int)) (by omega) (rfl) (by rw [Nat.sub_self, sh2_0]) (by omega) (Nat.lt_succ_self _) _ _ hP hD hS ls (lv_sub hl [0, 1, 2, 3, 4, 5] rfl)
  exact L3 (nn - 0 + 1) 0 oO (0) (by omega) (rfl) (by omega) (Nat.lt_succ_self _) _ _ hP hD hS ls (lv_sub hl [0, 1, 2, 3, 4] rfl)
set_option maxHeartbeats 4000000 in
set_option maxRecDepth 100000 in
theorem mX0_fillByRule_t {a b : Nat} (hT : ∀ k, 0 ≤ tT k ∧ tT k ≤ 99) (hn : nn ≤ 7) (ha : a < 5) (hb5 : b < 5) : IM l yX0_fillByRule wsX0_fillByRule (rmx 3 69) D (tyk cI cZ cJ) (xw ad cI cZ nn mm tT tB tE tL oO oR oQ zS zM zN oJ) [.ref (ad 0), .ref (ad 6), .int (iI ((a : Int))), .int (iI ((b : Int)))] (QV D (tyk cI cZ cJ) (fun u : Unit => xw ad cI cZ nn mm tT tB tE tL oO (srt (gbr tT a b) oR nn) oQ zS zM zN oJ) (fun _ => True)) := by
  refine imV_of (cc := cX0_fillByRule) (maxL := 6) (by decide) rfl (Nat.le_of_ble_eq_true rfl) ?_
  intro p e s m args below meth c A Q hx hb hml hown hts hA hK hP hD hS hret ls hl
  have hown : s.vm.findClass RX0 = some m.cls := hown
  have hl : lv_has ls 6 [(0, .ref (ad 0)), (1, .ref (ad 6)), (2, .int (iI ((a : Int)))), (3, .int (iI ((b : Int))))] := hl
  have inW : ∀ w ∈ wsX00, w ∈ wsX0_fillByRule := by first | exact (fun w h => List.mem_cons_of_mem _ (List.mem_append_right _ h)) | exact (fun w h => List.mem_cons_of_mem _ (List.mem_append_left _ (List.mem_append_right _ h))) | exact (fun w h => List.mem_cons_of_mem _ (List.mem_append_left _ (List.mem_append_left _ (List.mem_append_right _ h)))) | decide +kernel
  refine lv_iconst (v := iI 0) hx hb dX0_fillByRule_0 rfl ?_
  refine lv_istore (lv' := [(4, .int (iI 0)), (0, .ref (ad 0)), (1, .ref (ad 6)), (2, .int (iI ((a : Int)))), (3, .int (iI ((b : Int))))]) hx hb dX0_fillByRule_1 hl (by decide) rfl (fun ls hl => ?_)
  have L3 : ∀ (fu : Nat) (i : Nat) (wtrial3 : Nat → Nat) (x4_3 : Int), (i ≤ nn) → (wtrial3 = srt (gbr tT a b) oR i) → (x4_3 = (i : Int)) → nn - i < fu → ∀ (H : Heap) (locs : List Loc), va_P D vwCl (xw ad cI cZ nn mm tT tB tE tL oO wtrial3 oQ zS zM zN oJ) H → va_D A (xw ad cI cZ nn mm tT tB tE tL oO wtrial3 oQ zS zM zN oJ) → va_S A s.heap H locs → ∀ ls : Array Slot, lv_has ls 6 [(4, .int (iI (x4_3))), (0, .ref (ad 0)), (1, .ref (ad 6)), (2, .int (iI ((a : Int)))), (3, .int (iI ((b : Int))))] → W p l e (rmx 3 69) s m args below meth c H locs 0 0 Q (F0 m 3 ls []) := by
    intro fu
    induction fu with
    | zero =>
      intro i wtrial3 x4_3 hi hq0 hq1 hfu
      exact absurd hfu (Nat.not_lt_zero _)
    | succ fu ih =>
      intro i wtrial3 x4_3 hi hq0 hq1 hfu H locs hP hD hS ls hl
      subst hq0
      subst hq1
      have ih3 := ih
      refine lv_iload hx hb dX0_fillByRule_3 (lv_at hl 0 rfl) ?_
      refine lv_aload_n hx hb dX0_fillByRule_5 rfl (lv_at hl 1 rfl) ?_
      refine va_get (D := D) (ci := 0) (C := RX0) (T := TX0) (N := 13) hx hb hts inW hown hK hP 0 rfl rfl 0 (by decide) (hts (.fieldLink RX0 7 "Flowforge" "jobCount" "I") (List.mem_of_getElem? (i := 1) rfl)) (fun _ h9 => h9) rfl dX0_fillByRule_6 ?_
      refine w_icmp_ge (tgt := 66) hx hb dX0_fillByRule_9 (by decide) ⟨by omega, by omega⟩ ⟨by omega, by omega⟩ (fun c9 => ?_) (fun c9 => ?_)
      · obtain rfl : nn = i := by omega
        exact hret _ _ 66 ls (()) hP hD hS (trivial) dX0_fillByRule_66
      · refine lv_iload hx hb dX0_fillByRule_12 (lv_at hl 0 rfl) ?_
        refine lv_istore (lv' := [(5, .int (iI ((i : Int)))), (4, .int (iI ((i : Int)))), (0, .ref (ad 0)), (1, .ref (ad 6)), (2, .int (iI ((a : Int)))), (3, .int (iI ((b : Int))))]) hx hb dX0_fillByRule_14 hl (by decide) rfl (fun ls hl => ?_)
        have L16 : ∀ (fu : Nat) (g : Nat) (wtrial16 : Nat → Nat) (x5_16 : Int), (g ≤ i) → (pos (gbr tT a b) (srt (gbr tT a b) oR i) i i = pos (gbr tT a b) (srt (gbr tT a b) oR i) i g) → (wtrial16 = sh2 (srt (gbr tT a b) oR i) i (i - g)) → (x5_16 = (g : Int)) → g < fu → ∀ (H : Heap) (locs : List Loc), va_P D vwCl (xw ad cI cZ nn mm tT tB tE tL oO wtrial16 oQ zS zM zN oJ) H → va_D A (xw ad cI cZ nn mm tT tB tE tL oO wtrial16 oQ zS zM zN oJ) → va_S A s.heap H locs → ∀ ls : Array Slot, lv_has ls 6 [(5, .int (iI (x5_16))), (4, .int (iI ((i : Int)))), (0, .ref (ad 0)), (1, .ref (ad 6)), (2, .int (iI ((a : Int)))), (3, .int (iI ((b : Int))))] → W p l e (rmx 3 69) s m args below meth c H locs 0 0 Q (F0 m 16 ls []) := by
          intro fu
          induction fu with
          | zero =>
            intro g wtrial16 x5_16 hg hps hq0 hq1 hfu
            exact absurd hfu (Nat.not_lt_zero _)
          | succ fu ih =>
            intro g wtrial16 x5_16 hg hps hq0 hq1 hfu H locs hP hD hS ls hl
            subst hq0
            subst hq1
            have ih16 := ih
            refine lv_iload hx hb dX0_fillByRule_16 (lv_at hl 0 rfl) ?_
            refine w_if_le (tgt := 54) hx hb dX0_fillByRule_18 (by decide) ⟨by omega, by omega⟩ (fun c18 => ?_) (fun c18 => ?_)
            · have hpp : pos (gbr tT a b) (srt (gbr tT a b) oR i) i i = g := by rw [hps, show g = 0 by omega]; rfl
              refine lv_aload_n hx hb dX0_fillByRule_54 rfl (lv_at hl 3 rfl) ?_
              refine lv_iload hx hb dX0_fillByRule_55 (lv_at hl 0 rfl) ?_
              refine lv_iload hx hb dX0_fillByRule_57 (lv_at hl 1 rfl) ?_
              refine w_iast (g := jI (va_up (sh2 (srt (gbr tT a b) oR i) i (i - g)) g i)) (ws' := xw ad cI cZ nn mm tT tB tE tL oO (va_up (sh2 (srt (gbr tT a b) oR i) i (i - g)) g i) oQ zS zM zN oJ) hx hb hK hP hD hS 6 0 rfl rfl (g) (by omega) (by omega) (by decide) (hg := jI_up) (hw := rfl) (hd := dX0_fillByRule_59) (kk := fun H locs hP hD hS => ?_)
              refine lv_iinc (v := iI ((i : Int) + 1)) (lv' := [(4, .int (iI ((i : Int) + 1))), (5, .int (iI ((g : Int)))), (0, .ref (ad 0)), (1, .ref (ad 6)), (2, .int (iI ((a : Int)))), (3, .int (iI ((b : Int))))]) hx hb dX0_fillByRule_60 hl (k := 1) rfl (iI_inc (by omega)) (by decide) rfl (fun ls hl => ?_)
              refine lv_goto (tgt := 3) hx hb dX0_fillByRule_63 (by decide) ?_
              exact ih3 (i + 1) (va_up (sh2 (srt (gbr tT a b) oR i) i (i - g)) g i) ((i : Int) + 1) (by omega) (by show _ = ins _ _ _; unfold ins; rw [hpp]) (by omega) (by omega) _ _ hP hD hS ls (lv_sub hl [0, 2, 3, 4, 5] rfl)
            · have h8 : (srt (gbr tT a b) oR i) (g - 1) < i := srt_lt (by omega)
              refine lv_aload_n hx hb dX0_fillByRule_21 rfl (lv_at hl 2 rfl) ?_
              refine lv_iload hx hb dX0_fillByRule_22 (lv_at hl 1 rfl) ?_
              refine lv_aload_n hx hb dX0_fillByRule_24 rfl (lv_at hl 3 rfl) ?_
              refine lv_iload hx hb dX0_fillByRule_25 (lv_at hl 0 rfl) ?_
              refine lv_iconst (v := iI 1) hx hb dX0_fillByRule_27 rfl ?_
              refine w_isub (z := (g : Int) - 1) hx hb dX0_fillByRule_28 (by omega) ?_
              refine w_iald (v := iI (((srt (gbr tT a b) oR i) (g - 1) : Nat) : Int)) hx hb hK hP 6 0 rfl rfl (g - 1) (by omega) (by omega) (by decide) (congrArg (fun q : Nat => iI (q : Int)) (sh2_at (by omega))) dX0_fillByRule_29 ?_
              refine lv_iload_n hx hb dX0_fillByRule_30 rfl (lv_at hl 4 rfl) ?_
              refine lv_iload_n hx hb dX0_fillByRule_31 rfl (lv_at hl 5 rfl) ?_
              refine w_pV (As := [.int (iI ((i : Int))), .int (iI ((((((srt (gbr tT a b) oR i) (g - 1))) : Nat) : Int))), .int (iI ((a : Int))), .int (iI ((b : Int)))]) (rest := []) ⟨hx, hb, hml, hown, hts⟩ hK hP (mX0_goesBefore  hT (by omega) (by omega) ha hb5) (cwV 4 hts gX0_fillByRule_X0_goesBefore rfl rfl rfl (by decide +kernel) ⟨Nat.le_of_ble_eq_true rfl, Nat.le_of_ble_eq_true rfl⟩) (ci := 0) rfl rfl rfl rfl hl.1 (by rw [show (((((srt (gbr tT a b) oR i) (g - 1) : Nat) : Int)) : Int) = (((((srt (gbr tT a b) oR i) (g - 1))) : Nat) : Int) by omega]; try rfl) (Nat.le_of_ble_eq_true rfl) dX0_fillByRule_32 ⟨Nat.zero_le _, Nat.zero_le _⟩ (fun r32 hr32 => ?_)
              have h7 : (if gbr tT a b i ((srt (gbr tT a b) oR i) (g - 1)) = true then (1 : Int) else 0) = 0 ∨ (if gbr tT a b i ((srt (gbr tT a b) oR i) (g - 1)) = true then (1 : Int) else 0) = 1 := by split <;> simp
              refine w_top (v := iI ((if gbr tT a b i (((srt (gbr tT a b) oR i) (g - 1))) = true then 1 else 0))) (hr32) ?_
              refine w_if_eq (tgt := 54) hx hb dX0_fillByRule_35 (by decide) ⟨by omega, by omega⟩ (fun c35 => ?_) (fun c35 => ?_)
              · have hbe : ¬ gbr tT a b i ((srt (gbr tT a b) oR i) (g - 1)) = true := fun q => by rw [if_pos q] at c35; exact absurd c35 (by omega)
                have hpp : pos (gbr tT a b) (srt (gbr tT a b) oR i) i i = g := hps.trans (pos_stop (by omega) hbe)
                refine lv_aload_n hx hb dX0_fillByRule_54 rfl (lv_at hl 3 rfl) ?_
                refine lv_iload hx hb dX0_fillByRule_55 (lv_at hl 0 rfl) ?_
                refine lv_iload hx hb dX0_fillByRule_57 (lv_at hl 1 rfl) ?_
                refine w_iast (g := jI (va_up (sh2 (srt (gbr tT a b) oR i) i (i - g)) g i)) (ws' := xw ad cI cZ nn mm tT tB tE tL oO (va_up (sh2 (srt (gbr tT a b) oR i) i (i - g)) g i) oQ zS zM zN oJ) hx hb hK hP hD hS 6 0 rfl rfl (g) (by omega) (by omega) (by decide) (hg := jI_up) (hw := rfl) (hd := dX0_fillByRule_59) (kk := fun H locs hP hD hS => ?_)
                refine lv_iinc (v := iI ((i : Int) + 1)) (lv' := [(4, .int (iI ((i : Int) + 1))), (5, .int (iI ((g : Int)))), (0, .ref (ad 0)), (1, .ref (ad 6)), (2, .int (iI ((a : Int)))), (3, .int (iI ((b : Int))))]) hx hb dX0_fillByRule_60 hl (k := 1) rfl (iI_inc (by omega)) (by decide) rfl (fun ls hl => ?_)
                refine lv_goto (tgt := 3) hx hb dX0_fillByRule_63 (by decide) ?_
                exact ih3 (i + 1) (va_up (sh2 (srt (gbr tT a b) oR i) i (i - g)) g i) ((i : Int) + 1) (by omega) (by show _ = ins _ _ _; unfold ins; rw [hpp]) (by omega) (by omega) _ _ hP hD hS ls (lv_sub hl [0, 2, 3, 4, 5] rfl)
              · have hbe : gbr tT a b i ((srt (gbr tT a b) oR i) (g - 1)) = true := Classical.byContradiction (fun q => c35 (if_neg q))
                refine lv_aload_n hx hb dX0_fillByRule_38 rfl (lv_at hl 3 rfl) ?_
                refine lv_iload hx hb dX0_fillByRule_39 (lv_at hl 0 rfl) ?_
                refine lv_aload_n hx hb dX0_fillByRule_41 rfl (lv_at hl 3 rfl) ?_
                refine lv_iload hx hb dX0_fillByRule_42 (lv_at hl 0 rfl) ?_
                refine lv_iconst (v := iI 1) hx hb dX0_fillByRule_44 rfl ?_
                refine w_isub (z := (g : Int) - 1) hx hb dX0_fillByRule_45 (by omega) ?_
                refine w_iald (v := iI (((srt (gbr tT a b) oR i) (g - 1) : Nat) : Int)) hx hb hK hP 6 0 rfl rfl (g - 1) (by omega) (by omega) (by decide) (congrArg (fun q : Nat => iI (q : Int)) (sh2_at (by omega))) dX0_fillByRule_46 ?_
                refine w_iast (g := jI (va_up (sh2 (srt (gbr tT a b) oR i) i (i - g)) g (((srt (gbr tT a b) oR i) (g - 1))))) (ws' := xw ad cI cZ nn mm tT tB tE tL oO (va_up (sh2 (srt (gbr tT a b) oR i) i (i - g)) g (((srt (gbr tT a b) oR i) (g - 1)))) oQ zS zM zN oJ) hx hb hK hP hD hS 6 0 rfl rfl (g) (by omega) (by omega) (by decide) (hg := jI_up) (hw := rfl) (hd := dX0_fillByRule_47) (kk := fun H locs hP hD hS => ?_)
                refine lv_iinc (v := iI ((g : Int) - 1)) (lv' := [(5, .int (iI ((g : Int) - 1))), (4, .int (iI ((i : Int)))), (0, .ref (ad 0)), (1, .ref (ad 6)), (2, .int (iI ((a : Int)))), (3, .int (iI ((b : Int))))]) hx hb dX0_fillByRule_48 hl (k := 0) rfl (iI_inc (by omega)) (by decide) rfl (fun ls hl => ?_)
                refine lv_goto (tgt := 16) hx hb dX0_fillByRule_51 (by decide) ?_
                exact ih16 (g - 1) (va_up (sh2 (srt (gbr tT a b) oR i) i (i - g)) g (((srt (gbr tT a b) oR i) (g - 1)))) ((g : Int) - 1) (by omega) (hps.trans (pos_go (by omega) hbe)) (sh2_p (by omega) hg) (by omega) (by omega) _ _ hP hD hS ls (lv_sub hl [0, 1, 2, 3, 4, 5] rfl)
        exact L16 (i + 1) i (srt (gbr tT a b) oR i) ((i : Int)) (by omega) (rfl) (by rw [Nat.sub_self, sh2_0]) (by omega) (Nat.lt_succ_self _) _ _ hP hD hS ls (lv_sub hl [0, 1, 2, 3, 4, 5] rfl)
  exact L3 (nn - 0 + 1) 0 oR (0) (by omega) (rfl) (by omega) (Nat.lt_succ_self _) _ _ hP hD hS ls (lv_sub hl [0, 1, 2, 3, 4] rfl)
set_option maxHeartbeats 4000000 in
set_option maxRecDepth 100000 in
theorem mX0_leastOfPair {a b : Nat} (hT : ∀ k, 0 ≤ tT k ∧ tT k ≤ 99) (hn : nn ≤ 7) (ha : a < 5) (hb5 : b < 5) : IM l yX0_leastOfPair wsX0_leastOfPair (rmx 4 94) D (tyk cI cZ cJ) (xw ad cI cZ nn mm tT tB tE tL oO oR oQ zS zM zN oJ) [.ref (ad 0), .int (iI ((a : Int))), .int (iI ((b : Int)))] (QI D (tyk cI cZ cJ) (fun u : Unit => xw ad cI cZ nn mm tT tB tE tL oO (srt (gbr tT a b) oR nn) oQ zS zM zN oJ) (fun x _ => x = iI (opS tT (srt (gbr tT a b) oR nn) a b nn))) := by
  refine imI_of (cc := cX0_leastOfPair) (maxL := 6) (by decide) rfl (Nat.le_of_ble_eq_true rfl) ?_
  intro p e s m args below meth c A Q hx hb hml hown hts hA hK hP hD hS hret ls hl
  have hown : s.vm.findClass RX0 = some m.cls := hown
  have hl : lv_has ls 6 [(0, .ref (ad 0)), (1, .int (iI ((a : Int)))), (2, .int (iI ((b : Int))))] := hl
  have inW : ∀ w ∈ wsX00, w ∈ wsX0_leastOfPair := by first | exact (fun w h => List.mem_cons_of_mem _ (List.mem_append_right _ h)) | exact (fun w h => List.mem_cons_of_mem _ (List.mem_append_left _ (List.mem_append_right _ h))) | exact (fun w h => List.mem_cons_of_mem _ (List.mem_append_left _ (List.mem_append_left _ (List.mem_append_right _ h)))) | decide +kernel
  refine lv_aload_n hx hb dX0_leastOfPair_0 rfl (lv_at hl 0 rfl) ?_
  refine lv_aload_n hx hb dX0_leastOfPair_1 rfl (lv_at hl 0 rfl) ?_
  refine va_get (D := D) (ci := 0) (C := RX0) (T := TX0) (N := 13) hx hb hts inW hown hK hP 0 rfl rfl 7 (by decide) (hts (.fieldLink RX0 32 "Flowforge" "trial" "[I") (List.mem_of_getElem? (i := 1) rfl)) (fun _ h9 => h9) rfl dX0_leastOfPair_2 ?_
  refine lv_iload_n hx hb dX0_leastOfPair_5 rfl (lv_at hl 1 rfl) ?_
  refine lv_iload_n hx hb dX0_leastOfPair_6 rfl (lv_at hl 2 rfl) ?_
  refine w_iVv (As := [.ref (ad 6), .int (iI ((a : Int))), .int (iI ((b : Int)))]) (rest := []) (wf := fun u : Unit => xw ad cI cZ nn mm tT tB tE tL oO (srt (gbr tT a b) oR nn) oQ zS zM zN oJ) (wr := []) ⟨hx, hb, hml, hown, hts⟩ hK hP hD hS hA (mX0_fillByRule_t  hT hn ha hb5) (cwV 3 hts gX0_leastOfPair_X0_fillByRule rfl rfl rfl (by decide +kernel) ⟨Nat.le_of_ble_eq_true rfl, Nat.le_of_ble_eq_true rfl⟩) [0, 1, 2, 3, 4, 5, 6, 7, 8, 9, 10, 11] [] [0, 1, 2, 3, 4, 5, 6, 7, 8, 9, 10, 11] rfl rfl (by decide) (by decide) (by decide) (hwf := fun _ => rfl) (by decide) (ci := 0) rfl rfl rfl rfl hl.1 rfl (Nat.le_of_ble_eq_true rfl) dX0_leastOfPair_7 ⟨Nat.zero_le _, Nat.zero_le _⟩ (fun u H locs hr7 hP hD hS => ?_)
  have hr9 : ∀ k, k < nn → (srt (gbr tT a b) oR nn) k < 7 := fun k hk => Nat.lt_of_lt_of_le (srt_lt hk) hn
  refine lv_iconst (v := iI 0) hx hb dX0_leastOfPair_10 rfl ?_
  refine lv_istore_n (lv' := [(3, .int (iI 0)), (0, .ref (ad 0)), (1, .int (iI ((a : Int)))), (2, .int (iI ((b : Int))))]) hx hb dX0_leastOfPair_11 rfl hl (by decide) rfl (fun ls hl => ?_)
  refine lv_iconst (v := iI 0) hx hb dX0_leastOfPair_12 rfl ?_
  refine lv_istore (lv' := [(4, .int (iI 0)), (3, .int (iI 0)), (0, .ref (ad 0)), (1, .int (iI ((a : Int)))), (2, .int (iI ((b : Int))))]) hx hb dX0_leastOfPair_13 hl (by decide) rfl (fun ls hl => ?_)
  refine lv_iconst (v := iI 0) hx hb dX0_leastOfPair_15 rfl ?_
  refine lv_istore (lv' := [(5, .int (iI 0)), (4, .int (iI 0)), (3, .int (iI 0)), (0, .ref (ad 0)), (1, .int (iI ((a : Int)))), (2, .int (iI ((b : Int))))]) hx hb dX0_leastOfPair_16 hl (by decide) rfl (fun ls hl => ?_)
  have L18 : ∀ (fu : Nat) (i : Nat) (x5_18 : Int) (x4_18 : Int) (x3_18 : Int), (i ≤ nn) → (x5_18 = (i : Int)) → (x4_18 = (opS tT (srt (gbr tT a b) oR nn) a b i)) → (x3_18 = (opF tT (srt (gbr tT a b) oR nn) a i)) → nn - i < fu → ∀ (H : Heap) (locs : List Loc), va_P D vwCl (xw ad cI cZ nn mm tT tB tE tL oO (srt (gbr tT a b) oR nn) oQ zS zM zN oJ) H → va_D A (xw ad cI cZ nn mm tT tB tE tL oO (srt (gbr tT a b) oR nn) oQ zS zM zN oJ) → va_S A s.heap H locs → ∀ ls : Array Slot, lv_has ls 6 [(5, .int (iI (x5_18))), (4, .int (iI (x4_18))), (3, .int (iI (x3_18))), (0, .ref (ad 0)), (1, .int (iI ((a : Int)))), (2, .int (iI ((b : Int))))] → W p l e (rmx 4 94) s m args below meth c H locs 0 0 Q (F0 m 18 ls []) := by
    intro fu
    induction fu with
    | zero =>
      intro i x5_18 x4_18 x3_18 hi hq0 hq1 hq2 hfu
      exact absurd hfu (Nat.not_lt_zero _)
    | succ fu ih =>
      intro i x5_18 x4_18 x3_18 hi hq0 hq1 hq2 hfu H locs hP hD hS ls hl
      subst hq0
      subst hq1
      subst hq2
      have ih18 := ih
      have h9 := opF_rg hT (srt (gbr tT a b) oR nn) a i
      have h8 := opS_rg hT (srt (gbr tT a b) oR nn) a b i
      refine lv_iload hx hb dX0_leastOfPair_18 (lv_at hl 0 rfl) ?_
      refine lv_aload_n hx hb dX0_leastOfPair_20 rfl (lv_at hl 3 rfl) ?_
      refine va_get (D := D) (ci := 0) (C := RX0) (T := TX0) (N := 13) hx hb hts inW hown hK hP 0 rfl rfl 0 (by decide) (hts (.fieldLink RX0 7 "Flowforge" "jobCount" "I") (List.mem_of_getElem? (i := 2) rfl)) (fun _ h9 => h9) rfl dX0_leastOfPair_21 ?_
      refine w_icmp_ge (tgt := 69) hx hb dX0_leastOfPair_24 (by decide) ⟨by omega, by omega⟩ ⟨by omega, by omega⟩ (fun c24 => ?_) (fun c24 => ?_)
      · obtain rfl : nn = i := by omega
        refine lv_iload hx hb dX0_leastOfPair_69 (lv_at hl 1 rfl) ?_
        exact hret _ _ 71 ls _ (()) hP hD hS (rfl) dX0_leastOfPair_71
      · have h7 := hr9 i (by omega)
        have h6 := hT (5 * (srt (gbr tT a b) oR nn) i + a)
        refine lv_iload_n hx hb dX0_leastOfPair_27 rfl (lv_at hl 2 rfl) ?_
        refine lv_aload_n hx hb dX0_leastOfPair_28 rfl (lv_at hl 3 rfl) ?_
        refine lv_aload_n hx hb dX0_leastOfPair_29 rfl (lv_at hl 3 rfl) ?_
        refine va_get (D := D) (ci := 0) (C := RX0) (T := TX0) (N := 13) hx hb hts inW hown hK hP 0 rfl rfl 7 (by decide) (hts (.fieldLink RX0 32 "Flowforge" "trial" "[I") (List.mem_of_getElem? (i := 1) rfl)) (fun _ h9 => h9) rfl dX0_leastOfPair_30 ?_
        refine lv_iload hx hb dX0_leastOfPair_33 (lv_at hl 0 rfl) ?_
        refine w_iald (v := iI (((srt (gbr tT a b) oR nn) i : Nat) : Int)) hx hb hK hP 6 0 rfl rfl (i) (by omega) (by omega) (by decide) rfl dX0_leastOfPair_35 ?_
        refine lv_iload_n hx hb dX0_leastOfPair_36 rfl (lv_at hl 4 rfl) ?_
        refine w_pV (As := [.int (iI ((((((srt (gbr tT a b) oR nn) i)) : Nat) : Int))), .int (iI ((a : Int)))]) (rest := [.int (iI ((opF tT (srt (gbr tT a b) oR nn) a i)))]) ⟨hx, hb, hml, hown, hts⟩ hK hP (mX0_timeOf  h7 ha) (cwV 2 hts gX0_leastOfPair_X0_timeOf rfl rfl rfl (by decide +kernel) ⟨Nat.le_of_ble_eq_true rfl, Nat.le_of_ble_eq_true rfl⟩) (ci := 0) rfl rfl rfl rfl hl.1 (by rw [show (((((srt (gbr tT a b) oR nn) i : Nat) : Int)) : Int) = (((((srt (gbr tT a b) oR nn) i)) : Nat) : Int) by omega]; try rfl) (Nat.le_of_ble_eq_true rfl) dX0_leastOfPair_37 ⟨Nat.zero_le _, Nat.zero_le _⟩ (fun r37 hr37 => ?_)
        refine w_top (v := iI ((tT (5 * (((srt (gbr tT a b) oR nn) i)) + a)))) (hr37) ?_
        refine w_iadd (z := (opF tT (srt (gbr tT a b) oR nn) a i) + (tT (5 * (((srt (gbr tT a b) oR nn) i)) + a))) hx hb dX0_leastOfPair_40 (by omega) ?_
        refine lv_istore_n (lv' := [(3, .int (iI ((opF tT (srt (gbr tT a b) oR nn) a i) + (tT (5 * (((srt (gbr tT a b) oR nn) i)) + a))))), (5, .int (iI ((i : Int)))), (4, .int (iI ((opS tT (srt (gbr tT a b) oR nn) a b i)))), (0, .ref (ad 0)), (1, .int (iI ((a : Int)))), (2, .int (iI ((b : Int))))]) hx hb dX0_leastOfPair_41 rfl hl (by decide) rfl (fun ls hl => ?_)
        refine lv_iload_n hx hb dX0_leastOfPair_42 rfl (lv_at hl 0 rfl) ?_
        refine lv_iload hx hb dX0_leastOfPair_43 (lv_at hl 2 rfl) ?_
        refine va_mmax hx hb (hml.trans hl.1.symm) hown (hts (.methodLink RX0 167 Lib.Math.max.name) (List.mem_of_getElem? (i := 3) rfl)) (hts (.static Lib.Math.max.name) (List.mem_of_getElem? (i := 4) rfl)) (hts (.initialized "java/lang/Math") (List.mem_of_getElem? (i := 5) rfl)) (hts (.code Lib.Math.max.name Lib.Math.max.code 2 (some .int)) (List.mem_of_getElem? (i := 6) rfl)) (Nat.le_of_ble_eq_true rfl) (Nat.le_of_ble_eq_true rfl) (Nat.zero_le _) (Nat.zero_le _) dX0_leastOfPair_45 ?_
        refine w_top (v := iI ((max ((opF tT (srt (gbr tT a b) oR nn) a i) + (tT (5 * (((srt (gbr tT a b) oR nn) i)) + a))) ((opS tT (srt (gbr tT a b) oR nn) a b i))))) (iI_max ⟨by omega, by omega⟩ ⟨by omega, by omega⟩) ?_
        refine lv_aload_n hx hb dX0_leastOfPair_48 rfl (lv_at hl 3 rfl) ?_
        refine lv_aload_n hx hb dX0_leastOfPair_49 rfl (lv_at hl 3 rfl) ?_
        refine va_get (D := D) (ci := 0) (C := RX0) (T := TX0) (N := 13) hx hb hts inW hown hK hP 0 rfl rfl 7 (by decide) (hts (.fieldLink RX0 32 "Flowforge" "trial" "[I") (List.mem_of_getElem? (i := 1) rfl)) (fun _ h9 => h9) rfl dX0_leastOfPair_50 ?_
        refine lv_iload hx hb dX0_leastOfPair_53 (lv_at hl 1 rfl) ?_
        refine w_iald (v := iI (((srt (gbr tT a b) oR nn) i : Nat) : Int)) hx hb hK hP 6 0 rfl rfl (i) (by omega) (by omega) (by decide) rfl dX0_leastOfPair_55 ?_
        refine lv_iload_n hx hb dX0_leastOfPair_56 rfl (lv_at hl 5 rfl) ?_
        refine w_pV (As := [.int (iI ((((((srt (gbr tT a b) oR nn) i)) : Nat) : Int))), .int (iI ((b : Int)))]) (rest := [.int (iI ((max ((opF tT (srt (gbr tT a b) oR nn) a i) + (tT (5 * (((srt (gbr tT a b) oR nn) i)) + a))) ((opS tT (srt (gbr tT a b) oR nn) a b i)))))]) ⟨hx, hb, hml, hown, hts⟩ hK hP (mX0_timeOf  h7 hb5) (cwV 2 hts gX0_leastOfPair_X0_timeOf rfl rfl rfl (by decide +kernel) ⟨Nat.le_of_ble_eq_true rfl, Nat.le_of_ble_eq_true rfl⟩) (ci := 0) rfl rfl rfl rfl hl.1 (by rw [show (((((srt (gbr tT a b) oR nn) i : Nat) : Int)) : Int) = (((((srt (gbr tT a b) oR nn) i)) : Nat) : Int) by omega]; try rfl) (Nat.le_of_ble_eq_true rfl) dX0_leastOfPair_57 ⟨Nat.zero_le _, Nat.zero_le _⟩ (fun r57 hr57 => ?_)
        refine w_top (v := iI ((tT (5 * (((srt (gbr tT a b) oR nn) i)) + b)))) (hr57) ?_
        refine w_iadd (z := (max ((opF tT (srt (gbr tT a b) oR nn) a i) + (tT (5 * (((srt (gbr tT a b) oR nn) i)) + a))) ((opS tT (srt (gbr tT a b) oR nn) a b i))) + (tT (5 * (((srt (gbr tT a b) oR nn) i)) + b))) hx hb dX0_leastOfPair_60 (by omega) ?_
        refine lv_istore (lv' := [(4, .int (iI ((max ((opF tT (srt (gbr tT a b) oR nn) a i) + (tT (5 * (((srt (gbr tT a b) oR nn) i)) + a))) ((opS tT (srt (gbr tT a b) oR nn) a b i))) + (tT (5 * (((srt (gbr tT a b) oR nn) i)) + b))))), (3, .int (iI ((opF tT (srt (gbr tT a b) oR nn) a i) + (tT (5 * (((srt (gbr tT a b) oR nn) i)) + a))))), (5, .int (iI ((i : Int)))), (0, .ref (ad 0)), (1, .int (iI ((a : Int)))), (2, .int (iI ((b : Int))))]) hx hb dX0_leastOfPair_61 hl (by decide) rfl (fun ls hl => ?_)
        refine lv_iinc (v := iI ((i : Int) + 1)) (lv' := [(5, .int (iI ((i : Int) + 1))), (4, .int (iI ((max ((opF tT (srt (gbr tT a b) oR nn) a i) + (tT (5 * (((srt (gbr tT a b) oR nn) i)) + a))) ((opS tT (srt (gbr tT a b) oR nn) a b i))) + (tT (5 * (((srt (gbr tT a b) oR nn) i)) + b))))), (3, .int (iI ((opF tT (srt (gbr tT a b) oR nn) a i) + (tT (5 * (((srt (gbr tT a b) oR nn) i)) + a))))), (0, .ref (ad 0)), (1, .int (iI ((a : Int)))), (2, .int (iI ((b : Int))))]) hx hb dX0_leastOfPair_63 hl (k := 2) rfl (iI_inc (by omega)) (by decide) rfl (fun ls hl => ?_)
        refine lv_goto (tgt := 18) hx hb dX0_leastOfPair_66 (by decide) ?_
        exact ih18 (i + 1) ((i : Int) + 1) ((max ((opF tT (srt (gbr tT a b) oR nn) a i) + (tT (5 * (((srt (gbr tT a b) oR nn) i)) + a))) ((opS tT (srt (gbr tT a b) oR nn) a b i))) + (tT (5 * (((srt (gbr tT a b) oR nn) i)) + b))) ((opF tT (srt (gbr tT a b) oR nn) a i) + (tT (5 * (((srt (gbr tT a b) oR nn) i)) + a))) (by omega) (by omega) (rfl) (rfl) (by omega) _ _ hP hD hS ls (lv_sub hl [0, 1, 2, 3, 4, 5] rfl)
  exact L18 (nn - 0 + 1) 0 (0) (0) (0) (by omega) (by omega) (rfl) (rfl) (Nat.lt_succ_self _) _ _ hP hD hS ls (lv_sub hl [0, 1, 2, 3, 4, 5] rfl)
end
end
section
section
variable {l : Launch} {D : va_G} {cI cZ cJ : ClassId} {ad bd : Nat → Nat} {a0 : Nat} {ws : va_W} {nn mm : Nat} {th bm : Int} {tT tB tE tL : Nat → Int} {oO oR oQ : Nat → Nat} {zS zM zN : Nat → Int} {oJ fF : Nat → Nat}
set_option maxHeartbeats 4000000 in
set_option maxRecDepth 100000 in
theorem mX0_forgetBestOrders  : IM l yX0_forgetBestOrders wsX0_forgetBestOrders (rmx 0 0) D (tyk cI cZ cJ) (xw ad cI cZ nn mm tT tB tE tL oO oR oQ zS zM zN oJ) [.ref (ad 0)] (QV D (tyk cI cZ cJ) (fun u : Unit => xw ad cI cZ nn mm tT tB tE tL oO oR oQ (zfl zS 3) zM zN oJ) (fun _ => True)) := by
  refine imV_of (cc := cX0_forgetBestOrders) (maxL := 2) (by decide) rfl (Nat.le_of_ble_eq_true rfl) ?_
  intro p e s m args below meth c A Q hx hb hml hown hts hA hK hP hD hS hret ls hl
  have hown : s.vm.findClass RX0 = some m.cls := hown
  have hl : lv_has ls 2 [(0, .ref (ad 0))] := hl
  have inW : ∀ w ∈ wsX00, w ∈ wsX0_forgetBestOrders := by first | exact (fun w h => List.mem_cons_of_mem _ (List.mem_append_right _ h)) | exact (fun w h => List.mem_cons_of_mem _ (List.mem_append_left _ (List.mem_append_right _ h))) | exact (fun w h => List.mem_cons_of_mem _ (List.mem_append_left _ (List.mem_append_left _ (List.mem_append_right _ h)))) | decide +kernel
  refine lv_iconst (v := iI 0) hx hb dX0_forgetBestOrders_0 rfl ?_
  refine lv_istore_n (lv' := [(1, .int (iI 0)), (0, .ref (ad 0))]) hx hb dX0_forgetBestOrders_1 rfl hl (by decide) rfl (fun ls hl => ?_)
  have L2 : ∀ (fu : Nat) (i : Nat) (wsolved2 : Nat → Int) (x1_2 : Int), (i ≤ 3) → (wsolved2 = zfl zS i) → (x1_2 = (i : Int)) → 3 - i < fu → ∀ (H : Heap) (locs : List Loc), va_P D vwCl (xw ad cI cZ nn mm tT tB tE tL oO oR oQ wsolved2 zM zN oJ) H → va_D A (xw ad cI cZ nn mm tT tB tE tL oO oR oQ wsolved2 zM zN oJ) → va_S A s.heap H locs → ∀ ls : Array Slot, lv_has ls 2 [(1, .int (iI (x1_2))), (0, .ref (ad 0))] → W p l e (rmx 0 0) s m args below meth c H locs 0 0 Q (F0 m 2 ls []) := by
    intro fu
    induction fu with
    | zero =>
      intro i wsolved2 x1_2 hi hq0 hq1 hfu
      exact absurd hfu (Nat.not_lt_zero _)
    | succ fu ih =>
      intro i wsolved2 x1_2 hi hq0 hq1 hfu H locs hP hD hS ls hl
      subst hq0
      subst hq1
      have ih2 := ih
      refine lv_iload_n hx hb dX0_forgetBestOrders_2 rfl (lv_at hl 0 rfl) ?_
      refine lv_iconst (v := iI 3) hx hb dX0_forgetBestOrders_3 rfl ?_
      refine w_icmp_ge (tgt := 20) hx hb dX0_forgetBestOrders_4 (by decide) ⟨by omega, by omega⟩ ⟨by omega, by omega⟩ (fun c4 => ?_) (fun c4 => ?_)
      · obtain rfl : i = 3 := by omega
        exact hret _ _ 20 ls (()) hP hD hS (trivial) dX0_forgetBestOrders_20
      · refine lv_aload_n hx hb dX0_forgetBestOrders_7 rfl (lv_at hl 1 rfl) ?_
        refine va_get (D := D) (ci := 0) (C := RX0) (T := TX0) (N := 13) hx hb hts inW hown hK hP 0 rfl rfl 9 (by decide) (hts (.fieldLink RX0 38 "Flowforge" "solved" "[Z") (List.mem_of_getElem? (i := 1) rfl)) (fun _ h9 => h9) rfl dX0_forgetBestOrders_8 ?_
        refine lv_iload_n hx hb dX0_forgetBestOrders_11 rfl (lv_at hl 0 rfl) ?_
        refine lv_iconst (v := iI 0) hx hb dX0_forgetBestOrders_12 rfl ?_
        refine w_zast (g := tI (va_up (zfl zS i) i 0)) (ws' := xw ad cI cZ nn mm tT tB tE tL oO oR oQ (va_up (zfl zS i) i 0) zM zN oJ) hx hb hK hP hD hS 8 1 rfl rfl (i) (by omega) (by omega) (by decide) (by rfl) (hg := tI_up) (hw := rfl) (hd := dX0_forgetBestOrders_13) (kk := fun H locs hP hD hS => ?_)
        refine lv_iinc (v := iI ((i : Int) + 1)) (lv' := [(1, .int (iI ((i : Int) + 1))), (0, .ref (ad 0))]) hx hb dX0_forgetBestOrders_14 hl (k := 0) rfl (iI_inc (by omega)) (by decide) rfl (fun ls hl => ?_)
        refine lv_goto (tgt := 2) hx hb dX0_forgetBestOrders_17 (by decide) ?_
        exact ih2 (i + 1) (va_up (zfl zS i) i 0) ((i : Int) + 1) (by omega) (zfl_s) (by omega) (by omega) _ _ hP hD hS ls (lv_sub hl [0, 1] rfl)
  exact L2 (3 - 0 + 1) 0 zS (0) (by omega) ((zfl_0 _).symm) (by omega) (Nat.lt_succ_self _) _ _ hP hD hS ls (lv_sub hl [0, 1] rfl)
set_option maxHeartbeats 4000000 in
set_option maxRecDepth 100000 in
theorem mX0_swapInTrial {a b : Nat} (ha : a < 7) (hb7 : b < 7) : IM l yX0_swapInTrial wsX0_swapInTrial (rmx 0 0) D (tyk cI cZ cJ) (xw ad cI cZ nn mm tT tB tE tL oO oR oQ zS zM zN oJ) [.ref (ad 0), .int (iI ((a : Int))), .int (iI ((b : Int)))] (QV D (tyk cI cZ cJ) (fun u : Unit => xw ad cI cZ nn mm tT tB tE tL oO (swp oR a b) oQ zS zM zN oJ) (fun _ => True)) := by
  refine imV_of (cc := cX0_swapInTrial) (maxL := 4) (by decide) rfl (Nat.le_of_ble_eq_true rfl) ?_
  intro p e s m args below meth c A Q hx hb hml hown hts hA hK hP hD hS hret ls hl
  have hown : s.vm.findClass RX0 = some m.cls := hown
  have hl : lv_has ls 4 [(0, .ref (ad 0)), (1, .int (iI ((a : Int)))), (2, .int (iI ((b : Int))))] := hl
  have inW : ∀ w ∈ wsX00, w ∈ wsX0_swapInTrial := by first | exact (fun w h => List.mem_cons_of_mem _ (List.mem_append_right _ h)) | exact (fun w h => List.mem_cons_of_mem _ (List.mem_append_left _ (List.mem_append_right _ h))) | exact (fun w h => List.mem_cons_of_mem _ (List.mem_append_left _ (List.mem_append_left _ (List.mem_append_right _ h)))) | decide +kernel
  refine lv_aload_n hx hb dX0_swapInTrial_0 rfl (lv_at hl 0 rfl) ?_
  refine va_get (D := D) (ci := 0) (C := RX0) (T := TX0) (N := 13) hx hb hts inW hown hK hP 0 rfl rfl 7 (by decide) (hts (.fieldLink RX0 32 "Flowforge" "trial" "[I") (List.mem_of_getElem? (i := 1) rfl)) (fun _ h9 => h9) rfl dX0_swapInTrial_1 ?_
  refine lv_iload_n hx hb dX0_swapInTrial_4 rfl (lv_at hl 1 rfl) ?_
  refine w_iald (v := iI ((oR a : Nat) : Int)) hx hb hK hP 6 0 rfl rfl (a) (by omega) (by omega) (by decide) rfl dX0_swapInTrial_5 ?_
  refine lv_istore_n (lv' := [(3, .int (iI (((oR a : Nat) : Int)))), (0, .ref (ad 0)), (1, .int (iI ((a : Int)))), (2, .int (iI ((b : Int))))]) hx hb dX0_swapInTrial_6 rfl hl (by decide) rfl (fun ls hl => ?_)
  refine lv_aload_n hx hb dX0_swapInTrial_7 rfl (lv_at hl 1 rfl) ?_
  refine va_get (D := D) (ci := 0) (C := RX0) (T := TX0) (N := 13) hx hb hts inW hown hK hP 0 rfl rfl 7 (by decide) (hts (.fieldLink RX0 32 "Flowforge" "trial" "[I") (List.mem_of_getElem? (i := 1) rfl)) (fun _ h9 => h9) rfl dX0_swapInTrial_8 ?_
  refine lv_iload_n hx hb dX0_swapInTrial_11 rfl (lv_at hl 2 rfl) ?_
  refine lv_aload_n hx hb dX0_swapInTrial_12 rfl (lv_at hl 1 rfl) ?_
  refine va_get (D := D) (ci := 0) (C := RX0) (T := TX0) (N := 13) hx hb hts inW hown hK hP 0 rfl rfl 7 (by decide) (hts (.fieldLink RX0 32 "Flowforge" "trial" "[I") (List.mem_of_getElem? (i := 1) rfl)) (fun _ h9 => h9) rfl dX0_swapInTrial_13 ?_
  refine lv_iload_n hx hb dX0_swapInTrial_16 rfl (lv_at hl 3 rfl) ?_
  refine w_iald (v := iI ((oR b : Nat) : Int)) hx hb hK hP 6 0 rfl rfl (b) (by omega) (by omega) (by decide) rfl dX0_swapInTrial_17 ?_
  refine w_iast (g := jI (va_up oR a ((oR b)))) (ws' := xw ad cI cZ nn mm tT tB tE tL oO (va_up oR a ((oR b))) oQ zS zM zN oJ) hx hb hK hP hD hS 6 0 rfl rfl (a) (by omega) (by omega) (by decide) (hg := jI_up) (hw := rfl) (hd := dX0_swapInTrial_18) (kk := fun H locs hP hD hS => ?_)
  refine lv_aload_n hx hb dX0_swapInTrial_19 rfl (lv_at hl 1 rfl) ?_
  refine va_get (D := D) (ci := 0) (C := RX0) (T := TX0) (N := 13) hx hb hts inW hown hK hP 0 rfl rfl 7 (by decide) (hts (.fieldLink RX0 32 "Flowforge" "trial" "[I") (List.mem_of_getElem? (i := 1) rfl)) (fun _ h9 => h9) rfl dX0_swapInTrial_20 ?_
  refine lv_iload_n hx hb dX0_swapInTrial_23 rfl (lv_at hl 3 rfl) ?_
  refine lv_iload_n hx hb dX0_swapInTrial_24 rfl (lv_at hl 0 rfl) ?_
  refine w_iast (g := jI (va_up (va_up oR a ((oR b))) b ((oR a)))) (ws' := xw ad cI cZ nn mm tT tB tE tL oO (va_up (va_up oR a ((oR b))) b ((oR a))) oQ zS zM zN oJ) hx hb hK hP hD hS 6 0 rfl rfl (b) (by omega) (by omega) (by decide) (hg := jI_up) (hw := rfl) (hd := dX0_swapInTrial_25) (kk := fun H locs hP hD hS => ?_)
  exact hret _ _ 26 ls (()) hP hD hS (trivial) dX0_swapInTrial_26
set_option maxHeartbeats 4000000 in
set_option maxRecDepth 100000 in
theorem mX0_stepTrial_0 (h0 : nn = 0) : IM l yX0_stepTrial wsX0_stepTrial (rmx 1 23) D (tyk cI cZ cJ) (xw ad cI cZ nn mm tT tB tE tL oO oR oQ zS zM zN oJ) [.ref (ad 0)] (QI D (tyk cI cZ cJ) (fun u : Unit => xw ad cI cZ nn mm tT tB tE tL oO (nxT oR nn) oQ zS zM zN oJ) (fun x _ => x = iI (((pvt oR (nn - 1) : Nat) : Int) - 1))) := by
  refine imI_of (cc := cX0_stepTrial) (maxL := 5) (by decide) rfl (Nat.le_of_ble_eq_true rfl) ?_
  intro p e s m args below meth c A Q hx hb hml hown hts hA hK hP hD hS hret ls hl
  have hown : s.vm.findClass RX0 = some m.cls := hown
  have hl : lv_has ls 5 [(0, .ref (ad 0))] := hl
  have inW : ∀ w ∈ wsX00, w ∈ wsX0_stepTrial := by first | exact (fun w h => List.mem_cons_of_mem _ (List.mem_append_right _ h)) | exact (fun w h => List.mem_cons_of_mem _ (List.mem_append_left _ (List.mem_append_right _ h))) | exact (fun w h => List.mem_cons_of_mem _ (List.mem_append_left _ (List.mem_append_left _ (List.mem_append_right _ h)))) | decide +kernel
  have hp0 : pvt oR (nn - 1) = 0 := by rw [h0]; rfl
  refine lv_aload_n hx hb dX0_stepTrial_0 rfl (lv_at hl 0 rfl) ?_
  refine va_get (D := D) (ci := 0) (C := RX0) (T := TX0) (N := 13) hx hb hts inW hown hK hP 0 rfl rfl 0 (by decide) (hts (.fieldLink RX0 7 "Flowforge" "jobCount" "I") (List.mem_of_getElem? (i := 1) rfl)) (fun _ h9 => h9) rfl dX0_stepTrial_1 ?_
  refine lv_iconst (v := iI 2) hx hb dX0_stepTrial_4 rfl ?_
  refine w_isub (z := (nn : Int) - 2) hx hb dX0_stepTrial_5 (by omega) ?_
  refine lv_istore_n (lv' := [(1, .int (iI ((nn : Int) - 2))), (0, .ref (ad 0))]) hx hb dX0_stepTrial_6 rfl hl (by decide) rfl (fun ls hl => ?_)
  refine lv_iload_n hx hb dX0_stepTrial_7 rfl (lv_at hl 0 rfl) ?_
  refine w_if_lt (tgt := 34) hx hb dX0_stepTrial_8 (by decide) ⟨by omega, by omega⟩ (fun c8 => ?_) (fun c8 => absurd c8 (by omega))
  refine lv_iload_n hx hb dX0_stepTrial_34 rfl (lv_at hl 0 rfl) ?_
  refine w_if_ge (tgt := 40) hx hb dX0_stepTrial_35 (by decide) ⟨by omega, by omega⟩ (fun c35 => absurd c35 (by omega)) (fun c35 => ?_)
  refine lv_iconst (v := iI (-1)) hx hb dX0_stepTrial_38 rfl ?_
  have e9 : nxT oR nn = oR := by unfold nxT; rw [if_pos hp0]
  rw [← e9] at hP hD
  exact hret _ _ 39 ls _ (()) hP hD hS (by rw [hp0]; rfl) dX0_stepTrial_39
set_option maxHeartbeats 4000000 in
set_option maxRecDepth 100000 in
theorem mX0_stepTrial_1 (h1 : 1 ≤ nn) (hn : nn ≤ 7) (hR : ∀ k, k < nn → oR k < 7) : IM l yX0_stepTrial wsX0_stepTrial (rmx 1 23) D (tyk cI cZ cJ) (xw ad cI cZ nn mm tT tB tE tL oO oR oQ zS zM zN oJ) [.ref (ad 0)] (QI D (tyk cI cZ cJ) (fun u : Unit => xw ad cI cZ nn mm tT tB tE tL oO (nxT oR nn) oQ zS zM zN oJ) (fun x _ => x = iI (((pvt oR (nn - 1) : Nat) : Int) - 1))) := by
  refine imI_of (cc := cX0_stepTrial) (maxL := 5) (by decide) rfl (Nat.le_of_ble_eq_true rfl) ?_
  intro p e s m args below meth c A Q hx hb hml hown hts hA hK hP hD hS hret ls hl
  have hown : s.vm.findClass RX0 = some m.cls := hown
  have hl : lv_has ls 5 [(0, .ref (ad 0))] := hl
  have inW : ∀ w ∈ wsX00, w ∈ wsX0_stepTrial := by first | exact (fun w h => List.mem_cons_of_mem _ (List.mem_append_right _ h)) | exact (fun w h => List.mem_cons_of_mem _ (List.mem_append_left _ (List.mem_append_right _ h))) | exact (fun w h => List.mem_cons_of_mem _ (List.mem_append_left _ (List.mem_append_left _ (List.mem_append_right _ h)))) | decide +kernel
  refine lv_aload_n hx hb dX0_stepTrial_0 rfl (lv_at hl 0 rfl) ?_
  refine va_get (D := D) (ci := 0) (C := RX0) (T := TX0) (N := 13) hx hb hts inW hown hK hP 0 rfl rfl 0 (by decide) (hts (.fieldLink RX0 7 "Flowforge" "jobCount" "I") (List.mem_of_getElem? (i := 1) rfl)) (fun _ h9 => h9) rfl dX0_stepTrial_1 ?_
  refine lv_iconst (v := iI 2) hx hb dX0_stepTrial_4 rfl ?_
  refine w_isub (z := (nn : Int) - 2) hx hb dX0_stepTrial_5 (by omega) ?_
  refine lv_istore_n (lv' := [(1, .int (iI ((nn : Int) - 2))), (0, .ref (ad 0))]) hx hb dX0_stepTrial_6 rfl hl (by decide) rfl (fun ls hl => ?_)
  have L7 : ∀ (fu : Nat) (c0 : Nat) (x1_7 : Int), (c0 ≤ nn - 1) → (pvt oR (nn - 1) = pvt oR c0) → (x1_7 = (c0 : Int) - 1) → c0 < fu → ∀ (H : Heap) (locs : List Loc), va_P D vwCl (xw ad cI cZ nn mm tT tB tE tL oO oR oQ zS zM zN oJ) H → va_D A (xw ad cI cZ nn mm tT tB tE tL oO oR oQ zS zM zN oJ) → va_S A s.heap H locs → ∀ ls : Array Slot, lv_has ls 5 [(1, .int (iI (x1_7))), (0, .ref (ad 0))] → W p l e (rmx 1 23) s m args below meth c H locs 0 0 Q (F0 m 7 ls []) := by
    intro fu
    induction fu with
    | zero =>
      intro c0 x1_7 hc hp hq0 hfu
      exact absurd hfu (Nat.not_lt_zero _)
    | succ fu ih =>
      intro c0 x1_7 hc hp hq0 hfu H locs hP hD hS ls hl
      subst hq0
      have ih7 := ih
      refine lv_iload_n hx hb dX0_stepTrial_7 rfl (lv_at hl 0 rfl) ?_
      refine w_if_lt (tgt := 34) hx hb dX0_stepTrial_8 (by decide) ⟨by omega, by omega⟩ (fun c8 => ?_) (fun c8 => ?_)
      · have hp0 : pvt oR (nn - 1) = 0 := by rw [hp, show c0 = 0 by omega]; rfl
        refine lv_iload_n hx hb dX0_stepTrial_34 rfl (lv_at hl 0 rfl) ?_
        refine w_if_ge (tgt := 40) hx hb dX0_stepTrial_35 (by decide) ⟨by omega, by omega⟩ (fun c35 => absurd c35 (by omega)) (fun c35 => ?_)
        refine lv_iconst (v := iI (-1)) hx hb dX0_stepTrial_38 rfl ?_
        have e9 : nxT oR nn = oR := by unfold nxT; rw [if_pos hp0]
        rw [← e9] at hP hD
        exact hret _ _ 39 ls _ (()) hP hD hS (by rw [hp0]; rfl) dX0_stepTrial_39
      · have hc1 : 0 < c0 := by omega
        have h8 := hR (c0 - 1) (by omega)
        have h7 := hR c0 (by omega)
        refine lv_aload_n hx hb dX0_stepTrial_11 rfl (lv_at hl 1 rfl) ?_
        refine va_get (D := D) (ci := 0) (C := RX0) (T := TX0) (N := 13) hx hb hts inW hown hK hP 0 rfl rfl 7 (by decide) (hts (.fieldLink RX0 32 "Flowforge" "trial" "[I") (List.mem_of_getElem? (i := 2) rfl)) (fun _ h9 => h9) rfl dX0_stepTrial_12 ?_
        refine lv_iload_n hx hb dX0_stepTrial_15 rfl (lv_at hl 0 rfl) ?_
        refine w_iald (v := iI ((oR (c0 - 1) : Nat) : Int)) hx hb hK hP 6 0 rfl rfl (c0 - 1) (by omega) (by omega) (by decide) rfl dX0_stepTrial_16 ?_
        refine lv_aload_n hx hb dX0_stepTrial_17 rfl (lv_at hl 1 rfl) ?_
        refine va_get (D := D) (ci := 0) (C := RX0) (T := TX0) (N := 13) hx hb hts inW hown hK hP 0 rfl rfl 7 (by decide) (hts (.fieldLink RX0 32 "Flowforge" "trial" "[I") (List.mem_of_getElem? (i := 2) rfl)) (fun _ h9 => h9) rfl dX0_stepTrial_18 ?_
        refine lv_iload_n hx hb dX0_stepTrial_21 rfl (lv_at hl 0 rfl) ?_
        refine lv_iconst (v := iI 1) hx hb dX0_stepTrial_22 rfl ?_
        refine w_iadd (z := (c0 : Int)) hx hb dX0_stepTrial_23 (by omega) ?_
        refine w_iald (v := iI ((oR c0 : Nat) : Int)) hx hb hK hP 6 0 rfl rfl (c0) (by omega) (by omega) (by decide) rfl dX0_stepTrial_24 ?_
        refine w_icmp_le (tgt := 34) hx hb dX0_stepTrial_25 (by decide) ⟨by omega, by omega⟩ ⟨by omega, by omega⟩ (fun c25 => ?_) (fun c25 => ?_)
        · have hp0 : pvt oR (nn - 1) = c0 := by rw [hp]; exact pvt_y hc1 (by omega)
          refine lv_iload_n hx hb dX0_stepTrial_34 rfl (lv_at hl 0 rfl) ?_
          refine w_if_ge (tgt := 40) hx hb dX0_stepTrial_35 (by decide) ⟨by omega, by omega⟩ (fun c35 => ?_) (fun c35 => absurd c35 (by omega))
          refine lv_aload_n hx hb dX0_stepTrial_40 rfl (lv_at hl 1 rfl) ?_
          refine va_get (D := D) (ci := 0) (C := RX0) (T := TX0) (N := 13) hx hb hts inW hown hK hP 0 rfl rfl 0 (by decide) (hts (.fieldLink RX0 7 "Flowforge" "jobCount" "I") (List.mem_of_getElem? (i := 1) rfl)) (fun _ h9 => h9) rfl dX0_stepTrial_41 ?_
          refine lv_iconst (v := iI 1) hx hb dX0_stepTrial_44 rfl ?_
          refine w_isub (z := (nn : Int) - 1) hx hb dX0_stepTrial_45 (by omega) ?_
          refine lv_istore_n (lv' := [(2, .int (iI ((nn : Int) - 1))), (1, .int (iI ((c0 : Int) - 1))), (0, .ref (ad 0))]) hx hb dX0_stepTrial_46 rfl hl (by decide) rfl (fun ls hl => ?_)
          have L47 : ∀ (fu : Nat) (q : Nat) (x2_47 : Int), (c0 ≤ q) → (q ≤ nn - 1) → (ptn oR (c0 - 1) (nn - 1) = ptn oR (c0 - 1) q) → (x2_47 = (q : Int)) → q < fu → ∀ (H : Heap) (locs : List Loc), va_P D vwCl (xw ad cI cZ nn mm tT tB tE tL oO oR oQ zS zM zN oJ) H → va_D A (xw ad cI cZ nn mm tT tB tE tL oO oR oQ zS zM zN oJ) → va_S A s.heap H locs → ∀ ls : Array Slot, lv_has ls 5 [(2, .int (iI (x2_47))), (1, .int (iI ((c0 : Int) - 1))), (0, .ref (ad 0))] → W p l e (rmx 1 23) s m args below meth c H locs 0 0 Q (F0 m 47 ls []) := by
            intro fu
            induction fu with
            | zero =>
              intro q x2_47 hq1 hq2 hq hq0 hfu
              exact absurd hfu (Nat.not_lt_zero _)
            | succ fu ih =>
              intro q x2_47 hq1 hq2 hq hq0 hfu H locs hP hD hS ls hl
              subst hq0
              have ih47 := ih
              have h6 := hR q (by omega)
              refine lv_iload_n hx hb dX0_stepTrial_47 rfl (lv_at hl 0 rfl) ?_
              refine lv_iload_n hx hb dX0_stepTrial_48 rfl (lv_at hl 1 rfl) ?_
              refine lv_iconst (v := iI 1) hx hb dX0_stepTrial_49 rfl ?_
              refine w_iadd (z := (c0 : Int)) hx hb dX0_stepTrial_50 (by omega) ?_
              have J75 : (ptn oR (c0 - 1) (nn - 1) = q) → ∀ (H : Heap) (locs : List Loc), va_P D vwCl (xw ad cI cZ nn mm tT tB tE tL oO oR oQ zS zM zN oJ) H → va_D A (xw ad cI cZ nn mm tT tB tE tL oO oR oQ zS zM zN oJ) → va_S A s.heap H locs → ∀ ls : Array Slot, lv_has ls 5 [(2, .int (iI ((q : Int)))), (1, .int (iI ((c0 : Int) - 1))), (0, .ref (ad 0))] → W p l e (rmx 1 23) s m args below meth c H locs 0 0 Q (F0 m 75 ls []) := by
                intro hQ H locs hP hD hS ls hl
                refine lv_aload_n hx hb dX0_stepTrial_75 rfl (lv_at hl 2 rfl) ?_
                refine lv_iload_n hx hb dX0_stepTrial_76 rfl (lv_at hl 1 rfl) ?_
                refine lv_iload_n hx hb dX0_stepTrial_77 rfl (lv_at hl 0 rfl) ?_
                refine w_iVv (As := [.int (iI ((((c0 - 1) : Nat) : Int))), .int (iI ((q : Int)))]) (rest := []) (wf := fun u : Unit => xw ad cI cZ nn mm tT tB tE tL oO (swp oR (c0 - 1) q) oQ zS zM zN oJ) (wr := []) ⟨hx, hb, hml, hown, hts⟩ hK hP hD hS hA (mX0_swapInTrial  (a := c0 - 1) (b := q) (by omega) (by omega)) (cwV 2 hts gX0_stepTrial_X0_swapInTrial rfl rfl rfl (by decide +kernel) ⟨Nat.le_of_ble_eq_true rfl, Nat.le_of_ble_eq_true rfl⟩) [0, 1, 2, 3, 4, 5, 6, 7, 8, 9, 10, 11] [] [0, 1, 2, 3, 4, 5, 6, 7, 8, 9, 10, 11] rfl rfl (by decide) (by decide) (by decide) (hwf := fun _ => rfl) (by decide) (ci := 0) rfl rfl rfl rfl hl.1 (by rw [show (((c0 : Int) - 1) : Int) = (((c0 - 1) : Nat) : Int) by omega]; try rfl) (Nat.le_of_ble_eq_true rfl) dX0_stepTrial_78 ⟨Nat.zero_le _, Nat.zero_le _⟩ (fun u H locs hr78 hP hD hS => ?_)
                refine lv_iload_n hx hb dX0_stepTrial_81 rfl (lv_at hl 1 rfl) ?_
                refine lv_iconst (v := iI 1) hx hb dX0_stepTrial_82 rfl ?_
                refine w_iadd (z := (c0 : Int)) hx hb dX0_stepTrial_83 (by omega) ?_
                refine lv_istore_n (lv' := [(3, .int (iI ((c0 : Int)))), (2, .int (iI ((q : Int)))), (1, .int (iI ((c0 : Int) - 1))), (0, .ref (ad 0))]) hx hb dX0_stepTrial_84 rfl hl (by decide) rfl (fun ls hl => ?_)
                refine lv_aload_n hx hb dX0_stepTrial_85 rfl (lv_at hl 3 rfl) ?_
                refine va_get (D := D) (ci := 0) (C := RX0) (T := TX0) (N := 13) hx hb hts inW hown hK hP 0 rfl rfl 0 (by decide) (hts (.fieldLink RX0 7 "Flowforge" "jobCount" "I") (List.mem_of_getElem? (i := 1) rfl)) (fun _ h9 => h9) rfl dX0_stepTrial_86 ?_
                refine lv_iconst (v := iI 1) hx hb dX0_stepTrial_89 rfl ?_
                refine w_isub (z := (nn : Int) - 1) hx hb dX0_stepTrial_90 (by omega) ?_
                refine lv_istore (lv' := [(4, .int (iI ((nn : Int) - 1))), (3, .int (iI ((c0 : Int)))), (2, .int (iI ((q : Int)))), (1, .int (iI ((c0 : Int) - 1))), (0, .ref (ad 0))]) hx hb dX0_stepTrial_91 hl (by decide) rfl (fun ls hl => ?_)
                have L93 : ∀ (fu : Nat) (i : Nat) (wtrial93 : Nat → Nat) (x4_93 : Int) (x3_93 : Int), (i ≤ (nn - c0) / 2) → (wtrial93 = rvs (swp oR (c0 - 1) q) c0 (nn - 1) i) → (x4_93 = (nn : Int) - (i : Int) - 1) → (x3_93 = (c0 : Int) + (i : Int)) → (nn - c0) / 2 - i < fu → ∀ (H : Heap) (locs : List Loc), va_P D vwCl (xw ad cI cZ nn mm tT tB tE tL oO wtrial93 oQ zS zM zN oJ) H → va_D A (xw ad cI cZ nn mm tT tB tE tL oO wtrial93 oQ zS zM zN oJ) → va_S A s.heap H locs → ∀ ls : Array Slot, lv_has ls 5 [(4, .int (iI (x4_93))), (3, .int (iI (x3_93))), (2, .int (iI ((q : Int)))), (1, .int (iI ((c0 : Int) - 1))), (0, .ref (ad 0))] → W p l e (rmx 1 23) s m args below meth c H locs 0 0 Q (F0 m 93 ls []) := by
                  intro fu
                  induction fu with
                  | zero =>
                    intro i wtrial93 x4_93 x3_93 hi hq0 hq1 hq2 hfu
                    exact absurd hfu (Nat.not_lt_zero _)
                  | succ fu ih =>
                    intro i wtrial93 x4_93 x3_93 hi hq0 hq1 hq2 hfu H locs hP hD hS ls hl
                    subst hq0
                    subst hq1
                    subst hq2
                    have ih93 := ih
                    refine lv_iload_n hx hb dX0_stepTrial_93 rfl (lv_at hl 1 rfl) ?_
                    refine lv_iload hx hb dX0_stepTrial_94 (lv_at hl 0 rfl) ?_
                    refine w_icmp_ge (tgt := 115) hx hb dX0_stepTrial_96 (by decide) ⟨by omega, by omega⟩ ⟨by omega, by omega⟩ (fun c96 => ?_) (fun c96 => ?_)
                    · obtain rfl : i = (nn - c0) / 2 := by omega
                      refine lv_iload_n hx hb dX0_stepTrial_115 rfl (lv_at hl 3 rfl) ?_
                      have e9 : nxT oR nn = rvs (swp oR (c0 - 1) q) c0 (nn - 1) ((nn - c0) / 2) := by unfold nxT; rw [hp0, if_neg (by omega), hQ]
                      rw [← e9] at hP hD
                      exact hret _ _ 116 ls _ (()) hP hD hS (by rw [hp0]) dX0_stepTrial_116
                    · refine lv_aload_n hx hb dX0_stepTrial_99 rfl (lv_at hl 4 rfl) ?_
                      refine lv_iload_n hx hb dX0_stepTrial_100 rfl (lv_at hl 1 rfl) ?_
                      refine lv_iload hx hb dX0_stepTrial_101 (lv_at hl 0 rfl) ?_
                      refine w_iVv (As := [.int (iI ((((c0 + i) : Nat) : Int))), .int (iI ((((nn - 1 - i) : Nat) : Int)))]) (rest := []) (wf := fun u : Unit => xw ad cI cZ nn mm tT tB tE tL oO (swp (rvs (swp oR (c0 - 1) q) c0 (nn - 1) i) (c0 + i) (nn - 1 - i)) oQ zS zM zN oJ) (wr := []) ⟨hx, hb, hml, hown, hts⟩ hK hP hD hS hA (mX0_swapInTrial  (a := c0 + i) (b := nn - 1 - i) (by omega) (by omega)) (cwV 2 hts gX0_stepTrial_X0_swapInTrial rfl rfl rfl (by decide +kernel) ⟨Nat.le_of_ble_eq_true rfl, Nat.le_of_ble_eq_true rfl⟩) [0, 1, 2, 3, 4, 5, 6, 7, 8, 9, 10, 11] [] [0, 1, 2, 3, 4, 5, 6, 7, 8, 9, 10, 11] rfl rfl (by decide) (by decide) (by decide) (hwf := fun _ => rfl) (by decide) (ci := 0) rfl rfl rfl rfl hl.1 (by rw [show (((c0 : Int) + (i : Int)) : Int) = (((c0 + i) : Nat) : Int) by omega]; rw [show (((nn : Int) - (i : Int) - 1) : Int) = (((nn - 1 - i) : Nat) : Int) by omega]; try rfl) (Nat.le_of_ble_eq_true rfl) dX0_stepTrial_103 ⟨Nat.zero_le _, Nat.zero_le _⟩ (fun u H locs hr103 hP hD hS => ?_)
                      refine lv_iinc (v := iI ((c0 : Int) + (i : Int) + 1)) (lv' := [(3, .int (iI ((c0 : Int) + (i : Int) + 1))), (4, .int (iI ((nn : Int) - (i : Int) - 1))), (2, .int (iI ((q : Int)))), (1, .int (iI ((c0 : Int) - 1))), (0, .ref (ad 0))]) hx hb dX0_stepTrial_106 hl (k := 1) rfl (iI_inc (by omega)) (by decide) rfl (fun ls hl => ?_)
                      refine lv_iinc (v := iI ((nn : Int) - (i : Int) - 2)) (lv' := [(4, .int (iI ((nn : Int) - (i : Int) - 2))), (3, .int (iI ((c0 : Int) + (i : Int) + 1))), (2, .int (iI ((q : Int)))), (1, .int (iI ((c0 : Int) - 1))), (0, .ref (ad 0))]) hx hb dX0_stepTrial_109 hl (k := 1) rfl (iI_inc (by omega)) (by decide) rfl (fun ls hl => ?_)
                      refine lv_goto (tgt := 93) hx hb dX0_stepTrial_112 (by decide) ?_
                      exact ih93 (i + 1) (swp (rvs (swp oR (c0 - 1) q) c0 (nn - 1) i) (c0 + i) (nn - 1 - i)) ((nn : Int) - (i : Int) - 2) ((c0 : Int) + (i : Int) + 1) (by omega) (rfl) (by omega) (by omega) (by omega) _ _ hP hD hS ls (lv_sub hl [0, 1, 2, 3, 4] rfl)
                exact L93 ((nn - c0) / 2 - 0 + 1) 0 (swp oR (c0 - 1) q) ((nn : Int) - 1) ((c0 : Int)) (by omega) (rfl) (by omega) (by omega) (Nat.lt_succ_self _) _ _ hP hD hS ls (lv_sub hl [0, 1, 2, 3, 4] rfl)
              refine w_icmp_le (tgt := 75) hx hb dX0_stepTrial_51 (by decide) ⟨by omega, by omega⟩ ⟨by omega, by omega⟩ (fun c51 => ?_) (fun c51 => ?_)
              · exact J75 (hq.trans (ptn_y1 (by omega))) _ _ hP hD hS ls (lv_sub hl [0, 1, 2] rfl)
              · refine lv_aload_n hx hb dX0_stepTrial_54 rfl (lv_at hl 2 rfl) ?_
                refine va_get (D := D) (ci := 0) (C := RX0) (T := TX0) (N := 13) hx hb hts inW hown hK hP 0 rfl rfl 7 (by decide) (hts (.fieldLink RX0 32 "Flowforge" "trial" "[I") (List.mem_of_getElem? (i := 2) rfl)) (fun _ h9 => h9) rfl dX0_stepTrial_55 ?_
                refine lv_iload_n hx hb dX0_stepTrial_58 rfl (lv_at hl 0 rfl) ?_
                refine w_iald (v := iI ((oR q : Nat) : Int)) hx hb hK hP 6 0 rfl rfl (q) (by omega) (by omega) (by decide) rfl dX0_stepTrial_59 ?_
                refine lv_aload_n hx hb dX0_stepTrial_60 rfl (lv_at hl 2 rfl) ?_
                refine va_get (D := D) (ci := 0) (C := RX0) (T := TX0) (N := 13) hx hb hts inW hown hK hP 0 rfl rfl 7 (by decide) (hts (.fieldLink RX0 32 "Flowforge" "trial" "[I") (List.mem_of_getElem? (i := 2) rfl)) (fun _ h9 => h9) rfl dX0_stepTrial_61 ?_
                refine lv_iload_n hx hb dX0_stepTrial_64 rfl (lv_at hl 1 rfl) ?_
                refine w_iald (v := iI ((oR (c0 - 1) : Nat) : Int)) hx hb hK hP 6 0 rfl rfl (c0 - 1) (by omega) (by omega) (by decide) rfl dX0_stepTrial_65 ?_
                refine w_icmp_ge (tgt := 75) hx hb dX0_stepTrial_66 (by decide) ⟨by omega, by omega⟩ ⟨by omega, by omega⟩ (fun c66 => ?_) (fun c66 => ?_)
                · exact J75 (hq.trans (ptn_y2 (by omega))) _ _ hP hD hS ls (lv_sub hl [0, 1, 2] rfl)
                · refine lv_iinc (v := iI ((q : Int) - 1)) (lv' := [(2, .int (iI ((q : Int) - 1))), (1, .int (iI ((c0 : Int) - 1))), (0, .ref (ad 0))]) hx hb dX0_stepTrial_69 hl (k := 0) rfl (iI_inc (by omega)) (by decide) rfl (fun ls hl => ?_)
                  refine lv_goto (tgt := 47) hx hb dX0_stepTrial_72 (by decide) ?_
                  exact ih47 (q - 1) ((q : Int) - 1) (by omega) (by omega) (hq.trans (ptn_n (by omega) (by omega))) (by omega) (by omega) _ _ hP hD hS ls (lv_sub hl [0, 1, 2] rfl)
          exact L47 ((nn - 1) + 1) (nn - 1) ((nn : Int) - 1) (by omega) (by omega) (rfl) (by omega) (Nat.lt_succ_self _) _ _ hP hD hS ls (lv_sub hl [0, 1, 2] rfl)
        · have hp1 : pvt oR c0 = pvt oR (c0 - 1) := pvt_n hc1 (by omega)
          refine lv_iinc (v := iI ((c0 : Int) - 2)) (lv' := [(1, .int (iI ((c0 : Int) - 2))), (0, .ref (ad 0))]) hx hb dX0_stepTrial_28 hl (k := 0) rfl (iI_inc (by omega)) (by decide) rfl (fun ls hl => ?_)
          refine lv_goto (tgt := 7) hx hb dX0_stepTrial_31 (by decide) ?_
          exact ih7 (c0 - 1) ((c0 : Int) - 2) (by omega) (hp.trans hp1) (by omega) (by omega) _ _ hP hD hS ls (lv_sub hl [0, 1] rfl)
  exact L7 ((nn - 1) + 1) (nn - 1) ((nn : Int) - 2) (by omega) (rfl) (by omega) (Nat.lt_succ_self _) _ _ hP hD hS ls (lv_sub hl [0, 1] rfl)
set_option maxRecDepth 100000 in
theorem mX0_stepTrial  (hn : nn ≤ 7) (hR : ∀ k, k < nn → oR k < 7) : IM l yX0_stepTrial wsX0_stepTrial (rmx 1 23) D (tyk cI cZ cJ) (xw ad cI cZ nn mm tT tB tE tL oO oR oQ zS zM zN oJ) [.ref (ad 0)] (QI D (tyk cI cZ cJ) (fun u : Unit => xw ad cI cZ nn mm tT tB tE tL oO (nxT oR nn) oQ zS zM zN oJ) (fun x _ => x = iI (((pvt oR (nn - 1) : Nat) : Int) - 1))) := by
  rcases Nat.eq_zero_or_pos nn with h | h
  · exact mX0_stepTrial_0 h
  · exact mX0_stepTrial_1 h hn hR
set_option maxHeartbeats 4000000 in
set_option maxRecDepth 100000 in
theorem mX0_countTrial_A {v : Nat} {ms : Int} (hn : nn ≤ 7) (hv : v ≤ 2) (hM : 0 ≤ zM v ∧ zM v ≤ 1000000) (hN : 0 ≤ zN v ∧ zN v ≤ 1000000) (hms : 0 ≤ ms ∧ ms ≤ 1000000) (hC : zN v = 0 ∨ ms < zM v) : IM l yX0_countTrial wsX0_countTrial (rmx 1 60) D (tyk cI cZ cJ) (xw ad cI cZ nn mm tT tB tE tL oO oR oQ zS zM zN oJ) [.ref (ad 0), .int (iI ((v : Int))), .int (iI (ms))] (QV D (tyk cI cZ cJ) (fun u : Unit => xw ad cI cZ nn mm tT tB tE tL oO oR oQ zS (va_up zM v ms) (va_up (va_up zN v 0) v 1) (va_cpy oR oJ 0 (7 * v) nn)) (fun _ => True)) := by
  refine imV_of (cc := cX0_countTrial) (maxL := 3) (by decide) rfl (Nat.le_of_ble_eq_true rfl) ?_
  intro p e s m args below meth c A Q hx hb hml hown hts hA hK hP hD hS hret ls hl
  have hown : s.vm.findClass RX0 = some m.cls := hown
  have hl : lv_has ls 3 [(0, .ref (ad 0)), (1, .int (iI ((v : Int)))), (2, .int (iI (ms)))] := hl
  have inW : ∀ w ∈ wsX00, w ∈ wsX0_countTrial := by first | exact (fun w h => List.mem_cons_of_mem _ (List.mem_append_right _ h)) | exact (fun w h => List.mem_cons_of_mem _ (List.mem_append_left _ (List.mem_append_right _ h))) | exact (fun w h => List.mem_cons_of_mem _ (List.mem_append_left _ (List.mem_append_left _ (List.mem_append_right _ h)))) | decide +kernel
  refine lv_aload_n hx hb dX0_countTrial_0 rfl (lv_at hl 0 rfl) ?_
  refine va_get (D := D) (ci := 0) (C := RX0) (T := TX0) (N := 13) hx hb hts inW hown hK hP 0 rfl rfl 11 (by decide) (hts (.fieldLink RX0 45 "Flowforge" "leastCounts" "[I") (List.mem_of_getElem? (i := 1) rfl)) (fun _ h9 => h9) rfl dX0_countTrial_1 ?_
  refine lv_iload_n hx hb dX0_countTrial_4 rfl (lv_at hl 1 rfl) ?_
  refine w_iald (v := iI (zN v)) hx hb hK hP 10 0 rfl rfl (v) (by omega) (by omega) (by decide) rfl dX0_countTrial_5 ?_
  have J19 : ∀ (H : Heap) (locs : List Loc), va_P D vwCl (xw ad cI cZ nn mm tT tB tE tL oO oR oQ zS zM zN oJ) H → va_D A (xw ad cI cZ nn mm tT tB tE tL oO oR oQ zS zM zN oJ) → va_S A s.heap H locs → ∀ ls : Array Slot, lv_has ls 3 [(0, .ref (ad 0)), (1, .int (iI ((v : Int)))), (2, .int (iI (ms)))] → W p l e (rmx 1 60) s m args below meth c H locs 0 0 Q (F0 m 19 ls []) := by
    intro H locs hP hD hS ls hl
    refine lv_aload_n hx hb dX0_countTrial_19 rfl (lv_at hl 0 rfl) ?_
    refine va_get (D := D) (ci := 0) (C := RX0) (T := TX0) (N := 13) hx hb hts inW hown hK hP 0 rfl rfl 10 (by decide) (hts (.fieldLink RX0 42 "Flowforge" "leastMakespans" "[I") (List.mem_of_getElem? (i := 2) rfl)) (fun _ h9 => h9) rfl dX0_countTrial_20 ?_
    refine lv_iload_n hx hb dX0_countTrial_23 rfl (lv_at hl 1 rfl) ?_
    refine lv_iload_n hx hb dX0_countTrial_24 rfl (lv_at hl 2 rfl) ?_
    refine w_iast (g := tI (va_up zM v ms)) (ws' := xw ad cI cZ nn mm tT tB tE tL oO oR oQ zS (va_up zM v ms) zN oJ) hx hb hK hP hD hS 9 0 rfl rfl (v) (by omega) (by omega) (by decide) (hg := tI_up) (hw := rfl) (hd := dX0_countTrial_25) (kk := fun H locs hP hD hS => ?_)
    refine lv_aload_n hx hb dX0_countTrial_26 rfl (lv_at hl 0 rfl) ?_
    refine va_get (D := D) (ci := 0) (C := RX0) (T := TX0) (N := 13) hx hb hts inW hown hK hP 0 rfl rfl 11 (by decide) (hts (.fieldLink RX0 45 "Flowforge" "leastCounts" "[I") (List.mem_of_getElem? (i := 1) rfl)) (fun _ h9 => h9) rfl dX0_countTrial_27 ?_
    refine lv_iload_n hx hb dX0_countTrial_30 rfl (lv_at hl 1 rfl) ?_
    refine lv_iconst (v := iI 0) hx hb dX0_countTrial_31 rfl ?_
    refine w_iast (g := tI (va_up zN v 0)) (ws' := xw ad cI cZ nn mm tT tB tE tL oO oR oQ zS (va_up zM v ms) (va_up zN v 0) oJ) hx hb hK hP hD hS 10 0 rfl rfl (v) (by omega) (by omega) (by decide) (hg := tI_up) (hw := rfl) (hd := dX0_countTrial_32) (kk := fun H locs hP hD hS => ?_)
    refine lv_aload_n hx hb dX0_countTrial_33 rfl (lv_at hl 0 rfl) ?_
    refine va_get (D := D) (ci := 0) (C := RX0) (T := TX0) (N := 13) hx hb hts inW hown hK hP 0 rfl rfl 7 (by decide) (hts (.fieldLink RX0 32 "Flowforge" "trial" "[I") (List.mem_of_getElem? (i := 3) rfl)) (fun _ h9 => h9) rfl dX0_countTrial_34 ?_
    refine lv_iconst (v := iI 0) hx hb dX0_countTrial_37 rfl ?_
    refine lv_aload_n hx hb dX0_countTrial_38 rfl (lv_at hl 0 rfl) ?_
    refine va_get (D := D) (ci := 0) (C := RX0) (T := TX0) (N := 13) hx hb hts inW hown hK hP 0 rfl rfl 12 (by decide) (hts (.fieldLink RX0 48 "Flowforge" "bestJobs" "[I") (List.mem_of_getElem? (i := 4) rfl)) (fun _ h9 => h9) rfl dX0_countTrial_39 ?_
    refine lv_iload_n hx hb dX0_countTrial_42 rfl (lv_at hl 1 rfl) ?_
    refine lv_bipush (v := iI 7) hx hb dX0_countTrial_43 (by decide) ?_
    refine w_imul (z := 7 * (v : Int)) hx hb dX0_countTrial_45 (by omega) ?_
    refine lv_aload_n hx hb dX0_countTrial_46 rfl (lv_at hl 0 rfl) ?_
    refine va_get (D := D) (ci := 0) (C := RX0) (T := TX0) (N := 13) hx hb hts inW hown hK hP 0 rfl rfl 0 (by decide) (hts (.fieldLink RX0 7 "Flowforge" "jobCount" "I") (List.mem_of_getElem? (i := 5) rfl)) (fun _ h9 => h9) rfl dX0_countTrial_47 ?_
    refine w_copy (ws' := xw ad cI cZ nn mm tT tB tE tL oO oR oQ zS (va_up zM v ms) (va_up zN v 0) (va_cpy oR oJ 0 (7 * v) nn)) (g2 := jI (va_cpy oR oJ 0 (7 * v) nn)) hx hb (hml.trans hl.1.symm) hown (hts (.methodLink RX0 150 arraycopyName) (List.mem_of_getElem? (i := 6) rfl)) (hts (.native arraycopyName) (List.mem_of_getElem? (i := 7) rfl)) (hts (.static arraycopyName) (List.mem_of_getElem? (i := 8) rfl)) (hts (.initialized "java/lang/System") (List.mem_of_getElem? (i := 9) rfl)) hK hP hD hS 6 11 rfl rfl rfl (0) (7 * v) (nn) (by omega) (by omega) (by omega) (by omega) (by omega) (Nat.le_of_ble_eq_true rfl) (Nat.le_of_ble_eq_true rfl) (by decide) jI_cpy rfl dX0_countTrial_50 (fun H locs hP hD hS => ?_)
    refine lv_iload_n hx hb dX0_countTrial_53 rfl (lv_at hl 2 rfl) ?_
    refine lv_aload_n hx hb dX0_countTrial_54 rfl (lv_at hl 0 rfl) ?_
    refine va_get (D := D) (ci := 0) (C := RX0) (T := TX0) (N := 13) hx hb hts inW hown hK hP 0 rfl rfl 10 (by decide) (hts (.fieldLink RX0 42 "Flowforge" "leastMakespans" "[I") (List.mem_of_getElem? (i := 2) rfl)) (fun _ h9 => h9) rfl dX0_countTrial_55 ?_
    refine lv_iload_n hx hb dX0_countTrial_58 rfl (lv_at hl 1 rfl) ?_
    refine w_iald (v := iI (ms)) hx hb hK hP 9 0 rfl rfl (v) (by omega) (by omega) (by decide) (congrArg iI (if_pos rfl)) dX0_countTrial_59 ?_
    refine w_icmp_ne (tgt := 73) hx hb dX0_countTrial_60 (by decide) ⟨by omega, by omega⟩ ⟨by omega, by omega⟩ (fun c60 => absurd rfl c60) (fun c60 => ?_)
    refine lv_aload_n hx hb dX0_countTrial_63 rfl (lv_at hl 0 rfl) ?_
    refine va_get (D := D) (ci := 0) (C := RX0) (T := TX0) (N := 13) hx hb hts inW hown hK hP 0 rfl rfl 11 (by decide) (hts (.fieldLink RX0 45 "Flowforge" "leastCounts" "[I") (List.mem_of_getElem? (i := 1) rfl)) (fun _ h9 => h9) rfl dX0_countTrial_64 ?_
    refine lv_iload_n hx hb dX0_countTrial_67 rfl (lv_at hl 1 rfl) ?_
    refine lv_dup2_11 hx hb dX0_countTrial_68 rfl rfl ?_
    refine w_iald (v := iI (0)) hx hb hK hP 10 0 rfl rfl (v) (by omega) (by omega) (by decide) (congrArg iI (if_pos rfl)) dX0_countTrial_69 ?_
    refine lv_iconst (v := iI 1) hx hb dX0_countTrial_70 rfl ?_
    refine w_iadd (z := 1) hx hb dX0_countTrial_71 (by omega) ?_
    refine w_iast (g := tI (va_up (va_up zN v 0) v 1)) (ws' := xw ad cI cZ nn mm tT tB tE tL oO oR oQ zS (va_up zM v ms) (va_up (va_up zN v 0) v 1) (va_cpy oR oJ 0 (7 * v) nn)) hx hb hK hP hD hS 10 0 rfl rfl (v) (by omega) (by omega) (by decide) (hg := tI_up) (hw := rfl) (hd := dX0_countTrial_72) (kk := fun H locs hP hD hS => ?_)
    exact hret _ _ 73 ls (()) hP hD hS (trivial) dX0_countTrial_73
  refine w_if_eq (tgt := 19) hx hb dX0_countTrial_6 (by decide) ⟨by omega, by omega⟩ (fun c6 => ?_) (fun c6 => ?_)
  · exact J19  _ _ hP hD hS ls (lv_sub hl [0, 1, 2] rfl)
  · refine lv_iload_n hx hb dX0_countTrial_9 rfl (lv_at hl 2 rfl) ?_
    refine lv_aload_n hx hb dX0_countTrial_10 rfl (lv_at hl 0 rfl) ?_
    refine va_get (D := D) (ci := 0) (C := RX0) (T := TX0) (N := 13) hx hb hts inW hown hK hP 0 rfl rfl 10 (by decide) (hts (.fieldLink RX0 42 "Flowforge" "leastMakespans" "[I") (List.mem_of_getElem? (i := 2) rfl)) (fun _ h9 => h9) rfl dX0_countTrial_11 ?_
    refine lv_iload_n hx hb dX0_countTrial_14 rfl (lv_at hl 1 rfl) ?_
    refine w_iald (v := iI (zM v)) hx hb hK hP 9 0 rfl rfl (v) (by omega) (by omega) (by decide) rfl dX0_countTrial_15 ?_
    refine w_icmp_ge (tgt := 53) hx hb dX0_countTrial_16 (by decide) ⟨by omega, by omega⟩ ⟨by omega, by omega⟩ (fun c16 => absurd c16 (by omega)) (fun c16 => ?_)
    exact J19  _ _ hP hD hS ls (lv_sub hl [0, 1, 2] rfl)
set_option maxHeartbeats 4000000 in
set_option maxRecDepth 100000 in
theorem mX0_countTrial_B {v : Nat} {ms : Int} (hn : nn ≤ 7) (hv : v ≤ 2) (hM : 0 ≤ zM v ∧ zM v ≤ 1000000) (hN : 0 ≤ zN v ∧ zN v ≤ 1000000) (hms : 0 ≤ ms ∧ ms ≤ 1000000) (hC : ¬ (zN v = 0 ∨ ms < zM v)) : IM l yX0_countTrial wsX0_countTrial (rmx 0 0) D (tyk cI cZ cJ) (xw ad cI cZ nn mm tT tB tE tL oO oR oQ zS zM zN oJ) [.ref (ad 0), .int (iI ((v : Int))), .int (iI (ms))] (QV D (tyk cI cZ cJ) (fun u : Unit => xw ad cI cZ nn mm tT tB tE tL oO oR oQ zS zM ((if ms = zM v then va_up zN v (zN v + 1) else zN)) oJ) (fun _ => True)) := by
  refine imV_of (cc := cX0_countTrial) (maxL := 3) (by decide) rfl (Nat.le_of_ble_eq_true rfl) ?_
  intro p e s m args below meth c A Q hx hb hml hown hts hA hK hP hD hS hret ls hl
  have hown : s.vm.findClass RX0 = some m.cls := hown
  have hl : lv_has ls 3 [(0, .ref (ad 0)), (1, .int (iI ((v : Int)))), (2, .int (iI (ms)))] := hl
  have inW : ∀ w ∈ wsX00, w ∈ wsX0_countTrial := by first | exact (fun w h => List.mem_cons_of_mem _ (List.mem_append_right _ h)) | exact (fun w h => List.mem_cons_of_mem _ (List.mem_append_left _ (List.mem_append_right _ h))) | exact (fun w h => List.mem_cons_of_mem _ (List.mem_append_left _ (List.mem_append_left _ (List.mem_append_right _ h)))) | decide +kernel
  refine lv_aload_n hx hb dX0_countTrial_0 rfl (lv_at hl 0 rfl) ?_
  refine va_get (D := D) (ci := 0) (C := RX0) (T := TX0) (N := 13) hx hb hts inW hown hK hP 0 rfl rfl 11 (by decide) (hts (.fieldLink RX0 45 "Flowforge" "leastCounts" "[I") (List.mem_of_getElem? (i := 1) rfl)) (fun _ h9 => h9) rfl dX0_countTrial_1 ?_
  refine lv_iload_n hx hb dX0_countTrial_4 rfl (lv_at hl 1 rfl) ?_
  refine w_iald (v := iI (zN v)) hx hb hK hP 10 0 rfl rfl (v) (by omega) (by omega) (by decide) rfl dX0_countTrial_5 ?_
  refine w_if_eq (tgt := 19) hx hb dX0_countTrial_6 (by decide) ⟨by omega, by omega⟩ (fun c6 => absurd c6 (fun q => hC (Or.inl q))) (fun c6 => ?_)
  refine lv_iload_n hx hb dX0_countTrial_9 rfl (lv_at hl 2 rfl) ?_
  refine lv_aload_n hx hb dX0_countTrial_10 rfl (lv_at hl 0 rfl) ?_
  refine va_get (D := D) (ci := 0) (C := RX0) (T := TX0) (N := 13) hx hb hts inW hown hK hP 0 rfl rfl 10 (by decide) (hts (.fieldLink RX0 42 "Flowforge" "leastMakespans" "[I") (List.mem_of_getElem? (i := 2) rfl)) (fun _ h9 => h9) rfl dX0_countTrial_11 ?_
  refine lv_iload_n hx hb dX0_countTrial_14 rfl (lv_at hl 1 rfl) ?_
  refine w_iald (v := iI (zM v)) hx hb hK hP 9 0 rfl rfl (v) (by omega) (by omega) (by decide) rfl dX0_countTrial_15 ?_
  refine w_icmp_ge (tgt := 53) hx hb dX0_countTrial_16 (by decide) ⟨by omega, by omega⟩ ⟨by omega, by omega⟩ (fun c16 => ?_) (fun c16 => absurd c16 (by omega))
  refine lv_iload_n hx hb dX0_countTrial_53 rfl (lv_at hl 2 rfl) ?_
  refine lv_aload_n hx hb dX0_countTrial_54 rfl (lv_at hl 0 rfl) ?_
  refine va_get (D := D) (ci := 0) (C := RX0) (T := TX0) (N := 13) hx hb hts inW hown hK hP 0 rfl rfl 10 (by decide) (hts (.fieldLink RX0 42 "Flowforge" "leastMakespans" "[I") (List.mem_of_getElem? (i := 2) rfl)) (fun _ h9 => h9) rfl dX0_countTrial_55 ?_
  refine lv_iload_n hx hb dX0_countTrial_58 rfl (lv_at hl 1 rfl) ?_
  refine w_iald (v := iI (zM v)) hx hb hK hP 9 0 rfl rfl (v) (by omega) (by omega) (by decide) rfl dX0_countTrial_59 ?_
  refine w_icmp_ne (tgt := 73) hx hb dX0_countTrial_60 (by decide) ⟨by omega, by omega⟩ ⟨by omega, by omega⟩ (fun c60 => ?_) (fun c60 => ?_)
  · have e9 : (if ms = zM v then va_up zN v (zN v + 1) else zN) = zN := if_neg c60
    rw [← e9] at hP hD
    exact hret _ _ 73 ls (()) hP hD hS (trivial) dX0_countTrial_73
  · have e9 : (if ms = zM v then va_up zN v (zN v + 1) else zN) = va_up zN v (zN v + 1) := if_pos c60
    refine lv_aload_n hx hb dX0_countTrial_63 rfl (lv_at hl 0 rfl) ?_
    refine va_get (D := D) (ci := 0) (C := RX0) (T := TX0) (N := 13) hx hb hts inW hown hK hP 0 rfl rfl 11 (by decide) (hts (.fieldLink RX0 45 "Flowforge" "leastCounts" "[I") (List.mem_of_getElem? (i := 1) rfl)) (fun _ h9 => h9) rfl dX0_countTrial_64 ?_
    refine lv_iload_n hx hb dX0_countTrial_67 rfl (lv_at hl 1 rfl) ?_
    refine lv_dup2_11 hx hb dX0_countTrial_68 rfl rfl ?_
    refine w_iald (v := iI (zN v)) hx hb hK hP 10 0 rfl rfl (v) (by omega) (by omega) (by decide) rfl dX0_countTrial_69 ?_
    refine lv_iconst (v := iI 1) hx hb dX0_countTrial_70 rfl ?_
    refine w_iadd (z := (zN v) + 1) hx hb dX0_countTrial_71 (by omega) ?_
    refine w_iast (g := tI (va_up zN v ((zN v) + 1))) (ws' := xw ad cI cZ nn mm tT tB tE tL oO oR oQ zS zM (va_up zN v ((zN v) + 1)) oJ) hx hb hK hP hD hS 10 0 rfl rfl (v) (by omega) (by omega) (by decide) (hg := tI_up) (hw := rfl) (hd := dX0_countTrial_72) (kk := fun H locs hP hD hS => ?_)
    rw [← e9] at hP hD
    exact hret _ _ 73 ls (()) hP hD hS (trivial) dX0_countTrial_73
end
end
section
theorem BS_M {v nn : Nat} {zM zN M N : Nat → Int} {oJ r J : Nat → Nat} {g : Nat → Int} {y : Nat} {K : Int} (h : BS v nn zM zN oJ r g y M N J) (hv : 0 ≤ M v ∧ M v ≤ K) (h0 : ∀ k, k ≤ 2 → 0 ≤ zM k ∧ zM k ≤ K) : ∀ k, k ≤ 2 → 0 ≤ M k ∧ M k ≤ K := by
  intro k hk
  by_cases hkv : k = v
  · rw [hkv]
    exact hv
  · rw [h.1 k hkv]
    exact h0 k hk
end
section
section
variable {l : Launch} {D : va_G} {cI cZ cJ : ClassId} {ad bd : Nat → Nat} {a0 : Nat} {ws : va_W} {nn mm : Nat} {th bm : Int} {tT tB tE tL : Nat → Int} {oO oR oQ : Nat → Nat} {zS zM zN : Nat → Int} {oJ fF : Nat → Nat}
set_option maxHeartbeats 4000000 in
set_option maxRecDepth 100000 in
theorem mX0_findBestOrder_B {v : Nat} (hT : ∀ k, 0 ≤ tT k ∧ tT k ≤ 99) (hn : nn ≤ 7) (hm : 1 ≤ mm ∧ mm ≤ 5) (hv : v ≤ 2) (hE : Enu nn) (hS0 : zS v = 0) (hCK : CK mm tT nn zS zM zN oJ) (hMb : ∀ k, k ≤ 2 → 0 ≤ zM k ∧ zM k ≤ 1000000) : IM l yX0_findBestOrder wsX0_findBestOrder (rmx 4 95) D (tyk cI cZ cJ) (xw ad cI cZ nn mm tT tB tE tL oO oR oQ zS zM zN oJ) [.ref (ad 0), .int (iI ((v : Int)))] (QV D (tyk cI cZ cJ) (fun u : (Nat → Int) × (Nat → Int) × (Nat → Nat) × (Nat → Int) × (Nat → Int) × (Nat → Nat) × (Nat → Int) => xw ad cI cZ nn mm tT u.1 u.2.1 tL oO u.2.2.1 oQ u.2.2.2.2.2.2 u.2.2.2.1 u.2.2.2.2.1 u.2.2.2.2.2.1) (fun u => CK mm tT nn u.2.2.2.2.2.2 u.2.2.2.1 u.2.2.2.2.1 u.2.2.2.2.2.1 ∧ CV v mm tT nn u.2.2.2.1 u.2.2.2.2.1 u.2.2.2.2.2.1 ∧ ∀ k, k ≤ 2 → 0 ≤ u.2.2.2.1 k ∧ u.2.2.2.1 k ≤ 1000000)) := by
  refine imV_of (cc := cX0_findBestOrder) (maxL := 5) (by decide) rfl (Nat.le_of_ble_eq_true rfl) ?_
  intro p e s m args below meth c A Q hx hb hml hown hts hA hK hP hD hS hret ls hl
  have hown : s.vm.findClass RX0 = some m.cls := hown
  have hl : lv_has ls 5 [(0, .ref (ad 0)), (1, .int (iI ((v : Int))))] := hl
  have inW : ∀ w ∈ wsX00, w ∈ wsX0_findBestOrder := by first | exact (fun w h => List.mem_cons_of_mem _ (List.mem_append_right _ h)) | exact (fun w h => List.mem_cons_of_mem _ (List.mem_append_left _ (List.mem_append_right _ h))) | exact (fun w h => List.mem_cons_of_mem _ (List.mem_append_left _ (List.mem_append_left _ (List.mem_append_right _ h)))) | decide +kernel
  refine lv_aload_n hx hb dX0_findBestOrder_0 rfl (lv_at hl 0 rfl) ?_
  refine va_get (D := D) (ci := 0) (C := RX0) (T := TX0) (N := 13) hx hb hts inW hown hK hP 0 rfl rfl 9 (by decide) (hts (.fieldLink RX0 38 "Flowforge" "solved" "[Z") (List.mem_of_getElem? (i := 1) rfl)) (fun _ h9 => h9) rfl dX0_findBestOrder_1 ?_
  refine lv_iload_n hx hb dX0_findBestOrder_4 rfl (lv_at hl 1 rfl) ?_
  refine w_zald (v := iI (zS v)) hx hb hK hP 8 1 rfl rfl (v) (by omega) (by omega) (by decide) rfl dX0_findBestOrder_5 ?_
  refine w_if_eq (tgt := 10) hx hb dX0_findBestOrder_6 (by decide) ⟨by omega, by omega⟩ (fun c6 => ?_) (fun c6 => absurd hS0 c6)
  refine lv_aload_n hx hb dX0_findBestOrder_10 rfl (lv_at hl 0 rfl) ?_
  refine va_get (D := D) (ci := 0) (C := RX0) (T := TX0) (N := 13) hx hb hts inW hown hK hP 0 rfl rfl 11 (by decide) (hts (.fieldLink RX0 45 "Flowforge" "leastCounts" "[I") (List.mem_of_getElem? (i := 2) rfl)) (fun _ h9 => h9) rfl dX0_findBestOrder_11 ?_
  refine lv_iload_n hx hb dX0_findBestOrder_14 rfl (lv_at hl 1 rfl) ?_
  refine lv_iconst (v := iI 0) hx hb dX0_findBestOrder_15 rfl ?_
  refine w_iast (g := tI (va_up zN v 0)) (ws' := xw ad cI cZ nn mm tT tB tE tL oO oR oQ zS zM (va_up zN v 0) oJ) hx hb hK hP hD hS 10 0 rfl rfl (v) (by omega) (by omega) (by decide) (hg := tI_up) (hw := rfl) (hd := dX0_findBestOrder_16) (kk := fun H locs hP hD hS => ?_)
  refine lv_iconst (v := iI 0) hx hb dX0_findBestOrder_17 rfl ?_
  refine lv_istore_n (lv' := [(2, .int (iI 0)), (0, .ref (ad 0)), (1, .int (iI ((v : Int))))]) hx hb dX0_findBestOrder_18 rfl hl (by decide) rfl (fun ls hl => ?_)
  have L19 : ∀ (fu : Nat) (i : Nat) (wtrial19 : Nat → Nat) (x2_19 : Int), (i ≤ nn) → (wtrial19 = idr oR i) → (x2_19 = (i : Int)) → nn - i < fu → ∀ (H : Heap) (locs : List Loc), va_P D vwCl (xw ad cI cZ nn mm tT tB tE tL oO wtrial19 oQ zS zM (va_up zN v 0) oJ) H → va_D A (xw ad cI cZ nn mm tT tB tE tL oO wtrial19 oQ zS zM (va_up zN v 0) oJ) → va_S A s.heap H locs → ∀ ls : Array Slot, lv_has ls 5 [(2, .int (iI (x2_19))), (0, .ref (ad 0)), (1, .int (iI ((v : Int))))] → W p l e (rmx 4 95) s m args below meth c H locs 0 0 Q (F0 m 19 ls []) := by
    intro fu
    induction fu with
    | zero =>
      intro i wtrial19 x2_19 hi hq0 hq1 hfu
      exact absurd hfu (Nat.not_lt_zero _)
    | succ fu ih =>
      intro i wtrial19 x2_19 hi hq0 hq1 hfu H locs hP hD hS ls hl
      subst hq0
      subst hq1
      have ih19 := ih
      refine lv_iload_n hx hb dX0_findBestOrder_19 rfl (lv_at hl 0 rfl) ?_
      refine lv_aload_n hx hb dX0_findBestOrder_20 rfl (lv_at hl 1 rfl) ?_
      refine va_get (D := D) (ci := 0) (C := RX0) (T := TX0) (N := 13) hx hb hts inW hown hK hP 0 rfl rfl 0 (by decide) (hts (.fieldLink RX0 7 "Flowforge" "jobCount" "I") (List.mem_of_getElem? (i := 3) rfl)) (fun _ h9 => h9) rfl dX0_findBestOrder_21 ?_
      refine w_icmp_ge (tgt := 40) hx hb dX0_findBestOrder_24 (by decide) ⟨by omega, by omega⟩ ⟨by omega, by omega⟩ (fun c24 => ?_) (fun c24 => ?_)
      · obtain rfl : nn = i := by omega
        have hf := fac_le hn
        have hr9 : ∀ y k, k < nn → sq (idr oR nn) nn y k < 7 := fun y => sq_lt (fun k hk => by show idr oR nn k < 7; rw [idr_id k hk]; show k < 7; omega) y
        refine lv_iconst (v := iI 0) hx hb dX0_findBestOrder_40 rfl ?_
        refine lv_istore_n (lv' := [(2, .int (iI 0)), (0, .ref (ad 0)), (1, .int (iI ((v : Int))))]) hx hb dX0_findBestOrder_41 rfl hl (by decide) rfl (fun ls hl => ?_)
        refine lv_iconst (v := iI 0) hx hb dX0_findBestOrder_42 rfl ?_
        refine lv_istore_n (lv' := [(3, .int (iI 0)), (2, .int (iI 0)), (0, .ref (ad 0)), (1, .int (iI ((v : Int))))]) hx hb dX0_findBestOrder_43 rfl hl (by decide) rfl (fun ls hl => ?_)
        have L44 : ∀ (fu : Nat) (y : Nat) (cc : Nat) (wtrial44 : Nat → Nat) (wbegins44 : Nat → Int) (wends44 : Nat → Int) (wleastMakespans44 : Nat → Int) (wleastCounts44 : Nat → Int) (wbestJobs44 : Nat → Nat) (x3_44 : Int) (x2_44 : Int), (y ≤ fac nn) → (y < fac nn → 1 ≤ cc) → (y = fac nn → cc = 0) → (cc ≤ nn + 1) → (rows v mm tT (sq (idr oR nn) nn y) wbegins44 wends44 (cc - 1)) → (0 ≤ wleastMakespans44 v ∧ wleastMakespans44 v ≤ 1000000) → (BS v nn zM zN oJ (idr oR nn) (gsq v mm tT (idr oR nn) nn) y wleastMakespans44 wleastCounts44 wbestJobs44) → (wtrial44 = sq (idr oR nn) nn y) → (x3_44 = (y : Int)) → (x2_44 = (cc : Int) - 1) → fac nn - y < fu → ∀ (H : Heap) (locs : List Loc), va_P D vwCl (xw ad cI cZ nn mm tT wbegins44 wends44 tL oO wtrial44 oQ zS wleastMakespans44 wleastCounts44 wbestJobs44) H → va_D A (xw ad cI cZ nn mm tT wbegins44 wends44 tL oO wtrial44 oQ zS wleastMakespans44 wleastCounts44 wbestJobs44) → va_S A s.heap H locs → ∀ ls : Array Slot, lv_has ls 5 [(3, .int (iI (x3_44))), (2, .int (iI (x2_44))), (0, .ref (ad 0)), (1, .int (iI ((v : Int))))] → W p l e (rmx 4 95) s m args below meth c H locs 0 0 Q (F0 m 44 ls []) := by
          intro fu
          induction fu with
          | zero =>
            intro y cc wtrial44 wbegins44 wends44 wleastMakespans44 wleastCounts44 wbestJobs44 x3_44 x2_44 hy hlt heq hcn hI hMv hBS hq0 hq1 hq2 hfu
            exact absurd hfu (Nat.not_lt_zero _)
          | succ fu ih =>
            intro y cc wtrial44 wbegins44 wends44 wleastMakespans44 wleastCounts44 wbestJobs44 x3_44 x2_44 hy hlt heq hcn hI hMv hBS hq0 hq1 hq2 hfu H locs hP hD hS ls hl
            subst hq0
            subst hq1
            subst hq2
            have ih44 := ih
            have h9 := gsq_rg (v := v) (r := idr oR nn) (nn := nn) hm hT hn y
            have h8 := bst_rg (g := gsq v mm tT (idr oR nn) nn) (K := 3465) (by omega) (gsq_rg hm hT hn) y
            refine lv_iload_n hx hb dX0_findBestOrder_44 rfl (lv_at hl 0 rfl) ?_
            refine lv_sipush (v := iI 5040) hx hb dX0_findBestOrder_45 (by decide) ?_
            refine w_icmp_ge (tgt := 111) hx hb dX0_findBestOrder_48 (by decide) ⟨by omega, by omega⟩ ⟨by omega, by omega⟩ (fun c48 => ?_) (fun c48 => ?_)
            · obtain rfl : y = fac nn := by omega
              refine lv_aload_n hx hb dX0_findBestOrder_111 rfl (lv_at hl 2 rfl) ?_
              refine va_get (D := D) (ci := 0) (C := RX0) (T := TX0) (N := 13) hx hb hts inW hown hK hP 0 rfl rfl 9 (by decide) (hts (.fieldLink RX0 38 "Flowforge" "solved" "[Z") (List.mem_of_getElem? (i := 1) rfl)) (fun _ h9 => h9) rfl dX0_findBestOrder_112 ?_
              refine lv_iload_n hx hb dX0_findBestOrder_115 rfl (lv_at hl 3 rfl) ?_
              refine lv_iconst (v := iI 1) hx hb dX0_findBestOrder_116 rfl ?_
              refine w_zast (g := tI (va_up zS v 1)) (ws' := xw ad cI cZ nn mm tT wbegins44 wends44 tL oO (sq (idr oR nn) nn (fac nn)) oQ (va_up zS v 1) wleastMakespans44 wleastCounts44 wbestJobs44) hx hb hK hP hD hS 8 1 rfl rfl (v) (by omega) (by omega) (by decide) (by rfl) (hg := tI_up) (hw := rfl) (hd := dX0_findBestOrder_117) (kk := fun H locs hP hD hS => ?_)
              have hCK2 := CK_s hn hv (r := idr oR nn) idr_id hCK hBS
              exact hret _ _ 118 ls ((wbegins44, wends44, sq (idr oR nn) nn (fac nn), wleastMakespans44, wleastCounts44, wbestJobs44, va_up zS v 1)) hP hD hS (⟨hCK2.1, hCK2.2, BS_M hBS hMv hMb⟩) dX0_findBestOrder_118
            · refine lv_iload_n hx hb dX0_findBestOrder_51 rfl (lv_at hl 1 rfl) ?_
              refine w_if_lt (tgt := 111) hx hb dX0_findBestOrder_52 (by decide) ⟨by omega, by omega⟩ (fun c52 => ?_) (fun c52 => ?_)
              · obtain rfl : y = fac nn := by omega
                refine lv_aload_n hx hb dX0_findBestOrder_111 rfl (lv_at hl 2 rfl) ?_
                refine va_get (D := D) (ci := 0) (C := RX0) (T := TX0) (N := 13) hx hb hts inW hown hK hP 0 rfl rfl 9 (by decide) (hts (.fieldLink RX0 38 "Flowforge" "solved" "[Z") (List.mem_of_getElem? (i := 1) rfl)) (fun _ h9 => h9) rfl dX0_findBestOrder_112 ?_
                refine lv_iload_n hx hb dX0_findBestOrder_115 rfl (lv_at hl 3 rfl) ?_
                refine lv_iconst (v := iI 1) hx hb dX0_findBestOrder_116 rfl ?_
                refine w_zast (g := tI (va_up zS v 1)) (ws' := xw ad cI cZ nn mm tT wbegins44 wends44 tL oO (sq (idr oR nn) nn (fac nn)) oQ (va_up zS v 1) wleastMakespans44 wleastCounts44 wbestJobs44) hx hb hK hP hD hS 8 1 rfl rfl (v) (by omega) (by omega) (by decide) (by rfl) (hg := tI_up) (hw := rfl) (hd := dX0_findBestOrder_117) (kk := fun H locs hP hD hS => ?_)
                have hCK2 := CK_s hn hv (r := idr oR nn) idr_id hCK hBS
                exact hret _ _ 118 ls ((wbegins44, wends44, sq (idr oR nn) nn (fac nn), wleastMakespans44, wleastCounts44, wbestJobs44, va_up zS v 1)) hP hD hS (⟨hCK2.1, hCK2.2, BS_M hBS hMv hMb⟩) dX0_findBestOrder_118
              · have hyl : y < fac nn := (Nat.lt_or_ge y (fac nn)).elim id (fun q => absurd (heq (by omega)) (by omega))
                refine lv_iload_n hx hb dX0_findBestOrder_55 rfl (lv_at hl 1 rfl) ?_
                refine lv_istore (lv' := [(4, .int (iI ((cc : Int) - 1))), (3, .int (iI ((y : Int)))), (2, .int (iI ((cc : Int) - 1))), (0, .ref (ad 0)), (1, .int (iI ((v : Int))))]) hx hb dX0_findBestOrder_56 hl (by decide) rfl (fun ls hl => ?_)
                have L58 : ∀ (fu : Nat) (pl : Nat) (wbegins58 : Nat → Int) (wends58 : Nat → Int) (x4_58 : Int), (pl ≤ nn) → (rows v mm tT (sq (idr oR nn) nn y) wbegins58 wends58 pl) → (x4_58 = (pl : Int)) → nn - pl < fu → ∀ (H : Heap) (locs : List Loc), va_P D vwCl (xw ad cI cZ nn mm tT wbegins58 wends58 tL oO (sq (idr oR nn) nn y) oQ zS wleastMakespans44 wleastCounts44 wbestJobs44) H → va_D A (xw ad cI cZ nn mm tT wbegins58 wends58 tL oO (sq (idr oR nn) nn y) oQ zS wleastMakespans44 wleastCounts44 wbestJobs44) → va_S A s.heap H locs → ∀ ls : Array Slot, lv_has ls 5 [(4, .int (iI (x4_58))), (3, .int (iI ((y : Int)))), (2, .int (iI ((cc : Int) - 1))), (0, .ref (ad 0)), (1, .int (iI ((v : Int))))] → W p l e (rmx 4 95) s m args below meth c H locs 0 0 Q (F0 m 58 ls []) := by
                  intro fu
                  induction fu with
                  | zero =>
                    intro pl wbegins58 wends58 x4_58 hpl hI2 hq0 hfu
                    exact absurd hfu (Nat.not_lt_zero _)
                  | succ fu ih =>
                    intro pl wbegins58 wends58 x4_58 hpl hI2 hq0 hfu H locs hP hD hS ls hl
                    subst hq0
                    have ih58 := ih
                    refine lv_iload hx hb dX0_findBestOrder_58 (lv_at hl 0 rfl) ?_
                    refine lv_aload_n hx hb dX0_findBestOrder_60 rfl (lv_at hl 3 rfl) ?_
                    refine va_get (D := D) (ci := 0) (C := RX0) (T := TX0) (N := 13) hx hb hts inW hown hK hP 0 rfl rfl 0 (by decide) (hts (.fieldLink RX0 7 "Flowforge" "jobCount" "I") (List.mem_of_getElem? (i := 3) rfl)) (fun _ h9 => h9) rfl dX0_findBestOrder_61 ?_
                    refine w_icmp_ge (tgt := 87) hx hb dX0_findBestOrder_64 (by decide) ⟨by omega, by omega⟩ ⟨by omega, by omega⟩ (fun c64 => ?_) (fun c64 => ?_)
                    · obtain rfl : nn = pl := by omega
                      refine lv_aload_n hx hb dX0_findBestOrder_87 rfl (lv_at hl 3 rfl) ?_
                      refine lv_iload_n hx hb dX0_findBestOrder_88 rfl (lv_at hl 4 rfl) ?_
                      refine lv_aload_n hx hb dX0_findBestOrder_89 rfl (lv_at hl 3 rfl) ?_
                      refine lv_aload_n hx hb dX0_findBestOrder_90 rfl (lv_at hl 3 rfl) ?_
                      refine va_get (D := D) (ci := 0) (C := RX0) (T := TX0) (N := 13) hx hb hts inW hown hK hP 0 rfl rfl 0 (by decide) (hts (.fieldLink RX0 7 "Flowforge" "jobCount" "I") (List.mem_of_getElem? (i := 3) rfl)) (fun _ h9 => h9) rfl dX0_findBestOrder_91 ?_
                      refine w_pV (As := [.int (iI ((nn : Int)))]) (rest := [.int (iI ((v : Int))), .ref (ad 0)]) ⟨hx, hb, hml, hown, hts⟩ hK hP (mX0_lastEnd  hm hn) (cwV 1 hts gX0_findBestOrder_X0_lastEnd rfl rfl rfl (by decide +kernel) ⟨Nat.le_of_ble_eq_true rfl, Nat.le_of_ble_eq_true rfl⟩) (ci := 0) rfl rfl rfl rfl hl.1 rfl (Nat.le_of_ble_eq_true rfl) dX0_findBestOrder_94 ⟨Nat.zero_le _, Nat.zero_le _⟩ (fun r94 hr94 => ?_)
                      refine w_top (v := iI ((gsq v mm tT (idr oR nn) nn y))) (hr94.trans (congrArg iI (lstE_rows hm.1 hI2))) ?_
                      have q4 := hBS.2.2.2.1
                      have q3 : 0 ≤ wleastMakespans44 v ∧ wleastMakespans44 v ≤ 1000000 := hMv
                      by_cases hC : wleastCounts44 v = 0 ∨ gsq v mm tT (idr oR nn) nn y < wleastMakespans44 v
                      · refine w_iVv (As := [.int (iI ((v : Int))), .int (iI ((gsq v mm tT (idr oR nn) nn y)))]) (rest := []) (wf := fun u : Unit => xw ad cI cZ nn mm tT wbegins58 wends58 tL oO (sq (idr oR nn) nn y) oQ zS (va_up wleastMakespans44 v ((gsq v mm tT (idr oR nn) nn y))) (va_up (va_up wleastCounts44 v 0) v 1) (va_cpy (sq (idr oR nn) nn y) wbestJobs44 0 (7 * v) nn)) (wr := []) ⟨hx, hb, hml, hown, hts⟩ hK hP hD hS hA (mX0_countTrial_A  hn hv q3 (by omega) (by omega) hC) (cwV 2 hts gX0_findBestOrder_X0_countTrial rfl rfl rfl (by decide +kernel) ⟨Nat.le_of_ble_eq_true rfl, Nat.le_of_ble_eq_true rfl⟩) [0, 1, 2, 3, 4, 5, 6, 7, 8, 9, 10, 11] [] [0, 1, 2, 3, 4, 5, 6, 7, 8, 9, 10, 11] rfl rfl (by decide) (by decide) (by decide) (hwf := fun _ => rfl) (by decide) (ci := 0) rfl rfl rfl rfl hl.1 rfl (Nat.le_of_ble_eq_true rfl) dX0_findBestOrder_97 ⟨Nat.zero_le _, Nat.zero_le _⟩ (fun u H locs hr97 hP hD hS => ?_)
                        have hBS2 := BS_A hBS hC
                        refine lv_aload_n hx hb dX0_findBestOrder_100 rfl (lv_at hl 3 rfl) ?_
                        have hp1 := pvt_le (sq (idr oR nn) nn y) (nn - 1)
                        have hp2 := sq_pvt (r := idr oR nn) (nn := nn) (i := y) idr_id
                        refine w_iV (As := []) (rest := []) (wf := fun u : Unit => xw ad cI cZ nn mm tT wbegins58 wends58 tL oO (nxT (sq (idr oR nn) nn y) nn) oQ zS (va_up wleastMakespans44 v ((gsq v mm tT (idr oR nn) nn y))) (va_up (va_up wleastCounts44 v 0) v 1) (va_cpy (sq (idr oR nn) nn y) wbestJobs44 0 (7 * v) nn)) (wr := []) ⟨hx, hb, hml, hown, hts⟩ hK hP hD hS hA (mX0_stepTrial  hn (hr9 y)) (cwV 0 hts gX0_findBestOrder_X0_stepTrial rfl rfl rfl (by decide +kernel) ⟨Nat.le_of_ble_eq_true rfl, Nat.le_of_ble_eq_true rfl⟩) [0, 1, 2, 3, 4, 5, 6, 7, 8, 9, 10, 11] [] [0, 1, 2, 3, 4, 5, 6, 7, 8, 9, 10, 11] rfl rfl (by decide) (by decide) (by decide) (hwf := fun _ => rfl) (by decide) (ci := 0) rfl rfl rfl rfl hl.1 rfl (Nat.le_of_ble_eq_true rfl) dX0_findBestOrder_101 ⟨Nat.zero_le _, Nat.zero_le _⟩ (fun r101 u H locs hr101 hP hD hS => ?_)
                        refine w_top (v := iI (((pvt (sq (idr oR nn) nn y) (nn - 1) : Nat) : Int) - 1)) (hr101) ?_
                        refine lv_istore_n (lv' := [(2, .int (iI (((pvt (sq (idr oR nn) nn y) (nn - 1) : Nat) : Int) - 1))), (4, .int (iI ((nn : Int)))), (3, .int (iI ((y : Int)))), (0, .ref (ad 0)), (1, .int (iI ((v : Int))))]) hx hb dX0_findBestOrder_104 rfl hl (by decide) rfl (fun ls hl => ?_)
                        refine lv_iinc (v := iI ((y : Int) + 1)) (lv' := [(3, .int (iI ((y : Int) + 1))), (2, .int (iI (((pvt (sq (idr oR nn) nn y) (nn - 1) : Nat) : Int) - 1))), (4, .int (iI ((nn : Int)))), (0, .ref (ad 0)), (1, .int (iI ((v : Int))))]) hx hb dX0_findBestOrder_105 hl (k := 2) rfl (iI_inc (by omega)) (by decide) rfl (fun ls hl => ?_)
                        refine lv_goto (tgt := 44) hx hb dX0_findBestOrder_108 (by decide) ?_
                        exact ih44 (y + 1) (pvt (sq (idr oR nn) nn y) (nn - 1)) (nxT (sq (idr oR nn) nn y) nn) wbegins58 wends58 (va_up wleastMakespans44 v ((gsq v mm tT (idr oR nn) nn y))) (va_up (va_up wleastCounts44 v 0) v 1) (va_cpy (sq (idr oR nn) nn y) wbestJobs44 0 (7 * v) nn) ((y : Int) + 1) (((pvt (sq (idr oR nn) nn y) (nn - 1) : Nat) : Int) - 1) (by omega) (fun q => by rw [hp2]; exact hE.1 y q) (fun q => by rw [hp2, show y = fac nn - 1 by omega]; exact hE.2) (by omega) (rows_cg (rows_le hI2 (by omega)) (fun k hk => (nxT_lo (by omega)).symm)) (by first | exact hMv | (unfold va_up; rw [if_pos rfl]; omega)) (hBS2) (rfl) (by omega) (by omega) (by omega) _ _ hP hD hS ls (lv_sub hl [0, 1, 3, 4] rfl)
                      · refine w_iVv (As := [.int (iI ((v : Int))), .int (iI ((gsq v mm tT (idr oR nn) nn y)))]) (rest := []) (wf := fun u : Unit => xw ad cI cZ nn mm tT wbegins58 wends58 tL oO (sq (idr oR nn) nn y) oQ zS wleastMakespans44 ((if ((gsq v mm tT (idr oR nn) nn y)) = wleastMakespans44 v then va_up wleastCounts44 v (wleastCounts44 v + 1) else wleastCounts44)) wbestJobs44) (wr := []) ⟨hx, hb, hml, hown, hts⟩ hK hP hD hS hA (mX0_countTrial_B  hn hv q3 (by omega) (by omega) hC) (cwV 2 hts gX0_findBestOrder_X0_countTrial rfl rfl rfl (by decide +kernel) ⟨Nat.le_of_ble_eq_true rfl, Nat.le_of_ble_eq_true rfl⟩) [0, 1, 2, 3, 4, 5, 6, 7, 8, 9, 10, 11] [] [0, 1, 2, 3, 4, 5, 6, 7, 8, 9, 10, 11] rfl rfl (by decide) (by decide) (by decide) (hwf := fun _ => rfl) (by decide) (ci := 0) rfl rfl rfl rfl hl.1 rfl (Nat.le_of_ble_eq_true rfl) dX0_findBestOrder_97 ⟨Nat.zero_le _, Nat.zero_le _⟩ (fun u H locs hr97 hP hD hS => ?_)
                        have hBS2 := BS_B hBS hC
                        refine lv_aload_n hx hb dX0_findBestOrder_100 rfl (lv_at hl 3 rfl) ?_
                        have hp1 := pvt_le (sq (idr oR nn) nn y) (nn - 1)
                        have hp2 := sq_pvt (r := idr oR nn) (nn := nn) (i := y) idr_id
                        refine w_iV (As := []) (rest := []) (wf := fun u : Unit => xw ad cI cZ nn mm tT wbegins58 wends58 tL oO (nxT (sq (idr oR nn) nn y) nn) oQ zS wleastMakespans44 ((if ((gsq v mm tT (idr oR nn) nn y)) = wleastMakespans44 v then va_up wleastCounts44 v (wleastCounts44 v + 1) else wleastCounts44)) wbestJobs44) (wr := []) ⟨hx, hb, hml, hown, hts⟩ hK hP hD hS hA (mX0_stepTrial  hn (hr9 y)) (cwV 0 hts gX0_findBestOrder_X0_stepTrial rfl rfl rfl (by decide +kernel) ⟨Nat.le_of_ble_eq_true rfl, Nat.le_of_ble_eq_true rfl⟩) [0, 1, 2, 3, 4, 5, 6, 7, 8, 9, 10, 11] [] [0, 1, 2, 3, 4, 5, 6, 7, 8, 9, 10, 11] rfl rfl (by decide) (by decide) (by decide) (hwf := fun _ => rfl) (by decide) (ci := 0) rfl rfl rfl rfl hl.1 rfl (Nat.le_of_ble_eq_true rfl) dX0_findBestOrder_101 ⟨Nat.zero_le _, Nat.zero_le _⟩ (fun r101 u H locs hr101 hP hD hS => ?_)
                        refine w_top (v := iI (((pvt (sq (idr oR nn) nn y) (nn - 1) : Nat) : Int) - 1)) (hr101) ?_
                        refine lv_istore_n (lv' := [(2, .int (iI (((pvt (sq (idr oR nn) nn y) (nn - 1) : Nat) : Int) - 1))), (4, .int (iI ((nn : Int)))), (3, .int (iI ((y : Int)))), (0, .ref (ad 0)), (1, .int (iI ((v : Int))))]) hx hb dX0_findBestOrder_104 rfl hl (by decide) rfl (fun ls hl => ?_)
                        refine lv_iinc (v := iI ((y : Int) + 1)) (lv' := [(3, .int (iI ((y : Int) + 1))), (2, .int (iI (((pvt (sq (idr oR nn) nn y) (nn - 1) : Nat) : Int) - 1))), (4, .int (iI ((nn : Int)))), (0, .ref (ad 0)), (1, .int (iI ((v : Int))))]) hx hb dX0_findBestOrder_105 hl (k := 2) rfl (iI_inc (by omega)) (by decide) rfl (fun ls hl => ?_)
                        refine lv_goto (tgt := 44) hx hb dX0_findBestOrder_108 (by decide) ?_
                        exact ih44 (y + 1) (pvt (sq (idr oR nn) nn y) (nn - 1)) (nxT (sq (idr oR nn) nn y) nn) wbegins58 wends58 wleastMakespans44 ((if ((gsq v mm tT (idr oR nn) nn y)) = wleastMakespans44 v then va_up wleastCounts44 v (wleastCounts44 v + 1) else wleastCounts44)) wbestJobs44 ((y : Int) + 1) (((pvt (sq (idr oR nn) nn y) (nn - 1) : Nat) : Int) - 1) (by omega) (fun q => by rw [hp2]; exact hE.1 y q) (fun q => by rw [hp2, show y = fac nn - 1 by omega]; exact hE.2) (by omega) (rows_cg (rows_le hI2 (by omega)) (fun k hk => (nxT_lo (by omega)).symm)) (by first | exact hMv | (unfold va_up; rw [if_pos rfl]; omega)) (hBS2) (rfl) (by omega) (by omega) (by omega) _ _ hP hD hS ls (lv_sub hl [0, 1, 3, 4] rfl)
                    · refine lv_aload_n hx hb dX0_findBestOrder_67 rfl (lv_at hl 3 rfl) ?_
                      refine lv_iload_n hx hb dX0_findBestOrder_68 rfl (lv_at hl 4 rfl) ?_
                      refine lv_iload hx hb dX0_findBestOrder_69 (lv_at hl 0 rfl) ?_
                      refine lv_aload_n hx hb dX0_findBestOrder_71 rfl (lv_at hl 3 rfl) ?_
                      refine va_get (D := D) (ci := 0) (C := RX0) (T := TX0) (N := 13) hx hb hts inW hown hK hP 0 rfl rfl 7 (by decide) (hts (.fieldLink RX0 32 "Flowforge" "trial" "[I") (List.mem_of_getElem? (i := 4) rfl)) (fun _ h9 => h9) rfl dX0_findBestOrder_72 ?_
                      refine lv_iload hx hb dX0_findBestOrder_75 (lv_at hl 0 rfl) ?_
                      refine w_iald (v := iI (((sq (idr oR nn) nn y) pl : Nat) : Int)) hx hb hK hP 6 0 rfl rfl (pl) (by omega) (by omega) (by decide) rfl dX0_findBestOrder_77 ?_
                      refine w_iVv (As := [.int (iI ((v : Int))), .int (iI ((pl : Int))), .int (iI ((((((sq (idr oR nn) nn y) pl)) : Nat) : Int)))]) (rest := []) (wf := fun u : Unit => xw ad cI cZ nn mm tT (pt wbegins58 (sjB v mm tT pl (((sq (idr oR nn) nn y) pl)) wbegins58 wends58) (5 * pl) mm) (pt wends58 (sjE v mm tT pl (((sq (idr oR nn) nn y) pl)) wbegins58 wends58) (5 * pl) mm) tL oO (sq (idr oR nn) nn y) oQ zS wleastMakespans44 wleastCounts44 wbestJobs44) (wr := []) ⟨hx, hb, hml, hown, hts⟩ hK hP hD hS hA (mX0_scheduleJob  hT hm hv (by omega) (hr9 y _ (by omega)) (rows_rg hm.2 hT (by omega) hI2)) (cwV 3 hts gX0_findBestOrder_X0_scheduleJob rfl rfl rfl (by decide +kernel) ⟨Nat.le_of_ble_eq_true rfl, Nat.le_of_ble_eq_true rfl⟩) [0, 1, 2, 3, 4, 5, 6, 7, 8, 9, 10, 11] [] [0, 1, 2, 3, 4, 5, 6, 7, 8, 9, 10, 11] rfl rfl (by decide) (by decide) (by decide) (hwf := fun _ => rfl) (by decide) (ci := 0) rfl rfl rfl rfl hl.1 (by rw [show (((((sq (idr oR nn) nn y) pl : Nat) : Int)) : Int) = (((((sq (idr oR nn) nn y) pl)) : Nat) : Int) by omega]; try rfl) (Nat.le_of_ble_eq_true rfl) dX0_findBestOrder_78 ⟨Nat.zero_le _, Nat.zero_le _⟩ (fun u H locs hr78 hP hD hS => ?_)
                      refine lv_iinc (v := iI ((pl : Int) + 1)) (lv' := [(4, .int (iI ((pl : Int) + 1))), (3, .int (iI ((y : Int)))), (2, .int (iI ((cc : Int) - 1))), (0, .ref (ad 0)), (1, .int (iI ((v : Int))))]) hx hb dX0_findBestOrder_81 hl (k := 0) rfl (iI_inc (by omega)) (by decide) rfl (fun ls hl => ?_)
                      refine lv_goto (tgt := 58) hx hb dX0_findBestOrder_84 (by decide) ?_
                      exact ih58 (pl + 1) (pt wbegins58 (sjB v mm tT pl (((sq (idr oR nn) nn y) pl)) wbegins58 wends58) (5 * pl) mm) (pt wends58 (sjE v mm tT pl (((sq (idr oR nn) nn y) pl)) wbegins58 wends58) (5 * pl) mm) ((pl : Int) + 1) (by omega) (rows_s hm.2 hI2) (by omega) (by omega) _ _ hP hD hS ls (lv_sub hl [0, 1, 2, 3, 4] rfl)
                exact L58 (nn - (cc - 1) + 1) (cc - 1) wbegins44 wends44 ((cc : Int) - 1) (by omega) (hI) (by omega) (Nat.lt_succ_self _) _ _ hP hD hS ls (lv_sub hl [0, 1, 2, 3, 4] rfl)
        exact L44 (fac nn - 0 + 1) 0 1 (idr oR nn) tB tE zM (va_up zN v 0) oJ (0) (0) (by omega) (by omega) (by omega) (by omega) (rows_0) (hMb v hv) (BS_0) (rfl) (by omega) (by omega) (Nat.lt_succ_self _) _ _ hP hD hS ls (lv_sub hl [0, 1, 2, 3] rfl)
      · refine lv_aload_n hx hb dX0_findBestOrder_27 rfl (lv_at hl 1 rfl) ?_
        refine va_get (D := D) (ci := 0) (C := RX0) (T := TX0) (N := 13) hx hb hts inW hown hK hP 0 rfl rfl 7 (by decide) (hts (.fieldLink RX0 32 "Flowforge" "trial" "[I") (List.mem_of_getElem? (i := 4) rfl)) (fun _ h9 => h9) rfl dX0_findBestOrder_28 ?_
        refine lv_iload_n hx hb dX0_findBestOrder_31 rfl (lv_at hl 0 rfl) ?_
        refine lv_iload_n hx hb dX0_findBestOrder_32 rfl (lv_at hl 0 rfl) ?_
        refine w_iast (g := jI (va_up (idr oR i) i i)) (ws' := xw ad cI cZ nn mm tT tB tE tL oO (va_up (idr oR i) i i) oQ zS zM (va_up zN v 0) oJ) hx hb hK hP hD hS 6 0 rfl rfl (i) (by omega) (by omega) (by decide) (hg := jI_up) (hw := rfl) (hd := dX0_findBestOrder_33) (kk := fun H locs hP hD hS => ?_)
        refine lv_iinc (v := iI ((i : Int) + 1)) (lv' := [(2, .int (iI ((i : Int) + 1))), (0, .ref (ad 0)), (1, .int (iI ((v : Int))))]) hx hb dX0_findBestOrder_34 hl (k := 0) rfl (iI_inc (by omega)) (by decide) rfl (fun ls hl => ?_)
        refine lv_goto (tgt := 19) hx hb dX0_findBestOrder_37 (by decide) ?_
        exact ih19 (i + 1) (va_up (idr oR i) i i) ((i : Int) + 1) (by omega) (idr_s) (by omega) (by omega) _ _ hP hD hS ls (lv_sub hl [0, 1, 2] rfl)
  exact L19 (nn - 0 + 1) 0 oR (0) (by omega) ((idr_0 _).symm) (by omega) (Nat.lt_succ_self _) _ _ hP hD hS ls (lv_sub hl [0, 1, 2] rfl)
set_option maxHeartbeats 4000000 in
set_option maxRecDepth 100000 in
theorem mX0_findBestOrder_A {v : Nat} (hv : v ≤ 2) (hS1 : zS v = 1) (hCV : CV v mm tT nn zM zN oJ) (hCK : CK mm tT nn zS zM zN oJ) (hMb : ∀ k, k ≤ 2 → 0 ≤ zM k ∧ zM k ≤ 1000000) : IM l yX0_findBestOrder wsX0_findBestOrder (rmx 4 95) D (tyk cI cZ cJ) (xw ad cI cZ nn mm tT tB tE tL oO oR oQ zS zM zN oJ) [.ref (ad 0), .int (iI ((v : Int)))] (QV D (tyk cI cZ cJ) (fun u : (Nat → Int) × (Nat → Int) × (Nat → Nat) × (Nat → Int) × (Nat → Int) × (Nat → Nat) × (Nat → Int) => xw ad cI cZ nn mm tT u.1 u.2.1 tL oO u.2.2.1 oQ u.2.2.2.2.2.2 u.2.2.2.1 u.2.2.2.2.1 u.2.2.2.2.2.1) (fun u => CK mm tT nn u.2.2.2.2.2.2 u.2.2.2.1 u.2.2.2.2.1 u.2.2.2.2.2.1 ∧ CV v mm tT nn u.2.2.2.1 u.2.2.2.2.1 u.2.2.2.2.2.1 ∧ ∀ k, k ≤ 2 → 0 ≤ u.2.2.2.1 k ∧ u.2.2.2.1 k ≤ 1000000)) := by
  refine imV_of (cc := cX0_findBestOrder) (maxL := 5) (by decide) rfl (Nat.le_of_ble_eq_true rfl) ?_
  intro p e s m args below meth c A Q hx hb hml hown hts hA hK hP hD hS hret ls hl
  have hown : s.vm.findClass RX0 = some m.cls := hown
  have hl : lv_has ls 5 [(0, .ref (ad 0)), (1, .int (iI ((v : Int))))] := hl
  have inW : ∀ w ∈ wsX00, w ∈ wsX0_findBestOrder := by first | exact (fun w h => List.mem_cons_of_mem _ (List.mem_append_right _ h)) | exact (fun w h => List.mem_cons_of_mem _ (List.mem_append_left _ (List.mem_append_right _ h))) | exact (fun w h => List.mem_cons_of_mem _ (List.mem_append_left _ (List.mem_append_left _ (List.mem_append_right _ h)))) | decide +kernel
  refine lv_aload_n hx hb dX0_findBestOrder_0 rfl (lv_at hl 0 rfl) ?_
  refine va_get (D := D) (ci := 0) (C := RX0) (T := TX0) (N := 13) hx hb hts inW hown hK hP 0 rfl rfl 9 (by decide) (hts (.fieldLink RX0 38 "Flowforge" "solved" "[Z") (List.mem_of_getElem? (i := 1) rfl)) (fun _ h9 => h9) rfl dX0_findBestOrder_1 ?_
  refine lv_iload_n hx hb dX0_findBestOrder_4 rfl (lv_at hl 1 rfl) ?_
  refine w_zald (v := iI (zS v)) hx hb hK hP 8 1 rfl rfl (v) (by omega) (by omega) (by decide) rfl dX0_findBestOrder_5 ?_
  refine w_if_eq (tgt := 10) hx hb dX0_findBestOrder_6 (by decide) ⟨by omega, by omega⟩ (fun c6 => absurd c6 (by omega)) (fun c6 => ?_)
  exact hret _ _ 9 ls ((tB, tE, oR, zM, zN, oJ, zS)) hP hD hS (⟨hCK, hCV, hMb⟩) dX0_findBestOrder_9
set_option maxRecDepth 100000 in
theorem mX0_findBestOrder {v : Nat} (hT : ∀ k, 0 ≤ tT k ∧ tT k ≤ 99) (hn : nn ≤ 7) (hm : 1 ≤ mm ∧ mm ≤ 5) (hv : v ≤ 2) (hE : Enu nn) (hCK : CK mm tT nn zS zM zN oJ) (hMb : ∀ k, k ≤ 2 → 0 ≤ zM k ∧ zM k ≤ 1000000) : IM l yX0_findBestOrder wsX0_findBestOrder (rmx 4 95) D (tyk cI cZ cJ) (xw ad cI cZ nn mm tT tB tE tL oO oR oQ zS zM zN oJ) [.ref (ad 0), .int (iI ((v : Int)))] (QV D (tyk cI cZ cJ) (fun u : (Nat → Int) × (Nat → Int) × (Nat → Nat) × (Nat → Int) × (Nat → Int) × (Nat → Nat) × (Nat → Int) => xw ad cI cZ nn mm tT u.1 u.2.1 tL oO u.2.2.1 oQ u.2.2.2.2.2.2 u.2.2.2.1 u.2.2.2.2.1 u.2.2.2.2.2.1) (fun u => CK mm tT nn u.2.2.2.2.2.2 u.2.2.2.1 u.2.2.2.2.1 u.2.2.2.2.2.1 ∧ CV v mm tT nn u.2.2.2.1 u.2.2.2.2.1 u.2.2.2.2.2.1 ∧ ∀ k, k ≤ 2 → 0 ≤ u.2.2.2.1 k ∧ u.2.2.2.1 k ≤ 1000000)) := by
  rcases hCK v hv with h | h
  · exact mX0_findBestOrder_B hT hn hm hv hE h hCK hMb
  · exact mX0_findBestOrder_A hv h.1 h.2 hCK hMb
end
end
section
/-! the quotient of two whole numbers is no NaN -/
theorem gp_mask (r : UInt64) : (r &&& 0x7fffffffffffffff).toNat = r.toNat % 2 ^ 63 := by
  rw [UInt64.toNat_and]
  exact Nat.and_two_pow_sub_one_eq_mod r.toNat 63
theorem gp_nan {x y : Int32} (h : y ≠ 0) : vf_n64 (FP.ddiv (FP.i2d x) (FP.i2d y)) := by
  have h1 := FP.Core.i2d_mag x
  have h2 := (FP.Core.i2d_big (FP.Core.int32_ne h)).1
  have h3 := FP.Core.ddiv_mag (a := FP.i2d x) (b := FP.i2d y) (K := 1056) (L := 1023) h1 h2 (FP.Core.i2d_big (FP.Core.int32_ne h)).2 (by decide) (by decide)
  show _ ≤ _
  rw [UInt64.le_iff_toNat_le, gp_mask]
  show _ ≤ 9218868437227405312
  have h4 : (FP.ddiv (FP.i2d x) (FP.i2d y)).toNat % 2 ^ 63 < (1056 + (1074 - 52 - 1) - 1023 + 3) * 2 ^ 52 := h3
  omega
/-- the gap: own and least makespan -/
def gapD (o b : Int) : UInt64 := if b = 0 then FP.dconst0 else FP.ddiv (FP.i2d (iI (o - b))) (FP.i2d (iI b))
end
section
/-! what the calls of the face answer -/
def idlV (v mm : Nat) (t : Nat → Int) (o : Nat → Nat) (nn k : Nat) : Int := if nn = 0 then 0 else (row v mm t o nn).2 k - (row v mm t o 1).1 k - ldC t k nn
def crtV (mm : Nat) (t : Nat → Int) (o : Nat → Nat) (nn q k : Nat) : Int := if (row 0 mm t o (q + 1)).2 k + tlr t o nn mm (nn - q) k - t (5 * o q + k) = mk 0 mm t o nn then 1 else 0
def insO (t : Nat → Int) (mm nn : Nat) (o q : Nat → Nat) : Nat → Nat := ini t mm o (srt (bqs t mm) q nn) nn
def impO (t : Nat → Int) (mm nn : Nat) (o : Nat → Nat) : Nat → Nat := if (imS t mm o nn nn).1 < mk 0 mm t o nn then shf o (imS t mm o nn nn).2.1 (imS t mm o nn nn).2.2 else o
theorem crt_t {a b : Int} (h : a = b) : iI 1 = iI (if a = b then 1 else 0) := by rw [if_pos h]
theorem crt_f {a b : Int} (h : a ≠ b) : iI 0 = iI (if a = b then 1 else 0) := by rw [if_neg h]
end
section
section
variable {l : Launch} {D : va_G} {cI cZ cJ : ClassId} {ad bd : Nat → Nat} {a0 : Nat} {ws : va_W} {nn mm : Nat} {th bm : Int} {tT tB tE tL : Nat → Int} {oO oR oQ : Nat → Nat} {zS zM zN : Nat → Int} {oJ fF : Nat → Nat}
set_option maxHeartbeats 4000000 in
set_option maxRecDepth 100000 in
theorem mX0_addJob (h7 : nn < 7) : IM l yX0_addJob wsX0_addJob (rmx 1 21) D (tyk cI cZ cJ) (xw ad cI cZ nn mm tT tB tE tL oO oR oQ zS zM zN oJ) [.ref (ad 0)] (QI D (tyk cI cZ cJ) (fun u : Unit => xw ad cI cZ (nn + 1) mm tT tB tE tL (va_up oO nn nn) oR oQ (zfl zS 3) zM zN oJ) (fun x _ => x = iI (nn : Int))) := by
  refine imI_of (cc := cX0_addJob) (maxL := 2) (by decide) rfl (Nat.le_of_ble_eq_true rfl) ?_
  intro p e s m args below meth c A Q hx hb hml hown hts hA hK hP hD hS hret ls hl
  have hown : s.vm.findClass RX0 = some m.cls := hown
  have hl : lv_has ls 2 [(0, .ref (ad 0))] := hl
  have inW : ∀ w ∈ wsX00, w ∈ wsX0_addJob := by first | exact (fun w h => List.mem_cons_of_mem _ (List.mem_append_right _ h)) | exact (fun w h => List.mem_cons_of_mem _ (List.mem_append_left _ (List.mem_append_right _ h))) | exact (fun w h => List.mem_cons_of_mem _ (List.mem_append_left _ (List.mem_append_left _ (List.mem_append_right _ h)))) | decide +kernel
  refine lv_aload_n hx hb dX0_addJob_0 rfl (lv_at hl 0 rfl) ?_
  refine va_get (D := D) (ci := 0) (C := RX0) (T := TX0) (N := 13) hx hb hts inW hown hK hP 0 rfl rfl 0 (by decide) (hts (.fieldLink RX0 7 "Flowforge" "jobCount" "I") (List.mem_of_getElem? (i := 3) rfl)) (fun _ h9 => h9) rfl dX0_addJob_1 ?_
  refine lv_bipush (v := iI 7) hx hb dX0_addJob_4 (by decide) ?_
  refine w_icmp_lt (tgt := 19) hx hb dX0_addJob_6 (by decide) ⟨by omega, by omega⟩ ⟨by omega, by omega⟩ (fun c6 => ?_) (fun c6 => absurd c6 (by omega))
  refine lv_aload_n hx hb dX0_addJob_19 rfl (lv_at hl 0 rfl) ?_
  refine va_get (D := D) (ci := 0) (C := RX0) (T := TX0) (N := 13) hx hb hts inW hown hK hP 0 rfl rfl 0 (by decide) (hts (.fieldLink RX0 7 "Flowforge" "jobCount" "I") (List.mem_of_getElem? (i := 3) rfl)) (fun _ h9 => h9) rfl dX0_addJob_20 ?_
  refine lv_istore_n (lv' := [(1, .int (iI ((nn : Int)))), (0, .ref (ad 0))]) hx hb dX0_addJob_23 rfl hl (by decide) rfl (fun ls hl => ?_)
  refine lv_aload_n hx hb dX0_addJob_24 rfl (lv_at hl 1 rfl) ?_
  refine va_get (D := D) (ci := 0) (C := RX0) (T := TX0) (N := 13) hx hb hts inW hown hK hP 0 rfl rfl 6 (by decide) (hts (.fieldLink RX0 29 "Flowforge" "order" "[I") (List.mem_of_getElem? (i := 4) rfl)) (fun _ h9 => h9) rfl dX0_addJob_25 ?_
  refine lv_iload_n hx hb dX0_addJob_28 rfl (lv_at hl 0 rfl) ?_
  refine lv_iload_n hx hb dX0_addJob_29 rfl (lv_at hl 0 rfl) ?_
  refine w_iast (g := jI (va_up oO nn nn)) (ws' := xw ad cI cZ nn mm tT tB tE tL (va_up oO nn nn) oR oQ zS zM zN oJ) hx hb hK hP hD hS 5 0 rfl rfl (nn) (by omega) (by omega) (by decide) (hg := jI_up) (hw := rfl) (hd := dX0_addJob_30) (kk := fun H locs hP hD hS => ?_)
  refine lv_aload_n hx hb dX0_addJob_31 rfl (lv_at hl 1 rfl) ?_
  refine lv_iload_n hx hb dX0_addJob_32 rfl (lv_at hl 0 rfl) ?_
  refine lv_iconst (v := iI 1) hx hb dX0_addJob_33 rfl ?_
  refine w_iadd (z := (nn : Int) + 1) hx hb dX0_addJob_34 (by omega) ?_
  refine w_top (v := iI (((nn + 1 : Nat) : Int))) (congrArg iI (by omega)) ?_
  refine va_put (D := D) (ci := 0) (ty := .int) (C := RX0) (T := TX0) (N := 13) hx hb hts inW tyX0 tyX0_ok nmX0 hown hK hP hD hS 0 rfl rfl 0 (by decide) (hts (.fieldLink RX0 7 "Flowforge" "jobCount" "I") (List.mem_of_getElem? (i := 3) rfl)) (fun _ h9 => h9) rfl (by decide +kernel) rfl rfl (Nat.le_of_ble_eq_true rfl) dX0_addJob_35 (fun H locs hP hD hS => ?_)
  have hP : va_P D vwCl (xw ad cI cZ (nn + 1) mm tT tB tE tL (va_up oO nn nn) oR oQ zS zM zN oJ) H := hP
  have hD : va_D A (xw ad cI cZ (nn + 1) mm tT tB tE tL (va_up oO nn nn) oR oQ zS zM zN oJ) := hD
  refine lv_aload_n hx hb dX0_addJob_38 rfl (lv_at hl 1 rfl) ?_
  refine w_iVv (As := []) (rest := []) (wf := fun u : Unit => xw ad cI cZ (nn + 1) mm tT tB tE tL (va_up oO nn nn) oR oQ (zfl zS 3) zM zN oJ) (wr := []) ⟨hx, hb, hml, hown, hts⟩ hK hP hD hS hA (mX0_forgetBestOrders  ) (cwV 0 hts gX0_addJob_X0_forgetBestOrders rfl rfl rfl (by decide +kernel) ⟨Nat.le_of_ble_eq_true rfl, Nat.le_of_ble_eq_true rfl⟩) [0, 1, 2, 3, 4, 5, 6, 7, 8, 9, 10, 11] [] [0, 1, 2, 3, 4, 5, 6, 7, 8, 9, 10, 11] rfl rfl (by decide) (by decide) (by decide) (hwf := fun _ => rfl) (by decide) (ci := 0) rfl rfl rfl rfl hl.1 rfl (Nat.le_of_ble_eq_true rfl) dX0_addJob_39 ⟨Nat.zero_le _, Nat.zero_le _⟩ (fun u H locs hr39 hP hD hS => ?_)
  refine lv_iload_n hx hb dX0_addJob_42 rfl (lv_at hl 0 rfl) ?_
  exact hret _ _ 43 ls _ (()) hP hD hS (rfl) dX0_addJob_43
set_option maxHeartbeats 4000000 in
set_option maxRecDepth 100000 in
theorem mX0_setMachines {w : Nat} (hn : nn ≤ 7) (hm : 1 ≤ mm ∧ mm ≤ 5) (hw : 1 ≤ w ∧ w ≤ 5) : IM l yX0_setMachines wsX0_setMachines (rmx 1 21) D (tyk cI cZ cJ) (xw ad cI cZ nn mm tT tB tE tL oO oR oQ zS zM zN oJ) [.ref (ad 0), .int (iI ((w : Int)))] (QI D (tyk cI cZ cJ) (fun u : Unit => xw ad cI cZ nn w (tzr tT w nn 0) tB tE tL oO oR oQ (zfl zS 3) zM zN oJ) (fun x _ => x = iI (mm : Int))) := by
  refine imI_of (cc := cX0_setMachines) (maxL := 5) (by decide) rfl (Nat.le_of_ble_eq_true rfl) ?_
  intro p e s m args below meth c A Q hx hb hml hown hts hA hK hP hD hS hret ls hl
  have hown : s.vm.findClass RX0 = some m.cls := hown
  have hl : lv_has ls 5 [(0, .ref (ad 0)), (1, .int (iI ((w : Int))))] := hl
  have inW : ∀ w ∈ wsX00, w ∈ wsX0_setMachines := by first | exact (fun w h => List.mem_cons_of_mem _ (List.mem_append_right _ h)) | exact (fun w h => List.mem_cons_of_mem _ (List.mem_append_left _ (List.mem_append_right _ h))) | exact (fun w h => List.mem_cons_of_mem _ (List.mem_append_left _ (List.mem_append_left _ (List.mem_append_right _ h)))) | decide +kernel
  refine lv_iload_n hx hb dX0_setMachines_0 rfl (lv_at hl 1 rfl) ?_
  refine lv_iconst (v := iI 1) hx hb dX0_setMachines_1 rfl ?_
  refine w_icmp_lt (tgt := 10) hx hb dX0_setMachines_2 (by decide) ⟨by omega, by omega⟩ ⟨by omega, by omega⟩ (fun c2 => absurd c2 (by omega)) (fun c2 => ?_)
  refine lv_iload_n hx hb dX0_setMachines_5 rfl (lv_at hl 1 rfl) ?_
  refine lv_iconst (v := iI 5) hx hb dX0_setMachines_6 rfl ?_
  refine w_icmp_le (tgt := 20) hx hb dX0_setMachines_7 (by decide) ⟨by omega, by omega⟩ ⟨by omega, by omega⟩ (fun c7 => ?_) (fun c7 => absurd c7 (by omega))
  refine lv_aload_n hx hb dX0_setMachines_20 rfl (lv_at hl 0 rfl) ?_
  refine va_get (D := D) (ci := 0) (C := RX0) (T := TX0) (N := 13) hx hb hts inW hown hK hP 0 rfl rfl 1 (by decide) (hts (.fieldLink RX0 13 "Flowforge" "machineCount" "I") (List.mem_of_getElem? (i := 3) rfl)) (fun _ h9 => h9) rfl dX0_setMachines_21 ?_
  refine lv_istore_n (lv' := [(2, .int (iI ((mm : Int)))), (0, .ref (ad 0)), (1, .int (iI ((w : Int))))]) hx hb dX0_setMachines_24 rfl hl (by decide) rfl (fun ls hl => ?_)
  refine lv_iconst (v := iI 0) hx hb dX0_setMachines_25 rfl ?_
  refine lv_istore_n (lv' := [(3, .int (iI 0)), (2, .int (iI ((mm : Int)))), (0, .ref (ad 0)), (1, .int (iI ((w : Int))))]) hx hb dX0_setMachines_26 rfl hl (by decide) rfl (fun ls hl => ?_)
  have L27 : ∀ (fu : Nat) (i : Nat) (wtimes27 : Nat → Int) (x3_27 : Int), (i ≤ nn) → (wtimes27 = tzr tT w i 0) → (x3_27 = (i : Int)) → nn - i < fu → ∀ (H : Heap) (locs : List Loc), va_P D vwCl (xw ad cI cZ nn mm wtimes27 tB tE tL oO oR oQ zS zM zN oJ) H → va_D A (xw ad cI cZ nn mm wtimes27 tB tE tL oO oR oQ zS zM zN oJ) → va_S A s.heap H locs → ∀ ls : Array Slot, lv_has ls 5 [(3, .int (iI (x3_27))), (2, .int (iI ((mm : Int)))), (0, .ref (ad 0)), (1, .int (iI ((w : Int))))] → W p l e (rmx 1 21) s m args below meth c H locs 0 0 Q (F0 m 27 ls []) := by
    intro fu
    induction fu with
    | zero =>
      intro i wtimes27 x3_27 hi hq0 hq1 hfu
      exact absurd hfu (Nat.not_lt_zero _)
    | succ fu ih =>
      intro i wtimes27 x3_27 hi hq0 hq1 hfu H locs hP hD hS ls hl
      subst hq0
      subst hq1
      have ih27 := ih
      refine lv_iload_n hx hb dX0_setMachines_27 rfl (lv_at hl 0 rfl) ?_
      refine lv_aload_n hx hb dX0_setMachines_28 rfl (lv_at hl 2 rfl) ?_
      refine va_get (D := D) (ci := 0) (C := RX0) (T := TX0) (N := 13) hx hb hts inW hown hK hP 0 rfl rfl 0 (by decide) (hts (.fieldLink RX0 7 "Flowforge" "jobCount" "I") (List.mem_of_getElem? (i := 4) rfl)) (fun _ h9 => h9) rfl dX0_setMachines_29 ?_
      refine w_icmp_ge (tgt := 68) hx hb dX0_setMachines_32 (by decide) ⟨by omega, by omega⟩ ⟨by omega, by omega⟩ (fun c32 => ?_) (fun c32 => ?_)
      · obtain rfl : nn = i := by omega
        refine lv_aload_n hx hb dX0_setMachines_68 rfl (lv_at hl 2 rfl) ?_
        refine lv_iload_n hx hb dX0_setMachines_69 rfl (lv_at hl 3 rfl) ?_
        refine va_put (D := D) (ci := 0) (ty := .int) (C := RX0) (T := TX0) (N := 13) hx hb hts inW tyX0 tyX0_ok nmX0 hown hK hP hD hS 0 rfl rfl 1 (by decide) (hts (.fieldLink RX0 13 "Flowforge" "machineCount" "I") (List.mem_of_getElem? (i := 3) rfl)) (fun _ h9 => h9) rfl (by decide +kernel) rfl rfl (Nat.le_of_ble_eq_true rfl) dX0_setMachines_70 (fun H locs hP hD hS => ?_)
        have hP : va_P D vwCl (xw ad cI cZ nn w (tzr tT w nn 0) tB tE tL oO oR oQ zS zM zN oJ) H := hP
        have hD : va_D A (xw ad cI cZ nn w (tzr tT w nn 0) tB tE tL oO oR oQ zS zM zN oJ) := hD
        refine lv_aload_n hx hb dX0_setMachines_73 rfl (lv_at hl 2 rfl) ?_
        refine w_iVv (As := []) (rest := []) (wf := fun u : Unit => xw ad cI cZ nn w (tzr tT w nn 0) tB tE tL oO oR oQ (zfl zS 3) zM zN oJ) (wr := []) ⟨hx, hb, hml, hown, hts⟩ hK hP hD hS hA (mX0_forgetBestOrders  ) (cwV 0 hts gX0_setMachines_X0_forgetBestOrders rfl rfl rfl (by decide +kernel) ⟨Nat.le_of_ble_eq_true rfl, Nat.le_of_ble_eq_true rfl⟩) [0, 1, 2, 3, 4, 5, 6, 7, 8, 9, 10, 11] [] [0, 1, 2, 3, 4, 5, 6, 7, 8, 9, 10, 11] rfl rfl (by decide) (by decide) (by decide) (hwf := fun _ => rfl) (by decide) (ci := 0) rfl rfl rfl rfl hl.1 rfl (Nat.le_of_ble_eq_true rfl) dX0_setMachines_74 ⟨Nat.zero_le _, Nat.zero_le _⟩ (fun u H locs hr74 hP hD hS => ?_)
        refine lv_iload_n hx hb dX0_setMachines_77 rfl (lv_at hl 1 rfl) ?_
        exact hret _ _ 78 ls _ (()) hP hD hS (rfl) dX0_setMachines_78
      · refine lv_iload_n hx hb dX0_setMachines_35 rfl (lv_at hl 3 rfl) ?_
        refine lv_istore (lv' := [(4, .int (iI ((w : Int)))), (3, .int (iI ((i : Int)))), (2, .int (iI ((mm : Int)))), (0, .ref (ad 0)), (1, .int (iI ((w : Int))))]) hx hb dX0_setMachines_36 hl (by decide) rfl (fun ls hl => ?_)
        have L38 : ∀ (fu : Nat) (c0 : Nat) (wtimes38 : Nat → Int) (x4_38 : Int), (c0 ≤ 5 - w) → (wtimes38 = tzr tT w i c0) → (x4_38 = (w : Int) + (c0 : Int)) → 5 - w - c0 < fu → ∀ (H : Heap) (locs : List Loc), va_P D vwCl (xw ad cI cZ nn mm wtimes38 tB tE tL oO oR oQ zS zM zN oJ) H → va_D A (xw ad cI cZ nn mm wtimes38 tB tE tL oO oR oQ zS zM zN oJ) → va_S A s.heap H locs → ∀ ls : Array Slot, lv_has ls 5 [(4, .int (iI (x4_38))), (3, .int (iI ((i : Int)))), (2, .int (iI ((mm : Int)))), (0, .ref (ad 0)), (1, .int (iI ((w : Int))))] → W p l e (rmx 1 21) s m args below meth c H locs 0 0 Q (F0 m 38 ls []) := by
          intro fu
          induction fu with
          | zero =>
            intro c0 wtimes38 x4_38 hc hq0 hq1 hfu
            exact absurd hfu (Nat.not_lt_zero _)
          | succ fu ih =>
            intro c0 wtimes38 x4_38 hc hq0 hq1 hfu H locs hP hD hS ls hl
            subst hq0
            subst hq1
            have ih38 := ih
            refine lv_iload hx hb dX0_setMachines_38 (lv_at hl 0 rfl) ?_
            refine lv_iconst (v := iI 5) hx hb dX0_setMachines_40 rfl ?_
            refine w_icmp_ge (tgt := 62) hx hb dX0_setMachines_41 (by decide) ⟨by omega, by omega⟩ ⟨by omega, by omega⟩ (fun c41 => ?_) (fun c41 => ?_)
            · obtain rfl : c0 = 5 - w := by omega
              refine lv_iinc (v := iI ((i : Int) + 1)) (lv' := [(3, .int (iI ((i : Int) + 1))), (4, .int (iI ((w : Int) + (((5 - w) : Nat) : Int)))), (2, .int (iI ((mm : Int)))), (0, .ref (ad 0)), (1, .int (iI ((w : Int))))]) hx hb dX0_setMachines_62 hl (k := 1) rfl (iI_inc (by omega)) (by decide) rfl (fun ls hl => ?_)
              refine lv_goto (tgt := 27) hx hb dX0_setMachines_65 (by decide) ?_
              exact ih27 (i + 1) (tzr tT w i (5 - w)) ((i : Int) + 1) (by omega) (tzr_n (by omega)) (by omega) (by omega) _ _ hP hD hS ls (lv_sub hl [0, 2, 3, 4] rfl)
            · refine lv_aload_n hx hb dX0_setMachines_44 rfl (lv_at hl 3 rfl) ?_
              refine va_get (D := D) (ci := 0) (C := RX0) (T := TX0) (N := 13) hx hb hts inW hown hK hP 0 rfl rfl 2 (by decide) (hts (.fieldLink RX0 16 "Flowforge" "times" "[I") (List.mem_of_getElem? (i := 5) rfl)) (fun _ h9 => h9) rfl dX0_setMachines_45 ?_
              refine lv_iload_n hx hb dX0_setMachines_48 rfl (lv_at hl 1 rfl) ?_
              refine lv_iload hx hb dX0_setMachines_49 (lv_at hl 0 rfl) ?_
              refine w_pS (As := [.int (iI ((i : Int))), .int (iI ((w : Int) + (c0 : Int)))]) (rest := [.ref (ad 1)]) ⟨hx, hb, hml, hown, hts⟩ hK hP (mX0_cell  ) (va_cwS 2 hts gX0_setMachines_X0_cell rfl rfl rfl (by decide +kernel) ⟨Nat.le_of_ble_eq_true rfl, Nat.le_of_ble_eq_true rfl⟩) rfl hl.1 rfl (Nat.le_of_ble_eq_true rfl) dX0_setMachines_51 ⟨Nat.zero_le _, Nat.zero_le _⟩ (fun r51 hr51 => ?_)
              refine w_top (v := iI (5 * (i : Int) + (w : Int) + (c0 : Int))) (hr51.trans (congrArg iI (by omega))) ?_
              refine lv_iconst (v := iI 0) hx hb dX0_setMachines_54 rfl ?_
              refine w_iast (g := tI (tzr tT w i (c0 + 1))) (ws' := xw ad cI cZ nn mm (tzr tT w i (c0 + 1)) tB tE tL oO oR oQ zS zM zN oJ) hx hb hK hP hD hS 1 0 rfl rfl (5 * i + (w + c0)) (by omega) (by omega) (by decide) (hg := (tI_up.trans (congrArg tI (tzr_s (by omega))))) (hw := rfl) (hd := dX0_setMachines_55) (kk := fun H locs hP hD hS => ?_)
              refine lv_iinc (v := iI ((w : Int) + (c0 : Int) + 1)) (lv' := [(4, .int (iI ((w : Int) + (c0 : Int) + 1))), (3, .int (iI ((i : Int)))), (2, .int (iI ((mm : Int)))), (0, .ref (ad 0)), (1, .int (iI ((w : Int))))]) hx hb dX0_setMachines_56 hl (k := 0) rfl (iI_inc (by omega)) (by decide) rfl (fun ls hl => ?_)
              refine lv_goto (tgt := 38) hx hb dX0_setMachines_59 (by decide) ?_
              exact ih38 (c0 + 1) (tzr tT w i (c0 + 1)) ((w : Int) + (c0 : Int) + 1) (by omega) (rfl) (by omega) (by omega) _ _ hP hD hS ls (lv_sub hl [0, 1, 2, 3, 4] rfl)
        exact L38 (5 - w - 0 + 1) 0 (tzr tT w i 0) ((w : Int)) (by omega) (rfl) (by omega) (Nat.lt_succ_self _) _ _ hP hD hS ls (lv_sub hl [0, 1, 2, 3, 4] rfl)
  exact L27 (nn - 0 + 1) 0 tT (0) (by omega) ((tzr_0 _ _).symm) (by omega) (Nat.lt_succ_self _) _ _ hP hD hS ls (lv_sub hl [0, 1, 2, 3] rfl)
set_option maxHeartbeats 4000000 in
set_option maxRecDepth 100000 in
theorem mX0_setTime {j k : Nat} {x : Int} (hn : nn ≤ 7) (hm : 1 ≤ mm ∧ mm ≤ 5) (hj : j < nn) (hk : k < mm) (hx9 : 0 ≤ x ∧ x ≤ 99) : IM l yX0_setTime wsX0_setTime (rmx 1 21) D (tyk cI cZ cJ) (xw ad cI cZ nn mm tT tB tE tL oO oR oQ zS zM zN oJ) [.ref (ad 0), .int (iI ((j : Int))), .int (iI ((k : Int))), .int (iI (x))] (QI D (tyk cI cZ cJ) (fun u : Unit => xw ad cI cZ nn mm (va_up tT (5 * j + k) x) tB tE tL oO oR oQ (zfl zS 3) zM zN oJ) (fun y _ => y = iI (tT (5 * j + k)))) := by
  refine imI_of (cc := cX0_setTime) (maxL := 5) (by decide) rfl (Nat.le_of_ble_eq_true rfl) ?_
  intro p e s m args below meth c A Q hx hb hml hown hts hA hK hP hD hS hret ls hl
  have hown : s.vm.findClass RX0 = some m.cls := hown
  have hl : lv_has ls 5 [(0, .ref (ad 0)), (1, .int (iI ((j : Int)))), (2, .int (iI ((k : Int)))), (3, .int (iI (x)))] := hl
  have inW : ∀ w ∈ wsX00, w ∈ wsX0_setTime := by first | exact (fun w h => List.mem_cons_of_mem _ (List.mem_append_right _ h)) | exact (fun w h => List.mem_cons_of_mem _ (List.mem_append_left _ (List.mem_append_right _ h))) | exact (fun w h => List.mem_cons_of_mem _ (List.mem_append_left _ (List.mem_append_left _ (List.mem_append_right _ h)))) | decide +kernel
  refine lv_aload_n hx hb dX0_setTime_0 rfl (lv_at hl 0 rfl) ?_
  refine lv_iload_n hx hb dX0_setTime_1 rfl (lv_at hl 1 rfl) ?_
  refine w_pVv (As := [.int (iI ((j : Int)))]) (rest := []) ⟨hx, hb, hml, hown, hts⟩ hK hP (mX0_requireJob  (x := (j : Int)) hn hm.2 (by omega) (by omega)) (cwV 1 hts gX0_setTime_X0_requireJob rfl rfl rfl (by decide +kernel) ⟨Nat.le_of_ble_eq_true rfl, Nat.le_of_ble_eq_true rfl⟩) (ci := 0) rfl rfl rfl rfl hl.1 rfl (Nat.le_of_ble_eq_true rfl) dX0_setTime_2 ⟨Nat.zero_le _, Nat.zero_le _⟩ (fun hr2 => ?_)
  refine lv_aload_n hx hb dX0_setTime_5 rfl (lv_at hl 0 rfl) ?_
  refine lv_iload_n hx hb dX0_setTime_6 rfl (lv_at hl 2 rfl) ?_
  refine w_pVv (As := [.int (iI ((k : Int)))]) (rest := []) ⟨hx, hb, hml, hown, hts⟩ hK hP (mX0_requireMachine  (x := (k : Int)) hn hm.2 (by omega) (by omega)) (cwV 1 hts gX0_setTime_X0_requireMachine rfl rfl rfl (by decide +kernel) ⟨Nat.le_of_ble_eq_true rfl, Nat.le_of_ble_eq_true rfl⟩) (ci := 0) rfl rfl rfl rfl hl.1 rfl (Nat.le_of_ble_eq_true rfl) dX0_setTime_7 ⟨Nat.zero_le _, Nat.zero_le _⟩ (fun hr7 => ?_)
  refine lv_iload_n hx hb dX0_setTime_10 rfl (lv_at hl 3 rfl) ?_
  refine w_if_lt (tgt := 20) hx hb dX0_setTime_11 (by decide) ⟨by omega, by omega⟩ (fun c11 => absurd c11 (by omega)) (fun c11 => ?_)
  refine lv_iload_n hx hb dX0_setTime_14 rfl (lv_at hl 3 rfl) ?_
  refine lv_bipush (v := iI 99) hx hb dX0_setTime_15 (by decide) ?_
  refine w_icmp_le (tgt := 30) hx hb dX0_setTime_17 (by decide) ⟨by omega, by omega⟩ ⟨by omega, by omega⟩ (fun c17 => ?_) (fun c17 => absurd c17 (by omega))
  refine lv_aload_n hx hb dX0_setTime_30 rfl (lv_at hl 0 rfl) ?_
  refine va_get (D := D) (ci := 0) (C := RX0) (T := TX0) (N := 13) hx hb hts inW hown hK hP 0 rfl rfl 2 (by decide) (hts (.fieldLink RX0 16 "Flowforge" "times" "[I") (List.mem_of_getElem? (i := 3) rfl)) (fun _ h9 => h9) rfl dX0_setTime_31 ?_
  refine lv_iload_n hx hb dX0_setTime_34 rfl (lv_at hl 1 rfl) ?_
  refine lv_iload_n hx hb dX0_setTime_35 rfl (lv_at hl 2 rfl) ?_
  refine w_pS (As := [.int (iI ((j : Int))), .int (iI ((k : Int)))]) (rest := [.ref (ad 1)]) ⟨hx, hb, hml, hown, hts⟩ hK hP (mX0_cell  ) (va_cwS 2 hts gX0_setTime_X0_cell rfl rfl rfl (by decide +kernel) ⟨Nat.le_of_ble_eq_true rfl, Nat.le_of_ble_eq_true rfl⟩) rfl hl.1 rfl (Nat.le_of_ble_eq_true rfl) dX0_setTime_36 ⟨Nat.zero_le _, Nat.zero_le _⟩ (fun r36 hr36 => ?_)
  refine w_top (v := iI (5 * (j : Int) + (k : Int))) (hr36.trans (congrArg iI (by omega))) ?_
  refine w_iald (v := iI (tT (5 * j + k))) hx hb hK hP 1 0 rfl rfl (5 * j + k) (by omega) (by omega) (by decide) rfl dX0_setTime_39 ?_
  refine lv_istore (lv' := [(4, .int (iI ((tT (5 * j + k))))), (0, .ref (ad 0)), (1, .int (iI ((j : Int)))), (2, .int (iI ((k : Int)))), (3, .int (iI (x)))]) hx hb dX0_setTime_40 hl (by decide) rfl (fun ls hl => ?_)
  refine lv_aload_n hx hb dX0_setTime_42 rfl (lv_at hl 1 rfl) ?_
  refine va_get (D := D) (ci := 0) (C := RX0) (T := TX0) (N := 13) hx hb hts inW hown hK hP 0 rfl rfl 2 (by decide) (hts (.fieldLink RX0 16 "Flowforge" "times" "[I") (List.mem_of_getElem? (i := 3) rfl)) (fun _ h9 => h9) rfl dX0_setTime_43 ?_
  refine lv_iload_n hx hb dX0_setTime_46 rfl (lv_at hl 2 rfl) ?_
  refine lv_iload_n hx hb dX0_setTime_47 rfl (lv_at hl 3 rfl) ?_
  refine w_pS (As := [.int (iI ((j : Int))), .int (iI ((k : Int)))]) (rest := [.ref (ad 1)]) ⟨hx, hb, hml, hown, hts⟩ hK hP (mX0_cell  ) (va_cwS 2 hts gX0_setTime_X0_cell rfl rfl rfl (by decide +kernel) ⟨Nat.le_of_ble_eq_true rfl, Nat.le_of_ble_eq_true rfl⟩) rfl hl.1 rfl (Nat.le_of_ble_eq_true rfl) dX0_setTime_48 ⟨Nat.zero_le _, Nat.zero_le _⟩ (fun r48 hr48 => ?_)
  refine w_top (v := iI (5 * (j : Int) + (k : Int))) (hr48.trans (congrArg iI (by omega))) ?_
  refine lv_iload_n hx hb dX0_setTime_51 rfl (lv_at hl 4 rfl) ?_
  refine w_iast (g := tI (va_up tT (5 * j + k) x)) (ws' := xw ad cI cZ nn mm (va_up tT (5 * j + k) x) tB tE tL oO oR oQ zS zM zN oJ) hx hb hK hP hD hS 1 0 rfl rfl (5 * j + k) (by omega) (by omega) (by decide) (hg := tI_up) (hw := rfl) (hd := dX0_setTime_52) (kk := fun H locs hP hD hS => ?_)
  refine lv_aload_n hx hb dX0_setTime_53 rfl (lv_at hl 1 rfl) ?_
  refine w_iVv (As := []) (rest := []) (wf := fun u : Unit => xw ad cI cZ nn mm (va_up tT (5 * j + k) x) tB tE tL oO oR oQ (zfl zS 3) zM zN oJ) (wr := []) ⟨hx, hb, hml, hown, hts⟩ hK hP hD hS hA (mX0_forgetBestOrders  ) (cwV 0 hts gX0_setTime_X0_forgetBestOrders rfl rfl rfl (by decide +kernel) ⟨Nat.le_of_ble_eq_true rfl, Nat.le_of_ble_eq_true rfl⟩) [0, 1, 2, 3, 4, 5, 6, 7, 8, 9, 10, 11] [] [0, 1, 2, 3, 4, 5, 6, 7, 8, 9, 10, 11] rfl rfl (by decide) (by decide) (by decide) (hwf := fun _ => rfl) (by decide) (ci := 0) rfl rfl rfl rfl hl.1 rfl (Nat.le_of_ble_eq_true rfl) dX0_setTime_54 ⟨Nat.zero_le _, Nat.zero_le _⟩ (fun u H locs hr54 hP hD hS => ?_)
  refine lv_iload hx hb dX0_setTime_57 (lv_at hl 0 rfl) ?_
  exact hret _ _ 59 ls _ (()) hP hD hS (rfl) dX0_setTime_59
set_option maxHeartbeats 4000000 in
set_option maxRecDepth 100000 in
theorem mX0_jobs  : PM l yX0_jobs wsX0_jobs (rmx 0 0) D (tyk cI cZ cJ) (xw ad cI cZ nn mm tT tB tE tL oO oR oQ zS zM zN oJ) [.ref (ad 0)] (vp_Si (fun y => y = iI (nn : Int))) := by
  refine pmI_of (cc := cX0_jobs) (maxL := 1) (by decide) rfl (Nat.le_of_ble_eq_true rfl) ?_
  intro p e s m args below meth c Q hx hb hml hown hts hK hP hret ls hl
  have hown : s.vm.findClass RX0 = some m.cls := hown
  have hl : lv_has ls 1 [(0, .ref (ad 0))] := hl
  have inW : ∀ w ∈ wsX00, w ∈ wsX0_jobs := by first | exact (fun w h => List.mem_cons_of_mem _ (List.mem_append_right _ h)) | exact (fun w h => List.mem_cons_of_mem _ (List.mem_append_left _ (List.mem_append_right _ h))) | exact (fun w h => List.mem_cons_of_mem _ (List.mem_append_left _ (List.mem_append_left _ (List.mem_append_right _ h)))) | decide +kernel
  refine lv_aload_n hx hb dX0_jobs_0 rfl (lv_at hl 0 rfl) ?_
  refine va_get (D := D) (ci := 0) (C := RX0) (T := TX0) (N := 13) hx hb hts inW hown hK hP 0 rfl rfl 0 (by decide) (hts (.fieldLink RX0 7 "Flowforge" "jobCount" "I") (List.mem_of_getElem? (i := 1) rfl)) (fun _ h9 => h9) rfl dX0_jobs_1 ?_
  exact hret 4 ls _ (rfl) dX0_jobs_4
set_option maxHeartbeats 4000000 in
set_option maxRecDepth 100000 in
theorem mX0_machines  : PM l yX0_machines wsX0_machines (rmx 0 0) D (tyk cI cZ cJ) (xw ad cI cZ nn mm tT tB tE tL oO oR oQ zS zM zN oJ) [.ref (ad 0)] (vp_Si (fun y => y = iI (mm : Int))) := by
  refine pmI_of (cc := cX0_machines) (maxL := 1) (by decide) rfl (Nat.le_of_ble_eq_true rfl) ?_
  intro p e s m args below meth c Q hx hb hml hown hts hK hP hret ls hl
  have hown : s.vm.findClass RX0 = some m.cls := hown
  have hl : lv_has ls 1 [(0, .ref (ad 0))] := hl
  have inW : ∀ w ∈ wsX00, w ∈ wsX0_machines := by first | exact (fun w h => List.mem_cons_of_mem _ (List.mem_append_right _ h)) | exact (fun w h => List.mem_cons_of_mem _ (List.mem_append_left _ (List.mem_append_right _ h))) | exact (fun w h => List.mem_cons_of_mem _ (List.mem_append_left _ (List.mem_append_left _ (List.mem_append_right _ h)))) | decide +kernel
  refine lv_aload_n hx hb dX0_machines_0 rfl (lv_at hl 0 rfl) ?_
  refine va_get (D := D) (ci := 0) (C := RX0) (T := TX0) (N := 13) hx hb hts inW hown hK hP 0 rfl rfl 1 (by decide) (hts (.fieldLink RX0 13 "Flowforge" "machineCount" "I") (List.mem_of_getElem? (i := 1) rfl)) (fun _ h9 => h9) rfl dX0_machines_1 ?_
  exact hret 4 ls _ (rfl) dX0_machines_4
set_option maxHeartbeats 4000000 in
set_option maxRecDepth 100000 in
theorem mX0_move {j q b : Nat} (hn : nn ≤ 7) (hm : 1 ≤ mm ∧ mm ≤ 5) (hO : ∀ k, k < nn → oO k < 7) (hjn : j < nn) (hq : q < nn) (hj : j = oO q) (hw : ∀ k, k < q → oO k ≠ j) (hbn : b < nn) : IM l yX0_move wsX0_move (rmx 1 24) D (tyk cI cZ cJ) (xw ad cI cZ nn mm tT tB tE tL oO oR oQ zS zM zN oJ) [.ref (ad 0), .int (iI ((j : Int))), .int (iI ((b : Int)))] (QI D (tyk cI cZ cJ) (fun u : Unit => xw ad cI cZ nn mm tT tB tE tL (shf oO q b) oR oQ zS zM zN oJ) (fun y _ => y = iI (q : Int))) := by
  refine imI_of (cc := cX0_move) (maxL := 4) (by decide) rfl (Nat.le_of_ble_eq_true rfl) ?_
  intro p e s m args below meth c A Q hx hb hml hown hts hA hK hP hD hS hret ls hl
  have hown : s.vm.findClass RX0 = some m.cls := hown
  have hl : lv_has ls 4 [(0, .ref (ad 0)), (1, .int (iI ((j : Int)))), (2, .int (iI ((b : Int))))] := hl
  have inW : ∀ w ∈ wsX00, w ∈ wsX0_move := by first | exact (fun w h => List.mem_cons_of_mem _ (List.mem_append_right _ h)) | exact (fun w h => List.mem_cons_of_mem _ (List.mem_append_left _ (List.mem_append_right _ h))) | exact (fun w h => List.mem_cons_of_mem _ (List.mem_append_left _ (List.mem_append_left _ (List.mem_append_right _ h)))) | decide +kernel
  refine lv_aload_n hx hb dX0_move_0 rfl (lv_at hl 0 rfl) ?_
  refine lv_iload_n hx hb dX0_move_1 rfl (lv_at hl 1 rfl) ?_
  refine w_pVv (As := [.int (iI ((j : Int)))]) (rest := []) ⟨hx, hb, hml, hown, hts⟩ hK hP (mX0_requireJob  (x := (j : Int)) hn hm.2 (by omega) (by omega)) (cwV 1 hts gX0_move_X0_requireJob rfl rfl rfl (by decide +kernel) ⟨Nat.le_of_ble_eq_true rfl, Nat.le_of_ble_eq_true rfl⟩) (ci := 0) rfl rfl rfl rfl hl.1 rfl (Nat.le_of_ble_eq_true rfl) dX0_move_2 ⟨Nat.zero_le _, Nat.zero_le _⟩ (fun hr2 => ?_)
  refine lv_aload_n hx hb dX0_move_5 rfl (lv_at hl 0 rfl) ?_
  refine lv_iload_n hx hb dX0_move_6 rfl (lv_at hl 2 rfl) ?_
  refine w_pVv (As := [.int (iI ((b : Int)))]) (rest := []) ⟨hx, hb, hml, hown, hts⟩ hK hP (mX0_requirePlace  (x := (b : Int)) hn hm.2 (by omega) (by omega)) (cwV 1 hts gX0_move_X0_requirePlace rfl rfl rfl (by decide +kernel) ⟨Nat.le_of_ble_eq_true rfl, Nat.le_of_ble_eq_true rfl⟩) (ci := 0) rfl rfl rfl rfl hl.1 rfl (Nat.le_of_ble_eq_true rfl) dX0_move_7 ⟨Nat.zero_le _, Nat.zero_le _⟩ (fun hr7 => ?_)
  refine lv_aload_n hx hb dX0_move_10 rfl (lv_at hl 0 rfl) ?_
  refine lv_iload_n hx hb dX0_move_11 rfl (lv_at hl 1 rfl) ?_
  refine w_pV (As := [.int (iI ((j : Int)))]) (rest := []) ⟨hx, hb, hml, hown, hts⟩ hK hP (mX0_placeOf  (q := q) hn hq hj hw hO) (cwV 1 hts gX0_move_X0_placeOf rfl rfl rfl (by decide +kernel) ⟨Nat.le_of_ble_eq_true rfl, Nat.le_of_ble_eq_true rfl⟩) (ci := 0) rfl rfl rfl rfl hl.1 rfl (Nat.le_of_ble_eq_true rfl) dX0_move_12 ⟨Nat.zero_le _, Nat.zero_le _⟩ (fun r12 hr12 => ?_)
  refine w_top (v := iI ((q : Int))) (hr12) ?_
  refine lv_istore_n (lv' := [(3, .int (iI ((q : Int)))), (0, .ref (ad 0)), (1, .int (iI ((j : Int)))), (2, .int (iI ((b : Int))))]) hx hb dX0_move_15 rfl hl (by decide) rfl (fun ls hl => ?_)
  refine lv_aload_n hx hb dX0_move_16 rfl (lv_at hl 1 rfl) ?_
  refine va_get (D := D) (ci := 0) (C := RX0) (T := TX0) (N := 13) hx hb hts inW hown hK hP 0 rfl rfl 6 (by decide) (hts (.fieldLink RX0 29 "Flowforge" "order" "[I") (List.mem_of_getElem? (i := 1) rfl)) (fun _ h9 => h9) rfl dX0_move_17 ?_
  refine lv_iload_n hx hb dX0_move_20 rfl (lv_at hl 0 rfl) ?_
  refine lv_iload_n hx hb dX0_move_21 rfl (lv_at hl 3 rfl) ?_
  refine w_iSv (As := [.ref (ad 5), .int (iI ((q : Int))), .int (iI ((b : Int)))]) (rest := []) (wf := fun u : Unit => xw ad cI cZ nn mm tT tB tE tL (shf oO q b) oR oQ zS zM zN oJ) (wr := (xw ad cI cZ nn mm tT tB tE tL oO oR oQ zS zM zN oJ).eraseIdx 5) ⟨hx, hb, hml, hown, hts⟩ hK hP hD hS hA (mX0_shift  (by omega) (by omega)) (va_cwS 3 hts gX0_move_X0_shift rfl rfl rfl (by decide +kernel) ⟨Nat.le_of_ble_eq_true rfl, Nat.le_of_ble_eq_true rfl⟩) [5] [0, 1, 2, 3, 4, 6, 7, 8, 9, 10, 11] [0, 1, 2, 3, 4, 11, 5, 6, 7, 8, 9, 10] rfl rfl (by decide) (by decide) (by decide) (hwf := fun _ => rfl) (by decide) rfl hl.1 rfl (Nat.le_of_ble_eq_true rfl) dX0_move_22 ⟨Nat.zero_le _, Nat.zero_le _⟩ (fun u H locs hr22 hP hD hS => ?_)
  refine lv_iload_n hx hb dX0_move_25 rfl (lv_at hl 0 rfl) ?_
  exact hret _ _ 26 ls _ (()) hP hD hS (rfl) dX0_move_26
set_option maxHeartbeats 4000000 in
set_option maxRecDepth 100000 in
theorem mX0_orderByRule (hT : ∀ k, 0 ≤ tT k ∧ tT k ≤ 99) (hn : nn ≤ 7) (h2 : mm = 2) : IM l yX0_orderByRule wsX0_orderByRule (rmx 5 117) D (tyk cI cZ cJ) (xw ad cI cZ nn mm tT tB tE tL oO oR oQ zS zM zN oJ) [.ref (ad 0)] (QI D (tyk cI cZ cJ) (fun u : (Nat → Int) × (Nat → Int) => xw ad cI cZ nn mm tT u.1 u.2 tL (srt (gbr tT 0 1) oO nn) oR oQ zS zM zN oJ) (fun y u => y = iI (mk 0 mm tT (srt (gbr tT 0 1) oO nn) nn))) := by
  refine imI_of (cc := cX0_orderByRule) (maxL := 1) (by decide) rfl (Nat.le_of_ble_eq_true rfl) ?_
  intro p e s m args below meth c A Q hx hb hml hown hts hA hK hP hD hS hret ls hl
  have hown : s.vm.findClass RX0 = some m.cls := hown
  have hl : lv_has ls 1 [(0, .ref (ad 0))] := hl
  have inW : ∀ w ∈ wsX00, w ∈ wsX0_orderByRule := by first | exact (fun w h => List.mem_cons_of_mem _ (List.mem_append_right _ h)) | exact (fun w h => List.mem_cons_of_mem _ (List.mem_append_left _ (List.mem_append_right _ h))) | exact (fun w h => List.mem_cons_of_mem _ (List.mem_append_left _ (List.mem_append_left _ (List.mem_append_right _ h)))) | decide +kernel
  have hm : 1 ≤ mm ∧ mm ≤ 5 := by omega
  have hO : ∀ k, k < nn → srt (gbr tT 0 1) oO nn k < 7 := fun k hk => Nat.lt_of_lt_of_le (srt_lt hk) hn
  refine lv_aload_n hx hb dX0_orderByRule_0 rfl (lv_at hl 0 rfl) ?_
  refine va_get (D := D) (ci := 0) (C := RX0) (T := TX0) (N := 13) hx hb hts inW hown hK hP 0 rfl rfl 1 (by decide) (hts (.fieldLink RX0 13 "Flowforge" "machineCount" "I") (List.mem_of_getElem? (i := 3) rfl)) (fun _ h9 => h9) rfl dX0_orderByRule_1 ?_
  refine lv_iconst (v := iI 2) hx hb dX0_orderByRule_4 rfl ?_
  refine w_icmp_eq (tgt := 18) hx hb dX0_orderByRule_5 (by decide) ⟨by omega, by omega⟩ ⟨by omega, by omega⟩ (fun c5 => ?_) (fun c5 => absurd c5 (by omega))
  refine lv_aload_n hx hb dX0_orderByRule_18 rfl (lv_at hl 0 rfl) ?_
  refine lv_aload_n hx hb dX0_orderByRule_19 rfl (lv_at hl 0 rfl) ?_
  refine va_get (D := D) (ci := 0) (C := RX0) (T := TX0) (N := 13) hx hb hts inW hown hK hP 0 rfl rfl 6 (by decide) (hts (.fieldLink RX0 29 "Flowforge" "order" "[I") (List.mem_of_getElem? (i := 4) rfl)) (fun _ h9 => h9) rfl dX0_orderByRule_20 ?_
  refine lv_iconst (v := iI 0) hx hb dX0_orderByRule_23 rfl ?_
  refine lv_iconst (v := iI 1) hx hb dX0_orderByRule_24 rfl ?_
  refine w_iVv (As := [.ref (ad 5), .int (iI 0), .int (iI 1)]) (rest := []) (wf := fun u : Unit => xw ad cI cZ nn mm tT tB tE tL (srt (gbr tT 0 1) oO nn) oR oQ zS zM zN oJ) (wr := []) ⟨hx, hb, hml, hown, hts⟩ hK hP hD hS hA (mX0_fillByRule_o (a := 0) (b := 1) hT hn (by omega) (by omega)) (cwV 3 hts gX0_orderByRule_X0_fillByRule rfl rfl rfl (by decide +kernel) ⟨Nat.le_of_ble_eq_true rfl, Nat.le_of_ble_eq_true rfl⟩) [0, 1, 2, 3, 4, 5, 6, 7, 8, 9, 10, 11] [] [0, 1, 2, 3, 4, 5, 6, 7, 8, 9, 10, 11] rfl rfl (by decide) (by decide) (by decide) (hwf := fun _ => rfl) (by decide) (ci := 0) rfl rfl rfl rfl hl.1 rfl (Nat.le_of_ble_eq_true rfl) dX0_orderByRule_25 ⟨Nat.zero_le _, Nat.zero_le _⟩ (fun u H locs hr25 hP hD hS => ?_)
  refine lv_aload_n hx hb dX0_orderByRule_28 rfl (lv_at hl 0 rfl) ?_
  refine lv_iconst (v := iI 0) hx hb dX0_orderByRule_29 rfl ?_
  refine w_iV (As := [.int (iI 0)]) (rest := []) (wf := fun u : (Nat → Int) × (Nat → Int) => xw ad cI cZ nn mm tT u.1 u.2 tL (srt (gbr tT 0 1) oO nn) oR oQ zS zM zN oJ) (wr := []) ⟨hx, hb, hml, hown, hts⟩ hK hP hD hS hA (mX0_scheduleOrder (v := 0) hT hn hm (by omega) hO) (cwV 1 hts gX0_orderByRule_X0_scheduleOrder rfl rfl rfl (by decide +kernel) ⟨Nat.le_of_ble_eq_true rfl, Nat.le_of_ble_eq_true rfl⟩) [0, 1, 2, 3, 4, 5, 6, 7, 8, 9, 10, 11] [] [0, 1, 2, 3, 4, 5, 6, 7, 8, 9, 10, 11] rfl rfl (by decide) (by decide) (by decide) (hwf := fun _ => rfl) (by decide) (ci := 0) rfl rfl rfl rfl hl.1 rfl (Nat.le_of_ble_eq_true rfl) dX0_orderByRule_30 ⟨Nat.zero_le _, Nat.zero_le _⟩ (fun r30 u H locs hr30 hP hD hS => ?_)
  obtain ⟨uB, uE⟩ := u
  obtain ⟨hq30, hR⟩ := hr30
  have hP : va_P D vwCl (xw ad cI cZ nn mm tT uB uE tL (srt (gbr tT 0 1) oO nn) oR oQ zS zM zN oJ) H := hP
  have hD : va_D A (xw ad cI cZ nn mm tT uB uE tL (srt (gbr tT 0 1) oO nn) oR oQ zS zM zN oJ) := hD
  refine w_top (v := iI ((mk 0 mm tT (srt (gbr tT 0 1) oO nn) nn))) (hq30) ?_
  exact hret _ _ 33 ls _ ((uB, uE)) hP hD hS (rfl) dX0_orderByRule_33
set_option maxHeartbeats 4000000 in
set_option maxRecDepth 100000 in
theorem mX0_makespan {v : Nat} (hT : ∀ k, 0 ≤ tT k ∧ tT k ≤ 99) (hn : nn ≤ 7) (hm : 1 ≤ mm ∧ mm ≤ 5) (hv : v ≤ 2) (hO : ∀ k, k < nn → oO k < 7) : IM l yX0_makespan wsX0_makespan (rmx 5 117) D (tyk cI cZ cJ) (xw ad cI cZ nn mm tT tB tE tL oO oR oQ zS zM zN oJ) [.ref (ad 0), .int (iI ((v : Int)))] (QI D (tyk cI cZ cJ) (fun u : (Nat → Int) × (Nat → Int) => xw ad cI cZ nn mm tT u.1 u.2 tL oO oR oQ zS zM zN oJ) (fun y u => y = iI (mk v mm tT oO nn))) := by
  refine imI_of (cc := cX0_makespan) (maxL := 2) (by decide) rfl (Nat.le_of_ble_eq_true rfl) ?_
  intro p e s m args below meth c A Q hx hb hml hown hts hA hK hP hD hS hret ls hl
  have hown : s.vm.findClass RX0 = some m.cls := hown
  have hl : lv_has ls 2 [(0, .ref (ad 0)), (1, .int (iI ((v : Int))))] := hl
  refine lv_iload_n hx hb dX0_makespan_0 rfl (lv_at hl 1 rfl) ?_
  refine w_pSv (As := [.int (iI ((v : Int)))]) (rest := []) ⟨hx, hb, hml, hown, hts⟩ hK hP (mX0_requireVariant  (x := (v : Int)) (by omega) (by omega)) (va_cwS 1 hts gX0_makespan_X0_requireVariant rfl rfl rfl (by decide +kernel) ⟨Nat.le_of_ble_eq_true rfl, Nat.le_of_ble_eq_true rfl⟩) rfl hl.1 rfl (Nat.le_of_ble_eq_true rfl) dX0_makespan_1 ⟨Nat.zero_le _, Nat.zero_le _⟩ (fun hr1 => ?_)
  refine lv_aload_n hx hb dX0_makespan_4 rfl (lv_at hl 0 rfl) ?_
  refine lv_iload_n hx hb dX0_makespan_5 rfl (lv_at hl 1 rfl) ?_
  refine w_iV (As := [.int (iI ((v : Int)))]) (rest := []) (wf := fun u : (Nat → Int) × (Nat → Int) => xw ad cI cZ nn mm tT u.1 u.2 tL oO oR oQ zS zM zN oJ) (wr := []) ⟨hx, hb, hml, hown, hts⟩ hK hP hD hS hA (mX0_scheduleOrder  hT hn hm hv hO) (cwV 1 hts gX0_makespan_X0_scheduleOrder rfl rfl rfl (by decide +kernel) ⟨Nat.le_of_ble_eq_true rfl, Nat.le_of_ble_eq_true rfl⟩) [0, 1, 2, 3, 4, 5, 6, 7, 8, 9, 10, 11] [] [0, 1, 2, 3, 4, 5, 6, 7, 8, 9, 10, 11] rfl rfl (by decide) (by decide) (by decide) (hwf := fun _ => rfl) (by decide) (ci := 0) rfl rfl rfl rfl hl.1 rfl (Nat.le_of_ble_eq_true rfl) dX0_makespan_6 ⟨Nat.zero_le _, Nat.zero_le _⟩ (fun r6 u H locs hr6 hP hD hS => ?_)
  obtain ⟨uB, uE⟩ := u
  obtain ⟨hq6, hR⟩ := hr6
  have hP : va_P D vwCl (xw ad cI cZ nn mm tT uB uE tL oO oR oQ zS zM zN oJ) H := hP
  have hD : va_D A (xw ad cI cZ nn mm tT uB uE tL oO oR oQ zS zM zN oJ) := hD
  refine w_top (v := iI ((mk v mm tT oO nn))) (hq6) ?_
  exact hret _ _ 9 ls _ ((uB, uE)) hP hD hS (rfl) dX0_makespan_9
set_option maxHeartbeats 4000000 in
set_option maxRecDepth 100000 in
theorem mX0_machineBound {k : Nat} (hT : ∀ k, 0 ≤ tT k ∧ tT k ≤ 99) (hn : nn ≤ 7) (hm : 1 ≤ mm ∧ mm ≤ 5) (hk : k < mm) : PM l yX0_machineBound wsX0_machineBound (rmx 4 92) D (tyk cI cZ cJ) (xw ad cI cZ nn mm tT tB tE tL oO oR oQ zS zM zN oJ) [.ref (ad 0), .int (iI ((k : Int)))] (vp_Si (fun y => y = iI (ldC tT k nn + lsX tT 0 k (nn - 1) + lsX tT (k + 1) mm (nn - 1)))) := by
  refine pmI_of (cc := cX0_machineBound) (maxL := 2) (by decide) rfl (Nat.le_of_ble_eq_true rfl) ?_
  intro p e s m args below meth c Q hx hb hml hown hts hK hP hret ls hl
  have hown : s.vm.findClass RX0 = some m.cls := hown
  have hl : lv_has ls 2 [(0, .ref (ad 0)), (1, .int (iI ((k : Int))))] := hl
  have inW : ∀ w ∈ wsX00, w ∈ wsX0_machineBound := by first | exact (fun w h => List.mem_cons_of_mem _ (List.mem_append_right _ h)) | exact (fun w h => List.mem_cons_of_mem _ (List.mem_append_left _ (List.mem_append_right _ h))) | exact (fun w h => List.mem_cons_of_mem _ (List.mem_append_left _ (List.mem_append_left _ (List.mem_append_right _ h)))) | decide +kernel
  refine lv_aload_n hx hb dX0_machineBound_0 rfl (lv_at hl 0 rfl) ?_
  refine lv_iload_n hx hb dX0_machineBound_1 rfl (lv_at hl 1 rfl) ?_
  refine w_pVv (As := [.int (iI ((k : Int)))]) (rest := []) ⟨hx, hb, hml, hown, hts⟩ hK hP (mX0_requireMachine  (x := (k : Int)) hn hm.2 (by omega) (by omega)) (cwV 1 hts gX0_machineBound_X0_requireMachine rfl rfl rfl (by decide +kernel) ⟨Nat.le_of_ble_eq_true rfl, Nat.le_of_ble_eq_true rfl⟩) (ci := 0) rfl rfl rfl rfl hl.1 rfl (Nat.le_of_ble_eq_true rfl) dX0_machineBound_2 ⟨Nat.zero_le _, Nat.zero_le _⟩ (fun hr2 => ?_)
  refine lv_aload_n hx hb dX0_machineBound_5 rfl (lv_at hl 0 rfl) ?_
  refine lv_iload_n hx hb dX0_machineBound_6 rfl (lv_at hl 1 rfl) ?_
  refine w_pV (As := [.int (iI ((k : Int)))]) (rest := []) ⟨hx, hb, hml, hown, hts⟩ hK hP (mX0_loadOf  hT hn (by omega)) (cwV 1 hts gX0_machineBound_X0_loadOf rfl rfl rfl (by decide +kernel) ⟨Nat.le_of_ble_eq_true rfl, Nat.le_of_ble_eq_true rfl⟩) (ci := 0) rfl rfl rfl rfl hl.1 rfl (Nat.le_of_ble_eq_true rfl) dX0_machineBound_7 ⟨Nat.zero_le _, Nat.zero_le _⟩ (fun r7 hr7 => ?_)
  refine w_top (v := iI ((ldC tT k nn))) (hr7) ?_
  refine lv_aload_n hx hb dX0_machineBound_10 rfl (lv_at hl 0 rfl) ?_
  refine lv_iconst (v := iI 0) hx hb dX0_machineBound_11 rfl ?_
  refine lv_iload_n hx hb dX0_machineBound_12 rfl (lv_at hl 1 rfl) ?_
  refine w_pV (As := [.int (iI 0), .int (iI ((k : Int)))]) (rest := [.int (iI ((ldC tT k nn)))]) ⟨hx, hb, hml, hown, hts⟩ hK hP (mX0_leastSum  (fr := 0) (to := k) hT hn (by omega) (by omega)) (cwV 2 hts gX0_machineBound_X0_leastSum rfl rfl rfl (by decide +kernel) ⟨Nat.le_of_ble_eq_true rfl, Nat.le_of_ble_eq_true rfl⟩) (ci := 0) rfl rfl rfl rfl hl.1 rfl (Nat.le_of_ble_eq_true rfl) dX0_machineBound_13 ⟨Nat.zero_le _, Nat.zero_le _⟩ (fun r13 hr13 => ?_)
  refine w_top (v := iI ((lsX tT 0 k (nn - 1)))) (hr13) ?_
  refine w_iadd (z := (ldC tT k nn) + (lsX tT 0 k (nn - 1))) hx hb dX0_machineBound_16 (by omega) ?_
  refine lv_aload_n hx hb dX0_machineBound_17 rfl (lv_at hl 0 rfl) ?_
  refine lv_iload_n hx hb dX0_machineBound_18 rfl (lv_at hl 1 rfl) ?_
  refine lv_iconst (v := iI 1) hx hb dX0_machineBound_19 rfl ?_
  refine w_iadd (z := (k : Int) + 1) hx hb dX0_machineBound_20 (by omega) ?_
  refine lv_aload_n hx hb dX0_machineBound_21 rfl (lv_at hl 0 rfl) ?_
  refine va_get (D := D) (ci := 0) (C := RX0) (T := TX0) (N := 13) hx hb hts inW hown hK hP 0 rfl rfl 1 (by decide) (hts (.fieldLink RX0 13 "Flowforge" "machineCount" "I") (List.mem_of_getElem? (i := 1) rfl)) (fun _ h9 => h9) rfl dX0_machineBound_22 ?_
  refine w_pV (As := [.int (iI ((((k + 1) : Nat) : Int))), .int (iI ((mm : Int)))]) (rest := [.int (iI ((ldC tT k nn) + (lsX tT 0 k (nn - 1))))]) ⟨hx, hb, hml, hown, hts⟩ hK hP (mX0_leastSum  (fr := k + 1) (to := mm) hT hn (by omega) hm.2) (cwV 2 hts gX0_machineBound_X0_leastSum rfl rfl rfl (by decide +kernel) ⟨Nat.le_of_ble_eq_true rfl, Nat.le_of_ble_eq_true rfl⟩) (ci := 0) rfl rfl rfl rfl hl.1 (by rw [show (((k : Int) + 1) : Int) = (((k + 1) : Nat) : Int) by omega]; try rfl) (Nat.le_of_ble_eq_true rfl) dX0_machineBound_25 ⟨Nat.zero_le _, Nat.zero_le _⟩ (fun r25 hr25 => ?_)
  refine w_top (v := iI ((lsX tT (k + 1) mm (nn - 1)))) (hr25) ?_
  refine w_iadd (z := (ldC tT k nn) + (lsX tT 0 k (nn - 1)) + (lsX tT (k + 1) mm (nn - 1))) hx hb dX0_machineBound_28 (by omega) ?_
  exact hret 29 ls _ (rfl) dX0_machineBound_29
set_option maxHeartbeats 4000000 in
set_option maxRecDepth 100000 in
theorem mX0_pairBound {a b : Nat} (hT : ∀ k, 0 ≤ tT k ∧ tT k ≤ 99) (hn : nn ≤ 7) (hm : 1 ≤ mm ∧ mm ≤ 5) (hab : a < b) (hbm : b < mm) : IM l yX0_pairBound wsX0_pairBound (rmx 5 119) D (tyk cI cZ cJ) (xw ad cI cZ nn mm tT tB tE tL oO oR oQ zS zM zN oJ) [.ref (ad 0), .int (iI ((a : Int))), .int (iI ((b : Int)))] (QI D (tyk cI cZ cJ) (fun u : Unit => xw ad cI cZ nn mm tT tB tE tL oO (srt (gbr tT a b) oR nn) oQ zS zM zN oJ) (fun y _ => y = iI (opS tT (srt (gbr tT a b) oR nn) a b nn + lsX tT 0 a (nn - 1) + lsX tT (b + 1) mm (nn - 1)))) := by
  refine imI_of (cc := cX0_pairBound) (maxL := 3) (by decide) rfl (Nat.le_of_ble_eq_true rfl) ?_
  intro p e s m args below meth c A Q hx hb hml hown hts hA hK hP hD hS hret ls hl
  have hown : s.vm.findClass RX0 = some m.cls := hown
  have hl : lv_has ls 3 [(0, .ref (ad 0)), (1, .int (iI ((a : Int)))), (2, .int (iI ((b : Int))))] := hl
  have inW : ∀ w ∈ wsX00, w ∈ wsX0_pairBound := by first | exact (fun w h => List.mem_cons_of_mem _ (List.mem_append_right _ h)) | exact (fun w h => List.mem_cons_of_mem _ (List.mem_append_left _ (List.mem_append_right _ h))) | exact (fun w h => List.mem_cons_of_mem _ (List.mem_append_left _ (List.mem_append_left _ (List.mem_append_right _ h)))) | decide +kernel
  refine lv_aload_n hx hb dX0_pairBound_0 rfl (lv_at hl 0 rfl) ?_
  refine lv_iload_n hx hb dX0_pairBound_1 rfl (lv_at hl 1 rfl) ?_
  refine w_pVv (As := [.int (iI ((a : Int)))]) (rest := []) ⟨hx, hb, hml, hown, hts⟩ hK hP (mX0_requireMachine  (x := (a : Int)) hn hm.2 (by omega) (by omega)) (cwV 1 hts gX0_pairBound_X0_requireMachine rfl rfl rfl (by decide +kernel) ⟨Nat.le_of_ble_eq_true rfl, Nat.le_of_ble_eq_true rfl⟩) (ci := 0) rfl rfl rfl rfl hl.1 rfl (Nat.le_of_ble_eq_true rfl) dX0_pairBound_2 ⟨Nat.zero_le _, Nat.zero_le _⟩ (fun hr2 => ?_)
  refine lv_aload_n hx hb dX0_pairBound_5 rfl (lv_at hl 0 rfl) ?_
  refine lv_iload_n hx hb dX0_pairBound_6 rfl (lv_at hl 2 rfl) ?_
  refine w_pVv (As := [.int (iI ((b : Int)))]) (rest := []) ⟨hx, hb, hml, hown, hts⟩ hK hP (mX0_requireMachine  (x := (b : Int)) hn hm.2 (by omega) (by omega)) (cwV 1 hts gX0_pairBound_X0_requireMachine rfl rfl rfl (by decide +kernel) ⟨Nat.le_of_ble_eq_true rfl, Nat.le_of_ble_eq_true rfl⟩) (ci := 0) rfl rfl rfl rfl hl.1 rfl (Nat.le_of_ble_eq_true rfl) dX0_pairBound_7 ⟨Nat.zero_le _, Nat.zero_le _⟩ (fun hr7 => ?_)
  refine lv_iload_n hx hb dX0_pairBound_10 rfl (lv_at hl 1 rfl) ?_
  refine lv_iload_n hx hb dX0_pairBound_11 rfl (lv_at hl 2 rfl) ?_
  refine w_icmp_lt (tgt := 25) hx hb dX0_pairBound_12 (by decide) ⟨by omega, by omega⟩ ⟨by omega, by omega⟩ (fun c12 => ?_) (fun c12 => absurd c12 (by omega))
  refine lv_aload_n hx hb dX0_pairBound_25 rfl (lv_at hl 0 rfl) ?_
  refine lv_iload_n hx hb dX0_pairBound_26 rfl (lv_at hl 1 rfl) ?_
  refine lv_iload_n hx hb dX0_pairBound_27 rfl (lv_at hl 2 rfl) ?_
  refine w_iV (As := [.int (iI ((a : Int))), .int (iI ((b : Int)))]) (rest := []) (wf := fun u : Unit => xw ad cI cZ nn mm tT tB tE tL oO (srt (gbr tT a b) oR nn) oQ zS zM zN oJ) (wr := []) ⟨hx, hb, hml, hown, hts⟩ hK hP hD hS hA (mX0_leastOfPair  hT hn (by omega) (by omega)) (cwV 2 hts gX0_pairBound_X0_leastOfPair rfl rfl rfl (by decide +kernel) ⟨Nat.le_of_ble_eq_true rfl, Nat.le_of_ble_eq_true rfl⟩) [0, 1, 2, 3, 4, 5, 6, 7, 8, 9, 10, 11] [] [0, 1, 2, 3, 4, 5, 6, 7, 8, 9, 10, 11] rfl rfl (by decide) (by decide) (by decide) (hwf := fun _ => rfl) (by decide) (ci := 0) rfl rfl rfl rfl hl.1 rfl (Nat.le_of_ble_eq_true rfl) dX0_pairBound_28 ⟨Nat.zero_le _, Nat.zero_le _⟩ (fun r28 u H locs hr28 hP hD hS => ?_)
  refine w_top (v := iI ((opS tT (srt (gbr tT a b) oR nn) a b nn))) (hr28) ?_
  refine lv_aload_n hx hb dX0_pairBound_31 rfl (lv_at hl 0 rfl) ?_
  refine lv_iconst (v := iI 0) hx hb dX0_pairBound_32 rfl ?_
  refine lv_iload_n hx hb dX0_pairBound_33 rfl (lv_at hl 1 rfl) ?_
  refine w_pV (As := [.int (iI 0), .int (iI ((a : Int)))]) (rest := [.int (iI ((opS tT (srt (gbr tT a b) oR nn) a b nn)))]) ⟨hx, hb, hml, hown, hts⟩ hK hP (mX0_leastSum  (fr := 0) (to := a) hT hn (by omega) (by omega)) (cwV 2 hts gX0_pairBound_X0_leastSum rfl rfl rfl (by decide +kernel) ⟨Nat.le_of_ble_eq_true rfl, Nat.le_of_ble_eq_true rfl⟩) (ci := 0) rfl rfl rfl rfl hl.1 rfl (Nat.le_of_ble_eq_true rfl) dX0_pairBound_34 ⟨Nat.zero_le _, Nat.zero_le _⟩ (fun r34 hr34 => ?_)
  refine w_top (v := iI ((lsX tT 0 a (nn - 1)))) (hr34) ?_
  refine w_iadd (z := (opS tT (srt (gbr tT a b) oR nn) a b nn) + (lsX tT 0 a (nn - 1))) hx hb dX0_pairBound_37 (by omega) ?_
  refine lv_aload_n hx hb dX0_pairBound_38 rfl (lv_at hl 0 rfl) ?_
  refine lv_iload_n hx hb dX0_pairBound_39 rfl (lv_at hl 2 rfl) ?_
  refine lv_iconst (v := iI 1) hx hb dX0_pairBound_40 rfl ?_
  refine w_iadd (z := (b : Int) + 1) hx hb dX0_pairBound_41 (by omega) ?_
  refine lv_aload_n hx hb dX0_pairBound_42 rfl (lv_at hl 0 rfl) ?_
  refine va_get (D := D) (ci := 0) (C := RX0) (T := TX0) (N := 13) hx hb hts inW hown hK hP 0 rfl rfl 1 (by decide) (hts (.fieldLink RX0 13 "Flowforge" "machineCount" "I") (List.mem_of_getElem? (i := 3) rfl)) (fun _ h9 => h9) rfl dX0_pairBound_43 ?_
  refine w_pV (As := [.int (iI ((((b + 1) : Nat) : Int))), .int (iI ((mm : Int)))]) (rest := [.int (iI ((opS tT (srt (gbr tT a b) oR nn) a b nn) + (lsX tT 0 a (nn - 1))))]) ⟨hx, hb, hml, hown, hts⟩ hK hP (mX0_leastSum  (fr := b + 1) (to := mm) hT hn (by omega) hm.2) (cwV 2 hts gX0_pairBound_X0_leastSum rfl rfl rfl (by decide +kernel) ⟨Nat.le_of_ble_eq_true rfl, Nat.le_of_ble_eq_true rfl⟩) (ci := 0) rfl rfl rfl rfl hl.1 (by rw [show (((b : Int) + 1) : Int) = (((b + 1) : Nat) : Int) by omega]; try rfl) (Nat.le_of_ble_eq_true rfl) dX0_pairBound_46 ⟨Nat.zero_le _, Nat.zero_le _⟩ (fun r46 hr46 => ?_)
  refine w_top (v := iI ((lsX tT (b + 1) mm (nn - 1)))) (hr46) ?_
  refine w_iadd (z := (opS tT (srt (gbr tT a b) oR nn) a b nn) + (lsX tT 0 a (nn - 1)) + (lsX tT (b + 1) mm (nn - 1))) hx hb dX0_pairBound_49 (by omega) ?_
  exact hret _ _ 50 ls _ (()) hP hD hS (rfl) dX0_pairBound_50
set_option maxHeartbeats 4000000 in
set_option maxRecDepth 100000 in
theorem mX0_best {v : Nat} (hT : ∀ k, 0 ≤ tT k ∧ tT k ≤ 99) (hn : nn ≤ 7) (hm : 1 ≤ mm ∧ mm ≤ 5) (hv : v ≤ 2) (hE : Enu nn) (hCK : CK mm tT nn zS zM zN oJ) (hMb : ∀ k, k ≤ 2 → 0 ≤ zM k ∧ zM k ≤ 1000000) : IM l yX0_best wsX0_best (rmx 5 119) D (tyk cI cZ cJ) (xw ad cI cZ nn mm tT tB tE tL oO oR oQ zS zM zN oJ) [.ref (ad 0), .int (iI ((v : Int)))] (QI D (tyk cI cZ cJ) (fun u : (Nat → Int) × (Nat → Int) × (Nat → Nat) × (Nat → Int) × (Nat → Int) × (Nat → Nat) × (Nat → Int) => xw ad cI cZ nn mm tT u.1 u.2.1 tL oO u.2.2.1 oQ u.2.2.2.2.2.2 u.2.2.2.1 u.2.2.2.2.1 u.2.2.2.2.2.1) (fun y u => y = iI (sol v mm tT nn).1 ∧ CK mm tT nn u.2.2.2.2.2.2 u.2.2.2.1 u.2.2.2.2.1 u.2.2.2.2.2.1 ∧ ∀ k, k ≤ 2 → 0 ≤ u.2.2.2.1 k ∧ u.2.2.2.1 k ≤ 1000000)) := by
  refine imI_of (cc := cX0_best) (maxL := 2) (by decide) rfl (Nat.le_of_ble_eq_true rfl) ?_
  intro p e s m args below meth c A Q hx hb hml hown hts hA hK hP hD hS hret ls hl
  have hown : s.vm.findClass RX0 = some m.cls := hown
  have hl : lv_has ls 2 [(0, .ref (ad 0)), (1, .int (iI ((v : Int))))] := hl
  have inW : ∀ w ∈ wsX00, w ∈ wsX0_best := by first | exact (fun w h => List.mem_cons_of_mem _ (List.mem_append_right _ h)) | exact (fun w h => List.mem_cons_of_mem _ (List.mem_append_left _ (List.mem_append_right _ h))) | exact (fun w h => List.mem_cons_of_mem _ (List.mem_append_left _ (List.mem_append_left _ (List.mem_append_right _ h)))) | decide +kernel
  refine lv_iload_n hx hb dX0_best_0 rfl (lv_at hl 1 rfl) ?_
  refine w_pSv (As := [.int (iI ((v : Int)))]) (rest := []) ⟨hx, hb, hml, hown, hts⟩ hK hP (mX0_requireVariant  (x := (v : Int)) (by omega) (by omega)) (va_cwS 1 hts gX0_best_X0_requireVariant rfl rfl rfl (by decide +kernel) ⟨Nat.le_of_ble_eq_true rfl, Nat.le_of_ble_eq_true rfl⟩) rfl hl.1 rfl (Nat.le_of_ble_eq_true rfl) dX0_best_1 ⟨Nat.zero_le _, Nat.zero_le _⟩ (fun hr1 => ?_)
  refine lv_aload_n hx hb dX0_best_4 rfl (lv_at hl 0 rfl) ?_
  refine lv_iload_n hx hb dX0_best_5 rfl (lv_at hl 1 rfl) ?_
  refine w_iVv (As := [.int (iI ((v : Int)))]) (rest := []) (wf := fun u : (Nat → Int) × (Nat → Int) × (Nat → Nat) × (Nat → Int) × (Nat → Int) × (Nat → Nat) × (Nat → Int) => xw ad cI cZ nn mm tT u.1 u.2.1 tL oO u.2.2.1 oQ u.2.2.2.2.2.2 u.2.2.2.1 u.2.2.2.2.1 u.2.2.2.2.2.1) (wr := []) ⟨hx, hb, hml, hown, hts⟩ hK hP hD hS hA (mX0_findBestOrder  hT hn hm hv hE hCK hMb) (cwV 1 hts gX0_best_X0_findBestOrder rfl rfl rfl (by decide +kernel) ⟨Nat.le_of_ble_eq_true rfl, Nat.le_of_ble_eq_true rfl⟩) [0, 1, 2, 3, 4, 5, 6, 7, 8, 9, 10, 11] [] [0, 1, 2, 3, 4, 5, 6, 7, 8, 9, 10, 11] rfl rfl (by decide) (by decide) (by decide) (hwf := fun _ => rfl) (by decide) (ci := 0) rfl rfl rfl rfl hl.1 rfl (Nat.le_of_ble_eq_true rfl) dX0_best_6 ⟨Nat.zero_le _, Nat.zero_le _⟩ (fun u H locs hr6 hP hD hS => ?_)
  obtain ⟨uB, uE, uR, uM, uN, uJ, uS⟩ := u
  obtain ⟨hC2, hV2, hM2⟩ := hr6
  have hP : va_P D vwCl (xw ad cI cZ nn mm tT uB uE tL oO uR oQ uS uM uN uJ) H := hP
  have hD : va_D A (xw ad cI cZ nn mm tT uB uE tL oO uR oQ uS uM uN uJ) := hD
  refine lv_aload_n hx hb dX0_best_9 rfl (lv_at hl 0 rfl) ?_
  refine va_get (D := D) (ci := 0) (C := RX0) (T := TX0) (N := 13) hx hb hts inW hown hK hP 0 rfl rfl 10 (by decide) (hts (.fieldLink RX0 42 "Flowforge" "leastMakespans" "[I") (List.mem_of_getElem? (i := 1) rfl)) (fun _ h9 => h9) rfl dX0_best_10 ?_
  refine lv_iload_n hx hb dX0_best_13 rfl (lv_at hl 1 rfl) ?_
  refine w_iald (v := iI ((sol v mm tT nn).1)) hx hb hK hP 9 0 rfl rfl (v) (by omega) (by omega) (by decide) (congrArg iI hV2.1) dX0_best_14 ?_
  exact hret _ _ 15 ls _ ((uB, uE, uR, uM, uN, uJ, uS)) hP hD hS (⟨rfl, hC2, hM2⟩) dX0_best_15
set_option maxHeartbeats 4000000 in
set_option maxRecDepth 100000 in
theorem mX0_bestAt {v q : Nat} (hT : ∀ k, 0 ≤ tT k ∧ tT k ≤ 99) (hn : nn ≤ 7) (hm : 1 ≤ mm ∧ mm ≤ 5) (hv : v ≤ 2) (hq : q < nn) (hE : Enu nn) (hCK : CK mm tT nn zS zM zN oJ) (hMb : ∀ k, k ≤ 2 → 0 ≤ zM k ∧ zM k ≤ 1000000) : IM l yX0_bestAt wsX0_bestAt (rmx 5 119) D (tyk cI cZ cJ) (xw ad cI cZ nn mm tT tB tE tL oO oR oQ zS zM zN oJ) [.ref (ad 0), .int (iI ((v : Int))), .int (iI ((q : Int)))] (QI D (tyk cI cZ cJ) (fun u : (Nat → Int) × (Nat → Int) × (Nat → Nat) × (Nat → Int) × (Nat → Int) × (Nat → Nat) × (Nat → Int) => xw ad cI cZ nn mm tT u.1 u.2.1 tL oO u.2.2.1 oQ u.2.2.2.2.2.2 u.2.2.2.1 u.2.2.2.2.1 u.2.2.2.2.2.1) (fun y u => y = iI ((solJ v mm tT nn q : Nat) : Int) ∧ CK mm tT nn u.2.2.2.2.2.2 u.2.2.2.1 u.2.2.2.2.1 u.2.2.2.2.2.1 ∧ ∀ k, k ≤ 2 → 0 ≤ u.2.2.2.1 k ∧ u.2.2.2.1 k ≤ 1000000)) := by
  refine imI_of (cc := cX0_bestAt) (maxL := 3) (by decide) rfl (Nat.le_of_ble_eq_true rfl) ?_
  intro p e s m args below meth c A Q hx hb hml hown hts hA hK hP hD hS hret ls hl
  have hown : s.vm.findClass RX0 = some m.cls := hown
  have hl : lv_has ls 3 [(0, .ref (ad 0)), (1, .int (iI ((v : Int)))), (2, .int (iI ((q : Int))))] := hl
  have inW : ∀ w ∈ wsX00, w ∈ wsX0_bestAt := by first | exact (fun w h => List.mem_cons_of_mem _ (List.mem_append_right _ h)) | exact (fun w h => List.mem_cons_of_mem _ (List.mem_append_left _ (List.mem_append_right _ h))) | exact (fun w h => List.mem_cons_of_mem _ (List.mem_append_left _ (List.mem_append_left _ (List.mem_append_right _ h)))) | decide +kernel
  refine lv_iload_n hx hb dX0_bestAt_0 rfl (lv_at hl 1 rfl) ?_
  refine w_pSv (As := [.int (iI ((v : Int)))]) (rest := []) ⟨hx, hb, hml, hown, hts⟩ hK hP (mX0_requireVariant  (x := (v : Int)) (by omega) (by omega)) (va_cwS 1 hts gX0_bestAt_X0_requireVariant rfl rfl rfl (by decide +kernel) ⟨Nat.le_of_ble_eq_true rfl, Nat.le_of_ble_eq_true rfl⟩) rfl hl.1 rfl (Nat.le_of_ble_eq_true rfl) dX0_bestAt_1 ⟨Nat.zero_le _, Nat.zero_le _⟩ (fun hr1 => ?_)
  refine lv_aload_n hx hb dX0_bestAt_4 rfl (lv_at hl 0 rfl) ?_
  refine lv_iload_n hx hb dX0_bestAt_5 rfl (lv_at hl 2 rfl) ?_
  refine w_pVv (As := [.int (iI ((q : Int)))]) (rest := []) ⟨hx, hb, hml, hown, hts⟩ hK hP (mX0_requirePlace  (x := (q : Int)) hn hm.2 (by omega) (by omega)) (cwV 1 hts gX0_bestAt_X0_requirePlace rfl rfl rfl (by decide +kernel) ⟨Nat.le_of_ble_eq_true rfl, Nat.le_of_ble_eq_true rfl⟩) (ci := 0) rfl rfl rfl rfl hl.1 rfl (Nat.le_of_ble_eq_true rfl) dX0_bestAt_6 ⟨Nat.zero_le _, Nat.zero_le _⟩ (fun hr6 => ?_)
  refine lv_aload_n hx hb dX0_bestAt_9 rfl (lv_at hl 0 rfl) ?_
  refine lv_iload_n hx hb dX0_bestAt_10 rfl (lv_at hl 1 rfl) ?_
  refine w_iVv (As := [.int (iI ((v : Int)))]) (rest := []) (wf := fun u : (Nat → Int) × (Nat → Int) × (Nat → Nat) × (Nat → Int) × (Nat → Int) × (Nat → Nat) × (Nat → Int) => xw ad cI cZ nn mm tT u.1 u.2.1 tL oO u.2.2.1 oQ u.2.2.2.2.2.2 u.2.2.2.1 u.2.2.2.2.1 u.2.2.2.2.2.1) (wr := []) ⟨hx, hb, hml, hown, hts⟩ hK hP hD hS hA (mX0_findBestOrder  hT hn hm hv hE hCK hMb) (cwV 1 hts gX0_bestAt_X0_findBestOrder rfl rfl rfl (by decide +kernel) ⟨Nat.le_of_ble_eq_true rfl, Nat.le_of_ble_eq_true rfl⟩) [0, 1, 2, 3, 4, 5, 6, 7, 8, 9, 10, 11] [] [0, 1, 2, 3, 4, 5, 6, 7, 8, 9, 10, 11] rfl rfl (by decide) (by decide) (by decide) (hwf := fun _ => rfl) (by decide) (ci := 0) rfl rfl rfl rfl hl.1 rfl (Nat.le_of_ble_eq_true rfl) dX0_bestAt_11 ⟨Nat.zero_le _, Nat.zero_le _⟩ (fun u H locs hr11 hP hD hS => ?_)
  obtain ⟨uB, uE, uR, uM, uN, uJ, uS⟩ := u
  obtain ⟨hC2, hV2, hM2⟩ := hr11
  have hP : va_P D vwCl (xw ad cI cZ nn mm tT uB uE tL oO uR oQ uS uM uN uJ) H := hP
  have hD : va_D A (xw ad cI cZ nn mm tT uB uE tL oO uR oQ uS uM uN uJ) := hD
  refine lv_aload_n hx hb dX0_bestAt_14 rfl (lv_at hl 0 rfl) ?_
  refine va_get (D := D) (ci := 0) (C := RX0) (T := TX0) (N := 13) hx hb hts inW hown hK hP 0 rfl rfl 12 (by decide) (hts (.fieldLink RX0 48 "Flowforge" "bestJobs" "[I") (List.mem_of_getElem? (i := 1) rfl)) (fun _ h9 => h9) rfl dX0_bestAt_15 ?_
  refine lv_iload_n hx hb dX0_bestAt_18 rfl (lv_at hl 1 rfl) ?_
  refine lv_bipush (v := iI 7) hx hb dX0_bestAt_19 (by decide) ?_
  refine w_imul (z := 7 * (v : Int)) hx hb dX0_bestAt_21 (by omega) ?_
  refine lv_iload_n hx hb dX0_bestAt_22 rfl (lv_at hl 2 rfl) ?_
  refine w_iadd (z := 7 * (v : Int) + (q : Int)) hx hb dX0_bestAt_23 (by omega) ?_
  refine w_iald (v := iI ((solJ v mm tT nn q : Nat) : Int)) hx hb hK hP 11 0 rfl rfl (7 * v + q) (by omega) (by omega) (by decide) (congrArg (fun q : Nat => iI (q : Int)) (hV2.2.2 q hq)) dX0_bestAt_24 ?_
  exact hret _ _ 25 ls _ ((uB, uE, uR, uM, uN, uJ, uS)) hP hD hS (⟨rfl, hC2, hM2⟩) dX0_bestAt_25
set_option maxHeartbeats 4000000 in
set_option maxRecDepth 100000 in
theorem mX0_bestOrders {v : Nat} (hT : ∀ k, 0 ≤ tT k ∧ tT k ≤ 99) (hn : nn ≤ 7) (hm : 1 ≤ mm ∧ mm ≤ 5) (hv : v ≤ 2) (hE : Enu nn) (hCK : CK mm tT nn zS zM zN oJ) (hMb : ∀ k, k ≤ 2 → 0 ≤ zM k ∧ zM k ≤ 1000000) : IM l yX0_bestOrders wsX0_bestOrders (rmx 5 119) D (tyk cI cZ cJ) (xw ad cI cZ nn mm tT tB tE tL oO oR oQ zS zM zN oJ) [.ref (ad 0), .int (iI ((v : Int)))] (QI D (tyk cI cZ cJ) (fun u : (Nat → Int) × (Nat → Int) × (Nat → Nat) × (Nat → Int) × (Nat → Int) × (Nat → Nat) × (Nat → Int) => xw ad cI cZ nn mm tT u.1 u.2.1 tL oO u.2.2.1 oQ u.2.2.2.2.2.2 u.2.2.2.1 u.2.2.2.2.1 u.2.2.2.2.2.1) (fun y u => y = iI ((sol v mm tT nn).2.1 : Int) ∧ CK mm tT nn u.2.2.2.2.2.2 u.2.2.2.1 u.2.2.2.2.1 u.2.2.2.2.2.1 ∧ ∀ k, k ≤ 2 → 0 ≤ u.2.2.2.1 k ∧ u.2.2.2.1 k ≤ 1000000)) := by
  refine imI_of (cc := cX0_bestOrders) (maxL := 2) (by decide) rfl (Nat.le_of_ble_eq_true rfl) ?_
  intro p e s m args below meth c A Q hx hb hml hown hts hA hK hP hD hS hret ls hl
  have hown : s.vm.findClass RX0 = some m.cls := hown
  have hl : lv_has ls 2 [(0, .ref (ad 0)), (1, .int (iI ((v : Int))))] := hl
  have inW : ∀ w ∈ wsX00, w ∈ wsX0_bestOrders := by first | exact (fun w h => List.mem_cons_of_mem _ (List.mem_append_right _ h)) | exact (fun w h => List.mem_cons_of_mem _ (List.mem_append_left _ (List.mem_append_right _ h))) | exact (fun w h => List.mem_cons_of_mem _ (List.mem_append_left _ (List.mem_append_left _ (List.mem_append_right _ h)))) | decide +kernel
  refine lv_iload_n hx hb dX0_bestOrders_0 rfl (lv_at hl 1 rfl) ?_
  refine w_pSv (As := [.int (iI ((v : Int)))]) (rest := []) ⟨hx, hb, hml, hown, hts⟩ hK hP (mX0_requireVariant  (x := (v : Int)) (by omega) (by omega)) (va_cwS 1 hts gX0_bestOrders_X0_requireVariant rfl rfl rfl (by decide +kernel) ⟨Nat.le_of_ble_eq_true rfl, Nat.le_of_ble_eq_true rfl⟩) rfl hl.1 rfl (Nat.le_of_ble_eq_true rfl) dX0_bestOrders_1 ⟨Nat.zero_le _, Nat.zero_le _⟩ (fun hr1 => ?_)
  refine lv_aload_n hx hb dX0_bestOrders_4 rfl (lv_at hl 0 rfl) ?_
  refine lv_iload_n hx hb dX0_bestOrders_5 rfl (lv_at hl 1 rfl) ?_
  refine w_iVv (As := [.int (iI ((v : Int)))]) (rest := []) (wf := fun u : (Nat → Int) × (Nat → Int) × (Nat → Nat) × (Nat → Int) × (Nat → Int) × (Nat → Nat) × (Nat → Int) => xw ad cI cZ nn mm tT u.1 u.2.1 tL oO u.2.2.1 oQ u.2.2.2.2.2.2 u.2.2.2.1 u.2.2.2.2.1 u.2.2.2.2.2.1) (wr := []) ⟨hx, hb, hml, hown, hts⟩ hK hP hD hS hA (mX0_findBestOrder  hT hn hm hv hE hCK hMb) (cwV 1 hts gX0_bestOrders_X0_findBestOrder rfl rfl rfl (by decide +kernel) ⟨Nat.le_of_ble_eq_true rfl, Nat.le_of_ble_eq_true rfl⟩) [0, 1, 2, 3, 4, 5, 6, 7, 8, 9, 10, 11] [] [0, 1, 2, 3, 4, 5, 6, 7, 8, 9, 10, 11] rfl rfl (by decide) (by decide) (by decide) (hwf := fun _ => rfl) (by decide) (ci := 0) rfl rfl rfl rfl hl.1 rfl (Nat.le_of_ble_eq_true rfl) dX0_bestOrders_6 ⟨Nat.zero_le _, Nat.zero_le _⟩ (fun u H locs hr6 hP hD hS => ?_)
  obtain ⟨uB, uE, uR, uM, uN, uJ, uS⟩ := u
  obtain ⟨hC2, hV2, hM2⟩ := hr6
  have hP : va_P D vwCl (xw ad cI cZ nn mm tT uB uE tL oO uR oQ uS uM uN uJ) H := hP
  have hD : va_D A (xw ad cI cZ nn mm tT uB uE tL oO uR oQ uS uM uN uJ) := hD
  refine lv_aload_n hx hb dX0_bestOrders_9 rfl (lv_at hl 0 rfl) ?_
  refine va_get (D := D) (ci := 0) (C := RX0) (T := TX0) (N := 13) hx hb hts inW hown hK hP 0 rfl rfl 11 (by decide) (hts (.fieldLink RX0 45 "Flowforge" "leastCounts" "[I") (List.mem_of_getElem? (i := 1) rfl)) (fun _ h9 => h9) rfl dX0_bestOrders_10 ?_
  refine lv_iload_n hx hb dX0_bestOrders_13 rfl (lv_at hl 1 rfl) ?_
  refine w_iald (v := iI (((sol v mm tT nn).2.1 : Int))) hx hb hK hP 10 0 rfl rfl (v) (by omega) (by omega) (by decide) (congrArg iI hV2.2.1) dX0_bestOrders_14 ?_
  exact hret _ _ 15 ls _ ((uB, uE, uR, uM, uN, uJ, uS)) hP hD hS (⟨rfl, hC2, hM2⟩) dX0_bestOrders_15
set_option maxHeartbeats 4000000 in
set_option maxRecDepth 100000 in
theorem mX0_gap (hT : ∀ k, 0 ≤ tT k ∧ tT k ≤ 99) (hn : nn ≤ 7) (hm : 1 ≤ mm ∧ mm ≤ 5) (hO : ∀ k, k < nn → oO k < 7) (hE : Enu nn) (hCK : CK mm tT nn zS zM zN oJ) (hMb : ∀ k, k ≤ 2 → 0 ≤ zM k ∧ zM k ≤ 1000000) : IM l yX0_gap wsX0_gap (rmx 5 119) D (tyk cI cZ cJ) (xw ad cI cZ nn mm tT tB tE tL oO oR oQ zS zM zN oJ) [.ref (ad 0)] (QD D (tyk cI cZ cJ) (fun u : (Nat → Int) × (Nat → Int) × (Nat → Nat) × (Nat → Int) × (Nat → Int) × (Nat → Nat) × (Nat → Int) => xw ad cI cZ nn mm tT u.1 u.2.1 tL oO u.2.2.1 oQ u.2.2.2.2.2.2 u.2.2.2.1 u.2.2.2.2.1 u.2.2.2.2.2.1) (fun y u => y = gapD (mk 0 mm tT oO nn) (sol 0 mm tT nn).1 ∧ CK mm tT nn u.2.2.2.2.2.2 u.2.2.2.1 u.2.2.2.2.1 u.2.2.2.2.2.1 ∧ ∀ k, k ≤ 2 → 0 ≤ u.2.2.2.1 k ∧ u.2.2.2.1 k ≤ 1000000)) := by
  refine imD_of (cc := cX0_gap) (maxL := 3) (by decide) rfl (Nat.le_of_ble_eq_true rfl) ?_
  intro p e s m args below meth c A Q hx hb hml hown hts hA hK hP hD hS hret ls hl
  have hown : s.vm.findClass RX0 = some m.cls := hown
  have hl : lv_has ls 3 [(0, .ref (ad 0))] := hl
  have inW : ∀ w ∈ wsX00, w ∈ wsX0_gap := by first | exact (fun w h => List.mem_cons_of_mem _ (List.mem_append_right _ h)) | exact (fun w h => List.mem_cons_of_mem _ (List.mem_append_left _ (List.mem_append_right _ h))) | exact (fun w h => List.mem_cons_of_mem _ (List.mem_append_left _ (List.mem_append_left _ (List.mem_append_right _ h)))) | decide +kernel
  refine lv_aload_n hx hb dX0_gap_0 rfl (lv_at hl 0 rfl) ?_
  refine lv_iconst (v := iI 0) hx hb dX0_gap_1 rfl ?_
  refine w_iV (As := [.int (iI 0)]) (rest := []) (wf := fun u : (Nat → Int) × (Nat → Int) => xw ad cI cZ nn mm tT u.1 u.2 tL oO oR oQ zS zM zN oJ) (wr := []) ⟨hx, hb, hml, hown, hts⟩ hK hP hD hS hA (mX0_scheduleOrder (v := 0) hT hn hm (by omega) hO) (cwV 1 hts gX0_gap_X0_scheduleOrder rfl rfl rfl (by decide +kernel) ⟨Nat.le_of_ble_eq_true rfl, Nat.le_of_ble_eq_true rfl⟩) [0, 1, 2, 3, 4, 5, 6, 7, 8, 9, 10, 11] [] [0, 1, 2, 3, 4, 5, 6, 7, 8, 9, 10, 11] rfl rfl (by decide) (by decide) (by decide) (hwf := fun _ => rfl) (by decide) (ci := 0) rfl rfl rfl rfl hl.1 rfl (Nat.le_of_ble_eq_true rfl) dX0_gap_2 ⟨Nat.zero_le _, Nat.zero_le _⟩ (fun r2 u H locs hr2 hP hD hS => ?_)
  obtain ⟨uB, uE⟩ := u
  obtain ⟨hq2, hR⟩ := hr2
  have hP : va_P D vwCl (xw ad cI cZ nn mm tT uB uE tL oO oR oQ zS zM zN oJ) H := hP
  have hD : va_D A (xw ad cI cZ nn mm tT uB uE tL oO oR oQ zS zM zN oJ) := hD
  refine w_top (v := iI ((mk 0 mm tT oO nn))) (hq2) ?_
  refine lv_istore_n (lv' := [(1, .int (iI ((mk 0 mm tT oO nn)))), (0, .ref (ad 0))]) hx hb dX0_gap_5 rfl hl (by decide) rfl (fun ls hl => ?_)
  refine lv_aload_n hx hb dX0_gap_6 rfl (lv_at hl 1 rfl) ?_
  refine lv_iconst (v := iI 0) hx hb dX0_gap_7 rfl ?_
  refine w_iVv (As := [.int (iI 0)]) (rest := []) (wf := fun u : (Nat → Int) × (Nat → Int) × (Nat → Nat) × (Nat → Int) × (Nat → Int) × (Nat → Nat) × (Nat → Int) => xw ad cI cZ nn mm tT u.1 u.2.1 tL oO u.2.2.1 oQ u.2.2.2.2.2.2 u.2.2.2.1 u.2.2.2.2.1 u.2.2.2.2.2.1) (wr := []) ⟨hx, hb, hml, hown, hts⟩ hK hP hD hS hA (mX0_findBestOrder (v := 0) hT hn hm (by omega) hE hCK hMb) (cwV 1 hts gX0_gap_X0_findBestOrder rfl rfl rfl (by decide +kernel) ⟨Nat.le_of_ble_eq_true rfl, Nat.le_of_ble_eq_true rfl⟩) [0, 1, 2, 3, 4, 5, 6, 7, 8, 9, 10, 11] [] [0, 1, 2, 3, 4, 5, 6, 7, 8, 9, 10, 11] rfl rfl (by decide) (by decide) (by decide) (hwf := fun _ => rfl) (by decide) (ci := 0) rfl rfl rfl rfl hl.1 rfl (Nat.le_of_ble_eq_true rfl) dX0_gap_8 ⟨Nat.zero_le _, Nat.zero_le _⟩ (fun u H locs hr8 hP hD hS => ?_)
  obtain ⟨uB, uE, uR, uM, uN, uJ, uS⟩ := u
  obtain ⟨hC2, hV2, hM2⟩ := hr8
  have hP : va_P D vwCl (xw ad cI cZ nn mm tT uB uE tL oO uR oQ uS uM uN uJ) H := hP
  have hD : va_D A (xw ad cI cZ nn mm tT uB uE tL oO uR oQ uS uM uN uJ) := hD
  refine lv_aload_n hx hb dX0_gap_11 rfl (lv_at hl 1 rfl) ?_
  refine va_get (D := D) (ci := 0) (C := RX0) (T := TX0) (N := 13) hx hb hts inW hown hK hP 0 rfl rfl 10 (by decide) (hts (.fieldLink RX0 42 "Flowforge" "leastMakespans" "[I") (List.mem_of_getElem? (i := 1) rfl)) (fun _ h9 => h9) rfl dX0_gap_12 ?_
  refine lv_iconst (v := iI 0) hx hb dX0_gap_15 rfl ?_
  refine w_iald (v := iI ((sol 0 mm tT nn).1)) hx hb hK hP 9 0 rfl rfl (0) (by omega) (by omega) (by decide) (congrArg iI hV2.1) dX0_gap_16 ?_
  refine lv_istore_n (lv' := [(2, .int (iI (((sol 0 mm tT nn).1)))), (1, .int (iI ((mk 0 mm tT oO nn)))), (0, .ref (ad 0))]) hx hb dX0_gap_17 rfl hl (by decide) rfl (fun ls hl => ?_)
  have h9 := (sol_rg (v := 0) hm hT hn).1
  refine lv_iload_n hx hb dX0_gap_18 rfl (lv_at hl 0 rfl) ?_
  refine w_if_ne (tgt := 24) hx hb dX0_gap_19 (by decide) ⟨by omega, by omega⟩ (fun c19 => ?_) (fun c19 => ?_)
  · refine lv_iload_n hx hb dX0_gap_24 rfl (lv_at hl 1 rfl) ?_
    refine lv_iload_n hx hb dX0_gap_25 rfl (lv_at hl 0 rfl) ?_
    refine w_isub (z := (mk 0 mm tT oO nn) - ((sol 0 mm tT nn).1)) hx hb dX0_gap_26 (by omega) ?_
    refine lv_i2d hx hb dX0_gap_27 ?_
    refine lv_iload_n hx hb dX0_gap_28 rfl (lv_at hl 0 rfl) ?_
    refine lv_i2d hx hb dX0_gap_29 ?_
    refine lv_ddiv hx hb dX0_gap_30 (gp_nan (fun q => c19 ((iI_eq (b := 0) ⟨by omega, by omega⟩ ⟨by omega, by omega⟩).mp q))) ?_
    exact hret _ _ 31 ls _ ((uB, uE, uR, uM, uN, uJ, uS)) hP hD hS (⟨by unfold gapD; rw [if_neg (by omega)], hC2, hM2⟩) dX0_gap_31
  · refine lv_dconst0 hx hb dX0_gap_22 ?_
    exact hret _ _ 23 ls _ ((uB, uE, uR, uM, uN, uJ, uS)) hP hD hS (⟨by unfold gapD; rw [if_pos (by omega)], hC2, hM2⟩) dX0_gap_23
set_option maxHeartbeats 4000000 in
set_option maxRecDepth 100000 in
theorem mX0_orderByInsertion (hT : ∀ k, 0 ≤ tT k ∧ tT k ≤ 99) (hn : nn ≤ 7) (hm : 1 ≤ mm ∧ mm ≤ 5) (hO : ∀ k, k < nn → oO k < 7) : IM l yX0_orderByInsertion wsX0_orderByInsertion (rmx 6 144) D (tyk cI cZ cJ) (xw ad cI cZ nn mm tT tB tE tL oO oR oQ zS zM zN oJ) [.ref (ad 0)] (QI D (tyk cI cZ cJ) (fun u : (Nat → Nat) × (Nat → Int) × (Nat → Int) => xw ad cI cZ nn mm tT u.2.1 u.2.2 tL (insO tT mm nn oO oQ) u.1 (srt (bqs tT mm) oQ nn) zS zM zN oJ) (fun y u => y = iI (mk 0 mm tT (insO tT mm nn oO oQ) nn))) := by
  refine imI_of (cc := cX0_orderByInsertion) (maxL := 2) (by decide) rfl (Nat.le_of_ble_eq_true rfl) ?_
  intro p e s m args below meth c A Q hx hb hml hown hts hA hK hP hD hS hret ls hl
  have hown : s.vm.findClass RX0 = some m.cls := hown
  have hl : lv_has ls 2 [(0, .ref (ad 0))] := hl
  have inW : ∀ w ∈ wsX00, w ∈ wsX0_orderByInsertion := by first | exact (fun w h => List.mem_cons_of_mem _ (List.mem_append_right _ h)) | exact (fun w h => List.mem_cons_of_mem _ (List.mem_append_left _ (List.mem_append_right _ h))) | exact (fun w h => List.mem_cons_of_mem _ (List.mem_append_left _ (List.mem_append_left _ (List.mem_append_right _ h)))) | decide +kernel
  refine lv_aload_n hx hb dX0_orderByInsertion_0 rfl (lv_at hl 0 rfl) ?_
  refine w_iVv (As := []) (rest := []) (wf := fun u : Unit => xw ad cI cZ nn mm tT tB tE tL oO oR (srt (bqs tT mm) oQ nn) zS zM zN oJ) (wr := []) ⟨hx, hb, hml, hown, hts⟩ hK hP hD hS hA (mX0_fillQueueBySum  hT hn hm) (cwV 0 hts gX0_orderByInsertion_X0_fillQueueBySum rfl rfl rfl (by decide +kernel) ⟨Nat.le_of_ble_eq_true rfl, Nat.le_of_ble_eq_true rfl⟩) [0, 1, 2, 3, 4, 5, 6, 7, 8, 9, 10, 11] [] [0, 1, 2, 3, 4, 5, 6, 7, 8, 9, 10, 11] rfl rfl (by decide) (by decide) (by decide) (hwf := fun _ => rfl) (by decide) (ci := 0) rfl rfl rfl rfl hl.1 rfl (Nat.le_of_ble_eq_true rfl) dX0_orderByInsertion_1 ⟨Nat.zero_le _, Nat.zero_le _⟩ (fun u H locs hr1 hP hD hS => ?_)
  have hq9 : ∀ k, k < nn → (srt (bqs tT mm) oQ nn) k < 7 := fun k hk => Nat.lt_of_lt_of_le (srt_lt hk) hn
  have hi9 : ∀ i, i ≤ nn → ∀ k, k < nn → ini tT mm oO (srt (bqs tT mm) oQ nn) i k < 7 := ini_lt hO hq9
  refine lv_iconst (v := iI 0) hx hb dX0_orderByInsertion_4 rfl ?_
  refine lv_istore_n (lv' := [(1, .int (iI 0)), (0, .ref (ad 0))]) hx hb dX0_orderByInsertion_5 rfl hl (by decide) rfl (fun ls hl => ?_)
  have L6 : ∀ (fu : Nat) (i : Nat) (worder6 : Nat → Nat) (wtrial6 : Nat → Nat) (wbegins6 : Nat → Int) (wends6 : Nat → Int) (x1_6 : Int), (i ≤ nn) → (worder6 = ini tT mm oO (srt (bqs tT mm) oQ nn) i) → (x1_6 = (i : Int)) → nn - i < fu → ∀ (H : Heap) (locs : List Loc), va_P D vwCl (xw ad cI cZ nn mm tT wbegins6 wends6 tL worder6 wtrial6 (srt (bqs tT mm) oQ nn) zS zM zN oJ) H → va_D A (xw ad cI cZ nn mm tT wbegins6 wends6 tL worder6 wtrial6 (srt (bqs tT mm) oQ nn) zS zM zN oJ) → va_S A s.heap H locs → ∀ ls : Array Slot, lv_has ls 2 [(1, .int (iI (x1_6))), (0, .ref (ad 0))] → W p l e (rmx 6 144) s m args below meth c H locs 0 0 Q (F0 m 6 ls []) := by
    intro fu
    induction fu with
    | zero =>
      intro i worder6 wtrial6 wbegins6 wends6 x1_6 hi hq0 hq1 hfu
      exact absurd hfu (Nat.not_lt_zero _)
    | succ fu ih =>
      intro i worder6 wtrial6 wbegins6 wends6 x1_6 hi hq0 hq1 hfu H locs hP hD hS ls hl
      subst hq0
      subst hq1
      have ih6 := ih
      refine lv_iload_n hx hb dX0_orderByInsertion_6 rfl (lv_at hl 0 rfl) ?_
      refine lv_aload_n hx hb dX0_orderByInsertion_7 rfl (lv_at hl 1 rfl) ?_
      refine va_get (D := D) (ci := 0) (C := RX0) (T := TX0) (N := 13) hx hb hts inW hown hK hP 0 rfl rfl 0 (by decide) (hts (.fieldLink RX0 7 "Flowforge" "jobCount" "I") (List.mem_of_getElem? (i := 1) rfl)) (fun _ h9 => h9) rfl dX0_orderByInsertion_8 ?_
      refine w_icmp_ge (tgt := 45) hx hb dX0_orderByInsertion_11 (by decide) ⟨by omega, by omega⟩ ⟨by omega, by omega⟩ (fun c11 => ?_) (fun c11 => ?_)
      · obtain rfl : nn = i := by omega
        refine lv_aload_n hx hb dX0_orderByInsertion_45 rfl (lv_at hl 1 rfl) ?_
        refine lv_iconst (v := iI 0) hx hb dX0_orderByInsertion_46 rfl ?_
        refine w_iV (As := [.int (iI 0)]) (rest := []) (wf := fun u : (Nat → Int) × (Nat → Int) => xw ad cI cZ nn mm tT u.1 u.2 tL (ini tT mm oO (srt (bqs tT mm) oQ nn) nn) wtrial6 (srt (bqs tT mm) oQ nn) zS zM zN oJ) (wr := []) ⟨hx, hb, hml, hown, hts⟩ hK hP hD hS hA (mX0_scheduleOrder (v := 0) hT hn hm (by omega) (hi9 nn (Nat.le_refl _))) (cwV 1 hts gX0_orderByInsertion_X0_scheduleOrder rfl rfl rfl (by decide +kernel) ⟨Nat.le_of_ble_eq_true rfl, Nat.le_of_ble_eq_true rfl⟩) [0, 1, 2, 3, 4, 5, 6, 7, 8, 9, 10, 11] [] [0, 1, 2, 3, 4, 5, 6, 7, 8, 9, 10, 11] rfl rfl (by decide) (by decide) (by decide) (hwf := fun _ => rfl) (by decide) (ci := 0) rfl rfl rfl rfl hl.1 rfl (Nat.le_of_ble_eq_true rfl) dX0_orderByInsertion_47 ⟨Nat.zero_le _, Nat.zero_le _⟩ (fun r47 u H locs hr47 hP hD hS => ?_)
        obtain ⟨uB, uE⟩ := u
        obtain ⟨hq47, hR⟩ := hr47
        have hP : va_P D vwCl (xw ad cI cZ nn mm tT uB uE tL (ini tT mm oO (srt (bqs tT mm) oQ nn) nn) wtrial6 (srt (bqs tT mm) oQ nn) zS zM zN oJ) H := hP
        have hD : va_D A (xw ad cI cZ nn mm tT uB uE tL (ini tT mm oO (srt (bqs tT mm) oQ nn) nn) wtrial6 (srt (bqs tT mm) oQ nn) zS zM zN oJ) := hD
        refine w_top (v := iI ((mk 0 mm tT (ini tT mm oO (srt (bqs tT mm) oQ nn) nn) nn))) (hq47) ?_
        exact hret _ _ 50 ls _ ((wtrial6, uB, uE)) hP hD hS (rfl) dX0_orderByInsertion_50
      · refine lv_aload_n hx hb dX0_orderByInsertion_14 rfl (lv_at hl 1 rfl) ?_
        refine va_get (D := D) (ci := 0) (C := RX0) (T := TX0) (N := 13) hx hb hts inW hown hK hP 0 rfl rfl 6 (by decide) (hts (.fieldLink RX0 29 "Flowforge" "order" "[I") (List.mem_of_getElem? (i := 2) rfl)) (fun _ h9 => h9) rfl dX0_orderByInsertion_15 ?_
        refine lv_iload_n hx hb dX0_orderByInsertion_18 rfl (lv_at hl 0 rfl) ?_
        refine lv_aload_n hx hb dX0_orderByInsertion_19 rfl (lv_at hl 1 rfl) ?_
        refine va_get (D := D) (ci := 0) (C := RX0) (T := TX0) (N := 13) hx hb hts inW hown hK hP 0 rfl rfl 8 (by decide) (hts (.fieldLink RX0 35 "Flowforge" "queue" "[I") (List.mem_of_getElem? (i := 3) rfl)) (fun _ h9 => h9) rfl dX0_orderByInsertion_20 ?_
        refine lv_iload_n hx hb dX0_orderByInsertion_23 rfl (lv_at hl 0 rfl) ?_
        refine w_iald (v := iI (((srt (bqs tT mm) oQ nn) i : Nat) : Int)) hx hb hK hP 7 0 rfl rfl (i) (by omega) (by omega) (by decide) rfl dX0_orderByInsertion_24 ?_
        refine w_iast (g := jI (va_up (ini tT mm oO (srt (bqs tT mm) oQ nn) i) i (((srt (bqs tT mm) oQ nn) i)))) (ws' := xw ad cI cZ nn mm tT wbegins6 wends6 tL (va_up (ini tT mm oO (srt (bqs tT mm) oQ nn) i) i (((srt (bqs tT mm) oQ nn) i))) wtrial6 (srt (bqs tT mm) oQ nn) zS zM zN oJ) hx hb hK hP hD hS 5 0 rfl rfl (i) (by omega) (by omega) (by decide) (hg := jI_up) (hw := rfl) (hd := dX0_orderByInsertion_25) (kk := fun H locs hP hD hS => ?_)
        refine lv_aload_n hx hb dX0_orderByInsertion_26 rfl (lv_at hl 1 rfl) ?_
        refine va_get (D := D) (ci := 0) (C := RX0) (T := TX0) (N := 13) hx hb hts inW hown hK hP 0 rfl rfl 6 (by decide) (hts (.fieldLink RX0 29 "Flowforge" "order" "[I") (List.mem_of_getElem? (i := 2) rfl)) (fun _ h9 => h9) rfl dX0_orderByInsertion_27 ?_
        refine lv_iload_n hx hb dX0_orderByInsertion_30 rfl (lv_at hl 0 rfl) ?_
        refine lv_aload_n hx hb dX0_orderByInsertion_31 rfl (lv_at hl 1 rfl) ?_
        refine lv_iload_n hx hb dX0_orderByInsertion_32 rfl (lv_at hl 0 rfl) ?_
        refine w_iV (As := [.int (iI ((i : Int)))]) (rest := [.int (iI ((i : Int))), .ref (ad 5)]) (wf := fun u : (Nat → Nat) × (Nat → Int) × (Nat → Int) => xw ad cI cZ nn mm tT u.2.1 u.2.2 tL (va_up (ini tT mm oO (srt (bqs tT mm) oQ nn) i) i (((srt (bqs tT mm) oQ nn) i))) u.1 (srt (bqs tT mm) oQ nn) zS zM zN oJ) (wr := []) ⟨hx, hb, hml, hown, hts⟩ hK hP hD hS hA (mX0_placeForLast  hT hn hm (by omega) (up_lt (hq9 i (by omega)) (hi9 i hi))) (cwV 1 hts gX0_orderByInsertion_X0_placeForLast rfl rfl rfl (by decide +kernel) ⟨Nat.le_of_ble_eq_true rfl, Nat.le_of_ble_eq_true rfl⟩) [0, 1, 2, 3, 4, 5, 6, 7, 8, 9, 10, 11] [] [0, 1, 2, 3, 4, 5, 6, 7, 8, 9, 10, 11] rfl rfl (by decide) (by decide) (by decide) (hwf := fun _ => rfl) (by decide) (ci := 0) rfl rfl rfl rfl hl.1 rfl (Nat.le_of_ble_eq_true rfl) dX0_orderByInsertion_33 ⟨Nat.zero_le _, Nat.zero_le _⟩ (fun r33 u H locs hr33 hP hD hS => ?_)
        obtain ⟨uR, uB, uE⟩ := u
        have hP : va_P D vwCl (xw ad cI cZ nn mm tT uB uE tL (va_up (ini tT mm oO (srt (bqs tT mm) oQ nn) i) i (((srt (bqs tT mm) oQ nn) i))) uR (srt (bqs tT mm) oQ nn) zS zM zN oJ) H := hP
        have hD : va_D A (xw ad cI cZ nn mm tT uB uE tL (va_up (ini tT mm oO (srt (bqs tT mm) oQ nn) i) i (((srt (bqs tT mm) oQ nn) i))) uR (srt (bqs tT mm) oQ nn) zS zM zN oJ) := hD
        refine w_top (v := iI (((amin (mkS tT mm (va_up (ini tT mm oO (srt (bqs tT mm) oQ nn) i) i (((srt (bqs tT mm) oQ nn) i))) i (i + 1)) i : Nat) : Int))) (hr33) ?_
        have h8 := amin_le (mkS tT mm (va_up (ini tT mm oO (srt (bqs tT mm) oQ nn) i) i ((srt (bqs tT mm) oQ nn) i)) i (i + 1)) i
        refine w_iSv (As := [.ref (ad 5), .int (iI ((i : Int))), .int (iI (((((amin (mkS tT mm (va_up (ini tT mm oO (srt (bqs tT mm) oQ nn) i) i (((srt (bqs tT mm) oQ nn) i))) i (i + 1)) i)) : Nat) : Int)))]) (rest := []) (wf := fun u : Unit => xw ad cI cZ nn mm tT uB uE tL (shf (va_up (ini tT mm oO (srt (bqs tT mm) oQ nn) i) i (((srt (bqs tT mm) oQ nn) i))) i ((amin (mkS tT mm (va_up (ini tT mm oO (srt (bqs tT mm) oQ nn) i) i (((srt (bqs tT mm) oQ nn) i))) i (i + 1)) i))) uR (srt (bqs tT mm) oQ nn) zS zM zN oJ) (wr := (xw ad cI cZ nn mm tT uB uE tL (va_up (ini tT mm oO (srt (bqs tT mm) oQ nn) i) i (((srt (bqs tT mm) oQ nn) i))) uR (srt (bqs tT mm) oQ nn) zS zM zN oJ).eraseIdx 5) ⟨hx, hb, hml, hown, hts⟩ hK hP hD hS hA (mX0_shift  (by omega) (by omega)) (va_cwS 3 hts gX0_orderByInsertion_X0_shift rfl rfl rfl (by decide +kernel) ⟨Nat.le_of_ble_eq_true rfl, Nat.le_of_ble_eq_true rfl⟩) [5] [0, 1, 2, 3, 4, 6, 7, 8, 9, 10, 11] [0, 1, 2, 3, 4, 11, 5, 6, 7, 8, 9, 10] rfl rfl (by decide) (by decide) (by decide) (hwf := fun _ => rfl) (by decide) rfl hl.1 (by rw [show ((((amin (mkS tT mm (va_up (ini tT mm oO (srt (bqs tT mm) oQ nn) i) i (((srt (bqs tT mm) oQ nn) i))) i (i + 1)) i : Nat) : Int)) : Int) = ((((amin (mkS tT mm (va_up (ini tT mm oO (srt (bqs tT mm) oQ nn) i) i (((srt (bqs tT mm) oQ nn) i))) i (i + 1)) i)) : Nat) : Int) by omega]; try rfl) (Nat.le_of_ble_eq_true rfl) dX0_orderByInsertion_36 ⟨Nat.zero_le _, Nat.zero_le _⟩ (fun u H locs hr36 hP hD hS => ?_)
        refine lv_iinc (v := iI ((i : Int) + 1)) (lv' := [(1, .int (iI ((i : Int) + 1))), (0, .ref (ad 0))]) hx hb dX0_orderByInsertion_39 hl (k := 0) rfl (iI_inc (by omega)) (by decide) rfl (fun ls hl => ?_)
        refine lv_goto (tgt := 6) hx hb dX0_orderByInsertion_42 (by decide) ?_
        exact ih6 (i + 1) (shf (va_up (ini tT mm oO (srt (bqs tT mm) oQ nn) i) i (((srt (bqs tT mm) oQ nn) i))) i ((amin (mkS tT mm (va_up (ini tT mm oO (srt (bqs tT mm) oQ nn) i) i (((srt (bqs tT mm) oQ nn) i))) i (i + 1)) i))) uR uB uE ((i : Int) + 1) (by omega) (rfl) (by omega) (by omega) _ _ hP hD hS ls (lv_sub hl [0, 1] rfl)
  exact L6 (nn - 0 + 1) 0 oO oR tB tE (0) (by omega) (rfl) (by omega) (Nat.lt_succ_self _) _ _ hP hD hS ls (lv_sub hl [0, 1] rfl)
set_option maxHeartbeats 4000000 in
set_option maxRecDepth 100000 in
theorem mX0_improve (hT : ∀ k, 0 ≤ tT k ∧ tT k ≤ 99) (hn : nn ≤ 7) (hm : 1 ≤ mm ∧ mm ≤ 5) (hO : ∀ k, k < nn → oO k < 7) : IM l yX0_improve wsX0_improve (rmx 5 119) D (tyk cI cZ cJ) (xw ad cI cZ nn mm tT tB tE tL oO oR oQ zS zM zN oJ) [.ref (ad 0)] (QI D (tyk cI cZ cJ) (fun u : (Nat → Nat) × (Nat → Int) × (Nat → Int) => xw ad cI cZ nn mm tT u.2.1 u.2.2 tL (impO tT mm nn oO) u.1 oQ zS zM zN oJ) (fun y u => y = iI (mk 0 mm tT oO nn - (imS tT mm oO nn nn).1))) := by
  refine imI_of (cc := cX0_improve) (maxL := 8) (by decide) rfl (Nat.le_of_ble_eq_true rfl) ?_
  intro p e s m args below meth c A Q hx hb hml hown hts hA hK hP hD hS hret ls hl
  have hown : s.vm.findClass RX0 = some m.cls := hown
  have hl : lv_has ls 8 [(0, .ref (ad 0))] := hl
  have inW : ∀ w ∈ wsX00, w ∈ wsX0_improve := by first | exact (fun w h => List.mem_cons_of_mem _ (List.mem_append_right _ h)) | exact (fun w h => List.mem_cons_of_mem _ (List.mem_append_left _ (List.mem_append_right _ h))) | exact (fun w h => List.mem_cons_of_mem _ (List.mem_append_left _ (List.mem_append_left _ (List.mem_append_right _ h)))) | decide +kernel
  refine lv_aload_n hx hb dX0_improve_0 rfl (lv_at hl 0 rfl) ?_
  refine lv_iconst (v := iI 0) hx hb dX0_improve_1 rfl ?_
  refine w_iV (As := [.int (iI 0)]) (rest := []) (wf := fun u : (Nat → Int) × (Nat → Int) => xw ad cI cZ nn mm tT u.1 u.2 tL oO oR oQ zS zM zN oJ) (wr := []) ⟨hx, hb, hml, hown, hts⟩ hK hP hD hS hA (mX0_scheduleOrder (v := 0) hT hn hm (by omega) hO) (cwV 1 hts gX0_improve_X0_scheduleOrder rfl rfl rfl (by decide +kernel) ⟨Nat.le_of_ble_eq_true rfl, Nat.le_of_ble_eq_true rfl⟩) [0, 1, 2, 3, 4, 5, 6, 7, 8, 9, 10, 11] [] [0, 1, 2, 3, 4, 5, 6, 7, 8, 9, 10, 11] rfl rfl (by decide) (by decide) (by decide) (hwf := fun _ => rfl) (by decide) (ci := 0) rfl rfl rfl rfl hl.1 rfl (Nat.le_of_ble_eq_true rfl) dX0_improve_2 ⟨Nat.zero_le _, Nat.zero_le _⟩ (fun r2 u H locs hr2 hP hD hS => ?_)
  obtain ⟨uB, uE⟩ := u
  obtain ⟨hq2, hR⟩ := hr2
  have hP : va_P D vwCl (xw ad cI cZ nn mm tT uB uE tL oO oR oQ zS zM zN oJ) H := hP
  have hD : va_D A (xw ad cI cZ nn mm tT uB uE tL oO oR oQ zS zM zN oJ) := hD
  refine w_top (v := iI ((mk 0 mm tT oO nn))) (hq2) ?_
  have h9 := mk_rg (v := 0) (o := oO) hm.1 hm.2 hT hn
  refine lv_istore_n (lv' := [(1, .int (iI ((mk 0 mm tT oO nn)))), (0, .ref (ad 0))]) hx hb dX0_improve_5 rfl hl (by decide) rfl (fun ls hl => ?_)
  refine lv_iload_n hx hb dX0_improve_6 rfl (lv_at hl 0 rfl) ?_
  refine lv_istore_n (lv' := [(2, .int (iI ((mk 0 mm tT oO nn)))), (1, .int (iI ((mk 0 mm tT oO nn)))), (0, .ref (ad 0))]) hx hb dX0_improve_7 rfl hl (by decide) rfl (fun ls hl => ?_)
  refine lv_iconst (v := iI 0) hx hb dX0_improve_8 rfl ?_
  refine lv_istore_n (lv' := [(3, .int (iI 0)), (2, .int (iI ((mk 0 mm tT oO nn)))), (1, .int (iI ((mk 0 mm tT oO nn)))), (0, .ref (ad 0))]) hx hb dX0_improve_9 rfl hl (by decide) rfl (fun ls hl => ?_)
  refine lv_iconst (v := iI 0) hx hb dX0_improve_10 rfl ?_
  refine lv_istore (lv' := [(4, .int (iI 0)), (3, .int (iI 0)), (2, .int (iI ((mk 0 mm tT oO nn)))), (1, .int (iI ((mk 0 mm tT oO nn)))), (0, .ref (ad 0))]) hx hb dX0_improve_11 hl (by decide) rfl (fun ls hl => ?_)
  refine lv_iconst (v := iI 0) hx hb dX0_improve_13 rfl ?_
  refine lv_istore (lv' := [(5, .int (iI 0)), (4, .int (iI 0)), (3, .int (iI 0)), (2, .int (iI ((mk 0 mm tT oO nn)))), (1, .int (iI ((mk 0 mm tT oO nn)))), (0, .ref (ad 0))]) hx hb dX0_improve_14 hl (by decide) rfl (fun ls hl => ?_)
  have L16 : ∀ (fu : Nat) (i : Nat) (wtrial16 : Nat → Nat) (wbegins16 : Nat → Int) (wends16 : Nat → Int) (x5_16 : Int) (x4_16 : Int) (x3_16 : Int) (x2_16 : Int), (i ≤ nn) → (x5_16 = (i : Int)) → (x4_16 = (((imS tT mm oO nn i).2.2 : Nat) : Int)) → (x3_16 = (((imS tT mm oO nn i).2.1 : Nat) : Int)) → (x2_16 = ((imS tT mm oO nn i).1)) → nn - i < fu → ∀ (H : Heap) (locs : List Loc), va_P D vwCl (xw ad cI cZ nn mm tT wbegins16 wends16 tL oO wtrial16 oQ zS zM zN oJ) H → va_D A (xw ad cI cZ nn mm tT wbegins16 wends16 tL oO wtrial16 oQ zS zM zN oJ) → va_S A s.heap H locs → ∀ ls : Array Slot, lv_has ls 8 [(5, .int (iI (x5_16))), (4, .int (iI (x4_16))), (3, .int (iI (x3_16))), (2, .int (iI (x2_16))), (1, .int (iI ((mk 0 mm tT oO nn)))), (0, .ref (ad 0))] → W p l e (rmx 5 119) s m args below meth c H locs 0 0 Q (F0 m 16 ls []) := by
    intro fu
    induction fu with
    | zero =>
      intro i wtrial16 wbegins16 wends16 x5_16 x4_16 x3_16 x2_16 hi hq0 hq1 hq2 hq3 hfu
      exact absurd hfu (Nat.not_lt_zero _)
    | succ fu ih =>
      intro i wtrial16 wbegins16 wends16 x5_16 x4_16 x3_16 x2_16 hi hq0 hq1 hq2 hq3 hfu H locs hP hD hS ls hl
      subst hq0
      subst hq1
      subst hq2
      subst hq3
      have ih16 := ih
      have h8 := imS_ok (o := oO) hm hT hn hi
      refine lv_iload hx hb dX0_improve_16 (lv_at hl 0 rfl) ?_
      refine lv_aload_n hx hb dX0_improve_18 rfl (lv_at hl 5 rfl) ?_
      refine va_get (D := D) (ci := 0) (C := RX0) (T := TX0) (N := 13) hx hb hts inW hown hK hP 0 rfl rfl 0 (by decide) (hts (.fieldLink RX0 7 "Flowforge" "jobCount" "I") (List.mem_of_getElem? (i := 1) rfl)) (fun _ h9 => h9) rfl dX0_improve_19 ?_
      refine w_icmp_ge (tgt := 79) hx hb dX0_improve_22 (by decide) ⟨by omega, by omega⟩ ⟨by omega, by omega⟩ (fun c22 => ?_) (fun c22 => ?_)
      · obtain rfl : nn = i := by omega
        have h4 := h8.1
        refine lv_iload_n hx hb dX0_improve_79 rfl (lv_at hl 3 rfl) ?_
        refine lv_iload_n hx hb dX0_improve_80 rfl (lv_at hl 4 rfl) ?_
        refine w_icmp_ge (tgt := 94) hx hb dX0_improve_81 (by decide) ⟨by omega, by omega⟩ ⟨by omega, by omega⟩ (fun c81 => ?_) (fun c81 => ?_)
        · have e9 : impO tT mm nn oO = oO := if_neg (by omega)
          rw [← e9] at hP hD
          refine lv_iload_n hx hb dX0_improve_94 rfl (lv_at hl 4 rfl) ?_
          refine lv_iload_n hx hb dX0_improve_95 rfl (lv_at hl 3 rfl) ?_
          refine w_isub (z := (mk 0 mm tT oO nn) - ((imS tT mm oO nn nn).1)) hx hb dX0_improve_96 (by omega) ?_
          exact hret _ _ 97 ls _ ((wtrial16, wbegins16, wends16)) hP hD hS (rfl) dX0_improve_97
        · have h3 := h8.2.1 (by omega)
          have e9 : impO tT mm nn oO = shf oO (imS tT mm oO nn nn).2.1 (imS tT mm oO nn nn).2.2 := if_pos (by omega)
          refine lv_aload_n hx hb dX0_improve_84 rfl (lv_at hl 5 rfl) ?_
          refine va_get (D := D) (ci := 0) (C := RX0) (T := TX0) (N := 13) hx hb hts inW hown hK hP 0 rfl rfl 6 (by decide) (hts (.fieldLink RX0 29 "Flowforge" "order" "[I") (List.mem_of_getElem? (i := 2) rfl)) (fun _ h9 => h9) rfl dX0_improve_85 ?_
          refine lv_iload_n hx hb dX0_improve_88 rfl (lv_at hl 2 rfl) ?_
          refine lv_iload hx hb dX0_improve_89 (lv_at hl 1 rfl) ?_
          refine w_iSv (As := [.ref (ad 5), .int (iI ((((((imS tT mm oO nn nn).2.1)) : Nat) : Int))), .int (iI ((((((imS tT mm oO nn nn).2.2)) : Nat) : Int)))]) (rest := []) (wf := fun u : Unit => xw ad cI cZ nn mm tT wbegins16 wends16 tL (shf oO (((imS tT mm oO nn nn).2.1)) (((imS tT mm oO nn nn).2.2))) wtrial16 oQ zS zM zN oJ) (wr := (xw ad cI cZ nn mm tT wbegins16 wends16 tL oO wtrial16 oQ zS zM zN oJ).eraseIdx 5) ⟨hx, hb, hml, hown, hts⟩ hK hP hD hS hA (mX0_shift  (by omega) (by omega)) (va_cwS 3 hts gX0_improve_X0_shift rfl rfl rfl (by decide +kernel) ⟨Nat.le_of_ble_eq_true rfl, Nat.le_of_ble_eq_true rfl⟩) [5] [0, 1, 2, 3, 4, 6, 7, 8, 9, 10, 11] [0, 1, 2, 3, 4, 11, 5, 6, 7, 8, 9, 10] rfl rfl (by decide) (by decide) (by decide) (hwf := fun _ => rfl) (by decide) rfl hl.1 (by rw [show (((((imS tT mm oO nn nn).2.1 : Nat) : Int)) : Int) = (((((imS tT mm oO nn nn).2.1)) : Nat) : Int) by omega]; rw [show (((((imS tT mm oO nn nn).2.2 : Nat) : Int)) : Int) = (((((imS tT mm oO nn nn).2.2)) : Nat) : Int) by omega]; try rfl) (Nat.le_of_ble_eq_true rfl) dX0_improve_91 ⟨Nat.zero_le _, Nat.zero_le _⟩ (fun u H locs hr91 hP hD hS => ?_)
          refine lv_iload_n hx hb dX0_improve_94 rfl (lv_at hl 4 rfl) ?_
          refine lv_iload_n hx hb dX0_improve_95 rfl (lv_at hl 3 rfl) ?_
          refine w_isub (z := (mk 0 mm tT oO nn) - ((imS tT mm oO nn nn).1)) hx hb dX0_improve_96 (by omega) ?_
          rw [← e9] at hP hD
          exact hret _ _ 97 ls _ ((wtrial16, wbegins16, wends16)) hP hD hS (rfl) dX0_improve_97
      · refine lv_iconst (v := iI 0) hx hb dX0_improve_25 rfl ?_
        refine lv_istore (lv' := [(6, .int (iI 0)), (5, .int (iI ((i : Int)))), (4, .int (iI ((((imS tT mm oO nn i).2.2 : Nat) : Int)))), (3, .int (iI ((((imS tT mm oO nn i).2.1 : Nat) : Int)))), (2, .int (iI (((imS tT mm oO nn i).1)))), (1, .int (iI ((mk 0 mm tT oO nn)))), (0, .ref (ad 0))]) hx hb dX0_improve_26 hl (by decide) rfl (fun ls hl => ?_)
        have L28 : ∀ (fu : Nat) (j : Nat) (wtrial28 : Nat → Nat) (wbegins28 : Nat → Int) (wends28 : Nat → Int) (x6_28 : Int) (x4_28 : Int) (x3_28 : Int) (x2_28 : Int), (j ≤ nn) → (x6_28 = (j : Int)) → (x4_28 = (((imT tT mm oO nn i j).2.2 : Nat) : Int)) → (x3_28 = (((imT tT mm oO nn i j).2.1 : Nat) : Int)) → (x2_28 = ((imT tT mm oO nn i j).1)) → nn - j < fu → ∀ (H : Heap) (locs : List Loc), va_P D vwCl (xw ad cI cZ nn mm tT wbegins28 wends28 tL oO wtrial28 oQ zS zM zN oJ) H → va_D A (xw ad cI cZ nn mm tT wbegins28 wends28 tL oO wtrial28 oQ zS zM zN oJ) → va_S A s.heap H locs → ∀ ls : Array Slot, lv_has ls 8 [(6, .int (iI (x6_28))), (5, .int (iI ((i : Int)))), (4, .int (iI (x4_28))), (3, .int (iI (x3_28))), (2, .int (iI (x2_28))), (1, .int (iI ((mk 0 mm tT oO nn)))), (0, .ref (ad 0))] → W p l e (rmx 5 119) s m args below meth c H locs 0 0 Q (F0 m 28 ls []) := by
          intro fu
          induction fu with
          | zero =>
            intro j wtrial28 wbegins28 wends28 x6_28 x4_28 x3_28 x2_28 hj hq0 hq1 hq2 hq3 hfu
            exact absurd hfu (Nat.not_lt_zero _)
          | succ fu ih =>
            intro j wtrial28 wbegins28 wends28 x6_28 x4_28 x3_28 x2_28 hj hq0 hq1 hq2 hq3 hfu H locs hP hD hS ls hl
            subst hq0
            subst hq1
            subst hq2
            subst hq3
            have ih28 := ih
            have h7 := imT_ok (o := oO) hm hT hn (show i < nn by omega) hj
            refine lv_iload hx hb dX0_improve_28 (lv_at hl 0 rfl) ?_
            refine lv_aload_n hx hb dX0_improve_30 rfl (lv_at hl 6 rfl) ?_
            refine va_get (D := D) (ci := 0) (C := RX0) (T := TX0) (N := 13) hx hb hts inW hown hK hP 0 rfl rfl 0 (by decide) (hts (.fieldLink RX0 7 "Flowforge" "jobCount" "I") (List.mem_of_getElem? (i := 1) rfl)) (fun _ h9 => h9) rfl dX0_improve_31 ?_
            refine w_icmp_ge (tgt := 73) hx hb dX0_improve_34 (by decide) ⟨by omega, by omega⟩ ⟨by omega, by omega⟩ (fun c34 => ?_) (fun c34 => ?_)
            · have hjn : j = nn := by omega
              refine lv_iinc (v := iI ((i : Int) + 1)) (lv' := [(5, .int (iI ((i : Int) + 1))), (6, .int (iI ((j : Int)))), (4, .int (iI ((((imT tT mm oO nn i j).2.2 : Nat) : Int)))), (3, .int (iI ((((imT tT mm oO nn i j).2.1 : Nat) : Int)))), (2, .int (iI (((imT tT mm oO nn i j).1)))), (1, .int (iI ((mk 0 mm tT oO nn)))), (0, .ref (ad 0))]) hx hb dX0_improve_73 hl (k := 1) rfl (iI_inc (by omega)) (by decide) rfl (fun ls hl => ?_)
              refine lv_goto (tgt := 16) hx hb dX0_improve_76 (by decide) ?_
              exact ih16 (i + 1) wtrial28 wbegins28 wends28 ((i : Int) + 1) ((((imT tT mm oO nn i j).2.2 : Nat) : Int)) ((((imT tT mm oO nn i j).2.1 : Nat) : Int)) (((imT tT mm oO nn i j).1)) (by omega) (by omega) (by rw [hjn]; rfl) (by rw [hjn]; rfl) (by rw [hjn]; rfl) (by omega) _ _ hP hD hS ls (lv_sub hl [0, 2, 3, 4, 5, 6] rfl)
            · refine lv_aload_n hx hb dX0_improve_37 rfl (lv_at hl 6 rfl) ?_
              refine lv_iload hx hb dX0_improve_38 (lv_at hl 1 rfl) ?_
              refine lv_iload hx hb dX0_improve_40 (lv_at hl 0 rfl) ?_
              refine lv_aload_n hx hb dX0_improve_42 rfl (lv_at hl 6 rfl) ?_
              refine va_get (D := D) (ci := 0) (C := RX0) (T := TX0) (N := 13) hx hb hts inW hown hK hP 0 rfl rfl 0 (by decide) (hts (.fieldLink RX0 7 "Flowforge" "jobCount" "I") (List.mem_of_getElem? (i := 1) rfl)) (fun _ h9 => h9) rfl dX0_improve_43 ?_
              refine w_iV (As := [.int (iI ((i : Int))), .int (iI ((j : Int))), .int (iI ((nn : Int)))]) (rest := []) (wf := fun u : (Nat → Nat) × (Nat → Int) × (Nat → Int) => xw ad cI cZ nn mm tT u.2.1 u.2.2 tL oO u.1 oQ zS zM zN oJ) (wr := []) ⟨hx, hb, hml, hown, hts⟩ hK hP hD hS hA (mX0_makespanIfShifted  hT hn hm (Nat.le_refl _) (by omega) (by omega) hO) (cwV 3 hts gX0_improve_X0_makespanIfShifted rfl rfl rfl (by decide +kernel) ⟨Nat.le_of_ble_eq_true rfl, Nat.le_of_ble_eq_true rfl⟩) [0, 1, 2, 3, 4, 5, 6, 7, 8, 9, 10, 11] [] [0, 1, 2, 3, 4, 5, 6, 7, 8, 9, 10, 11] rfl rfl (by decide) (by decide) (by decide) (hwf := fun _ => rfl) (by decide) (ci := 0) rfl rfl rfl rfl hl.1 rfl (Nat.le_of_ble_eq_true rfl) dX0_improve_46 ⟨Nat.zero_le _, Nat.zero_le _⟩ (fun r46 u H locs hr46 hP hD hS => ?_)
              obtain ⟨uR, uB, uE⟩ := u
              have h6 := mkS_rg (o := oO) (a := i) (c := nn) hm hT hn j
              have h5 := h7.1
              have hP : va_P D vwCl (xw ad cI cZ nn mm tT uB uE tL oO uR oQ zS zM zN oJ) H := hP
              have hD : va_D A (xw ad cI cZ nn mm tT uB uE tL oO uR oQ zS zM zN oJ) := hD
              refine w_top (v := iI ((mkS tT mm oO i nn j))) (hr46) ?_
              refine lv_istore (lv' := [(7, .int (iI ((mkS tT mm oO i nn j)))), (6, .int (iI ((j : Int)))), (5, .int (iI ((i : Int)))), (4, .int (iI ((((imT tT mm oO nn i j).2.2 : Nat) : Int)))), (3, .int (iI ((((imT tT mm oO nn i j).2.1 : Nat) : Int)))), (2, .int (iI (((imT tT mm oO nn i j).1)))), (1, .int (iI ((mk 0 mm tT oO nn)))), (0, .ref (ad 0))]) hx hb dX0_improve_49 hl (by decide) rfl (fun ls hl => ?_)
              refine lv_iload hx hb dX0_improve_51 (lv_at hl 0 rfl) ?_
              refine lv_iload_n hx hb dX0_improve_53 rfl (lv_at hl 5 rfl) ?_
              refine w_icmp_ge (tgt := 67) hx hb dX0_improve_54 (by decide) ⟨by omega, by omega⟩ ⟨by omega, by omega⟩ (fun c54 => ?_) (fun c54 => ?_)
              · have e7 := imT_n (t := tT) (mm := mm) (o := oO) (nn := nn) (i := i) (j := j) (by omega)
                refine lv_iinc (v := iI ((j : Int) + 1)) (lv' := [(6, .int (iI ((j : Int) + 1))), (7, .int (iI ((mkS tT mm oO i nn j)))), (5, .int (iI ((i : Int)))), (4, .int (iI ((((imT tT mm oO nn i j).2.2 : Nat) : Int)))), (3, .int (iI ((((imT tT mm oO nn i j).2.1 : Nat) : Int)))), (2, .int (iI (((imT tT mm oO nn i j).1)))), (1, .int (iI ((mk 0 mm tT oO nn)))), (0, .ref (ad 0))]) hx hb dX0_improve_67 hl (k := 1) rfl (iI_inc (by omega)) (by decide) rfl (fun ls hl => ?_)
                refine lv_goto (tgt := 28) hx hb dX0_improve_70 (by decide) ?_
                exact ih28 (j + 1) uR uB uE ((j : Int) + 1) ((((imT tT mm oO nn i j).2.2 : Nat) : Int)) ((((imT tT mm oO nn i j).2.1 : Nat) : Int)) (((imT tT mm oO nn i j).1)) (by omega) (by omega) (by rw [e7]) (by rw [e7]) (by rw [e7]) (by omega) _ _ hP hD hS ls (lv_sub hl [0, 2, 3, 4, 5, 6, 7] rfl)
              · have e7 := imT_y (t := tT) (mm := mm) (o := oO) (nn := nn) (i := i) (j := j) (by omega)
                refine lv_iload hx hb dX0_improve_57 (lv_at hl 0 rfl) ?_
                refine lv_istore_n (lv' := [(2, .int (iI ((mkS tT mm oO i nn j)))), (7, .int (iI ((mkS tT mm oO i nn j)))), (6, .int (iI ((j : Int)))), (5, .int (iI ((i : Int)))), (4, .int (iI ((((imT tT mm oO nn i j).2.2 : Nat) : Int)))), (3, .int (iI ((((imT tT mm oO nn i j).2.1 : Nat) : Int)))), (1, .int (iI ((mk 0 mm tT oO nn)))), (0, .ref (ad 0))]) hx hb dX0_improve_59 rfl hl (by decide) rfl (fun ls hl => ?_)
                refine lv_iload hx hb dX0_improve_60 (lv_at hl 3 rfl) ?_
                refine lv_istore_n (lv' := [(3, .int (iI ((i : Int)))), (2, .int (iI ((mkS tT mm oO i nn j)))), (7, .int (iI ((mkS tT mm oO i nn j)))), (6, .int (iI ((j : Int)))), (5, .int (iI ((i : Int)))), (4, .int (iI ((((imT tT mm oO nn i j).2.2 : Nat) : Int)))), (1, .int (iI ((mk 0 mm tT oO nn)))), (0, .ref (ad 0))]) hx hb dX0_improve_62 rfl hl (by decide) rfl (fun ls hl => ?_)
                refine lv_iload hx hb dX0_improve_63 (lv_at hl 3 rfl) ?_
                refine lv_istore (lv' := [(4, .int (iI ((j : Int)))), (3, .int (iI ((i : Int)))), (2, .int (iI ((mkS tT mm oO i nn j)))), (7, .int (iI ((mkS tT mm oO i nn j)))), (6, .int (iI ((j : Int)))), (5, .int (iI ((i : Int)))), (1, .int (iI ((mk 0 mm tT oO nn)))), (0, .ref (ad 0))]) hx hb dX0_improve_65 hl (by decide) rfl (fun ls hl => ?_)
                refine lv_iinc (v := iI ((j : Int) + 1)) (lv' := [(6, .int (iI ((j : Int) + 1))), (4, .int (iI ((j : Int)))), (3, .int (iI ((i : Int)))), (2, .int (iI ((mkS tT mm oO i nn j)))), (7, .int (iI ((mkS tT mm oO i nn j)))), (5, .int (iI ((i : Int)))), (1, .int (iI ((mk 0 mm tT oO nn)))), (0, .ref (ad 0))]) hx hb dX0_improve_67 hl (k := 4) rfl (iI_inc (by omega)) (by decide) rfl (fun ls hl => ?_)
                refine lv_goto (tgt := 28) hx hb dX0_improve_70 (by decide) ?_
                exact ih28 (j + 1) uR uB uE ((j : Int) + 1) ((j : Int)) ((i : Int)) ((mkS tT mm oO i nn j)) (by omega) (by omega) (by rw [e7]) (by rw [e7]) (by rw [e7]) (by omega) _ _ hP hD hS ls (lv_sub hl [0, 5, 1, 2, 3, 6, 7] rfl)
        exact L28 (nn - 0 + 1) 0 wtrial16 wbegins16 wends16 (0) ((((imS tT mm oO nn i).2.2 : Nat) : Int)) ((((imS tT mm oO nn i).2.1 : Nat) : Int)) (((imS tT mm oO nn i).1)) (by omega) (by omega) (rfl) (rfl) (rfl) (Nat.lt_succ_self _) _ _ hP hD hS ls (lv_sub hl [0, 1, 2, 3, 4, 5, 6] rfl)
  exact L16 (nn - 0 + 1) 0 oR uB uE (0) (0) (0) ((mk 0 mm tT oO nn)) (by omega) (by omega) (rfl) (rfl) (rfl) (Nat.lt_succ_self _) _ _ hP hD hS ls (lv_sub hl [0, 1, 2, 3, 4, 5] rfl)
end
end
section
/-! the reference: its starts, row by row -/
def epv (t : Nat → Int) (o : Nat → Nat) (B : Nat → Int) (q : Nat) : Nat → Int := fun k => if q = 0 then 0 else B (5 * (q - 1) + k) + t (5 * o (q - 1) + k)
def mrows (v mm : Nat) (t : Nat → Int) (o : Nat → Nat) (B : Nat → Int) (c : Nat) : Prop := ∀ p, p < c → ∀ k, k < mm → B (5 * p + k) = (row v mm t o (p + 1)).1 k
def mB (v mm : Nat) (t : Nat → Int) (q : Nat) (o : Nat → Nat) (B : Nat → Int) : Nat → Int := nbg v mm (tj t (o q)) (prv B q) (epv t o B q) 0
def plv (t : Nat → Int) (mm : Nat) (x : Int) : Nat → Int
  | 0 => x
  | c + 1 => plv t mm x c - t (mm - 1 - (c + 1))
def ptx (B : Nat → Int) (q mm : Nat) (t : Nat → Int) (x : Int) (c : Nat) : Nat → Int := fun y => if 5 * q + (mm - 1 - c) ≤ y ∧ y < 5 * q + mm then plv t mm x (5 * q + mm - 1 - y) else B y
theorem ptx_0 {B : Nat → Int} {q mm : Nat} {t : Nat → Int} (hm : 1 ≤ mm) : ptx B q mm t (B (5 * q + (mm - 1))) 0 = B := by
  funext y
  unfold ptx
  by_cases h : 5 * q + (mm - 1 - 0) ≤ y ∧ y < 5 * q + mm
  · rw [if_pos h, show 5 * q + mm - 1 - y = 0 by omega, show y = 5 * q + (mm - 1) by omega]
    rfl
  · rw [if_neg h]
theorem ptx_s {B : Nat → Int} {q mm c : Nat} {t : Nat → Int} {x : Int} (hc : c + 1 < mm) : va_up (ptx B q mm t x c) (5 * q + (mm - 2 - c)) (plv t mm x c - t (mm - 2 - c)) = ptx B q mm t x (c + 1) := by
  funext y
  unfold va_up ptx
  by_cases h : y = 5 * q + (mm - 2 - c)
  · subst h
    rw [if_pos rfl, if_pos (by omega), show 5 * q + mm - 1 - (5 * q + (mm - 2 - c)) = c + 1 by omega]
    show _ = plv t mm x c - t (mm - 1 - (c + 1))
    rw [show mm - 1 - (c + 1) = mm - 2 - c by omega]
  · rw [if_neg h]
    by_cases h2 : 5 * q + (mm - 1 - c) ≤ y ∧ y < 5 * q + mm
    · rw [if_pos h2, if_pos (by omega)]
    · rw [if_neg h2, if_neg (by omega)]
theorem ptx_at {B : Nat → Int} {q mm c : Nat} {t : Nat → Int} {x : Int} (hc : c < mm) : ptx B q mm t x c (5 * q + (mm - 1 - c)) = plv t mm x c := by
  unfold ptx
  rw [if_pos (by omega), show 5 * q + mm - 1 - (5 * q + (mm - 1 - c)) = c by omega]
theorem row_e {v mm : Nat} {t : Nat → Int} {o : Nat → Nat} {p k : Nat} : (row v mm t o (p + 1)).2 k = (row v mm t o (p + 1)).1 k + t (5 * o p + k) := rfl
theorem mrows_0 {v mm : Nat} {t : Nat → Int} {o : Nat → Nat} {B : Nat → Int} : mrows v mm t o B 0 := fun _ h => absurd h (Nat.not_lt_zero _)
theorem mrows_prv {v mm : Nat} {t : Nat → Int} {o : Nat → Nat} {B : Nat → Int} {c : Nat} (h : mrows v mm t o B c) {k : Nat} (hk : k < mm) : prv B c k = (row v mm t o c).1 k ∧ epv t o B c k = (row v mm t o c).2 k := by
  cases c with
  | zero => exact ⟨rfl, rfl⟩
  | succ c =>
    unfold prv epv
    rw [if_neg (by omega), if_neg (by omega), Nat.add_sub_cancel, row_e, h c (by omega) k hk]
    exact ⟨rfl, rfl⟩
theorem mrows_rg {v mm : Nat} {t : Nat → Int} {o : Nat → Nat} {B : Nat → Int} {c : Nat} (hm : mm ≤ 5) (ht : ∀ k, 0 ≤ t k ∧ t k ≤ 99) (hc : c ≤ 7) (h : mrows v mm t o B c) : ∀ k, k < mm → (0 ≤ prv B c k ∧ prv B c k ≤ 1000000) ∧ 0 ≤ epv t o B c k ∧ epv t o B c k ≤ 1000000 := by
  intro k hk
  rw [(mrows_prv h hk).1, (mrows_prv h hk).2]
  have := row_rg (v := v) (o := o) hm ht c k hk
  omega
theorem mrows_cg {v mm : Nat} {t : Nat → Int} {o o' : Nat → Nat} {B : Nat → Int} {c : Nat} (h : mrows v mm t o B c) (e : ∀ k, k < c → o k = o' k) : mrows v mm t o' B c := by
  intro p hp
  rw [← row_cg (o := o) (fun k hk => e k (by omega))]
  exact h p hp
theorem epv_pt {t : Nat → Int} {o : Nat → Nat} {f g : Nat → Int} {p i k : Nat} (h : k < 5) : epv t o (pt f g (5 * p) i) p k = epv t o f p k := by
  unfold epv
  by_cases hp : p = 0
  · rw [if_pos hp, if_pos hp]
  · rw [if_neg hp, if_neg hp, pt_out (by omega)]
theorem frm_ptm {v mm : Nat} {t : Nat → Int} {o : Nat → Nat} {B g : Nat → Int} {p i k : Nat} (hm : mm ≤ 5) (hk : k < mm) : frm v mm (prv (pt B g (5 * p) i) p) (epv t o (pt B g (5 * p) i) p) k = frm v mm (prv B p) (epv t o B p) k := by
  unfold frm
  split
  · rw [prv_pt (by omega)]
  · rw [epv_pt (by omega)]
theorem mom_z {mm : Nat} {t b e : Nat → Int} {S : Int} (hS : ∀ k, k < mm → e k - wyC t k ≤ S) : ∀ k, k ≤ mm → mom 2 mm t b e S k = S + wyC t k
  | 0, _ => by
    unfold mom wyC
    omega
  | k + 1, hk => by
    have h1 := mom_z (b := b) hS k (by omega)
    have h2 := hS k (by omega)
    show max (mom 2 mm t b e S k) (frm 2 mm b e k) + t k = S + (wyC t k + t k)
    rw [h1, frm_2]
    omega
theorem mom_w {mm : Nat} {t b e : Nat → Int} : ∀ k, mom 2 mm t b e 0 k = stC t e k + wyC t k
  | 0 => by
    unfold mom stC wyC
    omega
  | k + 1 => by
    have h1 := mom_w (mm := mm) (t := t) (b := b) (e := e) k
    show max (mom 2 mm t b e 0 k) (frm 2 mm b e k) + t k = max (stC t e k) (e k - wyC t k) + (wyC t k + t k)
    rw [h1, frm_2]
    omega
theorem stC_mono {t e : Nat → Int} : ∀ n k, k ≤ n → stC t e k ≤ stC t e n
  | 0, k, h => by
    rw [show k = 0 by omega]
    exact Int.le_refl _
  | n + 1, k, h => by
    by_cases hk : k = n + 1
    · rw [hk]
      exact Int.le_refl _
    · have := stC_mono (t := t) (e := e) n k (by omega)
      show _ ≤ max _ _
      omega
theorem stC_ge {t e : Nat → Int} {n k : Nat} (h : k < n) : e k - wyC t k ≤ stC t e n := by
  have h1 := stC_mono (t := t) (e := e) n (k + 1) (by omega)
  have h2 : stC t e (k + 1) = max (stC t e k) (e k - wyC t k) := rfl
  omega
theorem plv_w {mm : Nat} {t : Nat → Int} {S : Int} : ∀ c, c < mm → plv t mm (S + wyC t (mm - 1)) c = S + wyC t (mm - 1 - c)
  | 0, _ => rfl
  | c + 1, h => by
    have h1 := plv_w (mm := mm) (t := t) (S := S) c (by omega)
    have h2 : wyC t (mm - 1 - (c + 1) + 1) = wyC t (mm - 1 - (c + 1)) + t (mm - 1 - (c + 1)) := rfl
    rw [show mm - 1 - (c + 1) + 1 = mm - 1 - c by omega] at h2
    unfold plv
    rw [h1]
    omega
/-- pulled together: as if begun so late -/
theorem plv_nbg {mm : Nat} {t b e : Nat → Int} {k : Nat} (hk : k < mm) : plv t mm (nbg 2 mm t b e 0 (mm - 1)) (mm - 1 - k) = nbg 2 mm t b e (stC t e mm) k := by
  have e1 : nbg 2 mm t b e 0 (mm - 1) = stC t e mm + wyC t (mm - 1) := by
    obtain ⟨n, rfl⟩ : ∃ n, mm = n + 1 := ⟨mm - 1, by omega⟩
    unfold nbg
    rw [Nat.add_sub_cancel, mom_w, frm_2]
    show _ = max (stC t e n) (e n - wyC t n) + _
    omega
  have e2 : nbg 2 mm t b e (stC t e mm) k = stC t e mm + wyC t k := by
    have h2 := stC_ge (t := t) (e := e) hk
    unfold nbg
    rw [mom_z (fun k hk => stC_ge hk) k (by omega), frm_2]
    omega
  rw [e1, e2, plv_w _ (by omega), show mm - 1 - (mm - 1 - k) = k by omega]
theorem mB_row {v mm : Nat} {t : Nat → Int} {o : Nat → Nat} {B : Nat → Int} {c : Nat} (hv : v ≠ 2) (h : mrows v mm t o B c) {k : Nat} (hk : k < mm) : mB v mm t c o B k = (row v mm t o (c + 1)).1 k := by
  have h1 := fun k hk => mrows_prv h (k := k) hk
  unfold mB nbg
  rw [mom_cg h1 k (by omega), frm_cg h1 hk]
  show _ = nbg _ _ _ _ _ _ _
  unfold m0v nbg
  rw [if_neg hv]
theorem mB_row2 {mm : Nat} {t : Nat → Int} {o : Nat → Nat} {B : Nat → Int} {c : Nat} (h : mrows 2 mm t o B c) {k : Nat} (hk : k < mm) : plv (tj t (o c)) mm (mB 2 mm t c o B (mm - 1)) (mm - 1 - k) = (row 2 mm t o (c + 1)).1 k := by
  have h1 := fun k hk => mrows_prv h (k := k) hk
  unfold mB
  rw [plv_nbg hk]
  unfold nbg
  rw [stC_cg (fun k hk => (h1 k hk).2) mm (Nat.le_refl _), mom_cg h1 k (by omega), frm_cg h1 hk]
  rfl
theorem mrows_s {v mm : Nat} {t : Nat → Int} {o : Nat → Nat} {B : Nat → Int} {c : Nat} (hm : mm ≤ 5) (hv : v ≠ 2) (h : mrows v mm t o B c) : mrows v mm t o (pt B (mB v mm t c o B) (5 * c) mm) (c + 1) := by
  intro p hp k hk
  by_cases hpc : p = c
  · subst hpc
    rw [pt_in hk]
    exact mB_row hv h hk
  · rw [pt_out (by omega)]
    exact h p (by omega) k hk
theorem mrows_s2 {mm : Nat} {t : Nat → Int} {o : Nat → Nat} {B : Nat → Int} {c : Nat} (hm : 1 ≤ mm ∧ mm ≤ 5) (h : mrows 2 mm t o B c) : mrows 2 mm t o (ptx (pt B (mB 2 mm t c o B) (5 * c) mm) c mm (tj t (o c)) (pt B (mB 2 mm t c o B) (5 * c) mm (5 * c + (mm - 1))) (mm - 1)) (c + 1) := by
  intro p hp k hk
  by_cases hpc : p = c
  · subst hpc
    unfold ptx
    rw [if_pos (by omega), pt_in (by omega), show 5 * p + mm - 1 - (5 * p + k) = mm - 1 - k by omega]
    exact mB_row2 h hk
  · unfold ptx
    rw [if_neg (by omega), pt_out (by omega)]
    exact h p (by omega) k hk
/-- the first n of one list, then another -/
def ovr (f g : Nat → Nat) (n : Nat) : Nat → Nat := fun k => if k < n then f k else g k
theorem ovr_0 (f g : Nat → Nat) : ovr f g 0 = g := by
  funext k
  unfold ovr
  rw [if_neg (by omega)]
theorem ovr_s {f g : Nat → Nat} {i : Nat} : va_up (ovr f g i) i (f i) = ovr f g (i + 1) := by
  funext k
  unfold va_up ovr
  by_cases h : k = i
  · subst h
    rw [if_pos rfl, if_pos (by omega)]
  · rw [if_neg h]
    by_cases h2 : k < i
    · rw [if_pos h2, if_pos (by omega)]
    · rw [if_neg h2, if_neg (by omega)]
theorem ovr_in {f g : Nat → Nat} {n k : Nat} (h : k < n) : ovr f g n k = f k := if_pos h
/-- two lists are the same on the first n -/
def eqn (n : Nat) (f g : Nat → Nat) : Prop := ∀ k, k < n → f k = g k
theorem eqn_up {n a : Nat} {f g g2 : Nat → Nat} {x : Nat} (h : eqn n f g) (hg : va_up g a x = g2) : eqn n (va_up f a x) g2 := by
  intro k hk
  rw [← hg]
  unfold va_up
  split
  · rfl
  · exact h k hk
/-- ahead by the rule -/
def ahd (t : Nat → Int) (i j : Nat) : Bool :=
  if t (5 * i + 0) ≤ t (5 * i + 1) then (if t (5 * j + 0) ≤ t (5 * j + 1) then (if t (5 * i + 0) < t (5 * j + 0) ∨ (t (5 * i + 0) = t (5 * j + 0) ∧ i < j) then true else false) else true)
  else (if t (5 * j + 0) ≤ t (5 * j + 1) then false else (if t (5 * j + 1) < t (5 * i + 1) ∨ (t (5 * j + 1) = t (5 * i + 1) ∧ i < j) then true else false))
def cn (P : Nat → Bool) : Nat → Nat
  | 0 => 0
  | i + 1 => cn P i + (if P i = true then 1 else 0)
theorem cn_le (P : Nat → Bool) : ∀ n, cn P n ≤ n
  | 0 => Nat.le_refl _
  | n + 1 => by
    have := cn_le P n
    unfold cn
    split <;> omega
theorem cn_lt {P : Nat → Bool} {j : Nat} (hj : P j = false) : ∀ n, j < n → cn P n < n
  | n + 1, h => by
    unfold cn
    by_cases hjn : j = n
    · subst hjn
      have := cn_le P j
      rw [hj]
      simp
      omega
    · have := cn_lt hj n (by omega)
      split <;> omega
def ah2 (t : Nat → Int) (i j : Nat) : Bool := if j = i then false else ahd t j i
def rk (t : Nat → Int) (nn : Nat) (o : Nat → Nat) : Nat → Nat → Nat
  | 0 => o
  | i + 1 => va_up (rk t nn o i) (cn (ah2 t i) nn) i
def bs2 (t : Nat → Int) (mm i j : Nat) : Bool := if smR t i 0 mm < smR t j 0 mm ∨ (smR t j 0 mm = smR t i 0 mm ∧ j < i) then true else false
def bsr (t : Nat → Int) (mm nn r : Nat) : Nat → Nat
  | 0 => 0
  | i + 1 => if cn (bs2 t mm i) nn = r then i else bsr t mm nn r i
theorem bsr_le (t : Nat → Int) (mm nn r : Nat) : ∀ i, bsr t mm nn r i ≤ i - 1
  | 0 => Nat.le_refl _
  | i + 1 => by
    have := bsr_le t mm nn r i
    unfold bsr
    split <;> omega
/-- the least sum from afar -/
def lsM (t : Nat → Int) (fr to : Nat) : Nat → Int
  | 0 => 1000000
  | i + 1 => min (lsM t fr to i) (smR t i fr to)
theorem lsM_X {t : Nat → Int} (h : ∀ k, 0 ≤ t k ∧ t k ≤ 99) {fr to : Nat} (hto : to ≤ 5) : ∀ i, lsM t fr to (i + 1) = lsX t fr to i
  | 0 => by
    have := smR_rg h 0 fr to
    unfold lsM lsM lsX
    omega
  | i + 1 => by
    have := lsM_X h (fr := fr) hto i
    show min (lsM t fr to (i + 1)) (smR t (i + 1) fr to) = min (lsX t fr to i) (smR t (i + 1) fr to)
    rw [this]
theorem lsM_rg {t : Nat → Int} (h : ∀ k, 0 ≤ t k ∧ t k ≤ 99) {fr to : Nat} : ∀ i, 0 ≤ lsM t fr to i ∧ lsM t fr to i ≤ 1000000
  | 0 => ⟨by unfold lsM; omega, by unfold lsM; omega⟩
  | i + 1 => by
    have h1 := lsM_rg h (fr := fr) (to := to) i
    have := smR_rg h i fr to
    unfold lsM
    omega
end
section
/-! what the reference's walks ask -/
theorem frm_e0 {v mm k : Nat} {f g t : Nat → Int} {o : Nat → Nat} : frm v mm (prv f 0) (epv t o g 0) k = 0 := by
  unfold frm prv epv
  split <;> rfl
theorem frm_e {v mm k q : Nat} {f g t : Nat → Int} {o : Nat → Nat} (hq : q = 0) : frm v mm (prv f q) (epv t o g q) k = 0 := by
  rw [hq]
  exact frm_e0
theorem mrows_e {v mm : Nat} {t : Nat → Int} {o : Nat → Nat} {B : Nat → Int} {c p k : Nat} (h : mrows v mm t o B c) (hp : p < c) (hk : k < mm) : B (5 * p + k) + t (5 * o p + k) = (row v mm t o (p + 1)).2 k := by
  rw [h p hp k hk, row_e]
theorem mrows_mk {v mm : Nat} {t : Nat → Int} {o : Nat → Nat} {B : Nat → Int} {c : Nat} (hm : 1 ≤ mm) (hc : 1 ≤ c) (h : mrows v mm t o B c) : B (5 * (c - 1) + (mm - 1)) + t (5 * o (c - 1) + (mm - 1)) = mk v mm t o c := by
  rw [mrows_e h (by omega) (by omega), show c - 1 + 1 = c by omega]
  rfl
theorem mrows_s3 {v mm : Nat} {t : Nat → Int} {o : Nat → Nat} {B : Nat → Int} {c : Nat} (hm : 1 ≤ mm ∧ mm ≤ 5) (hv : v = 2) (h : mrows v mm t o B c) : mrows v mm t o (ptx (pt B (mB v mm t c o B) (5 * c) mm) c mm (tj t (o c)) (pt B (mB v mm t c o B) (5 * c) mm (5 * c + (mm - 1))) (mm - 1)) (c + 1) := by
  subst hv
  exact mrows_s2 hm h
theorem cn_t {P : Nat → Bool} {i : Nat} (h : P i = true) : cn P (i + 1) = cn P i + 1 := by
  show _ + _ = _
  rw [if_pos h]
theorem cn_f {P : Nat → Bool} {i : Nat} (h : P i = false) : cn P (i + 1) = cn P i := by
  show _ + _ = _
  rw [if_neg (by rw [h]; simp)]
  rfl
theorem ah2_i (t : Nat → Int) (i : Nat) : ah2 t i i = false := if_pos rfl
theorem ah2_n {t : Nat → Int} {i j : Nat} (h : j ≠ i) : ah2 t i j = ahd t j i := if_neg h
theorem rk_lt {t : Nat → Int} {nn N : Nat} {o : Nat → Nat} (h : ∀ k, k < nn → o k < N) (hn : nn ≤ N) : ∀ i, i ≤ nn → ∀ k, k < nn → rk t nn o i k < N
  | 0, _ => h
  | i + 1, hi => up_lt (Nat.lt_of_lt_of_le (show i < nn by omega) hn) (rk_lt h hn i (by omega))
/-- the least from afar, and where -/
def fmn (g : Nat → Int) : Nat → Int × Nat
  | 0 => (1000000, 0)
  | p + 1 => if g p < (fmn g p).1 then (g p, p) else fmn g p
theorem fmn_y {g : Nat → Int} {p : Nat} (h : g p < (fmn g p).1) : fmn g (p + 1) = (g p, p) := if_pos h
theorem fmn_n {g : Nat → Int} {p : Nat} (h : ¬ g p < (fmn g p).1) : fmn g (p + 1) = fmn g p := if_neg h
theorem fmn_rg {g : Nat → Int} {K : Int} (hK : K ≤ 1000000) (h : ∀ i, 0 ≤ g i ∧ g i ≤ K) : ∀ p, (0 ≤ (fmn g p).1 ∧ (fmn g p).1 ≤ 1000000) ∧ (fmn g p).2 ≤ p - 1
  | 0 => ⟨⟨by show (0 : Int) ≤ 1000000; omega, by show (1000000 : Int) ≤ 1000000; omega⟩, Nat.le_refl _⟩
  | p + 1 => by
    have h1 := fmn_rg hK h p
    have h2 := h p
    by_cases hc : g p < (fmn g p).1
    · rw [fmn_y hc]
      exact ⟨⟨h2.1, by show g p ≤ _; omega⟩, by show p ≤ _; omega⟩
    · rw [fmn_n hc]
      exact ⟨h1.1, by omega⟩
/-- a job put into a list -/
def pin (r : Nat → Nat) (c p j : Nat) : Nat → Nat := va_up (sh2 r c (c - p)) p j
def rG (t : Nat → Int) (mm : Nat) (r : Nat → Nat) (c j p : Nat) : Int := mk 0 mm t (pin r c p j) (c + 1)
theorem rG_rg {t : Nat → Int} {mm : Nat} {r : Nat → Nat} {c j : Nat} (hm : 1 ≤ mm ∧ mm ≤ 5) (ht : ∀ k, 0 ≤ t k ∧ t k ≤ 99) (hc : c + 1 ≤ 7) : ∀ p, 0 ≤ rG t mm r c j p ∧ rG t mm r c j p ≤ 3465 := fun p => mk_rg hm.1 hm.2 ht hc
def rin (t : Nat → Int) (mm nn : Nat) : Nat → Nat → Nat
  | 0 => nId
  | i + 1 => pin (rin t mm nn i) i (fmn (rG t mm (rin t mm nn i) i (bsr t mm nn i nn)) (i + 1)).2 (bsr t mm nn i nn)
theorem pin_at {r : Nat → Nat} {c p j k : Nat} (hp : p ≤ c) : pin r c p j k = if k = p then j else if p < k ∧ k ≤ c then r (k - 1) else r k := by
  unfold pin va_up sh2
  by_cases h : k = p
  · rw [if_pos h, if_pos h]
  · rw [if_neg h, if_neg h]
    by_cases h2 : p < k ∧ k ≤ c
    · rw [if_pos h2, if_pos (by omega)]
    · rw [if_neg h2, if_neg (by omega)]
theorem pin_cg {r r' : Nat → Nat} {c p j : Nat} (hp : p ≤ c) (h : eqn c r r') : eqn (c + 1) (pin r c p j) (pin r' c p j) := by
  intro k hk
  rw [pin_at hp, pin_at hp]
  by_cases h1 : k = p
  · rw [if_pos h1, if_pos h1]
  · rw [if_neg h1, if_neg h1]
    by_cases h2 : p < k ∧ k ≤ c
    · rw [if_pos h2, if_pos h2]
      exact h _ (by omega)
    · rw [if_neg h2, if_neg h2]
      exact h _ (by omega)
theorem pin_lt {r : Nat → Nat} {c p j N : Nat} (hp : p ≤ c) (hj : j < N) (h : ∀ k, k < c → r k < N) : ∀ k, k < c + 1 → pin r c p j k < N := by
  intro k hk
  rw [pin_at hp]
  by_cases h1 : k = p
  · rw [if_pos h1]
    exact hj
  · rw [if_neg h1]
    by_cases h2 : p < k ∧ k ≤ c
    · rw [if_pos h2]
      exact h _ (by omega)
    · rw [if_neg h2]
      exact h _ (by omega)
/-- put in and taken out again -/
theorem pin_out {r r' : Nat → Nat} {c p j : Nat} (hp : p ≤ c) (h : eqn c r r') : eqn c (sh1 (pin r c p j) p (c - p)) r' := by
  intro k hk
  unfold sh1
  by_cases h1 : p ≤ k ∧ k < p + (c - p)
  · rw [if_pos h1, pin_at hp, if_neg (by omega), if_pos (by omega)]
    exact h k hk
  · rw [if_neg h1, pin_at hp, if_neg (by omega), if_neg (by omega)]
    exact h k hk
theorem rG_cg {t : Nat → Int} {mm : Nat} {r r' : Nat → Nat} {c j p : Nat} (hp : p ≤ c) (h : eqn c r r') : mk 0 mm t (pin r c p j) (c + 1) = rG t mm r' c j p := mk_cg (pin_cg hp h)
theorem rin_lt {t : Nat → Int} {mm nn : Nat} (hm : 1 ≤ mm ∧ mm ≤ 5) (ht : ∀ k, 0 ≤ t k ∧ t k ≤ 99) (hn : nn ≤ 7) : ∀ i, i ≤ nn → ∀ k, k < i → rin t mm nn i k < 7
  | 0, _ => fun k hk => absurd hk (Nat.not_lt_zero _)
  | i + 1, hi => pin_lt (by have := (fmn_rg (by omega) (rG_rg (r := rin t mm nn i) (j := bsr t mm nn i nn) hm ht (show i + 1 ≤ 7 by omega)) (i + 1)).2; omega) (by have := bsr_le t mm nn i nn; omega) (rin_lt hm ht hn i (by omega))
/-- the reference's best move -/
def rmF (t : Nat → Int) (mm : Nat) (o : Nat → Nat) (nn a b : Nat) : Int := if a = b then 1000000 else mkS t mm o a nn b
def rmS (t : Nat → Int) (mm : Nat) (o : Nat → Nat) (nn i : Nat) : Int × Nat × Nat := otr (rmF t mm o nn) nn (1000000, 0, 0) i
def rmT (t : Nat → Int) (mm : Nat) (o : Nat → Nat) (nn i j : Nat) : Int × Nat × Nat := inr (rmF t mm o nn) i (rmS t mm o nn i) j
theorem rmF_rg {t : Nat → Int} {mm : Nat} {o : Nat → Nat} {nn : Nat} (hm : 1 ≤ mm ∧ mm ≤ 5) (ht : ∀ k, 0 ≤ t k ∧ t k ≤ 99) (hn : nn ≤ 7) : ∀ a b, 0 ≤ rmF t mm o nn a b ∧ rmF t mm o nn a b ≤ 1000000 := fun a b => by
  unfold rmF
  have := mkS_rg (o := o) (a := a) (c := nn) hm ht hn b
  split <;> omega
theorem rmS_ok {t : Nat → Int} {mm : Nat} {o : Nat → Nat} {nn : Nat} (hm : 1 ≤ mm ∧ mm ≤ 5) (ht : ∀ k, 0 ≤ t k ∧ t k ≤ 99) (hn : nn ≤ 7) {i : Nat} (hi : i ≤ nn) : okS nn 1000000 1000000 (rmS t mm o nn i) := otr_ok (rmF_rg hm ht hn) ⟨⟨by show (0 : Int) ≤ 1000000; omega, Int.le_refl _⟩, fun h => absurd h (Int.lt_irrefl _), Nat.zero_le _, Nat.zero_le _⟩ i hi
theorem rmT_ok {t : Nat → Int} {mm : Nat} {o : Nat → Nat} {nn : Nat} (hm : 1 ≤ mm ∧ mm ≤ 5) (ht : ∀ k, 0 ≤ t k ∧ t k ≤ 99) (hn : nn ≤ 7) {i j : Nat} (hi : i < nn) (hj : j ≤ nn) : okS nn 1000000 1000000 (rmT t mm o nn i j) := inr_ok (rmF_rg hm ht hn) hi (rmS_ok hm ht hn (by omega)) j hj
theorem rmT_y {t : Nat → Int} {mm : Nat} {o : Nat → Nat} {nn i j : Nat} (h : rmF t mm o nn i j < (rmT t mm o nn i j).1) : rmT t mm o nn i (j + 1) = (rmF t mm o nn i j, i, j) := if_pos h
theorem rmT_n {t : Nat → Int} {mm : Nat} {o : Nat → Nat} {nn i j : Nat} (h : ¬ rmF t mm o nn i j < (rmT t mm o nn i j).1) : rmT t mm o nn i (j + 1) = rmT t mm o nn i j := if_neg h
def rmO (t : Nat → Int) (mm nn : Nat) (o : Nat → Nat) : Nat → Nat := if (rmS t mm o nn nn).1 < mk 0 mm t o nn then shf o (rmS t mm o nn nn).2.1 (rmS t mm o nn nn).2.2 else o
def rmV (t : Nat → Int) (mm nn : Nat) (o : Nat → Nat) : Int := if (rmS t mm o nn nn).1 < mk 0 mm t o nn then mk 0 mm t o nn - (rmS t mm o nn nn).1 else 0
/-- the least of a run -/
def pbm (g : Nat → Int) : Nat → Int
  | 0 => 1000000
  | y + 1 => min (pbm g y) (g y)
theorem pbm_rg {g : Nat → Int} (h : ∀ i, 0 ≤ g i) : ∀ y, 0 ≤ pbm g y ∧ pbm g y ≤ 1000000
  | 0 => ⟨by show (0 : Int) ≤ 1000000; omega, Int.le_refl _⟩
  | y + 1 => by
    have h1 := pbm_rg h y
    have h2 := h y
    show 0 ≤ min _ _ ∧ min _ _ ≤ _
    omega
/-- the reference's search -/
def rbs (g : Nat → Int) : Nat → Int × Nat × Nat
  | 0 => (1000000, 0, 0)
  | y + 1 => if g y < (rbs g y).1 then (g y, 1, y) else if g y = (rbs g y).1 then ((rbs g y).1, (rbs g y).2.1 + 1, (rbs g y).2.2) else rbs g y
theorem rbs_a {g : Nat → Int} {y : Nat} (h : g y < (rbs g y).1) : rbs g (y + 1) = (g y, 1, y) := if_pos h
theorem rbs_b {g : Nat → Int} {y : Nat} (h : g y = (rbs g y).1) : rbs g (y + 1) = ((rbs g y).1, (rbs g y).2.1 + 1, (rbs g y).2.2) := (if_neg (by omega)).trans (if_pos h)
theorem rbs_c {g : Nat → Int} {y : Nat} (h : (rbs g y).1 < g y) : rbs g (y + 1) = rbs g y := (if_neg (by omega)).trans (if_neg (by omega))
theorem rbs_n {g : Nat → Int} {y : Nat} (h : (rbs g y).1 ≤ g y) : (rbs g (y + 1)).1 = (rbs g y).1 ∧ (rbs g (y + 1)).2.2 = (rbs g y).2.2 := by
  by_cases h2 : g y = (rbs g y).1
  · rw [rbs_b h2]
    exact ⟨rfl, rfl⟩
  · rw [rbs_c (by omega)]
    exact ⟨rfl, rfl⟩
theorem rbs_bst {g : Nat → Int} (h : ∀ i, 0 ≤ g i ∧ g i ≤ 3465) : ∀ y, rbs g (y + 1) = bst g (y + 1)
  | 0 => by
    rw [rbs_a (by have := h 0; show g 0 < 1000000; omega)]
    exact (if_pos (Or.inl rfl)).symm
  | y + 1 => by
    have h1 := rbs_bst h y
    have h2 := bst_pos (g := g) (i := y + 1) (by omega)
    by_cases c1 : g (y + 1) < (rbs g (y + 1)).1
    · rw [rbs_a c1]
      exact (if_pos (Or.inr (by rw [← h1]; exact c1))).symm
    · by_cases c2 : g (y + 1) = (rbs g (y + 1)).1
      · rw [rbs_b c2, h1]
        refine ((if_neg ?_).trans (if_pos ?_)).symm
        · rw [← h1] at h2 ⊢
          omega
        · rw [← h1]
          exact c2
      · rw [rbs_c (by omega), h1]
        refine ((if_neg ?_).trans (if_neg ?_)).symm
        · rw [← h1] at h2 ⊢
          omega
        · rw [← h1]
          exact c2
theorem fb_a {g : Nat → Int} {s : Nat → Nat → Nat} {J : Nat → Nat} {y nn : Nat} (h : g y < (rbs g y).1) : eqn nn (ovr (s y) J nn) (s (rbs g (y + 1)).2.2) := by
  rw [rbs_a h]
  exact fun k hk => ovr_in hk
theorem fb_b {g : Nat → Int} {s : Nat → Nat → Nat} {J : Nat → Nat} {y z nn : Nat} (h : (rbs g y).1 ≤ g y) (hg : g y ≤ 3465) (hz : z = 0) (hF : 0 < y → eqn nn J (s (rbs g y).2.2)) : eqn nn (ovr (s y) J z) (s (rbs g (y + 1)).2.2) := by
  rw [(rbs_n h).2, hz, ovr_0]
  refine hF ((Nat.eq_zero_or_pos y).elim (fun q => ?_) id)
  subst q
  exact absurd (show (1000000 : Int) ≤ g 0 from h) (by omega)
/-- the times that a narrower line keeps -/
def tzm (t : Nat → Int) (w i : Nat) : Nat → Int := fun x => if x < i ∧ w ≤ x % 5 then 0 else t x
theorem tzm_0 (t : Nat → Int) (w : Nat) : tzm t w 0 = t := by
  funext x
  unfold tzm
  rw [if_neg (by omega)]
theorem tzm_at {t : Nat → Int} {w i : Nat} : tzm t w i i = t i := by
  unfold tzm
  rw [if_neg (by omega)]
theorem tzm_s {t : Nat → Int} {w i : Nat} {x : Int} (h : x = if i % 5 < w then t i else 0) : va_up (tzm t w i) i x = tzm t w (i + 1) := by
  funext k
  unfold va_up tzm
  by_cases hk : k = i
  · subst hk
    rw [if_pos rfl, h]
    by_cases h2 : k % 5 < w
    · rw [if_pos h2, if_neg (by omega)]
    · rw [if_neg h2, if_pos (by omega)]
  · rw [if_neg hk]
    by_cases h2 : k < i ∧ w ≤ k % 5
    · rw [if_pos h2, if_pos (by omega)]
    · rw [if_neg h2, if_neg (by omega)]
theorem rem5 {i : Nat} (h : i < 35) : iI (i : Int) - iI (i : Int) / iI 5 * iI 5 = iI ((i % 5 : Nat) : Int) := (by decide +kernel : ∀ k : Fin 35, iI (k.1 : Int) - iI (k.1 : Int) / iI 5 * iI 5 = iI ((k.1 % 5 : Nat) : Int)) ⟨i, h⟩
theorem ite_t {P : Prop} [Decidable P] (h : P) : iI 1 = iI (if P then 1 else 0) := by rw [if_pos h]
end
section
/-! orders -/
def IsP (nn : Nat) (o : Nat → Nat) : Prop := (∀ k, k < nn → o k < nn) ∧ ∀ i j, i < nn → j < nn → o i = o j → i = j
theorem tz_rg {t : Nat → Int} {nn w : Nat} (h : ∀ k, 0 ≤ t k ∧ t k ≤ 99) : ∀ k, 0 ≤ tzr t w nn 0 k ∧ tzr t w nn 0 k ≤ 99 := fun k => by
  have := h k
  unfold tzr
  split <;> omega
theorem tu_rg {t : Nat → Int} {a : Nat} {x : Int} (h : ∀ k, 0 ≤ t k ∧ t k ≤ 99) (hx : 0 ≤ x ∧ x ≤ 99) : ∀ k, 0 ≤ va_up t a x k ∧ va_up t a x k ≤ 99 := fun k => by
  have := h k
  unfold va_up
  split <;> omega
theorem isP_up {nn : Nat} {o : Nat → Nat} (h : IsP nn o) : IsP (nn + 1) (va_up o nn nn) := by
  refine ⟨fun k hk => ?_, fun i j hi hj => ?_⟩
  · unfold va_up
    by_cases hk2 : k = nn
    · rw [if_pos hk2]
      omega
    · rw [if_neg hk2]
      have := h.1 k (by omega)
      omega
  · unfold va_up
    by_cases h1 : i = nn
    · by_cases h2 : j = nn
      · exact fun _ => h1.trans h2.symm
      · rw [if_pos h1, if_neg h2]
        have := h.1 j (by omega)
        omega
    · by_cases h2 : j = nn
      · rw [if_neg h1, if_pos h2]
        have := h.1 i (by omega)
        omega
      · rw [if_neg h1, if_neg h2]
        exact h.2 i j (by omega) (by omega)
theorem isP_shf {nn : Nat} {o : Nat → Nat} {a b : Nat} (ha : a < nn) (hb : b < nn) (h : IsP nn o) : IsP nn (shf o a b) := by
  refine ⟨shf_lt ha hb h.1, fun i j hi hj => ?_⟩
  rw [nx_pos, nx_pos]
  intro e
  have key : ∀ u v, u < nn → v < nn → o u = o v → u = v := h.2
  by_cases i1 : i = b
  · by_cases j1 : j = b
    · omega
    · rw [if_pos i1, if_neg j1] at e
      by_cases j2 : a ≤ j ∧ j < b
      · rw [if_pos j2] at e
        have := key a (j + 1) ha (by omega) e
        omega
      · rw [if_neg j2] at e
        by_cases j3 : b < j ∧ j ≤ a
        · rw [if_pos j3] at e
          have := key a (j - 1) ha (by omega) e
          omega
        · rw [if_neg j3] at e
          have := key a j ha hj e
          omega
  · by_cases j1 : j = b
    · rw [if_neg i1, if_pos j1] at e
      by_cases i2 : a ≤ i ∧ i < b
      · rw [if_pos i2] at e
        have := key (i + 1) a (by omega) ha e
        omega
      · rw [if_neg i2] at e
        by_cases i3 : b < i ∧ i ≤ a
        · rw [if_pos i3] at e
          have := key (i - 1) a (by omega) ha e
          omega
        · rw [if_neg i3] at e
          have := key i a hi ha e
          omega
    · rw [if_neg i1, if_neg j1] at e
      by_cases i2 : a ≤ i ∧ i < b
      · rw [if_pos i2] at e
        by_cases j2 : a ≤ j ∧ j < b
        · rw [if_pos j2] at e
          have := key (i + 1) (j + 1) (by omega) (by omega) e
          omega
        · rw [if_neg j2] at e
          by_cases j3 : b < j ∧ j ≤ a
          · omega
          · rw [if_neg j3] at e
            have := key (i + 1) j (by omega) hj e
            omega
      · rw [if_neg i2] at e
        by_cases i3 : b < i ∧ i ≤ a
        · rw [if_pos i3] at e
          by_cases j2 : a ≤ j ∧ j < b
          · omega
          · rw [if_neg j2] at e
            by_cases j3 : b < j ∧ j ≤ a
            · rw [if_pos j3] at e
              have := key (i - 1) (j - 1) (by omega) (by omega) e
              omega
            · rw [if_neg j3] at e
              have := key (i - 1) j (by omega) hj e
              omega
        · rw [if_neg i3] at e
          by_cases j2 : a ≤ j ∧ j < b
          · rw [if_pos j2] at e
            have := key i (j + 1) hi (by omega) e
            omega
          · rw [if_neg j2] at e
            by_cases j3 : b < j ∧ j ≤ a
            · rw [if_pos j3] at e
              have := key i (j - 1) hi (by omega) e
              omega
            · rw [if_neg j3] at e
              exact key i j hi hj e
theorem isP_surj : ∀ (nn : Nat) (o : Nat → Nat), IsP nn o → ∀ j, j < nn → ∃ q, q < nn ∧ o q = j
  | 0, _, _ => fun j hj => absurd hj (Nat.not_lt_zero _)
  | n + 1, o, h => by
    have ih := isP_surj n (fun k => if o k = n then o n else o k)
    by_cases hv : o n = n
    · have h2 : IsP n (fun k => if o k = n then o n else o k) := by
        have key : ∀ k, k < n → o k ≠ n := fun k hk e => by
          have := h.2 k n (by omega) (by omega) (e.trans hv.symm)
          omega
        refine ⟨fun k hk => ?_, fun i j hi hj e => ?_⟩
        · show (if o k = n then o n else o k) < n
          rw [if_neg (key k hk)]
          have := h.1 k (by omega)
          have := key k hk
          omega
        · have e2 : (if o i = n then o n else o i) = if o j = n then o n else o j := e
          rw [if_neg (key i hi), if_neg (key j hj)] at e2
          exact h.2 i j (by omega) (by omega) e2
      intro j hj
      by_cases hjn : j = n
      · exact ⟨n, by omega, hv.trans hjn.symm⟩
      · obtain ⟨q, hq, e⟩ := ih h2 j (by omega)
        have e2 : (if o q = n then o n else o q) = j := e
        by_cases c : o q = n
        · rw [if_pos c] at e2
          omega
        · rw [if_neg c] at e2
          exact ⟨q, by omega, e2⟩
    · have hvl : o n < n := by
        have := h.1 n (by omega)
        omega
      have h2 : IsP n (fun k => if o k = n then o n else o k) := by
        refine ⟨fun k hk => ?_, fun i j hi hj e => ?_⟩
        · show (if o k = n then o n else o k) < n
          split
          · exact hvl
          · have := h.1 k (by omega)
            omega
        · have e2 : (if o i = n then o n else o i) = if o j = n then o n else o j := e
          by_cases c1 : o i = n
          · by_cases c2 : o j = n
            · exact h.2 i j (by omega) (by omega) (c1.trans c2.symm)
            · rw [if_pos c1, if_neg c2] at e2
              have := h.2 n j (by omega) (by omega) e2
              omega
          · by_cases c2 : o j = n
            · rw [if_neg c1, if_pos c2] at e2
              have := h.2 i n (by omega) (by omega) e2
              omega
            · rw [if_neg c1, if_neg c2] at e2
              exact h.2 i j (by omega) (by omega) e2
      intro j hj
      by_cases hjv : j = o n
      · exact ⟨n, by omega, hjv.symm⟩
      · by_cases hjn : j = n
        · obtain ⟨q, hq, e⟩ := ih h2 (o n) hvl
          have e2 : (if o q = n then o n else o q) = o n := e
          by_cases c : o q = n
          · exact ⟨q, by omega, c.trans hjn.symm⟩
          · rw [if_neg c] at e2
            have := h.2 q n (by omega) (by omega) e2
            omega
        · obtain ⟨q, hq, e⟩ := ih h2 j (by omega)
          have e2 : (if o q = n then o n else o q) = j := e
          by_cases c : o q = n
          · rw [if_pos c] at e2
            omega
          · rw [if_neg c] at e2
            exact ⟨q, by omega, e2⟩
end
section
/-! sorting by a total order; ranks -/
def Tot (R : Nat → Nat → Bool) : Prop := (∀ i, R i i = false) ∧ (∀ i j k, R i j = true → R j k = true → R i k = true) ∧ ∀ i j, i ≠ j → R i j = true ∨ R j i = true
theorem tot_as {R : Nat → Nat → Bool} (h : Tot R) {i j : Nat} (e : R i j = true) : R j i = false := by
  cases hh : R j i with
  | false => rfl
  | true =>
    have := h.2.1 i j i e hh
    rw [h.1 i] at this
    cases this
def Srd (R : Nat → Nat → Bool) (n : Nat) (s : Nat → Nat) : Prop := IsP n s ∧ ∀ a b, a < b → b < n → R (s a) (s b) = true
theorem pos_hi {bef : Nat → Nat → Bool} {f : Nat → Nat} {j : Nat} : ∀ q a, pos bef f j q ≤ a → a < q → bef j (f a) = true
  | q + 1, a, h1, h2 => by
    unfold pos at h1
    by_cases c : bef j (f q) = true
    · rw [if_pos c] at h1
      by_cases ha : a = q
      · rw [ha]
        exact c
      · exact pos_hi q a h1 (by omega)
    · rw [if_neg c] at h1
      omega
theorem pos_lo {bef : Nat → Nat → Bool} {f : Nat → Nat} {j : Nat} : ∀ q, 0 < pos bef f j q → ¬ bef j (f (pos bef f j q - 1)) = true
  | 0, h => absurd h (Nat.lt_irrefl _)
  | q + 1, h => by
    by_cases c : bef j (f q) = true
    · have e : pos bef f j (q + 1) = pos bef f j q := if_pos c
      rw [e] at h ⊢
      exact pos_lo q h
    · have e : pos bef f j (q + 1) = q + 1 := if_neg c
      rw [e, Nat.add_sub_cancel]
      exact c
theorem srt_srd {R bef : Nat → Nat → Bool} (hR : Tot R) {f0 : Nat → Nat} {N : Nat} (hb : ∀ i j, i < N → j < i → bef i j = R i j) : ∀ i, i ≤ N → Srd R i (srt bef f0 i)
  | 0, _ => ⟨⟨fun k hk => absurd hk (Nat.not_lt_zero _), fun i j hi => absurd hi (Nat.not_lt_zero _)⟩, fun a b _ hb => absurd hb (Nat.not_lt_zero _)⟩
  | i + 1, hi => by
    have ih := srt_srd hR (f0 := f0) hb i (by omega)
    obtain ⟨⟨h1, h2⟩, h3⟩ := ih
    generalize hs : srt bef f0 i = s at h1 h2 h3
    have e0 : srt bef f0 (i + 1) = ins bef s i := by rw [← hs]; rfl
    rw [e0]
    obtain ⟨p, hp⟩ : ∃ p, p = pos bef s i i := ⟨_, rfl⟩
    have hpi : p ≤ i := by rw [hp]; exact pos_le bef s i i
    have hhi : ∀ a, p ≤ a → a < i → R i (s a) = true := fun a ha hai => by
      rw [← hb i (s a) (by omega) (h1 a hai)]
      exact pos_hi i a (by rw [← hp]; exact ha) hai
    have hlo : ∀ a, a < p → R (s a) i = true := fun a ha => by
      have hlast : R (s (p - 1)) i = true := by
        have h4 : ¬ bef i (s (p - 1)) = true := by
          have := pos_lo (bef := bef) (f := s) (j := i) i (by omega)
          rw [← hp] at this
          exact this
        rw [hb i (s (p - 1)) (by omega) (h1 _ (by omega))] at h4
        have hne : s (p - 1) ≠ i := by
          have := h1 (p - 1) (by omega)
          omega
        exact (hR.2.2 _ _ hne).elim id (fun q => absurd q h4)
      by_cases hap : a = p - 1
      · rw [hap]
        exact hlast
      · exact hR.2.1 _ _ _ (h3 a (p - 1) (by omega) (by omega)) hlast
    have at' : ∀ k, ins bef s i k = if k = p then i else if p < k ∧ k ≤ i then s (k - 1) else s k := fun k => by rw [ins_at, ← hp]
    refine ⟨⟨fun k hk => ?_, fun a b ha hb2 e => ?_⟩, fun a b hab hb2 => ?_⟩
    · rw [at']
      split
      · omega
      · split
        · have := h1 (k - 1) (by omega)
          omega
        · have := h1 k (by omega)
          omega
    · rw [at', at'] at e
      by_cases a1 : a = p
      · by_cases b1 : b = p
        · omega
        · rw [if_pos a1, if_neg b1] at e
          by_cases b2 : p < b ∧ b ≤ i
          · rw [if_pos b2] at e
            have := h1 (b - 1) (by omega)
            omega
          · rw [if_neg b2] at e
            have := h1 b (by omega)
            omega
      · by_cases b1 : b = p
        · rw [if_neg a1, if_pos b1] at e
          by_cases a2 : p < a ∧ a ≤ i
          · rw [if_pos a2] at e
            have := h1 (a - 1) (by omega)
            omega
          · rw [if_neg a2] at e
            have := h1 a (by omega)
            omega
        · rw [if_neg a1, if_neg b1] at e
          by_cases a2 : p < a ∧ a ≤ i
          · by_cases b2 : p < b ∧ b ≤ i
            · rw [if_pos a2, if_pos b2] at e
              have := h2 _ _ (by omega) (by omega) e
              omega
            · rw [if_pos a2, if_neg b2] at e
              have := h2 _ _ (by omega) (by omega) e
              omega
          · by_cases b2 : p < b ∧ b ≤ i
            · rw [if_neg a2, if_pos b2] at e
              have := h2 _ _ (by omega) (by omega) e
              omega
            · rw [if_neg a2, if_neg b2] at e
              exact h2 _ _ (by omega) (by omega) e
    · rw [at', at']
      by_cases a1 : a = p
      · rw [if_pos a1, if_neg (by omega), if_pos (by omega)]
        exact hhi _ (by omega) (by omega)
      · by_cases a2 : p < a
        · rw [if_neg a1, if_pos (by omega), if_neg (by omega), if_pos (by omega)]
          exact h3 _ _ (by omega) (by omega)
        · rw [if_neg a1, if_neg (by omega)]
          by_cases b1 : b = p
          · rw [if_pos b1]
            exact hlo a (by omega)
          · rw [if_neg b1]
            by_cases b2 : p < b ∧ b ≤ i
            · rw [if_pos b2]
              by_cases hab2 : a = b - 1
              · omega
              · exact h3 _ _ (by omega) (by omega)
            · rw [if_neg b2]
              exact h3 _ _ hab (by omega)
def b2 (b : Bool) : Nat := if b = true then 1 else 0
theorem cn_S (P : Nat → Bool) (n : Nat) : cn P (n + 1) = cn P n + b2 (P n) := rfl
theorem cn_cg {P Q : Nat → Bool} : ∀ n, (∀ k, k < n → P k = Q k) → cn P n = cn Q n
  | 0, _ => rfl
  | n + 1, h => by rw [cn_S, cn_S, cn_cg n (fun k hk => h k (by omega)), h n (by omega)]
theorem cn_one {P Q : Nat → Bool} {k0 : Nat} : ∀ n, k0 < n → (∀ k, k < n → k ≠ k0 → P k = Q k) → cn P n + b2 (Q k0) = cn Q n + b2 (P k0)
  | n + 1, h0, h => by
    rw [cn_S, cn_S]
    by_cases hk : k0 = n
    · rw [cn_cg n (fun k hk2 => h k (by omega) (by omega)), hk]
      omega
    · have := cn_one n (by omega) (fun k hk2 hk3 => h k (by omega) hk3)
      rw [h n (by omega) (fun e => hk e.symm)]
      omega
theorem cn_perm {P : Nat → Bool} : ∀ (n : Nat) (s : Nat → Nat), IsP n s → cn P n = cn (fun k => P (s k)) n
  | 0, _, _ => rfl
  | n + 1, s, h => by
    rw [cn_S, cn_S]
    by_cases hv : s n = n
    · have h2 : IsP n s := ⟨fun k hk => by
        have := h.1 k (by omega)
        by_cases e : s k = n
        · have := h.2 k n (by omega) (by omega) (e.trans hv.symm)
          omega
        · omega, fun i j hi hj => h.2 i j (by omega) (by omega)⟩
      rw [cn_perm n s h2, hv]
    · have hvl : s n < n := by
        have := h.1 n (by omega)
        omega
      obtain ⟨k0, hk0, e0⟩ := isP_surj (n + 1) s h n (by omega)
      have hk0n : k0 < n := by
        rcases Nat.lt_or_ge k0 n with q | q
        · exact q
        · rw [show k0 = n by omega] at e0
          exact absurd e0 hv
      have h2 : IsP n (fun k => if s k = n then s n else s k) := by
        refine ⟨fun k hk => ?_, fun i j hi hj e => ?_⟩
        · show (if s k = n then s n else s k) < n
          split
          · exact hvl
          · have := h.1 k (by omega)
            omega
        · have e2 : (if s i = n then s n else s i) = if s j = n then s n else s j := e
          by_cases c1 : s i = n
          · by_cases c2 : s j = n
            · exact h.2 i j (by omega) (by omega) (c1.trans c2.symm)
            · rw [if_pos c1, if_neg c2] at e2
              have := h.2 n j (by omega) (by omega) e2
              omega
          · by_cases c2 : s j = n
            · rw [if_neg c1, if_pos c2] at e2
              have := h.2 i n (by omega) (by omega) e2
              omega
            · rw [if_neg c1, if_neg c2] at e2
              exact h.2 i j (by omega) (by omega) e2
      have ih := cn_perm (P := P) n _ h2
      have h3 := cn_one (P := fun k => P (s k)) (Q := fun k => P (if s k = n then s n else s k)) (k0 := k0) n hk0n (fun k hk hne => by
        show P (s k) = P (if s k = n then s n else s k)
        rw [if_neg]
        intro e
        exact hne (h.2 k k0 (by omega) (by omega) (e.trans e0.symm)))
      have h4 : cn (fun k => P (s k)) n + b2 (P (if s k0 = n then s n else s k0)) = cn (fun k => P (if s k = n then s n else s k)) n + b2 (P (s k0)) := h3
      rw [if_pos e0, e0] at h4
      omega
theorem cn_ltk (k : Nat) : ∀ n, cn (fun a => decide (a < k)) n = min k n
  | 0 => by
    show 0 = _
    omega
  | n + 1 => by
    rw [cn_S, cn_ltk k n]
    unfold b2
    by_cases h : n < k
    · rw [decide_eq_true h, if_pos rfl]
      omega
    · rw [decide_eq_false h, if_neg (by simp)]
      omega
/-- the rank of the k-th -/
theorem srd_rank {R : Nat → Nat → Bool} (hR : Tot R) {n : Nat} {s : Nat → Nat} (h : Srd R n s) {k : Nat} (hk : k < n) : cn (fun x => R x (s k)) n = k := by
  rw [cn_perm n s h.1, cn_cg (Q := fun a => decide (a < k)) n (fun a ha => ?_), cn_ltk]
  · omega
  · show R (s a) (s k) = decide (a < k)
    rcases Nat.lt_trichotomy a k with c | c | c
    · rw [h.2 a k c hk, decide_eq_true c]
    · rw [c, hR.1, decide_eq_false (Nat.lt_irrefl k)]
    · rw [tot_as hR (h.2 k a c ha), decide_eq_false (by omega)]
theorem ahd_iff {t : Nat → Int} {i j : Nat} : ahd t i j = true ↔ (t (5 * i + 0) ≤ t (5 * i + 1) ∧ (t (5 * j + 0) ≤ t (5 * j + 1) → (t (5 * i + 0) < t (5 * j + 0) ∨ (t (5 * i + 0) = t (5 * j + 0) ∧ i < j)))) ∨ (¬ t (5 * i + 0) ≤ t (5 * i + 1) ∧ ¬ t (5 * j + 0) ≤ t (5 * j + 1) ∧ (t (5 * j + 1) < t (5 * i + 1) ∨ (t (5 * j + 1) = t (5 * i + 1) ∧ i < j))) := by
  unfold ahd
  by_cases c1 : t (5 * i + 0) ≤ t (5 * i + 1)
  · rw [if_pos c1]
    by_cases c2 : t (5 * j + 0) ≤ t (5 * j + 1)
    · rw [if_pos c2]
      by_cases c3 : t (5 * i + 0) < t (5 * j + 0) ∨ (t (5 * i + 0) = t (5 * j + 0) ∧ i < j)
      · rw [if_pos c3]
        exact ⟨fun _ => Or.inl ⟨c1, fun _ => c3⟩, fun _ => rfl⟩
      · rw [if_neg c3]
        exact ⟨fun q => (by cases q), fun q => q.elim (fun q => absurd (q.2 c2) c3) (fun q => absurd c1 q.1)⟩
    · rw [if_neg c2]
      exact ⟨fun _ => Or.inl ⟨c1, fun q => absurd q c2⟩, fun _ => rfl⟩
  · rw [if_neg c1]
    by_cases c2 : t (5 * j + 0) ≤ t (5 * j + 1)
    · rw [if_pos c2]
      exact ⟨fun q => (by cases q), fun q => q.elim (fun q => absurd q.1 c1) (fun q => absurd c2 q.2.1)⟩
    · rw [if_neg c2]
      by_cases c3 : t (5 * j + 1) < t (5 * i + 1) ∨ (t (5 * j + 1) = t (5 * i + 1) ∧ i < j)
      · rw [if_pos c3]
        exact ⟨fun _ => Or.inr ⟨c1, c2, c3⟩, fun _ => rfl⟩
      · rw [if_neg c3]
        exact ⟨fun q => (by cases q), fun q => q.elim (fun q => absurd q.1 c1) (fun q => absurd q.2.2 c3)⟩
theorem ahd_tot (t : Nat → Int) : Tot (ahd t) := by
  refine ⟨fun i => ?_, fun i j k h1 h2 => ?_, fun i j h => ?_⟩
  · cases hh : ahd t i i with
    | false => rfl
    | true =>
      rw [ahd_iff] at hh
      omega
  · rw [ahd_iff] at h1 h2 ⊢
    omega
  · rw [ahd_iff, ahd_iff]
    omega
theorem gbr_ahd {t : Nat → Int} {i j : Nat} (h : j < i) : gbr t 0 1 i j = ahd t i j := by
  unfold gbr ahd
  split
  · split
    · by_cases c : t (5 * i + 0) < t (5 * j + 0)
      · rw [if_pos c, if_pos (Or.inl c)]
      · rw [if_neg c, if_neg (by omega)]
    · rfl
  · split
    · rfl
    · by_cases c : t (5 * j + 1) < t (5 * i + 1)
      · rw [if_pos c, if_pos (Or.inl c)]
      · rw [if_neg c, if_neg (by omega)]
theorem ah2_ahd (t : Nat → Int) (i : Nat) : ah2 t i = fun x => ahd t x i := by
  funext x
  by_cases h : x = i
  · rw [h, ah2_i, (ahd_tot t).1]
  · exact ah2_n h
/-- each at its rank -/
theorem rk_at {t : Nat → Int} {nn : Nat} {o : Nat → Nat} (hinj : ∀ i j, i < nn → j < nn → cn (ah2 t i) nn = cn (ah2 t j) nn → i = j) : ∀ i, i ≤ nn → ∀ j, j < i → rk t nn o i (cn (ah2 t j) nn) = j
  | i + 1, hi, j, hj => by
    show va_up (rk t nn o i) (cn (ah2 t i) nn) i (cn (ah2 t j) nn) = j
    unfold va_up
    by_cases h : cn (ah2 t j) nn = cn (ah2 t i) nn
    · rw [if_pos h]
      exact (hinj j i (by omega) (by omega) h).symm
    · rw [if_neg h]
      have hji : j ≠ i := fun e => h (by rw [e])
      exact rk_at hinj i (by omega) j (by omega)
theorem rule_ok (t : Nat → Int) (nn : Nat) (o o' : Nat → Nat) : eqn nn (srt (gbr t 0 1) o nn) (rk t nn o' nn) ∧ IsP nn (srt (gbr t 0 1) o nn) := by
  have hs : Srd (ahd t) nn (srt (gbr t 0 1) o nn) := srt_srd (ahd_tot t) (fun i j _ hj => gbr_ahd hj) nn (Nat.le_refl _)
  have hr : ∀ k, k < nn → cn (ah2 t (srt (gbr t 0 1) o nn k)) nn = k := fun k hk => by
    rw [ah2_ahd]
    exact srd_rank (ahd_tot t) hs hk
  refine ⟨fun k hk => ?_, hs.1⟩
  have h := rk_at (t := t) (nn := nn) (o := o') (fun i j hi hj e => by
    obtain ⟨a, ha, ea⟩ := isP_surj nn _ hs.1 i hi
    obtain ⟨b, hb, eb⟩ := isP_surj nn _ hs.1 j hj
    rw [← ea, ← eb, hr a ha, hr b hb] at e
    rw [← ea, ← eb, e]) nn (Nat.le_refl _) (srt (gbr t 0 1) o nn k) (hs.1.1 k hk)
  rw [hr k hk] at h
  exact h.symm
end
section
/-! the insertion: both sides -/
def rs (t : Nat → Int) (mm : Nat) (x y : Nat) : Bool := bs2 t mm y x
theorem rs_iff {t : Nat → Int} {mm x y : Nat} : rs t mm x y = true ↔ smR t y 0 mm < smR t x 0 mm ∨ (smR t x 0 mm = smR t y 0 mm ∧ x < y) := by
  unfold rs bs2
  by_cases h : smR t y 0 mm < smR t x 0 mm ∨ (smR t x 0 mm = smR t y 0 mm ∧ x < y)
  · rw [if_pos h]
    exact ⟨fun _ => h, fun _ => rfl⟩
  · rw [if_neg h]
    exact ⟨fun q => (by cases q), fun q => absurd q h⟩
theorem rs_tot (t : Nat → Int) (mm : Nat) : Tot (rs t mm) := by
  refine ⟨fun i => ?_, fun i j k h1 h2 => ?_, fun i j h => ?_⟩
  · cases hh : rs t mm i i with
    | false => rfl
    | true =>
      rw [rs_iff] at hh
      omega
  · rw [rs_iff] at h1 h2 ⊢
    omega
  · rw [rs_iff, rs_iff]
    omega
theorem bqs_rs {t : Nat → Int} {mm i j : Nat} (h : j < i) : bqs t mm i j = rs t mm i j := by
  unfold bqs rs bs2
  by_cases c : smR t j 0 mm < smR t i 0 mm
  · rw [if_pos c, if_pos (Or.inl c)]
  · rw [if_neg c, if_neg (by omega)]
theorem bqs_srd (t : Nat → Int) (mm nn : Nat) (q : Nat → Nat) : Srd (rs t mm) nn (srt (bqs t mm) q nn) := srt_srd (rs_tot t mm) (fun i j _ hj => bqs_rs hj) nn (Nat.le_refl _)
theorem bsr_at {t : Nat → Int} {mm nn r j : Nat} (hj : cn (bs2 t mm j) nn = r) (hinj : ∀ i, i < nn → cn (bs2 t mm i) nn = r → i = j) : ∀ i, i ≤ nn → j < i → bsr t mm nn r i = j
  | i + 1, hi, h => by
    unfold bsr
    by_cases c : cn (bs2 t mm i) nn = r
    · rw [if_pos c]
      exact hinj i (by omega) c
    · rw [if_neg c]
      have : j ≠ i := fun e => c (by rw [← e]; exact hj)
      exact bsr_at hj hinj i (by omega) (by omega)
theorem bsr_srt {t : Nat → Int} {mm nn r : Nat} {q : Nat → Nat} (hr : r < nn) : bsr t mm nn r nn = srt (bqs t mm) q nn r := by
  have hs := bqs_srd t mm nn q
  have hk : ∀ k, k < nn → cn (bs2 t mm (srt (bqs t mm) q nn k)) nn = k := fun k hk => srd_rank (rs_tot t mm) hs hk
  refine bsr_at (hk r hr) (fun i hi e => ?_) nn (Nat.le_refl _) (hs.1.1 r hr)
  obtain ⟨a, ha, ea⟩ := isP_surj nn _ hs.1 i hi
  rw [← ea, hk a ha] at e
  rw [← ea, e]
theorem fmn_amin {g : Nat → Int} (h : ∀ i, g i ≤ 3465) : ∀ n, fmn g (n + 1) = (g (amin g n), amin g n)
  | 0 => fmn_y (by have := h 0; show g 0 < 1000000; omega)
  | n + 1 => by
    have ih := fmn_amin h n
    by_cases c : g (n + 1) < g (amin g n)
    · rw [fmn_y (by rw [ih]; exact c), show amin g (n + 1) = n + 1 from if_pos c]
    · rw [fmn_n (by rw [ih]; exact c), ih, show amin g (n + 1) = amin g n from if_neg c]
theorem shf_pin {r : Nat → Nat} {c p j k : Nat} (hp : p ≤ c) (hk : k < c + 1) : shf (va_up r c j) c p k = pin r c p j k := by
  rw [nx_pos, pin_at hp]
  have e1 : va_up r c j c = j := if_pos rfl
  have e2 : ∀ a, a ≠ c → va_up r c j a = r a := fun a ha => if_neg ha
  by_cases h1 : k = p
  · rw [if_pos h1, if_pos h1, e1]
  · rw [if_neg h1, if_neg h1, if_neg (by omega)]
    by_cases h2 : p < k ∧ k ≤ c
    · rw [if_pos h2, if_pos h2, e2 _ (by omega)]
    · rw [if_neg h2, if_neg h2, e2 _ (by omega)]
theorem isP_pin {r : Nat → Nat} {c p j : Nat} (hp : p ≤ c) (h : ∀ i k, i < c → k < c → r i = r k → i = k) (hj : ∀ i, i < c → r i ≠ j) : ∀ i k, i < c + 1 → k < c + 1 → pin r c p j i = pin r c p j k → i = k := by
  intro a b ha hb e
  rw [pin_at hp, pin_at hp] at e
  by_cases a1 : a = p
  · by_cases b1 : b = p
    · omega
    · rw [if_pos a1, if_neg b1] at e
      by_cases b2 : p < b ∧ b ≤ c
      · rw [if_pos b2] at e
        exact absurd e.symm (hj _ (by omega))
      · rw [if_neg b2] at e
        exact absurd e.symm (hj _ (by omega))
  · by_cases b1 : b = p
    · rw [if_neg a1, if_pos b1] at e
      by_cases a2 : p < a ∧ a ≤ c
      · rw [if_pos a2] at e
        exact absurd e (hj _ (by omega))
      · rw [if_neg a2] at e
        exact absurd e (hj _ (by omega))
    · rw [if_neg a1, if_neg b1] at e
      by_cases a2 : p < a ∧ a ≤ c
      · by_cases b2 : p < b ∧ b ≤ c
        · rw [if_pos a2, if_pos b2] at e
          have := h _ _ (by omega) (by omega) e
          omega
        · rw [if_pos a2, if_neg b2] at e
          have := h _ _ (by omega) (by omega) e
          omega
      · by_cases b2 : p < b ∧ b ≤ c
        · rw [if_neg a2, if_pos b2] at e
          have := h _ _ (by omega) (by omega) e
          omega
        · rw [if_neg a2, if_neg b2] at e
          exact h _ _ (by omega) (by omega) e
/-- what pin holds -/
theorem pin_mem {r : Nat → Nat} {c p j k : Nat} (hp : p ≤ c) (hk : k < c + 1) : pin r c p j k = j ∨ ∃ a, a < c ∧ pin r c p j k = r a := by
  rw [pin_at hp]
  by_cases h1 : k = p
  · rw [if_pos h1]
    exact Or.inl rfl
  · rw [if_neg h1]
    by_cases h2 : p < k ∧ k ≤ c
    · rw [if_pos h2]
      exact Or.inr ⟨k - 1, by omega, rfl⟩
    · rw [if_neg h2]
      exact Or.inr ⟨k, by omega, rfl⟩
theorem ins_step {t : Nat → Int} {mm nn : Nat} {o q : Nat → Nat} (ht : ∀ k, 0 ≤ t k ∧ t k ≤ 99) (hn : nn ≤ 7) (hm : 1 ≤ mm ∧ mm ≤ 5) (hq : ∀ r, r < nn → bsr t mm nn r nn = q r) (hQ : IsP nn q) : ∀ i, i ≤ nn → eqn i (ini t mm o q i) (rin t mm nn i) ∧ (∀ k, k < i → ∃ a, a < i ∧ rin t mm nn i k = q a) ∧ ∀ a b, a < i → b < i → rin t mm nn i a = rin t mm nn i b → a = b
  | 0, _ => ⟨fun k hk => absurd hk (Nat.not_lt_zero _), fun k hk => absurd hk (Nat.not_lt_zero _), fun a b ha => absurd ha (Nat.not_lt_zero _)⟩
  | i + 1, hi => by
    obtain ⟨h1, h2, h3⟩ := ins_step (o := o) ht hn hm hq hQ i (by omega)
    have hg : ∀ p, p ≤ i → mkS t mm (va_up (ini t mm o q i) i (q i)) i (i + 1) p = rG t mm (rin t mm nn i) i (bsr t mm nn i nn) p := fun p hp => by
      unfold mkS
      rw [mk_cg (o' := pin (ini t mm o q i) i p (q i)) (fun k hk => shf_pin hp hk), hq i (by omega)]
      exact rG_cg hp h1
    have hA : amin (mkS t mm (va_up (ini t mm o q i) i (q i)) i (i + 1)) i = amin (rG t mm (rin t mm nn i) i (bsr t mm nn i nn)) i := by
      have key : ∀ n, n ≤ i → amin (mkS t mm (va_up (ini t mm o q i) i (q i)) i (i + 1)) n = amin (rG t mm (rin t mm nn i) i (bsr t mm nn i nn)) n := by
        intro n
        induction n with
        | zero => exact fun _ => rfl
        | succ n ih =>
          intro hn2
          have e := ih (by omega)
          show (if _ < _ then n + 1 else _) = if _ < _ then n + 1 else _
          rw [e, hg (n + 1) hn2, hg _ (Nat.le_trans (amin_le _ n) (by omega))]
      exact key i (Nat.le_refl _)
    have hp : amin (rG t mm (rin t mm nn i) i (bsr t mm nn i nn)) i ≤ i := amin_le _ i
    have hF : (fmn (rG t mm (rin t mm nn i) i (bsr t mm nn i nn)) (i + 1)).2 = amin (rG t mm (rin t mm nn i) i (bsr t mm nn i nn)) i := by
      rw [fmn_amin (fun p => (rG_rg hm ht (show i + 1 ≤ 7 by omega) p).2)]
    have eR : rin t mm nn (i + 1) = pin (rin t mm nn i) i (amin (rG t mm (rin t mm nn i) i (bsr t mm nn i nn)) i) (q i) := by
      show pin _ _ _ _ = _
      rw [hF, hq i (by omega)]
    have hj : ∀ a, a < i → rin t mm nn i a ≠ q i := fun a ha e => by
      obtain ⟨b, hb, eb⟩ := h2 a ha
      have := hQ.2 b i (by omega) (by omega) (eb.symm.trans e)
      omega
    refine ⟨fun k hk => ?_, fun k hk => ?_, ?_⟩
    · rw [eR]
      show shf (va_up (ini t mm o q i) i (q i)) i (amin (mkS t mm (va_up (ini t mm o q i) i (q i)) i (i + 1)) i) k = _
      rw [hA, shf_pin hp hk]
      exact pin_cg hp h1 k hk
    · rw [eR]
      rcases pin_mem (r := rin t mm nn i) (j := q i) hp hk with e | ⟨a, ha, e⟩
      · exact ⟨i, by omega, e⟩
      · obtain ⟨b, hb, eb⟩ := h2 a ha
        exact ⟨b, by omega, e.trans eb⟩
    · rw [eR]
      exact isP_pin hp h3 hj
theorem ins_ok (t : Nat → Int) (mm nn : Nat) (o q : Nat → Nat) (ht : ∀ k, 0 ≤ t k ∧ t k ≤ 99) (hn : nn ≤ 7) (hm : 1 ≤ mm ∧ mm ≤ 5) : eqn nn (insO t mm nn o q) (rin t mm nn nn) ∧ IsP nn (insO t mm nn o q) := by
  have hQ := bqs_srd t mm nn q
  obtain ⟨h1, h2, h3⟩ := ins_step (o := o) ht hn hm (fun r hr => bsr_srt (q := q) hr) hQ.1 nn (Nat.le_refl _)
  refine ⟨h1, fun k hk => ?_, fun a b ha hb e => ?_⟩
  · show ini t mm o (srt (bqs t mm) q nn) nn k < nn
    rw [h1 k hk]
    obtain ⟨a, ha, e⟩ := h2 k hk
    rw [e]
    exact hQ.1.1 a ha
  · have e2 : ini t mm o (srt (bqs t mm) q nn) nn a = ini t mm o (srt (bqs t mm) q nn) nn b := e
    rw [h1 a ha, h1 b hb] at e2
    exact h3 a b ha hb e2
/-! the improvement: both sides -/
def imR (m : Int) (s r : Int × Nat × Nat) : Prop := r.1 ≤ 1000000 ∧ ((r.1 < m ∧ s = r) ∨ (m ≤ r.1 ∧ s = (m, 0, 0)))
theorem shf_id {o : Nat → Nat} {a : Nat} : shf o a a = o := by
  funext k
  rw [nx_pos]
  by_cases h : k = a
  · rw [if_pos h, h]
  · rw [if_neg h, if_neg (by omega), if_neg (by omega)]
theorem imR_stp {f g : Nat → Nat → Int} {m : Int} {a b : Nat} {s r : Int × Nat × Nat} (h : imR m s r) (hfg : (a = b ∧ f a b = m ∧ g a b = 1000000) ∨ f a b = g a b) (hg : g a b ≤ 1000000) : imR m (stp f a b s) (stp g a b r) := by
  obtain ⟨h1, h2⟩ := h
  unfold stp
  rcases hfg with ⟨e, ef, eg⟩ | e
  · rw [ef, eg, if_neg (show ¬ (1000000 : Int) < r.1 by omega)]
    rcases h2 with ⟨h3, h4⟩ | ⟨h3, h4⟩
    · rw [h4, if_neg (show ¬ m < r.1 by omega)]
      exact ⟨h1, Or.inl ⟨h3, rfl⟩⟩
    · rw [h4, if_neg (show ¬ m < (m, (0 : Nat), (0 : Nat)).1 from Int.lt_irrefl m)]
      exact ⟨h1, Or.inr ⟨h3, rfl⟩⟩
  · rw [e]
    rcases h2 with ⟨h3, h4⟩ | ⟨h3, h4⟩
    · rw [h4]
      by_cases c : g a b < r.1
      · rw [if_pos c]
        exact ⟨hg, Or.inl ⟨by show g a b < m; omega, rfl⟩⟩
      · rw [if_neg c]
        exact ⟨h1, Or.inl ⟨h3, rfl⟩⟩
    · rw [h4]
      by_cases c : g a b < m
      · rw [if_pos (show g a b < (m, (0 : Nat), (0 : Nat)).1 from c), if_pos (show g a b < r.1 by omega)]
        exact ⟨hg, Or.inl ⟨c, rfl⟩⟩
      · rw [if_neg (show ¬ g a b < (m, (0 : Nat), (0 : Nat)).1 from c)]
        by_cases c2 : g a b < r.1
        · rw [if_pos c2]
          exact ⟨hg, Or.inr ⟨by show m ≤ g a b; omega, rfl⟩⟩
        · rw [if_neg c2]
          exact ⟨h1, Or.inr ⟨h3, rfl⟩⟩
theorem imR_inr {f g : Nat → Nat → Int} {m : Int} {a n : Nat} {s r : Int × Nat × Nat} (h : imR m s r) (hfg : ∀ b, b < n → (a = b ∧ f a b = m ∧ g a b = 1000000) ∨ f a b = g a b) (hg : ∀ b, g a b ≤ 1000000) : ∀ j, j ≤ n → imR m (inr f a s j) (inr g a r j)
  | 0, _ => h
  | j + 1, hj => imR_stp (imR_inr h hfg hg j (by omega)) (hfg j (by omega)) (hg j)
theorem imR_otr {f g : Nat → Nat → Int} {m : Int} {n : Nat} {s r : Int × Nat × Nat} (h : imR m s r) (hfg : ∀ a b, a < n → b < n → (a = b ∧ f a b = m ∧ g a b = 1000000) ∨ f a b = g a b) (hg : ∀ a b, g a b ≤ 1000000) : ∀ i, i ≤ n → imR m (otr f n s i) (otr g n r i)
  | 0, _ => h
  | i + 1, hi => imR_inr (imR_otr h hfg hg i (by omega)) (fun b hb => hfg i b (by omega) hb) (hg i) n (Nat.le_refl _)
theorem imp_ok (t : Nat → Int) (mm nn : Nat) (o o' : Nat → Nat) (ht : ∀ k, 0 ≤ t k ∧ t k ≤ 99) (hn : nn ≤ 7) (hm : 1 ≤ mm ∧ mm ≤ 5) (he : eqn nn o o') (hP : IsP nn o) : rmV t mm nn o' = mk 0 mm t o nn - (imS t mm o nn nn).1 ∧ eqn nn (impO t mm nn o) (rmO t mm nn o') ∧ IsP nn (impO t mm nn o) := by
  have hmk : mk 0 mm t o' nn = mk 0 mm t o nn := mk_cg (fun k hk => (he k hk).symm)
  have hb := mk_rg (v := 0) (o := o) hm.1 hm.2 ht hn
  have hR : imR (mk 0 mm t o nn) (imS t mm o nn nn) (rmS t mm o' nn nn) := by
    refine imR_otr ⟨Int.le_refl _, Or.inr ⟨by show _ ≤ (1000000 : Int); omega, rfl⟩⟩ (fun a b ha hb2 => ?_) (fun a b => (rmF_rg hm ht hn a b).2) nn (Nat.le_refl _)
    by_cases e : a = b
    · refine Or.inl ⟨e, ?_, if_pos e⟩
      show mk 0 mm t (shf o a b) nn = _
      rw [← e, shf_id]
    · refine Or.inr ?_
      show mk 0 mm t (shf o a b) nn = if a = b then 1000000 else mk 0 mm t (shf o' a b) nn
      rw [if_neg e]
      exact mk_cg (shf_cg ha hb2 he)
  have hok := imS_ok (o := o) hm ht hn (Nat.le_refl nn)
  obtain ⟨h1, h2⟩ := hR
  unfold rmV rmO impO
  rw [hmk]
  rcases h2 with ⟨h3, h4⟩ | ⟨h3, h4⟩
  · have hlt : (imS t mm o nn nn).1 < mk 0 mm t o nn := by rw [h4]; exact h3
    have h5 := hok.2.1 hlt
    rw [if_pos h3, if_pos hlt, if_pos h3, ← h4]
    exact ⟨rfl, shf_cg h5.1 h5.2 he, isP_shf h5.1 h5.2 hP⟩
  · have hnl : ¬ (imS t mm o nn nn).1 < mk 0 mm t o nn := by
      rw [h4]
      exact Int.lt_irrefl _
    have hnr : ¬ (rmS t mm o' nn nn).1 < mk 0 mm t o nn := by omega
    rw [if_neg hnr, if_neg hnl, if_neg hnr, h4]
    exact ⟨by show (0 : Int) = _ - mk 0 mm t o nn; omega, he, hP⟩
end
section
/-! two machines: no order ends sooner than the rule's -/
def ahg (t : Nat → Int) (a b i j : Nat) : Bool :=
  if t (5 * i + a) ≤ t (5 * i + b) then (if t (5 * j + a) ≤ t (5 * j + b) then (if t (5 * i + a) < t (5 * j + a) ∨ (t (5 * i + a) = t (5 * j + a) ∧ i < j) then true else false) else true)
  else (if t (5 * j + a) ≤ t (5 * j + b) then false else (if t (5 * j + b) < t (5 * i + b) ∨ (t (5 * j + b) = t (5 * i + b) ∧ i < j) then true else false))
theorem ahg_iff {t : Nat → Int} {a b i j : Nat} : ahg t a b i j = true ↔ (t (5 * i + a) ≤ t (5 * i + b) ∧ (t (5 * j + a) ≤ t (5 * j + b) → (t (5 * i + a) < t (5 * j + a) ∨ (t (5 * i + a) = t (5 * j + a) ∧ i < j)))) ∨ (¬ t (5 * i + a) ≤ t (5 * i + b) ∧ ¬ t (5 * j + a) ≤ t (5 * j + b) ∧ (t (5 * j + b) < t (5 * i + b) ∨ (t (5 * j + b) = t (5 * i + b) ∧ i < j))) := by
  unfold ahg
  by_cases c1 : t (5 * i + a) ≤ t (5 * i + b)
  · rw [if_pos c1]
    by_cases c2 : t (5 * j + a) ≤ t (5 * j + b)
    · rw [if_pos c2]
      by_cases c3 : t (5 * i + a) < t (5 * j + a) ∨ (t (5 * i + a) = t (5 * j + a) ∧ i < j)
      · rw [if_pos c3]
        exact ⟨fun _ => Or.inl ⟨c1, fun _ => c3⟩, fun _ => rfl⟩
      · rw [if_neg c3]
        exact ⟨fun q => (by cases q), fun q => q.elim (fun q => absurd (q.2 c2) c3) (fun q => absurd c1 q.1)⟩
    · rw [if_neg c2]
      exact ⟨fun _ => Or.inl ⟨c1, fun q => absurd q c2⟩, fun _ => rfl⟩
  · rw [if_neg c1]
    by_cases c2 : t (5 * j + a) ≤ t (5 * j + b)
    · rw [if_pos c2]
      exact ⟨fun q => (by cases q), fun q => q.elim (fun q => absurd q.1 c1) (fun q => absurd c2 q.2.1)⟩
    · rw [if_neg c2]
      by_cases c3 : t (5 * j + b) < t (5 * i + b) ∨ (t (5 * j + b) = t (5 * i + b) ∧ i < j)
      · rw [if_pos c3]
        exact ⟨fun _ => Or.inr ⟨c1, c2, c3⟩, fun _ => rfl⟩
      · rw [if_neg c3]
        exact ⟨fun q => (by cases q), fun q => q.elim (fun q => absurd q.1 c1) (fun q => absurd q.2.2 c3)⟩
theorem ahg_tot (t : Nat → Int) (a b : Nat) : Tot (ahg t a b) := by
  refine ⟨fun i => ?_, fun i j k h1 h2 => ?_, fun i j h => ?_⟩
  · cases hh : ahg t a b i i with
    | false => rfl
    | true =>
      rw [ahg_iff] at hh
      omega
  · rw [ahg_iff] at h1 h2 ⊢
    omega
  · rw [ahg_iff, ahg_iff]
    omega
theorem gbr_ahg {t : Nat → Int} {a b i j : Nat} (h : j < i) : gbr t a b i j = ahg t a b i j := by
  unfold gbr ahg
  split
  · split
    · by_cases c : t (5 * i + a) < t (5 * j + a)
      · rw [if_pos c, if_pos (Or.inl c)]
      · rw [if_neg c, if_neg (by omega)]
    · rfl
  · split
    · rfl
    · by_cases c : t (5 * j + b) < t (5 * i + b)
      · rw [if_pos c, if_pos (Or.inl c)]
      · rw [if_neg c, if_neg (by omega)]
/-- one job more on the two machines -/
def jst (t : Nat → Int) (a b : Nat) (z : Int × Int) (x : Nat) : Int × Int := (z.1 + t (5 * x + a), max (z.1 + t (5 * x + a)) z.2 + t (5 * x + b))
def jfo (t : Nat → Int) (a b : Nat) : List Nat → Int × Int → Int × Int
  | [], z => z
  | x :: L, z => jfo t a b L (jst t a b z x)
theorem jfo_app (t : Nat → Int) (a b : Nat) : ∀ (L M : List Nat) (z : Int × Int), jfo t a b (L ++ M) z = jfo t a b M (jfo t a b L z)
  | [], _, _ => rfl
  | x :: L, M, z => jfo_app t a b L M (jst t a b z x)
theorem opS_jfo (t : Nat → Int) (r : Nat → Nat) (a b : Nat) : ∀ n, jfo t a b ((List.range n).map r) (0, 0) = (opF t r a n, opS t r a b n)
  | 0 => rfl
  | n + 1 => by
    rw [List.range_succ, List.map_append, jfo_app, opS_jfo t r a b n]
    rfl
def jle (z w : Int × Int) : Prop := z.1 = w.1 ∧ z.2 ≤ w.2
theorem jst_mono {t : Nat → Int} {a b x : Nat} {z w : Int × Int} (h : jle z w) : jle (jst t a b z x) (jst t a b w x) := by
  obtain ⟨h1, h2⟩ := h
  refine ⟨?_, ?_⟩
  · show z.1 + _ = w.1 + _
    rw [h1]
  · show max (z.1 + _) z.2 + _ ≤ max (w.1 + _) w.2 + _
    rw [h1]
    omega
theorem jfo_mono {t : Nat → Int} {a b : Nat} : ∀ (L : List Nat) {z w : Int × Int}, jle z w → jle (jfo t a b L z) (jfo t a b L w)
  | [], _, _, h => h
  | _ :: L, _, _, h => jfo_mono L (jst_mono h)
theorem jle_tr {u v w : Int × Int} (h1 : jle u v) (h2 : jle v w) : jle u w := ⟨h1.1.trans h2.1, Int.le_trans h1.2 h2.2⟩
theorem jst_swap {t : Nat → Int} {a b x y : Nat} (z : Int × Int) (h : ahg t a b x y = true) : jle (jst t a b (jst t a b z x) y) (jst t a b (jst t a b z y) x) := by
  rw [ahg_iff] at h
  refine ⟨?_, ?_⟩
  · show z.1 + t (5 * x + a) + t (5 * y + a) = z.1 + t (5 * y + a) + t (5 * x + a)
    omega
  · show max (z.1 + t (5 * x + a) + t (5 * y + a)) (max (z.1 + t (5 * x + a)) z.2 + t (5 * x + b)) + t (5 * y + b) ≤ max (z.1 + t (5 * y + a) + t (5 * x + a)) (max (z.1 + t (5 * y + a)) z.2 + t (5 * y + b)) + t (5 * x + b)
    omega
def inL (R : Nat → Nat → Bool) (x : Nat) : List Nat → List Nat
  | [] => [x]
  | y :: L => if R y x = true then y :: inL R x L else x :: y :: L
def soL (R : Nat → Nat → Bool) : List Nat → List Nat
  | [] => []
  | x :: L => inL R x (soL R L)
theorem jfo_in {t : Nat → Int} {a b x : Nat} : ∀ (L : List Nat) (z : Int × Int), jle (jfo t a b (inL (ahg t a b) x L) z) (jfo t a b (x :: L) z)
  | [], z => ⟨rfl, Int.le_refl _⟩
  | y :: L, z => by
    unfold inL
    by_cases c : ahg t a b y x = true
    · rw [if_pos c]
      exact jle_tr (jfo_in L (jst t a b z y)) (jfo_mono L (jst_swap z c))
    · rw [if_neg c]
      exact ⟨rfl, Int.le_refl _⟩
theorem jfo_so {t : Nat → Int} {a b : Nat} : ∀ (L : List Nat) (z : Int × Int), jle (jfo t a b (soL (ahg t a b) L) z) (jfo t a b L z)
  | [], z => ⟨rfl, Int.le_refl _⟩
  | x :: L, z => jle_tr (jfo_in (soL (ahg t a b) L) z) (jfo_so L (jst t a b z x))
theorem mem_in {R : Nat → Nat → Bool} {x z : Nat} : ∀ L, z ∈ inL R x L ↔ z = x ∨ z ∈ L
  | [] => by
    unfold inL
    simp
  | y :: L => by
    unfold inL
    by_cases c : R y x = true
    · rw [if_pos c, List.mem_cons, List.mem_cons, mem_in L]
      constructor
      · rintro (h | h | h)
        · exact Or.inr (Or.inl h)
        · exact Or.inl h
        · exact Or.inr (Or.inr h)
      · rintro (h | h | h)
        · exact Or.inr (Or.inl h)
        · exact Or.inl h
        · exact Or.inr (Or.inr h)
    · rw [if_neg c, List.mem_cons]
theorem mem_so {R : Nat → Nat → Bool} {z : Nat} : ∀ L, z ∈ soL R L ↔ z ∈ L
  | [] => Iff.rfl
  | x :: L => by
    show z ∈ inL R x (soL R L) ↔ _
    rw [mem_in, mem_so L, List.mem_cons]
theorem pw_in {R : Nat → Nat → Bool} (hR : Tot R) {x : Nat} : ∀ L, L.Pairwise (fun u v => R u v = true) → x ∉ L → (inL R x L).Pairwise (fun u v => R u v = true)
  | [], _, _ => List.pairwise_singleton _ _
  | y :: L, h, hx => by
    obtain ⟨h1, h2⟩ := List.pairwise_cons.mp h
    have hxy : x ≠ y := fun e => hx (by rw [e]; exact List.mem_cons_self)
    unfold inL
    by_cases c : R y x = true
    · rw [if_pos c]
      refine List.pairwise_cons.mpr ⟨fun z hz => ?_, pw_in hR L h2 (fun q => hx (List.mem_cons_of_mem _ q))⟩
      rcases (mem_in L).mp hz with e | e
      · rw [e]
        exact c
      · exact h1 z e
    · rw [if_neg c]
      have hxy2 : R x y = true := (hR.2.2 x y hxy).elim id (fun q => absurd q c)
      refine List.pairwise_cons.mpr ⟨fun z hz => ?_, h⟩
      rcases List.mem_cons.mp hz with e | e
      · rw [e]
        exact hxy2
      · exact hR.2.1 _ _ _ hxy2 (h1 z e)
theorem pw_so {R : Nat → Nat → Bool} (hR : Tot R) : ∀ L, L.Nodup → (soL R L).Pairwise (fun u v => R u v = true)
  | [], _ => List.Pairwise.nil
  | x :: L, h => by
    obtain ⟨h1, h2⟩ := List.nodup_cons.mp h
    exact pw_in hR _ (pw_so hR L h2) (fun q => h1 ((mem_so L).mp q))
theorem pw_uniq {R : Nat → Nat → Bool} (hR : Tot R) : ∀ L M : List Nat, L.Pairwise (fun u v => R u v = true) → M.Pairwise (fun u v => R u v = true) → (∀ x, x ∈ L ↔ x ∈ M) → L = M
  | [], [], _, _, _ => rfl
  | [], y :: M, _, _, h => absurd ((h y).mpr List.mem_cons_self) List.not_mem_nil
  | x :: L, [], _, _, h => absurd ((h x).mp List.mem_cons_self) List.not_mem_nil
  | x :: L, y :: M, hL, hM, h => by
    obtain ⟨l1, l2⟩ := List.pairwise_cons.mp hL
    obtain ⟨m1, m2⟩ := List.pairwise_cons.mp hM
    have hir : ∀ u, ¬ R u u = true := fun u q => by
      rw [hR.1 u] at q
      cases q
    have e : x = y := by
      rcases List.mem_cons.mp ((h x).mp List.mem_cons_self) with q | q
      · exact q
      · rcases List.mem_cons.mp ((h y).mpr List.mem_cons_self) with q2 | q2
        · exact q2.symm
        · have := hR.2.1 _ _ _ (m1 x q) (l1 y q2)
          exact absurd this (hir y)
    subst e
    congr 1
    refine pw_uniq hR L M l2 m2 (fun z => ⟨fun hz => ?_, fun hz => ?_⟩)
    · rcases List.mem_cons.mp ((h z).mp (List.mem_cons_of_mem _ hz)) with q | q
      · rw [q] at hz
        exact absurd (l1 x hz) (hir x)
      · exact q
    · rcases List.mem_cons.mp ((h z).mpr (List.mem_cons_of_mem _ hz)) with q | q
      · rw [q] at hz
        exact absurd (m1 x hz) (hir x)
      · exact q
theorem nd_map {n : Nat} {s : Nat → Nat} (h : IsP n s) : ((List.range n).map s).Nodup := by
  unfold List.Nodup
  rw [List.pairwise_map]
  refine List.Pairwise.imp_of_mem ?_ (List.nodup_range (n := n))
  intro a b ha hb hab e
  exact hab (h.2 a b (List.mem_range.mp ha) (List.mem_range.mp hb) e)
theorem mem_map_p {n : Nat} {s : Nat → Nat} (h : IsP n s) (x : Nat) : x ∈ (List.range n).map s ↔ x < n := by
  rw [List.mem_map]
  constructor
  · rintro ⟨a, ha, e⟩
    rw [← e]
    exact h.1 a (List.mem_range.mp ha)
  · intro hx
    obtain ⟨q, hq, e⟩ := isP_surj n s h x hx
    exact ⟨q, List.mem_range.mpr hq, e⟩
theorem pw_map {R : Nat → Nat → Bool} {n : Nat} {s : Nat → Nat} (h : Srd R n s) : ((List.range n).map s).Pairwise (fun u v => R u v = true) := by
  rw [List.pairwise_map]
  refine List.Pairwise.imp_of_mem ?_ (List.pairwise_lt_range (n := n))
  intro a b ha hb hab
  exact h.2 a b hab (List.mem_range.mp hb)
/-- Johnson -/
theorem johnson {t : Nat → Int} {a b n : Nat} {s r : Nat → Nat} (hs : Srd (ahg t a b) n s) (hr : IsP n r) : opS t s a b n ≤ opS t r a b n := by
  have e : soL (ahg t a b) ((List.range n).map r) = (List.range n).map s := by
    refine pw_uniq (ahg_tot t a b) _ _ (pw_so (ahg_tot t a b) _ (nd_map hr)) (pw_map hs) (fun x => ?_)
    rw [mem_so, mem_map_p hr, mem_map_p hs.1]
  have h := jfo_so (t := t) (a := a) (b := b) ((List.range n).map r) (0, 0)
  rw [e, opS_jfo, opS_jfo] at h
  exact h.2
theorem opS_cg {t : Nat → Int} {a b : Nat} {r r' : Nat → Nat} : ∀ n, eqn n r r' → opF t r a n = opF t r' a n ∧ opS t r a b n = opS t r' a b n
  | 0, _ => ⟨rfl, rfl⟩
  | n + 1, h => by
    have ih := opS_cg (t := t) (a := a) (b := b) n (fun k hk => h k (by omega))
    have e : r n = r' n := h n (by omega)
    have h1 : opF t r a (n + 1) = opF t r' a (n + 1) := by
      show opF t r a n + t (5 * r n + a) = opF t r' a n + t (5 * r' n + a)
      rw [ih.1, e]
    refine ⟨h1, ?_⟩
    show max (opF t r a (n + 1)) (opS t r a b n) + t (5 * r n + b) = max (opF t r' a (n + 1)) (opS t r' a b n) + t (5 * r' n + b)
    rw [h1, ih.2, e]
theorem pbm_le {g : Nat → Int} : ∀ n y, y < n → pbm g n ≤ g y
  | n + 1, y, h => by
    show min (pbm g n) (g n) ≤ g y
    by_cases e : y = n
    · rw [e]
      omega
    · have := pbm_le (g := g) n y (by omega)
      omega
theorem pbm_ge {g : Nat → Int} {c : Int} (h0 : c ≤ 1000000) : ∀ n, (∀ y, y < n → c ≤ g y) → c ≤ pbm g n
  | 0, _ => h0
  | n + 1, h => by
    have h1 := pbm_ge h0 n (fun y hy => h y (by omega))
    have h2 := h n (by omega)
    show c ≤ min _ _
    omega
end
section
/-! the run through all orders -/
def ofL (L : List Nat) : Nat → Nat := fun k => L.getD k 0
def pm : Nat → List Nat → List (List Nat)
  | 0, _ => [[]]
  | n + 1, av => av.flatMap (fun x => (pm n (av.erase x)).map (fun l => x :: l))
def chn (nn : Nat) : List (List Nat) → Bool
  | [] => true
  | [L] => pvt (ofL L) (nn - 1) == 0
  | L :: M :: r => Nat.ble 1 (pvt (ofL L) (nn - 1)) && (List.range nn).all (fun k => nxT (ofL L) nn k == ofL M k) && chn nn (M :: r)
theorem mem_pm : ∀ (n : Nat) (av l : List Nat), l.length = n → l.Nodup → (∀ x ∈ l, x ∈ av) → l ∈ pm n av
  | 0, av, l, h, _, _ => by
    rw [List.length_eq_zero_iff.mp h]
    exact List.mem_singleton.mpr rfl
  | n + 1, av, l, h, hd, hm => by
    cases l with
    | nil => cases h
    | cons x l =>
      obtain ⟨h1, h2⟩ := List.nodup_cons.mp hd
      refine List.mem_flatMap.mpr ⟨x, hm x List.mem_cons_self, List.mem_map.mpr ⟨l, ?_, rfl⟩⟩
      refine mem_pm n (av.erase x) l (by simpa using h) h2 (fun y hy => ?_)
      have hne : y ≠ x := fun e => h1 (by rw [← e]; exact hy)
      exact (List.mem_erase_of_ne hne).mpr (hm y (List.mem_cons_of_mem _ hy))
theorem sq_sh (nn : Nat) : ∀ (r : Nat → Nat) (y : Nat), sq r nn (y + 1) = sq (nxT r nn) nn y
  | _, 0 => rfl
  | r, y + 1 => by
    show nxT (sq r nn (y + 1)) nn = nxT (sq (nxT r nn) nn y) nn
    rw [sq_sh nn r y]
theorem chn_sq {nn : Nat} : ∀ (r : List (List Nat)) (L : List Nat) (s : Nat → Nat), chn nn (L :: r) = true → eqn nn s (ofL L) → (∀ y, y < r.length + 1 → eqn nn (sq s nn y) (ofL ((L :: r).getD y []))) ∧ (∀ y, y < r.length → 1 ≤ pvt (sq s nn y) (nn - 1)) ∧ (1 ≤ nn → pvt (sq s nn r.length) (nn - 1) = 0)
  | [], L, s, h, e => by
    refine ⟨fun y hy => ?_, fun y hy => absurd hy (Nat.not_lt_zero _), fun h1 => ?_⟩
    · rw [show y = 0 by exact Nat.lt_one_iff.mp hy]
      exact e
    · have h2 : (pvt (ofL L) (nn - 1) == 0) = true := h
      show pvt s (nn - 1) = 0
      rw [pvt_cg (r' := ofL L) (fun k hk => e k (by omega))]
      exact eq_of_beq h2
  | M :: r, L, s, h, e => by
    have h2 : (Nat.ble 1 (pvt (ofL L) (nn - 1)) && (List.range nn).all (fun k => nxT (ofL L) nn k == ofL M k) && chn nn (M :: r)) = true := h
    rw [Bool.and_eq_true, Bool.and_eq_true] at h2
    obtain ⟨⟨h3, h4⟩, h5⟩ := h2
    have h3' : 1 ≤ pvt (ofL L) (nn - 1) := Nat.le_of_ble_eq_true h3
    have hnn : 1 ≤ nn := by
      rcases Nat.eq_zero_or_pos nn with q | q
      · rw [q] at h3'
        exact absurd h3' (Nat.not_succ_le_zero _)
      · exact q
    have e2 : eqn nn (nxT s nn) (ofL M) := fun k hk => by
      rw [nxT_cg e k hk]
      exact eq_of_beq (List.all_eq_true.mp h4 k (List.mem_range.mpr hk))
    obtain ⟨i1, i2, i3⟩ := chn_sq r M (nxT s nn) h5 e2
    refine ⟨fun y hy => ?_, fun y hy => ?_, fun h1 => ?_⟩
    · cases y with
      | zero => exact e
      | succ y =>
        rw [sq_sh]
        exact i1 y (by simpa using hy)
    · cases y with
      | zero =>
        show 1 ≤ pvt s (nn - 1)
        rw [pvt_cg (r' := ofL L) (fun k hk => e k (by omega))]
        exact h3'
      | succ y =>
        rw [sq_sh]
        exact i2 y (by simpa using hy)
    · show pvt (sq s nn (r.length + 1)) (nn - 1) = 0
      rw [sq_sh]
      exact i3 h1
/-- what the check of one count gives -/
def okN (nn : Nat) : Bool := chn nn (pm nn (List.range nn)) && (pm nn (List.range nn)).length == fac nn && (pm nn (List.range nn)).head? == some (List.range nn)
set_option maxRecDepth 100000 in
theorem okN_a : okN 0 = true ∧ okN 1 = true ∧ okN 2 = true ∧ okN 3 = true ∧ okN 4 = true ∧ okN 5 = true := by decide +kernel
set_option maxRecDepth 100000 in
theorem okN_6 : okN 6 = true := by decide +kernel
end
section
set_option maxRecDepth 100000 in
theorem okN_7 : okN 7 = true := by decide +kernel
end
section
theorem okN_all {nn : Nat} (h : nn ≤ 7) : okN nn = true := by
  obtain ⟨h0, h1, h2, h3, h4, h5⟩ := okN_a
  rcases (show nn = 0 ∨ nn = 1 ∨ nn = 2 ∨ nn = 3 ∨ nn = 4 ∨ nn = 5 ∨ nn = 6 ∨ nn = 7 by omega) with e | e | e | e | e | e | e | e
  · rw [e]; exact h0
  · rw [e]; exact h1
  · rw [e]; exact h2
  · rw [e]; exact h3
  · rw [e]; exact h4
  · rw [e]; exact h5
  · rw [e]; exact okN_6
  · rw [e]; exact okN_7
theorem ofL_range {nn : Nat} : eqn nn nId (ofL (List.range nn)) := fun k hk => by
  unfold ofL
  rw [List.getD_eq_getElem?_getD, List.getElem?_range hk]
  rfl
theorem ok_run {nn : Nat} (h : nn ≤ 7) : (pm nn (List.range nn)).length = fac nn ∧ (∀ y, y < fac nn → eqn nn (sq nId nn y) (ofL ((pm nn (List.range nn)).getD y []))) ∧ (∀ y, y + 1 < fac nn → 1 ≤ pvt (sq nId nn y) (nn - 1)) ∧ (1 ≤ nn → pvt (sq nId nn (fac nn - 1)) (nn - 1) = 0) := by
  have hk := okN_all h
  unfold okN at hk
  rw [Bool.and_eq_true, Bool.and_eq_true] at hk
  obtain ⟨⟨k1, k2⟩, k3⟩ := hk
  have k2 := eq_of_beq k2
  have k3 := eq_of_beq k3
  generalize pm nn (List.range nn) = P at k1 k2 k3 ⊢
  cases P with
  | nil => cases k3
  | cons L r =>
    have eL : L = List.range nn := Option.some.inj k3
    have k2' : r.length + 1 = fac nn := k2
    obtain ⟨i1, i2, i3⟩ := chn_sq r L nId k1 (by rw [eL]; exact ofL_range)
    refine ⟨k2, fun y hy => i1 y (by omega), fun y hy => i2 y (by omega), fun h1 => ?_⟩
    rw [show fac nn - 1 = r.length by omega]
    exact i3 h1
theorem enu_ok (nn : Nat) (h : nn ≤ 7) : Enu nn := by
  obtain ⟨-, -, h2, h3⟩ := ok_run h
  refine ⟨h2, ?_⟩
  rcases Nat.eq_zero_or_pos nn with q | q
  · rw [q]
    rfl
  · exact h3 q
theorem run_mem {nn : Nat} (h : nn ≤ 7) {s : Nat → Nat} (hs : IsP nn s) : ∃ y, y < fac nn ∧ eqn nn (sq nId nn y) s := by
  obtain ⟨h1, h2, -, -⟩ := ok_run h
  have hm := mem_pm nn (List.range nn) ((List.range nn).map s) (by simp) (nd_map hs) (fun x hx => List.mem_range.mpr ((mem_map_p hs x).mp hx))
  obtain ⟨y, hy, e⟩ := List.mem_iff_getElem.mp hm
  refine ⟨y, by omega, fun k hk => ?_⟩
  rw [h2 y (by omega) k hk]
  unfold ofL
  rw [List.getD_eq_getElem?_getD (l := pm nn (List.range nn)), List.getElem?_eq_getElem hy, Option.getD_some, e, List.getD_eq_getElem?_getD, List.getElem?_map, List.getElem?_range hk]
  rfl
theorem isP_swp {n : Nat} {r : Nat → Nat} {a b : Nat} (ha : a < n) (hb : b < n) (h : IsP n r) : IsP n (swp r a b) := by
  refine ⟨swp_lt ha hb h.1, fun i j hi hj e => ?_⟩
  unfold swp va_up at e
  by_cases i1 : i = b
  · by_cases j1 : j = b
    · omega
    · rw [if_pos i1, if_neg j1] at e
      by_cases j2 : j = a
      · rw [if_pos j2] at e
        have := h.2 a b ha hb e
        omega
      · rw [if_neg j2] at e
        have := h.2 a j ha hj e
        omega
  · by_cases j1 : j = b
    · rw [if_neg i1, if_pos j1] at e
      by_cases i2 : i = a
      · rw [if_pos i2] at e
        have := h.2 b a hb ha e
        omega
      · rw [if_neg i2] at e
        have := h.2 i a hi ha e
        omega
    · rw [if_neg i1, if_neg j1] at e
      by_cases i2 : i = a
      · by_cases j2 : j = a
        · omega
        · rw [if_pos i2, if_neg j2] at e
          have := h.2 b j hb hj e
          omega
      · by_cases j2 : j = a
        · rw [if_neg i2, if_pos j2] at e
          have := h.2 i b hi hb e
          omega
        · rw [if_neg i2, if_neg j2] at e
          exact h.2 i j hi hj e
theorem isP_rvs {n : Nat} {r : Nat → Nat} {a b : Nat} (hb : b < n) (h : IsP n r) : ∀ i, a + i ≤ b + 1 → IsP n (rvs r a b i)
  | 0, _ => h
  | i + 1, hi => isP_swp (by omega) (by omega) (isP_rvs hb h i (by omega))
theorem isP_nxT {nn : Nat} {r : Nat → Nat} (h : IsP nn r) : IsP nn (nxT r nn) := by
  unfold nxT
  by_cases c : pvt r (nn - 1) = 0
  · rw [if_pos c]
    exact h
  · rw [if_neg c]
    have h1 := pvt_le r (nn - 1)
    have h2 := ptn_le r (pvt r (nn - 1) - 1) (nn - 1)
    exact isP_rvs (by omega) (isP_swp (by omega) (by omega) h) _ (by omega)
theorem isP_sq {nn : Nat} {r : Nat → Nat} (h : IsP nn r) : ∀ y, IsP nn (sq r nn y)
  | 0 => h
  | y + 1 => isP_nxT (isP_sq h y)
theorem isP_idr (r : Nat → Nat) (nn : Nat) : IsP nn (idr r nn) := ⟨fun k hk => by rw [idr_id k hk]; exact hk, fun i j hi hj e => by rw [idr_id i hi, idr_id j hj] at e; exact e⟩
theorem pair_ok (t : Nat → Int) (nn a b : Nat) (r r' : Nat → Nat) (ht : ∀ k, 0 ≤ t k ∧ t k ≤ 99) (hn : nn ≤ 7) (h1 : 1 ≤ nn) : pbm (fun yy => opS t (sq (idr r' nn) nn yy) a b nn) (fac nn) = opS t (srt (gbr t a b) r nn) a b nn := by
  have hs : Srd (ahg t a b) nn (srt (gbr t a b) r nn) := srt_srd (ahg_tot t a b) (fun i j _ hj => gbr_ahg hj) nn (Nat.le_refl _)
  have hb := opS_rg ht (srt (gbr t a b) r nn) a b nn
  obtain ⟨y, hy, e⟩ := run_mem hn hs.1
  have e2 : eqn nn (sq (idr r' nn) nn y) (srt (gbr t a b) r nn) := fun k hk => (sq_cg idr_id y k hk).trans (e k hk)
  have l1 := pbm_le (g := fun yy => opS t (sq (idr r' nn) nn yy) a b nn) (fac nn) y hy
  have l2 : opS t (sq (idr r' nn) nn y) a b nn = opS t (srt (gbr t a b) r nn) a b nn := (opS_cg nn e2).2
  have l3 := pbm_ge (g := fun yy => opS t (sq (idr r' nn) nn yy) a b nn) (c := opS t (srt (gbr t a b) r nn) a b nn) (by omega) (fac nn) (fun y _ => johnson hs (isP_sq (isP_idr r' nn) y))
  have l4 : pbm (fun yy => opS t (sq (idr r' nn) nn yy) a b nn) (fac nn) ≤ opS t (sq (idr r' nn) nn y) a b nn := l1
  omega
end
section
/-! the three variants: none ends sooner than the one ahead of it -/
theorem mom_le {v w mm : Nat} {t b e b' e' : Nat → Int} {m0 m1 : Int} (h0 : m0 ≤ m1) (h : ∀ k, k < mm → frm v mm b e k ≤ frm w mm b' e' k) : ∀ k, k ≤ mm → mom v mm t b e m0 k ≤ mom w mm t b' e' m1 k
  | 0, _ => h0
  | k + 1, hk => by
    have h1 := mom_le h0 h k (by omega)
    have h2 := h k (by omega)
    show max (mom v mm t b e m0 k) (frm v mm b e k) + t k ≤ max (mom w mm t b' e' m1 k) (frm w mm b' e' k) + t k
    omega
theorem row_1 {v mm : Nat} {t : Nat → Int} {o : Nat → Nat} {p k : Nat} : (row v mm t o (p + 1)).1 k = max (mom v mm (tj t (o p)) (row v mm t o p).1 (row v mm t o p).2 (m0v v mm (tj t (o p)) (row v mm t o p).2) k) (frm v mm (row v mm t o p).1 (row v mm t o p).2 k) := rfl
theorem row_2 {v mm : Nat} {t : Nat → Int} {o : Nat → Nat} {p k : Nat} : (row v mm t o (p + 1)).2 k = mom v mm (tj t (o p)) (row v mm t o p).1 (row v mm t o p).2 (m0v v mm (tj t (o p)) (row v mm t o p).2) (k + 1) := rfl
theorem row_lag (v mm : Nat) (t : Nat → Int) (o : Nat → Nat) : ∀ p k, (row v mm t o p).2 k ≤ (row v mm t o p).1 (k + 1)
  | 0, _ => Int.le_refl _
  | p + 1, k => by
    rw [row_1, row_2]
    omega
theorem row_dom {v w mm : Nat} {t : Nat → Int} {o : Nat → Nat} {p : Nat} (h0 : m0v v mm (tj t (o p)) (row v mm t o p).2 ≤ m0v w mm (tj t (o p)) (row w mm t o p).2)
    (hf : ∀ k, k < mm → frm v mm (row v mm t o p).1 (row v mm t o p).2 k ≤ frm w mm (row w mm t o p).1 (row w mm t o p).2 k) : ∀ k, k < mm → (row v mm t o (p + 1)).1 k ≤ (row w mm t o (p + 1)).1 k ∧ (row v mm t o (p + 1)).2 k ≤ (row w mm t o (p + 1)).2 k := fun k hk => by
  have h1 := mom_le (t := tj t (o p)) h0 hf k (by omega)
  have h2 := mom_le (t := tj t (o p)) h0 hf (k + 1) (by omega)
  have h3 := hf k hk
  refine ⟨?_, h2⟩
  have e1 := row_1 (v := v) (mm := mm) (t := t) (o := o) (p := p) (k := k)
  have e2 := row_1 (v := w) (mm := mm) (t := t) (o := o) (p := p) (k := k)
  omega
theorem row_01 {mm : Nat} {t : Nat → Int} {o : Nat → Nat} : ∀ p k, k < mm → (row 0 mm t o p).1 k ≤ (row 1 mm t o p).1 k ∧ (row 0 mm t o p).2 k ≤ (row 1 mm t o p).2 k
  | 0, _, _ => ⟨Int.le_refl _, Int.le_refl _⟩
  | p + 1, k, hk => by
    have ih := row_01 (mm := mm) (t := t) (o := o) p
    refine row_dom ?_ (fun k hk => ?_) k hk
    · unfold m0v
      rw [if_neg (by decide), if_neg (by decide)]
      exact Int.le_refl _
    · have h1 := (ih k hk).2
      have h2 := row_lag 1 mm t o p k
      unfold frm
      rw [if_neg (by omega)]
      split
      · omega
      · exact h1
theorem row_nw {mm : Nat} {t : Nat → Int} {o : Nat → Nat} : ∀ p k, k + 1 < mm → (row 2 mm t o p).1 (k + 1) = (row 2 mm t o p).2 k
  | 0, _, _ => rfl
  | p + 1, k, hk => by
    have hz : ∀ k, k < mm → (row 2 mm t o p).2 k - wyC (tj t (o p)) k ≤ m0v 2 mm (tj t (o p)) (row 2 mm t o p).2 := fun k hk => by
      unfold m0v
      rw [if_pos rfl]
      exact stC_ge hk
    have h1 := mom_z (b := (row 2 mm t o p).1) hz (k + 1) (by omega)
    have h2 := hz (k + 1) hk
    rw [row_1, row_2, frm_2]
    omega
theorem row_12 {mm : Nat} {t : Nat → Int} {o : Nat → Nat} : ∀ p k, k < mm → (row 1 mm t o p).1 k ≤ (row 2 mm t o p).1 k ∧ (row 1 mm t o p).2 k ≤ (row 2 mm t o p).2 k
  | 0, _, _ => ⟨Int.le_refl _, Int.le_refl _⟩
  | p + 1, k, hk => by
    have ih := row_12 (mm := mm) (t := t) (o := o) p
    refine row_dom ?_ (fun k hk => ?_) k hk
    · unfold m0v
      rw [if_neg (by decide), if_pos rfl]
      exact stC_mono mm 0 (Nat.zero_le _)
    · rw [frm_2]
      unfold frm
      by_cases h : 1 = 1 ∧ k + 1 < mm
      · rw [if_pos h]
        have h1 := (ih (k + 1) h.2).1
        have h2 := row_nw (t := t) (o := o) p k h.2
        omega
      · rw [if_neg h]
        exact (ih k hk).2
theorem mk_01 {mm : Nat} {t : Nat → Int} {o : Nat → Nat} {c : Nat} (h : 1 ≤ mm) : mk 0 mm t o c ≤ mk 1 mm t o c := (row_01 c (mm - 1) (by omega)).2
theorem mk_12 {mm : Nat} {t : Nat → Int} {o : Nat → Nat} {c : Nat} (h : 1 ≤ mm) : mk 1 mm t o c ≤ mk 2 mm t o c := (row_12 c (mm - 1) (by omega)).2
/-! what the search finds is the least -/
theorem bst_at {g : Nat → Int} : ∀ i, (0 < i → g (bst g i).2.2 = (bst g i).1 ∧ (bst g i).2.2 < i) ∧ ∀ y, y < i → (bst g i).1 ≤ g y
  | 0 => ⟨fun h => absurd h (Nat.lt_irrefl _), fun y h => absurd h (Nat.not_lt_zero _)⟩
  | i + 1 => by
    obtain ⟨h1, h2⟩ := bst_at (g := g) i
    have e : bst g (i + 1) = if (bst g i).2.1 = 0 ∨ g i < (bst g i).1 then (g i, 1, i) else if g i = (bst g i).1 then ((bst g i).1, (bst g i).2.1 + 1, (bst g i).2.2) else bst g i := rfl
    by_cases hi : i = 0
    · subst hi
      have e : bst g (0 + 1) = (g 0, 1, 0) := if_pos (Or.inl rfl)
      rw [e]
      exact ⟨fun _ => ⟨rfl, Nat.one_pos⟩, fun y hy => by rw [show y = 0 by omega]; exact Int.le_refl _⟩
    · have hp := bst_pos (g := g) (i := i) (by omega)
      have h1 := h1 (by omega)
      rw [e]
      by_cases c : (bst g i).2.1 = 0 ∨ g i < (bst g i).1
      · rw [if_pos c]
        have c2 : g i < (bst g i).1 := c.elim (fun q => absurd q (by omega)) id
        refine ⟨fun _ => ⟨rfl, Nat.lt_succ_self _⟩, fun y hy => ?_⟩
        show g i ≤ g y
        by_cases e : y = i
        · rw [e]
          exact Int.le_refl _
        · have := h2 y (by omega)
          omega
      · rw [if_neg c]
        have c2 : ¬ g i < (bst g i).1 := fun q => c (Or.inr q)
        have key : ∀ y, y < i + 1 → (bst g i).1 ≤ g y := fun y hy => by
          by_cases e : y = i
          · rw [e]
            omega
          · exact h2 y (by omega)
        by_cases c3 : g i = (bst g i).1
        · rw [if_pos c3]
          exact ⟨fun _ => ⟨h1.1, Nat.lt_succ_of_lt h1.2⟩, key⟩
        · rw [if_neg c3]
          exact ⟨fun _ => ⟨h1.1, Nat.lt_succ_of_lt h1.2⟩, key⟩
theorem isP_nId (nn : Nat) : IsP nn nId := ⟨fun _ hk => hk, fun _ _ _ _ e => e⟩
theorem sol_le {v mm : Nat} {t : Nat → Int} {nn : Nat} {o : Nat → Nat} (hn : nn ≤ 7) (ho : IsP nn o) : (sol v mm t nn).1 ≤ mk v mm t o nn := by
  obtain ⟨y, hy, e⟩ := run_mem hn ho
  have h := (bst_at (g := gsq v mm t nId nn) (fac nn)).2 y hy
  have e2 : gsq v mm t nId nn y = mk v mm t o nn := mk_cg e
  rw [e2] at h
  exact h
theorem sol_at {v mm : Nat} {t : Nat → Int} {nn : Nat} (hn : nn ≤ 7) : IsP nn (solJ v mm t nn) ∧ mk v mm t (solJ v mm t nn) nn = (sol v mm t nn).1 :=
  ⟨isP_sq (isP_nId nn) _, ((bst_at (g := gsq v mm t nId nn) (fac nn)).1 (fac_le hn).1).1⟩
theorem sol_lt {v mm : Nat} {t : Nat → Int} {nn : Nat} (hn : nn ≤ 7) : (sol v mm t nn).2.2 < fac nn := ((bst_at (g := gsq v mm t nId nn) (fac nn)).1 (fac_le hn).1).2
theorem sol_01 {mm : Nat} {t : Nat → Int} {nn : Nat} (h : 1 ≤ mm) (hn : nn ≤ 7) : (sol 0 mm t nn).1 ≤ (sol 1 mm t nn).1 := by
  have h1 := sol_at (v := 1) (mm := mm) (t := t) hn
  have h2 := sol_le (v := 0) (mm := mm) (t := t) hn h1.1
  have h3 := mk_01 (t := t) (o := solJ 1 mm t nn) (c := nn) h
  omega
theorem sol_12 {mm : Nat} {t : Nat → Int} {nn : Nat} (h : 1 ≤ mm) (hn : nn ≤ 7) : (sol 1 mm t nn).1 ≤ (sol 2 mm t nn).1 := by
  have h1 := sol_at (v := 2) (mm := mm) (t := t) hn
  have h2 := sol_le (v := 1) (mm := mm) (t := t) hn h1.1
  have h3 := mk_12 (t := t) (o := solJ 2 mm t nn) (c := nn) h
  omega
end
section
/-! the bounds are at most any plain makespan -/
theorem frm_00 {mm : Nat} {b e : Nat → Int} {k : Nat} : frm 0 mm b e k = e k := if_neg (by omega)
theorem mom_sm {mm : Nat} {T : Nat → Int} {j : Nat} {b e : Nat → Int} {m : Int} : ∀ c k n, n = k + c → mom 0 mm (tj T j) b e m k + smC T j k c ≤ mom 0 mm (tj T j) b e m n
  | 0, k, n, h => by
    rw [show n = k by omega]
    show _ + (0 : Int) ≤ _
    omega
  | c + 1, k, n, h => by
    obtain ⟨q, rfl⟩ : ∃ q, n = q + 1 := ⟨n - 1, by omega⟩
    have ih := mom_sm (mm := mm) (T := T) (j := j) (b := b) (e := e) (m := m) c k q (by omega)
    have e1 : smC T j k (c + 1) = smC T j k c + T (5 * j + (k + c)) := rfl
    have e2 : mom 0 mm (tj T j) b e m (q + 1) = max (mom 0 mm (tj T j) b e m q) (frm 0 mm b e q) + T (5 * j + q) := rfl
    rw [show k + c = q by omega] at e1
    omega
theorem en_s {mm : Nat} {T : Nat → Int} {o : Nat → Nat} {p k : Nat} : (row 0 mm T o (p + 1)).2 k = max (mom 0 mm (tj T (o p)) (row 0 mm T o p).1 (row 0 mm T o p).2 (m0v 0 mm (tj T (o p)) (row 0 mm T o p).2) k) ((row 0 mm T o p).2 k) + T (5 * o p + k) := by
  have e2 : (row 0 mm T o (p + 1)).2 k = max (mom 0 mm (tj T (o p)) (row 0 mm T o p).1 (row 0 mm T o p).2 (m0v 0 mm (tj T (o p)) (row 0 mm T o p).2) k) (frm 0 mm (row 0 mm T o p).1 (row 0 mm T o p).2 k) + T (5 * o p + k) := rfl
  rw [frm_00] at e2
  exact e2
theorem m0_0 {mm : Nat} {t e : Nat → Int} : m0v 0 mm t e = 0 := if_neg (by decide)
theorem en_load {mm : Nat} {T : Nat → Int} {o : Nat → Nat} {k : Nat} : ∀ p, smR T (o 0) 0 k + opF T o k (p + 1) ≤ (row 0 mm T o (p + 1)).2 k
  | 0 => by
    have h := mom_sm (mm := mm) (T := T) (j := o 0) (b := (row 0 mm T o 0).1) (e := (row 0 mm T o 0).2) (m := m0v 0 mm (tj T (o 0)) (row 0 mm T o 0).2) k 0 k (by omega)
    have e0 : mom 0 mm (tj T (o 0)) (row 0 mm T o 0).1 (row 0 mm T o 0).2 (m0v 0 mm (tj T (o 0)) (row 0 mm T o 0).2) 0 = 0 := m0_0
    have e1 := en_s (mm := mm) (T := T) (o := o) (p := 0) (k := k)
    have e2 : opF T o k (0 + 1) = 0 + T (5 * o 0 + k) := rfl
    have e3 : smR T (o 0) 0 k = smC T (o 0) 0 k := rfl
    omega
  | p + 1 => by
    have ih := en_load (mm := mm) (T := T) (o := o) (k := k) p
    have e1 := en_s (mm := mm) (T := T) (o := o) (p := p + 1) (k := k)
    have e2 : opF T o k (p + 1 + 1) = opF T o k (p + 1) + T (5 * o (p + 1) + k) := rfl
    omega
theorem en_tail {mm : Nat} {T : Nat → Int} {o : Nat → Nat} {p k : Nat} (hk : k < mm) : (row 0 mm T o (p + 1)).2 k + smR T (o p) (k + 1) mm ≤ mk 0 mm T o (p + 1) := by
  have h := mom_sm (mm := mm) (T := T) (j := o p) (b := (row 0 mm T o p).1) (e := (row 0 mm T o p).2) (m := m0v 0 mm (tj T (o p)) (row 0 mm T o p).2) (mm - (k + 1)) (k + 1) mm (by omega)
  have e1 := row_2 (v := 0) (mm := mm) (t := T) (o := o) (p := p) (k := k)
  have e2 : mk 0 mm T o (p + 1) = mom 0 mm (tj T (o p)) (row 0 mm T o p).1 (row 0 mm T o p).2 (m0v 0 mm (tj T (o p)) (row 0 mm T o p).2) mm := by
    show (row 0 mm T o (p + 1)).2 (mm - 1) = _
    rw [row_2, show mm - 1 + 1 = mm by omega]
  have e3 : smR T (o p) (k + 1) mm = smC T (o p) (k + 1) (mm - (k + 1)) := rfl
  omega
theorem lsX_le {T : Nat → Int} {fr to : Nat} : ∀ n j, j ≤ n → lsX T fr to n ≤ smR T j fr to
  | 0, j, h => by
    rw [show j = 0 by omega]
    exact Int.le_refl _
  | n + 1, j, h => by
    show min (lsX T fr to n) (smR T (n + 1) fr to) ≤ _
    by_cases e : j = n + 1
    · rw [e]
      omega
    · have := lsX_le (T := T) (fr := fr) (to := to) n j (by omega)
      omega
theorem johnson1 {t : Nat → Int} {a b n : Nat} {s r : Nat → Nat} (hs : Srd (ahg t a b) n s) (hr : IsP n r) : opF t s a n = opF t r a n := by
  have e : soL (ahg t a b) ((List.range n).map r) = (List.range n).map s := by
    refine pw_uniq (ahg_tot t a b) _ _ (pw_so (ahg_tot t a b) _ (nd_map hr)) (pw_map hs) (fun x => ?_)
    rw [mem_so, mem_map_p hr, mem_map_p hs.1]
  have h := jfo_so (t := t) (a := a) (b := b) ((List.range n).map r) (0, 0)
  rw [e, opS_jfo, opS_jfo] at h
  exact h.1
theorem rule_srd (T : Nat → Int) (a b nn : Nat) (r : Nat → Nat) : Srd (ahg T a b) nn (srt (gbr T a b) r nn) := srt_srd (ahg_tot T a b) (fun i j _ hj => gbr_ahg hj) nn (Nat.le_refl _)
theorem opF_id {T : Nat → Int} {k : Nat} : ∀ n, opF T nId k n = ldC T k n
  | 0 => rfl
  | n + 1 => by
    have ih := opF_id (T := T) (k := k) n
    show opF T nId k n + T (5 * n + k) = ldC T k n + T (5 * n + k)
    rw [ih]
theorem opF_perm {T : Nat → Int} {k nn : Nat} {o : Nat → Nat} (ho : IsP nn o) : opF T o k nn = ldC T k nn := by
  have hs := rule_srd T k k nn nId
  rw [← opF_id, ← johnson1 hs ho, ← johnson1 hs (isP_nId nn)]
theorem mb_le {mm nn k : Nat} {T : Nat → Int} {o : Nat → Nat} (h1 : 1 ≤ nn) (hk : k < mm) (ho : IsP nn o) : ldC T k nn + lsX T 0 k (nn - 1) + lsX T (k + 1) mm (nn - 1) ≤ mk 0 mm T o nn := by
  obtain ⟨p, rfl⟩ : ∃ p, nn = p + 1 := ⟨nn - 1, by omega⟩
  have h2 := en_load (mm := mm) (T := T) (o := o) (k := k) p
  have h3 := en_tail (T := T) (o := o) (p := p) hk
  have h4 := lsX_le (T := T) (fr := 0) (to := k) p (o 0) (by have := ho.1 0 (by omega); omega)
  have h5 := lsX_le (T := T) (fr := k + 1) (to := mm) p (o p) (by have := ho.1 p (by omega); omega)
  have h6 := opF_perm (T := T) (k := k) ho
  rw [Nat.add_sub_cancel]
  omega
theorem en_b {mm : Nat} {T : Nat → Int} {o : Nat → Nat} {p a b : Nat} (ht : ∀ k, 0 ≤ T k ∧ T k ≤ 99) (hab : a < b) : max ((row 0 mm T o (p + 1)).2 a) ((row 0 mm T o p).2 b) + T (5 * o p + b) ≤ (row 0 mm T o (p + 1)).2 b := by
  have h := mom_sm (mm := mm) (T := T) (j := o p) (b := (row 0 mm T o p).1) (e := (row 0 mm T o p).2) (m := m0v 0 mm (tj T (o p)) (row 0 mm T o p).2) (b - (a + 1)) (a + 1) b (by omega)
  have h2 := smC_rg ht (o p) (a + 1) (b - (a + 1))
  have e1 := row_2 (v := 0) (mm := mm) (t := T) (o := o) (p := p) (k := a)
  have e2 := en_s (mm := mm) (T := T) (o := o) (p := p) (k := b)
  omega
theorem en_pair {mm : Nat} {T : Nat → Int} {o : Nat → Nat} {a b : Nat} (ht : ∀ k, 0 ≤ T k ∧ T k ≤ 99) (hab : a < b) : ∀ p, smR T (o 0) 0 a + opS T o a b (p + 1) ≤ (row 0 mm T o (p + 1)).2 b
  | 0 => by
    have h1 := en_load (mm := mm) (T := T) (o := o) (k := a) 0
    have h2 := en_b (mm := mm) (o := o) (p := 0) ht hab
    have h3 := opF_rg ht o a (0 + 1)
    have e1 : opS T o a b (0 + 1) = max (opF T o a (0 + 1)) 0 + T (5 * o 0 + b) := rfl
    omega
  | p + 1 => by
    have ih := en_pair (mm := mm) (o := o) ht hab p
    have h1 := en_load (mm := mm) (T := T) (o := o) (k := a) (p + 1)
    have h2 := en_b (mm := mm) (o := o) (p := p + 1) ht hab
    have e1 : opS T o a b (p + 1 + 1) = max (opF T o a (p + 1 + 1)) (opS T o a b (p + 1)) + T (5 * o (p + 1) + b) := rfl
    omega
theorem pb_le {mm nn a b : Nat} {T : Nat → Int} {o r : Nat → Nat} (ht : ∀ k, 0 ≤ T k ∧ T k ≤ 99) (h1 : 1 ≤ nn) (hab : a < b) (hb : b < mm) (ho : IsP nn o) : opS T (srt (gbr T a b) r nn) a b nn + lsX T 0 a (nn - 1) + lsX T (b + 1) mm (nn - 1) ≤ mk 0 mm T o nn := by
  have h0 := johnson (rule_srd T a b nn r) ho
  obtain ⟨p, rfl⟩ : ∃ p, nn = p + 1 := ⟨nn - 1, by omega⟩
  have h2 := en_pair (mm := mm) (o := o) ht hab p
  have h3 := en_tail (T := T) (o := o) (p := p) hb
  have h4 := lsX_le (T := T) (fr := 0) (to := a) p (o 0) (by have := ho.1 0 (by omega); omega)
  have h5 := lsX_le (T := T) (fr := b + 1) (to := mm) p (o p) (by have := ho.1 p (by omega); omega)
  rw [Nat.add_sub_cancel]
  omega
theorem en_2 {T : Nat → Int} {o : Nat → Nat} (ht : ∀ k, 0 ≤ T k ∧ T k ≤ 99) : ∀ n, (row 0 2 T o n).2 0 = opF T o 0 n ∧ (row 0 2 T o n).2 1 = opS T o 0 1 n
  | 0 => ⟨rfl, rfl⟩
  | n + 1 => by
    obtain ⟨h1, h2⟩ := en_2 (o := o) ht n
    have e0 := en_s (mm := 2) (T := T) (o := o) (p := n) (k := 0)
    have e1 := en_s (mm := 2) (T := T) (o := o) (p := n) (k := 1)
    have e2 : mom 0 2 (tj T (o n)) (row 0 2 T o n).1 (row 0 2 T o n).2 (m0v 0 2 (tj T (o n)) (row 0 2 T o n).2) 0 = 0 := m0_0
    have e3 : mom 0 2 (tj T (o n)) (row 0 2 T o n).1 (row 0 2 T o n).2 (m0v 0 2 (tj T (o n)) (row 0 2 T o n).2) 1 = (row 0 2 T o (n + 1)).2 0 := (row_2 (v := 0) (mm := 2) (t := T) (o := o) (p := n) (k := 0)).symm
    have h3 := (opF_rg ht o 0 n).1
    have f1 : opF T o 0 (n + 1) = opF T o 0 n + T (5 * o n + 0) := rfl
    have f2 : opS T o 0 1 (n + 1) = max (opF T o 0 (n + 1)) (opS T o 0 1 n) + T (5 * o n + 1) := rfl
    constructor
    · omega
    · omega
theorem mk_2 {T : Nat → Int} {o : Nat → Nat} {n : Nat} (ht : ∀ k, 0 ≤ T k ∧ T k ≤ 99) : mk 0 2 T o n = opS T o 0 1 n := (en_2 ht n).2
theorem lsX_nil {T : Nat → Int} {x : Nat} : ∀ n, lsX T x x n = 0
  | 0 => by
    show smC T 0 x (x - x) = 0
    rw [Nat.sub_self]
    rfl
  | n + 1 => by
    have e : smR T (n + 1) x x = 0 := by
      show smC T (n + 1) x (x - x) = 0
      rw [Nat.sub_self]
      rfl
    show min (lsX T x x n) (smR T (n + 1) x x) = 0
    rw [lsX_nil n, e]
    rfl
/-- two machines: the rule's order is a best one -/
theorem sol_2 {T : Nat → Int} {nn : Nat} {r : Nat → Nat} (ht : ∀ k, 0 ≤ T k ∧ T k ≤ 99) (hn : nn ≤ 7) : opS T (srt (gbr T 0 1) r nn) 0 1 nn = (sol 0 2 T nn).1 := by
  have hs := rule_srd T 0 1 nn r
  have h1 := sol_le (v := 0) (mm := 2) (t := T) hn hs.1
  have h2 := sol_at (v := 0) (mm := 2) (t := T) hn
  have h3 := johnson hs h2.1
  rw [mk_2 ht] at h1
  have h4 := h2.2
  rw [mk_2 ht] at h4
  omega
theorem pb_2 {mm nn : Nat} {T : Nat → Int} {r : Nat → Nat} (ht : ∀ k, 0 ≤ T k ∧ T k ≤ 99) (hn : nn ≤ 7) (hm : mm = 2) : opS T (srt (gbr T 0 1) r nn) 0 1 nn + lsX T 0 0 (nn - 1) + lsX T (1 + 1) mm (nn - 1) = (sol 0 mm T nn).1 := by
  subst hm
  rw [lsX_nil, lsX_nil, sol_2 ht hn]
  omega
/-- any bound below all makespans is below the least -/
theorem le_sol {v mm nn : Nat} {T : Nat → Int} {c : Int} (hn : nn ≤ 7) (h : ∀ o, IsP nn o → c ≤ mk v mm T o nn) : c ≤ (sol v mm T nn).1 := by
  have h2 := sol_at (v := v) (mm := mm) (t := T) hn
  rw [← h2.2]
  exact h _ h2.1
end
section
/-! the best move is the best one -/
theorem stp_m {f : Nat → Nat → Int} {a b : Nat} {s : Int × Nat × Nat} : (stp f a b s).1 ≤ s.1 ∧ (stp f a b s).1 ≤ f a b ∧ (stp f a b s = s ∨ (stp f a b s).1 = f (stp f a b s).2.1 (stp f a b s).2.2) := by
  unfold stp
  by_cases c : f a b < s.1
  · rw [if_pos c]
    exact ⟨Int.le_of_lt c, Int.le_refl _, Or.inr rfl⟩
  · rw [if_neg c]
    exact ⟨Int.le_refl _, by omega, Or.inl rfl⟩
theorem inr_m {f : Nat → Nat → Int} {a : Nat} {s : Int × Nat × Nat} : ∀ j, (inr f a s j).1 ≤ s.1 ∧ (∀ b, b < j → (inr f a s j).1 ≤ f a b) ∧ (inr f a s j = s ∨ (inr f a s j).1 = f (inr f a s j).2.1 (inr f a s j).2.2)
  | 0 => ⟨Int.le_refl _, fun b h => absurd h (Nat.not_lt_zero _), Or.inl rfl⟩
  | j + 1 => by
    obtain ⟨h1, h2, h3⟩ := inr_m (f := f) (a := a) (s := s) j
    obtain ⟨k1, k2, k3⟩ := stp_m (f := f) (a := a) (b := j) (s := inr f a s j)
    have e : inr f a s (j + 1) = stp f a j (inr f a s j) := rfl
    rw [e]
    refine ⟨Int.le_trans k1 h1, fun b hb => ?_, ?_⟩
    · by_cases q : b = j
      · rw [q]
        exact k2
      · exact Int.le_trans k1 (h2 b (by omega))
    · rcases k3 with q | q
      · rw [q]
        exact h3
      · exact Or.inr q
theorem otr_m {f : Nat → Nat → Int} {n : Nat} {s : Int × Nat × Nat} : ∀ i, (otr f n s i).1 ≤ s.1 ∧ (∀ a b, a < i → b < n → (otr f n s i).1 ≤ f a b) ∧ (otr f n s i = s ∨ (otr f n s i).1 = f (otr f n s i).2.1 (otr f n s i).2.2)
  | 0 => ⟨Int.le_refl _, fun a b h => absurd h (Nat.not_lt_zero _), Or.inl rfl⟩
  | i + 1 => by
    obtain ⟨h1, h2, h3⟩ := otr_m (f := f) (n := n) (s := s) i
    obtain ⟨k1, k2, k3⟩ := inr_m (f := f) (a := i) (s := otr f n s i) n
    have e : otr f n s (i + 1) = inr f i (otr f n s i) n := rfl
    rw [e]
    refine ⟨Int.le_trans k1 h1, fun a b ha hb => ?_, ?_⟩
    · by_cases q : a = i
      · rw [q]
        exact k2 b hb
      · exact Int.le_trans k1 (h2 a b (by omega) hb)
    · rcases k3 with q | q
      · rw [q]
        exact h3
      · exact Or.inr q
theorem imp_le (t : Nat → Int) (mm : Nat) (o : Nat → Nat) (nn : Nat) : (imS t mm o nn nn).1 ≤ mk 0 mm t o nn := (otr_m (f := imF t mm o nn) (n := nn) (s := im0 t mm o nn) nn).1
theorem imp_min {t : Nat → Int} {mm : Nat} {o : Nat → Nat} {nn a b : Nat} (ha : a < nn) (hb : b < nn) : (imS t mm o nn nn).1 ≤ mk 0 mm t (shf o a b) nn := (otr_m (f := imF t mm o nn) (n := nn) (s := im0 t mm o nn) nn).2.1 a b ha hb
theorem imp_mk (t : Nat → Int) (mm : Nat) (o : Nat → Nat) (nn : Nat) : mk 0 mm t (impO t mm nn o) nn = (imS t mm o nn nn).1 := by
  obtain ⟨h1, h2, h3⟩ := otr_m (f := imF t mm o nn) (n := nn) (s := im0 t mm o nn) nn
  unfold impO
  by_cases c : (imS t mm o nn nn).1 < mk 0 mm t o nn
  · rw [if_pos c]
    rcases h3 with q | q
    · have e : (imS t mm o nn nn).1 = mk 0 mm t o nn := congrArg Prod.fst q
      omega
    · exact q.symm
  · rw [if_neg c]
    have := imp_le t mm o nn
    omega
theorem imp_P {t : Nat → Int} {mm nn : Nat} {o : Nat → Nat} (ht : ∀ k, 0 ≤ t k ∧ t k ≤ 99) (hn : nn ≤ 7) (hm : 1 ≤ mm ∧ mm ≤ 5) (ho : IsP nn o) : IsP nn (impO t mm nn o) := (imp_ok t mm nn o o ht hn hm (fun _ _ => rfl) ho).2.2
/-- no move helps a best order -/
theorem imp_best {t : Nat → Int} {mm nn : Nat} {o : Nat → Nat} (ht : ∀ k, 0 ≤ t k ∧ t k ≤ 99) (hn : nn ≤ 7) (hm : 1 ≤ mm ∧ mm ≤ 5) (ho : IsP nn o) (h : mk 0 mm t o nn = (sol 0 mm t nn).1) : (imS t mm o nn nn).1 = mk 0 mm t o nn := by
  have h1 := sol_le (v := 0) (mm := mm) (t := t) hn (imp_P ht hn hm ho)
  rw [imp_mk] at h1
  have h2 := imp_le t mm o nn
  omega
/-- one improvement behind another -/
def imI (t : Nat → Int) (mm nn : Nat) (o : Nat → Nat) : Nat → Nat → Nat
  | 0 => o
  | i + 1 => impO t mm nn (imI t mm nn o i)
theorem imI_P {t : Nat → Int} {mm nn : Nat} {o : Nat → Nat} (ht : ∀ k, 0 ≤ t k ∧ t k ≤ 99) (hn : nn ≤ 7) (hm : 1 ≤ mm ∧ mm ≤ 5) (ho : IsP nn o) : ∀ i, IsP nn (imI t mm nn o i)
  | 0 => ho
  | i + 1 => imp_P ht hn hm (imI_P ht hn hm ho i)
def imM (t : Nat → Int) (mm nn : Nat) (o : Nat → Nat) (i : Nat) : Int := mk 0 mm t (imI t mm nn o i) nn
/-- the first L improvements each made it better -/
def imC (t : Nat → Int) (mm nn : Nat) (o : Nat → Nat) (L : Nat) : Prop := ∀ i, i < L → imM t mm nn o (i + 1) < imM t mm nn o i
theorem imM_s {t : Nat → Int} {mm nn : Nat} {o : Nat → Nat} (i : Nat) : imM t mm nn o (i + 1) = (imS t mm (imI t mm nn o i) nn nn).1 := imp_mk t mm (imI t mm nn o i) nn
theorem imC_lt {t : Nat → Int} {mm nn : Nat} {o : Nat → Nat} {L : Nat} (h : imC t mm nn o L) {i : Nat} : ∀ d, i + (d + 1) ≤ L → imM t mm nn o (i + (d + 1)) < imM t mm nn o i
  | 0, hd => h i (by omega)
  | d + 1, hd => by
    have h1 := imC_lt h (i := i) d (by omega)
    have h2 := h (i + (d + 1)) (by omega)
    have e : i + (d + 1 + 1) = i + (d + 1) + 1 := rfl
    rw [e]
    omega
/-- no later order is one move away from an earlier one, but the next -/
theorem imC_far {t : Nat → Int} {mm nn : Nat} {o : Nat → Nat} {L : Nat} (h : imC t mm nn o L) {i j a b : Nat} (hij : i + 1 < j) (hj : j ≤ L) (ha : a < nn) (hb : b < nn) : ¬ eqn nn (shf (imI t mm nn o i) a b) (imI t mm nn o j) := by
  intro e
  have h1 := imC_lt h (i := i + 1) (j - (i + 1) - 1) (by omega)
  rw [show i + 1 + (j - (i + 1) - 1 + 1) = j by omega] at h1
  have h2 := imp_min (t := t) (mm := mm) (o := imI t mm nn o i) ha hb
  rw [← imM_s, mk_cg e] at h2
  have h3 : imM t mm nn o j = mk 0 mm t (imI t mm nn o j) nn := rfl
  omega
theorem imC_ne {t : Nat → Int} {mm nn : Nat} {o : Nat → Nat} {L : Nat} (h : imC t mm nn o L) {i j : Nat} (hij : i < j) (hj : j ≤ L) : ¬ eqn nn (imI t mm nn o i) (imI t mm nn o j) := by
  intro e
  have h1 := imC_lt h (i := i) (j - i - 1) (by omega)
  rw [show i + (j - i - 1 + 1) = j by omega] at h1
  have h2 : imM t mm nn o i = imM t mm nn o j := mk_cg e
  omega
/-! how many there can be -/
theorem php : ∀ (N n : Nat) (f : Nat → Nat), (∀ i, i < n → f i < N) → (∀ i j, i < n → j < n → f i = f j → i = j) → n ≤ N
  | 0, n, f, h, _ => by
    rcases Nat.eq_zero_or_pos n with q | q
    · omega
    · exact absurd (h 0 q) (Nat.not_lt_zero _)
  | N + 1, n, f, h, hi => by
    rcases Nat.eq_zero_or_pos n with q | q
    · omega
    · obtain ⟨m, rfl⟩ : ∃ m, n = m + 1 := ⟨n - 1, by omega⟩
      have ih := php N m (fun i => if f i = N then f m else f i) (fun i hi2 => ?_) (fun i j hi2 hj2 e => ?_)
      · omega
      · show (if f i = N then f m else f i) < N
        have h1 := h i (by omega)
        have h2 := h m (by omega)
        by_cases c : f i = N
        · rw [if_pos c]
          have : f m ≠ N := fun e => by
            have := hi i m (by omega) (by omega) (c.trans e.symm)
            omega
          omega
        · rw [if_neg c]
          omega
      · have e2 : (if f i = N then f m else f i) = if f j = N then f m else f j := e
        by_cases c1 : f i = N
        · by_cases c2 : f j = N
          · exact hi i j (by omega) (by omega) (c1.trans c2.symm)
          · rw [if_pos c1, if_neg c2] at e2
            have := hi m j (by omega) (by omega) e2
            omega
        · by_cases c2 : f j = N
          · rw [if_neg c1, if_pos c2] at e2
            have := hi i m (by omega) (by omega) e2
            omega
          · rw [if_neg c1, if_neg c2] at e2
            exact hi i j (by omega) (by omega) e2
/-- so many orders, no two the same -/
theorem php_P {nn n : Nat} (hn : nn ≤ 7) (F : Nat → Nat → Nat) (h : ∀ i, i < n → IsP nn (F i)) (hi : ∀ i j, i < j → j < n → ¬ eqn nn (F i) (F j)) : n ≤ fac nn := by
  have hy : ∀ i, ∃ y, i < n → y < fac nn ∧ eqn nn (sq nId nn y) (F i) := fun i => by
    by_cases c : i < n
    · obtain ⟨y, h1, h2⟩ := run_mem hn (h i c)
      exact ⟨y, fun _ => ⟨h1, h2⟩⟩
    · exact ⟨0, fun q => absurd q c⟩
  refine php (fac nn) n (fun i => Classical.choose (hy i)) (fun i hl => (Classical.choose_spec (hy i) hl).1) (fun i j hl hl2 e => ?_)
  have e2 : Classical.choose (hy i) = Classical.choose (hy j) := e
  have h1 := (Classical.choose_spec (hy i) hl).2
  have h2 := (Classical.choose_spec (hy j) hl2).2
  rw [e2] at h1
  rcases Nat.lt_trichotomy i j with q | q | q
  · exact absurd (fun k hk => (h1 k hk).symm.trans (h2 k hk)) (hi i j q hl2)
  · exact q
  · exact absurd (fun k hk => (h2 k hk).symm.trans (h1 k hk)) (hi j i q hl)
end
section
/-! improvements end: each order gives keys (a job put in front) that no earlier one gave, but two -/
theorem shf_two {r : Nat → Nat} {a b k : Nat} : shf (shf r b 0) 0 a k = shf r b a k := by
  rw [nx_pos (shf r b 0) 0 a k, nx_pos r b a k]
  by_cases h1 : k = a
  · rw [if_pos h1, if_pos h1, nx_pos, if_pos rfl]
  · rw [if_neg h1, if_neg h1]
    by_cases h2 : 0 ≤ k ∧ k < a
    · rw [if_pos h2, nx_pos, if_neg (by omega), if_neg (by omega)]
      by_cases h3 : b ≤ k ∧ k < a
      · rw [if_pos h3, if_neg (by omega)]
      · rw [if_neg h3, if_neg (show ¬ (a < k ∧ k ≤ b) by omega), if_pos (by omega), Nat.add_sub_cancel]
    · rw [if_neg h2, if_neg (show ¬ (a < k ∧ k ≤ 0) by omega), if_neg (show ¬ (b ≤ k ∧ k < a) by omega), nx_pos, if_neg (by omega), if_neg (by omega)]
      by_cases h3 : a < k ∧ k ≤ b
      · rw [if_pos h3, if_pos (by omega)]
      · rw [if_neg h3, if_neg (by omega)]
theorem key_1 {nn : Nat} {s : Nat → Nat} {a b : Nat} (hs : IsP nn s) (ha : a < nn) (hb : b < nn) (e : eqn nn (shf s a 0) (shf s b 0)) : a = b := by
  have h := e 0 (by omega)
  rw [nx_pos, nx_pos, if_pos rfl, if_pos rfl] at h
  exact hs.2 a b ha hb h
theorem key_2 {nn : Nat} {s r : Nat → Nat} {a b : Nat} (ha : a < nn) (e : eqn nn (shf s a 0) (shf r b 0)) : eqn nn (shf r b a) s := by
  intro k hk
  have h := shf_cg (a := 0) (b := a) (show 0 < nn by omega) ha e k hk
  rw [shf_two, shf_two, shf_id] at h
  exact h.symm
theorem key_3 {nn : Nat} {s r : Nat → Nat} {a b : Nat} (hr : IsP nn r) (ha : a < nn) (hb : b < nn) (hab : a ≠ b) (e : eqn nn (shf r b a) s) : s a ≠ r a ∧ s b ≠ r b ∧ ∀ x, x < nn → s x ≠ r x → (a ≤ x ∨ b ≤ x) ∧ (x ≤ a ∨ x ≤ b) := by
  refine ⟨fun q => ?_, fun q => ?_, fun x hx q => ?_⟩
  · rw [← e a ha, nx_pos, if_pos rfl] at q
    exact hab (hr.2 b a hb ha q).symm
  · rw [← e b hb, nx_pos, if_neg (by omega)] at q
    by_cases h : b ≤ b ∧ b < a
    · rw [if_pos h] at q
      have := hr.2 (b + 1) b (by omega) hb q
      omega
    · rw [if_neg h, if_pos (by omega)] at q
      have := hr.2 (b - 1) b (by omega) hb q
      omega
  · rw [← e x hx, nx_pos] at q
    by_cases h1 : x = a
    · omega
    · rw [if_neg h1] at q
      by_cases h2 : b ≤ x ∧ x < a
      · omega
      · rw [if_neg h2] at q
        by_cases h3 : a < x ∧ x ≤ b
        · omega
        · rw [if_neg h3] at q
          exact absurd rfl q
theorem key_4 {nn : Nat} {s r : Nat → Nat} {a b a' b' : Nat} (hr : IsP nn r) (hne : ¬ eqn nn r s) (ha : a < nn) (hb : b < nn) (ha' : a' < nn) (hb' : b' < nn) (e : eqn nn (shf s a 0) (shf r b 0)) (e' : eqn nn (shf s a' 0) (shf r b' 0)) : a' = a ∨ a' = b := by
  have k1 := key_2 ha e
  have k2 := key_2 ha' e'
  have n1 : a ≠ b := fun q => hne (by rw [q, shf_id] at k1; exact k1)
  have n2 : a' ≠ b' := fun q => hne (by rw [q, shf_id] at k2; exact k2)
  obtain ⟨p1, p2, p3⟩ := key_3 hr ha hb n1 k1
  obtain ⟨q1, q2, q3⟩ := key_3 hr ha' hb' n2 k2
  have m1 := p3 a' ha' q1
  have m2 := p3 b' hb' q2
  have m3 := q3 a ha p1
  have m4 := q3 b hb p2
  omega
theorem key_5 {nn : Nat} {s r : Nat → Nat} (h0 : 0 < nn) (hr : IsP nn r) (hne : ¬ eqn nn r s) : ∃ w : Nat × Nat, w.1 < nn ∧ w.2 < nn ∧ ∀ a b, a < nn → b < nn → eqn nn (shf s a 0) (shf r b 0) → a = w.1 ∨ a = w.2 := by
  by_cases c : ∃ w : Nat × Nat, w.1 < nn ∧ w.2 < nn ∧ eqn nn (shf s w.1 0) (shf r w.2 0)
  · obtain ⟨w, h1, h2, h3⟩ := c
    exact ⟨w, h1, h2, fun a b ha hb e => key_4 hr hne h1 h2 ha hb h3 e⟩
  · exact ⟨(0, 0), h0, h0, fun a b ha hb e => absurd ⟨(a, b), ha, hb, e⟩ c⟩
def sel (lo hi j : Nat) : Nat := ((List.range 6).filter (fun a => !(a == lo) && !(a == hi))).getD j 0
theorem sel_fin : ∀ (lo hi : Fin 6) (j : Fin 4), (sel lo.1 hi.1 j.1 < 6 ∧ sel lo.1 hi.1 j.1 ≠ lo.1 ∧ sel lo.1 hi.1 j.1 ≠ hi.1) ∧ ∀ j' : Fin 4, sel lo.1 hi.1 j.1 = sel lo.1 hi.1 j'.1 → j.1 = j'.1 := by decide +kernel
theorem sel_ok {lo hi j : Nat} (h1 : lo < 6) (h2 : hi < 6) (h3 : j < 4) : sel lo hi j < 6 ∧ sel lo hi j ≠ lo ∧ sel lo hi j ≠ hi := (sel_fin ⟨lo, h1⟩ ⟨hi, h2⟩ ⟨j, h3⟩).1
theorem sel_inj {lo hi j j' : Nat} (h1 : lo < 6) (h2 : hi < 6) (h3 : j < 4) (h4 : j' < 4) (e : sel lo hi j = sel lo hi j') : j = j' := (sel_fin ⟨lo, h1⟩ ⟨hi, h2⟩ ⟨j, h3⟩).2 ⟨j', h4⟩ e
theorem imC_6 {t : Nat → Int} {mm L : Nat} {o : Nat → Nat} (ht : ∀ k, 0 ≤ t k ∧ t k ≤ 99) (hm : 1 ≤ mm ∧ mm ≤ 5) (ho : IsP 6 o) (h : imC t mm 6 o L) : 4 * (L + 1) ≤ fac 6 := by
  have hP : ∀ i, IsP 6 (imI t mm 6 o i) := imI_P ht (by decide) hm ho
  have hv : ∀ i, ∃ w : Nat × Nat, w.1 < 6 ∧ w.2 < 6 ∧ (i < L → ∀ a b, a < 6 → b < 6 → eqn 6 (shf (imI t mm 6 o (i + 1)) a 0) (shf (imI t mm 6 o i) b 0) → a = w.1 ∨ a = w.2) := fun i => by
    by_cases c : i < L
    · obtain ⟨w, h1, h2, h3⟩ := key_5 (nn := 6) (s := imI t mm 6 o (i + 1)) (by decide) (hP i) (imC_ne h (Nat.lt_succ_self i) c)
      exact ⟨w, h1, h2, fun _ => h3⟩
    · exact ⟨(0, 0), by decide, by decide, fun q => absurd q c⟩
  refine php_P (nn := 6) (n := 4 * (L + 1)) (by decide) (fun q => shf (imI t mm 6 o (q / 4)) (sel (Classical.choose (hv (q / 4 - 1))).1 (Classical.choose (hv (q / 4 - 1))).2 (q % 4)) 0) (fun q hq => ?_) (fun q r hqr hr e => ?_)
  · obtain ⟨w1, w2, w3⟩ := Classical.choose_spec (hv (q / 4 - 1))
    exact isP_shf (sel_ok w1 w2 (by omega)).1 (by decide) (hP _)
  · obtain ⟨w1, w2, w3⟩ := Classical.choose_spec (hv (q / 4 - 1))
    obtain ⟨v1, v2, v3⟩ := Classical.choose_spec (hv (r / 4 - 1))
    have sq := sel_ok w1 w2 (show q % 4 < 4 by omega)
    have sr := sel_ok v1 v2 (show r % 4 < 4 by omega)
    have e : eqn 6 (shf (imI t mm 6 o (q / 4)) (sel (Classical.choose (hv (q / 4 - 1))).1 (Classical.choose (hv (q / 4 - 1))).2 (q % 4)) 0) (shf (imI t mm 6 o (r / 4)) (sel (Classical.choose (hv (r / 4 - 1))).1 (Classical.choose (hv (r / 4 - 1))).2 (r % 4)) 0) := e
    rcases (show q / 4 = r / 4 ∨ q / 4 + 1 = r / 4 ∨ q / 4 + 1 < r / 4 by omega) with c | c | c
    · rw [← c] at e sr
      have h1 := sel_inj w1 w2 (by omega) (by omega) (key_1 (hP _) sq.1 sr.1 e)
      omega
    · have h1 := v3 (by omega) _ _ sr.1 sq.1 (by
        rw [show r / 4 - 1 = q / 4 by omega, c]
        rw [show r / 4 - 1 = q / 4 by omega] at e
        exact fun k hk => (e k hk).symm)
      exact h1.elim (fun q => sr.2.1 q) (fun q => sr.2.2 q)
    · exact imC_far h c (by omega) sq.1 sr.1 (key_2 sr.1 (fun k hk => (e k hk).symm))
theorem fac_5 {nn : Nat} (h : nn ≤ 5) : fac nn ≤ 120 := by
  rcases (show nn = 0 ∨ nn = 1 ∨ nn = 2 ∨ nn = 3 ∨ nn = 4 ∨ nn = 5 by omega) with rfl | rfl | rfl | rfl | rfl | rfl <;> decide
theorem imC_le {t : Nat → Int} {mm nn L : Nat} {o : Nat → Nat} (ht : ∀ k, 0 ≤ t k ∧ t k ≤ 99) (hn : nn ≤ 6) (hm : 1 ≤ mm ∧ mm ≤ 5) (ho : IsP nn o) (h : imC t mm nn o L) : L < 200 := by
  by_cases c : nn = 6
  · subst c
    have h1 := imC_6 ht hm ho h
    have h2 : fac 6 = 720 := by decide
    omega
  · have h1 := php_P (nn := nn) (n := L + 1) (by omega) (imI t mm nn o) (fun i _ => imI_P ht (by omega) hm ho i) (fun i j hij hj => imC_ne h hij (by omega))
    have h2 := fac_5 (nn := nn) (by omega)
    omega
end
section
theorem gp_val {r : UInt64} (h : vf_n64 r) : FP.Core.val64 r ≠ .nan := by
  intro hn
  have h1 : r.toNat % 2 ^ 63 ≤ 9218868437227405312 := by
    have h2 : (r &&& 0x7fffffffffffffff) ≤ 0x7ff0000000000000 := h
    rw [UInt64.le_iff_toNat_le, gp_mask] at h2
    exact h2
  have hE : FP.Core.fieldE FP.Core.b64 r.toNat = r.toNat / 2 ^ 52 % 2 ^ 11 := rfl
  have hF : FP.Core.fieldT FP.Core.b64 r.toNat = r.toNat % 2 ^ 52 := rfl
  have hX : FP.Core.b64.exps - 1 = 2047 := rfl
  unfold FP.Core.val64 FP.Core.decode at hn
  rw [hE, hF, hX] at hn
  by_cases c1 : r.toNat / 2 ^ 52 % 2 ^ 11 = 2047
  · rw [if_pos c1] at hn
    by_cases c2 : r.toNat % 2 ^ 52 = 0
    · rw [if_pos c2] at hn
      cases hn
    · omega
  · rw [if_neg c1] at hn
    by_cases c2 : r.toNat / 2 ^ 52 % 2 ^ 11 = 0
    · rw [if_pos c2] at hn
      cases hn
    · rw [if_neg c2] at hn
      cases hn
theorem gapD_n {o b : Int} (hb : 0 ≤ b ∧ b ≤ 3465) : FP.Core.val64 (gapD o b) ≠ .nan := by
  unfold gapD
  by_cases h : b = 0
  · rw [if_pos h]
    exact gp_val (by show _ ≤ _; decide +kernel)
  · rw [if_neg h]
    exact gp_val (gp_nan (fun q => h ((iI_eq (b := 0) ⟨by omega, by omega⟩ ⟨by omega, by omega⟩).mp q)))
/-! nothing divided by something is nothing -/
theorem q_zero {y : UInt64} (hn : FP.Core.val64 (FP.Core.ddiv FP.Core.dconst0 y) ≠ .nan) : ∃ s : Bool, FP.Core.val64 (FP.Core.ddiv FP.Core.dconst0 y) = .fin s 0 FP.Core.b64.qmin := by
  rw [FP.Core.val64_ddiv, FP.Core.val64_dconst0] at hn ⊢
  generalize FP.Core.val64 y = d at hn ⊢
  cases d with
  | nan => exact absurd rfl hn
  | inf t => exact ⟨_, rfl⟩
  | fin t d r =>
    by_cases c : d = 0
    · refine absurd ?_ hn
      have e1 : FP.Core.quotient FP.Core.b64 (.fin false 0 FP.Core.b64.qmin) (.fin t d r) = if (0 : Nat) = 0 then FP.Core.Datum.nan else .inf (false != t) := if_pos c
      exact e1.trans (if_pos rfl)
    · have e1 : FP.Core.quotient FP.Core.b64 (.fin false 0 FP.Core.b64.qmin) (.fin t d r) = FP.Core.roundRatio FP.Core.b64 (false != t) 0 d (FP.Core.b64.qmin - r) := if_neg c
      have e2 : FP.Core.roundRatio FP.Core.b64 (false != t) 0 d (FP.Core.b64.qmin - r) = .fin (false != t) 0 FP.Core.b64.qmin := if_pos rfl
      exact ⟨_, e1.trans e2⟩
theorem z_order (s : Bool) : FP.Core.order (.fin s 0 FP.Core.b64.qmin) (.fin false 0 FP.Core.b64.qmin) = some .eq := by
  cases s <;> decide +kernel
theorem i2d_00 : FP.i2d (iI 0) = FP.Core.dconst0 := by decide +kernel
theorem gap_0 {b : Int} (hb : 0 ≤ b ∧ b ≤ 3465) : Op.cmpValue (FP.dcmp (gapD b b) FP.dconst0) .l = 0 := by
  have h : FP.dcmp (gapD b b) FP.dconst0 = some .eq := by
    have hn := gapD_n (o := b) hb
    unfold gapD at hn ⊢
    by_cases c : b = 0
    · rw [if_pos c]
      exact FP.Core.dcmp_self (fun q => by
        have e : FP.Core.val64 FP.Core.dconst0 = .nan := q
        rw [FP.Core.val64_dconst0] at e
        cases e)
    · rw [if_neg c, Int.sub_self, i2d_00] at hn
      rw [if_neg c, Int.sub_self, i2d_00]
      obtain ⟨s, e⟩ := q_zero hn
      show FP.Core.order (FP.Core.val64 (FP.Core.ddiv FP.Core.dconst0 (FP.i2d (iI b)))) (FP.Core.val64 FP.Core.dconst0) = some .eq
      rw [e, FP.Core.val64_dconst0]
      exact z_order s
  rw [h]
  rfl
/-! the set of the jobs of an order, as bits -/
def stB (r : Nat → Nat) : Nat → Int32
  | 0 => iI 0
  | p + 1 => stB r p ||| (iI 1 <<< (iI ((r p : Nat) : Int) &&& 31))
theorem stB_cg {r r' : Nat → Nat} : ∀ n, eqn n r r' → stB r n = stB r' n
  | 0, _ => rfl
  | n + 1, h => by
    have ih := stB_cg n (fun k hk => h k (by omega))
    show stB r n ||| _ = stB r' n ||| _
    rw [ih, h n (by omega)]
def fulB (nn : Nat) : Int32 := (iI 1 <<< (iI (nn : Int) &&& 31)) - iI 1
def okB (nn : Nat) : Bool := (pm nn (List.range nn)).all (fun L => stB (ofL L) nn == fulB nn)
set_option maxRecDepth 100000 in
theorem okB_a : okB 0 = true ∧ okB 1 = true ∧ okB 2 = true ∧ okB 3 = true ∧ okB 4 = true ∧ okB 5 = true := by decide +kernel
set_option maxRecDepth 100000 in
theorem okB_6 : okB 6 = true := by decide +kernel
theorem okB_all {nn : Nat} (h : nn ≤ 6) : okB nn = true := by
  obtain ⟨h0, h1, h2, h3, h4, h5⟩ := okB_a
  rcases (show nn = 0 ∨ nn = 1 ∨ nn = 2 ∨ nn = 3 ∨ nn = 4 ∨ nn = 5 ∨ nn = 6 by omega) with e | e | e | e | e | e | e
  · rw [e]; exact h0
  · rw [e]; exact h1
  · rw [e]; exact h2
  · rw [e]; exact h3
  · rw [e]; exact h4
  · rw [e]; exact h5
  · rw [e]; exact okB_6
theorem stB_full {v mm : Nat} {t : Nat → Int} {nn : Nat} (hn : nn ≤ 6) : stB (solJ v mm t nn) nn = fulB nn := by
  obtain ⟨h1, h2, -, -⟩ := ok_run (nn := nn) (by omega)
  have hy : (sol v mm t nn).2.2 < fac nn := sol_lt (by omega)
  have e := h2 _ hy
  have hy2 : (sol v mm t nn).2.2 < (pm nn (List.range nn)).length := by omega
  rw [List.getD_eq_getElem?_getD, List.getElem?_eq_getElem hy2, Option.getD_some] at e
  have h3 := List.all_eq_true.mp (okB_all hn) _ (List.getElem_mem hy2)
  exact (stB_cg nn e).trans (eq_of_beq h3)
end
section
/-! new arrays of a class of arrays already known -/
section WN
variable {p : Program} {l : Launch} {e : Env} {R : Room} {s : State} {m : MethodId} {args : Array Value} {below : List Frame} {meth : Method} {c : Code} {H : Heap} {locs : List Loc} {cells slots : Nat} {Q : State → Prop}
variable {cc : ByteArray} {pc : Nat} {ls : Array Slot} {rest : List Value} {D : va_G} {tys : List (ClassId × FieldType)} {ws : va_W} {A : Nat → Prop}
theorem k_same {cI cA : ClassId} {ty : FieldType} {t0 : Nat} (hr : ∀ u : FieldType, u = ty → ∀ z : ClassId, va_RA s z u → s.vm.findClass ("[" ++ u.toString) = some z) (hK : va_K D vwCl tys s) (ht : tys[t0]? = some (cI, ty)) (hK2 : va_K D vwCl (tys ++ [(cA, ty)]) s) : cA = cI := by
  have h1 := hr ty rfl cI (hK.2 t0 _ ht).2
  have h2 := hr ty rfl cA (hK2.2 tys.length _ (by rw [List.getElem?_append_right (Nat.le_refl _), Nat.sub_self]; rfl)).2
  exact Option.some.inj (h2.symm.trans h1)
theorem w_new {ty : FieldType} {atype : ArrayType} {cI : ClassId} {t0 : Nat} (hx : p.tables.exec = Jvm.exec) (hb : c.code = cc) (harr : (Cond.arrayClass (newarray.typeOf atype)).before args s = true) (hty : newarray.typeOf atype = ty) (hr : ∀ u : FieldType, u = ty → ∀ z : ClassId, va_RA s z u → s.vm.findClass ("[" ++ u.toString) = some z) (hK : va_K D vwCl tys s) (ht : tys[t0]? = some (cI, ty)) (hP : va_P D vwCl ws H) (hD : va_D A ws) (hS : va_S A s.heap H locs) (hA : ∀ q : Nat, s.heap.size ≤ q → A q)
    (N : Nat) (a0 : vp_A) (ha : ∀ cA : ClassId, vp_cell cA a0 = arrV cA N (fun _ => defaultValue ty)) (hN : N ≤ 1000) (hbytes : N * componentBytes ty ≤ 536870912) (hcells : cells + 1 ≤ R.cells) (hslots : slots + N ≤ R.slots) (hd : decode cc pc = .ok (.newarray atype, 2))
    (kk : ∀ (q : Nat) (H1 : Heap), va_P D vwCl (ws ++ [(q, .inl (cI, a0))]) H1 → va_D A (ws ++ [(q, .inl (cI, a0))]) → va_S A s.heap H1 locs → W p l e R s m args below meth c H1 locs (cells + 1) (slots + N) Q (F0 m (pc + 2) ls (.ref q :: rest))) : W p l e R s m args below meth c H locs cells slots Q (F0 m pc ls (.int (iI (N : Int)) :: rest)) := by
  refine va_newa hx hb harr hty hK hP hD hS hA (a0 := a0) ha (fun h => ?_) (iI_cl rfl (by omega)) hbytes hcells hslots hd (fun q cA H1 hK2 hP2 hD2 hS2 => ?_)
  · have := (iI_lt (a := (N : Int)) (b := 0) ⟨by omega, by omega⟩ ⟨by omega, by omega⟩).mp h
    omega
  · obtain rfl := k_same hr hK ht hK2
    exact kk q H1 hP2 hD2 hS2
end WN
theorem i0_0 : iI 0 = 0 := by decide +kernel
theorem cell_I (N : Nat) : ∀ cA : ClassId, vp_cell cA (N, .inl (tI (fun _ => 0))) = arrV cA N (fun _ => defaultValue .int) := fun cA => by
  show arrV cA N (fun _ => Value.int (iI 0)) = _
  rw [i0_0]
  rfl
theorem cell_J (N : Nat) : ∀ cA : ClassId, vp_cell cA (N, .inl (jI (fun _ => 0))) = arrV cA N (fun _ => defaultValue .int) := cell_I N
theorem cell_Z (N : Nat) : ∀ cA : ClassId, vp_cell cA (N, .inl (tI (fun _ => 0))) = arrV cA N (fun _ => defaultValue .boolean) := fun cA => by
  show arrV cA N (fun _ => Value.int (iI 0)) = _
  rw [i0_0]
  rfl
def NM (l : Launch) (y : MethodName) (wd : List Cond) (rm : Room) (D : va_G) (tys : List (ClassId × FieldType)) (ws : va_W) (av : List Value) (mc ms : Nat) (Qc : (Nat → Prop) → Array Value → State → Outcome → State → Prop) : Prop :=
  ∀ sz : Nat, Met l y wd rm (va_Pc av (fun U => U.heap.size = sz ∧ va_P D vwCl ws U.heap ∧ va_K D vwCl tys U ∧ va_D (fun _ => True) ws)) (Qc (va_A ws sz)) mc ms (va_A ws sz)
def z0 : Nat → Int := fun _ => 0
def n0 : Nat → Nat := fun _ => 0
set_option maxHeartbeats 4000000 in
set_option maxRecDepth 100000 in
theorem cX0 {l : Launch} {D : va_G} {cI cZ cJ : ClassId} {h0 : Nat} : NM l yX0_init wsX0_init ({ frames := 1, cells := 11, slots := 191, locals := 32 }) D (tyk cI cZ cJ) ([(h0, .inr (0, [.int (iI 0), .int (iI 0), .null, .null, .null, .null, .null, .null, .null, .null, .null, .null, .null]))]) [.ref h0] 11 191 (QV D (tyk cI cZ cJ) (fun u : Nat → Nat => xw u cI cZ 0 2 z0 z0 z0 z0 n0 n0 n0 z0 z0 z0 n0) (fun u => u 0 = h0)) := by
  intro sz
  refine Met.ofW (cc := cX0_init) (maxL := 1) (ret := none) (by decide) rfl ?_
  intro p e s m args below meth c s₁ B hml hv
  obtain ⟨rfl, hsz, hP, hK, hD0⟩ := hv
  subst hsz
  have hx := B.exec
  have hb := B.bytes
  have hr := B.returns
  have hts := atoms_spec (ws := wsX0_init) B.pre
  have hown : s.vm.findClass RX0 = some m.cls := findClass_of_methodNamed B.named
  have hin : meth.name = "<init>" := (name_of_methodNamed B.named B.method).1
  have inW : ∀ w ∈ wsX00, w ∈ wsX0_init := fun w h => List.mem_cons_of_mem _ (List.mem_append_right _ h)
  have hD := hD0.self (sz := s.heap.size)
  generalize hAe : va_A ([(h0, .inr (0, [.int (iI 0), .int (iI 0), .null, .null, .null, .null, .null, .null, .null, .null, .null, .null, .null]))]) s.heap.size = A at hD ⊢
  have hA : ∀ q : Nat, s.heap.size ≤ q → A q := fun q h => by rw [← hAe]; exact Or.inr h
  have hS : va_S A s.heap s.heap [] := va_S.rf
  have hP : va_P D vwCl ([(h0, .inr (0, [.int (iI 0), .int (iI 0), .null, .null, .null, .null, .null, .null, .null, .null, .null, .null, .null]))]) s.heap := hP
  have hl := lv_entry ([.ref h0]) (n := 1) (Nat.le_of_ble_eq_true rfl)
  rw [lg_entry_eq]
  generalize (lg_sl ([.ref h0]) ++ List.replicate (1 - (lg_sl ([.ref h0])).length) Slot.unset).toArray = ls at hl ⊢
  have hl : lv_has ls 1 [(0, .ref h0)] := hl
  refine lv_aload_n hx hb dX0_init_0 rfl (lv_at hl 0 rfl) ?_
  refine W.objInit hx hb hown (hts (.methodLink RX0 1 objectInit) (List.mem_of_getElem? (i := 1) rfl)) (hts (.instanceMethod objectInit) (List.mem_of_getElem? (i := 2) rfl)) (hts _ (List.mem_of_getElem? (i := 3) rfl)) rfl (by rw [hml]; exact hl.1) rfl dX0_init_1 (Nat.le_of_ble_eq_true rfl) (Nat.le_of_ble_eq_true rfl) ?_
  refine W.eq (g2 := F0 m 4 ls []) rfl ?_
  refine lv_aload_n hx hb dX0_init_4 rfl (lv_at hl 0 rfl) ?_
  refine lv_iconst (v := iI 0) hx hb dX0_init_5 rfl ?_
  refine va_put (D := D) (ci := 0) (v := .int (iI 0)) (ty := .int) (C := RX0) (T := TX0) (N := 13) hx hb hts inW tyX0 tyX0_ok nmX0 hown hK hP hD hS 0 rfl rfl 0 (by decide) (hts (.fieldLink RX0 7 "Flowforge" "jobCount" "I") (List.mem_of_getElem? (i := 4) rfl)) (fun _ h9 => h9) rfl (by decide +kernel) rfl rfl (Nat.le_of_ble_eq_true rfl) dX0_init_6 (fun H locs hP hD hS => ?_)
  have hP : va_P D vwCl ([(h0, .inr (0, [.int (iI 0), .int (iI 0), .null, .null, .null, .null, .null, .null, .null, .null, .null, .null, .null]))]) H := hP
  have hD : va_D A ([(h0, .inr (0, [.int (iI 0), .int (iI 0), .null, .null, .null, .null, .null, .null, .null, .null, .null, .null, .null]))]) := hD
  refine lv_aload_n hx hb dX0_init_9 rfl (lv_at hl 0 rfl) ?_
  refine lv_iconst (v := iI 2) hx hb dX0_init_10 rfl ?_
  refine va_put (D := D) (ci := 0) (v := .int (iI 2)) (ty := .int) (C := RX0) (T := TX0) (N := 13) hx hb hts inW tyX0 tyX0_ok nmX0 hown hK hP hD hS 0 rfl rfl 1 (by decide) (hts (.fieldLink RX0 13 "Flowforge" "machineCount" "I") (List.mem_of_getElem? (i := 5) rfl)) (fun _ h9 => h9) rfl (by decide +kernel) rfl rfl (Nat.le_of_ble_eq_true rfl) dX0_init_11 (fun H locs hP hD hS => ?_)
  have hP : va_P D vwCl ([(h0, .inr (0, [.int (iI 0), .int (iI 2), .null, .null, .null, .null, .null, .null, .null, .null, .null, .null, .null]))]) H := hP
  have hD : va_D A ([(h0, .inr (0, [.int (iI 0), .int (iI 2), .null, .null, .null, .null, .null, .null, .null, .null, .null, .null, .null]))]) := hD
  refine lv_aload_n hx hb dX0_init_14 rfl (lv_at hl 0 rfl) ?_
  refine lv_bipush (v := iI 35) hx hb dX0_init_15 (by decide) ?_
  refine w_new (atype := .int) (t0 := 0) hx hb (hts (.arrayClass .int) (List.mem_of_getElem? (i := 6) rfl)) rfl (fun u hu z hz => by subst hu; exact hz) hK rfl hP hD hS hA 35 (35, .inl (tI (fun _ => 0))) (cell_I 35) (by decide) (Nat.le_of_ble_eq_true rfl) (Nat.le_of_ble_eq_true rfl) (Nat.le_of_ble_eq_true rfl) dX0_init_17 (fun q17 H hP hD hS => ?_)
  have hP : va_P D vwCl ([(h0, .inr (0, [.int (iI 0), .int (iI 2), .null, .null, .null, .null, .null, .null, .null, .null, .null, .null, .null])), (q17, .inl (cI, 35, .inl (tI (fun _ => 0))))]) H := hP
  have hD : va_D A ([(h0, .inr (0, [.int (iI 0), .int (iI 2), .null, .null, .null, .null, .null, .null, .null, .null, .null, .null, .null])), (q17, .inl (cI, 35, .inl (tI (fun _ => 0))))]) := hD
  refine va_putF (D := D) (ci := 0) (v := .ref q17) (ty := .array .int) (C := RX0) (T := TX0) (N := 13) hx hb hts inW tyX0 tyX0_ok nmX0 hown hK hP hD hS 0 rfl rfl 2 (by decide) (hts (.fieldLink RX0 16 "Flowforge" "times" "[I") (List.mem_of_getElem? (i := 7) rfl)) (fun _ h9 => h9) rfl hin rfl (by decide +kernel) rfl rfl (Nat.le_of_ble_eq_true rfl) dX0_init_19 (fun H locs hP hD hS => ?_)
  have hP : va_P D vwCl ([(h0, .inr (0, [.int (iI 0), .int (iI 2), .ref q17, .null, .null, .null, .null, .null, .null, .null, .null, .null, .null])), (q17, .inl (cI, 35, .inl (tI (fun _ => 0))))]) H := hP
  have hD : va_D A ([(h0, .inr (0, [.int (iI 0), .int (iI 2), .ref q17, .null, .null, .null, .null, .null, .null, .null, .null, .null, .null])), (q17, .inl (cI, 35, .inl (tI (fun _ => 0))))]) := hD
  refine lv_aload_n hx hb dX0_init_22 rfl (lv_at hl 0 rfl) ?_
  refine lv_bipush (v := iI 35) hx hb dX0_init_23 (by decide) ?_
  refine w_new (atype := .int) (t0 := 0) hx hb (hts (.arrayClass .int) (List.mem_of_getElem? (i := 6) rfl)) rfl (fun u hu z hz => by subst hu; exact hz) hK rfl hP hD hS hA 35 (35, .inl (tI (fun _ => 0))) (cell_I 35) (by decide) (Nat.le_of_ble_eq_true rfl) (Nat.le_of_ble_eq_true rfl) (Nat.le_of_ble_eq_true rfl) dX0_init_25 (fun q25 H hP hD hS => ?_)
  have hP : va_P D vwCl ([(h0, .inr (0, [.int (iI 0), .int (iI 2), .ref q17, .null, .null, .null, .null, .null, .null, .null, .null, .null, .null])), (q17, .inl (cI, 35, .inl (tI (fun _ => 0)))), (q25, .inl (cI, 35, .inl (tI (fun _ => 0))))]) H := hP
  have hD : va_D A ([(h0, .inr (0, [.int (iI 0), .int (iI 2), .ref q17, .null, .null, .null, .null, .null, .null, .null, .null, .null, .null])), (q17, .inl (cI, 35, .inl (tI (fun _ => 0)))), (q25, .inl (cI, 35, .inl (tI (fun _ => 0))))]) := hD
  refine va_putF (D := D) (ci := 0) (v := .ref q25) (ty := .array .int) (C := RX0) (T := TX0) (N := 13) hx hb hts inW tyX0 tyX0_ok nmX0 hown hK hP hD hS 0 rfl rfl 3 (by decide) (hts (.fieldLink RX0 20 "Flowforge" "begins" "[I") (List.mem_of_getElem? (i := 8) rfl)) (fun _ h9 => h9) rfl hin rfl (by decide +kernel) rfl rfl (Nat.le_of_ble_eq_true rfl) dX0_init_27 (fun H locs hP hD hS => ?_)
  have hP : va_P D vwCl ([(h0, .inr (0, [.int (iI 0), .int (iI 2), .ref q17, .ref q25, .null, .null, .null, .null, .null, .null, .null, .null, .null])), (q17, .inl (cI, 35, .inl (tI (fun _ => 0)))), (q25, .inl (cI, 35, .inl (tI (fun _ => 0))))]) H := hP
  have hD : va_D A ([(h0, .inr (0, [.int (iI 0), .int (iI 2), .ref q17, .ref q25, .null, .null, .null, .null, .null, .null, .null, .null, .null])), (q17, .inl (cI, 35, .inl (tI (fun _ => 0)))), (q25, .inl (cI, 35, .inl (tI (fun _ => 0))))]) := hD
  refine lv_aload_n hx hb dX0_init_30 rfl (lv_at hl 0 rfl) ?_
  refine lv_bipush (v := iI 35) hx hb dX0_init_31 (by decide) ?_
  refine w_new (atype := .int) (t0 := 0) hx hb (hts (.arrayClass .int) (List.mem_of_getElem? (i := 6) rfl)) rfl (fun u hu z hz => by subst hu; exact hz) hK rfl hP hD hS hA 35 (35, .inl (tI (fun _ => 0))) (cell_I 35) (by decide) (Nat.le_of_ble_eq_true rfl) (Nat.le_of_ble_eq_true rfl) (Nat.le_of_ble_eq_true rfl) dX0_init_33 (fun q33 H hP hD hS => ?_)
  have hP : va_P D vwCl ([(h0, .inr (0, [.int (iI 0), .int (iI 2), .ref q17, .ref q25, .null, .null, .null, .null, .null, .null, .null, .null, .null])), (q17, .inl (cI, 35, .inl (tI (fun _ => 0)))), (q25, .inl (cI, 35, .inl (tI (fun _ => 0)))), (q33, .inl (cI, 35, .inl (tI (fun _ => 0))))]) H := hP
  have hD : va_D A ([(h0, .inr (0, [.int (iI 0), .int (iI 2), .ref q17, .ref q25, .null, .null, .null, .null, .null, .null, .null, .null, .null])), (q17, .inl (cI, 35, .inl (tI (fun _ => 0)))), (q25, .inl (cI, 35, .inl (tI (fun _ => 0)))), (q33, .inl (cI, 35, .inl (tI (fun _ => 0))))]) := hD
  refine va_putF (D := D) (ci := 0) (v := .ref q33) (ty := .array .int) (C := RX0) (T := TX0) (N := 13) hx hb hts inW tyX0 tyX0_ok nmX0 hown hK hP hD hS 0 rfl rfl 4 (by decide) (hts (.fieldLink RX0 23 "Flowforge" "ends" "[I") (List.mem_of_getElem? (i := 9) rfl)) (fun _ h9 => h9) rfl hin rfl (by decide +kernel) rfl rfl (Nat.le_of_ble_eq_true rfl) dX0_init_35 (fun H locs hP hD hS => ?_)
  have hP : va_P D vwCl ([(h0, .inr (0, [.int (iI 0), .int (iI 2), .ref q17, .ref q25, .ref q33, .null, .null, .null, .null, .null, .null, .null, .null])), (q17, .inl (cI, 35, .inl (tI (fun _ => 0)))), (q25, .inl (cI, 35, .inl (tI (fun _ => 0)))), (q33, .inl (cI, 35, .inl (tI (fun _ => 0))))]) H := hP
  have hD : va_D A ([(h0, .inr (0, [.int (iI 0), .int (iI 2), .ref q17, .ref q25, .ref q33, .null, .null, .null, .null, .null, .null, .null, .null])), (q17, .inl (cI, 35, .inl (tI (fun _ => 0)))), (q25, .inl (cI, 35, .inl (tI (fun _ => 0)))), (q33, .inl (cI, 35, .inl (tI (fun _ => 0))))]) := hD
  refine lv_aload_n hx hb dX0_init_38 rfl (lv_at hl 0 rfl) ?_
  refine lv_bipush (v := iI 35) hx hb dX0_init_39 (by decide) ?_
  refine w_new (atype := .int) (t0 := 0) hx hb (hts (.arrayClass .int) (List.mem_of_getElem? (i := 6) rfl)) rfl (fun u hu z hz => by subst hu; exact hz) hK rfl hP hD hS hA 35 (35, .inl (tI (fun _ => 0))) (cell_I 35) (by decide) (Nat.le_of_ble_eq_true rfl) (Nat.le_of_ble_eq_true rfl) (Nat.le_of_ble_eq_true rfl) dX0_init_41 (fun q41 H hP hD hS => ?_)
  have hP : va_P D vwCl ([(h0, .inr (0, [.int (iI 0), .int (iI 2), .ref q17, .ref q25, .ref q33, .null, .null, .null, .null, .null, .null, .null, .null])), (q17, .inl (cI, 35, .inl (tI (fun _ => 0)))), (q25, .inl (cI, 35, .inl (tI (fun _ => 0)))), (q33, .inl (cI, 35, .inl (tI (fun _ => 0)))), (q41, .inl (cI, 35, .inl (tI (fun _ => 0))))]) H := hP
  have hD : va_D A ([(h0, .inr (0, [.int (iI 0), .int (iI 2), .ref q17, .ref q25, .ref q33, .null, .null, .null, .null, .null, .null, .null, .null])), (q17, .inl (cI, 35, .inl (tI (fun _ => 0)))), (q25, .inl (cI, 35, .inl (tI (fun _ => 0)))), (q33, .inl (cI, 35, .inl (tI (fun _ => 0)))), (q41, .inl (cI, 35, .inl (tI (fun _ => 0))))]) := hD
  refine va_putF (D := D) (ci := 0) (v := .ref q41) (ty := .array .int) (C := RX0) (T := TX0) (N := 13) hx hb hts inW tyX0 tyX0_ok nmX0 hown hK hP hD hS 0 rfl rfl 5 (by decide) (hts (.fieldLink RX0 26 "Flowforge" "tails" "[I") (List.mem_of_getElem? (i := 10) rfl)) (fun _ h9 => h9) rfl hin rfl (by decide +kernel) rfl rfl (Nat.le_of_ble_eq_true rfl) dX0_init_43 (fun H locs hP hD hS => ?_)
  have hP : va_P D vwCl ([(h0, .inr (0, [.int (iI 0), .int (iI 2), .ref q17, .ref q25, .ref q33, .ref q41, .null, .null, .null, .null, .null, .null, .null])), (q17, .inl (cI, 35, .inl (tI (fun _ => 0)))), (q25, .inl (cI, 35, .inl (tI (fun _ => 0)))), (q33, .inl (cI, 35, .inl (tI (fun _ => 0)))), (q41, .inl (cI, 35, .inl (tI (fun _ => 0))))]) H := hP
  have hD : va_D A ([(h0, .inr (0, [.int (iI 0), .int (iI 2), .ref q17, .ref q25, .ref q33, .ref q41, .null, .null, .null, .null, .null, .null, .null])), (q17, .inl (cI, 35, .inl (tI (fun _ => 0)))), (q25, .inl (cI, 35, .inl (tI (fun _ => 0)))), (q33, .inl (cI, 35, .inl (tI (fun _ => 0)))), (q41, .inl (cI, 35, .inl (tI (fun _ => 0))))]) := hD
  refine lv_aload_n hx hb dX0_init_46 rfl (lv_at hl 0 rfl) ?_
  refine lv_bipush (v := iI 7) hx hb dX0_init_47 (by decide) ?_
  refine w_new (atype := .int) (t0 := 0) hx hb (hts (.arrayClass .int) (List.mem_of_getElem? (i := 6) rfl)) rfl (fun u hu z hz => by subst hu; exact hz) hK rfl hP hD hS hA 7 (7, .inl (jI (fun _ => 0))) (cell_J 7) (by decide) (Nat.le_of_ble_eq_true rfl) (Nat.le_of_ble_eq_true rfl) (Nat.le_of_ble_eq_true rfl) dX0_init_49 (fun q49 H hP hD hS => ?_)
  have hP : va_P D vwCl ([(h0, .inr (0, [.int (iI 0), .int (iI 2), .ref q17, .ref q25, .ref q33, .ref q41, .null, .null, .null, .null, .null, .null, .null])), (q17, .inl (cI, 35, .inl (tI (fun _ => 0)))), (q25, .inl (cI, 35, .inl (tI (fun _ => 0)))), (q33, .inl (cI, 35, .inl (tI (fun _ => 0)))), (q41, .inl (cI, 35, .inl (tI (fun _ => 0)))), (q49, .inl (cI, 7, .inl (jI (fun _ => 0))))]) H := hP
  have hD : va_D A ([(h0, .inr (0, [.int (iI 0), .int (iI 2), .ref q17, .ref q25, .ref q33, .ref q41, .null, .null, .null, .null, .null, .null, .null])), (q17, .inl (cI, 35, .inl (tI (fun _ => 0)))), (q25, .inl (cI, 35, .inl (tI (fun _ => 0)))), (q33, .inl (cI, 35, .inl (tI (fun _ => 0)))), (q41, .inl (cI, 35, .inl (tI (fun _ => 0)))), (q49, .inl (cI, 7, .inl (jI (fun _ => 0))))]) := hD
  refine va_putF (D := D) (ci := 0) (v := .ref q49) (ty := .array .int) (C := RX0) (T := TX0) (N := 13) hx hb hts inW tyX0 tyX0_ok nmX0 hown hK hP hD hS 0 rfl rfl 6 (by decide) (hts (.fieldLink RX0 29 "Flowforge" "order" "[I") (List.mem_of_getElem? (i := 11) rfl)) (fun _ h9 => h9) rfl hin rfl (by decide +kernel) rfl rfl (Nat.le_of_ble_eq_true rfl) dX0_init_51 (fun H locs hP hD hS => ?_)
  have hP : va_P D vwCl ([(h0, .inr (0, [.int (iI 0), .int (iI 2), .ref q17, .ref q25, .ref q33, .ref q41, .ref q49, .null, .null, .null, .null, .null, .null])), (q17, .inl (cI, 35, .inl (tI (fun _ => 0)))), (q25, .inl (cI, 35, .inl (tI (fun _ => 0)))), (q33, .inl (cI, 35, .inl (tI (fun _ => 0)))), (q41, .inl (cI, 35, .inl (tI (fun _ => 0)))), (q49, .inl (cI, 7, .inl (jI (fun _ => 0))))]) H := hP
  have hD : va_D A ([(h0, .inr (0, [.int (iI 0), .int (iI 2), .ref q17, .ref q25, .ref q33, .ref q41, .ref q49, .null, .null, .null, .null, .null, .null])), (q17, .inl (cI, 35, .inl (tI (fun _ => 0)))), (q25, .inl (cI, 35, .inl (tI (fun _ => 0)))), (q33, .inl (cI, 35, .inl (tI (fun _ => 0)))), (q41, .inl (cI, 35, .inl (tI (fun _ => 0)))), (q49, .inl (cI, 7, .inl (jI (fun _ => 0))))]) := hD
  refine lv_aload_n hx hb dX0_init_54 rfl (lv_at hl 0 rfl) ?_
  refine lv_bipush (v := iI 7) hx hb dX0_init_55 (by decide) ?_
  refine w_new (atype := .int) (t0 := 0) hx hb (hts (.arrayClass .int) (List.mem_of_getElem? (i := 6) rfl)) rfl (fun u hu z hz => by subst hu; exact hz) hK rfl hP hD hS hA 7 (7, .inl (jI (fun _ => 0))) (cell_J 7) (by decide) (Nat.le_of_ble_eq_true rfl) (Nat.le_of_ble_eq_true rfl) (Nat.le_of_ble_eq_true rfl) dX0_init_57 (fun q57 H hP hD hS => ?_)
  have hP : va_P D vwCl ([(h0, .inr (0, [.int (iI 0), .int (iI 2), .ref q17, .ref q25, .ref q33, .ref q41, .ref q49, .null, .null, .null, .null, .null, .null])), (q17, .inl (cI, 35, .inl (tI (fun _ => 0)))), (q25, .inl (cI, 35, .inl (tI (fun _ => 0)))), (q33, .inl (cI, 35, .inl (tI (fun _ => 0)))), (q41, .inl (cI, 35, .inl (tI (fun _ => 0)))), (q49, .inl (cI, 7, .inl (jI (fun _ => 0)))), (q57, .inl (cI, 7, .inl (jI (fun _ => 0))))]) H := hP
  have hD : va_D A ([(h0, .inr (0, [.int (iI 0), .int (iI 2), .ref q17, .ref q25, .ref q33, .ref q41, .ref q49, .null, .null, .null, .null, .null, .null])), (q17, .inl (cI, 35, .inl (tI (fun _ => 0)))), (q25, .inl (cI, 35, .inl (tI (fun _ => 0)))), (q33, .inl (cI, 35, .inl (tI (fun _ => 0)))), (q41, .inl (cI, 35, .inl (tI (fun _ => 0)))), (q49, .inl (cI, 7, .inl (jI (fun _ => 0)))), (q57, .inl (cI, 7, .inl (jI (fun _ => 0))))]) := hD
  refine va_putF (D := D) (ci := 0) (v := .ref q57) (ty := .array .int) (C := RX0) (T := TX0) (N := 13) hx hb hts inW tyX0 tyX0_ok nmX0 hown hK hP hD hS 0 rfl rfl 7 (by decide) (hts (.fieldLink RX0 32 "Flowforge" "trial" "[I") (List.mem_of_getElem? (i := 12) rfl)) (fun _ h9 => h9) rfl hin rfl (by decide +kernel) rfl rfl (Nat.le_of_ble_eq_true rfl) dX0_init_59 (fun H locs hP hD hS => ?_)
  have hP : va_P D vwCl ([(h0, .inr (0, [.int (iI 0), .int (iI 2), .ref q17, .ref q25, .ref q33, .ref q41, .ref q49, .ref q57, .null, .null, .null, .null, .null])), (q17, .inl (cI, 35, .inl (tI (fun _ => 0)))), (q25, .inl (cI, 35, .inl (tI (fun _ => 0)))), (q33, .inl (cI, 35, .inl (tI (fun _ => 0)))), (q41, .inl (cI, 35, .inl (tI (fun _ => 0)))), (q49, .inl (cI, 7, .inl (jI (fun _ => 0)))), (q57, .inl (cI, 7, .inl (jI (fun _ => 0))))]) H := hP
  have hD : va_D A ([(h0, .inr (0, [.int (iI 0), .int (iI 2), .ref q17, .ref q25, .ref q33, .ref q41, .ref q49, .ref q57, .null, .null, .null, .null, .null])), (q17, .inl (cI, 35, .inl (tI (fun _ => 0)))), (q25, .inl (cI, 35, .inl (tI (fun _ => 0)))), (q33, .inl (cI, 35, .inl (tI (fun _ => 0)))), (q41, .inl (cI, 35, .inl (tI (fun _ => 0)))), (q49, .inl (cI, 7, .inl (jI (fun _ => 0)))), (q57, .inl (cI, 7, .inl (jI (fun _ => 0))))]) := hD
  refine lv_aload_n hx hb dX0_init_62 rfl (lv_at hl 0 rfl) ?_
  refine lv_bipush (v := iI 7) hx hb dX0_init_63 (by decide) ?_
  refine w_new (atype := .int) (t0 := 0) hx hb (hts (.arrayClass .int) (List.mem_of_getElem? (i := 6) rfl)) rfl (fun u hu z hz => by subst hu; exact hz) hK rfl hP hD hS hA 7 (7, .inl (jI (fun _ => 0))) (cell_J 7) (by decide) (Nat.le_of_ble_eq_true rfl) (Nat.le_of_ble_eq_true rfl) (Nat.le_of_ble_eq_true rfl) dX0_init_65 (fun q65 H hP hD hS => ?_)
  have hP : va_P D vwCl ([(h0, .inr (0, [.int (iI 0), .int (iI 2), .ref q17, .ref q25, .ref q33, .ref q41, .ref q49, .ref q57, .null, .null, .null, .null, .null])), (q17, .inl (cI, 35, .inl (tI (fun _ => 0)))), (q25, .inl (cI, 35, .inl (tI (fun _ => 0)))), (q33, .inl (cI, 35, .inl (tI (fun _ => 0)))), (q41, .inl (cI, 35, .inl (tI (fun _ => 0)))), (q49, .inl (cI, 7, .inl (jI (fun _ => 0)))), (q57, .inl (cI, 7, .inl (jI (fun _ => 0)))), (q65, .inl (cI, 7, .inl (jI (fun _ => 0))))]) H := hP
  have hD : va_D A ([(h0, .inr (0, [.int (iI 0), .int (iI 2), .ref q17, .ref q25, .ref q33, .ref q41, .ref q49, .ref q57, .null, .null, .null, .null, .null])), (q17, .inl (cI, 35, .inl (tI (fun _ => 0)))), (q25, .inl (cI, 35, .inl (tI (fun _ => 0)))), (q33, .inl (cI, 35, .inl (tI (fun _ => 0)))), (q41, .inl (cI, 35, .inl (tI (fun _ => 0)))), (q49, .inl (cI, 7, .inl (jI (fun _ => 0)))), (q57, .inl (cI, 7, .inl (jI (fun _ => 0)))), (q65, .inl (cI, 7, .inl (jI (fun _ => 0))))]) := hD
  refine va_putF (D := D) (ci := 0) (v := .ref q65) (ty := .array .int) (C := RX0) (T := TX0) (N := 13) hx hb hts inW tyX0 tyX0_ok nmX0 hown hK hP hD hS 0 rfl rfl 8 (by decide) (hts (.fieldLink RX0 35 "Flowforge" "queue" "[I") (List.mem_of_getElem? (i := 13) rfl)) (fun _ h9 => h9) rfl hin rfl (by decide +kernel) rfl rfl (Nat.le_of_ble_eq_true rfl) dX0_init_67 (fun H locs hP hD hS => ?_)
  have hP : va_P D vwCl ([(h0, .inr (0, [.int (iI 0), .int (iI 2), .ref q17, .ref q25, .ref q33, .ref q41, .ref q49, .ref q57, .ref q65, .null, .null, .null, .null])), (q17, .inl (cI, 35, .inl (tI (fun _ => 0)))), (q25, .inl (cI, 35, .inl (tI (fun _ => 0)))), (q33, .inl (cI, 35, .inl (tI (fun _ => 0)))), (q41, .inl (cI, 35, .inl (tI (fun _ => 0)))), (q49, .inl (cI, 7, .inl (jI (fun _ => 0)))), (q57, .inl (cI, 7, .inl (jI (fun _ => 0)))), (q65, .inl (cI, 7, .inl (jI (fun _ => 0))))]) H := hP
  have hD : va_D A ([(h0, .inr (0, [.int (iI 0), .int (iI 2), .ref q17, .ref q25, .ref q33, .ref q41, .ref q49, .ref q57, .ref q65, .null, .null, .null, .null])), (q17, .inl (cI, 35, .inl (tI (fun _ => 0)))), (q25, .inl (cI, 35, .inl (tI (fun _ => 0)))), (q33, .inl (cI, 35, .inl (tI (fun _ => 0)))), (q41, .inl (cI, 35, .inl (tI (fun _ => 0)))), (q49, .inl (cI, 7, .inl (jI (fun _ => 0)))), (q57, .inl (cI, 7, .inl (jI (fun _ => 0)))), (q65, .inl (cI, 7, .inl (jI (fun _ => 0))))]) := hD
  refine lv_aload_n hx hb dX0_init_70 rfl (lv_at hl 0 rfl) ?_
  refine lv_iconst (v := iI 3) hx hb dX0_init_71 rfl ?_
  refine w_new (atype := .boolean) (t0 := 1) hx hb (hts (.arrayClass .boolean) (List.mem_of_getElem? (i := 14) rfl)) rfl (fun u hu z hz => by subst hu; exact hz) hK rfl hP hD hS hA 3 (3, .inl (tI (fun _ => 0))) (cell_Z 3) (by decide) (Nat.le_of_ble_eq_true rfl) (Nat.le_of_ble_eq_true rfl) (Nat.le_of_ble_eq_true rfl) dX0_init_72 (fun q72 H hP hD hS => ?_)
  have hP : va_P D vwCl ([(h0, .inr (0, [.int (iI 0), .int (iI 2), .ref q17, .ref q25, .ref q33, .ref q41, .ref q49, .ref q57, .ref q65, .null, .null, .null, .null])), (q17, .inl (cI, 35, .inl (tI (fun _ => 0)))), (q25, .inl (cI, 35, .inl (tI (fun _ => 0)))), (q33, .inl (cI, 35, .inl (tI (fun _ => 0)))), (q41, .inl (cI, 35, .inl (tI (fun _ => 0)))), (q49, .inl (cI, 7, .inl (jI (fun _ => 0)))), (q57, .inl (cI, 7, .inl (jI (fun _ => 0)))), (q65, .inl (cI, 7, .inl (jI (fun _ => 0)))), (q72, .inl (cZ, 3, .inl (tI (fun _ => 0))))]) H := hP
  have hD : va_D A ([(h0, .inr (0, [.int (iI 0), .int (iI 2), .ref q17, .ref q25, .ref q33, .ref q41, .ref q49, .ref q57, .ref q65, .null, .null, .null, .null])), (q17, .inl (cI, 35, .inl (tI (fun _ => 0)))), (q25, .inl (cI, 35, .inl (tI (fun _ => 0)))), (q33, .inl (cI, 35, .inl (tI (fun _ => 0)))), (q41, .inl (cI, 35, .inl (tI (fun _ => 0)))), (q49, .inl (cI, 7, .inl (jI (fun _ => 0)))), (q57, .inl (cI, 7, .inl (jI (fun _ => 0)))), (q65, .inl (cI, 7, .inl (jI (fun _ => 0)))), (q72, .inl (cZ, 3, .inl (tI (fun _ => 0))))]) := hD
  refine va_putF (D := D) (ci := 0) (v := .ref q72) (ty := .array .boolean) (C := RX0) (T := TX0) (N := 13) hx hb hts inW tyX0 tyX0_ok nmX0 hown hK hP hD hS 0 rfl rfl 9 (by decide) (hts (.fieldLink RX0 38 "Flowforge" "solved" "[Z") (List.mem_of_getElem? (i := 15) rfl)) (fun _ h9 => h9) rfl hin rfl (by decide +kernel) rfl rfl (Nat.le_of_ble_eq_true rfl) dX0_init_74 (fun H locs hP hD hS => ?_)
  have hP : va_P D vwCl ([(h0, .inr (0, [.int (iI 0), .int (iI 2), .ref q17, .ref q25, .ref q33, .ref q41, .ref q49, .ref q57, .ref q65, .ref q72, .null, .null, .null])), (q17, .inl (cI, 35, .inl (tI (fun _ => 0)))), (q25, .inl (cI, 35, .inl (tI (fun _ => 0)))), (q33, .inl (cI, 35, .inl (tI (fun _ => 0)))), (q41, .inl (cI, 35, .inl (tI (fun _ => 0)))), (q49, .inl (cI, 7, .inl (jI (fun _ => 0)))), (q57, .inl (cI, 7, .inl (jI (fun _ => 0)))), (q65, .inl (cI, 7, .inl (jI (fun _ => 0)))), (q72, .inl (cZ, 3, .inl (tI (fun _ => 0))))]) H := hP
  have hD : va_D A ([(h0, .inr (0, [.int (iI 0), .int (iI 2), .ref q17, .ref q25, .ref q33, .ref q41, .ref q49, .ref q57, .ref q65, .ref q72, .null, .null, .null])), (q17, .inl (cI, 35, .inl (tI (fun _ => 0)))), (q25, .inl (cI, 35, .inl (tI (fun _ => 0)))), (q33, .inl (cI, 35, .inl (tI (fun _ => 0)))), (q41, .inl (cI, 35, .inl (tI (fun _ => 0)))), (q49, .inl (cI, 7, .inl (jI (fun _ => 0)))), (q57, .inl (cI, 7, .inl (jI (fun _ => 0)))), (q65, .inl (cI, 7, .inl (jI (fun _ => 0)))), (q72, .inl (cZ, 3, .inl (tI (fun _ => 0))))]) := hD
  refine lv_aload_n hx hb dX0_init_77 rfl (lv_at hl 0 rfl) ?_
  refine lv_iconst (v := iI 3) hx hb dX0_init_78 rfl ?_
  refine w_new (atype := .int) (t0 := 0) hx hb (hts (.arrayClass .int) (List.mem_of_getElem? (i := 6) rfl)) rfl (fun u hu z hz => by subst hu; exact hz) hK rfl hP hD hS hA 3 (3, .inl (tI (fun _ => 0))) (cell_I 3) (by decide) (Nat.le_of_ble_eq_true rfl) (Nat.le_of_ble_eq_true rfl) (Nat.le_of_ble_eq_true rfl) dX0_init_79 (fun q79 H hP hD hS => ?_)
  have hP : va_P D vwCl ([(h0, .inr (0, [.int (iI 0), .int (iI 2), .ref q17, .ref q25, .ref q33, .ref q41, .ref q49, .ref q57, .ref q65, .ref q72, .null, .null, .null])), (q17, .inl (cI, 35, .inl (tI (fun _ => 0)))), (q25, .inl (cI, 35, .inl (tI (fun _ => 0)))), (q33, .inl (cI, 35, .inl (tI (fun _ => 0)))), (q41, .inl (cI, 35, .inl (tI (fun _ => 0)))), (q49, .inl (cI, 7, .inl (jI (fun _ => 0)))), (q57, .inl (cI, 7, .inl (jI (fun _ => 0)))), (q65, .inl (cI, 7, .inl (jI (fun _ => 0)))), (q72, .inl (cZ, 3, .inl (tI (fun _ => 0)))), (q79, .inl (cI, 3, .inl (tI (fun _ => 0))))]) H := hP
  have hD : va_D A ([(h0, .inr (0, [.int (iI 0), .int (iI 2), .ref q17, .ref q25, .ref q33, .ref q41, .ref q49, .ref q57, .ref q65, .ref q72, .null, .null, .null])), (q17, .inl (cI, 35, .inl (tI (fun _ => 0)))), (q25, .inl (cI, 35, .inl (tI (fun _ => 0)))), (q33, .inl (cI, 35, .inl (tI (fun _ => 0)))), (q41, .inl (cI, 35, .inl (tI (fun _ => 0)))), (q49, .inl (cI, 7, .inl (jI (fun _ => 0)))), (q57, .inl (cI, 7, .inl (jI (fun _ => 0)))), (q65, .inl (cI, 7, .inl (jI (fun _ => 0)))), (q72, .inl (cZ, 3, .inl (tI (fun _ => 0)))), (q79, .inl (cI, 3, .inl (tI (fun _ => 0))))]) := hD
  refine va_putF (D := D) (ci := 0) (v := .ref q79) (ty := .array .int) (C := RX0) (T := TX0) (N := 13) hx hb hts inW tyX0 tyX0_ok nmX0 hown hK hP hD hS 0 rfl rfl 10 (by decide) (hts (.fieldLink RX0 42 "Flowforge" "leastMakespans" "[I") (List.mem_of_getElem? (i := 16) rfl)) (fun _ h9 => h9) rfl hin rfl (by decide +kernel) rfl rfl (Nat.le_of_ble_eq_true rfl) dX0_init_81 (fun H locs hP hD hS => ?_)
  have hP : va_P D vwCl ([(h0, .inr (0, [.int (iI 0), .int (iI 2), .ref q17, .ref q25, .ref q33, .ref q41, .ref q49, .ref q57, .ref q65, .ref q72, .ref q79, .null, .null])), (q17, .inl (cI, 35, .inl (tI (fun _ => 0)))), (q25, .inl (cI, 35, .inl (tI (fun _ => 0)))), (q33, .inl (cI, 35, .inl (tI (fun _ => 0)))), (q41, .inl (cI, 35, .inl (tI (fun _ => 0)))), (q49, .inl (cI, 7, .inl (jI (fun _ => 0)))), (q57, .inl (cI, 7, .inl (jI (fun _ => 0)))), (q65, .inl (cI, 7, .inl (jI (fun _ => 0)))), (q72, .inl (cZ, 3, .inl (tI (fun _ => 0)))), (q79, .inl (cI, 3, .inl (tI (fun _ => 0))))]) H := hP
  have hD : va_D A ([(h0, .inr (0, [.int (iI 0), .int (iI 2), .ref q17, .ref q25, .ref q33, .ref q41, .ref q49, .ref q57, .ref q65, .ref q72, .ref q79, .null, .null])), (q17, .inl (cI, 35, .inl (tI (fun _ => 0)))), (q25, .inl (cI, 35, .inl (tI (fun _ => 0)))), (q33, .inl (cI, 35, .inl (tI (fun _ => 0)))), (q41, .inl (cI, 35, .inl (tI (fun _ => 0)))), (q49, .inl (cI, 7, .inl (jI (fun _ => 0)))), (q57, .inl (cI, 7, .inl (jI (fun _ => 0)))), (q65, .inl (cI, 7, .inl (jI (fun _ => 0)))), (q72, .inl (cZ, 3, .inl (tI (fun _ => 0)))), (q79, .inl (cI, 3, .inl (tI (fun _ => 0))))]) := hD
  refine lv_aload_n hx hb dX0_init_84 rfl (lv_at hl 0 rfl) ?_
  refine lv_iconst (v := iI 3) hx hb dX0_init_85 rfl ?_
  refine w_new (atype := .int) (t0 := 0) hx hb (hts (.arrayClass .int) (List.mem_of_getElem? (i := 6) rfl)) rfl (fun u hu z hz => by subst hu; exact hz) hK rfl hP hD hS hA 3 (3, .inl (tI (fun _ => 0))) (cell_I 3) (by decide) (Nat.le_of_ble_eq_true rfl) (Nat.le_of_ble_eq_true rfl) (Nat.le_of_ble_eq_true rfl) dX0_init_86 (fun q86 H hP hD hS => ?_)
  have hP : va_P D vwCl ([(h0, .inr (0, [.int (iI 0), .int (iI 2), .ref q17, .ref q25, .ref q33, .ref q41, .ref q49, .ref q57, .ref q65, .ref q72, .ref q79, .null, .null])), (q17, .inl (cI, 35, .inl (tI (fun _ => 0)))), (q25, .inl (cI, 35, .inl (tI (fun _ => 0)))), (q33, .inl (cI, 35, .inl (tI (fun _ => 0)))), (q41, .inl (cI, 35, .inl (tI (fun _ => 0)))), (q49, .inl (cI, 7, .inl (jI (fun _ => 0)))), (q57, .inl (cI, 7, .inl (jI (fun _ => 0)))), (q65, .inl (cI, 7, .inl (jI (fun _ => 0)))), (q72, .inl (cZ, 3, .inl (tI (fun _ => 0)))), (q79, .inl (cI, 3, .inl (tI (fun _ => 0)))), (q86, .inl (cI, 3, .inl (tI (fun _ => 0))))]) H := hP
  have hD : va_D A ([(h0, .inr (0, [.int (iI 0), .int (iI 2), .ref q17, .ref q25, .ref q33, .ref q41, .ref q49, .ref q57, .ref q65, .ref q72, .ref q79, .null, .null])), (q17, .inl (cI, 35, .inl (tI (fun _ => 0)))), (q25, .inl (cI, 35, .inl (tI (fun _ => 0)))), (q33, .inl (cI, 35, .inl (tI (fun _ => 0)))), (q41, .inl (cI, 35, .inl (tI (fun _ => 0)))), (q49, .inl (cI, 7, .inl (jI (fun _ => 0)))), (q57, .inl (cI, 7, .inl (jI (fun _ => 0)))), (q65, .inl (cI, 7, .inl (jI (fun _ => 0)))), (q72, .inl (cZ, 3, .inl (tI (fun _ => 0)))), (q79, .inl (cI, 3, .inl (tI (fun _ => 0)))), (q86, .inl (cI, 3, .inl (tI (fun _ => 0))))]) := hD
  refine va_putF (D := D) (ci := 0) (v := .ref q86) (ty := .array .int) (C := RX0) (T := TX0) (N := 13) hx hb hts inW tyX0 tyX0_ok nmX0 hown hK hP hD hS 0 rfl rfl 11 (by decide) (hts (.fieldLink RX0 45 "Flowforge" "leastCounts" "[I") (List.mem_of_getElem? (i := 17) rfl)) (fun _ h9 => h9) rfl hin rfl (by decide +kernel) rfl rfl (Nat.le_of_ble_eq_true rfl) dX0_init_88 (fun H locs hP hD hS => ?_)
  have hP : va_P D vwCl ([(h0, .inr (0, [.int (iI 0), .int (iI 2), .ref q17, .ref q25, .ref q33, .ref q41, .ref q49, .ref q57, .ref q65, .ref q72, .ref q79, .ref q86, .null])), (q17, .inl (cI, 35, .inl (tI (fun _ => 0)))), (q25, .inl (cI, 35, .inl (tI (fun _ => 0)))), (q33, .inl (cI, 35, .inl (tI (fun _ => 0)))), (q41, .inl (cI, 35, .inl (tI (fun _ => 0)))), (q49, .inl (cI, 7, .inl (jI (fun _ => 0)))), (q57, .inl (cI, 7, .inl (jI (fun _ => 0)))), (q65, .inl (cI, 7, .inl (jI (fun _ => 0)))), (q72, .inl (cZ, 3, .inl (tI (fun _ => 0)))), (q79, .inl (cI, 3, .inl (tI (fun _ => 0)))), (q86, .inl (cI, 3, .inl (tI (fun _ => 0))))]) H := hP
  have hD : va_D A ([(h0, .inr (0, [.int (iI 0), .int (iI 2), .ref q17, .ref q25, .ref q33, .ref q41, .ref q49, .ref q57, .ref q65, .ref q72, .ref q79, .ref q86, .null])), (q17, .inl (cI, 35, .inl (tI (fun _ => 0)))), (q25, .inl (cI, 35, .inl (tI (fun _ => 0)))), (q33, .inl (cI, 35, .inl (tI (fun _ => 0)))), (q41, .inl (cI, 35, .inl (tI (fun _ => 0)))), (q49, .inl (cI, 7, .inl (jI (fun _ => 0)))), (q57, .inl (cI, 7, .inl (jI (fun _ => 0)))), (q65, .inl (cI, 7, .inl (jI (fun _ => 0)))), (q72, .inl (cZ, 3, .inl (tI (fun _ => 0)))), (q79, .inl (cI, 3, .inl (tI (fun _ => 0)))), (q86, .inl (cI, 3, .inl (tI (fun _ => 0))))]) := hD
  refine lv_aload_n hx hb dX0_init_91 rfl (lv_at hl 0 rfl) ?_
  refine lv_bipush (v := iI 21) hx hb dX0_init_92 (by decide) ?_
  refine w_new (atype := .int) (t0 := 0) hx hb (hts (.arrayClass .int) (List.mem_of_getElem? (i := 6) rfl)) rfl (fun u hu z hz => by subst hu; exact hz) hK rfl hP hD hS hA 21 (21, .inl (jI (fun _ => 0))) (cell_J 21) (by decide) (Nat.le_of_ble_eq_true rfl) (Nat.le_of_ble_eq_true rfl) (Nat.le_of_ble_eq_true rfl) dX0_init_94 (fun q94 H hP hD hS => ?_)
  have hP : va_P D vwCl ([(h0, .inr (0, [.int (iI 0), .int (iI 2), .ref q17, .ref q25, .ref q33, .ref q41, .ref q49, .ref q57, .ref q65, .ref q72, .ref q79, .ref q86, .null])), (q17, .inl (cI, 35, .inl (tI (fun _ => 0)))), (q25, .inl (cI, 35, .inl (tI (fun _ => 0)))), (q33, .inl (cI, 35, .inl (tI (fun _ => 0)))), (q41, .inl (cI, 35, .inl (tI (fun _ => 0)))), (q49, .inl (cI, 7, .inl (jI (fun _ => 0)))), (q57, .inl (cI, 7, .inl (jI (fun _ => 0)))), (q65, .inl (cI, 7, .inl (jI (fun _ => 0)))), (q72, .inl (cZ, 3, .inl (tI (fun _ => 0)))), (q79, .inl (cI, 3, .inl (tI (fun _ => 0)))), (q86, .inl (cI, 3, .inl (tI (fun _ => 0)))), (q94, .inl (cI, 21, .inl (jI (fun _ => 0))))]) H := hP
  have hD : va_D A ([(h0, .inr (0, [.int (iI 0), .int (iI 2), .ref q17, .ref q25, .ref q33, .ref q41, .ref q49, .ref q57, .ref q65, .ref q72, .ref q79, .ref q86, .null])), (q17, .inl (cI, 35, .inl (tI (fun _ => 0)))), (q25, .inl (cI, 35, .inl (tI (fun _ => 0)))), (q33, .inl (cI, 35, .inl (tI (fun _ => 0)))), (q41, .inl (cI, 35, .inl (tI (fun _ => 0)))), (q49, .inl (cI, 7, .inl (jI (fun _ => 0)))), (q57, .inl (cI, 7, .inl (jI (fun _ => 0)))), (q65, .inl (cI, 7, .inl (jI (fun _ => 0)))), (q72, .inl (cZ, 3, .inl (tI (fun _ => 0)))), (q79, .inl (cI, 3, .inl (tI (fun _ => 0)))), (q86, .inl (cI, 3, .inl (tI (fun _ => 0)))), (q94, .inl (cI, 21, .inl (jI (fun _ => 0))))]) := hD
  refine va_putF (D := D) (ci := 0) (v := .ref q94) (ty := .array .int) (C := RX0) (T := TX0) (N := 13) hx hb hts inW tyX0 tyX0_ok nmX0 hown hK hP hD hS 0 rfl rfl 12 (by decide) (hts (.fieldLink RX0 48 "Flowforge" "bestJobs" "[I") (List.mem_of_getElem? (i := 18) rfl)) (fun _ h9 => h9) rfl hin rfl (by decide +kernel) rfl rfl (Nat.le_of_ble_eq_true rfl) dX0_init_96 (fun H locs hP hD hS => ?_)
  have hP : va_P D vwCl ([(h0, .inr (0, [.int (iI 0), .int (iI 2), .ref q17, .ref q25, .ref q33, .ref q41, .ref q49, .ref q57, .ref q65, .ref q72, .ref q79, .ref q86, .ref q94])), (q17, .inl (cI, 35, .inl (tI (fun _ => 0)))), (q25, .inl (cI, 35, .inl (tI (fun _ => 0)))), (q33, .inl (cI, 35, .inl (tI (fun _ => 0)))), (q41, .inl (cI, 35, .inl (tI (fun _ => 0)))), (q49, .inl (cI, 7, .inl (jI (fun _ => 0)))), (q57, .inl (cI, 7, .inl (jI (fun _ => 0)))), (q65, .inl (cI, 7, .inl (jI (fun _ => 0)))), (q72, .inl (cZ, 3, .inl (tI (fun _ => 0)))), (q79, .inl (cI, 3, .inl (tI (fun _ => 0)))), (q86, .inl (cI, 3, .inl (tI (fun _ => 0)))), (q94, .inl (cI, 21, .inl (jI (fun _ => 0))))]) H := hP
  have hD : va_D A ([(h0, .inr (0, [.int (iI 0), .int (iI 2), .ref q17, .ref q25, .ref q33, .ref q41, .ref q49, .ref q57, .ref q65, .ref q72, .ref q79, .ref q86, .ref q94])), (q17, .inl (cI, 35, .inl (tI (fun _ => 0)))), (q25, .inl (cI, 35, .inl (tI (fun _ => 0)))), (q33, .inl (cI, 35, .inl (tI (fun _ => 0)))), (q41, .inl (cI, 35, .inl (tI (fun _ => 0)))), (q49, .inl (cI, 7, .inl (jI (fun _ => 0)))), (q57, .inl (cI, 7, .inl (jI (fun _ => 0)))), (q65, .inl (cI, 7, .inl (jI (fun _ => 0)))), (q72, .inl (cZ, 3, .inl (tI (fun _ => 0)))), (q79, .inl (cI, 3, .inl (tI (fun _ => 0)))), (q86, .inl (cI, 3, .inl (tI (fun _ => 0)))), (q94, .inl (cI, 21, .inl (jI (fun _ => 0))))]) := hD
  have hP : va_P D vwCl (xw (fun k : Nat => ([h0, q17, q25, q33, q41, q49, q57, q65, q72, q79, q86, q94] : List Nat).getD k 0) cI cZ 0 2 z0 z0 z0 z0 n0 n0 n0 z0 z0 z0 n0) H := hP
  have hD : va_D A (xw (fun k : Nat => ([h0, q17, q25, q33, q41, q49, q57, q65, q72, q79, q86, q94] : List Nat).getD k 0) cI cZ 0 2 z0 z0 z0 z0 n0 n0 n0 z0 z0 z0 n0) := hD
  refine W.widen (k := 11) (n := 191) (Nat.le_of_ble_eq_true rfl) (Nat.le_of_ble_eq_true rfl) ?_
  exact W.vret hx hb hr (fun t ht hW => ⟨⟨(fun k : Nat => ([h0, q17, q25, q33, q41, q49, q57, q65, q72, q79, q86, q94] : List Nat).getD k 0), rfl, rfl, by rw [ht]; exact hP, va_K.moved hW.alike hK, hD⟩, hS.F ht⟩) hS.2.2 dX0_init_99
end
section
/-! rows for the law: the script, what makes cells, raw ints -/
theorem iI_nat (L : Nat) : Int32.ofNat L = iI (L : Int) := by
  unfold iI
  first | rfl | simp | exact (Int32.ofInt_natCast L).symm
theorem iI_nI (n : Nat) : nI n = iI (n : Int) := iI_nat n
theorem low_ok (x : Int32) {n : Nat} (h1 : 1 ≤ n) (hn : n ≤ 1000) : ∃ k : Nat, k < n ∧ (x &&& 2147483647) - (x &&& 2147483647) / iI (n : Int) * iI (n : Int) = iI (k : Int) := by
  obtain ⟨j, hj, e⟩ := pk_andE x (m := 2147483647) 31 (by decide)
  refine ⟨j % n, Nat.mod_lt _ h1, ?_⟩
  rw [e, ← iI_nI, ← iI_nI, pk_rem hj h1 (by omega)]
def rmn (f lo mc ms : Nat) : Room := { frames := f, cells := mc, slots := ms, locals := lo }
def XM (l : Launch) (y : MethodName) (wd : List Cond) (rm : Room) (b L : Nat) (xs : Nat → Int32) (av : List Value) (Qc : Array Value → State → Outcome → State → Prop) : Prop :=
  Met l y wd rm (va_Pc av (fun U => va_X b L xs U U.heap)) Qc 0 0 (fun _ => False)
section WX
variable {p : Program} {l : Launch} {e : Env} {R : Room} {s : State} {m : MethodId} {args : Array Value} {below : List Frame} {meth : Method} {c : Code} {H : Heap} {locs : List Loc} {cells slots : Nat} {Q : State → Prop}
variable {cc : ByteArray} {pc : Nat} {ls : Array Slot} {rest st0 : List Value} {D : va_G} {tys : List (ClassId × FieldType)} {ws wc wr : va_W} {A : Nat → Prop}
variable {y : MethodName} {bytes : ByteArray} {maxL nL n index : Nat} {ret : Option FieldType} {wd wd' Ts : List Cond} {rm : Room} {own C : String} {As av : List Value}
theorem w_sld {b L : Nat} {xs : Nat → Int32} (hx : p.tables.exec = Jvm.exec) (hb : c.code = cc) (hX : va_X b L xs s s.heap) (hbl : b < s.heap.size) (hbA : ¬ A b) (hS : va_S A s.heap H locs) (hL : L ≤ 2048) (k : Nat) {z : Int} {v : Int32} (hz : z = (k : Int)) (hk : k < L) (hv : xs k = v) (hd : decode cc pc = .ok (.iaload, 1))
    (kk : W p l e R s m args below meth c H locs cells slots Q (F0 m (pc + 1) ls (.int v :: rest))) : W p l e R s m args below meth c H locs cells slots Q (F0 m pc ls (.int (iI z) :: .ref b :: rest)) :=
  va_sld hx hb hX hbl hbA hS (iI_in hz hk (by omega)) hd (by rw [iI_cl hz (by omega), hv]; exact kk)
theorem w_gen {x : Int32} (k : ∀ v : Int32, W p l e R s m args below meth c H locs cells slots Q (F0 m pc ls (.int v :: rest))) : W p l e R s m args below meth c H locs cells slots Q (F0 m pc ls (.int x :: rest)) := k x
theorem xm_blind {b L : Nat} {xs : Nat → Int32} : FrameBlind (va_Pc av (fun U => va_X b L xs U U.heap)) := fun a U g mk q => ⟨q.1, va_X.moved (u := U) (U := U.calling g mk a) (H := U.heap) (Vm.Alike.refl U.vm) q.2⟩
/-- a call of what reads the script alone -/
theorem w_xS {post : Int32 → Prop} {b L : Nat} {xs : Nat → Int32} (S9 : CallFix p m c cc nL s args Ts own) (hX : va_X b L xs s H) (hM : XM l y wd rm b L xs As (vp_Si post)) (cw : CallB R s args own index y bytes maxL ret wd rm 0 0 n ∧ (Cond.static y).before args s = true) (hn : As.length = n) (hsz : ls.size = nL) (hst : st0 = As.reverse ++ rest) (hro : (rest.map fun v => v.category).sum ≤ 8) (hd : decode cc pc = .ok (.invokestatic index, 3)) (hf : cells ≤ R.cells ∧ slots ≤ R.slots)
    (kk : ∀ r : Int32, post r → W p l e R s m args below meth c H locs cells slots Q (F0 m (pc + 3) ls (.int r :: rest))) : W p l e R s m args below meth c H locs cells slots Q (F0 m pc ls st0) :=
  vp_callSi (W.runS (g := F0 m pc ls st0) (As := As) (rest := rest) S9 hM cw ⟨xm_blind, fun U hU hW => ⟨rfl, by rw [hU]; exact hX.moved hW.alike⟩⟩ rfl hn hsz hst (lv_room hro) hd hf) kk
variable {S : Type} {out : S → va_W}
theorem nmZ_of {post : Int32 → S → Prop} {mc ms : Nat} (hy : plainName y.cls = true) (hw : wd = Cond.code y cc maxL (some .boolean) :: wd') (hlen : (lg_sl av).length ≤ maxL)
    (body : ∀ (p : Program) (e : Env) (s : State) (m : MethodId) (args : Array Value) (below : List Frame) (meth : Method) (c : Code) (A : Nat → Prop) (Q : State → Prop), p.tables.exec = Jvm.exec → c.code = cc → c.maxLocals = maxL → s.vm.findClass y.cls = some m.cls → (∀ w ∈ wd, w.before args s = true) → (∀ q : Nat, s.heap.size ≤ q → A q) → va_K D vwCl tys s → va_P D vwCl ws s.heap → va_D A ws → va_S A s.heap s.heap [] →
      (∀ (H : Heap) (locs : List Loc) (pc : Nat) (ls : Array Slot) (v : Int32) (u : S), narrow .boolean (.int v) = .int v → va_P D vwCl (out u) H → va_D A (out u) → va_S A s.heap H locs → post v u → decode cc pc = .ok (.ireturn, 1) → W p l e rm s m args below meth c H locs mc ms Q (F0 m pc ls [.int v])) →
      ∀ ls : Array Slot, lv_has ls maxL (lv_args 0 av) → W p l e rm s m args below meth c s.heap [] 0 0 Q (F0 m 0 ls [])) : NM l y wd rm D tys ws av mc ms (QI D tys out post) := by
  intro sz
  refine Met.ofW (cc := cc) (maxL := maxL) (ret := some .boolean) hy hw ?_
  intro p e s m args below meth c s₁ B hml hv
  obtain ⟨rfl, hsz, hP, hK, hD0⟩ := hv
  subst hsz
  have hl := lv_entry av (n := maxL) hlen
  rw [lg_entry_eq]
  refine body p e s m _ below meth c _ _ B.exec B.bytes hml (findClass_of_methodNamed B.named) (atoms_spec (ws := wd) B.pre) (fun q h => Or.inr h) hK hP (hD0.self (sz := s.heap.size)) va_S.rf ?_ _ hl
  intro H locs pc ls v u h0 hP1 hD1 hS1 hpost hd
  exact W.zret (v := v) B.exec B.bytes B.returns h0 (fun t ht hW => ⟨⟨v, u, rfl, hpost, by rw [ht]; exact hP1, va_K.moved hW.alike hK, hD1⟩, hS1.F ht⟩) hS1.2.2 hd
/-- a call of what changes its world and makes cells -/
theorem w_nS {post : Int32 → S → Prop} {mc ms : Nat} (S9 : CallFix p m c cc nL s args Ts own) (hK : va_K D vwCl tys s) (hP : va_P D vwCl ws H) (hD : va_D A ws) (hS : va_S A s.heap H locs) (hA : ∀ q : Nat, s.heap.size ≤ q → A q) (hM : NM l y wd rm D tys wc As mc ms (QI D tys out post)) (cw : CallB R s args own index y bytes maxL ret wd rm mc ms n ∧ (Cond.static y).before args s = true)
    (isC isR pf : List Nat) (hC1 : isC.map (fun i => ws[i]?) = wc.map some) (hR1 : isR.map (fun i => ws[i]?) = wr.map some) (hn1 : va_nd isR = true) (hn2 : va_nd isC = true) (hdis : ∀ i ∈ isR, i ∉ isC) (wf : S → va_W) (hwf : ∀ u, pf.map (fun i => (wr ++ out u)[i]?) = (wf u).map some) (hn3 : va_nd pf = true)
    (hn : As.length = n) (hsz : ls.size = nL) (hst : st0 = As.reverse ++ rest) (hro : (rest.map fun v => v.category).sum ≤ 8) (hd : decode cc pc = .ok (.invokestatic index, 3)) (hf : cells + mc ≤ R.cells ∧ slots + ms ≤ R.slots)
    (kk : ∀ (r : Int32) (u : S) (H1 : Heap) (locs1 : List Loc), post r u → va_P D vwCl (wf u) H1 → va_D A (wf u) → va_S A s.heap H1 locs1 → W p l e R s m args below meth c H1 locs1 (cells + mc) (slots + ms) Q (F0 m (pc + 3) ls (.int r :: rest))) : W p l e R s m args below meth c H locs cells slots Q (F0 m pc ls st0) := by
  have hPc : va_P D vwCl wc H := hP.sub isC (w_fm hC1)
  have hDc : va_D (fun _ => True) wc := (hD.sub isC hn2 hC1).weaken (fun _ _ _ _ => trivial)
  have hFc := va_free (wc := wc) hD hS hA isC hC1
  refine va_calli (va_runS (g := F0 m pc ls st0) (As := As) (rest := rest) S9 (hM H.size) cw ⟨im_blind, fun U hU hW => ⟨rfl, by rw [hU], by rw [hU]; exact hPc, va_K.moved hW.alike hK, hDc⟩⟩ rfl hn hsz hst (lv_room hro) hd hf) hS (fun q _ h => hFc q h) hFc (fun r u t H1 locs1 ht hvm hw hB hz1 hk1 hS1 => ?_)
  obtain ⟨hP1, hK1, hD1⟩ := hB
  rw [ht] at hP1
  obtain ⟨hP2, hD2⟩ := va_join (wr := wr) (w1 := out u) hP hD isC isR hC1 hR1 hn1 hdis hk1 hFc hP1 hD1
  exact kk r u H1 locs1 hw (hP2.sub pf (w_fm (hwf u))) (hD2.sub pf hn3 (hwf u)) hS1
end WX
/-! the law's leaves: cell, low -/
set_option maxHeartbeats 4000000 in
set_option maxRecDepth 100000 in
theorem hL_cell {l : Launch} {bS L : Nat} {xs : Nat → Int32} {k : Nat} (hk : k ≤ 1000) (hL : L ≤ 260) : XM l yL_cell wsL_cell (rmx 0 0) bS L xs [.ref bS, .int (iI (k : Int))] (vp_Si (fun _ => True)) := by
  refine Met.ofW (cc := cL_cell) (maxL := 2) (ret := some .int) (by decide) rfl ?_
  intro p e s m args below meth c s₁ B hml hv
  obtain ⟨rfl, hX⟩ := hv
  have hl := lv_entry ([.ref bS, .int (iI (k : Int))]) (n := 2) (Nat.le_of_ble_eq_true rfl)
  rw [lg_entry_eq]
  generalize (lg_sl ([.ref bS, .int (iI (k : Int))]) ++ List.replicate (2 - (lg_sl ([.ref bS, .int (iI (k : Int))])).length) Slot.unset).toArray = ls at hl ⊢
  have hl : lv_has ls 2 [(0, .ref bS), (1, .int (iI (k : Int)))] := hl
  have hx := B.exec
  have hb := B.bytes
  have hbl : bS < s.heap.size := by
    obtain ⟨scr, h1, -⟩ := hX
    exact (Array.getElem?_eq_some_iff.mp h1).1
  have hbA : ¬ (fun _ : Nat => False) bS := fun h => h
  have hS : va_S (fun _ : Nat => False) s.heap s.heap [] := va_S.rf
  refine lv_iload_n hx hb dL_cell_0 rfl (lv_at hl 1 rfl) ?_
  refine lv_aload_n hx hb dL_cell_1 rfl (lv_at hl 0 rfl) ?_
  refine va_slen hx hb hX hbl hbA hS dL_cell_2 ?_
  refine w_top (v := iI (L : Int)) (iI_nat L) ?_
  refine w_icmp_ge (tgt := 12) hx hb dL_cell_3 (by decide) ⟨by omega, by omega⟩ ⟨by omega, by omega⟩ (fun c3 => ?_) (fun c3 => ?_)
  · refine lv_sipush (v := iI 7919) hx hb dL_cell_12 (by decide) ?_
    refine lv_iload_n hx hb dL_cell_15 rfl (lv_at hl 1 rfl) ?_
    refine lv_iconst (v := iI 3) hx hb dL_cell_16 rfl ?_
    refine lv_iadd hx hb dL_cell_17 ?_
    refine lv_imul hx hb dL_cell_18 ?_
    refine lv_iload_n hx hb dL_cell_19 rfl (lv_at hl 1 rfl) ?_
    refine lv_bipush (v := iI 11) hx hb dL_cell_20 (by decide) ?_
    refine lv_iadd hx hb dL_cell_22 ?_
    refine lv_imul hx hb dL_cell_23 ?_
    exact w_iretP hx hb B.returns B.notSynchronized trivial dL_cell_24
  · refine lv_aload_n hx hb dL_cell_6 rfl (lv_at hl 0 rfl) ?_
    refine lv_iload_n hx hb dL_cell_7 rfl (lv_at hl 1 rfl) ?_
    refine w_sld hx hb hX hbl hbA hS (by omega) k rfl (by omega) rfl dL_cell_8 ?_
    refine lv_goto (tgt := 24) hx hb dL_cell_9 (by decide) ?_
    exact w_iretP hx hb B.returns B.notSynchronized trivial dL_cell_24
set_option maxHeartbeats 4000000 in
set_option maxRecDepth 100000 in
theorem hL_low {l : Launch} {D : va_G} {cI cZ cJ : ClassId} {ws : va_W} {x : Int32} {n : Nat} (h1 : 1 ≤ n) (hn : n ≤ 1000) : PM l yL_low wsL_low (rmx 0 0) D (tyk cI cZ cJ) ws [.int x, .int (iI (n : Int))] (vp_Si (fun r => ∃ k : Nat, k < n ∧ r = iI (k : Int))) := by
  refine pmI_of (cc := cL_low) (maxL := 2) (by decide) rfl (Nat.le_of_ble_eq_true rfl) ?_
  intro p e s m args below meth c Q hx hb hml hown hts hK hP hret ls hl
  have hown : s.vm.findClass RL = some m.cls := hown
  have hl : lv_has ls 2 [(0, .int x), (1, .int (iI (n : Int)))] := hl
  refine lv_iload_n hx hb dL_low_0 rfl (lv_at hl 0 rfl) ?_
  refine lv_ldc (v := 2147483647) hx hb hown (hts (.constant RL 7 (2147483647)) (List.mem_of_getElem? (i := 1) rfl)) dL_low_1 ?_
  refine lv_iand hx hb dL_low_3 ?_
  refine lv_iload_n hx hb dL_low_4 rfl (lv_at hl 1 rfl) ?_
  refine lv_irem hx hb dL_low_5 (fun q => absurd ((iI_eq (b := 0) ⟨by omega, by omega⟩ ⟨by omega, by omega⟩).mp q) (by omega)) ?_
  exact hret 6 ls _ (low_ok x h1 hn) dL_low_6
end
