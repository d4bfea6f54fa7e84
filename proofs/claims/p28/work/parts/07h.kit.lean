/-! the worlds: a Flowforge ad, a FlowforgeModel bd -/
def tI (f : Nat → Int) : Nat → Int32 := fun k => iI (f k)
def jI (f : Nat → Nat) : Nat → Int32 := fun k => iI ((f k : Nat) : Int)
theorem tI_up {f : Nat → Int} {k : Nat} {v : Int} : upd (tI f) k (iI v) = tI (va_up f k v) := by
  funext j
  unfold upd tI va_up
  split <;> rfl
theorem jI_up {f : Nat → Nat} {k v : Nat} : upd (jI f) k (iI ((v : Nat) : Int)) = jI (va_up f k v) := by
  funext j
  unfold upd jI va_up
  split <;> rfl
theorem tI_cpy {f g : Nat → Int} {sp dp n : Nat} : va_cpy (tI f) (tI g) sp dp n = tI (va_cpy f g sp dp n) := by
  funext j
  by_cases h : dp ≤ j ∧ j < dp + n
  · simp only [va_cpy, tI, if_pos h]
  · simp only [va_cpy, tI, if_neg h]
theorem jI_cpy {f g : Nat → Nat} {sp dp n : Nat} : va_cpy (jI f) (jI g) sp dp n = jI (va_cpy f g sp dp n) := by
  funext j
  by_cases h : dp ≤ j ∧ j < dp + n
  · simp only [va_cpy, jI, if_pos h]
  · simp only [va_cpy, jI, if_neg h]
def xw (ad : Nat → Nat) (cI cZ : ClassId) (nn mm : Nat) (tT tB tE tL : Nat → Int) (oO oR oQ : Nat → Nat) (zS zM zN : Nat → Int) (oJ : Nat → Nat) : va_W :=
  [(ad 0, .inr (0, [.int (iI (nn : Int)), .int (iI (mm : Int)), .ref (ad 1), .ref (ad 2), .ref (ad 3), .ref (ad 4), .ref (ad 5), .ref (ad 6), .ref (ad 7), .ref (ad 8), .ref (ad 9), .ref (ad 10), .ref (ad 11)])),
   (ad 1, .inl (cI, 35, .inl (tI tT))), (ad 2, .inl (cI, 35, .inl (tI tB))), (ad 3, .inl (cI, 35, .inl (tI tE))), (ad 4, .inl (cI, 35, .inl (tI tL))),
   (ad 5, .inl (cI, 7, .inl (jI oO))), (ad 6, .inl (cI, 7, .inl (jI oR))), (ad 7, .inl (cI, 7, .inl (jI oQ))),
   (ad 8, .inl (cZ, 3, .inl (tI zS))), (ad 9, .inl (cI, 3, .inl (tI zM))), (ad 10, .inl (cI, 3, .inl (tI zN))), (ad 11, .inl (cI, 21, .inl (jI oJ)))]
def mw (bd : Nat → Nat) (cI : ClassId) (th : Int) (nn mm : Nat) (bm : Int) (tT : Nat → Int) (oO : Nat → Nat) (tB tL : Nat → Int) (oR oJ : Nat → Nat) : va_W :=
  [(bd 0, .inr (1, [.int (iI th), .int (iI (nn : Int)), .int (iI (mm : Int)), .ref (bd 1), .ref (bd 2), .ref (bd 3), .ref (bd 4), .ref (bd 5), .ref (bd 6), .int (iI bm)])),
   (bd 1, .inl (cI, 35, .inl (tI tT))), (bd 2, .inl (cI, 7, .inl (jI oO))), (bd 3, .inl (cI, 35, .inl (tI tB))), (bd 4, .inl (cI, 40, .inl (tI tL))),
   (bd 5, .inl (cI, 7, .inl (jI oR))), (bd 6, .inl (cI, 7, .inl (jI oJ)))]
def tyk (cI cZ _cJ : ClassId) : List (ClassId × FieldType) := [(cI, .int), (cZ, .boolean)]
section WC
variable {p : Program} {l : Launch} {e : Env} {R : Room} {s : State} {m : MethodId} {args : Array Value} {below : List Frame} {meth : Method} {c : Code} {H : Heap} {locs : List Loc} {cells slots : Nat} {Q : State → Prop}
variable {cc : ByteArray} {pc : Nat} {ls : Array Slot} {rest : List Value} {D : va_G} {cl : List vw_C} {tys : List (ClassId × FieldType)} {ws : va_W} {A : Nat → Prop} {H0 : Heap}
theorem w_copy {own : String} {index : Nat} (ws' : va_W) (g2 : Nat → Int32) (hx : p.tables.exec = Jvm.exec) (hb : c.code = cc) (hml : c.maxLocals = ls.size) (hown : s.vm.findClass own = some m.cls) (hlink : (Cond.methodLink own index arraycopyName).before args s = true) (hnat : (Cond.native arraycopyName).before args s = true) (hstat : (Cond.static arraycopyName).before args s = true) (hini : (Cond.initialized "java/lang/System").before args s = true)
    (hK : va_K D cl tys s) (hP : va_P D cl ws H) (hD : va_D A ws) (hS : va_S A H0 H locs) (q0 q1 : Nat) {a1 a2 : Nat} {c0 : ClassId} {n0 n1 : Nat} {f g : Nat → Int32} (ha0 : ws[q0]? = some (a1, .inl (c0, n0, .inl f))) (ha1 : ws[q1]? = some (a2, .inl (c0, n1, .inl g))) (ht : tys[0]? = some (c0, .int)) {zs zd zn : Int} (sp dp n : Nat) (h1 : zs = (sp : Int)) (h2 : zd = (dp : Int)) (h3 : zn = (n : Int)) (h4 : sp + n ≤ n0) (h5 : dp + n ≤ n1)
    (hframes : 1 ≤ R.frames) (hlocals : (rest.map fun v => v.category).sum + (nativeFrameWords "java/lang/System" "arraycopy" 5 + 11) ≤ R.locals) (hbd : n0 ≤ 2147483647 ∧ n1 ≤ 2147483647) (hg : va_cpy f g sp dp n = g2) (hw : ws.set q1 (a2, .inl (c0, n1, .inl g2)) = ws') (hd : decode cc pc = .ok (.invokestatic index, 3))
    (kk : ∀ (H1 : Heap) (locs1 : List Loc), va_P D cl ws' H1 → va_D A ws' → va_S A H0 H1 locs1 → W p l e R s m args below meth c H1 locs1 cells slots Q (F0 m (pc + 3) ls rest)) : W p l e R s m args below meth c H locs cells slots Q (F0 m pc ls (.int (iI zn) :: .int (iI zd) :: .ref a2 :: .int (iI zs) :: .ref a1 :: rest)) := by
  obtain ⟨b0, b1⟩ := hbd
  have e1 : (iI zs).toNatClampNeg = sp := iI_cl h1 (by omega)
  have e2 : (iI zd).toNatClampNeg = dp := iI_cl h2 (by omega)
  have e3 : (iI zn).toNatClampNeg = n := iI_cl h3 (by omega)
  have ng : ∀ {z : Int} {k : Nat}, z = (k : Int) → k < 2147483648 → ¬ iI z < 0 := fun {z k} hz hk h => by
    have := (iI_lt (a := z) (b := 0) ⟨by omega, by omega⟩ ⟨by omega, by omega⟩).mp h
    omega
  refine va_copyi hx hb hml hown hlink hnat hstat hini hK hP hD hS q0 q1 0 0 ha0 ha1 ht ht rfl (ng h1 (by omega)) (ng h2 (by omega)) (ng h3 (by omega)) (by rw [e1, e3]; exact h4) (by rw [e2, e3]; exact h5) (fun _ _ => rfl) hframes hlocals hd (fun H1 locs1 k1 k2 k3 => ?_)
  rw [e1, e2, e3, hg, hw] at k1 k2
  exact kk H1 locs1 k1 k2 k3
end WC
