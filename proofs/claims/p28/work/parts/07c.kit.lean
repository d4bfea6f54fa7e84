section WK
variable {p : Program} {l : Launch} {e : Env} {R : Room} {s : State} {m : MethodId} {args : Array Value} {below : List Frame} {meth : Method} {c : Code} {H : Heap} {locs : List Loc} {cells slots : Nat} {Q : State → Prop}
variable {cc : ByteArray} {pc : Nat} {ls : Array Slot} {rest : List Value}
variable {D : va_G} {cl : List vw_C} {tys : List (ClassId × FieldType)} {ws : va_W} {A : Nat → Prop} {H0 : Heap} {a0 : Nat}
/-- a place of an int array is read -/
theorem w_iald (hx : p.tables.exec = Jvm.exec) (hb : c.code = cc) (hK : va_K D cl tys s) (hP : va_P D cl ws H) (q0 t0 : Nat) {cA : ClassId} {n : Nat} {f : Nat → Int32} (ha : ws[q0]? = some (a0, .inl (cA, n, .inl f))) (ht : tys[t0]? = some (cA, .int)) {z : Int} (k : Nat) {v : Int32} (hz : z = (k : Int)) (hk : k < n) (hn : n ≤ 2147483648) (hv : f k = v) (hd : decode cc pc = .ok (.iaload, 1))
    (kk : W p l e R s m args below meth c H locs cells slots Q (F0 m (pc + 1) ls (.int v :: rest))) : W p l e R s m args below meth c H locs cells slots Q (F0 m pc ls (.int (iI z) :: .ref a0 :: rest)) :=
  va_iald hx hb hK hP q0 t0 ha ht (iI_in hz hk hn) hd (by rw [iI_cl hz (by omega), hv]; exact kk)
theorem w_zald (hx : p.tables.exec = Jvm.exec) (hb : c.code = cc) (hK : va_K D cl tys s) (hP : va_P D cl ws H) (q0 t0 : Nat) {cA : ClassId} {n : Nat} {f : Nat → Int32} (ha : ws[q0]? = some (a0, .inl (cA, n, .inl f))) (ht : tys[t0]? = some (cA, .boolean)) {z : Int} (k : Nat) {v : Int32} (hz : z = (k : Int)) (hk : k < n) (hn : n ≤ 2147483648) (hv : f k = v) (hd : decode cc pc = .ok (.baload, 1))
    (kk : W p l e R s m args below meth c H locs cells slots Q (F0 m (pc + 1) ls (.int v :: rest))) : W p l e R s m args below meth c H locs cells slots Q (F0 m pc ls (.int (iI z) :: .ref a0 :: rest)) :=
  va_zald hx hb hK hP q0 t0 ha ht (iI_in hz hk hn) hd (by rw [iI_cl hz (by omega), hv]; exact kk)
/-- a place of an int array is written; ws' names the world behind it -/
theorem w_iast (hx : p.tables.exec = Jvm.exec) (hb : c.code = cc) (hK : va_K D cl tys s) (hP : va_P D cl ws H) (hD : va_D A ws) (hS : va_S A H0 H locs) (q0 t0 : Nat) {cA : ClassId} {n : Nat} {f : Nat → Int32} (ha : ws[q0]? = some (a0, .inl (cA, n, .inl f))) (ht : tys[t0]? = some (cA, .int)) {z : Int} {x : Int32} (k : Nat) (hz : z = (k : Int)) (hk : k < n) (hn : n ≤ 2147483648) (g : Nat → Int32) (hg : upd f k x = g) (ws' : va_W) (hw : ws.set q0 (a0, .inl (cA, n, .inl g)) = ws') (hd : decode cc pc = .ok (.iastore, 1))
    (kk : ∀ (H1 : Heap) (locs1 : List Loc), va_P D cl ws' H1 → va_D A ws' → va_S A H0 H1 locs1 → W p l e R s m args below meth c H1 locs1 cells slots Q (F0 m (pc + 1) ls rest)) : W p l e R s m args below meth c H locs cells slots Q (F0 m pc ls (.int x :: .int (iI z) :: .ref a0 :: rest)) :=
  va_iast hx hb hK hP hD hS q0 t0 ha ht (iI_in hz hk hn) hd (fun H1 locs1 h1 h2 h3 => by
    rw [iI_cl hz (by omega), hg, hw] at h1 h2
    exact kk H1 locs1 h1 h2 h3)
theorem w_zast (hx : p.tables.exec = Jvm.exec) (hb : c.code = cc) (hK : va_K D cl tys s) (hP : va_P D cl ws H) (hD : va_D A ws) (hS : va_S A H0 H locs) (q0 t0 : Nat) {cA : ClassId} {n : Nat} {f : Nat → Int32} (ha : ws[q0]? = some (a0, .inl (cA, n, .inl f))) (ht : tys[t0]? = some (cA, .boolean)) {z : Int} {x : Int32} (k : Nat) (hz : z = (k : Int)) (hk : k < n) (hn : n ≤ 2147483648) (hx1 : vp_nar .boolean x = x) (g : Nat → Int32) (hg : upd f k x = g) (ws' : va_W) (hw : ws.set q0 (a0, .inl (cA, n, .inl g)) = ws') (hd : decode cc pc = .ok (.bastore, 1))
    (kk : ∀ (H1 : Heap) (locs1 : List Loc), va_P D cl ws' H1 → va_D A ws' → va_S A H0 H1 locs1 → W p l e R s m args below meth c H1 locs1 cells slots Q (F0 m (pc + 1) ls rest)) : W p l e R s m args below meth c H locs cells slots Q (F0 m pc ls (.int x :: .int (iI z) :: .ref a0 :: rest)) :=
  va_zast hx hb hK hP hD hS q0 t0 ha ht (iI_in hz hk hn) hd (fun H1 locs1 h1 h2 h3 => by
    rw [iI_cl hz (by omega), hx1, hg, hw] at h1 h2
    exact kk H1 locs1 h1 h2 h3)
end WK
