/-! the law's world, its invariant, its rows -/
def IsP (nn : Nat) (o : Nat → Nat) : Prop := (∀ k, k < nn → o k < nn) ∧ ∀ i j, i < nn → j < nn → o i = o j → i = j
def LInv (nn mm : Nat) (tT : Nat → Int) (oO oP : Nat → Nat) (zS zM zN : Nat → Int) (oJ : Nat → Nat) : Prop :=
  nn ≤ 7 ∧ (1 ≤ mm ∧ mm ≤ 5) ∧ (∀ k, 0 ≤ tT k ∧ tT k ≤ 99) ∧ (∀ k, k < 35 → (nn ≤ k / 5 ∨ mm ≤ k % 5) → tT k = 0) ∧ eqn nn oO oP ∧ IsP nn oO ∧ CK mm tT nn zS zM zN oJ ∧ ∀ k, k ≤ 2 → 0 ≤ zM k ∧ zM k ≤ 1000000
def LWW (ad bd : Nat → Nat) (b0 : Nat) (cI cZ cJ : ClassId) (nn mm : Nat) (tT tB tE tL : Nat → Int) (oO oR oQ : Nat → Nat) (zS zM zN : Nat → Int) (oJ : Nat → Nat) (th : Int) (rn rm : Nat) (bm : Int) (rT : Nat → Int) (oP : Nat → Nat) (sB sL : Nat → Int) (sR sJ : Nat → Nat) (fL : Nat → Int64) : va_W :=
  xw ad cI cZ nn mm tT tB tE tL oO oR oQ zS zM zN oJ ++ (mw bd cI th rn rm bm rT oP sB sL sR sJ ++ [(b0, .inl (cJ, 1, .inr (.inl fL)))])
/-- what stays through the whole walk -/
def L0 (p : Program) (s : State) (m : MethodId) (args : Array Value) (c : Code) (sa : Nat → Nat) (A : Nat → Prop) (b L : Nat) (xs : Nat → Int32) (D : va_G) (cI cZ cJ : ClassId) : Prop :=
  p.tables.exec = Jvm.exec ∧ c.code = cL_law ∧ c.maxLocals = 9 ∧ s.vm.findClass RL = some m.cls ∧ (∀ w ∈ wsL_law, w.before args s = true) ∧ va_K D vwCl (tyk cI cZ cJ) s ∧ (∀ q : Nat, s.heap.size ≤ q → A q) ∧ va_X b L xs s s.heap ∧ b < s.heap.size ∧ ¬ A b ∧ FX A s s.heap ∧ SX sa s ∧ CX s ∧ L ≤ 2048
/-- what the equality of both sides stands on -/
def MO : Prop := (∀ nn, nn ≤ 7 → Enu nn) ∧
  (∀ (t : Nat → Int) (nn : Nat) (o o' : Nat → Nat), (∀ k, 0 ≤ t k ∧ t k ≤ 99) → nn ≤ 7 → eqn nn (srt (gbr t 0 1) o nn) (rk t nn o' nn) ∧ IsP nn (srt (gbr t 0 1) o nn)) ∧
  (∀ (t : Nat → Int) (mm nn : Nat) (o q : Nat → Nat), (∀ k, 0 ≤ t k ∧ t k ≤ 99) → nn ≤ 7 → (1 ≤ mm ∧ mm ≤ 5) → eqn nn (insO t mm nn o q) (rin t mm nn nn) ∧ IsP nn (insO t mm nn o q)) ∧
  (∀ (t : Nat → Int) (mm nn : Nat) (o o' : Nat → Nat), (∀ k, 0 ≤ t k ∧ t k ≤ 99) → nn ≤ 7 → (1 ≤ mm ∧ mm ≤ 5) → eqn nn o o' → IsP nn o → rmV t mm nn o' = mk 0 mm t o nn - (imS t mm o nn nn).1 ∧ eqn nn (impO t mm nn o) (rmO t mm nn o') ∧ IsP nn (impO t mm nn o)) ∧
  (∀ (t : Nat → Int) (nn a b : Nat) (r r' : Nat → Nat), (∀ k, 0 ≤ t k ∧ t k ≤ 99) → nn ≤ 7 → 1 ≤ nn → pbm (fun yy => opS t (sq (idr r' nn) nn yy) a b nn) (fac nn) = opS t (srt (gbr t a b) r nn) a b nn)
section WK
variable {p : Program} {l : Launch} {e : Env} {R : Room} {s : State} {m : MethodId} {args : Array Value} {below : List Frame} {meth : Method} {c : Code} {H : Heap} {locs : List Loc} {cells slots : Nat} {Q : State → Prop}
variable {cc : ByteArray} {pc : Nat} {ls : Array Slot} {rest : List Value} {A : Nat → Prop} {D : va_G} {tys : List (ClassId × FieldType)} {ws : va_W}
theorem w_lcmpE {x : Int64} (hx : p.tables.exec = Jvm.exec) (hb : c.code = cc) (hd : decode cc pc = .ok (.lcmp, 1)) (k : W p l e R s m args below meth c H locs cells slots Q (F0 m (pc + 1) ls (.int 0 :: rest))) : W p l e R s m args below meth c H locs cells slots Q (F0 m pc ls (.long x :: .long x :: rest)) := by
  intro T hT X
  obtain ⟨t, a, b⟩ := k T hT X
  refine ⟨t, ?_, b⟩
  jvm_step X.here [X.here.top, hx, hb, hd]
  exact a
theorem w_sld {b L : Nat} {xs : Nat → Int32} (hx : p.tables.exec = Jvm.exec) (hb : c.code = cc) (hX : va_X b L xs s s.heap) (hbl : b < s.heap.size) (hbA : ¬ A b) (hS : va_S A s.heap H locs) (hL : L ≤ 2048) (k : Nat) {z : Int} {v : Int32} (hz : z = (k : Int)) (hk : k < L) (hv : xs k = v) (hd : decode cc pc = .ok (.iaload, 1))
    (kk : W p l e R s m args below meth c H locs cells slots Q (F0 m (pc + 1) ls (.int v :: rest))) : W p l e R s m args below meth c H locs cells slots Q (F0 m pc ls (.int (iI z) :: .ref b :: rest)) :=
  va_sld hx hb hX hbl hbA hS (iI_in hz hk (by omega)) hd (by rw [iI_cl hz (by omega), hv]; exact kk)
theorem w_lald {a : Nat} {f : Nat → Int64} {cJ : ClassId} {v : Int64} (hx : p.tables.exec = Jvm.exec) (hb : c.code = cc) (hK : va_K D vwCl tys s) (hP : va_P D vwCl ws H) (q0 t0 : Nat) (ha : ws[q0]? = some (a, .inl (cJ, 1, .inr (.inl f)))) (ht : tys[t0]? = some (cJ, .long)) (hv : f 0 = v) (hd : decode cc pc = .ok (.laload, 1))
    (kk : W p l e R s m args below meth c H locs cells slots Q (F0 m (pc + 1) ls (.long v :: rest))) : W p l e R s m args below meth c H locs cells slots Q (F0 m pc ls (.int (iI 0) :: .ref a :: rest)) :=
  va_lald hx hb hK hP q0 t0 ha ht (iI_in (k := 0) rfl (by decide) (by decide)) hd (by rw [show (iI 0).toNatClampNeg = 0 by decide +kernel, hv]; exact kk)
end WK
theorem tz_eq {t : Nat → Int} {nn mm w : Nat} (hn : nn ≤ 7) (hz : ∀ k, k < 35 → (nn ≤ k / 5 ∨ mm ≤ k % 5) → t k = 0) : tzm t w 35 = tzr t w nn 0 := by
  funext x
  unfold tzm tzr
  by_cases h1 : x < 35 ∧ w ≤ x % 5
  · rw [if_pos h1]
    by_cases h2 : w ≤ x % 5 ∧ (x / 5 < nn ∨ (x / 5 = nn ∧ x % 5 < w + 0))
    · rw [if_pos h2]
    · rw [if_neg h2, hz x h1.1 (by omega)]
  · rw [if_neg h1, if_neg (by omega)]
theorem tz_rg {t : Nat → Int} {nn w : Nat} (h : ∀ k, 0 ≤ t k ∧ t k ≤ 99) : ∀ k, 0 ≤ tzr t w nn 0 k ∧ tzr t w nn 0 k ≤ 99 := fun k => by
  have := h k
  unfold tzr
  split <;> omega
theorem tz_hz {t : Nat → Int} {nn mm w : Nat} (hz : ∀ k, k < 35 → (nn ≤ k / 5 ∨ mm ≤ k % 5) → t k = 0) : ∀ k, k < 35 → (nn ≤ k / 5 ∨ w ≤ k % 5) → tzr t w nn 0 k = 0 := fun k hk h => by
  unfold tzr
  by_cases h2 : w ≤ k % 5 ∧ (k / 5 < nn ∨ (k / 5 = nn ∧ k % 5 < w + 0))
  · rw [if_pos h2]
  · rw [if_neg h2, hz k hk (by omega)]
theorem tu_rg {t : Nat → Int} {a : Nat} {x : Int} (h : ∀ k, 0 ≤ t k ∧ t k ≤ 99) (hx : 0 ≤ x ∧ x ≤ 99) : ∀ k, 0 ≤ va_up t a x k ∧ va_up t a x k ≤ 99 := fun k => by
  have := h k
  unfold va_up
  split <;> omega
theorem tu_hz {t : Nat → Int} {nn mm j k0 : Nat} {x : Int} (hj : j < nn) (hk0 : k0 < mm) (hm : mm ≤ 5) (hz : ∀ k, k < 35 → (nn ≤ k / 5 ∨ mm ≤ k % 5) → t k = 0) : ∀ k, k < 35 → (nn ≤ k / 5 ∨ mm ≤ k % 5) → va_up t (5 * j + k0) x k = 0 := fun k hk h => by
  unfold va_up
  rw [if_neg (by omega)]
  exact hz k hk h
theorem isP_up {nn : Nat} {o : Nat → Nat} (h : IsP nn o) : IsP (nn + 1) (va_up o nn nn) := by
  refine ⟨fun k hk => ?_, fun i j hi hj => ?_⟩
  · unfold va_up
    by_cases hk2 : k = nn
    · rw [if_pos hk2]
      omega
    · rw [if_neg hk2]
      have := h.1 k (by omega)
      omega
  · unfold va_up
    by_cases h1 : i = nn
    · by_cases h2 : j = nn
      · exact fun _ => h1.trans h2.symm
      · rw [if_pos h1, if_neg h2]
        have := h.1 j (by omega)
        omega
    · by_cases h2 : j = nn
      · rw [if_neg h1, if_pos h2]
        have := h.1 i (by omega)
        omega
      · rw [if_neg h1, if_neg h2]
        exact h.2 i j (by omega) (by omega)
theorem eqn_upS {nn : Nat} {o o' : Nat → Nat} (h : eqn nn o o') : eqn (nn + 1) (va_up o nn nn) (va_up o' nn nn) := by
  intro k hk
  unfold va_up
  by_cases h1 : k = nn
  · rw [if_pos h1, if_pos h1]
  · rw [if_neg h1, if_neg h1]
    exact h k (by omega)
theorem isP_shf {nn : Nat} {o : Nat → Nat} {a b : Nat} (ha : a < nn) (hb : b < nn) (h : IsP nn o) : IsP nn (shf o a b) := by
  refine ⟨shf_lt ha hb h.1, fun i j hi hj => ?_⟩
  rw [nx_pos, nx_pos]
  intro e
  have key : ∀ u v, u < nn → v < nn → o u = o v → u = v := h.2
  by_cases i1 : i = b
  · by_cases j1 : j = b
    · omega
    · rw [if_pos i1, if_neg j1] at e
      by_cases j2 : a ≤ j ∧ j < b
      · rw [if_pos j2] at e
        have := key a (j + 1) ha (by omega) e
        omega
      · rw [if_neg j2] at e
        by_cases j3 : b < j ∧ j ≤ a
        · rw [if_pos j3] at e
          have := key a (j - 1) ha (by omega) e
          omega
        · rw [if_neg j3] at e
          have := key a j ha hj e
          omega
  · by_cases j1 : j = b
    · rw [if_neg i1, if_pos j1] at e
      by_cases i2 : a ≤ i ∧ i < b
      · rw [if_pos i2] at e
        have := key (i + 1) a (by omega) ha e
        omega
      · rw [if_neg i2] at e
        by_cases i3 : b < i ∧ i ≤ a
        · rw [if_pos i3] at e
          have := key (i - 1) a (by omega) ha e
          omega
        · rw [if_neg i3] at e
          have := key i a hi ha e
          omega
    · rw [if_neg i1, if_neg j1] at e
      by_cases i2 : a ≤ i ∧ i < b
      · rw [if_pos i2] at e
        by_cases j2 : a ≤ j ∧ j < b
        · rw [if_pos j2] at e
          have := key (i + 1) (j + 1) (by omega) (by omega) e
          omega
        · rw [if_neg j2] at e
          by_cases j3 : b < j ∧ j ≤ a
          · omega
          · rw [if_neg j3] at e
            have := key (i + 1) j (by omega) hj e
            omega
      · rw [if_neg i2] at e
        by_cases i3 : b < i ∧ i ≤ a
        · rw [if_pos i3] at e
          by_cases j2 : a ≤ j ∧ j < b
          · omega
          · rw [if_neg j2] at e
            by_cases j3 : b < j ∧ j ≤ a
            · rw [if_pos j3] at e
              have := key (i - 1) (j - 1) (by omega) (by omega) e
              omega
            · rw [if_neg j3] at e
              have := key (i - 1) j (by omega) hj e
              omega
        · rw [if_neg i3] at e
          by_cases j2 : a ≤ j ∧ j < b
          · rw [if_pos j2] at e
            have := key i (j + 1) hi (by omega) e
            omega
          · rw [if_neg j2] at e
            by_cases j3 : b < j ∧ j ≤ a
            · rw [if_pos j3] at e
              have := key i (j - 1) hi (by omega) e
              omega
            · rw [if_neg j3] at e
              exact key i j hi hj e
theorem tlr_cg {t : Nat → Int} {o o' : Nat → Nat} {nn mm : Nat} (h : eqn nn o o') : ∀ q, q ≤ nn → tlr t o nn mm q = tlr t o' nn mm q
  | 0, _ => rfl
  | q + 1, hq => by
    show (fun k => tlq (tlr t o nn mm q) (tj t (o (nn - 1 - q))) mm (mm - k)) = fun k => tlq (tlr t o' nn mm q) (tj t (o' (nn - 1 - q))) mm (mm - k)
    rw [tlr_cg h q (by omega), h (nn - 1 - q) (by omega)]
theorem toC_cg {t : Nat → Int} {o o' : Nat → Nat} {nn mm : Nat} (h : eqn nn o o') : ∀ c, c ≤ nn → toC t mm o c = toC t mm o' c
  | 0, _ => rfl
  | c + 1, hc => by
    show toC t mm o c + mk 0 mm t o (c + 1) = toC t mm o' c + mk 0 mm t o' (c + 1)
    rw [toC_cg h c (by omega), mk_cg (fun k hk => h k (by omega))]
theorem crt_cg {t : Nat → Int} {o o' : Nat → Nat} {nn mm q k : Nat} (h : eqn nn o o') (hq : q < nn) : crtV mm t o nn q k = crtV mm t o' nn q k := by
  unfold crtV
  rw [row_cg (c := q + 1) (fun k hk => h k (by omega)), tlr_cg h _ (by omega), h q hq, mk_cg h]
theorem idl_cg {v mm : Nat} {t : Nat → Int} {o o' : Nat → Nat} {nn k : Nat} (h : eqn nn o o') : idlV v mm t o nn k = idlV v mm t o' nn k := by
  unfold idlV
  by_cases h0 : nn = 0
  · rw [if_pos h0, if_pos h0]
  · rw [if_neg h0, if_neg h0, row_cg (c := nn) h, row_cg (c := 1) (fun k hk => h k (by omega))]
theorem bnd_0 {t : Nat → Int} {nn mm : Nat} (h0 : nn = 0) (hz : ∀ k, k < 35 → (nn ≤ k / 5 ∨ mm ≤ k % 5) → t k = 0) : ∀ fr to, to ≤ 5 → lsX t fr to (nn - 1) = 0 := by
  subst h0
  intro fr to hto
  show smC t 0 fr (to - fr) = 0
  have key : ∀ c, fr + c ≤ 5 ∨ c = 0 → smC t 0 fr c = 0 := by
    intro c
    induction c with
    | zero => exact fun _ => rfl
    | succ c ih =>
      intro hc
      show smC t 0 fr c + t (5 * 0 + (fr + c)) = 0
      rw [ih (by omega), hz (5 * 0 + (fr + c)) (by omega) (Or.inl (Nat.zero_le _))]
      rfl
  exact key _ (by omega)
theorem bnd_eq {t : Nat → Int} {nn mm fr to : Nat} (ht : ∀ k, 0 ≤ t k ∧ t k ≤ 99) (h1 : 1 ≤ nn) (hto : to ≤ 5) : lsM t fr to nn = lsX t fr to (nn - 1) := by
  have h := lsM_X ht (fr := fr) hto (nn - 1)
  rw [show nn - 1 + 1 = nn by omega] at h
  exact h
theorem mb_eq {t : Nat → Int} {nn mm k : Nat} (ht : ∀ k, 0 ≤ t k ∧ t k ≤ 99) (hz : ∀ k, k < 35 → (nn ≤ k / 5 ∨ mm ≤ k % 5) → t k = 0) (hm : mm ≤ 5) (hk : k < mm) : (if nn = 0 then 0 else lsM t 0 k nn + lsM t (k + 1) mm nn + ldC t k nn) = ldC t k nn + lsX t 0 k (nn - 1) + lsX t (k + 1) mm (nn - 1) := by
  by_cases h0 : nn = 0
  · rw [if_pos h0, bnd_0 h0 hz 0 k (by omega), bnd_0 h0 hz (k + 1) mm hm, h0]
    rfl
  · rw [if_neg h0, bnd_eq (mm := mm) ht (by omega) (by omega), bnd_eq (mm := mm) ht (by omega) hm]
    omega
theorem pl_cg {nn : Nat} {o o' : Nat → Nat} {q j : Nat} (h : eqn nn o o') (hq : q < nn) (hw : ∀ k, k < q → o k ≠ j) : ∀ k, k < q → o' k ≠ j := fun k hk => by
  rw [← h k (by omega)]
  exact hw k hk
theorem ovr_eq {nn : Nat} {f g h : Nat → Nat} (e : eqn nn h f) : eqn nn h (ovr f g nn) := fun k hk => (e k hk).trans (ovr_in hk).symm
