/-! rows for the search -/
def zfl (f : Nat → Int) (i : Nat) : Nat → Int := fun k => if k < i then 0 else f k
theorem zfl_0 (f : Nat → Int) : zfl f 0 = f := by
  funext k
  unfold zfl
  rw [if_neg (by omega)]
theorem zfl_s {f : Nat → Int} {i : Nat} : va_up (zfl f i) i 0 = zfl f (i + 1) := by
  funext k
  unfold va_up zfl
  by_cases h : k = i
  · subst h
    rw [if_pos rfl, if_pos (by omega)]
  · rw [if_neg h]
    by_cases h2 : k < i
    · rw [if_pos h2, if_pos (by omega)]
    · rw [if_neg h2, if_neg (by omega)]
theorem pvt_y {r : Nat → Nat} {c : Nat} (h0 : 0 < c) (h : r (c - 1) ≤ r c) : pvt r c = c := by
  obtain ⟨q, rfl⟩ : ∃ q, c = q + 1 := ⟨c - 1, by omega⟩
  rw [Nat.add_sub_cancel] at h
  rw [pvt, if_pos h]
theorem pvt_n {r : Nat → Nat} {c : Nat} (h0 : 0 < c) (h : r c < r (c - 1)) : pvt r c = pvt r (c - 1) := by
  obtain ⟨q, rfl⟩ : ∃ q, c = q + 1 := ⟨c - 1, by omega⟩
  rw [Nat.add_sub_cancel] at h ⊢
  rw [pvt, if_neg (by omega)]
theorem ptn_y1 {r : Nat → Nat} {P c : Nat} (h : c ≤ P + 1) : ptn r P c = c := by
  cases c with
  | zero => rfl
  | succ c => rw [ptn, if_pos h]
theorem ptn_y2 {r : Nat → Nat} {P c : Nat} (h : r P ≤ r c) : ptn r P c = c := by
  cases c with
  | zero => rfl
  | succ c =>
    rw [ptn]
    by_cases h2 : c + 1 ≤ P + 1
    · rw [if_pos h2]
    · rw [if_neg h2, if_pos h]
theorem ptn_n {r : Nat → Nat} {P c : Nat} (h1 : P + 1 < c) (h : r c < r P) : ptn r P c = ptn r P (c - 1) := by
  obtain ⟨q, rfl⟩ : ∃ q, c = q + 1 := ⟨c - 1, by omega⟩
  rw [Nat.add_sub_cancel, ptn, if_neg (by omega), if_neg (by omega)]
/-- makespans of the orders one behind another -/
def gsq (v mm : Nat) (t : Nat → Int) (r : Nat → Nat) (nn i : Nat) : Int := mk v mm t (sq r nn i) nn
theorem gsq_rg {v mm : Nat} {t : Nat → Int} {r : Nat → Nat} {nn : Nat} (hm : 1 ≤ mm ∧ mm ≤ 5) (ht : ∀ k, 0 ≤ t k ∧ t k ≤ 99) (hn : nn ≤ 7) : ∀ i, 0 ≤ gsq v mm t r nn i ∧ gsq v mm t r nn i ≤ 3465 := fun i => mk_rg hm.1 hm.2 ht hn
/-- what is kept of the first y orders -/
def BS (v nn : Nat) (zM zN : Nat → Int) (oJ r : Nat → Nat) (g : Nat → Int) (y : Nat) (M N : Nat → Int) (J : Nat → Nat) : Prop :=
  (∀ x, x ≠ v → M x = zM x) ∧ (∀ x, x ≠ v → N x = zN x) ∧ (0 < y → M v = (bst g y).1) ∧ N v = ((bst g y).2.1 : Int) ∧ (0 < y → ∀ k, k < nn → J (7 * v + k) = sq r nn (bst g y).2.2 k) ∧ ∀ k, (k < 7 * v ∨ 7 * v + nn ≤ k) → J k = oJ k
theorem BS_0 {v nn : Nat} {zM zN : Nat → Int} {oJ r : Nat → Nat} {g : Nat → Int} : BS v nn zM zN oJ r g 0 zM (va_up zN v 0) oJ :=
  ⟨fun _ _ => rfl, fun x hx => if_neg hx, fun h => absurd h (Nat.lt_irrefl _), if_pos rfl, fun h => absurd h (Nat.lt_irrefl _), fun _ _ => rfl⟩
theorem bst_pos {g : Nat → Int} : ∀ {i : Nat}, 0 < i → 0 < (bst g i).2.1
  | i + 1, _ => by
    unfold bst
    split
    · exact Nat.one_pos
    · rename_i h
      split
      · exact Nat.succ_pos _
      · exact Nat.pos_of_ne_zero (fun q => h (Or.inl q))
theorem BS_A {v nn : Nat} {zM zN : Nat → Int} {oJ r : Nat → Nat} {g : Nat → Int} {y : Nat} {M N : Nat → Int} {J : Nat → Nat} (h : BS v nn zM zN oJ r g y M N J) (hC : N v = 0 ∨ g y < M v) : BS v nn zM zN oJ r g (y + 1) (va_up M v (g y)) (va_up (va_up N v 0) v 1) (va_cpy (sq r nn y) J 0 (7 * v) nn) := by
  obtain ⟨h1, h2, h3, h4, h5, h6⟩ := h
  have hC2 : (bst g y).2.1 = 0 ∨ g y < (bst g y).1 := by
    rcases Nat.eq_zero_or_pos y with q | q
    · subst q
      exact Or.inl rfl
    · have := h3 q
      rcases hC with c | c
      · exact Or.inl (by omega)
      · exact Or.inr (by omega)
  have e : bst g (y + 1) = (g y, 1, y) := by rw [bst, if_pos hC2]
  refine ⟨fun x hx => ?_, fun x hx => ?_, fun _ => ?_, ?_, fun _ k hk => ?_, fun k hk => ?_⟩
  · exact (if_neg hx).trans (h1 x hx)
  · exact (if_neg hx).trans ((if_neg hx).trans (h2 x hx))
  · rw [e]
    exact if_pos rfl
  · rw [e]
    exact if_pos rfl
  · rw [e]
    unfold va_cpy
    rw [if_pos (by omega), show 0 + (7 * v + k - 7 * v) = k by omega]
  · unfold va_cpy
    rw [if_neg (by omega)]
    exact h6 k hk
theorem BS_B {v nn : Nat} {zM zN : Nat → Int} {oJ r : Nat → Nat} {g : Nat → Int} {y : Nat} {M N : Nat → Int} {J : Nat → Nat} (h : BS v nn zM zN oJ r g y M N J) (hC : ¬ (N v = 0 ∨ g y < M v)) : BS v nn zM zN oJ r g (y + 1) M (if g y = M v then va_up N v (N v + 1) else N) J := by
  obtain ⟨h1, h2, h3, h4, h5, h6⟩ := h
  have hy : 0 < y := by
    rcases Nat.eq_zero_or_pos y with q | q
    · subst q
      exact absurd (Or.inl h4) hC
    · exact q
  have h3' := h3 hy
  have hC2 : ¬ ((bst g y).2.1 = 0 ∨ g y < (bst g y).1) := fun q => hC (q.elim (fun a => Or.inl (by omega)) (fun a => Or.inr (by omega)))
  by_cases hq : g y = M v
  · have e : bst g (y + 1) = ((bst g y).1, (bst g y).2.1 + 1, (bst g y).2.2) := by rw [bst, if_neg hC2, if_pos (by omega)]
    rw [if_pos hq]
    refine ⟨h1, fun x hx => (if_neg hx).trans (h2 x hx), fun _ => by rw [e]; exact h3', ?_, fun _ k hk => by rw [e]; exact h5 hy k hk, h6⟩
    rw [e]
    refine (if_pos rfl).trans ?_
    simp only
    omega
  · have e : bst g (y + 1) = bst g y := by rw [bst, if_neg hC2, if_neg (by omega)]
    rw [if_neg hq]
    exact ⟨h1, h2, fun _ => by rw [e]; exact h3', by rw [e]; exact h4, fun _ k hk => by rw [e]; exact h5 hy k hk, h6⟩
