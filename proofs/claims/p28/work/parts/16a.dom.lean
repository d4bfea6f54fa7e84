/-! the three variants: none ends sooner than the one ahead of it -/
theorem mom_le {v w mm : Nat} {t b e b' e' : Nat → Int} {m0 m1 : Int} (h0 : m0 ≤ m1) (h : ∀ k, k < mm → frm v mm b e k ≤ frm w mm b' e' k) : ∀ k, k ≤ mm → mom v mm t b e m0 k ≤ mom w mm t b' e' m1 k
  | 0, _ => h0
  | k + 1, hk => by
    have h1 := mom_le (t := t) h0 h k (by omega)
    have h2 := h k (by omega)
    show max (mom v mm t b e m0 k) (frm v mm b e k) + t k ≤ max (mom w mm t b' e' m1 k) (frm w mm b' e' k) + t k
    omega
theorem row_1 {v mm : Nat} {t : Nat → Int} {o : Nat → Nat} {p k : Nat} : (row v mm t o (p + 1)).1 k = max (mom v mm (tj t (o p)) (row v mm t o p).1 (row v mm t o p).2 (m0v v mm (tj t (o p)) (row v mm t o p).2) k) (frm v mm (row v mm t o p).1 (row v mm t o p).2 k) := rfl
theorem row_2 {v mm : Nat} {t : Nat → Int} {o : Nat → Nat} {p k : Nat} : (row v mm t o (p + 1)).2 k = mom v mm (tj t (o p)) (row v mm t o p).1 (row v mm t o p).2 (m0v v mm (tj t (o p)) (row v mm t o p).2) (k + 1) := rfl
theorem row_lag (v mm : Nat) (t : Nat → Int) (o : Nat → Nat) : ∀ p k, (row v mm t o p).2 k ≤ (row v mm t o p).1 (k + 1)
  | 0, _ => Int.le_refl _
  | p + 1, k => by
    rw [row_1, row_2]
    omega
theorem row_dom {v w mm : Nat} {t : Nat → Int} {o : Nat → Nat} {p : Nat} (h0 : m0v v mm (tj t (o p)) (row v mm t o p).2 ≤ m0v w mm (tj t (o p)) (row w mm t o p).2)
    (hf : ∀ k, k < mm → frm v mm (row v mm t o p).1 (row v mm t o p).2 k ≤ frm w mm (row w mm t o p).1 (row w mm t o p).2 k) : ∀ k, k < mm → (row v mm t o (p + 1)).1 k ≤ (row w mm t o (p + 1)).1 k ∧ (row v mm t o (p + 1)).2 k ≤ (row w mm t o (p + 1)).2 k := fun k hk => by
  have h1 := mom_le (t := tj t (o p)) h0 hf k (by omega)
  have h2 := mom_le (t := tj t (o p)) h0 hf (k + 1) (by omega)
  have h3 := hf k hk
  refine ⟨?_, h2⟩
  have e1 := row_1 (v := v) (mm := mm) (t := t) (o := o) (p := p) (k := k)
  have e2 := row_1 (v := w) (mm := mm) (t := t) (o := o) (p := p) (k := k)
  omega
theorem row_01 {mm : Nat} {t : Nat → Int} {o : Nat → Nat} : ∀ p k, k < mm → (row 0 mm t o p).1 k ≤ (row 1 mm t o p).1 k ∧ (row 0 mm t o p).2 k ≤ (row 1 mm t o p).2 k
  | 0, _, _ => ⟨Int.le_refl _, Int.le_refl _⟩
  | p + 1, k, hk => by
    have ih := row_01 (mm := mm) (t := t) (o := o) p
    refine row_dom ?_ (fun k hk => ?_) k hk
    · unfold m0v
      rw [if_neg (by decide), if_neg (by decide)]
      exact Int.le_refl _
    · have h1 := (ih k hk).2
      have h2 := row_lag 1 mm t o p k
      unfold frm
      rw [if_neg (by omega)]
      split
      · omega
      · exact h1
theorem row_nw {mm : Nat} {t : Nat → Int} {o : Nat → Nat} : ∀ p k, k + 1 < mm → (row 2 mm t o p).1 (k + 1) = (row 2 mm t o p).2 k
  | 0, _, _ => rfl
  | p + 1, k, hk => by
    have hz : ∀ k, k < mm → (row 2 mm t o p).2 k - wyC (tj t (o p)) k ≤ m0v 2 mm (tj t (o p)) (row 2 mm t o p).2 := fun k hk => by
      unfold m0v
      rw [if_pos rfl]
      exact stC_ge hk
    have h1 := mom_z (b := (row 2 mm t o p).1) hz (k + 1) (by omega)
    have h2 := hz (k + 1) hk
    rw [row_1, row_2, frm_2]
    omega
theorem row_12 {mm : Nat} {t : Nat → Int} {o : Nat → Nat} : ∀ p k, k < mm → (row 1 mm t o p).1 k ≤ (row 2 mm t o p).1 k ∧ (row 1 mm t o p).2 k ≤ (row 2 mm t o p).2 k
  | 0, _, _ => ⟨Int.le_refl _, Int.le_refl _⟩
  | p + 1, k, hk => by
    have ih := row_12 (mm := mm) (t := t) (o := o) p
    refine row_dom ?_ (fun k hk => ?_) k hk
    · unfold m0v
      rw [if_neg (by decide), if_pos rfl]
      exact stC_mono mm 0 (Nat.zero_le _)
    · rw [frm_2]
      unfold frm
      by_cases h : 1 = 1 ∧ k + 1 < mm
      · rw [if_pos h]
        have h1 := (ih (k + 1) h.2).1
        have h2 := row_nw (t := t) (o := o) p k h.2
        omega
      · rw [if_neg h]
        exact (ih k hk).2
theorem mk_01 {mm : Nat} {t : Nat → Int} {o : Nat → Nat} {c : Nat} (h : 1 ≤ mm) : mk 0 mm t o c ≤ mk 1 mm t o c := (row_01 c (mm - 1) (by omega)).2
theorem mk_12 {mm : Nat} {t : Nat → Int} {o : Nat → Nat} {c : Nat} (h : 1 ≤ mm) : mk 1 mm t o c ≤ mk 2 mm t o c := (row_12 c (mm - 1) (by omega)).2
/-! what the search finds is the least -/
theorem bst_at {g : Nat → Int} : ∀ i, (0 < i → g (bst g i).2.2 = (bst g i).1 ∧ (bst g i).2.2 < i) ∧ ∀ y, y < i → (bst g i).1 ≤ g y
  | 0 => ⟨fun h => absurd h (Nat.lt_irrefl _), fun y h => absurd h (Nat.not_lt_zero _)⟩
  | i + 1 => by
    obtain ⟨h1, h2⟩ := bst_at (g := g) i
    have e : bst g (i + 1) = if (bst g i).2.1 = 0 ∨ g i < (bst g i).1 then (g i, 1, i) else if g i = (bst g i).1 then ((bst g i).1, (bst g i).2.1 + 1, (bst g i).2.2) else bst g i := rfl
    by_cases hi : i = 0
    · subst hi
      have e : bst g (0 + 1) = (g 0, 1, 0) := if_pos (Or.inl rfl)
      rw [e]
      exact ⟨fun _ => ⟨rfl, Nat.one_pos⟩, fun y hy => by rw [show y = 0 by omega]; exact Int.le_refl _⟩
    · have hp := bst_pos (g := g) (i := i) (by omega)
      have h1 := h1 (by omega)
      rw [e]
      by_cases c : (bst g i).2.1 = 0 ∨ g i < (bst g i).1
      · rw [if_pos c]
        have c2 : g i < (bst g i).1 := c.elim (fun q => absurd q (by omega)) id
        refine ⟨fun _ => ⟨rfl, Nat.lt_succ_self _⟩, fun y hy => ?_⟩
        show g i ≤ g y
        by_cases e : y = i
        · rw [e]
          exact Int.le_refl _
        · have := h2 y (by omega)
          omega
      · rw [if_neg c]
        have c2 : ¬ g i < (bst g i).1 := fun q => c (Or.inr q)
        have key : ∀ y, y < i + 1 → (bst g i).1 ≤ g y := fun y hy => by
          by_cases e : y = i
          · rw [e]
            omega
          · exact h2 y (by omega)
        by_cases c3 : g i = (bst g i).1
        · rw [if_pos c3]
          exact ⟨fun _ => ⟨h1.1, Nat.lt_succ_of_lt h1.2⟩, key⟩
        · rw [if_neg c3]
          exact ⟨fun _ => ⟨h1.1, Nat.lt_succ_of_lt h1.2⟩, key⟩
theorem isP_nId (nn : Nat) : IsP nn nId := ⟨fun _ hk => hk, fun _ _ _ _ e => e⟩
theorem sol_le {v mm : Nat} {t : Nat → Int} {nn : Nat} {o : Nat → Nat} (hn : nn ≤ 7) (ho : IsP nn o) : (sol v mm t nn).1 ≤ mk v mm t o nn := by
  obtain ⟨y, hy, e⟩ := run_mem hn ho
  have h := (bst_at (g := gsq v mm t nId nn) (fac nn)).2 y hy
  have e2 : gsq v mm t nId nn y = mk v mm t o nn := mk_cg e
  rw [e2] at h
  exact h
theorem sol_at {v mm : Nat} {t : Nat → Int} {nn : Nat} (hn : nn ≤ 7) : IsP nn (solJ v mm t nn) ∧ mk v mm t (solJ v mm t nn) nn = (sol v mm t nn).1 :=
  ⟨isP_sq (isP_nId nn) _, ((bst_at (g := gsq v mm t nId nn) (fac nn)).1 (fac_le hn).1).1⟩
theorem sol_lt {v mm : Nat} {t : Nat → Int} {nn : Nat} (hn : nn ≤ 7) : (sol v mm t nn).2.2 < fac nn := ((bst_at (g := gsq v mm t nId nn) (fac nn)).1 (fac_le hn).1).2
theorem sol_01 {mm : Nat} {t : Nat → Int} {nn : Nat} (h : 1 ≤ mm) (hn : nn ≤ 7) : (sol 0 mm t nn).1 ≤ (sol 1 mm t nn).1 := by
  have h1 := sol_at (v := 1) (mm := mm) (t := t) hn
  have h2 := sol_le (v := 0) (mm := mm) (t := t) hn h1.1
  have h3 := mk_01 (t := t) (o := solJ 1 mm t nn) (c := nn) h
  omega
theorem sol_12 {mm : Nat} {t : Nat → Int} {nn : Nat} (h : 1 ≤ mm) (hn : nn ≤ 7) : (sol 1 mm t nn).1 ≤ (sol 2 mm t nn).1 := by
  have h1 := sol_at (v := 2) (mm := mm) (t := t) hn
  have h2 := sol_le (v := 1) (mm := mm) (t := t) hn h1.1
  have h3 := mk_12 (t := t) (o := solJ 2 mm t nn) (c := nn) h
  omega
