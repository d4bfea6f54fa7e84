/-! orders -/
def IsP (nn : Nat) (o : Nat → Nat) : Prop := (∀ k, k < nn → o k < nn) ∧ ∀ i j, i < nn → j < nn → o i = o j → i = j
theorem tz_rg {t : Nat → Int} {nn w : Nat} (h : ∀ k, 0 ≤ t k ∧ t k ≤ 99) : ∀ k, 0 ≤ tzr t w nn 0 k ∧ tzr t w nn 0 k ≤ 99 := fun k => by
  have := h k
  unfold tzr
  split <;> omega
theorem tu_rg {t : Nat → Int} {a : Nat} {x : Int} (h : ∀ k, 0 ≤ t k ∧ t k ≤ 99) (hx : 0 ≤ x ∧ x ≤ 99) : ∀ k, 0 ≤ va_up t a x k ∧ va_up t a x k ≤ 99 := fun k => by
  have := h k
  unfold va_up
  split <;> omega
theorem isP_up {nn : Nat} {o : Nat → Nat} (h : IsP nn o) : IsP (nn + 1) (va_up o nn nn) := by
  refine ⟨fun k hk => ?_, fun i j hi hj => ?_⟩
  · unfold va_up
    by_cases hk2 : k = nn
    · rw [if_pos hk2]
      omega
    · rw [if_neg hk2]
      have := h.1 k (by omega)
      omega
  · unfold va_up
    by_cases h1 : i = nn
    · by_cases h2 : j = nn
      · exact fun _ => h1.trans h2.symm
      · rw [if_pos h1, if_neg h2]
        have := h.1 j (by omega)
        omega
    · by_cases h2 : j = nn
      · rw [if_neg h1, if_pos h2]
        have := h.1 i (by omega)
        omega
      · rw [if_neg h1, if_neg h2]
        exact h.2 i j (by omega) (by omega)
theorem isP_shf {nn : Nat} {o : Nat → Nat} {a b : Nat} (ha : a < nn) (hb : b < nn) (h : IsP nn o) : IsP nn (shf o a b) := by
  refine ⟨shf_lt ha hb h.1, fun i j hi hj => ?_⟩
  rw [nx_pos, nx_pos]
  intro e
  have key : ∀ u v, u < nn → v < nn → o u = o v → u = v := h.2
  by_cases i1 : i = b
  · by_cases j1 : j = b
    · omega
    · rw [if_pos i1, if_neg j1] at e
      by_cases j2 : a ≤ j ∧ j < b
      · rw [if_pos j2] at e
        have := key a (j + 1) ha (by omega) e
        omega
      · rw [if_neg j2] at e
        by_cases j3 : b < j ∧ j ≤ a
        · rw [if_pos j3] at e
          have := key a (j - 1) ha (by omega) e
          omega
        · rw [if_neg j3] at e
          have := key a j ha hj e
          omega
  · by_cases j1 : j = b
    · rw [if_neg i1, if_pos j1] at e
      by_cases i2 : a ≤ i ∧ i < b
      · rw [if_pos i2] at e
        have := key (i + 1) a (by omega) ha e
        omega
      · rw [if_neg i2] at e
        by_cases i3 : b < i ∧ i ≤ a
        · rw [if_pos i3] at e
          have := key (i - 1) a (by omega) ha e
          omega
        · rw [if_neg i3] at e
          have := key i a hi ha e
          omega
    · rw [if_neg i1, if_neg j1] at e
      by_cases i2 : a ≤ i ∧ i < b
      · rw [if_pos i2] at e
        by_cases j2 : a ≤ j ∧ j < b
        · rw [if_pos j2] at e
          have := key (i + 1) (j + 1) (by omega) (by omega) e
          omega
        · rw [if_neg j2] at e
          by_cases j3 : b < j ∧ j ≤ a
          · omega
          · rw [if_neg j3] at e
            have := key (i + 1) j (by omega) hj e
            omega
      · rw [if_neg i2] at e
        by_cases i3 : b < i ∧ i ≤ a
        · rw [if_pos i3] at e
          by_cases j2 : a ≤ j ∧ j < b
          · omega
          · rw [if_neg j2] at e
            by_cases j3 : b < j ∧ j ≤ a
            · rw [if_pos j3] at e
              have := key (i - 1) (j - 1) (by omega) (by omega) e
              omega
            · rw [if_neg j3] at e
              have := key (i - 1) j (by omega) hj e
              omega
        · rw [if_neg i3] at e
          by_cases j2 : a ≤ j ∧ j < b
          · rw [if_pos j2] at e
            have := key i (j + 1) hi (by omega) e
            omega
          · rw [if_neg j2] at e
            by_cases j3 : b < j ∧ j ≤ a
            · rw [if_pos j3] at e
              have := key i (j - 1) hi (by omega) e
              omega
            · rw [if_neg j3] at e
              exact key i j hi hj e
theorem isP_surj : ∀ (nn : Nat) (o : Nat → Nat), IsP nn o → ∀ j, j < nn → ∃ q, q < nn ∧ o q = j
  | 0, _, _ => fun j hj => absurd hj (Nat.not_lt_zero _)
  | n + 1, o, h => by
    have ih := isP_surj n (fun k => if o k = n then o n else o k)
    by_cases hv : o n = n
    · have h2 : IsP n (fun k => if o k = n then o n else o k) := by
        have key : ∀ k, k < n → o k ≠ n := fun k hk e => by
          have := h.2 k n (by omega) (by omega) (e.trans hv.symm)
          omega
        refine ⟨fun k hk => ?_, fun i j hi hj e => ?_⟩
        · show (if o k = n then o n else o k) < n
          rw [if_neg (key k hk)]
          have := h.1 k (by omega)
          have := key k hk
          omega
        · have e2 : (if o i = n then o n else o i) = if o j = n then o n else o j := e
          rw [if_neg (key i hi), if_neg (key j hj)] at e2
          exact h.2 i j (by omega) (by omega) e2
      intro j hj
      by_cases hjn : j = n
      · exact ⟨n, by omega, hv.trans hjn.symm⟩
      · obtain ⟨q, hq, e⟩ := ih h2 j (by omega)
        have e2 : (if o q = n then o n else o q) = j := e
        by_cases c : o q = n
        · rw [if_pos c] at e2
          omega
        · rw [if_neg c] at e2
          exact ⟨q, by omega, e2⟩
    · have hvl : o n < n := by
        have := h.1 n (by omega)
        omega
      have h2 : IsP n (fun k => if o k = n then o n else o k) := by
        refine ⟨fun k hk => ?_, fun i j hi hj e => ?_⟩
        · show (if o k = n then o n else o k) < n
          split
          · exact hvl
          · have := h.1 k (by omega)
            omega
        · have e2 : (if o i = n then o n else o i) = if o j = n then o n else o j := e
          by_cases c1 : o i = n
          · by_cases c2 : o j = n
            · exact h.2 i j (by omega) (by omega) (c1.trans c2.symm)
            · rw [if_pos c1, if_neg c2] at e2
              have := h.2 n j (by omega) (by omega) e2
              omega
          · by_cases c2 : o j = n
            · rw [if_neg c1, if_pos c2] at e2
              have := h.2 i n (by omega) (by omega) e2
              omega
            · rw [if_neg c1, if_neg c2] at e2
              exact h.2 i j (by omega) (by omega) e2
      intro j hj
      by_cases hjv : j = o n
      · exact ⟨n, by omega, hjv.symm⟩
      · by_cases hjn : j = n
        · obtain ⟨q, hq, e⟩ := ih h2 (o n) hvl
          have e2 : (if o q = n then o n else o q) = o n := e
          by_cases c : o q = n
          · exact ⟨q, by omega, c.trans hjn.symm⟩
          · rw [if_neg c] at e2
            have := h.2 q n (by omega) (by omega) e2
            omega
        · obtain ⟨q, hq, e⟩ := ih h2 j (by omega)
          have e2 : (if o q = n then o n else o q) = j := e
          by_cases c : o q = n
          · rw [if_pos c] at e2
            omega
          · rw [if_neg c] at e2
            exact ⟨q, by omega, e2⟩
