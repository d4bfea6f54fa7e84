/-! the best move is the best one -/
theorem stp_m {f : Nat → Nat → Int} {a b : Nat} {s : Int × Nat × Nat} : (stp f a b s).1 ≤ s.1 ∧ (stp f a b s).1 ≤ f a b ∧ (stp f a b s = s ∨ (stp f a b s).1 = f (stp f a b s).2.1 (stp f a b s).2.2) := by
  unfold stp
  by_cases c : f a b < s.1
  · rw [if_pos c]
    exact ⟨Int.le_of_lt c, Int.le_refl _, Or.inr rfl⟩
  · rw [if_neg c]
    exact ⟨Int.le_refl _, by omega, Or.inl rfl⟩
theorem inr_m {f : Nat → Nat → Int} {a : Nat} {s : Int × Nat × Nat} : ∀ j, (inr f a s j).1 ≤ s.1 ∧ (∀ b, b < j → (inr f a s j).1 ≤ f a b) ∧ (inr f a s j = s ∨ (inr f a s j).1 = f (inr f a s j).2.1 (inr f a s j).2.2)
  | 0 => ⟨Int.le_refl _, fun b h => absurd h (Nat.not_lt_zero _), Or.inl rfl⟩
  | j + 1 => by
    obtain ⟨h1, h2, h3⟩ := inr_m (f := f) (a := a) (s := s) j
    obtain ⟨k1, k2, k3⟩ := stp_m (f := f) (a := a) (b := j) (s := inr f a s j)
    have e : inr f a s (j + 1) = stp f a j (inr f a s j) := rfl
    rw [e]
    refine ⟨Int.le_trans k1 h1, fun b hb => ?_, ?_⟩
    · by_cases q : b = j
      · rw [q]
        exact k2
      · exact Int.le_trans k1 (h2 b (by omega))
    · rcases k3 with q | q
      · rw [q]
        exact h3
      · exact Or.inr q
theorem otr_m {f : Nat → Nat → Int} {n : Nat} {s : Int × Nat × Nat} : ∀ i, (otr f n s i).1 ≤ s.1 ∧ (∀ a b, a < i → b < n → (otr f n s i).1 ≤ f a b) ∧ (otr f n s i = s ∨ (otr f n s i).1 = f (otr f n s i).2.1 (otr f n s i).2.2)
  | 0 => ⟨Int.le_refl _, fun a b h => absurd h (Nat.not_lt_zero _), Or.inl rfl⟩
  | i + 1 => by
    obtain ⟨h1, h2, h3⟩ := otr_m (f := f) (n := n) (s := s) i
    obtain ⟨k1, k2, k3⟩ := inr_m (f := f) (a := i) (s := otr f n s i) n
    have e : otr f n s (i + 1) = inr f i (otr f n s i) n := rfl
    rw [e]
    refine ⟨Int.le_trans k1 h1, fun a b ha hb => ?_, ?_⟩
    · by_cases q : a = i
      · rw [q]
        exact k2 b hb
      · exact Int.le_trans k1 (h2 a b (by omega) hb)
    · rcases k3 with q | q
      · rw [q]
        exact h3
      · exact Or.inr q
theorem imp_le (t : Nat → Int) (mm : Nat) (o : Nat → Nat) (nn : Nat) : (imS t mm o nn nn).1 ≤ mk 0 mm t o nn := (otr_m (f := imF t mm o nn) (n := nn) (s := im0 t mm o nn) nn).1
theorem imp_min {t : Nat → Int} {mm : Nat} {o : Nat → Nat} {nn a b : Nat} (ha : a < nn) (hb : b < nn) : (imS t mm o nn nn).1 ≤ mk 0 mm t (shf o a b) nn := (otr_m (f := imF t mm o nn) (n := nn) (s := im0 t mm o nn) nn).2.1 a b ha hb
theorem imp_mk (t : Nat → Int) (mm : Nat) (o : Nat → Nat) (nn : Nat) : mk 0 mm t (impO t mm nn o) nn = (imS t mm o nn nn).1 := by
  obtain ⟨h1, h2, h3⟩ := otr_m (f := imF t mm o nn) (n := nn) (s := im0 t mm o nn) nn
  unfold impO
  by_cases c : (imS t mm o nn nn).1 < mk 0 mm t o nn
  · rw [if_pos c]
    rcases h3 with q | q
    · have e : (imS t mm o nn nn).1 = mk 0 mm t o nn := congrArg Prod.fst q
      omega
    · exact q.symm
  · rw [if_neg c]
    have := imp_le t mm o nn
    omega
theorem imp_P {t : Nat → Int} {mm nn : Nat} {o : Nat → Nat} (ht : ∀ k, 0 ≤ t k ∧ t k ≤ 99) (hn : nn ≤ 7) (hm : 1 ≤ mm ∧ mm ≤ 5) (ho : IsP nn o) : IsP nn (impO t mm nn o) := (imp_ok t mm nn o o ht hn hm (fun _ _ => rfl) ho).2.2
/-- no move helps a best order -/
theorem imp_best {t : Nat → Int} {mm nn : Nat} {o : Nat → Nat} (ht : ∀ k, 0 ≤ t k ∧ t k ≤ 99) (hn : nn ≤ 7) (hm : 1 ≤ mm ∧ mm ≤ 5) (ho : IsP nn o) (h : mk 0 mm t o nn = (sol 0 mm t nn).1) : (imS t mm o nn nn).1 = mk 0 mm t o nn := by
  have h1 := sol_le (v := 0) (mm := mm) (t := t) hn (imp_P ht hn hm ho)
  rw [imp_mk] at h1
  have h2 := imp_le t mm o nn
  omega
/-- one improvement behind another -/
def imI (t : Nat → Int) (mm nn : Nat) (o : Nat → Nat) : Nat → Nat → Nat
  | 0 => o
  | i + 1 => impO t mm nn (imI t mm nn o i)
theorem imI_P {t : Nat → Int} {mm nn : Nat} {o : Nat → Nat} (ht : ∀ k, 0 ≤ t k ∧ t k ≤ 99) (hn : nn ≤ 7) (hm : 1 ≤ mm ∧ mm ≤ 5) (ho : IsP nn o) : ∀ i, IsP nn (imI t mm nn o i)
  | 0 => ho
  | i + 1 => imp_P ht hn hm (imI_P ht hn hm ho i)
def imM (t : Nat → Int) (mm nn : Nat) (o : Nat → Nat) (i : Nat) : Int := mk 0 mm t (imI t mm nn o i) nn
/-- the first L improvements each made it better -/
def imC (t : Nat → Int) (mm nn : Nat) (o : Nat → Nat) (L : Nat) : Prop := ∀ i, i < L → imM t mm nn o (i + 1) < imM t mm nn o i
theorem imM_s {t : Nat → Int} {mm nn : Nat} {o : Nat → Nat} (i : Nat) : imM t mm nn o (i + 1) = (imS t mm (imI t mm nn o i) nn nn).1 := imp_mk t mm (imI t mm nn o i) nn
theorem imC_lt {t : Nat → Int} {mm nn : Nat} {o : Nat → Nat} {L : Nat} (h : imC t mm nn o L) {i : Nat} : ∀ d, i + (d + 1) ≤ L → imM t mm nn o (i + (d + 1)) < imM t mm nn o i
  | 0, hd => h i (by omega)
  | d + 1, hd => by
    have h1 := imC_lt h (i := i) d (by omega)
    have h2 := h (i + (d + 1)) (by omega)
    have e : i + (d + 1 + 1) = i + (d + 1) + 1 := rfl
    rw [e]
    omega
/-- no later order is one move away from an earlier one, but the next -/
theorem imC_far {t : Nat → Int} {mm nn : Nat} {o : Nat → Nat} {L : Nat} (h : imC t mm nn o L) {i j a b : Nat} (hij : i + 1 < j) (hj : j ≤ L) (ha : a < nn) (hb : b < nn) : ¬ eqn nn (shf (imI t mm nn o i) a b) (imI t mm nn o j) := by
  intro e
  have h1 := imC_lt h (i := i + 1) (j - (i + 1) - 1) (by omega)
  rw [show i + 1 + (j - (i + 1) - 1 + 1) = j by omega] at h1
  have h2 := imp_min (t := t) (mm := mm) (o := imI t mm nn o i) ha hb
  rw [← imM_s, mk_cg e] at h2
  have h3 : imM t mm nn o j = mk 0 mm t (imI t mm nn o j) nn := rfl
  omega
theorem imC_ne {t : Nat → Int} {mm nn : Nat} {o : Nat → Nat} {L : Nat} (h : imC t mm nn o L) {i j : Nat} (hij : i < j) (hj : j ≤ L) : ¬ eqn nn (imI t mm nn o i) (imI t mm nn o j) := by
  intro e
  have h1 := imC_lt h (i := i) (j - i - 1) (by omega)
  rw [show i + (j - i - 1 + 1) = j by omega] at h1
  have h2 : imM t mm nn o i = imM t mm nn o j := mk_cg e
  omega
/-! how many there can be -/
theorem php : ∀ (N n : Nat) (f : Nat → Nat), (∀ i, i < n → f i < N) → (∀ i j, i < n → j < n → f i = f j → i = j) → n ≤ N
  | 0, n, f, h, _ => by
    rcases Nat.eq_zero_or_pos n with q | q
    · omega
    · exact absurd (h 0 q) (Nat.not_lt_zero _)
  | N + 1, n, f, h, hi => by
    rcases Nat.eq_zero_or_pos n with q | q
    · omega
    · obtain ⟨m, rfl⟩ : ∃ m, n = m + 1 := ⟨n - 1, by omega⟩
      have ih := php N m (fun i => if f i = N then f m else f i) (fun i hi2 => ?_) (fun i j hi2 hj2 e => ?_)
      · omega
      · show (if f i = N then f m else f i) < N
        have h1 := h i (by omega)
        have h2 := h m (by omega)
        by_cases c : f i = N
        · rw [if_pos c]
          have : f m ≠ N := fun e => by
            have := hi i m (by omega) (by omega) (c.trans e.symm)
            omega
          omega
        · rw [if_neg c]
          omega
      · have e2 : (if f i = N then f m else f i) = if f j = N then f m else f j := e
        by_cases c1 : f i = N
        · by_cases c2 : f j = N
          · exact hi i j (by omega) (by omega) (c1.trans c2.symm)
          · rw [if_pos c1, if_neg c2] at e2
            have := hi m j (by omega) (by omega) e2
            omega
        · by_cases c2 : f j = N
          · rw [if_neg c1, if_pos c2] at e2
            have := hi i m (by omega) (by omega) e2
            omega
          · rw [if_neg c1, if_neg c2] at e2
            exact hi i j (by omega) (by omega) e2
/-- so many orders, no two the same -/
theorem php_P {nn n : Nat} (hn : nn ≤ 7) (F : Nat → Nat → Nat) (h : ∀ i, i < n → IsP nn (F i)) (hi : ∀ i j, i < j → j < n → ¬ eqn nn (F i) (F j)) : n ≤ fac nn := by
  have hy : ∀ i, ∃ y, i < n → y < fac nn ∧ eqn nn (sq nId nn y) (F i) := fun i => by
    by_cases c : i < n
    · obtain ⟨y, h1, h2⟩ := run_mem hn (h i c)
      exact ⟨y, fun _ => ⟨h1, h2⟩⟩
    · exact ⟨0, fun q => absurd q c⟩
  refine php (fac nn) n (fun i => Classical.choose (hy i)) (fun i hl => (Classical.choose_spec (hy i) hl).1) (fun i j hl hl2 e => ?_)
  have e2 : Classical.choose (hy i) = Classical.choose (hy j) := e
  have h1 := (Classical.choose_spec (hy i) hl).2
  have h2 := (Classical.choose_spec (hy j) hl2).2
  rw [e2] at h1
  rcases Nat.lt_trichotomy i j with q | q | q
  · exact absurd (fun k hk => (h1 k hk).symm.trans (h2 k hk)) (hi i j q hl2)
  · exact q
  · exact absurd (fun k hk => (h2 k hk).symm.trans (h1 k hk)) (hi j i q hl)
