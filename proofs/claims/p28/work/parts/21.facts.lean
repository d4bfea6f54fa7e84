/-! what the law's walk asks -/
theorem imM_rg {t : Nat → Int} {mm nn : Nat} {o : Nat → Nat} (hm : 1 ≤ mm ∧ mm ≤ 5) (ht : ∀ k, 0 ≤ t k ∧ t k ≤ 99) (hn : nn ≤ 7) (i : Nat) : 0 ≤ imM t mm nn o i ∧ imM t mm nn o i ≤ 3465 := mk_rg hm.1 hm.2 ht hn
theorem imM_dn (t : Nat → Int) (mm nn : Nat) (o : Nat → Nat) (i : Nat) : imM t mm nn o (i + 1) ≤ imM t mm nn o i := by
  rw [imM_s]
  exact imp_le t mm (imI t mm nn o i) nn
theorem imM_by (t : Nat → Int) (mm nn : Nat) (o : Nat → Nat) (i : Nat) : mk 0 mm t (imI t mm nn o i) nn - (imS t mm (imI t mm nn o i) nn nn).1 = imM t mm nn o i - imM t mm nn o (i + 1) := by
  rw [imM_s]
  rfl
theorem imC_0 {t : Nat → Int} {mm nn : Nat} {o : Nat → Nat} : imC t mm nn o 0 := fun _ h => absurd h (Nat.not_lt_zero _)
theorem imC_s {t : Nat → Int} {mm nn : Nat} {o : Nat → Nat} {L : Nat} (h : imC t mm nn o L) (h2 : 0 < imM t mm nn o L - imM t mm nn o (L + 1)) : imC t mm nn o (L + 1) := fun i hi => by
  by_cases e : i = L
  · rw [e]
    omega
  · exact h i (by omega)
theorem imM_sol {t : Nat → Int} {mm nn : Nat} {o : Nat → Nat} (ht : ∀ k, 0 ≤ t k ∧ t k ≤ 99) (hn : nn ≤ 7) (hm : 1 ≤ mm ∧ mm ≤ 5) (ho : IsP nn o) (i : Nat) : (sol 0 mm t nn).1 ≤ imM t mm nn o i := sol_le hn (imI_P ht hn hm ho i)
theorem rule_best {t : Nat → Int} {mm nn : Nat} {r : Nat → Nat} (ht : ∀ k, 0 ≤ t k ∧ t k ≤ 99) (hn : nn ≤ 7) (hm : mm = 2) : mk 0 mm t (srt (gbr t 0 1) r nn) nn = (sol 0 mm t nn).1 := by
  subst hm
  rw [mk_2 ht, sol_2 ht hn]
/-- moving the told jobs to their places one by one -/
theorem mv_K {nn g q : Nat} {o f : Nat → Nat} (hf : IsP nn f) (hg : g < nn) (hq : q < nn) (e : o q = f g) (h : ∀ k, k < g → o k = f k) : ∀ k, k < g + 1 → shf o q g k = f k := by
  have hgq : g ≤ q := by
    rcases Nat.lt_or_ge q g with c | c
    · have := hf.2 q g hq hg ((h q c).symm.trans e)
      omega
    · exact c
  intro k hk
  rw [nx_pos]
  by_cases c : k = g
  · rw [if_pos c, e, c]
  · rw [if_neg c, if_neg (by omega), if_neg (by omega)]
    exact h k (by omega)
theorem isP_lt {nn : Nat} {o : Nat → Nat} (h : IsP nn o) (hn : nn ≤ 7) : ∀ k, k < nn → o k < 7 := fun k hk => Nat.lt_of_lt_of_le (h.1 k hk) hn
theorem CK_z {mm : Nat} {t : Nat → Int} {nn : Nat} {S M N : Nat → Int} {J : Nat → Nat} (h : ∀ v, v ≤ 2 → S v = 0) : CK mm t nn S M N J := fun v hv => Or.inl (h v hv)
theorem zfl_z {f : Nat → Int} : ∀ v, v ≤ 2 → zfl f 3 v = 0 := fun v hv => if_pos (by omega)
/-- what holds between the law's turns -/
def LV (nn mm : Nat) (tT : Nat → Int) (oO : Nat → Nat) (zS zM zN : Nat → Int) (oJ : Nat → Nat) : Prop :=
  nn ≤ 6 ∧ (1 ≤ mm ∧ mm ≤ 5) ∧ (∀ k, 0 ≤ tT k ∧ tT k ≤ 99) ∧ IsP nn oO ∧ CK mm tT nn zS zM zN oJ ∧ ∀ k, k ≤ 2 → 0 ≤ zM k ∧ zM k ≤ 1000000
