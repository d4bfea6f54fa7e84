/-! improvements end: each order gives keys (a job put in front) that no earlier one gave, but two -/
theorem shf_two {r : Nat → Nat} {a b k : Nat} : shf (shf r b 0) 0 a k = shf r b a k := by
  rw [nx_pos (shf r b 0) 0 a k, nx_pos r b a k]
  by_cases h1 : k = a
  · rw [if_pos h1, if_pos h1, nx_pos, if_pos rfl]
  · rw [if_neg h1, if_neg h1]
    by_cases h2 : 0 ≤ k ∧ k < a
    · rw [if_pos h2, nx_pos, if_neg (by omega), if_neg (by omega)]
      by_cases h3 : b ≤ k ∧ k < a
      · rw [if_pos h3, if_neg (by omega)]
      · rw [if_neg h3, if_neg (show ¬ (a < k ∧ k ≤ b) by omega), if_pos (by omega), Nat.add_sub_cancel]
    · rw [if_neg h2, if_neg (show ¬ (a < k ∧ k ≤ 0) by omega), if_neg (show ¬ (b ≤ k ∧ k < a) by omega), nx_pos, if_neg (by omega), if_neg (by omega)]
      by_cases h3 : a < k ∧ k ≤ b
      · rw [if_pos h3, if_pos (by omega)]
      · rw [if_neg h3, if_neg (by omega)]
theorem key_1 {nn : Nat} {s : Nat → Nat} {a b : Nat} (hs : IsP nn s) (ha : a < nn) (hb : b < nn) (e : eqn nn (shf s a 0) (shf s b 0)) : a = b := by
  have h := e 0 (by omega)
  rw [nx_pos, nx_pos, if_pos rfl, if_pos rfl] at h
  exact hs.2 a b ha hb h
theorem key_2 {nn : Nat} {s r : Nat → Nat} {a b : Nat} (ha : a < nn) (e : eqn nn (shf s a 0) (shf r b 0)) : eqn nn (shf r b a) s := by
  intro k hk
  have h := shf_cg (a := 0) (b := a) (show 0 < nn by omega) ha e k hk
  rw [shf_two, shf_two, shf_id] at h
  exact h.symm
theorem key_3 {nn : Nat} {s r : Nat → Nat} {a b : Nat} (hr : IsP nn r) (ha : a < nn) (hb : b < nn) (hab : a ≠ b) (e : eqn nn (shf r b a) s) : s a ≠ r a ∧ s b ≠ r b ∧ ∀ x, x < nn → s x ≠ r x → (a ≤ x ∨ b ≤ x) ∧ (x ≤ a ∨ x ≤ b) := by
  refine ⟨fun q => ?_, fun q => ?_, fun x hx q => ?_⟩
  · rw [← e a ha, nx_pos, if_pos rfl] at q
    exact hab (hr.2 b a hb ha q).symm
  · rw [← e b hb, nx_pos, if_neg (by omega)] at q
    by_cases h : b ≤ b ∧ b < a
    · rw [if_pos h] at q
      have := hr.2 (b + 1) b (by omega) hb q
      omega
    · rw [if_neg h, if_pos (by omega)] at q
      have := hr.2 (b - 1) b (by omega) hb q
      omega
  · rw [← e x hx, nx_pos] at q
    by_cases h1 : x = a
    · omega
    · rw [if_neg h1] at q
      by_cases h2 : b ≤ x ∧ x < a
      · omega
      · rw [if_neg h2] at q
        by_cases h3 : a < x ∧ x ≤ b
        · omega
        · rw [if_neg h3] at q
          exact absurd rfl q
theorem key_4 {nn : Nat} {s r : Nat → Nat} {a b a' b' : Nat} (hr : IsP nn r) (hne : ¬ eqn nn r s) (ha : a < nn) (hb : b < nn) (ha' : a' < nn) (hb' : b' < nn) (e : eqn nn (shf s a 0) (shf r b 0)) (e' : eqn nn (shf s a' 0) (shf r b' 0)) : a' = a ∨ a' = b := by
  have k1 := key_2 ha e
  have k2 := key_2 ha' e'
  have n1 : a ≠ b := fun q => hne (by rw [q, shf_id] at k1; exact k1)
  have n2 : a' ≠ b' := fun q => hne (by rw [q, shf_id] at k2; exact k2)
  obtain ⟨p1, p2, p3⟩ := key_3 hr ha hb n1 k1
  obtain ⟨q1, q2, q3⟩ := key_3 hr ha' hb' n2 k2
  have m1 := p3 a' ha' q1
  have m2 := p3 b' hb' q2
  have m3 := q3 a ha p1
  have m4 := q3 b hb p2
  omega
theorem key_5 {nn : Nat} {s r : Nat → Nat} (h0 : 0 < nn) (hr : IsP nn r) (hne : ¬ eqn nn r s) : ∃ w : Nat × Nat, w.1 < nn ∧ w.2 < nn ∧ ∀ a b, a < nn → b < nn → eqn nn (shf s a 0) (shf r b 0) → a = w.1 ∨ a = w.2 := by
  by_cases c : ∃ w : Nat × Nat, w.1 < nn ∧ w.2 < nn ∧ eqn nn (shf s w.1 0) (shf r w.2 0)
  · obtain ⟨w, h1, h2, h3⟩ := c
    exact ⟨w, h1, h2, fun a b ha hb e => key_4 hr hne h1 h2 ha hb h3 e⟩
  · exact ⟨(0, 0), h0, h0, fun a b ha hb e => absurd ⟨(a, b), ha, hb, e⟩ c⟩
def sel (lo hi j : Nat) : Nat := ((List.range 6).filter (fun a => !(a == lo) && !(a == hi))).getD j 0
theorem sel_fin : ∀ (lo hi : Fin 6) (j : Fin 4), (sel lo.1 hi.1 j.1 < 6 ∧ sel lo.1 hi.1 j.1 ≠ lo.1 ∧ sel lo.1 hi.1 j.1 ≠ hi.1) ∧ ∀ j' : Fin 4, sel lo.1 hi.1 j.1 = sel lo.1 hi.1 j'.1 → j.1 = j'.1 := by decide +kernel
theorem sel_ok {lo hi j : Nat} (h1 : lo < 6) (h2 : hi < 6) (h3 : j < 4) : sel lo hi j < 6 ∧ sel lo hi j ≠ lo ∧ sel lo hi j ≠ hi := (sel_fin ⟨lo, h1⟩ ⟨hi, h2⟩ ⟨j, h3⟩).1
theorem sel_inj {lo hi j j' : Nat} (h1 : lo < 6) (h2 : hi < 6) (h3 : j < 4) (h4 : j' < 4) (e : sel lo hi j = sel lo hi j') : j = j' := (sel_fin ⟨lo, h1⟩ ⟨hi, h2⟩ ⟨j, h3⟩).2 ⟨j', h4⟩ e
theorem imC_6 {t : Nat → Int} {mm L : Nat} {o : Nat → Nat} (ht : ∀ k, 0 ≤ t k ∧ t k ≤ 99) (hm : 1 ≤ mm ∧ mm ≤ 5) (ho : IsP 6 o) (h : imC t mm 6 o L) : 4 * (L + 1) ≤ fac 6 := by
  have hP : ∀ i, IsP 6 (imI t mm 6 o i) := imI_P ht (by decide) hm ho
  have hv : ∀ i, ∃ w : Nat × Nat, w.1 < 6 ∧ w.2 < 6 ∧ (i < L → ∀ a b, a < 6 → b < 6 → eqn 6 (shf (imI t mm 6 o (i + 1)) a 0) (shf (imI t mm 6 o i) b 0) → a = w.1 ∨ a = w.2) := fun i => by
    by_cases c : i < L
    · obtain ⟨w, h1, h2, h3⟩ := key_5 (nn := 6) (s := imI t mm 6 o (i + 1)) (by decide) (hP i) (imC_ne h (Nat.lt_succ_self i) c)
      exact ⟨w, h1, h2, fun _ => h3⟩
    · exact ⟨(0, 0), by decide, by decide, fun q => absurd q c⟩
  obtain ⟨w, hw⟩ : ∃ w : Nat → Nat × Nat, ∀ i, (w i).1 < 6 ∧ (w i).2 < 6 ∧ (i < L → ∀ a b, a < 6 → b < 6 → eqn 6 (shf (imI t mm 6 o (i + 1)) a 0) (shf (imI t mm 6 o i) b 0) → a = (w i).1 ∨ a = (w i).2) := ⟨fun i => Classical.choose (hv i), fun i => Classical.choose_spec (hv i)⟩
  refine php_P (nn := 6) (n := 4 * (L + 1)) (by decide) (fun q => shf (imI t mm 6 o (q / 4)) (sel (w (q / 4 - 1)).1 (w (q / 4 - 1)).2 (q % 4)) 0) (fun q hq => ?_) (fun q r hqr hr e => ?_)
  · obtain ⟨w1, w2, w3⟩ := hw (q / 4 - 1)
    exact isP_shf (sel_ok w1 w2 (by omega)).1 (by decide) (hP _)
  · obtain ⟨w1, w2, w3⟩ := hw (q / 4 - 1)
    obtain ⟨v1, v2, v3⟩ := hw (r / 4 - 1)
    have sq := sel_ok w1 w2 (show q % 4 < 4 by omega)
    have sr := sel_ok v1 v2 (show r % 4 < 4 by omega)
    have e : eqn 6 (shf (imI t mm 6 o (q / 4)) (sel (w (q / 4 - 1)).1 (w (q / 4 - 1)).2 (q % 4)) 0) (shf (imI t mm 6 o (r / 4)) (sel (w (r / 4 - 1)).1 (w (r / 4 - 1)).2 (r % 4)) 0) := e
    rcases (show q / 4 = r / 4 ∨ q / 4 + 1 = r / 4 ∨ q / 4 + 1 < r / 4 by omega) with c | c | c
    · rw [← c] at e sr
      have h1 := sel_inj w1 w2 (by omega) (by omega) (key_1 (hP _) sq.1 sr.1 e)
      omega
    · rw [show r / 4 - 1 = q / 4 by omega, ← c] at e
      rw [show r / 4 - 1 = q / 4 by omega] at v3 sr
      have h1 := v3 (by omega) _ _ sr.1 sq.1 (fun k hk => (e k hk).symm)
      exact h1.elim (fun q => sr.2.1 q) (fun q => sr.2.2 q)
    · exact imC_far h c (by omega) sq.1 sr.1 (key_2 sr.1 (fun k hk => (e k hk).symm))
theorem fac_5 {nn : Nat} (h : nn ≤ 5) : fac nn ≤ 120 := by
  rcases (show nn = 0 ∨ nn = 1 ∨ nn = 2 ∨ nn = 3 ∨ nn = 4 ∨ nn = 5 by omega) with rfl | rfl | rfl | rfl | rfl | rfl <;> decide
theorem imC_le {t : Nat → Int} {mm nn L : Nat} {o : Nat → Nat} (ht : ∀ k, 0 ≤ t k ∧ t k ≤ 99) (hn : nn ≤ 6) (hm : 1 ≤ mm ∧ mm ≤ 5) (ho : IsP nn o) (h : imC t mm nn o L) : L < 200 := by
  by_cases c : nn = 6
  · subst c
    have h1 := imC_6 ht hm ho h
    have h2 : fac 6 = 720 := by decide
    omega
  · have h1 := php_P (nn := nn) (n := L + 1) (by omega) (imI t mm nn o) (fun i _ => imI_P ht (by omega) hm ho i) (fun i j hij hj => imC_ne h hij (by omega))
    have h2 := fac_5 (nn := nn) (by omega)
    omega
