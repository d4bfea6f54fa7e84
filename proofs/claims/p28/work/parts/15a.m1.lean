/-! sorting by a total order; ranks -/
def Tot (R : Nat → Nat → Bool) : Prop := (∀ i, R i i = false) ∧ (∀ i j k, R i j = true → R j k = true → R i k = true) ∧ ∀ i j, i ≠ j → R i j = true ∨ R j i = true
theorem tot_as {R : Nat → Nat → Bool} (h : Tot R) {i j : Nat} (e : R i j = true) : R j i = false := by
  cases hh : R j i with
  | false => rfl
  | true =>
    have := h.2.1 i j i e hh
    rw [h.1 i] at this
    cases this
def Srd (R : Nat → Nat → Bool) (n : Nat) (s : Nat → Nat) : Prop := IsP n s ∧ ∀ a b, a < b → b < n → R (s a) (s b) = true
theorem pos_hi {bef : Nat → Nat → Bool} {f : Nat → Nat} {j : Nat} : ∀ q a, pos bef f j q ≤ a → a < q → bef j (f a) = true
  | q + 1, a, h1, h2 => by
    unfold pos at h1
    by_cases c : bef j (f q) = true
    · rw [if_pos c] at h1
      by_cases ha : a = q
      · rw [ha]
        exact c
      · exact pos_hi q a h1 (by omega)
    · rw [if_neg c] at h1
      omega
theorem pos_lo {bef : Nat → Nat → Bool} {f : Nat → Nat} {j : Nat} : ∀ q, 0 < pos bef f j q → ¬ bef j (f (pos bef f j q - 1)) = true
  | 0, h => absurd h (Nat.lt_irrefl _)
  | q + 1, h => by
    by_cases c : bef j (f q) = true
    · have e : pos bef f j (q + 1) = pos bef f j q := if_pos c
      rw [e] at h ⊢
      exact pos_lo q h
    · have e : pos bef f j (q + 1) = q + 1 := if_neg c
      rw [e, Nat.add_sub_cancel]
      exact c
theorem srt_srd {R bef : Nat → Nat → Bool} (hR : Tot R) {f0 : Nat → Nat} {N : Nat} (hb : ∀ i j, i < N → j < i → bef i j = R i j) : ∀ i, i ≤ N → Srd R i (srt bef f0 i)
  | 0, _ => ⟨⟨fun k hk => absurd hk (Nat.not_lt_zero _), fun i j hi => absurd hi (Nat.not_lt_zero _)⟩, fun a b _ hb => absurd hb (Nat.not_lt_zero _)⟩
  | i + 1, hi => by
    have ih := srt_srd hR (f0 := f0) hb i (by omega)
    obtain ⟨⟨h1, h2⟩, h3⟩ := ih
    generalize hs : srt bef f0 i = s at h1 h2 h3
    have e0 : srt bef f0 (i + 1) = ins bef s i := by rw [← hs]; rfl
    rw [e0]
    obtain ⟨p, hp⟩ : ∃ p, p = pos bef s i i := ⟨_, rfl⟩
    have hpi : p ≤ i := by rw [hp]; exact pos_le bef s i i
    have hhi : ∀ a, p ≤ a → a < i → R i (s a) = true := fun a ha hai => by
      rw [← hb i (s a) (by omega) (h1 a hai)]
      exact pos_hi i a (by rw [← hp]; exact ha) hai
    have hlo : ∀ a, a < p → R (s a) i = true := fun a ha => by
      have hlast : R (s (p - 1)) i = true := by
        have h4 : ¬ bef i (s (p - 1)) = true := by
          have := pos_lo (bef := bef) (f := s) (j := i) i (by omega)
          rw [← hp] at this
          exact this
        rw [hb i (s (p - 1)) (by omega) (h1 _ (by omega))] at h4
        have hne : s (p - 1) ≠ i := by
          have := h1 (p - 1) (by omega)
          omega
        exact (hR.2.2 _ _ hne).elim id (fun q => absurd q h4)
      by_cases hap : a = p - 1
      · rw [hap]
        exact hlast
      · exact hR.2.1 _ _ _ (h3 a (p - 1) (by omega) (by omega)) hlast
    have at' : ∀ k, ins bef s i k = if k = p then i else if p < k ∧ k ≤ i then s (k - 1) else s k := fun k => by rw [ins_at, ← hp]
    refine ⟨⟨fun k hk => ?_, fun a b ha hb2 e => ?_⟩, fun a b hab hb2 => ?_⟩
    · rw [at']
      split
      · omega
      · split
        · have := h1 (k - 1) (by omega)
          omega
        · have := h1 k (by omega)
          omega
    · rw [at', at'] at e
      by_cases a1 : a = p
      · by_cases b1 : b = p
        · omega
        · rw [if_pos a1, if_neg b1] at e
          by_cases b2 : p < b ∧ b ≤ i
          · rw [if_pos b2] at e
            have := h1 (b - 1) (by omega)
            omega
          · rw [if_neg b2] at e
            have := h1 b (by omega)
            omega
      · by_cases b1 : b = p
        · rw [if_neg a1, if_pos b1] at e
          by_cases a2 : p < a ∧ a ≤ i
          · rw [if_pos a2] at e
            have := h1 (a - 1) (by omega)
            omega
          · rw [if_neg a2] at e
            have := h1 a (by omega)
            omega
        · rw [if_neg a1, if_neg b1] at e
          by_cases a2 : p < a ∧ a ≤ i
          · by_cases b2 : p < b ∧ b ≤ i
            · rw [if_pos a2, if_pos b2] at e
              have := h2 _ _ (by omega) (by omega) e
              omega
            · rw [if_pos a2, if_neg b2] at e
              have := h2 _ _ (by omega) (by omega) e
              omega
          · by_cases b2 : p < b ∧ b ≤ i
            · rw [if_neg a2, if_pos b2] at e
              have := h2 _ _ (by omega) (by omega) e
              omega
            · rw [if_neg a2, if_neg b2] at e
              exact h2 _ _ (by omega) (by omega) e
    · rw [at', at']
      by_cases a1 : a = p
      · rw [if_pos a1, if_neg (by omega), if_pos (by omega)]
        exact hhi _ (by omega) (by omega)
      · by_cases a2 : p < a
        · rw [if_neg a1, if_pos (by omega), if_neg (by omega), if_pos (by omega)]
          exact h3 _ _ (by omega) (by omega)
        · rw [if_neg a1, if_neg (by omega)]
          by_cases b1 : b = p
          · rw [if_pos b1]
            exact hlo a (by omega)
          · rw [if_neg b1]
            by_cases b2 : p < b ∧ b ≤ i
            · rw [if_pos b2]
              by_cases hab2 : a = b - 1
              · omega
              · exact h3 _ _ (by omega) (by omega)
            · rw [if_neg b2]
              exact h3 _ _ hab (by omega)
def b2 (b : Bool) : Nat := if b = true then 1 else 0
theorem cn_S (P : Nat → Bool) (n : Nat) : cn P (n + 1) = cn P n + b2 (P n) := rfl
theorem cn_cg {P Q : Nat → Bool} : ∀ n, (∀ k, k < n → P k = Q k) → cn P n = cn Q n
  | 0, _ => rfl
  | n + 1, h => by rw [cn_S, cn_S, cn_cg n (fun k hk => h k (by omega)), h n (by omega)]
theorem cn_one {P Q : Nat → Bool} {k0 : Nat} : ∀ n, k0 < n → (∀ k, k < n → k ≠ k0 → P k = Q k) → cn P n + b2 (Q k0) = cn Q n + b2 (P k0)
  | n + 1, h0, h => by
    rw [cn_S, cn_S]
    by_cases hk : k0 = n
    · rw [cn_cg n (fun k hk2 => h k (by omega) (by omega)), hk]
      omega
    · have := cn_one n (by omega) (fun k hk2 hk3 => h k (by omega) hk3)
      rw [h n (by omega) (fun e => hk e.symm)]
      omega
theorem cn_perm {P : Nat → Bool} : ∀ (n : Nat) (s : Nat → Nat), IsP n s → cn P n = cn (fun k => P (s k)) n
  | 0, _, _ => rfl
  | n + 1, s, h => by
    rw [cn_S, cn_S]
    by_cases hv : s n = n
    · have h2 : IsP n s := ⟨fun k hk => by
        have := h.1 k (by omega)
        by_cases e : s k = n
        · have := h.2 k n (by omega) (by omega) (e.trans hv.symm)
          omega
        · omega, fun i j hi hj => h.2 i j (by omega) (by omega)⟩
      rw [cn_perm n s h2, hv]
    · have hvl : s n < n := by
        have := h.1 n (by omega)
        omega
      obtain ⟨k0, hk0, e0⟩ := isP_surj (n + 1) s h n (by omega)
      have hk0n : k0 < n := by
        rcases Nat.lt_or_ge k0 n with q | q
        · exact q
        · rw [show k0 = n by omega] at e0
          exact absurd e0 hv
      have h2 : IsP n (fun k => if s k = n then s n else s k) := by
        refine ⟨fun k hk => ?_, fun i j hi hj e => ?_⟩
        · show (if s k = n then s n else s k) < n
          split
          · exact hvl
          · have := h.1 k (by omega)
            omega
        · have e2 : (if s i = n then s n else s i) = if s j = n then s n else s j := e
          by_cases c1 : s i = n
          · by_cases c2 : s j = n
            · exact h.2 i j (by omega) (by omega) (c1.trans c2.symm)
            · rw [if_pos c1, if_neg c2] at e2
              have := h.2 n j (by omega) (by omega) e2
              omega
          · by_cases c2 : s j = n
            · rw [if_neg c1, if_pos c2] at e2
              have := h.2 i n (by omega) (by omega) e2
              omega
            · rw [if_neg c1, if_neg c2] at e2
              exact h.2 i j (by omega) (by omega) e2
      have ih := cn_perm (P := P) n _ h2
      have h3 := cn_one (P := fun k => P (s k)) (Q := fun k => P (if s k = n then s n else s k)) (k0 := k0) n hk0n (fun k hk hne => by
        show P (s k) = P (if s k = n then s n else s k)
        rw [if_neg]
        intro e
        exact hne (h.2 k k0 (by omega) (by omega) (e.trans e0.symm)))
      have h4 : cn (fun k => P (s k)) n + b2 (P (if s k0 = n then s n else s k0)) = cn (fun k => P (if s k = n then s n else s k)) n + b2 (P (s k0)) := h3
      rw [if_pos e0, e0] at h4
      omega
theorem cn_ltk (k : Nat) : ∀ n, cn (fun a => decide (a < k)) n = min k n
  | 0 => by
    show 0 = _
    omega
  | n + 1 => by
    rw [cn_S, cn_ltk k n]
    unfold b2
    by_cases h : n < k
    · rw [decide_eq_true h, if_pos rfl]
      omega
    · rw [decide_eq_false h, if_neg (by simp)]
      omega
/-- the rank of the k-th -/
theorem srd_rank {R : Nat → Nat → Bool} (hR : Tot R) {n : Nat} {s : Nat → Nat} (h : Srd R n s) {k : Nat} (hk : k < n) : cn (fun x => R x (s k)) n = k := by
  rw [cn_perm n s h.1, cn_cg (Q := fun a => decide (a < k)) n (fun a ha => ?_), cn_ltk]
  · omega
  · show R (s a) (s k) = decide (a < k)
    rcases Nat.lt_trichotomy a k with c | c | c
    · rw [h.2 a k c hk, decide_eq_true c]
    · rw [c, hR.1, decide_eq_false (Nat.lt_irrefl k)]
    · rw [tot_as hR (h.2 k a c ha), decide_eq_false (by omega)]
theorem ahd_iff {t : Nat → Int} {i j : Nat} : ahd t i j = true ↔ (t (5 * i + 0) ≤ t (5 * i + 1) ∧ (t (5 * j + 0) ≤ t (5 * j + 1) → (t (5 * i + 0) < t (5 * j + 0) ∨ (t (5 * i + 0) = t (5 * j + 0) ∧ i < j)))) ∨ (¬ t (5 * i + 0) ≤ t (5 * i + 1) ∧ ¬ t (5 * j + 0) ≤ t (5 * j + 1) ∧ (t (5 * j + 1) < t (5 * i + 1) ∨ (t (5 * j + 1) = t (5 * i + 1) ∧ i < j))) := by
  unfold ahd
  by_cases c1 : t (5 * i + 0) ≤ t (5 * i + 1)
  · rw [if_pos c1]
    by_cases c2 : t (5 * j + 0) ≤ t (5 * j + 1)
    · rw [if_pos c2]
      by_cases c3 : t (5 * i + 0) < t (5 * j + 0) ∨ (t (5 * i + 0) = t (5 * j + 0) ∧ i < j)
      · rw [if_pos c3]
        exact ⟨fun _ => Or.inl ⟨c1, fun _ => c3⟩, fun _ => rfl⟩
      · rw [if_neg c3]
        exact ⟨fun q => (by cases q), fun q => q.elim (fun q => absurd (q.2 c2) c3) (fun q => absurd c1 q.1)⟩
    · rw [if_neg c2]
      exact ⟨fun _ => Or.inl ⟨c1, fun q => absurd q c2⟩, fun _ => rfl⟩
  · rw [if_neg c1]
    by_cases c2 : t (5 * j + 0) ≤ t (5 * j + 1)
    · rw [if_pos c2]
      exact ⟨fun q => (by cases q), fun q => q.elim (fun q => absurd q.1 c1) (fun q => absurd c2 q.2.1)⟩
    · rw [if_neg c2]
      by_cases c3 : t (5 * j + 1) < t (5 * i + 1) ∨ (t (5 * j + 1) = t (5 * i + 1) ∧ i < j)
      · rw [if_pos c3]
        exact ⟨fun _ => Or.inr ⟨c1, c2, c3⟩, fun _ => rfl⟩
      · rw [if_neg c3]
        exact ⟨fun q => (by cases q), fun q => q.elim (fun q => absurd q.1 c1) (fun q => absurd q.2.2 c3)⟩
theorem ahd_tot (t : Nat → Int) : Tot (ahd t) := by
  refine ⟨fun i => ?_, fun i j k h1 h2 => ?_, fun i j h => ?_⟩
  · cases hh : ahd t i i with
    | false => rfl
    | true =>
      rw [ahd_iff] at hh
      omega
  · rw [ahd_iff] at h1 h2 ⊢
    omega
  · rw [ahd_iff, ahd_iff]
    omega
theorem gbr_ahd {t : Nat → Int} {i j : Nat} (h : j < i) : gbr t 0 1 i j = ahd t i j := by
  unfold gbr ahd
  split
  · split
    · by_cases c : t (5 * i + 0) < t (5 * j + 0)
      · rw [if_pos c, if_pos (Or.inl c)]
      · rw [if_neg c, if_neg (by omega)]
    · rfl
  · split
    · rfl
    · by_cases c : t (5 * j + 1) < t (5 * i + 1)
      · rw [if_pos c, if_pos (Or.inl c)]
      · rw [if_neg c, if_neg (by omega)]
theorem ah2_ahd (t : Nat → Int) (i : Nat) : ah2 t i = fun x => ahd t x i := by
  funext x
  by_cases h : x = i
  · rw [h, ah2_i, (ahd_tot t).1]
  · exact ah2_n h
/-- each at its rank -/
theorem rk_at {t : Nat → Int} {nn : Nat} {o : Nat → Nat} (hinj : ∀ i j, i < nn → j < nn → cn (ah2 t i) nn = cn (ah2 t j) nn → i = j) : ∀ i, i ≤ nn → ∀ j, j < i → rk t nn o i (cn (ah2 t j) nn) = j
  | i + 1, hi, j, hj => by
    show va_up (rk t nn o i) (cn (ah2 t i) nn) i (cn (ah2 t j) nn) = j
    unfold va_up
    by_cases h : cn (ah2 t j) nn = cn (ah2 t i) nn
    · rw [if_pos h]
      exact (hinj j i (by omega) (by omega) h).symm
    · rw [if_neg h]
      have hji : j ≠ i := fun e => h (by rw [e])
      exact rk_at hinj i (by omega) j (by omega)
theorem rule_ok (t : Nat → Int) (nn : Nat) (o o' : Nat → Nat) : eqn nn (srt (gbr t 0 1) o nn) (rk t nn o' nn) ∧ IsP nn (srt (gbr t 0 1) o nn) := by
  have hs : Srd (ahd t) nn (srt (gbr t 0 1) o nn) := srt_srd (ahd_tot t) (fun i j _ hj => gbr_ahd hj) nn (Nat.le_refl _)
  have hr : ∀ k, k < nn → cn (ah2 t (srt (gbr t 0 1) o nn k)) nn = k := fun k hk => by
    rw [ah2_ahd]
    exact srd_rank (ahd_tot t) hs hk
  refine ⟨fun k hk => ?_, hs.1⟩
  have h := rk_at (t := t) (nn := nn) (o := o') (fun i j hi hj e => by
    obtain ⟨a, ha, ea⟩ := isP_surj nn _ hs.1 i hi
    obtain ⟨b, hb, eb⟩ := isP_surj nn _ hs.1 j hj
    rw [← ea, ← eb, hr a ha, hr b hb] at e
    rw [← ea, ← eb, e]) nn (Nat.le_refl _) (srt (gbr t 0 1) o nn k) (hs.1.1 k hk)
  rw [hr k hk] at h
  exact h.symm
