/-! the insertion: both sides -/
def rs (t : Nat → Int) (mm : Nat) (x y : Nat) : Bool := bs2 t mm y x
theorem rs_iff {t : Nat → Int} {mm x y : Nat} : rs t mm x y = true ↔ smR t y 0 mm < smR t x 0 mm ∨ (smR t x 0 mm = smR t y 0 mm ∧ x < y) := by
  unfold rs bs2
  by_cases h : smR t y 0 mm < smR t x 0 mm ∨ (smR t x 0 mm = smR t y 0 mm ∧ x < y)
  · rw [if_pos h]
    exact ⟨fun _ => h, fun _ => rfl⟩
  · rw [if_neg h]
    exact ⟨fun q => (by cases q), fun q => absurd q h⟩
theorem rs_tot (t : Nat → Int) (mm : Nat) : Tot (rs t mm) := by
  refine ⟨fun i => ?_, fun i j k h1 h2 => ?_, fun i j h => ?_⟩
  · cases hh : rs t mm i i with
    | false => rfl
    | true =>
      rw [rs_iff] at hh
      omega
  · rw [rs_iff] at h1 h2 ⊢
    omega
  · rw [rs_iff, rs_iff]
    omega
theorem bqs_rs {t : Nat → Int} {mm i j : Nat} (h : j < i) : bqs t mm i j = rs t mm i j := by
  unfold bqs rs bs2
  by_cases c : smR t j 0 mm < smR t i 0 mm
  · rw [if_pos c, if_pos (Or.inl c)]
  · rw [if_neg c, if_neg (by omega)]
theorem bqs_srd (t : Nat → Int) (mm nn : Nat) (q : Nat → Nat) : Srd (rs t mm) nn (srt (bqs t mm) q nn) := srt_srd (rs_tot t mm) (fun i j _ hj => bqs_rs hj) nn (Nat.le_refl _)
theorem bsr_at {t : Nat → Int} {mm nn r j : Nat} (hj : cn (bs2 t mm j) nn = r) (hinj : ∀ i, i < nn → cn (bs2 t mm i) nn = r → i = j) : ∀ i, i ≤ nn → j < i → bsr t mm nn r i = j
  | i + 1, hi, h => by
    unfold bsr
    by_cases c : cn (bs2 t mm i) nn = r
    · rw [if_pos c]
      exact hinj i (by omega) c
    · rw [if_neg c]
      have : j ≠ i := fun e => c (by rw [← e]; exact hj)
      exact bsr_at hj hinj i (by omega) (by omega)
theorem bsr_srt {t : Nat → Int} {mm nn r : Nat} {q : Nat → Nat} (hr : r < nn) : bsr t mm nn r nn = srt (bqs t mm) q nn r := by
  have hs := bqs_srd t mm nn q
  have hk : ∀ k, k < nn → cn (bs2 t mm (srt (bqs t mm) q nn k)) nn = k := fun k hk => srd_rank (rs_tot t mm) hs hk
  refine bsr_at (hk r hr) (fun i hi e => ?_) nn (Nat.le_refl _) (hs.1.1 r hr)
  obtain ⟨a, ha, ea⟩ := isP_surj nn _ hs.1 i hi
  rw [← ea, hk a ha] at e
  rw [← ea, e]
theorem fmn_amin {g : Nat → Int} (h : ∀ i, g i ≤ 3465) : ∀ n, fmn g (n + 1) = (g (amin g n), amin g n)
  | 0 => fmn_y (by have := h 0; show g 0 < 1000000; omega)
  | n + 1 => by
    have ih := fmn_amin h n
    by_cases c : g (n + 1) < g (amin g n)
    · rw [fmn_y (by rw [ih]; exact c), show amin g (n + 1) = n + 1 from if_pos c]
    · rw [fmn_n (by rw [ih]; exact c), ih, show amin g (n + 1) = amin g n from if_neg c]
theorem shf_pin {r : Nat → Nat} {c p j k : Nat} (hp : p ≤ c) (hk : k < c + 1) : shf (va_up r c j) c p k = pin r c p j k := by
  rw [nx_pos, pin_at hp]
  have e1 : va_up r c j c = j := if_pos rfl
  have e2 : ∀ a, a ≠ c → va_up r c j a = r a := fun a ha => if_neg ha
  by_cases h1 : k = p
  · rw [if_pos h1, if_pos h1, e1]
  · rw [if_neg h1, if_neg h1, if_neg (by omega)]
    by_cases h2 : p < k ∧ k ≤ c
    · rw [if_pos h2, if_pos h2, e2 _ (by omega)]
    · rw [if_neg h2, if_neg h2, e2 _ (by omega)]
theorem isP_pin {r : Nat → Nat} {c p j : Nat} (hp : p ≤ c) (h : ∀ i k, i < c → k < c → r i = r k → i = k) (hj : ∀ i, i < c → r i ≠ j) : ∀ i k, i < c + 1 → k < c + 1 → pin r c p j i = pin r c p j k → i = k := by
  intro a b ha hb e
  rw [pin_at hp, pin_at hp] at e
  by_cases a1 : a = p
  · by_cases b1 : b = p
    · omega
    · rw [if_pos a1, if_neg b1] at e
      by_cases b2 : p < b ∧ b ≤ c
      · rw [if_pos b2] at e
        exact absurd e.symm (hj _ (by omega))
      · rw [if_neg b2] at e
        exact absurd e.symm (hj _ (by omega))
  · by_cases b1 : b = p
    · rw [if_neg a1, if_pos b1] at e
      by_cases a2 : p < a ∧ a ≤ c
      · rw [if_pos a2] at e
        exact absurd e (hj _ (by omega))
      · rw [if_neg a2] at e
        exact absurd e (hj _ (by omega))
    · rw [if_neg a1, if_neg b1] at e
      by_cases a2 : p < a ∧ a ≤ c
      · by_cases b2 : p < b ∧ b ≤ c
        · rw [if_pos a2, if_pos b2] at e
          have := h _ _ (by omega) (by omega) e
          omega
        · rw [if_pos a2, if_neg b2] at e
          have := h _ _ (by omega) (by omega) e
          omega
      · by_cases b2 : p < b ∧ b ≤ c
        · rw [if_neg a2, if_pos b2] at e
          have := h _ _ (by omega) (by omega) e
          omega
        · rw [if_neg a2, if_neg b2] at e
          exact h _ _ (by omega) (by omega) e
/-- what pin holds -/
theorem pin_mem {r : Nat → Nat} {c p j k : Nat} (hp : p ≤ c) (hk : k < c + 1) : pin r c p j k = j ∨ ∃ a, a < c ∧ pin r c p j k = r a := by
  rw [pin_at hp]
  by_cases h1 : k = p
  · rw [if_pos h1]
    exact Or.inl rfl
  · rw [if_neg h1]
    by_cases h2 : p < k ∧ k ≤ c
    · rw [if_pos h2]
      exact Or.inr ⟨k - 1, by omega, rfl⟩
    · rw [if_neg h2]
      exact Or.inr ⟨k, by omega, rfl⟩
theorem ins_step {t : Nat → Int} {mm nn : Nat} {o q : Nat → Nat} (ht : ∀ k, 0 ≤ t k ∧ t k ≤ 99) (hn : nn ≤ 7) (hm : 1 ≤ mm ∧ mm ≤ 5) (hq : ∀ r, r < nn → bsr t mm nn r nn = q r) (hQ : IsP nn q) : ∀ i, i ≤ nn → eqn i (ini t mm o q i) (rin t mm nn i) ∧ (∀ k, k < i → ∃ a, a < i ∧ rin t mm nn i k = q a) ∧ ∀ a b, a < i → b < i → rin t mm nn i a = rin t mm nn i b → a = b
  | 0, _ => ⟨fun k hk => absurd hk (Nat.not_lt_zero _), fun k hk => absurd hk (Nat.not_lt_zero _), fun a b ha => absurd ha (Nat.not_lt_zero _)⟩
  | i + 1, hi => by
    obtain ⟨h1, h2, h3⟩ := ins_step (o := o) ht hn hm hq hQ i (by omega)
    have hg : ∀ p, p ≤ i → mkS t mm (va_up (ini t mm o q i) i (q i)) i (i + 1) p = rG t mm (rin t mm nn i) i (bsr t mm nn i nn) p := fun p hp => by
      unfold mkS
      rw [mk_cg (o' := pin (ini t mm o q i) i p (q i)) (fun k hk => shf_pin hp hk), hq i (by omega)]
      exact rG_cg hp h1
    have hA : amin (mkS t mm (va_up (ini t mm o q i) i (q i)) i (i + 1)) i = amin (rG t mm (rin t mm nn i) i (bsr t mm nn i nn)) i := by
      have key : ∀ n, n ≤ i → amin (mkS t mm (va_up (ini t mm o q i) i (q i)) i (i + 1)) n = amin (rG t mm (rin t mm nn i) i (bsr t mm nn i nn)) n := by
        intro n
        induction n with
        | zero => exact fun _ => rfl
        | succ n ih =>
          intro hn2
          have e := ih (by omega)
          show (if _ < _ then n + 1 else _) = if _ < _ then n + 1 else _
          rw [e, hg (n + 1) hn2, hg _ (Nat.le_trans (amin_le _ n) (by omega))]
      exact key i (Nat.le_refl _)
    have hp : amin (rG t mm (rin t mm nn i) i (bsr t mm nn i nn)) i ≤ i := amin_le _ i
    have hF : (fmn (rG t mm (rin t mm nn i) i (bsr t mm nn i nn)) (i + 1)).2 = amin (rG t mm (rin t mm nn i) i (bsr t mm nn i nn)) i := by
      rw [fmn_amin (fun p => (rG_rg hm ht (show i + 1 ≤ 7 by omega) p).2)]
    have eR : rin t mm nn (i + 1) = pin (rin t mm nn i) i (amin (rG t mm (rin t mm nn i) i (bsr t mm nn i nn)) i) (q i) := by
      show pin _ _ _ _ = _
      rw [hF, hq i (by omega)]
    have hj : ∀ a, a < i → rin t mm nn i a ≠ q i := fun a ha e => by
      obtain ⟨b, hb, eb⟩ := h2 a ha
      have := hQ.2 b i (by omega) (by omega) (eb.symm.trans e)
      omega
    refine ⟨fun k hk => ?_, fun k hk => ?_, ?_⟩
    · rw [eR]
      show shf (va_up (ini t mm o q i) i (q i)) i (amin (mkS t mm (va_up (ini t mm o q i) i (q i)) i (i + 1)) i) k = _
      rw [hA, shf_pin hp hk]
      exact pin_cg hp h1 k hk
    · rw [eR]
      rcases pin_mem (r := rin t mm nn i) (j := q i) hp hk with e | ⟨a, ha, e⟩
      · exact ⟨i, by omega, e⟩
      · obtain ⟨b, hb, eb⟩ := h2 a ha
        exact ⟨b, by omega, e.trans eb⟩
    · rw [eR]
      exact isP_pin hp h3 hj
theorem ins_ok (t : Nat → Int) (mm nn : Nat) (o q : Nat → Nat) (ht : ∀ k, 0 ≤ t k ∧ t k ≤ 99) (hn : nn ≤ 7) (hm : 1 ≤ mm ∧ mm ≤ 5) : eqn nn (insO t mm nn o q) (rin t mm nn nn) ∧ IsP nn (insO t mm nn o q) := by
  have hQ := bqs_srd t mm nn q
  obtain ⟨h1, h2, h3⟩ := ins_step (o := o) ht hn hm (fun r hr => bsr_srt (q := q) hr) hQ.1 nn (Nat.le_refl _)
  refine ⟨h1, fun k hk => ?_, fun a b ha hb e => ?_⟩
  · show ini t mm o (srt (bqs t mm) q nn) nn k < nn
    rw [h1 k hk]
    obtain ⟨a, ha, e⟩ := h2 k hk
    rw [e]
    exact hQ.1.1 a ha
  · have e2 : ini t mm o (srt (bqs t mm) q nn) nn a = ini t mm o (srt (bqs t mm) q nn) nn b := e
    rw [h1 a ha, h1 b hb] at e2
    exact h3 a b ha hb e2
/-! the improvement: both sides -/
def imR (m : Int) (s r : Int × Nat × Nat) : Prop := r.1 ≤ 1000000 ∧ ((r.1 < m ∧ s = r) ∨ (m ≤ r.1 ∧ s = (m, 0, 0)))
theorem shf_id {o : Nat → Nat} {a : Nat} : shf o a a = o := by
  funext k
  rw [nx_pos]
  by_cases h : k = a
  · rw [if_pos h, h]
  · rw [if_neg h, if_neg (by omega), if_neg (by omega)]
theorem imR_stp {f g : Nat → Nat → Int} {m : Int} {a b : Nat} {s r : Int × Nat × Nat} (h : imR m s r) (hfg : (a = b ∧ f a b = m ∧ g a b = 1000000) ∨ f a b = g a b) (hg : g a b ≤ 1000000) : imR m (stp f a b s) (stp g a b r) := by
  obtain ⟨h1, h2⟩ := h
  unfold stp
  rcases hfg with ⟨e, ef, eg⟩ | e
  · rw [ef, eg, if_neg (show ¬ (1000000 : Int) < r.1 by omega)]
    rcases h2 with ⟨h3, h4⟩ | ⟨h3, h4⟩
    · rw [h4, if_neg (show ¬ m < r.1 by omega)]
      exact ⟨h1, Or.inl ⟨h3, rfl⟩⟩
    · rw [h4, if_neg (show ¬ m < (m, (0 : Nat), (0 : Nat)).1 from Int.lt_irrefl m)]
      exact ⟨h1, Or.inr ⟨h3, rfl⟩⟩
  · rw [e]
    rcases h2 with ⟨h3, h4⟩ | ⟨h3, h4⟩
    · rw [h4]
      by_cases c : g a b < r.1
      · rw [if_pos c]
        exact ⟨hg, Or.inl ⟨by show g a b < m; omega, rfl⟩⟩
      · rw [if_neg c]
        exact ⟨h1, Or.inl ⟨h3, rfl⟩⟩
    · rw [h4]
      by_cases c : g a b < m
      · rw [if_pos (show g a b < (m, (0 : Nat), (0 : Nat)).1 from c), if_pos (show g a b < r.1 by omega)]
        exact ⟨hg, Or.inl ⟨c, rfl⟩⟩
      · rw [if_neg (show ¬ g a b < (m, (0 : Nat), (0 : Nat)).1 from c)]
        by_cases c2 : g a b < r.1
        · rw [if_pos c2]
          exact ⟨hg, Or.inr ⟨by show m ≤ g a b; omega, rfl⟩⟩
        · rw [if_neg c2]
          exact ⟨h1, Or.inr ⟨h3, rfl⟩⟩
theorem imR_inr {f g : Nat → Nat → Int} {m : Int} {a n : Nat} {s r : Int × Nat × Nat} (h : imR m s r) (hfg : ∀ b, b < n → (a = b ∧ f a b = m ∧ g a b = 1000000) ∨ f a b = g a b) (hg : ∀ b, g a b ≤ 1000000) : ∀ j, j ≤ n → imR m (inr f a s j) (inr g a r j)
  | 0, _ => h
  | j + 1, hj => imR_stp (imR_inr h hfg hg j (by omega)) (hfg j (by omega)) (hg j)
theorem imR_otr {f g : Nat → Nat → Int} {m : Int} {n : Nat} {s r : Int × Nat × Nat} (h : imR m s r) (hfg : ∀ a b, a < n → b < n → (a = b ∧ f a b = m ∧ g a b = 1000000) ∨ f a b = g a b) (hg : ∀ a b, g a b ≤ 1000000) : ∀ i, i ≤ n → imR m (otr f n s i) (otr g n r i)
  | 0, _ => h
  | i + 1, hi => imR_inr (imR_otr h hfg hg i (by omega)) (fun b hb => hfg i b (by omega) hb) (hg i) n (Nat.le_refl _)
theorem imp_ok (t : Nat → Int) (mm nn : Nat) (o o' : Nat → Nat) (ht : ∀ k, 0 ≤ t k ∧ t k ≤ 99) (hn : nn ≤ 7) (hm : 1 ≤ mm ∧ mm ≤ 5) (he : eqn nn o o') (hP : IsP nn o) : rmV t mm nn o' = mk 0 mm t o nn - (imS t mm o nn nn).1 ∧ eqn nn (impO t mm nn o) (rmO t mm nn o') ∧ IsP nn (impO t mm nn o) := by
  have hmk : mk 0 mm t o' nn = mk 0 mm t o nn := mk_cg (fun k hk => (he k hk).symm)
  have hb := mk_rg (v := 0) (o := o) hm.1 hm.2 ht hn
  have hR : imR (mk 0 mm t o nn) (imS t mm o nn nn) (rmS t mm o' nn nn) := by
    refine imR_otr ⟨Int.le_refl _, Or.inr ⟨by show _ ≤ (1000000 : Int); omega, rfl⟩⟩ (fun a b ha hb2 => ?_) (fun a b => (rmF_rg hm ht hn a b).2) nn (Nat.le_refl _)
    by_cases e : a = b
    · refine Or.inl ⟨e, ?_, if_pos e⟩
      show mk 0 mm t (shf o a b) nn = _
      rw [← e, shf_id]
    · refine Or.inr ?_
      show mk 0 mm t (shf o a b) nn = if a = b then 1000000 else mk 0 mm t (shf o' a b) nn
      rw [if_neg e]
      exact mk_cg (shf_cg ha hb2 he)
  have hok := imS_ok (o := o) hm ht hn (Nat.le_refl nn)
  obtain ⟨h1, h2⟩ := hR
  unfold rmV rmO impO
  rw [hmk]
  rcases h2 with ⟨h3, h4⟩ | ⟨h3, h4⟩
  · have hlt : (imS t mm o nn nn).1 < mk 0 mm t o nn := by rw [h4]; exact h3
    have h5 := hok.2.1 hlt
    rw [if_pos h3, if_pos hlt, if_pos h3, ← h4]
    exact ⟨rfl, shf_cg h5.1 h5.2 he, isP_shf h5.1 h5.2 hP⟩
  · have hnl : ¬ (imS t mm o nn nn).1 < mk 0 mm t o nn := by
      rw [h4]
      exact Int.lt_irrefl _
    have hnr : ¬ (rmS t mm o' nn nn).1 < mk 0 mm t o nn := by omega
    rw [if_neg hnr, if_neg hnl, if_neg hnr, h4]
    exact ⟨by show (0 : Int) = _ - mk 0 mm t o nn; omega, he, hP⟩
