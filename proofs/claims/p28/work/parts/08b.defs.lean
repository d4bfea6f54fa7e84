/-! sorting by putting in, and orders one behind another -/
def pos (bef : Nat → Nat → Bool) (f : Nat → Nat) (j : Nat) : Nat → Nat
  | 0 => 0
  | p + 1 => if bef j (f p) = true then pos bef f j p else p + 1
def ins (bef : Nat → Nat → Bool) (f : Nat → Nat) (i : Nat) : Nat → Nat := va_up (sh2 f i (i - pos bef f i i)) (pos bef f i i) i
def srt (bef : Nat → Nat → Bool) (f0 : Nat → Nat) : Nat → Nat → Nat
  | 0 => f0
  | i + 1 => ins bef (srt bef f0 i) i
theorem pos_le (bef : Nat → Nat → Bool) (f : Nat → Nat) (j : Nat) : ∀ p, pos bef f j p ≤ p
  | 0 => Nat.le_refl _
  | p + 1 => by
    have := pos_le bef f j p
    unfold pos
    split <;> omega
theorem pos_go {bef : Nat → Nat → Bool} {f : Nat → Nat} {j p : Nat} (h0 : 0 < p) (h : bef j (f (p - 1)) = true) : pos bef f j p = pos bef f j (p - 1) := by
  obtain ⟨q, rfl⟩ : ∃ q, p = q + 1 := ⟨p - 1, by omega⟩
  rw [Nat.add_sub_cancel] at h ⊢
  rw [pos, if_pos h]
theorem pos_stop {bef : Nat → Nat → Bool} {f : Nat → Nat} {j p : Nat} (h0 : 0 < p) (h : ¬ bef j (f (p - 1)) = true) : pos bef f j p = p := by
  obtain ⟨q, rfl⟩ : ∃ q, p = q + 1 := ⟨p - 1, by omega⟩
  rw [Nat.add_sub_cancel] at h
  rw [pos, if_neg h]
theorem sh2_p {f : Nat → Nat} {a p : Nat} (h0 : 0 < p) (hp : p ≤ a) : va_up (sh2 f a (a - p)) p (f (p - 1)) = sh2 f a (a - (p - 1)) := by
  have h := sh2_s (f := f) (a := a) (i := a - p) (by omega)
  rw [show a - (a - p) = p by omega, show a - p + 1 = a - (p - 1) by omega] at h
  exact h
theorem ins_at {bef : Nat → Nat → Bool} {f : Nat → Nat} {i k : Nat} : ins bef f i k = if k = pos bef f i i then i else if pos bef f i i < k ∧ k ≤ i then f (k - 1) else f k := by
  have h := pos_le bef f i i
  unfold ins va_up sh2
  by_cases h1 : k = pos bef f i i
  · rw [if_pos h1, if_pos h1]
  · rw [if_neg h1, if_neg h1]
    by_cases h2 : pos bef f i i < k ∧ k ≤ i
    · rw [if_pos h2, if_pos (by omega)]
    · rw [if_neg h2, if_neg (by omega)]
theorem srt_lt {bef : Nat → Nat → Bool} {f0 : Nat → Nat} : ∀ {i k : Nat}, k < i → srt bef f0 i k < i
  | i + 1, k, hk => by
    show ins bef (srt bef f0 i) i k < i + 1
    have h := pos_le bef (srt bef f0 i) i i
    rw [ins_at]
    split
    · omega
    · split
      · have := srt_lt (bef := bef) (f0 := f0) (i := i) (k := k - 1) (by omega)
        omega
      · have := srt_lt (bef := bef) (f0 := f0) (i := i) (k := k) (by omega)
        omega
/-- which of two jobs goes first: by sums, by the rule -/
def bqs (t : Nat → Int) (mm : Nat) (i x : Nat) : Bool := if smR t x 0 mm < smR t i 0 mm then true else false
def gbr (t : Nat → Int) (a b i j : Nat) : Bool :=
  if t (5 * i + a) ≤ t (5 * i + b) then (if t (5 * j + a) ≤ t (5 * j + b) then (if t (5 * i + a) < t (5 * j + a) then true else false) else true)
  else (if t (5 * j + a) ≤ t (5 * j + b) then false else (if t (5 * j + b) < t (5 * i + b) then true else false))
/-- two machines alone: ends on the first, on the second, of the first jobs of an order -/
def opF (t : Nat → Int) (r : Nat → Nat) (a : Nat) : Nat → Int
  | 0 => 0
  | i + 1 => opF t r a i + t (5 * r i + a)
def opS (t : Nat → Int) (r : Nat → Nat) (a b : Nat) : Nat → Int
  | 0 => 0
  | i + 1 => max (opF t r a (i + 1)) (opS t r a b i) + t (5 * r i + b)
theorem opF_rg {t : Nat → Int} (h : ∀ k, 0 ≤ t k ∧ t k ≤ 99) (r : Nat → Nat) (a : Nat) : ∀ c, 0 ≤ opF t r a c ∧ opF t r a c ≤ 99 * c
  | 0 => ⟨Int.le_refl _, Int.le_refl _⟩
  | c + 1 => by
    have := opF_rg h r a c
    have := h (5 * r c + a)
    unfold opF
    constructor <;> omega
theorem opS_rg {t : Nat → Int} (h : ∀ k, 0 ≤ t k ∧ t k ≤ 99) (r : Nat → Nat) (a b : Nat) : ∀ c, 0 ≤ opS t r a b c ∧ opS t r a b c ≤ 198 * c
  | 0 => ⟨Int.le_refl _, Int.le_refl _⟩
  | c + 1 => by
    have := opS_rg h r a b c
    have := opF_rg h r a (c + 1)
    have := h (5 * r c + b)
    unfold opS
    constructor <;> omega
/-- tails: of a place from the last machine on, n those of the next place; of the places from the last one on -/
def tlq (n t : Nat → Int) (mm : Nat) : Nat → Int
  | 0 => 0
  | c + 1 => t (mm - 1 - c) + max (tlq n t mm c) (n (mm - 1 - c))
def tlr (t : Nat → Int) (o : Nat → Nat) (nn mm : Nat) : Nat → Nat → Int
  | 0 => fun _ => 0
  | q + 1 => fun k => tlq (tlr t o nn mm q) (tj t (o (nn - 1 - q))) mm (mm - k)
theorem tlq_rg {n t : Nat → Int} {mm : Nat} {K : Int} (ht : ∀ k, 0 ≤ t k ∧ t k ≤ 99) (hK : 0 ≤ K) (hn : ∀ k, 0 ≤ n k ∧ n k ≤ K) : ∀ c, 0 ≤ tlq n t mm c ∧ tlq n t mm c ≤ K + 99 * c
  | 0 => by
    unfold tlq
    omega
  | c + 1 => by
    have := tlq_rg (mm := mm) ht hK hn c
    have := ht (mm - 1 - c)
    have := hn (mm - 1 - c)
    unfold tlq
    constructor <;> omega
theorem tlr_rg {t : Nat → Int} {o : Nat → Nat} {nn mm : Nat} (hm : mm ≤ 5) (ht : ∀ k, 0 ≤ t k ∧ t k ≤ 99) : ∀ q k, 0 ≤ tlr t o nn mm q k ∧ tlr t o nn mm q k ≤ 495 * q
  | 0, _ => by
    unfold tlr
    exact ⟨Int.le_refl _, Int.le_refl _⟩
  | q + 1, k => by
    have h := tlq_rg (n := tlr t o nn mm q) (t := tj t (o (nn - 1 - q))) (mm := mm) (K := 495 * q) (fun k => ht _) (by omega) (fun k => tlr_rg hm ht q k) (mm - k)
    show 0 ≤ tlq _ _ _ (mm - k) ∧ tlq _ _ _ (mm - k) ≤ _
    omega
/-- the table holds the tails of the last q places -/
def trow (t : Nat → Int) (o : Nat → Nat) (nn mm : Nat) (L : Nat → Int) (q : Nat) : Prop := ∀ p, nn - q ≤ p → p < nn → ∀ k, k < mm → L (5 * p + k) = tlr t o nn mm (nn - p) k
/-- and of the next place from the last machine on those of c machines -/
def tcol (t : Nat → Int) (o : Nat → Nat) (nn mm : Nat) (L : Nat → Int) (q c : Nat) : Prop := ∀ k, k < mm → mm - c ≤ k → L (5 * (nn - 1 - q) + k) = tlr t o nn mm (q + 1) k
theorem trow_0 {t : Nat → Int} {o : Nat → Nat} {nn mm : Nat} {L : Nat → Int} : trow t o nn mm L 0 := fun p h1 h2 => absurd h2 (by omega)
theorem tcol_0 {t : Nat → Int} {o : Nat → Nat} {nn mm : Nat} {L : Nat → Int} {q : Nat} : tcol t o nn mm L q 0 := fun k h1 h2 => absurd h2 (by omega)
theorem trow_up {t : Nat → Int} {o : Nat → Nat} {nn mm : Nat} {L : Nat → Int} {q j : Nat} {x : Int} (hm : mm ≤ 5) (hj : j < mm) (hq : q < nn) (h : trow t o nn mm L q) : trow t o nn mm (va_up L (5 * (nn - 1 - q) + j) x) q := by
  intro p h1 h2 k hk
  unfold va_up
  rw [if_neg (by omega)]
  exact h p h1 h2 k hk
theorem tcol_s {t : Nat → Int} {o : Nat → Nat} {nn mm : Nat} {L : Nat → Int} {q c : Nat} (hm : mm ≤ 5) (hc : c < mm) (hq : q < nn) (h : tcol t o nn mm L q c) :
    tcol t o nn mm (va_up L (5 * (nn - 1 - q) + (mm - 1 - c)) (tlq (tlr t o nn mm q) (tj t (o (nn - 1 - q))) mm (c + 1))) q (c + 1) := by
  intro k hk h2
  unfold va_up
  by_cases hkc : k = mm - 1 - c
  · subst hkc
    rw [if_pos rfl]
    show tlq _ _ _ _ = tlq _ _ _ (mm - (mm - 1 - c))
    rw [show mm - (mm - 1 - c) = c + 1 by omega]
  · rw [if_neg (by omega)]
    exact h k hk (by omega)
theorem trow_s {t : Nat → Int} {o : Nat → Nat} {nn mm : Nat} {L : Nat → Int} {q : Nat} (hq : q < nn) (h : trow t o nn mm L q) (h2 : tcol t o nn mm L q mm) : trow t o nn mm L (q + 1) := by
  intro p h3 h4 k hk
  by_cases hp : p = nn - 1 - q
  · subst hp
    rw [show nn - (nn - 1 - q) = q + 1 by omega]
    exact h2 k hk (by omega)
  · exact h p (by omega) h4 k hk
/-- the next order: the place behind which it changes, the partner, the turning round -/
def pvt (r : Nat → Nat) : Nat → Nat
  | 0 => 0
  | c + 1 => if r c ≤ r (c + 1) then c + 1 else pvt r c
def ptn (r : Nat → Nat) (P : Nat) : Nat → Nat
  | 0 => 0
  | c + 1 => if c + 1 ≤ P + 1 then c + 1 else if r P ≤ r (c + 1) then c + 1 else ptn r P c
def swp (r : Nat → Nat) (a b : Nat) : Nat → Nat := va_up (va_up r a (r b)) b (r a)
def rvs (r : Nat → Nat) (a b : Nat) : Nat → Nat → Nat
  | 0 => r
  | i + 1 => swp (rvs r a b i) (a + i) (b - i)
def nxT (r : Nat → Nat) (nn : Nat) : Nat → Nat :=
  if pvt r (nn - 1) = 0 then r else rvs (swp r (pvt r (nn - 1) - 1) (ptn r (pvt r (nn - 1) - 1) (nn - 1))) (pvt r (nn - 1)) (nn - 1) ((nn - pvt r (nn - 1)) / 2)
theorem pvt_le (r : Nat → Nat) : ∀ c, pvt r c ≤ c
  | 0 => Nat.le_refl _
  | c + 1 => by
    have := pvt_le r c
    unfold pvt
    split <;> omega
theorem ptn_le (r : Nat → Nat) (P : Nat) : ∀ c, ptn r P c ≤ c
  | 0 => Nat.le_refl _
  | c + 1 => by
    have := ptn_le r P c
    unfold ptn
    split
    · exact Nat.le_refl _
    · split
      · exact Nat.le_refl _
      · omega
theorem ptn_gt (r : Nat → Nat) (P : Nat) : ∀ c, P + 1 ≤ c → P + 1 ≤ ptn r P c
  | c + 1, h => by
    unfold ptn
    split
    · exact h
    · split
      · exact h
      · exact ptn_gt r P c (by omega)
theorem swp_lo {r : Nat → Nat} {a b k : Nat} (h : k ≠ a) (h2 : k ≠ b) : swp r a b k = r k := by
  unfold swp va_up
  rw [if_neg h2, if_neg h]
theorem rvs_lo {r : Nat → Nat} {a b k : Nat} (h : k < a) : ∀ i, a + i ≤ b + 1 → 2 * i ≤ b + 1 - a → rvs r a b i k = r k
  | 0, _, _ => rfl
  | i + 1, h1, h2 => by
    unfold rvs
    rw [swp_lo (by omega) (by omega)]
    exact rvs_lo h i (by omega) (by omega)
theorem nxT_lo {r : Nat → Nat} {nn k : Nat} (h : k + 1 < pvt r (nn - 1)) : nxT r nn k = r k := by
  have h1 := pvt_le r (nn - 1)
  have h2 := ptn_gt r (pvt r (nn - 1) - 1) (nn - 1) (by omega)
  unfold nxT
  rw [if_neg (by omega), rvs_lo (by omega) _ (by omega) (by omega), swp_lo (by omega) (by omega)]
theorem swp_lt {r : Nat → Nat} {a b n N : Nat} (ha : a < n) (hb : b < n) (h : ∀ k, k < n → r k < N) : ∀ k, k < n → swp r a b k < N := by
  intro k hk
  unfold swp va_up
  split
  · exact h a ha
  · split
    · exact h b hb
    · exact h k hk
theorem rvs_lt {r : Nat → Nat} {a b n N : Nat} (hb : b < n) (h : ∀ k, k < n → r k < N) : ∀ i, a + i ≤ b + 1 → ∀ k, k < n → rvs r a b i k < N
  | 0, _ => h
  | i + 1, h1 => by
    unfold rvs
    exact swp_lt (by omega) (by omega) (rvs_lt hb h i (by omega))
theorem nxT_lt {r : Nat → Nat} {nn N : Nat} (h : ∀ k, k < nn → r k < N) : ∀ k, k < nn → nxT r nn k < N := by
  intro k hk
  have h1 := pvt_le r (nn - 1)
  have h2 := ptn_le r (pvt r (nn - 1) - 1) (nn - 1)
  unfold nxT
  split
  · exact h k hk
  · exact rvs_lt (by omega) (swp_lt (by omega) (by omega) h) _ (by omega) k hk
def sq (r : Nat → Nat) (nn : Nat) : Nat → Nat → Nat
  | 0 => r
  | i + 1 => nxT (sq r nn i) nn
theorem sq_lt {r : Nat → Nat} {nn N : Nat} (h : ∀ k, k < nn → r k < N) : ∀ i k, k < nn → sq r nn i k < N
  | 0 => h
  | i + 1 => nxT_lt (sq_lt h i)
/-- the first i numbers, then r -/
def idr (r : Nat → Nat) (i : Nat) : Nat → Nat := fun k => if k < i then k else r k
theorem idr_0 (r : Nat → Nat) : idr r 0 = r := by
  funext k
  unfold idr
  rw [if_neg (by omega)]
theorem idr_s {r : Nat → Nat} {i : Nat} : va_up (idr r i) i i = idr r (i + 1) := by
  funext k
  unfold va_up idr
  by_cases h : k = i
  · subst h
    rw [if_pos rfl, if_pos (by omega)]
  · rw [if_neg h]
    by_cases h2 : k < i
    · rw [if_pos h2, if_pos (by omega)]
    · rw [if_neg h2, if_neg (by omega)]
/-- the least of g 0 .. , how many have it, the first that has it -/
def bst (g : Nat → Int) : Nat → Int × Nat × Nat
  | 0 => (0, 0, 0)
  | i + 1 => if (bst g i).2.1 = 0 ∨ g i < (bst g i).1 then (g i, 1, i) else if g i = (bst g i).1 then ((bst g i).1, (bst g i).2.1 + 1, (bst g i).2.2) else bst g i
theorem bst_rg {g : Nat → Int} {K : Int} (hK : 0 ≤ K) (h : ∀ i, 0 ≤ g i ∧ g i ≤ K) : ∀ i, (0 ≤ (bst g i).1 ∧ (bst g i).1 ≤ K) ∧ (bst g i).2.1 ≤ i ∧ (0 < i → (bst g i).2.2 < i)
  | 0 => ⟨⟨Int.le_refl _, hK⟩, Nat.le_refl _, fun h => absurd h (Nat.lt_irrefl _)⟩
  | i + 1 => by
    have h1 := bst_rg hK h i
    have h2 := h i
    unfold bst
    split
    · exact ⟨h2, by simp, fun _ => by simp⟩
    · rename_i hn
      have hi : 0 < i := by
        rcases Nat.eq_zero_or_pos i with q | q
        · subst q
          exact absurd (Or.inl rfl) hn
        · exact q
      split
      · exact ⟨h1.1, by simp only; omega, fun _ => by have := h1.2.2 hi; simp only; omega⟩
      · exact ⟨h1.1, by omega, fun _ => by have := h1.2.2 hi; omega⟩
/-- the first place with the least -/
def amin (g : Nat → Int) : Nat → Nat
  | 0 => 0
  | i + 1 => if g (i + 1) < g (amin g i) then i + 1 else amin g i
theorem amin_le (g : Nat → Int) : ∀ i, amin g i ≤ i
  | 0 => Nat.le_refl _
  | i + 1 => by
    have := amin_le g i
    unfold amin
    split <;> omega
theorem shf_lt {f : Nat → Nat} {a b n N : Nat} (ha : a < n) (hb : b < n) (h : ∀ k, k < n → f k < N) : ∀ k, k < n → shf f a b k < N := by
  intro k hk
  unfold shf va_up sh2 sh1
  split
  · exact h a ha
  · split
    · split
      · exact h _ (by omega)
      · exact h _ (by omega)
    · split
      · exact h _ (by omega)
      · exact h _ (by omega)
theorem shf_cg {f g : Nat → Nat} {a b n : Nat} (ha : a < n) (hb : b < n) (h : ∀ k, k < n → f k = g k) : ∀ k, k < n → shf f a b k = shf g a b k := by
  intro k hk
  unfold shf va_up sh2 sh1
  split
  · exact h a ha
  · split
    · split
      · exact h _ (by omega)
      · exact h _ (by omega)
    · split
      · exact h _ (by omega)
      · exact h _ (by omega)
theorem cpy_in {f g : Nat → Nat} {n k : Nat} (h : k < n) : va_cpy f g 0 0 n k = f k := by
  unfold va_cpy
  rw [if_pos (by omega), show 0 + (k - 0) = k by omega]
theorem nx_pos (f : Nat → Nat) (a b k : Nat) : shf f a b k = if k = b then f a else if a ≤ k ∧ k < b then f (k + 1) else if b < k ∧ k ≤ a then f (k - 1) else f k := by
  unfold shf va_up sh2 sh1
  by_cases h : k = b
  · rw [if_pos h, if_pos h]
  · rw [if_neg h, if_neg h]
    by_cases h1 : a ≤ k ∧ k < b
    · rw [if_pos h1]
      by_cases h2 : a < k + (a - b) ∧ k ≤ a
      · omega
      · rw [if_neg h2, if_pos (by omega)]
    · rw [if_neg h1]
      by_cases h2 : b < k ∧ k ≤ a
      · rw [if_pos h2, if_pos (by omega)]
        rw [if_neg (by omega)]
      · rw [if_neg h2, if_neg (by omega), if_neg (by omega)]
def mkS (t : Nat → Int) (mm : Nat) (o : Nat → Nat) (a c : Nat) (q : Nat) : Int := mk 0 mm t (shf o a q) c
theorem mkS_rg {t : Nat → Int} {mm : Nat} {o : Nat → Nat} {a c : Nat} (hm : 1 ≤ mm ∧ mm ≤ 5) (ht : ∀ k, 0 ≤ t k ∧ t k ≤ 99) (hc : c ≤ 7) : ∀ q, 0 ≤ mkS t mm o a c q ∧ mkS t mm o a c q ≤ 3465 := fun q => mk_rg hm.1 hm.2 ht hc
theorem gb_t {b : Bool} (h : b = true) : iI 1 = iI (if b = true then 1 else 0) := by rw [if_pos h]
theorem gb_f {b : Bool} (h : b = false) : iI 0 = iI (if b = true then 1 else 0) := by rw [h]; rfl
