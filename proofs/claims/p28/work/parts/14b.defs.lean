/-! what the reference's walks ask -/
theorem frm_e0 {v mm k : Nat} {f g t : Nat → Int} {o : Nat → Nat} : frm v mm (prv f 0) (epv t o g 0) k = 0 := by
  unfold frm prv epv
  split <;> rfl
theorem frm_e {v mm k q : Nat} {f g t : Nat → Int} {o : Nat → Nat} (hq : q = 0) : frm v mm (prv f q) (epv t o g q) k = 0 := by
  rw [hq]
  exact frm_e0
theorem mrows_e {v mm : Nat} {t : Nat → Int} {o : Nat → Nat} {B : Nat → Int} {c p k : Nat} (h : mrows v mm t o B c) (hp : p < c) (hk : k < mm) : B (5 * p + k) + t (5 * o p + k) = (row v mm t o (p + 1)).2 k := by
  rw [h p hp k hk, row_e]
theorem mrows_mk {v mm : Nat} {t : Nat → Int} {o : Nat → Nat} {B : Nat → Int} {c : Nat} (hm : 1 ≤ mm) (hc : 1 ≤ c) (h : mrows v mm t o B c) : B (5 * (c - 1) + (mm - 1)) + t (5 * o (c - 1) + (mm - 1)) = mk v mm t o c := by
  rw [mrows_e h (by omega) (by omega), show c - 1 + 1 = c by omega]
  rfl
theorem mrows_s3 {v mm : Nat} {t : Nat → Int} {o : Nat → Nat} {B : Nat → Int} {c : Nat} (hm : 1 ≤ mm ∧ mm ≤ 5) (hv : v = 2) (h : mrows v mm t o B c) : mrows v mm t o (ptx (pt B (mB v mm t c o B) (5 * c) mm) c mm (tj t (o c)) (pt B (mB v mm t c o B) (5 * c) mm (5 * c + (mm - 1))) (mm - 1)) (c + 1) := by
  subst hv
  exact mrows_s2 hm h
theorem cn_t {P : Nat → Bool} {i : Nat} (h : P i = true) : cn P (i + 1) = cn P i + 1 := by
  show _ + _ = _
  rw [if_pos h]
theorem cn_f {P : Nat → Bool} {i : Nat} (h : P i = false) : cn P (i + 1) = cn P i := by
  show _ + _ = _
  rw [if_neg (by rw [h]; simp)]
  rfl
theorem ah2_i (t : Nat → Int) (i : Nat) : ah2 t i i = false := if_pos rfl
theorem ah2_n {t : Nat → Int} {i j : Nat} (h : j ≠ i) : ah2 t i j = ahd t j i := if_neg h
theorem rk_lt {t : Nat → Int} {nn N : Nat} {o : Nat → Nat} (h : ∀ k, k < nn → o k < N) (hn : nn ≤ N) : ∀ i, i ≤ nn → ∀ k, k < nn → rk t nn o i k < N
  | 0, _ => h
  | i + 1, hi => up_lt (Nat.lt_of_lt_of_le (show i < nn by omega) hn) (rk_lt h hn i (by omega))
/-- the least from afar, and where -/
def fmn (g : Nat → Int) : Nat → Int × Nat
  | 0 => (1000000, 0)
  | p + 1 => if g p < (fmn g p).1 then (g p, p) else fmn g p
theorem fmn_y {g : Nat → Int} {p : Nat} (h : g p < (fmn g p).1) : fmn g (p + 1) = (g p, p) := if_pos h
theorem fmn_n {g : Nat → Int} {p : Nat} (h : ¬ g p < (fmn g p).1) : fmn g (p + 1) = fmn g p := if_neg h
theorem fmn_rg {g : Nat → Int} {K : Int} (hK : K ≤ 1000000) (h : ∀ i, 0 ≤ g i ∧ g i ≤ K) : ∀ p, (0 ≤ (fmn g p).1 ∧ (fmn g p).1 ≤ 1000000) ∧ (fmn g p).2 ≤ p - 1
  | 0 => ⟨⟨by show (0 : Int) ≤ 1000000; omega, by show (1000000 : Int) ≤ 1000000; omega⟩, Nat.le_refl _⟩
  | p + 1 => by
    have h1 := fmn_rg hK h p
    have h2 := h p
    by_cases hc : g p < (fmn g p).1
    · rw [fmn_y hc]
      exact ⟨⟨h2.1, by show g p ≤ _; omega⟩, by show p ≤ _; omega⟩
    · rw [fmn_n hc]
      exact ⟨h1.1, by omega⟩
/-- a job put into a list -/
def pin (r : Nat → Nat) (c p j : Nat) : Nat → Nat := va_up (sh2 r c (c - p)) p j
def rG (t : Nat → Int) (mm : Nat) (r : Nat → Nat) (c j p : Nat) : Int := mk 0 mm t (pin r c p j) (c + 1)
theorem rG_rg {t : Nat → Int} {mm : Nat} {r : Nat → Nat} {c j : Nat} (hm : 1 ≤ mm ∧ mm ≤ 5) (ht : ∀ k, 0 ≤ t k ∧ t k ≤ 99) (hc : c + 1 ≤ 7) : ∀ p, 0 ≤ rG t mm r c j p ∧ rG t mm r c j p ≤ 3465 := fun p => mk_rg hm.1 hm.2 ht hc
def rin (t : Nat → Int) (mm nn : Nat) : Nat → Nat → Nat
  | 0 => nId
  | i + 1 => pin (rin t mm nn i) i (fmn (rG t mm (rin t mm nn i) i (bsr t mm nn i nn)) (i + 1)).2 (bsr t mm nn i nn)
theorem pin_at {r : Nat → Nat} {c p j k : Nat} (hp : p ≤ c) : pin r c p j k = if k = p then j else if p < k ∧ k ≤ c then r (k - 1) else r k := by
  unfold pin va_up sh2
  by_cases h : k = p
  · rw [if_pos h, if_pos h]
  · rw [if_neg h, if_neg h]
    by_cases h2 : p < k ∧ k ≤ c
    · rw [if_pos h2, if_pos (by omega)]
    · rw [if_neg h2, if_neg (by omega)]
theorem pin_cg {r r' : Nat → Nat} {c p j : Nat} (hp : p ≤ c) (h : eqn c r r') : eqn (c + 1) (pin r c p j) (pin r' c p j) := by
  intro k hk
  rw [pin_at hp, pin_at hp]
  by_cases h1 : k = p
  · rw [if_pos h1, if_pos h1]
  · rw [if_neg h1, if_neg h1]
    by_cases h2 : p < k ∧ k ≤ c
    · rw [if_pos h2, if_pos h2]
      exact h _ (by omega)
    · rw [if_neg h2, if_neg h2]
      exact h _ (by omega)
theorem pin_lt {r : Nat → Nat} {c p j N : Nat} (hp : p ≤ c) (hj : j < N) (h : ∀ k, k < c → r k < N) : ∀ k, k < c + 1 → pin r c p j k < N := by
  intro k hk
  rw [pin_at hp]
  by_cases h1 : k = p
  · rw [if_pos h1]
    exact hj
  · rw [if_neg h1]
    by_cases h2 : p < k ∧ k ≤ c
    · rw [if_pos h2]
      exact h _ (by omega)
    · rw [if_neg h2]
      exact h _ (by omega)
/-- put in and taken out again -/
theorem pin_out {r r' : Nat → Nat} {c p j : Nat} (hp : p ≤ c) (h : eqn c r r') : eqn c (sh1 (pin r c p j) p (c - p)) r' := by
  intro k hk
  unfold sh1
  by_cases h1 : p ≤ k ∧ k < p + (c - p)
  · rw [if_pos h1, pin_at hp, if_neg (by omega), if_pos (by omega)]
    exact h k hk
  · rw [if_neg h1, pin_at hp, if_neg (by omega), if_neg (by omega)]
    exact h k hk
theorem rG_cg {t : Nat → Int} {mm : Nat} {r r' : Nat → Nat} {c j p : Nat} (hp : p ≤ c) (h : eqn c r r') : mk 0 mm t (pin r c p j) (c + 1) = rG t mm r' c j p := mk_cg (pin_cg hp h)
theorem rin_lt {t : Nat → Int} {mm nn : Nat} (hm : 1 ≤ mm ∧ mm ≤ 5) (ht : ∀ k, 0 ≤ t k ∧ t k ≤ 99) (hn : nn ≤ 7) : ∀ i, i ≤ nn → ∀ k, k < i → rin t mm nn i k < 7
  | 0, _ => fun k hk => absurd hk (Nat.not_lt_zero _)
  | i + 1, hi => pin_lt (by have := (fmn_rg (by omega) (rG_rg (r := rin t mm nn i) (j := bsr t mm nn i nn) hm ht (show i + 1 ≤ 7 by omega)) (i + 1)).2; omega) (by have := bsr_le t mm nn i nn; omega) (rin_lt hm ht hn i (by omega))
/-- the reference's best move -/
def rmF (t : Nat → Int) (mm : Nat) (o : Nat → Nat) (nn a b : Nat) : Int := if a = b then 1000000 else mkS t mm o a nn b
def rmS (t : Nat → Int) (mm : Nat) (o : Nat → Nat) (nn i : Nat) : Int × Nat × Nat := otr (rmF t mm o nn) nn (1000000, 0, 0) i
def rmT (t : Nat → Int) (mm : Nat) (o : Nat → Nat) (nn i j : Nat) : Int × Nat × Nat := inr (rmF t mm o nn) i (rmS t mm o nn i) j
theorem rmF_rg {t : Nat → Int} {mm : Nat} {o : Nat → Nat} {nn : Nat} (hm : 1 ≤ mm ∧ mm ≤ 5) (ht : ∀ k, 0 ≤ t k ∧ t k ≤ 99) (hn : nn ≤ 7) : ∀ a b, 0 ≤ rmF t mm o nn a b ∧ rmF t mm o nn a b ≤ 1000000 := fun a b => by
  unfold rmF
  have := mkS_rg (o := o) (a := a) (c := nn) hm ht hn b
  split <;> omega
theorem rmS_ok {t : Nat → Int} {mm : Nat} {o : Nat → Nat} {nn : Nat} (hm : 1 ≤ mm ∧ mm ≤ 5) (ht : ∀ k, 0 ≤ t k ∧ t k ≤ 99) (hn : nn ≤ 7) {i : Nat} (hi : i ≤ nn) : okS nn 1000000 1000000 (rmS t mm o nn i) := otr_ok (rmF_rg hm ht hn) ⟨⟨by show (0 : Int) ≤ 1000000; omega, Int.le_refl _⟩, fun h => absurd h (Int.lt_irrefl _), Nat.zero_le _, Nat.zero_le _⟩ i hi
theorem rmT_ok {t : Nat → Int} {mm : Nat} {o : Nat → Nat} {nn : Nat} (hm : 1 ≤ mm ∧ mm ≤ 5) (ht : ∀ k, 0 ≤ t k ∧ t k ≤ 99) (hn : nn ≤ 7) {i j : Nat} (hi : i < nn) (hj : j ≤ nn) : okS nn 1000000 1000000 (rmT t mm o nn i j) := inr_ok (rmF_rg hm ht hn) hi (rmS_ok hm ht hn (by omega)) j hj
theorem rmT_y {t : Nat → Int} {mm : Nat} {o : Nat → Nat} {nn i j : Nat} (h : rmF t mm o nn i j < (rmT t mm o nn i j).1) : rmT t mm o nn i (j + 1) = (rmF t mm o nn i j, i, j) := if_pos h
theorem rmT_n {t : Nat → Int} {mm : Nat} {o : Nat → Nat} {nn i j : Nat} (h : ¬ rmF t mm o nn i j < (rmT t mm o nn i j).1) : rmT t mm o nn i (j + 1) = rmT t mm o nn i j := if_neg h
def rmO (t : Nat → Int) (mm nn : Nat) (o : Nat → Nat) : Nat → Nat := if (rmS t mm o nn nn).1 < mk 0 mm t o nn then shf o (rmS t mm o nn nn).2.1 (rmS t mm o nn nn).2.2 else o
def rmV (t : Nat → Int) (mm nn : Nat) (o : Nat → Nat) : Int := if (rmS t mm o nn nn).1 < mk 0 mm t o nn then mk 0 mm t o nn - (rmS t mm o nn nn).1 else 0
/-- the least of a run -/
def pbm (g : Nat → Int) : Nat → Int
  | 0 => 1000000
  | y + 1 => min (pbm g y) (g y)
theorem pbm_rg {g : Nat → Int} (h : ∀ i, 0 ≤ g i) : ∀ y, 0 ≤ pbm g y ∧ pbm g y ≤ 1000000
  | 0 => ⟨by show (0 : Int) ≤ 1000000; omega, Int.le_refl _⟩
  | y + 1 => by
    have h1 := pbm_rg h y
    have h2 := h y
    show 0 ≤ min _ _ ∧ min _ _ ≤ _
    omega
/-- the reference's search -/
def rbs (g : Nat → Int) : Nat → Int × Nat × Nat
  | 0 => (1000000, 0, 0)
  | y + 1 => if g y < (rbs g y).1 then (g y, 1, y) else if g y = (rbs g y).1 then ((rbs g y).1, (rbs g y).2.1 + 1, (rbs g y).2.2) else rbs g y
theorem rbs_a {g : Nat → Int} {y : Nat} (h : g y < (rbs g y).1) : rbs g (y + 1) = (g y, 1, y) := if_pos h
theorem rbs_b {g : Nat → Int} {y : Nat} (h : g y = (rbs g y).1) : rbs g (y + 1) = ((rbs g y).1, (rbs g y).2.1 + 1, (rbs g y).2.2) := (if_neg (by omega)).trans (if_pos h)
theorem rbs_c {g : Nat → Int} {y : Nat} (h : (rbs g y).1 < g y) : rbs g (y + 1) = rbs g y := (if_neg (by omega)).trans (if_neg (by omega))
theorem rbs_n {g : Nat → Int} {y : Nat} (h : (rbs g y).1 ≤ g y) : (rbs g (y + 1)).1 = (rbs g y).1 ∧ (rbs g (y + 1)).2.2 = (rbs g y).2.2 := by
  by_cases h2 : g y = (rbs g y).1
  · rw [rbs_b h2]
    exact ⟨rfl, rfl⟩
  · rw [rbs_c (by omega)]
    exact ⟨rfl, rfl⟩
theorem rbs_bst {g : Nat → Int} (h : ∀ i, 0 ≤ g i ∧ g i ≤ 3465) : ∀ y, rbs g (y + 1) = bst g (y + 1)
  | 0 => by
    rw [rbs_a (by have := h 0; show g 0 < 1000000; omega)]
    exact (if_pos (Or.inl rfl)).symm
  | y + 1 => by
    have h1 := rbs_bst h y
    have h2 := bst_pos (g := g) (i := y + 1) (by omega)
    by_cases c1 : g (y + 1) < (rbs g (y + 1)).1
    · rw [rbs_a c1]
      exact (if_pos (Or.inr (by rw [← h1]; exact c1))).symm
    · by_cases c2 : g (y + 1) = (rbs g (y + 1)).1
      · rw [rbs_b c2, h1]
        refine ((if_neg ?_).trans (if_pos ?_)).symm
        · rw [← h1] at h2 ⊢
          omega
        · rw [← h1]
          exact c2
      · rw [rbs_c (by omega), h1]
        refine ((if_neg ?_).trans (if_neg ?_)).symm
        · rw [← h1] at h2 ⊢
          omega
        · rw [← h1]
          exact c2
theorem fb_a {g : Nat → Int} {s : Nat → Nat → Nat} {J : Nat → Nat} {y nn : Nat} (h : g y < (rbs g y).1) : eqn nn (ovr (s y) J nn) (s (rbs g (y + 1)).2.2) := by
  rw [rbs_a h]
  exact fun k hk => ovr_in hk
theorem fb_b {g : Nat → Int} {s : Nat → Nat → Nat} {J : Nat → Nat} {y z nn : Nat} (h : (rbs g y).1 ≤ g y) (hg : g y ≤ 3465) (hz : z = 0) (hF : 0 < y → eqn nn J (s (rbs g y).2.2)) : eqn nn (ovr (s y) J z) (s (rbs g (y + 1)).2.2) := by
  rw [(rbs_n h).2, hz, ovr_0]
  refine hF ((Nat.eq_zero_or_pos y).elim (fun q => ?_) id)
  subst q
  exact absurd (show (1000000 : Int) ≤ g 0 from h) (by omega)
/-- the times that a narrower line keeps -/
def tzm (t : Nat → Int) (w i : Nat) : Nat → Int := fun x => if x < i ∧ w ≤ x % 5 then 0 else t x
theorem tzm_0 (t : Nat → Int) (w : Nat) : tzm t w 0 = t := by
  funext x
  unfold tzm
  rw [if_neg (by omega)]
theorem tzm_at {t : Nat → Int} {w i : Nat} : tzm t w i i = t i := by
  unfold tzm
  rw [if_neg (by omega)]
theorem tzm_s {t : Nat → Int} {w i : Nat} {x : Int} (h : x = if i % 5 < w then t i else 0) : va_up (tzm t w i) i x = tzm t w (i + 1) := by
  funext k
  unfold va_up tzm
  by_cases hk : k = i
  · subst hk
    rw [if_pos rfl, h]
    by_cases h2 : k % 5 < w
    · rw [if_pos h2, if_neg (by omega)]
    · rw [if_neg h2, if_pos (by omega)]
  · rw [if_neg hk]
    by_cases h2 : k < i ∧ w ≤ k % 5
    · rw [if_pos h2, if_pos (by omega)]
    · rw [if_neg h2, if_neg (by omega)]
theorem rem5 {i : Nat} (h : i < 35) : iI (i : Int) - iI (i : Int) / iI 5 * iI 5 = iI ((i % 5 : Nat) : Int) := (by decide +kernel : ∀ k : Fin 35, iI (k.1 : Int) - iI (k.1 : Int) / iI 5 * iI 5 = iI ((k.1 % 5 : Nat) : Int)) ⟨i, h⟩
theorem ite_t {P : Prop} [Decidable P] (h : P) : iI 1 = iI (if P then 1 else 0) := by rw [if_pos h]
