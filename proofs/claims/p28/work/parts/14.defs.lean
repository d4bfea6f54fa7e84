/-! the reference: its starts, row by row -/
def epv (t : Nat → Int) (o : Nat → Nat) (B : Nat → Int) (q : Nat) : Nat → Int := fun k => if q = 0 then 0 else B (5 * (q - 1) + k) + t (5 * o (q - 1) + k)
def mrows (v mm : Nat) (t : Nat → Int) (o : Nat → Nat) (B : Nat → Int) (c : Nat) : Prop := ∀ p, p < c → ∀ k, k < mm → B (5 * p + k) = (row v mm t o (p + 1)).1 k
def mB (v mm : Nat) (t : Nat → Int) (q : Nat) (o : Nat → Nat) (B : Nat → Int) : Nat → Int := nbg v mm (tj t (o q)) (prv B q) (epv t o B q) 0
def plv (t : Nat → Int) (mm : Nat) (x : Int) : Nat → Int
  | 0 => x
  | c + 1 => plv t mm x c - t (mm - 1 - (c + 1))
def ptx (B : Nat → Int) (q mm : Nat) (t : Nat → Int) (x : Int) (c : Nat) : Nat → Int := fun y => if 5 * q + (mm - 1 - c) ≤ y ∧ y < 5 * q + mm then plv t mm x (5 * q + mm - 1 - y) else B y
theorem ptx_0 {B : Nat → Int} {q mm : Nat} {t : Nat → Int} (hm : 1 ≤ mm) : ptx B q mm t (B (5 * q + (mm - 1))) 0 = B := by
  funext y
  unfold ptx
  by_cases h : 5 * q + (mm - 1 - 0) ≤ y ∧ y < 5 * q + mm
  · rw [if_pos h, show 5 * q + mm - 1 - y = 0 by omega, show y = 5 * q + (mm - 1) by omega]
    rfl
  · rw [if_neg h]
theorem ptx_s {B : Nat → Int} {q mm c : Nat} {t : Nat → Int} {x : Int} (hc : c + 1 < mm) : va_up (ptx B q mm t x c) (5 * q + (mm - 2 - c)) (plv t mm x c - t (mm - 2 - c)) = ptx B q mm t x (c + 1) := by
  funext y
  unfold va_up ptx
  by_cases h : y = 5 * q + (mm - 2 - c)
  · subst h
    rw [if_pos rfl, if_pos (by omega), show 5 * q + mm - 1 - (5 * q + (mm - 2 - c)) = c + 1 by omega]
    show _ = plv t mm x c - t (mm - 1 - (c + 1))
    rw [show mm - 1 - (c + 1) = mm - 2 - c by omega]
  · rw [if_neg h]
    by_cases h2 : 5 * q + (mm - 1 - c) ≤ y ∧ y < 5 * q + mm
    · rw [if_pos h2, if_pos (by omega)]
    · rw [if_neg h2, if_neg (by omega)]
theorem ptx_at {B : Nat → Int} {q mm c : Nat} {t : Nat → Int} {x : Int} (hc : c < mm) : ptx B q mm t x c (5 * q + (mm - 1 - c)) = plv t mm x c := by
  unfold ptx
  rw [if_pos (by omega), show 5 * q + mm - 1 - (5 * q + (mm - 1 - c)) = c by omega]
theorem row_e {v mm : Nat} {t : Nat → Int} {o : Nat → Nat} {p k : Nat} : (row v mm t o (p + 1)).2 k = (row v mm t o (p + 1)).1 k + t (5 * o p + k) := rfl
theorem mrows_0 {v mm : Nat} {t : Nat → Int} {o : Nat → Nat} {B : Nat → Int} : mrows v mm t o B 0 := fun _ h => absurd h (Nat.not_lt_zero _)
theorem mrows_prv {v mm : Nat} {t : Nat → Int} {o : Nat → Nat} {B : Nat → Int} {c : Nat} (h : mrows v mm t o B c) {k : Nat} (hk : k < mm) : prv B c k = (row v mm t o c).1 k ∧ epv t o B c k = (row v mm t o c).2 k := by
  cases c with
  | zero => exact ⟨rfl, rfl⟩
  | succ c =>
    unfold prv epv
    rw [if_neg (by omega), if_neg (by omega), Nat.add_sub_cancel, row_e, h c (by omega) k hk]
    exact ⟨rfl, rfl⟩
theorem mrows_rg {v mm : Nat} {t : Nat → Int} {o : Nat → Nat} {B : Nat → Int} {c : Nat} (hm : mm ≤ 5) (ht : ∀ k, 0 ≤ t k ∧ t k ≤ 99) (hc : c ≤ 7) (h : mrows v mm t o B c) : ∀ k, k < mm → (0 ≤ prv B c k ∧ prv B c k ≤ 1000000) ∧ 0 ≤ epv t o B c k ∧ epv t o B c k ≤ 1000000 := by
  intro k hk
  rw [(mrows_prv h hk).1, (mrows_prv h hk).2]
  have := row_rg (v := v) (o := o) hm ht c k hk
  omega
theorem mrows_cg {v mm : Nat} {t : Nat → Int} {o o' : Nat → Nat} {B : Nat → Int} {c : Nat} (h : mrows v mm t o B c) (e : ∀ k, k < c → o k = o' k) : mrows v mm t o' B c := by
  intro p hp
  rw [← row_cg (o := o) (fun k hk => e k (by omega))]
  exact h p hp
theorem epv_pt {t : Nat → Int} {o : Nat → Nat} {f g : Nat → Int} {p i k : Nat} (h : k < 5) : epv t o (pt f g (5 * p) i) p k = epv t o f p k := by
  unfold epv
  by_cases hp : p = 0
  · rw [if_pos hp, if_pos hp]
  · rw [if_neg hp, if_neg hp, pt_out (by omega)]
theorem frm_ptm {v mm : Nat} {t : Nat → Int} {o : Nat → Nat} {B g : Nat → Int} {p i k : Nat} (hm : mm ≤ 5) (hk : k < mm) : frm v mm (prv (pt B g (5 * p) i) p) (epv t o (pt B g (5 * p) i) p) k = frm v mm (prv B p) (epv t o B p) k := by
  unfold frm
  split
  · rw [prv_pt (by omega)]
  · rw [epv_pt (by omega)]
theorem mom_z {mm : Nat} {t b e : Nat → Int} {S : Int} (hS : ∀ k, k < mm → e k - wyC t k ≤ S) : ∀ k, k ≤ mm → mom 2 mm t b e S k = S + wyC t k
  | 0, _ => by
    unfold mom wyC
    omega
  | k + 1, hk => by
    have h1 := mom_z (b := b) hS k (by omega)
    have h2 := hS k (by omega)
    show max (mom 2 mm t b e S k) (frm 2 mm b e k) + t k = S + (wyC t k + t k)
    rw [h1, frm_2]
    omega
theorem mom_w {mm : Nat} {t b e : Nat → Int} : ∀ k, mom 2 mm t b e 0 k = stC t e k + wyC t k
  | 0 => by
    unfold mom stC wyC
    omega
  | k + 1 => by
    have h1 := mom_w (mm := mm) (t := t) (b := b) (e := e) k
    show max (mom 2 mm t b e 0 k) (frm 2 mm b e k) + t k = max (stC t e k) (e k - wyC t k) + (wyC t k + t k)
    rw [h1, frm_2]
    omega
theorem stC_mono {t e : Nat → Int} : ∀ n k, k ≤ n → stC t e k ≤ stC t e n
  | 0, k, h => by
    rw [show k = 0 by omega]
    exact Int.le_refl _
  | n + 1, k, h => by
    by_cases hk : k = n + 1
    · rw [hk]
      exact Int.le_refl _
    · have := stC_mono (t := t) (e := e) n k (by omega)
      show _ ≤ max _ _
      omega
theorem stC_ge {t e : Nat → Int} {n k : Nat} (h : k < n) : e k - wyC t k ≤ stC t e n := by
  have h1 := stC_mono (t := t) (e := e) n (k + 1) (by omega)
  have h2 : stC t e (k + 1) = max (stC t e k) (e k - wyC t k) := rfl
  omega
theorem plv_w {mm : Nat} {t : Nat → Int} {S : Int} : ∀ c, c < mm → plv t mm (S + wyC t (mm - 1)) c = S + wyC t (mm - 1 - c)
  | 0, _ => rfl
  | c + 1, h => by
    have h1 := plv_w (mm := mm) (t := t) (S := S) c (by omega)
    have h2 : wyC t (mm - 1 - (c + 1) + 1) = wyC t (mm - 1 - (c + 1)) + t (mm - 1 - (c + 1)) := rfl
    rw [show mm - 1 - (c + 1) + 1 = mm - 1 - c by omega] at h2
    unfold plv
    rw [h1]
    omega
/-- pulled together: as if begun so late -/
theorem plv_nbg {mm : Nat} {t b e : Nat → Int} {k : Nat} (hk : k < mm) : plv t mm (nbg 2 mm t b e 0 (mm - 1)) (mm - 1 - k) = nbg 2 mm t b e (stC t e mm) k := by
  have e1 : nbg 2 mm t b e 0 (mm - 1) = stC t e mm + wyC t (mm - 1) := by
    obtain ⟨n, rfl⟩ : ∃ n, mm = n + 1 := ⟨mm - 1, by omega⟩
    unfold nbg
    rw [Nat.add_sub_cancel, mom_w, frm_2]
    show _ = max (stC t e n) (e n - wyC t n) + _
    omega
  have e2 : nbg 2 mm t b e (stC t e mm) k = stC t e mm + wyC t k := by
    have h2 := stC_ge (t := t) (e := e) hk
    unfold nbg
    rw [mom_z (fun k hk => stC_ge hk) k (by omega), frm_2]
    omega
  rw [e1, e2, plv_w _ (by omega), show mm - 1 - (mm - 1 - k) = k by omega]
theorem mB_row {v mm : Nat} {t : Nat → Int} {o : Nat → Nat} {B : Nat → Int} {c : Nat} (hv : v ≠ 2) (h : mrows v mm t o B c) {k : Nat} (hk : k < mm) : mB v mm t c o B k = (row v mm t o (c + 1)).1 k := by
  have h1 := fun k hk => mrows_prv h (k := k) hk
  unfold mB nbg
  rw [mom_cg h1 k (by omega), frm_cg h1 hk]
  show _ = nbg _ _ _ _ _ _ _
  unfold m0v nbg
  rw [if_neg hv]
theorem mB_row2 {mm : Nat} {t : Nat → Int} {o : Nat → Nat} {B : Nat → Int} {c : Nat} (h : mrows 2 mm t o B c) {k : Nat} (hk : k < mm) : plv (tj t (o c)) mm (mB 2 mm t c o B (mm - 1)) (mm - 1 - k) = (row 2 mm t o (c + 1)).1 k := by
  have h1 := fun k hk => mrows_prv h (k := k) hk
  unfold mB
  rw [plv_nbg hk]
  unfold nbg
  rw [stC_cg (fun k hk => (h1 k hk).2) mm (Nat.le_refl _), mom_cg h1 k (by omega), frm_cg h1 hk]
  rfl
theorem mrows_s {v mm : Nat} {t : Nat → Int} {o : Nat → Nat} {B : Nat → Int} {c : Nat} (hm : mm ≤ 5) (hv : v ≠ 2) (h : mrows v mm t o B c) : mrows v mm t o (pt B (mB v mm t c o B) (5 * c) mm) (c + 1) := by
  intro p hp k hk
  by_cases hpc : p = c
  · subst hpc
    rw [pt_in hk]
    exact mB_row hv h hk
  · rw [pt_out (by omega)]
    exact h p (by omega) k hk
theorem mrows_s2 {mm : Nat} {t : Nat → Int} {o : Nat → Nat} {B : Nat → Int} {c : Nat} (hm : 1 ≤ mm ∧ mm ≤ 5) (h : mrows 2 mm t o B c) : mrows 2 mm t o (ptx (pt B (mB 2 mm t c o B) (5 * c) mm) c mm (tj t (o c)) (pt B (mB 2 mm t c o B) (5 * c) mm (5 * c + (mm - 1))) (mm - 1)) (c + 1) := by
  intro p hp k hk
  by_cases hpc : p = c
  · subst hpc
    unfold ptx
    rw [if_pos (by omega), pt_in (by omega), show 5 * p + mm - 1 - (5 * p + k) = mm - 1 - k by omega]
    exact mB_row2 h hk
  · unfold ptx
    rw [if_neg (by omega), pt_out (by omega)]
    exact h p (by omega) k hk
/-- the first n of one list, then another -/
def ovr (f g : Nat → Nat) (n : Nat) : Nat → Nat := fun k => if k < n then f k else g k
theorem ovr_0 (f g : Nat → Nat) : ovr f g 0 = g := by
  funext k
  unfold ovr
  rw [if_neg (by omega)]
theorem ovr_s {f g : Nat → Nat} {i : Nat} : va_up (ovr f g i) i (f i) = ovr f g (i + 1) := by
  funext k
  unfold va_up ovr
  by_cases h : k = i
  · subst h
    rw [if_pos rfl, if_pos (by omega)]
  · rw [if_neg h]
    by_cases h2 : k < i
    · rw [if_pos h2, if_pos (by omega)]
    · rw [if_neg h2, if_neg (by omega)]
theorem ovr_in {f g : Nat → Nat} {n k : Nat} (h : k < n) : ovr f g n k = f k := if_pos h
/-- two lists are the same on the first n -/
def eqn (n : Nat) (f g : Nat → Nat) : Prop := ∀ k, k < n → f k = g k
theorem eqn_up {n a : Nat} {f g g2 : Nat → Nat} {x : Nat} (h : eqn n f g) (hg : va_up g a x = g2) : eqn n (va_up f a x) g2 := by
  intro k hk
  rw [← hg]
  unfold va_up
  split
  · rfl
  · exact h k hk
/-- ahead by the rule -/
def ahd (t : Nat → Int) (i j : Nat) : Bool :=
  if t (5 * i + 0) ≤ t (5 * i + 1) then (if t (5 * j + 0) ≤ t (5 * j + 1) then (if t (5 * i + 0) < t (5 * j + 0) ∨ (t (5 * i + 0) = t (5 * j + 0) ∧ i < j) then true else false) else true)
  else (if t (5 * j + 0) ≤ t (5 * j + 1) then false else (if t (5 * j + 1) < t (5 * i + 1) ∨ (t (5 * j + 1) = t (5 * i + 1) ∧ i < j) then true else false))
def cn (P : Nat → Bool) : Nat → Nat
  | 0 => 0
  | i + 1 => cn P i + (if P i = true then 1 else 0)
theorem cn_le (P : Nat → Bool) : ∀ n, cn P n ≤ n
  | 0 => Nat.le_refl _
  | n + 1 => by
    have := cn_le P n
    unfold cn
    split <;> omega
theorem cn_lt {P : Nat → Bool} {j : Nat} (hj : P j = false) : ∀ n, j < n → cn P n < n
  | n + 1, h => by
    unfold cn
    by_cases hjn : j = n
    · subst hjn
      have := cn_le P j
      rw [hj]
      simp
      omega
    · have := cn_lt hj n (by omega)
      split <;> omega
def ah2 (t : Nat → Int) (i j : Nat) : Bool := if j = i then false else ahd t j i
def rk (t : Nat → Int) (nn : Nat) (o : Nat → Nat) : Nat → Nat → Nat
  | 0 => o
  | i + 1 => va_up (rk t nn o i) (cn (ah2 t i) nn) i
def bs2 (t : Nat → Int) (mm i j : Nat) : Bool := if smR t i 0 mm < smR t j 0 mm ∨ (smR t j 0 mm = smR t i 0 mm ∧ j < i) then true else false
def bsr (t : Nat → Int) (mm nn r : Nat) : Nat → Nat
  | 0 => 0
  | i + 1 => if cn (bs2 t mm i) nn = r then i else bsr t mm nn r i
theorem bsr_le (t : Nat → Int) (mm nn r : Nat) : ∀ i, bsr t mm nn r i ≤ i - 1
  | 0 => Nat.le_refl _
  | i + 1 => by
    have := bsr_le t mm nn r i
    unfold bsr
    split <;> omega
/-- the least sum from afar -/
def lsM (t : Nat → Int) (fr to : Nat) : Nat → Int
  | 0 => 1000000
  | i + 1 => min (lsM t fr to i) (smR t i fr to)
theorem lsM_X {t : Nat → Int} (h : ∀ k, 0 ≤ t k ∧ t k ≤ 99) {fr to : Nat} (hto : to ≤ 5) : ∀ i, lsM t fr to (i + 1) = lsX t fr to i
  | 0 => by
    have := smR_rg h 0 fr to
    unfold lsM lsM lsX
    omega
  | i + 1 => by
    have := lsM_X h (fr := fr) hto i
    show min (lsM t fr to (i + 1)) (smR t (i + 1) fr to) = min (lsX t fr to i) (smR t (i + 1) fr to)
    rw [this]
theorem lsM_rg {t : Nat → Int} (h : ∀ k, 0 ≤ t k ∧ t k ≤ 99) {fr to : Nat} : ∀ i, 0 ≤ lsM t fr to i ∧ lsM t fr to i ≤ 1000000
  | 0 => ⟨by unfold lsM; omega, by unfold lsM; omega⟩
  | i + 1 => by
    have h1 := lsM_rg h (fr := fr) (to := to) i
    have := smR_rg h i fr to
    unfold lsM
    omega
