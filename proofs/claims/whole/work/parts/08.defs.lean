/-! what the methods work out, over whole numbers: t times (5 a job), o orders -/
def smC (t : Nat → Int) (j fr : Nat) : Nat → Int
  | 0 => 0
  | c + 1 => smC t j fr c + t (5 * j + (fr + c))
def smR (t : Nat → Int) (j fr to : Nat) : Int := smC t j fr (to - fr)
def lsX (t : Nat → Int) (fr to : Nat) : Nat → Int
  | 0 => smR t 0 fr to
  | k + 1 => min (lsX t fr to k) (smR t (k + 1) fr to)
def ldC (t : Nat → Int) (m : Nat) : Nat → Int
  | 0 => 0
  | k + 1 => ldC t m k + t (5 * k + m)
/-- a row laid into a table -/
def pt (f g : Nat → Int) (a n : Nat) : Nat → Int := fun k => if a ≤ k ∧ k < a + n then g (k - a) else f k
theorem pt_0 (f g : Nat → Int) (a : Nat) : pt f g a 0 = f := by
  funext k
  unfold pt
  rw [if_neg (by omega)]
theorem pt_s {f g : Nat → Int} {a n : Nat} : va_up (pt f g a n) (a + n) (g n) = pt f g a (n + 1) := by
  funext k
  unfold va_up pt
  by_cases h : k = a + n
  · subst h
    rw [if_pos rfl, if_pos (by omega), show a + n - a = n by omega]
  · rw [if_neg h]
    by_cases h2 : a ≤ k ∧ k < a + n
    · rw [if_pos h2, if_pos (by omega)]
    · rw [if_neg h2, if_neg (by omega)]
theorem pt_in {f g : Nat → Int} {a n k : Nat} (h : k < n) : pt f g a n (a + k) = g k := by
  unfold pt
  rw [if_pos (by omega), show a + k - a = k by omega]
theorem pt_out {f g : Nat → Int} {a n k : Nat} (h : k < a ∨ a + n ≤ k) : pt f g a n k = f k := by
  unfold pt
  rw [if_neg (by omega)]
/-- when the job ahead leaves a machine free: b, e its begins and ends -/
def frm (v mm : Nat) (b e : Nat → Int) (k : Nat) : Int := if v = 1 ∧ k + 1 < mm then b (k + 1) else e k
/-- begins of a job with times t behind one with begins b and ends e, not before m0 -/
def nbg (v mm : Nat) (t b e : Nat → Int) (m0 : Int) : Nat → Int
  | 0 => max m0 (frm v mm b e 0)
  | k + 1 => max (nbg v mm t b e m0 k + t k) (frm v mm b e (k + 1))
def nen (v mm : Nat) (t b e : Nat → Int) (m0 : Int) (k : Nat) : Int := nbg v mm t b e m0 k + t k
/-- without waiting: the way to a machine, the earliest start -/
def wyC (t : Nat → Int) : Nat → Int
  | 0 => 0
  | k + 1 => wyC t k + t k
def stC (t e : Nat → Int) : Nat → Int
  | 0 => 0
  | k + 1 => max (stC t e k) (e k - wyC t k)
def m0v (v mm : Nat) (t e : Nat → Int) : Int := if v = 2 then stC t e mm else 0
/-- the row ahead of a place, out of a table -/
def prv (f : Nat → Int) (p : Nat) : Nat → Int := fun k => if p = 0 then 0 else f (5 * (p - 1) + k)
/-- a job's times -/
def tj (t : Nat → Int) (j : Nat) : Nat → Int := fun k => t (5 * j + k)
def sjB (v mm : Nat) (t : Nat → Int) (p j : Nat) (B E : Nat → Int) : Nat → Int := nbg v mm (tj t j) (prv B p) (prv E p) (m0v v mm (tj t j) (prv E p))
def sjE (v mm : Nat) (t : Nat → Int) (p j : Nat) (B E : Nat → Int) : Nat → Int := nen v mm (tj t j) (prv B p) (prv E p) (m0v v mm (tj t j) (prv E p))
/-- the tables behind the places a .. a+c-1 of an order -/
def SO (v mm : Nat) (t : Nat → Int) (o : Nat → Nat) (a : Nat) (B E : Nat → Int) : Nat → (Nat → Int) × (Nat → Int)
  | 0 => (B, E)
  | c + 1 => (pt (SO v mm t o a B E c).1 (sjB v mm t (a + c) (o (a + c)) (SO v mm t o a B E c).1 (SO v mm t o a B E c).2) (5 * (a + c)) mm,
      pt (SO v mm t o a B E c).2 (sjE v mm t (a + c) (o (a + c)) (SO v mm t o a B E c).1 (SO v mm t o a B E c).2) (5 * (a + c)) mm)
/-- the last end of so many places, out of the table of ends -/
def lstE (mm c : Nat) (E : Nat → Int) : Int := if c < 1 then 0 else E (5 * (c - 1) + (mm - 1))
/-- a place of a list moved to another -/
def sh1 (f : Nat → Nat) (a i : Nat) : Nat → Nat := fun k => if a ≤ k ∧ k < a + i then f (k + 1) else f k
def sh2 (f : Nat → Nat) (a i : Nat) : Nat → Nat := fun k => if a < k + i ∧ k ≤ a then f (k - 1) else f k
def shf (f : Nat → Nat) (a b : Nat) : Nat → Nat := va_up (sh2 (sh1 f a (b - a)) a (a - b)) b (f a)
theorem sh1_0 (f : Nat → Nat) (a : Nat) : sh1 f a 0 = f := by
  funext k
  unfold sh1
  rw [if_neg (by omega)]
theorem sh1_s {f : Nat → Nat} {a i : Nat} : va_up (sh1 f a i) (a + i) (f (a + i + 1)) = sh1 f a (i + 1) := by
  funext k
  unfold va_up sh1
  by_cases h : k = a + i
  · subst h
    rw [if_pos rfl, if_pos (by omega)]
  · rw [if_neg h]
    by_cases h2 : a ≤ k ∧ k < a + i
    · rw [if_pos h2, if_pos (by omega)]
    · rw [if_neg h2, if_neg (by omega)]
theorem sh1_at {f : Nat → Nat} {a i k : Nat} (h : a + i ≤ k) : sh1 f a i k = f k := by
  unfold sh1
  rw [if_neg (by omega)]
theorem sh2_0 (f : Nat → Nat) (a : Nat) : sh2 f a 0 = f := by
  funext k
  unfold sh2
  rw [if_neg (by omega)]
theorem sh2_s {f : Nat → Nat} {a i : Nat} (h : i < a) : va_up (sh2 f a i) (a - i) (f (a - i - 1)) = sh2 f a (i + 1) := by
  funext k
  unfold va_up sh2
  by_cases h1 : k = a - i
  · subst h1
    rw [if_pos rfl, if_pos (by omega)]
  · rw [if_neg h1]
    by_cases h2 : a < k + i ∧ k ≤ a
    · rw [if_pos h2, if_pos (by omega)]
    · rw [if_neg h2, if_neg (by omega)]
theorem sh2_at {f : Nat → Nat} {a i k : Nat} (h : k + i ≤ a) : sh2 f a i k = f k := by
  unfold sh2
  rw [if_neg (by omega)]
theorem smC_rg {t : Nat → Int} (h : ∀ k, 0 ≤ t k ∧ t k ≤ 99) (j fr : Nat) : ∀ c, 0 ≤ smC t j fr c ∧ smC t j fr c ≤ 99 * c
  | 0 => ⟨Int.le_refl _, Int.le_refl _⟩
  | c + 1 => by
    have := smC_rg h j fr c
    have := h (5 * j + (fr + c))
    unfold smC
    constructor <;> omega
theorem smR_rg {t : Nat → Int} (h : ∀ k, 0 ≤ t k ∧ t k ≤ 99) (j fr to : Nat) : 0 ≤ smR t j fr to ∧ smR t j fr to ≤ 99 * to := by
  have := smC_rg h j fr (to - fr)
  unfold smR
  omega
theorem lsX_rg {t : Nat → Int} (h : ∀ k, 0 ≤ t k ∧ t k ≤ 99) (fr to : Nat) : ∀ k, 0 ≤ lsX t fr to k ∧ lsX t fr to k ≤ 99 * to
  | 0 => smR_rg h 0 fr to
  | k + 1 => by
    have := lsX_rg h fr to k
    have := smR_rg h (k + 1) fr to
    unfold lsX
    omega
theorem ldC_rg {t : Nat → Int} (h : ∀ k, 0 ≤ t k ∧ t k ≤ 99) (m : Nat) : ∀ c, 0 ≤ ldC t m c ∧ ldC t m c ≤ 99 * c
  | 0 => ⟨Int.le_refl _, Int.le_refl _⟩
  | c + 1 => by
    have := ldC_rg h m c
    have := h (5 * c + m)
    unfold ldC
    constructor <;> omega
