/-! what the methods work out, over whole numbers: t times (5 a job), o orders -/
def smC (t : Nat → Int) (j fr : Nat) : Nat → Int
  | 0 => 0
  | c + 1 => smC t j fr c + t (5 * j + (fr + c))
def smR (t : Nat → Int) (j fr to : Nat) : Int := smC t j fr (to - fr)
def lsX (t : Nat → Int) (fr to : Nat) : Nat → Int
  | 0 => smR t 0 fr to
  | k + 1 => min (lsX t fr to k) (smR t (k + 1) fr to)
def ldC (t : Nat → Int) (m : Nat) : Nat → Int
  | 0 => 0
  | k + 1 => ldC t m k + t (5 * k + m)
/-- a row laid into a table -/
def pt (f g : Nat → Int) (a n : Nat) : Nat → Int := fun k => if a ≤ k ∧ k < a + n then g (k - a) else f k
theorem pt_0 (f g : Nat → Int) (a : Nat) : pt f g a 0 = f := by
  funext k
  unfold pt
  rw [if_neg (by omega)]
theorem pt_s {f g : Nat → Int} {a n : Nat} : va_up (pt f g a n) (a + n) (g n) = pt f g a (n + 1) := by
  funext k
  unfold va_up pt
  by_cases h : k = a + n
  · subst h
    rw [if_pos rfl, if_pos (by omega), show a + n - a = n by omega]
  · rw [if_neg h]
    by_cases h2 : a ≤ k ∧ k < a + n
    · rw [if_pos h2, if_pos (by omega)]
    · rw [if_neg h2, if_neg (by omega)]
theorem pt_in {f g : Nat → Int} {a n k : Nat} (h : k < n) : pt f g a n (a + k) = g k := by
  unfold pt
  rw [if_pos (by omega), show a + k - a = k by omega]
theorem pt_out {f g : Nat → Int} {a n k : Nat} (h : k < a ∨ a + n ≤ k) : pt f g a n k = f k := by
  unfold pt
  rw [if_neg (by omega)]
/-- when the job ahead leaves a machine free: b, e its begins and ends -/
def frm (v mm : Nat) (b e : Nat → Int) (k : Nat) : Int := if v = 1 ∧ k + 1 < mm then b (k + 1) else e k
/-- a job with times t behind one with begins b and ends e, not before m0: when it comes to a machine, begins, ends there -/
def mom (v mm : Nat) (t b e : Nat → Int) (m0 : Int) : Nat → Int
  | 0 => m0
  | k + 1 => max (mom v mm t b e m0 k) (frm v mm b e k) + t k
def nbg (v mm : Nat) (t b e : Nat → Int) (m0 : Int) (k : Nat) : Int := max (mom v mm t b e m0 k) (frm v mm b e k)
def nen (v mm : Nat) (t b e : Nat → Int) (m0 : Int) (k : Nat) : Int := mom v mm t b e m0 (k + 1)
/-- without waiting: the way to a machine, the earliest start -/
def wyC (t : Nat → Int) : Nat → Int
  | 0 => 0
  | k + 1 => wyC t k + t k
def stC (t e : Nat → Int) : Nat → Int
  | 0 => 0
  | k + 1 => max (stC t e k) (e k - wyC t k)
def m0v (v mm : Nat) (t e : Nat → Int) : Int := if v = 2 then stC t e mm else 0
/-- the row ahead of a place, out of a table -/
def prv (f : Nat → Int) (p : Nat) : Nat → Int := fun k => if p = 0 then 0 else f (5 * (p - 1) + k)
/-- a job's times -/
def tj (t : Nat → Int) (j : Nat) : Nat → Int := fun k => t (5 * j + k)
def sjB (v mm : Nat) (t : Nat → Int) (p j : Nat) (B E : Nat → Int) : Nat → Int := nbg v mm (tj t j) (prv B p) (prv E p) (m0v v mm (tj t j) (prv E p))
def sjE (v mm : Nat) (t : Nat → Int) (p j : Nat) (B E : Nat → Int) : Nat → Int := nen v mm (tj t j) (prv B p) (prv E p) (m0v v mm (tj t j) (prv E p))
/-- begins and ends of the job ahead of a place, in an order -/
def row (v mm : Nat) (t : Nat → Int) (o : Nat → Nat) : Nat → (Nat → Int) × (Nat → Int)
  | 0 => (fun _ => 0, fun _ => 0)
  | p + 1 => (nbg v mm (tj t (o p)) (row v mm t o p).1 (row v mm t o p).2 (m0v v mm (tj t (o p)) (row v mm t o p).2),
      nen v mm (tj t (o p)) (row v mm t o p).1 (row v mm t o p).2 (m0v v mm (tj t (o p)) (row v mm t o p).2))
/-- the makespan of the first c jobs of an order -/
def mk (v mm : Nat) (t : Nat → Int) (o : Nat → Nat) (c : Nat) : Int := (row v mm t o c).2 (mm - 1)
/-- the tables hold the schedule of the first c places -/
def rows (v mm : Nat) (t : Nat → Int) (o : Nat → Nat) (B E : Nat → Int) (c : Nat) : Prop :=
  ∀ p, p < c → ∀ k, k < mm → B (5 * p + k) = (row v mm t o (p + 1)).1 k ∧ E (5 * p + k) = (row v mm t o (p + 1)).2 k
/-- the last end of so many places, out of the table of ends -/
def lstE (mm c : Nat) (E : Nat → Int) : Int := if c < 1 then 0 else E (5 * (c - 1) + (mm - 1))
/-- a place of a list moved to another -/
def sh1 (f : Nat → Nat) (a i : Nat) : Nat → Nat := fun k => if a ≤ k ∧ k < a + i then f (k + 1) else f k
def sh2 (f : Nat → Nat) (a i : Nat) : Nat → Nat := fun k => if a < k + i ∧ k ≤ a then f (k - 1) else f k
def shf (f : Nat → Nat) (a b : Nat) : Nat → Nat := va_up (sh2 (sh1 f a (b - a)) a (a - b)) b (f a)
theorem sh1_0 (f : Nat → Nat) (a : Nat) : sh1 f a 0 = f := by
  funext k
  unfold sh1
  rw [if_neg (by omega)]
theorem sh1_s {f : Nat → Nat} {a i : Nat} : va_up (sh1 f a i) (a + i) (f (a + i + 1)) = sh1 f a (i + 1) := by
  funext k
  unfold va_up sh1
  by_cases h : k = a + i
  · subst h
    rw [if_pos rfl, if_pos (by omega)]
  · rw [if_neg h]
    by_cases h2 : a ≤ k ∧ k < a + i
    · rw [if_pos h2, if_pos (by omega)]
    · rw [if_neg h2, if_neg (by omega)]
theorem sh1_at {f : Nat → Nat} {a i k : Nat} (h : a + i ≤ k) : sh1 f a i k = f k := by
  unfold sh1
  rw [if_neg (by omega)]
theorem sh2_0 (f : Nat → Nat) (a : Nat) : sh2 f a 0 = f := by
  funext k
  unfold sh2
  rw [if_neg (by omega)]
theorem sh2_s {f : Nat → Nat} {a i : Nat} (h : i < a) : va_up (sh2 f a i) (a - i) (f (a - i - 1)) = sh2 f a (i + 1) := by
  funext k
  unfold va_up sh2
  by_cases h1 : k = a - i
  · subst h1
    rw [if_pos rfl, if_pos (by omega)]
  · rw [if_neg h1]
    by_cases h2 : a < k + i ∧ k ≤ a
    · rw [if_pos h2, if_pos (by omega)]
    · rw [if_neg h2, if_neg (by omega)]
theorem sh2_at {f : Nat → Nat} {a i k : Nat} (h : k + i ≤ a) : sh2 f a i k = f k := by
  unfold sh2
  rw [if_neg (by omega)]
theorem smC_rg {t : Nat → Int} (h : ∀ k, 0 ≤ t k ∧ t k ≤ 99) (j fr : Nat) : ∀ c, 0 ≤ smC t j fr c ∧ smC t j fr c ≤ 99 * c
  | 0 => ⟨Int.le_refl _, Int.le_refl _⟩
  | c + 1 => by
    have := smC_rg h j fr c
    have := h (5 * j + (fr + c))
    unfold smC
    constructor <;> omega
theorem smR_rg {t : Nat → Int} (h : ∀ k, 0 ≤ t k ∧ t k ≤ 99) (j fr to : Nat) : 0 ≤ smR t j fr to ∧ smR t j fr to ≤ 99 * to := by
  have := smC_rg h j fr (to - fr)
  unfold smR
  omega
theorem lsX_rg {t : Nat → Int} (h : ∀ k, 0 ≤ t k ∧ t k ≤ 99) (fr to : Nat) : ∀ k, 0 ≤ lsX t fr to k ∧ lsX t fr to k ≤ 99 * to
  | 0 => smR_rg h 0 fr to
  | k + 1 => by
    have := lsX_rg h fr to k
    have := smR_rg h (k + 1) fr to
    unfold lsX
    omega
theorem ldC_rg {t : Nat → Int} (h : ∀ k, 0 ≤ t k ∧ t k ≤ 99) (m : Nat) : ∀ c, 0 ≤ ldC t m c ∧ ldC t m c ≤ 99 * c
  | 0 => ⟨Int.le_refl _, Int.le_refl _⟩
  | c + 1 => by
    have := ldC_rg h m c
    have := h (5 * c + m)
    unfold ldC
    constructor <;> omega
theorem frm_0 {v mm k : Nat} {f g : Nat → Int} : frm v mm (prv f 0) (prv g 0) k = 0 := by
  unfold frm prv
  split <;> rfl
theorem frm_2 {mm k : Nat} {b e : Nat → Int} : frm 2 mm b e k = e k := by
  unfold frm
  rw [if_neg (by omega)]
theorem prv_pt {f g : Nat → Int} {p i k : Nat} (h : k < 5) : prv (pt f g (5 * p) i) p k = prv f p k := by
  unfold prv
  by_cases hp : p = 0
  · rw [if_pos hp, if_pos hp]
  · rw [if_neg hp, if_neg hp, pt_out (by omega)]
theorem frm_pt {v mm : Nat} {B E g h : Nat → Int} {p i k : Nat} (hm : mm ≤ 5) (hk : k < mm) : frm v mm (prv (pt B g (5 * p) i) p) (prv (pt E h (5 * p) i) p) k = frm v mm (prv B p) (prv E p) k := by
  unfold frm
  split
  · rw [prv_pt (by omega)]
  · rw [prv_pt (by omega)]
theorem frm_cg {v mm : Nat} {b e b' e' : Nat → Int} (h : ∀ k, k < mm → b k = b' k ∧ e k = e' k) {k : Nat} (hk : k < mm) : frm v mm b e k = frm v mm b' e' k := by
  unfold frm
  split
  · rename_i h1
    exact (h _ h1.2).1
  · exact (h _ hk).2
theorem frm_rg {v mm : Nat} {b e : Nat → Int} {K : Int} (h : ∀ k, k < mm → (0 ≤ b k ∧ b k ≤ K) ∧ 0 ≤ e k ∧ e k ≤ K) {k : Nat} (hk : k < mm) : 0 ≤ frm v mm b e k ∧ frm v mm b e k ≤ K := by
  unfold frm
  split
  · rename_i h1
    exact (h _ h1.2).1
  · exact (h _ hk).2
theorem mom_cg {v mm : Nat} {t b e b' e' : Nat → Int} {m0 : Int} (h : ∀ k, k < mm → b k = b' k ∧ e k = e' k) : ∀ k, k ≤ mm → mom v mm t b e m0 k = mom v mm t b' e' m0 k
  | 0, _ => rfl
  | k + 1, hk => by
    unfold mom
    rw [mom_cg h k (by omega), frm_cg h (by omega)]
theorem wyC_rg {t : Nat → Int} (h : ∀ k, 0 ≤ t k ∧ t k ≤ 99) : ∀ k, 0 ≤ wyC t k ∧ wyC t k ≤ 99 * k
  | 0 => ⟨Int.le_refl _, Int.le_refl _⟩
  | k + 1 => by
    have := wyC_rg h k
    have := h k
    unfold wyC
    constructor <;> omega
theorem stC_rg {t e : Nat → Int} {mm : Nat} {K : Int} (hK : 0 ≤ K) (ht : ∀ k, 0 ≤ t k ∧ t k ≤ 99) (h : ∀ k, k < mm → e k ≤ K) : ∀ k, k ≤ mm → 0 ≤ stC t e k ∧ stC t e k ≤ K
  | 0, _ => ⟨Int.le_refl _, hK⟩
  | k + 1, hk => by
    have h1 := stC_rg hK ht h k (by omega)
    have h2 := h k (by omega)
    have h3 := wyC_rg ht k
    unfold stC
    omega
theorem stC_cg {t e e' : Nat → Int} {mm : Nat} (h : ∀ k, k < mm → e k = e' k) : ∀ k, k ≤ mm → stC t e k = stC t e' k
  | 0, _ => rfl
  | k + 1, hk => by
    unfold stC
    rw [stC_cg h k (by omega), h k (by omega)]
theorem m0v_rg {v mm : Nat} {t e : Nat → Int} {K : Int} (hK : 0 ≤ K) (ht : ∀ k, 0 ≤ t k ∧ t k ≤ 99) (h : ∀ k, k < mm → e k ≤ K) : 0 ≤ m0v v mm t e ∧ m0v v mm t e ≤ K := by
  unfold m0v
  split
  · exact stC_rg hK ht h mm (Nat.le_refl _)
  · exact ⟨Int.le_refl _, hK⟩
theorem mom_rg {v mm : Nat} {t b e : Nat → Int} {m0 K : Int} (ht : ∀ k, 0 ≤ t k ∧ t k ≤ 99) (h : ∀ k, k < mm → (0 ≤ b k ∧ b k ≤ K) ∧ 0 ≤ e k ∧ e k ≤ K) (h0 : 0 ≤ m0 ∧ m0 ≤ K) : ∀ k, k ≤ mm → 0 ≤ mom v mm t b e m0 k ∧ mom v mm t b e m0 k ≤ K + 99 * k
  | 0, _ => by
    unfold mom
    omega
  | k + 1, hk => by
    have h1 := mom_rg (v := v) ht h h0 k (by omega)
    have h2 := frm_rg (v := v) h (show k < mm by omega)
    have h3 := ht k
    unfold mom
    omega
theorem row_rg {v mm : Nat} {t : Nat → Int} {o : Nat → Nat} (hm : mm ≤ 5) (ht : ∀ k, 0 ≤ t k ∧ t k ≤ 99) : ∀ p k, k < mm → (0 ≤ (row v mm t o p).1 k ∧ (row v mm t o p).1 k ≤ 495 * p) ∧ 0 ≤ (row v mm t o p).2 k ∧ (row v mm t o p).2 k ≤ 495 * p
  | 0, _, _ => by
    unfold row
    exact ⟨⟨Int.le_refl _, Int.le_refl _⟩, Int.le_refl _, Int.le_refl _⟩
  | p + 1, k, hk => by
    have h1 := row_rg (v := v) (o := o) hm ht p
    have h2 := m0v_rg (v := v) (mm := mm) (t := tj t (o p)) (e := (row v mm t o p).2) (K := 495 * p) (by omega) (fun k => ht _) (fun k hk => (h1 k hk).2.2)
    have h3 := mom_rg (v := v) (t := tj t (o p)) (fun k => ht _) h1 h2 k (by omega)
    have h4 := mom_rg (v := v) (t := tj t (o p)) (fun k => ht _) h1 h2 (k + 1) (by omega)
    have h5 := frm_rg (v := v) h1 hk
    refine ⟨?_, ?_⟩
    · show 0 ≤ nbg _ _ _ _ _ _ _ ∧ nbg _ _ _ _ _ _ _ ≤ _
      unfold nbg
      omega
    · show 0 ≤ mom _ _ _ _ _ _ (k + 1) ∧ mom _ _ _ _ _ _ (k + 1) ≤ _
      omega
theorem rows_0 {v mm : Nat} {t : Nat → Int} {o : Nat → Nat} {B E : Nat → Int} : rows v mm t o B E 0 := fun _ h => absurd h (Nat.not_lt_zero _)
theorem rows_le {v mm : Nat} {t : Nat → Int} {o : Nat → Nat} {B E : Nat → Int} {c d : Nat} (h : rows v mm t o B E c) (hd : d ≤ c) : rows v mm t o B E d := fun p hp => h p (by omega)
theorem rows_prv {v mm : Nat} {t : Nat → Int} {o : Nat → Nat} {B E : Nat → Int} {c : Nat} (h : rows v mm t o B E c) {k : Nat} (hk : k < mm) : prv B c k = (row v mm t o c).1 k ∧ prv E c k = (row v mm t o c).2 k := by
  cases c with
  | zero => exact ⟨rfl, rfl⟩
  | succ c =>
    unfold prv
    rw [if_neg (by omega), if_neg (by omega), Nat.add_sub_cancel]
    exact h c (by omega) k hk
theorem rows_rg {v mm : Nat} {t : Nat → Int} {o : Nat → Nat} {B E : Nat → Int} {c : Nat} (hm : mm ≤ 5) (ht : ∀ k, 0 ≤ t k ∧ t k ≤ 99) (hc : c ≤ 7) (h : rows v mm t o B E c) : ∀ k, k < mm → (0 ≤ prv B c k ∧ prv B c k ≤ 1000000) ∧ 0 ≤ prv E c k ∧ prv E c k ≤ 1000000 := by
  intro k hk
  rw [(rows_prv h hk).1, (rows_prv h hk).2]
  have := row_rg (v := v) (o := o) hm ht c k hk
  omega
theorem rows_s {v mm : Nat} {t : Nat → Int} {o : Nat → Nat} {B E : Nat → Int} {c : Nat} (hm : mm ≤ 5) (h : rows v mm t o B E c) : rows v mm t o (pt B (sjB v mm t c (o c) B E) (5 * c) mm) (pt E (sjE v mm t c (o c) B E) (5 * c) mm) (c + 1) := by
  intro p hp k hk
  by_cases hpc : p = c
  · subst hpc
    rw [pt_in hk, pt_in hk]
    have h1 := fun k hk => rows_prv h (k := k) hk
    have h2 : m0v v mm (tj t (o p)) (prv E p) = m0v v mm (tj t (o p)) (row v mm t o p).2 := by
      unfold m0v
      rw [stC_cg (fun k hk => (h1 k hk).2) mm (Nat.le_refl _)]
    unfold sjB sjE nbg nen row
    rw [h2]
    refine ⟨?_, ?_⟩
    · rw [mom_cg h1 k (by omega), frm_cg h1 hk]
      rfl
    · rw [mom_cg h1 (k + 1) (by omega)]
      rfl
  · rw [pt_out (by omega), pt_out (by omega)]
    exact h p (by omega) k hk
theorem row_cg {v mm : Nat} {t : Nat → Int} {o o' : Nat → Nat} : ∀ {c : Nat}, (∀ k, k < c → o k = o' k) → row v mm t o c = row v mm t o' c
  | 0, _ => rfl
  | c + 1, h => by
    unfold row
    rw [row_cg (fun k hk => h k (by omega)), h c (by omega)]
theorem mk_cg {v mm : Nat} {t : Nat → Int} {o o' : Nat → Nat} {c : Nat} (h : ∀ k, k < c → o k = o' k) : mk v mm t o c = mk v mm t o' c := by
  unfold mk
  rw [row_cg h]
theorem rows_cg {v mm : Nat} {t : Nat → Int} {o o' : Nat → Nat} {B E : Nat → Int} {c : Nat} (h : rows v mm t o B E c) (e : ∀ k, k < c → o k = o' k) : rows v mm t o' B E c := by
  intro p hp
  rw [← row_cg (o := o) (fun k hk => e k (by omega))]
  exact h p hp
theorem mk_rg {v mm : Nat} {t : Nat → Int} {o : Nat → Nat} {c : Nat} (h1 : 1 ≤ mm) (hm : mm ≤ 5) (ht : ∀ k, 0 ≤ t k ∧ t k ≤ 99) (hc : c ≤ 7) : 0 ≤ mk v mm t o c ∧ mk v mm t o c ≤ 3465 := by
  have := row_rg (v := v) (o := o) hm ht c (mm - 1) (by omega)
  unfold mk
  omega
theorem lstE_rows {v mm : Nat} {t : Nat → Int} {o : Nat → Nat} {B E : Nat → Int} {c : Nat} (h1 : 1 ≤ mm) (h : rows v mm t o B E c) : lstE mm c E = mk v mm t o c := by
  unfold lstE mk
  cases c with
  | zero => rfl
  | succ c =>
    rw [if_neg (by omega), Nat.add_sub_cancel]
    exact (h c (by omega) (mm - 1) (by omega)).2
