/-! rows for the calls of the face -/
def tzr (t : Nat → Int) (w i c : Nat) : Nat → Int := fun x => if w ≤ x % 5 ∧ (x / 5 < i ∨ (x / 5 = i ∧ x % 5 < w + c)) then 0 else t x
theorem tzr_0 (t : Nat → Int) (w : Nat) : tzr t w 0 0 = t := by
  funext x
  unfold tzr
  rw [if_neg (by omega)]
theorem tzr_s {t : Nat → Int} {w i c : Nat} (h : w + c < 5) : va_up (tzr t w i c) (5 * i + (w + c)) 0 = tzr t w i (c + 1) := by
  funext x
  unfold va_up tzr
  by_cases h1 : x = 5 * i + (w + c)
  · subst h1
    rw [if_pos rfl, if_pos (by omega)]
  · rw [if_neg h1]
    by_cases h2 : w ≤ x % 5 ∧ (x / 5 < i ∨ (x / 5 = i ∧ x % 5 < w + c))
    · rw [if_pos h2, if_pos (by omega)]
    · rw [if_neg h2, if_neg (by omega)]
theorem tzr_n {t : Nat → Int} {w i : Nat} (h : w ≤ 5) : tzr t w i (5 - w) = tzr t w (i + 1) 0 := by
  funext x
  unfold tzr
  by_cases h2 : w ≤ x % 5 ∧ (x / 5 < i ∨ (x / 5 = i ∧ x % 5 < w + (5 - w)))
  · rw [if_pos h2, if_pos (by omega)]
  · rw [if_neg h2, if_neg (by omega)]
/-- the order by insertion, out of a queue -/
def ini (t : Nat → Int) (mm : Nat) (o q : Nat → Nat) : Nat → Nat → Nat
  | 0 => o
  | i + 1 => shf (va_up (ini t mm o q i) i (q i)) i (amin (mkS t mm (va_up (ini t mm o q i) i (q i)) i (i + 1)) i)
theorem up_lt {f : Nat → Nat} {a x n N : Nat} (hx : x < N) (h : ∀ k, k < n → f k < N) : ∀ k, k < n → va_up f a x k < N := by
  intro k hk
  unfold va_up
  split
  · exact hx
  · exact h k hk
theorem ini_lt {t : Nat → Int} {mm n N : Nat} {o q : Nat → Nat} (ho : ∀ k, k < n → o k < N) (hq : ∀ k, k < n → q k < N) : ∀ i, i ≤ n → ∀ k, k < n → ini t mm o q i k < N
  | 0, _ => ho
  | i + 1, hi => by
    have h := amin_le (mkS t mm (va_up (ini t mm o q i) i (q i)) i (i + 1)) i
    exact shf_lt (by omega) (by omega) (up_lt (hq i (by omega)) (ini_lt ho hq i (by omega)))
/-- the best move: over places from, to -/
def stp (f : Nat → Nat → Int) (a b : Nat) (s : Int × Nat × Nat) : Int × Nat × Nat := if f a b < s.1 then (f a b, a, b) else s
def inr (f : Nat → Nat → Int) (a : Nat) (s : Int × Nat × Nat) : Nat → Int × Nat × Nat
  | 0 => s
  | j + 1 => stp f a j (inr f a s j)
def otr (f : Nat → Nat → Int) (n : Nat) (s : Int × Nat × Nat) : Nat → Int × Nat × Nat
  | 0 => s
  | i + 1 => inr f i (otr f n s i) n
def okS (n : Nat) (L K : Int) (s : Int × Nat × Nat) : Prop := (0 ≤ s.1 ∧ s.1 ≤ K) ∧ (s.1 < L → s.2.1 < n ∧ s.2.2 < n) ∧ s.2.1 ≤ n ∧ s.2.2 ≤ n
theorem stp_ok {f : Nat → Nat → Int} {n a b : Nat} {L K : Int} {s : Int × Nat × Nat} (hf : ∀ a b, 0 ≤ f a b ∧ f a b ≤ K) (ha : a < n) (hb : b < n) (h : okS n L K s) : okS n L K (stp f a b s) := by
  unfold stp
  split
  · exact ⟨hf a b, fun _ => ⟨ha, hb⟩, Nat.le_of_lt ha, Nat.le_of_lt hb⟩
  · exact h
theorem inr_ok {f : Nat → Nat → Int} {n a : Nat} {L K : Int} {s : Int × Nat × Nat} (hf : ∀ a b, 0 ≤ f a b ∧ f a b ≤ K) (ha : a < n) (h : okS n L K s) : ∀ j, j ≤ n → okS n L K (inr f a s j)
  | 0, _ => h
  | j + 1, hj => stp_ok hf ha (by omega) (inr_ok hf ha h j (by omega))
theorem otr_ok {f : Nat → Nat → Int} {n : Nat} {L K : Int} {s : Int × Nat × Nat} (hf : ∀ a b, 0 ≤ f a b ∧ f a b ≤ K) (h : okS n L K s) : ∀ i, i ≤ n → okS n L K (otr f n s i)
  | 0, _ => h
  | i + 1, hi => inr_ok hf (by omega) (otr_ok hf h i (by omega)) n (Nat.le_refl _)
def imF (t : Nat → Int) (mm : Nat) (o : Nat → Nat) (nn : Nat) (a b : Nat) : Int := mkS t mm o a nn b
def im0 (t : Nat → Int) (mm : Nat) (o : Nat → Nat) (nn : Nat) : Int × Nat × Nat := (mk 0 mm t o nn, 0, 0)
def imS (t : Nat → Int) (mm : Nat) (o : Nat → Nat) (nn i : Nat) : Int × Nat × Nat := otr (imF t mm o nn) nn (im0 t mm o nn) i
def imT (t : Nat → Int) (mm : Nat) (o : Nat → Nat) (nn i j : Nat) : Int × Nat × Nat := inr (imF t mm o nn) i (imS t mm o nn i) j
theorem imF_rg {t : Nat → Int} {mm : Nat} {o : Nat → Nat} {nn : Nat} (hm : 1 ≤ mm ∧ mm ≤ 5) (ht : ∀ k, 0 ≤ t k ∧ t k ≤ 99) (hn : nn ≤ 7) : ∀ a b, 0 ≤ imF t mm o nn a b ∧ imF t mm o nn a b ≤ 3465 := fun a b => mkS_rg hm ht hn b
theorem im0_ok {t : Nat → Int} {mm : Nat} {o : Nat → Nat} {nn : Nat} (hm : 1 ≤ mm ∧ mm ≤ 5) (ht : ∀ k, 0 ≤ t k ∧ t k ≤ 99) (hn : nn ≤ 7) : okS nn (mk 0 mm t o nn) 3465 (im0 t mm o nn) :=
  ⟨mk_rg hm.1 hm.2 ht hn, fun h => absurd h (Int.lt_irrefl _), Nat.zero_le _, Nat.zero_le _⟩
theorem imS_ok {t : Nat → Int} {mm : Nat} {o : Nat → Nat} {nn : Nat} (hm : 1 ≤ mm ∧ mm ≤ 5) (ht : ∀ k, 0 ≤ t k ∧ t k ≤ 99) (hn : nn ≤ 7) {i : Nat} (hi : i ≤ nn) : okS nn (mk 0 mm t o nn) 3465 (imS t mm o nn i) := otr_ok (imF_rg hm ht hn) (im0_ok hm ht hn) i hi
theorem imT_ok {t : Nat → Int} {mm : Nat} {o : Nat → Nat} {nn : Nat} (hm : 1 ≤ mm ∧ mm ≤ 5) (ht : ∀ k, 0 ≤ t k ∧ t k ≤ 99) (hn : nn ≤ 7) {i j : Nat} (hi : i < nn) (hj : j ≤ nn) : okS nn (mk 0 mm t o nn) 3465 (imT t mm o nn i j) := inr_ok (imF_rg hm ht hn) hi (imS_ok hm ht hn (by omega)) j hj
theorem imT_y {t : Nat → Int} {mm : Nat} {o : Nat → Nat} {nn i j : Nat} (h : mkS t mm o i nn j < (imT t mm o nn i j).1) : imT t mm o nn i (j + 1) = (mkS t mm o i nn j, i, j) := if_pos h
theorem imT_n {t : Nat → Int} {mm : Nat} {o : Nat → Nat} {nn i j : Nat} (h : ¬ mkS t mm o i nn j < (imT t mm o nn i j).1) : imT t mm o nn i (j + 1) = imT t mm o nn i j := if_neg h
/-- sums of ends -/
def toC (t : Nat → Int) (mm : Nat) (o : Nat → Nat) : Nat → Int
  | 0 => 0
  | i + 1 => toC t mm o i + mk 0 mm t o (i + 1)
theorem toC_rg {t : Nat → Int} {mm : Nat} {o : Nat → Nat} (hm : 1 ≤ mm ∧ mm ≤ 5) (ht : ∀ k, 0 ≤ t k ∧ t k ≤ 99) : ∀ c, c ≤ 7 → 0 ≤ toC t mm o c ∧ toC t mm o c ≤ 3465 * c
  | 0, _ => ⟨Int.le_refl _, Int.le_refl _⟩
  | c + 1, h => by
    have := toC_rg (o := o) hm ht c (by omega)
    have := mk_rg (v := 0) (o := o) hm.1 hm.2 ht h
    unfold toC
    constructor <;> omega
/-- how many orders there are -/
def fac : Nat → Nat
  | 0 => 1
  | n + 1 => (n + 1) * fac n
theorem fac_le {nn : Nat} (h : nn ≤ 7) : 1 ≤ fac nn ∧ fac nn ≤ 5040 := by
  rcases (show nn = 0 ∨ nn = 1 ∨ nn = 2 ∨ nn = 3 ∨ nn = 4 ∨ nn = 5 ∨ nn = 6 ∨ nn = 7 by omega) with rfl | rfl | rfl | rfl | rfl | rfl | rfl | rfl <;> decide
def nId : Nat → Nat := fun k => k
/-- the orders from the first one on end at the last of fac nn -/
def Enu (nn : Nat) : Prop := (∀ i, i + 1 < fac nn → 1 ≤ pvt (sq nId nn i) (nn - 1)) ∧ pvt (sq nId nn (fac nn - 1)) (nn - 1) = 0
theorem pvt_cg {r r' : Nat → Nat} : ∀ {c : Nat}, (∀ k, k ≤ c → r k = r' k) → pvt r c = pvt r' c
  | 0, _ => rfl
  | c + 1, h => by
    unfold pvt
    rw [h c (by omega), h (c + 1) (by omega), pvt_cg (fun k hk => h k (by omega))]
theorem ptn_cg {r r' : Nat → Nat} {P : Nat} : ∀ {c : Nat}, r P = r' P → (∀ k, k ≤ c → r k = r' k) → ptn r P c = ptn r' P c
  | 0, _, _ => rfl
  | c + 1, h0, h => by
    unfold ptn
    rw [h0, h (c + 1) (by omega), ptn_cg h0 (fun k hk => h k (by omega))]
theorem swp_cg {r r' : Nat → Nat} {a b n : Nat} (ha : a < n) (hb : b < n) (h : ∀ k, k < n → r k = r' k) : ∀ k, k < n → swp r a b k = swp r' a b k := by
  intro k hk
  unfold swp va_up
  rw [h a ha, h b hb, h k hk]
theorem rvs_cg {r r' : Nat → Nat} {a b n : Nat} (hb : b < n) (h : ∀ k, k < n → r k = r' k) : ∀ i, a + i ≤ b + 1 → ∀ k, k < n → rvs r a b i k = rvs r' a b i k
  | 0, _ => h
  | i + 1, h1 => by
    unfold rvs
    exact swp_cg (by omega) (by omega) (rvs_cg hb h i (by omega))
theorem nxT_cg {r r' : Nat → Nat} {nn : Nat} (h : ∀ k, k < nn → r k = r' k) : ∀ k, k < nn → nxT r nn k = nxT r' nn k := by
  intro k hk
  have h1 := pvt_le r' (nn - 1)
  have e1 : pvt r (nn - 1) = pvt r' (nn - 1) := pvt_cg (fun k hk => h k (by omega))
  unfold nxT
  rw [e1]
  split
  · exact h k hk
  · have h2 := ptn_le r' (pvt r' (nn - 1) - 1) (nn - 1)
    rw [ptn_cg (h _ (by omega)) (fun k hk => h k (by omega))]
    exact rvs_cg (by omega) (swp_cg (by omega) (by omega) h) _ (by omega) k hk
theorem sq_cg {r r' : Nat → Nat} {nn : Nat} (h : ∀ k, k < nn → r k = r' k) : ∀ i k, k < nn → sq r nn i k = sq r' nn i k
  | 0 => h
  | i + 1 => nxT_cg (sq_cg h i)
theorem sq_pvt {r : Nat → Nat} {nn i : Nat} (h : ∀ k, k < nn → r k = nId k) : pvt (sq r nn i) (nn - 1) = pvt (sq nId nn i) (nn - 1) := by
  cases nn with
  | zero => rfl
  | succ n => exact pvt_cg (fun k hk => sq_cg h i k (by omega))
theorem idr_id {r : Nat → Nat} {nn : Nat} : ∀ k, k < nn → idr r nn k = nId k := fun k hk => if_pos hk
theorem gsq_cg {v mm : Nat} {t : Nat → Int} {r r' : Nat → Nat} {nn : Nat} (h : ∀ k, k < nn → r k = r' k) : gsq v mm t r nn = gsq v mm t r' nn := by
  funext i
  exact mk_cg (sq_cg h i)
/-- what the search finds: the least, how many, which is the first -/
def sol (v mm : Nat) (t : Nat → Int) (nn : Nat) : Int × Nat × Nat := bst (gsq v mm t nId nn) (fac nn)
def solJ (v mm : Nat) (t : Nat → Int) (nn : Nat) : Nat → Nat := sq nId nn (sol v mm t nn).2.2
/-- what is kept of a variant holds -/
def CV (v mm : Nat) (t : Nat → Int) (nn : Nat) (M N : Nat → Int) (J : Nat → Nat) : Prop := M v = (sol v mm t nn).1 ∧ N v = ((sol v mm t nn).2.1 : Int) ∧ ∀ k, k < nn → J (7 * v + k) = solJ v mm t nn k
def CK (mm : Nat) (t : Nat → Int) (nn : Nat) (S M N : Nat → Int) (J : Nat → Nat) : Prop := ∀ v, v ≤ 2 → S v = 0 ∨ (S v = 1 ∧ CV v mm t nn M N J)
theorem sol_rg {v mm : Nat} {t : Nat → Int} {nn : Nat} (hm : 1 ≤ mm ∧ mm ≤ 5) (ht : ∀ k, 0 ≤ t k ∧ t k ≤ 99) (hn : nn ≤ 7) : (0 ≤ (sol v mm t nn).1 ∧ (sol v mm t nn).1 ≤ 3465) ∧ 1 ≤ (sol v mm t nn).2.1 ∧ (sol v mm t nn).2.1 ≤ 5040 := by
  have h := bst_rg (g := gsq v mm t nId nn) (K := 3465) (by omega) (gsq_rg hm ht hn) (fac nn)
  have h2 := fac_le hn
  have h3 : 0 < (sol v mm t nn).2.1 := bst_pos h2.1
  unfold sol at h3 ⊢
  omega
theorem CK_0 {mm : Nat} {t : Nat → Int} {nn : Nat} {S M N : Nat → Int} {J : Nat → Nat} : CK mm t nn (zfl S 3) M N J := fun v hv => Or.inl (if_pos (by omega))
/-- behind the search of a variant -/
theorem CK_s {v mm : Nat} {t : Nat → Int} {nn : Nat} {S M N M2 N2 : Nat → Int} {J J2 r : Nat → Nat} (hn : nn ≤ 7) (hv : v ≤ 2) (hr : ∀ k, k < nn → r k = nId k) (h : CK mm t nn S M N J) (hB : BS v nn M N J r (gsq v mm t r nn) (fac nn) M2 N2 J2) : CK mm t nn (va_up S v 1) M2 N2 J2 ∧ CV v mm t nn M2 N2 J2 := by
  have hf := (fac_le hn).1
  obtain ⟨h1, h2, h3, h4, h5, h6⟩ := hB
  rw [gsq_cg hr] at h3 h4 h5
  have hc : CV v mm t nn M2 N2 J2 := ⟨h3 hf, h4, fun k hk => (h5 hf k hk).trans (sq_cg hr _ k hk)⟩
  refine ⟨fun w hw => ?_, hc⟩
  by_cases hwv : w = v
  · subst hwv
    exact Or.inr ⟨if_pos rfl, hc⟩
  · rcases h w hw with q | ⟨q1, q2, q3, q4⟩
    · exact Or.inl ((if_neg hwv).trans q)
    · refine Or.inr ⟨(if_neg hwv).trans q1, (h1 w hwv).trans q2, (h2 w hwv).trans q3, fun k hk => (h6 _ ?_).trans (q4 k hk)⟩
      omega
theorem tj_rg {t : Nat → Int} (h : ∀ k, 0 ≤ t k ∧ t k ≤ 99) (j : Nat) : ∀ k, 0 ≤ tj t j k ∧ tj t j k ≤ 99 := fun k => h (5 * j + k)
theorem bqs_y {t : Nat → Int} {mm i x : Nat} (h : smR t x 0 mm < smR t i 0 mm) : bqs t mm i x = true := if_pos h
theorem bqs_n {t : Nat → Int} {mm i x : Nat} (h : smR t i 0 mm ≤ smR t x 0 mm) : ¬ bqs t mm i x = true := by
  unfold bqs
  rw [if_neg (by omega)]
  decide
