/-! the bounds are at most any plain makespan -/
theorem frm_00 {mm : Nat} {b e : Nat → Int} {k : Nat} : frm 0 mm b e k = e k := if_neg (by omega)
theorem mom_sm {mm : Nat} {T : Nat → Int} {j : Nat} {b e : Nat → Int} {m : Int} : ∀ c k n, n = k + c → mom 0 mm (tj T j) b e m k + smC T j k c ≤ mom 0 mm (tj T j) b e m n
  | 0, k, n, h => by
    rw [show n = k by omega]
    show _ + (0 : Int) ≤ _
    omega
  | c + 1, k, n, h => by
    obtain ⟨q, rfl⟩ : ∃ q, n = q + 1 := ⟨n - 1, by omega⟩
    have ih := mom_sm (mm := mm) (T := T) (j := j) (b := b) (e := e) (m := m) c k q (by omega)
    have e1 : smC T j k (c + 1) = smC T j k c + T (5 * j + (k + c)) := rfl
    have e2 : mom 0 mm (tj T j) b e m (q + 1) = max (mom 0 mm (tj T j) b e m q) (frm 0 mm b e q) + T (5 * j + q) := rfl
    rw [show k + c = q by omega] at e1
    omega
theorem en_s {mm : Nat} {T : Nat → Int} {o : Nat → Nat} {p k : Nat} : (row 0 mm T o (p + 1)).2 k = max (mom 0 mm (tj T (o p)) (row 0 mm T o p).1 (row 0 mm T o p).2 (m0v 0 mm (tj T (o p)) (row 0 mm T o p).2) k) ((row 0 mm T o p).2 k) + T (5 * o p + k) := by
  have e2 : (row 0 mm T o (p + 1)).2 k = max (mom 0 mm (tj T (o p)) (row 0 mm T o p).1 (row 0 mm T o p).2 (m0v 0 mm (tj T (o p)) (row 0 mm T o p).2) k) (frm 0 mm (row 0 mm T o p).1 (row 0 mm T o p).2 k) + T (5 * o p + k) := rfl
  rw [frm_00] at e2
  exact e2
theorem m0_0 {mm : Nat} {t e : Nat → Int} : m0v 0 mm t e = 0 := if_neg (by decide)
theorem en_load {mm : Nat} {T : Nat → Int} {o : Nat → Nat} {k : Nat} : ∀ p, smR T (o 0) 0 k + opF T o k (p + 1) ≤ (row 0 mm T o (p + 1)).2 k
  | 0 => by
    have h := mom_sm (mm := mm) (T := T) (j := o 0) (b := (row 0 mm T o 0).1) (e := (row 0 mm T o 0).2) (m := m0v 0 mm (tj T (o 0)) (row 0 mm T o 0).2) k 0 k (by omega)
    have e0 : mom 0 mm (tj T (o 0)) (row 0 mm T o 0).1 (row 0 mm T o 0).2 (m0v 0 mm (tj T (o 0)) (row 0 mm T o 0).2) 0 = 0 := m0_0
    have e1 := en_s (mm := mm) (T := T) (o := o) (p := 0) (k := k)
    have e2 : opF T o k (0 + 1) = 0 + T (5 * o 0 + k) := rfl
    have e3 : smR T (o 0) 0 k = smC T (o 0) 0 k := rfl
    omega
  | p + 1 => by
    have ih := en_load (mm := mm) (T := T) (o := o) (k := k) p
    have e1 := en_s (mm := mm) (T := T) (o := o) (p := p + 1) (k := k)
    have e2 : opF T o k (p + 1 + 1) = opF T o k (p + 1) + T (5 * o (p + 1) + k) := rfl
    omega
theorem en_tail {mm : Nat} {T : Nat → Int} {o : Nat → Nat} {p k : Nat} (hk : k < mm) : (row 0 mm T o (p + 1)).2 k + smR T (o p) (k + 1) mm ≤ mk 0 mm T o (p + 1) := by
  have h := mom_sm (mm := mm) (T := T) (j := o p) (b := (row 0 mm T o p).1) (e := (row 0 mm T o p).2) (m := m0v 0 mm (tj T (o p)) (row 0 mm T o p).2) (mm - (k + 1)) (k + 1) mm (by omega)
  have e1 := row_2 (v := 0) (mm := mm) (t := T) (o := o) (p := p) (k := k)
  have e2 : mk 0 mm T o (p + 1) = mom 0 mm (tj T (o p)) (row 0 mm T o p).1 (row 0 mm T o p).2 (m0v 0 mm (tj T (o p)) (row 0 mm T o p).2) mm := by
    show (row 0 mm T o (p + 1)).2 (mm - 1) = _
    rw [row_2, show mm - 1 + 1 = mm by omega]
  have e3 : smR T (o p) (k + 1) mm = smC T (o p) (k + 1) (mm - (k + 1)) := rfl
  omega
theorem lsX_le {T : Nat → Int} {fr to : Nat} : ∀ n j, j ≤ n → lsX T fr to n ≤ smR T j fr to
  | 0, j, h => by
    rw [show j = 0 by omega]
    exact Int.le_refl _
  | n + 1, j, h => by
    show min (lsX T fr to n) (smR T (n + 1) fr to) ≤ _
    by_cases e : j = n + 1
    · rw [e]
      omega
    · have := lsX_le (T := T) (fr := fr) (to := to) n j (by omega)
      omega
theorem johnson1 {t : Nat → Int} {a b n : Nat} {s r : Nat → Nat} (hs : Srd (ahg t a b) n s) (hr : IsP n r) : opF t s a n = opF t r a n := by
  have e : soL (ahg t a b) ((List.range n).map r) = (List.range n).map s := by
    refine pw_uniq (ahg_tot t a b) _ _ (pw_so (ahg_tot t a b) _ (nd_map hr)) (pw_map hs) (fun x => ?_)
    rw [mem_so, mem_map_p hr, mem_map_p hs.1]
  have h := jfo_so (t := t) (a := a) (b := b) ((List.range n).map r) (0, 0)
  rw [e, opS_jfo, opS_jfo] at h
  exact h.1
theorem rule_srd (T : Nat → Int) (a b nn : Nat) (r : Nat → Nat) : Srd (ahg T a b) nn (srt (gbr T a b) r nn) := srt_srd (ahg_tot T a b) (fun i j _ hj => gbr_ahg hj) nn (Nat.le_refl _)
theorem opF_id {T : Nat → Int} {k : Nat} : ∀ n, opF T nId k n = ldC T k n
  | 0 => rfl
  | n + 1 => by
    have ih := opF_id (T := T) (k := k) n
    show opF T nId k n + T (5 * n + k) = ldC T k n + T (5 * n + k)
    rw [ih]
theorem opF_perm {T : Nat → Int} {k nn : Nat} {o : Nat → Nat} (ho : IsP nn o) : opF T o k nn = ldC T k nn := by
  have hs := rule_srd T k k nn nId
  rw [← opF_id, ← johnson1 hs ho, ← johnson1 hs (isP_nId nn)]
theorem mb_le {mm nn k : Nat} {T : Nat → Int} {o : Nat → Nat} (h1 : 1 ≤ nn) (hk : k < mm) (ho : IsP nn o) : ldC T k nn + lsX T 0 k (nn - 1) + lsX T (k + 1) mm (nn - 1) ≤ mk 0 mm T o nn := by
  obtain ⟨p, rfl⟩ : ∃ p, nn = p + 1 := ⟨nn - 1, by omega⟩
  have h2 := en_load (mm := mm) (T := T) (o := o) (k := k) p
  have h3 := en_tail (T := T) (o := o) (p := p) hk
  have h4 := lsX_le (T := T) (fr := 0) (to := k) p (o 0) (by have := ho.1 0 (by omega); omega)
  have h5 := lsX_le (T := T) (fr := k + 1) (to := mm) p (o p) (by have := ho.1 p (by omega); omega)
  have h6 := opF_perm (T := T) (k := k) ho
  rw [Nat.add_sub_cancel]
  omega
theorem en_b {mm : Nat} {T : Nat → Int} {o : Nat → Nat} {p a b : Nat} (ht : ∀ k, 0 ≤ T k ∧ T k ≤ 99) (hab : a < b) : max ((row 0 mm T o (p + 1)).2 a) ((row 0 mm T o p).2 b) + T (5 * o p + b) ≤ (row 0 mm T o (p + 1)).2 b := by
  have h := mom_sm (mm := mm) (T := T) (j := o p) (b := (row 0 mm T o p).1) (e := (row 0 mm T o p).2) (m := m0v 0 mm (tj T (o p)) (row 0 mm T o p).2) (b - (a + 1)) (a + 1) b (by omega)
  have h2 := smC_rg ht (o p) (a + 1) (b - (a + 1))
  have e1 := row_2 (v := 0) (mm := mm) (t := T) (o := o) (p := p) (k := a)
  have e2 := en_s (mm := mm) (T := T) (o := o) (p := p) (k := b)
  omega
theorem en_pair {mm : Nat} {T : Nat → Int} {o : Nat → Nat} {a b : Nat} (ht : ∀ k, 0 ≤ T k ∧ T k ≤ 99) (hab : a < b) : ∀ p, smR T (o 0) 0 a + opS T o a b (p + 1) ≤ (row 0 mm T o (p + 1)).2 b
  | 0 => by
    have h1 := en_load (mm := mm) (T := T) (o := o) (k := a) 0
    have h2 := en_b (mm := mm) (o := o) (p := 0) ht hab
    have h3 := opF_rg ht o a (0 + 1)
    have e1 : opS T o a b (0 + 1) = max (opF T o a (0 + 1)) 0 + T (5 * o 0 + b) := rfl
    omega
  | p + 1 => by
    have ih := en_pair (mm := mm) (o := o) ht hab p
    have h1 := en_load (mm := mm) (T := T) (o := o) (k := a) (p + 1)
    have h2 := en_b (mm := mm) (o := o) (p := p + 1) ht hab
    have e1 : opS T o a b (p + 1 + 1) = max (opF T o a (p + 1 + 1)) (opS T o a b (p + 1)) + T (5 * o (p + 1) + b) := rfl
    omega
theorem pb_le {mm nn a b : Nat} {T : Nat → Int} {o r : Nat → Nat} (ht : ∀ k, 0 ≤ T k ∧ T k ≤ 99) (h1 : 1 ≤ nn) (hab : a < b) (hb : b < mm) (ho : IsP nn o) : opS T (srt (gbr T a b) r nn) a b nn + lsX T 0 a (nn - 1) + lsX T (b + 1) mm (nn - 1) ≤ mk 0 mm T o nn := by
  have h0 := johnson (rule_srd T a b nn r) ho
  obtain ⟨p, rfl⟩ : ∃ p, nn = p + 1 := ⟨nn - 1, by omega⟩
  have h2 := en_pair (mm := mm) (o := o) ht hab p
  have h3 := en_tail (T := T) (o := o) (p := p) hb
  have h4 := lsX_le (T := T) (fr := 0) (to := a) p (o 0) (by have := ho.1 0 (by omega); omega)
  have h5 := lsX_le (T := T) (fr := b + 1) (to := mm) p (o p) (by have := ho.1 p (by omega); omega)
  rw [Nat.add_sub_cancel]
  omega
theorem en_2 {T : Nat → Int} {o : Nat → Nat} (ht : ∀ k, 0 ≤ T k ∧ T k ≤ 99) : ∀ n, (row 0 2 T o n).2 0 = opF T o 0 n ∧ (row 0 2 T o n).2 1 = opS T o 0 1 n
  | 0 => ⟨rfl, rfl⟩
  | n + 1 => by
    obtain ⟨h1, h2⟩ := en_2 (o := o) ht n
    have e0 := en_s (mm := 2) (T := T) (o := o) (p := n) (k := 0)
    have e1 := en_s (mm := 2) (T := T) (o := o) (p := n) (k := 1)
    have e2 : mom 0 2 (tj T (o n)) (row 0 2 T o n).1 (row 0 2 T o n).2 (m0v 0 2 (tj T (o n)) (row 0 2 T o n).2) 0 = 0 := m0_0
    have e3 : mom 0 2 (tj T (o n)) (row 0 2 T o n).1 (row 0 2 T o n).2 (m0v 0 2 (tj T (o n)) (row 0 2 T o n).2) 1 = (row 0 2 T o (n + 1)).2 0 := (row_2 (v := 0) (mm := 2) (t := T) (o := o) (p := n) (k := 0)).symm
    have h3 := (opF_rg ht o 0 n).1
    have f1 : opF T o 0 (n + 1) = opF T o 0 n + T (5 * o n + 0) := rfl
    have f2 : opS T o 0 1 (n + 1) = max (opF T o 0 (n + 1)) (opS T o 0 1 n) + T (5 * o n + 1) := rfl
    constructor
    · omega
    · omega
theorem mk_2 {T : Nat → Int} {o : Nat → Nat} {n : Nat} (ht : ∀ k, 0 ≤ T k ∧ T k ≤ 99) : mk 0 2 T o n = opS T o 0 1 n := (en_2 ht n).2
theorem lsX_nil {T : Nat → Int} {x : Nat} : ∀ n, lsX T x x n = 0
  | 0 => by
    show smC T 0 x (x - x) = 0
    rw [Nat.sub_self]
    rfl
  | n + 1 => by
    have e : smR T (n + 1) x x = 0 := by
      show smC T (n + 1) x (x - x) = 0
      rw [Nat.sub_self]
      rfl
    show min (lsX T x x n) (smR T (n + 1) x x) = 0
    rw [lsX_nil n, e]
    rfl
/-- two machines: the rule's order is a best one -/
theorem sol_2 {T : Nat → Int} {nn : Nat} {r : Nat → Nat} (ht : ∀ k, 0 ≤ T k ∧ T k ≤ 99) (hn : nn ≤ 7) : opS T (srt (gbr T 0 1) r nn) 0 1 nn = (sol 0 2 T nn).1 := by
  have hs := rule_srd T 0 1 nn r
  have h1 := sol_le (v := 0) (mm := 2) (t := T) hn hs.1
  have h2 := sol_at (v := 0) (mm := 2) (t := T) hn
  have h3 := johnson hs h2.1
  rw [mk_2 ht] at h1
  have h4 := h2.2
  rw [mk_2 ht] at h4
  omega
theorem pb_2 {mm nn : Nat} {T : Nat → Int} {r : Nat → Nat} (ht : ∀ k, 0 ≤ T k ∧ T k ≤ 99) (hn : nn ≤ 7) (hm : mm = 2) : opS T (srt (gbr T 0 1) r nn) 0 1 nn + lsX T 0 0 (nn - 1) + lsX T (1 + 1) mm (nn - 1) = (sol 0 mm T nn).1 := by
  subst hm
  rw [lsX_nil, lsX_nil, sol_2 ht hn]
  omega
/-- any bound below all makespans is below the least -/
theorem le_sol {v mm nn : Nat} {T : Nat → Int} {c : Int} (hn : nn ≤ 7) (h : ∀ o, IsP nn o → c ≤ mk v mm T o nn) : c ≤ (sol v mm T nn).1 := by
  have h2 := sol_at (v := v) (mm := mm) (t := T) hn
  rw [← h2.2]
  exact h _ h2.1
