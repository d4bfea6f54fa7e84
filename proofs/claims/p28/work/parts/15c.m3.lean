/-! two machines: no order ends sooner than the rule's -/
def ahg (t : Nat → Int) (a b i j : Nat) : Bool :=
  if t (5 * i + a) ≤ t (5 * i + b) then (if t (5 * j + a) ≤ t (5 * j + b) then (if t (5 * i + a) < t (5 * j + a) ∨ (t (5 * i + a) = t (5 * j + a) ∧ i < j) then true else false) else true)
  else (if t (5 * j + a) ≤ t (5 * j + b) then false else (if t (5 * j + b) < t (5 * i + b) ∨ (t (5 * j + b) = t (5 * i + b) ∧ i < j) then true else false))
theorem ahg_iff {t : Nat → Int} {a b i j : Nat} : ahg t a b i j = true ↔ (t (5 * i + a) ≤ t (5 * i + b) ∧ (t (5 * j + a) ≤ t (5 * j + b) → (t (5 * i + a) < t (5 * j + a) ∨ (t (5 * i + a) = t (5 * j + a) ∧ i < j)))) ∨ (¬ t (5 * i + a) ≤ t (5 * i + b) ∧ ¬ t (5 * j + a) ≤ t (5 * j + b) ∧ (t (5 * j + b) < t (5 * i + b) ∨ (t (5 * j + b) = t (5 * i + b) ∧ i < j))) := by
  unfold ahg
  by_cases c1 : t (5 * i + a) ≤ t (5 * i + b)
  · rw [if_pos c1]
    by_cases c2 : t (5 * j + a) ≤ t (5 * j + b)
    · rw [if_pos c2]
      by_cases c3 : t (5 * i + a) < t (5 * j + a) ∨ (t (5 * i + a) = t (5 * j + a) ∧ i < j)
      · rw [if_pos c3]
        exact ⟨fun _ => Or.inl ⟨c1, fun _ => c3⟩, fun _ => rfl⟩
      · rw [if_neg c3]
        exact ⟨fun q => (by cases q), fun q => q.elim (fun q => absurd (q.2 c2) c3) (fun q => absurd c1 q.1)⟩
    · rw [if_neg c2]
      exact ⟨fun _ => Or.inl ⟨c1, fun q => absurd q c2⟩, fun _ => rfl⟩
  · rw [if_neg c1]
    by_cases c2 : t (5 * j + a) ≤ t (5 * j + b)
    · rw [if_pos c2]
      exact ⟨fun q => (by cases q), fun q => q.elim (fun q => absurd q.1 c1) (fun q => absurd c2 q.2.1)⟩
    · rw [if_neg c2]
      by_cases c3 : t (5 * j + b) < t (5 * i + b) ∨ (t (5 * j + b) = t (5 * i + b) ∧ i < j)
      · rw [if_pos c3]
        exact ⟨fun _ => Or.inr ⟨c1, c2, c3⟩, fun _ => rfl⟩
      · rw [if_neg c3]
        exact ⟨fun q => (by cases q), fun q => q.elim (fun q => absurd q.1 c1) (fun q => absurd q.2.2 c3)⟩
theorem ahg_tot (t : Nat → Int) (a b : Nat) : Tot (ahg t a b) := by
  refine ⟨fun i => ?_, fun i j k h1 h2 => ?_, fun i j h => ?_⟩
  · cases hh : ahg t a b i i with
    | false => rfl
    | true =>
      rw [ahg_iff] at hh
      omega
  · rw [ahg_iff] at h1 h2 ⊢
    omega
  · rw [ahg_iff, ahg_iff]
    omega
theorem gbr_ahg {t : Nat → Int} {a b i j : Nat} (h : j < i) : gbr t a b i j = ahg t a b i j := by
  unfold gbr ahg
  split
  · split
    · by_cases c : t (5 * i + a) < t (5 * j + a)
      · rw [if_pos c, if_pos (Or.inl c)]
      · rw [if_neg c, if_neg (by omega)]
    · rfl
  · split
    · rfl
    · by_cases c : t (5 * j + b) < t (5 * i + b)
      · rw [if_pos c, if_pos (Or.inl c)]
      · rw [if_neg c, if_neg (by omega)]
/-- one job more on the two machines -/
def jst (t : Nat → Int) (a b : Nat) (z : Int × Int) (x : Nat) : Int × Int := (z.1 + t (5 * x + a), max (z.1 + t (5 * x + a)) z.2 + t (5 * x + b))
def jfo (t : Nat → Int) (a b : Nat) : List Nat → Int × Int → Int × Int
  | [], z => z
  | x :: L, z => jfo t a b L (jst t a b z x)
theorem jfo_app (t : Nat → Int) (a b : Nat) : ∀ (L M : List Nat) (z : Int × Int), jfo t a b (L ++ M) z = jfo t a b M (jfo t a b L z)
  | [], _, _ => rfl
  | x :: L, M, z => jfo_app t a b L M (jst t a b z x)
theorem opS_jfo (t : Nat → Int) (r : Nat → Nat) (a b : Nat) : ∀ n, jfo t a b ((List.range n).map r) (0, 0) = (opF t r a n, opS t r a b n)
  | 0 => rfl
  | n + 1 => by
    rw [List.range_succ, List.map_append, jfo_app, opS_jfo t r a b n]
    rfl
def jle (z w : Int × Int) : Prop := z.1 = w.1 ∧ z.2 ≤ w.2
theorem jst_mono {t : Nat → Int} {a b x : Nat} {z w : Int × Int} (h : jle z w) : jle (jst t a b z x) (jst t a b w x) := by
  obtain ⟨h1, h2⟩ := h
  refine ⟨?_, ?_⟩
  · show z.1 + _ = w.1 + _
    rw [h1]
  · show max (z.1 + _) z.2 + _ ≤ max (w.1 + _) w.2 + _
    rw [h1]
    omega
theorem jfo_mono {t : Nat → Int} {a b : Nat} : ∀ (L : List Nat) {z w : Int × Int}, jle z w → jle (jfo t a b L z) (jfo t a b L w)
  | [], _, _, h => h
  | _ :: L, _, _, h => jfo_mono L (jst_mono h)
theorem jle_tr {u v w : Int × Int} (h1 : jle u v) (h2 : jle v w) : jle u w := ⟨h1.1.trans h2.1, Int.le_trans h1.2 h2.2⟩
theorem jst_swap {t : Nat → Int} {a b x y : Nat} (z : Int × Int) (h : ahg t a b x y = true) : jle (jst t a b (jst t a b z x) y) (jst t a b (jst t a b z y) x) := by
  rw [ahg_iff] at h
  refine ⟨?_, ?_⟩
  · show z.1 + t (5 * x + a) + t (5 * y + a) = z.1 + t (5 * y + a) + t (5 * x + a)
    omega
  · show max (z.1 + t (5 * x + a) + t (5 * y + a)) (max (z.1 + t (5 * x + a)) z.2 + t (5 * x + b)) + t (5 * y + b) ≤ max (z.1 + t (5 * y + a) + t (5 * x + a)) (max (z.1 + t (5 * y + a)) z.2 + t (5 * y + b)) + t (5 * x + b)
    omega
def inL (R : Nat → Nat → Bool) (x : Nat) : List Nat → List Nat
  | [] => [x]
  | y :: L => if R y x = true then y :: inL R x L else x :: y :: L
def soL (R : Nat → Nat → Bool) : List Nat → List Nat
  | [] => []
  | x :: L => inL R x (soL R L)
theorem jfo_in {t : Nat → Int} {a b x : Nat} : ∀ (L : List Nat) (z : Int × Int), jle (jfo t a b (inL (ahg t a b) x L) z) (jfo t a b (x :: L) z)
  | [], z => ⟨rfl, Int.le_refl _⟩
  | y :: L, z => by
    unfold inL
    by_cases c : ahg t a b y x = true
    · rw [if_pos c]
      exact jle_tr (jfo_in L (jst t a b z y)) (jfo_mono L (jst_swap z c))
    · rw [if_neg c]
      exact ⟨rfl, Int.le_refl _⟩
theorem jfo_so {t : Nat → Int} {a b : Nat} : ∀ (L : List Nat) (z : Int × Int), jle (jfo t a b (soL (ahg t a b) L) z) (jfo t a b L z)
  | [], z => ⟨rfl, Int.le_refl _⟩
  | x :: L, z => jle_tr (jfo_in (soL (ahg t a b) L) z) (jfo_so L (jst t a b z x))
theorem mem_in {R : Nat → Nat → Bool} {x z : Nat} : ∀ L, z ∈ inL R x L ↔ z = x ∨ z ∈ L
  | [] => by
    unfold inL
    simp
  | y :: L => by
    unfold inL
    by_cases c : R y x = true
    · rw [if_pos c, List.mem_cons, List.mem_cons, mem_in L]
      constructor
      · rintro (h | h | h)
        · exact Or.inr (Or.inl h)
        · exact Or.inl h
        · exact Or.inr (Or.inr h)
      · rintro (h | h | h)
        · exact Or.inr (Or.inl h)
        · exact Or.inl h
        · exact Or.inr (Or.inr h)
    · rw [if_neg c, List.mem_cons]
theorem mem_so {R : Nat → Nat → Bool} {z : Nat} : ∀ L, z ∈ soL R L ↔ z ∈ L
  | [] => Iff.rfl
  | x :: L => by
    show z ∈ inL R x (soL R L) ↔ _
    rw [mem_in, mem_so L, List.mem_cons]
theorem pw_in {R : Nat → Nat → Bool} (hR : Tot R) {x : Nat} : ∀ L, L.Pairwise (fun u v => R u v = true) → x ∉ L → (inL R x L).Pairwise (fun u v => R u v = true)
  | [], _, _ => List.pairwise_singleton _ _
  | y :: L, h, hx => by
    obtain ⟨h1, h2⟩ := List.pairwise_cons.mp h
    have hxy : x ≠ y := fun e => hx (by rw [e]; exact List.mem_cons_self)
    unfold inL
    by_cases c : R y x = true
    · rw [if_pos c]
      refine List.pairwise_cons.mpr ⟨fun z hz => ?_, pw_in hR L h2 (fun q => hx (List.mem_cons_of_mem _ q))⟩
      rcases (mem_in L).mp hz with e | e
      · rw [e]
        exact c
      · exact h1 z e
    · rw [if_neg c]
      have hxy2 : R x y = true := (hR.2.2 x y hxy).elim id (fun q => absurd q c)
      refine List.pairwise_cons.mpr ⟨fun z hz => ?_, h⟩
      rcases List.mem_cons.mp hz with e | e
      · rw [e]
        exact hxy2
      · exact hR.2.1 _ _ _ hxy2 (h1 z e)
theorem pw_so {R : Nat → Nat → Bool} (hR : Tot R) : ∀ L, L.Nodup → (soL R L).Pairwise (fun u v => R u v = true)
  | [], _ => List.Pairwise.nil
  | x :: L, h => by
    obtain ⟨h1, h2⟩ := List.nodup_cons.mp h
    exact pw_in hR _ (pw_so hR L h2) (fun q => h1 ((mem_so L).mp q))
theorem pw_uniq {R : Nat → Nat → Bool} (hR : Tot R) : ∀ L M : List Nat, L.Pairwise (fun u v => R u v = true) → M.Pairwise (fun u v => R u v = true) → (∀ x, x ∈ L ↔ x ∈ M) → L = M
  | [], [], _, _, _ => rfl
  | [], y :: M, _, _, h => absurd ((h y).mpr List.mem_cons_self) List.not_mem_nil
  | x :: L, [], _, _, h => absurd ((h x).mp List.mem_cons_self) List.not_mem_nil
  | x :: L, y :: M, hL, hM, h => by
    obtain ⟨l1, l2⟩ := List.pairwise_cons.mp hL
    obtain ⟨m1, m2⟩ := List.pairwise_cons.mp hM
    have hir : ∀ u, ¬ R u u = true := fun u q => by
      rw [hR.1 u] at q
      cases q
    have e : x = y := by
      rcases List.mem_cons.mp ((h x).mp List.mem_cons_self) with q | q
      · exact q
      · rcases List.mem_cons.mp ((h y).mpr List.mem_cons_self) with q2 | q2
        · exact q2.symm
        · have := hR.2.1 _ _ _ (m1 x q) (l1 y q2)
          exact absurd this (hir y)
    subst e
    congr 1
    refine pw_uniq hR L M l2 m2 (fun z => ⟨fun hz => ?_, fun hz => ?_⟩)
    · rcases List.mem_cons.mp ((h z).mp (List.mem_cons_of_mem _ hz)) with q | q
      · rw [q] at hz
        exact absurd (l1 x hz) (hir x)
      · exact q
    · rcases List.mem_cons.mp ((h z).mpr (List.mem_cons_of_mem _ hz)) with q | q
      · rw [q] at hz
        exact absurd (m1 x hz) (hir x)
      · exact q
theorem nd_map {n : Nat} {s : Nat → Nat} (h : IsP n s) : ((List.range n).map s).Nodup := by
  unfold List.Nodup
  rw [List.pairwise_map]
  refine List.Pairwise.imp_of_mem ?_ (List.nodup_range (n := n))
  intro a b ha hb hab e
  exact hab (h.2 a b (List.mem_range.mp ha) (List.mem_range.mp hb) e)
theorem mem_map_p {n : Nat} {s : Nat → Nat} (h : IsP n s) (x : Nat) : x ∈ (List.range n).map s ↔ x < n := by
  rw [List.mem_map]
  constructor
  · rintro ⟨a, ha, e⟩
    rw [← e]
    exact h.1 a (List.mem_range.mp ha)
  · intro hx
    obtain ⟨q, hq, e⟩ := isP_surj n s h x hx
    exact ⟨q, List.mem_range.mpr hq, e⟩
theorem pw_map {R : Nat → Nat → Bool} {n : Nat} {s : Nat → Nat} (h : Srd R n s) : ((List.range n).map s).Pairwise (fun u v => R u v = true) := by
  rw [List.pairwise_map]
  refine List.Pairwise.imp_of_mem ?_ (List.pairwise_lt_range (n := n))
  intro a b ha hb hab
  exact h.2 a b hab (List.mem_range.mp hb)
/-- Johnson -/
theorem johnson {t : Nat → Int} {a b n : Nat} {s r : Nat → Nat} (hs : Srd (ahg t a b) n s) (hr : IsP n r) : opS t s a b n ≤ opS t r a b n := by
  have e : soL (ahg t a b) ((List.range n).map r) = (List.range n).map s := by
    refine pw_uniq (ahg_tot t a b) _ _ (pw_so (ahg_tot t a b) _ (nd_map hr)) (pw_map hs) (fun x => ?_)
    rw [mem_so, mem_map_p hr, mem_map_p hs.1]
  have h := jfo_so (t := t) (a := a) (b := b) ((List.range n).map r) (0, 0)
  rw [e, opS_jfo, opS_jfo] at h
  exact h.2
theorem opS_cg {t : Nat → Int} {a b : Nat} {r r' : Nat → Nat} : ∀ n, eqn n r r' → opF t r a n = opF t r' a n ∧ opS t r a b n = opS t r' a b n
  | 0, _ => ⟨rfl, rfl⟩
  | n + 1, h => by
    have ih := opS_cg (t := t) (a := a) (b := b) n (fun k hk => h k (by omega))
    have e : r n = r' n := h n (by omega)
    have h1 : opF t r a (n + 1) = opF t r' a (n + 1) := by
      show opF t r a n + t (5 * r n + a) = opF t r' a n + t (5 * r' n + a)
      rw [ih.1, e]
    refine ⟨h1, ?_⟩
    show max (opF t r a (n + 1)) (opS t r a b n) + t (5 * r n + b) = max (opF t r' a (n + 1)) (opS t r' a b n) + t (5 * r' n + b)
    rw [h1, ih.2, e]
theorem pbm_le {g : Nat → Int} : ∀ n y, y < n → pbm g n ≤ g y
  | n + 1, y, h => by
    show min (pbm g n) (g n) ≤ g y
    by_cases e : y = n
    · rw [e]
      omega
    · have := pbm_le (g := g) n y (by omega)
      omega
theorem pbm_ge {g : Nat → Int} {c : Int} (h0 : c ≤ 1000000) : ∀ n, (∀ y, y < n → c ≤ g y) → c ≤ pbm g n
  | 0, _ => h0
  | n + 1, h => by
    have h1 := pbm_ge h0 n (fun y hy => h y (by omega))
    have h2 := h n (by omega)
    show c ≤ min _ _
    omega
