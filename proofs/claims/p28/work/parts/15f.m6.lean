theorem okN_all {nn : Nat} (h : nn ≤ 7) : okN nn = true := by
  obtain ⟨h0, h1, h2, h3, h4, h5⟩ := okN_a
  rcases (show nn = 0 ∨ nn = 1 ∨ nn = 2 ∨ nn = 3 ∨ nn = 4 ∨ nn = 5 ∨ nn = 6 ∨ nn = 7 by omega) with e | e | e | e | e | e | e | e
  · rw [e]; exact h0
  · rw [e]; exact h1
  · rw [e]; exact h2
  · rw [e]; exact h3
  · rw [e]; exact h4
  · rw [e]; exact h5
  · rw [e]; exact okN_6
  · rw [e]; exact okN_7
theorem ofL_range {nn : Nat} : eqn nn nId (ofL (List.range nn)) := fun k hk => by
  unfold ofL
  rw [List.getD_eq_getElem?_getD, List.getElem?_range hk]
  rfl
theorem ok_run {nn : Nat} (h : nn ≤ 7) : (pm nn (List.range nn)).length = fac nn ∧ (∀ y, y < fac nn → eqn nn (sq nId nn y) (ofL ((pm nn (List.range nn)).getD y []))) ∧ (∀ y, y + 1 < fac nn → 1 ≤ pvt (sq nId nn y) (nn - 1)) ∧ (1 ≤ nn → pvt (sq nId nn (fac nn - 1)) (nn - 1) = 0) := by
  have hk := okN_all h
  unfold okN at hk
  rw [Bool.and_eq_true, Bool.and_eq_true] at hk
  obtain ⟨⟨k1, k2⟩, k3⟩ := hk
  have k2 := eq_of_beq k2
  have k3 := eq_of_beq k3
  generalize pm nn (List.range nn) = P at k1 k2 k3 ⊢
  cases P with
  | nil => cases k3
  | cons L r =>
    have eL : L = List.range nn := Option.some.inj k3
    have k2' : r.length + 1 = fac nn := k2
    obtain ⟨i1, i2, i3⟩ := chn_sq r L nId k1 (by rw [eL]; exact ofL_range)
    refine ⟨k2, fun y hy => i1 y (by omega), fun y hy => i2 y (by omega), fun h1 => ?_⟩
    rw [show fac nn - 1 = r.length by omega]
    exact i3 h1
theorem enu_ok (nn : Nat) (h : nn ≤ 7) : Enu nn := by
  obtain ⟨-, -, h2, h3⟩ := ok_run h
  refine ⟨h2, ?_⟩
  rcases Nat.eq_zero_or_pos nn with q | q
  · rw [q]
    rfl
  · exact h3 q
theorem run_mem {nn : Nat} (h : nn ≤ 7) {s : Nat → Nat} (hs : IsP nn s) : ∃ y, y < fac nn ∧ eqn nn (sq nId nn y) s := by
  obtain ⟨h1, h2, -, -⟩ := ok_run h
  have hm := mem_pm nn (List.range nn) ((List.range nn).map s) (by simp) (nd_map hs) (fun x hx => List.mem_range.mpr ((mem_map_p hs x).mp hx))
  obtain ⟨y, hy, e⟩ := List.mem_iff_getElem.mp hm
  refine ⟨y, by omega, fun k hk => ?_⟩
  rw [h2 y (by omega) k hk]
  unfold ofL
  rw [List.getD_eq_getElem?_getD (l := pm nn (List.range nn)), List.getElem?_eq_getElem hy, Option.getD_some, e, List.getD_eq_getElem?_getD, List.getElem?_map, List.getElem?_range hk]
  rfl
theorem isP_swp {n : Nat} {r : Nat → Nat} {a b : Nat} (ha : a < n) (hb : b < n) (h : IsP n r) : IsP n (swp r a b) := by
  refine ⟨swp_lt ha hb h.1, fun i j hi hj e => ?_⟩
  unfold swp va_up at e
  by_cases i1 : i = b
  · by_cases j1 : j = b
    · omega
    · rw [if_pos i1, if_neg j1] at e
      by_cases j2 : j = a
      · rw [if_pos j2] at e
        have := h.2 a b ha hb e
        omega
      · rw [if_neg j2] at e
        have := h.2 a j ha hj e
        omega
  · by_cases j1 : j = b
    · rw [if_neg i1, if_pos j1] at e
      by_cases i2 : i = a
      · rw [if_pos i2] at e
        have := h.2 b a hb ha e
        omega
      · rw [if_neg i2] at e
        have := h.2 i a hi ha e
        omega
    · rw [if_neg i1, if_neg j1] at e
      by_cases i2 : i = a
      · by_cases j2 : j = a
        · omega
        · rw [if_pos i2, if_neg j2] at e
          have := h.2 b j hb hj e
          omega
      · by_cases j2 : j = a
        · rw [if_neg i2, if_pos j2] at e
          have := h.2 i b hi hb e
          omega
        · rw [if_neg i2, if_neg j2] at e
          exact h.2 i j hi hj e
theorem isP_rvs {n : Nat} {r : Nat → Nat} {a b : Nat} (hb : b < n) (h : IsP n r) : ∀ i, a + i ≤ b + 1 → IsP n (rvs r a b i)
  | 0, _ => h
  | i + 1, hi => isP_swp (by omega) (by omega) (isP_rvs hb h i (by omega))
theorem isP_nxT {nn : Nat} {r : Nat → Nat} (h : IsP nn r) : IsP nn (nxT r nn) := by
  unfold nxT
  by_cases c : pvt r (nn - 1) = 0
  · rw [if_pos c]
    exact h
  · rw [if_neg c]
    have h1 := pvt_le r (nn - 1)
    have h2 := ptn_le r (pvt r (nn - 1) - 1) (nn - 1)
    exact isP_rvs (by omega) (isP_swp (by omega) (by omega) h) _ (by omega)
theorem isP_sq {nn : Nat} {r : Nat → Nat} (h : IsP nn r) : ∀ y, IsP nn (sq r nn y)
  | 0 => h
  | y + 1 => isP_nxT (isP_sq h y)
theorem isP_idr (r : Nat → Nat) (nn : Nat) : IsP nn (idr r nn) := ⟨fun k hk => by rw [idr_id k hk]; exact hk, fun i j hi hj e => by rw [idr_id i hi, idr_id j hj] at e; exact e⟩
theorem pair_ok (t : Nat → Int) (nn a b : Nat) (r r' : Nat → Nat) (ht : ∀ k, 0 ≤ t k ∧ t k ≤ 99) (hn : nn ≤ 7) (h1 : 1 ≤ nn) : pbm (fun yy => opS t (sq (idr r' nn) nn yy) a b nn) (fac nn) = opS t (srt (gbr t a b) r nn) a b nn := by
  have hs : Srd (ahg t a b) nn (srt (gbr t a b) r nn) := srt_srd (ahg_tot t a b) (fun i j _ hj => gbr_ahg hj) nn (Nat.le_refl _)
  have hb := opS_rg ht (srt (gbr t a b) r nn) a b nn
  obtain ⟨y, hy, e⟩ := run_mem hn hs.1
  have e2 : eqn nn (sq (idr r' nn) nn y) (srt (gbr t a b) r nn) := fun k hk => (sq_cg idr_id y k hk).trans (e k hk)
  have l1 := pbm_le (g := fun yy => opS t (sq (idr r' nn) nn yy) a b nn) (fac nn) y hy
  have l2 : opS t (sq (idr r' nn) nn y) a b nn = opS t (srt (gbr t a b) r nn) a b nn := (opS_cg nn e2).2
  have l3 := pbm_ge (g := fun yy => opS t (sq (idr r' nn) nn yy) a b nn) (c := opS t (srt (gbr t a b) r nn) a b nn) (by omega) (fac nn) (fun y _ => johnson hs (isP_sq (isP_idr r' nn) y))
  have l4 : pbm (fun yy => opS t (sq (idr r' nn) nn yy) a b nn) (fac nn) ≤ opS t (sq (idr r' nn) nn y) a b nn := l1
  omega
