/-! the run through all orders -/
def ofL (L : List Nat) : Nat → Nat := fun k => L.getD k 0
def pm : Nat → List Nat → List (List Nat)
  | 0, _ => [[]]
  | n + 1, av => av.flatMap (fun x => (pm n (av.erase x)).map (fun l => x :: l))
def chn (nn : Nat) : List (List Nat) → Bool
  | [] => true
  | [L] => pvt (ofL L) (nn - 1) == 0
  | L :: M :: r => Nat.ble 1 (pvt (ofL L) (nn - 1)) && (List.range nn).all (fun k => nxT (ofL L) nn k == ofL M k) && chn nn (M :: r)
theorem mem_pm : ∀ (n : Nat) (av l : List Nat), l.length = n → l.Nodup → (∀ x ∈ l, x ∈ av) → l ∈ pm n av
  | 0, av, l, h, _, _ => by
    rw [List.length_eq_zero_iff.mp h]
    exact List.mem_singleton.mpr rfl
  | n + 1, av, l, h, hd, hm => by
    cases l with
    | nil => cases h
    | cons x l =>
      obtain ⟨h1, h2⟩ := List.nodup_cons.mp hd
      refine List.mem_flatMap.mpr ⟨x, hm x List.mem_cons_self, List.mem_map.mpr ⟨l, ?_, rfl⟩⟩
      refine mem_pm n (av.erase x) l (by simpa using h) h2 (fun y hy => ?_)
      have hne : y ≠ x := fun e => h1 (by rw [← e]; exact hy)
      exact (List.mem_erase_of_ne hne).mpr (hm y (List.mem_cons_of_mem _ hy))
theorem sq_sh (nn : Nat) : ∀ (r : Nat → Nat) (y : Nat), sq r nn (y + 1) = sq (nxT r nn) nn y
  | _, 0 => rfl
  | r, y + 1 => by
    show nxT (sq r nn (y + 1)) nn = nxT (sq (nxT r nn) nn y) nn
    rw [sq_sh nn r y]
theorem chn_sq {nn : Nat} : ∀ (r : List (List Nat)) (L : List Nat) (s : Nat → Nat), chn nn (L :: r) = true → eqn nn s (ofL L) → (∀ y, y < r.length + 1 → eqn nn (sq s nn y) (ofL ((L :: r).getD y []))) ∧ (∀ y, y < r.length → 1 ≤ pvt (sq s nn y) (nn - 1)) ∧ (1 ≤ nn → pvt (sq s nn r.length) (nn - 1) = 0)
  | [], L, s, h, e => by
    refine ⟨fun y hy => ?_, fun y hy => absurd hy (Nat.not_lt_zero _), fun h1 => ?_⟩
    · rw [show y = 0 by exact Nat.lt_one_iff.mp hy]
      exact e
    · have h2 : (pvt (ofL L) (nn - 1) == 0) = true := h
      show pvt s (nn - 1) = 0
      rw [pvt_cg (r' := ofL L) (fun k hk => e k (by omega))]
      exact eq_of_beq h2
  | M :: r, L, s, h, e => by
    have h2 : (Nat.ble 1 (pvt (ofL L) (nn - 1)) && (List.range nn).all (fun k => nxT (ofL L) nn k == ofL M k) && chn nn (M :: r)) = true := h
    rw [Bool.and_eq_true, Bool.and_eq_true] at h2
    obtain ⟨⟨h3, h4⟩, h5⟩ := h2
    have h3' : 1 ≤ pvt (ofL L) (nn - 1) := Nat.le_of_ble_eq_true h3
    have hnn : 1 ≤ nn := by
      rcases Nat.eq_zero_or_pos nn with q | q
      · rw [q] at h3'
        exact absurd h3' (Nat.not_succ_le_zero _)
      · exact q
    have e2 : eqn nn (nxT s nn) (ofL M) := fun k hk => by
      rw [nxT_cg e k hk]
      exact eq_of_beq (List.all_eq_true.mp h4 k (List.mem_range.mpr hk))
    obtain ⟨i1, i2, i3⟩ := chn_sq r M (nxT s nn) h5 e2
    refine ⟨fun y hy => ?_, fun y hy => ?_, fun h1 => ?_⟩
    · cases y with
      | zero => exact e
      | succ y =>
        rw [sq_sh]
        exact i1 y (by simpa using hy)
    · cases y with
      | zero =>
        show 1 ≤ pvt s (nn - 1)
        rw [pvt_cg (r' := ofL L) (fun k hk => e k (by omega))]
        exact h3'
      | succ y =>
        rw [sq_sh]
        exact i2 y (by simpa using hy)
    · show pvt (sq s nn (r.length + 1)) (nn - 1) = 0
      rw [sq_sh]
      exact i3 h1
/-- what the check of one count gives -/
def okN (nn : Nat) : Bool := chn nn (pm nn (List.range nn)) && (pm nn (List.range nn)).length == fac nn && (pm nn (List.range nn)).head? == some (List.range nn)
set_option maxRecDepth 100000 in
theorem okN_a : okN 0 = true ∧ okN 1 = true ∧ okN 2 = true ∧ okN 3 = true ∧ okN 4 = true ∧ okN 5 = true := by decide +kernel
set_option maxRecDepth 100000 in
theorem okN_6 : okN 6 = true := by decide +kernel
