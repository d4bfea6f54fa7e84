theorem gp_val {r : UInt64} (h : vf_n64 r) : FP.Core.val64 r ≠ .nan := by
  intro hn
  have h1 : r.toNat % 2 ^ 63 ≤ 9218868437227405312 := by
    have h2 : (r &&& 0x7fffffffffffffff) ≤ 0x7ff0000000000000 := h
    rw [UInt64.le_iff_toNat_le, gp_mask] at h2
    exact h2
  have hE : FP.Core.fieldE FP.Core.b64 r.toNat = r.toNat / 2 ^ 52 % 2 ^ 11 := rfl
  have hF : FP.Core.fieldT FP.Core.b64 r.toNat = r.toNat % 2 ^ 52 := rfl
  have hX : FP.Core.b64.exps - 1 = 2047 := rfl
  unfold FP.Core.val64 FP.Core.decode at hn
  rw [hE, hF, hX] at hn
  by_cases c1 : r.toNat / 2 ^ 52 % 2 ^ 11 = 2047
  · rw [if_pos c1] at hn
    by_cases c2 : r.toNat % 2 ^ 52 = 0
    · rw [if_pos c2] at hn
      cases hn
    · omega
  · rw [if_neg c1] at hn
    by_cases c2 : r.toNat / 2 ^ 52 % 2 ^ 11 = 0
    · rw [if_pos c2] at hn
      cases hn
    · rw [if_neg c2] at hn
      cases hn
theorem gapD_n {o b : Int} (hb : 0 ≤ b ∧ b ≤ 3465) : FP.Core.val64 (gapD o b) ≠ .nan := by
  unfold gapD
  by_cases h : b = 0
  · rw [if_pos h]
    exact gp_val (by show _ ≤ _; decide +kernel)
  · rw [if_neg h]
    exact gp_val (gp_nan (fun q => h ((iI_eq (b := 0) ⟨by omega, by omega⟩ ⟨by omega, by omega⟩).mp q)))
/-! nothing divided by something is nothing -/
theorem q_zero {y : UInt64} (hn : FP.Core.val64 (FP.Core.ddiv FP.Core.dconst0 y) ≠ .nan) : ∃ s : Bool, FP.Core.val64 (FP.Core.ddiv FP.Core.dconst0 y) = .fin s 0 FP.Core.b64.qmin := by
  rw [FP.Core.val64_ddiv, FP.Core.val64_dconst0] at hn ⊢
  generalize FP.Core.val64 y = d at hn ⊢
  cases d with
  | nan => exact absurd rfl hn
  | inf t => exact ⟨_, rfl⟩
  | fin t d r =>
    by_cases c : d = 0
    · refine absurd ?_ hn
      have e1 : FP.Core.quotient FP.Core.b64 (.fin false 0 FP.Core.b64.qmin) (.fin t d r) = if (0 : Nat) = 0 then FP.Core.Datum.nan else .inf (false != t) := if_pos c
      exact e1.trans (if_pos rfl)
    · have e1 : FP.Core.quotient FP.Core.b64 (.fin false 0 FP.Core.b64.qmin) (.fin t d r) = FP.Core.roundRatio FP.Core.b64 (false != t) 0 d (FP.Core.b64.qmin - r) := if_neg c
      have e2 : FP.Core.roundRatio FP.Core.b64 (false != t) 0 d (FP.Core.b64.qmin - r) = .fin (false != t) 0 FP.Core.b64.qmin := if_pos rfl
      exact ⟨_, e1.trans e2⟩
theorem z_order (s : Bool) : FP.Core.order (.fin s 0 FP.Core.b64.qmin) (.fin false 0 FP.Core.b64.qmin) = some .eq := by
  cases s <;> decide +kernel
theorem i2d_00 : FP.i2d (iI 0) = FP.Core.dconst0 := by decide +kernel
theorem gap_0 {b : Int} (hb : 0 ≤ b ∧ b ≤ 3465) : Op.cmpValue (FP.dcmp (gapD b b) FP.dconst0) .l = 0 := by
  have h : FP.dcmp (gapD b b) FP.dconst0 = some .eq := by
    have hn := gapD_n (o := b) hb
    unfold gapD at hn ⊢
    by_cases c : b = 0
    · rw [if_pos c]
      exact FP.Core.dcmp_self (fun q => by
        have e : FP.Core.val64 FP.Core.dconst0 = .nan := q
        rw [FP.Core.val64_dconst0] at e
        cases e)
    · rw [if_neg c, Int.sub_self, i2d_00] at hn
      rw [if_neg c, Int.sub_self, i2d_00]
      obtain ⟨s, e⟩ := q_zero hn
      show FP.Core.order (FP.Core.val64 (FP.Core.ddiv FP.Core.dconst0 (FP.i2d (iI b)))) (FP.Core.val64 FP.Core.dconst0) = some .eq
      rw [e, FP.Core.val64_dconst0]
      exact z_order s
  rw [h]
  rfl
/-! the set of the jobs of an order, as bits -/
def stB (r : Nat → Nat) : Nat → Int32
  | 0 => iI 0
  | p + 1 => stB r p ||| (iI 1 <<< (iI ((r p : Nat) : Int) &&& 31))
theorem stB_cg {r r' : Nat → Nat} : ∀ n, eqn n r r' → stB r n = stB r' n
  | 0, _ => rfl
  | n + 1, h => by
    have ih := stB_cg n (fun k hk => h k (by omega))
    show stB r n ||| _ = stB r' n ||| _
    rw [ih, h n (by omega)]
def fulB (nn : Nat) : Int32 := (iI 1 <<< (iI (nn : Int) &&& 31)) - iI 1
def okB (nn : Nat) : Bool := (pm nn (List.range nn)).all (fun L => stB (ofL L) nn == fulB nn)
set_option maxRecDepth 100000 in
theorem okB_a : okB 0 = true ∧ okB 1 = true ∧ okB 2 = true ∧ okB 3 = true ∧ okB 4 = true ∧ okB 5 = true := by decide +kernel
set_option maxRecDepth 100000 in
theorem okB_6 : okB 6 = true := by decide +kernel
theorem okB_all {nn : Nat} (h : nn ≤ 6) : okB nn = true := by
  obtain ⟨h0, h1, h2, h3, h4, h5⟩ := okB_a
  rcases (show nn = 0 ∨ nn = 1 ∨ nn = 2 ∨ nn = 3 ∨ nn = 4 ∨ nn = 5 ∨ nn = 6 by omega) with e | e | e | e | e | e | e
  · rw [e]; exact h0
  · rw [e]; exact h1
  · rw [e]; exact h2
  · rw [e]; exact h3
  · rw [e]; exact h4
  · rw [e]; exact h5
  · rw [e]; exact okB_6
theorem stB_full {v mm : Nat} {t : Nat → Int} {nn : Nat} (hn : nn ≤ 6) : stB (solJ v mm t nn) nn = fulB nn := by
  obtain ⟨h1, h2, -, -⟩ := ok_run (nn := nn) (by omega)
  have hy : (sol v mm t nn).2.2 < fac nn := sol_lt (by omega)
  have e := h2 _ hy
  have hy2 : (sol v mm t nn).2.2 < (pm nn (List.range nn)).length := by omega
  rw [List.getD_eq_getElem?_getD, List.getElem?_eq_getElem hy2, Option.getD_some] at e
  have h3 := List.all_eq_true.mp (okB_all hn) _ (List.getElem_mem hy2)
  exact (stB_cg nn e).trans (eq_of_beq h3)
