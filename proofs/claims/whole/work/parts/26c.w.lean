/-! two doubles that are one and no NaN -/
theorem gp_val {r : UInt64} (h : vf_n64 r) : FP.Core.val64 r ≠ .nan := by
  intro hn
  have h1 : r.toNat % 2 ^ 63 ≤ 9218868437227405312 := by
    have h2 : (r &&& 0x7fffffffffffffff) ≤ 0x7ff0000000000000 := h
    rw [UInt64.le_iff_toNat_le, gp_mask] at h2
    exact h2
  have hE : FP.Core.fieldE FP.Core.b64 r.toNat = r.toNat / 2 ^ 52 % 2 ^ 11 := rfl
  have hF : FP.Core.fieldT FP.Core.b64 r.toNat = r.toNat % 2 ^ 52 := rfl
  have hX : FP.Core.b64.exps - 1 = 2047 := rfl
  unfold FP.Core.val64 FP.Core.decode at hn
  rw [hE, hF, hX] at hn
  by_cases c1 : r.toNat / 2 ^ 52 % 2 ^ 11 = 2047
  · rw [if_pos c1] at hn
    by_cases c2 : r.toNat % 2 ^ 52 = 0
    · rw [if_pos c2] at hn
      cases hn
    · omega
  · rw [if_neg c1] at hn
    by_cases c2 : r.toNat / 2 ^ 52 % 2 ^ 11 = 0
    · rw [if_pos c2] at hn
      cases hn
    · rw [if_neg c2] at hn
      cases hn
theorem gapD_n {o b : Int} (hb : 0 ≤ b ∧ b ≤ 3465) : FP.Core.val64 (gapD o b) ≠ .nan := by
  unfold gapD
  by_cases h : b = 0
  · rw [if_pos h]
    exact gp_val (by show _ ≤ _; decide +kernel)
  · rw [if_neg h]
    exact gp_val (gp_nan (fun q => h ((iI_eq (b := 0) ⟨by omega, by omega⟩ ⟨by omega, by omega⟩).mp q)))
theorem w_dcmpE {p : Program} {l : Launch} {e : Env} {R : Room} {s : State} {m : MethodId} {args : Array Value} {below : List Frame} {meth : Method} {c : Code} {H : Heap} {locs : List Loc} {cells slots : Nat} {Q : State → Prop} {cc : ByteArray} {pc : Nat} {ls : Array Slot} {rest : List Value} {x : UInt64} (hn : FP.Core.val64 x ≠ .nan) (hx : p.tables.exec = Jvm.exec) (hb : c.code = cc) (hd : decode cc pc = .ok (.dcmp .l, 1)) (k : W p l e R s m args below meth c H locs cells slots Q (F0 m (pc + 1) ls (.int 0 :: rest))) : W p l e R s m args below meth c H locs cells slots Q (F0 m pc ls (.double x :: .double x :: rest)) := by
  refine lv_dcmp hx hb hd ?_
  have e9 : Op.cmpValue (FP.dcmp x x) .l = 0 := by
    rw [show FP.dcmp x x = some .eq from FP.Core.dcmp_self hn]
    rfl
  rw [e9]
  exact k
theorem isP_surj : ∀ (nn : Nat) (o : Nat → Nat), IsP nn o → ∀ j, j < nn → ∃ q, q < nn ∧ o q = j
  | 0, _, _ => fun j hj => absurd hj (Nat.not_lt_zero _)
  | n + 1, o, h => by
    have ih := isP_surj n (fun k => if o k = n then o n else o k)
    by_cases hv : o n = n
    · have h2 : IsP n (fun k => if o k = n then o n else o k) := by
        have key : ∀ k, k < n → o k ≠ n := fun k hk e => by
          have := h.2 k n (by omega) (by omega) (e.trans hv.symm)
          omega
        refine ⟨fun k hk => ?_, fun i j hi hj e => ?_⟩
        · show (if o k = n then o n else o k) < n
          rw [if_neg (key k hk)]
          have := h.1 k (by omega)
          have := key k hk
          omega
        · have e2 : (if o i = n then o n else o i) = if o j = n then o n else o j := e
          rw [if_neg (key i hi), if_neg (key j hj)] at e2
          exact h.2 i j (by omega) (by omega) e2
      intro j hj
      by_cases hjn : j = n
      · exact ⟨n, by omega, hv.trans hjn.symm⟩
      · obtain ⟨q, hq, e⟩ := ih h2 j (by omega)
        have e2 : (if o q = n then o n else o q) = j := e
        by_cases c : o q = n
        · rw [if_pos c] at e2
          omega
        · rw [if_neg c] at e2
          exact ⟨q, by omega, e2⟩
    · have hvl : o n < n := by
        have := h.1 n (by omega)
        omega
      have h2 : IsP n (fun k => if o k = n then o n else o k) := by
        refine ⟨fun k hk => ?_, fun i j hi hj e => ?_⟩
        · show (if o k = n then o n else o k) < n
          split
          · exact hvl
          · have := h.1 k (by omega)
            omega
        · have e2 : (if o i = n then o n else o i) = if o j = n then o n else o j := e
          by_cases c1 : o i = n
          · by_cases c2 : o j = n
            · exact h.2 i j (by omega) (by omega) (c1.trans c2.symm)
            · rw [if_pos c1, if_neg c2] at e2
              have := h.2 n j (by omega) (by omega) e2
              omega
          · by_cases c2 : o j = n
            · rw [if_neg c1, if_pos c2] at e2
              have := h.2 i n (by omega) (by omega) e2
              omega
            · rw [if_neg c1, if_neg c2] at e2
              exact h.2 i j (by omega) (by omega) e2
      intro j hj
      by_cases hjv : j = o n
      · exact ⟨n, by omega, hjv.symm⟩
      · by_cases hjn : j = n
        · obtain ⟨q, hq, e⟩ := ih h2 (o n) hvl
          have e2 : (if o q = n then o n else o q) = o n := e
          by_cases c : o q = n
          · exact ⟨q, by omega, c.trans hjn.symm⟩
          · rw [if_neg c] at e2
            have := h.2 q n (by omega) (by omega) e2
            omega
        · obtain ⟨q, hq, e⟩ := ih h2 j (by omega)
          have e2 : (if o q = n then o n else o q) = j := e
          by_cases c : o q = n
          · rw [if_pos c] at e2
            omega
          · rw [if_neg c] at e2
            exact ⟨q, by omega, e2⟩
/-- where a job lies, and that it lies nowhere before -/
theorem isP_at {nn : Nat} {o : Nat → Nat} (h : IsP nn o) {j : Nat} (hj : j < nn) : ∃ q, q < nn ∧ j = o q ∧ ∀ k, k < q → o k ≠ j := by
  obtain ⟨q, hq, e⟩ := isP_surj nn o h j hj
  refine ⟨q, hq, e.symm, fun k hk e2 => ?_⟩
  have := h.2 k q (by omega) hq (e2.trans e.symm)
  omega
theorem i31 (x : Int32) : 0 ≤ (x &&& iI 31).toInt ∧ (x &&& iI 31).toInt ≤ 31 := by
  have h : ((x &&& iI 31).toBitVec).toNat ≤ 31 := by
    show ((x.toBitVec) &&& (iI 31).toBitVec).toNat ≤ 31
    rw [BitVec.toNat_and]
    exact Nat.and_le_right
  have h2 : (x &&& iI 31).toInt = ((x &&& iI 31).toBitVec).toInt := rfl
  rw [h2, BitVec.toInt_eq_toNat_of_lt (by omega)]
  omega
theorem iI_nat (L : Nat) : Int32.ofNat L = iI (L : Int) := by
  unfold iI
  first | rfl | simp | exact (Int32.ofInt_natCast L).symm
