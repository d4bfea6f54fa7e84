theorem BS_M {v nn : Nat} {zM zN M N : Nat → Int} {oJ r J : Nat → Nat} {g : Nat → Int} {y : Nat} {K : Int} (h : BS v nn zM zN oJ r g y M N J) (hv : 0 ≤ M v ∧ M v ≤ K) (h0 : ∀ k, k ≤ 2 → 0 ≤ zM k ∧ zM k ≤ K) : ∀ k, k ≤ 2 → 0 ≤ M k ∧ M k ≤ K := by
  intro k hk
  by_cases hkv : k = v
  · rw [hkv]
    exact hv
  · rw [h.1 k hkv]
    exact h0 k hk
