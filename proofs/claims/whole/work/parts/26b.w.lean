theorem pb_eq {t : Nat → Int} {nn mm a b : Nat} {r r' : Nat → Nat} (hpb : ∀ (t : Nat → Int) (nn a b : Nat) (r r' : Nat → Nat), (∀ k, 0 ≤ t k ∧ t k ≤ 99) → nn ≤ 7 → 1 ≤ nn → pbm (fun yy => opS t (sq (idr r' nn) nn yy) a b nn) (fac nn) = opS t (srt (gbr t a b) r nn) a b nn) (ht : ∀ k, 0 ≤ t k ∧ t k ≤ 99) (hn : nn ≤ 7) (hz : ∀ k, k < 35 → (nn ≤ k / 5 ∨ mm ≤ k % 5) → t k = 0) (hm : mm ≤ 5) (hab : a < b) (hb : b < mm) :
    (if nn = 0 then 0 else pbm (fun yy => opS t (sq (idr r' nn) nn yy) a b nn) (fac nn) + lsM t 0 a nn + lsM t (b + 1) mm nn) = opS t (srt (gbr t a b) r nn) a b nn + lsX t 0 a (nn - 1) + lsX t (b + 1) mm (nn - 1) := by
  by_cases h0 : nn = 0
  · rw [if_pos h0, bnd_0 h0 hz 0 a (by omega), bnd_0 h0 hz (b + 1) mm hm, h0]
    rfl
  · rw [if_neg h0, bnd_eq (mm := mm) ht (by omega) (by omega), bnd_eq (mm := mm) ht (by omega) hm, hpb t nn a b r r' ht hn (by omega)]
