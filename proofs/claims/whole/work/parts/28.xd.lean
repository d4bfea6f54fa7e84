section
variable {p : Program} {l : Launch} {e : Env} {s : State} {m : MethodId} {args : Array Value} {below : List Frame} {meth : Method} {c : Code} {H : Heap} {locs : List Loc} {cells slots : Nat} {Q : State → Prop} {A : Nat → Prop} {bS L : Nat} {xs : Nat → Int32} {D : va_G} {cI cZ cJ : ClassId} {ad bd : Nat → Nat} {b0 : Nat} {nn mm : Nat} {tT tB tE tL : Nat → Int} {oO oR oQ : Nat → Nat} {zS zM zN : Nat → Int} {oJ : Nat → Nat} {th bm : Int} {oP : Nat → Nat} {sB sL : Nat → Int} {sR sJ : Nat → Nat} {fL : Nat → Int64} {sa : Nat → Nat} {i : Nat} {ls : Array Slot}
set_option maxHeartbeats 4000000 in
set_option maxRecDepth 100000 in
theorem arm_0 (B : L0 p s m args c sa A bS L xs D cI cZ cJ) (hMO : MO) (hl0 : l.stackTraces = false) (I : LInv nn mm tT oO oP zS zM zN oJ) (hi : i + 4 ≤ L) (hcs : cells + 1 ≤ 1053) (hss : slots + 6 ≤ 8592) (hP : va_P D vwCl (LWW ad bd b0 cI cZ cJ nn mm tT tB tE tL oO oR oQ zS zM zN oJ th nn mm bm tT oP sB sL sR sJ fL) H) (hD : va_D A (LWW ad bd b0 cI cZ cJ nn mm tT tB tE tL oO oR oQ zS zM zN oJ th nn mm bm tT oP sB sL sR sJ fL)) (hS : va_S A s.heap H locs) (hl : lv_has ls 9 [(4, .int (iI ((i : Nat) : Int))), (3, .ref b0), (2, .ref (bd 0)), (1, .ref (ad 0)), (0, .ref bS)]) (nx : NX p l e s m args below meth c Q A D cI cZ cJ ad bd b0 bS i cells slots) : W p l e room_1 s m args below meth c H locs cells slots Q (F0 m 152 ls []) := by
  obtain ⟨hn, hm, hT, hz, heq, hPm, hCK, hMb⟩ := id I
  by_cases h : nn < 7
  · exact law_0 B hMO hl0 I hi h hcs hss hP hD hS hl nx
  · exact law_0t B hMO hl0 I hi (by omega) hcs hss hP hD hS hl nx
set_option maxHeartbeats 4000000 in
set_option maxRecDepth 100000 in
theorem arm_1 (B : L0 p s m args c sa A bS L xs D cI cZ cJ) (hMO : MO) (hl0 : l.stackTraces = false) (I : LInv nn mm tT oO oP zS zM zN oJ) (hi : i + 4 ≤ L) (hcs : cells + 1 ≤ 1053) (hss : slots + 6 ≤ 8592) (hP : va_P D vwCl (LWW ad bd b0 cI cZ cJ nn mm tT tB tE tL oO oR oQ zS zM zN oJ th nn mm bm tT oP sB sL sR sJ fL) H) (hD : va_D A (LWW ad bd b0 cI cZ cJ nn mm tT tB tE tL oO oR oQ zS zM zN oJ th nn mm bm tT oP sB sL sR sJ fL)) (hS : va_S A s.heap H locs) (hl : lv_has ls 9 [(4, .int (iI ((i : Nat) : Int))), (3, .ref b0), (2, .ref (bd 0)), (1, .ref (ad 0)), (0, .ref bS)]) (nx : NX p l e s m args below meth c Q A D cI cZ cJ ad bd b0 bS i cells slots) : W p l e room_1 s m args below meth c H locs cells slots Q (F0 m 196 ls []) := by
  obtain ⟨hn, hm, hT, hz, heq, hPm, hCK, hMb⟩ := id I
  obtain ⟨x, rx, ex⟩ := iI_of (xs (i + 1))
  have x1 := rx.1
  have x2 := rx.2
  by_cases h : 1 ≤ x ∧ x ≤ 5
  · obtain ⟨w, rfl⟩ := Int.eq_ofNat_of_zero_le (show 0 ≤ x by omega)
    exact law_1 B hMO hl0 I hi (by omega) ex hcs hss hP hD hS hl nx
  · exact law_1t B hMO hl0 I hi (by omega) h ex hcs hss hP hD hS hl nx
set_option maxHeartbeats 4000000 in
set_option maxRecDepth 100000 in
theorem arm_2 (B : L0 p s m args c sa A bS L xs D cI cZ cJ) (hMO : MO) (hl0 : l.stackTraces = false) (I : LInv nn mm tT oO oP zS zM zN oJ) (hi : i + 4 ≤ L) (hcs : cells + 1 ≤ 1053) (hss : slots + 6 ≤ 8592) (hP : va_P D vwCl (LWW ad bd b0 cI cZ cJ nn mm tT tB tE tL oO oR oQ zS zM zN oJ th nn mm bm tT oP sB sL sR sJ fL) H) (hD : va_D A (LWW ad bd b0 cI cZ cJ nn mm tT tB tE tL oO oR oQ zS zM zN oJ th nn mm bm tT oP sB sL sR sJ fL)) (hS : va_S A s.heap H locs) (hl : lv_has ls 9 [(4, .int (iI ((i : Nat) : Int))), (3, .ref b0), (2, .ref (bd 0)), (1, .ref (ad 0)), (0, .ref bS)]) (nx : NX p l e s m args below meth c Q A D cI cZ cJ ad bd b0 bS i cells slots) : W p l e room_1 s m args below meth c H locs cells slots Q (F0 m 252 ls []) := by
  obtain ⟨hn, hm, hT, hz, heq, hPm, hCK, hMb⟩ := id I
  obtain ⟨x, rx, ex⟩ := iI_of (xs (i + 1))
  have x1 := rx.1
  have x2 := rx.2
  obtain ⟨y, ry, ey⟩ := iI_of (xs (i + 2))
  have y1 := ry.1
  have y2 := ry.2
  obtain ⟨z, rz, ez⟩ := iI_of (xs (i + 3))
  have z1 := rz.1
  have z2 := rz.2
  by_cases h : (0 ≤ x ∧ x < (nn : Int)) ∧ 0 ≤ y ∧ y < (mm : Int)
  · obtain ⟨j, rfl⟩ := Int.eq_ofNat_of_zero_le (show 0 ≤ x by omega)
    obtain ⟨k, rfl⟩ := Int.eq_ofNat_of_zero_le (show 0 ≤ y by omega)
    by_cases h2 : 0 ≤ z ∧ z ≤ 99
    · exact law_2 B hMO hl0 I hi (by omega) (by omega) h2 ex ey ez hcs hss hP hD hS hl nx
    · exact law_2u B hMO hl0 I hi (by omega) (by omega) (by omega) h2 ex ey ez hcs hss hP hD hS hl nx
  · exact law_2t B hMO hl0 I hi (by omega) h ex ey ez hcs hss hP hD hS hl nx
set_option maxHeartbeats 4000000 in
set_option maxRecDepth 100000 in
theorem arm_3 (B : L0 p s m args c sa A bS L xs D cI cZ cJ) (hMO : MO) (hl0 : l.stackTraces = false) (I : LInv nn mm tT oO oP zS zM zN oJ) (hi : i + 4 ≤ L) (hcs : cells + 1 ≤ 1053) (hss : slots + 6 ≤ 8592) (hP : va_P D vwCl (LWW ad bd b0 cI cZ cJ nn mm tT tB tE tL oO oR oQ zS zM zN oJ th nn mm bm tT oP sB sL sR sJ fL) H) (hD : va_D A (LWW ad bd b0 cI cZ cJ nn mm tT tB tE tL oO oR oQ zS zM zN oJ th nn mm bm tT oP sB sL sR sJ fL)) (hS : va_S A s.heap H locs) (hl : lv_has ls 9 [(4, .int (iI ((i : Nat) : Int))), (3, .ref b0), (2, .ref (bd 0)), (1, .ref (ad 0)), (0, .ref bS)]) (nx : NX p l e s m args below meth c Q A D cI cZ cJ ad bd b0 bS i cells slots) : W p l e room_1 s m args below meth c H locs cells slots Q (F0 m 332 ls []) := by
  obtain ⟨hn, hm, hT, hz, heq, hPm, hCK, hMb⟩ := id I
  obtain ⟨x, rx, ex⟩ := iI_of (xs (i + 1))
  have x1 := rx.1
  have x2 := rx.2
  obtain ⟨y, ry, ey⟩ := iI_of (xs (i + 2))
  have y1 := ry.1
  have y2 := ry.2
  by_cases h : (0 ≤ x ∧ x < (nn : Int)) ∧ 0 ≤ y ∧ y < (mm : Int)
  · obtain ⟨j, rfl⟩ := Int.eq_ofNat_of_zero_le (show 0 ≤ x by omega)
    obtain ⟨k, rfl⟩ := Int.eq_ofNat_of_zero_le (show 0 ≤ y by omega)
    exact law_3 B hMO hl0 I hi (by omega) (by omega) ex ey hcs hss hP hD hS hl nx
  · exact law_3t B hMO hl0 I hi (by omega) h ex ey hcs hss hP hD hS hl nx
set_option maxHeartbeats 4000000 in
set_option maxRecDepth 100000 in
theorem arm_4 (B : L0 p s m args c sa A bS L xs D cI cZ cJ) (hMO : MO) (hl0 : l.stackTraces = false) (I : LInv nn mm tT oO oP zS zM zN oJ) (hi : i + 4 ≤ L) (hcs : cells + 1 ≤ 1053) (hss : slots + 6 ≤ 8592) (hP : va_P D vwCl (LWW ad bd b0 cI cZ cJ nn mm tT tB tE tL oO oR oQ zS zM zN oJ th nn mm bm tT oP sB sL sR sJ fL) H) (hD : va_D A (LWW ad bd b0 cI cZ cJ nn mm tT tB tE tL oO oR oQ zS zM zN oJ th nn mm bm tT oP sB sL sR sJ fL)) (hS : va_S A s.heap H locs) (hl : lv_has ls 9 [(4, .int (iI ((i : Nat) : Int))), (3, .ref b0), (2, .ref (bd 0)), (1, .ref (ad 0)), (0, .ref bS)]) (nx : NX p l e s m args below meth c Q A D cI cZ cJ ad bd b0 bS i cells slots) : W p l e room_1 s m args below meth c H locs cells slots Q (F0 m 400 ls []) := by
  obtain ⟨hn, hm, hT, hz, heq, hPm, hCK, hMb⟩ := id I
  exact law_4 B hMO hl0 I hi hcs hss hP hD hS hl nx
set_option maxHeartbeats 4000000 in
set_option maxRecDepth 100000 in
theorem arm_5 (B : L0 p s m args c sa A bS L xs D cI cZ cJ) (hMO : MO) (hl0 : l.stackTraces = false) (I : LInv nn mm tT oO oP zS zM zN oJ) (hi : i + 4 ≤ L) (hcs : cells + 1 ≤ 1053) (hss : slots + 6 ≤ 8592) (hP : va_P D vwCl (LWW ad bd b0 cI cZ cJ nn mm tT tB tE tL oO oR oQ zS zM zN oJ th nn mm bm tT oP sB sL sR sJ fL) H) (hD : va_D A (LWW ad bd b0 cI cZ cJ nn mm tT tB tE tL oO oR oQ zS zM zN oJ th nn mm bm tT oP sB sL sR sJ fL)) (hS : va_S A s.heap H locs) (hl : lv_has ls 9 [(4, .int (iI ((i : Nat) : Int))), (3, .ref b0), (2, .ref (bd 0)), (1, .ref (ad 0)), (0, .ref bS)]) (nx : NX p l e s m args below meth c Q A D cI cZ cJ ad bd b0 bS i cells slots) : W p l e room_1 s m args below meth c H locs cells slots Q (F0 m 413 ls []) := by
  obtain ⟨hn, hm, hT, hz, heq, hPm, hCK, hMb⟩ := id I
  exact law_5 B hMO hl0 I hi hcs hss hP hD hS hl nx
set_option maxHeartbeats 4000000 in
set_option maxRecDepth 100000 in
theorem arm_10 (B : L0 p s m args c sa A bS L xs D cI cZ cJ) (hMO : MO) (hl0 : l.stackTraces = false) (I : LInv nn mm tT oO oP zS zM zN oJ) (hi : i + 4 ≤ L) (hcs : cells + 1 ≤ 1053) (hss : slots + 6 ≤ 8592) (hP : va_P D vwCl (LWW ad bd b0 cI cZ cJ nn mm tT tB tE tL oO oR oQ zS zM zN oJ th nn mm bm tT oP sB sL sR sJ fL) H) (hD : va_D A (LWW ad bd b0 cI cZ cJ nn mm tT tB tE tL oO oR oQ zS zM zN oJ th nn mm bm tT oP sB sL sR sJ fL)) (hS : va_S A s.heap H locs) (hl : lv_has ls 9 [(4, .int (iI ((i : Nat) : Int))), (3, .ref b0), (2, .ref (bd 0)), (1, .ref (ad 0)), (0, .ref bS)]) (nx : NX p l e s m args below meth c Q A D cI cZ cJ ad bd b0 bS i cells slots) : W p l e room_1 s m args below meth c H locs cells slots Q (F0 m 662 ls []) := by
  obtain ⟨hn, hm, hT, hz, heq, hPm, hCK, hMb⟩ := id I
  exact law_10 B hMO hl0 I hi hcs hss hP hD hS hl nx
set_option maxHeartbeats 4000000 in
set_option maxRecDepth 100000 in
theorem arm_11 (B : L0 p s m args c sa A bS L xs D cI cZ cJ) (hMO : MO) (hl0 : l.stackTraces = false) (I : LInv nn mm tT oO oP zS zM zN oJ) (hi : i + 4 ≤ L) (hcs : cells + 1 ≤ 1053) (hss : slots + 6 ≤ 8592) (hP : va_P D vwCl (LWW ad bd b0 cI cZ cJ nn mm tT tB tE tL oO oR oQ zS zM zN oJ th nn mm bm tT oP sB sL sR sJ fL) H) (hD : va_D A (LWW ad bd b0 cI cZ cJ nn mm tT tB tE tL oO oR oQ zS zM zN oJ th nn mm bm tT oP sB sL sR sJ fL)) (hS : va_S A s.heap H locs) (hl : lv_has ls 9 [(4, .int (iI ((i : Nat) : Int))), (3, .ref b0), (2, .ref (bd 0)), (1, .ref (ad 0)), (0, .ref bS)]) (nx : NX p l e s m args below meth c Q A D cI cZ cJ ad bd b0 bS i cells slots) : W p l e room_1 s m args below meth c H locs cells slots Q (F0 m 675 ls []) := by
  obtain ⟨hn, hm, hT, hz, heq, hPm, hCK, hMb⟩ := id I
  exact law_11 B hMO hl0 I hi hcs hss hP hD hS hl nx
set_option maxHeartbeats 4000000 in
set_option maxRecDepth 100000 in
theorem arm_14 (B : L0 p s m args c sa A bS L xs D cI cZ cJ) (hMO : MO) (hl0 : l.stackTraces = false) (I : LInv nn mm tT oO oP zS zM zN oJ) (hi : i + 4 ≤ L) (hcs : cells + 1 ≤ 1053) (hss : slots + 6 ≤ 8592) (hP : va_P D vwCl (LWW ad bd b0 cI cZ cJ nn mm tT tB tE tL oO oR oQ zS zM zN oJ th nn mm bm tT oP sB sL sR sJ fL) H) (hD : va_D A (LWW ad bd b0 cI cZ cJ nn mm tT tB tE tL oO oR oQ zS zM zN oJ th nn mm bm tT oP sB sL sR sJ fL)) (hS : va_S A s.heap H locs) (hl : lv_has ls 9 [(4, .int (iI ((i : Nat) : Int))), (3, .ref b0), (2, .ref (bd 0)), (1, .ref (ad 0)), (0, .ref bS)]) (nx : NX p l e s m args below meth c Q A D cI cZ cJ ad bd b0 bS i cells slots) : W p l e room_1 s m args below meth c H locs cells slots Q (F0 m 824 ls []) := by
  obtain ⟨hn, hm, hT, hz, heq, hPm, hCK, hMb⟩ := id I
  exact law_14 B hMO hl0 I hi hcs hss hP hD hS hl nx
set_option maxHeartbeats 4000000 in
set_option maxRecDepth 100000 in
theorem arm_24 (B : L0 p s m args c sa A bS L xs D cI cZ cJ) (hMO : MO) (hl0 : l.stackTraces = false) (I : LInv nn mm tT oO oP zS zM zN oJ) (hi : i + 4 ≤ L) (hcs : cells + 1 ≤ 1053) (hss : slots + 6 ≤ 8592) (hP : va_P D vwCl (LWW ad bd b0 cI cZ cJ nn mm tT tB tE tL oO oR oQ zS zM zN oJ th nn mm bm tT oP sB sL sR sJ fL) H) (hD : va_D A (LWW ad bd b0 cI cZ cJ nn mm tT tB tE tL oO oR oQ zS zM zN oJ th nn mm bm tT oP sB sL sR sJ fL)) (hS : va_S A s.heap H locs) (hl : lv_has ls 9 [(4, .int (iI ((i : Nat) : Int))), (3, .ref b0), (2, .ref (bd 0)), (1, .ref (ad 0)), (0, .ref bS)]) (nx : NX p l e s m args below meth c Q A D cI cZ cJ ad bd b0 bS i cells slots) : W p l e room_1 s m args below meth c H locs cells slots Q (F0 m 1420 ls []) := by
  obtain ⟨hn, hm, hT, hz, heq, hPm, hCK, hMb⟩ := id I
  exact law_24 B hMO hl0 I hi hcs hss hP hD hS hl nx
set_option maxHeartbeats 4000000 in
set_option maxRecDepth 100000 in
theorem arm_6 (B : L0 p s m args c sa A bS L xs D cI cZ cJ) (hMO : MO) (hl0 : l.stackTraces = false) (I : LInv nn mm tT oO oP zS zM zN oJ) (hi : i + 4 ≤ L) (hcs : cells + 1 ≤ 1053) (hss : slots + 6 ≤ 8592) (hP : va_P D vwCl (LWW ad bd b0 cI cZ cJ nn mm tT tB tE tL oO oR oQ zS zM zN oJ th nn mm bm tT oP sB sL sR sJ fL) H) (hD : va_D A (LWW ad bd b0 cI cZ cJ nn mm tT tB tE tL oO oR oQ zS zM zN oJ th nn mm bm tT oP sB sL sR sJ fL)) (hS : va_S A s.heap H locs) (hl : lv_has ls 9 [(4, .int (iI ((i : Nat) : Int))), (3, .ref b0), (2, .ref (bd 0)), (1, .ref (ad 0)), (0, .ref bS)]) (nx : NX p l e s m args below meth c Q A D cI cZ cJ ad bd b0 bS i cells slots) : W p l e room_1 s m args below meth c H locs cells slots Q (F0 m 426 ls []) := by
  obtain ⟨hn, hm, hT, hz, heq, hPm, hCK, hMb⟩ := id I
  obtain ⟨x, rx, ex⟩ := iI_of (xs (i + 1))
  have x1 := rx.1
  have x2 := rx.2
  by_cases h : 0 ≤ x ∧ x < (nn : Int)
  · obtain ⟨q, rfl⟩ := Int.eq_ofNat_of_zero_le h.1
    exact law_6 B hMO hl0 I hi (by omega) ex hcs hss hP hD hS hl nx
  · exact law_6t B hMO hl0 I hi (by omega) h ex hcs hss hP hD hS hl nx
set_option maxHeartbeats 4000000 in
set_option maxRecDepth 100000 in
theorem arm_7 (B : L0 p s m args c sa A bS L xs D cI cZ cJ) (hMO : MO) (hl0 : l.stackTraces = false) (I : LInv nn mm tT oO oP zS zM zN oJ) (hi : i + 4 ≤ L) (hcs : cells + 1 ≤ 1053) (hss : slots + 6 ≤ 8592) (hP : va_P D vwCl (LWW ad bd b0 cI cZ cJ nn mm tT tB tE tL oO oR oQ zS zM zN oJ th nn mm bm tT oP sB sL sR sJ fL) H) (hD : va_D A (LWW ad bd b0 cI cZ cJ nn mm tT tB tE tL oO oR oQ zS zM zN oJ th nn mm bm tT oP sB sL sR sJ fL)) (hS : va_S A s.heap H locs) (hl : lv_has ls 9 [(4, .int (iI ((i : Nat) : Int))), (3, .ref b0), (2, .ref (bd 0)), (1, .ref (ad 0)), (0, .ref bS)]) (nx : NX p l e s m args below meth c Q A D cI cZ cJ ad bd b0 bS i cells slots) : W p l e room_1 s m args below meth c H locs cells slots Q (F0 m 482 ls []) := by
  obtain ⟨hn, hm, hT, hz, heq, hPm, hCK, hMb⟩ := id I
  obtain ⟨x, rx, ex⟩ := iI_of (xs (i + 1))
  have x1 := rx.1
  have x2 := rx.2
  obtain ⟨y, ry, ey⟩ := iI_of (xs (i + 2))
  have y1 := ry.1
  have y2 := ry.2
  by_cases h : (0 ≤ x ∧ x < (nn : Int)) ∧ 0 ≤ y ∧ y < (nn : Int)
  · obtain ⟨j, rfl⟩ := Int.eq_ofNat_of_zero_le (show 0 ≤ x by omega)
    obtain ⟨b9, rfl⟩ := Int.eq_ofNat_of_zero_le (show 0 ≤ y by omega)
    obtain ⟨q, hq, hj, hw⟩ := isP_at hPm (show j < nn by omega)
    exact law_7 B hMO hl0 I hi (by omega) hq hj hw (by omega) ex ey hcs hss hP hD hS hl nx
  · exact law_7t B hMO hl0 I hi (by omega) h ex ey hcs hss hP hD hS hl nx
set_option maxHeartbeats 4000000 in
set_option maxRecDepth 100000 in
theorem arm_8 (B : L0 p s m args c sa A bS L xs D cI cZ cJ) (hMO : MO) (hl0 : l.stackTraces = false) (I : LInv nn mm tT oO oP zS zM zN oJ) (hi : i + 4 ≤ L) (hcs : cells + 1 ≤ 1053) (hss : slots + 6 ≤ 8592) (hP : va_P D vwCl (LWW ad bd b0 cI cZ cJ nn mm tT tB tE tL oO oR oQ zS zM zN oJ th nn mm bm tT oP sB sL sR sJ fL) H) (hD : va_D A (LWW ad bd b0 cI cZ cJ nn mm tT tB tE tL oO oR oQ zS zM zN oJ th nn mm bm tT oP sB sL sR sJ fL)) (hS : va_S A s.heap H locs) (hl : lv_has ls 9 [(4, .int (iI ((i : Nat) : Int))), (3, .ref b0), (2, .ref (bd 0)), (1, .ref (ad 0)), (0, .ref bS)]) (nx : NX p l e s m args below meth c Q A D cI cZ cJ ad bd b0 bS i cells slots) : W p l e room_1 s m args below meth c H locs cells slots Q (F0 m 550 ls []) := by
  obtain ⟨hn, hm, hT, hz, heq, hPm, hCK, hMb⟩ := id I
  obtain ⟨x, rx, ex⟩ := iI_of (xs (i + 1))
  have x1 := rx.1
  have x2 := rx.2
  obtain ⟨y, ry, ey⟩ := iI_of (xs (i + 2))
  have y1 := ry.1
  have y2 := ry.2
  by_cases h : (0 ≤ x ∧ x < (nn : Int)) ∧ 0 ≤ y ∧ y < (nn : Int)
  · obtain ⟨j, rfl⟩ := Int.eq_ofNat_of_zero_le (show 0 ≤ x by omega)
    obtain ⟨b9, rfl⟩ := Int.eq_ofNat_of_zero_le (show 0 ≤ y by omega)
    obtain ⟨q, hq, hj, hw⟩ := isP_at hPm (show j < nn by omega)
    exact law_8 B hMO hl0 I hi (by omega) hq hj hw (by omega) ex ey hcs hss hP hD hS hl nx
  · exact law_8t B hMO hl0 I hi (by omega) h ex ey hcs hss hP hD hS hl nx
set_option maxHeartbeats 4000000 in
set_option maxRecDepth 100000 in
theorem arm_9 (B : L0 p s m args c sa A bS L xs D cI cZ cJ) (hMO : MO) (hl0 : l.stackTraces = false) (I : LInv nn mm tT oO oP zS zM zN oJ) (hi : i + 4 ≤ L) (hcs : cells + 1 ≤ 1053) (hss : slots + 6 ≤ 8592) (hP : va_P D vwCl (LWW ad bd b0 cI cZ cJ nn mm tT tB tE tL oO oR oQ zS zM zN oJ th nn mm bm tT oP sB sL sR sJ fL) H) (hD : va_D A (LWW ad bd b0 cI cZ cJ nn mm tT tB tE tL oO oR oQ zS zM zN oJ th nn mm bm tT oP sB sL sR sJ fL)) (hS : va_S A s.heap H locs) (hl : lv_has ls 9 [(4, .int (iI ((i : Nat) : Int))), (3, .ref b0), (2, .ref (bd 0)), (1, .ref (ad 0)), (0, .ref bS)]) (nx : NX p l e s m args below meth c Q A D cI cZ cJ ad bd b0 bS i cells slots) : W p l e room_1 s m args below meth c H locs cells slots Q (F0 m 618 ls []) := by
  obtain ⟨hn, hm, hT, hz, heq, hPm, hCK, hMb⟩ := id I
  by_cases h : mm = 2
  · exact law_9 B hMO hl0 I hi h hcs hss hP hD hS hl nx
  · exact law_9t B hMO hl0 I hi h hcs hss hP hD hS hl nx
set_option maxHeartbeats 4000000 in
set_option maxRecDepth 100000 in
theorem arm_12 (B : L0 p s m args c sa A bS L xs D cI cZ cJ) (hMO : MO) (hl0 : l.stackTraces = false) (I : LInv nn mm tT oO oP zS zM zN oJ) (hi : i + 4 ≤ L) (hcs : cells + 1 ≤ 1053) (hss : slots + 6 ≤ 8592) (hP : va_P D vwCl (LWW ad bd b0 cI cZ cJ nn mm tT tB tE tL oO oR oQ zS zM zN oJ th nn mm bm tT oP sB sL sR sJ fL) H) (hD : va_D A (LWW ad bd b0 cI cZ cJ nn mm tT tB tE tL oO oR oQ zS zM zN oJ th nn mm bm tT oP sB sL sR sJ fL)) (hS : va_S A s.heap H locs) (hl : lv_has ls 9 [(4, .int (iI ((i : Nat) : Int))), (3, .ref b0), (2, .ref (bd 0)), (1, .ref (ad 0)), (0, .ref bS)]) (nx : NX p l e s m args below meth c Q A D cI cZ cJ ad bd b0 bS i cells slots) : W p l e room_1 s m args below meth c H locs cells slots Q (F0 m 688 ls []) := by
  obtain ⟨hn, hm, hT, hz, heq, hPm, hCK, hMb⟩ := id I
  obtain ⟨x, rx, ex⟩ := iI_of (xs (i + 1))
  have x1 := rx.1
  have x2 := rx.2
  by_cases h : 0 ≤ x ∧ x ≤ 2
  · obtain ⟨v, rfl⟩ := Int.eq_ofNat_of_zero_le h.1
    exact law_12 B hMO hl0 I hi (by omega) ex hcs hss hP hD hS hl nx
  · exact law_12t B hMO hl0 I hi (by omega) h ex hcs hss hP hD hS hl nx
set_option maxHeartbeats 4000000 in
set_option maxRecDepth 100000 in
theorem arm_21 (B : L0 p s m args c sa A bS L xs D cI cZ cJ) (hMO : MO) (hl0 : l.stackTraces = false) (I : LInv nn mm tT oO oP zS zM zN oJ) (hi : i + 4 ≤ L) (hcs : cells + 1 ≤ 1053) (hss : slots + 6 ≤ 8592) (hP : va_P D vwCl (LWW ad bd b0 cI cZ cJ nn mm tT tB tE tL oO oR oQ zS zM zN oJ th nn mm bm tT oP sB sL sR sJ fL) H) (hD : va_D A (LWW ad bd b0 cI cZ cJ nn mm tT tB tE tL oO oR oQ zS zM zN oJ th nn mm bm tT oP sB sL sR sJ fL)) (hS : va_S A s.heap H locs) (hl : lv_has ls 9 [(4, .int (iI ((i : Nat) : Int))), (3, .ref b0), (2, .ref (bd 0)), (1, .ref (ad 0)), (0, .ref bS)]) (nx : NX p l e s m args below meth c Q A D cI cZ cJ ad bd b0 bS i cells slots) : W p l e room_1 s m args below meth c H locs cells slots Q (F0 m 1240 ls []) := by
  obtain ⟨hn, hm, hT, hz, heq, hPm, hCK, hMb⟩ := id I
  obtain ⟨x, rx, ex⟩ := iI_of (xs (i + 1))
  have x1 := rx.1
  have x2 := rx.2
  by_cases h : 0 ≤ x ∧ x ≤ 2
  · obtain ⟨v, rfl⟩ := Int.eq_ofNat_of_zero_le h.1
    exact law_21 B hMO hl0 I hi (by omega) ex hcs hss hP hD hS hl nx
  · exact law_21t B hMO hl0 I hi (by omega) h ex hcs hss hP hD hS hl nx
set_option maxHeartbeats 4000000 in
set_option maxRecDepth 100000 in
theorem arm_23 (B : L0 p s m args c sa A bS L xs D cI cZ cJ) (hMO : MO) (hl0 : l.stackTraces = false) (I : LInv nn mm tT oO oP zS zM zN oJ) (hi : i + 4 ≤ L) (hcs : cells + 1 ≤ 1053) (hss : slots + 6 ≤ 8592) (hP : va_P D vwCl (LWW ad bd b0 cI cZ cJ nn mm tT tB tE tL oO oR oQ zS zM zN oJ th nn mm bm tT oP sB sL sR sJ fL) H) (hD : va_D A (LWW ad bd b0 cI cZ cJ nn mm tT tB tE tL oO oR oQ zS zM zN oJ th nn mm bm tT oP sB sL sR sJ fL)) (hS : va_S A s.heap H locs) (hl : lv_has ls 9 [(4, .int (iI ((i : Nat) : Int))), (3, .ref b0), (2, .ref (bd 0)), (1, .ref (ad 0)), (0, .ref bS)]) (nx : NX p l e s m args below meth c Q A D cI cZ cJ ad bd b0 bS i cells slots) : W p l e room_1 s m args below meth c H locs cells slots Q (F0 m 1364 ls []) := by
  obtain ⟨hn, hm, hT, hz, heq, hPm, hCK, hMb⟩ := id I
  obtain ⟨x, rx, ex⟩ := iI_of (xs (i + 1))
  have x1 := rx.1
  have x2 := rx.2
  by_cases h : 0 ≤ x ∧ x ≤ 2
  · obtain ⟨v, rfl⟩ := Int.eq_ofNat_of_zero_le h.1
    exact law_23 B hMO hl0 I hi (by omega) ex hcs hss hP hD hS hl nx
  · exact law_23t B hMO hl0 I hi (by omega) h ex hcs hss hP hD hS hl nx
set_option maxHeartbeats 4000000 in
set_option maxRecDepth 100000 in
theorem arm_13 (B : L0 p s m args c sa A bS L xs D cI cZ cJ) (hMO : MO) (hl0 : l.stackTraces = false) (I : LInv nn mm tT oO oP zS zM zN oJ) (hi : i + 4 ≤ L) (hcs : cells + 1 ≤ 1053) (hss : slots + 6 ≤ 8592) (hP : va_P D vwCl (LWW ad bd b0 cI cZ cJ nn mm tT tB tE tL oO oR oQ zS zM zN oJ th nn mm bm tT oP sB sL sR sJ fL) H) (hD : va_D A (LWW ad bd b0 cI cZ cJ nn mm tT tB tE tL oO oR oQ zS zM zN oJ th nn mm bm tT oP sB sL sR sJ fL)) (hS : va_S A s.heap H locs) (hl : lv_has ls 9 [(4, .int (iI ((i : Nat) : Int))), (3, .ref b0), (2, .ref (bd 0)), (1, .ref (ad 0)), (0, .ref bS)]) (nx : NX p l e s m args below meth c Q A D cI cZ cJ ad bd b0 bS i cells slots) : W p l e room_1 s m args below meth c H locs cells slots Q (F0 m 744 ls []) := by
  obtain ⟨hn, hm, hT, hz, heq, hPm, hCK, hMb⟩ := id I
  obtain ⟨x, rx, ex⟩ := iI_of (xs (i + 1))
  have x1 := rx.1
  have x2 := rx.2
  obtain ⟨y, ry, ey⟩ := iI_of (xs (i + 2))
  have y1 := ry.1
  have y2 := ry.2
  obtain ⟨z, rz, ez⟩ := iI_of (xs (i + 3))
  have z1 := rz.1
  have z2 := rz.2
  by_cases h : 0 ≤ x ∧ x ≤ 2
  · obtain ⟨v, rfl⟩ := Int.eq_ofNat_of_zero_le h.1
    by_cases h2 : (0 ≤ y ∧ y < (nn : Int)) ∧ 0 ≤ z ∧ z < (mm : Int)
    · obtain ⟨q, rfl⟩ := Int.eq_ofNat_of_zero_le h2.1.1
      obtain ⟨k, rfl⟩ := Int.eq_ofNat_of_zero_le h2.2.1
      exact law_13 B hMO hl0 I hi (by omega) (by omega) (by omega) ex ey ez hcs hss hP hD hS hl nx
    · exact law_13u B hMO hl0 I hi (by omega) (by omega) h2 ex ey ez hcs hss hP hD hS hl nx
  · exact law_13t B hMO hl0 I hi (by omega) h ex ey ez hcs hss hP hD hS hl nx
set_option maxHeartbeats 4000000 in
set_option maxRecDepth 100000 in
theorem arm_15 (B : L0 p s m args c sa A bS L xs D cI cZ cJ) (hMO : MO) (hl0 : l.stackTraces = false) (I : LInv nn mm tT oO oP zS zM zN oJ) (hi : i + 4 ≤ L) (hcs : cells + 1 ≤ 1053) (hss : slots + 6 ≤ 8592) (hP : va_P D vwCl (LWW ad bd b0 cI cZ cJ nn mm tT tB tE tL oO oR oQ zS zM zN oJ th nn mm bm tT oP sB sL sR sJ fL) H) (hD : va_D A (LWW ad bd b0 cI cZ cJ nn mm tT tB tE tL oO oR oQ zS zM zN oJ th nn mm bm tT oP sB sL sR sJ fL)) (hS : va_S A s.heap H locs) (hl : lv_has ls 9 [(4, .int (iI ((i : Nat) : Int))), (3, .ref b0), (2, .ref (bd 0)), (1, .ref (ad 0)), (0, .ref bS)]) (nx : NX p l e s m args below meth c Q A D cI cZ cJ ad bd b0 bS i cells slots) : W p l e room_1 s m args below meth c H locs cells slots Q (F0 m 837 ls []) := by
  obtain ⟨hn, hm, hT, hz, heq, hPm, hCK, hMb⟩ := id I
  obtain ⟨x, rx, ex⟩ := iI_of (xs (i + 1))
  have x1 := rx.1
  have x2 := rx.2
  obtain ⟨y, ry, ey⟩ := iI_of (xs (i + 2))
  have y1 := ry.1
  have y2 := ry.2
  by_cases h : (0 ≤ x ∧ x < (nn : Int)) ∧ 0 ≤ y ∧ y < (mm : Int)
  · obtain ⟨q, rfl⟩ := Int.eq_ofNat_of_zero_le (show 0 ≤ x by omega)
    obtain ⟨k, rfl⟩ := Int.eq_ofNat_of_zero_le (show 0 ≤ y by omega)
    exact law_15 B hMO hl0 I hi (by omega) (by omega) ex ey hcs hss hP hD hS hl nx
  · exact law_15t B hMO hl0 I hi (by omega) h ex ey hcs hss hP hD hS hl nx
set_option maxHeartbeats 4000000 in
set_option maxRecDepth 100000 in
theorem arm_16 (B : L0 p s m args c sa A bS L xs D cI cZ cJ) (hMO : MO) (hl0 : l.stackTraces = false) (I : LInv nn mm tT oO oP zS zM zN oJ) (hi : i + 4 ≤ L) (hcs : cells + 1 ≤ 1053) (hss : slots + 6 ≤ 8592) (hP : va_P D vwCl (LWW ad bd b0 cI cZ cJ nn mm tT tB tE tL oO oR oQ zS zM zN oJ th nn mm bm tT oP sB sL sR sJ fL) H) (hD : va_D A (LWW ad bd b0 cI cZ cJ nn mm tT tB tE tL oO oR oQ zS zM zN oJ th nn mm bm tT oP sB sL sR sJ fL)) (hS : va_S A s.heap H locs) (hl : lv_has ls 9 [(4, .int (iI ((i : Nat) : Int))), (3, .ref b0), (2, .ref (bd 0)), (1, .ref (ad 0)), (0, .ref bS)]) (nx : NX p l e s m args below meth c Q A D cI cZ cJ ad bd b0 bS i cells slots) : W p l e room_1 s m args below meth c H locs cells slots Q (F0 m 905 ls []) := by
  obtain ⟨hn, hm, hT, hz, heq, hPm, hCK, hMb⟩ := id I
  obtain ⟨x, rx, ex⟩ := iI_of (xs (i + 1))
  have x1 := rx.1
  have x2 := rx.2
  obtain ⟨y, ry, ey⟩ := iI_of (xs (i + 2))
  have y1 := ry.1
  have y2 := ry.2
  by_cases h : (0 ≤ x ∧ x < (nn : Int)) ∧ 0 ≤ y ∧ y < (mm : Int)
  · obtain ⟨q, rfl⟩ := Int.eq_ofNat_of_zero_le (show 0 ≤ x by omega)
    obtain ⟨k, rfl⟩ := Int.eq_ofNat_of_zero_le (show 0 ≤ y by omega)
    exact law_16 B hMO hl0 I hi (by omega) (by omega) ex ey hcs hss hP hD hS hl nx
  · exact law_16t B hMO hl0 I hi (by omega) h ex ey hcs hss hP hD hS hl nx
set_option maxHeartbeats 4000000 in
set_option maxRecDepth 100000 in
theorem arm_17 (B : L0 p s m args c sa A bS L xs D cI cZ cJ) (hMO : MO) (hl0 : l.stackTraces = false) (I : LInv nn mm tT oO oP zS zM zN oJ) (hi : i + 4 ≤ L) (hcs : cells + 1 ≤ 1053) (hss : slots + 6 ≤ 8592) (hP : va_P D vwCl (LWW ad bd b0 cI cZ cJ nn mm tT tB tE tL oO oR oQ zS zM zN oJ th nn mm bm tT oP sB sL sR sJ fL) H) (hD : va_D A (LWW ad bd b0 cI cZ cJ nn mm tT tB tE tL oO oR oQ zS zM zN oJ th nn mm bm tT oP sB sL sR sJ fL)) (hS : va_S A s.heap H locs) (hl : lv_has ls 9 [(4, .int (iI ((i : Nat) : Int))), (3, .ref b0), (2, .ref (bd 0)), (1, .ref (ad 0)), (0, .ref bS)]) (nx : NX p l e s m args below meth c Q A D cI cZ cJ ad bd b0 bS i cells slots) : W p l e room_1 s m args below meth c H locs cells slots Q (F0 m 973 ls []) := by
  obtain ⟨hn, hm, hT, hz, heq, hPm, hCK, hMb⟩ := id I
  obtain ⟨x, rx, ex⟩ := iI_of (xs (i + 1))
  have x1 := rx.1
  have x2 := rx.2
  obtain ⟨y, ry, ey⟩ := iI_of (xs (i + 2))
  have y1 := ry.1
  have y2 := ry.2
  by_cases h : (0 ≤ x ∧ x < (nn : Int)) ∧ 0 ≤ y ∧ y < (mm : Int)
  · obtain ⟨q, rfl⟩ := Int.eq_ofNat_of_zero_le (show 0 ≤ x by omega)
    obtain ⟨k, rfl⟩ := Int.eq_ofNat_of_zero_le (show 0 ≤ y by omega)
    exact law_17 B hMO hl0 I hi (by omega) (by omega) ex ey hcs hss hP hD hS hl nx
  · exact law_17t B hMO hl0 I hi (by omega) h ex ey hcs hss hP hD hS hl nx
set_option maxHeartbeats 4000000 in
set_option maxRecDepth 100000 in
theorem arm_18 (B : L0 p s m args c sa A bS L xs D cI cZ cJ) (hMO : MO) (hl0 : l.stackTraces = false) (I : LInv nn mm tT oO oP zS zM zN oJ) (hi : i + 4 ≤ L) (hcs : cells + 1 ≤ 1053) (hss : slots + 6 ≤ 8592) (hP : va_P D vwCl (LWW ad bd b0 cI cZ cJ nn mm tT tB tE tL oO oR oQ zS zM zN oJ th nn mm bm tT oP sB sL sR sJ fL) H) (hD : va_D A (LWW ad bd b0 cI cZ cJ nn mm tT tB tE tL oO oR oQ zS zM zN oJ th nn mm bm tT oP sB sL sR sJ fL)) (hS : va_S A s.heap H locs) (hl : lv_has ls 9 [(4, .int (iI ((i : Nat) : Int))), (3, .ref b0), (2, .ref (bd 0)), (1, .ref (ad 0)), (0, .ref bS)]) (nx : NX p l e s m args below meth c Q A D cI cZ cJ ad bd b0 bS i cells slots) : W p l e room_1 s m args below meth c H locs cells slots Q (F0 m 1048 ls []) := by
  obtain ⟨hn, hm, hT, hz, heq, hPm, hCK, hMb⟩ := id I
  obtain ⟨x, rx, ex⟩ := iI_of (xs (i + 1))
  have x1 := rx.1
  have x2 := rx.2
  obtain ⟨y, ry, ey⟩ := iI_of (xs (i + 2))
  have y1 := ry.1
  have y2 := ry.2
  by_cases h : 0 ≤ x ∧ x ≤ 2
  · obtain ⟨v, rfl⟩ := Int.eq_ofNat_of_zero_le h.1
    by_cases h2 : 0 ≤ y ∧ y < (mm : Int)
    · obtain ⟨k, rfl⟩ := Int.eq_ofNat_of_zero_le h2.1
      exact law_18 B hMO hl0 I hi (by omega) (by omega) ex ey hcs hss hP hD hS hl nx
    · exact law_18u B hMO hl0 I hi (by omega) (by omega) h2 ex ey hcs hss hP hD hS hl nx
  · exact law_18t B hMO hl0 I hi (by omega) h ex ey hcs hss hP hD hS hl nx
set_option maxHeartbeats 4000000 in
set_option maxRecDepth 100000 in
theorem arm_22 (B : L0 p s m args c sa A bS L xs D cI cZ cJ) (hMO : MO) (hl0 : l.stackTraces = false) (I : LInv nn mm tT oO oP zS zM zN oJ) (hi : i + 4 ≤ L) (hcs : cells + 1 ≤ 1053) (hss : slots + 6 ≤ 8592) (hP : va_P D vwCl (LWW ad bd b0 cI cZ cJ nn mm tT tB tE tL oO oR oQ zS zM zN oJ th nn mm bm tT oP sB sL sR sJ fL) H) (hD : va_D A (LWW ad bd b0 cI cZ cJ nn mm tT tB tE tL oO oR oQ zS zM zN oJ th nn mm bm tT oP sB sL sR sJ fL)) (hS : va_S A s.heap H locs) (hl : lv_has ls 9 [(4, .int (iI ((i : Nat) : Int))), (3, .ref b0), (2, .ref (bd 0)), (1, .ref (ad 0)), (0, .ref bS)]) (nx : NX p l e s m args below meth c Q A D cI cZ cJ ad bd b0 bS i cells slots) : W p l e room_1 s m args below meth c H locs cells slots Q (F0 m 1296 ls []) := by
  obtain ⟨hn, hm, hT, hz, heq, hPm, hCK, hMb⟩ := id I
  obtain ⟨x, rx, ex⟩ := iI_of (xs (i + 1))
  have x1 := rx.1
  have x2 := rx.2
  obtain ⟨y, ry, ey⟩ := iI_of (xs (i + 2))
  have y1 := ry.1
  have y2 := ry.2
  by_cases h : 0 ≤ x ∧ x ≤ 2
  · obtain ⟨v, rfl⟩ := Int.eq_ofNat_of_zero_le h.1
    by_cases h2 : 0 ≤ y ∧ y < (nn : Int)
    · obtain ⟨k, rfl⟩ := Int.eq_ofNat_of_zero_le h2.1
      exact law_22 B hMO hl0 I hi (by omega) (by omega) ex ey hcs hss hP hD hS hl nx
    · exact law_22u B hMO hl0 I hi (by omega) (by omega) h2 ex ey hcs hss hP hD hS hl nx
  · exact law_22t B hMO hl0 I hi (by omega) h ex ey hcs hss hP hD hS hl nx
set_option maxHeartbeats 4000000 in
set_option maxRecDepth 100000 in
theorem arm_19 (B : L0 p s m args c sa A bS L xs D cI cZ cJ) (hMO : MO) (hl0 : l.stackTraces = false) (I : LInv nn mm tT oO oP zS zM zN oJ) (hi : i + 4 ≤ L) (hcs : cells + 1 ≤ 1053) (hss : slots + 6 ≤ 8592) (hP : va_P D vwCl (LWW ad bd b0 cI cZ cJ nn mm tT tB tE tL oO oR oQ zS zM zN oJ th nn mm bm tT oP sB sL sR sJ fL) H) (hD : va_D A (LWW ad bd b0 cI cZ cJ nn mm tT tB tE tL oO oR oQ zS zM zN oJ th nn mm bm tT oP sB sL sR sJ fL)) (hS : va_S A s.heap H locs) (hl : lv_has ls 9 [(4, .int (iI ((i : Nat) : Int))), (3, .ref b0), (2, .ref (bd 0)), (1, .ref (ad 0)), (0, .ref bS)]) (nx : NX p l e s m args below meth c Q A D cI cZ cJ ad bd b0 bS i cells slots) : W p l e room_1 s m args below meth c H locs cells slots Q (F0 m 1116 ls []) := by
  obtain ⟨hn, hm, hT, hz, heq, hPm, hCK, hMb⟩ := id I
  obtain ⟨x, rx, ex⟩ := iI_of (xs (i + 1))
  have x1 := rx.1
  have x2 := rx.2
  by_cases h : 0 ≤ x ∧ x < (mm : Int)
  · obtain ⟨k, rfl⟩ := Int.eq_ofNat_of_zero_le h.1
    exact law_19 B hMO hl0 I hi (by omega) ex hcs hss hP hD hS hl nx
  · exact law_19t B hMO hl0 I hi (by omega) h ex hcs hss hP hD hS hl nx
set_option maxHeartbeats 4000000 in
set_option maxRecDepth 100000 in
theorem arm_20 (B : L0 p s m args c sa A bS L xs D cI cZ cJ) (hMO : MO) (hl0 : l.stackTraces = false) (I : LInv nn mm tT oO oP zS zM zN oJ) (hi : i + 4 ≤ L) (hcs : cells + 1 ≤ 1053) (hss : slots + 6 ≤ 8592) (hP : va_P D vwCl (LWW ad bd b0 cI cZ cJ nn mm tT tB tE tL oO oR oQ zS zM zN oJ th nn mm bm tT oP sB sL sR sJ fL) H) (hD : va_D A (LWW ad bd b0 cI cZ cJ nn mm tT tB tE tL oO oR oQ zS zM zN oJ th nn mm bm tT oP sB sL sR sJ fL)) (hS : va_S A s.heap H locs) (hl : lv_has ls 9 [(4, .int (iI ((i : Nat) : Int))), (3, .ref b0), (2, .ref (bd 0)), (1, .ref (ad 0)), (0, .ref bS)]) (nx : NX p l e s m args below meth c Q A D cI cZ cJ ad bd b0 bS i cells slots) : W p l e room_1 s m args below meth c H locs cells slots Q (F0 m 1172 ls []) := by
  obtain ⟨hn, hm, hT, hz, heq, hPm, hCK, hMb⟩ := id I
  obtain ⟨x, rx, ex⟩ := iI_of (xs (i + 1))
  have x1 := rx.1
  have x2 := rx.2
  obtain ⟨y, ry, ey⟩ := iI_of (xs (i + 2))
  have y1 := ry.1
  have y2 := ry.2
  by_cases h : (0 ≤ x ∧ x < (mm : Int)) ∧ 0 ≤ y ∧ y < (mm : Int)
  · obtain ⟨a, rfl⟩ := Int.eq_ofNat_of_zero_le (show 0 ≤ x by omega)
    obtain ⟨b9, rfl⟩ := Int.eq_ofNat_of_zero_le (show 0 ≤ y by omega)
    by_cases h2 : a < b9
    · exact law_20 B hMO hl0 I hi h2 (by omega) ex ey hcs hss hP hD hS hl nx
    · exact law_20u B hMO hl0 I hi (by omega) (by omega) (by omega) ex ey hcs hss hP hD hS hl nx
  · exact law_20t B hMO hl0 I hi (by omega) h ex ey hcs hss hP hD hS hl nx
set_option maxHeartbeats 4000000 in
set_option maxRecDepth 100000 in
theorem law_sw (B : L0 p s m args c sa A bS L xs D cI cZ cJ) (hMO : MO) (hl0 : l.stackTraces = false) (I : LInv nn mm tT oO oP zS zM zN oJ) (hi : i + 4 ≤ L) {x : Int32} (h0 : 0 ≤ x.toInt) (hcs : cells + 1 ≤ 1053) (hss : slots + 6 ≤ 8592) (hP : va_P D vwCl (LWW ad bd b0 cI cZ cJ nn mm tT tB tE tL oO oR oQ zS zM zN oJ th nn mm bm tT oP sB sL sR sJ fL) H) (hD : va_D A (LWW ad bd b0 cI cZ cJ nn mm tT tB tE tL oO oR oQ zS zM zN oJ th nn mm bm tT oP sB sL sR sJ fL)) (hS : va_S A s.heap H locs) (hl : lv_has ls 9 [(4, .int (iI ((i : Nat) : Int))), (3, .ref b0), (2, .ref (bd 0)), (1, .ref (ad 0)), (0, .ref bS)]) (nx : NX p l e s m args below meth c Q A D cI cZ cJ ad bd b0 bS i cells slots) : W p l e room_1 s m args below meth c H locs cells slots Q (F0 m 39 ls [.int x]) := by
  obtain ⟨hx, hb, -⟩ := id B
  by_cases c0 : x.toInt = 0
  · refine lv_tableIn (off := 113) (tgt := 152) hx hb dL_law_39 (by rw [c0]; decide) (by rw [c0]; decide) (by rw [c0]; rfl) (by decide) ?_
    exact arm_0 B hMO hl0 I hi hcs hss hP hD hS hl nx
  by_cases c1 : x.toInt = 1
  · refine lv_tableIn (off := 157) (tgt := 196) hx hb dL_law_39 (by rw [c1]; decide) (by rw [c1]; decide) (by rw [c1]; rfl) (by decide) ?_
    exact arm_1 B hMO hl0 I hi hcs hss hP hD hS hl nx
  by_cases c2 : x.toInt = 2
  · refine lv_tableIn (off := 213) (tgt := 252) hx hb dL_law_39 (by rw [c2]; decide) (by rw [c2]; decide) (by rw [c2]; rfl) (by decide) ?_
    exact arm_2 B hMO hl0 I hi hcs hss hP hD hS hl nx
  by_cases c3 : x.toInt = 3
  · refine lv_tableIn (off := 293) (tgt := 332) hx hb dL_law_39 (by rw [c3]; decide) (by rw [c3]; decide) (by rw [c3]; rfl) (by decide) ?_
    exact arm_3 B hMO hl0 I hi hcs hss hP hD hS hl nx
  by_cases c4 : x.toInt = 4
  · refine lv_tableIn (off := 361) (tgt := 400) hx hb dL_law_39 (by rw [c4]; decide) (by rw [c4]; decide) (by rw [c4]; rfl) (by decide) ?_
    exact arm_4 B hMO hl0 I hi hcs hss hP hD hS hl nx
  by_cases c5 : x.toInt = 5
  · refine lv_tableIn (off := 374) (tgt := 413) hx hb dL_law_39 (by rw [c5]; decide) (by rw [c5]; decide) (by rw [c5]; rfl) (by decide) ?_
    exact arm_5 B hMO hl0 I hi hcs hss hP hD hS hl nx
  by_cases c6 : x.toInt = 6
  · refine lv_tableIn (off := 387) (tgt := 426) hx hb dL_law_39 (by rw [c6]; decide) (by rw [c6]; decide) (by rw [c6]; rfl) (by decide) ?_
    exact arm_6 B hMO hl0 I hi hcs hss hP hD hS hl nx
  by_cases c7 : x.toInt = 7
  · refine lv_tableIn (off := 443) (tgt := 482) hx hb dL_law_39 (by rw [c7]; decide) (by rw [c7]; decide) (by rw [c7]; rfl) (by decide) ?_
    exact arm_7 B hMO hl0 I hi hcs hss hP hD hS hl nx
  by_cases c8 : x.toInt = 8
  · refine lv_tableIn (off := 511) (tgt := 550) hx hb dL_law_39 (by rw [c8]; decide) (by rw [c8]; decide) (by rw [c8]; rfl) (by decide) ?_
    exact arm_8 B hMO hl0 I hi hcs hss hP hD hS hl nx
  by_cases c9 : x.toInt = 9
  · refine lv_tableIn (off := 579) (tgt := 618) hx hb dL_law_39 (by rw [c9]; decide) (by rw [c9]; decide) (by rw [c9]; rfl) (by decide) ?_
    exact arm_9 B hMO hl0 I hi hcs hss hP hD hS hl nx
  by_cases c10 : x.toInt = 10
  · refine lv_tableIn (off := 623) (tgt := 662) hx hb dL_law_39 (by rw [c10]; decide) (by rw [c10]; decide) (by rw [c10]; rfl) (by decide) ?_
    exact arm_10 B hMO hl0 I hi hcs hss hP hD hS hl nx
  by_cases c11 : x.toInt = 11
  · refine lv_tableIn (off := 636) (tgt := 675) hx hb dL_law_39 (by rw [c11]; decide) (by rw [c11]; decide) (by rw [c11]; rfl) (by decide) ?_
    exact arm_11 B hMO hl0 I hi hcs hss hP hD hS hl nx
  by_cases c12 : x.toInt = 12
  · refine lv_tableIn (off := 649) (tgt := 688) hx hb dL_law_39 (by rw [c12]; decide) (by rw [c12]; decide) (by rw [c12]; rfl) (by decide) ?_
    exact arm_12 B hMO hl0 I hi hcs hss hP hD hS hl nx
  by_cases c13 : x.toInt = 13
  · refine lv_tableIn (off := 705) (tgt := 744) hx hb dL_law_39 (by rw [c13]; decide) (by rw [c13]; decide) (by rw [c13]; rfl) (by decide) ?_
    exact arm_13 B hMO hl0 I hi hcs hss hP hD hS hl nx
  by_cases c14 : x.toInt = 14
  · refine lv_tableIn (off := 785) (tgt := 824) hx hb dL_law_39 (by rw [c14]; decide) (by rw [c14]; decide) (by rw [c14]; rfl) (by decide) ?_
    exact arm_14 B hMO hl0 I hi hcs hss hP hD hS hl nx
  by_cases c15 : x.toInt = 15
  · refine lv_tableIn (off := 798) (tgt := 837) hx hb dL_law_39 (by rw [c15]; decide) (by rw [c15]; decide) (by rw [c15]; rfl) (by decide) ?_
    exact arm_15 B hMO hl0 I hi hcs hss hP hD hS hl nx
  by_cases c16 : x.toInt = 16
  · refine lv_tableIn (off := 866) (tgt := 905) hx hb dL_law_39 (by rw [c16]; decide) (by rw [c16]; decide) (by rw [c16]; rfl) (by decide) ?_
    exact arm_16 B hMO hl0 I hi hcs hss hP hD hS hl nx
  by_cases c17 : x.toInt = 17
  · refine lv_tableIn (off := 934) (tgt := 973) hx hb dL_law_39 (by rw [c17]; decide) (by rw [c17]; decide) (by rw [c17]; rfl) (by decide) ?_
    exact arm_17 B hMO hl0 I hi hcs hss hP hD hS hl nx
  by_cases c18 : x.toInt = 18
  · refine lv_tableIn (off := 1009) (tgt := 1048) hx hb dL_law_39 (by rw [c18]; decide) (by rw [c18]; decide) (by rw [c18]; rfl) (by decide) ?_
    exact arm_18 B hMO hl0 I hi hcs hss hP hD hS hl nx
  by_cases c19 : x.toInt = 19
  · refine lv_tableIn (off := 1077) (tgt := 1116) hx hb dL_law_39 (by rw [c19]; decide) (by rw [c19]; decide) (by rw [c19]; rfl) (by decide) ?_
    exact arm_19 B hMO hl0 I hi hcs hss hP hD hS hl nx
  by_cases c20 : x.toInt = 20
  · refine lv_tableIn (off := 1133) (tgt := 1172) hx hb dL_law_39 (by rw [c20]; decide) (by rw [c20]; decide) (by rw [c20]; rfl) (by decide) ?_
    exact arm_20 B hMO hl0 I hi hcs hss hP hD hS hl nx
  by_cases c21 : x.toInt = 21
  · refine lv_tableIn (off := 1201) (tgt := 1240) hx hb dL_law_39 (by rw [c21]; decide) (by rw [c21]; decide) (by rw [c21]; rfl) (by decide) ?_
    exact arm_21 B hMO hl0 I hi hcs hss hP hD hS hl nx
  by_cases c22 : x.toInt = 22
  · refine lv_tableIn (off := 1257) (tgt := 1296) hx hb dL_law_39 (by rw [c22]; decide) (by rw [c22]; decide) (by rw [c22]; rfl) (by decide) ?_
    exact arm_22 B hMO hl0 I hi hcs hss hP hD hS hl nx
  by_cases c23 : x.toInt = 23
  · refine lv_tableIn (off := 1325) (tgt := 1364) hx hb dL_law_39 (by rw [c23]; decide) (by rw [c23]; decide) (by rw [c23]; rfl) (by decide) ?_
    exact arm_23 B hMO hl0 I hi hcs hss hP hD hS hl nx
  by_cases c24 : x.toInt = 24
  · refine lv_tableIn (off := 1381) (tgt := 1420) hx hb dL_law_39 (by rw [c24]; decide) (by rw [c24]; decide) (by rw [c24]; rfl) (by decide) ?_
    exact arm_24 B hMO hl0 I hi hcs hss hP hD hS hl nx
  refine lv_tableOut (tgt := 1461) hx hb dL_law_39 (Or.inr (by omega)) (by decide) ?_
  exact nx nn mm tT tB tE tL oO oR oQ zS zM zN oJ th bm oP sB sL sR sJ fL _ _ _ _ ls I (Nat.le_succ _) (Nat.le_add_right _ _) hP hD hS hl
set_option maxHeartbeats 4000000 in
set_option maxRecDepth 100000 in
theorem law_loop (B : L0 p s m args c sa A bS L xs D cI cZ cJ) (hMO : MO) (hl0 : l.stackTraces = false)
    (hret : ∀ (H : Heap) (locs : List Loc) (cells slots : Nat) (ls : Array Slot), cells ≤ 1053 → slots ≤ 8592 → va_S A s.heap H locs → W p l e room_1 s m args below meth c H locs cells slots Q (F0 m 1468 ls [.int (iI 1)])) :
    ∀ (fu i : Nat) (nn mm : Nat) (tT tB tE tL : Nat → Int) (oO oR oQ : Nat → Nat) (zS zM zN : Nat → Int) (oJ : Nat → Nat) (th bm : Int) (oP : Nat → Nat) (sB sL : Nat → Int) (sR sJ : Nat → Nat) (fL : Nat → Int64) (H : Heap) (locs : List Loc) (cells slots : Nat) (ls : Array Slot), L < i + fu → i ≤ L → 4 * cells ≤ 80 + i → 2 * slots ≤ 692 + 3 * i → LInv nn mm tT oO oP zS zM zN oJ → va_P D vwCl (LWW ad bd b0 cI cZ cJ nn mm tT tB tE tL oO oR oQ zS zM zN oJ th nn mm bm tT oP sB sL sR sJ fL) H → va_D A (LWW ad bd b0 cI cZ cJ nn mm tT tB tE tL oO oR oQ zS zM zN oJ th nn mm bm tT oP sB sL sR sJ fL) → va_S A s.heap H locs → lv_has ls 9 [(4, .int (iI ((i : Nat) : Int))), (3, .ref b0), (2, .ref (bd 0)), (1, .ref (ad 0)), (0, .ref bS)] → W p l e room_1 s m args below meth c H locs cells slots Q (F0 m 23 ls []) := by
  obtain ⟨hx, hb, hml, hown, hts, hK, hA, hX, hbl, hbA, hFX, hSX, hCX, hL⟩ := id B
  intro fu
  induction fu with
  | zero =>
    intro i nn mm tT tB tE tL oO oR oQ zS zM zN oJ th bm oP sB sL sR sJ fL H locs cells slots ls h1 h2
    exact absurd h1 (by omega)
  | succ fu ih =>
    intro i nn mm tT tB tE tL oO oR oQ zS zM zN oJ th bm oP sB sL sR sJ fL H locs cells slots ls hfu hiL hcs hss I hP hD hS hl
    refine lv_iload hx hb dL_law_23 (lv_at hl 0 rfl) ?_
    refine lv_aload_n hx hb dL_law_25 rfl (lv_at hl 4 rfl) ?_
    refine va_slen hx hb hX hbl hbA hS dL_law_26 ?_
    refine w_top (v := iI ((L : Nat) : Int)) (iI_nat L) ?_
    refine lv_iconst (v := iI 4) hx hb dL_law_27 rfl ?_
    refine w_isub (z := ((L : Nat) : Int) - 4) hx hb dL_law_28 rfl ?_
    refine w_icmp_gt (tgt := 1467) hx hb dL_law_29 (by decide) ⟨by omega, by omega⟩ ⟨by omega, by omega⟩ (fun c29 => ?_) (fun c29 => ?_)
    · refine lv_iconst (v := iI 1) hx hb dL_law_1467 rfl ?_
      exact hret H locs cells slots ls (by omega) (by omega) hS
    · refine lv_aload_n hx hb dL_law_32 rfl (lv_at hl 4 rfl) ?_
      refine lv_iload hx hb dL_law_33 (lv_at hl 0 rfl) ?_
      refine w_sld hx hb hX hbl hbA hS hL i rfl (by omega) rfl dL_law_35 ?_
      refine lv_bipush (v := iI 31) hx hb dL_law_36 (by decide) ?_
      refine lv_iand hx hb dL_law_38 ?_
      refine law_sw B hMO hl0 I (by omega) (i31 (xs i)).1 (by omega) (by omega) hP hD hS hl ?_
      intro nn mm tT tB tE tL oO oR oQ zS zM zN oJ th bm oP sB sL sR sJ fL H locs cells' slots' ls I hc9 hs9 hP hD hS hl
      refine lv_iinc (v := iI ((i + 4 : Nat) : Int)) (lv' := [(4, .int (iI ((i + 4 : Nat) : Int))), (3, .ref b0), (2, .ref (bd 0)), (1, .ref (ad 0)), (0, .ref bS)]) hx hb dL_law_1461 hl (k := 0) rfl (iI_inc (by omega)) (by decide) rfl (fun ls hl => ?_)
      refine lv_goto (tgt := 23) hx hb dL_law_1464 (by decide) ?_
      exact ih (i + 4) nn mm tT tB tE tL oO oR oQ zS zM zN oJ th bm oP sB sL sR sJ fL H locs cells' slots' ls (by omega) (by omega) (by omega) (by omega) I hP hD hS hl
end
