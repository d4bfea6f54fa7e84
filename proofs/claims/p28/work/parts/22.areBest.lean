section
variable {l : Launch} {D : va_G} {cI cZ cJ : ClassId} {ad bd : Nat → Nat} {a0 : Nat} {ws : va_W} {nn mm : Nat} {th bm : Int} {tT tB tE tL : Nat → Int} {oO oR oQ : Nat → Nat} {zS zM zN : Nat → Int} {oJ fF : Nat → Nat}
set_option maxHeartbeats 4000000 in
set_option maxRecDepth 100000 in
theorem mL_areBest (hT : ∀ k, 0 ≤ tT k ∧ tT k ≤ 99) (hn : nn ≤ 7) (hm : 1 ≤ mm ∧ mm ≤ 5) (h1n : 1 ≤ nn) (hI : IsP nn oO) (hE : Enu nn) (hCK : CK mm tT nn zS zM zN oJ) (hMb : ∀ k, k ≤ 2 → 0 ≤ zM k ∧ zM k ≤ 1000000) : IM l yL_areBest wsL_areBest (rmx 6 141) D (tyk cI cZ cJ) (xw ad cI cZ nn mm tT tB tE tL oO oR oQ zS zM zN oJ) [.ref (ad 0)] (QI D (tyk cI cZ cJ) (fun u : (Nat → Int) × (Nat → Int) × (Nat → Nat) × (Nat → Int) × (Nat → Int) × (Nat → Nat) × (Nat → Int) => xw ad cI cZ nn mm tT u.1 u.2.1 tL oO u.2.2.1 oQ u.2.2.2.2.2.2 u.2.2.2.1 u.2.2.2.2.1 u.2.2.2.2.2.1) (fun y u => y = iI 1 ∧ CK mm tT nn u.2.2.2.2.2.2 u.2.2.2.1 u.2.2.2.2.1 u.2.2.2.2.2.1 ∧ ∀ k, k ≤ 2 → 0 ≤ u.2.2.2.1 k ∧ u.2.2.2.1 k ≤ 1000000)) := by
  refine imZ_of (cc := cL_areBest) (maxL := 8) (by decide) rfl (Nat.le_of_ble_eq_true rfl) ?_
  intro p e s m args below meth c A Q hx hb hml hown hts hA hK hP hD hS hret ls hl
  have hown : s.vm.findClass RL = some m.cls := hown
  have hl : lv_has ls 8 [(0, .ref (ad 0))] := hl
  have hO : ∀ k, k < nn → oO k < 7 := isP_lt hI hn
  have b0 := (sol_rg (v := 0) hm hT hn).1
  have b1 := (sol_rg (v := 1) hm hT hn).1
  have b2 := (sol_rg (v := 2) hm hT hn).1
  have f1 := sol_01 (t := tT) hm.1 hn
  have f2 := sol_12 (t := tT) hm.1 hn
  have g0 := sol_le (v := 0) (mm := mm) (t := tT) hn hI
  have g1 := sol_le (v := 1) (mm := mm) (t := tT) hn hI
  have g2 := sol_le (v := 2) (mm := mm) (t := tT) hn hI
  have k1 := mk_01 (t := tT) (o := oO) (c := nn) hm.1
  have k2 := mk_12 (t := tT) (o := oO) (c := nn) hm.1
  have r0 := mk_rg (v := 0) (o := oO) hm.1 hm.2 hT hn
  have r1 := mk_rg (v := 1) (o := oO) hm.1 hm.2 hT hn
  have r2 := mk_rg (v := 2) (o := oO) hm.1 hm.2 hT hn
  refine lv_aload_n hx hb dL_areBest_0 rfl (lv_at hl 0 rfl) ?_
  refine lv_iconst (v := iI 0) hx hb dL_areBest_1 rfl ?_
  refine w_iV (As := [.int (iI 0)]) (rest := []) (wf := fun u : (Nat → Int) × (Nat → Int) × (Nat → Nat) × (Nat → Int) × (Nat → Int) × (Nat → Nat) × (Nat → Int) => xw ad cI cZ nn mm tT u.1 u.2.1 tL oO u.2.2.1 oQ u.2.2.2.2.2.2 u.2.2.2.1 u.2.2.2.2.1 u.2.2.2.2.2.1) (wr := []) ⟨hx, hb, hml, hown, hts⟩ hK hP hD hS hA (mX0_best (v := 0) hT hn hm (by omega) hE hCK hMb) (cwV 1 hts gL_areBest_X0_best rfl rfl rfl (by decide +kernel) ⟨Nat.le_of_ble_eq_true rfl, Nat.le_of_ble_eq_true rfl⟩) [0, 1, 2, 3, 4, 5, 6, 7, 8, 9, 10, 11] [] [0, 1, 2, 3, 4, 5, 6, 7, 8, 9, 10, 11] rfl rfl (by decide) (by decide) (by decide) (hwf := fun _ => rfl) (by decide) (ci := 0) rfl rfl rfl rfl hl.1 rfl (Nat.le_of_ble_eq_true rfl) dL_areBest_2 ⟨Nat.zero_le _, Nat.zero_le _⟩ (fun r2 u H locs hr2 hP hD hS => ?_)
  obtain ⟨uB2, uE2, uR2, uM2, uN2, uJ2, uS2⟩ := u
  obtain ⟨hq2, hCK, hMb⟩ := hr2
  have hP : va_P D vwCl (xw ad cI cZ nn mm tT uB2 uE2 tL oO uR2 oQ uS2 uM2 uN2 uJ2) H := hP
  have hD : va_D A (xw ad cI cZ nn mm tT uB2 uE2 tL oO uR2 oQ uS2 uM2 uN2 uJ2) := hD
  refine w_top (v := iI (((sol 0 mm tT nn).1))) (hq2) ?_
  refine lv_istore_n (lv' := [(1, .int (iI (((sol 0 mm tT nn).1)))), (0, .ref (ad 0))]) hx hb dL_areBest_5 rfl hl (by decide) rfl (fun ls hl => ?_)
  refine lv_aload_n hx hb dL_areBest_6 rfl (lv_at hl 1 rfl) ?_
  refine lv_iconst (v := iI 1) hx hb dL_areBest_7 rfl ?_
  refine w_iV (As := [.int (iI 1)]) (rest := []) (wf := fun u : (Nat → Int) × (Nat → Int) × (Nat → Nat) × (Nat → Int) × (Nat → Int) × (Nat → Nat) × (Nat → Int) => xw ad cI cZ nn mm tT u.1 u.2.1 tL oO u.2.2.1 oQ u.2.2.2.2.2.2 u.2.2.2.1 u.2.2.2.2.1 u.2.2.2.2.2.1) (wr := []) ⟨hx, hb, hml, hown, hts⟩ hK hP hD hS hA (mX0_best (v := 1) hT hn hm (by omega) hE hCK hMb) (cwV 1 hts gL_areBest_X0_best rfl rfl rfl (by decide +kernel) ⟨Nat.le_of_ble_eq_true rfl, Nat.le_of_ble_eq_true rfl⟩) [0, 1, 2, 3, 4, 5, 6, 7, 8, 9, 10, 11] [] [0, 1, 2, 3, 4, 5, 6, 7, 8, 9, 10, 11] rfl rfl (by decide) (by decide) (by decide) (hwf := fun _ => rfl) (by decide) (ci := 0) rfl rfl rfl rfl hl.1 rfl (Nat.le_of_ble_eq_true rfl) dL_areBest_8 ⟨Nat.zero_le _, Nat.zero_le _⟩ (fun r8 u H locs hr8 hP hD hS => ?_)
  obtain ⟨uB8, uE8, uR8, uM8, uN8, uJ8, uS8⟩ := u
  obtain ⟨hq8, hCK, hMb⟩ := hr8
  have hP : va_P D vwCl (xw ad cI cZ nn mm tT uB8 uE8 tL oO uR8 oQ uS8 uM8 uN8 uJ8) H := hP
  have hD : va_D A (xw ad cI cZ nn mm tT uB8 uE8 tL oO uR8 oQ uS8 uM8 uN8 uJ8) := hD
  refine w_top (v := iI (((sol 1 mm tT nn).1))) (hq8) ?_
  refine lv_istore_n (lv' := [(2, .int (iI (((sol 1 mm tT nn).1)))), (1, .int (iI (((sol 0 mm tT nn).1)))), (0, .ref (ad 0))]) hx hb dL_areBest_11 rfl hl (by decide) rfl (fun ls hl => ?_)
  refine lv_aload_n hx hb dL_areBest_12 rfl (lv_at hl 2 rfl) ?_
  refine lv_iconst (v := iI 2) hx hb dL_areBest_13 rfl ?_
  refine w_iV (As := [.int (iI 2)]) (rest := []) (wf := fun u : (Nat → Int) × (Nat → Int) × (Nat → Nat) × (Nat → Int) × (Nat → Int) × (Nat → Nat) × (Nat → Int) => xw ad cI cZ nn mm tT u.1 u.2.1 tL oO u.2.2.1 oQ u.2.2.2.2.2.2 u.2.2.2.1 u.2.2.2.2.1 u.2.2.2.2.2.1) (wr := []) ⟨hx, hb, hml, hown, hts⟩ hK hP hD hS hA (mX0_best (v := 2) hT hn hm (by omega) hE hCK hMb) (cwV 1 hts gL_areBest_X0_best rfl rfl rfl (by decide +kernel) ⟨Nat.le_of_ble_eq_true rfl, Nat.le_of_ble_eq_true rfl⟩) [0, 1, 2, 3, 4, 5, 6, 7, 8, 9, 10, 11] [] [0, 1, 2, 3, 4, 5, 6, 7, 8, 9, 10, 11] rfl rfl (by decide) (by decide) (by decide) (hwf := fun _ => rfl) (by decide) (ci := 0) rfl rfl rfl rfl hl.1 rfl (Nat.le_of_ble_eq_true rfl) dL_areBest_14 ⟨Nat.zero_le _, Nat.zero_le _⟩ (fun r14 u H locs hr14 hP hD hS => ?_)
  obtain ⟨uB14, uE14, uR14, uM14, uN14, uJ14, uS14⟩ := u
  obtain ⟨hq14, hCK, hMb⟩ := hr14
  have hP : va_P D vwCl (xw ad cI cZ nn mm tT uB14 uE14 tL oO uR14 oQ uS14 uM14 uN14 uJ14) H := hP
  have hD : va_D A (xw ad cI cZ nn mm tT uB14 uE14 tL oO uR14 oQ uS14 uM14 uN14 uJ14) := hD
  refine w_top (v := iI (((sol 2 mm tT nn).1))) (hq14) ?_
  refine lv_istore_n (lv' := [(3, .int (iI (((sol 2 mm tT nn).1)))), (2, .int (iI (((sol 1 mm tT nn).1)))), (1, .int (iI (((sol 0 mm tT nn).1)))), (0, .ref (ad 0))]) hx hb dL_areBest_17 rfl hl (by decide) rfl (fun ls hl => ?_)
  refine lv_iload_n hx hb dL_areBest_18 rfl (lv_at hl 2 rfl) ?_
  refine lv_iload_n hx hb dL_areBest_19 rfl (lv_at hl 1 rfl) ?_
  refine w_icmp_gt (tgt := 59) hx hb dL_areBest_20 (by decide) ⟨by omega, by omega⟩ ⟨by omega, by omega⟩ (fun c20 => absurd c20 (by omega)) (fun c20 => ?_)
  refine lv_iload_n hx hb dL_areBest_23 rfl (lv_at hl 1 rfl) ?_
  refine lv_iload_n hx hb dL_areBest_24 rfl (lv_at hl 0 rfl) ?_
  refine w_icmp_gt (tgt := 59) hx hb dL_areBest_25 (by decide) ⟨by omega, by omega⟩ ⟨by omega, by omega⟩ (fun c25 => absurd c25 (by omega)) (fun c25 => ?_)
  refine lv_aload_n hx hb dL_areBest_28 rfl (lv_at hl 3 rfl) ?_
  refine lv_iconst (v := iI 0) hx hb dL_areBest_29 rfl ?_
  refine w_iV (As := [.int (iI 0)]) (rest := []) (wf := fun u : (Nat → Int) × (Nat → Int) => xw ad cI cZ nn mm tT u.1 u.2 tL oO uR14 oQ uS14 uM14 uN14 uJ14) (wr := []) ⟨hx, hb, hml, hown, hts⟩ hK hP hD hS hA (mX0_makespan (v := 0) hT hn hm (by omega) hO) (cwV 1 hts gL_areBest_X0_makespan rfl rfl rfl (by decide +kernel) ⟨Nat.le_of_ble_eq_true rfl, Nat.le_of_ble_eq_true rfl⟩) [0, 1, 2, 3, 4, 5, 6, 7, 8, 9, 10, 11] [] [0, 1, 2, 3, 4, 5, 6, 7, 8, 9, 10, 11] rfl rfl (by decide) (by decide) (by decide) (hwf := fun _ => rfl) (by decide) (ci := 0) rfl rfl rfl rfl hl.1 rfl (Nat.le_of_ble_eq_true rfl) dL_areBest_30 ⟨Nat.zero_le _, Nat.zero_le _⟩ (fun r30 u H locs hr30 hP hD hS => ?_)
  obtain ⟨uB30, uE30⟩ := u
  have hP : va_P D vwCl (xw ad cI cZ nn mm tT uB30 uE30 tL oO uR14 oQ uS14 uM14 uN14 uJ14) H := hP
  have hD : va_D A (xw ad cI cZ nn mm tT uB30 uE30 tL oO uR14 oQ uS14 uM14 uN14 uJ14) := hD
  refine w_top (v := iI ((mk 0 mm tT oO nn))) (hr30) ?_
  refine lv_iload_n hx hb dL_areBest_33 rfl (lv_at hl 2 rfl) ?_
  refine w_icmp_lt (tgt := 59) hx hb dL_areBest_34 (by decide) ⟨by omega, by omega⟩ ⟨by omega, by omega⟩ (fun c34 => absurd c34 (by omega)) (fun c34 => ?_)
  refine lv_aload_n hx hb dL_areBest_37 rfl (lv_at hl 3 rfl) ?_
  refine lv_iconst (v := iI 1) hx hb dL_areBest_38 rfl ?_
  refine w_iV (As := [.int (iI 1)]) (rest := []) (wf := fun u : (Nat → Int) × (Nat → Int) => xw ad cI cZ nn mm tT u.1 u.2 tL oO uR14 oQ uS14 uM14 uN14 uJ14) (wr := []) ⟨hx, hb, hml, hown, hts⟩ hK hP hD hS hA (mX0_makespan (v := 1) hT hn hm (by omega) hO) (cwV 1 hts gL_areBest_X0_makespan rfl rfl rfl (by decide +kernel) ⟨Nat.le_of_ble_eq_true rfl, Nat.le_of_ble_eq_true rfl⟩) [0, 1, 2, 3, 4, 5, 6, 7, 8, 9, 10, 11] [] [0, 1, 2, 3, 4, 5, 6, 7, 8, 9, 10, 11] rfl rfl (by decide) (by decide) (by decide) (hwf := fun _ => rfl) (by decide) (ci := 0) rfl rfl rfl rfl hl.1 rfl (Nat.le_of_ble_eq_true rfl) dL_areBest_39 ⟨Nat.zero_le _, Nat.zero_le _⟩ (fun r39 u H locs hr39 hP hD hS => ?_)
  obtain ⟨uB39, uE39⟩ := u
  have hP : va_P D vwCl (xw ad cI cZ nn mm tT uB39 uE39 tL oO uR14 oQ uS14 uM14 uN14 uJ14) H := hP
  have hD : va_D A (xw ad cI cZ nn mm tT uB39 uE39 tL oO uR14 oQ uS14 uM14 uN14 uJ14) := hD
  refine w_top (v := iI ((mk 1 mm tT oO nn))) (hr39) ?_
  refine lv_iload_n hx hb dL_areBest_42 rfl (lv_at hl 1 rfl) ?_
  refine w_icmp_lt (tgt := 59) hx hb dL_areBest_43 (by decide) ⟨by omega, by omega⟩ ⟨by omega, by omega⟩ (fun c43 => absurd c43 (by omega)) (fun c43 => ?_)
  refine lv_aload_n hx hb dL_areBest_46 rfl (lv_at hl 3 rfl) ?_
  refine lv_iconst (v := iI 2) hx hb dL_areBest_47 rfl ?_
  refine w_iV (As := [.int (iI 2)]) (rest := []) (wf := fun u : (Nat → Int) × (Nat → Int) => xw ad cI cZ nn mm tT u.1 u.2 tL oO uR14 oQ uS14 uM14 uN14 uJ14) (wr := []) ⟨hx, hb, hml, hown, hts⟩ hK hP hD hS hA (mX0_makespan (v := 2) hT hn hm (by omega) hO) (cwV 1 hts gL_areBest_X0_makespan rfl rfl rfl (by decide +kernel) ⟨Nat.le_of_ble_eq_true rfl, Nat.le_of_ble_eq_true rfl⟩) [0, 1, 2, 3, 4, 5, 6, 7, 8, 9, 10, 11] [] [0, 1, 2, 3, 4, 5, 6, 7, 8, 9, 10, 11] rfl rfl (by decide) (by decide) (by decide) (hwf := fun _ => rfl) (by decide) (ci := 0) rfl rfl rfl rfl hl.1 rfl (Nat.le_of_ble_eq_true rfl) dL_areBest_48 ⟨Nat.zero_le _, Nat.zero_le _⟩ (fun r48 u H locs hr48 hP hD hS => ?_)
  obtain ⟨uB48, uE48⟩ := u
  have hP : va_P D vwCl (xw ad cI cZ nn mm tT uB48 uE48 tL oO uR14 oQ uS14 uM14 uN14 uJ14) H := hP
  have hD : va_D A (xw ad cI cZ nn mm tT uB48 uE48 tL oO uR14 oQ uS14 uM14 uN14 uJ14) := hD
  refine w_top (v := iI ((mk 2 mm tT oO nn))) (hr48) ?_
  refine lv_iload_n hx hb dL_areBest_51 rfl (lv_at hl 0 rfl) ?_
  refine w_icmp_lt (tgt := 59) hx hb dL_areBest_52 (by decide) ⟨by omega, by omega⟩ ⟨by omega, by omega⟩ (fun c52 => absurd c52 (by omega)) (fun c52 => ?_)
  refine lv_iconst (v := iI 1) hx hb dL_areBest_55 rfl ?_
  refine lv_goto (tgt := 60) hx hb dL_areBest_56 (by decide) ?_
  refine lv_istore (lv' := [(4, .int (iI 1)), (3, .int (iI (((sol 2 mm tT nn).1)))), (2, .int (iI (((sol 1 mm tT nn).1)))), (1, .int (iI (((sol 0 mm tT nn).1)))), (0, .ref (ad 0))]) hx hb dL_areBest_60 hl (by decide) rfl (fun ls hl => ?_)
  refine lv_iload hx hb dL_areBest_62 (lv_at hl 0 rfl) ?_
  refine w_if_eq (tgt := 97) hx hb dL_areBest_64 (by decide) ⟨by omega, by omega⟩ (fun c64 => absurd c64 (by omega)) (fun c64 => ?_)
  refine lv_aload_n hx hb dL_areBest_67 rfl (lv_at hl 4 rfl) ?_
  refine lv_iconst (v := iI 0) hx hb dL_areBest_68 rfl ?_
  refine w_iV (As := [.int (iI 0)]) (rest := []) (wf := fun u : (Nat → Int) × (Nat → Int) => xw ad cI cZ nn mm tT u.1 u.2 tL oO uR14 oQ uS14 uM14 uN14 uJ14) (wr := []) ⟨hx, hb, hml, hown, hts⟩ hK hP hD hS hA (mX0_makespan (v := 0) hT hn hm (by omega) hO) (cwV 1 hts gL_areBest_X0_makespan rfl rfl rfl (by decide +kernel) ⟨Nat.le_of_ble_eq_true rfl, Nat.le_of_ble_eq_true rfl⟩) [0, 1, 2, 3, 4, 5, 6, 7, 8, 9, 10, 11] [] [0, 1, 2, 3, 4, 5, 6, 7, 8, 9, 10, 11] rfl rfl (by decide) (by decide) (by decide) (hwf := fun _ => rfl) (by decide) (ci := 0) rfl rfl rfl rfl hl.1 rfl (Nat.le_of_ble_eq_true rfl) dL_areBest_69 ⟨Nat.zero_le _, Nat.zero_le _⟩ (fun r69 u H locs hr69 hP hD hS => ?_)
  obtain ⟨uB69, uE69⟩ := u
  have hP : va_P D vwCl (xw ad cI cZ nn mm tT uB69 uE69 tL oO uR14 oQ uS14 uM14 uN14 uJ14) H := hP
  have hD : va_D A (xw ad cI cZ nn mm tT uB69 uE69 tL oO uR14 oQ uS14 uM14 uN14 uJ14) := hD
  refine w_top (v := iI ((mk 0 mm tT oO nn))) (hr69) ?_
  refine lv_aload_n hx hb dL_areBest_72 rfl (lv_at hl 4 rfl) ?_
  refine lv_iconst (v := iI 1) hx hb dL_areBest_73 rfl ?_
  refine w_iV (As := [.int (iI 1)]) (rest := [.int (iI ((mk 0 mm tT oO nn)))]) (wf := fun u : (Nat → Int) × (Nat → Int) => xw ad cI cZ nn mm tT u.1 u.2 tL oO uR14 oQ uS14 uM14 uN14 uJ14) (wr := []) ⟨hx, hb, hml, hown, hts⟩ hK hP hD hS hA (mX0_makespan (v := 1) hT hn hm (by omega) hO) (cwV 1 hts gL_areBest_X0_makespan rfl rfl rfl (by decide +kernel) ⟨Nat.le_of_ble_eq_true rfl, Nat.le_of_ble_eq_true rfl⟩) [0, 1, 2, 3, 4, 5, 6, 7, 8, 9, 10, 11] [] [0, 1, 2, 3, 4, 5, 6, 7, 8, 9, 10, 11] rfl rfl (by decide) (by decide) (by decide) (hwf := fun _ => rfl) (by decide) (ci := 0) rfl rfl rfl rfl hl.1 rfl (Nat.le_of_ble_eq_true rfl) dL_areBest_74 ⟨Nat.zero_le _, Nat.zero_le _⟩ (fun r74 u H locs hr74 hP hD hS => ?_)
  obtain ⟨uB74, uE74⟩ := u
  have hP : va_P D vwCl (xw ad cI cZ nn mm tT uB74 uE74 tL oO uR14 oQ uS14 uM14 uN14 uJ14) H := hP
  have hD : va_D A (xw ad cI cZ nn mm tT uB74 uE74 tL oO uR14 oQ uS14 uM14 uN14 uJ14) := hD
  refine w_top (v := iI ((mk 1 mm tT oO nn))) (hr74) ?_
  refine w_icmp_gt (tgt := 97) hx hb dL_areBest_77 (by decide) ⟨by omega, by omega⟩ ⟨by omega, by omega⟩ (fun c77 => absurd c77 (by omega)) (fun c77 => ?_)
  refine lv_aload_n hx hb dL_areBest_80 rfl (lv_at hl 4 rfl) ?_
  refine lv_iconst (v := iI 1) hx hb dL_areBest_81 rfl ?_
  refine w_iV (As := [.int (iI 1)]) (rest := []) (wf := fun u : (Nat → Int) × (Nat → Int) => xw ad cI cZ nn mm tT u.1 u.2 tL oO uR14 oQ uS14 uM14 uN14 uJ14) (wr := []) ⟨hx, hb, hml, hown, hts⟩ hK hP hD hS hA (mX0_makespan (v := 1) hT hn hm (by omega) hO) (cwV 1 hts gL_areBest_X0_makespan rfl rfl rfl (by decide +kernel) ⟨Nat.le_of_ble_eq_true rfl, Nat.le_of_ble_eq_true rfl⟩) [0, 1, 2, 3, 4, 5, 6, 7, 8, 9, 10, 11] [] [0, 1, 2, 3, 4, 5, 6, 7, 8, 9, 10, 11] rfl rfl (by decide) (by decide) (by decide) (hwf := fun _ => rfl) (by decide) (ci := 0) rfl rfl rfl rfl hl.1 rfl (Nat.le_of_ble_eq_true rfl) dL_areBest_82 ⟨Nat.zero_le _, Nat.zero_le _⟩ (fun r82 u H locs hr82 hP hD hS => ?_)
  obtain ⟨uB82, uE82⟩ := u
  have hP : va_P D vwCl (xw ad cI cZ nn mm tT uB82 uE82 tL oO uR14 oQ uS14 uM14 uN14 uJ14) H := hP
  have hD : va_D A (xw ad cI cZ nn mm tT uB82 uE82 tL oO uR14 oQ uS14 uM14 uN14 uJ14) := hD
  refine w_top (v := iI ((mk 1 mm tT oO nn))) (hr82) ?_
  refine lv_aload_n hx hb dL_areBest_85 rfl (lv_at hl 4 rfl) ?_
  refine lv_iconst (v := iI 2) hx hb dL_areBest_86 rfl ?_
  refine w_iV (As := [.int (iI 2)]) (rest := [.int (iI ((mk 1 mm tT oO nn)))]) (wf := fun u : (Nat → Int) × (Nat → Int) => xw ad cI cZ nn mm tT u.1 u.2 tL oO uR14 oQ uS14 uM14 uN14 uJ14) (wr := []) ⟨hx, hb, hml, hown, hts⟩ hK hP hD hS hA (mX0_makespan (v := 2) hT hn hm (by omega) hO) (cwV 1 hts gL_areBest_X0_makespan rfl rfl rfl (by decide +kernel) ⟨Nat.le_of_ble_eq_true rfl, Nat.le_of_ble_eq_true rfl⟩) [0, 1, 2, 3, 4, 5, 6, 7, 8, 9, 10, 11] [] [0, 1, 2, 3, 4, 5, 6, 7, 8, 9, 10, 11] rfl rfl (by decide) (by decide) (by decide) (hwf := fun _ => rfl) (by decide) (ci := 0) rfl rfl rfl rfl hl.1 rfl (Nat.le_of_ble_eq_true rfl) dL_areBest_87 ⟨Nat.zero_le _, Nat.zero_le _⟩ (fun r87 u H locs hr87 hP hD hS => ?_)
  obtain ⟨uB87, uE87⟩ := u
  have hP : va_P D vwCl (xw ad cI cZ nn mm tT uB87 uE87 tL oO uR14 oQ uS14 uM14 uN14 uJ14) H := hP
  have hD : va_D A (xw ad cI cZ nn mm tT uB87 uE87 tL oO uR14 oQ uS14 uM14 uN14 uJ14) := hD
  refine w_top (v := iI ((mk 2 mm tT oO nn))) (hr87) ?_
  refine w_icmp_gt (tgt := 97) hx hb dL_areBest_90 (by decide) ⟨by omega, by omega⟩ ⟨by omega, by omega⟩ (fun c90 => absurd c90 (by omega)) (fun c90 => ?_)
  refine lv_iconst (v := iI 1) hx hb dL_areBest_93 rfl ?_
  refine lv_goto (tgt := 98) hx hb dL_areBest_94 (by decide) ?_
  refine lv_istore (lv' := [(4, .int (iI 1)), (3, .int (iI (((sol 2 mm tT nn).1)))), (2, .int (iI (((sol 1 mm tT nn).1)))), (1, .int (iI (((sol 0 mm tT nn).1)))), (0, .ref (ad 0))]) hx hb dL_areBest_98 hl (by decide) rfl (fun ls hl => ?_)
  refine lv_iconst (v := iI 0) hx hb dL_areBest_100 rfl ?_
  refine lv_istore (lv' := [(5, .int (iI 0)), (4, .int (iI 1)), (3, .int (iI (((sol 2 mm tT nn).1)))), (2, .int (iI (((sol 1 mm tT nn).1)))), (1, .int (iI (((sol 0 mm tT nn).1)))), (0, .ref (ad 0))]) hx hb dL_areBest_101 hl (by decide) rfl (fun ls hl => ?_)
  have L103 : ∀ (fu : Nat) (i : Nat) (wtrial103 : Nat → Nat) (x5_103 : Int), (i ≤ mm) → (x5_103 = (i : Int)) → mm - i < fu → ∀ (H : Heap) (locs : List Loc), va_P D vwCl (xw ad cI cZ nn mm tT uB87 uE87 tL oO wtrial103 oQ uS14 uM14 uN14 uJ14) H → va_D A (xw ad cI cZ nn mm tT uB87 uE87 tL oO wtrial103 oQ uS14 uM14 uN14 uJ14) → va_S A s.heap H locs → ∀ ls : Array Slot, lv_has ls 8 [(5, .int (iI (x5_103))), (4, .int (iI 1)), (3, .int (iI (((sol 2 mm tT nn).1)))), (2, .int (iI (((sol 1 mm tT nn).1)))), (1, .int (iI (((sol 0 mm tT nn).1)))), (0, .ref (ad 0))] → W p l e (rmx 6 141) s m args below meth c H locs 0 0 Q (F0 m 103 ls []) := by
    intro fu
    induction fu with
    | zero =>
      intro i wtrial103 x5_103 hi hq0 hfu
      exact absurd hfu (Nat.not_lt_zero _)
    | succ fu ih =>
      intro i wtrial103 x5_103 hi hq0 hfu H locs hP hD hS ls hl
      subst hq0
      have ih103 := ih
      refine lv_iload hx hb dL_areBest_103 (lv_at hl 0 rfl) ?_
      refine lv_aload_n hx hb dL_areBest_105 rfl (lv_at hl 5 rfl) ?_
      refine w_pV (As := []) (rest := [.int (iI ((i : Int)))]) ⟨hx, hb, hml, hown, hts⟩ hK hP (mX0_machines  ) (cwV 0 hts gL_areBest_X0_machines rfl rfl rfl (by decide +kernel) ⟨Nat.le_of_ble_eq_true rfl, Nat.le_of_ble_eq_true rfl⟩) (ci := 0) rfl rfl rfl rfl hl.1 rfl (Nat.le_of_ble_eq_true rfl) dL_areBest_106 ⟨Nat.zero_le _, Nat.zero_le _⟩ (fun r106 hr106 => ?_)
      refine w_top (v := iI ((mm : Int))) (hr106) ?_
      refine w_icmp_ge (tgt := 203) hx hb dL_areBest_109 (by decide) ⟨by omega, by omega⟩ ⟨by omega, by omega⟩ (fun c109 => ?_) (fun c109 => ?_)
      · refine lv_iload hx hb dL_areBest_203 (lv_at hl 1 rfl) ?_
        exact hret _ _ 205 ls _ ((uB87, uE87, wtrial103, uM14, uN14, uJ14, uS14)) rfl hP hD hS (⟨rfl, hCK, hMb⟩) dL_areBest_205
      · refine lv_iload hx hb dL_areBest_112 (lv_at hl 1 rfl) ?_
        refine w_if_eq (tgt := 203) hx hb dL_areBest_114 (by decide) ⟨by omega, by omega⟩ (fun c114 => absurd c114 (by omega)) (fun c114 => ?_)
        refine lv_aload_n hx hb dL_areBest_117 rfl (lv_at hl 5 rfl) ?_
        refine lv_iload hx hb dL_areBest_118 (lv_at hl 0 rfl) ?_
        refine w_pV (As := [.int (iI ((i : Int)))]) (rest := []) ⟨hx, hb, hml, hown, hts⟩ hK hP (mX0_machineBound (k := i) hT hn hm (by omega)) (cwV 1 hts gL_areBest_X0_machineBound rfl rfl rfl (by decide +kernel) ⟨Nat.le_of_ble_eq_true rfl, Nat.le_of_ble_eq_true rfl⟩) (ci := 0) rfl rfl rfl rfl hl.1 rfl (Nat.le_of_ble_eq_true rfl) dL_areBest_120 ⟨Nat.zero_le _, Nat.zero_le _⟩ (fun r120 hr120 => ?_)
        have hb9 : ldC tT i nn + lsX tT 0 i (nn - 1) + lsX tT (i + 1) mm (nn - 1) ≤ (sol 0 mm tT nn).1 := le_sol hn (fun o ho => mb_le h1n (by omega) ho)
        have hb8 := ldC_rg hT i nn
        have hb7 := lsX_rg hT 0 i (nn - 1)
        have hb6 := lsX_rg hT (i + 1) mm (nn - 1)
        refine w_top (v := iI ((ldC tT i nn + lsX tT 0 i (nn - 1) + lsX tT (i + 1) mm (nn - 1)))) (hr120) ?_
        refine lv_iload_n hx hb dL_areBest_123 rfl (lv_at hl 4 rfl) ?_
        refine w_icmp_gt (tgt := 131) hx hb dL_areBest_124 (by decide) ⟨by omega, by omega⟩ ⟨by omega, by omega⟩ (fun c124 => absurd c124 (by omega)) (fun c124 => ?_)
        refine lv_iconst (v := iI 1) hx hb dL_areBest_127 rfl ?_
        refine lv_goto (tgt := 132) hx hb dL_areBest_128 (by decide) ?_
        refine lv_istore (lv' := [(4, .int (iI 1)), (5, .int (iI ((i : Int)))), (3, .int (iI (((sol 2 mm tT nn).1)))), (2, .int (iI (((sol 1 mm tT nn).1)))), (1, .int (iI (((sol 0 mm tT nn).1)))), (0, .ref (ad 0))]) hx hb dL_areBest_132 hl (by decide) rfl (fun ls hl => ?_)
        refine lv_iload hx hb dL_areBest_134 (lv_at hl 1 rfl) ?_
        refine lv_iconst (v := iI 1) hx hb dL_areBest_136 rfl ?_
        refine w_iadd (z := (i : Int) + 1) hx hb dL_areBest_137 (by omega) ?_
        refine lv_istore (lv' := [(6, .int (iI ((i : Int) + 1))), (4, .int (iI 1)), (5, .int (iI ((i : Int)))), (3, .int (iI (((sol 2 mm tT nn).1)))), (2, .int (iI (((sol 1 mm tT nn).1)))), (1, .int (iI (((sol 0 mm tT nn).1)))), (0, .ref (ad 0))]) hx hb dL_areBest_138 hl (by decide) rfl (fun ls hl => ?_)
        have L140 : ∀ (fu : Nat) (j : Nat) (wtrial140 : Nat → Nat) (x6_140 : Int), (i + 1 + j ≤ mm) → (x6_140 = (i : Int) + (j : Int) + 1) → mm - j < fu → ∀ (H : Heap) (locs : List Loc), va_P D vwCl (xw ad cI cZ nn mm tT uB87 uE87 tL oO wtrial140 oQ uS14 uM14 uN14 uJ14) H → va_D A (xw ad cI cZ nn mm tT uB87 uE87 tL oO wtrial140 oQ uS14 uM14 uN14 uJ14) → va_S A s.heap H locs → ∀ ls : Array Slot, lv_has ls 8 [(6, .int (iI (x6_140))), (4, .int (iI 1)), (5, .int (iI ((i : Int)))), (3, .int (iI (((sol 2 mm tT nn).1)))), (2, .int (iI (((sol 1 mm tT nn).1)))), (1, .int (iI (((sol 0 mm tT nn).1)))), (0, .ref (ad 0))] → W p l e (rmx 6 141) s m args below meth c H locs 0 0 Q (F0 m 140 ls []) := by
          intro fu
          induction fu with
          | zero =>
            intro j wtrial140 x6_140 hj hq0 hfu
            exact absurd hfu (Nat.not_lt_zero _)
          | succ fu ih =>
            intro j wtrial140 x6_140 hj hq0 hfu H locs hP hD hS ls hl
            subst hq0
            have ih140 := ih
            refine lv_iload hx hb dL_areBest_140 (lv_at hl 0 rfl) ?_
            refine lv_aload_n hx hb dL_areBest_142 rfl (lv_at hl 6 rfl) ?_
            refine w_pV (As := []) (rest := [.int (iI ((i : Int) + (j : Int) + 1))]) ⟨hx, hb, hml, hown, hts⟩ hK hP (mX0_machines  ) (cwV 0 hts gL_areBest_X0_machines rfl rfl rfl (by decide +kernel) ⟨Nat.le_of_ble_eq_true rfl, Nat.le_of_ble_eq_true rfl⟩) (ci := 0) rfl rfl rfl rfl hl.1 rfl (Nat.le_of_ble_eq_true rfl) dL_areBest_143 ⟨Nat.zero_le _, Nat.zero_le _⟩ (fun r143 hr143 => ?_)
            refine w_top (v := iI ((mm : Int))) (hr143) ?_
            refine w_icmp_ge (tgt := 197) hx hb dL_areBest_146 (by decide) ⟨by omega, by omega⟩ ⟨by omega, by omega⟩ (fun c146 => ?_) (fun c146 => ?_)
            · refine lv_iinc (v := iI ((i : Int) + 1)) (lv' := [(5, .int (iI ((i : Int) + 1))), (6, .int (iI ((i : Int) + (j : Int) + 1))), (4, .int (iI 1)), (3, .int (iI (((sol 2 mm tT nn).1)))), (2, .int (iI (((sol 1 mm tT nn).1)))), (1, .int (iI (((sol 0 mm tT nn).1)))), (0, .ref (ad 0))]) hx hb dL_areBest_197 hl (k := 2) rfl (iI_inc (by omega)) (by decide) rfl (fun ls hl => ?_)
              refine lv_goto (tgt := 103) hx hb dL_areBest_200 (by decide) ?_
              exact ih103 (i + 1) wtrial140 ((i : Int) + 1) (by omega) (by omega) (by omega) _ _ hP hD hS ls (lv_sub hl [0, 2, 3, 4, 5, 6] rfl)
            · refine lv_iload hx hb dL_areBest_149 (lv_at hl 1 rfl) ?_
              refine w_if_eq (tgt := 197) hx hb dL_areBest_151 (by decide) ⟨by omega, by omega⟩ (fun c151 => absurd c151 (by omega)) (fun c151 => ?_)
              refine lv_aload_n hx hb dL_areBest_154 rfl (lv_at hl 6 rfl) ?_
              refine lv_iload hx hb dL_areBest_155 (lv_at hl 2 rfl) ?_
              refine lv_iload hx hb dL_areBest_157 (lv_at hl 0 rfl) ?_
              refine w_iV (As := [.int (iI ((i : Int))), .int (iI ((((i + j + 1) : Nat) : Int)))]) (rest := []) (wf := fun u : Unit => xw ad cI cZ nn mm tT uB87 uE87 tL oO (srt (gbr tT i (i + j + 1)) wtrial140 nn) oQ uS14 uM14 uN14 uJ14) (wr := []) ⟨hx, hb, hml, hown, hts⟩ hK hP hD hS hA (mX0_pairBound (a := i) (b := i + j + 1) hT hn hm (by omega) (by omega)) (cwV 2 hts gL_areBest_X0_pairBound rfl rfl rfl (by decide +kernel) ⟨Nat.le_of_ble_eq_true rfl, Nat.le_of_ble_eq_true rfl⟩) [0, 1, 2, 3, 4, 5, 6, 7, 8, 9, 10, 11] [] [0, 1, 2, 3, 4, 5, 6, 7, 8, 9, 10, 11] rfl rfl (by decide) (by decide) (by decide) (hwf := fun _ => rfl) (by decide) (ci := 0) rfl rfl rfl rfl hl.1 (by rw [show (((i : Int) + (j : Int) + 1) : Int) = (((i + j + 1) : Nat) : Int) by omega]; try rfl) (Nat.le_of_ble_eq_true rfl) dL_areBest_159 ⟨Nat.zero_le _, Nat.zero_le _⟩ (fun r159 u H locs hr159 hP hD hS => ?_)
              have hp9 : opS tT (srt (gbr tT i (i + j + 1)) wtrial140 nn) i (i + j + 1) nn + lsX tT 0 i (nn - 1) + lsX tT (i + j + 1 + 1) mm (nn - 1) ≤ (sol 0 mm tT nn).1 := le_sol hn (fun o ho => pb_le hT h1n (by omega) (by omega) ho)
              have hp8 := opS_rg hT (srt (gbr tT i (i + j + 1)) wtrial140 nn) i (i + j + 1) nn
              have hp7 := lsX_rg hT 0 i (nn - 1)
              have hp6 := lsX_rg hT (i + j + 1 + 1) mm (nn - 1)
              have hp5 : mm = 2 → opS tT (srt (gbr tT i (i + j + 1)) wtrial140 nn) i (i + j + 1) nn + lsX tT 0 i (nn - 1) + lsX tT (i + j + 1 + 1) mm (nn - 1) = (sol 0 mm tT nn).1 := fun h2 => by
                rw [show i + j + 1 = 1 by omega, show i = 0 by omega]
                exact pb_2 hT hn h2
              refine w_top (v := iI ((opS tT (srt (gbr tT i (i + j + 1)) wtrial140 nn) i (i + j + 1) nn + lsX tT 0 i (nn - 1) + lsX tT (i + j + 1 + 1) mm (nn - 1)))) (hr159) ?_
              refine lv_istore (lv' := [(7, .int (iI ((opS tT (srt (gbr tT i (i + j + 1)) wtrial140 nn) i (i + j + 1) nn + lsX tT 0 i (nn - 1) + lsX tT (i + j + 1 + 1) mm (nn - 1))))), (6, .int (iI ((i : Int) + (j : Int) + 1))), (4, .int (iI 1)), (5, .int (iI ((i : Int)))), (3, .int (iI (((sol 2 mm tT nn).1)))), (2, .int (iI (((sol 1 mm tT nn).1)))), (1, .int (iI (((sol 0 mm tT nn).1)))), (0, .ref (ad 0))]) hx hb dL_areBest_162 hl (by decide) rfl (fun ls hl => ?_)
              refine lv_iload hx hb dL_areBest_164 (lv_at hl 0 rfl) ?_
              refine lv_iload_n hx hb dL_areBest_166 rfl (lv_at hl 6 rfl) ?_
              refine w_icmp_gt (tgt := 188) hx hb dL_areBest_167 (by decide) ⟨by omega, by omega⟩ ⟨by omega, by omega⟩ (fun c167 => absurd c167 (by omega)) (fun c167 => ?_)
              refine lv_aload_n hx hb dL_areBest_170 rfl (lv_at hl 7 rfl) ?_
              refine w_pV (As := []) (rest := []) ⟨hx, hb, hml, hown, hts⟩ hK hP (mX0_machines  ) (cwV 0 hts gL_areBest_X0_machines rfl rfl rfl (by decide +kernel) ⟨Nat.le_of_ble_eq_true rfl, Nat.le_of_ble_eq_true rfl⟩) (ci := 0) rfl rfl rfl rfl hl.1 rfl (Nat.le_of_ble_eq_true rfl) dL_areBest_171 ⟨Nat.zero_le _, Nat.zero_le _⟩ (fun r171 hr171 => ?_)
              refine w_top (v := iI ((mm : Int))) (hr171) ?_
              refine lv_iconst (v := iI 2) hx hb dL_areBest_174 rfl ?_
              refine w_icmp_ne (tgt := 184) hx hb dL_areBest_175 (by decide) ⟨by omega, by omega⟩ ⟨by omega, by omega⟩ (fun c175 => ?_) (fun c175 => ?_)
              · refine lv_iconst (v := iI 1) hx hb dL_areBest_184 rfl ?_
                refine lv_goto (tgt := 189) hx hb dL_areBest_185 (by decide) ?_
                refine lv_istore (lv' := [(4, .int (iI 1)), (7, .int (iI ((opS tT (srt (gbr tT i (i + j + 1)) wtrial140 nn) i (i + j + 1) nn + lsX tT 0 i (nn - 1) + lsX tT (i + j + 1 + 1) mm (nn - 1))))), (6, .int (iI ((i : Int) + (j : Int) + 1))), (5, .int (iI ((i : Int)))), (3, .int (iI (((sol 2 mm tT nn).1)))), (2, .int (iI (((sol 1 mm tT nn).1)))), (1, .int (iI (((sol 0 mm tT nn).1)))), (0, .ref (ad 0))]) hx hb dL_areBest_189 hl (by decide) rfl (fun ls hl => ?_)
                refine lv_iinc (v := iI ((i : Int) + (j : Int) + 2)) (lv' := [(6, .int (iI ((i : Int) + (j : Int) + 2))), (4, .int (iI 1)), (7, .int (iI ((opS tT (srt (gbr tT i (i + j + 1)) wtrial140 nn) i (i + j + 1) nn + lsX tT 0 i (nn - 1) + lsX tT (i + j + 1 + 1) mm (nn - 1))))), (5, .int (iI ((i : Int)))), (3, .int (iI (((sol 2 mm tT nn).1)))), (2, .int (iI (((sol 1 mm tT nn).1)))), (1, .int (iI (((sol 0 mm tT nn).1)))), (0, .ref (ad 0))]) hx hb dL_areBest_191 hl (k := 2) rfl (iI_inc (by omega)) (by decide) rfl (fun ls hl => ?_)
                refine lv_goto (tgt := 140) hx hb dL_areBest_194 (by decide) ?_
                exact ih140 (j + 1) (srt (gbr tT i (i + j + 1)) wtrial140 nn) ((i : Int) + (j : Int) + 2) (by omega) (by omega) (by omega) _ _ hP hD hS ls (lv_sub hl [0, 1, 3, 4, 5, 6, 7] rfl)
              · have hp4 := hp5 (by omega)
                refine lv_iload hx hb dL_areBest_178 (lv_at hl 0 rfl) ?_
                refine lv_iload_n hx hb dL_areBest_180 rfl (lv_at hl 6 rfl) ?_
                refine w_icmp_ne (tgt := 188) hx hb dL_areBest_181 (by decide) ⟨by omega, by omega⟩ ⟨by omega, by omega⟩ (fun c181 => absurd c181 (by omega)) (fun c181 => ?_)
                refine lv_iconst (v := iI 1) hx hb dL_areBest_184 rfl ?_
                refine lv_goto (tgt := 189) hx hb dL_areBest_185 (by decide) ?_
                refine lv_istore (lv' := [(4, .int (iI 1)), (7, .int (iI ((opS tT (srt (gbr tT i (i + j + 1)) wtrial140 nn) i (i + j + 1) nn + lsX tT 0 i (nn - 1) + lsX tT (i + j + 1 + 1) mm (nn - 1))))), (6, .int (iI ((i : Int) + (j : Int) + 1))), (5, .int (iI ((i : Int)))), (3, .int (iI (((sol 2 mm tT nn).1)))), (2, .int (iI (((sol 1 mm tT nn).1)))), (1, .int (iI (((sol 0 mm tT nn).1)))), (0, .ref (ad 0))]) hx hb dL_areBest_189 hl (by decide) rfl (fun ls hl => ?_)
                refine lv_iinc (v := iI ((i : Int) + (j : Int) + 2)) (lv' := [(6, .int (iI ((i : Int) + (j : Int) + 2))), (4, .int (iI 1)), (7, .int (iI ((opS tT (srt (gbr tT i (i + j + 1)) wtrial140 nn) i (i + j + 1) nn + lsX tT 0 i (nn - 1) + lsX tT (i + j + 1 + 1) mm (nn - 1))))), (5, .int (iI ((i : Int)))), (3, .int (iI (((sol 2 mm tT nn).1)))), (2, .int (iI (((sol 1 mm tT nn).1)))), (1, .int (iI (((sol 0 mm tT nn).1)))), (0, .ref (ad 0))]) hx hb dL_areBest_191 hl (k := 2) rfl (iI_inc (by omega)) (by decide) rfl (fun ls hl => ?_)
                refine lv_goto (tgt := 140) hx hb dL_areBest_194 (by decide) ?_
                exact ih140 (j + 1) (srt (gbr tT i (i + j + 1)) wtrial140 nn) ((i : Int) + (j : Int) + 2) (by omega) (by omega) (by omega) _ _ hP hD hS ls (lv_sub hl [0, 1, 3, 4, 5, 6, 7] rfl)
        exact L140 (mm - 0 + 1) 0 wtrial103 ((i : Int) + 1) (by omega) (by omega) (Nat.lt_succ_self _) _ _ hP hD hS ls (lv_sub hl [0, 1, 2, 3, 4, 5, 6] rfl)
  exact L103 (mm - 0 + 1) 0 uR14 (0) (by omega) (by omega) (Nat.lt_succ_self _) _ _ hP hD hS ls (lv_sub hl [0, 1, 2, 3, 4, 5] rfl)
end
