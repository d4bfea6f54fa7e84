section
variable {l : Launch} {D : va_G} {cI cZ cJ : ClassId} {ad bd : Nat → Nat} {a0 : Nat} {ws : va_W} {nn mm : Nat} {th bm : Int} {tT tB tE tL : Nat → Int} {oO oR oQ : Nat → Nat} {zS zM zN : Nat → Int} {oJ fF : Nat → Nat}
set_option maxHeartbeats 4000000 in
set_option maxRecDepth 100000 in
theorem mL_isImproved (hT : ∀ k, 0 ≤ tT k ∧ tT k ≤ 99) (hn6 : nn ≤ 6) (hm : 1 ≤ mm ∧ mm ≤ 5) (hI : IsP nn oO) (hE : Enu nn) (hCK : CK mm tT nn zS zM zN oJ) (hMb : ∀ k, k ≤ 2 → 0 ≤ zM k ∧ zM k ≤ 1000000) : IM l yL_isImproved wsL_isImproved (rmx 7 165) D (tyk cI cZ cJ) (xw ad cI cZ nn mm tT tB tE tL oO oR oQ zS zM zN oJ) [.ref (ad 0)] (QI D (tyk cI cZ cJ) (fun u : (Nat → Nat) × (Nat → Nat) × (Nat → Nat) × (Nat → Int) × (Nat → Int) × (Nat → Int) × (Nat → Int) × (Nat → Nat) × (Nat → Int) => xw ad cI cZ nn mm tT u.2.2.2.1 u.2.2.2.2.1 tL u.1 u.2.1 u.2.2.1 u.2.2.2.2.2.2.2.2 u.2.2.2.2.2.1 u.2.2.2.2.2.2.1 u.2.2.2.2.2.2.2.1) (fun y u => y = iI 1 ∧ IsP nn u.1 ∧ CK mm tT nn u.2.2.2.2.2.2.2.2 u.2.2.2.2.2.1 u.2.2.2.2.2.2.1 u.2.2.2.2.2.2.2.1 ∧ ∀ k, k ≤ 2 → 0 ≤ u.2.2.2.2.2.1 k ∧ u.2.2.2.2.2.1 k ≤ 1000000)) := by
  refine imZ_of (cc := cL_isImproved) (maxL := 8) (by decide) rfl (Nat.le_of_ble_eq_true rfl) ?_
  intro p e s m args below meth c A Q hx hb hml hown hts hA hK hP hD hS hret ls hl
  have hown : s.vm.findClass RL = some m.cls := hown
  have hl : lv_has ls 8 [(0, .ref (ad 0))] := hl
  have hn : nn ≤ 7 := by omega
  have hO : ∀ k, k < nn → oO k < 7 := isP_lt hI hn
  have b0 := (sol_rg (v := 0) hm hT hn).1
  have hIs : ∀ i, IsP nn (imI tT mm nn oO i) := imI_P hT hn hm hI
  have hOs : ∀ i k, k < nn → imI tT mm nn oO i k < 7 := fun i => isP_lt (hIs i) hn
  have m0 := imM_rg (o := oO) hm hT hn 0
  have m1 := imM_rg (o := oO) hm hT hn (0 + 1)
  have d0 := imM_dn tT mm nn oO 0
  refine lv_aload_n hx hb dL_isImproved_0 rfl (lv_at hl 0 rfl) ?_
  refine lv_iconst (v := iI 0) hx hb dL_isImproved_1 rfl ?_
  refine w_iV (As := [.int (iI 0)]) (rest := []) (wf := fun u : (Nat → Int) × (Nat → Int) × (Nat → Nat) × (Nat → Int) × (Nat → Int) × (Nat → Nat) × (Nat → Int) => xw ad cI cZ nn mm tT u.1 u.2.1 tL oO u.2.2.1 oQ u.2.2.2.2.2.2 u.2.2.2.1 u.2.2.2.2.1 u.2.2.2.2.2.1) (wr := []) ⟨hx, hb, hml, hown, hts⟩ hK hP hD hS hA (mX0_best (v := 0) hT hn hm (by omega) hE hCK hMb) (cwV 1 hts gL_isImproved_X0_best rfl rfl rfl (by decide +kernel) ⟨Nat.le_of_ble_eq_true rfl, Nat.le_of_ble_eq_true rfl⟩) [0, 1, 2, 3, 4, 5, 6, 7, 8, 9, 10, 11] [] [0, 1, 2, 3, 4, 5, 6, 7, 8, 9, 10, 11] rfl rfl (by decide) (by decide) (by decide) (hwf := fun _ => rfl) (by decide) (ci := 0) rfl rfl rfl rfl hl.1 rfl (Nat.le_of_ble_eq_true rfl) dL_isImproved_2 ⟨Nat.zero_le _, Nat.zero_le _⟩ (fun r2 u H locs hr2 hP hD hS => ?_)
  obtain ⟨uB2, uE2, uR2, uM2, uN2, uJ2, uS2⟩ := u
  obtain ⟨hq2, hCK, hMb⟩ := hr2
  have hP : va_P D vwCl (xw ad cI cZ nn mm tT uB2 uE2 tL oO uR2 oQ uS2 uM2 uN2 uJ2) H := hP
  have hD : va_D A (xw ad cI cZ nn mm tT uB2 uE2 tL oO uR2 oQ uS2 uM2 uN2 uJ2) := hD
  refine w_top (v := iI (((sol 0 mm tT nn).1))) (hq2) ?_
  refine lv_istore_n (lv' := [(1, .int (iI (((sol 0 mm tT nn).1)))), (0, .ref (ad 0))]) hx hb dL_isImproved_5 rfl hl (by decide) rfl (fun ls hl => ?_)
  refine lv_iconst (v := iI 1) hx hb dL_isImproved_6 rfl ?_
  refine lv_istore_n (lv' := [(2, .int (iI 1)), (1, .int (iI (((sol 0 mm tT nn).1)))), (0, .ref (ad 0))]) hx hb dL_isImproved_7 rfl hl (by decide) rfl (fun ls hl => ?_)
  refine lv_iconst (v := iI 0) hx hb dL_isImproved_8 rfl ?_
  refine lv_istore_n (lv' := [(3, .int (iI 0)), (2, .int (iI 1)), (1, .int (iI (((sol 0 mm tT nn).1)))), (0, .ref (ad 0))]) hx hb dL_isImproved_9 rfl hl (by decide) rfl (fun ls hl => ?_)
  refine lv_aload_n hx hb dL_isImproved_10 rfl (lv_at hl 3 rfl) ?_
  refine lv_iconst (v := iI 0) hx hb dL_isImproved_11 rfl ?_
  refine w_iV (As := [.int (iI 0)]) (rest := []) (wf := fun u : (Nat → Int) × (Nat → Int) => xw ad cI cZ nn mm tT u.1 u.2 tL oO uR2 oQ uS2 uM2 uN2 uJ2) (wr := []) ⟨hx, hb, hml, hown, hts⟩ hK hP hD hS hA (mX0_makespan (v := 0) hT hn hm (by omega) hO) (cwV 1 hts gL_isImproved_X0_makespan rfl rfl rfl (by decide +kernel) ⟨Nat.le_of_ble_eq_true rfl, Nat.le_of_ble_eq_true rfl⟩) [0, 1, 2, 3, 4, 5, 6, 7, 8, 9, 10, 11] [] [0, 1, 2, 3, 4, 5, 6, 7, 8, 9, 10, 11] rfl rfl (by decide) (by decide) (by decide) (hwf := fun _ => rfl) (by decide) (ci := 0) rfl rfl rfl rfl hl.1 rfl (Nat.le_of_ble_eq_true rfl) dL_isImproved_12 ⟨Nat.zero_le _, Nat.zero_le _⟩ (fun r12 u H locs hr12 hP hD hS => ?_)
  obtain ⟨uB12, uE12⟩ := u
  have hP : va_P D vwCl (xw ad cI cZ nn mm tT uB12 uE12 tL oO uR2 oQ uS2 uM2 uN2 uJ2) H := hP
  have hD : va_D A (xw ad cI cZ nn mm tT uB12 uE12 tL oO uR2 oQ uS2 uM2 uN2 uJ2) := hD
  refine w_top (v := iI ((imM tT mm nn oO 0))) (hr12) ?_
  refine lv_istore (lv' := [(4, .int (iI ((imM tT mm nn oO 0)))), (3, .int (iI 0)), (2, .int (iI 1)), (1, .int (iI (((sol 0 mm tT nn).1)))), (0, .ref (ad 0))]) hx hb dL_isImproved_15 hl (by decide) rfl (fun ls hl => ?_)
  refine lv_aload_n hx hb dL_isImproved_17 rfl (lv_at hl 4 rfl) ?_
  refine w_iV (As := []) (rest := []) (wf := fun u : (Nat → Nat) × (Nat → Int) × (Nat → Int) => xw ad cI cZ nn mm tT u.2.1 u.2.2 tL (impO tT mm nn oO) u.1 oQ uS2 uM2 uN2 uJ2) (wr := []) ⟨hx, hb, hml, hown, hts⟩ hK hP hD hS hA (mX0_improve  hT hn hm hO) (cwV 0 hts gL_isImproved_X0_improve rfl rfl rfl (by decide +kernel) ⟨Nat.le_of_ble_eq_true rfl, Nat.le_of_ble_eq_true rfl⟩) [0, 1, 2, 3, 4, 5, 6, 7, 8, 9, 10, 11] [] [0, 1, 2, 3, 4, 5, 6, 7, 8, 9, 10, 11] rfl rfl (by decide) (by decide) (by decide) (hwf := fun _ => rfl) (by decide) (ci := 0) rfl rfl rfl rfl hl.1 rfl (Nat.le_of_ble_eq_true rfl) dL_isImproved_18 ⟨Nat.zero_le _, Nat.zero_le _⟩ (fun r18 u H locs hr18 hP hD hS => ?_)
  obtain ⟨uR18, uB18, uE18⟩ := u
  have hP : va_P D vwCl (xw ad cI cZ nn mm tT uB18 uE18 tL (impO tT mm nn oO) uR18 oQ uS2 uM2 uN2 uJ2) H := hP
  have hD : va_D A (xw ad cI cZ nn mm tT uB18 uE18 tL (impO tT mm nn oO) uR18 oQ uS2 uM2 uN2 uJ2) := hD
  refine w_top (v := iI ((imM tT mm nn oO 0) - (imM tT mm nn oO (0 + 1)))) (hr18.trans (congrArg iI (imM_by tT mm nn oO 0))) ?_
  refine lv_istore (lv' := [(5, .int (iI ((imM tT mm nn oO 0) - (imM tT mm nn oO (0 + 1))))), (4, .int (iI ((imM tT mm nn oO 0)))), (3, .int (iI 0)), (2, .int (iI 1)), (1, .int (iI (((sol 0 mm tT nn).1)))), (0, .ref (ad 0))]) hx hb dL_isImproved_21 hl (by decide) rfl (fun ls hl => ?_)
  have L23 : ∀ (fu : Nat) (s9 : Nat) (worder23 : Nat → Nat) (wtrial23 : Nat → Nat) (wbegins23 : Nat → Int) (wends23 : Nat → Int) (x5_23 : Int) (x4_23 : Int) (x3_23 : Int), (imC tT mm nn oO s9) → (worder23 = imI tT mm nn oO (s9 + 1)) → (x5_23 = (imM tT mm nn oO s9) - (imM tT mm nn oO (s9 + 1))) → (x4_23 = (imM tT mm nn oO s9)) → (x3_23 = (s9 : Int)) → 200 - s9 < fu → ∀ (H : Heap) (locs : List Loc), va_P D vwCl (xw ad cI cZ nn mm tT wbegins23 wends23 tL worder23 wtrial23 oQ uS2 uM2 uN2 uJ2) H → va_D A (xw ad cI cZ nn mm tT wbegins23 wends23 tL worder23 wtrial23 oQ uS2 uM2 uN2 uJ2) → va_S A s.heap H locs → ∀ ls : Array Slot, lv_has ls 8 [(5, .int (iI (x5_23))), (4, .int (iI (x4_23))), (3, .int (iI (x3_23))), (2, .int (iI 1)), (1, .int (iI (((sol 0 mm tT nn).1)))), (0, .ref (ad 0))] → W p l e (rmx 7 165) s m args below meth c H locs 0 0 Q (F0 m 23 ls []) := by
    intro fu
    induction fu with
    | zero =>
      intro s9 worder23 wtrial23 wbegins23 wends23 x5_23 x4_23 x3_23 hC hq0 hq1 hq2 hq3 hfu
      exact absurd hfu (Nat.not_lt_zero _)
    | succ fu ih =>
      intro s9 worder23 wtrial23 wbegins23 wends23 x5_23 x4_23 x3_23 hC hq0 hq1 hq2 hq3 hfu H locs hP hD hS ls hl
      subst hq0
      subst hq1
      subst hq2
      subst hq3
      have ih23 := ih
      have m2 := imM_rg (o := oO) hm hT hn s9
      have m3 := imM_rg (o := oO) hm hT hn (s9 + 1)
      have m4 := imM_rg (o := oO) hm hT hn (s9 + 1 + 1)
      have d2 := imM_dn tT mm nn oO s9
      have d3 := imM_dn tT mm nn oO (s9 + 1)
      have hl9 := imC_le hT hn6 hm hI hC
      have q0 := imM_sol hT hn hm hI s9
      refine lv_iload hx hb dL_isImproved_23 (lv_at hl 0 rfl) ?_
      refine w_if_le (tgt := 77) hx hb dL_isImproved_25 (by decide) ⟨by omega, by omega⟩ (fun c25 => ?_) (fun c25 => ?_)
      · refine lv_iload_n hx hb dL_isImproved_77 rfl (lv_at hl 3 rfl) ?_
        refine w_if_eq (tgt := 106) hx hb dL_isImproved_78 (by decide) ⟨by omega, by omega⟩ (fun c78 => absurd c78 (by omega)) (fun c78 => ?_)
        refine lv_iload hx hb dL_isImproved_81 (lv_at hl 0 rfl) ?_
        refine w_if_ne (tgt := 106) hx hb dL_isImproved_83 (by decide) ⟨by omega, by omega⟩ (fun c83 => absurd c83 (by omega)) (fun c83 => ?_)
        refine lv_aload_n hx hb dL_isImproved_86 rfl (lv_at hl 5 rfl) ?_
        refine lv_iconst (v := iI 0) hx hb dL_isImproved_87 rfl ?_
        refine w_iV (As := [.int (iI 0)]) (rest := []) (wf := fun u : (Nat → Int) × (Nat → Int) => xw ad cI cZ nn mm tT u.1 u.2 tL (imI tT mm nn oO (s9 + 1)) wtrial23 oQ uS2 uM2 uN2 uJ2) (wr := []) ⟨hx, hb, hml, hown, hts⟩ hK hP hD hS hA (mX0_makespan (v := 0) hT hn hm (by omega) (hOs (s9 + 1))) (cwV 1 hts gL_isImproved_X0_makespan rfl rfl rfl (by decide +kernel) ⟨Nat.le_of_ble_eq_true rfl, Nat.le_of_ble_eq_true rfl⟩) [0, 1, 2, 3, 4, 5, 6, 7, 8, 9, 10, 11] [] [0, 1, 2, 3, 4, 5, 6, 7, 8, 9, 10, 11] rfl rfl (by decide) (by decide) (by decide) (hwf := fun _ => rfl) (by decide) (ci := 0) rfl rfl rfl rfl hl.1 rfl (Nat.le_of_ble_eq_true rfl) dL_isImproved_88 ⟨Nat.zero_le _, Nat.zero_le _⟩ (fun r88 u H locs hr88 hP hD hS => ?_)
        obtain ⟨uB88, uE88⟩ := u
        have hP : va_P D vwCl (xw ad cI cZ nn mm tT uB88 uE88 tL (imI tT mm nn oO (s9 + 1)) wtrial23 oQ uS2 uM2 uN2 uJ2) H := hP
        have hD : va_D A (xw ad cI cZ nn mm tT uB88 uE88 tL (imI tT mm nn oO (s9 + 1)) wtrial23 oQ uS2 uM2 uN2 uJ2) := hD
        refine w_top (v := iI ((imM tT mm nn oO (s9 + 1)))) (hr88) ?_
        refine lv_iload hx hb dL_isImproved_91 (lv_at hl 1 rfl) ?_
        refine w_icmp_ne (tgt := 106) hx hb dL_isImproved_93 (by decide) ⟨by omega, by omega⟩ ⟨by omega, by omega⟩ (fun c93 => absurd c93 (by omega)) (fun c93 => ?_)
        refine lv_iload hx hb dL_isImproved_96 (lv_at hl 1 rfl) ?_
        refine lv_iload_n hx hb dL_isImproved_98 rfl (lv_at hl 4 rfl) ?_
        refine w_icmp_lt (tgt := 106) hx hb dL_isImproved_99 (by decide) ⟨by omega, by omega⟩ ⟨by omega, by omega⟩ (fun c99 => absurd c99 (by omega)) (fun c99 => ?_)
        refine lv_iconst (v := iI 1) hx hb dL_isImproved_102 rfl ?_
        refine lv_goto (tgt := 107) hx hb dL_isImproved_103 (by decide) ?_
        refine lv_istore_n (lv' := [(2, .int (iI 1)), (5, .int (iI ((imM tT mm nn oO s9) - (imM tT mm nn oO (s9 + 1))))), (4, .int (iI ((imM tT mm nn oO s9)))), (3, .int (iI ((s9 : Int)))), (1, .int (iI (((sol 0 mm tT nn).1)))), (0, .ref (ad 0))]) hx hb dL_isImproved_107 rfl hl (by decide) rfl (fun ls hl => ?_)
        refine lv_aload_n hx hb dL_isImproved_108 rfl (lv_at hl 5 rfl) ?_
        refine w_iV (As := []) (rest := []) (wf := fun u : (Nat → Nat) × (Nat → Int) × (Nat → Int) => xw ad cI cZ nn mm tT u.2.1 u.2.2 tL (insO tT mm nn (imI tT mm nn oO (s9 + 1)) oQ) u.1 (srt (bqs tT mm) oQ nn) uS2 uM2 uN2 uJ2) (wr := []) ⟨hx, hb, hml, hown, hts⟩ hK hP hD hS hA (mX0_orderByInsertion  hT hn hm (hOs (s9 + 1))) (cwV 0 hts gL_isImproved_X0_orderByInsertion rfl rfl rfl (by decide +kernel) ⟨Nat.le_of_ble_eq_true rfl, Nat.le_of_ble_eq_true rfl⟩) [0, 1, 2, 3, 4, 5, 6, 7, 8, 9, 10, 11] [] [0, 1, 2, 3, 4, 5, 6, 7, 8, 9, 10, 11] rfl rfl (by decide) (by decide) (by decide) (hwf := fun _ => rfl) (by decide) (ci := 0) rfl rfl rfl rfl hl.1 rfl (Nat.le_of_ble_eq_true rfl) dL_isImproved_109 ⟨Nat.zero_le _, Nat.zero_le _⟩ (fun r109 u H locs hr109 hP hD hS => ?_)
        obtain ⟨uR109, uB109, uE109⟩ := u
        have hI6 : IsP nn (insO tT mm nn (imI tT mm nn oO (s9 + 1)) oQ) := (ins_ok tT mm nn (imI tT mm nn oO (s9 + 1)) oQ hT hn hm).2
        have hO6 := isP_lt hI6 hn
        have q1 := sol_le (v := 0) (mm := mm) (t := tT) hn hI6
        have m6 := mk_rg (v := 0) (o := insO tT mm nn (imI tT mm nn oO (s9 + 1)) oQ) hm.1 hm.2 hT hn
        have hP : va_P D vwCl (xw ad cI cZ nn mm tT uB109 uE109 tL (insO tT mm nn (imI tT mm nn oO (s9 + 1)) oQ) uR109 (srt (bqs tT mm) oQ nn) uS2 uM2 uN2 uJ2) H := hP
        have hD : va_D A (xw ad cI cZ nn mm tT uB109 uE109 tL (insO tT mm nn (imI tT mm nn oO (s9 + 1)) oQ) uR109 (srt (bqs tT mm) oQ nn) uS2 uM2 uN2 uJ2) := hD
        refine w_top (v := iI ((mk 0 mm tT (insO tT mm nn (imI tT mm nn oO (s9 + 1)) oQ) nn))) (hr109) ?_
        refine lv_istore (lv' := [(6, .int (iI ((mk 0 mm tT (insO tT mm nn (imI tT mm nn oO (s9 + 1)) oQ) nn)))), (2, .int (iI 1)), (5, .int (iI ((imM tT mm nn oO s9) - (imM tT mm nn oO (s9 + 1))))), (4, .int (iI ((imM tT mm nn oO s9)))), (3, .int (iI ((s9 : Int)))), (1, .int (iI (((sol 0 mm tT nn).1)))), (0, .ref (ad 0))]) hx hb dL_isImproved_112 hl (by decide) rfl (fun ls hl => ?_)
        refine lv_iload_n hx hb dL_isImproved_114 rfl (lv_at hl 1 rfl) ?_
        refine w_if_eq (tgt := 138) hx hb dL_isImproved_115 (by decide) ⟨by omega, by omega⟩ (fun c115 => absurd c115 (by omega)) (fun c115 => ?_)
        refine lv_iload hx hb dL_isImproved_118 (lv_at hl 0 rfl) ?_
        refine lv_aload_n hx hb dL_isImproved_120 rfl (lv_at hl 6 rfl) ?_
        refine lv_iconst (v := iI 0) hx hb dL_isImproved_121 rfl ?_
        refine w_iV (As := [.int (iI 0)]) (rest := [.int (iI ((mk 0 mm tT (insO tT mm nn (imI tT mm nn oO (s9 + 1)) oQ) nn)))]) (wf := fun u : (Nat → Int) × (Nat → Int) => xw ad cI cZ nn mm tT u.1 u.2 tL (insO tT mm nn (imI tT mm nn oO (s9 + 1)) oQ) uR109 (srt (bqs tT mm) oQ nn) uS2 uM2 uN2 uJ2) (wr := []) ⟨hx, hb, hml, hown, hts⟩ hK hP hD hS hA (mX0_makespan (v := 0) hT hn hm (by omega) hO6) (cwV 1 hts gL_isImproved_X0_makespan rfl rfl rfl (by decide +kernel) ⟨Nat.le_of_ble_eq_true rfl, Nat.le_of_ble_eq_true rfl⟩) [0, 1, 2, 3, 4, 5, 6, 7, 8, 9, 10, 11] [] [0, 1, 2, 3, 4, 5, 6, 7, 8, 9, 10, 11] rfl rfl (by decide) (by decide) (by decide) (hwf := fun _ => rfl) (by decide) (ci := 0) rfl rfl rfl rfl hl.1 rfl (Nat.le_of_ble_eq_true rfl) dL_isImproved_122 ⟨Nat.zero_le _, Nat.zero_le _⟩ (fun r122 u H locs hr122 hP hD hS => ?_)
        obtain ⟨uB122, uE122⟩ := u
        have hP : va_P D vwCl (xw ad cI cZ nn mm tT uB122 uE122 tL (insO tT mm nn (imI tT mm nn oO (s9 + 1)) oQ) uR109 (srt (bqs tT mm) oQ nn) uS2 uM2 uN2 uJ2) H := hP
        have hD : va_D A (xw ad cI cZ nn mm tT uB122 uE122 tL (insO tT mm nn (imI tT mm nn oO (s9 + 1)) oQ) uR109 (srt (bqs tT mm) oQ nn) uS2 uM2 uN2 uJ2) := hD
        refine w_top (v := iI ((mk 0 mm tT (insO tT mm nn (imI tT mm nn oO (s9 + 1)) oQ) nn))) (hr122) ?_
        refine w_icmp_ne (tgt := 138) hx hb dL_isImproved_125 (by decide) ⟨by omega, by omega⟩ ⟨by omega, by omega⟩ (fun c125 => absurd c125 (by omega)) (fun c125 => ?_)
        refine lv_iload hx hb dL_isImproved_128 (lv_at hl 0 rfl) ?_
        refine lv_iload_n hx hb dL_isImproved_130 rfl (lv_at hl 5 rfl) ?_
        refine w_icmp_lt (tgt := 138) hx hb dL_isImproved_131 (by decide) ⟨by omega, by omega⟩ ⟨by omega, by omega⟩ (fun c131 => absurd c131 (by omega)) (fun c131 => ?_)
        refine lv_iconst (v := iI 1) hx hb dL_isImproved_134 rfl ?_
        refine lv_goto (tgt := 139) hx hb dL_isImproved_135 (by decide) ?_
        refine lv_istore_n (lv' := [(2, .int (iI 1)), (6, .int (iI ((mk 0 mm tT (insO tT mm nn (imI tT mm nn oO (s9 + 1)) oQ) nn)))), (5, .int (iI ((imM tT mm nn oO s9) - (imM tT mm nn oO (s9 + 1))))), (4, .int (iI ((imM tT mm nn oO s9)))), (3, .int (iI ((s9 : Int)))), (1, .int (iI (((sol 0 mm tT nn).1)))), (0, .ref (ad 0))]) hx hb dL_isImproved_139 rfl hl (by decide) rfl (fun ls hl => ?_)
        refine lv_aload_n hx hb dL_isImproved_140 rfl (lv_at hl 6 rfl) ?_
        refine w_pV (As := []) (rest := []) ⟨hx, hb, hml, hown, hts⟩ hK hP (mX0_machines  ) (cwV 0 hts gL_isImproved_X0_machines rfl rfl rfl (by decide +kernel) ⟨Nat.le_of_ble_eq_true rfl, Nat.le_of_ble_eq_true rfl⟩) (ci := 0) rfl rfl rfl rfl hl.1 rfl (Nat.le_of_ble_eq_true rfl) dL_isImproved_141 ⟨Nat.zero_le _, Nat.zero_le _⟩ (fun r141 hr141 => ?_)
        refine w_top (v := iI ((mm : Int))) (hr141) ?_
        refine lv_iconst (v := iI 2) hx hb dL_isImproved_144 rfl ?_
        refine w_icmp_ne (tgt := 189) hx hb dL_isImproved_145 (by decide) ⟨by omega, by omega⟩ ⟨by omega, by omega⟩ (fun c145 => ?_) (fun c145 => ?_)
        · refine lv_iload_n hx hb dL_isImproved_189 rfl (lv_at hl 0 rfl) ?_
          exact hret _ _ 190 ls _ ((insO tT mm nn (imI tT mm nn oO (s9 + 1)) oQ, uR109, srt (bqs tT mm) oQ nn, uB122, uE122, uM2, uN2, uJ2, uS2)) rfl hP hD hS (⟨rfl, hI6, hCK, hMb⟩) dL_isImproved_190
        · have hr7 : mk 0 mm tT (srt (gbr tT 0 1) (insO tT mm nn (imI tT mm nn oO (s9 + 1)) oQ) nn) nn = (sol 0 mm tT nn).1 := rule_best hT hn (by omega)
          have hI7 : IsP nn (srt (gbr tT 0 1) (insO tT mm nn (imI tT mm nn oO (s9 + 1)) oQ) nn) := (rule_srd tT 0 1 nn (insO tT mm nn (imI tT mm nn oO (s9 + 1)) oQ)).1
          have hO7 := isP_lt hI7 hn
          refine lv_aload_n hx hb dL_isImproved_148 rfl (lv_at hl 6 rfl) ?_
          refine w_iV (As := []) (rest := []) (wf := fun u : (Nat → Int) × (Nat → Int) => xw ad cI cZ nn mm tT u.1 u.2 tL (srt (gbr tT 0 1) (insO tT mm nn (imI tT mm nn oO (s9 + 1)) oQ) nn) uR109 (srt (bqs tT mm) oQ nn) uS2 uM2 uN2 uJ2) (wr := []) ⟨hx, hb, hml, hown, hts⟩ hK hP hD hS hA (mX0_orderByRule  hT hn (by omega)) (cwV 0 hts gL_isImproved_X0_orderByRule rfl rfl rfl (by decide +kernel) ⟨Nat.le_of_ble_eq_true rfl, Nat.le_of_ble_eq_true rfl⟩) [0, 1, 2, 3, 4, 5, 6, 7, 8, 9, 10, 11] [] [0, 1, 2, 3, 4, 5, 6, 7, 8, 9, 10, 11] rfl rfl (by decide) (by decide) (by decide) (hwf := fun _ => rfl) (by decide) (ci := 0) rfl rfl rfl rfl hl.1 rfl (Nat.le_of_ble_eq_true rfl) dL_isImproved_149 ⟨Nat.zero_le _, Nat.zero_le _⟩ (fun r149 u H locs hr149 hP hD hS => ?_)
          obtain ⟨uB149, uE149⟩ := u
          have hP : va_P D vwCl (xw ad cI cZ nn mm tT uB149 uE149 tL (srt (gbr tT 0 1) (insO tT mm nn (imI tT mm nn oO (s9 + 1)) oQ) nn) uR109 (srt (bqs tT mm) oQ nn) uS2 uM2 uN2 uJ2) H := hP
          have hD : va_D A (xw ad cI cZ nn mm tT uB149 uE149 tL (srt (gbr tT 0 1) (insO tT mm nn (imI tT mm nn oO (s9 + 1)) oQ) nn) uR109 (srt (bqs tT mm) oQ nn) uS2 uM2 uN2 uJ2) := hD
          refine w_top (v := iI ((mk 0 mm tT (srt (gbr tT 0 1) (insO tT mm nn (imI tT mm nn oO (s9 + 1)) oQ) nn) nn))) (hr149) ?_
          refine lv_istore (lv' := [(7, .int (iI ((mk 0 mm tT (srt (gbr tT 0 1) (insO tT mm nn (imI tT mm nn oO (s9 + 1)) oQ) nn) nn)))), (2, .int (iI 1)), (6, .int (iI ((mk 0 mm tT (insO tT mm nn (imI tT mm nn oO (s9 + 1)) oQ) nn)))), (5, .int (iI ((imM tT mm nn oO s9) - (imM tT mm nn oO (s9 + 1))))), (4, .int (iI ((imM tT mm nn oO s9)))), (3, .int (iI ((s9 : Int)))), (1, .int (iI (((sol 0 mm tT nn).1)))), (0, .ref (ad 0))]) hx hb dL_isImproved_152 hl (by decide) rfl (fun ls hl => ?_)
          refine lv_iload_n hx hb dL_isImproved_154 rfl (lv_at hl 1 rfl) ?_
          refine w_if_eq (tgt := 187) hx hb dL_isImproved_155 (by decide) ⟨by omega, by omega⟩ (fun c155 => absurd c155 (by omega)) (fun c155 => ?_)
          refine lv_iload hx hb dL_isImproved_158 (lv_at hl 0 rfl) ?_
          refine lv_iload_n hx hb dL_isImproved_160 rfl (lv_at hl 6 rfl) ?_
          refine w_icmp_ne (tgt := 187) hx hb dL_isImproved_161 (by decide) ⟨by omega, by omega⟩ ⟨by omega, by omega⟩ (fun c161 => absurd c161 (by omega)) (fun c161 => ?_)
          refine lv_iload hx hb dL_isImproved_164 (lv_at hl 0 rfl) ?_
          refine lv_aload_n hx hb dL_isImproved_166 rfl (lv_at hl 7 rfl) ?_
          refine lv_iconst (v := iI 0) hx hb dL_isImproved_167 rfl ?_
          refine w_iV (As := [.int (iI 0)]) (rest := [.int (iI ((mk 0 mm tT (srt (gbr tT 0 1) (insO tT mm nn (imI tT mm nn oO (s9 + 1)) oQ) nn) nn)))]) (wf := fun u : (Nat → Int) × (Nat → Int) => xw ad cI cZ nn mm tT u.1 u.2 tL (srt (gbr tT 0 1) (insO tT mm nn (imI tT mm nn oO (s9 + 1)) oQ) nn) uR109 (srt (bqs tT mm) oQ nn) uS2 uM2 uN2 uJ2) (wr := []) ⟨hx, hb, hml, hown, hts⟩ hK hP hD hS hA (mX0_makespan (v := 0) hT hn hm (by omega) hO7) (cwV 1 hts gL_isImproved_X0_makespan rfl rfl rfl (by decide +kernel) ⟨Nat.le_of_ble_eq_true rfl, Nat.le_of_ble_eq_true rfl⟩) [0, 1, 2, 3, 4, 5, 6, 7, 8, 9, 10, 11] [] [0, 1, 2, 3, 4, 5, 6, 7, 8, 9, 10, 11] rfl rfl (by decide) (by decide) (by decide) (hwf := fun _ => rfl) (by decide) (ci := 0) rfl rfl rfl rfl hl.1 rfl (Nat.le_of_ble_eq_true rfl) dL_isImproved_168 ⟨Nat.zero_le _, Nat.zero_le _⟩ (fun r168 u H locs hr168 hP hD hS => ?_)
          obtain ⟨uB168, uE168⟩ := u
          have hP : va_P D vwCl (xw ad cI cZ nn mm tT uB168 uE168 tL (srt (gbr tT 0 1) (insO tT mm nn (imI tT mm nn oO (s9 + 1)) oQ) nn) uR109 (srt (bqs tT mm) oQ nn) uS2 uM2 uN2 uJ2) H := hP
          have hD : va_D A (xw ad cI cZ nn mm tT uB168 uE168 tL (srt (gbr tT 0 1) (insO tT mm nn (imI tT mm nn oO (s9 + 1)) oQ) nn) uR109 (srt (bqs tT mm) oQ nn) uS2 uM2 uN2 uJ2) := hD
          refine w_top (v := iI ((mk 0 mm tT (srt (gbr tT 0 1) (insO tT mm nn (imI tT mm nn oO (s9 + 1)) oQ) nn) nn))) (hr168) ?_
          refine w_icmp_ne (tgt := 187) hx hb dL_isImproved_171 (by decide) ⟨by omega, by omega⟩ ⟨by omega, by omega⟩ (fun c171 => absurd c171 (by omega)) (fun c171 => ?_)
          refine lv_aload_n hx hb dL_isImproved_174 rfl (lv_at hl 7 rfl) ?_
          refine w_iVd (As := []) (rest := []) (wf := fun u : (Nat → Int) × (Nat → Int) × (Nat → Nat) × (Nat → Int) × (Nat → Int) × (Nat → Nat) × (Nat → Int) => xw ad cI cZ nn mm tT u.1 u.2.1 tL (srt (gbr tT 0 1) (insO tT mm nn (imI tT mm nn oO (s9 + 1)) oQ) nn) u.2.2.1 (srt (bqs tT mm) oQ nn) u.2.2.2.2.2.2 u.2.2.2.1 u.2.2.2.2.1 u.2.2.2.2.2.1) (wr := []) ⟨hx, hb, hml, hown, hts⟩ hK hP hD hS hA (mX0_gap  hT hn hm hO7 hE hCK hMb) (cwV 0 hts gL_isImproved_X0_gap rfl rfl rfl (by decide +kernel) ⟨Nat.le_of_ble_eq_true rfl, Nat.le_of_ble_eq_true rfl⟩) [0, 1, 2, 3, 4, 5, 6, 7, 8, 9, 10, 11] [] [0, 1, 2, 3, 4, 5, 6, 7, 8, 9, 10, 11] rfl rfl (by decide) (by decide) (by decide) (hwf := fun _ => rfl) (by decide) (ci := 0) rfl rfl rfl rfl hl.1 rfl (Nat.le_of_ble_eq_true rfl) dL_isImproved_175 ⟨Nat.zero_le _, Nat.zero_le _⟩ (fun r175 u H locs hr175 hP hD hS => ?_)
          obtain ⟨uB175, uE175, uR175, uM175, uN175, uJ175, uS175⟩ := u
          obtain ⟨hq175, hCK, hMb⟩ := hr175
          have hP : va_P D vwCl (xw ad cI cZ nn mm tT uB175 uE175 tL (srt (gbr tT 0 1) (insO tT mm nn (imI tT mm nn oO (s9 + 1)) oQ) nn) uR175 (srt (bqs tT mm) oQ nn) uS175 uM175 uN175 uJ175) H := hP
          have hD : va_D A (xw ad cI cZ nn mm tT uB175 uE175 tL (srt (gbr tT 0 1) (insO tT mm nn (imI tT mm nn oO (s9 + 1)) oQ) nn) uR175 (srt (bqs tT mm) oQ nn) uS175 uM175 uN175 uJ175) := hD
          refine lv_dconst0 hx hb dL_isImproved_178 ?_
          refine lv_dcmp hx hb dL_isImproved_179 ?_
          refine w_top (v := iI 0) (by rw [hq175, hr7]; exact (gap_0 b0).trans i0_0.symm) ?_
          refine w_if_ne (tgt := 187) hx hb dL_isImproved_180 (by decide) ⟨by omega, by omega⟩ (fun c180 => absurd c180 (by omega)) (fun c180 => ?_)
          refine lv_iconst (v := iI 1) hx hb dL_isImproved_183 rfl ?_
          refine lv_goto (tgt := 188) hx hb dL_isImproved_184 (by decide) ?_
          refine lv_istore_n (lv' := [(2, .int (iI 1)), (7, .int (iI ((mk 0 mm tT (srt (gbr tT 0 1) (insO tT mm nn (imI tT mm nn oO (s9 + 1)) oQ) nn) nn)))), (6, .int (iI ((mk 0 mm tT (insO tT mm nn (imI tT mm nn oO (s9 + 1)) oQ) nn)))), (5, .int (iI ((imM tT mm nn oO s9) - (imM tT mm nn oO (s9 + 1))))), (4, .int (iI ((imM tT mm nn oO s9)))), (3, .int (iI ((s9 : Int)))), (1, .int (iI (((sol 0 mm tT nn).1)))), (0, .ref (ad 0))]) hx hb dL_isImproved_188 rfl hl (by decide) rfl (fun ls hl => ?_)
          refine lv_iload_n hx hb dL_isImproved_189 rfl (lv_at hl 0 rfl) ?_
          exact hret _ _ 190 ls _ ((srt (gbr tT 0 1) (insO tT mm nn (imI tT mm nn oO (s9 + 1)) oQ) nn, uR175, srt (bqs tT mm) oQ nn, uB175, uE175, uM175, uN175, uJ175, uS175)) rfl hP hD hS (⟨rfl, hI7, hCK, hMb⟩) dL_isImproved_190
      · have hC2 : imC tT mm nn oO (s9 + 1) := imC_s hC (by omega)
        have hl8 := imC_le hT hn6 hm hI hC2
        refine lv_iload_n hx hb dL_isImproved_28 rfl (lv_at hl 3 rfl) ?_
        refine w_if_eq (tgt := 77) hx hb dL_isImproved_29 (by decide) ⟨by omega, by omega⟩ (fun c29 => absurd c29 (by omega)) (fun c29 => ?_)
        refine lv_iload_n hx hb dL_isImproved_32 rfl (lv_at hl 2 rfl) ?_
        refine lv_sipush (v := iI 200) hx hb dL_isImproved_33 (by decide) ?_
        refine w_icmp_ge (tgt := 77) hx hb dL_isImproved_36 (by decide) ⟨by omega, by omega⟩ ⟨by omega, by omega⟩ (fun c36 => absurd c36 (by omega)) (fun c36 => ?_)
        refine lv_aload_n hx hb dL_isImproved_39 rfl (lv_at hl 5 rfl) ?_
        refine lv_iconst (v := iI 0) hx hb dL_isImproved_40 rfl ?_
        refine w_iV (As := [.int (iI 0)]) (rest := []) (wf := fun u : (Nat → Int) × (Nat → Int) => xw ad cI cZ nn mm tT u.1 u.2 tL (imI tT mm nn oO (s9 + 1)) wtrial23 oQ uS2 uM2 uN2 uJ2) (wr := []) ⟨hx, hb, hml, hown, hts⟩ hK hP hD hS hA (mX0_makespan (v := 0) hT hn hm (by omega) (hOs (s9 + 1))) (cwV 1 hts gL_isImproved_X0_makespan rfl rfl rfl (by decide +kernel) ⟨Nat.le_of_ble_eq_true rfl, Nat.le_of_ble_eq_true rfl⟩) [0, 1, 2, 3, 4, 5, 6, 7, 8, 9, 10, 11] [] [0, 1, 2, 3, 4, 5, 6, 7, 8, 9, 10, 11] rfl rfl (by decide) (by decide) (by decide) (hwf := fun _ => rfl) (by decide) (ci := 0) rfl rfl rfl rfl hl.1 rfl (Nat.le_of_ble_eq_true rfl) dL_isImproved_41 ⟨Nat.zero_le _, Nat.zero_le _⟩ (fun r41 u H locs hr41 hP hD hS => ?_)
        obtain ⟨uB41, uE41⟩ := u
        have hP : va_P D vwCl (xw ad cI cZ nn mm tT uB41 uE41 tL (imI tT mm nn oO (s9 + 1)) wtrial23 oQ uS2 uM2 uN2 uJ2) H := hP
        have hD : va_D A (xw ad cI cZ nn mm tT uB41 uE41 tL (imI tT mm nn oO (s9 + 1)) wtrial23 oQ uS2 uM2 uN2 uJ2) := hD
        refine w_top (v := iI ((imM tT mm nn oO (s9 + 1)))) (hr41) ?_
        refine lv_iload hx hb dL_isImproved_44 (lv_at hl 1 rfl) ?_
        refine lv_iload hx hb dL_isImproved_46 (lv_at hl 0 rfl) ?_
        refine w_isub (z := (imM tT mm nn oO (s9 + 1))) hx hb dL_isImproved_48 (by omega) ?_
        refine w_icmp_ne (tgt := 56) hx hb dL_isImproved_49 (by decide) ⟨by omega, by omega⟩ ⟨by omega, by omega⟩ (fun c49 => absurd c49 (by omega)) (fun c49 => ?_)
        refine lv_iconst (v := iI 1) hx hb dL_isImproved_52 rfl ?_
        refine lv_goto (tgt := 57) hx hb dL_isImproved_53 (by decide) ?_
        refine lv_istore_n (lv' := [(2, .int (iI 1)), (5, .int (iI ((imM tT mm nn oO s9) - (imM tT mm nn oO (s9 + 1))))), (4, .int (iI ((imM tT mm nn oO s9)))), (3, .int (iI ((s9 : Int)))), (1, .int (iI (((sol 0 mm tT nn).1)))), (0, .ref (ad 0))]) hx hb dL_isImproved_57 rfl hl (by decide) rfl (fun ls hl => ?_)
        refine lv_iload hx hb dL_isImproved_58 (lv_at hl 2 rfl) ?_
        refine lv_iload hx hb dL_isImproved_60 (lv_at hl 1 rfl) ?_
        refine w_isub (z := (imM tT mm nn oO (s9 + 1))) hx hb dL_isImproved_62 (by omega) ?_
        refine lv_istore (lv' := [(4, .int (iI ((imM tT mm nn oO (s9 + 1))))), (2, .int (iI 1)), (5, .int (iI ((imM tT mm nn oO s9) - (imM tT mm nn oO (s9 + 1))))), (3, .int (iI ((s9 : Int)))), (1, .int (iI (((sol 0 mm tT nn).1)))), (0, .ref (ad 0))]) hx hb dL_isImproved_63 hl (by decide) rfl (fun ls hl => ?_)
        refine lv_aload_n hx hb dL_isImproved_65 rfl (lv_at hl 5 rfl) ?_
        refine w_iV (As := []) (rest := []) (wf := fun u : (Nat → Nat) × (Nat → Int) × (Nat → Int) => xw ad cI cZ nn mm tT u.2.1 u.2.2 tL (impO tT mm nn (imI tT mm nn oO (s9 + 1))) u.1 oQ uS2 uM2 uN2 uJ2) (wr := []) ⟨hx, hb, hml, hown, hts⟩ hK hP hD hS hA (mX0_improve  hT hn hm (hOs (s9 + 1))) (cwV 0 hts gL_isImproved_X0_improve rfl rfl rfl (by decide +kernel) ⟨Nat.le_of_ble_eq_true rfl, Nat.le_of_ble_eq_true rfl⟩) [0, 1, 2, 3, 4, 5, 6, 7, 8, 9, 10, 11] [] [0, 1, 2, 3, 4, 5, 6, 7, 8, 9, 10, 11] rfl rfl (by decide) (by decide) (by decide) (hwf := fun _ => rfl) (by decide) (ci := 0) rfl rfl rfl rfl hl.1 rfl (Nat.le_of_ble_eq_true rfl) dL_isImproved_66 ⟨Nat.zero_le _, Nat.zero_le _⟩ (fun r66 u H locs hr66 hP hD hS => ?_)
        obtain ⟨uR66, uB66, uE66⟩ := u
        have hP : va_P D vwCl (xw ad cI cZ nn mm tT uB66 uE66 tL (impO tT mm nn (imI tT mm nn oO (s9 + 1))) uR66 oQ uS2 uM2 uN2 uJ2) H := hP
        have hD : va_D A (xw ad cI cZ nn mm tT uB66 uE66 tL (impO tT mm nn (imI tT mm nn oO (s9 + 1))) uR66 oQ uS2 uM2 uN2 uJ2) := hD
        refine w_top (v := iI ((imM tT mm nn oO (s9 + 1)) - (imM tT mm nn oO (s9 + 1 + 1)))) (hr66.trans (congrArg iI (imM_by tT mm nn oO (s9 + 1)))) ?_
        refine lv_istore (lv' := [(5, .int (iI ((imM tT mm nn oO (s9 + 1)) - (imM tT mm nn oO (s9 + 1 + 1))))), (4, .int (iI ((imM tT mm nn oO (s9 + 1))))), (2, .int (iI 1)), (3, .int (iI ((s9 : Int)))), (1, .int (iI (((sol 0 mm tT nn).1)))), (0, .ref (ad 0))]) hx hb dL_isImproved_69 hl (by decide) rfl (fun ls hl => ?_)
        refine lv_iinc (v := iI ((s9 : Int) + 1)) (lv' := [(3, .int (iI ((s9 : Int) + 1))), (5, .int (iI ((imM tT mm nn oO (s9 + 1)) - (imM tT mm nn oO (s9 + 1 + 1))))), (4, .int (iI ((imM tT mm nn oO (s9 + 1))))), (2, .int (iI 1)), (1, .int (iI (((sol 0 mm tT nn).1)))), (0, .ref (ad 0))]) hx hb dL_isImproved_71 hl (k := 3) rfl (iI_inc (by omega)) (by decide) rfl (fun ls hl => ?_)
        refine lv_goto (tgt := 23) hx hb dL_isImproved_74 (by decide) ?_
        exact ih23 (s9 + 1) (impO tT mm nn (imI tT mm nn oO (s9 + 1))) uR66 uB66 uE66 ((imM tT mm nn oO (s9 + 1)) - (imM tT mm nn oO (s9 + 1 + 1))) ((imM tT mm nn oO (s9 + 1))) ((s9 : Int) + 1) (hC2) (rfl) (by omega) (by omega) (by omega) (by omega) _ _ hP hD hS ls (lv_sub hl [1, 2, 0, 3, 4, 5] rfl)
  exact L23 (200 - 0 + 1) 0 (impO tT mm nn oO) uR18 uB18 uE18 ((imM tT mm nn oO 0) - (imM tT mm nn oO (0 + 1))) ((imM tT mm nn oO 0)) (0) (imC_0) (rfl) (rfl) (rfl) (rfl) (Nat.lt_succ_self _) _ _ hP hD hS ls (lv_sub hl [0, 1, 2, 3, 4, 5] rfl)
end
