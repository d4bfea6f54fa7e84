section
variable {l : Launch} {D : va_G} {cI cZ cJ : ClassId} {ad bd : Nat → Nat} {a0 : Nat} {ws : va_W} {nn mm : Nat} {th bm : Int} {tT tB tE tL : Nat → Int} {oO oR oQ : Nat → Nat} {zS zM zN : Nat → Int} {oJ fF : Nat → Nat}
set_option maxHeartbeats 4000000 in
set_option maxRecDepth 100000 in
theorem mL_isReached {v : Nat} (hT : ∀ k, 0 ≤ tT k ∧ tT k ≤ 99) (hn6 : nn ≤ 6) (hm : 1 ≤ mm ∧ mm ≤ 5) (hv : v ≤ 2) (hI : IsP nn oO) (hE : Enu nn) (hCK : CK mm tT nn zS zM zN oJ) (hMb : ∀ k, k ≤ 2 → 0 ≤ zM k ∧ zM k ≤ 1000000) : NM l yL_isReached wsL_isReached (rmn 6 146 1 7) D (tyk cI cZ cJ) (xw ad cI cZ nn mm tT tB tE tL oO oR oQ zS zM zN oJ) [.ref (ad 0), .int (iI ((v : Int)))] 1 7 (QI D (tyk cI cZ cJ) (fun u : (Nat → Nat) × (Nat → Nat) × (Nat → Nat) × (Nat → Int) × (Nat → Int) × (Nat → Int) × (Nat → Int) × (Nat → Nat) × (Nat → Int) => xw ad cI cZ nn mm tT u.2.2.2.1 u.2.2.2.2.1 tL u.1 u.2.1 u.2.2.1 u.2.2.2.2.2.2.2.2 u.2.2.2.2.2.1 u.2.2.2.2.2.2.1 u.2.2.2.2.2.2.2.1) (fun y u => y = iI 1 ∧ IsP nn u.1 ∧ CK mm tT nn u.2.2.2.2.2.2.2.2 u.2.2.2.2.2.1 u.2.2.2.2.2.2.1 u.2.2.2.2.2.2.2.1 ∧ ∀ k, k ≤ 2 → 0 ≤ u.2.2.2.2.2.1 k ∧ u.2.2.2.2.2.1 k ≤ 1000000)) := by
  refine nmZ_of (cc := cL_isReached) (maxL := 6) (by decide) rfl (Nat.le_of_ble_eq_true rfl) ?_
  intro p e s m args below meth c A Q hx hb hml hown hts hA hK hP hD hS hret ls hl
  have hown : s.vm.findClass RL = some m.cls := hown
  have hl : lv_has ls 6 [(0, .ref (ad 0)), (1, .int (iI ((v : Int))))] := hl
  have hn : nn ≤ 7 := by omega
  have hO : ∀ k, k < nn → oO k < 7 := isP_lt hI hn
  have hs9 := sol_at (v := v) (mm := mm) (t := tT) hn
  have hs8 := sol_rg (v := v) hm hT hn
  have hs7 : ∀ g, g < nn → solJ v mm tT nn g < nn := hs9.1.1
  refine lv_aload_n hx hb dL_isReached_0 rfl (lv_at hl 0 rfl) ?_
  refine lv_iload_n hx hb dL_isReached_1 rfl (lv_at hl 1 rfl) ?_
  refine w_iV (As := [.int (iI ((v : Int)))]) (rest := []) (wf := fun u : (Nat → Int) × (Nat → Int) × (Nat → Nat) × (Nat → Int) × (Nat → Int) × (Nat → Nat) × (Nat → Int) => xw ad cI cZ nn mm tT u.1 u.2.1 tL oO u.2.2.1 oQ u.2.2.2.2.2.2 u.2.2.2.1 u.2.2.2.2.1 u.2.2.2.2.2.1) (wr := []) ⟨hx, hb, hml, hown, hts⟩ hK hP hD hS hA (mX0_best (v := v) hT hn hm hv hE hCK hMb) (cwV 1 hts gL_isReached_X0_best rfl rfl rfl (by decide +kernel) ⟨Nat.le_of_ble_eq_true rfl, Nat.le_of_ble_eq_true rfl⟩) [0, 1, 2, 3, 4, 5, 6, 7, 8, 9, 10, 11] [] [0, 1, 2, 3, 4, 5, 6, 7, 8, 9, 10, 11] rfl rfl (by decide) (by decide) (by decide) (hwf := fun _ => rfl) (by decide) (ci := 0) rfl rfl rfl rfl hl.1 rfl (Nat.le_of_ble_eq_true rfl) dL_isReached_2 ⟨Nat.zero_le _, Nat.zero_le _⟩ (fun r2 u H locs hr2 hP hD hS => ?_)
  obtain ⟨uB2, uE2, uR2, uM2, uN2, uJ2, uS2⟩ := u
  obtain ⟨hq2, hCK, hMb⟩ := hr2
  have hP : va_P D vwCl (xw ad cI cZ nn mm tT uB2 uE2 tL oO uR2 oQ uS2 uM2 uN2 uJ2) H := hP
  have hD : va_D A (xw ad cI cZ nn mm tT uB2 uE2 tL oO uR2 oQ uS2 uM2 uN2 uJ2) := hD
  refine w_top (v := iI (((sol v mm tT nn).1))) (hq2) ?_
  refine lv_istore_n (lv' := [(2, .int (iI (((sol v mm tT nn).1)))), (0, .ref (ad 0)), (1, .int (iI ((v : Int))))]) hx hb dL_isReached_5 rfl hl (by decide) rfl (fun ls hl => ?_)
  refine lv_iconst (v := iI 0) hx hb dL_isReached_6 rfl ?_
  refine lv_istore_n (lv' := [(3, .int (iI 0)), (2, .int (iI (((sol v mm tT nn).1)))), (0, .ref (ad 0)), (1, .int (iI ((v : Int))))]) hx hb dL_isReached_7 rfl hl (by decide) rfl (fun ls hl => ?_)
  refine lv_bipush (v := iI 7) hx hb dL_isReached_8 (by decide) ?_
  refine w_new (atype := .int) (t0 := 0) hx hb (hts (.arrayClass .int) (List.mem_of_getElem? (i := 1) rfl)) rfl (fun u hu z hz => by subst hu; exact hz) hK rfl hP hD hS hA 7 (7, .inl (jI n0)) (cell_J 7) (by decide) (Nat.le_of_ble_eq_true rfl) (Nat.le_of_ble_eq_true rfl) (Nat.le_of_ble_eq_true rfl) dL_isReached_10 (fun qt H hP hD hS => ?_)
  have hP : va_P D vwCl (xw ad cI cZ nn mm tT uB2 uE2 tL oO uR2 oQ uS2 uM2 uN2 uJ2 ++ [(qt, .inl (cI, 7, .inl (jI n0)))]) H := hP
  have hD : va_D A (xw ad cI cZ nn mm tT uB2 uE2 tL oO uR2 oQ uS2 uM2 uN2 uJ2 ++ [(qt, .inl (cI, 7, .inl (jI n0)))]) := hD
  refine lv_astore (lv' := [(4, .ref (qt)), (3, .int (iI 0)), (2, .int (iI (((sol v mm tT nn).1)))), (0, .ref (ad 0)), (1, .int (iI ((v : Int))))]) hx hb dL_isReached_12 hl (by decide) rfl (fun ls hl => ?_)
  refine lv_iconst (v := iI 0) hx hb dL_isReached_14 rfl ?_
  refine lv_istore (lv' := [(5, .int (iI 0)), (4, .ref (qt)), (3, .int (iI 0)), (2, .int (iI (((sol v mm tT nn).1)))), (0, .ref (ad 0)), (1, .int (iI ((v : Int))))]) hx hb dL_isReached_15 hl (by decide) rfl (fun ls hl => ?_)
  have L17 : ∀ (fu : Nat) (i : Nat) (wtold17 : Nat → Nat) (wbegins17 : Nat → Int) (wends17 : Nat → Int) (wtrial17 : Nat → Nat) (wleastMakespans17 : Nat → Int) (wleastCounts17 : Nat → Int) (wbestJobs17 : Nat → Nat) (wsolved17 : Nat → Int) (x5_17 : Int) (x3_17 : Int32), (i ≤ nn) → (CK mm tT nn wsolved17 wleastMakespans17 wleastCounts17 wbestJobs17) → (∀ k, k ≤ 2 → 0 ≤ wleastMakespans17 k ∧ wleastMakespans17 k ≤ 1000000) → (wtold17 = ovr (solJ v mm tT nn) n0 i) → (x5_17 = (i : Int)) → (x3_17 = stB (solJ v mm tT nn) i) → nn - i < fu → ∀ (H : Heap) (locs : List Loc), va_P D vwCl (xw ad cI cZ nn mm tT wbegins17 wends17 tL oO wtrial17 oQ wsolved17 wleastMakespans17 wleastCounts17 wbestJobs17 ++ [(qt, .inl (cI, 7, .inl (jI wtold17)))]) H → va_D A (xw ad cI cZ nn mm tT wbegins17 wends17 tL oO wtrial17 oQ wsolved17 wleastMakespans17 wleastCounts17 wbestJobs17 ++ [(qt, .inl (cI, 7, .inl (jI wtold17)))]) → va_S A s.heap H locs → ∀ ls : Array Slot, lv_has ls 6 [(5, .int (iI (x5_17))), (4, .ref (qt)), (3, .int (x3_17)), (2, .int (iI (((sol v mm tT nn).1)))), (0, .ref (ad 0)), (1, .int (iI ((v : Int))))] → W p l e (rmn 6 146 1 7) s m args below meth c H locs 1 7 Q (F0 m 17 ls []) := by
    intro fu
    induction fu with
    | zero =>
      intro i wtold17 wbegins17 wends17 wtrial17 wleastMakespans17 wleastCounts17 wbestJobs17 wsolved17 x5_17 x3_17 hi hCKw hMw hq0 hq1 hq2 hfu
      exact absurd hfu (Nat.not_lt_zero _)
    | succ fu ih =>
      intro i wtold17 wbegins17 wends17 wtrial17 wleastMakespans17 wleastCounts17 wbestJobs17 wsolved17 x5_17 x3_17 hi hCKw hMw hq0 hq1 hq2 hfu H locs hP hD hS ls hl
      subst hq0
      subst hq1
      subst hq2
      have ih17 := ih
      have hCK := hCKw
      have hMb := hMw
      refine lv_iload hx hb dL_isReached_17 (lv_at hl 0 rfl) ?_
      refine lv_aload_n hx hb dL_isReached_19 rfl (lv_at hl 4 rfl) ?_
      refine w_pV (As := []) (rest := [.int (iI ((i : Int)))]) ⟨hx, hb, hml, hown, hts⟩ hK (hP.sub (ws' := xw ad cI cZ nn mm tT wbegins17 wends17 tL oO wtrial17 oQ wsolved17 wleastMakespans17 wleastCounts17 wbestJobs17) [0, 1, 2, 3, 4, 5, 6, 7, 8, 9, 10, 11] rfl) (mX0_jobs  ) (cwV 0 hts gL_isReached_X0_jobs rfl rfl rfl (by decide +kernel) ⟨Nat.le_of_ble_eq_true rfl, Nat.le_of_ble_eq_true rfl⟩) (ci := 0) rfl rfl rfl rfl hl.1 rfl (Nat.le_of_ble_eq_true rfl) dL_isReached_20 ⟨Nat.le_of_ble_eq_true rfl, Nat.le_of_ble_eq_true rfl⟩ (fun r20 hr20 => ?_)
      refine w_top (v := iI ((nn : Int))) (hr20) ?_
      refine w_icmp_ge (tgt := 54) hx hb dL_isReached_23 (by decide) ⟨by omega, by omega⟩ ⟨by omega, by omega⟩ (fun c23 => ?_) (fun c23 => ?_)
      · obtain rfl : nn = i := by omega
        refine lv_iconst (v := iI 0) hx hb dL_isReached_54 rfl ?_
        refine lv_istore (lv' := [(5, .int (iI 0)), (4, .ref (qt)), (3, .int (stB (solJ v mm tT nn) nn)), (2, .int (iI (((sol v mm tT nn).1)))), (0, .ref (ad 0)), (1, .int (iI ((v : Int))))]) hx hb dL_isReached_55 hl (by decide) rfl (fun ls hl => ?_)
        have L57 : ∀ (fu : Nat) (g : Nat) (worder57 : Nat → Nat) (x5_57 : Int), (g ≤ nn) → (IsP nn worder57) → (∀ k, k < g → worder57 k = solJ v mm tT nn k) → (x5_57 = (g : Int)) → nn - g < fu → ∀ (H : Heap) (locs : List Loc), va_P D vwCl (xw ad cI cZ nn mm tT wbegins17 wends17 tL worder57 wtrial17 oQ wsolved17 wleastMakespans17 wleastCounts17 wbestJobs17 ++ [(qt, .inl (cI, 7, .inl (jI (ovr (solJ v mm tT nn) n0 nn))))]) H → va_D A (xw ad cI cZ nn mm tT wbegins17 wends17 tL worder57 wtrial17 oQ wsolved17 wleastMakespans17 wleastCounts17 wbestJobs17 ++ [(qt, .inl (cI, 7, .inl (jI (ovr (solJ v mm tT nn) n0 nn))))]) → va_S A s.heap H locs → ∀ ls : Array Slot, lv_has ls 6 [(5, .int (iI (x5_57))), (4, .ref (qt)), (3, .int (stB (solJ v mm tT nn) nn)), (2, .int (iI (((sol v mm tT nn).1)))), (0, .ref (ad 0)), (1, .int (iI ((v : Int))))] → W p l e (rmn 6 146 1 7) s m args below meth c H locs 1 7 Q (F0 m 57 ls []) := by
          intro fu
          induction fu with
          | zero =>
            intro g worder57 x5_57 hg hJ hK9 hq0 hfu
            exact absurd hfu (Nat.not_lt_zero _)
          | succ fu ih =>
            intro g worder57 x5_57 hg hJ hK9 hq0 hfu H locs hP hD hS ls hl
            subst hq0
            have ih57 := ih
            have hO9 := isP_lt hJ hn
            refine lv_iload hx hb dL_isReached_57 (lv_at hl 0 rfl) ?_
            refine lv_aload_n hx hb dL_isReached_59 rfl (lv_at hl 4 rfl) ?_
            refine w_pV (As := []) (rest := [.int (iI ((g : Int)))]) ⟨hx, hb, hml, hown, hts⟩ hK (hP.sub (ws' := xw ad cI cZ nn mm tT wbegins17 wends17 tL worder57 wtrial17 oQ wsolved17 wleastMakespans17 wleastCounts17 wbestJobs17) [0, 1, 2, 3, 4, 5, 6, 7, 8, 9, 10, 11] rfl) (mX0_jobs  ) (cwV 0 hts gL_isReached_X0_jobs rfl rfl rfl (by decide +kernel) ⟨Nat.le_of_ble_eq_true rfl, Nat.le_of_ble_eq_true rfl⟩) (ci := 0) rfl rfl rfl rfl hl.1 rfl (Nat.le_of_ble_eq_true rfl) dL_isReached_60 ⟨Nat.le_of_ble_eq_true rfl, Nat.le_of_ble_eq_true rfl⟩ (fun r60 hr60 => ?_)
            refine w_top (v := iI ((nn : Int))) (hr60) ?_
            refine w_icmp_ge (tgt := 84) hx hb dL_isReached_63 (by decide) ⟨by omega, by omega⟩ ⟨by omega, by omega⟩ (fun c63 => ?_) (fun c63 => ?_)
            · obtain rfl : nn = g := by omega
              have hmk : mk v mm tT worder57 nn = (sol v mm tT nn).1 := (mk_cg hK9).trans hs9.2
              have r0 := mk_rg (v := v) (o := worder57) hm.1 hm.2 hT hn
              refine lv_iload_n hx hb dL_isReached_84 rfl (lv_at hl 2 rfl) ?_
              refine lv_iconst (v := iI 1) hx hb dL_isReached_85 rfl ?_
              refine lv_aload_n hx hb dL_isReached_86 rfl (lv_at hl 4 rfl) ?_
              refine w_pV (As := []) (rest := [.int (iI 1), .int (stB (solJ v mm tT nn) nn)]) ⟨hx, hb, hml, hown, hts⟩ hK (hP.sub (ws' := xw ad cI cZ nn mm tT wbegins17 wends17 tL worder57 wtrial17 oQ wsolved17 wleastMakespans17 wleastCounts17 wbestJobs17) [0, 1, 2, 3, 4, 5, 6, 7, 8, 9, 10, 11] rfl) (mX0_jobs  ) (cwV 0 hts gL_isReached_X0_jobs rfl rfl rfl (by decide +kernel) ⟨Nat.le_of_ble_eq_true rfl, Nat.le_of_ble_eq_true rfl⟩) (ci := 0) rfl rfl rfl rfl hl.1 rfl (Nat.le_of_ble_eq_true rfl) dL_isReached_87 ⟨Nat.le_of_ble_eq_true rfl, Nat.le_of_ble_eq_true rfl⟩ (fun r87 hr87 => ?_)
              refine w_top (v := iI ((nn : Int))) (hr87) ?_
              refine lv_ishl hx hb dL_isReached_90 ?_
              refine lv_iconst (v := iI 1) hx hb dL_isReached_91 rfl ?_
              refine lv_isub hx hb dL_isReached_92 ?_
              refine lv_icmp_ne (tgt := 117) hx hb dL_isReached_93 (by decide) (fun c93 => absurd (stB_full hn6) c93) (fun c93 => ?_)
              refine lv_aload_n hx hb dL_isReached_96 rfl (lv_at hl 4 rfl) ?_
              refine lv_iload_n hx hb dL_isReached_97 rfl (lv_at hl 5 rfl) ?_
              refine w_iV (As := [.int (iI ((v : Int)))]) (rest := []) (wf := fun u : (Nat → Int) × (Nat → Int) => xw ad cI cZ nn mm tT u.1 u.2 tL worder57 wtrial17 oQ wsolved17 wleastMakespans17 wleastCounts17 wbestJobs17 ++ [(qt, .inl (cI, 7, .inl (jI (ovr (solJ v mm tT nn) n0 nn))))]) (wr := [(qt, .inl (cI, 7, .inl (jI (ovr (solJ v mm tT nn) n0 nn))))]) ⟨hx, hb, hml, hown, hts⟩ hK hP hD hS hA (mX0_makespan (v := v) hT hn hm hv hO9) (cwV 1 hts gL_isReached_X0_makespan rfl rfl rfl (by decide +kernel) ⟨Nat.le_of_ble_eq_true rfl, Nat.le_of_ble_eq_true rfl⟩) [0, 1, 2, 3, 4, 5, 6, 7, 8, 9, 10, 11] [12] [1, 2, 3, 4, 5, 6, 7, 8, 9, 10, 11, 12, 0] rfl rfl (by decide) (by decide) (by decide) (hwf := fun _ => rfl) (by decide) (ci := 0) rfl rfl rfl rfl hl.1 rfl (Nat.le_of_ble_eq_true rfl) dL_isReached_98 ⟨Nat.le_of_ble_eq_true rfl, Nat.le_of_ble_eq_true rfl⟩ (fun r98 u H locs hr98 hP hD hS => ?_)
              obtain ⟨uB98, uE98⟩ := u
              have hP : va_P D vwCl (xw ad cI cZ nn mm tT uB98 uE98 tL worder57 wtrial17 oQ wsolved17 wleastMakespans17 wleastCounts17 wbestJobs17 ++ [(qt, .inl (cI, 7, .inl (jI (ovr (solJ v mm tT nn) n0 nn))))]) H := hP
              have hD : va_D A (xw ad cI cZ nn mm tT uB98 uE98 tL worder57 wtrial17 oQ wsolved17 wleastMakespans17 wleastCounts17 wbestJobs17 ++ [(qt, .inl (cI, 7, .inl (jI (ovr (solJ v mm tT nn) n0 nn))))]) := hD
              refine w_top (v := iI ((mk v mm tT (worder57) nn))) (hr98) ?_
              refine lv_iload_n hx hb dL_isReached_101 rfl (lv_at hl 3 rfl) ?_
              refine w_icmp_ne (tgt := 117) hx hb dL_isReached_102 (by decide) ⟨by omega, by omega⟩ ⟨by omega, by omega⟩ (fun c102 => absurd c102 (by omega)) (fun c102 => ?_)
              refine lv_aload_n hx hb dL_isReached_105 rfl (lv_at hl 4 rfl) ?_
              refine lv_iload_n hx hb dL_isReached_106 rfl (lv_at hl 5 rfl) ?_
              refine w_iV (As := [.int (iI ((v : Int)))]) (rest := []) (wf := fun u : (Nat → Int) × (Nat → Int) × (Nat → Nat) × (Nat → Int) × (Nat → Int) × (Nat → Nat) × (Nat → Int) => xw ad cI cZ nn mm tT u.1 u.2.1 tL worder57 u.2.2.1 oQ u.2.2.2.2.2.2 u.2.2.2.1 u.2.2.2.2.1 u.2.2.2.2.2.1 ++ [(qt, .inl (cI, 7, .inl (jI (ovr (solJ v mm tT nn) n0 nn))))]) (wr := [(qt, .inl (cI, 7, .inl (jI (ovr (solJ v mm tT nn) n0 nn))))]) ⟨hx, hb, hml, hown, hts⟩ hK hP hD hS hA (mX0_bestOrders (v := v) hT hn hm hv hE hCK hMb) (cwV 1 hts gL_isReached_X0_bestOrders rfl rfl rfl (by decide +kernel) ⟨Nat.le_of_ble_eq_true rfl, Nat.le_of_ble_eq_true rfl⟩) [0, 1, 2, 3, 4, 5, 6, 7, 8, 9, 10, 11] [12] [1, 2, 3, 4, 5, 6, 7, 8, 9, 10, 11, 12, 0] rfl rfl (by decide) (by decide) (by decide) (hwf := fun _ => rfl) (by decide) (ci := 0) rfl rfl rfl rfl hl.1 rfl (Nat.le_of_ble_eq_true rfl) dL_isReached_107 ⟨Nat.le_of_ble_eq_true rfl, Nat.le_of_ble_eq_true rfl⟩ (fun r107 u H locs hr107 hP hD hS => ?_)
              obtain ⟨uB107, uE107, uR107, uM107, uN107, uJ107, uS107⟩ := u
              obtain ⟨hq107, hCK, hMb⟩ := hr107
              have hP : va_P D vwCl (xw ad cI cZ nn mm tT uB107 uE107 tL worder57 uR107 oQ uS107 uM107 uN107 uJ107 ++ [(qt, .inl (cI, 7, .inl (jI (ovr (solJ v mm tT nn) n0 nn))))]) H := hP
              have hD : va_D A (xw ad cI cZ nn mm tT uB107 uE107 tL worder57 uR107 oQ uS107 uM107 uN107 uJ107 ++ [(qt, .inl (cI, 7, .inl (jI (ovr (solJ v mm tT nn) n0 nn))))]) := hD
              refine w_top (v := iI ((((sol v mm tT nn).2.1 : Int)))) (hq107) ?_
              refine w_if_le (tgt := 117) hx hb dL_isReached_110 (by decide) ⟨by omega, by omega⟩ (fun c110 => absurd c110 (by omega)) (fun c110 => ?_)
              refine lv_iconst (v := iI 1) hx hb dL_isReached_113 rfl ?_
              refine lv_goto (tgt := 118) hx hb dL_isReached_114 (by decide) ?_
              refine lv_istore (lv' := [(5, .int (iI 1)), (4, .ref (qt)), (3, .int (stB (solJ v mm tT nn) nn)), (2, .int (iI (((sol v mm tT nn).1)))), (0, .ref (ad 0)), (1, .int (iI ((v : Int))))]) hx hb dL_isReached_118 hl (by decide) rfl (fun ls hl => ?_)
              refine lv_iload hx hb dL_isReached_120 (lv_at hl 0 rfl) ?_
              refine w_if_eq (tgt := 149) hx hb dL_isReached_122 (by decide) ⟨by omega, by omega⟩ (fun c122 => absurd c122 (by omega)) (fun c122 => ?_)
              refine lv_iload_n hx hb dL_isReached_125 rfl (lv_at hl 5 rfl) ?_
              refine w_if_gt (tgt := 145) hx hb dL_isReached_126 (by decide) ⟨by omega, by omega⟩ (fun c126 => ?_) (fun c126 => ?_)
              · refine lv_iconst (v := iI 1) hx hb dL_isReached_145 rfl ?_
                refine lv_goto (tgt := 150) hx hb dL_isReached_146 (by decide) ?_
                have hP : va_P D vwCl (xw ad cI cZ nn mm tT uB107 uE107 tL worder57 uR107 oQ uS107 uM107 uN107 uJ107) H := hP.sub (ws' := xw ad cI cZ nn mm tT uB107 uE107 tL worder57 uR107 oQ uS107 uM107 uN107 uJ107) [0, 1, 2, 3, 4, 5, 6, 7, 8, 9, 10, 11] rfl
                have hD : va_D A (xw ad cI cZ nn mm tT uB107 uE107 tL worder57 uR107 oQ uS107 uM107 uN107 uJ107) := hD.sub (ws' := xw ad cI cZ nn mm tT uB107 uE107 tL worder57 uR107 oQ uS107 uM107 uN107 uJ107) [0, 1, 2, 3, 4, 5, 6, 7, 8, 9, 10, 11] (by decide) rfl
                exact hret _ _ 150 ls _ ((worder57, uR107, oQ, uB107, uE107, uM107, uN107, uJ107, uS107)) rfl hP hD hS (⟨rfl, hJ, hCK, hMb⟩) dL_isReached_150
              · obtain rfl : v = 0 := by omega
                refine lv_aload_n hx hb dL_isReached_129 rfl (lv_at hl 4 rfl) ?_
                refine w_iVd (As := []) (rest := []) (wf := fun u : (Nat → Int) × (Nat → Int) × (Nat → Nat) × (Nat → Int) × (Nat → Int) × (Nat → Nat) × (Nat → Int) => xw ad cI cZ nn mm tT u.1 u.2.1 tL worder57 u.2.2.1 oQ u.2.2.2.2.2.2 u.2.2.2.1 u.2.2.2.2.1 u.2.2.2.2.2.1 ++ [(qt, .inl (cI, 7, .inl (jI (ovr (solJ 0 mm tT nn) n0 nn))))]) (wr := [(qt, .inl (cI, 7, .inl (jI (ovr (solJ 0 mm tT nn) n0 nn))))]) ⟨hx, hb, hml, hown, hts⟩ hK hP hD hS hA (mX0_gap  hT hn hm hO9 hE hCK hMb) (cwV 0 hts gL_isReached_X0_gap rfl rfl rfl (by decide +kernel) ⟨Nat.le_of_ble_eq_true rfl, Nat.le_of_ble_eq_true rfl⟩) [0, 1, 2, 3, 4, 5, 6, 7, 8, 9, 10, 11] [12] [1, 2, 3, 4, 5, 6, 7, 8, 9, 10, 11, 12, 0] rfl rfl (by decide) (by decide) (by decide) (hwf := fun _ => rfl) (by decide) (ci := 0) rfl rfl rfl rfl hl.1 rfl (Nat.le_of_ble_eq_true rfl) dL_isReached_130 ⟨Nat.le_of_ble_eq_true rfl, Nat.le_of_ble_eq_true rfl⟩ (fun r130 u H locs hr130 hP hD hS => ?_)
                obtain ⟨uB130, uE130, uR130, uM130, uN130, uJ130, uS130⟩ := u
                obtain ⟨hq130, hCK, hMb⟩ := hr130
                have hP : va_P D vwCl (xw ad cI cZ nn mm tT uB130 uE130 tL worder57 uR130 oQ uS130 uM130 uN130 uJ130 ++ [(qt, .inl (cI, 7, .inl (jI (ovr (solJ 0 mm tT nn) n0 nn))))]) H := hP
                have hD : va_D A (xw ad cI cZ nn mm tT uB130 uE130 tL worder57 uR130 oQ uS130 uM130 uN130 uJ130 ++ [(qt, .inl (cI, 7, .inl (jI (ovr (solJ 0 mm tT nn) n0 nn))))]) := hD
                refine lv_dconst0 hx hb dL_isReached_133 ?_
                refine lv_dcmp hx hb dL_isReached_134 ?_
                refine w_top (v := iI 0) (by rw [hq130, hmk]; exact (gap_0 hs8.1).trans i0_0.symm) ?_
                refine w_if_ne (tgt := 149) hx hb dL_isReached_135 (by decide) ⟨by omega, by omega⟩ (fun c135 => absurd c135 (by omega)) (fun c135 => ?_)
                refine lv_aload_n hx hb dL_isReached_138 rfl (lv_at hl 4 rfl) ?_
                refine w_iV (As := []) (rest := []) (wf := fun u : (Nat → Nat) × (Nat → Int) × (Nat → Int) => xw ad cI cZ nn mm tT u.2.1 u.2.2 tL (impO tT mm nn worder57) u.1 oQ uS130 uM130 uN130 uJ130 ++ [(qt, .inl (cI, 7, .inl (jI (ovr (solJ 0 mm tT nn) n0 nn))))]) (wr := [(qt, .inl (cI, 7, .inl (jI (ovr (solJ 0 mm tT nn) n0 nn))))]) ⟨hx, hb, hml, hown, hts⟩ hK hP hD hS hA (mX0_improve  hT hn hm hO9) (cwV 0 hts gL_isReached_X0_improve rfl rfl rfl (by decide +kernel) ⟨Nat.le_of_ble_eq_true rfl, Nat.le_of_ble_eq_true rfl⟩) [0, 1, 2, 3, 4, 5, 6, 7, 8, 9, 10, 11] [12] [1, 2, 3, 4, 5, 6, 7, 8, 9, 10, 11, 12, 0] rfl rfl (by decide) (by decide) (by decide) (hwf := fun _ => rfl) (by decide) (ci := 0) rfl rfl rfl rfl hl.1 rfl (Nat.le_of_ble_eq_true rfl) dL_isReached_139 ⟨Nat.le_of_ble_eq_true rfl, Nat.le_of_ble_eq_true rfl⟩ (fun r139 u H locs hr139 hP hD hS => ?_)
                obtain ⟨uR139, uB139, uE139⟩ := u
                have hib := imp_best hT hn hm hJ hmk
                have hP : va_P D vwCl (xw ad cI cZ nn mm tT uB139 uE139 tL (impO tT mm nn worder57) uR139 oQ uS130 uM130 uN130 uJ130 ++ [(qt, .inl (cI, 7, .inl (jI (ovr (solJ 0 mm tT nn) n0 nn))))]) H := hP
                have hD : va_D A (xw ad cI cZ nn mm tT uB139 uE139 tL (impO tT mm nn worder57) uR139 oQ uS130 uM130 uN130 uJ130 ++ [(qt, .inl (cI, 7, .inl (jI (ovr (solJ 0 mm tT nn) n0 nn))))]) := hD
                refine w_top (v := iI ((mk 0 mm tT worder57 nn - (imS tT mm worder57 nn nn).1))) (hr139) ?_
                refine w_if_ne (tgt := 149) hx hb dL_isReached_142 (by decide) ⟨by omega, by omega⟩ (fun c142 => absurd c142 (by omega)) (fun c142 => ?_)
                refine lv_iconst (v := iI 1) hx hb dL_isReached_145 rfl ?_
                refine lv_goto (tgt := 150) hx hb dL_isReached_146 (by decide) ?_
                have hP : va_P D vwCl (xw ad cI cZ nn mm tT uB139 uE139 tL (impO tT mm nn worder57) uR139 oQ uS130 uM130 uN130 uJ130) H := hP.sub (ws' := xw ad cI cZ nn mm tT uB139 uE139 tL (impO tT mm nn worder57) uR139 oQ uS130 uM130 uN130 uJ130) [0, 1, 2, 3, 4, 5, 6, 7, 8, 9, 10, 11] rfl
                have hD : va_D A (xw ad cI cZ nn mm tT uB139 uE139 tL (impO tT mm nn worder57) uR139 oQ uS130 uM130 uN130 uJ130) := hD.sub (ws' := xw ad cI cZ nn mm tT uB139 uE139 tL (impO tT mm nn worder57) uR139 oQ uS130 uM130 uN130 uJ130) [0, 1, 2, 3, 4, 5, 6, 7, 8, 9, 10, 11] (by decide) rfl
                exact hret _ _ 150 ls _ ((impO tT mm nn worder57, uR139, oQ, uB139, uE139, uM130, uN130, uJ130, uS130)) rfl hP hD hS (⟨rfl, (imp_P hT hn hm hJ), hCK, hMb⟩) dL_isReached_150
            · have s6 := hs7 g (by omega)
              obtain ⟨q9, hq9, e9⟩ := isP_surj nn worder57 hJ (solJ v mm tT nn g) s6
              have hw9 : ∀ k, k < q9 → worder57 k ≠ solJ v mm tT nn g := fun k hk e => by
                have := hJ.2 k q9 (by omega) hq9 (e.trans e9.symm)
                omega
              refine lv_aload_n hx hb dL_isReached_66 rfl (lv_at hl 4 rfl) ?_
              refine lv_aload hx hb dL_isReached_67 (lv_at hl 1 rfl) ?_
              refine lv_iload hx hb dL_isReached_69 (lv_at hl 0 rfl) ?_
              refine w_iald (v := iI ((solJ v mm tT nn g : Nat) : Int)) hx hb hK hP 12 0 rfl rfl (g) (by omega) (by omega) (by decide) (congrArg (fun q : Nat => iI (q : Int)) (ovr_in (by omega))) dL_isReached_71 ?_
              refine lv_iload hx hb dL_isReached_72 (lv_at hl 0 rfl) ?_
              refine w_iV (As := [.int (iI ((((solJ v mm tT nn g) : Nat) : Int))), .int (iI ((g : Int)))]) (rest := []) (wf := fun u : Unit => xw ad cI cZ nn mm tT wbegins17 wends17 tL (shf worder57 q9 g) wtrial17 oQ wsolved17 wleastMakespans17 wleastCounts17 wbestJobs17 ++ [(qt, .inl (cI, 7, .inl (jI (ovr (solJ v mm tT nn) n0 nn))))]) (wr := [(qt, .inl (cI, 7, .inl (jI (ovr (solJ v mm tT nn) n0 nn))))]) ⟨hx, hb, hml, hown, hts⟩ hK hP hD hS hA (mX0_move (j := solJ v mm tT nn g) (b := g) (q := q9) hn hm hO9 s6 hq9 e9.symm hw9 (by omega)) (cwV 2 hts gL_isReached_X0_move rfl rfl rfl (by decide +kernel) ⟨Nat.le_of_ble_eq_true rfl, Nat.le_of_ble_eq_true rfl⟩) [0, 1, 2, 3, 4, 5, 6, 7, 8, 9, 10, 11] [12] [1, 2, 3, 4, 5, 6, 7, 8, 9, 10, 11, 12, 0] rfl rfl (by decide) (by decide) (by decide) (hwf := fun _ => rfl) (by decide) (ci := 0) rfl rfl rfl rfl hl.1 (by rw [show ((((solJ v mm tT nn g : Nat) : Int)) : Int) = (((solJ v mm tT nn g) : Nat) : Int) by omega]; try rfl) (Nat.le_of_ble_eq_true rfl) dL_isReached_74 ⟨Nat.le_of_ble_eq_true rfl, Nat.le_of_ble_eq_true rfl⟩ (fun r74 u H locs hr74 hP hD hS => ?_)
              refine w_top (v := iI ((q9 : Int))) (hr74) ?_
              refine lv_pop hx hb dL_isReached_77 rfl ?_
              refine lv_iinc (v := iI ((g : Int) + 1)) (lv' := [(5, .int (iI ((g : Int) + 1))), (4, .ref (qt)), (3, .int (stB (solJ v mm tT nn) nn)), (2, .int (iI (((sol v mm tT nn).1)))), (0, .ref (ad 0)), (1, .int (iI ((v : Int))))]) hx hb dL_isReached_78 hl (k := 0) rfl (iI_inc (by omega)) (by decide) rfl (fun ls hl => ?_)
              refine lv_goto (tgt := 57) hx hb dL_isReached_81 (by decide) ?_
              exact ih57 (g + 1) (shf worder57 q9 g) ((g : Int) + 1) (by omega) (isP_shf hq9 (by omega) hJ) (mv_K hs9.1 (by omega) hq9 e9 hK9) (by omega) (by omega) _ _ hP hD hS ls (lv_sub hl [0, 1, 2, 3, 4, 5] rfl)
        exact L57 (nn - 0 + 1) 0 oO (0) (by omega) (hI) (fun k hk => absurd hk (Nat.not_lt_zero _)) (by omega) (Nat.lt_succ_self _) _ _ hP hD hS ls (lv_sub hl [0, 1, 2, 3, 4, 5] rfl)
      · have s6 := hs7 i (by omega)
        refine lv_aload hx hb dL_isReached_26 (lv_at hl 1 rfl) ?_
        refine lv_iload hx hb dL_isReached_28 (lv_at hl 0 rfl) ?_
        refine lv_aload_n hx hb dL_isReached_30 rfl (lv_at hl 4 rfl) ?_
        refine lv_iload_n hx hb dL_isReached_31 rfl (lv_at hl 5 rfl) ?_
        refine lv_iload hx hb dL_isReached_32 (lv_at hl 0 rfl) ?_
        refine w_iV (As := [.int (iI ((v : Int))), .int (iI ((i : Int)))]) (rest := [.int (iI ((i : Int))), .ref (qt)]) (wf := fun u : (Nat → Int) × (Nat → Int) × (Nat → Nat) × (Nat → Int) × (Nat → Int) × (Nat → Nat) × (Nat → Int) => xw ad cI cZ nn mm tT u.1 u.2.1 tL oO u.2.2.1 oQ u.2.2.2.2.2.2 u.2.2.2.1 u.2.2.2.2.1 u.2.2.2.2.2.1 ++ [(qt, .inl (cI, 7, .inl (jI (ovr (solJ v mm tT nn) n0 i))))]) (wr := [(qt, .inl (cI, 7, .inl (jI (ovr (solJ v mm tT nn) n0 i))))]) ⟨hx, hb, hml, hown, hts⟩ hK hP hD hS hA (mX0_bestAt (v := v) (q := i) hT hn hm hv (by omega) hE hCK hMb) (cwV 2 hts gL_isReached_X0_bestAt rfl rfl rfl (by decide +kernel) ⟨Nat.le_of_ble_eq_true rfl, Nat.le_of_ble_eq_true rfl⟩) [0, 1, 2, 3, 4, 5, 6, 7, 8, 9, 10, 11] [12] [1, 2, 3, 4, 5, 6, 7, 8, 9, 10, 11, 12, 0] rfl rfl (by decide) (by decide) (by decide) (hwf := fun _ => rfl) (by decide) (ci := 0) rfl rfl rfl rfl hl.1 rfl (Nat.le_of_ble_eq_true rfl) dL_isReached_34 ⟨Nat.le_of_ble_eq_true rfl, Nat.le_of_ble_eq_true rfl⟩ (fun r34 u H locs hr34 hP hD hS => ?_)
        obtain ⟨uB34, uE34, uR34, uM34, uN34, uJ34, uS34⟩ := u
        obtain ⟨hq34, hCK, hMb⟩ := hr34
        have hP : va_P D vwCl (xw ad cI cZ nn mm tT uB34 uE34 tL oO uR34 oQ uS34 uM34 uN34 uJ34 ++ [(qt, .inl (cI, 7, .inl (jI (ovr (solJ v mm tT nn) n0 i))))]) H := hP
        have hD : va_D A (xw ad cI cZ nn mm tT uB34 uE34 tL oO uR34 oQ uS34 uM34 uN34 uJ34 ++ [(qt, .inl (cI, 7, .inl (jI (ovr (solJ v mm tT nn) n0 i))))]) := hD
        refine w_top (v := iI (((solJ v mm tT nn i : Nat) : Int))) (hq34) ?_
        refine w_iast (g := jI (ovr (solJ v mm tT nn) n0 (i + 1))) (ws' := xw ad cI cZ nn mm tT uB34 uE34 tL oO uR34 oQ uS34 uM34 uN34 uJ34 ++ [(qt, .inl (cI, 7, .inl (jI (ovr (solJ v mm tT nn) n0 (i + 1)))))]) hx hb hK hP hD hS 12 0 rfl rfl (i) (by omega) (by omega) (by decide) (hg := (jI_up.trans (congrArg jI ovr_s))) (hw := rfl) (hd := dL_isReached_37) (kk := fun H locs hP hD hS => ?_)
        refine lv_iload_n hx hb dL_isReached_38 rfl (lv_at hl 2 rfl) ?_
        refine lv_iconst (v := iI 1) hx hb dL_isReached_39 rfl ?_
        refine lv_aload hx hb dL_isReached_40 (lv_at hl 1 rfl) ?_
        refine lv_iload hx hb dL_isReached_42 (lv_at hl 0 rfl) ?_
        refine w_iald (v := iI ((solJ v mm tT nn i : Nat) : Int)) hx hb hK hP 12 0 rfl rfl (i) (by omega) (by omega) (by decide) (congrArg (fun q : Nat => iI (q : Int)) (ovr_in (Nat.lt_succ_self i))) dL_isReached_44 ?_
        refine lv_ishl hx hb dL_isReached_45 ?_
        refine lv_ior hx hb dL_isReached_46 ?_
        refine w_top (v := stB (solJ v mm tT nn) (i + 1)) (rfl) ?_
        refine lv_istore_n (lv' := [(3, .int (stB (solJ v mm tT nn) (i + 1))), (5, .int (iI ((i : Int)))), (4, .ref (qt)), (2, .int (iI (((sol v mm tT nn).1)))), (0, .ref (ad 0)), (1, .int (iI ((v : Int))))]) hx hb dL_isReached_47 rfl hl (by decide) rfl (fun ls hl => ?_)
        refine lv_iinc (v := iI ((i : Int) + 1)) (lv' := [(5, .int (iI ((i : Int) + 1))), (3, .int (stB (solJ v mm tT nn) (i + 1))), (4, .ref (qt)), (2, .int (iI (((sol v mm tT nn).1)))), (0, .ref (ad 0)), (1, .int (iI ((v : Int))))]) hx hb dL_isReached_48 hl (k := 1) rfl (iI_inc (by omega)) (by decide) rfl (fun ls hl => ?_)
        refine lv_goto (tgt := 17) hx hb dL_isReached_51 (by decide) ?_
        exact ih17 (i + 1) (ovr (solJ v mm tT nn) n0 (i + 1)) uB34 uE34 uR34 uM34 uN34 uJ34 uS34 ((i : Int) + 1) (stB (solJ v mm tT nn) (i + 1)) (by omega) (hCK) (hMb) (rfl) (by omega) (rfl) (by omega) _ _ hP hD hS ls (lv_sub hl [0, 2, 1, 3, 4, 5] rfl)
  exact L17 (nn - 0 + 1) 0 n0 uB2 uE2 uR2 uM2 uN2 uJ2 uS2 (0) (iI 0) (by omega) (hCK) (hMb) ((ovr_0 _ _).symm) (by omega) (rfl) (Nat.lt_succ_self _) _ _ hP hD hS ls (lv_sub hl [0, 1, 2, 3, 4, 5] rfl)
end
