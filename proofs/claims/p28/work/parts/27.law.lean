/-! the law's turns -/
def L0 (p : Program) (s : State) (m : MethodId) (args : Array Value) (c : Code) (A : Nat → Prop) (b L : Nat) (xs : Nat → Int32) (D : va_G) (cI cZ cJ : ClassId) : Prop :=
  p.tables.exec = Jvm.exec ∧ c.code = cL_law ∧ c.maxLocals = 9 ∧ s.vm.findClass RL = some m.cls ∧ (∀ w ∈ wsL_law, w.before args s = true) ∧ va_K D vwCl (tyk cI cZ cJ) s ∧ (∀ q : Nat, s.heap.size ≤ q → A q) ∧ va_X b L xs s s.heap ∧ b < s.heap.size ∧ ¬ A b ∧ L ≤ 260
section
variable {p : Program} {l : Launch} {e : Env} {s : State} {m : MethodId} {args : Array Value} {below : List Frame} {meth : Method} {c : Code} {Q : State → Prop} {A : Nat → Prop} {bS L : Nat} {xs : Nat → Int32} {D : va_G} {cI cZ cJ : ClassId} {ad : Nat → Nat}
set_option maxHeartbeats 4000000 in
set_option maxRecDepth 100000 in
theorem law_loop (B : L0 p s m args c A bS L xs D cI cZ cJ)
    (hret : ∀ (H : Heap) (locs : List Loc) (cells slots : Nat) (ls : Array Slot), cells ≤ 17 → slots ≤ 239 → va_S A s.heap H locs → W p l e room_1 s m args below meth c H locs cells slots Q (F0 m 235 ls [.int (iI 1)])) :
    ∀ (fu tau : Nat) (nn mm : Nat) (tT tB tE tL : Nat → Int) (oO oR oQ : Nat → Nat) (zS zM zN : Nat → Int) (oJ : Nat → Nat) (H : Heap) (locs : List Loc) (cells slots : Nat) (ls : Array Slot), 5 < tau + fu → tau ≤ 5 → cells ≤ 12 + tau → slots ≤ 204 + 7 * tau → LV nn mm tT oO zS zM zN oJ → va_P D vwCl (xw ad cI cZ nn mm tT tB tE tL oO oR oQ zS zM zN oJ) H → va_D A (xw ad cI cZ nn mm tT tB tE tL oO oR oQ zS zM zN oJ) → va_S A s.heap H locs → lv_has ls 9 [(2, .int (iI ((tau : Nat) : Int))), (1, .ref (ad 0)), (0, .ref bS)] → W p l e room_1 s m args below meth c H locs cells slots Q (F0 m 10 ls []) := by
  obtain ⟨hx, hb, hml, hown, hts, hK, hA, hX, hbl, hbA, hL⟩ := id B
  intro fu
  induction fu with
  | zero =>
    intro tau nn mm tT tB tE tL oO oR oQ zS zM zN oJ H locs cells slots ls h1 h2
    exact absurd h1 (by omega)
  | succ fu ih =>
    intro tau nn mm tT tB tE tL oO oR oQ zS zM zN oJ H locs cells slots ls hfu htau hc9 hs9 I hP hD hS hl
    obtain ⟨hn6, hm, hT, hI, hCK, hMb⟩ := I
    have hn : nn ≤ 7 := by omega
    have hcs : cells ≤ 600130 := by omega
    have hss : slots ≤ 7301080 := by omega
    have hcs1 : cells + 1 ≤ 600130 := by omega
    have hss7 : slots + 7 ≤ 7301080 := by omega
    have ihT := ih
    refine lv_iload_n hx hb dL_law_10 rfl (lv_at hl 0 rfl) ?_
    refine lv_iconst (v := iI 5) hx hb dL_law_11 rfl ?_
    refine w_icmp_ge (tgt := 234) hx hb dL_law_12 (by decide) ⟨by omega, by omega⟩ ⟨by omega, by omega⟩ (fun c12 => ?_) (fun c12 => ?_)
    · refine lv_iconst (v := iI 1) hx hb dL_law_234 rfl ?_
      exact hret _ _ _ _ ls (by omega) (by omega) hS
    · refine lv_aload_n hx hb dL_law_15 rfl (lv_at hl 2 rfl) ?_
      refine lv_bipush (v := iI 8) hx hb dL_law_16 (by decide) ?_
      refine lv_iload_n hx hb dL_law_18 rfl (lv_at hl 0 rfl) ?_
      refine w_imul (z := 8 * (tau : Int)) hx hb dL_law_19 (by omega) ?_
      refine w_xS (As := [.ref bS, .int (iI (((8 * tau : Nat) : Int)))]) (rest := []) ⟨hx, hb, hml, hown, hts⟩ (hX.kept (hS.2.1 bS hbl hbA)) (hL_cell (k := 8 * tau) (by omega) hL) (va_cwS 2 hts gL_law_L_cell rfl rfl rfl (by decide +kernel) ⟨Nat.le_of_ble_eq_true rfl, Nat.le_of_ble_eq_true rfl⟩) rfl hl.1 (by rw [show ((8 * (tau : Int)) : Int) = ((8 * tau : Nat) : Int) by omega]; try rfl) (Nat.le_of_ble_eq_true rfl) dL_law_20 ⟨hcs, hss⟩ (fun x20 _ => ?_)
      refine lv_istore_n (lv' := [(3, .int (x20)), (2, .int (iI ((tau : Int)))), (1, .ref (ad 0)), (0, .ref (bS))]) hx hb dL_law_23 rfl hl (by decide) rfl (fun ls hl => ?_)
      refine lv_iload_n hx hb dL_law_24 rfl (lv_at hl 0 rfl) ?_
      refine lv_iconst (v := iI 3) hx hb dL_law_25 rfl ?_
      refine w_pS (As := [.int (x20), .int (iI (3))]) (rest := []) ⟨hx, hb, hml, hown, hts⟩ hK hP (hL_low (x := x20) (n := 3) (by omega) (by omega)) (va_cwS 2 hts gL_law_L_low rfl rfl rfl (by decide +kernel) ⟨Nat.le_of_ble_eq_true rfl, Nat.le_of_ble_eq_true rfl⟩) rfl hl.1 rfl (Nat.le_of_ble_eq_true rfl) dL_law_26 ⟨hcs, hss⟩ (fun r26 hr26 => ?_)
      obtain ⟨k26, hk26, hr26⟩ := hr26
      refine w_top (v := iI (k26 : Int)) hr26 ?_
      have J45 : ∀ (w45 : Nat), (1 ≤ w45 ∧ w45 ≤ 5) → ∀ (H : Heap) (locs : List Loc), va_P D vwCl (xw ad cI cZ nn mm tT tB tE tL oO oR oQ zS zM zN oJ) H → va_D A (xw ad cI cZ nn mm tT tB tE tL oO oR oQ zS zM zN oJ) → va_S A s.heap H locs → ∀ ls : Array Slot, lv_has ls 9 [(3, .int (x20)), (2, .int (iI ((tau : Int)))), (1, .ref (ad 0)), (0, .ref (bS))] → W p l e room_1 s m args below meth c H locs cells slots Q (F0 m 45 ls [.int (iI ((w45 : Int)))]) := by
        intro w45 hw45 H locs hP hD hS ls hl
        refine lv_istore (lv' := [(4, .int (iI ((w45 : Int)))), (3, .int (x20)), (2, .int (iI ((tau : Int)))), (1, .ref (ad 0)), (0, .ref (bS))]) hx hb dL_law_45 hl (by decide) rfl (fun ls hl => ?_)
        refine lv_aload_n hx hb dL_law_47 rfl (lv_at hl 3 rfl) ?_
        refine lv_iload hx hb dL_law_48 (lv_at hl 0 rfl) ?_
        refine w_iV (As := [.int (iI ((w45 : Int)))]) (rest := []) (wf := fun u : Unit => xw ad cI cZ nn w45 (tzr tT w45 nn 0) tB tE tL oO oR oQ (zfl zS 3) zM zN oJ) (wr := []) ⟨hx, hb, hml, hown, hts⟩ hK hP hD hS hA (mX0_setMachines  (w := w45) hn hm hw45) (cwV 1 hts gL_law_X0_setMachines rfl rfl rfl (by decide +kernel) ⟨Nat.le_of_ble_eq_true rfl, Nat.le_of_ble_eq_true rfl⟩) [0, 1, 2, 3, 4, 5, 6, 7, 8, 9, 10, 11] [] [0, 1, 2, 3, 4, 5, 6, 7, 8, 9, 10, 11] rfl rfl (by decide) (by decide) (by decide) (hwf := fun _ => rfl) (by decide) (ci := 0) rfl rfl rfl rfl hl.1 rfl (Nat.le_of_ble_eq_true rfl) dL_law_50 ⟨hcs, hss⟩ (fun r50 u H locs hr50 hP hD hS => ?_)
        have hm : 1 ≤ w45 ∧ w45 ≤ 5 := hw45
        have hT : ∀ k, 0 ≤ tzr tT w45 nn 0 k ∧ tzr tT w45 nn 0 k ≤ 99 := tz_rg hT
        refine w_top (v := iI ((mm : Int))) (hr50) ?_
        refine lv_pop hx hb dL_law_53 rfl ?_
        refine lv_iconst (v := iI 1) hx hb dL_law_54 rfl ?_
        refine lv_iload_n hx hb dL_law_55 rfl (lv_at hl 1 rfl) ?_
        refine lv_iconst (v := iI 5) hx hb dL_law_56 rfl ?_
        refine lv_ishr hx hb dL_law_57 ?_
        refine w_gen (fun x57 => ?_)
        refine lv_iconst (v := iI 2) hx hb dL_law_58 rfl ?_
        refine w_pS (As := [.int (x57), .int (iI (2))]) (rest := [.int (iI 1)]) ⟨hx, hb, hml, hown, hts⟩ hK hP (hL_low (x := x57) (n := 2) (by omega) (by omega)) (va_cwS 2 hts gL_law_L_low rfl rfl rfl (by decide +kernel) ⟨Nat.le_of_ble_eq_true rfl, Nat.le_of_ble_eq_true rfl⟩) rfl hl.1 rfl (Nat.le_of_ble_eq_true rfl) dL_law_59 ⟨hcs, hss⟩ (fun r59 hr59 => ?_)
        obtain ⟨k59, hk59, hr59⟩ := hr59
        refine w_top (v := iI (k59 : Int)) hr59 ?_
        refine w_iadd (z := (k59 : Int) + 1) hx hb dL_law_62 (by omega) ?_
        refine lv_istore (lv' := [(5, .int (iI ((k59 : Int) + 1))), (4, .int (iI ((w45 : Int)))), (3, .int (x20)), (2, .int (iI ((tau : Int)))), (1, .ref (ad 0)), (0, .ref (bS))]) hx hb dL_law_63 hl (by decide) rfl (fun ls hl => ?_)
        refine lv_iconst (v := iI 0) hx hb dL_law_65 rfl ?_
        refine lv_istore (lv' := [(6, .int (iI 0)), (5, .int (iI ((k59 : Int) + 1))), (4, .int (iI ((w45 : Int)))), (3, .int (x20)), (2, .int (iI ((tau : Int)))), (1, .ref (ad 0)), (0, .ref (bS))]) hx hb dL_law_66 hl (by decide) rfl (fun ls hl => ?_)
        have L68 : ∀ (fu : Nat) (k : Nat) (wjobCount68 : Nat) (worder68 : Nat → Nat) (wsolved68 : Nat → Int) (x6_68 : Int), (k ≤ k59 + 1) → (wjobCount68 ≤ 6) → (IsP wjobCount68 worder68) → (∀ v, v ≤ 2 → wsolved68 v = 0) → (1 ≤ k → 1 ≤ wjobCount68) → (x6_68 = (k : Int)) → k59 + 1 - k < fu → ∀ (H : Heap) (locs : List Loc), va_P D vwCl (xw ad cI cZ wjobCount68 w45 (tzr tT w45 nn 0) tB tE tL worder68 oR oQ wsolved68 zM zN oJ) H → va_D A (xw ad cI cZ wjobCount68 w45 (tzr tT w45 nn 0) tB tE tL worder68 oR oQ wsolved68 zM zN oJ) → va_S A s.heap H locs → ∀ ls : Array Slot, lv_has ls 9 [(6, .int (iI (x6_68))), (5, .int (iI ((k59 : Int) + 1))), (4, .int (iI ((w45 : Int)))), (3, .int (x20)), (2, .int (iI ((tau : Int)))), (1, .ref (ad 0)), (0, .ref (bS))] → W p l e room_1 s m args below meth c H locs cells slots Q (F0 m 68 ls []) := by
          intro fu
          induction fu with
          | zero =>
            intro k wjobCount68 worder68 wsolved68 x6_68 hk9 hn6 hI hz9 h19 hq0 hfu
            exact absurd hfu (Nat.not_lt_zero _)
          | succ fu ih =>
            intro k wjobCount68 worder68 wsolved68 x6_68 hk9 hn6 hI hz9 h19 hq0 hfu H locs hP hD hS ls hl
            subst hq0
            have ih68 := ih
            refine lv_iload hx hb dL_law_68 (lv_at hl 0 rfl) ?_
            refine lv_iload hx hb dL_law_70 (lv_at hl 1 rfl) ?_
            have J95 : (1 ≤ wjobCount68) → ∀ (H : Heap) (locs : List Loc), va_P D vwCl (xw ad cI cZ wjobCount68 w45 (tzr tT w45 nn 0) tB tE tL worder68 oR oQ wsolved68 zM zN oJ) H → va_D A (xw ad cI cZ wjobCount68 w45 (tzr tT w45 nn 0) tB tE tL worder68 oR oQ wsolved68 zM zN oJ) → va_S A s.heap H locs → ∀ ls : Array Slot, lv_has ls 9 [(6, .int (iI ((k : Int)))), (5, .int (iI ((k59 : Int) + 1))), (4, .int (iI ((w45 : Int)))), (3, .int (x20)), (2, .int (iI ((tau : Int)))), (1, .ref (ad 0)), (0, .ref (bS))] → W p l e room_1 s m args below meth c H locs cells slots Q (F0 m 95 ls []) := by
              intro h1 H locs hP hD hS ls hl
              have hn : wjobCount68 ≤ 7 := by omega
              have hE : Enu wjobCount68 := enu_ok _ hn
              refine lv_iconst (v := iI 2) hx hb dL_law_95 rfl ?_
              refine lv_iload_n hx hb dL_law_96 rfl (lv_at hl 3 rfl) ?_
              refine lv_bipush (v := iI 7) hx hb dL_law_97 (by decide) ?_
              refine lv_ishr hx hb dL_law_99 ?_
              refine w_gen (fun x99 => ?_)
              refine lv_iload_n hx hb dL_law_100 rfl (lv_at hl 3 rfl) ?_
              refine lv_bipush (v := iI 9) hx hb dL_law_101 (by decide) ?_
              refine lv_ishr hx hb dL_law_103 ?_
              refine w_gen (fun x103 => ?_)
              refine lv_iconst (v := iI 2) hx hb dL_law_104 rfl ?_
              refine w_pS (As := [.int (x103), .int (iI (2))]) (rest := [.int (x99), .int (iI 2)]) ⟨hx, hb, hml, hown, hts⟩ hK hP (hL_low (x := x103) (n := 2) (by omega) (by omega)) (va_cwS 2 hts gL_law_L_low rfl rfl rfl (by decide +kernel) ⟨Nat.le_of_ble_eq_true rfl, Nat.le_of_ble_eq_true rfl⟩) rfl hl.1 rfl (Nat.le_of_ble_eq_true rfl) dL_law_105 ⟨hcs, hss⟩ (fun r105 hr105 => ?_)
              obtain ⟨k105, hk105, hr105⟩ := hr105
              refine w_top (v := iI (k105 : Int)) hr105 ?_
              have J117 : ∀ (n9 : Nat), (1 ≤ n9 ∧ n9 ≤ 98) → ∀ (H : Heap) (locs : List Loc), va_P D vwCl (xw ad cI cZ wjobCount68 w45 (tzr tT w45 nn 0) tB tE tL worder68 oR oQ wsolved68 zM zN oJ) H → va_D A (xw ad cI cZ wjobCount68 w45 (tzr tT w45 nn 0) tB tE tL worder68 oR oQ wsolved68 zM zN oJ) → va_S A s.heap H locs → ∀ ls : Array Slot, lv_has ls 9 [(6, .int (iI ((k : Int)))), (5, .int (iI ((k59 : Int) + 1))), (4, .int (iI ((w45 : Int)))), (3, .int (x20)), (2, .int (iI ((tau : Int)))), (1, .ref (ad 0)), (0, .ref (bS))] → W p l e room_1 s m args below meth c H locs cells slots Q (F0 m 117 ls [.int (iI ((n9 : Int))), .int (x99), .int (iI 2)]) := by
                intro n9 hn9 H locs hP hD hS ls hl
                refine w_pS (As := [.int (x99), .int (iI ((n9 : Int)))]) (rest := [.int (iI 2)]) ⟨hx, hb, hml, hown, hts⟩ hK hP (hL_low (x := x99) (n := n9) (by omega) (by omega)) (va_cwS 2 hts gL_law_L_low rfl rfl rfl (by decide +kernel) ⟨Nat.le_of_ble_eq_true rfl, Nat.le_of_ble_eq_true rfl⟩) rfl hl.1 rfl (Nat.le_of_ble_eq_true rfl) dL_law_117 ⟨hcs, hss⟩ (fun r117 hr117 => ?_)
                obtain ⟨k117, hk117, hr117⟩ := hr117
                refine w_top (v := iI (k117 : Int)) hr117 ?_
                refine w_iadd (z := (k117 : Int) + 2) hx hb dL_law_120 (by omega) ?_
                refine lv_istore (lv' := [(6, .int (iI ((k117 : Int) + 2))), (5, .int (iI ((k59 : Int) + 1))), (4, .int (iI ((w45 : Int)))), (3, .int (x20)), (2, .int (iI ((tau : Int)))), (1, .ref (ad 0)), (0, .ref (bS))]) hx hb dL_law_121 hl (by decide) rfl (fun ls hl => ?_)
                refine lv_iconst (v := iI 0) hx hb dL_law_123 rfl ?_
                refine lv_istore (lv' := [(7, .int (iI 0)), (6, .int (iI ((k117 : Int) + 2))), (5, .int (iI ((k59 : Int) + 1))), (4, .int (iI ((w45 : Int)))), (3, .int (x20)), (2, .int (iI ((tau : Int)))), (1, .ref (ad 0)), (0, .ref (bS))]) hx hb dL_law_124 hl (by decide) rfl (fun ls hl => ?_)
                have L126 : ∀ (fu : Nat) (jb : Nat) (wtimes126 : Nat → Int) (wsolved126 : Nat → Int) (x7_126 : Int), (jb ≤ wjobCount68) → (∀ k, 0 ≤ wtimes126 k ∧ wtimes126 k ≤ 99) → (∀ v, v ≤ 2 → wsolved126 v = 0) → (x7_126 = (jb : Int)) → wjobCount68 - jb < fu → ∀ (H : Heap) (locs : List Loc), va_P D vwCl (xw ad cI cZ wjobCount68 w45 wtimes126 tB tE tL worder68 oR oQ wsolved126 zM zN oJ) H → va_D A (xw ad cI cZ wjobCount68 w45 wtimes126 tB tE tL worder68 oR oQ wsolved126 zM zN oJ) → va_S A s.heap H locs → ∀ ls : Array Slot, lv_has ls 9 [(7, .int (iI (x7_126))), (6, .int (iI ((k117 : Int) + 2))), (5, .int (iI ((k59 : Int) + 1))), (4, .int (iI ((w45 : Int)))), (3, .int (x20)), (2, .int (iI ((tau : Int)))), (1, .ref (ad 0)), (0, .ref (bS))] → W p l e room_1 s m args below meth c H locs cells slots Q (F0 m 126 ls []) := by
                  intro fu
                  induction fu with
                  | zero =>
                    intro jb wtimes126 wsolved126 x7_126 hj9 hT9 hz8 hq0 hfu
                    exact absurd hfu (Nat.not_lt_zero _)
                  | succ fu ih =>
                    intro jb wtimes126 wsolved126 x7_126 hj9 hT9 hz8 hq0 hfu H locs hP hD hS ls hl
                    subst hq0
                    have ih126 := ih
                    refine lv_iload hx hb dL_law_126 (lv_at hl 0 rfl) ?_
                    refine lv_aload_n hx hb dL_law_128 rfl (lv_at hl 6 rfl) ?_
                    refine w_pV (As := []) (rest := [.int (iI ((jb : Int)))]) ⟨hx, hb, hml, hown, hts⟩ hK hP (mX0_jobs  ) (cwV 0 hts gL_law_X0_jobs rfl rfl rfl (by decide +kernel) ⟨Nat.le_of_ble_eq_true rfl, Nat.le_of_ble_eq_true rfl⟩) (ci := 0) rfl rfl rfl rfl hl.1 rfl (Nat.le_of_ble_eq_true rfl) dL_law_129 ⟨hcs, hss⟩ (fun r129 hr129 => ?_)
                    refine w_top (v := iI ((wjobCount68 : Int))) (hr129) ?_
                    refine w_icmp_ge (tgt := 190) hx hb dL_law_132 (by decide) ⟨by omega, by omega⟩ ⟨by omega, by omega⟩ (fun c132 => ?_) (fun c132 => ?_)
                    · have hT := hT9
                      have hCK : CK w45 wtimes126 wjobCount68 wsolved126 zM zN oJ := CK_z hz8
                      refine lv_aload_n hx hb dL_law_190 rfl (lv_at hl 6 rfl) ?_
                      refine w_iS (As := [.ref (ad 0)]) (rest := []) (wf := fun u : (Nat → Int) × (Nat → Int) × (Nat → Nat) × (Nat → Int) × (Nat → Int) × (Nat → Nat) × (Nat → Int) => xw ad cI cZ wjobCount68 w45 wtimes126 u.1 u.2.1 tL worder68 u.2.2.1 oQ u.2.2.2.2.2.2 u.2.2.2.1 u.2.2.2.2.1 u.2.2.2.2.2.1) (wr := []) ⟨hx, hb, hml, hown, hts⟩ hK hP hD hS hA (mL_areBest  hT hn hm h1 hI hE hCK hMb) (va_cwS 1 hts gL_law_L_areBest rfl rfl rfl (by decide +kernel) ⟨Nat.le_of_ble_eq_true rfl, Nat.le_of_ble_eq_true rfl⟩) [0, 1, 2, 3, 4, 5, 6, 7, 8, 9, 10, 11] [] [0, 1, 2, 3, 4, 5, 6, 7, 8, 9, 10, 11] rfl rfl (by decide) (by decide) (by decide) (hwf := fun _ => rfl) (by decide) rfl hl.1 rfl (Nat.le_of_ble_eq_true rfl) dL_law_191 ⟨hcs, hss⟩ (fun r191 u H locs hr191 hP hD hS => ?_)
                      obtain ⟨uB191, uE191, uR191, uM191, uN191, uJ191, uS191⟩ := u
                      obtain ⟨hq191, hCK, hMb⟩ := hr191
                      have hP : va_P D vwCl (xw ad cI cZ wjobCount68 w45 wtimes126 uB191 uE191 tL worder68 uR191 oQ uS191 uM191 uN191 uJ191) H := hP
                      have hD : va_D A (xw ad cI cZ wjobCount68 w45 wtimes126 uB191 uE191 tL worder68 uR191 oQ uS191 uM191 uN191 uJ191) := hD
                      refine w_top (v := iI (1)) (hq191) ?_
                      refine w_if_eq (tgt := 226) hx hb dL_law_194 (by decide) ⟨by omega, by omega⟩ (fun c194 => absurd c194 (by omega)) (fun c194 => ?_)
                      refine lv_aload_n hx hb dL_law_197 rfl (lv_at hl 6 rfl) ?_
                      refine w_iS (As := [.ref (ad 0)]) (rest := []) (wf := fun u : (Nat → Nat) × (Nat → Nat) × (Nat → Nat) × (Nat → Int) × (Nat → Int) × (Nat → Int) × (Nat → Int) × (Nat → Nat) × (Nat → Int) => xw ad cI cZ wjobCount68 w45 wtimes126 u.2.2.2.1 u.2.2.2.2.1 tL u.1 u.2.1 u.2.2.1 u.2.2.2.2.2.2.2.2 u.2.2.2.2.2.1 u.2.2.2.2.2.2.1 u.2.2.2.2.2.2.2.1) (wr := []) ⟨hx, hb, hml, hown, hts⟩ hK hP hD hS hA (mL_isImproved  hT hn6 hm hI hE hCK hMb) (va_cwS 1 hts gL_law_L_isImproved rfl rfl rfl (by decide +kernel) ⟨Nat.le_of_ble_eq_true rfl, Nat.le_of_ble_eq_true rfl⟩) [0, 1, 2, 3, 4, 5, 6, 7, 8, 9, 10, 11] [] [0, 1, 2, 3, 4, 5, 6, 7, 8, 9, 10, 11] rfl rfl (by decide) (by decide) (by decide) (hwf := fun _ => rfl) (by decide) rfl hl.1 rfl (Nat.le_of_ble_eq_true rfl) dL_law_198 ⟨hcs, hss⟩ (fun r198 u H locs hr198 hP hD hS => ?_)
                      obtain ⟨uO198, uR198, uQ198, uB198, uE198, uM198, uN198, uJ198, uS198⟩ := u
                      obtain ⟨hq198, hI, hCK, hMb⟩ := hr198
                      have hP : va_P D vwCl (xw ad cI cZ wjobCount68 w45 wtimes126 uB198 uE198 tL uO198 uR198 uQ198 uS198 uM198 uN198 uJ198) H := hP
                      have hD : va_D A (xw ad cI cZ wjobCount68 w45 wtimes126 uB198 uE198 tL uO198 uR198 uQ198 uS198 uM198 uN198 uJ198) := hD
                      refine w_top (v := iI (1)) (hq198) ?_
                      refine w_if_eq (tgt := 226) hx hb dL_law_201 (by decide) ⟨by omega, by omega⟩ (fun c201 => absurd c201 (by omega)) (fun c201 => ?_)
                      refine lv_aload_n hx hb dL_law_204 rfl (lv_at hl 6 rfl) ?_
                      refine w_iS (As := [.ref (ad 0)]) (rest := []) (wf := fun u : (Nat → Int) × (Nat → Int) × (Nat → Nat) × (Nat → Int) × (Nat → Int) × (Nat → Nat) × (Nat → Int) => xw ad cI cZ wjobCount68 w45 wtimes126 u.1 u.2.1 tL uO198 u.2.2.1 uQ198 u.2.2.2.2.2.2 u.2.2.2.1 u.2.2.2.2.1 u.2.2.2.2.2.1) (wr := []) ⟨hx, hb, hml, hown, hts⟩ hK hP hD hS hA (mL_areBest  hT hn hm h1 hI hE hCK hMb) (va_cwS 1 hts gL_law_L_areBest rfl rfl rfl (by decide +kernel) ⟨Nat.le_of_ble_eq_true rfl, Nat.le_of_ble_eq_true rfl⟩) [0, 1, 2, 3, 4, 5, 6, 7, 8, 9, 10, 11] [] [0, 1, 2, 3, 4, 5, 6, 7, 8, 9, 10, 11] rfl rfl (by decide) (by decide) (by decide) (hwf := fun _ => rfl) (by decide) rfl hl.1 rfl (Nat.le_of_ble_eq_true rfl) dL_law_205 ⟨hcs, hss⟩ (fun r205 u H locs hr205 hP hD hS => ?_)
                      obtain ⟨uB205, uE205, uR205, uM205, uN205, uJ205, uS205⟩ := u
                      obtain ⟨hq205, hCK, hMb⟩ := hr205
                      have hP : va_P D vwCl (xw ad cI cZ wjobCount68 w45 wtimes126 uB205 uE205 tL uO198 uR205 uQ198 uS205 uM205 uN205 uJ205) H := hP
                      have hD : va_D A (xw ad cI cZ wjobCount68 w45 wtimes126 uB205 uE205 tL uO198 uR205 uQ198 uS205 uM205 uN205 uJ205) := hD
                      refine w_top (v := iI (1)) (hq205) ?_
                      refine w_if_eq (tgt := 226) hx hb dL_law_208 (by decide) ⟨by omega, by omega⟩ (fun c208 => absurd c208 (by omega)) (fun c208 => ?_)
                      refine lv_aload_n hx hb dL_law_211 rfl (lv_at hl 6 rfl) ?_
                      refine lv_iload_n hx hb dL_law_212 rfl (lv_at hl 4 rfl) ?_
                      refine lv_bipush (v := iI 11) hx hb dL_law_213 (by decide) ?_
                      refine lv_ishr hx hb dL_law_215 ?_
                      refine w_gen (fun x215 => ?_)
                      refine lv_iconst (v := iI 3) hx hb dL_law_216 rfl ?_
                      refine w_pS (As := [.int (x215), .int (iI (3))]) (rest := [.ref (ad 0)]) ⟨hx, hb, hml, hown, hts⟩ hK hP (hL_low (x := x215) (n := 3) (by omega) (by omega)) (va_cwS 2 hts gL_law_L_low rfl rfl rfl (by decide +kernel) ⟨Nat.le_of_ble_eq_true rfl, Nat.le_of_ble_eq_true rfl⟩) rfl hl.1 rfl (Nat.le_of_ble_eq_true rfl) dL_law_217 ⟨hcs, hss⟩ (fun r217 hr217 => ?_)
                      obtain ⟨k217, hk217, hr217⟩ := hr217
                      refine w_top (v := iI (k217 : Int)) hr217 ?_
                      refine w_nS (As := [.ref (ad 0), .int (iI ((k217 : Int)))]) (rest := []) (wf := fun u : (Nat → Nat) × (Nat → Nat) × (Nat → Nat) × (Nat → Int) × (Nat → Int) × (Nat → Int) × (Nat → Int) × (Nat → Nat) × (Nat → Int) => xw ad cI cZ wjobCount68 w45 wtimes126 u.2.2.2.1 u.2.2.2.2.1 tL u.1 u.2.1 u.2.2.1 u.2.2.2.2.2.2.2.2 u.2.2.2.2.2.1 u.2.2.2.2.2.2.1 u.2.2.2.2.2.2.2.1) (wr := []) ⟨hx, hb, hml, hown, hts⟩ hK hP hD hS hA (mL_isReached (v := k217) hT hn6 hm (by omega) hI hE hCK hMb) (va_cwS 2 hts gL_law_L_isReached rfl rfl rfl (by decide +kernel) ⟨Nat.le_of_ble_eq_true rfl, Nat.le_of_ble_eq_true rfl⟩) [0, 1, 2, 3, 4, 5, 6, 7, 8, 9, 10, 11] [] [0, 1, 2, 3, 4, 5, 6, 7, 8, 9, 10, 11] rfl rfl (by decide) (by decide) (by decide) (hwf := fun _ => rfl) (by decide) rfl hl.1 rfl (Nat.le_of_ble_eq_true rfl) dL_law_220 ⟨hcs1, hss7⟩ (fun r220 u H locs hr220 hP hD hS => ?_)
                      obtain ⟨uO220, uR220, uQ220, uB220, uE220, uM220, uN220, uJ220, uS220⟩ := u
                      obtain ⟨hq220, hI, hCK, hMb⟩ := hr220
                      have hP : va_P D vwCl (xw ad cI cZ wjobCount68 w45 wtimes126 uB220 uE220 tL uO220 uR220 uQ220 uS220 uM220 uN220 uJ220) H := hP
                      have hD : va_D A (xw ad cI cZ wjobCount68 w45 wtimes126 uB220 uE220 tL uO220 uR220 uQ220 uS220 uM220 uN220 uJ220) := hD
                      refine w_top (v := iI (1)) (hq220) ?_
                      refine w_if_ne (tgt := 228) hx hb dL_law_223 (by decide) ⟨by omega, by omega⟩ (fun c223 => ?_) (fun c223 => absurd c223 (by omega))
                      refine lv_iinc (v := iI ((tau : Int) + 1)) (lv' := [(2, .int (iI ((tau : Int) + 1))), (7, .int (iI ((jb : Int)))), (6, .int (iI ((k117 : Int) + 2))), (5, .int (iI ((k59 : Int) + 1))), (4, .int (iI ((w45 : Int)))), (3, .int (x20)), (1, .ref (ad 0)), (0, .ref (bS))]) hx hb dL_law_228 hl (k := 5) rfl (iI_inc (by omega)) (by decide) rfl (fun ls hl => ?_)
                      refine lv_goto (tgt := 10) hx hb dL_law_231 (by decide) ?_
                      exact ihT (tau + 1) wjobCount68 w45 wtimes126 uB220 uE220 tL uO220 uR220 uQ220 uS220 uM220 uN220 uJ220 _ _ _ _ ls (by omega) (by omega) (by omega) (by omega) ⟨hn6, hm, hT, hI, hCK, hMb⟩ hP hD hS (lv_sub hl [0, 6, 7] rfl)
                    · refine lv_iconst (v := iI 0) hx hb dL_law_135 rfl ?_
                      refine lv_istore (lv' := [(8, .int (iI 0)), (7, .int (iI ((jb : Int)))), (6, .int (iI ((k117 : Int) + 2))), (5, .int (iI ((k59 : Int) + 1))), (4, .int (iI ((w45 : Int)))), (3, .int (x20)), (2, .int (iI ((tau : Int)))), (1, .ref (ad 0)), (0, .ref (bS))]) hx hb dL_law_136 hl (by decide) rfl (fun ls hl => ?_)
                      have L138 : ∀ (fu : Nat) (mc : Nat) (wtimes138 : Nat → Int) (wsolved138 : Nat → Int) (x8_138 : Int), (mc ≤ w45) → (∀ k, 0 ≤ wtimes138 k ∧ wtimes138 k ≤ 99) → (∀ v, v ≤ 2 → wsolved138 v = 0) → (x8_138 = (mc : Int)) → w45 - mc < fu → ∀ (H : Heap) (locs : List Loc), va_P D vwCl (xw ad cI cZ wjobCount68 w45 wtimes138 tB tE tL worder68 oR oQ wsolved138 zM zN oJ) H → va_D A (xw ad cI cZ wjobCount68 w45 wtimes138 tB tE tL worder68 oR oQ wsolved138 zM zN oJ) → va_S A s.heap H locs → ∀ ls : Array Slot, lv_has ls 9 [(8, .int (iI (x8_138))), (7, .int (iI ((jb : Int)))), (6, .int (iI ((k117 : Int) + 2))), (5, .int (iI ((k59 : Int) + 1))), (4, .int (iI ((w45 : Int)))), (3, .int (x20)), (2, .int (iI ((tau : Int)))), (1, .ref (ad 0)), (0, .ref (bS))] → W p l e room_1 s m args below meth c H locs cells slots Q (F0 m 138 ls []) := by
                        intro fu
                        induction fu with
                        | zero =>
                          intro mc wtimes138 wsolved138 x8_138 hmc hT8 hz7 hq0 hfu
                          exact absurd hfu (Nat.not_lt_zero _)
                        | succ fu ih =>
                          intro mc wtimes138 wsolved138 x8_138 hmc hT8 hz7 hq0 hfu H locs hP hD hS ls hl
                          subst hq0
                          have ih138 := ih
                          refine lv_iload hx hb dL_law_138 (lv_at hl 0 rfl) ?_
                          refine lv_iload hx hb dL_law_140 (lv_at hl 4 rfl) ?_
                          refine w_icmp_ge (tgt := 184) hx hb dL_law_142 (by decide) ⟨by omega, by omega⟩ ⟨by omega, by omega⟩ (fun c142 => ?_) (fun c142 => ?_)
                          · refine lv_iinc (v := iI ((jb : Int) + 1)) (lv' := [(7, .int (iI ((jb : Int) + 1))), (8, .int (iI ((mc : Int)))), (6, .int (iI ((k117 : Int) + 2))), (5, .int (iI ((k59 : Int) + 1))), (4, .int (iI ((w45 : Int)))), (3, .int (x20)), (2, .int (iI ((tau : Int)))), (1, .ref (ad 0)), (0, .ref (bS))]) hx hb dL_law_184 hl (k := 1) rfl (iI_inc (by omega)) (by decide) rfl (fun ls hl => ?_)
                            refine lv_goto (tgt := 126) hx hb dL_law_187 (by decide) ?_
                            exact ih126 (jb + 1) wtimes138 wsolved138 ((jb : Int) + 1) (by omega) (hT8) (hz7) (by omega) (by omega) _ _ hP hD hS ls (lv_sub hl [0, 2, 3, 4, 5, 6, 7, 8] rfl)
                          · refine lv_aload_n hx hb dL_law_145 rfl (lv_at hl 7 rfl) ?_
                            refine lv_iload hx hb dL_law_146 (lv_at hl 1 rfl) ?_
                            refine lv_iload hx hb dL_law_148 (lv_at hl 0 rfl) ?_
                            refine lv_aload_n hx hb dL_law_150 rfl (lv_at hl 8 rfl) ?_
                            refine lv_bipush (v := iI 8) hx hb dL_law_151 (by decide) ?_
                            refine lv_iload_n hx hb dL_law_153 rfl (lv_at hl 6 rfl) ?_
                            refine w_imul (z := 8 * (tau : Int)) hx hb dL_law_154 (by omega) ?_
                            refine lv_iconst (v := iI 1) hx hb dL_law_155 rfl ?_
                            refine w_iadd (z := 8 * (tau : Int) + 1) hx hb dL_law_156 (by omega) ?_
                            refine lv_iload hx hb dL_law_157 (lv_at hl 1 rfl) ?_
                            refine w_iadd (z := 8 * (tau : Int) + (jb : Int) + 1) hx hb dL_law_159 (by omega) ?_
                            refine w_xS (As := [.ref bS, .int (iI (((8 * tau + jb + 1 : Nat) : Int)))]) (rest := [.int (iI ((mc : Int))), .int (iI ((jb : Int))), .ref (ad 0)]) ⟨hx, hb, hml, hown, hts⟩ (hX.kept (hS.2.1 bS hbl hbA)) (hL_cell (k := 8 * tau + jb + 1) (by omega) hL) (va_cwS 2 hts gL_law_L_cell rfl rfl rfl (by decide +kernel) ⟨Nat.le_of_ble_eq_true rfl, Nat.le_of_ble_eq_true rfl⟩) rfl hl.1 (by rw [show ((8 * (tau : Int) + (jb : Int) + 1) : Int) = ((8 * tau + jb + 1 : Nat) : Int) by omega]; try rfl) (Nat.le_of_ble_eq_true rfl) dL_law_160 ⟨hcs, hss⟩ (fun x160 _ => ?_)
                            refine lv_bipush (v := iI 6) hx hb dL_law_163 (by decide) ?_
                            refine lv_iload hx hb dL_law_165 (lv_at hl 0 rfl) ?_
                            refine w_imul (z := 6 * (mc : Int)) hx hb dL_law_167 (by omega) ?_
                            refine lv_ishr hx hb dL_law_168 ?_
                            refine w_gen (fun x168 => ?_)
                            refine lv_iload hx hb dL_law_169 (lv_at hl 2 rfl) ?_
                            refine w_pS (As := [.int (x168), .int (iI (((k117 + 2 : Nat) : Int)))]) (rest := [.int (iI ((mc : Int))), .int (iI ((jb : Int))), .ref (ad 0)]) ⟨hx, hb, hml, hown, hts⟩ hK hP (hL_low (x := x168) (n := k117 + 2) (by omega) (by omega)) (va_cwS 2 hts gL_law_L_low rfl rfl rfl (by decide +kernel) ⟨Nat.le_of_ble_eq_true rfl, Nat.le_of_ble_eq_true rfl⟩) rfl hl.1 (by rw [show (((k117 : Int) + 2) : Int) = ((k117 + 2 : Nat) : Int) by omega]; try rfl) (Nat.le_of_ble_eq_true rfl) dL_law_171 ⟨hcs, hss⟩ (fun r171 hr171 => ?_)
                            obtain ⟨k171, hk171, hr171⟩ := hr171
                            refine w_top (v := iI (k171 : Int)) hr171 ?_
                            refine w_iV (As := [.int (iI ((jb : Int))), .int (iI ((mc : Int))), .int (iI ((k171 : Int)))]) (rest := []) (wf := fun u : Unit => xw ad cI cZ wjobCount68 w45 (va_up wtimes138 (5 * jb + mc) ((k171 : Int))) tB tE tL worder68 oR oQ (zfl wsolved138 3) zM zN oJ) (wr := []) ⟨hx, hb, hml, hown, hts⟩ hK hP hD hS hA (mX0_setTime (j := jb) (k := mc) hn hm (by omega) (by omega) (by omega)) (cwV 3 hts gL_law_X0_setTime rfl rfl rfl (by decide +kernel) ⟨Nat.le_of_ble_eq_true rfl, Nat.le_of_ble_eq_true rfl⟩) [0, 1, 2, 3, 4, 5, 6, 7, 8, 9, 10, 11] [] [0, 1, 2, 3, 4, 5, 6, 7, 8, 9, 10, 11] rfl rfl (by decide) (by decide) (by decide) (hwf := fun _ => rfl) (by decide) (ci := 0) rfl rfl rfl rfl hl.1 rfl (Nat.le_of_ble_eq_true rfl) dL_law_174 ⟨hcs, hss⟩ (fun r174 u H locs hr174 hP hD hS => ?_)
                            refine w_top (v := iI ((wtimes138 (5 * jb + mc)))) (hr174) ?_
                            refine lv_pop hx hb dL_law_177 rfl ?_
                            refine lv_iinc (v := iI ((mc : Int) + 1)) (lv' := [(8, .int (iI ((mc : Int) + 1))), (7, .int (iI ((jb : Int)))), (6, .int (iI ((k117 : Int) + 2))), (5, .int (iI ((k59 : Int) + 1))), (4, .int (iI ((w45 : Int)))), (3, .int (x20)), (2, .int (iI ((tau : Int)))), (1, .ref (ad 0)), (0, .ref (bS))]) hx hb dL_law_178 hl (k := 0) rfl (iI_inc (by omega)) (by decide) rfl (fun ls hl => ?_)
                            refine lv_goto (tgt := 138) hx hb dL_law_181 (by decide) ?_
                            exact ih138 (mc + 1) (va_up wtimes138 (5 * jb + mc) ((k171 : Int))) (zfl wsolved138 3) ((mc : Int) + 1) (by omega) (tu_rg hT8 (by omega)) (zfl_z) (by omega) (by omega) _ _ hP hD hS ls (lv_sub hl [0, 1, 2, 3, 4, 5, 6, 7, 8] rfl)
                      exact L138 (w45 - 0 + 1) 0 wtimes126 wsolved126 (0) (by omega) (hT9) (hz8) (by omega) (Nat.lt_succ_self _) _ _ hP hD hS ls (lv_sub hl [0, 1, 2, 3, 4, 5, 6, 7, 8] rfl)
                exact L126 (wjobCount68 - 0 + 1) 0 (tzr tT w45 nn 0) wsolved68 (0) (by omega) (hT) (hz9) (by omega) (Nat.lt_succ_self _) _ _ hP hD hS ls (lv_sub hl [0, 1, 2, 3, 4, 5, 6, 7] rfl)
              refine w_if_ne (tgt := 115) hx hb dL_law_108 (by decide) ⟨by omega, by omega⟩ (fun c108 => ?_) (fun c108 => ?_)
              · refine lv_bipush (v := iI 98) hx hb dL_law_115 (by decide) ?_
                exact J117 (98) (by omega) _ _ hP hD hS ls (lv_sub hl [0, 1, 2, 3, 4, 5, 6] rfl)
              · refine lv_iconst (v := iI 4) hx hb dL_law_111 rfl ?_
                refine lv_goto (tgt := 117) hx hb dL_law_112 (by decide) ?_
                exact J117 (4) (by omega) _ _ hP hD hS ls (lv_sub hl [0, 1, 2, 3, 4, 5, 6] rfl)
            refine w_icmp_ge (tgt := 95) hx hb dL_law_72 (by decide) ⟨by omega, by omega⟩ ⟨by omega, by omega⟩ (fun c72 => ?_) (fun c72 => ?_)
            · exact J95 (by omega) _ _ hP hD hS ls (lv_sub hl [0, 1, 2, 3, 4, 5, 6] rfl)
            · refine lv_aload_n hx hb dL_law_75 rfl (lv_at hl 5 rfl) ?_
              refine w_pV (As := []) (rest := []) ⟨hx, hb, hml, hown, hts⟩ hK hP (mX0_jobs  ) (cwV 0 hts gL_law_X0_jobs rfl rfl rfl (by decide +kernel) ⟨Nat.le_of_ble_eq_true rfl, Nat.le_of_ble_eq_true rfl⟩) (ci := 0) rfl rfl rfl rfl hl.1 rfl (Nat.le_of_ble_eq_true rfl) dL_law_76 ⟨hcs, hss⟩ (fun r76 hr76 => ?_)
              refine w_top (v := iI ((wjobCount68 : Int))) (hr76) ?_
              refine lv_bipush (v := iI 6) hx hb dL_law_79 (by decide) ?_
              refine w_icmp_ge (tgt := 95) hx hb dL_law_81 (by decide) ⟨by omega, by omega⟩ ⟨by omega, by omega⟩ (fun c81 => ?_) (fun c81 => ?_)
              · exact J95 (by omega) _ _ hP hD hS ls (lv_sub hl [0, 1, 2, 3, 4, 5, 6] rfl)
              · refine lv_aload_n hx hb dL_law_84 rfl (lv_at hl 5 rfl) ?_
                refine w_iV (As := []) (rest := []) (wf := fun u : Unit => xw ad cI cZ (wjobCount68 + 1) w45 (tzr tT w45 nn 0) tB tE tL (va_up worder68 wjobCount68 wjobCount68) oR oQ (zfl wsolved68 3) zM zN oJ) (wr := []) ⟨hx, hb, hml, hown, hts⟩ hK hP hD hS hA (mX0_addJob  (by omega)) (cwV 0 hts gL_law_X0_addJob rfl rfl rfl (by decide +kernel) ⟨Nat.le_of_ble_eq_true rfl, Nat.le_of_ble_eq_true rfl⟩) [0, 1, 2, 3, 4, 5, 6, 7, 8, 9, 10, 11] [] [0, 1, 2, 3, 4, 5, 6, 7, 8, 9, 10, 11] rfl rfl (by decide) (by decide) (by decide) (hwf := fun _ => rfl) (by decide) (ci := 0) rfl rfl rfl rfl hl.1 rfl (Nat.le_of_ble_eq_true rfl) dL_law_85 ⟨hcs, hss⟩ (fun r85 u H locs hr85 hP hD hS => ?_)
                refine w_top (v := iI ((wjobCount68 : Int))) (hr85) ?_
                refine lv_pop hx hb dL_law_88 rfl ?_
                refine lv_iinc (v := iI ((k : Int) + 1)) (lv' := [(6, .int (iI ((k : Int) + 1))), (5, .int (iI ((k59 : Int) + 1))), (4, .int (iI ((w45 : Int)))), (3, .int (x20)), (2, .int (iI ((tau : Int)))), (1, .ref (ad 0)), (0, .ref (bS))]) hx hb dL_law_89 hl (k := 0) rfl (iI_inc (by omega)) (by decide) rfl (fun ls hl => ?_)
                refine lv_goto (tgt := 68) hx hb dL_law_92 (by decide) ?_
                exact ih68 (k + 1) (wjobCount68 + 1) (va_up worder68 wjobCount68 wjobCount68) (zfl wsolved68 3) ((k : Int) + 1) (by omega) (by omega) (isP_up hI) (zfl_z) (fun _ => by omega) (by omega) (by omega) _ _ hP hD hS ls (lv_sub hl [0, 1, 2, 3, 4, 5, 6] rfl)
        exact L68 (k59 + 1 - 0 + 1) 0 nn oO (zfl zS 3) (0) (by omega) (by omega) (hI) (zfl_z) (fun q => absurd q (by omega)) (by omega) (Nat.lt_succ_self _) _ _ hP hD hS ls (lv_sub hl [0, 1, 2, 3, 4, 5, 6] rfl)
      refine w_if_ne (tgt := 36) hx hb dL_law_29 (by decide) ⟨by omega, by omega⟩ (fun c29 => ?_) (fun c29 => ?_)
      · refine lv_iconst (v := iI 1) hx hb dL_law_36 rfl ?_
        refine lv_iload_n hx hb dL_law_37 rfl (lv_at hl 0 rfl) ?_
        refine lv_iconst (v := iI 2) hx hb dL_law_38 rfl ?_
        refine lv_ishr hx hb dL_law_39 ?_
        refine w_gen (fun x39 => ?_)
        refine lv_iconst (v := iI 5) hx hb dL_law_40 rfl ?_
        refine w_pS (As := [.int (x39), .int (iI (5))]) (rest := [.int (iI 1)]) ⟨hx, hb, hml, hown, hts⟩ hK hP (hL_low (x := x39) (n := 5) (by omega) (by omega)) (va_cwS 2 hts gL_law_L_low rfl rfl rfl (by decide +kernel) ⟨Nat.le_of_ble_eq_true rfl, Nat.le_of_ble_eq_true rfl⟩) rfl hl.1 rfl (Nat.le_of_ble_eq_true rfl) dL_law_41 ⟨hcs, hss⟩ (fun r41 hr41 => ?_)
        obtain ⟨k41, hk41, hr41⟩ := hr41
        refine w_top (v := iI (k41 : Int)) hr41 ?_
        refine w_iadd (z := (k41 : Int) + 1) hx hb dL_law_44 (by omega) ?_
        refine w_top (v := iI ((k41 + 1 : Nat) : Int)) (congrArg iI (by omega)) ?_
        exact J45 (k41 + 1) (by omega) _ _ hP hD hS ls (lv_sub hl [0, 1, 2, 3] rfl)
      · refine lv_iconst (v := iI 2) hx hb dL_law_32 rfl ?_
        refine lv_goto (tgt := 45) hx hb dL_law_33 (by decide) ?_
        exact J45 (2) (by omega) _ _ hP hD hS ls (lv_sub hl [0, 1, 2, 3] rfl)
end
