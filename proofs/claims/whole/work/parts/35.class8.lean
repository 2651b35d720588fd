theorem c_Mo_takeAll_2 {T : vSh} {σ : vMem} {cx : vCx} {A : Int → Int} (hC : CR σ A) (hO : okA A) {oo nv : Int} (h0 : vIn oo) (h1 : nv = A 0) (hM : vM cx 0 0 none (rP (S0 ++ T) (fun _ σ2 => (∀ k, k ≠ 42 → σ2 k = σ k) ∧ ∀ v, σ2 42 v = loseF A (σ 42) oo v))) : ∀ (n j : Nat) (i : Int) (σ1 : vMem), (j : Int) + n = A 0 → i = j → (∀ k, k ≠ 42 → σ1 k = σ k) → (∀ v, σ1 42 v = if (0 ≤ v ∧ v < (j : Int)) ∧ σ 42 v = oo then -1 else σ 42 v) → vV cx y_Mo_takeAll.cls prog_7_method_7_code 4 0 0 0 0 0 2 [some (.ref 38), some (.int (iI oo)), some (.int (iI nv)), some (.int (iI i))] [] (S0 ++ T) σ1 := by
  intro n
  induction n with
  | zero =>
    intro j i σ1 hj hi hσ hl
    obtain ⟨⟨q0, q1, q2, q3, q4, q5, q6, q7⟩, hVi, hWe, hCo, hOf, hBo, hWo, hMo, hRe, hLi, hTa⟩ := id hO
    refine v_iload3 d_Mo_takeAll_2 ?_
    refine v_iload2 d_Mo_takeAll_3 ?_
    refine v_icmp_ge d_Mo_takeAll_4 (by omega) (by omega) (fun u4 => ?_) (fun u4 => ?_)
    · exact v_return hM d_Mo_takeAll_30 ⟨rfl, hσ, fun v => by rw [hl v, loseF, show (j : Int) = A 0 by omega]⟩
    · omega
  | succ n ih =>
    intro j i σ1 hj hi hσ hl
    obtain ⟨⟨q0, q1, q2, q3, q4, q5, q6, q7⟩, hVi, hWe, hCo, hOf, hBo, hWo, hMo, hRe, hLi, hTa⟩ := id hO
    refine v_iload3 d_Mo_takeAll_2 ?_
    refine v_iload2 d_Mo_takeAll_3 ?_
    refine v_icmp_ge d_Mo_takeAll_4 (by omega) (by omega) (fun u4 => ?_) (fun u4 => ?_)
    · omega
    · refine v_aload0 d_Mo_takeAll_7 ?_
      refine v_getR d_Mo_takeAll_8 f_Mo_21 (sh_38 T) rfl ?_
      refine v_iload3 d_Mo_takeAll_11 ?_
      refine v_iaload d_Mo_takeAll_12 (sh_42 T) (by omega) (fun g12 => ?_)
      refine v_iload1 d_Mo_takeAll_13 ?_
      refine v_icmp_ne d_Mo_takeAll_14 (by omega) (by omega) (fun u14 => ?_) (fun u14 => ?_)
      · refine v_iinc3 d_Mo_takeAll_24 (by decide) rfl ?_
        refine v_goto d_Mo_takeAll_27 ?_
        exact ih (j + 1) _ _ (by omega) (by omega) hσ (fun v => by
          rw [hl v]
          by_cases q2 : (0 ≤ v ∧ v < (j : Int)) ∧ σ 42 v = oo
          · rw [if_pos q2, if_pos (by omega)]
          · by_cases q : v = i
            · subst q
              have := hl v
              rw [if_neg (by omega)] at this
              rw [if_neg q2, if_neg (by omega)]
            · rw [if_neg q2, if_neg (by omega)])
      · refine v_aload0 d_Mo_takeAll_17 ?_
        refine v_getR d_Mo_takeAll_18 f_Mo_21 (sh_38 T) rfl ?_
        refine v_iload3 d_Mo_takeAll_21 ?_
        refine v_iconst d_Mo_takeAll_22 ?_
        refine v_iastore d_Mo_takeAll_23 (sh_42 T) (by omega) (by omega) ?_
        refine v_iinc3 d_Mo_takeAll_24 (by decide) rfl ?_
        refine v_goto d_Mo_takeAll_27 ?_
        exact ih (j + 1) _ _ (by omega) (by omega) (fun k hk => by rw [vUp_ne hk]; exact hσ k hk) (fun v => by
          by_cases q : v = i
          · subst q
            rw [vUp_same, if_pos ⟨by omega, by have := hl v; rw [if_neg (by omega)] at this; omega⟩]
          · rw [vUp_ix q, hl v]
            by_cases q2 : (0 ≤ v ∧ v < (j : Int)) ∧ σ 42 v = oo
            · rw [if_pos q2, if_pos (by omega)]
            · rw [if_neg q2, if_neg (by omega)])

theorem c_Mo_takeAll {T : vSh} {σ : vMem} {A : Int → Int} (hC : CR σ A) (hO : okA A) {oo nv : Int} (h0 : vIn oo) (h1 : nv = A 0) : mt_Mo_takeAll [.ref 38, .int (iI oo), .int (iI nv)] (S0 ++ T) σ (rP (S0 ++ T) (fun _ σ2 => (∀ k, k ≠ 42 → σ2 k = σ k) ∧ ∀ v, σ2 42 v = loseF A (σ 42) oo v)) := by
  refine vMet.intro 1 (by decide +kernel) (Nat.le_of_ble_eq_true rfl) rfl (fun cx hM _ => ?_)
  obtain ⟨⟨q0, q1, q2, q3, q4, q5, q6, q7⟩, hVi, hWe, hCo, hOf, hBo, hWo, hMo, hRe, hLi, hTa⟩ := id hO
  refine v_iconst d_Mo_takeAll_0 ?_
  refine v_istore3 d_Mo_takeAll_1 (by decide) rfl ?_
  exact c_Mo_takeAll_2 hC hO h0 h1 hM (A 0).toNat 0 _ _ (by omega) rfl (fun k _ => rfl) (fun v => by rw [if_neg (by omega)])

theorem c_Mo_firstLeft_2 {T : vSh} {σ : vMem} {cx : vCx} {A : Int → Int} (hC : CR σ A) (hO : okA A) {may : Int} (h0 : may = 0 ∨ may = 1) (hH : ∀ v, 0 ≤ v → v < A 0 → -1 ≤ σ 42 v) (hM : vM cx 0 0 (some .int) (rF (S0 ++ T) σ (fst (mvF A (σ 42) (σ 43) may) (A 5).toNat))) : ∀ (n j : Nat) (i : Int), (j : Int) + n = A 5 → i = j → fst (mvF A (σ 42) (σ 43) may) j < 0 → vV cx y_Mo_firstLeft.cls prog_7_method_5_code 4 0 0 0 0 0 2 [some (.ref 38), some (.int (iI may)), some (.int (iI i)), none] [] (S0 ++ T) σ := by
  intro n
  induction n with
  | zero =>
    intro j i hj hi hz
    obtain ⟨⟨q0, q1, q2, q3, q4, q5, q6, q7⟩, hVi, hWe, hCo, hOf, hBo, hWo, hMo, hRe, hLi, hTa⟩ := id hO
    obtain ⟨⟨l0, l1, lV, lC, lZ, lS⟩, ⟨b0, b1, bO, bB⟩, ⟨w0, wR, wL⟩, ⟨t0, t1, t2, tR, tB⟩, ⟨n9, nW⟩, m0, mM⟩ := id hC
    refine v_iload2 d_Mo_firstLeft_2 ?_
    refine v_aload0 d_Mo_firstLeft_3 ?_
    refine v_getJ (ji := 0) d_Mo_firstLeft_4 f_Mo_28 (sh_38 T) rfl rfl (fun g4 => ?_)
    refine v_icmp_ge d_Mo_firstLeft_7 (by omega) (by omega) (fun u7 => ?_) (fun u7 => ?_)
    · refine v_iconst d_Mo_firstLeft_76 ?_
      have hr := fst_rng (mvF A (σ 42) (σ 43) may) j
      exact v_ireturn hM d_Mo_firstLeft_77 (by omega) ⟨rfl, rfl, by rw [show (A 5).toNat = j by omega]; omega⟩
    · omega
  | succ n ih =>
    intro j i hj hi hz
    obtain ⟨⟨q0, q1, q2, q3, q4, q5, q6, q7⟩, hVi, hWe, hCo, hOf, hBo, hWo, hMo, hRe, hLi, hTa⟩ := id hO
    obtain ⟨⟨l0, l1, lV, lC, lZ, lS⟩, ⟨b0, b1, bO, bB⟩, ⟨w0, wR, wL⟩, ⟨t0, t1, t2, tR, tB⟩, ⟨n9, nW⟩, m0, mM⟩ := id hC
    have hmo := hMo i (by omega) (by omega)
    have hmm := mM i (by omega) (by omega)
    have hh1 := hH (σ 40 i) (by omega) (by omega)
    refine v_iload2 d_Mo_firstLeft_2 ?_
    refine v_aload0 d_Mo_firstLeft_3 ?_
    refine v_getJ (ji := 0) d_Mo_firstLeft_4 f_Mo_28 (sh_38 T) rfl rfl (fun g4 => ?_)
    refine v_icmp_ge d_Mo_firstLeft_7 (by omega) (by omega) (fun u7 => ?_) (fun u7 => ?_)
    · omega
    · refine v_aload0 d_Mo_firstLeft_10 ?_
      refine v_getR d_Mo_firstLeft_11 f_Mo_21 (sh_38 T) rfl ?_
      refine v_aload0 d_Mo_firstLeft_14 ?_
      refine v_getR d_Mo_firstLeft_15 f_Mo_15 (sh_38 T) rfl ?_
      refine v_iload2 d_Mo_firstLeft_18 ?_
      refine v_iaload d_Mo_firstLeft_19 (sh_40 T) (by omega) (fun g19 => ?_)
      refine v_iaload d_Mo_firstLeft_20 (sh_42 T) (by omega) (fun g20 => ?_)
      refine v_iconst d_Mo_firstLeft_21 ?_
      refine v_icmp_eq d_Mo_firstLeft_22 (by omega) (by omega) (fun u22 => ?_) (fun u22 => ?_)
      · refine v_iconst d_Mo_firstLeft_45 ?_
        refine v_goto d_Mo_firstLeft_46 ?_
        refine v_istore3 d_Mo_firstLeft_50 (by decide) rfl ?_
        refine v_aload0 d_Mo_firstLeft_51 ?_
        refine v_getR d_Mo_firstLeft_52 f_Mo_24 (sh_38 T) rfl ?_
        refine v_iload2 d_Mo_firstLeft_55 ?_
        refine v_zaload d_Mo_firstLeft_56 (sh_43 T) (by omega) (fun g56 => ?_)
        refine v_if_ne d_Mo_firstLeft_57 (by omega) (fun u57 => ?_) (fun u57 => ?_)
        · refine v_iinc2 d_Mo_firstLeft_70 (by decide) rfl ?_
          refine v_goto d_Mo_firstLeft_73 ?_
          refine v_drop3 ?_
          exact ih (j + 1) _ (by omega) (by omega) (fst_no _ hz (by rw [← hi, mvF, ← hmm.1, ← hmm.2]; omega))
        · refine v_iload3 d_Mo_firstLeft_60 ?_
          refine v_if_ne d_Mo_firstLeft_61 (by omega) (fun u61 => ?_) (fun u61 => ?_)
          · refine v_iload2 d_Mo_firstLeft_68 ?_
            have e9 := fst_at (mvF A (σ 42) (σ 43) may) hz (by rw [← hi, mvF, ← hmm.1, ← hmm.2]; omega)
            exact v_ireturn hM d_Mo_firstLeft_69 (by omega) ⟨rfl, rfl, by rw [fst_stay (mvF A (σ 42) (σ 43) may) (m := j + 1) (by omega) (A 5).toNat (by omega), e9]; exact hi⟩
          · omega
      · refine v_aload0 d_Mo_firstLeft_25 ?_
        refine v_getR d_Mo_firstLeft_26 f_Mo_21 (sh_38 T) rfl ?_
        refine v_aload0 d_Mo_firstLeft_29 ?_
        refine v_getR d_Mo_firstLeft_30 f_Mo_15 (sh_38 T) rfl ?_
        refine v_iload2 d_Mo_firstLeft_33 ?_
        refine v_iaload d_Mo_firstLeft_34 (sh_40 T) (by omega) (fun g34 => ?_)
        refine v_iaload d_Mo_firstLeft_35 (sh_42 T) (by omega) (fun g35 => ?_)
        refine v_aload0 d_Mo_firstLeft_36 ?_
        refine v_getR d_Mo_firstLeft_37 f_Mo_9 (sh_38 T) rfl ?_
        refine v_iload2 d_Mo_firstLeft_40 ?_
        refine v_iaload d_Mo_firstLeft_41 (sh_39 T) (by omega) (fun g41 => ?_)
        refine v_icmp_ne d_Mo_firstLeft_42 (by omega) (by omega) (fun u42 => ?_) (fun u42 => ?_)
        · refine v_iconst d_Mo_firstLeft_49 ?_
          refine v_istore3 d_Mo_firstLeft_50 (by decide) rfl ?_
          refine v_aload0 d_Mo_firstLeft_51 ?_
          refine v_getR d_Mo_firstLeft_52 f_Mo_24 (sh_38 T) rfl ?_
          refine v_iload2 d_Mo_firstLeft_55 ?_
          refine v_zaload d_Mo_firstLeft_56 (sh_43 T) (by omega) (fun g56 => ?_)
          refine v_if_ne d_Mo_firstLeft_57 (by omega) (fun u57 => ?_) (fun u57 => ?_)
          · refine v_iinc2 d_Mo_firstLeft_70 (by decide) rfl ?_
            refine v_goto d_Mo_firstLeft_73 ?_
            refine v_drop3 ?_
            exact ih (j + 1) _ (by omega) (by omega) (fst_no _ hz (by rw [← hi, mvF, ← hmm.1, ← hmm.2]; omega))
          · refine v_iload3 d_Mo_firstLeft_60 ?_
            refine v_if_ne d_Mo_firstLeft_61 (by omega) (fun u61 => ?_) (fun u61 => ?_)
            · omega
            · refine v_iload1 d_Mo_firstLeft_64 ?_
              refine v_if_ne d_Mo_firstLeft_65 (by omega) (fun u65 => ?_) (fun u65 => ?_)
              · refine v_iinc2 d_Mo_firstLeft_70 (by decide) rfl ?_
                refine v_goto d_Mo_firstLeft_73 ?_
                refine v_drop3 ?_
                exact ih (j + 1) _ (by omega) (by omega) (fst_no _ hz (by rw [← hi, mvF, ← hmm.1, ← hmm.2]; omega))
              · refine v_iload2 d_Mo_firstLeft_68 ?_
                have e9 := fst_at (mvF A (σ 42) (σ 43) may) hz (by rw [← hi, mvF, ← hmm.1, ← hmm.2]; omega)
                exact v_ireturn hM d_Mo_firstLeft_69 (by omega) ⟨rfl, rfl, by rw [fst_stay (mvF A (σ 42) (σ 43) may) (m := j + 1) (by omega) (A 5).toNat (by omega), e9]; exact hi⟩
        · refine v_iconst d_Mo_firstLeft_45 ?_
          refine v_goto d_Mo_firstLeft_46 ?_
          refine v_istore3 d_Mo_firstLeft_50 (by decide) rfl ?_
          refine v_aload0 d_Mo_firstLeft_51 ?_
          refine v_getR d_Mo_firstLeft_52 f_Mo_24 (sh_38 T) rfl ?_
          refine v_iload2 d_Mo_firstLeft_55 ?_
          refine v_zaload d_Mo_firstLeft_56 (sh_43 T) (by omega) (fun g56 => ?_)
          refine v_if_ne d_Mo_firstLeft_57 (by omega) (fun u57 => ?_) (fun u57 => ?_)
          · refine v_iinc2 d_Mo_firstLeft_70 (by decide) rfl ?_
            refine v_goto d_Mo_firstLeft_73 ?_
            refine v_drop3 ?_
            exact ih (j + 1) _ (by omega) (by omega) (fst_no _ hz (by rw [← hi, mvF, ← hmm.1, ← hmm.2]; omega))
          · refine v_iload3 d_Mo_firstLeft_60 ?_
            refine v_if_ne d_Mo_firstLeft_61 (by omega) (fun u61 => ?_) (fun u61 => ?_)
            · refine v_iload2 d_Mo_firstLeft_68 ?_
              have e9 := fst_at (mvF A (σ 42) (σ 43) may) hz (by rw [← hi, mvF, ← hmm.1, ← hmm.2]; omega)
              exact v_ireturn hM d_Mo_firstLeft_69 (by omega) ⟨rfl, rfl, by rw [fst_stay (mvF A (σ 42) (σ 43) may) (m := j + 1) (by omega) (A 5).toNat (by omega), e9]; exact hi⟩
            · omega

theorem c_Mo_firstLeft {T : vSh} {σ : vMem} {A : Int → Int} (hC : CR σ A) (hO : okA A) {may : Int} (h0 : may = 0 ∨ may = 1) (hH : ∀ v, 0 ≤ v → v < A 0 → -1 ≤ σ 42 v) : mt_Mo_firstLeft [.ref 38, .int (iI may)] (S0 ++ T) σ (rF (S0 ++ T) σ (fst (mvF A (σ 42) (σ 43) may) (A 5).toNat)) := by
  refine vMet.intro 2 (by decide +kernel) (Nat.le_of_ble_eq_true rfl) rfl (fun cx hM _ => ?_)
  obtain ⟨⟨q0, q1, q2, q3, q4, q5, q6, q7⟩, hVi, hWe, hCo, hOf, hBo, hWo, hMo, hRe, hLi, hTa⟩ := id hO
  refine v_iconst d_Mo_firstLeft_0 ?_
  refine v_istore2 d_Mo_firstLeft_1 (by decide) rfl ?_
  exact c_Mo_firstLeft_2 hC hO h0 hH hM (A 5).toNat 0 _ (by omega) rfl (show (-1 : Int) < 0 by decide)

theorem c_Mo_doMove {T : vSh} {σ : vMem} {A : Int → Int} (hC : CR σ A) (hO : okA A) {m nv : Int} (h0 : 0 ≤ m ∧ m < A 5) (h1 : nv = A 0) (h2 : 0 ≤ σ 38 5 ∧ σ 38 5 < 12) : mt_Mo_doMove [.ref 38, .int (iI m), .int (iI nv)] (S0 ++ T) σ (rP (S0 ++ T) (fun _ σ2 => (∀ k, k ≠ 38 → k ≠ 41 → k ≠ 42 → k ≠ 43 → σ2 k = σ k) ∧ (∀ v, σ2 42 v = upF (loseF A (σ 42) (A (400 + 2 * m))) (A (400 + 2 * m + 1)) (A (400 + 2 * m)) v) ∧ (∀ x, σ2 43 x = upF (σ 43) m 1 x) ∧ (∀ x, σ2 41 x = upF (σ 41) (σ 38 5) m x) ∧ ∀ x, σ2 38 x = upF (σ 38) 5 (σ 38 5 + 1) x)) := by
  refine vMet.intro 0 (by decide +kernel) (Nat.le_of_ble_eq_true rfl) rfl (fun cx hM _ => ?_)
  obtain ⟨⟨q0, q1, q2, q3, q4, q5, q6, q7⟩, hVi, hWe, hCo, hOf, hBo, hWo, hMo, hRe, hLi, hTa⟩ := id hO
  obtain ⟨⟨l0, l1, lV, lC, lZ, lS⟩, ⟨b0, b1, bO, bB⟩, ⟨w0, wR, wL⟩, ⟨t0, t1, t2, tR, tB⟩, ⟨n9, nW⟩, m0, mM⟩ := id hC
  have hmo := hMo m (by omega) (by omega)
  have hmm := mM m (by omega) (by omega)
  refine v_aload0 d_Mo_doMove_0 ?_
  refine v_aload0 d_Mo_doMove_1 ?_
  refine v_getR d_Mo_doMove_2 f_Mo_9 (sh_38 T) rfl ?_
  refine v_iload1 d_Mo_doMove_5 ?_
  refine v_iaload d_Mo_doMove_6 (sh_39 T) (by omega) (fun g6 => ?_)
  refine v_iload2 d_Mo_doMove_7 ?_
  refine v_gVV2 d_Mo_doMove_8 l_Mo_52 k_Mo_takeAll (c_Mo_takeAll hC hO (by omega) (by omega)) (sh_38 T) rfl (by decide) (by decide) (Nat.le_of_ble_eq_true rfl) (Nat.zero_le _) (Nat.zero_le _) (fun z8 s8 e8 => ?_)
  have e40 : s8 40 = σ 40 := e8.1 40 (by decide)
  have e39 : s8 39 = σ 39 := e8.1 39 (by decide)
  have e38 : s8 38 = σ 38 := e8.1 38 (by decide)
  have e50 : s8 38 5 = σ 38 5 := by rw [e38]
  have f40 : s8 40 m = σ 40 m := by rw [e40]
  have f39 : s8 39 m = σ 39 m := by rw [e39]
  refine v_aload0 d_Mo_doMove_11 ?_
  refine v_getR d_Mo_doMove_12 f_Mo_21 (sh_38 T) rfl ?_
  refine v_aload0 d_Mo_doMove_15 ?_
  refine v_getR d_Mo_doMove_16 f_Mo_15 (sh_38 T) rfl ?_
  refine v_iload1 d_Mo_doMove_19 ?_
  refine v_iaload d_Mo_doMove_20 (sh_40 T) (by omega) (fun g20 => ?_)
  refine v_aload0 d_Mo_doMove_21 ?_
  refine v_getR d_Mo_doMove_22 f_Mo_9 (sh_38 T) rfl ?_
  refine v_iload1 d_Mo_doMove_25 ?_
  refine v_iaload d_Mo_doMove_26 (sh_39 T) (by omega) (fun g26 => ?_)
  refine v_iastore d_Mo_doMove_27 (sh_42 T) (by omega) (by omega) ?_
  refine v_aload0 d_Mo_doMove_28 ?_
  refine v_getR d_Mo_doMove_29 f_Mo_24 (sh_38 T) rfl ?_
  refine v_iload1 d_Mo_doMove_32 ?_
  refine v_iconst d_Mo_doMove_33 ?_
  refine v_zastore d_Mo_doMove_34 (sh_43 T) (by omega) (by omega) ?_
  refine v_aload0 d_Mo_doMove_35 ?_
  refine v_getR d_Mo_doMove_36 f_Mo_18 (sh_38 T) rfl ?_
  refine v_aload0 d_Mo_doMove_39 ?_
  refine v_getJ (ji := 5) d_Mo_doMove_40 f_Mo_41 (sh_38 T) rfl rfl (fun g40 => ?_)
  refine v_iload1 d_Mo_doMove_43 ?_
  refine v_iastore d_Mo_doMove_44 (sh_41 T) (by rw [vUp_ne (by decide), vUp_ne (by decide)]; omega) (by omega) ?_
  refine v_aload0 d_Mo_doMove_45 ?_
  refine v_dup d_Mo_doMove_46 rfl ?_
  refine v_getJ (ji := 5) d_Mo_doMove_47 f_Mo_41 (sh_38 T) rfl rfl (fun g47 => ?_)
  refine v_iconst d_Mo_doMove_50 ?_
  refine v_iadd d_Mo_doMove_51 ?_
  refine v_putJ (ji := 5) d_Mo_doMove_52 p_Mo_41 (sh_38 T) rfl rfl (by rw [vUp_ne (by decide), vUp_ne (by decide), vUp_ne (by decide)]; omega) ?_
  refine v_return hM d_Mo_doMove_55 ⟨rfl, fun k h1 h2 h3 h4 => ?_, fun v => ?_, fun x => ?_, fun x => ?_, fun x => ?_⟩
  · rw [vUp_ne h1, vUp_ne h2, vUp_ne h4, vUp_ne h3, e8.1 k h3]
  · rw [vUp_ne (by decide), vUp_ne (by decide), vUp_ne (by decide), e40, e39, hmm.1, hmm.2]
    by_cases q : v = A (400 + 2 * m + 1)
    · rw [q, vUp_same, upF_s]
    · rw [vUp_ix q, upF_n q, e8.2 v, hmm.1]
  · rw [vUp_ne (by decide), vUp_ne (by decide)]
    by_cases q : x = m
    · rw [q, vUp_same, upF_s]
    · rw [vUp_ix q, upF_n q, vUp_ne (by decide), e8.1 43 (by decide)]
  · rw [vUp_ne (by decide), show vUp (vUp s8 42 (s8 40 m) (s8 39 m)) 43 m 1 38 5 = σ 38 5 from by rw [vUp_ne (by decide), vUp_ne (by decide), e38]]
    by_cases q : x = σ 38 5
    · rw [q, vUp_same, upF_s]
    · rw [vUp_ix q, upF_n q, vUp_ne (by decide), vUp_ne (by decide), e8.1 41 (by decide)]
  · by_cases q : x = 5
    · rw [q, vUp_same, upF_s, vUp_ne (by decide), vUp_ne (by decide), vUp_ne (by decide), e38]
    · rw [vUp_ix q, upF_n q, vUp_ne (by decide), vUp_ne (by decide), vUp_ne (by decide), e38]

theorem c_Mo_reckonRow_69 {T : vSh} {σ : vMem} {cx : vCx} {A : Int → Int} (hC : CR σ A) (hO : okA A) {nv td : Int} (h0 : nv = A 0) (h1 : td = A 4) (hM : vM cx 0 0 none (rP (S0 ++ T) (fun _ σ2 => CF σ σ2 ∧ σ2 38 3 = (mvE A).2.2.2.2 ∧ ∀ i, 0 ≤ i → i < A 5 → σ2 41 i = (mvE A).2.2.1 i))) : ∀ (n : Nat) (i : Int) (σ1 : vMem) (st : MvT), (0 ≤ i ∧ i + n = 24) → mvM A st ≤ n → mvR A n st = mvE A → okMv A st → mvAg A (σ1 42) (σ1 43) (σ1 41) st → σ1 38 3 = st.2.2.2.2 → σ1 38 5 = st.2.2.2.1 → CF σ σ1 → vV cx y_Mo_reckonRow.cls prog_7_method_4_code 7 2 0 0 0 0 69 [some (.ref 38), some (.ref 10), some (.int (iI nv)), some (.int (iI td)), some (.int (iI i)), none, none] [] (S0 ++ T) σ1 := by
  intro n
  induction n with
  | zero =>
    intro i σ1 st hi hf hE hk hg h1' h2' hσ
    obtain ⟨⟨q0, q1, q2, q3, q4, q5, q6, q7⟩, hVi, hWe, hCo, hOf, hBo, hWo, hMo, hRe, hLi, hTa⟩ := id hO
    have hC1 := hσ.cr hC
    obtain ⟨⟨l0, l1, lV, lC, lZ, lS⟩, ⟨b0, b1, bO, bB⟩, ⟨w0, wR, wL⟩, ⟨t0, t1, t2, tR, tB⟩, ⟨n9, nW⟩, m0, mM⟩ := id hC1
    obtain ⟨k1, k2, k3, k4, k5, k6⟩ := id hk
    have hmm : 2 * (A 5 - st.2.2.2.1) - 1 ≤ mvM A st := by unfold mvM; split <;> omega
    refine v_iload4 d_Mo_reckonRow_69 ?_
    refine v_bipush d_Mo_reckonRow_71 rfl ?_
    refine v_icmp_ge d_Mo_reckonRow_73 (by omega) (by omega) (fun u73 => ?_) (fun u73 => ?_)
    · exact v_return hM d_Mo_reckonRow_156 ⟨rfl, hσ, by rw [← hE, mvR]; exact h1', fun i y1 y2 => by rw [← hE, mvR]; exact hg.2.2 i y1 (by omega)⟩
    · omega
  | succ n ih =>
    intro i σ1 st hi hf hE hk hg h1' h2' hσ
    obtain ⟨⟨q0, q1, q2, q3, q4, q5, q6, q7⟩, hVi, hWe, hCo, hOf, hBo, hWo, hMo, hRe, hLi, hTa⟩ := id hO
    have hC1 := hσ.cr hC
    obtain ⟨⟨l0, l1, lV, lC, lZ, lS⟩, ⟨b0, b1, bO, bB⟩, ⟨w0, wR, wL⟩, ⟨t0, t1, t2, tR, tB⟩, ⟨n9, nW⟩, m0, mM⟩ := id hC1
    obtain ⟨k1, k2, k3, k4, k5, k6⟩ := id hk
    have hmm : 2 * (A 5 - st.2.2.2.1) - 1 ≤ mvM A st := by unfold mvM; split <;> omega
    have hAr : -1 ≤ mvA A st ∧ mvA A st < (A 5).toNat := fst_rng (mvP A st.1 st.2.1) (A 5).toNat
    have hBr : -1 ≤ mvB A st ∧ mvB A st < (A 5).toNat := fst_rng (mvQ st.2.1) (A 5).toNat
    have eA := mvF_A hO hg
    have eB := mvF_B hg
    have hH : ∀ v, 0 ≤ v → v < A 0 → -1 ≤ σ1 42 v := fun v y1 y2 => by rw [hg.1 v y1 y2]; exact (k5 v y1 y2).1
    refine v_iload4 d_Mo_reckonRow_69 ?_
    refine v_bipush d_Mo_reckonRow_71 rfl ?_
    refine v_icmp_ge d_Mo_reckonRow_73 (by omega) (by omega) (fun u73 => ?_) (fun u73 => ?_)
    · omega
    · refine v_aload0 d_Mo_reckonRow_76 ?_
      refine v_getJ (ji := 5) d_Mo_reckonRow_77 f_Mo_41 (sh_38 T) rfl rfl (fun g77 => ?_)
      refine v_aload0 d_Mo_reckonRow_80 ?_
      refine v_getJ (ji := 0) d_Mo_reckonRow_81 f_Mo_28 (sh_38 T) rfl rfl (fun g81 => ?_)
      refine v_icmp_ge d_Mo_reckonRow_84 (by omega) (by omega) (fun u84 => ?_) (fun u84 => ?_)
      · exact v_return hM d_Mo_reckonRow_156 ⟨rfl, hσ, by rw [← hE, mvR, if_neg (by omega)]; exact h1', fun i y1 y2 => by rw [← hE, mvR, if_neg (by omega)]; exact hg.2.2 i y1 (by omega)⟩
      · have hE2 : mvR A n (mvS A st) = mvE A := by rw [← hE, mvR, if_pos (by omega)]
        have hs9 := mvS_ok hO hk (by omega)
        have hB0 := mvB_has hO hk (by omega)
        have hmo := hMo (mvB A st) hB0 (by omega)
        have hmg := mM (mvB A st) hB0 (by omega)
        have hk5 := k5 (A (400 + 2 * mvB A st + 1)) (by omega) (by omega)
        have hg5 := hg.1 (A (400 + 2 * mvB A st + 1)) (by omega) (by omega)
        have hx9 : σ1 42 (σ1 40 (mvB A st)) = σ1 42 (A (400 + 2 * mvB A st + 1)) := by rw [hmg.2]
        refine v_aload0 d_Mo_reckonRow_87 ?_
        refine v_iconst d_Mo_reckonRow_88 ?_
        refine v_fVI1 d_Mo_reckonRow_89 l_Mo_44 k_Mo_firstLeft (c_Mo_firstLeft hC1 hO (by omega) hH) (sh_38 T) rfl (by decide) (by decide) (Nat.le_of_ble_eq_true rfl) (Nat.zero_le _) (Nat.zero_le _) (fun g89 => ?_)
        rw [eA]
        refine v_istore5 d_Mo_reckonRow_92 (by decide) rfl ?_
        refine v_aload0 d_Mo_reckonRow_94 ?_
        refine v_iconst d_Mo_reckonRow_95 ?_
        refine v_fVI1 d_Mo_reckonRow_96 l_Mo_44 k_Mo_firstLeft (c_Mo_firstLeft hC1 hO (by omega) hH) (sh_38 T) rfl (by decide) (by decide) (Nat.le_of_ble_eq_true rfl) (Nat.zero_le _) (Nat.zero_le _) (fun g96 => ?_)
        rw [eB]
        refine v_istore6 d_Mo_reckonRow_99 (by decide) rfl ?_
        refine v_iload5 d_Mo_reckonRow_101 ?_
        refine v_iconst d_Mo_reckonRow_103 ?_
        refine v_icmp_eq d_Mo_reckonRow_104 (by omega) (by omega) (fun u104 => ?_) (fun u104 => ?_)
        · refine v_iload6 d_Mo_reckonRow_117 ?_
          refine v_iconst d_Mo_reckonRow_119 ?_
          refine v_icmp_eq d_Mo_reckonRow_120 (by omega) (by omega) (fun u120 => ?_) (fun u120 => ?_)
          · omega
          · refine v_aload0 d_Mo_reckonRow_123 ?_
            refine v_aload0 d_Mo_reckonRow_124 ?_
            refine v_getR d_Mo_reckonRow_125 f_Mo_21 (sh_38 T) rfl ?_
            refine v_aload0 d_Mo_reckonRow_128 ?_
            refine v_getR d_Mo_reckonRow_129 f_Mo_15 (sh_38 T) rfl ?_
            refine v_iload6 d_Mo_reckonRow_132 ?_
            refine v_iaload d_Mo_reckonRow_134 (sh_40 T) (by omega) (fun g134 => ?_)
            refine v_iaload d_Mo_reckonRow_135 (sh_42 T) (by omega) (fun g135 => ?_)
            refine v_iload2 d_Mo_reckonRow_136 ?_
            refine v_gVV2 d_Mo_reckonRow_137 l_Mo_52 k_Mo_takeAll (c_Mo_takeAll hC1 hO (by omega) (by omega)) (sh_38 T) rfl (by decide) (by decide) (Nat.le_of_ble_eq_true rfl) (Nat.zero_le _) (Nat.zero_le _) (fun z137 s137 e137 => ?_)
            have e38 : s137 38 = σ1 38 := e137.1 38 (by decide)
            have e33 : s137 38 3 = σ1 38 3 := by rw [e38]
            refine v_aload0 d_Mo_reckonRow_140 ?_
            refine v_dup d_Mo_reckonRow_141 rfl ?_
            refine v_getJ (ji := 3) d_Mo_reckonRow_142 f_Mo_38 (sh_38 T) rfl rfl (fun g142 => ?_)
            refine v_iconst d_Mo_reckonRow_145 ?_
            refine v_iadd d_Mo_reckonRow_146 ?_
            refine v_putJ (ji := 3) d_Mo_reckonRow_147 p_Mo_38 (sh_38 T) rfl rfl (by omega) ?_
            refine v_iinc4 d_Mo_reckonRow_150 (by decide) rfl ?_
            refine v_goto d_Mo_reckonRow_153 ?_
            refine v_drop5 ?_
            refine v_drop6 ?_
            have hq9 : mvA A st < 0 := by omega
            exact ih _ _ (mvS A st) (by omega) (by omega) hE2 hs9.1 (by rw [vUp_ne (by decide), vUp_ne (by decide), vUp_ne (by decide), e137.1 43 (by decide), e137.1 41 (by decide)]; exact mvAg_idle hO hg hk (by omega) hq9 (fun v => by rw [e137.2 v, hx9])) (by rw [vUp_same, mvS, if_pos hq9, e33, h1']) (by rw [vUp_ix (by decide), mvS, if_pos hq9, e38, h2']) (hσ.trans' ⟨fun k hk => by rw [vUp_ne (by omega)]; exact e137.1 k (by omega), by rw [vUp_ix (by decide), e38]⟩)
        · refine v_aload0 d_Mo_reckonRow_107 ?_
          refine v_iload5 d_Mo_reckonRow_108 ?_
          refine v_iload2 d_Mo_reckonRow_110 ?_
          refine v_gVV2 d_Mo_reckonRow_111 l_Mo_48 k_Mo_doMove (c_Mo_doMove hC1 hO (by omega) (by omega) (by omega)) (sh_38 T) rfl (by decide) (by decide) (Nat.le_of_ble_eq_true rfl) (Nat.zero_le _) (Nat.zero_le _) (fun z111 s111 e111 => ?_)
          refine v_goto d_Mo_reckonRow_114 ?_
          refine v_iinc4 d_Mo_reckonRow_150 (by decide) rfl ?_
          refine v_goto d_Mo_reckonRow_153 ?_
          refine v_drop5 ?_
          refine v_drop6 ?_
          have hq9 : ¬ mvA A st < 0 := by omega
          exact ih _ _ (mvS A st) (by omega) (by omega) hE2 hs9.1 (mvAg_do hO hg (by omega) hq9 e111.2.1 e111.2.2.1 (fun x => by rw [e111.2.2.2.1 x, h2'])) (by rw [e111.2.2.2.2 3, upF_n (by decide), h1', mvS, if_neg hq9]) (by rw [e111.2.2.2.2 5, upF_s, h2', mvS, if_neg hq9]) (hσ.trans' ⟨fun k hk => e111.1 k (by omega) (by omega) (by omega) (by omega), by rw [e111.2.2.2.2 0, upF_n (by decide)]⟩)

theorem c_Mo_reckonRow_33 {T : vSh} {σ : vMem} {cx : vCx} {A : Int → Int} (hC : CR σ A) (hO : okA A) {nv td : Int} (h0 : nv = A 0) (h1 : td = A 4) (hM : vM cx 0 0 none (rP (S0 ++ T) (fun _ σ2 => CF σ σ2 ∧ σ2 38 3 = (mvE A).2.2.2.2 ∧ ∀ i, 0 ≤ i → i < A 5 → σ2 41 i = (mvE A).2.2.1 i))) : ∀ (n j : Nat) (i : Int) (σ1 : vMem), (j : Int) + n = A 5 → i = j → CF σ σ1 → (∀ v, 0 ≤ v → v < A 0 → σ1 42 v = heldF A v (A 4) (A 4)) → (∀ m, 0 ≤ m → m < (j : Int) → σ1 43 m = 0) → vV cx y_Mo_reckonRow.cls prog_7_method_4_code 7 2 0 0 0 0 33 [some (.ref 38), some (.ref 10), some (.int (iI nv)), some (.int (iI td)), some (.int (iI i)), none, none] [] (S0 ++ T) σ1 := by
  intro n
  induction n with
  | zero =>
    intro j i σ1 hj hi hσ hv hd
    obtain ⟨⟨q0, q1, q2, q3, q4, q5, q6, q7⟩, hVi, hWe, hCo, hOf, hBo, hWo, hMo, hRe, hLi, hTa⟩ := id hO
    have hC1 := hσ.cr hC
    obtain ⟨⟨l0, l1, lV, lC, lZ, lS⟩, ⟨b0, b1, bO, bB⟩, ⟨w0, wR, wL⟩, ⟨t0, t1, t2, tR, tB⟩, ⟨n9, nW⟩, m0, mM⟩ := id hC1
    refine v_iload4 d_Mo_reckonRow_33 ?_
    refine v_aload0 d_Mo_reckonRow_35 ?_
    refine v_getJ (ji := 0) d_Mo_reckonRow_36 f_Mo_28 (sh_38 T) rfl rfl (fun g36 => ?_)
    refine v_icmp_ge d_Mo_reckonRow_39 (by omega) (by omega) (fun u39 => ?_) (fun u39 => ?_)
    · refine v_aload0 d_Mo_reckonRow_56 ?_
      refine v_iconst d_Mo_reckonRow_57 ?_
      refine v_putJ (ji := 3) d_Mo_reckonRow_58 p_Mo_38 (sh_38 T) rfl rfl (by omega) ?_
      refine v_aload0 d_Mo_reckonRow_61 ?_
      refine v_iconst d_Mo_reckonRow_62 ?_
      refine v_putJ (ji := 5) d_Mo_reckonRow_63 p_Mo_41 (sh_38 T) rfl rfl (by omega) ?_
      refine v_iconst d_Mo_reckonRow_66 ?_
      refine v_istore4 d_Mo_reckonRow_67 (by decide) rfl ?_
      exact c_Mo_reckonRow_69 hC hO h0 h1 hM 24 _ _ (mv0 A) (by omega) (mv0_ok hO).2 rfl (mv0_ok hO).1 ⟨fun v y1 y2 => by rw [vUp_ne (by decide), vUp_ne (by decide)]; exact hv v y1 y2, fun m y1 y2 => by rw [vUp_ne (by decide), vUp_ne (by decide)]; exact hd m y1 (by omega), fun i y1 y2 => by exfalso; simp [mv0] at y2; omega⟩ (by rw [vUp_ix (by decide), vUp_same]; rfl) (by rw [vUp_same]; rfl) ((hσ.trans' (CF_up (Or.inr ⟨rfl, by decide⟩))).trans' (CF_up (Or.inr ⟨rfl, by decide⟩)))
    · omega
  | succ n ih =>
    intro j i σ1 hj hi hσ hv hd
    obtain ⟨⟨q0, q1, q2, q3, q4, q5, q6, q7⟩, hVi, hWe, hCo, hOf, hBo, hWo, hMo, hRe, hLi, hTa⟩ := id hO
    have hC1 := hσ.cr hC
    obtain ⟨⟨l0, l1, lV, lC, lZ, lS⟩, ⟨b0, b1, bO, bB⟩, ⟨w0, wR, wL⟩, ⟨t0, t1, t2, tR, tB⟩, ⟨n9, nW⟩, m0, mM⟩ := id hC1
    refine v_iload4 d_Mo_reckonRow_33 ?_
    refine v_aload0 d_Mo_reckonRow_35 ?_
    refine v_getJ (ji := 0) d_Mo_reckonRow_36 f_Mo_28 (sh_38 T) rfl rfl (fun g36 => ?_)
    refine v_icmp_ge d_Mo_reckonRow_39 (by omega) (by omega) (fun u39 => ?_) (fun u39 => ?_)
    · omega
    · refine v_aload0 d_Mo_reckonRow_42 ?_
      refine v_getR d_Mo_reckonRow_43 f_Mo_24 (sh_38 T) rfl ?_
      refine v_iload4 d_Mo_reckonRow_46 ?_
      refine v_iconst d_Mo_reckonRow_48 ?_
      refine v_zastore d_Mo_reckonRow_49 (sh_43 T) (by omega) (by omega) ?_
      refine v_iinc4 d_Mo_reckonRow_50 (by decide) rfl ?_
      refine v_goto d_Mo_reckonRow_53 ?_
      exact ih (j + 1) _ _ (by omega) (by omega) (hσ.trans' (CF_up (by omega))) (fun v y1 y2 => by rw [vUp_ne (by decide)]; exact hv v y1 y2) (fun m y1 y2 => by
        by_cases q : m = i
        · subst q; exact vUp_same _ _ _ _
        · rw [vUp_ix q]; exact hd m y1 (by omega))

theorem c_Mo_reckonRow_3 {T : vSh} {σ : vMem} {cx : vCx} {A : Int → Int} (hC : CR σ A) (hO : okA A) {nv td : Int} (h0 : nv = A 0) (h1 : td = A 4) (hM : vM cx 0 0 none (rP (S0 ++ T) (fun _ σ2 => CF σ σ2 ∧ σ2 38 3 = (mvE A).2.2.2.2 ∧ ∀ i, 0 ≤ i → i < A 5 → σ2 41 i = (mvE A).2.2.1 i))) : ∀ (n j : Nat) (i : Int) (σ1 : vMem), (j : Int) + n = A 0 → i = j → CF σ σ1 → (∀ v, 0 ≤ v → v < (j : Int) → σ1 42 v = heldF A v (A 4) (A 4)) → vV cx y_Mo_reckonRow.cls prog_7_method_4_code 7 2 0 0 0 0 3 [some (.ref 38), some (.ref 10), some (.int (iI nv)), some (.int (iI td)), some (.int (iI i)), none, none] [] (S0 ++ T) σ1 := by
  intro n
  induction n with
  | zero =>
    intro j i σ1 hj hi hσ hv
    obtain ⟨⟨q0, q1, q2, q3, q4, q5, q6, q7⟩, hVi, hWe, hCo, hOf, hBo, hWo, hMo, hRe, hLi, hTa⟩ := id hO
    have hC1 := hσ.cr hC
    obtain ⟨⟨l0, l1, lV, lC, lZ, lS⟩, ⟨b0, b1, bO, bB⟩, ⟨w0, wR, wL⟩, ⟨t0, t1, t2, tR, tB⟩, ⟨n9, nW⟩, m0, mM⟩ := id hC1
    refine v_iload4 d_Mo_reckonRow_3 ?_
    refine v_iload2 d_Mo_reckonRow_5 ?_
    refine v_icmp_ge d_Mo_reckonRow_6 (by omega) (by omega) (fun u6 => ?_) (fun u6 => ?_)
    · refine v_iconst d_Mo_reckonRow_30 ?_
      refine v_istore4 d_Mo_reckonRow_31 (by decide) rfl ?_
      exact c_Mo_reckonRow_33 hC hO h0 h1 hM (A 5).toNat 0 _ _ (by omega) rfl hσ (fun v y1 y2 => hv v y1 (by omega)) (fun m y1 y2 => by omega)
    · omega
  | succ n ih =>
    intro j i σ1 hj hi hσ hv
    obtain ⟨⟨q0, q1, q2, q3, q4, q5, q6, q7⟩, hVi, hWe, hCo, hOf, hBo, hWo, hMo, hRe, hLi, hTa⟩ := id hO
    have hC1 := hσ.cr hC
    obtain ⟨⟨l0, l1, lV, lC, lZ, lS⟩, ⟨b0, b1, bO, bB⟩, ⟨w0, wR, wL⟩, ⟨t0, t1, t2, tR, tB⟩, ⟨n9, nW⟩, m0, mM⟩ := id hC1
    refine v_iload4 d_Mo_reckonRow_3 ?_
    refine v_iload2 d_Mo_reckonRow_5 ?_
    refine v_icmp_ge d_Mo_reckonRow_6 (by omega) (by omega) (fun u6 => ?_) (fun u6 => ?_)
    · omega
    · refine v_aload0 d_Mo_reckonRow_9 ?_
      refine v_getR d_Mo_reckonRow_10 f_Mo_21 (sh_38 T) rfl ?_
      refine v_iload4 d_Mo_reckonRow_13 ?_
      refine v_aload1 d_Mo_reckonRow_15 ?_
      refine v_iload4 d_Mo_reckonRow_16 ?_
      refine v_iload3 d_Mo_reckonRow_18 ?_
      refine v_iload3 d_Mo_reckonRow_19 ?_
      refine v_fVI3 d_Mo_reckonRow_20 l_Mo_32 k_Bo_holderOn (c_Bo_holderOn hC1 hO (by omega) (by omega) (by omega)) (sh_10 T) rfl (by decide) (by decide) (Nat.le_of_ble_eq_true rfl) (Nat.zero_le _) (Nat.zero_le _) (fun g20 => ?_)
      have hhr := heldF_rng hO i td td
      refine v_iastore d_Mo_reckonRow_23 (sh_42 T) (by omega) (by omega) ?_
      refine v_iinc4 d_Mo_reckonRow_24 (by decide) rfl ?_
      refine v_goto d_Mo_reckonRow_27 ?_
      exact ih (j + 1) _ _ (by omega) (by omega) (hσ.trans' (CF_up (by omega))) (fun v y1 y2 => by
        by_cases q : v = i
        · subst q; rw [vUp_same, h1]
        · rw [vUp_ix q]; exact hv v y1 (by omega))

theorem c_Mo_reckonRow {T : vSh} {σ : vMem} {A : Int → Int} (hC : CR σ A) (hO : okA A) {nv td : Int} (h0 : nv = A 0) (h1 : td = A 4) : mt_Mo_reckonRow [.ref 38, .ref 10, .int (iI nv), .int (iI td)] (S0 ++ T) σ (rP (S0 ++ T) (fun _ σ2 => CF σ σ2 ∧ σ2 38 3 = (mvE A).2.2.2.2 ∧ ∀ i, 0 ≤ i → i < A 5 → σ2 41 i = (mvE A).2.2.1 i)) := by
  refine vMet.intro 3 (by decide +kernel) (Nat.le_of_ble_eq_true rfl) rfl (fun cx hM _ => ?_)
  obtain ⟨⟨q0, q1, q2, q3, q4, q5, q6, q7⟩, hVi, hWe, hCo, hOf, hBo, hWo, hMo, hRe, hLi, hTa⟩ := id hO
  refine v_iconst d_Mo_reckonRow_0 ?_
  refine v_istore4 d_Mo_reckonRow_1 (by decide) rfl ?_
  exact c_Mo_reckonRow_3 hC hO h0 h1 hM (A 0).toNat 0 _ _ (by omega) rfl CF.rfl' (fun v y1 y2 => by omega)

theorem c_V_idle {T : vSh} {σ : vMem} {A : Int → Int} (hC : CR σ A) (hO : okA A)  : mt_V_idle [.ref 0] (S0 ++ T) σ (rP (S0 ++ T) (fun z σ2 => z = (mvE A).2.2.2.2 ∧ CF σ σ2)) := by
  refine vMet.intro 0 (by decide +kernel) (Nat.le_of_ble_eq_true rfl) rfl (fun cx hM _ => ?_)
  obtain ⟨⟨q0, q1, q2, q3, q4, q5, q6, q7⟩, hVi, hWe, hCo, hOf, hBo, hWo, hMo, hRe, hLi, hTa⟩ := id hO
  obtain ⟨⟨l0, l1, lV, lC, lZ, lS⟩, ⟨b0, b1, bO, bB⟩, ⟨w0, wR, wL⟩, ⟨t0, t1, t2, tR, tB⟩, ⟨n9, nW⟩, m0, mM⟩ := id hC
  refine v_aload0 d_V_idle_0 ?_
  refine v_getR d_V_idle_1 f_V_81 (sh_0 T) rfl ?_
  refine v_aload0 d_V_idle_4 ?_
  refine v_getR d_V_idle_5 f_V_71 (sh_0 T) rfl ?_
  refine v_aload0 d_V_idle_8 ?_
  refine v_getR d_V_idle_9 f_V_66 (sh_0 T) rfl ?_
  refine v_getJ (ji := 1) d_V_idle_12 f_V_86 (sh_2 T) rfl rfl (fun g12 => ?_)
  refine v_aload0 d_V_idle_15 ?_
  refine v_getR d_V_idle_16 f_V_66 (sh_0 T) rfl ?_
  refine v_getJ (ji := 0) d_V_idle_19 f_V_113 (sh_2 T) rfl rfl (fun g19 => ?_)
  refine v_gVV3 d_V_idle_22 l_V_283 k_Mo_reckonRow (c_Mo_reckonRow hC hO (by omega) (by omega)) (sh_38 T) rfl (by decide) (by decide) (Nat.le_of_ble_eq_true rfl) (Nat.zero_le _) (Nat.zero_le _) (fun z22 s22 e22 => ?_)
  refine v_aload0 d_V_idle_25 ?_
  refine v_getR d_V_idle_26 f_V_81 (sh_0 T) rfl ?_
  refine v_getJ (ji := 3) d_V_idle_29 f_V_287 (sh_38 T) rfl rfl (fun g29 => ?_)
  exact v_ireturn hM d_V_idle_32 g29 ⟨rfl, e22.2.1, e22.1⟩

theorem c_V_moved {T : vSh} {σ : vMem} {A : Int → Int} (hC : CR σ A) (hO : okA A) {p : Int} (h0 : vIn p) : mt_V_moved [.ref 0, .int (iI p)] (S0 ++ T) σ (rP (S0 ++ T) (fun z σ2 => z = rMoved A p ∧ CF σ σ2)) := by
  refine vMet.intro 0 (by decide +kernel) (Nat.le_of_ble_eq_true rfl) rfl (fun cx hM _ => ?_)
  obtain ⟨⟨q0, q1, q2, q3, q4, q5, q6, q7⟩, hVi, hWe, hCo, hOf, hBo, hWo, hMo, hRe, hLi, hTa⟩ := id hO
  obtain ⟨⟨l0, l1, lV, lC, lZ, lS⟩, ⟨b0, b1, bO, bB⟩, ⟨w0, wR, wL⟩, ⟨t0, t1, t2, tR, tB⟩, ⟨n9, nW⟩, m0, mM⟩ := id hC
  refine v_iload1 d_V_moved_0 ?_
  refine v_if_lt d_V_moved_1 (by omega) (fun u1 => ?_) (fun u1 => ?_)
  · refine v_iconst d_V_moved_15 ?_
    first
    | (exact v_ireturn hM d_V_moved_16 g50 ⟨rfl, by rw [rMoved, if_pos (by omega)]; exact e39.2.2 p (by omega) (by omega), e39.1⟩)
    | (exact v_ireturn hM d_V_moved_16 (by omega) ⟨rfl, by rw [rMoved, if_neg (by omega)], CF.rfl'⟩)
  · refine v_iload1 d_V_moved_4 ?_
    refine v_aload0 d_V_moved_5 ?_
    refine v_getR d_V_moved_6 f_V_81 (sh_0 T) rfl ?_
    refine v_getJ (ji := 0) d_V_moved_9 f_V_272 (sh_38 T) rfl rfl (fun g9 => ?_)
    refine v_icmp_lt d_V_moved_12 (by omega) (by omega) (fun u12 => ?_) (fun u12 => ?_)
    · refine v_aload0 d_V_moved_17 ?_
      refine v_getR d_V_moved_18 f_V_81 (sh_0 T) rfl ?_
      refine v_aload0 d_V_moved_21 ?_
      refine v_getR d_V_moved_22 f_V_71 (sh_0 T) rfl ?_
      refine v_aload0 d_V_moved_25 ?_
      refine v_getR d_V_moved_26 f_V_66 (sh_0 T) rfl ?_
      refine v_getJ (ji := 1) d_V_moved_29 f_V_86 (sh_2 T) rfl rfl (fun g29 => ?_)
      refine v_aload0 d_V_moved_32 ?_
      refine v_getR d_V_moved_33 f_V_66 (sh_0 T) rfl ?_
      refine v_getJ (ji := 0) d_V_moved_36 f_V_113 (sh_2 T) rfl rfl (fun g36 => ?_)
      refine v_gVV3 d_V_moved_39 l_V_283 k_Mo_reckonRow (c_Mo_reckonRow hC hO (by omega) (by omega)) (sh_38 T) rfl (by decide) (by decide) (Nat.le_of_ble_eq_true rfl) (Nat.zero_le _) (Nat.zero_le _) (fun z39 s39 e39 => ?_)
      refine v_aload0 d_V_moved_42 ?_
      refine v_getR d_V_moved_43 f_V_81 (sh_0 T) rfl ?_
      refine v_getR d_V_moved_46 f_V_290 (sh_38 T) rfl ?_
      refine v_iload1 d_V_moved_49 ?_
      refine v_iaload d_V_moved_50 (sh_41 T) (by omega) (fun g50 => ?_)
      first
      | (exact v_ireturn hM d_V_moved_51 g50 ⟨rfl, by rw [rMoved, if_pos (by omega)]; exact e39.2.2 p (by omega) (by omega), e39.1⟩)
      | (exact v_ireturn hM d_V_moved_51 (by omega) ⟨rfl, by rw [rMoved, if_neg (by omega)], CF.rfl'⟩)
    · refine v_iconst d_V_moved_15 ?_
      first
      | (exact v_ireturn hM d_V_moved_16 g50 ⟨rfl, by rw [rMoved, if_pos (by omega)]; exact e39.2.2 p (by omega) (by omega), e39.1⟩)
      | (exact v_ireturn hM d_V_moved_16 (by omega) ⟨rfl, by rw [rMoved, if_neg (by omega)], CF.rfl'⟩)

