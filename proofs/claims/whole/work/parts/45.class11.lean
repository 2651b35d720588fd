theorem c_De_dealByRule_28 {T : vSh} {σ : vMem} {cx : vCx} {A : Int → Int} (hC : CR σ A) (hO : okA A) {set : Int} (h1 : dlP A set) {lk : Int → Int} {m g : Int} (r1 : σ 49 4 = dP A set) (rl : ∀ i, 0 ≤ i → i < dP A set → σ 51 i = lk i) (K : ∀ who : Int, who = neF lk (dP A set).toNat → vV cx y_De_dealByRule.cls prog_4_method_8_code 5 1 0 0 0 0 62 [some (.ref 49), some (.int (iI m)), some (.int (iI g)), some (.int (iI who)), none] [] (S0 ++ T) σ) : ∀ (n j : Nat) (who i : Int), (j : Int) + n = dP A set → i = j → who = neF lk j → 1 ≤ j → vV cx y_De_dealByRule.cls prog_4_method_8_code 5 1 0 0 0 0 28 [some (.ref 49), some (.int (iI m)), some (.int (iI g)), some (.int (iI who)), some (.int (iI i))] [] (S0 ++ T) σ := by
  intro n
  induction n with
  | zero =>
    intro j who i hj hi hw hj1
    obtain ⟨⟨q0, q1, q2, q3, q4, q5, q6, q7⟩, hVi, hWe, hCo, hOf, hBo, hWo, hMo, hRe, hLi, hTa⟩ := id hO
    have hP := dP_rng hO h1
    have hL := dL_rng A
    have hne := neF_rng lk j
    refine v_iload4 d_De_dealByRule_28 ?_
    refine v_aload0 d_De_dealByRule_30 ?_
    refine v_getJ (ji := 4) d_De_dealByRule_31 f_De_114 (sh_49 T) rfl rfl (fun g31 => ?_)
    refine v_icmp_ge d_De_dealByRule_34 (by omega) (by omega) (fun u34 => ?_) (fun u34 => ?_)
    · refine v_drop4 ?_
      exact K who (by rw [hw]; congr 1; omega)
    · omega
  | succ n ih =>
    intro j who i hj hi hw hj1
    obtain ⟨⟨q0, q1, q2, q3, q4, q5, q6, q7⟩, hVi, hWe, hCo, hOf, hBo, hWo, hMo, hRe, hLi, hTa⟩ := id hO
    have hP := dP_rng hO h1
    have hL := dL_rng A
    have hne := neF_rng lk j
    have hpi := rl i (by omega) (by omega)
    have hpw := rl who (by omega) (by omega)
    refine v_iload4 d_De_dealByRule_28 ?_
    refine v_aload0 d_De_dealByRule_30 ?_
    refine v_getJ (ji := 4) d_De_dealByRule_31 f_De_114 (sh_49 T) rfl rfl (fun g31 => ?_)
    refine v_icmp_ge d_De_dealByRule_34 (by omega) (by omega) (fun u34 => ?_) (fun u34 => ?_)
    · omega
    · refine v_aload0 d_De_dealByRule_37 ?_
      refine v_getR d_De_dealByRule_38 f_De_15 (sh_49 T) rfl ?_
      refine v_iload4 d_De_dealByRule_41 ?_
      refine v_iaload d_De_dealByRule_43 (sh_51 T) (by omega) (fun g43 => ?_)
      refine v_aload0 d_De_dealByRule_44 ?_
      refine v_getR d_De_dealByRule_45 f_De_15 (sh_49 T) rfl ?_
      refine v_iload3 d_De_dealByRule_48 ?_
      refine v_iaload d_De_dealByRule_49 (sh_51 T) (by omega) (fun g49 => ?_)
      refine v_icmp_le d_De_dealByRule_50 (by omega) (by omega) (fun u50 => ?_) (fun u50 => ?_)
      · refine v_iinc4 d_De_dealByRule_56 (by decide) rfl ?_
        refine v_goto d_De_dealByRule_59 ?_
        first
        | (exact ih (j + 1) _ _ (by omega) (by omega) (by rw [neF, ← hi, ← hw, if_neg (by omega)]) (by omega))
        | (exact ih (j + 1) _ _ (by omega) (by omega) (by rw [neF, ← hi, ← hw, if_pos (by omega)]) (by omega))
      · refine v_iload4 d_De_dealByRule_53 ?_
        refine v_istore3 d_De_dealByRule_55 (by decide) rfl ?_
        refine v_iinc4 d_De_dealByRule_56 (by decide) rfl ?_
        refine v_goto d_De_dealByRule_59 ?_
        first
        | (exact ih (j + 1) _ _ (by omega) (by omega) (by rw [neF, ← hi, ← hw, if_neg (by omega)]) (by omega))
        | (exact ih (j + 1) _ _ (by omega) (by omega) (by rw [neF, ← hi, ← hw, if_pos (by omega)]) (by omega))

theorem c_De_dealByRule_62 {T : vSh} {σ : vMem} {cx : vCx} {A : Int → Int} (hC : CR σ A) (hO : okA A) {set : Int} (h1 : dlP A set) {σ1 : vMem} (hσ : (∀ k, k ≠ 51 → k ≠ 53 → σ1 k = σ k)) {j : Nat} (hj : (j : Int) < dL A) {m nx who : Int} (hR : RuC σ1 A set (ruR A set j)) (hnx : nx = grF A (ruR A set j).1 (dL A).toNat) (hwho : who = neF (ruR A set j).2 (dP A set).toNat) (hmj : m = j) (K : ∀ (m : Int) (σ2 : vMem), (∀ k, k ≠ 51 → k ≠ 53 → σ2 k = σ k) → RuC σ2 A set (ruR A set (j + 1)) → m = ((j + 1 : Nat) : Int) → vV cx y_De_dealByRule.cls prog_4_method_8_code 5 1 0 0 0 0 10 [some (.ref 49), some (.int (iI m)), none, none, none] [] (S0 ++ T) σ2) : vV cx y_De_dealByRule.cls prog_4_method_8_code 5 1 0 0 0 0 62 [some (.ref 49), some (.int (iI m)), some (.int (iI nx)), some (.int (iI who)), none] [] (S0 ++ T) σ1 := by
  obtain ⟨⟨q0, q1, q2, q3, q4, q5, q6, q7⟩, hVi, hWe, hCo, hOf, hBo, hWo, hMo, hRe, hLi, hTa⟩ := id hO
  have hP := dP_rng hO h1
  have hL := dL_rng A
  have hC1 : CR σ1 A := (show CF σ σ1 from ⟨fun k hk => hσ k (by omega) (by omega), by rw [hσ 38 (by decide) (by decide)]⟩).cr hC
  obtain ⟨⟨l0, l1, lV, lC, lZ, lS⟩, ⟨b0, b1, bO, bB⟩, ⟨w0, wR, wL⟩, ⟨t0, t1, t2, tR, tB⟩, ⟨n9, nW⟩, m0, mM⟩ := id hC1
  obtain ⟨hG, rl, rc⟩ := id hR
  obtain ⟨⟨r1, r2⟩, rP, rK⟩ := id hG
  have hok := ruR_ok hO (set := set) hP.1 j (by omega)
  have hg9 := gr_has hok (by omega)
  have hne := neF_rng (ruR A set j).2 (dP A set).toNat
  rw [← hnx] at hg9
  rw [← hwho] at hne
  have hlw := rl who (by omega) (by omega)
  have how := hok.2.2 who (by omega) (by omega)
  have hkn := rK nx (by omega) (by omega)
  have hln := dLot_rng hO hg9
  have hpn := dPa_rng hO hg9
  have hlv := (lV (dLot A nx) hln.1 hln.2).1
  have en : σ1 3 (σ1 52 nx) = dPa A nx := by rw [hkn]; exact hlv
  have e0 : ruR A set (j + 1) = ruS A set (ruR A set j) := rfl
  refine v_aload0 d_De_dealByRule_62 ?_
  refine v_getR d_De_dealByRule_63 f_De_27 (sh_49 T) rfl ?_
  refine v_getR d_De_dealByRule_66 f_De_35 (sh_1 T) rfl ?_
  refine v_getR d_De_dealByRule_69 f_De_126 (sh_2 T) rfl ?_
  refine v_aload0 d_De_dealByRule_72 ?_
  refine v_getR d_De_dealByRule_73 f_De_18 (sh_49 T) rfl ?_
  refine v_iload2 d_De_dealByRule_76 ?_
  refine v_iaload d_De_dealByRule_77 (sh_52 T) (by omega) (fun g77 => ?_)
  refine v_iaload d_De_dealByRule_78 (sh_3 T) (by omega) (fun g78 => ?_)
  refine v_istore4 d_De_dealByRule_79 (by decide) rfl ?_
  refine v_aload0 d_De_dealByRule_81 ?_
  refine v_getR d_De_dealByRule_82 f_De_15 (sh_49 T) rfl ?_
  refine v_iload3 d_De_dealByRule_85 ?_
  refine v_iaload d_De_dealByRule_86 (sh_51 T) (by omega) (fun g86 => ?_)
  refine v_iconst d_De_dealByRule_87 ?_
  refine v_imul d_De_dealByRule_88 ?_
  refine v_iload4 d_De_dealByRule_89 ?_
  refine v_icmp_lt d_De_dealByRule_91 (by omega) (by omega) (fun u91 => ?_) (fun u91 => ?_)
  · refine v_aload0 d_De_dealByRule_115 ?_
    refine v_getR d_De_dealByRule_116 f_De_21 (sh_49 T) rfl ?_
    refine v_iload2 d_De_dealByRule_119 ?_
    refine v_aload0 d_De_dealByRule_120 ?_
    refine v_getJ (ji := 4) d_De_dealByRule_121 f_De_114 (sh_49 T) rfl rfl (fun g121 => ?_)
    refine v_iastore d_De_dealByRule_124 (sh_53 T) (by omega) (by omega) ?_
    refine v_iinc1 d_De_dealByRule_125 (by decide) rfl ?_
    refine v_goto d_De_dealByRule_128 ?_
    refine v_drop2 ?_
    refine v_drop3 ?_
    refine v_drop4 ?_
    have e1 : ruR A set (j + 1) = (upF (ruR A set j).1 nx (dP A set), (ruR A set j).2) := by rw [e0, ruS, ← hnx, ← hwho, if_pos (by omega)]
    refine K _ _ (fun k k1 k2 => by rw [vUp_ne k2]; exact hσ k k1 k2) ?_ (by omega)
    rw [e1]
    refine ⟨GaC_off (by rw [vUp_ne (by decide)]) (by rw [vUp_ne (by decide)]) (by rw [vUp_ne (by decide)]) (by rw [vUp_ne (by decide)]) hG, fun i i1 i2 => by rw [vUp_ne (by decide)]; exact rl i i1 i2, fun k k1 k2 => ?_⟩
    by_cases q : k = nx
    · rw [q, vUp_same]; dsimp only; rw [upF_s, r1]
    · rw [vUp_ix q]; dsimp only; rw [upF_n q]; exact rc k k1 k2
  · refine v_aload0 d_De_dealByRule_94 ?_
    refine v_getR d_De_dealByRule_95 f_De_21 (sh_49 T) rfl ?_
    refine v_iload2 d_De_dealByRule_98 ?_
    refine v_iload3 d_De_dealByRule_99 ?_
    refine v_iastore d_De_dealByRule_100 (sh_53 T) (by omega) (by omega) ?_
    refine v_aload0 d_De_dealByRule_101 ?_
    refine v_getR d_De_dealByRule_102 f_De_15 (sh_49 T) rfl ?_
    refine v_iload3 d_De_dealByRule_105 ?_
    refine v_dup2 d_De_dealByRule_106 rfl rfl ?_
    refine v_iaload d_De_dealByRule_107 (sh_51 T) (by omega) (fun g107 => ?_)
    refine v_iload4 d_De_dealByRule_108 ?_
    have r107 : vUp σ1 53 nx who 51 who = σ1 51 who := by rw [vUp_ne (by decide)]
    refine v_isub d_De_dealByRule_110 ?_
    refine v_iastore d_De_dealByRule_111 (sh_51 T) (by omega) (by omega) ?_
    refine v_goto d_De_dealByRule_112 ?_
    refine v_iinc1 d_De_dealByRule_125 (by decide) rfl ?_
    refine v_goto d_De_dealByRule_128 ?_
    refine v_drop2 ?_
    refine v_drop3 ?_
    refine v_drop4 ?_
    have e1 : ruR A set (j + 1) = (upF (ruR A set j).1 nx who, upF (ruR A set j).2 who ((ruR A set j).2 who - dPa A nx)) := by rw [e0, ruS, ← hnx, ← hwho, if_neg (by omega)]
    refine K _ _ (fun k k1 k2 => by rw [vUp_ne k1, vUp_ne k2]; exact hσ k k1 k2) ?_ (by omega)
    rw [e1]
    refine ⟨GaC_off (by rw [vUp_ne (by decide), vUp_ne (by decide)]) (by rw [vUp_ne (by decide), vUp_ne (by decide)]) (by rw [vUp_ne (by decide), vUp_ne (by decide)]) (by rw [vUp_ne (by decide), vUp_ne (by decide)]) hG, fun i i1 i2 => ?_, fun k k1 k2 => ?_⟩
    · by_cases q : i = who
      · rw [q, vUp_same, vUp_ne (by decide), en]; dsimp only; rw [upF_s, hlw]
      · rw [vUp_ix q, vUp_ne (by decide)]; dsimp only; rw [upF_n q]; exact rl i i1 i2
    · rw [vUp_ne (by decide)]
      by_cases q : k = nx
      · rw [q, vUp_same]; dsimp only; rw [upF_s]
      · rw [vUp_ix q]; dsimp only; rw [upF_n q]; exact rc k k1 k2

theorem c_De_dealByRule_10 {T : vSh} {σ : vMem} {cx : vCx} {A : Int → Int} (hC : CR σ A) (hO : okA A) {set : Int} (h1 : dlP A set) (hM : vM cx 0 0 none (rP (S0 ++ T) (fun _ σ2 => (∀ k, k ≠ 51 → k ≠ 53 → σ2 k = σ k) ∧ RuC σ2 A set (ruR A set (dL A).toNat)))) : ∀ (n j : Nat) (m : Int) (σ1 : vMem), (j : Int) + n = dL A → m = j → (∀ k, k ≠ 51 → k ≠ 53 → σ1 k = σ k) → RuC σ1 A set (ruR A set j) → vV cx y_De_dealByRule.cls prog_4_method_8_code 5 1 0 0 0 0 10 [some (.ref 49), some (.int (iI m)), none, none, none] [] (S0 ++ T) σ1 := by
  intro n
  induction n with
  | zero =>
    intro j m σ1 hj hi hσ hR
    obtain ⟨⟨q0, q1, q2, q3, q4, q5, q6, q7⟩, hVi, hWe, hCo, hOf, hBo, hWo, hMo, hRe, hLi, hTa⟩ := id hO
    have hP := dP_rng hO h1
    have hL := dL_rng A
    have hC1 : CR σ1 A := (show CF σ σ1 from ⟨fun k hk => hσ k (by omega) (by omega), by rw [hσ 38 (by decide) (by decide)]⟩).cr hC
    obtain ⟨hG1, rl, rc⟩ := id hR
    obtain ⟨⟨r1, r2⟩, rP, rK⟩ := id hG1
    have hok := ruR_ok hO (set := set) hP.1 j (by omega)
    have egr := grF_congr A (c := σ1 53) (d := (ruR A set j).1) (dL A).toNat (fun k k1 k2 => rc k k1 (by omega))
    refine v_iload1 d_De_dealByRule_10 ?_
    refine v_aload0 d_De_dealByRule_11 ?_
    refine v_getJ (ji := 8) d_De_dealByRule_12 f_De_111 (sh_49 T) rfl rfl (fun g12 => ?_)
    refine v_icmp_ge d_De_dealByRule_15 (by omega) (by omega) (fun u15 => ?_) (fun u15 => ?_)
    · exact v_return hM d_De_dealByRule_131 ⟨rfl, hσ, by rw [show (dL A).toNat = j by omega]; exact hR⟩
    · omega
  | succ n ih =>
    intro j m σ1 hj hi hσ hR
    obtain ⟨⟨q0, q1, q2, q3, q4, q5, q6, q7⟩, hVi, hWe, hCo, hOf, hBo, hWo, hMo, hRe, hLi, hTa⟩ := id hO
    have hP := dP_rng hO h1
    have hL := dL_rng A
    have hC1 : CR σ1 A := (show CF σ σ1 from ⟨fun k hk => hσ k (by omega) (by omega), by rw [hσ 38 (by decide) (by decide)]⟩).cr hC
    obtain ⟨hG1, rl, rc⟩ := id hR
    obtain ⟨⟨r1, r2⟩, rP, rK⟩ := id hG1
    have hok := ruR_ok hO (set := set) hP.1 j (by omega)
    have egr := grF_congr A (c := σ1 53) (d := (ruR A set j).1) (dL A).toNat (fun k k1 k2 => rc k k1 (by omega))
    refine v_iload1 d_De_dealByRule_10 ?_
    refine v_aload0 d_De_dealByRule_11 ?_
    refine v_getJ (ji := 8) d_De_dealByRule_12 f_De_111 (sh_49 T) rfl rfl (fun g12 => ?_)
    refine v_icmp_ge d_De_dealByRule_15 (by omega) (by omega) (fun u15 => ?_) (fun u15 => ?_)
    · omega
    · have hg1 : 0 ≤ grF A (σ1 53) (dL A).toNat := by rw [egr]; exact (gr_has hok (by omega)).1
      refine v_aload0 d_De_dealByRule_18 ?_
      refine v_fVI0 d_De_dealByRule_19 l_De_123 k_De_greatestLotLeft (c_De_greatestLotLeft hC1 hO h1 hG1 hg1) (sh_49 T) rfl (by decide) (by decide) (Nat.le_of_ble_eq_true rfl) (Nat.zero_le _) (Nat.zero_le _) (fun g19 => ?_)
      rw [egr]
      refine v_istore2 d_De_dealByRule_22 (by decide) rfl ?_
      refine v_iconst d_De_dealByRule_23 ?_
      refine v_istore3 d_De_dealByRule_24 (by decide) rfl ?_
      refine v_iconst d_De_dealByRule_25 ?_
      refine v_istore4 d_De_dealByRule_26 (by decide) rfl ?_
      exact c_De_dealByRule_28 hC1 hO h1 r1 rl (fun who hwho => c_De_dealByRule_62 hC hO h1 hσ (by omega) hR rfl hwho hi (fun m2 σ2 z1 z2 z3 => ih (j + 1) _ _ (by omega) z3 z1 z2)) (dP A set - 1).toNat 1 _ _ (by omega) (by omega) (by rw [neF, if_neg (by show ¬ (ruR A set j).2 0 < (ruR A set j).2 ((0 : Nat) : Int); exact Int.lt_irrefl _)]; rfl) (by omega)

theorem c_De_dealByRule {T : vSh} {σ : vMem} {A : Int → Int} (hC : CR σ A) (hO : okA A) {set : Int} (h1 : dlP A set) (hG : GaC σ A set) (hd : ∀ i, 0 ≤ i → i < dP A set → σ 51 i = dDue A set i) : mt_De_dealByRule [.ref 49] (S0 ++ T) σ (rP (S0 ++ T) (fun _ σ2 => (∀ k, k ≠ 51 → k ≠ 53 → σ2 k = σ k) ∧ RuC σ2 A set (ruR A set (dL A).toNat))) := by
  refine vMet.intro 4 (by decide +kernel) (Nat.le_of_ble_eq_true rfl) rfl (fun cx hM _ => ?_)
  have hP := dP_rng hO h1
  have hL := dL_rng A
  refine v_aload0 d_De_dealByRule_0 ?_
  refine v_getR d_De_dealByRule_1 f_De_21 (sh_49 T) rfl ?_
  refine v_iconst d_De_dealByRule_4 ?_
  refine v_gSV2 d_De_dealByRule_5 l_De_117 k_JArr_fill (c_JArr_fill (sh_53 T) (by decide) (by omega)) (by decide) (by decide) (Nat.le_of_ble_eq_true rfl) (Nat.zero_le _) (Nat.zero_le _) (fun z5 s5 e5 => ?_)
  refine v_iconst d_De_dealByRule_8 ?_
  refine v_istore1 d_De_dealByRule_9 (by decide) rfl ?_
  exact c_De_dealByRule_10 hC hO h1 hM (dL A).toNat 0 _ _ (by omega) rfl (fun k k1 k2 => e5.1 k k2) ⟨GaC_off (by rw [e5.1 49 (by decide)]) (by rw [e5.1 49 (by decide)]) (e5.1 50 (by decide)) (e5.1 52 (by decide)) hG, fun i i1 i2 => by rw [e5.1 51 (by decide)]; exact hd i i1 i2, fun k k1 k2 => by rw [e5.2 k, if_pos (by omega)]; rfl⟩

theorem c_De_keepIfLess_4 {T : vSh} {σ : vMem} {cx : vCx} {A : Int → Int} (hC : CR σ A) (hO : okA A) {set : Int} (h1 : dlP A set) (hG : GaC σ A set) (hl : ∀ i, 0 ≤ i → i < dP A set → -160000 ≤ σ 51 i ∧ σ 51 i ≤ 160000) (hM : vM cx 0 0 (none) (rP (S0 ++ T) (fun _ σ2 => (∀ k, k ≠ 49 → k ≠ 54 → σ2 k = σ k) ∧ (∀ f, f ≠ 9 → σ2 49 f = σ 49 f) ∧ (gapF A set (σ 51) (dP A set).toNat < σ 49 9 → σ2 49 9 = gapF A set (σ 51) (dP A set).toNat ∧ ∀ k, 0 ≤ k → k < dL A → σ2 54 k = σ 53 k) ∧ (¬ gapF A set (σ 51) (dP A set).toNat < σ 49 9 → σ2 = σ)))) : ∀ (n j : Nat) (g i : Int), (j : Int) + n = dP A set → i = j → g = gapF A set (σ 51) j → vV cx y_De_keepIfLess.cls prog_4_method_12_code 3 1 0 0 0 0 4 [some (.ref 49), some (.int (iI g)), some (.int (iI i))] [] (S0 ++ T) σ := by
  intro n
  induction n with
  | zero =>
    intro j g i hj hi hs
    obtain ⟨⟨q0, q1, q2, q3, q4, q5, q6, q7⟩, hVi, hWe, hCo, hOf, hBo, hWo, hMo, hRe, hLi, hTa⟩ := id hO
    have hP := dP_rng hO h1
    have hL := dL_rng A
    obtain ⟨⟨r1, r2⟩, rP, rK⟩ := id hG
    have hgr := gapF_rng (A := A) (set := set) (lk := σ 51) j (fun i i1 i2 => hl i i1 (by omega))
    refine v_iload2 d_De_keepIfLess_4 ?_
    refine v_aload0 d_De_keepIfLess_5 ?_
    refine v_getJ (ji := 4) d_De_keepIfLess_6 f_De_114 (sh_49 T) rfl rfl (fun g6 => ?_)
    refine v_icmp_ge d_De_keepIfLess_9 (by omega) (by omega) (fun u9 => ?_) (fun u9 => ?_)
    · refine v_iload1 d_De_keepIfLess_30 ?_
      refine v_aload0 d_De_keepIfLess_31 ?_
      refine v_getJ (ji := 9) d_De_keepIfLess_32 f_De_99 (sh_49 T) rfl rfl (fun g32 => ?_)
      refine v_icmp_ge d_De_keepIfLess_35 (by omega) (by omega) (fun u35 => ?_) (fun u35 => ?_)
      · have e9 : (dP A set).toNat = j := by omega
        exact v_return hM d_De_keepIfLess_60 ⟨rfl, fun _ _ _ => rfl, fun _ _ => rfl, fun z => by rw [e9] at z; omega, fun _ => rfl⟩
      · refine v_aload0 d_De_keepIfLess_38 ?_
        refine v_iload1 d_De_keepIfLess_39 ?_
        refine v_putJ (ji := 9) d_De_keepIfLess_40 p_De_99 (sh_49 T) rfl rfl (by omega) ?_
        refine v_aload0 d_De_keepIfLess_43 ?_
        refine v_getR d_De_keepIfLess_44 f_De_21 (sh_49 T) rfl ?_
        refine v_iconst d_De_keepIfLess_47 ?_
        refine v_aload0 d_De_keepIfLess_48 ?_
        refine v_getR d_De_keepIfLess_49 f_De_24 (sh_49 T) rfl ?_
        refine v_iconst d_De_keepIfLess_52 ?_
        refine v_aload0 d_De_keepIfLess_53 ?_
        refine v_getJ (ji := 8) d_De_keepIfLess_54 f_De_111 (sh_49 T) rfl rfl (fun g54 => ?_)
        have r8 : vUp σ 49 9 g 49 8 = dL A := by rw [vUp_ix (by decide)]; exact r2
        refine v_arraycopy (t := 0) (ty := .int) d_De_keepIfLess_57 lx_De_133 cw_acn cw_acs cw_aci (by decide) (sh_53 T) (sh_54 T) (by omega) (fun h => absurd h (by decide)) (by decide) (Nat.le_of_ble_eq_true rfl) ?_
        have e9 : (dP A set).toNat = j := by omega
        exact v_return hM d_De_keepIfLess_60 ⟨rfl, fun k k1 k2 => by rw [vCp_ne k2, vUp_ne k1], fun f hf => by rw [vCp_ne (by decide), vUp_ix hf], fun _ => ⟨by rw [vCp_ne (by decide), vUp_same, e9]; exact hs, fun k k1 k2 => by
          have r8 : vUp σ 49 9 g 49 8 = dL A := by rw [vUp_ix (by decide)]; exact r2
          unfold vCp
          rw [if_pos rfl, if_pos (by omega), vUp_ne (by decide)]⟩, fun z => by rw [e9] at z; omega⟩
    · omega
  | succ n ih =>
    intro j g i hj hi hs
    obtain ⟨⟨q0, q1, q2, q3, q4, q5, q6, q7⟩, hVi, hWe, hCo, hOf, hBo, hWo, hMo, hRe, hLi, hTa⟩ := id hO
    have hP := dP_rng hO h1
    have hL := dL_rng A
    obtain ⟨⟨r1, r2⟩, rP, rK⟩ := id hG
    have hgr := gapF_rng (A := A) (set := set) (lk := σ 51) j (fun i i1 i2 => hl i i1 (by omega))
    have hli := hl i (by omega) (by omega)
    have hva := vAb_rng (x := σ 51 i) (m := 160000) (by omega)
    refine v_iload2 d_De_keepIfLess_4 ?_
    refine v_aload0 d_De_keepIfLess_5 ?_
    refine v_getJ (ji := 4) d_De_keepIfLess_6 f_De_114 (sh_49 T) rfl rfl (fun g6 => ?_)
    refine v_icmp_ge d_De_keepIfLess_9 (by omega) (by omega) (fun u9 => ?_) (fun u9 => ?_)
    · omega
    · refine v_iload1 d_De_keepIfLess_12 ?_
      refine v_aload0 d_De_keepIfLess_13 ?_
      refine v_getR d_De_keepIfLess_14 f_De_15 (sh_49 T) rfl ?_
      refine v_iload2 d_De_keepIfLess_17 ?_
      refine v_iaload d_De_keepIfLess_18 (sh_51 T) (by omega) (fun g18 => ?_)
      refine v_abs d_De_keepIfLess_19 lx_De_64 cw_abss cw_mi cw_absc (by omega) (by decide) (Nat.le_of_ble_eq_true rfl) ?_
      refine v_iadd d_De_keepIfLess_22 ?_
      refine v_istore1 d_De_keepIfLess_23 (by decide) rfl ?_
      refine v_iinc2 d_De_keepIfLess_24 (by decide) rfl ?_
      refine v_goto d_De_keepIfLess_27 ?_
      exact ih (j + 1) _ _ (by omega) (by omega) (by rw [hs, hi]; rfl)

theorem c_De_keepIfLess {T : vSh} {σ : vMem} {A : Int → Int} (hC : CR σ A) (hO : okA A) {set : Int} (h1 : dlP A set) (hG : GaC σ A set) (hl : ∀ i, 0 ≤ i → i < dP A set → -160000 ≤ σ 51 i ∧ σ 51 i ≤ 160000) : mt_De_keepIfLess [.ref 49] (S0 ++ T) σ (rP (S0 ++ T) (fun _ σ2 => (∀ k, k ≠ 49 → k ≠ 54 → σ2 k = σ k) ∧ (∀ f, f ≠ 9 → σ2 49 f = σ 49 f) ∧ (gapF A set (σ 51) (dP A set).toNat < σ 49 9 → σ2 49 9 = gapF A set (σ 51) (dP A set).toNat ∧ ∀ k, 0 ≤ k → k < dL A → σ2 54 k = σ 53 k) ∧ (¬ gapF A set (σ 51) (dP A set).toNat < σ 49 9 → σ2 = σ))) := by
  refine vMet.intro 2 (by decide +kernel) (Nat.le_of_ble_eq_true rfl) rfl (fun cx hM _ => ?_)
  have hP := dP_rng hO h1
  have hL := dL_rng A
  refine v_iconst d_De_keepIfLess_0 ?_
  refine v_istore1 d_De_keepIfLess_1 (by decide) rfl ?_
  refine v_iconst d_De_keepIfLess_2 ?_
  refine v_istore2 d_De_keepIfLess_3 (by decide) rfl ?_
  exact c_De_keepIfLess_4 hC hO h1 hG hl hM (dP A set).toNat 0 _ _ (by omega) rfl rfl

