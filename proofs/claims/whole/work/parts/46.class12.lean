theorem c_De_goToNextWay_7 {T : vSh} {σ : vMem} {cx : vCx} {A : Int → Int} (hC : CR σ A) (hO : okA A) {set : Int} (h1 : dlP A set) {ch : Int → Int} (hG : GaC σ A set) (hc : inCh A set ch) (hl : ∀ i, 0 ≤ i → i < dP A set → σ 51 i = lkB A set ch i) (hk : ∀ k, 0 ≤ k → k < dL A → σ 53 k = ch k) (hM : vM cx 0 0 (some .boolean) (rP (S0 ++ T) (fun z σ2 => z = (odF (dP A set) (dL A).toNat ch).2 ∧ (∀ k, k ≠ 51 → k ≠ 53 → σ2 k = σ k) ∧ (∀ i, 0 ≤ i → i < dP A set → σ2 51 i = lkB A set (odF (dP A set) (dL A).toNat ch).1 i) ∧ ∀ k, 0 ≤ k → k < dL A → σ2 53 k = (odF (dP A set) (dL A).toNat ch).1 k))) : ∀ (j : Nat) (i : Int) (σ1 : vMem) (c : Int → Int), (j : Int) ≤ dL A → i = (j : Int) - 1 → (∀ k, k ≠ 51 → k ≠ 53 → σ1 k = σ k) → inCh A set c → (∀ i, 0 ≤ i → i < dP A set → σ1 51 i = lkB A set c i) → (∀ k, 0 ≤ k → k < dL A → σ1 53 k = c k) → odF (dP A set) j c = (odF (dP A set) (dL A).toNat ch) → vV cx y_De_goToNextWay.cls prog_4_method_11_code 4 0 0 0 0 0 7 [some (.ref 49), some (.int (iI i)), none, none] [] (S0 ++ T) σ1 := by
  intro j
  induction j with
  | zero =>
    intro i σ1 c hj hi hσ hcc hll hkk ho
    have hP := dP_rng hO h1
    have hL := dL_rng A
    have hC1 : CR σ1 A := (show CF σ σ1 from ⟨fun k hk => hσ k (by omega) (by omega), by rw [hσ 38 (by decide) (by decide)]⟩).cr hC
    obtain ⟨⟨l0, l1, lV, lC, lZ, lS⟩, ⟨b0, b1, bO, bB⟩, ⟨w0, wR, wL⟩, ⟨t0, t1, t2, tR, tB⟩, ⟨n9, nW⟩, m0, mM⟩ := id hC1
    obtain ⟨⟨q0, q1, q2, q3, q4, q5, q6, q7⟩, hVi, hWe, hCo, hOf, hBo, hWo, hMo, hRe, hLi, hTa⟩ := id hO
    refine v_iload1 d_De_goToNextWay_7 ?_
    refine v_if_lt d_De_goToNextWay_8 (by omega) (fun u8 => ?_) (fun u8 => ?_)
    · refine v_iconst d_De_goToNextWay_110 ?_
      exact v_zreturn hM d_De_goToNextWay_111 (Or.inl rfl) ⟨rfl, by rw [← ho]; rfl, hσ, by rw [← ho]; exact hll, by rw [← ho]; exact hkk⟩
    · omega
  | succ j ih =>
    intro i σ1 c hj hi hσ hcc hll hkk ho
    have hP := dP_rng hO h1
    have hL := dL_rng A
    have hC1 : CR σ1 A := (show CF σ σ1 from ⟨fun k hk => hσ k (by omega) (by omega), by rw [hσ 38 (by decide) (by decide)]⟩).cr hC
    obtain ⟨⟨l0, l1, lV, lC, lZ, lS⟩, ⟨b0, b1, bO, bB⟩, ⟨w0, wR, wL⟩, ⟨t0, t1, t2, tR, tB⟩, ⟨n9, nW⟩, m0, mM⟩ := id hC1
    obtain ⟨⟨q0, q1, q2, q3, q4, q5, q6, q7⟩, hVi, hWe, hCo, hOf, hBo, hWo, hMo, hRe, hLi, hTa⟩ := id hO
    have hG1 : GaC σ1 A set := GaC_off (by rw [hσ 49 (by decide) (by decide)]) (by rw [hσ 49 (by decide) (by decide)]) (hσ 50 (by decide) (by decide)) (hσ 52 (by decide) (by decide)) hG
    obtain ⟨⟨r1, r2⟩, rP, rK⟩ := id hG1
    have hci := hcc i (by omega) (by omega)
    have hki := hkk i (by omega) (by omega)
    have hln := dLot_rng hO (k := i) (by omega)
    have hpn := dPa_rng hO (k := i) (by omega)
    have hlv := (lV (dLot A i) hln.1 hln.2).1
    have en : σ1 3 (σ1 52 i) = dPa A i := by rw [rK i (by omega) (by omega)]; exact hlv
    have eij : ((j : Nat) : Int) = i := by omega
    have el := rK i (by omega) (by omega)
    have hup : ∀ x q : Int, lkB A set (upF c i x) q = lkB A set c q + (if c i = q then dPa A i else 0) - (if x = q then dPa A i else 0) := fun x q => lkB_up set (by omega) q
    have hr9 : ∀ q : Int, 0 ≤ q → q < dP A set → σ1 51 q = lkB A set c q ∧ -69993 ≤ σ1 51 q ∧ σ1 51 q ≤ 159984 := fun q q1 q2 => ⟨hll q q1 q2, by rw [hll q q1 q2]; exact lkB_rng hO set c q⟩
    have h90 := hr9 0 (by omega) (by omega)
    refine v_iload1 d_De_goToNextWay_7 ?_
    refine v_if_lt d_De_goToNextWay_8 (by omega) (fun u8 => ?_) (fun u8 => ?_)
    · omega
    · refine v_aload0 d_De_goToNextWay_11 ?_
      refine v_getR d_De_goToNextWay_12 f_De_27 (sh_49 T) rfl ?_
      refine v_getR d_De_goToNextWay_15 f_De_35 (sh_1 T) rfl ?_
      refine v_getR d_De_goToNextWay_18 f_De_126 (sh_2 T) rfl ?_
      refine v_aload0 d_De_goToNextWay_21 ?_
      refine v_getR d_De_goToNextWay_22 f_De_18 (sh_49 T) rfl ?_
      refine v_iload1 d_De_goToNextWay_25 ?_
      refine v_iaload d_De_goToNextWay_26 (sh_52 T) (by omega) (fun g26 => ?_)
      refine v_iaload d_De_goToNextWay_27 (sh_3 T) (by omega) (fun g27 => ?_)
      refine v_istore2 d_De_goToNextWay_28 (by decide) rfl ?_
      refine v_aload0 d_De_goToNextWay_29 ?_
      refine v_getR d_De_goToNextWay_30 f_De_21 (sh_49 T) rfl ?_
      refine v_iload1 d_De_goToNextWay_33 ?_
      refine v_iaload d_De_goToNextWay_34 (sh_53 T) (by omega) (fun g34 => ?_)
      refine v_istore3 d_De_goToNextWay_35 (by decide) rfl ?_
      refine v_iload3 d_De_goToNextWay_36 ?_
      refine v_aload0 d_De_goToNextWay_37 ?_
      refine v_getJ (ji := 4) d_De_goToNextWay_38 f_De_114 (sh_49 T) rfl rfl (fun g38 => ?_)
      refine v_icmp_ge d_De_goToNextWay_41 (by omega) (by omega) (fun u41 => ?_) (fun u41 => ?_)
      · refine v_aload0 d_De_goToNextWay_87 ?_
        refine v_getR d_De_goToNextWay_88 f_De_21 (sh_49 T) rfl ?_
        refine v_iload1 d_De_goToNextWay_91 ?_
        refine v_iconst d_De_goToNextWay_92 ?_
        refine v_iastore d_De_goToNextWay_93 (sh_53 T) (by omega) (by omega) ?_
        refine v_aload0 d_De_goToNextWay_94 ?_
        refine v_getR d_De_goToNextWay_95 f_De_15 (sh_49 T) rfl ?_
        refine v_iconst d_De_goToNextWay_98 ?_
        refine v_dup2 d_De_goToNextWay_99 rfl rfl ?_
        refine v_iaload d_De_goToNextWay_100 (sh_51 T) (by omega) (fun g100 => ?_)
        have hq4 : vUp σ1 53 i 0 51 0 = σ1 51 0 := by rw [vUp_ne (by decide)]
        refine v_iload2 d_De_goToNextWay_101 ?_
        refine v_isub d_De_goToNextWay_102 ?_
        refine v_iastore d_De_goToNextWay_103 (sh_51 T) (by omega) (by omega) ?_
        refine v_iinc1 d_De_goToNextWay_104 (by decide) rfl ?_
        refine v_goto d_De_goToNextWay_107 ?_
        refine v_drop2 ?_
        refine v_drop3 ?_
        exact ih _ _ (upF c i 0) (by omega) (by omega) (fun k k1 k2 => by rw [vUp_ne k1, vUp_ne k2]; exact hσ k k1 k2) (fun k k1 k2 => by
          unfold upF
          split
          · omega
          · exact hcc k k1 k2) (fun q q1 q2 => by
          rw [hup 0 q]
          by_cases z : q = 0
          · subst z
            rw [vUp_same, vUp_ne (by decide), en, if_neg (by omega), if_pos rfl, h90.1]
            omega
          · rw [vUp_ix z, vUp_ne (by decide), if_neg (by omega), if_neg (fun w => z w.symm), (hr9 q q1 q2).1]
            omega) (fun k k1 k2 => by
          rw [vUp_ne (by decide)]
          by_cases z : k = i
          · rw [z, vUp_same, upF_s]
          · rw [vUp_ix z, upF_n z]; exact hkk k k1 k2) (by
          rw [← ho]
          show _ = (if c (j : Int) < dP A set then _ else _)
          rw [eij, if_neg (by omega)])
      · have hq1 := hr9 (σ1 53 i) (by omega) (by omega)
        refine v_aload0 d_De_goToNextWay_44 ?_
        refine v_getR d_De_goToNextWay_45 f_De_15 (sh_49 T) rfl ?_
        refine v_iload3 d_De_goToNextWay_48 ?_
        refine v_dup2 d_De_goToNextWay_49 rfl rfl ?_
        refine v_iaload d_De_goToNextWay_50 (sh_51 T) (by omega) (fun g50 => ?_)
        refine v_iload2 d_De_goToNextWay_51 ?_
        refine v_iadd d_De_goToNextWay_52 ?_
        refine v_iastore d_De_goToNextWay_53 (sh_51 T) (by omega) (by omega) ?_
        refine v_aload0 d_De_goToNextWay_54 ?_
        refine v_getR d_De_goToNextWay_55 f_De_21 (sh_49 T) rfl ?_
        refine v_iload1 d_De_goToNextWay_58 ?_
        refine v_iload3 d_De_goToNextWay_59 ?_
        refine v_iconst d_De_goToNextWay_60 ?_
        refine v_iadd d_De_goToNextWay_61 ?_
        refine v_iastore d_De_goToNextWay_62 (sh_53 T) (by omega) (by omega) ?_
        refine v_iload3 d_De_goToNextWay_63 ?_
        refine v_iconst d_De_goToNextWay_64 ?_
        refine v_iadd d_De_goToNextWay_65 ?_
        refine v_aload0 d_De_goToNextWay_66 ?_
        refine v_getJ (ji := 4) d_De_goToNextWay_67 f_De_114 (sh_49 T) rfl rfl (fun g67 => ?_)
        have hq5 : vUp (vUp σ1 51 (σ1 53 i) (σ1 51 (σ1 53 i) + σ1 3 (σ1 52 i))) 53 i (σ1 53 i + 1) 49 4 = σ1 49 4 := by rw [vUp_ne (by decide), vUp_ne (by decide)]
        refine v_icmp_ge d_De_goToNextWay_70 (by omega) (by omega) (fun u70 => ?_) (fun u70 => ?_)
        · refine v_iconst d_De_goToNextWay_85 ?_
          have ho2 : odF (dP A set) (j + 1) c = (upF c i (c i + 1), 1) := by show (if c (j : Int) < dP A set then _ else _) = _; rw [eij, if_pos (by omega)]
          rw [ho] at ho2
          exact v_zreturn hM d_De_goToNextWay_86 (Or.inr rfl) ⟨rfl, by rw [ho2], fun k k1 k2 => by rw [vUp_ne k2, vUp_ne k1]; exact hσ k k1 k2, fun q q1 q2 => by
            rw [ho2]
            dsimp only
            rw [hup (c i + 1) q, vUp_ne (by decide)]
            by_cases z : q = c i
            · rw [hki, z, vUp_same, if_pos rfl, if_neg (by omega), (hr9 (c i) (by omega) (by omega)).1, en]
              omega
            · rw [vUp_ix (by omega), if_neg (by omega), if_neg (by omega), (hr9 q q1 q2).1]
              omega, fun k k1 k2 => by
            rw [ho2]
            dsimp only
            by_cases z : k = i
            · rw [z, vUp_same, upF_s, hki]
            · rw [vUp_ix z, upF_n z, vUp_ne (by decide)]; exact hkk k k1 k2⟩
        · have hq2 := hr9 (σ1 53 i + 1) (by omega) (by omega)
          refine v_aload0 d_De_goToNextWay_73 ?_
          refine v_getR d_De_goToNextWay_74 f_De_15 (sh_49 T) rfl ?_
          refine v_iload3 d_De_goToNextWay_77 ?_
          refine v_iconst d_De_goToNextWay_78 ?_
          refine v_iadd d_De_goToNextWay_79 ?_
          refine v_dup2 d_De_goToNextWay_80 rfl rfl ?_
          refine v_iaload d_De_goToNextWay_81 (sh_51 T) (by omega) (fun g81 => ?_)
          have hq3 : vUp (vUp σ1 51 (σ1 53 i) (σ1 51 (σ1 53 i) + σ1 3 (σ1 52 i))) 53 i (σ1 53 i + 1) 51 (σ1 53 i + 1) = σ1 51 (σ1 53 i + 1) := by rw [vUp_ne (by decide), vUp_ix (by omega)]
          refine v_iload2 d_De_goToNextWay_82 ?_
          refine v_isub d_De_goToNextWay_83 ?_
          refine v_iastore d_De_goToNextWay_84 (sh_51 T) (by omega) (by omega) ?_
          refine v_iconst d_De_goToNextWay_85 ?_
          have ho2 : odF (dP A set) (j + 1) c = (upF c i (c i + 1), 1) := by show (if c (j : Int) < dP A set then _ else _) = _; rw [eij, if_pos (by omega)]
          rw [ho] at ho2
          exact v_zreturn hM d_De_goToNextWay_86 (Or.inr rfl) ⟨rfl, by rw [ho2], fun k k1 k2 => by rw [vUp_ne k1, vUp_ne k2, vUp_ne k1]; exact hσ k k1 k2, fun q q1 q2 => by
            rw [ho2]
            dsimp only
            rw [hup (c i + 1) q]
            by_cases z : q = c i
            · rw [vUp_ix (by omega), vUp_ne (by decide), hki, z, vUp_same, if_pos rfl, if_neg (by omega), (hr9 (c i) (by omega) (by omega)).1, en]
              omega
            · by_cases z2 : q = c i + 1
              · rw [hki, z2, vUp_same, vUp_ne (by decide), vUp_ix (by omega), if_neg (by omega), if_pos rfl, (hr9 (c i + 1) (by omega) (by omega)).1, en]
                omega
              · rw [vUp_ix (by omega), vUp_ne (by decide), vUp_ix (by omega), if_neg (by omega), if_neg (by omega), (hr9 q q1 q2).1]
                omega, fun k k1 k2 => by
            rw [ho2]
            dsimp only
            rw [vUp_ne (by decide)]
            by_cases z : k = i
            · rw [z, vUp_same, upF_s, hki]
            · rw [vUp_ix z, upF_n z, vUp_ne (by decide)]; exact hkk k k1 k2⟩

theorem c_De_goToNextWay {T : vSh} {σ : vMem} {A : Int → Int} (hC : CR σ A) (hO : okA A) {set : Int} (h1 : dlP A set) {ch : Int → Int} (hG : GaC σ A set) (hc : inCh A set ch) (hl : ∀ i, 0 ≤ i → i < dP A set → σ 51 i = lkB A set ch i) (hk : ∀ k, 0 ≤ k → k < dL A → σ 53 k = ch k) : mt_De_goToNextWay [.ref 49] (S0 ++ T) σ (rP (S0 ++ T) (fun z σ2 => z = (odF (dP A set) (dL A).toNat ch).2 ∧ (∀ k, k ≠ 51 → k ≠ 53 → σ2 k = σ k) ∧ (∀ i, 0 ≤ i → i < dP A set → σ2 51 i = lkB A set (odF (dP A set) (dL A).toNat ch).1 i) ∧ ∀ k, 0 ≤ k → k < dL A → σ2 53 k = (odF (dP A set) (dL A).toNat ch).1 k)) := by
  refine vMet.intro 3 (by decide +kernel) (Nat.le_of_ble_eq_true rfl) rfl (fun cx hM _ => ?_)
  have hP := dP_rng hO h1
  have hL := dL_rng A
  have r2 := hG.1.2
  refine v_aload0 d_De_goToNextWay_0 ?_
  refine v_getJ (ji := 8) d_De_goToNextWay_1 f_De_111 (sh_49 T) rfl rfl (fun g1 => ?_)
  refine v_iconst d_De_goToNextWay_4 ?_
  refine v_isub d_De_goToNextWay_5 ?_
  refine v_istore1 d_De_goToNextWay_6 (by decide) rfl ?_
  exact c_De_goToNextWay_7 hC hO h1 hG hc hl hk hM (dL A).toNat _ _ ch (by omega) (by omega) (fun k _ _ => rfl) hc hl hk rfl

theorem c_De_tryAllWays_53e {T : vSh} {σ σ1 : vMem} {cx : vCx} {A : Int → Int} (hC : CR σ A) (hO : okA A) {set : Int} (h1 : dlP A set) (hM : vM cx 0 0 none (rP (S0 ++ T) (fun _ σ2 => (∀ k, k ≠ 49 → k ≠ 51 → k ≠ 53 → k ≠ 54 → σ2 k = σ k) ∧ ShC σ2 A set (bsE A set)))) {mo w : Int} (hmo : mo = 0) (hw : 0 ≤ w ∧ w ≤ 16384) (hσ : (∀ k, k ≠ 49 → k ≠ 51 → k ≠ 53 → k ≠ 54 → σ1 k = σ k)) (hS : ShC σ1 A set (bsE A set)) : vV cx y_De_tryAllWays.cls prog_4_method_10_code 3 2 0 0 0 0 53 [some (.ref 49), some (.int (iI mo)), some (.int (iI w))] [] (S0 ++ T) σ1 := by
  refine v_iload2 d_De_tryAllWays_53 ?_
  refine v_sipush d_De_tryAllWays_54 rfl ?_
  refine v_icmp_ge d_De_tryAllWays_57 (by omega) (by omega) (fun u57 => ?_) (fun u57 => ?_)
  · exact v_return hM d_De_tryAllWays_79 ⟨rfl, hσ, hS⟩
  · refine v_iload1 d_De_tryAllWays_60 ?_
    refine v_if_eq d_De_tryAllWays_61 (by omega) (fun u61 => ?_) (fun u61 => ?_)
    · exact v_return hM d_De_tryAllWays_79 ⟨rfl, hσ, hS⟩
    · omega

theorem c_De_tryAllWays_53 {T : vSh} {σ : vMem} {cx : vCx} {A : Int → Int} (hC : CR σ A) (hO : okA A) {set : Int} (h1 : dlP A set) (hM : vM cx 0 0 none (rP (S0 ++ T) (fun _ σ2 => (∀ k, k ≠ 49 → k ≠ 51 → k ≠ 53 → k ≠ 54 → σ2 k = σ k) ∧ ShC σ2 A set (bsE A set)))) : ∀ (n : Nat) (mo w : Int) (σ1 : vMem) (ch : Int → Int) (b : BsT), mo = 1 → (0 ≤ w ∧ w + n = 16384) → twF (dP A set) (dL A).toNat - vlF (dP A set) ch (dL A).toNat ≤ (n : Int) → bsR A set n ch b = bsE A set → inCh A set ch → okBs A set b → BsC σ1 A set ch b → (∀ k, k ≠ 49 → k ≠ 51 → k ≠ 53 → k ≠ 54 → σ1 k = σ k) → vV cx y_De_tryAllWays.cls prog_4_method_10_code 3 2 0 0 0 0 53 [some (.ref 49), some (.int (iI mo)), some (.int (iI w))] [] (S0 ++ T) σ1 := by
  intro n
  induction n with
  | zero =>
    intro mo w σ1 ch b hmo hw hms hE hc hb hB hσ
    have hP := dP_rng hO h1
    have hL := dL_rng A
    have := vlF_rng (P := dP A set) (by omega) (dL A).toNat ch (fun k k1 k2 => hc k k1 (by omega))
    omega
  | succ n ih =>
    intro mo w σ1 ch b hmo hw hms hE hc hb hB hσ
    have hP := dP_rng hO h1
    have hL := dL_rng A
    have hC1 : CR σ1 A := (show CF σ σ1 from ⟨fun k hk => hσ k (by omega) (by omega) (by omega) (by omega), by rw [hσ 38 (by decide) (by decide) (by decide) (by decide)]⟩).cr hC
    refine v_iload2 d_De_tryAllWays_53 ?_
    refine v_sipush d_De_tryAllWays_54 rfl ?_
    refine v_icmp_ge d_De_tryAllWays_57 (by omega) (by omega) (fun u57 => ?_) (fun u57 => ?_)
    · omega
    · refine v_iload1 d_De_tryAllWays_60 ?_
      refine v_if_eq d_De_tryAllWays_61 (by omega) (fun u61 => ?_) (fun u61 => ?_)
      · omega
      · refine v_aload0 d_De_tryAllWays_64 ?_
        refine v_gVV0 d_De_tryAllWays_65 l_De_108 k_De_keepIfLess (c_De_keepIfLess hC1 hO h1 hB.1 (fun i i1 i2 => by have := lkB_rng hO set ch i; rw [hB.2.1 i i1 i2]; omega)) (sh_49 T) rfl (by decide) (by decide) (Nat.le_of_ble_eq_true rfl) (Nat.zero_le _) (Nat.zero_le _) (fun z65 s65 e65 => ?_)
        have egp : gapF A set (σ1 51) (dP A set).toNat = gpB A set ch := sm_congr _ (fun i i1 i2 => by rw [hB.2.1 i i1 (by omega)])
        have hgr := gpB_rng hO h1 ch
        rw [egp] at e65
        have hkb := bsK_ok hO h1 hc hb
        have hb1 := hb.1
        have hlg := hB.2.2.2.1
        have hBk : BsC s65 A set ch (bsK A set ch b) := by
          by_cases q : b.1 < 0 ∨ gpB A set ch < b.1
          · have hq : gpB A set ch < σ1 49 9 := by rw [hlg, lgF]; split <;> omega
            have a := e65.2.2.1 hq
            rw [bsK, if_pos q]
            refine ⟨GaC_off (e65.2.1 4 (by decide)) (e65.2.1 8 (by decide)) (e65.1 50 (by decide) (by decide)) (e65.1 52 (by decide) (by decide)) hB.1, by rw [e65.1 51 (by decide) (by decide)]; exact hB.2.1, by rw [e65.1 53 (by decide) (by decide)]; exact hB.2.2.1, by rw [a.1, lgF, if_neg (by dsimp only; omega)], fun _ k k1 k2 => by rw [a.2 k k1 k2]; exact hB.2.2.1 k k1 k2⟩
          · have hq : ¬ gpB A set ch < σ1 49 9 := by rw [hlg, lgF, if_neg (by omega)]; omega
            rw [bsK, if_neg q, e65.2.2.2 hq]
            exact hB
        have hC2 : CR s65 A := (show CF σ1 s65 from ⟨fun k hk => e65.1 k (by omega) (by omega), by rw [e65.1 38 (by decide) (by decide)]⟩).cr hC1
        refine v_aload0 d_De_tryAllWays_68 ?_
        refine v_gVZ0 d_De_tryAllWays_69 l_De_129 k_De_goToNextWay (c_De_goToNextWay hC2 hO h1 hBk.1 hc hBk.2.1 hBk.2.2.1) (sh_49 T) rfl (by decide) (by decide) (Nat.le_of_ble_eq_true rfl) (Nat.zero_le _) (Nat.zero_le _) (fun z69 s69 g69 e69 => ?_)
        refine v_istore1 d_De_tryAllWays_72 (by decide) rfl ?_
        refine v_iinc2 d_De_tryAllWays_73 (by decide) rfl ?_
        refine v_goto d_De_tryAllWays_76 ?_
        have hog := odF_rng (dP A set) (by omega) (dL A).toNat ch (fun k k1 k2 => hc k k1 (by omega))
        have f9 : ∀ k, k ≠ 49 → k ≠ 51 → k ≠ 53 → k ≠ 54 → s69 k = σ k := fun k k1 k2 k3 k4 => by rw [e69.2.1 k k2 k3, e65.1 k k1 k4]; exact hσ k k1 k2 k3 k4
        have hG9 : GaC s69 A set := GaC_off (by rw [e69.2.1 49 (by decide) (by decide)]) (by rw [e69.2.1 49 (by decide) (by decide)]) (e69.2.1 50 (by decide) (by decide)) (e69.2.1 52 (by decide) (by decide)) hBk.1
        rcases hog.2 with q | q
        · have hE2 : bsE A set = bsK A set ch b := by rw [← hE, bsR, if_neg (by omega)]
          exact c_De_tryAllWays_53e hC hO h1 hM (by rw [e69.1]; exact q) (by omega) f9 (by
            rw [hE2]
            exact ⟨hG9, by rw [e69.2.1 49 (by decide) (by decide), hBk.2.2.2.1, lgF, if_neg (by omega)], fun k k1 k2 => by rw [e69.2.1 54 (by decide) (by decide)]; exact hBk.2.2.2.2 hkb.2 k k1 k2⟩)
        · refine ih _ _ _ (odF (dP A set) (dL A).toNat ch).1 (bsK A set ch b) (by rw [e69.1]; exact q) (by omega) ?_ (by rw [← hE, bsR, if_pos q]) (fun k k1 k2 => hog.1 k k1 (by omega)) hkb.1 ⟨hG9, e69.2.2.1, e69.2.2.2, by rw [e69.2.1 49 (by decide) (by decide)]; exact hBk.2.2.2.1, by rw [e69.2.1 54 (by decide) (by decide)]; exact hBk.2.2.2.2⟩ f9
          have a := (odF_val (P := dP A set) (by omega) (dL A).toNat ch (fun k k1 k2 => hc k k1 (by omega))).1 q
          omega

theorem c_De_tryAllWays_2 {T : vSh} {σ : vMem} {cx : vCx} {A : Int → Int} (hC : CR σ A) (hO : okA A) {set : Int} (h1 : dlP A set) (hG : GaC σ A set) (hd : ∀ i, 0 ≤ i → i < dP A set → σ 51 i = dDue A set i) (hg : σ 49 9 = 1000000000) (hM : vM cx 0 0 none (rP (S0 ++ T) (fun _ σ2 => (∀ k, k ≠ 49 → k ≠ 51 → k ≠ 53 → k ≠ 54 → σ2 k = σ k) ∧ ShC σ2 A set (bsE A set)))) : ∀ (n j : Nat) (i : Int) (σ1 : vMem), (j : Int) + n = dL A → i = j → (∀ k, k ≠ 51 → k ≠ 53 → σ1 k = σ k) → (∀ i, 0 ≤ i → i < dP A set → σ1 51 i = dDue A set i - sm (fun k => if (0 : Int) = i then dPa A k else 0) j) → (∀ k, 0 ≤ k → k < (j : Int) → σ1 53 k = 0) → vV cx y_De_tryAllWays.cls prog_4_method_10_code 3 2 0 0 0 0 2 [some (.ref 49), some (.int (iI i)), none] [] (S0 ++ T) σ1 := by
  intro n
  induction n with
  | zero =>
    intro j i σ1 hj hi hσ hll hkk
    obtain ⟨⟨q0, q1, q2, q3, q4, q5, q6, q7⟩, hVi, hWe, hCo, hOf, hBo, hWo, hMo, hRe, hLi, hTa⟩ := id hO
    have hP := dP_rng hO h1
    have hL := dL_rng A
    have hC1 : CR σ1 A := (show CF σ σ1 from ⟨fun k hk => hσ k (by omega) (by omega), by rw [hσ 38 (by decide) (by decide)]⟩).cr hC
    obtain ⟨⟨l0, l1, lV, lC, lZ, lS⟩, ⟨b0, b1, bO, bB⟩, ⟨w0, wR, wL⟩, ⟨t0, t1, t2, tR, tB⟩, ⟨n9, nW⟩, m0, mM⟩ := id hC1
    have hG1 : GaC σ1 A set := GaC_off (by rw [hσ 49 (by decide) (by decide)]) (by rw [hσ 49 (by decide) (by decide)]) (hσ 50 (by decide) (by decide)) (hσ 52 (by decide) (by decide)) hG
    obtain ⟨⟨r1, r2⟩, rP, rK⟩ := id hG1
    refine v_iload1 d_De_tryAllWays_2 ?_
    refine v_aload0 d_De_tryAllWays_3 ?_
    refine v_getJ (ji := 8) d_De_tryAllWays_4 f_De_111 (sh_49 T) rfl rfl (fun g4 => ?_)
    refine v_icmp_ge d_De_tryAllWays_7 (by omega) (by omega) (fun u7 => ?_) (fun u7 => ?_)
    · refine v_iconst d_De_tryAllWays_49 ?_
      refine v_istore1 d_De_tryAllWays_50 (by decide) rfl ?_
      refine v_iconst d_De_tryAllWays_51 ?_
      refine v_istore2 d_De_tryAllWays_52 (by decide) rfl ?_
      exact c_De_tryAllWays_53 hC hO h1 hM 16384 _ _ _ (fun _ => 0) (-1, fun _ => 0) rfl (by omega) (by
        have a := twF_most hO h1
        have b := vlF_rng (P := dP A set) (by omega) (dL A).toNat (fun _ => 0) (fun k _ _ => by omega)
        omega) rfl (fun k _ _ => by show (0 : Int) ≤ 0 ∧ 0 ≤ dP A set; omega) ⟨by decide, fun k _ _ => by show (0 : Int) ≤ 0 ∧ 0 ≤ dP A set; omega⟩ ⟨hG1, fun x x1 x2 => by rw [hll x x1 x2, show j = (dL A).toNat by omega]; rfl, fun k k1 k2 => hkk k k1 (by omega), by rw [hσ 49 (by decide) (by decide), hg]; rfl, fun w => by exfalso; exact absurd w (by decide)⟩ (fun k _ k2 k3 _ => hσ k k2 k3)
    · omega
  | succ n ih =>
    intro j i σ1 hj hi hσ hll hkk
    obtain ⟨⟨q0, q1, q2, q3, q4, q5, q6, q7⟩, hVi, hWe, hCo, hOf, hBo, hWo, hMo, hRe, hLi, hTa⟩ := id hO
    have hP := dP_rng hO h1
    have hL := dL_rng A
    have hC1 : CR σ1 A := (show CF σ σ1 from ⟨fun k hk => hσ k (by omega) (by omega), by rw [hσ 38 (by decide) (by decide)]⟩).cr hC
    obtain ⟨⟨l0, l1, lV, lC, lZ, lS⟩, ⟨b0, b1, bO, bB⟩, ⟨w0, wR, wL⟩, ⟨t0, t1, t2, tR, tB⟩, ⟨n9, nW⟩, m0, mM⟩ := id hC1
    have hG1 : GaC σ1 A set := GaC_off (by rw [hσ 49 (by decide) (by decide)]) (by rw [hσ 49 (by decide) (by decide)]) (hσ 50 (by decide) (by decide)) (hσ 52 (by decide) (by decide)) hG
    obtain ⟨⟨r1, r2⟩, rP, rK⟩ := id hG1
    have hln := dLot_rng hO (k := i) (by omega)
    have hpn := dPa_rng hO (k := i) (by omega)
    have hlv := (lV (dLot A i) hln.1 hln.2).1
    have en : σ1 3 (σ1 52 i) = dPa A i := by rw [rK i (by omega) (by omega)]; exact hlv
    have h0 := hll 0 (by omega) (by omega)
    have hs0 := lkB_sm hO (fun _ => 0) 0 j (by omega)
    have hd0 := dDue_rng hO set 0
    have hq4 : vUp σ1 53 i 0 51 0 = σ1 51 0 := by rw [vUp_ne (by decide)]
    have en2 : vUp σ1 53 i 0 3 (vUp σ1 53 i 0 52 i) = dPa A i := by rw [vUp_ne (by decide), vUp_ne (by decide)]; exact en
    have el2 : vUp σ1 53 i 0 52 i = dLot A i := by rw [vUp_ne (by decide)]; exact rK i (by omega) (by omega)
    refine v_iload1 d_De_tryAllWays_2 ?_
    refine v_aload0 d_De_tryAllWays_3 ?_
    refine v_getJ (ji := 8) d_De_tryAllWays_4 f_De_111 (sh_49 T) rfl rfl (fun g4 => ?_)
    refine v_icmp_ge d_De_tryAllWays_7 (by omega) (by omega) (fun u7 => ?_) (fun u7 => ?_)
    · omega
    · refine v_aload0 d_De_tryAllWays_10 ?_
      refine v_getR d_De_tryAllWays_11 f_De_21 (sh_49 T) rfl ?_
      refine v_iload1 d_De_tryAllWays_14 ?_
      refine v_iconst d_De_tryAllWays_15 ?_
      refine v_iastore d_De_tryAllWays_16 (sh_53 T) (by omega) (by omega) ?_
      refine v_aload0 d_De_tryAllWays_17 ?_
      refine v_getR d_De_tryAllWays_18 f_De_15 (sh_49 T) rfl ?_
      refine v_iconst d_De_tryAllWays_21 ?_
      refine v_dup2 d_De_tryAllWays_22 rfl rfl ?_
      refine v_iaload d_De_tryAllWays_23 (sh_51 T) (by omega) (fun g23 => ?_)
      refine v_aload0 d_De_tryAllWays_24 ?_
      refine v_getR d_De_tryAllWays_25 f_De_27 (sh_49 T) rfl ?_
      refine v_getR d_De_tryAllWays_28 f_De_35 (sh_1 T) rfl ?_
      refine v_getR d_De_tryAllWays_31 f_De_126 (sh_2 T) rfl ?_
      refine v_aload0 d_De_tryAllWays_34 ?_
      refine v_getR d_De_tryAllWays_35 f_De_18 (sh_49 T) rfl ?_
      refine v_iload1 d_De_tryAllWays_38 ?_
      refine v_iaload d_De_tryAllWays_39 (sh_52 T) (by omega) (fun g39 => ?_)
      refine v_iaload d_De_tryAllWays_40 (sh_3 T) (by omega) (fun g40 => ?_)
      refine v_isub d_De_tryAllWays_41 ?_
      refine v_iastore d_De_tryAllWays_42 (sh_51 T) (by omega) (by omega) ?_
      refine v_iinc1 d_De_tryAllWays_43 (by decide) rfl ?_
      refine v_goto d_De_tryAllWays_46 ?_
      exact ih (j + 1) _ _ (by omega) (by omega) (fun k k1 k2 => by rw [vUp_ne k1, vUp_ne k2]; exact hσ k k1 k2) (fun x x1 x2 => by
        rw [sm, ← hi]
        by_cases z : x = 0
        · subst z
          rw [vUp_same, hq4, en2, if_pos rfl, h0]
          omega
        · rw [vUp_ix z, vUp_ne (by decide), if_neg (fun w => z w.symm), hll x x1 x2]
          omega) (fun k k1 k2 => by
        rw [vUp_ne (by decide)]
        by_cases z : k = i
        · rw [z, vUp_same]
        · rw [vUp_ix z]; exact hkk k k1 (by omega))

theorem c_De_tryAllWays {T : vSh} {σ : vMem} {A : Int → Int} (hC : CR σ A) (hO : okA A) {set : Int} (h1 : dlP A set) (hG : GaC σ A set) (hd : ∀ i, 0 ≤ i → i < dP A set → σ 51 i = dDue A set i) (hg : σ 49 9 = 1000000000) : mt_De_tryAllWays [.ref 49] (S0 ++ T) σ (rP (S0 ++ T) (fun _ σ2 => (∀ k, k ≠ 49 → k ≠ 51 → k ≠ 53 → k ≠ 54 → σ2 k = σ k) ∧ ShC σ2 A set (bsE A set))) := by
  refine vMet.intro 2 (by decide +kernel) (Nat.le_of_ble_eq_true rfl) rfl (fun cx hM _ => ?_)
  have hP := dP_rng hO h1
  have hL := dL_rng A
  have r2 := hG.1.2
  refine v_iconst d_De_tryAllWays_0 ?_
  refine v_istore1 d_De_tryAllWays_1 (by decide) rfl ?_
  exact c_De_tryAllWays_2 hC hO h1 hG hd hg hM (dL A).toNat 0 _ _ (by omega) rfl (fun k _ _ => rfl) (fun i i1 i2 => by rw [hd i i1 i2, sm]; omega) (fun k k1 k2 => by omega)

theorem c_De_share {T : vSh} {σ : vMem} {A : Int → Int} (hC : CR σ A) (hO : okA A) {set best : Int} (h0 : vIn set) (h1 : dlP A set) (hb : best = 0 ∨ best = 1) : mt_De_share [.ref 49, .int (iI set), .int (iI best)] (S0 ++ T) σ (rP (S0 ++ T) (fun _ σ2 => CF σ σ2 ∧ ShC σ2 A set (dlE A set best))) := by
  refine vMet.intro 0 (by decide +kernel) (Nat.le_of_ble_eq_true rfl) rfl (fun cx hM _ => ?_)
  obtain ⟨⟨q0, q1, q2, q3, q4, q5, q6, q7⟩, hVi, hWe, hCo, hOf, hBo, hWo, hMo, hRe, hLi, hTa⟩ := id hO
  obtain ⟨⟨l0, l1, lV, lC, lZ, lS⟩, ⟨b0, b1, bO, bB⟩, ⟨w0, wR, wL⟩, ⟨t0, t1, t2, tR, tB⟩, ⟨n9, nW⟩, m0, mM⟩ := id hC
  refine v_aload0 d_De_share_0 ?_
  refine v_iload1 d_De_share_1 ?_
  refine v_gVV1 d_De_share_2 l_De_91 k_De_gatherPeople (c_De_gatherPeople hC hO (by omega) h1) (sh_49 T) rfl (by decide) (by decide) (Nat.le_of_ble_eq_true rfl) (Nat.zero_le _) (Nat.zero_le _) (fun z2 s2 e2 => ?_)
  have hC2 := e2.1.cr hC
  refine v_aload0 d_De_share_5 ?_
  refine v_gVV0 d_De_share_6 l_De_95 k_De_gatherLots (c_De_gatherLots hC2 hO) (sh_49 T) rfl (by decide) (by decide) (Nat.le_of_ble_eq_true rfl) (Nat.zero_le _) (Nat.zero_le _) (fun z6 s6 e6 => ?_)
  have hC6 := (show CF s2 s6 from ⟨fun k hk => e6.1 k (by omega) (by omega), by rw [e6.1 38 (by decide) (by decide)]⟩).cr hC2
  have hG6 : GaC s6 A set := ⟨⟨by rw [e6.2.1 4 (by decide)]; exact e2.2.1, e6.2.2.1⟩, fun i i1 i2 => by rw [e6.1 50 (by decide) (by decide)]; exact (e2.2.2 i i1 i2).1, e6.2.2.2⟩
  refine v_aload0 d_De_share_9 ?_
  refine v_ldc d_De_share_10 c_De_98 ?_
  refine v_putJ (ji := 9) d_De_share_12 p_De_99 (sh_49 T) rfl rfl (by omega) ?_
  have hG7 : GaC (vUp s6 49 9 1000000000) A set := GaC_off (by rw [vUp_ix (by decide)]) (by rw [vUp_ix (by decide)]) (by rw [vUp_ne (by decide)]) (by rw [vUp_ne (by decide)]) hG6
  have hd7 : ∀ i, 0 ≤ i → i < dP A set → (vUp s6 49 9 1000000000) 51 i = dDue A set i := fun i i1 i2 => by rw [vUp_ne (by decide), e6.1 51 (by decide) (by decide)]; exact (e2.2.2 i i1 i2).2
  have hF7 : CF σ (vUp s6 49 9 1000000000) := e2.1.trans' ((show CF s2 s6 from ⟨fun k hk => e6.1 k (by omega) (by omega), by rw [e6.1 38 (by decide) (by decide)]⟩).trans' (CF_up (by omega)))
  have hC7 := hF7.cr hC
  refine v_iload2 d_De_share_15 ?_
  refine v_if_eq d_De_share_16 (by omega) (fun u16 => ?_) (fun u16 => ?_)
  · refine v_aload0 d_De_share_26 ?_
    refine v_gVV0 d_De_share_27 l_De_105 k_De_dealByRule (c_De_dealByRule hC7 hO h1 hG7 hd7) (sh_49 T) rfl (by decide) (by decide) (Nat.le_of_ble_eq_true rfl) (Nat.zero_le _) (Nat.zero_le _) (fun z27 s27 e27 => ?_)
    have hF27 : CF σ s27 := hF7.trans' ⟨fun k hk => e27.1 k (by omega) (by omega), by rw [e27.1 38 (by decide) (by decide)]⟩
    have hC27 := hF27.cr hC
    have hP := dP_rng hO h1
    have hL := dL_rng A
    have hok := ruR_ok hO (set := set) hP.1 (dL A).toNat (by omega)
    refine v_aload0 d_De_share_30 ?_
    refine v_gVV0 d_De_share_31 l_De_108 k_De_keepIfLess (c_De_keepIfLess hC27 hO h1 e27.2.1 (fun i i1 i2 => by have := hok.2.2 i i1 i2; rw [e27.2.2.1 i i1 i2]; omega)) (sh_49 T) rfl (by decide) (by decide) (Nat.le_of_ble_eq_true rfl) (Nat.zero_le _) (Nat.zero_le _) (fun z31 s31 e31 => ?_)
    have egp : gapF A set (s27 51) (dP A set).toNat = gapF A set (ruR A set (dL A).toNat).2 (dP A set).toNat := sm_congr _ (fun i i1 i2 => by rw [e27.2.2.1 i i1 (by omega)])
    have hgr := gapF_rng (A := A) (set := set) (lk := (ruR A set (dL A).toNat).2) (dP A set).toNat (fun i i1 i2 => by have := hok.2.2 i i1 (by omega); omega)
    have e9 : s27 49 9 = 1000000000 := by rw [e27.1 49 (by decide) (by decide), vUp_same]
    have a := e31.2.2.1 (by rw [egp, e9]; omega)
    exact v_return hM d_De_share_34 ⟨rfl, hF27.trans' ⟨fun k hk => e31.1 k (by omega) (by omega), by rw [e31.1 38 (by decide) (by decide)]⟩, by
      rw [dlE, if_pos (by omega)]
      exact ⟨GaC_off (e31.2.1 4 (by decide)) (e31.2.1 8 (by decide)) (e31.1 50 (by decide) (by decide)) (e31.1 52 (by decide) (by decide)) e27.2.1, by rw [a.1, egp], fun k k1 k2 => by rw [a.2 k k1 k2]; exact e27.2.2.2 k k1 k2⟩⟩
  · refine v_aload0 d_De_share_19 ?_
    refine v_gVV0 d_De_share_20 l_De_102 k_De_tryAllWays (c_De_tryAllWays hC7 hO h1 hG7 hd7 (by rw [vUp_same])) (sh_49 T) rfl (by decide) (by decide) (Nat.le_of_ble_eq_true rfl) (Nat.zero_le _) (Nat.zero_le _) (fun z20 s20 e20 => ?_)
    refine v_goto d_De_share_23 ?_
    exact v_return hM d_De_share_34 ⟨rfl, hF7.trans' ⟨fun k hk => e20.1 k (by omega) (by omega) (by omega) (by omega), by rw [e20.1 38 (by decide) (by decide) (by decide) (by decide)]⟩, by rw [dlE, if_neg (by omega)]; exact e20.2⟩

theorem c_De_receiverOf_2 {T : vSh} {σ : vMem} {cx : vCx} {A : Int → Int} (hC : CR σ A) (hO : okA A) {set v : Int} (h1 : dlP A set) (h2 : vIn v) {b : BsT} (hS : ShC σ A set b) (hch : ∀ k, 0 ≤ k → k < dL A → 0 ≤ b.2 k ∧ b.2 k ≤ dP A set) (hM : vM cx 0 0 (some .int) (rF (S0 ++ T) σ (dlR A set v b.2))) : ∀ (n j : Nat) (i : Int), (j : Int) + n = dL A → i = j → fst (fun k => dLot A k = v ∧ b.2 k < dP A set) j < 0 → vV cx y_De_receiverOf.cls prog_4_method_5_code 3 0 0 0 0 0 2 [some (.ref 49), some (.int (iI v)), some (.int (iI i))] [] (S0 ++ T) σ := by
  intro n
  induction n with
  | zero =>
    intro j i hj hi hz
    obtain ⟨⟨q0, q1, q2, q3, q4, q5, q6, q7⟩, hVi, hWe, hCo, hOf, hBo, hWo, hMo, hRe, hLi, hTa⟩ := id hO
    have hP := dP_rng hO h1
    have hL := dL_rng A
    obtain ⟨⟨⟨r1, r2⟩, rP, rK⟩, r9, rB⟩ := id hS
    refine v_iload2 d_De_receiverOf_2 ?_
    refine v_aload0 d_De_receiverOf_3 ?_
    refine v_getJ (ji := 8) d_De_receiverOf_4 f_De_111 (sh_49 T) rfl rfl (fun g4 => ?_)
    refine v_icmp_ge d_De_receiverOf_7 (by omega) (by omega) (fun u7 => ?_) (fun u7 => ?_)
    · refine v_iconst d_De_receiverOf_51 ?_
      exact v_ireturn hM d_De_receiverOf_52 (by omega) ⟨rfl, rfl, by rw [dlR, show (dL A).toNat = j by omega, if_pos hz]⟩
    · omega
  | succ n ih =>
    intro j i hj hi hz
    obtain ⟨⟨q0, q1, q2, q3, q4, q5, q6, q7⟩, hVi, hWe, hCo, hOf, hBo, hWo, hMo, hRe, hLi, hTa⟩ := id hO
    have hP := dP_rng hO h1
    have hL := dL_rng A
    obtain ⟨⟨⟨r1, r2⟩, rP, rK⟩, r9, rB⟩ := id hS
    have hki := rK i (by omega) (by omega)
    have hbi := rB i (by omega) (by omega)
    have hci := hch i (by omega) (by omega)
    have hli := dLot_rng hO (k := i) (by omega)
    refine v_iload2 d_De_receiverOf_2 ?_
    refine v_aload0 d_De_receiverOf_3 ?_
    refine v_getJ (ji := 8) d_De_receiverOf_4 f_De_111 (sh_49 T) rfl rfl (fun g4 => ?_)
    refine v_icmp_ge d_De_receiverOf_7 (by omega) (by omega) (fun u7 => ?_) (fun u7 => ?_)
    · omega
    · refine v_aload0 d_De_receiverOf_10 ?_
      refine v_getR d_De_receiverOf_11 f_De_18 (sh_49 T) rfl ?_
      refine v_iload2 d_De_receiverOf_14 ?_
      refine v_iaload d_De_receiverOf_15 (sh_52 T) (by omega) (fun g15 => ?_)
      refine v_iload1 d_De_receiverOf_16 ?_
      refine v_icmp_ne d_De_receiverOf_17 (by omega) (by omega) (fun u17 => ?_) (fun u17 => ?_)
      · refine v_iinc2 d_De_receiverOf_45 (by decide) rfl ?_
        refine v_goto d_De_receiverOf_48 ?_
        exact ih (j + 1) _ (by omega) (by omega) (fst_no _ hz (by rw [← hi]; omega))
      · refine v_aload0 d_De_receiverOf_20 ?_
        refine v_getR d_De_receiverOf_21 f_De_24 (sh_49 T) rfl ?_
        refine v_iload2 d_De_receiverOf_24 ?_
        refine v_iaload d_De_receiverOf_25 (sh_54 T) (by omega) (fun g25 => ?_)
        refine v_aload0 d_De_receiverOf_26 ?_
        refine v_getJ (ji := 4) d_De_receiverOf_27 f_De_114 (sh_49 T) rfl rfl (fun g27 => ?_)
        refine v_icmp_ge d_De_receiverOf_30 (by omega) (by omega) (fun u30 => ?_) (fun u30 => ?_)
        · refine v_iinc2 d_De_receiverOf_45 (by decide) rfl ?_
          refine v_goto d_De_receiverOf_48 ?_
          exact ih (j + 1) _ (by omega) (by omega) (fst_no _ hz (by rw [← hi]; omega))
        · refine v_aload0 d_De_receiverOf_33 ?_
          refine v_getR d_De_receiverOf_34 f_De_9 (sh_49 T) rfl ?_
          refine v_aload0 d_De_receiverOf_37 ?_
          refine v_getR d_De_receiverOf_38 f_De_24 (sh_49 T) rfl ?_
          refine v_iload2 d_De_receiverOf_41 ?_
          refine v_iaload d_De_receiverOf_42 (sh_54 T) (by omega) (fun g42 => ?_)
          refine v_iaload d_De_receiverOf_43 (sh_50 T) (by omega) (fun g43 => ?_)
          have e9 := fst_at (fun k => dLot A k = v ∧ b.2 k < dP A set) hz (by rw [← hi]; omega)
          have e8 := fst_stay (fun k => dLot A k = v ∧ b.2 k < dP A set) (m := j + 1) (by omega) (dL A).toNat (by omega)
          rw [e9] at e8
          have hw := rP (b.2 i) (by omega) (by omega)
          exact v_ireturn hM d_De_receiverOf_44 g43 ⟨rfl, rfl, by rw [dlR, e8, if_neg (by omega), ← hi, hbi]; exact hw⟩

theorem c_De_receiverOf {T : vSh} {σ : vMem} {A : Int → Int} (hC : CR σ A) (hO : okA A) {set v : Int} (h1 : dlP A set) (h2 : vIn v) {b : BsT} (hS : ShC σ A set b) (hch : ∀ k, 0 ≤ k → k < dL A → 0 ≤ b.2 k ∧ b.2 k ≤ dP A set) : mt_De_receiverOf [.ref 49, .int (iI v)] (S0 ++ T) σ (rF (S0 ++ T) σ (dlR A set v b.2)) := by
  refine vMet.intro 1 (by decide +kernel) (Nat.le_of_ble_eq_true rfl) rfl (fun cx hM _ => ?_)
  have hP := dP_rng hO h1
  have hL := dL_rng A
  refine v_iconst d_De_receiverOf_0 ?_
  refine v_istore2 d_De_receiverOf_1 (by decide) rfl ?_
  exact c_De_receiverOf_2 hC hO h1 h2 hS hch hM (dL A).toNat 0 _ (by omega) rfl (show (-1 : Int) < 0 by decide)

theorem c_V_deal {T : vSh} {σ : vMem} {A : Int → Int} (hC : CR σ A) (hO : okA A) {set best : Int} (h0 : vIn set) (hb : best = 0 ∨ best = 1) : mt_V_deal [.ref 0, .int (iI set), .int (iI best)] (S0 ++ T) σ (rP (S0 ++ T) (fun z σ2 => z = rDeal A set best ∧ CF σ σ2)) := by
  refine vMet.intro 0 (by decide +kernel) (Nat.le_of_ble_eq_true rfl) rfl (fun cx hM _ => ?_)
  obtain ⟨⟨q0, q1, q2, q3, q4, q5, q6, q7⟩, hVi, hWe, hCo, hOf, hBo, hWo, hMo, hRe, hLi, hTa⟩ := id hO
  obtain ⟨⟨l0, l1, lV, lC, lZ, lS⟩, ⟨b0, b1, bO, bB⟩, ⟨w0, wR, wL⟩, ⟨t0, t1, t2, tR, tB⟩, ⟨n9, nW⟩, m0, mM⟩ := id hC
  refine v_aload0 d_V_deal_0 ?_
  refine v_iload1 d_V_deal_1 ?_
  refine v_fVZ1 d_V_deal_2 l_V_259 k_V_canBeDealtTo (c_V_canBeDealtTo hC hO (by omega)) (sh_0 T) rfl (by decide) (by decide) (Nat.le_of_ble_eq_true rfl) (Nat.zero_le _) (Nat.zero_le _) (fun g2 => ?_)
  refine v_ifb_ne d_V_deal_5 (fun u5 => ?_) (fun u5 => ?_)
  · have hd9 : dlP A set := u5
    refine v_aload0 d_V_deal_10 ?_
    refine v_getR d_V_deal_11 f_V_58 (sh_0 T) rfl ?_
    refine v_iload1 d_V_deal_14 ?_
    refine v_iload2 d_V_deal_15 ?_
    refine v_gVV2 d_V_deal_16 l_V_262 k_De_share (c_De_share hC hO (by omega) hd9 (by omega)) (sh_49 T) rfl (by decide) (by decide) (Nat.le_of_ble_eq_true rfl) (Nat.zero_le _) (Nat.zero_le _) (fun z16 s16 e16 => ?_)
    refine v_aload0 d_V_deal_19 ?_
    refine v_getR d_V_deal_20 f_V_58 (sh_0 T) rfl ?_
    refine v_getJ (ji := 9) d_V_deal_23 f_V_266 (sh_49 T) rfl rfl (fun g23 => ?_)
    exact v_ireturn hM d_V_deal_26 g23 ⟨rfl, by rw [rDeal, if_pos hd9]; exact e16.2.2.1, e16.1⟩
  · refine v_iconst d_V_deal_8 ?_
    exact v_ireturn hM d_V_deal_9 (by omega) ⟨rfl, by rw [rDeal, if_neg u5], CF.rfl'⟩

theorem c_V_dealt {T : vSh} {σ : vMem} {A : Int → Int} (hC : CR σ A) (hO : okA A) {set best v : Int} (h0 : vIn set) (hb : best = 0 ∨ best = 1) (h2 : vIn v) : mt_V_dealt [.ref 0, .int (iI set), .int (iI best), .int (iI v)] (S0 ++ T) σ (rP (S0 ++ T) (fun z σ2 => z = rDealt A set best v ∧ CF σ σ2)) := by
  refine vMet.intro 0 (by decide +kernel) (Nat.le_of_ble_eq_true rfl) rfl (fun cx hM _ => ?_)
  obtain ⟨⟨q0, q1, q2, q3, q4, q5, q6, q7⟩, hVi, hWe, hCo, hOf, hBo, hWo, hMo, hRe, hLi, hTa⟩ := id hO
  obtain ⟨⟨l0, l1, lV, lC, lZ, lS⟩, ⟨b0, b1, bO, bB⟩, ⟨w0, wR, wL⟩, ⟨t0, t1, t2, tR, tB⟩, ⟨n9, nW⟩, m0, mM⟩ := id hC
  refine v_aload0 d_V_dealt_0 ?_
  refine v_iload1 d_V_dealt_1 ?_
  refine v_fVZ1 d_V_dealt_2 l_V_259 k_V_canBeDealtTo (c_V_canBeDealtTo hC hO (by omega)) (sh_0 T) rfl (by decide) (by decide) (Nat.le_of_ble_eq_true rfl) (Nat.zero_le _) (Nat.zero_le _) (fun g2 => ?_)
  refine v_ifb_ne d_V_dealt_5 (fun u5 => ?_) (fun u5 => ?_)
  · have hd9 : dlP A set := u5
    refine v_aload0 d_V_dealt_10 ?_
    refine v_getR d_V_dealt_11 f_V_58 (sh_0 T) rfl ?_
    refine v_iload1 d_V_dealt_14 ?_
    refine v_iload2 d_V_dealt_15 ?_
    refine v_gVV2 d_V_dealt_16 l_V_262 k_De_share (c_De_share hC hO (by omega) hd9 (by omega)) (sh_49 T) rfl (by decide) (by decide) (Nat.le_of_ble_eq_true rfl) (Nat.zero_le _) (Nat.zero_le _) (fun z16 s16 e16 => ?_)
    refine v_aload0 d_V_dealt_19 ?_
    refine v_getR d_V_dealt_20 f_V_58 (sh_0 T) rfl ?_
    refine v_iload3 d_V_dealt_23 ?_
    refine v_fVI1 d_V_dealt_24 l_V_269 k_De_receiverOf (c_De_receiverOf (e16.1.cr hC) hO hd9 h2 e16.2 (dlE_in hO hd9 best)) (sh_49 T) rfl (by decide) (by decide) (Nat.le_of_ble_eq_true rfl) (Nat.zero_le _) (Nat.zero_le _) (fun g24 => ?_)
    exact v_ireturn hM d_V_dealt_27 g24 ⟨rfl, by rw [rDealt, if_pos hd9], e16.1⟩
  · refine v_iconst d_V_dealt_8 ?_
    exact v_ireturn hM d_V_dealt_9 (by omega) ⟨rfl, by rw [rDealt, if_neg u5], CF.rfl'⟩

