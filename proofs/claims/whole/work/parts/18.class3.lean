theorem c_Sc_reckon_65 {T : vSh} {σ : vMem} {cx : vCx} {A : Int → Int} (hC : CR σ A) (hO : okA A) {oo dd k : Int} (h0 : 0 ≤ oo ∧ oo < A 1) (h1 : 0 ≤ dd ∧ dd < 1200) (h2 : vIn k) (h3 : A (360 + 4 * oo + 2) ≤ dd) (hM : vM cx 0 0 none (rP (S0 ++ T) (fun _ σ2 => (∀ k, k ≠ 46 → σ2 k = σ k) ∧ scC σ2 (scF A oo dd k)))) {r lf : Int} (hr : r = reF A dd (A 3).toNat) (hr0 : 0 ≤ r) (hlf : lf = r * 16) : ∀ (n j : Nat) (li : Int) (σ1 : vMem), (j : Int) + n = A (10 + 2 * r + 1) → li = lf + j → (∀ k, k ≠ 46 → σ1 k = σ k) → lkC σ1 A oo dd k → scC σ1 (scS A oo dd k r j) → (scS A oo dd k r j).2.2.2.2 = 1 → vV cx y_Sc_reckon.cls prog_10_method_2_code 8 3 0 0 0 0 65 [some (.ref 46), some (.int (iI oo)), some (.int (iI dd)), some (.int (iI k)), some (.ref 20), some (.int (iI r)), some (.int (iI lf)), some (.int (iI li))] [] (S0 ++ T) σ1 := by
  intro n
  induction n with
  | zero =>
    intro j li σ1 hj hli hσ hk hp hgo
    obtain ⟨⟨q0, q1, q2, q3, q4, q5, q6, q7⟩, hVi, hWe, hCo, hOf, hBo, hWo, hMo, hRe, hLi, hTa⟩ := id hO
    obtain ⟨⟨l0, l1, lV, lC, lZ, lS⟩, ⟨b0, b1, bO, bB⟩, ⟨w0, wR, wL⟩, ⟨t0, t1, t2, tR, tB⟩, ⟨n9, nW⟩, m0, mM⟩ := id hC
    have hrr := reF_rng A dd (A 3).toNat
    have h9 := hRe r (by omega) (by omega)
    have hC1 : CR σ1 A := CR_46 hσ hC
    obtain ⟨-, -, ⟨z0, zR, zL⟩, -⟩ := id hC1
    have hy9 := zR r (by omega) (by omega)
    have hp9 := scS_rng A oo dd k r j (fun l' g1 g2 => hLi r l' (by omega) (by omega) g1 (by omega))
    refine v_iload7 d_Sc_reckon_65 ?_
    refine v_iload6 d_Sc_reckon_67 ?_
    refine v_aload4 d_Sc_reckon_69 ?_
    refine v_getR d_Sc_reckon_71 f_Sc_44 (sh_20 T) rfl ?_
    refine v_iload5 d_Sc_reckon_74 ?_
    refine v_iaload d_Sc_reckon_76 (sh_22 T) (by omega) (fun g76 => ?_)
    refine v_iadd d_Sc_reckon_77 ?_
    refine v_icmp_ge d_Sc_reckon_78 (by omega) (by omega) (fun u78 => ?_) (fun u78 => ?_)
    · exact v_return hM d_Sc_reckon_130 ⟨rfl, hσ, by rw [scF, if_neg (by omega), ← hr, show (A (10 + 2 * r + 1)).toNat = j by omega]; exact hp⟩
    · omega
  | succ n ih =>
    intro j li σ1 hj hli hσ hk hp hgo
    obtain ⟨⟨q0, q1, q2, q3, q4, q5, q6, q7⟩, hVi, hWe, hCo, hOf, hBo, hWo, hMo, hRe, hLi, hTa⟩ := id hO
    obtain ⟨⟨l0, l1, lV, lC, lZ, lS⟩, ⟨b0, b1, bO, bB⟩, ⟨w0, wR, wL⟩, ⟨t0, t1, t2, tR, tB⟩, ⟨n9, nW⟩, m0, mM⟩ := id hC
    have hrr := reF_rng A dd (A 3).toNat
    have h9 := hRe r (by omega) (by omega)
    have hC1 : CR σ1 A := CR_46 hσ hC
    obtain ⟨-, -, ⟨z0, zR, zL⟩, -⟩ := id hC1
    have hy9 := zR r (by omega) (by omega)
    have hp9 := scS_rng A oo dd k r j (fun l' g1 g2 => hLi r l' (by omega) (by omega) g1 (by omega))
    have hok := hLi r j (by omega) (by omega) (by omega) (by omega)
    obtain ⟨hl2, -, hl3, hl4, hl5, hl6, hl7⟩ := id hok
    obtain ⟨y1, y2, y3, y4⟩ := zL r j (by omega) (by omega) (by omega) (by omega)
    rw [show r * 16 + (j : Int) = li by omega] at y1 y2 y3 y4
    refine v_iload7 d_Sc_reckon_65 ?_
    refine v_iload6 d_Sc_reckon_67 ?_
    refine v_aload4 d_Sc_reckon_69 ?_
    refine v_getR d_Sc_reckon_71 f_Sc_44 (sh_20 T) rfl ?_
    refine v_iload5 d_Sc_reckon_74 ?_
    refine v_iaload d_Sc_reckon_76 (sh_22 T) (by omega) (fun g76 => ?_)
    refine v_iadd d_Sc_reckon_77 ?_
    refine v_icmp_ge d_Sc_reckon_78 (by omega) (by omega) (fun u78 => ?_) (fun u78 => ?_)
    · omega
    · refine v_aload0 d_Sc_reckon_81 ?_
      refine v_iload7 d_Sc_reckon_82 ?_
      refine v_fVZ1 d_Sc_reckon_84 l_Sc_48 k_Sc_allHold (c_Sc_allHold hC1 hO (r := r) (l := (j : Int)) (by omega) (by omega) (by omega) hk (by omega) (by omega) (by omega)) (sh_46 T) rfl (by decide) (by decide) (Nat.le_of_ble_eq_true rfl) (Nat.zero_le _) (Nat.zero_le _) (fun g84 => ?_)
      refine v_if_eq d_Sc_reckon_87 (by omega) (fun u87 => ?_) (fun u87 => ?_)
      · refine v_iinc7 d_Sc_reckon_124 (by decide) rfl ?_
        refine v_goto d_Sc_reckon_127 ?_
        exact ih (j + 1) _ _ (by omega) (by omega) hσ hk (by rw [scS, if_neg (by omega), if_pos (by omega)]; exact hp) (by rw [scS, if_neg (by omega), if_pos (by omega)]; exact hgo)
      · refine v_aload4 d_Sc_reckon_90 ?_
        refine v_getR d_Sc_reckon_92 f_Sc_52 (sh_20 T) rfl ?_
        refine v_iload7 d_Sc_reckon_95 ?_
        refine v_iaload d_Sc_reckon_97 (sh_23 T) (by omega) (fun g97 => ?_)
        refine v_bipush d_Sc_reckon_98 rfl ?_
        refine v_icmp_ne d_Sc_reckon_100 (by omega) (by omega) (fun u100 => ?_) (fun u100 => ?_)
        · refine v_aload0 d_Sc_reckon_104 ?_
          refine v_aload4 d_Sc_reckon_105 ?_
          refine v_getR d_Sc_reckon_107 f_Sc_52 (sh_20 T) rfl ?_
          refine v_iload7 d_Sc_reckon_110 ?_
          refine v_iaload d_Sc_reckon_112 (sh_23 T) (by omega) (fun g112 => ?_)
          refine v_aload4 d_Sc_reckon_113 ?_
          refine v_getR d_Sc_reckon_115 f_Sc_55 (sh_20 T) rfl ?_
          refine v_iload7 d_Sc_reckon_118 ?_
          refine v_iaload d_Sc_reckon_120 (sh_24 T) (by omega) (fun g120 => ?_)
          refine v_gVV2 d_Sc_reckon_121 l_Sc_58 k_Sc_obey (c_Sc_obey hp (by omega) (by omega) (by omega) (by omega)) (sh_46 T) rfl (by decide) (by decide) (Nat.le_of_ble_eq_true rfl) (Nat.zero_le _) (Nat.zero_le _) (fun z121 s121 e121 => ?_)
          refine v_iinc7 d_Sc_reckon_124 (by decide) rfl ?_
          refine v_goto d_Sc_reckon_127 ?_
          have esc : scS A oo dd k r (j + 1) = scA (scS A oo dd k r j) (A (1430 + 320 * r + 20 * (j : Int) + 17)) (A (1430 + 320 * r + 20 * (j : Int) + 18)) := by rw [scS, if_neg (by omega), if_neg (by omega)]
          have e5 := e121.2.2
          rw [y1, y2 (by omega), show A (1430 + 320 * r + 20 * (j : Int) + 17) - 17 + 17 = A (1430 + 320 * r + 20 * (j : Int) + 17) by omega, ← esc] at e5
          exact ih (j + 1) _ _ (by omega) (by omega) (fun k hk => by rw [e121.1 k hk]; exact hσ k hk) (by obtain ⟨f1, f2, f3, f4, f5, f6⟩ := hk; refine ⟨?_, ?_, ?_, ?_, ?_, ?_⟩ <;> (rw [e121.2.1 _ (by decide)]; assumption)) e5 (by rw [esc, scA_go (by omega)]; exact (b01_1 (by omega)).symm)
        · have esc : scS A oo dd k r (j + 1) = scA (scS A oo dd k r j) (A (1430 + 320 * r + 20 * (j : Int) + 17)) (A (1430 + 320 * r + 20 * (j : Int) + 18)) := by rw [scS, if_neg (by omega), if_neg (by omega)]
          have h25 : A (1430 + 320 * r + 20 * (j : Int) + 17) = 25 := by omega
          have e0 : (scS A oo dd k r (j + 1)).2.2.2.2 = 0 := by rw [esc, h25]; rfl
          exact v_return hM d_Sc_reckon_103 ⟨rfl, hσ, by
            rw [scF, if_neg (by omega), ← hr, scS_stop A oo dd k r e0 _ (by omega), esc, h25]
            exact hp⟩

theorem c_Sc_reckon {T : vSh} {σ : vMem} {A : Int → Int} (hC : CR σ A) (hO : okA A) {oo dd k : Int} (h0 : 0 ≤ oo ∧ oo < A 1) (h1 : 0 ≤ dd ∧ dd < 1200) (h2 : vIn k) (h3 : A (360 + 4 * oo + 2) ≤ dd) : mt_Sc_reckon [.ref 46, .int (iI oo), .int (iI dd), .int (iI k)] (S0 ++ T) σ (rP (S0 ++ T) (fun _ σ2 => (∀ k, k ≠ 46 → σ2 k = σ k) ∧ scC σ2 (scF A oo dd k))) := by
  refine vMet.intro 4 (by decide +kernel) (Nat.le_of_ble_eq_true rfl) rfl (fun cx hM _ => ?_)
  obtain ⟨⟨q0, q1, q2, q3, q4, q5, q6, q7⟩, hVi, hWe, hCo, hOf, hBo, hWo, hMo, hRe, hLi, hTa⟩ := id hO
  obtain ⟨⟨l0, l1, lV, lC, lZ, lS⟩, ⟨b0, b1, bO, bB⟩, ⟨w0, wR, wL⟩, ⟨t0, t1, t2, tR, tB⟩, ⟨n9, nW⟩, m0, mM⟩ := id hC
  refine v_aload0 d_Sc_reckon_0 ?_
  refine v_iconst d_Sc_reckon_1 ?_
  refine v_putJ (ji := 1) d_Sc_reckon_2 p_Sc_15 (sh_46 T) rfl rfl (by omega) ?_
  refine v_aload0 d_Sc_reckon_5 ?_
  refine v_bipush d_Sc_reckon_6 rfl ?_
  refine v_putJ (ji := 2) d_Sc_reckon_8 p_Sc_19 (sh_46 T) rfl rfl (by omega) ?_
  refine v_aload0 d_Sc_reckon_11 ?_
  refine v_iconst d_Sc_reckon_12 ?_
  refine v_putJ (ji := 3) d_Sc_reckon_13 p_Sc_22 (sh_46 T) rfl rfl (by omega) ?_
  refine v_aload0 d_Sc_reckon_16 ?_
  refine v_sipush d_Sc_reckon_17 rfl ?_
  refine v_putJ (ji := 4) d_Sc_reckon_20 p_Sc_25 (sh_46 T) rfl rfl (by omega) ?_
  have hσ : ∀ k, k ≠ 46 → (vUp (vUp (vUp (vUp σ 46 1 0) 46 2 12) 46 3 0) 46 4 150) k = σ k := fun k hk => by rw [vUp_ne hk, vUp_ne hk, vUp_ne hk, vUp_ne hk]
  have hC1 : CR (vUp (vUp (vUp (vUp σ 46 1 0) 46 2 12) 46 3 0) 46 4 150) A := CR_46 hσ hC
  refine v_aload0 d_Sc_reckon_23 ?_
  refine v_getR d_Sc_reckon_24 f_Sc_9 (sh_46 T) rfl ?_
  refine v_getR d_Sc_reckon_27 f_Sc_28 (sh_1 T) rfl ?_
  refine v_astore4 d_Sc_reckon_30 (by decide) rfl ?_
  refine v_aload4 d_Sc_reckon_32 ?_
  refine v_iload2 d_Sc_reckon_34 ?_
  refine v_fVI1 d_Sc_reckon_35 l_Sc_34 k_Lw_reignOn (c_Lw_reignOn hC1 hO (by omega)) (sh_20 T) rfl (by decide) (by decide) (Nat.le_of_ble_eq_true rfl) (Nat.zero_le _) (Nat.zero_le _) (fun g35 => ?_)
  have hrr := reF_rng A dd (A 3).toNat
  refine v_istore5 d_Sc_reckon_38 (by decide) rfl ?_
  refine v_iload5 d_Sc_reckon_40 ?_
  refine v_iconst d_Sc_reckon_42 ?_
  refine v_icmp_ne d_Sc_reckon_43 (by omega) (by omega) (fun u43 => ?_) (fun u43 => ?_)
  · refine v_aload0 d_Sc_reckon_47 ?_
    refine v_iload1 d_Sc_reckon_48 ?_
    refine v_iload2 d_Sc_reckon_49 ?_
    refine v_iload3 d_Sc_reckon_50 ?_
    refine v_gVV3 d_Sc_reckon_51 l_Sc_40 k_Sc_lookAt (c_Sc_lookAt hC1 hO (by omega) (by omega) (by omega) (by omega)) (sh_46 T) rfl (by decide) (by decide) (Nat.le_of_ble_eq_true rfl) (Nat.zero_le _) (Nat.zero_le _) (fun z51 s51 e51 => ?_)
    refine v_iload5 d_Sc_reckon_54 ?_
    refine v_bipush d_Sc_reckon_56 rfl ?_
    refine v_imul d_Sc_reckon_58 ?_
    refine v_istore6 d_Sc_reckon_59 (by decide) rfl ?_
    refine v_iload6 d_Sc_reckon_61 ?_
    refine v_istore7 d_Sc_reckon_63 (by decide) rfl ?_
    exact c_Sc_reckon_65 hC hO h0 h1 h2 h3 hM rfl (by omega) rfl (A (10 + 2 * reF A dd (A 3).toNat + 1)).toNat 0 _ _ (by have := hRe (reF A dd (A 3).toNat) (by omega) (by omega); omega) (by omega) (fun k hk => by rw [e51.1 k hk]; exact hσ k hk) e51.2.2 ⟨by rw [e51.2.1 _ (by decide)]; rfl, by rw [e51.2.1 _ (by decide)]; rfl, by rw [e51.2.1 _ (by decide)]; rfl, by rw [e51.2.1 _ (by decide)]; rfl⟩ rfl
  · exact v_return hM d_Sc_reckon_46 ⟨rfl, hσ, by rw [scF, if_pos (by omega)]; exact ⟨rfl, rfl, rfl, rfl⟩⟩

