theorem c_M_ends_2 {T : vSh} {σ : vMem} {cx : vCx} {A : Int → Int} (hA : σ 56 = A) (hO : okA A) {s : Int} (h0 : 0 ≤ s ∧ s < 20) (hM : vM cx 0 0 none (rP (S0 ++ T) (fun _ σ2 => (∀ k, k ≠ 56 → σ2 k = σ k) ∧ σ2 56 = esA A s (A 0).toNat))) : ∀ (n j : Nat) (i : Int) (σ1 : vMem), (j : Int) + n = A 0 → i = j → (∀ k, k ≠ 56 → σ1 k = σ k) → σ1 56 = esA A s j → vV cx y_M_ends.cls prog_14_method_15_code 4 1 0 0 0 0 2 [some (.ref 55), some (.int (iI s)), some (.int (iI i)), none] [] (S0 ++ T) σ1 := by
  intro n
  induction n with
  | zero =>
    intro j i σ1 hj hi hσ hB
    obtain ⟨⟨q0, q1, q2, q3, q4, q5, q6, q7⟩, hVi, hWe, hCo, hOf, hBo, hWo, hMo, hRe, hLi, hTa⟩ := id hO
    have z0 : esA A s j 0 = A 0 := esA_off A s j (fun v _ _ => by omega)
    refine v_iload2 d_M_ends_2 ?_
    refine v_aload0 d_M_ends_3 ?_
    refine v_getR d_M_ends_4 f_M_7 (sh_55 T) rfl ?_
    refine v_iconst d_M_ends_7 ?_
    refine v_ialoadE hB d_M_ends_8 (sh_56 T) (by omega) (fun g8 => ?_)
    rw [z0] at g8
    rw [z0]
    refine v_icmp_ge d_M_ends_9 (by omega) (by omega) (fun u9 => ?_) (fun u9 => ?_)
    · exact v_return hM d_M_ends_94 ⟨rfl, hσ, by rw [hB, show (A 0).toNat = j by omega]⟩
    · omega
  | succ n ih =>
    intro j i σ1 hj hi hσ hB
    obtain ⟨⟨q0, q1, q2, q3, q4, q5, q6, q7⟩, hVi, hWe, hCo, hOf, hBo, hWo, hMo, hRe, hLi, hTa⟩ := id hO
    have z0 : esA A s j 0 = A 0 := esA_off A s j (fun v _ _ => by omega)
    have hvi := hVi i (by omega) (by omega)
    have hwe := hWe s (by omega) (by omega)
    have z1 : esA A s j (40 + 6 * i) = A (40 + 6 * i + 0) := by rw [esA_off A s j (fun v _ _ => by omega), Int.add_zero]
    have z3 : esA A s j (40 + 6 * i + 3) = A (40 + 6 * i + 3) := esA_off A s j (fun v _ _ => by omega)
    have z4 : esA A s j (40 + 6 * i + 4) = A (40 + 6 * i + 4) := esA_off A s j (fun v _ _ => by omega)
    have zs : esA A s j (20 + s) = A (20 + s) := esA_off A s j (fun v _ _ => by omega)
    have hcr := (crop_rng (paper := A (40 + 6 * i + 0)) (health := A (40 + 6 * i + 3)) (pct := A (20 + s)) (press := A (40 + 6 * i + 4)) (by omega) (by omega) (by omega) (by omega)).2.2.2
    have hhl := hlF_rng (A (40 + 6 * i + 3)) (A (40 + 6 * i + 4))
    refine v_iload2 d_M_ends_2 ?_
    refine v_aload0 d_M_ends_3 ?_
    refine v_getR d_M_ends_4 f_M_7 (sh_55 T) rfl ?_
    refine v_iconst d_M_ends_7 ?_
    refine v_ialoadE hB d_M_ends_8 (sh_56 T) (by omega) (fun g8 => ?_)
    rw [z0] at g8
    rw [z0]
    refine v_icmp_ge d_M_ends_9 (by omega) (by omega) (fun u9 => ?_) (fun u9 => ?_)
    · omega
    · refine v_bipush d_M_ends_12 rfl ?_
      refine v_bipush d_M_ends_14 rfl ?_
      refine v_iload2 d_M_ends_16 ?_
      refine v_imul d_M_ends_17 ?_
      refine v_iadd d_M_ends_18 ?_
      refine v_istore3 d_M_ends_19 (by decide) rfl ?_
      refine v_aload0 d_M_ends_20 ?_
      refine v_getR d_M_ends_21 f_M_7 (sh_55 T) rfl ?_
      refine v_bipush d_M_ends_24 rfl ?_
      refine v_bipush d_M_ends_26 rfl ?_
      refine v_iload2 d_M_ends_28 ?_
      refine v_imul d_M_ends_29 ?_
      refine v_iadd d_M_ends_30 ?_
      refine v_iload1 d_M_ends_31 ?_
      refine v_iadd d_M_ends_32 ?_
      refine v_aload0 d_M_ends_33 ?_
      refine v_aload0 d_M_ends_34 ?_
      refine v_getR d_M_ends_35 f_M_7 (sh_55 T) rfl ?_
      refine v_iload3 d_M_ends_38 ?_
      refine v_ialoadE hB d_M_ends_39 (sh_56 T) (by omega) (fun g39 => ?_)
      rw [z1] at g39
      rw [z1]
      refine v_aload0 d_M_ends_40 ?_
      refine v_getR d_M_ends_41 f_M_7 (sh_55 T) rfl ?_
      refine v_iload3 d_M_ends_44 ?_
      refine v_iconst d_M_ends_45 ?_
      refine v_iadd d_M_ends_46 ?_
      refine v_ialoadE hB d_M_ends_47 (sh_56 T) (by omega) (fun g47 => ?_)
      rw [z3] at g47
      rw [z3]
      refine v_iload1 d_M_ends_48 ?_
      refine v_aload0 d_M_ends_49 ?_
      refine v_getR d_M_ends_50 f_M_7 (sh_55 T) rfl ?_
      refine v_iload3 d_M_ends_53 ?_
      refine v_iconst d_M_ends_54 ?_
      refine v_iadd d_M_ends_55 ?_
      refine v_ialoadE hB d_M_ends_56 (sh_56 T) (by omega) (fun g56 => ?_)
      rw [z4] at g56
      rw [z4]
      refine v_fVI4 d_M_ends_57 l_M_68 k_M_gives (c_M_gives hB (by rw [zs]; omega) (by omega) (by omega) (by omega) (by omega)) (sh_55 T) rfl (by decide) (by decide) (Nat.le_of_ble_eq_true rfl) (Nat.zero_le _) (Nat.zero_le _) (fun g57 => ?_)
      rw [zs] at g57
      rw [zs]
      refine v_iastoreE hB d_M_ends_60 (sh_56 T) (by omega) (by omega) (fun m60 f60 hA60 => ?_)
      refine v_aload0 d_M_ends_61 ?_
      refine v_getR d_M_ends_62 f_M_7 (sh_55 T) rfl ?_
      refine v_iload3 d_M_ends_65 ?_
      refine v_iconst d_M_ends_66 ?_
      refine v_iadd d_M_ends_67 ?_
      refine v_aload0 d_M_ends_68 ?_
      refine v_getR d_M_ends_69 f_M_7 (sh_55 T) rfl ?_
      refine v_iload3 d_M_ends_72 ?_
      refine v_iconst d_M_ends_73 ?_
      refine v_iadd d_M_ends_74 ?_
      refine v_ialoadE hA60 d_M_ends_75 (sh_56 T) (by omega) (fun g75 => ?_)
      rw [upF_n (by omega), z3] at g75
      rw [upF_n (by omega), z3]
      refine v_aload0 d_M_ends_76 ?_
      refine v_getR d_M_ends_77 f_M_7 (sh_55 T) rfl ?_
      refine v_iload3 d_M_ends_80 ?_
      refine v_iconst d_M_ends_81 ?_
      refine v_iadd d_M_ends_82 ?_
      refine v_ialoadE hA60 d_M_ends_83 (sh_56 T) (by omega) (fun g83 => ?_)
      rw [upF_n (by omega), z4] at g83
      rw [upF_n (by omega), z4]
      refine v_fSI2 d_M_ends_84 l_M_72 k_M_healthAfter (c_M_healthAfter (by omega) (by omega)) (by decide) (by decide) (Nat.le_of_ble_eq_true rfl) (Nat.zero_le _) (Nat.zero_le _) (fun g84 => ?_)
      refine v_iastoreE hA60 d_M_ends_87 (sh_56 T) (by omega) (by omega) (fun m87 f87 hA87 => ?_)
      refine v_iinc2 d_M_ends_88 (by decide) rfl ?_
      refine v_goto d_M_ends_91 ?_
      refine v_drop3 ?_
      exact ih (j + 1) _ _ (by omega) (by omega) (fun k hk => by rw [f87 k hk, f60 k hk]; exact hσ k hk) (by rw [hA87, hi]; rfl)

theorem c_M_ends {T : vSh} {σ : vMem} {A : Int → Int} (hA : σ 56 = A) (hO : okA A) {s : Int} (h0 : 0 ≤ s ∧ s < 20) : mt_M_ends [.ref 55, .int (iI s)] (S0 ++ T) σ (rP (S0 ++ T) (fun _ σ2 => (∀ k, k ≠ 56 → σ2 k = σ k) ∧ σ2 56 = esA A s (A 0).toNat)) := by
  refine vMet.intro 2 (by decide +kernel) (Nat.le_of_ble_eq_true rfl) rfl (fun cx hM _ => ?_)
  obtain ⟨⟨q0, q1, q2, q3, q4, q5, q6, q7⟩, hVi, hWe, hCo, hOf, hBo, hWo, hMo, hRe, hLi, hTa⟩ := id hO
  refine v_iconst d_M_ends_0 ?_
  refine v_istore2 d_M_ends_1 (by decide) rfl ?_
  exact c_M_ends_2 hA hO h0 hM (A 0).toNat 0 _ _ (by omega) rfl (fun k _ => rfl) hA

