theorem vMn_sh {t got most : Int} (h : t ≤ 0) : vMn got most = shF t got most := by unfold vMn shF; split <;> split <;> omega
theorem c_La_tryRule_13 {T : vSh} {σ : vMem} {cx : vCx} {A : Int → Int} (hC : CR σ A) (hO : okA A) {paper n0 t s w : Int} (h0 : (1 ≤ paper ∧ paper ≤ 9999) ∧ (1 ≤ n0 ∧ n0 ≤ 20) ∧ (0 ≤ t ∧ t ≤ 20) ∧ (50 ≤ s ∧ s ≤ 150) ∧ 0 ≤ w ∧ w ≤ 2) (hM : vM cx 0 0 (some .int) (rF (S0 ++ T) σ (rTried A paper n0 t s w))) : ∀ (n j : Nat) (h paid cr i : Int), (j : Int) + n = n0 → i = j → h = (triS A paper t s j).1 → paid = (triS A paper t s j).2.1 → cr = (triS A paper t s j).2.2 → vV cx y_La_tryRule.cls prog_5_method_9_code 13 2 0 0 0 0 13 [some (.ref 2), some (.int (iI paper)), some (.int (iI n0)), some (.int (iI t)), some (.int (iI s)), some (.int (iI w)), some (.int (iI h)), some (.int (iI paid)), some (.int (iI cr)), some (.int (iI i)), none, none, none] [] (S0 ++ T) σ := by
  intro n
  induction n with
  | zero =>
    intro j h paid cr i hj hi hh hp hc
    obtain ⟨⟨q0, q1, q2, q3, q4, q5, q6, q7⟩, hVi, hWe, hCo, hOf, hBo, hWo, hMo, hRe, hLi, hTa⟩ := id hO
    obtain ⟨⟨l0, l1, lV, lC, lZ, lS⟩, ⟨b0, b1, bO, bB⟩, ⟨w0, wR, wL⟩, ⟨t0, t1, t2, tR, tB⟩, ⟨n9, nW⟩, m0, mM⟩ := id hC
    have htr := triS_rng hO (t := t) h0.1 h0.2.2.2.1 j (by omega)
    refine v_iload9 d_La_tryRule_13 ?_
    refine v_iload2 d_La_tryRule_15 ?_
    refine v_icmp_ge d_La_tryRule_16 (by omega) (by omega) (fun u16 => ?_) (fun u16 => ?_)
    · refine v_iload5 d_La_tryRule_115 ?_
      refine v_if_ne d_La_tryRule_117 (by omega) (fun u117 => ?_) (fun u117 => ?_)
      · refine v_iload5 d_La_tryRule_125 ?_
        refine v_iconst d_La_tryRule_127 ?_
        refine v_icmp_ne d_La_tryRule_128 (by omega) (by omega) (fun u128 => ?_) (fun u128 => ?_)
        · refine v_iload8 d_La_tryRule_136 ?_
          exact v_ireturn hM d_La_tryRule_138 (by omega) ⟨rfl, rfl, by rw [rTried, if_pos h0, show n0.toNat = j by omega]; first | rw [if_pos (by omega), ← hp] | rw [if_neg (by omega), if_pos (by omega), ← hh] | rw [if_neg (by omega), if_neg (by omega), ← hc]⟩
        · refine v_iload6 d_La_tryRule_131 ?_
          refine v_goto d_La_tryRule_133 ?_
          exact v_ireturn hM d_La_tryRule_138 (by omega) ⟨rfl, rfl, by rw [rTried, if_pos h0, show n0.toNat = j by omega]; first | rw [if_pos (by omega), ← hp] | rw [if_neg (by omega), if_pos (by omega), ← hh] | rw [if_neg (by omega), if_neg (by omega), ← hc]⟩
      · refine v_iload7 d_La_tryRule_120 ?_
        refine v_goto d_La_tryRule_122 ?_
        exact v_ireturn hM d_La_tryRule_138 (by omega) ⟨rfl, rfl, by rw [rTried, if_pos h0, show n0.toNat = j by omega]; first | rw [if_pos (by omega), ← hp] | rw [if_neg (by omega), if_pos (by omega), ← hh] | rw [if_neg (by omega), if_neg (by omega), ← hc]⟩
    · omega
  | succ n ih =>
    intro j h paid cr i hj hi hh hp hc
    obtain ⟨⟨q0, q1, q2, q3, q4, q5, q6, q7⟩, hVi, hWe, hCo, hOf, hBo, hWo, hMo, hRe, hLi, hTa⟩ := id hO
    obtain ⟨⟨l0, l1, lV, lC, lZ, lS⟩, ⟨b0, b1, bO, bB⟩, ⟨w0, wR, wL⟩, ⟨t0, t1, t2, tR, tB⟩, ⟨n9, nW⟩, m0, mM⟩ := id hC
    have htr := triS_rng hO (t := t) h0.1 h0.2.2.2.1 j (by omega)
    have hone := tri_one hO (t := t) (i := i) h0.1 h0.2.2.2.1 (h := h) (by omega) (by omega)
    have hwe := hWe i (by omega) (by omega)
    have hls := lS i (by omega) (by omega)
    rw [← hls] at hone
    refine v_iload9 d_La_tryRule_13 ?_
    refine v_iload2 d_La_tryRule_15 ?_
    refine v_icmp_ge d_La_tryRule_16 (by omega) (by omega) (fun u16 => ?_) (fun u16 => ?_)
    · omega
    · refine v_iload3 d_La_tryRule_19 ?_
      refine v_if_le d_La_tryRule_20 (by omega) (fun u20 => ?_) (fun u20 => ?_)
      · refine v_bipush d_La_tryRule_38 rfl ?_
        refine v_istore10 d_La_tryRule_40 (by decide) rfl ?_
        first
        | have hsq : sqF t s i = 100 := if_neg (by omega)
        | have hsq : sqF t s i = s := if_pos (by omega)
        rw [hsq] at hone
        refine v_iload1 d_La_tryRule_42 ?_
        refine v_iload6 d_La_tryRule_43 ?_
        refine v_aload0 d_La_tryRule_45 ?_
        refine v_getR d_La_tryRule_46 f_La_30 (sh_2 T) rfl ?_
        refine v_iload9 d_La_tryRule_49 ?_
        refine v_iaload d_La_tryRule_51 (sh_9 T) (by omega) (fun g51 => ?_)
        refine v_iload10 d_La_tryRule_52 ?_
        refine v_fSI4 d_La_tryRule_54 l_La_50 k_La_crop (c_La_crop (by omega) (by omega) (by omega) (by omega)) (by decide) (by decide) (Nat.le_of_ble_eq_true rfl) (Nat.zero_le _) (Nat.zero_le _) (fun g54 => ?_)
        refine v_istore11 d_La_tryRule_57 (by decide) rfl ?_
        refine v_iload3 d_La_tryRule_59 ?_
        refine v_if_le d_La_tryRule_60 (by omega) (fun u60 => ?_) (fun u60 => ?_)
        · refine v_iload11 d_La_tryRule_68 ?_
          refine v_iload1 d_La_tryRule_70 ?_
          refine v_iload4 d_La_tryRule_71 ?_
          refine v_imul d_La_tryRule_73 ?_
          refine v_sipush d_La_tryRule_74 rfl ?_
          refine v_idiv d_La_tryRule_77 (by omega) (by omega) ?_
          refine v_min d_La_tryRule_78 lx_La_58 cw_mins cw_mi cw_minc (by omega) (by omega) (by decide) (Nat.le_of_ble_eq_true rfl) ?_
          refine v_istore12 d_La_tryRule_81 (by decide) rfl ?_
          first
          | rw [show shF t _ _ = _ from if_pos (by omega)] at hone
          | rw [← vMn_sh (by omega)] at hone
          refine v_iload7 d_La_tryRule_83 ?_
          refine v_iload12 d_La_tryRule_85 ?_
          refine v_iadd d_La_tryRule_87 ?_
          refine v_istore7 d_La_tryRule_88 (by decide) rfl ?_
          refine v_iload8 d_La_tryRule_90 ?_
          refine v_iload11 d_La_tryRule_92 ?_
          refine v_iload12 d_La_tryRule_94 ?_
          refine v_isub d_La_tryRule_96 ?_
          refine v_iadd d_La_tryRule_97 ?_
          refine v_istore8 d_La_tryRule_98 (by decide) rfl ?_
          refine v_iload6 d_La_tryRule_100 ?_
          refine v_iload10 d_La_tryRule_102 ?_
          refine v_fSI2 d_La_tryRule_104 l_La_54 k_La_healthAfter (c_La_healthAfter (by omega) (by omega)) (by decide) (by decide) (Nat.le_of_ble_eq_true rfl) (Nat.zero_le _) (Nat.zero_le _) (fun g104 => ?_)
          refine v_istore6 d_La_tryRule_107 (by decide) rfl ?_
          refine v_iinc9 d_La_tryRule_109 (by decide) rfl ?_
          refine v_goto d_La_tryRule_112 ?_
          refine v_drop10 ?_
          refine v_drop11 ?_
          refine v_drop12 ?_
          first
          | (exfalso; omega)
          | (have e9 : triS A paper t s (j + 1) = (hlF h 100, paid + cropF paper h (σ 9 i) 100, cr + (cropF paper h (σ 9 i) 100 - cropF paper h (σ 9 i) 100)) := by rw [triS, ← hi, ← hh, ← hp, ← hc, hsq, ← hls, show shF t (cropF paper h (σ 9 i) 100) (paper * s / 200) = cropF paper h (σ 9 i) 100 from if_pos (by omega)]
             exact ih (j + 1) _ _ _ _ (by omega) (by omega) (by rw [e9]) (by rw [e9]) (by rw [e9]))
          | (have e9 : triS A paper t s (j + 1) = (hlF h 100, paid + vMn (cropF paper h (σ 9 i) 100) (paper * s / 200), cr + (cropF paper h (σ 9 i) 100 - vMn (cropF paper h (σ 9 i) 100) (paper * s / 200))) := by rw [triS, ← hi, ← hh, ← hp, ← hc, hsq, ← hls, ← vMn_sh (by omega)]
             exact ih (j + 1) _ _ _ _ (by omega) (by omega) (by rw [e9]) (by rw [e9]) (by rw [e9]))
          | (have e9 : triS A paper t s (j + 1) = (hlF h s, paid + cropF paper h (σ 9 i) s, cr + (cropF paper h (σ 9 i) s - cropF paper h (σ 9 i) s)) := by rw [triS, ← hi, ← hh, ← hp, ← hc, hsq, ← hls, show shF t (cropF paper h (σ 9 i) s) (paper * s / 200) = cropF paper h (σ 9 i) s from if_pos (by omega)]
             exact ih (j + 1) _ _ _ _ (by omega) (by omega) (by rw [e9]) (by rw [e9]) (by rw [e9]))
          | (have e9 : triS A paper t s (j + 1) = (hlF h s, paid + vMn (cropF paper h (σ 9 i) s) (paper * s / 200), cr + (cropF paper h (σ 9 i) s - vMn (cropF paper h (σ 9 i) s) (paper * s / 200))) := by rw [triS, ← hi, ← hh, ← hp, ← hc, hsq, ← hls, ← vMn_sh (by omega)]
             exact ih (j + 1) _ _ _ _ (by omega) (by omega) (by rw [e9]) (by rw [e9]) (by rw [e9]))
        · refine v_iload11 d_La_tryRule_63 ?_
          refine v_goto d_La_tryRule_65 ?_
          refine v_istore12 d_La_tryRule_81 (by decide) rfl ?_
          first
          | rw [show shF t _ _ = _ from if_pos (by omega)] at hone
          | rw [← vMn_sh (by omega)] at hone
          refine v_iload7 d_La_tryRule_83 ?_
          refine v_iload12 d_La_tryRule_85 ?_
          refine v_iadd d_La_tryRule_87 ?_
          refine v_istore7 d_La_tryRule_88 (by decide) rfl ?_
          refine v_iload8 d_La_tryRule_90 ?_
          refine v_iload11 d_La_tryRule_92 ?_
          refine v_iload12 d_La_tryRule_94 ?_
          refine v_isub d_La_tryRule_96 ?_
          refine v_iadd d_La_tryRule_97 ?_
          refine v_istore8 d_La_tryRule_98 (by decide) rfl ?_
          refine v_iload6 d_La_tryRule_100 ?_
          refine v_iload10 d_La_tryRule_102 ?_
          refine v_fSI2 d_La_tryRule_104 l_La_54 k_La_healthAfter (c_La_healthAfter (by omega) (by omega)) (by decide) (by decide) (Nat.le_of_ble_eq_true rfl) (Nat.zero_le _) (Nat.zero_le _) (fun g104 => ?_)
          refine v_istore6 d_La_tryRule_107 (by decide) rfl ?_
          refine v_iinc9 d_La_tryRule_109 (by decide) rfl ?_
          refine v_goto d_La_tryRule_112 ?_
          refine v_drop10 ?_
          refine v_drop11 ?_
          refine v_drop12 ?_
          first
          | (exfalso; omega)
          | (have e9 : triS A paper t s (j + 1) = (hlF h 100, paid + cropF paper h (σ 9 i) 100, cr + (cropF paper h (σ 9 i) 100 - cropF paper h (σ 9 i) 100)) := by rw [triS, ← hi, ← hh, ← hp, ← hc, hsq, ← hls, show shF t (cropF paper h (σ 9 i) 100) (paper * s / 200) = cropF paper h (σ 9 i) 100 from if_pos (by omega)]
             exact ih (j + 1) _ _ _ _ (by omega) (by omega) (by rw [e9]) (by rw [e9]) (by rw [e9]))
          | (have e9 : triS A paper t s (j + 1) = (hlF h 100, paid + vMn (cropF paper h (σ 9 i) 100) (paper * s / 200), cr + (cropF paper h (σ 9 i) 100 - vMn (cropF paper h (σ 9 i) 100) (paper * s / 200))) := by rw [triS, ← hi, ← hh, ← hp, ← hc, hsq, ← hls, ← vMn_sh (by omega)]
             exact ih (j + 1) _ _ _ _ (by omega) (by omega) (by rw [e9]) (by rw [e9]) (by rw [e9]))
          | (have e9 : triS A paper t s (j + 1) = (hlF h s, paid + cropF paper h (σ 9 i) s, cr + (cropF paper h (σ 9 i) s - cropF paper h (σ 9 i) s)) := by rw [triS, ← hi, ← hh, ← hp, ← hc, hsq, ← hls, show shF t (cropF paper h (σ 9 i) s) (paper * s / 200) = cropF paper h (σ 9 i) s from if_pos (by omega)]
             exact ih (j + 1) _ _ _ _ (by omega) (by omega) (by rw [e9]) (by rw [e9]) (by rw [e9]))
          | (have e9 : triS A paper t s (j + 1) = (hlF h s, paid + vMn (cropF paper h (σ 9 i) s) (paper * s / 200), cr + (cropF paper h (σ 9 i) s - vMn (cropF paper h (σ 9 i) s) (paper * s / 200))) := by rw [triS, ← hi, ← hh, ← hp, ← hc, hsq, ← hls, ← vMn_sh (by omega)]
             exact ih (j + 1) _ _ _ _ (by omega) (by omega) (by rw [e9]) (by rw [e9]) (by rw [e9]))
      · have hm1 := Int.emod_nonneg i (show t ≠ 0 by omega)
        have hm2 := Int.emod_lt_of_pos i (show 0 < t by omega)
        refine v_iload9 d_La_tryRule_23 ?_
        refine v_iload3 d_La_tryRule_25 ?_
        refine v_iremN d_La_tryRule_26 (by omega) (by omega) ?_
        refine v_iload3 d_La_tryRule_27 ?_
        refine v_iconst d_La_tryRule_28 ?_
        refine v_isub d_La_tryRule_29 ?_
        refine v_icmp_ne d_La_tryRule_30 (by omega) (by omega) (fun u30 => ?_) (fun u30 => ?_)
        · refine v_bipush d_La_tryRule_38 rfl ?_
          refine v_istore10 d_La_tryRule_40 (by decide) rfl ?_
          first
          | have hsq : sqF t s i = 100 := if_neg (by omega)
          | have hsq : sqF t s i = s := if_pos (by omega)
          rw [hsq] at hone
          refine v_iload1 d_La_tryRule_42 ?_
          refine v_iload6 d_La_tryRule_43 ?_
          refine v_aload0 d_La_tryRule_45 ?_
          refine v_getR d_La_tryRule_46 f_La_30 (sh_2 T) rfl ?_
          refine v_iload9 d_La_tryRule_49 ?_
          refine v_iaload d_La_tryRule_51 (sh_9 T) (by omega) (fun g51 => ?_)
          refine v_iload10 d_La_tryRule_52 ?_
          refine v_fSI4 d_La_tryRule_54 l_La_50 k_La_crop (c_La_crop (by omega) (by omega) (by omega) (by omega)) (by decide) (by decide) (Nat.le_of_ble_eq_true rfl) (Nat.zero_le _) (Nat.zero_le _) (fun g54 => ?_)
          refine v_istore11 d_La_tryRule_57 (by decide) rfl ?_
          refine v_iload3 d_La_tryRule_59 ?_
          refine v_if_le d_La_tryRule_60 (by omega) (fun u60 => ?_) (fun u60 => ?_)
          · refine v_iload11 d_La_tryRule_68 ?_
            refine v_iload1 d_La_tryRule_70 ?_
            refine v_iload4 d_La_tryRule_71 ?_
            refine v_imul d_La_tryRule_73 ?_
            refine v_sipush d_La_tryRule_74 rfl ?_
            refine v_idiv d_La_tryRule_77 (by omega) (by omega) ?_
            refine v_min d_La_tryRule_78 lx_La_58 cw_mins cw_mi cw_minc (by omega) (by omega) (by decide) (Nat.le_of_ble_eq_true rfl) ?_
            refine v_istore12 d_La_tryRule_81 (by decide) rfl ?_
            first
            | rw [show shF t _ _ = _ from if_pos (by omega)] at hone
            | rw [← vMn_sh (by omega)] at hone
            refine v_iload7 d_La_tryRule_83 ?_
            refine v_iload12 d_La_tryRule_85 ?_
            refine v_iadd d_La_tryRule_87 ?_
            refine v_istore7 d_La_tryRule_88 (by decide) rfl ?_
            refine v_iload8 d_La_tryRule_90 ?_
            refine v_iload11 d_La_tryRule_92 ?_
            refine v_iload12 d_La_tryRule_94 ?_
            refine v_isub d_La_tryRule_96 ?_
            refine v_iadd d_La_tryRule_97 ?_
            refine v_istore8 d_La_tryRule_98 (by decide) rfl ?_
            refine v_iload6 d_La_tryRule_100 ?_
            refine v_iload10 d_La_tryRule_102 ?_
            refine v_fSI2 d_La_tryRule_104 l_La_54 k_La_healthAfter (c_La_healthAfter (by omega) (by omega)) (by decide) (by decide) (Nat.le_of_ble_eq_true rfl) (Nat.zero_le _) (Nat.zero_le _) (fun g104 => ?_)
            refine v_istore6 d_La_tryRule_107 (by decide) rfl ?_
            refine v_iinc9 d_La_tryRule_109 (by decide) rfl ?_
            refine v_goto d_La_tryRule_112 ?_
            refine v_drop10 ?_
            refine v_drop11 ?_
            refine v_drop12 ?_
            first
            | (exfalso; omega)
            | (have e9 : triS A paper t s (j + 1) = (hlF h 100, paid + cropF paper h (σ 9 i) 100, cr + (cropF paper h (σ 9 i) 100 - cropF paper h (σ 9 i) 100)) := by rw [triS, ← hi, ← hh, ← hp, ← hc, hsq, ← hls, show shF t (cropF paper h (σ 9 i) 100) (paper * s / 200) = cropF paper h (σ 9 i) 100 from if_pos (by omega)]
               exact ih (j + 1) _ _ _ _ (by omega) (by omega) (by rw [e9]) (by rw [e9]) (by rw [e9]))
            | (have e9 : triS A paper t s (j + 1) = (hlF h 100, paid + vMn (cropF paper h (σ 9 i) 100) (paper * s / 200), cr + (cropF paper h (σ 9 i) 100 - vMn (cropF paper h (σ 9 i) 100) (paper * s / 200))) := by rw [triS, ← hi, ← hh, ← hp, ← hc, hsq, ← hls, ← vMn_sh (by omega)]
               exact ih (j + 1) _ _ _ _ (by omega) (by omega) (by rw [e9]) (by rw [e9]) (by rw [e9]))
            | (have e9 : triS A paper t s (j + 1) = (hlF h s, paid + cropF paper h (σ 9 i) s, cr + (cropF paper h (σ 9 i) s - cropF paper h (σ 9 i) s)) := by rw [triS, ← hi, ← hh, ← hp, ← hc, hsq, ← hls, show shF t (cropF paper h (σ 9 i) s) (paper * s / 200) = cropF paper h (σ 9 i) s from if_pos (by omega)]
               exact ih (j + 1) _ _ _ _ (by omega) (by omega) (by rw [e9]) (by rw [e9]) (by rw [e9]))
            | (have e9 : triS A paper t s (j + 1) = (hlF h s, paid + vMn (cropF paper h (σ 9 i) s) (paper * s / 200), cr + (cropF paper h (σ 9 i) s - vMn (cropF paper h (σ 9 i) s) (paper * s / 200))) := by rw [triS, ← hi, ← hh, ← hp, ← hc, hsq, ← hls, ← vMn_sh (by omega)]
               exact ih (j + 1) _ _ _ _ (by omega) (by omega) (by rw [e9]) (by rw [e9]) (by rw [e9]))
          · refine v_iload11 d_La_tryRule_63 ?_
            refine v_goto d_La_tryRule_65 ?_
            refine v_istore12 d_La_tryRule_81 (by decide) rfl ?_
            first
            | rw [show shF t _ _ = _ from if_pos (by omega)] at hone
            | rw [← vMn_sh (by omega)] at hone
            refine v_iload7 d_La_tryRule_83 ?_
            refine v_iload12 d_La_tryRule_85 ?_
            refine v_iadd d_La_tryRule_87 ?_
            refine v_istore7 d_La_tryRule_88 (by decide) rfl ?_
            refine v_iload8 d_La_tryRule_90 ?_
            refine v_iload11 d_La_tryRule_92 ?_
            refine v_iload12 d_La_tryRule_94 ?_
            refine v_isub d_La_tryRule_96 ?_
            refine v_iadd d_La_tryRule_97 ?_
            refine v_istore8 d_La_tryRule_98 (by decide) rfl ?_
            refine v_iload6 d_La_tryRule_100 ?_
            refine v_iload10 d_La_tryRule_102 ?_
            refine v_fSI2 d_La_tryRule_104 l_La_54 k_La_healthAfter (c_La_healthAfter (by omega) (by omega)) (by decide) (by decide) (Nat.le_of_ble_eq_true rfl) (Nat.zero_le _) (Nat.zero_le _) (fun g104 => ?_)
            refine v_istore6 d_La_tryRule_107 (by decide) rfl ?_
            refine v_iinc9 d_La_tryRule_109 (by decide) rfl ?_
            refine v_goto d_La_tryRule_112 ?_
            refine v_drop10 ?_
            refine v_drop11 ?_
            refine v_drop12 ?_
            first
            | (exfalso; omega)
            | (have e9 : triS A paper t s (j + 1) = (hlF h 100, paid + cropF paper h (σ 9 i) 100, cr + (cropF paper h (σ 9 i) 100 - cropF paper h (σ 9 i) 100)) := by rw [triS, ← hi, ← hh, ← hp, ← hc, hsq, ← hls, show shF t (cropF paper h (σ 9 i) 100) (paper * s / 200) = cropF paper h (σ 9 i) 100 from if_pos (by omega)]
               exact ih (j + 1) _ _ _ _ (by omega) (by omega) (by rw [e9]) (by rw [e9]) (by rw [e9]))
            | (have e9 : triS A paper t s (j + 1) = (hlF h 100, paid + vMn (cropF paper h (σ 9 i) 100) (paper * s / 200), cr + (cropF paper h (σ 9 i) 100 - vMn (cropF paper h (σ 9 i) 100) (paper * s / 200))) := by rw [triS, ← hi, ← hh, ← hp, ← hc, hsq, ← hls, ← vMn_sh (by omega)]
               exact ih (j + 1) _ _ _ _ (by omega) (by omega) (by rw [e9]) (by rw [e9]) (by rw [e9]))
            | (have e9 : triS A paper t s (j + 1) = (hlF h s, paid + cropF paper h (σ 9 i) s, cr + (cropF paper h (σ 9 i) s - cropF paper h (σ 9 i) s)) := by rw [triS, ← hi, ← hh, ← hp, ← hc, hsq, ← hls, show shF t (cropF paper h (σ 9 i) s) (paper * s / 200) = cropF paper h (σ 9 i) s from if_pos (by omega)]
               exact ih (j + 1) _ _ _ _ (by omega) (by omega) (by rw [e9]) (by rw [e9]) (by rw [e9]))
            | (have e9 : triS A paper t s (j + 1) = (hlF h s, paid + vMn (cropF paper h (σ 9 i) s) (paper * s / 200), cr + (cropF paper h (σ 9 i) s - vMn (cropF paper h (σ 9 i) s) (paper * s / 200))) := by rw [triS, ← hi, ← hh, ← hp, ← hc, hsq, ← hls, ← vMn_sh (by omega)]
               exact ih (j + 1) _ _ _ _ (by omega) (by omega) (by rw [e9]) (by rw [e9]) (by rw [e9]))
        · refine v_iload4 d_La_tryRule_33 ?_
          refine v_goto d_La_tryRule_35 ?_
          refine v_istore10 d_La_tryRule_40 (by decide) rfl ?_
          first
          | have hsq : sqF t s i = 100 := if_neg (by omega)
          | have hsq : sqF t s i = s := if_pos (by omega)
          rw [hsq] at hone
          refine v_iload1 d_La_tryRule_42 ?_
          refine v_iload6 d_La_tryRule_43 ?_
          refine v_aload0 d_La_tryRule_45 ?_
          refine v_getR d_La_tryRule_46 f_La_30 (sh_2 T) rfl ?_
          refine v_iload9 d_La_tryRule_49 ?_
          refine v_iaload d_La_tryRule_51 (sh_9 T) (by omega) (fun g51 => ?_)
          refine v_iload10 d_La_tryRule_52 ?_
          refine v_fSI4 d_La_tryRule_54 l_La_50 k_La_crop (c_La_crop (by omega) (by omega) (by omega) (by omega)) (by decide) (by decide) (Nat.le_of_ble_eq_true rfl) (Nat.zero_le _) (Nat.zero_le _) (fun g54 => ?_)
          refine v_istore11 d_La_tryRule_57 (by decide) rfl ?_
          refine v_iload3 d_La_tryRule_59 ?_
          refine v_if_le d_La_tryRule_60 (by omega) (fun u60 => ?_) (fun u60 => ?_)
          · refine v_iload11 d_La_tryRule_68 ?_
            refine v_iload1 d_La_tryRule_70 ?_
            refine v_iload4 d_La_tryRule_71 ?_
            refine v_imul d_La_tryRule_73 ?_
            refine v_sipush d_La_tryRule_74 rfl ?_
            refine v_idiv d_La_tryRule_77 (by omega) (by omega) ?_
            refine v_min d_La_tryRule_78 lx_La_58 cw_mins cw_mi cw_minc (by omega) (by omega) (by decide) (Nat.le_of_ble_eq_true rfl) ?_
            refine v_istore12 d_La_tryRule_81 (by decide) rfl ?_
            first
            | rw [show shF t _ _ = _ from if_pos (by omega)] at hone
            | rw [← vMn_sh (by omega)] at hone
            refine v_iload7 d_La_tryRule_83 ?_
            refine v_iload12 d_La_tryRule_85 ?_
            refine v_iadd d_La_tryRule_87 ?_
            refine v_istore7 d_La_tryRule_88 (by decide) rfl ?_
            refine v_iload8 d_La_tryRule_90 ?_
            refine v_iload11 d_La_tryRule_92 ?_
            refine v_iload12 d_La_tryRule_94 ?_
            refine v_isub d_La_tryRule_96 ?_
            refine v_iadd d_La_tryRule_97 ?_
            refine v_istore8 d_La_tryRule_98 (by decide) rfl ?_
            refine v_iload6 d_La_tryRule_100 ?_
            refine v_iload10 d_La_tryRule_102 ?_
            refine v_fSI2 d_La_tryRule_104 l_La_54 k_La_healthAfter (c_La_healthAfter (by omega) (by omega)) (by decide) (by decide) (Nat.le_of_ble_eq_true rfl) (Nat.zero_le _) (Nat.zero_le _) (fun g104 => ?_)
            refine v_istore6 d_La_tryRule_107 (by decide) rfl ?_
            refine v_iinc9 d_La_tryRule_109 (by decide) rfl ?_
            refine v_goto d_La_tryRule_112 ?_
            refine v_drop10 ?_
            refine v_drop11 ?_
            refine v_drop12 ?_
            first
            | (exfalso; omega)
            | (have e9 : triS A paper t s (j + 1) = (hlF h 100, paid + cropF paper h (σ 9 i) 100, cr + (cropF paper h (σ 9 i) 100 - cropF paper h (σ 9 i) 100)) := by rw [triS, ← hi, ← hh, ← hp, ← hc, hsq, ← hls, show shF t (cropF paper h (σ 9 i) 100) (paper * s / 200) = cropF paper h (σ 9 i) 100 from if_pos (by omega)]
               exact ih (j + 1) _ _ _ _ (by omega) (by omega) (by rw [e9]) (by rw [e9]) (by rw [e9]))
            | (have e9 : triS A paper t s (j + 1) = (hlF h 100, paid + vMn (cropF paper h (σ 9 i) 100) (paper * s / 200), cr + (cropF paper h (σ 9 i) 100 - vMn (cropF paper h (σ 9 i) 100) (paper * s / 200))) := by rw [triS, ← hi, ← hh, ← hp, ← hc, hsq, ← hls, ← vMn_sh (by omega)]
               exact ih (j + 1) _ _ _ _ (by omega) (by omega) (by rw [e9]) (by rw [e9]) (by rw [e9]))
            | (have e9 : triS A paper t s (j + 1) = (hlF h s, paid + cropF paper h (σ 9 i) s, cr + (cropF paper h (σ 9 i) s - cropF paper h (σ 9 i) s)) := by rw [triS, ← hi, ← hh, ← hp, ← hc, hsq, ← hls, show shF t (cropF paper h (σ 9 i) s) (paper * s / 200) = cropF paper h (σ 9 i) s from if_pos (by omega)]
               exact ih (j + 1) _ _ _ _ (by omega) (by omega) (by rw [e9]) (by rw [e9]) (by rw [e9]))
            | (have e9 : triS A paper t s (j + 1) = (hlF h s, paid + vMn (cropF paper h (σ 9 i) s) (paper * s / 200), cr + (cropF paper h (σ 9 i) s - vMn (cropF paper h (σ 9 i) s) (paper * s / 200))) := by rw [triS, ← hi, ← hh, ← hp, ← hc, hsq, ← hls, ← vMn_sh (by omega)]
               exact ih (j + 1) _ _ _ _ (by omega) (by omega) (by rw [e9]) (by rw [e9]) (by rw [e9]))
          · refine v_iload11 d_La_tryRule_63 ?_
            refine v_goto d_La_tryRule_65 ?_
            refine v_istore12 d_La_tryRule_81 (by decide) rfl ?_
            first
            | rw [show shF t _ _ = _ from if_pos (by omega)] at hone
            | rw [← vMn_sh (by omega)] at hone
            refine v_iload7 d_La_tryRule_83 ?_
            refine v_iload12 d_La_tryRule_85 ?_
            refine v_iadd d_La_tryRule_87 ?_
            refine v_istore7 d_La_tryRule_88 (by decide) rfl ?_
            refine v_iload8 d_La_tryRule_90 ?_
            refine v_iload11 d_La_tryRule_92 ?_
            refine v_iload12 d_La_tryRule_94 ?_
            refine v_isub d_La_tryRule_96 ?_
            refine v_iadd d_La_tryRule_97 ?_
            refine v_istore8 d_La_tryRule_98 (by decide) rfl ?_
            refine v_iload6 d_La_tryRule_100 ?_
            refine v_iload10 d_La_tryRule_102 ?_
            refine v_fSI2 d_La_tryRule_104 l_La_54 k_La_healthAfter (c_La_healthAfter (by omega) (by omega)) (by decide) (by decide) (Nat.le_of_ble_eq_true rfl) (Nat.zero_le _) (Nat.zero_le _) (fun g104 => ?_)
            refine v_istore6 d_La_tryRule_107 (by decide) rfl ?_
            refine v_iinc9 d_La_tryRule_109 (by decide) rfl ?_
            refine v_goto d_La_tryRule_112 ?_
            refine v_drop10 ?_
            refine v_drop11 ?_
            refine v_drop12 ?_
            first
            | (exfalso; omega)
            | (have e9 : triS A paper t s (j + 1) = (hlF h 100, paid + cropF paper h (σ 9 i) 100, cr + (cropF paper h (σ 9 i) 100 - cropF paper h (σ 9 i) 100)) := by rw [triS, ← hi, ← hh, ← hp, ← hc, hsq, ← hls, show shF t (cropF paper h (σ 9 i) 100) (paper * s / 200) = cropF paper h (σ 9 i) 100 from if_pos (by omega)]
               exact ih (j + 1) _ _ _ _ (by omega) (by omega) (by rw [e9]) (by rw [e9]) (by rw [e9]))
            | (have e9 : triS A paper t s (j + 1) = (hlF h 100, paid + vMn (cropF paper h (σ 9 i) 100) (paper * s / 200), cr + (cropF paper h (σ 9 i) 100 - vMn (cropF paper h (σ 9 i) 100) (paper * s / 200))) := by rw [triS, ← hi, ← hh, ← hp, ← hc, hsq, ← hls, ← vMn_sh (by omega)]
               exact ih (j + 1) _ _ _ _ (by omega) (by omega) (by rw [e9]) (by rw [e9]) (by rw [e9]))
            | (have e9 : triS A paper t s (j + 1) = (hlF h s, paid + cropF paper h (σ 9 i) s, cr + (cropF paper h (σ 9 i) s - cropF paper h (σ 9 i) s)) := by rw [triS, ← hi, ← hh, ← hp, ← hc, hsq, ← hls, show shF t (cropF paper h (σ 9 i) s) (paper * s / 200) = cropF paper h (σ 9 i) s from if_pos (by omega)]
               exact ih (j + 1) _ _ _ _ (by omega) (by omega) (by rw [e9]) (by rw [e9]) (by rw [e9]))
            | (have e9 : triS A paper t s (j + 1) = (hlF h s, paid + vMn (cropF paper h (σ 9 i) s) (paper * s / 200), cr + (cropF paper h (σ 9 i) s - vMn (cropF paper h (σ 9 i) s) (paper * s / 200))) := by rw [triS, ← hi, ← hh, ← hp, ← hc, hsq, ← hls, ← vMn_sh (by omega)]
               exact ih (j + 1) _ _ _ _ (by omega) (by omega) (by rw [e9]) (by rw [e9]) (by rw [e9]))

theorem c_La_tryRule {T : vSh} {σ : vMem} {A : Int → Int} (hC : CR σ A) (hO : okA A) {paper n0 t s w : Int} (h0 : (1 ≤ paper ∧ paper ≤ 9999) ∧ (1 ≤ n0 ∧ n0 ≤ 20) ∧ (0 ≤ t ∧ t ≤ 20) ∧ (50 ≤ s ∧ s ≤ 150) ∧ 0 ≤ w ∧ w ≤ 2) : mt_La_tryRule [.ref 2, .int (iI paper), .int (iI n0), .int (iI t), .int (iI s), .int (iI w)] (S0 ++ T) σ (rF (S0 ++ T) σ (rTried A paper n0 t s w)) := by
  refine vMet.intro 7 (by decide +kernel) (Nat.le_of_ble_eq_true rfl) rfl (fun cx hM _ => ?_)
  obtain ⟨⟨q0, q1, q2, q3, q4, q5, q6, q7⟩, hVi, hWe, hCo, hOf, hBo, hWo, hMo, hRe, hLi, hTa⟩ := id hO
  obtain ⟨⟨l0, l1, lV, lC, lZ, lS⟩, ⟨b0, b1, bO, bB⟩, ⟨w0, wR, wL⟩, ⟨t0, t1, t2, tR, tB⟩, ⟨n9, nW⟩, m0, mM⟩ := id hC
  refine v_bipush d_La_tryRule_0 rfl ?_
  refine v_istore6 d_La_tryRule_2 (by decide) rfl ?_
  refine v_iconst d_La_tryRule_4 ?_
  refine v_istore7 d_La_tryRule_5 (by decide) rfl ?_
  refine v_iconst d_La_tryRule_7 ?_
  refine v_istore8 d_La_tryRule_8 (by decide) rfl ?_
  refine v_iconst d_La_tryRule_10 ?_
  refine v_istore9 d_La_tryRule_11 (by decide) rfl ?_
  exact c_La_tryRule_13 hC hO h0 hM n0.toNat 0 _ _ _ _ (by omega) rfl rfl rfl rfl

theorem c_V_tried {T : vSh} {σ : vMem} {A : Int → Int} (hC : CR σ A) (hO : okA A) {paper n0 t s w : Int} (h0 : vIn paper) (h1 : vIn n0) (h2 : vIn t) (h3 : vIn s) (h4 : vIn w) : mt_V_tried [.ref 0, .int (iI paper), .int (iI n0), .int (iI t), .int (iI s), .int (iI w)] (S0 ++ T) σ (rF (S0 ++ T) σ (rTried A paper n0 t s w)) := by
  refine vMet.intro 1 (by decide +kernel) (Nat.le_of_ble_eq_true rfl) rfl (fun cx hM _ => ?_)
  obtain ⟨⟨q0, q1, q2, q3, q4, q5, q6, q7⟩, hVi, hWe, hCo, hOf, hBo, hWo, hMo, hRe, hLi, hTa⟩ := id hO
  obtain ⟨⟨l0, l1, lV, lC, lZ, lS⟩, ⟨b0, b1, bO, bB⟩, ⟨w0, wR, wL⟩, ⟨t0, t1, t2, tR, tB⟩, ⟨n9, nW⟩, m0, mM⟩ := id hC
  refine v_iload1 d_V_tried_0 ?_
  refine v_iconst d_V_tried_1 ?_
  refine v_sipush d_V_tried_2 rfl ?_
  refine v_fSZ3 d_V_tried_5 l_V_82 k_V_isWithin (c_V_isWithin (by omega) (by omega) (by omega)) (by decide) (by decide) (Nat.le_of_ble_eq_true rfl) (Nat.zero_le _) (Nat.zero_le _) (fun g5 => ?_)
  refine v_ifb_eq d_V_tried_8 (fun u8 => ?_) (fun u8 => ?_)
  · refine v_iconst d_V_tried_58 ?_
    refine v_istore6 d_V_tried_59 (by decide) rfl ?_
    refine v_iload6 d_V_tried_61 ?_
    refine v_if_eq d_V_tried_63 (by omega) (fun u63 => ?_) (fun u63 => ?_)
    · refine v_iconst d_V_tried_83 ?_
      first
      | (exact v_ireturn hM d_V_tried_84 g77 ⟨rfl, rfl, rfl⟩)
      | (exact v_ireturn hM d_V_tried_84 (by omega) ⟨rfl, rfl, by rw [rTried, if_neg (by omega)]⟩)
    · omega
  · refine v_iload2 d_V_tried_11 ?_
    refine v_iconst d_V_tried_12 ?_
    refine v_bipush d_V_tried_13 rfl ?_
    refine v_fSZ3 d_V_tried_15 l_V_82 k_V_isWithin (c_V_isWithin (by omega) (by omega) (by omega)) (by decide) (by decide) (Nat.le_of_ble_eq_true rfl) (Nat.zero_le _) (Nat.zero_le _) (fun g15 => ?_)
    refine v_ifb_eq d_V_tried_18 (fun u18 => ?_) (fun u18 => ?_)
    · refine v_iconst d_V_tried_58 ?_
      refine v_istore6 d_V_tried_59 (by decide) rfl ?_
      refine v_iload6 d_V_tried_61 ?_
      refine v_if_eq d_V_tried_63 (by omega) (fun u63 => ?_) (fun u63 => ?_)
      · refine v_iconst d_V_tried_83 ?_
        first
        | (exact v_ireturn hM d_V_tried_84 g77 ⟨rfl, rfl, rfl⟩)
        | (exact v_ireturn hM d_V_tried_84 (by omega) ⟨rfl, rfl, by rw [rTried, if_neg (by omega)]⟩)
      · omega
    · refine v_iload3 d_V_tried_21 ?_
      refine v_iconst d_V_tried_22 ?_
      refine v_bipush d_V_tried_23 rfl ?_
      refine v_fSZ3 d_V_tried_25 l_V_82 k_V_isWithin (c_V_isWithin (by omega) (by omega) (by omega)) (by decide) (by decide) (Nat.le_of_ble_eq_true rfl) (Nat.zero_le _) (Nat.zero_le _) (fun g25 => ?_)
      refine v_ifb_eq d_V_tried_28 (fun u28 => ?_) (fun u28 => ?_)
      · refine v_iconst d_V_tried_58 ?_
        refine v_istore6 d_V_tried_59 (by decide) rfl ?_
        refine v_iload6 d_V_tried_61 ?_
        refine v_if_eq d_V_tried_63 (by omega) (fun u63 => ?_) (fun u63 => ?_)
        · refine v_iconst d_V_tried_83 ?_
          first
          | (exact v_ireturn hM d_V_tried_84 g77 ⟨rfl, rfl, rfl⟩)
          | (exact v_ireturn hM d_V_tried_84 (by omega) ⟨rfl, rfl, by rw [rTried, if_neg (by omega)]⟩)
        · omega
      · refine v_iload4 d_V_tried_31 ?_
        refine v_bipush d_V_tried_33 rfl ?_
        refine v_sipush d_V_tried_35 rfl ?_
        refine v_fSZ3 d_V_tried_38 l_V_82 k_V_isWithin (c_V_isWithin (by omega) (by omega) (by omega)) (by decide) (by decide) (Nat.le_of_ble_eq_true rfl) (Nat.zero_le _) (Nat.zero_le _) (fun g38 => ?_)
        refine v_ifb_eq d_V_tried_41 (fun u41 => ?_) (fun u41 => ?_)
        · refine v_iconst d_V_tried_58 ?_
          refine v_istore6 d_V_tried_59 (by decide) rfl ?_
          refine v_iload6 d_V_tried_61 ?_
          refine v_if_eq d_V_tried_63 (by omega) (fun u63 => ?_) (fun u63 => ?_)
          · refine v_iconst d_V_tried_83 ?_
            first
            | (exact v_ireturn hM d_V_tried_84 g77 ⟨rfl, rfl, rfl⟩)
            | (exact v_ireturn hM d_V_tried_84 (by omega) ⟨rfl, rfl, by rw [rTried, if_neg (by omega)]⟩)
          · omega
        · refine v_iload5 d_V_tried_44 ?_
          refine v_iconst d_V_tried_46 ?_
          refine v_iconst d_V_tried_47 ?_
          refine v_fSZ3 d_V_tried_48 l_V_82 k_V_isWithin (c_V_isWithin (by omega) (by omega) (by omega)) (by decide) (by decide) (Nat.le_of_ble_eq_true rfl) (Nat.zero_le _) (Nat.zero_le _) (fun g48 => ?_)
          refine v_ifb_eq d_V_tried_51 (fun u51 => ?_) (fun u51 => ?_)
          · refine v_iconst d_V_tried_58 ?_
            refine v_istore6 d_V_tried_59 (by decide) rfl ?_
            refine v_iload6 d_V_tried_61 ?_
            refine v_if_eq d_V_tried_63 (by omega) (fun u63 => ?_) (fun u63 => ?_)
            · refine v_iconst d_V_tried_83 ?_
              first
              | (exact v_ireturn hM d_V_tried_84 g77 ⟨rfl, rfl, rfl⟩)
              | (exact v_ireturn hM d_V_tried_84 (by omega) ⟨rfl, rfl, by rw [rTried, if_neg (by omega)]⟩)
            · omega
          · refine v_iconst d_V_tried_54 ?_
            refine v_goto d_V_tried_55 ?_
            refine v_istore6 d_V_tried_59 (by decide) rfl ?_
            refine v_iload6 d_V_tried_61 ?_
            refine v_if_eq d_V_tried_63 (by omega) (fun u63 => ?_) (fun u63 => ?_)
            · omega
            · refine v_aload0 d_V_tried_66 ?_
              refine v_getR d_V_tried_67 f_V_66 (sh_0 T) rfl ?_
              refine v_iload1 d_V_tried_70 ?_
              refine v_iload2 d_V_tried_71 ?_
              refine v_iload3 d_V_tried_72 ?_
              refine v_iload4 d_V_tried_73 ?_
              refine v_iload5 d_V_tried_75 ?_
              refine v_fVI5 d_V_tried_77 l_V_311 k_La_tryRule (c_La_tryRule hC hO (by omega)) (sh_2 T) rfl (by decide) (by decide) (Nat.le_of_ble_eq_true rfl) (Nat.zero_le _) (Nat.zero_le _) (fun g77 => ?_)
              refine v_goto d_V_tried_80 ?_
              first
              | (exact v_ireturn hM d_V_tried_84 g77 ⟨rfl, rfl, rfl⟩)
              | (exact v_ireturn hM d_V_tried_84 (by omega) ⟨rfl, rfl, by rw [rTried, if_neg (by omega)]⟩)

theorem c_Bo_wasEverOfKin_2 {T : vSh} {σ : vMem} {cx : vCx} {A : Int → Int} (hC : CR σ A) (hO : okA A) {v kin : Int} (h0 : vIn v) (h1 : vIn kin) (hM : vM cx 0 0 (some .boolean) (rF (S0 ++ T) σ (kinF A v kin (A 2).toNat))) : ∀ (n j : Nat) (i : Int), (j : Int) + n = A 2 → i = j → kinF A v kin j = 0 → vV cx y_Bo_wasEverOfKin.cls prog_3_method_8_code 5 0 0 0 0 0 2 [some (.ref 10), some (.int (iI v)), some (.int (iI kin)), some (.int (iI i)), none] [] (S0 ++ T) σ := by
  intro n
  induction n with
  | zero =>
    intro j i hj hi hz
    obtain ⟨⟨q0, q1, q2, q3, q4, q5, q6, q7⟩, hVi, hWe, hCo, hOf, hBo, hWo, hMo, hRe, hLi, hTa⟩ := id hO
    obtain ⟨⟨l0, l1, lV, lC, lZ, lS⟩, ⟨b0, b1, bO, bB⟩, ⟨w0, wR, wL⟩, ⟨t0, t1, t2, tR, tB⟩, ⟨n9, nW⟩, m0, mM⟩ := id hC
    refine v_iload3 d_Bo_wasEverOfKin_2 ?_
    refine v_aload0 d_Bo_wasEverOfKin_3 ?_
    refine v_getJ (ji := 5) d_Bo_wasEverOfKin_4 f_Bo_43 (sh_10 T) rfl rfl (fun g4 => ?_)
    refine v_icmp_ge d_Bo_wasEverOfKin_7 (by omega) (by omega) (fun u7 => ?_) (fun u7 => ?_)
    · refine v_iconst d_Bo_wasEverOfKin_74 ?_
      exact v_zreturn hM d_Bo_wasEverOfKin_75 (Or.inl rfl) ⟨rfl, rfl, by rw [← hz]; congr 1; omega⟩
    · omega
  | succ n ih =>
    intro j i hj hi hz
    obtain ⟨⟨q0, q1, q2, q3, q4, q5, q6, q7⟩, hVi, hWe, hCo, hOf, hBo, hWo, hMo, hRe, hLi, hTa⟩ := id hO
    obtain ⟨⟨l0, l1, lV, lC, lZ, lS⟩, ⟨b0, b1, bO, bB⟩, ⟨w0, wR, wL⟩, ⟨t0, t1, t2, tR, tB⟩, ⟨n9, nW⟩, m0, mM⟩ := id hC
    have hbo := hBo i (by omega) (by omega)
    have hb2 := bB i (by omega) (by omega)
    refine v_iload3 d_Bo_wasEverOfKin_2 ?_
    refine v_aload0 d_Bo_wasEverOfKin_3 ?_
    refine v_getJ (ji := 5) d_Bo_wasEverOfKin_4 f_Bo_43 (sh_10 T) rfl rfl (fun g4 => ?_)
    refine v_icmp_ge d_Bo_wasEverOfKin_7 (by omega) (by omega) (fun u7 => ?_) (fun u7 => ?_)
    · omega
    · refine v_aload0 d_Bo_wasEverOfKin_10 ?_
      refine v_getR d_Bo_wasEverOfKin_11 f_Bo_24 (sh_10 T) rfl ?_
      refine v_iload3 d_Bo_wasEverOfKin_14 ?_
      refine v_iaload d_Bo_wasEverOfKin_15 (sh_15 T) (by omega) (fun g15 => ?_)
      refine v_if_ne d_Bo_wasEverOfKin_16 (by omega) (fun u16 => ?_) (fun u16 => ?_)
      · refine v_iconst d_Bo_wasEverOfKin_43 ?_
        refine v_istore4 d_Bo_wasEverOfKin_44 (by decide) rfl ?_
        refine v_iload4 d_Bo_wasEverOfKin_46 ?_
        refine v_if_eq d_Bo_wasEverOfKin_48 (by omega) (fun u48 => ?_) (fun u48 => ?_)
        · refine v_iinc3 d_Bo_wasEverOfKin_68 (by decide) rfl ?_
          refine v_goto d_Bo_wasEverOfKin_71 ?_
          refine v_drop4 ?_
          exact ih (j + 1) _ (by omega) (by omega) (by rw [kinF, ← hi, ← hb2.2.2.1]; exact (b01_0 (by omega)).symm)
        · omega
      · refine v_aload0 d_Bo_wasEverOfKin_19 ?_
        refine v_getR d_Bo_wasEverOfKin_20 f_Bo_27 (sh_10 T) rfl ?_
        refine v_iload3 d_Bo_wasEverOfKin_23 ?_
        refine v_iaload d_Bo_wasEverOfKin_24 (sh_16 T) (by omega) (fun g24 => ?_)
        refine v_iload1 d_Bo_wasEverOfKin_25 ?_
        refine v_icmp_ne d_Bo_wasEverOfKin_26 (by omega) (by omega) (fun u26 => ?_) (fun u26 => ?_)
        · refine v_iconst d_Bo_wasEverOfKin_43 ?_
          refine v_istore4 d_Bo_wasEverOfKin_44 (by decide) rfl ?_
          refine v_iload4 d_Bo_wasEverOfKin_46 ?_
          refine v_if_eq d_Bo_wasEverOfKin_48 (by omega) (fun u48 => ?_) (fun u48 => ?_)
          · refine v_iinc3 d_Bo_wasEverOfKin_68 (by decide) rfl ?_
            refine v_goto d_Bo_wasEverOfKin_71 ?_
            refine v_drop4 ?_
            exact ih (j + 1) _ (by omega) (by omega) (by rw [kinF, ← hi, ← hb2.2.2.1]; exact (b01_0 (by omega)).symm)
          · omega
        · refine v_aload0 d_Bo_wasEverOfKin_29 ?_
          refine v_getR d_Bo_wasEverOfKin_30 f_Bo_30 (sh_10 T) rfl ?_
          refine v_iload3 d_Bo_wasEverOfKin_33 ?_
          refine v_iaload d_Bo_wasEverOfKin_34 (sh_17 T) (by omega) (fun g34 => ?_)
          refine v_iconst d_Bo_wasEverOfKin_35 ?_
          refine v_icmp_eq d_Bo_wasEverOfKin_36 (by omega) (by omega) (fun u36 => ?_) (fun u36 => ?_)
          · refine v_iconst d_Bo_wasEverOfKin_43 ?_
            refine v_istore4 d_Bo_wasEverOfKin_44 (by decide) rfl ?_
            refine v_iload4 d_Bo_wasEverOfKin_46 ?_
            refine v_if_eq d_Bo_wasEverOfKin_48 (by omega) (fun u48 => ?_) (fun u48 => ?_)
            · refine v_iinc3 d_Bo_wasEverOfKin_68 (by decide) rfl ?_
              refine v_goto d_Bo_wasEverOfKin_71 ?_
              refine v_drop4 ?_
              exact ih (j + 1) _ (by omega) (by omega) (by rw [kinF, ← hi, ← hb2.2.2.1]; exact (b01_0 (by omega)).symm)
            · omega
          · refine v_iconst d_Bo_wasEverOfKin_39 ?_
            refine v_goto d_Bo_wasEverOfKin_40 ?_
            refine v_istore4 d_Bo_wasEverOfKin_44 (by decide) rfl ?_
            refine v_iload4 d_Bo_wasEverOfKin_46 ?_
            refine v_if_eq d_Bo_wasEverOfKin_48 (by omega) (fun u48 => ?_) (fun u48 => ?_)
            · omega
            · have hb9 := bO (A (430 + 5 * i + 2)) (by omega) (by omega)
              rw [show A (430 + 5 * i + 2) = σ 17 i by omega] at hb9
              refine v_aload0 d_Bo_wasEverOfKin_51 ?_
              refine v_getR d_Bo_wasEverOfKin_52 f_Bo_15 (sh_10 T) rfl ?_
              refine v_aload0 d_Bo_wasEverOfKin_55 ?_
              refine v_getR d_Bo_wasEverOfKin_56 f_Bo_30 (sh_10 T) rfl ?_
              refine v_iload3 d_Bo_wasEverOfKin_59 ?_
              refine v_iaload d_Bo_wasEverOfKin_60 (sh_17 T) (by omega) (fun g60 => ?_)
              refine v_iaload d_Bo_wasEverOfKin_61 (sh_12 T) (by omega) (fun g61 => ?_)
              refine v_iload2 d_Bo_wasEverOfKin_62 ?_
              refine v_icmp_ne d_Bo_wasEverOfKin_63 (by omega) (by omega) (fun u63 => ?_) (fun u63 => ?_)
              · refine v_iinc3 d_Bo_wasEverOfKin_68 (by decide) rfl ?_
                refine v_goto d_Bo_wasEverOfKin_71 ?_
                refine v_drop4 ?_
                exact ih (j + 1) _ (by omega) (by omega) (by rw [kinF, ← hi, ← hb2.2.2.1]; exact (b01_0 (by omega)).symm)
              · refine v_iconst d_Bo_wasEverOfKin_66 ?_
                have e9 : kinF A v kin (j + 1) = 1 := by rw [kinF, ← hi]; exact (b01_1 (Or.inr (by rw [← hb2.1, ← hb2.2.1, ← hb2.2.2.1, ← hb9.2.1]; omega))).symm
                exact v_zreturn hM d_Bo_wasEverOfKin_67 (Or.inr rfl) ⟨rfl, rfl, (kinF_stay A v kin e9 (A 2).toNat (by omega)).symm⟩

theorem c_Bo_wasEverOfKin {T : vSh} {σ : vMem} {A : Int → Int} (hC : CR σ A) (hO : okA A) {v kin : Int} (h0 : vIn v) (h1 : vIn kin) : mt_Bo_wasEverOfKin [.ref 10, .int (iI v), .int (iI kin)] (S0 ++ T) σ (rF (S0 ++ T) σ (kinF A v kin (A 2).toNat)) := by
  refine vMet.intro 2 (by decide +kernel) (Nat.le_of_ble_eq_true rfl) rfl (fun cx hM _ => ?_)
  obtain ⟨⟨q0, q1, q2, q3, q4, q5, q6, q7⟩, hVi, hWe, hCo, hOf, hBo, hWo, hMo, hRe, hLi, hTa⟩ := id hO
  obtain ⟨⟨l0, l1, lV, lC, lZ, lS⟩, ⟨b0, b1, bO, bB⟩, ⟨w0, wR, wL⟩, ⟨t0, t1, t2, tR, tB⟩, ⟨n9, nW⟩, m0, mM⟩ := id hC
  refine v_iconst d_Bo_wasEverOfKin_0 ?_
  refine v_istore3 d_Bo_wasEverOfKin_1 (by decide) rfl ?_
  exact c_Bo_wasEverOfKin_2 hC hO h0 h1 hM (A 2).toNat 0 _ (by omega) rfl rfl

theorem c_De_openTo_18 {T : vSh} {σ : vMem} {cx : vCx} {A : Int → Int} (hC : CR σ A) (hO : okA A) {oo : Int} (h0 : 0 ≤ oo ∧ oo < A 1) {fam : Int} (hfam : fam = A (360 + 4 * oo + 1)) (hM : vM cx 0 0 (some .int) (rF (S0 ++ T) σ (mayF A oo))) : ∀ (n j : Nat) (bits i : Int), (j : Int) + n = A 0 → i = j → bits = bitS (mayQ A oo) j → vV cx y_De_openTo.cls prog_4_method_3_code 5 3 0 0 0 0 18 [some (.ref 49), some (.int (iI oo)), some (.int (iI bits)), some (.int (iI fam)), some (.int (iI i))] [] (S0 ++ T) σ := by
  intro n
  induction n with
  | zero =>
    intro j bits i hj hi hb
    obtain ⟨⟨q0, q1, q2, q3, q4, q5, q6, q7⟩, hVi, hWe, hCo, hOf, hBo, hWo, hMo, hRe, hLi, hTa⟩ := id hO
    obtain ⟨⟨l0, l1, lV, lC, lZ, lS⟩, ⟨b0, b1, bO, bB⟩, ⟨w0, wR, wL⟩, ⟨t0, t1, t2, tR, tB⟩, ⟨n9, nW⟩, m0, mM⟩ := id hC
    have hr := bitS_rng (mayQ A oo) (fun v => b01_or) j
    rw [← hi, ← hb] at hr
    have hof := hOf oo (by omega) (by omega)
    have hpw := pw12 (v := i) (by omega)
    refine v_iload4 d_De_openTo_18 ?_
    refine v_aload0 d_De_openTo_20 ?_
    refine v_getR d_De_openTo_21 f_De_27 (sh_49 T) rfl ?_
    refine v_getR d_De_openTo_24 f_De_35 (sh_1 T) rfl ?_
    refine v_getJ (ji := 1) d_De_openTo_27 f_De_81 (sh_2 T) rfl rfl (fun g27 => ?_)
    refine v_icmp_ge d_De_openTo_30 (by omega) (by omega) (fun u30 => ?_) (fun u30 => ?_)
    · refine v_iload2 d_De_openTo_75 ?_
      exact v_ireturn hM d_De_openTo_76 (by omega) ⟨rfl, rfl, by rw [hb, mayF]; congr 1; omega⟩
    · omega
  | succ n ih =>
    intro j bits i hj hi hb
    obtain ⟨⟨q0, q1, q2, q3, q4, q5, q6, q7⟩, hVi, hWe, hCo, hOf, hBo, hWo, hMo, hRe, hLi, hTa⟩ := id hO
    obtain ⟨⟨l0, l1, lV, lC, lZ, lS⟩, ⟨b0, b1, bO, bB⟩, ⟨w0, wR, wL⟩, ⟨t0, t1, t2, tR, tB⟩, ⟨n9, nW⟩, m0, mM⟩ := id hC
    have hr := bitS_rng (mayQ A oo) (fun v => b01_or) j
    rw [← hi, ← hb] at hr
    have hof := hOf oo (by omega) (by omega)
    have hhr := heldF_rng hO i (A 4) (A 4)
    refine v_iload4 d_De_openTo_18 ?_
    refine v_aload0 d_De_openTo_20 ?_
    refine v_getR d_De_openTo_21 f_De_27 (sh_49 T) rfl ?_
    refine v_getR d_De_openTo_24 f_De_35 (sh_1 T) rfl ?_
    refine v_getJ (ji := 1) d_De_openTo_27 f_De_81 (sh_2 T) rfl rfl (fun g27 => ?_)
    refine v_icmp_ge d_De_openTo_30 (by omega) (by omega) (fun u30 => ?_) (fun u30 => ?_)
    · omega
    · refine v_aload0 d_De_openTo_33 ?_
      refine v_getR d_De_openTo_34 f_De_27 (sh_49 T) rfl ?_
      refine v_iload4 d_De_openTo_37 ?_
      refine v_fVI1 d_De_openTo_39 l_De_84 k_St_holderToday (c_St_holderToday hC hO (by omega)) (sh_1 T) rfl (by decide) (by decide) (Nat.le_of_ble_eq_true rfl) (Nat.zero_le _) (Nat.zero_le _) (fun g39 => ?_)
      refine v_iconst d_De_openTo_42 ?_
      refine v_icmp_ne d_De_openTo_43 (by omega) (by omega) (fun u43 => ?_) (fun u43 => ?_)
      · refine v_iinc4 d_De_openTo_69 (by decide) rfl ?_
        refine v_goto d_De_openTo_72 ?_
        first
        | (exact ih (j + 1) _ _ (by omega) (by omega) (by rw [bitS, ← hb, ← hi, mayQ, ← hfam, ← b01_0 (by omega)]; omega))
        | (exact ih (j + 1) _ _ (by omega) (by omega) (by rw [bitS, ← hb, ← hi, mayQ, ← hfam, ← b01_1 (by omega)]; omega))
      · refine v_aload0 d_De_openTo_46 ?_
        refine v_getR d_De_openTo_47 f_De_27 (sh_49 T) rfl ?_
        refine v_getR d_De_openTo_50 f_De_72 (sh_1 T) rfl ?_
        refine v_iload4 d_De_openTo_53 ?_
        refine v_iload3 d_De_openTo_55 ?_
        refine v_fVZ2 d_De_openTo_56 l_De_87 k_Bo_wasEverOfKin (c_Bo_wasEverOfKin hC hO (by omega) (by omega)) (sh_10 T) rfl (by decide) (by decide) (Nat.le_of_ble_eq_true rfl) (Nat.zero_le _) (Nat.zero_le _) (fun g56 => ?_)
        have hkr := kinF_rng A i fam (A 2).toNat
        refine v_if_ne d_De_openTo_59 (by omega) (fun u59 => ?_) (fun u59 => ?_)
        · refine v_iinc4 d_De_openTo_69 (by decide) rfl ?_
          refine v_goto d_De_openTo_72 ?_
          first
          | (exact ih (j + 1) _ _ (by omega) (by omega) (by rw [bitS, ← hb, ← hi, mayQ, ← hfam, ← b01_0 (by omega)]; omega))
          | (exact ih (j + 1) _ _ (by omega) (by omega) (by rw [bitS, ← hb, ← hi, mayQ, ← hfam, ← b01_1 (by omega)]; omega))
        · refine v_iload2 d_De_openTo_62 ?_
          refine v_iconst d_De_openTo_63 ?_
          refine v_iload4 d_De_openTo_64 ?_
          refine v_ishl d_De_openTo_66 (bshl (by omega)) ?_
          refine v_ior d_De_openTo_67 (bor (by omega) hr) ?_
          refine v_istore2 d_De_openTo_68 (by decide) rfl ?_
          refine v_iinc4 d_De_openTo_69 (by decide) rfl ?_
          refine v_goto d_De_openTo_72 ?_
          first
          | (exact ih (j + 1) _ _ (by omega) (by omega) (by rw [bitS, ← hb, ← hi, mayQ, ← hfam, ← b01_0 (by omega)]; omega))
          | (exact ih (j + 1) _ _ (by omega) (by omega) (by rw [bitS, ← hb, ← hi, mayQ, ← hfam, ← b01_1 (by omega)]; omega))

theorem c_De_openTo {T : vSh} {σ : vMem} {A : Int → Int} (hC : CR σ A) (hO : okA A) {oo : Int} (h0 : 0 ≤ oo ∧ oo < A 1) : mt_De_openTo [.ref 49, .int (iI oo)] (S0 ++ T) σ (rF (S0 ++ T) σ (mayF A oo)) := by
  refine vMet.intro 3 (by decide +kernel) (Nat.le_of_ble_eq_true rfl) rfl (fun cx hM _ => ?_)
  obtain ⟨⟨q0, q1, q2, q3, q4, q5, q6, q7⟩, hVi, hWe, hCo, hOf, hBo, hWo, hMo, hRe, hLi, hTa⟩ := id hO
  obtain ⟨⟨l0, l1, lV, lC, lZ, lS⟩, ⟨b0, b1, bO, bB⟩, ⟨w0, wR, wL⟩, ⟨t0, t1, t2, tR, tB⟩, ⟨n9, nW⟩, m0, mM⟩ := id hC
  refine v_iconst d_De_openTo_0 ?_
  refine v_istore2 d_De_openTo_1 (by decide) rfl ?_
  refine v_aload0 d_De_openTo_2 ?_
  refine v_getR d_De_openTo_3 f_De_27 (sh_49 T) rfl ?_
  refine v_getR d_De_openTo_6 f_De_72 (sh_1 T) rfl ?_
  refine v_getR d_De_openTo_9 f_De_76 (sh_10 T) rfl ?_
  refine v_iload1 d_De_openTo_12 ?_
  refine v_iaload d_De_openTo_13 (sh_12 T) (by omega) (fun g13 => ?_)
  refine v_istore3 d_De_openTo_14 (by decide) rfl ?_
  refine v_iconst d_De_openTo_15 ?_
  refine v_istore4 d_De_openTo_16 (by decide) rfl ?_
  exact c_De_openTo_18 hC hO h0 (bO oo (by omega) (by omega)).2.1 hM (A 0).toNat 0 _ _ (by omega) rfl rfl

theorem c_De_fitFor_52 {T : vSh} {σ : vMem} {cx : vCx} {A : Int → Int} (hC : CR σ A) (hO : okA A) {oo e : Int} (h0 : (0 ≤ oo ∧ oo < A 1) ∧ srvF A oo (A 4)) (h1 : 0 ≤ e ∧ e ≤ 9999) {σ1 : vMem} (hσ : ∀ k, k ≠ 46 → σ1 k = σ k) (hM : vM cx 0 0 (some .int) (rP (S0 ++ T) (fun z σ2 => z = rFit A oo e ∧ CF σ σ2))) {may due : Int} (hmay : may = mayF A oo) (hdue : due = dueY A oo (A 4) (A 4)) : ∀ (n j : Nat) (best least nr i : Int), (j : Int) + n = mayF A oo → i = (j : Int) + 1 → best = (fitS A (mayF A oo) (dueY A oo (A 4) (A 4)) e j).1 → least = (fitS A (mayF A oo) (dueY A oo (A 4) (A 4)) e j).2 → (0 ≤ best → nr = nearF A best) → vIn nr → vV cx y_De_fitFor.cls prog_4_method_2_code 12 4 0 0 0 0 52 [some (.ref 49), some (.int (iI oo)), some (.int (iI e)), some (.ref 2), some (.int (iI due)), some (.int (iI may)), some (.int (iI best)), some (.int (iI least)), some (.int (iI nr)), some (.int (iI i)), none, none] [] (S0 ++ T) σ1 := by
  intro n
  induction n with
  | zero =>
    intro j best least nr i hj hi hb hl hn hnv
    obtain ⟨⟨q0, q1, q2, q3, q4, q5, q6, q7⟩, hVi, hWe, hCo, hOf, hBo, hWo, hMo, hRe, hLi, hTa⟩ := id hO
    have hC1 := CR_46 hσ hC
    have hpw := pw12 q0
    have hfr := fitS_rng A (mayF A oo) (dueY A oo (A 4) (A 4)) h1.1 j
    have hdr := dueY_rng hO oo (A 4) (A 4)
    have hmr : 0 ≤ mayF A oo ∧ mayF A oo < pw ((A 0).toNat : Int) := bitS_rng (mayQ A oo) (fun v => b01_or) (A 0).toNat
    rw [show (((A 0).toNat : Nat) : Int) = A 0 by omega] at hmr
    refine v_iload9 d_De_fitFor_52 ?_
    refine v_iload5 d_De_fitFor_54 ?_
    refine v_icmp_gt d_De_fitFor_56 (by omega) (by omega) (fun u56 => ?_) (fun u56 => ?_)
    · refine v_iload6 d_De_fitFor_142 ?_
      exact v_ireturn hM d_De_fitFor_144 (by omega) ⟨rfl, by rw [rFit, if_pos (by omega), hb, fitS_rest A (dueY A oo (A 4) (A 4)) e (m := j) (by omega) (by omega) (pw (A 0) - 1).toNat (by omega) (by omega)], CF_46 hσ⟩
    · omega
  | succ n ih =>
    intro j best least nr i hj hi hb hl hn hnv
    obtain ⟨⟨q0, q1, q2, q3, q4, q5, q6, q7⟩, hVi, hWe, hCo, hOf, hBo, hWo, hMo, hRe, hLi, hTa⟩ := id hO
    have hC1 := CR_46 hσ hC
    have hpw := pw12 q0
    have hfr := fitS_rng A (mayF A oo) (dueY A oo (A 4) (A 4)) h1.1 j
    have hdr := dueY_rng hO oo (A 4) (A 4)
    have hmr : 0 ≤ mayF A oo ∧ mayF A oo < pw ((A 0).toNat : Int) := bitS_rng (mayQ A oo) (fun v => b01_or) (A 0).toNat
    rw [show (((A 0).toNat : Nat) : Int) = A 0 by omega] at hmr
    refine v_iload9 d_De_fitFor_52 ?_
    refine v_iload5 d_De_fitFor_54 ?_
    refine v_icmp_gt d_De_fitFor_56 (by omega) (by omega) (fun u56 => ?_) (fun u56 => ?_)
    · omega
    · refine v_iload9 d_De_fitFor_59 ?_
      refine v_iload5 d_De_fitFor_61 ?_
      refine v_iconst d_De_fitFor_63 ?_
      refine v_ixor d_De_fitFor_64 (xorI_eq _ _) ?_
      refine v_iand d_De_fitFor_65 (andI_eq _ _) ?_
      refine v_if_eq d_De_fitFor_66 (andI_in _ _) (fun u66 => ?_) (fun u66 => ?_)
      · have u67 := and_xor (a := i) (b := may) (by omega)
        refine v_aload3 d_De_fitFor_72 ?_
        refine v_iload9 d_De_fitFor_73 ?_
        refine v_fVI1 d_De_fitFor_75 l_De_61 k_La_paperOf (c_La_paperOf hC1 hO (by omega)) (sh_2 T) rfl (by decide) (by decide) (Nat.le_of_ble_eq_true rfl) (Nat.zero_le _) (Nat.zero_le _) (fun g75 => ?_)
        have hpr : 0 ≤ papF A i ∧ papF A i ≤ 9999 * (A 0).toNat := papS_rng hO i (A 0).toNat (by omega)
        have ha9 : vAb (papF A i - due) = farI (papF A i) due := by unfold vAb farI; split <;> split <;> omega
        have hfm := farI_rng (a := papF A i) (b := due) (m := 159984) (by omega) (by omega)
        refine v_iload4 d_De_fitFor_78 ?_
        refine v_isub d_De_fitFor_80 ?_
        refine v_abs d_De_fitFor_81 lx_De_64 cw_abss cw_mi cw_absc (by omega) (by decide) (Nat.le_of_ble_eq_true rfl) ?_
        refine v_istore10 d_De_fitFor_84 (by decide) rfl ?_
        refine v_iload10 d_De_fitFor_86 ?_
        refine v_iload7 d_De_fitFor_88 ?_
        refine v_icmp_le d_De_fitFor_90 (by omega) (by omega) (fun u90 => ?_) (fun u90 => ?_)
        · refine v_aload3 d_De_fitFor_96 ?_
          refine v_iload9 d_De_fitFor_97 ?_
          refine v_fVI1 d_De_fitFor_99 l_De_69 k_La_nearOf (c_La_nearOf hC1 hO (by omega)) (sh_2 T) rfl (by decide) (by decide) (Nat.le_of_ble_eq_true rfl) (Nat.zero_le _) (Nat.zero_le _) (fun g99 => ?_)
          have hn1 : 0 ≤ nearF A i ∧ nearF A i ≤ 1200 * (A 0).toNat := nearR_rng hO i (A 0).toNat (by omega)
          refine v_istore11 d_De_fitFor_102 (by decide) rfl ?_
          refine v_iload6 d_De_fitFor_104 ?_
          refine v_iconst d_De_fitFor_106 ?_
          refine v_icmp_eq d_De_fitFor_107 (by omega) (by omega) (fun u107 => ?_) (fun u107 => ?_)
          · refine v_iload9 d_De_fitFor_124 ?_
            refine v_istore6 d_De_fitFor_126 (by decide) rfl ?_
            refine v_iload10 d_De_fitFor_128 ?_
            refine v_istore7 d_De_fitFor_130 (by decide) rfl ?_
            refine v_iload11 d_De_fitFor_132 ?_
            refine v_istore8 d_De_fitFor_134 (by decide) rfl ?_
            refine v_iinc9 d_De_fitFor_136 (by decide) rfl ?_
            refine v_goto d_De_fitFor_139 ?_
            refine v_drop10 ?_
            refine v_drop11 ?_
            first
            | (have e9 : fitS A (mayF A oo) (dueY A oo (A 4) (A 4)) e (j + 1) = fitS A (mayF A oo) (dueY A oo (A 4) (A 4)) e j := by
                 rw [fitS, ← hi, ← hb, ← hl, ← hmay, ← hdue, if_neg (by omega)]
               exact ih (j + 1) _ _ _ _ (by omega) (by omega) (by rw [e9]; exact hb) (by rw [e9]; exact hl) hn hnv)
            | (have e9 : fitS A (mayF A oo) (dueY A oo (A 4) (A 4)) e (j + 1) = (i, farI (papF A i) due) := by
                 rw [fitS, ← hi, ← hb, ← hl, ← hmay, ← hdue, if_pos (by omega)]
               exact ih (j + 1) _ _ _ _ (by omega) (by omega) (by rw [e9]) (by rw [e9]; exact ha9) (fun _ => rfl) (by omega))
          · refine v_iload10 d_De_fitFor_110 ?_
            refine v_iload7 d_De_fitFor_112 ?_
            refine v_icmp_lt d_De_fitFor_114 (by omega) (by omega) (fun u114 => ?_) (fun u114 => ?_)
            · refine v_iload9 d_De_fitFor_124 ?_
              refine v_istore6 d_De_fitFor_126 (by decide) rfl ?_
              refine v_iload10 d_De_fitFor_128 ?_
              refine v_istore7 d_De_fitFor_130 (by decide) rfl ?_
              refine v_iload11 d_De_fitFor_132 ?_
              refine v_istore8 d_De_fitFor_134 (by decide) rfl ?_
              refine v_iinc9 d_De_fitFor_136 (by decide) rfl ?_
              refine v_goto d_De_fitFor_139 ?_
              refine v_drop10 ?_
              refine v_drop11 ?_
              first
              | (have e9 : fitS A (mayF A oo) (dueY A oo (A 4) (A 4)) e (j + 1) = fitS A (mayF A oo) (dueY A oo (A 4) (A 4)) e j := by
                   rw [fitS, ← hi, ← hb, ← hl, ← hmay, ← hdue, if_neg (by omega)]
                 exact ih (j + 1) _ _ _ _ (by omega) (by omega) (by rw [e9]; exact hb) (by rw [e9]; exact hl) hn hnv)
              | (have e9 : fitS A (mayF A oo) (dueY A oo (A 4) (A 4)) e (j + 1) = (i, farI (papF A i) due) := by
                   rw [fitS, ← hi, ← hb, ← hl, ← hmay, ← hdue, if_pos (by omega)]
                 exact ih (j + 1) _ _ _ _ (by omega) (by omega) (by rw [e9]) (by rw [e9]; exact ha9) (fun _ => rfl) (by omega))
            · refine v_iload11 d_De_fitFor_117 ?_
              refine v_iload8 d_De_fitFor_119 ?_
              refine v_icmp_ge d_De_fitFor_121 (by omega) (by omega) (fun u121 => ?_) (fun u121 => ?_)
              · refine v_iinc9 d_De_fitFor_136 (by decide) rfl ?_
                refine v_goto d_De_fitFor_139 ?_
                refine v_drop10 ?_
                refine v_drop11 ?_
                first
                | (have e9 : fitS A (mayF A oo) (dueY A oo (A 4) (A 4)) e (j + 1) = fitS A (mayF A oo) (dueY A oo (A 4) (A 4)) e j := by
                     rw [fitS, ← hi, ← hb, ← hl, ← hmay, ← hdue, if_neg (by omega)]
                   exact ih (j + 1) _ _ _ _ (by omega) (by omega) (by rw [e9]; exact hb) (by rw [e9]; exact hl) hn hnv)
                | (have e9 : fitS A (mayF A oo) (dueY A oo (A 4) (A 4)) e (j + 1) = (i, farI (papF A i) due) := by
                     rw [fitS, ← hi, ← hb, ← hl, ← hmay, ← hdue, if_pos (by omega)]
                   exact ih (j + 1) _ _ _ _ (by omega) (by omega) (by rw [e9]) (by rw [e9]; exact ha9) (fun _ => rfl) (by omega))
              · refine v_iload9 d_De_fitFor_124 ?_
                refine v_istore6 d_De_fitFor_126 (by decide) rfl ?_
                refine v_iload10 d_De_fitFor_128 ?_
                refine v_istore7 d_De_fitFor_130 (by decide) rfl ?_
                refine v_iload11 d_De_fitFor_132 ?_
                refine v_istore8 d_De_fitFor_134 (by decide) rfl ?_
                refine v_iinc9 d_De_fitFor_136 (by decide) rfl ?_
                refine v_goto d_De_fitFor_139 ?_
                refine v_drop10 ?_
                refine v_drop11 ?_
                first
                | (have e9 : fitS A (mayF A oo) (dueY A oo (A 4) (A 4)) e (j + 1) = fitS A (mayF A oo) (dueY A oo (A 4) (A 4)) e j := by
                     rw [fitS, ← hi, ← hb, ← hl, ← hmay, ← hdue, if_neg (by omega)]
                   exact ih (j + 1) _ _ _ _ (by omega) (by omega) (by rw [e9]; exact hb) (by rw [e9]; exact hl) hn hnv)
                | (have e9 : fitS A (mayF A oo) (dueY A oo (A 4) (A 4)) e (j + 1) = (i, farI (papF A i) due) := by
                     rw [fitS, ← hi, ← hb, ← hl, ← hmay, ← hdue, if_pos (by omega)]
                   exact ih (j + 1) _ _ _ _ (by omega) (by omega) (by rw [e9]) (by rw [e9]; exact ha9) (fun _ => rfl) (by omega))
        · refine v_goto d_De_fitFor_93 ?_
          refine v_iinc9 d_De_fitFor_136 (by decide) rfl ?_
          refine v_goto d_De_fitFor_139 ?_
          refine v_drop10 ?_
          first
          | (have e9 : fitS A (mayF A oo) (dueY A oo (A 4) (A 4)) e (j + 1) = fitS A (mayF A oo) (dueY A oo (A 4) (A 4)) e j := by
               rw [fitS, ← hi, ← hb, ← hl, ← hmay, ← hdue, if_neg (by omega)]
             exact ih (j + 1) _ _ _ _ (by omega) (by omega) (by rw [e9]; exact hb) (by rw [e9]; exact hl) hn hnv)
          | (have e9 : fitS A (mayF A oo) (dueY A oo (A 4) (A 4)) e (j + 1) = (i, farI (papF A i) due) := by
               rw [fitS, ← hi, ← hb, ← hl, ← hmay, ← hdue, if_pos (by omega)]
             exact ih (j + 1) _ _ _ _ (by omega) (by omega) (by rw [e9]) (by rw [e9]; exact ha9) (fun _ => rfl) (by omega))
      · have u67 := and_xor (a := i) (b := may) (by omega)
        refine v_goto d_De_fitFor_69 ?_
        refine v_iinc9 d_De_fitFor_136 (by decide) rfl ?_
        refine v_goto d_De_fitFor_139 ?_
        first
        | (have e9 : fitS A (mayF A oo) (dueY A oo (A 4) (A 4)) e (j + 1) = fitS A (mayF A oo) (dueY A oo (A 4) (A 4)) e j := by
             rw [fitS, ← hi, ← hb, ← hl, ← hmay, ← hdue, if_neg (by omega)]
           exact ih (j + 1) _ _ _ _ (by omega) (by omega) (by rw [e9]; exact hb) (by rw [e9]; exact hl) hn hnv)
        | (have e9 : fitS A (mayF A oo) (dueY A oo (A 4) (A 4)) e (j + 1) = (i, farI (papF A i) due) := by
             rw [fitS, ← hi, ← hb, ← hl, ← hmay, ← hdue, if_pos (by omega)]
           exact ih (j + 1) _ _ _ _ (by omega) (by omega) (by rw [e9]) (by rw [e9]; exact ha9) (fun _ => rfl) (by omega))

theorem c_De_fitFor {T : vSh} {σ : vMem} {A : Int → Int} (hC : CR σ A) (hO : okA A) {oo e : Int} (h0 : (0 ≤ oo ∧ oo < A 1) ∧ srvF A oo (A 4)) (h1 : 0 ≤ e ∧ e ≤ 9999) : mt_De_fitFor [.ref 49, .int (iI oo), .int (iI e)] (S0 ++ T) σ (rP (S0 ++ T) (fun z σ2 => z = rFit A oo e ∧ CF σ σ2)) := by
  refine vMet.intro 9 (by decide +kernel) (Nat.le_of_ble_eq_true rfl) rfl (fun cx hM _ => ?_)
  obtain ⟨⟨q0, q1, q2, q3, q4, q5, q6, q7⟩, hVi, hWe, hCo, hOf, hBo, hWo, hMo, hRe, hLi, hTa⟩ := id hO
  obtain ⟨⟨l0, l1, lV, lC, lZ, lS⟩, ⟨b0, b1, bO, bB⟩, ⟨w0, wR, wL⟩, ⟨t0, t1, t2, tR, tB⟩, ⟨n9, nW⟩, m0, mM⟩ := id hC
  refine v_aload0 d_De_fitFor_0 ?_
  refine v_getR d_De_fitFor_1 f_De_27 (sh_49 T) rfl ?_
  refine v_getR d_De_fitFor_4 f_De_35 (sh_1 T) rfl ?_
  refine v_astore3 d_De_fitFor_7 (by decide) rfl ?_
  refine v_aload0 d_De_fitFor_8 ?_
  refine v_getR d_De_fitFor_9 f_De_31 (sh_49 T) rfl ?_
  refine v_iload1 d_De_fitFor_12 ?_
  refine v_aload3 d_De_fitFor_13 ?_
  refine v_getJ (ji := 0) d_De_fitFor_14 f_De_41 (sh_2 T) rfl rfl (fun g14 => ?_)
  refine v_aload3 d_De_fitFor_17 ?_
  refine v_getJ (ji := 0) d_De_fitFor_18 f_De_41 (sh_2 T) rfl rfl (fun g18 => ?_)
  rw [l0]
  refine v_gVV3 d_De_fitFor_21 l_De_47 k_Sc_reckon (c_Sc_reckon hC hO (by omega) (by omega) (by omega) (by omega)) (sh_46 T) rfl (by decide) (by decide) (Nat.le_of_ble_eq_true rfl) (Nat.zero_le _) (Nat.zero_le _) (fun z21 s21 e21 => ?_)
  have hC1 := CR_46 e21.1 hC
  have hs9 := scF_rng hO oo (A 4) (A 4)
  have hmr : 0 ≤ mayF A oo ∧ mayF A oo < pw ((A 0).toNat : Int) := bitS_rng (mayQ A oo) (fun v => b01_or) (A 0).toNat
  refine v_aload0 d_De_fitFor_24 ?_
  refine v_getR d_De_fitFor_25 f_De_31 (sh_49 T) rfl ?_
  refine v_fVI0 d_De_fitFor_28 l_De_53 k_Sc_yearly (c_Sc_yearly e21.2 (by omega)) (sh_46 T) rfl (by decide) (by decide) (Nat.le_of_ble_eq_true rfl) (Nat.zero_le _) (Nat.zero_le _) (fun g28 => ?_)
  refine v_istore4 d_De_fitFor_31 (by decide) rfl ?_
  refine v_aload0 d_De_fitFor_33 ?_
  refine v_iload1 d_De_fitFor_34 ?_
  refine v_fVI1 d_De_fitFor_35 l_De_57 k_De_openTo (c_De_openTo hC1 hO (by omega)) (sh_49 T) rfl (by decide) (by decide) (Nat.le_of_ble_eq_true rfl) (Nat.zero_le _) (Nat.zero_le _) (fun g35 => ?_)
  refine v_istore5 d_De_fitFor_38 (by decide) rfl ?_
  refine v_iconst d_De_fitFor_40 ?_
  refine v_istore6 d_De_fitFor_41 (by decide) rfl ?_
  refine v_iload2 d_De_fitFor_43 ?_
  refine v_istore7 d_De_fitFor_44 (by decide) rfl ?_
  refine v_iconst d_De_fitFor_46 ?_
  refine v_istore8 d_De_fitFor_47 (by decide) rfl ?_
  refine v_iconst d_De_fitFor_49 ?_
  refine v_istore9 d_De_fitFor_50 (by decide) rfl ?_
  exact c_De_fitFor_52 hC hO h0 h1 e21.1 hM rfl rfl (mayF A oo).toNat 0 _ _ _ _ (by omega) (by omega) rfl rfl (fun h => by omega) (by omega)

theorem c_V_fit {T : vSh} {σ : vMem} {A : Int → Int} (hC : CR σ A) (hO : okA A) {oo e : Int} (h0 : vIn oo) (h1 : vIn e) : mt_V_fit [.ref 0, .int (iI oo), .int (iI e)] (S0 ++ T) σ (rP (S0 ++ T) (fun z σ2 => z = rFit A oo e ∧ CF σ σ2)) := by
  refine vMet.intro 0 (by decide +kernel) (Nat.le_of_ble_eq_true rfl) rfl (fun cx hM _ => ?_)
  obtain ⟨⟨q0, q1, q2, q3, q4, q5, q6, q7⟩, hVi, hWe, hCo, hOf, hBo, hWo, hMo, hRe, hLi, hTa⟩ := id hO
  obtain ⟨⟨l0, l1, lV, lC, lZ, lS⟩, ⟨b0, b1, bO, bB⟩, ⟨w0, wR, wL⟩, ⟨t0, t1, t2, tR, tB⟩, ⟨n9, nW⟩, m0, mM⟩ := id hC
  refine v_aload0 d_V_fit_0 ?_
  refine v_iload1 d_V_fit_1 ?_
  refine v_fVZ1 d_V_fit_2 l_V_249 k_V_servesToday (c_V_servesToday hC hO (by omega)) (sh_0 T) rfl (by decide) (by decide) (Nat.le_of_ble_eq_true rfl) (Nat.zero_le _) (Nat.zero_le _) (fun g2 => ?_)
  refine v_ifb_eq d_V_fit_5 (fun u5 => ?_) (fun u5 => ?_)
  · refine v_iconst d_V_fit_19 ?_
    exact v_ireturn hM d_V_fit_20 (by omega) ⟨rfl, by rw [rFit, if_neg (by omega)], CF.rfl'⟩
  · refine v_iload2 d_V_fit_8 ?_
    refine v_iconst d_V_fit_9 ?_
    refine v_sipush d_V_fit_10 rfl ?_
    refine v_fSZ3 d_V_fit_13 l_V_82 k_V_isWithin (c_V_isWithin (by omega) (by omega) (by omega)) (by decide) (by decide) (Nat.le_of_ble_eq_true rfl) (Nat.zero_le _) (Nat.zero_le _) (fun g13 => ?_)
    refine v_ifb_ne d_V_fit_16 (fun u16 => ?_) (fun u16 => ?_)
    · refine v_aload0 d_V_fit_21 ?_
      refine v_getR d_V_fit_22 f_V_58 (sh_0 T) rfl ?_
      refine v_iload1 d_V_fit_25 ?_
      refine v_iload2 d_V_fit_26 ?_
      refine v_gVI2 d_V_fit_27 l_V_252 k_De_fitFor (c_De_fitFor hC hO (by omega) (by omega)) (sh_49 T) rfl (by decide) (by decide) (Nat.le_of_ble_eq_true rfl) (Nat.zero_le _) (Nat.zero_le _) (fun z27 s27 g27 e27 => ?_)
      exact v_ireturn hM d_V_fit_30 g27 ⟨rfl, e27.1, e27.2⟩
    · refine v_iconst d_V_fit_19 ?_
      exact v_ireturn hM d_V_fit_20 (by omega) ⟨rfl, by rw [rFit, if_neg (by omega)], CF.rfl'⟩

