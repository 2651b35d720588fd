theorem scA_go {p : Sc5} {a n : Int} (h : 20 ≤ a ∧ a ≤ 25) : (scA p a n).2.2.2.2 = b01 (a ≠ 25) := by
  rcases (show a = 20 ∨ a = 21 ∨ a = 22 ∨ a = 23 ∨ a = 24 ∨ a = 25 by omega) with rfl | rfl | rfl | rfl | rfl | rfl <;> rfl
theorem c_M_scales_162 {T : vSh} {σ σ1 : vMem} {cx : vCx} {A : Int → Int} (hA : σ 56 = A) (hO : okA A) {oo dd k : Int} (h0 : 0 ≤ oo ∧ oo < A 1) (h1 : 0 ≤ dd ∧ dd < 1200) (h2 : vIn k) (h3 : A (360 + 4 * oo + 2) ≤ dd) (hM : vM cx 0 0 none (rP (S0 ++ T) (fun _ σ2 => (∀ k, k ≠ 61 → σ2 k = σ k) ∧ scM σ2 (scF A oo dd k) ∧ σ2 61 4 = dueY A oo dd k))) {r gg li : Int} {p : Sc5} (hσ : ∀ k, k ≠ 61 → σ1 k = σ k) (hp : scM σ1 p) (he : p.1 = (scF A oo dd k).1 ∧ p.2.1 = (scF A oo dd k).2.1 ∧ p.2.2.1 = (scF A oo dd k).2.2.1 ∧ p.2.2.2.1 = (scF A oo dd k).2.2.2.1) : vV cx y_M_scales.cls prog_14_method_66_code 8 6 0 0 0 0 162 [some (.ref 55), some (.int (iI oo)), some (.int (iI dd)), some (.int (iI k)), some (.int (iI r)), some (.int (iI gg)), some (.int (iI li)), none] [] (S0 ++ T) σ1 := by
  have hr := scF_rng hO oo dd k
  obtain ⟨p0, p1, p2, p3⟩ := id hp
  have hm := mul_rng (a := σ1 61 0) (b := σ1 61 1) (m := 159984) (n := 12) (by omega) (by omega)
  refine v_aload0 d_M_scales_162 ?_
  refine v_getR d_M_scales_163 f_M_26 (sh_55 T) rfl ?_
  refine v_iconst d_M_scales_166 ?_
  refine v_aload0 d_M_scales_167 ?_
  refine v_getR d_M_scales_168 f_M_26 (sh_55 T) rfl ?_
  refine v_iconst d_M_scales_171 ?_
  refine v_iaload d_M_scales_172 (sh_61 T) (by omega) (fun g172 => ?_)
  refine v_aload0 d_M_scales_173 ?_
  refine v_getR d_M_scales_174 f_M_26 (sh_55 T) rfl ?_
  refine v_iconst d_M_scales_177 ?_
  refine v_iaload d_M_scales_178 (sh_61 T) (by omega) (fun g178 => ?_)
  refine v_imul d_M_scales_179 ?_
  refine v_bipush d_M_scales_180 rfl ?_
  refine v_idiv d_M_scales_182 (by omega) (by omega) ?_
  refine v_iastore d_M_scales_183 (sh_61 T) (by omega) (by omega) ?_
  refine v_return hM d_M_scales_184 ⟨rfl, fun k hk => by rw [vUp_ne hk, hσ k hk], ?_, ?_⟩
  · refine ⟨?_, ?_, ?_, ?_⟩ <;> rw [vUp_ix (by decide)] <;> omega
  · rw [vUp_same, p0, p1, he.1, he.2.1, dueY]

theorem c_M_scales_53 {T : vSh} {σ : vMem} {cx : vCx} {A : Int → Int} (hA : σ 56 = A) (hO : okA A) {oo dd k : Int} (h0 : 0 ≤ oo ∧ oo < A 1) (h1 : 0 ≤ dd ∧ dd < 1200) (h2 : vIn k) (h3 : A (360 + 4 * oo + 2) ≤ dd) (hM : vM cx 0 0 none (rP (S0 ++ T) (fun _ σ2 => (∀ k, k ≠ 61 → σ2 k = σ k) ∧ scM σ2 (scF A oo dd k) ∧ σ2 61 4 = dueY A oo dd k))) {r : Int} (hr : r = reF A dd (A 3).toNat) (hr0 : 0 ≤ r) : ∀ (n l : Nat) (gg li : Int) (σ1 : vMem), (l : Int) + n = A (10 + 2 * r + 1) → li = l → gg = (scS A oo dd k r l).2.2.2.2 → (∀ k, k ≠ 61 → σ1 k = σ k) → scM σ1 (scS A oo dd k r l) → vV cx y_M_scales.cls prog_14_method_66_code 8 6 0 0 0 0 53 [some (.ref 55), some (.int (iI oo)), some (.int (iI dd)), some (.int (iI k)), some (.int (iI r)), some (.int (iI gg)), some (.int (iI li)), none] [] (S0 ++ T) σ1 := by
  intro n
  induction n with
  | zero =>
    intro l gg li σ1 hl0 hli hgg hσ hp
    obtain ⟨⟨q0, q1, q2, q3, q4, q5, q6, q7⟩, hVi, hWe, hCo, hOf, hBo, hWo, hMo, hRe, hLi, hTa⟩ := id hO
    have hrr := reF_rng A dd (A 3).toNat
    have h9 := hRe r (by omega) (by omega)
    have hA1 : σ1 56 = A := by rw [hσ 56 (by decide)]; exact hA
    have hp9 := scS_rng A oo dd k r l (fun l' g1 g2 => hLi r l' (by omega) (by omega) g1 (by omega))
    have hl1 : l = (A (10 + 2 * r + 1)).toNat := by omega
    refine v_iload5 d_M_scales_53 ?_
    refine v_if_eq d_M_scales_55 (by omega) (fun u55 => ?_) (fun u55 => ?_)
    · exact c_M_scales_162 hA hO h0 h1 h2 h3 hM hσ hp (by rw [scF, if_neg (by omega), ← hr, ← hl1]; exact ⟨rfl, rfl, rfl, rfl⟩)
    · refine v_iload6 d_M_scales_58 ?_
      refine v_aload0 d_M_scales_60 ?_
      refine v_getR d_M_scales_61 f_M_7 (sh_55 T) rfl ?_
      refine v_bipush d_M_scales_64 rfl ?_
      refine v_iconst d_M_scales_66 ?_
      refine v_iload4 d_M_scales_67 ?_
      refine v_imul d_M_scales_69 ?_
      refine v_iadd d_M_scales_70 ?_
      refine v_iconst d_M_scales_71 ?_
      refine v_iadd d_M_scales_72 ?_
      refine v_ialoadE hA1 d_M_scales_73 (sh_56 T) (by omega) (fun g73 => ?_)
      refine v_icmp_ge d_M_scales_74 (by omega) (by omega) (fun u74 => ?_) (fun u74 => ?_)
      · exact c_M_scales_162 hA hO h0 h1 h2 h3 hM hσ hp (by rw [scF, if_neg (by omega), ← hr, ← hl1]; exact ⟨rfl, rfl, rfl, rfl⟩)
      · omega
  | succ n ih =>
    intro l gg li σ1 hl0 hli hgg hσ hp
    obtain ⟨⟨q0, q1, q2, q3, q4, q5, q6, q7⟩, hVi, hWe, hCo, hOf, hBo, hWo, hMo, hRe, hLi, hTa⟩ := id hO
    have hrr := reF_rng A dd (A 3).toNat
    have h9 := hRe r (by omega) (by omega)
    have hA1 : σ1 56 = A := by rw [hσ 56 (by decide)]; exact hA
    have hp9 := scS_rng A oo dd k r l (fun l' g1 g2 => hLi r l' (by omega) (by omega) g1 (by omega))
    have hl := hLi r li (by omega) (by omega) (by omega) (by omega)
    obtain ⟨hl2, -, hl3, hl4, hl5, hl6, hl7⟩ := id hl
    refine v_iload5 d_M_scales_53 ?_
    refine v_if_eq d_M_scales_55 (by omega) (fun u55 => ?_) (fun u55 => ?_)
    · exact c_M_scales_162 hA hO h0 h1 h2 h3 hM hσ hp (by rw [scF, if_neg (by omega), ← hr, scS_stop A oo dd k r (t := l) (by omega) (A (10 + 2 * r + 1)).toNat (by omega)]; exact ⟨rfl, rfl, rfl, rfl⟩)
    · refine v_iload6 d_M_scales_58 ?_
      refine v_aload0 d_M_scales_60 ?_
      refine v_getR d_M_scales_61 f_M_7 (sh_55 T) rfl ?_
      refine v_bipush d_M_scales_64 rfl ?_
      refine v_iconst d_M_scales_66 ?_
      refine v_iload4 d_M_scales_67 ?_
      refine v_imul d_M_scales_69 ?_
      refine v_iadd d_M_scales_70 ?_
      refine v_iconst d_M_scales_71 ?_
      refine v_iadd d_M_scales_72 ?_
      refine v_ialoadE hA1 d_M_scales_73 (sh_56 T) (by omega) (fun g73 => ?_)
      refine v_icmp_ge d_M_scales_74 (by omega) (by omega) (fun u74 => ?_) (fun u74 => ?_)
      · omega
      · refine v_sipush d_M_scales_77 rfl ?_
        refine v_sipush d_M_scales_80 rfl ?_
        refine v_iload4 d_M_scales_83 ?_
        refine v_imul d_M_scales_85 ?_
        refine v_iadd d_M_scales_86 ?_
        refine v_bipush d_M_scales_87 rfl ?_
        refine v_iload6 d_M_scales_89 ?_
        refine v_imul d_M_scales_91 ?_
        refine v_iadd d_M_scales_92 ?_
        refine v_istore7 d_M_scales_93 (by decide) rfl ?_
        refine v_aload0 d_M_scales_95 ?_
        refine v_iload7 d_M_scales_96 ?_
        refine v_iload1 d_M_scales_98 ?_
        refine v_iload2 d_M_scales_99 ?_
        refine v_iload3 d_M_scales_100 ?_
        refine v_fVZ4 d_M_scales_101 l_M_241 k_M_holds (c_M_holds hA1 hO (by omega) (by omega) (by omega) (by omega) (by omega) hl) (sh_55 T) rfl (by decide) (by decide) (Nat.le_of_ble_eq_true rfl) (Nat.zero_le _) (Nat.zero_le _) (fun g101 => ?_)
        refine v_if_ne d_M_scales_104 (by omega) (fun u104 => ?_) (fun u104 => ?_)
        · refine v_aload0 d_M_scales_110 ?_
          refine v_aload0 d_M_scales_111 ?_
          refine v_getR d_M_scales_112 f_M_7 (sh_55 T) rfl ?_
          refine v_iload7 d_M_scales_115 ?_
          refine v_bipush d_M_scales_117 rfl ?_
          refine v_iadd d_M_scales_119 ?_
          refine v_ialoadE hA1 d_M_scales_120 (sh_56 T) (by omega) (fun g120 => ?_)
          refine v_aload0 d_M_scales_121 ?_
          refine v_getR d_M_scales_122 f_M_7 (sh_55 T) rfl ?_
          refine v_iload7 d_M_scales_125 ?_
          refine v_bipush d_M_scales_127 rfl ?_
          refine v_iadd d_M_scales_129 ?_
          refine v_ialoadE hA1 d_M_scales_130 (sh_56 T) (by omega) (fun g130 => ?_)
          refine v_gVV2 d_M_scales_131 l_M_245 k_M_does (c_M_does hp (by omega) (by omega) (by omega) (by omega)) (sh_55 T) rfl (by decide) (by decide) (Nat.le_of_ble_eq_true rfl) (Nat.zero_le _) (Nat.zero_le _) (fun z131 s131 e131 => ?_)
          have hA131 : s131 56 = A := by rw [e131.1 56 (by decide)]; exact hA1
          refine v_aload0 d_M_scales_134 ?_
          refine v_getR d_M_scales_135 f_M_7 (sh_55 T) rfl ?_
          refine v_iload7 d_M_scales_138 ?_
          refine v_bipush d_M_scales_140 rfl ?_
          refine v_iadd d_M_scales_142 ?_
          refine v_ialoadE hA131 d_M_scales_143 (sh_56 T) (by omega) (fun g143 => ?_)
          refine v_bipush d_M_scales_144 rfl ?_
          refine v_icmp_eq d_M_scales_146 (by omega) (by omega) (fun u146 => ?_) (fun u146 => ?_)
          · refine v_iconst d_M_scales_153 ?_
            refine v_istore5 d_M_scales_154 (by decide) rfl ?_
            refine v_iinc6 d_M_scales_156 (by decide) rfl ?_
            refine v_goto d_M_scales_159 ?_
            refine v_drop7 ?_
            have esc : scS A oo dd k r (l + 1) = scA (scS A oo dd k r l) (A (1430 + 320 * r + 20 * li + 17)) (A (1430 + 320 * r + 20 * li + 18)) := by rw [scS, if_neg (by omega), if_neg (by rw [← hli]; omega), hli]
            exact ih (l + 1) _ _ _ (by omega) (by omega) (by rw [esc, scA_go (by omega)]; first | exact b01_1 (by omega) | exact b01_0 (by omega)) (fun k hk => by rw [e131.1 k hk]; exact hσ k hk) (by rw [esc]; exact e131.2)
          · refine v_iconst d_M_scales_149 ?_
            refine v_goto d_M_scales_150 ?_
            refine v_istore5 d_M_scales_154 (by decide) rfl ?_
            refine v_iinc6 d_M_scales_156 (by decide) rfl ?_
            refine v_goto d_M_scales_159 ?_
            refine v_drop7 ?_
            have esc : scS A oo dd k r (l + 1) = scA (scS A oo dd k r l) (A (1430 + 320 * r + 20 * li + 17)) (A (1430 + 320 * r + 20 * li + 18)) := by rw [scS, if_neg (by omega), if_neg (by rw [← hli]; omega), hli]
            exact ih (l + 1) _ _ _ (by omega) (by omega) (by rw [esc, scA_go (by omega)]; first | exact b01_1 (by omega) | exact b01_0 (by omega)) (fun k hk => by rw [e131.1 k hk]; exact hσ k hk) (by rw [esc]; exact e131.2)
        · refine v_goto d_M_scales_107 ?_
          refine v_iinc6 d_M_scales_156 (by decide) rfl ?_
          refine v_goto d_M_scales_159 ?_
          refine v_drop7 ?_
          exact ih (l + 1) _ _ _ (by omega) (by omega) (by rw [scS, if_neg (by omega), if_pos (by rw [← hli]; omega)]; exact hgg) hσ (by rw [scS, if_neg (by omega), if_pos (by rw [← hli]; omega)]; exact hp)

theorem c_M_scales {T : vSh} {σ : vMem} {A : Int → Int} (hA : σ 56 = A) (hO : okA A) {oo dd k : Int} (h0 : 0 ≤ oo ∧ oo < A 1) (h1 : 0 ≤ dd ∧ dd < 1200) (h2 : vIn k) (h3 : A (360 + 4 * oo + 2) ≤ dd) : mt_M_scales [.ref 55, .int (iI oo), .int (iI dd), .int (iI k)] (S0 ++ T) σ (rP (S0 ++ T) (fun _ σ2 => (∀ k, k ≠ 61 → σ2 k = σ k) ∧ scM σ2 (scF A oo dd k) ∧ σ2 61 4 = dueY A oo dd k)) := by
  refine vMet.intro 4 (by decide +kernel) (Nat.le_of_ble_eq_true rfl) rfl (fun cx hM _ => ?_)
  obtain ⟨⟨q0, q1, q2, q3, q4, q5, q6, q7⟩, hVi, hWe, hCo, hOf, hBo, hWo, hMo, hRe, hLi, hTa⟩ := id hO
  refine v_aload0 d_M_scales_0 ?_
  refine v_getR d_M_scales_1 f_M_26 (sh_55 T) rfl ?_
  refine v_iconst d_M_scales_4 ?_
  refine v_iconst d_M_scales_5 ?_
  refine v_iastore d_M_scales_6 (sh_61 T) (by omega) (by omega) ?_
  refine v_aload0 d_M_scales_7 ?_
  refine v_getR d_M_scales_8 f_M_26 (sh_55 T) rfl ?_
  refine v_iconst d_M_scales_11 ?_
  refine v_bipush d_M_scales_12 rfl ?_
  refine v_iastore d_M_scales_14 (sh_61 T) (by omega) (by omega) ?_
  refine v_aload0 d_M_scales_15 ?_
  refine v_getR d_M_scales_16 f_M_26 (sh_55 T) rfl ?_
  refine v_iconst d_M_scales_19 ?_
  refine v_iconst d_M_scales_20 ?_
  refine v_iastore d_M_scales_21 (sh_61 T) (by omega) (by omega) ?_
  refine v_aload0 d_M_scales_22 ?_
  refine v_getR d_M_scales_23 f_M_26 (sh_55 T) rfl ?_
  refine v_iconst d_M_scales_26 ?_
  refine v_sipush d_M_scales_27 rfl ?_
  refine v_iastore d_M_scales_30 (sh_61 T) (by omega) (by omega) ?_
  have hσ : ∀ k, k ≠ 61 → (vUp (vUp (vUp (vUp σ 61 0 0) 61 1 12) 61 2 0) 61 3 150) k = σ k := fun k hk => by rw [vUp_ne hk, vUp_ne hk, vUp_ne hk, vUp_ne hk]
  have hA1 : (vUp (vUp (vUp (vUp σ 61 0 0) 61 1 12) 61 2 0) 61 3 150) 56 = A := by rw [hσ 56 (by decide)]; exact hA
  refine v_aload0 d_M_scales_31 ?_
  refine v_iload2 d_M_scales_32 ?_
  refine v_fVI1 d_M_scales_33 l_M_238 k_M_reignOf (c_M_reignOf hA1 (by omega) (by omega)) (sh_55 T) rfl (by decide) (by decide) (Nat.le_of_ble_eq_true rfl) (Nat.zero_le _) (Nat.zero_le _) (fun g33 => ?_)
  have hrr := reF_rng A dd (A 3).toNat
  refine v_istore4 d_M_scales_36 (by decide) rfl ?_
  refine v_iload4 d_M_scales_38 ?_
  refine v_if_lt d_M_scales_40 (by omega) (fun u40 => ?_) (fun u40 => ?_)
  · refine v_iconst d_M_scales_47 ?_
    refine v_istore5 d_M_scales_48 (by decide) rfl ?_
    refine v_iconst d_M_scales_50 ?_
    refine v_istore6 d_M_scales_51 (by decide) rfl ?_
    have hi4 : scM (vUp (vUp (vUp (vUp σ 61 0 0) 61 1 12) 61 2 0) 61 3 150) (0, 12, 0, 150, 0) := ⟨rfl, rfl, rfl, rfl⟩
    refine v_iload5 d_M_scales_53 ?_
    refine v_if_eq d_M_scales_55 (by omega) (fun u55 => ?_) (fun u55 => ?_)
    · exact c_M_scales_162 hA hO h0 h1 h2 h3 hM hσ hi4 (by rw [scF, if_pos (by omega)]; exact ⟨rfl, rfl, rfl, rfl⟩)
    · omega
  · refine v_iconst d_M_scales_43 ?_
    refine v_goto d_M_scales_44 ?_
    refine v_istore5 d_M_scales_48 (by decide) rfl ?_
    refine v_iconst d_M_scales_50 ?_
    refine v_istore6 d_M_scales_51 (by decide) rfl ?_
    exact c_M_scales_53 hA hO h0 h1 h2 h3 hM rfl (by omega) (A (10 + 2 * reF A dd (A 3).toNat + 1)).toNat 0 _ _ _ (by have := hRe (reF A dd (A 3).toNat) (by omega) (by omega); omega) rfl rfl hσ ⟨rfl, rfl, rfl, rfl⟩

