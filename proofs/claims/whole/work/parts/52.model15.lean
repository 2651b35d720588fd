def viB (A : Int → Int) (p x y : Int) (j : Int) : Int → Int := fun i => if 120 + 20 * A 0 ≤ i ∧ i < 120 + 20 * A 0 + j then 0 else upF (upF (upF (upF (upF A (40 + 6 * A 0) p) (40 + 6 * A 0 + 1) x) (40 + 6 * A 0 + 2) y) (40 + 6 * A 0 + 3) 100) (40 + 6 * A 0 + 4) 100 i
theorem viB_0 {A : Int → Int} (h : 0 ≤ A 0) (p x y j : Int) : viB A p x y j 0 = A 0 := by
  unfold viB
  rw [if_neg (by omega), upF_n (by omega), upF_n (by omega), upF_n (by omega), upF_n (by omega), upF_n (by omega)]
theorem viB_z (A : Int → Int) (p x y : Int) : viB A p x y 0 = upF (upF (upF (upF (upF A (40 + 6 * A 0) p) (40 + 6 * A 0 + 1) x) (40 + 6 * A 0 + 2) y) (40 + 6 * A 0 + 3) 100) (40 + 6 * A 0 + 4) 100 := by
  funext i
  unfold viB
  rw [if_neg (by omega)]
theorem viB_s (A : Int → Int) (p x y : Int) {j : Int} (hj : 0 ≤ j) : upF (viB A p x y j) (120 + 20 * A 0 + j) 0 = viB A p x y (j + 1) := by
  funext i
  unfold upF viB
  by_cases q : i = 120 + 20 * A 0 + j
  · rw [if_pos q, if_pos (by omega)]
  · rw [if_neg q]
    by_cases z : 120 + 20 * A 0 ≤ i ∧ i < 120 + 20 * A 0 + j
    · rw [if_pos z, if_pos (by omega)]
    · rw [if_neg z, if_neg (by omega)]
theorem viB_e {A : Int → Int} (h : 0 ≤ A 0 ∧ A 0 < 12) (p x y : Int) : upF (viB A p x y 20) 0 (A 0 + 1) = viA A p x y := by
  funext i
  unfold viA
  by_cases q : i = 0
  · rw [q, upF_s, if_pos rfl]
  · rw [upF_n q, if_neg q]
    unfold viB
    by_cases z : 120 + 20 * A 0 ≤ i ∧ i < 120 + 20 * A 0 + 20
    · rw [if_pos z, if_pos (by omega)]
    · rw [if_neg z, if_neg (by omega)]
      unfold upF
      by_cases z4 : i = 40 + 6 * A 0 + 4
      · rw [if_pos z4, if_neg (by omega), if_neg (by omega), if_neg (by omega), if_neg (by omega), if_pos z4]
      · rw [if_neg z4]
        by_cases z3 : i = 40 + 6 * A 0 + 3
        · rw [if_pos z3, if_neg (by omega), if_neg (by omega), if_neg (by omega), if_pos z3]
        · rw [if_neg z3]
          by_cases z2 : i = 40 + 6 * A 0 + 2
          · rw [if_pos z2, if_neg (by omega), if_neg (by omega), if_pos z2]
          · rw [if_neg z2]
            by_cases z1 : i = 40 + 6 * A 0 + 1
            · rw [if_pos z1, if_neg (by omega), if_pos z1]
            · rw [if_neg z1]
              by_cases z0 : i = 40 + 6 * A 0
              · rw [if_pos z0, if_pos (by omega)]
              · rw [if_neg z0, if_neg (by omega), if_neg z1, if_neg z2, if_neg z3, if_neg z4]
theorem c_M_village_111 {T : vSh} {σ : vMem} {cx : vCx} {A : Int → Int} (hA : σ 56 = A) (hO : okA A) {p x y : Int} (h0 : A 0 < 12 ∧ (1 ≤ p ∧ p ≤ 9999) ∧ (0 ≤ x ∧ x ≤ 50) ∧ 0 ≤ y ∧ y ≤ 50) {at9 : Int} (hM : vM cx 0 0 (some .int) (rP (S0 ++ T) (fun z σ2 => z = (wVi A p x y).2 ∧ (∀ k, k ≠ 56 → σ2 k = σ k) ∧ σ2 56 = (wVi A p x y).1))) : ∀ (n j : Nat) (i : Int) (σ1 : vMem), (j : Int) + n = 20 → i = j → (∀ k, k ≠ 56 → σ1 k = σ k) → σ1 56 = viB A p x y (j : Int) → vV cx y_M_village.cls prog_14_method_10_code 6 1 0 0 0 0 111 [some (.ref 55), some (.int (iI p)), some (.int (iI x)), some (.int (iI y)), some (.int (iI at9)), some (.int (iI i))] [] (S0 ++ T) σ1 := by
  intro n
  induction n with
  | zero =>
    intro j i σ1 hj hi hσ hB
    obtain ⟨⟨q0, q1, q2, q3, q4, q5, q6, q7⟩, hVi, hWe, hCo, hOf, hBo, hWo, hMo, hRe, hLi, hTa⟩ := id hO
    have hz0 := viB_0 q0.1 p x y (j : Int)
    refine v_iload5 d_M_village_111 ?_
    refine v_bipush d_M_village_113 rfl ?_
    refine v_icmp_ge d_M_village_115 (by omega) (by omega) (fun u115 => ?_) (fun u115 => ?_)
    · refine v_aload0 d_M_village_145 ?_
      refine v_getR d_M_village_146 f_M_7 (sh_55 T) rfl ?_
      refine v_iconst d_M_village_149 ?_
      refine v_dup2 d_M_village_150 rfl rfl ?_
      refine v_ialoadE hB d_M_village_151 (sh_56 T) (by omega) (fun g151 => ?_)
      rw [hz0] at g151
      rw [hz0]
      refine v_iconst d_M_village_152 ?_
      refine v_iadd d_M_village_153 ?_
      refine v_iastoreE hB d_M_village_154 (sh_56 T) (by omega) (by omega) (fun m154 f154 hA154 => ?_)
      refine v_aload0 d_M_village_155 ?_
      refine v_getR d_M_village_156 f_M_7 (sh_55 T) rfl ?_
      refine v_iconst d_M_village_159 ?_
      refine v_ialoadE hA154 d_M_village_160 (sh_56 T) (by omega) (fun g160 => ?_)
      rw [upF_s] at g160
      rw [upF_s]
      refine v_iconst d_M_village_161 ?_
      refine v_isub d_M_village_162 ?_
      exact v_ireturn hM d_M_village_163 (by omega) ⟨rfl, by rw [wVi, if_pos h0]; dsimp only; omega, fun k hk => by rw [f154 k hk]; exact hσ k hk, by rw [wVi, if_pos h0, hA154, show (j : Int) = 20 by omega]; exact viB_e (by omega) p x y⟩
    · omega
  | succ n ih =>
    intro j i σ1 hj hi hσ hB
    obtain ⟨⟨q0, q1, q2, q3, q4, q5, q6, q7⟩, hVi, hWe, hCo, hOf, hBo, hWo, hMo, hRe, hLi, hTa⟩ := id hO
    have hz0 := viB_0 q0.1 p x y (j : Int)
    refine v_iload5 d_M_village_111 ?_
    refine v_bipush d_M_village_113 rfl ?_
    refine v_icmp_ge d_M_village_115 (by omega) (by omega) (fun u115 => ?_) (fun u115 => ?_)
    · omega
    · refine v_aload0 d_M_village_118 ?_
      refine v_getR d_M_village_119 f_M_7 (sh_55 T) rfl ?_
      refine v_bipush d_M_village_122 rfl ?_
      refine v_bipush d_M_village_124 rfl ?_
      refine v_aload0 d_M_village_126 ?_
      refine v_getR d_M_village_127 f_M_7 (sh_55 T) rfl ?_
      refine v_iconst d_M_village_130 ?_
      refine v_ialoadE hB d_M_village_131 (sh_56 T) (by omega) (fun g131 => ?_)
      rw [hz0] at g131
      rw [hz0]
      refine v_imul d_M_village_132 ?_
      refine v_iadd d_M_village_133 ?_
      refine v_iload5 d_M_village_134 ?_
      refine v_iadd d_M_village_136 ?_
      refine v_iconst d_M_village_137 ?_
      refine v_iastoreE hB d_M_village_138 (sh_56 T) (by omega) (by omega) (fun m138 f138 hA138 => ?_)
      refine v_iinc5 d_M_village_139 (by decide) rfl ?_
      refine v_goto d_M_village_142 ?_
      exact ih (j + 1) _ _ (by omega) (by omega) (fun k hk => by rw [f138 k hk]; exact hσ k hk) (by rw [hA138, hi, viB_s A p x y (by omega)]; rfl)

theorem c_M_village {T : vSh} {σ : vMem} {A : Int → Int} (hA : σ 56 = A) (hO : okA A) {p x y : Int} (h0 : vIn p) (h1 : vIn x) (h2 : vIn y) : mt_M_village [.ref 55, .int (iI p), .int (iI x), .int (iI y)] (S0 ++ T) σ (rP (S0 ++ T) (fun z σ2 => z = (wVi A p x y).2 ∧ (∀ k, k ≠ 56 → σ2 k = σ k) ∧ σ2 56 = (wVi A p x y).1)) := by
  refine vMet.intro 2 (by decide +kernel) (Nat.le_of_ble_eq_true rfl) rfl (fun cx hM _ => ?_)
  obtain ⟨⟨q0, q1, q2, q3, q4, q5, q6, q7⟩, hVi, hWe, hCo, hOf, hBo, hWo, hMo, hRe, hLi, hTa⟩ := id hO
  refine v_aload0 d_M_village_0 ?_
  refine v_getR d_M_village_1 f_M_7 (sh_55 T) rfl ?_
  refine v_iconst d_M_village_4 ?_
  refine v_ialoadE hA d_M_village_5 (sh_56 T) (by omega) (fun g5 => ?_)
  refine v_bipush d_M_village_6 rfl ?_
  refine v_icmp_eq d_M_village_8 (by omega) (by omega) (fun u8 => ?_) (fun u8 => ?_)
  · refine v_iconst d_M_village_42 ?_
    exact v_ireturn hM d_M_village_43 (by omega) ⟨rfl, by rw [wVi, if_neg (by omega)], fun k _ => rfl, by rw [wVi, if_neg (by omega)]; exact hA⟩
  · refine v_iload1 d_M_village_11 ?_
    refine v_iconst d_M_village_12 ?_
    refine v_sipush d_M_village_13 rfl ?_
    refine v_fSZ3 d_M_village_16 l_M_56 k_M_isIn (c_M_isIn (by omega) (by omega) (by omega)) (by decide) (by decide) (Nat.le_of_ble_eq_true rfl) (Nat.zero_le _) (Nat.zero_le _) (fun g16 => ?_)
    refine v_ifb_eq d_M_village_19 (fun u19 => ?_) (fun u19 => ?_)
    · refine v_iconst d_M_village_42 ?_
      exact v_ireturn hM d_M_village_43 (by omega) ⟨rfl, by rw [wVi, if_neg (by omega)], fun k _ => rfl, by rw [wVi, if_neg (by omega)]; exact hA⟩
    · refine v_iload2 d_M_village_22 ?_
      refine v_iconst d_M_village_23 ?_
      refine v_bipush d_M_village_24 rfl ?_
      refine v_fSZ3 d_M_village_26 l_M_56 k_M_isIn (c_M_isIn (by omega) (by omega) (by omega)) (by decide) (by decide) (Nat.le_of_ble_eq_true rfl) (Nat.zero_le _) (Nat.zero_le _) (fun g26 => ?_)
      refine v_ifb_eq d_M_village_29 (fun u29 => ?_) (fun u29 => ?_)
      · refine v_iconst d_M_village_42 ?_
        exact v_ireturn hM d_M_village_43 (by omega) ⟨rfl, by rw [wVi, if_neg (by omega)], fun k _ => rfl, by rw [wVi, if_neg (by omega)]; exact hA⟩
      · refine v_iload3 d_M_village_32 ?_
        refine v_iconst d_M_village_33 ?_
        refine v_bipush d_M_village_34 rfl ?_
        refine v_fSZ3 d_M_village_36 l_M_56 k_M_isIn (c_M_isIn (by omega) (by omega) (by omega)) (by decide) (by decide) (Nat.le_of_ble_eq_true rfl) (Nat.zero_le _) (Nat.zero_le _) (fun g36 => ?_)
        refine v_ifb_ne d_M_village_39 (fun u39 => ?_) (fun u39 => ?_)
        · refine v_bipush d_M_village_44 rfl ?_
          refine v_bipush d_M_village_46 rfl ?_
          refine v_aload0 d_M_village_48 ?_
          refine v_getR d_M_village_49 f_M_7 (sh_55 T) rfl ?_
          refine v_iconst d_M_village_52 ?_
          refine v_ialoadE hA d_M_village_53 (sh_56 T) (by omega) (fun g53 => ?_)
          refine v_imul d_M_village_54 ?_
          refine v_iadd d_M_village_55 ?_
          refine v_istore4 d_M_village_56 (by decide) rfl ?_
          refine v_aload0 d_M_village_58 ?_
          refine v_getR d_M_village_59 f_M_7 (sh_55 T) rfl ?_
          refine v_iload4 d_M_village_62 ?_
          refine v_iload1 d_M_village_64 ?_
          refine v_iastoreE hA d_M_village_65 (sh_56 T) (by omega) (by omega) (fun m65 f65 hA65 => ?_)
          refine v_aload0 d_M_village_66 ?_
          refine v_getR d_M_village_67 f_M_7 (sh_55 T) rfl ?_
          refine v_iload4 d_M_village_70 ?_
          refine v_iconst d_M_village_72 ?_
          refine v_iadd d_M_village_73 ?_
          refine v_iload2 d_M_village_74 ?_
          refine v_iastoreE hA65 d_M_village_75 (sh_56 T) (by omega) (by omega) (fun m75 f75 hA75 => ?_)
          refine v_aload0 d_M_village_76 ?_
          refine v_getR d_M_village_77 f_M_7 (sh_55 T) rfl ?_
          refine v_iload4 d_M_village_80 ?_
          refine v_iconst d_M_village_82 ?_
          refine v_iadd d_M_village_83 ?_
          refine v_iload3 d_M_village_84 ?_
          refine v_iastoreE hA75 d_M_village_85 (sh_56 T) (by omega) (by omega) (fun m85 f85 hA85 => ?_)
          refine v_aload0 d_M_village_86 ?_
          refine v_getR d_M_village_87 f_M_7 (sh_55 T) rfl ?_
          refine v_iload4 d_M_village_90 ?_
          refine v_iconst d_M_village_92 ?_
          refine v_iadd d_M_village_93 ?_
          refine v_bipush d_M_village_94 rfl ?_
          refine v_iastoreE hA85 d_M_village_96 (sh_56 T) (by omega) (by omega) (fun m96 f96 hA96 => ?_)
          refine v_aload0 d_M_village_97 ?_
          refine v_getR d_M_village_98 f_M_7 (sh_55 T) rfl ?_
          refine v_iload4 d_M_village_101 ?_
          refine v_iconst d_M_village_103 ?_
          refine v_iadd d_M_village_104 ?_
          refine v_bipush d_M_village_105 rfl ?_
          refine v_iastoreE hA96 d_M_village_107 (sh_56 T) (by omega) (by omega) (fun m107 f107 hA107 => ?_)
          refine v_iconst d_M_village_108 ?_
          refine v_istore5 d_M_village_109 (by decide) rfl ?_
          exact c_M_village_111 hA hO (by omega) hM 20 0 _ _ (by omega) rfl (fun k hk => by rw [f107 k hk, f96 k hk, f85 k hk, f75 k hk, f65 k hk]) (by rw [hA107]; exact (viB_z A p x y).symm)
        · refine v_iconst d_M_village_42 ?_
          exact v_ireturn hM d_M_village_43 (by omega) ⟨rfl, by rw [wVi, if_neg (by omega)], fun k _ => rfl, by rw [wVi, if_neg (by omega)]; exact hA⟩

