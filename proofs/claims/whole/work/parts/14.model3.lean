theorem mul_rng {a b m n : Int} (ha : 0 ≤ a ∧ a ≤ m) (hb : 0 ≤ b ∧ b ≤ n) : 0 ≤ a * b ∧ a * b ≤ m * n := ⟨Int.mul_nonneg ha.1 hb.1, Int.mul_le_mul ha.2 hb.2 hb.1 (by omega)⟩
theorem askF_rng {A : Int → Int} (hO : okA A) {what oo dd k : Int} (ho : 0 ≤ oo ∧ oo < A 1) (hd : 0 ≤ dd ∧ dd < 1200) (hc : A (360 + 4 * oo + 2) ≤ dd) : 0 ≤ askF A what oo dd k ∧ askF A what oo dd k ≤ 12 := by
  obtain ⟨⟨q0, q1, q2, q3, q4, q5, q6, q7⟩, hVi, hWe, hCo, hOf, hBo, hWo, hMo, hRe, hLi, hTa⟩ := id hO
  have h1 := hOf oo ho.1 ho.2
  have h2 := famZ_rng A oo dd k (A 0).toNat
  have h3 := rankF_rng hO ho dd k
  have h4 := cntF_rng A oo dd k (A 0).toNat
  unfold askF
  repeat' split
  all_goals omega

theorem c_M_asked_94 {T : vSh} {σ : vMem} {cx : vCx} {A : Int → Int} (hA : σ 56 = A) (hO : okA A) {what oo dd k : Int} (h0 : 0 ≤ oo ∧ oo < A 1) (h1 : 0 ≤ dd ∧ dd < 1200) (h2 : vIn k) (h3 : A (360 + 4 * oo + 2) ≤ dd) (h4 : 1 ≤ what ∧ what ≤ 6) (hs : what = 6) (hM : vM cx 0 0 (some .int) (rF (S0 ++ T) σ (askF A what oo dd k))) : ∀ (n j : Nat) (n0 i : Int), (j : Int) + n = A 0 → i = j → n0 = cntF A oo dd k j → vV cx y_M_asked.cls prog_14_method_62_code 7 4 0 0 0 0 94 [some (.ref 55), some (.int (iI what)), some (.int (iI oo)), some (.int (iI dd)), some (.int (iI k)), some (.int (iI n0)), some (.int (iI i))] [] (S0 ++ T) σ := by
  intro n
  induction n with
  | zero =>
    intro j n0 i hj hi hn0
    obtain ⟨⟨q0, q1, q2, q3, q4, q5, q6, q7⟩, hVi, hWe, hCo, hOf, hBo, hWo, hMo, hRe, hLi, hTa⟩ := id hO
    have hr := cntF_rng A oo dd k j
    refine v_iload6 d_M_asked_94 ?_
    refine v_aload0 d_M_asked_96 ?_
    refine v_getR d_M_asked_97 f_M_7 (sh_55 T) rfl ?_
    refine v_iconst d_M_asked_100 ?_
    refine v_ialoadE hA d_M_asked_101 (sh_56 T) (by omega) (fun g101 => ?_)
    refine v_icmp_ge d_M_asked_102 (by omega) (by omega) (fun u102 => ?_) (fun u102 => ?_)
    · refine v_iload5 d_M_asked_134 ?_
      exact v_ireturn hM d_M_asked_136 (by omega) ⟨rfl, rfl, by rw [hn0]; simp [askF, hs]; congr 1; omega⟩
    · omega
  | succ n ih =>
    intro j n0 i hj hi hn0
    obtain ⟨⟨q0, q1, q2, q3, q4, q5, q6, q7⟩, hVi, hWe, hCo, hOf, hBo, hWo, hMo, hRe, hLi, hTa⟩ := id hO
    have hr := cntF_rng A oo dd k j
    refine v_iload6 d_M_asked_94 ?_
    refine v_aload0 d_M_asked_96 ?_
    refine v_getR d_M_asked_97 f_M_7 (sh_55 T) rfl ?_
    refine v_iconst d_M_asked_100 ?_
    refine v_ialoadE hA d_M_asked_101 (sh_56 T) (by omega) (fun g101 => ?_)
    refine v_icmp_ge d_M_asked_102 (by omega) (by omega) (fun u102 => ?_) (fun u102 => ?_)
    · omega
    · refine v_iload5 d_M_asked_105 ?_
      refine v_aload0 d_M_asked_107 ?_
      refine v_iload6 d_M_asked_108 ?_
      refine v_iload3 d_M_asked_110 ?_
      refine v_iload4 d_M_asked_111 ?_
      refine v_fVI3 d_M_asked_113 l_M_86 k_M_held (c_M_held hA hO (by omega) (by omega) (by omega)) (sh_55 T) rfl (by decide) (by decide) (Nat.le_of_ble_eq_true rfl) (Nat.zero_le _) (Nat.zero_le _) (fun g113 => ?_)
      refine v_iload2 d_M_asked_116 ?_
      refine v_icmp_ne d_M_asked_117 (by omega) (by omega) (fun u117 => ?_) (fun u117 => ?_)
      · refine v_iconst d_M_asked_124 ?_
        refine v_iadd d_M_asked_125 ?_
        refine v_istore5 d_M_asked_126 (by decide) rfl ?_
        refine v_iinc6 d_M_asked_128 (by decide) rfl ?_
        refine v_goto d_M_asked_131 ?_
        exact ih (j + 1) _ _ (by omega) (by omega) (by rw [cntF, ← hn0, ← hi]; congr 1; first | exact b01_1 (by omega) | exact b01_0 (by omega))
      · refine v_iconst d_M_asked_120 ?_
        refine v_goto d_M_asked_121 ?_
        refine v_iadd d_M_asked_125 ?_
        refine v_istore5 d_M_asked_126 (by decide) rfl ?_
        refine v_iinc6 d_M_asked_128 (by decide) rfl ?_
        refine v_goto d_M_asked_131 ?_
        exact ih (j + 1) _ _ (by omega) (by omega) (by rw [cntF, ← hn0, ← hi]; congr 1; first | exact b01_1 (by omega) | exact b01_0 (by omega))

theorem c_M_asked {T : vSh} {σ : vMem} {A : Int → Int} (hA : σ 56 = A) (hO : okA A) {what oo dd k : Int} (h0 : 0 ≤ oo ∧ oo < A 1) (h1 : 0 ≤ dd ∧ dd < 1200) (h2 : vIn k) (h3 : A (360 + 4 * oo + 2) ≤ dd) (h4 : 1 ≤ what ∧ what ≤ 6) : mt_M_asked [.ref 55, .int (iI what), .int (iI oo), .int (iI dd), .int (iI k)] (S0 ++ T) σ (rF (S0 ++ T) σ (askF A what oo dd k)) := by
  refine vMet.intro 2 (by decide +kernel) (Nat.le_of_ble_eq_true rfl) rfl (fun cx hM _ => ?_)
  obtain ⟨⟨q0, q1, q2, q3, q4, q5, q6, q7⟩, hVi, hWe, hCo, hOf, hBo, hWo, hMo, hRe, hLi, hTa⟩ := id hO
  refine v_iload1 d_M_asked_0 ?_
  rcases (show (what < 1 ∨ 5 < what) ∨ what = 1 ∨ what = 2 ∨ what = 3 ∨ what = 4 ∨ what = 5 by omega) with hs | hs | hs | hs | hs | hs
  · refine v_tableOut d_M_asked_1 (by omega) hs (tgt := 88) rfl ?_
    refine v_iconst d_M_asked_88 ?_
    refine v_istore5 d_M_asked_89 (by decide) rfl ?_
    refine v_iconst d_M_asked_91 ?_
    refine v_istore6 d_M_asked_92 (by decide) rfl ?_
    exact c_M_asked_94 hA hO h0 h1 h2 h3 h4 (by omega) hM (A 0).toNat 0 _ _ (by omega) rfl rfl
  · refine v_table d_M_asked_1 (by omega) (by omega) (by omega) (off := 35) (tgt := 36) (by rw [hs]; rfl) rfl ?_
    refine v_aload0 d_M_asked_36 ?_
    refine v_iload2 d_M_asked_37 ?_
    refine v_iload3 d_M_asked_38 ?_
    refine v_iload4 d_M_asked_39 ?_
    refine v_fVZ3 d_M_asked_41 l_M_232 k_M_isFamished (c_M_isFamished hA hO (by omega) (by omega) (by omega)) (sh_55 T) rfl (by decide) (by decide) (Nat.le_of_ble_eq_true rfl) (Nat.zero_le _) (Nat.zero_le _) (fun g41 => ?_)
    refine v_if_eq d_M_asked_44 (by omega) (fun u44 => ?_) (fun u44 => ?_)
    · refine v_iconst d_M_asked_51 ?_
      exact v_ireturn hM d_M_asked_52 (by omega) ⟨rfl, rfl, by have := famZ_rng A oo dd k (A 0).toNat; simp [askF, hs]; omega⟩
    · refine v_iconst d_M_asked_47 ?_
      refine v_goto d_M_asked_48 ?_
      exact v_ireturn hM d_M_asked_52 (by omega) ⟨rfl, rfl, by have := famZ_rng A oo dd k (A 0).toNat; simp [askF, hs]; omega⟩
  · refine v_table d_M_asked_1 (by omega) (by omega) (by omega) (off := 52) (tgt := 53) (by rw [hs]; rfl) rfl ?_
    refine v_aload0 d_M_asked_53 ?_
    refine v_iload2 d_M_asked_54 ?_
    refine v_iload3 d_M_asked_55 ?_
    refine v_iload4 d_M_asked_56 ?_
    refine v_fVI3 d_M_asked_58 l_M_119 k_M_rankOf (c_M_rankOf hA hO (by omega) (by omega) (by omega)) (sh_55 T) rfl (by decide) (by decide) (Nat.le_of_ble_eq_true rfl) (Nat.zero_le _) (Nat.zero_le _) (fun g58 => ?_)
    exact v_ireturn hM d_M_asked_61 (by omega) ⟨rfl, rfl, by simp [askF, hs]⟩
  · refine v_table d_M_asked_1 (by omega) (by omega) (by omega) (off := 61) (tgt := 62) (by rw [hs]; rfl) rfl ?_
    refine v_iload3 d_M_asked_62 ?_
    refine v_aload0 d_M_asked_63 ?_
    refine v_iload2 d_M_asked_64 ?_
    refine v_iconst d_M_asked_65 ?_
    refine v_fVI2 d_M_asked_66 l_M_98 k_M_officer0 (c_M_officer0 hA (by omega)) (sh_55 T) rfl (by decide) (by decide) (Nat.le_of_ble_eq_true rfl) (Nat.zero_le _) (Nat.zero_le _) (fun g66 => ?_)
    have h8 := hOf oo (by omega) (by omega)
    refine v_isub d_M_asked_69 ?_
    refine v_bipush d_M_asked_70 rfl ?_
    refine v_idiv d_M_asked_72 (by omega) (by omega) ?_
    exact v_ireturn hM d_M_asked_73 (by omega) ⟨rfl, rfl, by simp [askF, hs]⟩
  · refine v_table d_M_asked_1 (by omega) (by omega) (by omega) (off := 73) (tgt := 74) (by rw [hs]; rfl) rfl ?_
    refine v_aload0 d_M_asked_74 ?_
    refine v_iload2 d_M_asked_75 ?_
    refine v_iconst d_M_asked_76 ?_
    refine v_fVI2 d_M_asked_77 l_M_98 k_M_officer0 (c_M_officer0 hA (by omega)) (sh_55 T) rfl (by decide) (by decide) (Nat.le_of_ble_eq_true rfl) (Nat.zero_le _) (Nat.zero_le _) (fun g77 => ?_)
    exact v_ireturn hM d_M_asked_80 (by omega) ⟨rfl, rfl, by simp [askF, hs]⟩
  · refine v_table d_M_asked_1 (by omega) (by omega) (by omega) (off := 80) (tgt := 81) (by rw [hs]; rfl) rfl ?_
    refine v_iload3 d_M_asked_81 ?_
    refine v_bipush d_M_asked_82 rfl ?_
    refine v_idiv d_M_asked_84 (by omega) (by omega) ?_
    refine v_iconst d_M_asked_85 ?_
    refine v_iremN d_M_asked_86 (by omega) (by omega) ?_
    exact v_ireturn hM d_M_asked_87 (by omega) ⟨rfl, rfl, by simp [askF, hs]⟩

theorem c_M_holds_160 {T : vSh} {σ : vMem} {cx : vCx} {A : Int → Int} (hA : σ 56 = A) (hO : okA A) {row oo dd k : Int} (h0 : 0 ≤ oo ∧ oo < A 1) (h1 : 0 ≤ dd ∧ dd < 1200) (h2 : vIn k) (h3 : A (360 + 4 * oo + 2) ≤ dd) (h4 : 1430 ≤ row ∧ row ≤ 2690) (hl : okLn A row) {j : Nat} {z i at0 v n so : Int} (hi : i = j) (hj : (j : Int) < A row) (hz : holdF A row oo dd k j = 1) (e1 : at0 = row + 1 + 4 * i) (e2 : v = askF A (A (at0 + 1)) oo dd k) (e3 : n = A (at0 + 3)) (e4 : so = b01 (cmpP (A (at0 + 2)) v n))
    (K : ∀ z1, z1 = holdF A row oo dd k (j + 1) → vV cx y_M_holds.cls prog_14_method_63_code 11 5 0 0 0 0 162 [some (.ref 55), some (.int (iI row)), some (.int (iI oo)), some (.int (iI dd)), some (.int (iI k)), some (.int (iI z1)), some (.int (iI i)), none, none, none, none] [] (S0 ++ T) σ) : vV cx y_M_holds.cls prog_14_method_63_code 11 5 0 0 0 0 134 [some (.ref 55), some (.int (iI row)), some (.int (iI oo)), some (.int (iI dd)), some (.int (iI k)), some (.int (iI z)), some (.int (iI i)), some (.int (iI at0)), some (.int (iI v)), some (.int (iI n)), some (.int (iI so))] [] (S0 ++ T) σ := by
  obtain ⟨⟨q0, q1, q2, q3, q4, q5, q6, q7⟩, hVi, hWe, hCo, hOf, hBo, hWo, hMo, hRe, hLi, hTa⟩ := id hO
  obtain ⟨hl1, hl2, hl3⟩ := id hl
  have ht := hl2 i (by omega) (by omega)
  have hso : 0 ≤ so ∧ so ≤ 1 := by rw [e4]; exact b01_rng
  subst e1
  refine v_iload10 d_M_holds_134 ?_
  refine v_aload0 d_M_holds_136 ?_
  refine v_getR d_M_holds_137 f_M_7 (sh_55 T) rfl ?_
  refine v_iload7 d_M_holds_140 ?_
  refine v_ialoadE hA d_M_holds_142 (sh_56 T) (by omega) (fun g142 => ?_)
  refine v_iconst d_M_holds_143 ?_
  refine v_icmp_ne d_M_holds_144 (by omega) (by omega) (fun u144 => ?_) (fun u144 => ?_)
  · refine v_iconst d_M_holds_151 ?_
    refine v_icmp_eq d_M_holds_152 (by omega) (by omega) (fun u152 => ?_) (fun u152 => ?_)
    · refine v_iconst d_M_holds_159 ?_
      refine v_istore5 d_M_holds_160 (by decide) rfl ?_
      refine v_drop7 ?_
      refine v_drop8 ?_
      refine v_drop9 ?_
      refine v_drop10 ?_
      exact K _ (by rw [holdF_step A row oo dd k hi hz e2 e3 e4]; first | (rw [← b01_1 u144]; first | exact b01_1 (by omega) | exact b01_0 (by omega)) | (rw [← b01_0 u144]; first | exact b01_1 (by omega) | exact b01_0 (by omega)))
    · refine v_iconst d_M_holds_155 ?_
      refine v_goto d_M_holds_156 ?_
      refine v_istore5 d_M_holds_160 (by decide) rfl ?_
      refine v_drop7 ?_
      refine v_drop8 ?_
      refine v_drop9 ?_
      refine v_drop10 ?_
      exact K _ (by rw [holdF_step A row oo dd k hi hz e2 e3 e4]; first | (rw [← b01_1 u144]; first | exact b01_1 (by omega) | exact b01_0 (by omega)) | (rw [← b01_0 u144]; first | exact b01_1 (by omega) | exact b01_0 (by omega)))
  · refine v_iconst d_M_holds_147 ?_
    refine v_goto d_M_holds_148 ?_
    refine v_icmp_eq d_M_holds_152 (by omega) (by omega) (fun u152 => ?_) (fun u152 => ?_)
    · refine v_iconst d_M_holds_159 ?_
      refine v_istore5 d_M_holds_160 (by decide) rfl ?_
      refine v_drop7 ?_
      refine v_drop8 ?_
      refine v_drop9 ?_
      refine v_drop10 ?_
      exact K _ (by rw [holdF_step A row oo dd k hi hz e2 e3 e4]; first | (rw [← b01_1 u144]; first | exact b01_1 (by omega) | exact b01_0 (by omega)) | (rw [← b01_0 u144]; first | exact b01_1 (by omega) | exact b01_0 (by omega)))
    · refine v_iconst d_M_holds_155 ?_
      refine v_goto d_M_holds_156 ?_
      refine v_istore5 d_M_holds_160 (by decide) rfl ?_
      refine v_drop7 ?_
      refine v_drop8 ?_
      refine v_drop9 ?_
      refine v_drop10 ?_
      exact K _ (by rw [holdF_step A row oo dd k hi hz e2 e3 e4]; first | (rw [← b01_1 u144]; first | exact b01_1 (by omega) | exact b01_0 (by omega)) | (rw [← b01_0 u144]; first | exact b01_1 (by omega) | exact b01_0 (by omega)))

theorem c_M_holds_6 {T : vSh} {σ : vMem} {cx : vCx} {A : Int → Int} (hA : σ 56 = A) (hO : okA A) {row oo dd k : Int} (h0 : 0 ≤ oo ∧ oo < A 1) (h1 : 0 ≤ dd ∧ dd < 1200) (h2 : vIn k) (h3 : A (360 + 4 * oo + 2) ≤ dd) (h4 : 1430 ≤ row ∧ row ≤ 2690) (hl : okLn A row) (hM : vM cx 0 0 (some .boolean) (rF (S0 ++ T) σ (holdF A row oo dd k (A row).toNat))) : ∀ (n j : Nat) (z i : Int), (j : Int) + n = A row → i = j → z = holdF A row oo dd k j → vV cx y_M_holds.cls prog_14_method_63_code 11 5 0 0 0 0 6 [some (.ref 55), some (.int (iI row)), some (.int (iI oo)), some (.int (iI dd)), some (.int (iI k)), some (.int (iI z)), some (.int (iI i)), none, none, none, none] [] (S0 ++ T) σ := by
  intro n
  induction n with
  | zero =>
    intro j z i hj hi hz
    obtain ⟨⟨q0, q1, q2, q3, q4, q5, q6, q7⟩, hVi, hWe, hCo, hOf, hBo, hWo, hMo, hRe, hLi, hTa⟩ := id hO
    have hr := holdF_rng A row oo dd k j
    obtain ⟨hl1, hl2, hl3⟩ := id hl
    refine v_iload6 d_M_holds_6 ?_
    refine v_aload0 d_M_holds_8 ?_
    refine v_getR d_M_holds_9 f_M_7 (sh_55 T) rfl ?_
    refine v_iload1 d_M_holds_12 ?_
    refine v_ialoadE hA d_M_holds_13 (sh_56 T) (by omega) (fun g13 => ?_)
    refine v_icmp_ge d_M_holds_14 (by omega) (by omega) (fun u14 => ?_) (fun u14 => ?_)
    · refine v_iload5 d_M_holds_168 ?_
      exact v_zreturn hM d_M_holds_170 (by omega) ⟨rfl, rfl, by rw [hz]; congr 1; omega⟩
    · omega
  | succ n ih =>
    intro j z i hj hi hz
    obtain ⟨⟨q0, q1, q2, q3, q4, q5, q6, q7⟩, hVi, hWe, hCo, hOf, hBo, hWo, hMo, hRe, hLi, hTa⟩ := id hO
    have hr := holdF_rng A row oo dd k j
    obtain ⟨hl1, hl2, hl3⟩ := id hl
    refine v_iload6 d_M_holds_6 ?_
    refine v_aload0 d_M_holds_8 ?_
    refine v_getR d_M_holds_9 f_M_7 (sh_55 T) rfl ?_
    refine v_iload1 d_M_holds_12 ?_
    refine v_ialoadE hA d_M_holds_13 (sh_56 T) (by omega) (fun g13 => ?_)
    refine v_icmp_ge d_M_holds_14 (by omega) (by omega) (fun u14 => ?_) (fun u14 => ?_)
    · omega
    · refine v_iload5 d_M_holds_17 ?_
      refine v_if_eq d_M_holds_19 (by omega) (fun u19 => ?_) (fun u19 => ?_)
      · refine v_iload5 d_M_holds_168 ?_
        exact v_zreturn hM d_M_holds_170 (by omega) ⟨rfl, rfl, by rw [holdF_stop A row oo dd k (t := j) (by omega) (A row).toNat (by omega)]; omega⟩
      · have ht := hl2 i (by omega) (by omega)
        refine v_iload1 d_M_holds_22 ?_
        refine v_iconst d_M_holds_23 ?_
        refine v_iadd d_M_holds_24 ?_
        refine v_iconst d_M_holds_25 ?_
        refine v_iload6 d_M_holds_26 ?_
        refine v_imul d_M_holds_28 ?_
        refine v_iadd d_M_holds_29 ?_
        refine v_istore7 d_M_holds_30 (by decide) rfl ?_
        refine v_aload0 d_M_holds_32 ?_
        refine v_aload0 d_M_holds_33 ?_
        refine v_getR d_M_holds_34 f_M_7 (sh_55 T) rfl ?_
        refine v_iload7 d_M_holds_37 ?_
        refine v_iconst d_M_holds_39 ?_
        refine v_iadd d_M_holds_40 ?_
        refine v_ialoadE hA d_M_holds_41 (sh_56 T) (by omega) (fun g41 => ?_)
        refine v_iload2 d_M_holds_42 ?_
        refine v_iload3 d_M_holds_43 ?_
        refine v_iload4 d_M_holds_44 ?_
        refine v_fVI4 d_M_holds_46 l_M_235 k_M_asked (c_M_asked hA hO (by omega) (by omega) (by omega) (by omega) (by omega)) (sh_55 T) rfl (by decide) (by decide) (Nat.le_of_ble_eq_true rfl) (Nat.zero_le _) (Nat.zero_le _) (fun g46 => ?_)
        have hq := askF_rng hO (what := A (row + 1 + 4 * i + 1)) (k := k) h0 h1 h3
        refine v_istore8 d_M_holds_49 (by decide) rfl ?_
        refine v_aload0 d_M_holds_51 ?_
        refine v_getR d_M_holds_52 f_M_7 (sh_55 T) rfl ?_
        refine v_iload7 d_M_holds_55 ?_
        refine v_iconst d_M_holds_57 ?_
        refine v_iadd d_M_holds_58 ?_
        refine v_ialoadE hA d_M_holds_59 (sh_56 T) (by omega) (fun g59 => ?_)
        refine v_istore9 d_M_holds_60 (by decide) rfl ?_
        refine v_aload0 d_M_holds_62 ?_
        refine v_getR d_M_holds_63 f_M_7 (sh_55 T) rfl ?_
        refine v_iload7 d_M_holds_66 ?_
        refine v_iconst d_M_holds_68 ?_
        refine v_iadd d_M_holds_69 ?_
        refine v_ialoadE hA d_M_holds_70 (sh_56 T) (by omega) (fun g70 => ?_)
        refine v_bipush d_M_holds_71 rfl ?_
        refine v_icmp_ne d_M_holds_73 (by omega) (by omega) (fun u73 => ?_) (fun u73 => ?_)
        · refine v_aload0 d_M_holds_91 ?_
          refine v_getR d_M_holds_92 f_M_7 (sh_55 T) rfl ?_
          refine v_iload7 d_M_holds_95 ?_
          refine v_iconst d_M_holds_97 ?_
          refine v_iadd d_M_holds_98 ?_
          refine v_ialoadE hA d_M_holds_99 (sh_56 T) (by omega) (fun g99 => ?_)
          refine v_bipush d_M_holds_100 rfl ?_
          refine v_icmp_ne d_M_holds_102 (by omega) (by omega) (fun u102 => ?_) (fun u102 => ?_)
          · refine v_iload8 d_M_holds_120 ?_
            refine v_iload9 d_M_holds_122 ?_
            refine v_icmp_ne d_M_holds_124 (by omega) (by omega) (fun u124 => ?_) (fun u124 => ?_)
            · refine v_iconst d_M_holds_131 ?_
              refine v_istore10 d_M_holds_132 (by decide) rfl ?_
              refine c_M_holds_160 hA hO h0 h1 h2 h3 h4 hl hi (by omega) (by omega) rfl rfl rfl (by first | exact b01_1 (by omega) | exact b01_0 (by omega)) (fun z1 hz1 => ?_)
              refine v_iinc6 d_M_holds_162 (by decide) rfl ?_
              refine v_goto d_M_holds_165 ?_
              exact ih (j + 1) _ _ (by omega) (by omega) hz1
            · refine v_iconst d_M_holds_127 ?_
              refine v_goto d_M_holds_128 ?_
              refine v_istore10 d_M_holds_132 (by decide) rfl ?_
              refine c_M_holds_160 hA hO h0 h1 h2 h3 h4 hl hi (by omega) (by omega) rfl rfl rfl (by first | exact b01_1 (by omega) | exact b01_0 (by omega)) (fun z1 hz1 => ?_)
              refine v_iinc6 d_M_holds_162 (by decide) rfl ?_
              refine v_goto d_M_holds_165 ?_
              exact ih (j + 1) _ _ (by omega) (by omega) hz1
          · refine v_iload8 d_M_holds_105 ?_
            refine v_iload9 d_M_holds_107 ?_
            refine v_icmp_le d_M_holds_109 (by omega) (by omega) (fun u109 => ?_) (fun u109 => ?_)
            · refine v_iconst d_M_holds_116 ?_
              refine v_goto d_M_holds_117 ?_
              refine v_istore10 d_M_holds_132 (by decide) rfl ?_
              refine c_M_holds_160 hA hO h0 h1 h2 h3 h4 hl hi (by omega) (by omega) rfl rfl rfl (by first | exact b01_1 (by omega) | exact b01_0 (by omega)) (fun z1 hz1 => ?_)
              refine v_iinc6 d_M_holds_162 (by decide) rfl ?_
              refine v_goto d_M_holds_165 ?_
              exact ih (j + 1) _ _ (by omega) (by omega) hz1
            · refine v_iconst d_M_holds_112 ?_
              refine v_goto d_M_holds_113 ?_
              refine v_istore10 d_M_holds_132 (by decide) rfl ?_
              refine c_M_holds_160 hA hO h0 h1 h2 h3 h4 hl hi (by omega) (by omega) rfl rfl rfl (by first | exact b01_1 (by omega) | exact b01_0 (by omega)) (fun z1 hz1 => ?_)
              refine v_iinc6 d_M_holds_162 (by decide) rfl ?_
              refine v_goto d_M_holds_165 ?_
              exact ih (j + 1) _ _ (by omega) (by omega) hz1
        · refine v_iload8 d_M_holds_76 ?_
          refine v_iload9 d_M_holds_78 ?_
          refine v_icmp_ge d_M_holds_80 (by omega) (by omega) (fun u80 => ?_) (fun u80 => ?_)
          · refine v_iconst d_M_holds_87 ?_
            refine v_goto d_M_holds_88 ?_
            refine v_istore10 d_M_holds_132 (by decide) rfl ?_
            refine c_M_holds_160 hA hO h0 h1 h2 h3 h4 hl hi (by omega) (by omega) rfl rfl rfl (by first | exact b01_1 (by omega) | exact b01_0 (by omega)) (fun z1 hz1 => ?_)
            refine v_iinc6 d_M_holds_162 (by decide) rfl ?_
            refine v_goto d_M_holds_165 ?_
            exact ih (j + 1) _ _ (by omega) (by omega) hz1
          · refine v_iconst d_M_holds_83 ?_
            refine v_goto d_M_holds_84 ?_
            refine v_istore10 d_M_holds_132 (by decide) rfl ?_
            refine c_M_holds_160 hA hO h0 h1 h2 h3 h4 hl hi (by omega) (by omega) rfl rfl rfl (by first | exact b01_1 (by omega) | exact b01_0 (by omega)) (fun z1 hz1 => ?_)
            refine v_iinc6 d_M_holds_162 (by decide) rfl ?_
            refine v_goto d_M_holds_165 ?_
            exact ih (j + 1) _ _ (by omega) (by omega) hz1

theorem c_M_holds {T : vSh} {σ : vMem} {A : Int → Int} (hA : σ 56 = A) (hO : okA A) {row oo dd k : Int} (h0 : 0 ≤ oo ∧ oo < A 1) (h1 : 0 ≤ dd ∧ dd < 1200) (h2 : vIn k) (h3 : A (360 + 4 * oo + 2) ≤ dd) (h4 : 1430 ≤ row ∧ row ≤ 2690) (hl : okLn A row) : mt_M_holds [.ref 55, .int (iI row), .int (iI oo), .int (iI dd), .int (iI k)] (S0 ++ T) σ (rF (S0 ++ T) σ (holdF A row oo dd k (A row).toNat)) := by
  refine vMet.intro 6 (by decide +kernel) (Nat.le_of_ble_eq_true rfl) rfl (fun cx hM _ => ?_)
  have hl1 := hl.1
  refine v_iconst d_M_holds_0 ?_
  refine v_istore5 d_M_holds_1 (by decide) rfl ?_
  refine v_iconst d_M_holds_3 ?_
  refine v_istore6 d_M_holds_4 (by decide) rfl ?_
  exact c_M_holds_6 hA hO h0 h1 h2 h3 h4 hl hM (A row).toNat 0 _ _ (by omega) rfl rfl

theorem c_M_reignOf_4 {T : vSh} {σ : vMem} {cx : vCx} {A : Int → Int} (hA : σ 56 = A) {dd : Int} (h1 : vIn dd) (hn : 0 ≤ A 3 ∧ A 3 ≤ 4) (hM : vM cx 0 0 (some .int) (rF (S0 ++ T) σ (reF A dd (A 3).toNat))) : ∀ (n j : Nat) (r i : Int), (j : Int) + n = A 3 → i = j → r = reF A dd j → vV cx y_M_reignOf.cls prog_14_method_64_code 4 0 0 0 0 0 4 [some (.ref 55), some (.int (iI dd)), some (.int (iI r)), some (.int (iI i))] [] (S0 ++ T) σ := by
  intro n
  induction n with
  | zero =>
    intro j r i hj hi hr
    have hrr := reF_rng A dd j
    refine v_iload3 d_M_reignOf_4 ?_
    refine v_aload0 d_M_reignOf_5 ?_
    refine v_getR d_M_reignOf_6 f_M_7 (sh_55 T) rfl ?_
    refine v_iconst d_M_reignOf_9 ?_
    refine v_ialoadE hA d_M_reignOf_10 (sh_56 T) (by omega) (fun g10 => ?_)
    refine v_icmp_ge d_M_reignOf_11 (by omega) (by omega) (fun u11 => ?_) (fun u11 => ?_)
    · refine v_iload2 d_M_reignOf_37 ?_
      exact v_ireturn hM d_M_reignOf_38 (by omega) ⟨rfl, rfl, by rw [hr]; congr 1; omega⟩
    · omega
  | succ n ih =>
    intro j r i hj hi hr
    refine v_iload3 d_M_reignOf_4 ?_
    refine v_aload0 d_M_reignOf_5 ?_
    refine v_getR d_M_reignOf_6 f_M_7 (sh_55 T) rfl ?_
    refine v_iconst d_M_reignOf_9 ?_
    refine v_ialoadE hA d_M_reignOf_10 (sh_56 T) (by omega) (fun g10 => ?_)
    refine v_icmp_ge d_M_reignOf_11 (by omega) (by omega) (fun u11 => ?_) (fun u11 => ?_)
    · omega
    · refine v_aload0 d_M_reignOf_14 ?_
      refine v_getR d_M_reignOf_15 f_M_7 (sh_55 T) rfl ?_
      refine v_bipush d_M_reignOf_18 rfl ?_
      refine v_iconst d_M_reignOf_20 ?_
      refine v_iload3 d_M_reignOf_21 ?_
      refine v_imul d_M_reignOf_22 ?_
      refine v_iadd d_M_reignOf_23 ?_
      refine v_ialoadE hA d_M_reignOf_24 (sh_56 T) (by omega) (fun g24 => ?_)
      refine v_iload1 d_M_reignOf_25 ?_
      refine v_icmp_gt d_M_reignOf_26 (by omega) (by omega) (fun u26 => ?_) (fun u26 => ?_)
      · refine v_iinc3 d_M_reignOf_31 (by decide) rfl ?_
        refine v_goto d_M_reignOf_34 ?_
        exact ih (j + 1) _ _ (by omega) (by omega) (by rw [reF, ← hr, ← hi]; split <;> omega)
      · refine v_iload3 d_M_reignOf_29 ?_
        refine v_istore2 d_M_reignOf_30 (by decide) rfl ?_
        refine v_iinc3 d_M_reignOf_31 (by decide) rfl ?_
        refine v_goto d_M_reignOf_34 ?_
        exact ih (j + 1) _ _ (by omega) (by omega) (by rw [reF, ← hr, ← hi]; split <;> omega)

theorem c_M_reignOf {T : vSh} {σ : vMem} {A : Int → Int} (hA : σ 56 = A) {dd : Int} (h1 : vIn dd) (hn : 0 ≤ A 3 ∧ A 3 ≤ 4) : mt_M_reignOf [.ref 55, .int (iI dd)] (S0 ++ T) σ (rF (S0 ++ T) σ (reF A dd (A 3).toNat)) := by
  refine vMet.intro 2 (by decide +kernel) (Nat.le_of_ble_eq_true rfl) rfl (fun cx hM _ => ?_)
  refine v_iconst d_M_reignOf_0 ?_
  refine v_istore2 d_M_reignOf_1 (by decide) rfl ?_
  refine v_iconst d_M_reignOf_2 ?_
  refine v_istore3 d_M_reignOf_3 (by decide) rfl ?_
  exact c_M_reignOf_4 hA h1 hn hM (A 3).toNat 0 _ _ (by omega) rfl rfl

def scM (σ : vMem) (p : Sc5) : Prop := σ 61 0 = p.1 ∧ σ 61 1 = p.2.1 ∧ σ 61 2 = p.2.2.1 ∧ σ 61 3 = p.2.2.2.1
theorem scM_of {σ : vMem} {p : Sc5} (h : scM σ p) : σ 61 0 = p.1 ∧ σ 61 1 = p.2.1 ∧ σ 61 2 = p.2.2.1 ∧ σ 61 3 = p.2.2.2.1 := h
theorem c_M_does {T : vSh} {σ : vMem} {p : Sc5} {act n : Int} (hp : scM σ p) (hr : (0 ≤ p.1 ∧ p.1 ≤ 150000)) (h1 : 20 ≤ act ∧ act ≤ 25) (h2 : 0 ≤ n ∧ n ≤ 9999) (h3 : act = 21 ∨ act = 23 → n ≤ 100) : mt_M_does [.ref 55, .int (iI act), .int (iI n)] (S0 ++ T) σ (rP (S0 ++ T) (fun _ σ2 => (∀ k, k ≠ 61 → σ2 k = σ k) ∧ scM σ2 (scA p act n))) := by
  refine vMet.intro 0 (by decide +kernel) (Nat.le_of_ble_eq_true rfl) rfl (fun cx hM _ => ?_)
  have hp2 := scM_of hp
  refine v_iload1 d_M_does_0 ?_
  refine v_bipush d_M_does_1 rfl ?_
  refine v_icmp_ne d_M_does_3 (by omega) (by omega) (fun u3 => ?_) (fun u3 => ?_)
  · refine v_iload1 d_M_does_19 ?_
    refine v_bipush d_M_does_20 rfl ?_
    refine v_icmp_ne d_M_does_22 (by omega) (by omega) (fun u22 => ?_) (fun u22 => ?_)
    · refine v_iload1 d_M_does_48 ?_
      refine v_bipush d_M_does_49 rfl ?_
      refine v_icmp_eq d_M_does_51 (by omega) (by omega) (fun u51 => ?_) (fun u51 => ?_)
      · exact v_return hM d_M_does_66 ⟨rfl, fun k hk => rfl, by
          obtain ⟨e0, e1, e2, e3⟩ := hp
          have hs : act = 25 := by omega
          simp [scM, scA, hs, e0, e1, e2, e3]⟩
      · refine v_aload0 d_M_does_54 ?_
        refine v_getR d_M_does_55 f_M_26 (sh_55 T) rfl ?_
        refine v_iload1 d_M_does_58 ?_
        refine v_bipush d_M_does_59 rfl ?_
        refine v_isub d_M_does_61 ?_
        refine v_iconst d_M_does_62 ?_
        refine v_iadd d_M_does_63 ?_
        refine v_iload2 d_M_does_64 ?_
        refine v_iastore d_M_does_65 (sh_61 T) (by omega) (by omega) ?_
        exact v_return hM d_M_does_66 ⟨rfl, fun k hk => vUp_ne hk, by
          obtain ⟨e0, e1, e2, e3⟩ := hp
          skip
          rcases (show act = 22 ∨ act = 23 ∨ act = 24 by omega) with hs | hs | hs <;> simp [scM, scA, vUp, hs, e0, e1, e2, e3]⟩
    · refine v_aload0 d_M_does_25 ?_
      refine v_getR d_M_does_26 f_M_26 (sh_55 T) rfl ?_
      refine v_iconst d_M_does_29 ?_
      refine v_dup2 d_M_does_30 rfl rfl ?_
      refine v_iaload d_M_does_31 (sh_61 T) (by omega) (fun g31 => ?_)
      refine v_aload0 d_M_does_32 ?_
      refine v_getR d_M_does_33 f_M_26 (sh_55 T) rfl ?_
      refine v_iconst d_M_does_36 ?_
      refine v_iaload d_M_does_37 (sh_61 T) (by omega) (fun g37 => ?_)
      refine v_iload2 d_M_does_38 ?_
      refine v_imul d_M_does_39 ?_
      refine v_bipush d_M_does_40 rfl ?_
      refine v_idiv d_M_does_42 (by have := mul_rng (a := σ 61 0) (b := n) (m := 150000) (n := 9999) (by omega) (by omega); omega) (by omega) ?_
      refine v_isub d_M_does_43 ?_
      refine v_iastore d_M_does_44 (sh_61 T) (by omega) (by have h9 := h3 (Or.inl u22); have := mul_rng (a := σ 61 0) (b := n) (m := 150000) (n := 9999) (by omega) (by omega); have h10 : σ 61 0 * n ≤ σ 61 0 * 100 := Int.mul_le_mul_of_nonneg_left h9 (by omega); omega) ?_
      refine v_goto d_M_does_45 ?_
      exact v_return hM d_M_does_66 ⟨rfl, fun k hk => vUp_ne hk, by
        obtain ⟨e0, e1, e2, e3⟩ := hp
        have hs : act = 21 := by omega
        simp [scM, scA, vUp, hs, e0, e1, e2, e3]⟩
  · refine v_aload0 d_M_does_6 ?_
    refine v_getR d_M_does_7 f_M_26 (sh_55 T) rfl ?_
    refine v_iconst d_M_does_10 ?_
    refine v_dup2 d_M_does_11 rfl rfl ?_
    refine v_iaload d_M_does_12 (sh_61 T) (by omega) (fun g12 => ?_)
    refine v_iload2 d_M_does_13 ?_
    refine v_iadd d_M_does_14 ?_
    refine v_iastore d_M_does_15 (sh_61 T) (by omega) (by omega) ?_
    refine v_goto d_M_does_16 ?_
    exact v_return hM d_M_does_66 ⟨rfl, fun k hk => vUp_ne hk, by
      obtain ⟨e0, e1, e2, e3⟩ := hp
      have hs : act = 20 := by omega
      simp [scM, scA, vUp, hs, e0, e1, e2, e3]⟩

