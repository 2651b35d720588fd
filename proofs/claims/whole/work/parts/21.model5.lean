theorem c_M_changes_123 {T : vSh} {σ : vMem} {cx : vCx} {A : Int → Int} (hA : σ 56 = A) (hO : okA A) {oo dd : Int} (h0 : 0 ≤ oo ∧ oo < A 1) (h1 : 0 ≤ dd ∧ dd < 1200) (hM : vM cx 0 0 (some .boolean) (rP (S0 ++ T) (fun z σ2 => σ2 = σ ∧ (z = 0 ∨ z = 1) ∧ (z = 0 → noChg A oo dd) ∧ (dd % 60 = 0 → z = 1)))) : ∀ (n j : Nat) (z i : Int), (j : Int) + n = A 3 → i = j → (z = 0 ∨ z = 1) → (z = 0 → (dd % 60 ≠ 0 ∧ (dd - A (360 + 4 * oo + 2)) % 120 ≠ 0) ∧ (∀ x, 0 ≤ x → x < A 2 → A (430 + 5 * x + 3) ≠ dd) ∧ (∀ x, 0 ≤ x → x < A 1 → A (360 + 4 * x + 3) ≠ dd)) → (dd % 60 = 0 → z = 1) → (z = 0 → ∀ x, 0 ≤ x → x < ((j : Nat) : Int) → A (10 + 2 * x) ≠ dd) → vV cx y_M_changes.cls prog_14_method_35_code 5 1 0 0 0 0 123 [some (.ref 55), some (.int (iI oo)), some (.int (iI dd)), some (.int (iI z)), some (.int (iI i))] [] (S0 ++ T) σ := by
  intro n
  induction n with
  | zero =>
    intro j z i hj hi hz hb hd hc
    obtain ⟨⟨q0, q1, q2, q3, q4, q5, q6, q7⟩, hVi, hWe, hCo, hOf, hBo, hWo, hMo, hRe, hLi, hTa⟩ := id hO
    refine v_iload4 d_M_changes_123 ?_
    refine v_aload0 d_M_changes_125 ?_
    refine v_getR d_M_changes_126 f_M_7 (sh_55 T) rfl ?_
    refine v_iconst d_M_changes_129 ?_
    refine v_ialoadE hA d_M_changes_130 (sh_56 T) (by omega) (fun g130 => ?_)
    refine v_icmp_ge d_M_changes_131 (by omega) (by omega) (fun u131 => ?_) (fun u131 => ?_)
    · refine v_iload3 d_M_changes_166 ?_
      exact v_zreturn hM d_M_changes_167 hz ⟨rfl, rfl, hz, fun h => ⟨(hb h).1.1, (hb h).1.2, (hb h).2.1, fun x y1 y2 => hc h x y1 (by omega), (hb h).2.2 oo (by omega) (by omega)⟩, hd⟩
    · omega
  | succ n ih =>
    intro j z i hj hi hz hb hd hc
    obtain ⟨⟨q0, q1, q2, q3, q4, q5, q6, q7⟩, hVi, hWe, hCo, hOf, hBo, hWo, hMo, hRe, hLi, hTa⟩ := id hO
    refine v_iload4 d_M_changes_123 ?_
    refine v_aload0 d_M_changes_125 ?_
    refine v_getR d_M_changes_126 f_M_7 (sh_55 T) rfl ?_
    refine v_iconst d_M_changes_129 ?_
    refine v_ialoadE hA d_M_changes_130 (sh_56 T) (by omega) (fun g130 => ?_)
    refine v_icmp_ge d_M_changes_131 (by omega) (by omega) (fun u131 => ?_) (fun u131 => ?_)
    · omega
    · refine v_iload3 d_M_changes_134 ?_
      refine v_if_ne d_M_changes_135 (by omega) (fun u135 => ?_) (fun u135 => ?_)
      · refine v_iconst d_M_changes_154 ?_
        refine v_goto d_M_changes_155 ?_
        refine v_istore3 d_M_changes_159 (by decide) rfl ?_
        refine v_iinc4 d_M_changes_160 (by decide) rfl ?_
        refine v_goto d_M_changes_163 ?_
        exact ih (j + 1) _ _ (by omega) (by omega) (by omega) (fun h => hb (by omega)) (fun h => by have := hd h; omega) (fun h x hx1 hx2 => by first | (exfalso; omega) | (rcases (show x < (j : Int) ∨ x = i by omega) with q | q; exact hc (by omega) x hx1 q; rw [q]; omega))
      · refine v_aload0 d_M_changes_138 ?_
        refine v_getR d_M_changes_139 f_M_7 (sh_55 T) rfl ?_
        refine v_bipush d_M_changes_142 rfl ?_
        refine v_iconst d_M_changes_144 ?_
        refine v_iload4 d_M_changes_145 ?_
        refine v_imul d_M_changes_147 ?_
        refine v_iadd d_M_changes_148 ?_
        refine v_ialoadE hA d_M_changes_149 (sh_56 T) (by omega) (fun g149 => ?_)
        refine v_iload2 d_M_changes_150 ?_
        refine v_icmp_ne d_M_changes_151 (by omega) (by omega) (fun u151 => ?_) (fun u151 => ?_)
        · refine v_iconst d_M_changes_158 ?_
          refine v_istore3 d_M_changes_159 (by decide) rfl ?_
          refine v_iinc4 d_M_changes_160 (by decide) rfl ?_
          refine v_goto d_M_changes_163 ?_
          exact ih (j + 1) _ _ (by omega) (by omega) (by omega) (fun h => hb (by omega)) (fun h => by have := hd h; omega) (fun h x hx1 hx2 => by first | (exfalso; omega) | (rcases (show x < (j : Int) ∨ x = i by omega) with q | q; exact hc (by omega) x hx1 q; rw [q]; omega))
        · refine v_iconst d_M_changes_154 ?_
          refine v_goto d_M_changes_155 ?_
          refine v_istore3 d_M_changes_159 (by decide) rfl ?_
          refine v_iinc4 d_M_changes_160 (by decide) rfl ?_
          refine v_goto d_M_changes_163 ?_
          exact ih (j + 1) _ _ (by omega) (by omega) (by omega) (fun h => hb (by omega)) (fun h => by have := hd h; omega) (fun h x hx1 hx2 => by first | (exfalso; omega) | (rcases (show x < (j : Int) ∨ x = i by omega) with q | q; exact hc (by omega) x hx1 q; rw [q]; omega))

theorem c_M_changes_71 {T : vSh} {σ : vMem} {cx : vCx} {A : Int → Int} (hA : σ 56 = A) (hO : okA A) {oo dd : Int} (h0 : 0 ≤ oo ∧ oo < A 1) (h1 : 0 ≤ dd ∧ dd < 1200) (hM : vM cx 0 0 (some .boolean) (rP (S0 ++ T) (fun z σ2 => σ2 = σ ∧ (z = 0 ∨ z = 1) ∧ (z = 0 → noChg A oo dd) ∧ (dd % 60 = 0 → z = 1)))) : ∀ (n j : Nat) (z i : Int), (j : Int) + n = A 1 → i = j → (z = 0 ∨ z = 1) → (z = 0 → (dd % 60 ≠ 0 ∧ (dd - A (360 + 4 * oo + 2)) % 120 ≠ 0) ∧ (∀ x, 0 ≤ x → x < A 2 → A (430 + 5 * x + 3) ≠ dd)) → (dd % 60 = 0 → z = 1) → (z = 0 → ∀ x, 0 ≤ x → x < ((j : Nat) : Int) → A (360 + 4 * x + 3) ≠ dd) → vV cx y_M_changes.cls prog_14_method_35_code 5 1 0 0 0 0 71 [some (.ref 55), some (.int (iI oo)), some (.int (iI dd)), some (.int (iI z)), some (.int (iI i))] [] (S0 ++ T) σ := by
  intro n
  induction n with
  | zero =>
    intro j z i hj hi hz hb hd hc
    obtain ⟨⟨q0, q1, q2, q3, q4, q5, q6, q7⟩, hVi, hWe, hCo, hOf, hBo, hWo, hMo, hRe, hLi, hTa⟩ := id hO
    refine v_iload4 d_M_changes_71 ?_
    refine v_aload0 d_M_changes_73 ?_
    refine v_getR d_M_changes_74 f_M_7 (sh_55 T) rfl ?_
    refine v_iconst d_M_changes_77 ?_
    refine v_ialoadE hA d_M_changes_78 (sh_56 T) (by omega) (fun g78 => ?_)
    refine v_icmp_ge d_M_changes_79 (by omega) (by omega) (fun u79 => ?_) (fun u79 => ?_)
    · refine v_iconst d_M_changes_120 ?_
      refine v_istore4 d_M_changes_121 (by decide) rfl ?_
      exact c_M_changes_123 hA hO h0 h1 hM (A 3).toNat 0 _ _ (by omega) rfl hz (fun h => ⟨(hb h).1, (hb h).2, fun x y1 y2 => hc h x y1 (by omega)⟩) hd (fun h x y1 y2 => by omega)
    · omega
  | succ n ih =>
    intro j z i hj hi hz hb hd hc
    obtain ⟨⟨q0, q1, q2, q3, q4, q5, q6, q7⟩, hVi, hWe, hCo, hOf, hBo, hWo, hMo, hRe, hLi, hTa⟩ := id hO
    refine v_iload4 d_M_changes_71 ?_
    refine v_aload0 d_M_changes_73 ?_
    refine v_getR d_M_changes_74 f_M_7 (sh_55 T) rfl ?_
    refine v_iconst d_M_changes_77 ?_
    refine v_ialoadE hA d_M_changes_78 (sh_56 T) (by omega) (fun g78 => ?_)
    refine v_icmp_ge d_M_changes_79 (by omega) (by omega) (fun u79 => ?_) (fun u79 => ?_)
    · omega
    · refine v_iload3 d_M_changes_82 ?_
      refine v_if_ne d_M_changes_83 (by omega) (fun u83 => ?_) (fun u83 => ?_)
      · refine v_iconst d_M_changes_108 ?_
        refine v_goto d_M_changes_109 ?_
        refine v_istore3 d_M_changes_113 (by decide) rfl ?_
        refine v_iinc4 d_M_changes_114 (by decide) rfl ?_
        refine v_goto d_M_changes_117 ?_
        exact ih (j + 1) _ _ (by omega) (by omega) (by omega) (fun h => hb (by omega)) (fun h => by have := hd h; omega) (fun h x hx1 hx2 => by first | (exfalso; omega) | (rcases (show x < (j : Int) ∨ x = i by omega) with q | q; exact hc (by omega) x hx1 q; rw [q]; omega))
      · refine v_aload0 d_M_changes_86 ?_
        refine v_iload4 d_M_changes_87 ?_
        refine v_iconst d_M_changes_89 ?_
        refine v_fVI2 d_M_changes_90 l_M_98 k_M_officer0 (c_M_officer0 hA (by omega)) (sh_55 T) rfl (by decide) (by decide) (Nat.le_of_ble_eq_true rfl) (Nat.zero_le _) (Nat.zero_le _) (fun g90 => ?_)
        refine v_iload2 d_M_changes_93 ?_
        refine v_icmp_eq d_M_changes_94 (by omega) (by omega) (fun u94 => ?_) (fun u94 => ?_)
        · refine v_iconst d_M_changes_108 ?_
          refine v_goto d_M_changes_109 ?_
          refine v_istore3 d_M_changes_113 (by decide) rfl ?_
          refine v_iinc4 d_M_changes_114 (by decide) rfl ?_
          refine v_goto d_M_changes_117 ?_
          exact ih (j + 1) _ _ (by omega) (by omega) (by omega) (fun h => hb (by omega)) (fun h => by have := hd h; omega) (fun h x hx1 hx2 => by first | (exfalso; omega) | (rcases (show x < (j : Int) ∨ x = i by omega) with q | q; exact hc (by omega) x hx1 q; rw [q]; omega))
        · refine v_aload0 d_M_changes_97 ?_
          refine v_iload4 d_M_changes_98 ?_
          refine v_iconst d_M_changes_100 ?_
          refine v_fVI2 d_M_changes_101 l_M_98 k_M_officer0 (c_M_officer0 hA (by omega)) (sh_55 T) rfl (by decide) (by decide) (Nat.le_of_ble_eq_true rfl) (Nat.zero_le _) (Nat.zero_le _) (fun g101 => ?_)
          refine v_iload2 d_M_changes_104 ?_
          refine v_icmp_ne d_M_changes_105 (by omega) (by omega) (fun u105 => ?_) (fun u105 => ?_)
          · refine v_iconst d_M_changes_112 ?_
            refine v_istore3 d_M_changes_113 (by decide) rfl ?_
            refine v_iinc4 d_M_changes_114 (by decide) rfl ?_
            refine v_goto d_M_changes_117 ?_
            exact ih (j + 1) _ _ (by omega) (by omega) (by omega) (fun h => hb (by omega)) (fun h => by have := hd h; omega) (fun h x hx1 hx2 => by first | (exfalso; omega) | (rcases (show x < (j : Int) ∨ x = i by omega) with q | q; exact hc (by omega) x hx1 q; rw [q]; omega))
          · refine v_iconst d_M_changes_108 ?_
            refine v_goto d_M_changes_109 ?_
            refine v_istore3 d_M_changes_113 (by decide) rfl ?_
            refine v_iinc4 d_M_changes_114 (by decide) rfl ?_
            refine v_goto d_M_changes_117 ?_
            exact ih (j + 1) _ _ (by omega) (by omega) (by omega) (fun h => hb (by omega)) (fun h => by have := hd h; omega) (fun h x hx1 hx2 => by first | (exfalso; omega) | (rcases (show x < (j : Int) ∨ x = i by omega) with q | q; exact hc (by omega) x hx1 q; rw [q]; omega))

theorem c_M_changes_30 {T : vSh} {σ : vMem} {cx : vCx} {A : Int → Int} (hA : σ 56 = A) (hO : okA A) {oo dd : Int} (h0 : 0 ≤ oo ∧ oo < A 1) (h1 : 0 ≤ dd ∧ dd < 1200) (hM : vM cx 0 0 (some .boolean) (rP (S0 ++ T) (fun z σ2 => σ2 = σ ∧ (z = 0 ∨ z = 1) ∧ (z = 0 → noChg A oo dd) ∧ (dd % 60 = 0 → z = 1)))) : ∀ (n j : Nat) (z i : Int), (j : Int) + n = A 2 → i = j → (z = 0 ∨ z = 1) → (z = 0 → (dd % 60 ≠ 0 ∧ (dd - A (360 + 4 * oo + 2)) % 120 ≠ 0)) → (dd % 60 = 0 → z = 1) → (z = 0 → ∀ x, 0 ≤ x → x < ((j : Nat) : Int) → A (430 + 5 * x + 3) ≠ dd) → vV cx y_M_changes.cls prog_14_method_35_code 5 1 0 0 0 0 30 [some (.ref 55), some (.int (iI oo)), some (.int (iI dd)), some (.int (iI z)), some (.int (iI i))] [] (S0 ++ T) σ := by
  intro n
  induction n with
  | zero =>
    intro j z i hj hi hz hb hd hc
    obtain ⟨⟨q0, q1, q2, q3, q4, q5, q6, q7⟩, hVi, hWe, hCo, hOf, hBo, hWo, hMo, hRe, hLi, hTa⟩ := id hO
    refine v_iload4 d_M_changes_30 ?_
    refine v_aload0 d_M_changes_32 ?_
    refine v_getR d_M_changes_33 f_M_7 (sh_55 T) rfl ?_
    refine v_iconst d_M_changes_36 ?_
    refine v_ialoadE hA d_M_changes_37 (sh_56 T) (by omega) (fun g37 => ?_)
    refine v_icmp_ge d_M_changes_38 (by omega) (by omega) (fun u38 => ?_) (fun u38 => ?_)
    · refine v_iconst d_M_changes_68 ?_
      refine v_istore4 d_M_changes_69 (by decide) rfl ?_
      exact c_M_changes_71 hA hO h0 h1 hM (A 1).toNat 0 _ _ (by omega) rfl hz (fun h => ⟨hb h, fun x y1 y2 => hc h x y1 (by omega)⟩) hd (fun h x y1 y2 => by omega)
    · omega
  | succ n ih =>
    intro j z i hj hi hz hb hd hc
    obtain ⟨⟨q0, q1, q2, q3, q4, q5, q6, q7⟩, hVi, hWe, hCo, hOf, hBo, hWo, hMo, hRe, hLi, hTa⟩ := id hO
    refine v_iload4 d_M_changes_30 ?_
    refine v_aload0 d_M_changes_32 ?_
    refine v_getR d_M_changes_33 f_M_7 (sh_55 T) rfl ?_
    refine v_iconst d_M_changes_36 ?_
    refine v_ialoadE hA d_M_changes_37 (sh_56 T) (by omega) (fun g37 => ?_)
    refine v_icmp_ge d_M_changes_38 (by omega) (by omega) (fun u38 => ?_) (fun u38 => ?_)
    · omega
    · refine v_iload3 d_M_changes_41 ?_
      refine v_if_ne d_M_changes_42 (by omega) (fun u42 => ?_) (fun u42 => ?_)
      · refine v_iconst d_M_changes_56 ?_
        refine v_goto d_M_changes_57 ?_
        refine v_istore3 d_M_changes_61 (by decide) rfl ?_
        refine v_iinc4 d_M_changes_62 (by decide) rfl ?_
        refine v_goto d_M_changes_65 ?_
        exact ih (j + 1) _ _ (by omega) (by omega) (by omega) (fun h => hb (by omega)) (fun h => by have := hd h; omega) (fun h x hx1 hx2 => by first | (exfalso; omega) | (rcases (show x < (j : Int) ∨ x = i by omega) with q | q; exact hc (by omega) x hx1 q; rw [q]; omega))
      · refine v_aload0 d_M_changes_45 ?_
        refine v_iload4 d_M_changes_46 ?_
        refine v_iconst d_M_changes_48 ?_
        refine v_fVI2 d_M_changes_49 l_M_107 k_M_written (c_M_written hA (by omega)) (sh_55 T) rfl (by decide) (by decide) (Nat.le_of_ble_eq_true rfl) (Nat.zero_le _) (Nat.zero_le _) (fun g49 => ?_)
        refine v_iload2 d_M_changes_52 ?_
        refine v_icmp_ne d_M_changes_53 (by omega) (by omega) (fun u53 => ?_) (fun u53 => ?_)
        · refine v_iconst d_M_changes_60 ?_
          refine v_istore3 d_M_changes_61 (by decide) rfl ?_
          refine v_iinc4 d_M_changes_62 (by decide) rfl ?_
          refine v_goto d_M_changes_65 ?_
          exact ih (j + 1) _ _ (by omega) (by omega) (by omega) (fun h => hb (by omega)) (fun h => by have := hd h; omega) (fun h x hx1 hx2 => by first | (exfalso; omega) | (rcases (show x < (j : Int) ∨ x = i by omega) with q | q; exact hc (by omega) x hx1 q; rw [q]; omega))
        · refine v_iconst d_M_changes_56 ?_
          refine v_goto d_M_changes_57 ?_
          refine v_istore3 d_M_changes_61 (by decide) rfl ?_
          refine v_iinc4 d_M_changes_62 (by decide) rfl ?_
          refine v_goto d_M_changes_65 ?_
          exact ih (j + 1) _ _ (by omega) (by omega) (by omega) (fun h => hb (by omega)) (fun h => by have := hd h; omega) (fun h x hx1 hx2 => by first | (exfalso; omega) | (rcases (show x < (j : Int) ∨ x = i by omega) with q | q; exact hc (by omega) x hx1 q; rw [q]; omega))

theorem c_M_changes {T : vSh} {σ : vMem} {A : Int → Int} (hA : σ 56 = A) (hO : okA A) {oo dd : Int} (h0 : 0 ≤ oo ∧ oo < A 1) (h1 : 0 ≤ dd ∧ dd < 1200) : mt_M_changes [.ref 55, .int (iI oo), .int (iI dd)] (S0 ++ T) σ (rP (S0 ++ T) (fun z σ2 => σ2 = σ ∧ (z = 0 ∨ z = 1) ∧ (z = 0 → noChg A oo dd) ∧ (dd % 60 = 0 → z = 1))) := by
  refine vMet.intro 2 (by decide +kernel) (Nat.le_of_ble_eq_true rfl) rfl (fun cx hM _ => ?_)
  obtain ⟨⟨q0, q1, q2, q3, q4, q5, q6, q7⟩, hVi, hWe, hCo, hOf, hBo, hWo, hMo, hRe, hLi, hTa⟩ := id hO
  have hof := hOf oo (by omega) (by omega)
  refine v_iload2 d_M_changes_0 ?_
  refine v_bipush d_M_changes_1 rfl ?_
  refine v_iremN d_M_changes_3 (by omega) (by omega) ?_
  refine v_if_eq d_M_changes_4 (by omega) (fun u4 => ?_) (fun u4 => ?_)
  · refine v_iconst d_M_changes_21 ?_
    refine v_goto d_M_changes_22 ?_
    refine v_istore3 d_M_changes_26 (by decide) rfl ?_
    refine v_iconst d_M_changes_27 ?_
    refine v_istore4 d_M_changes_28 (by decide) rfl ?_
    exact c_M_changes_30 hA hO h0 h1 hM (A 2).toNat 0 _ _ (by omega) rfl (by omega) (fun h => by first | (exfalso; omega) | exact ⟨by omega, tmod120 u18⟩) (fun h => by omega) (fun h x y1 y2 => by omega)
  · refine v_iload2 d_M_changes_7 ?_
    refine v_aload0 d_M_changes_8 ?_
    refine v_iload1 d_M_changes_9 ?_
    refine v_iconst d_M_changes_10 ?_
    refine v_fVI2 d_M_changes_11 l_M_98 k_M_officer0 (c_M_officer0 hA (by omega)) (sh_55 T) rfl (by decide) (by decide) (Nat.le_of_ble_eq_true rfl) (Nat.zero_le _) (Nat.zero_le _) (fun g11 => ?_)
    refine v_isub d_M_changes_14 ?_
    refine v_bipush d_M_changes_15 rfl ?_
    refine v_iremT d_M_changes_17 (by omega) (by omega) (fun g17 => ?_)
    refine v_if_ne d_M_changes_18 (by omega) (fun u18 => ?_) (fun u18 => ?_)
    · refine v_iconst d_M_changes_25 ?_
      refine v_istore3 d_M_changes_26 (by decide) rfl ?_
      refine v_iconst d_M_changes_27 ?_
      refine v_istore4 d_M_changes_28 (by decide) rfl ?_
      exact c_M_changes_30 hA hO h0 h1 hM (A 2).toNat 0 _ _ (by omega) rfl (by omega) (fun h => by first | (exfalso; omega) | exact ⟨by omega, tmod120 u18⟩) (fun h => by omega) (fun h x y1 y2 => by omega)
    · refine v_iconst d_M_changes_21 ?_
      refine v_goto d_M_changes_22 ?_
      refine v_istore3 d_M_changes_26 (by decide) rfl ?_
      refine v_iconst d_M_changes_27 ?_
      refine v_istore4 d_M_changes_28 (by decide) rfl ?_
      exact c_M_changes_30 hA hO h0 h1 hM (A 2).toNat 0 _ _ (by omega) rfl (by omega) (fun h => by first | (exfalso; omega) | exact ⟨by omega, tmod120 u18⟩) (fun h => by omega) (fun h x y1 y2 => by omega)

theorem c_M_bitsOf_6 {T : vSh} {σ : vMem} {cx : vCx} {A : Int → Int} (hA : σ 56 = A) (hO : okA A) {oo dd k : Int} (h0 : vIn oo) (h1 : vIn dd) (h2 : vIn k) (hM : vM cx 0 0 (some .int) (rF (S0 ++ T) σ (bitS (fun v => b01 (heldF A v dd k = oo)) (A 0).toNat))) : ∀ (n j : Nat) (bits i : Int), (j : Int) + n = A 0 → i = j → bits = bitS (fun v => b01 (heldF A v dd k = oo)) j → vV cx y_M_bitsOf.cls prog_14_method_37_code 6 3 0 0 0 0 6 [some (.ref 55), some (.int (iI oo)), some (.int (iI dd)), some (.int (iI k)), some (.int (iI bits)), some (.int (iI i))] [] (S0 ++ T) σ := by
  intro n
  induction n with
  | zero =>
    intro j bits i hj hi hb
    obtain ⟨⟨q0, q1, q2, q3, q4, q5, q6, q7⟩, hVi, hWe, hCo, hOf, hBo, hWo, hMo, hRe, hLi, hTa⟩ := id hO
    have hr := bitS_rng (fun v => b01 (heldF A v dd k = oo)) (fun v => b01_or) j
    rw [← hi, ← hb] at hr
    refine v_iload5 d_M_bitsOf_6 ?_
    refine v_aload0 d_M_bitsOf_8 ?_
    refine v_getR d_M_bitsOf_9 f_M_7 (sh_55 T) rfl ?_
    refine v_iconst d_M_bitsOf_12 ?_
    refine v_ialoadE hA d_M_bitsOf_13 (sh_56 T) (by omega) (fun g13 => ?_)
    refine v_icmp_ge d_M_bitsOf_14 (by omega) (by omega) (fun u14 => ?_) (fun u14 => ?_)
    · refine v_iload4 d_M_bitsOf_44 ?_
      exact v_ireturn hM d_M_bitsOf_46 (by have := pw_le (v := i) (by omega); omega) ⟨rfl, rfl, by rw [hb]; congr 1; omega⟩
    · omega
  | succ n ih =>
    intro j bits i hj hi hb
    obtain ⟨⟨q0, q1, q2, q3, q4, q5, q6, q7⟩, hVi, hWe, hCo, hOf, hBo, hWo, hMo, hRe, hLi, hTa⟩ := id hO
    have hr := bitS_rng (fun v => b01 (heldF A v dd k = oo)) (fun v => b01_or) j
    rw [← hi, ← hb] at hr
    refine v_iload5 d_M_bitsOf_6 ?_
    refine v_aload0 d_M_bitsOf_8 ?_
    refine v_getR d_M_bitsOf_9 f_M_7 (sh_55 T) rfl ?_
    refine v_iconst d_M_bitsOf_12 ?_
    refine v_ialoadE hA d_M_bitsOf_13 (sh_56 T) (by omega) (fun g13 => ?_)
    refine v_icmp_ge d_M_bitsOf_14 (by omega) (by omega) (fun u14 => ?_) (fun u14 => ?_)
    · omega
    · refine v_aload0 d_M_bitsOf_17 ?_
      refine v_iload5 d_M_bitsOf_18 ?_
      refine v_iload2 d_M_bitsOf_20 ?_
      refine v_iload3 d_M_bitsOf_21 ?_
      refine v_fVI3 d_M_bitsOf_22 l_M_86 k_M_held (c_M_held hA hO (by omega) (by omega) (by omega)) (sh_55 T) rfl (by decide) (by decide) (Nat.le_of_ble_eq_true rfl) (Nat.zero_le _) (Nat.zero_le _) (fun g22 => ?_)
      refine v_iload1 d_M_bitsOf_25 ?_
      refine v_icmp_ne d_M_bitsOf_26 (by omega) (by omega) (fun u26 => ?_) (fun u26 => ?_)
      · refine v_iinc5 d_M_bitsOf_38 (by decide) rfl ?_
        refine v_goto d_M_bitsOf_41 ?_
        exact ih (j + 1) _ _ (by omega) (by omega) (by rw [bitS, ← hb, ← hi, ← b01_0 (by omega)]; omega)
      · refine v_iload4 d_M_bitsOf_29 ?_
        refine v_iconst d_M_bitsOf_31 ?_
        refine v_iload5 d_M_bitsOf_32 ?_
        refine v_ishl d_M_bitsOf_34 (bshl (by omega)) ?_
        refine v_ior d_M_bitsOf_35 (bor (by omega) hr) ?_
        refine v_istore4 d_M_bitsOf_36 (by decide) rfl ?_
        refine v_iinc5 d_M_bitsOf_38 (by decide) rfl ?_
        refine v_goto d_M_bitsOf_41 ?_
        exact ih (j + 1) _ _ (by omega) (by omega) (by rw [bitS, ← hb, ← hi, ← b01_1 (by omega)]; omega)

theorem c_M_bitsOf {T : vSh} {σ : vMem} {A : Int → Int} (hA : σ 56 = A) (hO : okA A) {oo dd k : Int} (h0 : vIn oo) (h1 : vIn dd) (h2 : vIn k) : mt_M_bitsOf [.ref 55, .int (iI oo), .int (iI dd), .int (iI k)] (S0 ++ T) σ (rF (S0 ++ T) σ (bitS (fun v => b01 (heldF A v dd k = oo)) (A 0).toNat)) := by
  refine vMet.intro 2 (by decide +kernel) (Nat.le_of_ble_eq_true rfl) rfl (fun cx hM _ => ?_)
  obtain ⟨⟨q0, q1, q2, q3, q4, q5, q6, q7⟩, hVi, hWe, hCo, hOf, hBo, hWo, hMo, hRe, hLi, hTa⟩ := id hO
  refine v_iconst d_M_bitsOf_0 ?_
  refine v_istore4 d_M_bitsOf_1 (by decide) rfl ?_
  refine v_iconst d_M_bitsOf_3 ?_
  refine v_istore5 d_M_bitsOf_4 (by decide) rfl ?_
  exact c_M_bitsOf_6 hA hO h0 h1 h2 hM (A 0).toNat 0 _ _ (by omega) rfl rfl

