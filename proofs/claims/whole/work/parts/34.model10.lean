theorem c_M_losesAll_2 {T : vSh} {σ : vMem} {cx : vCx} {A : Int → Int} (hA : σ 56 = A) (hO : okA A) {oo : Int} (h0 : vIn oo) (hM : vM cx 0 0 none (rP (S0 ++ T) (fun _ σ2 => (∀ k, k ≠ 68 → σ2 k = σ k) ∧ ∀ v, σ2 68 v = loseF A (σ 68) oo v))) : ∀ (n j : Nat) (i : Int) (σ1 : vMem), (j : Int) + n = A 0 → i = j → (∀ k, k ≠ 68 → σ1 k = σ k) → (∀ v, σ1 68 v = if (0 ≤ v ∧ v < (j : Int)) ∧ σ 68 v = oo then -1 else σ 68 v) → vV cx y_M_losesAll.cls prog_14_method_87_code 3 0 0 0 0 0 2 [some (.ref 55), some (.int (iI oo)), some (.int (iI i))] [] (S0 ++ T) σ1 := by
  intro n
  induction n with
  | zero =>
    intro j i σ1 hj hi hσ hl
    obtain ⟨⟨q0, q1, q2, q3, q4, q5, q6, q7⟩, hVi, hWe, hCo, hOf, hBo, hWo, hMo, hRe, hLi, hTa⟩ := id hO
    have hA1 : σ1 56 = A := by rw [hσ 56 (by decide)]; exact hA
    refine v_iload2 d_M_losesAll_2 ?_
    refine v_aload0 d_M_losesAll_3 ?_
    refine v_getR d_M_losesAll_4 f_M_7 (sh_55 T) rfl ?_
    refine v_iconst d_M_losesAll_7 ?_
    refine v_ialoadE hA1 d_M_losesAll_8 (sh_56 T) (by omega) (fun g8 => ?_)
    refine v_icmp_ge d_M_losesAll_9 (by omega) (by omega) (fun u9 => ?_) (fun u9 => ?_)
    · exact v_return hM d_M_losesAll_35 ⟨rfl, hσ, fun v => by rw [hl v, loseF, show (j : Int) = A 0 by omega]⟩
    · omega
  | succ n ih =>
    intro j i σ1 hj hi hσ hl
    obtain ⟨⟨q0, q1, q2, q3, q4, q5, q6, q7⟩, hVi, hWe, hCo, hOf, hBo, hWo, hMo, hRe, hLi, hTa⟩ := id hO
    have hA1 : σ1 56 = A := by rw [hσ 56 (by decide)]; exact hA
    refine v_iload2 d_M_losesAll_2 ?_
    refine v_aload0 d_M_losesAll_3 ?_
    refine v_getR d_M_losesAll_4 f_M_7 (sh_55 T) rfl ?_
    refine v_iconst d_M_losesAll_7 ?_
    refine v_ialoadE hA1 d_M_losesAll_8 (sh_56 T) (by omega) (fun g8 => ?_)
    refine v_icmp_ge d_M_losesAll_9 (by omega) (by omega) (fun u9 => ?_) (fun u9 => ?_)
    · omega
    · refine v_aload0 d_M_losesAll_12 ?_
      refine v_getR d_M_losesAll_13 f_M_47 (sh_55 T) rfl ?_
      refine v_iload2 d_M_losesAll_16 ?_
      refine v_iaload d_M_losesAll_17 (sh_68 T) (by omega) (fun g17 => ?_)
      refine v_iload1 d_M_losesAll_18 ?_
      refine v_icmp_ne d_M_losesAll_19 (by omega) (by omega) (fun u19 => ?_) (fun u19 => ?_)
      · refine v_iinc2 d_M_losesAll_29 (by decide) rfl ?_
        refine v_goto d_M_losesAll_32 ?_
        exact ih (j + 1) _ _ (by omega) (by omega) hσ (fun v => by
          rw [hl v]
          by_cases q2 : (0 ≤ v ∧ v < (j : Int)) ∧ σ 68 v = oo
          · rw [if_pos q2, if_pos (by omega)]
          · by_cases q : v = i
            · subst q
              have := hl v
              rw [if_neg (by omega)] at this
              rw [if_neg q2, if_neg (by omega)]
            · rw [if_neg q2, if_neg (by omega)])
      · refine v_aload0 d_M_losesAll_22 ?_
        refine v_getR d_M_losesAll_23 f_M_47 (sh_55 T) rfl ?_
        refine v_iload2 d_M_losesAll_26 ?_
        refine v_iconst d_M_losesAll_27 ?_
        refine v_iastore d_M_losesAll_28 (sh_68 T) (by omega) (by omega) ?_
        refine v_iinc2 d_M_losesAll_29 (by decide) rfl ?_
        refine v_goto d_M_losesAll_32 ?_
        exact ih (j + 1) _ _ (by omega) (by omega) (fun k hk => by rw [vUp_ne hk]; exact hσ k hk) (fun v => by
          by_cases q : v = i
          · subst q
            rw [vUp_same, if_pos ⟨by omega, by have := hl v; rw [if_neg (by omega)] at this; omega⟩]
          · rw [vUp_ix q, hl v]
            by_cases q2 : (0 ≤ v ∧ v < (j : Int)) ∧ σ 68 v = oo
            · rw [if_pos q2, if_pos (by omega)]
            · rw [if_neg q2, if_neg (by omega)])

theorem c_M_losesAll {T : vSh} {σ : vMem} {A : Int → Int} (hA : σ 56 = A) (hO : okA A) {oo : Int} (h0 : vIn oo) : mt_M_losesAll [.ref 55, .int (iI oo)] (S0 ++ T) σ (rP (S0 ++ T) (fun _ σ2 => (∀ k, k ≠ 68 → σ2 k = σ k) ∧ ∀ v, σ2 68 v = loseF A (σ 68) oo v)) := by
  refine vMet.intro 1 (by decide +kernel) (Nat.le_of_ble_eq_true rfl) rfl (fun cx hM _ => ?_)
  obtain ⟨⟨q0, q1, q2, q3, q4, q5, q6, q7⟩, hVi, hWe, hCo, hOf, hBo, hWo, hMo, hRe, hLi, hTa⟩ := id hO
  refine v_iconst d_M_losesAll_0 ?_
  refine v_istore2 d_M_losesAll_1 (by decide) rfl ?_
  exact c_M_losesAll_2 hA hO h0 hM (A 0).toNat 0 _ _ (by omega) rfl (fun k _ => rfl) (fun v => by rw [if_neg (by omega)])

theorem c_M_first_2 {T : vSh} {σ : vMem} {cx : vCx} {A : Int → Int} (hA : σ 56 = A) (hO : okA A) {may : Int} (h0 : may = 0 ∨ may = 1) (hM : vM cx 0 0 (some .int) (rF (S0 ++ T) σ (fst (mvF A (σ 68) (σ 70) may) (A 5).toNat))) : ∀ (n j : Nat) (i : Int), (j : Int) + n = A 5 → i = j → fst (mvF A (σ 68) (σ 70) may) j < 0 → vV cx y_M_first.cls prog_14_method_88_code 4 0 0 0 0 0 2 [some (.ref 55), some (.int (iI may)), some (.int (iI i)), none] [] (S0 ++ T) σ := by
  intro n
  induction n with
  | zero =>
    intro j i hj hi hz
    obtain ⟨⟨q0, q1, q2, q3, q4, q5, q6, q7⟩, hVi, hWe, hCo, hOf, hBo, hWo, hMo, hRe, hLi, hTa⟩ := id hO
    refine v_iload2 d_M_first_2 ?_
    refine v_aload0 d_M_first_3 ?_
    refine v_getR d_M_first_4 f_M_7 (sh_55 T) rfl ?_
    refine v_iconst d_M_first_7 ?_
    refine v_ialoadE hA d_M_first_8 (sh_56 T) (by omega) (fun g8 => ?_)
    refine v_icmp_ge d_M_first_9 (by omega) (by omega) (fun u9 => ?_) (fun u9 => ?_)
    · refine v_iconst d_M_first_78 ?_
      have hr := fst_rng (mvF A (σ 68) (σ 70) may) j
      exact v_ireturn hM d_M_first_79 (by omega) ⟨rfl, rfl, by rw [show (A 5).toNat = j by omega]; omega⟩
    · omega
  | succ n ih =>
    intro j i hj hi hz
    obtain ⟨⟨q0, q1, q2, q3, q4, q5, q6, q7⟩, hVi, hWe, hCo, hOf, hBo, hWo, hMo, hRe, hLi, hTa⟩ := id hO
    have hmo := hMo i (by omega) (by omega)
    refine v_iload2 d_M_first_2 ?_
    refine v_aload0 d_M_first_3 ?_
    refine v_getR d_M_first_4 f_M_7 (sh_55 T) rfl ?_
    refine v_iconst d_M_first_7 ?_
    refine v_ialoadE hA d_M_first_8 (sh_56 T) (by omega) (fun g8 => ?_)
    refine v_icmp_ge d_M_first_9 (by omega) (by omega) (fun u9 => ?_) (fun u9 => ?_)
    · omega
    · refine v_aload0 d_M_first_12 ?_
      refine v_getR d_M_first_13 f_M_7 (sh_55 T) rfl ?_
      refine v_sipush d_M_first_16 rfl ?_
      refine v_iconst d_M_first_19 ?_
      refine v_iload2 d_M_first_20 ?_
      refine v_imul d_M_first_21 ?_
      refine v_iadd d_M_first_22 ?_
      refine v_iconst d_M_first_23 ?_
      refine v_iadd d_M_first_24 ?_
      refine v_ialoadE hA d_M_first_25 (sh_56 T) (by omega) (fun g25 => ?_)
      refine v_istore3 d_M_first_26 (by decide) rfl ?_
      refine v_aload0 d_M_first_27 ?_
      refine v_getR d_M_first_28 f_M_53 (sh_55 T) rfl ?_
      refine v_iload2 d_M_first_31 ?_
      refine v_zaload d_M_first_32 (sh_70 T) (by omega) (fun g32 => ?_)
      refine v_if_ne d_M_first_33 (by omega) (fun u33 => ?_) (fun u33 => ?_)
      · refine v_iinc2 d_M_first_72 (by decide) rfl ?_
        refine v_goto d_M_first_75 ?_
        refine v_drop3 ?_
        exact ih (j + 1) _ (by omega) (by omega) (fst_no _ hz (by rw [← hi]; omega))
      · refine v_iload1 d_M_first_36 ?_
        refine v_if_eq d_M_first_37 (by omega) (fun u37 => ?_) (fun u37 => ?_)
        · refine v_iload2 d_M_first_70 ?_
          have e9 := fst_at (mvF A (σ 68) (σ 70) may) hz (by rw [← hi]; omega)
          exact v_ireturn hM d_M_first_71 (by omega) ⟨rfl, rfl, by rw [fst_stay (mvF A (σ 68) (σ 70) may) (m := j + 1) (by omega) (A 5).toNat (by omega), e9]; exact hi⟩
        · refine v_aload0 d_M_first_40 ?_
          refine v_getR d_M_first_41 f_M_47 (sh_55 T) rfl ?_
          refine v_iload3 d_M_first_44 ?_
          refine v_iaload d_M_first_45 (sh_68 T) (by omega) (fun g45 => ?_)
          refine v_if_lt d_M_first_46 (by omega) (fun u46 => ?_) (fun u46 => ?_)
          · refine v_iload2 d_M_first_70 ?_
            have e9 := fst_at (mvF A (σ 68) (σ 70) may) hz (by rw [← hi]; omega)
            exact v_ireturn hM d_M_first_71 (by omega) ⟨rfl, rfl, by rw [fst_stay (mvF A (σ 68) (σ 70) may) (m := j + 1) (by omega) (A 5).toNat (by omega), e9]; exact hi⟩
          · refine v_aload0 d_M_first_49 ?_
            refine v_getR d_M_first_50 f_M_47 (sh_55 T) rfl ?_
            refine v_iload3 d_M_first_53 ?_
            refine v_iaload d_M_first_54 (sh_68 T) (by omega) (fun g54 => ?_)
            refine v_aload0 d_M_first_55 ?_
            refine v_getR d_M_first_56 f_M_7 (sh_55 T) rfl ?_
            refine v_sipush d_M_first_59 rfl ?_
            refine v_iconst d_M_first_62 ?_
            refine v_iload2 d_M_first_63 ?_
            refine v_imul d_M_first_64 ?_
            refine v_iadd d_M_first_65 ?_
            refine v_ialoadE hA d_M_first_66 (sh_56 T) (by omega) (fun g66 => ?_)
            refine v_icmp_ne d_M_first_67 (by omega) (by omega) (fun u67 => ?_) (fun u67 => ?_)
            · refine v_iinc2 d_M_first_72 (by decide) rfl ?_
              refine v_goto d_M_first_75 ?_
              refine v_drop3 ?_
              exact ih (j + 1) _ (by omega) (by omega) (fst_no _ hz (by rw [← hi]; omega))
            · refine v_iload2 d_M_first_70 ?_
              have e9 := fst_at (mvF A (σ 68) (σ 70) may) hz (by rw [← hi]; omega)
              exact v_ireturn hM d_M_first_71 (by omega) ⟨rfl, rfl, by rw [fst_stay (mvF A (σ 68) (σ 70) may) (m := j + 1) (by omega) (A 5).toNat (by omega), e9]; exact hi⟩

theorem c_M_first {T : vSh} {σ : vMem} {A : Int → Int} (hA : σ 56 = A) (hO : okA A) {may : Int} (h0 : may = 0 ∨ may = 1) : mt_M_first [.ref 55, .int (iI may)] (S0 ++ T) σ (rF (S0 ++ T) σ (fst (mvF A (σ 68) (σ 70) may) (A 5).toNat)) := by
  refine vMet.intro 2 (by decide +kernel) (Nat.le_of_ble_eq_true rfl) rfl (fun cx hM _ => ?_)
  obtain ⟨⟨q0, q1, q2, q3, q4, q5, q6, q7⟩, hVi, hWe, hCo, hOf, hBo, hWo, hMo, hRe, hLi, hTa⟩ := id hO
  refine v_iconst d_M_first_0 ?_
  refine v_istore2 d_M_first_1 (by decide) rfl ?_
  exact c_M_first_2 hA hO h0 hM (A 5).toNat 0 _ (by omega) rfl (show (-1 : Int) < 0 by decide)

theorem c_M_moves_66 {T : vSh} {σ : vMem} {cx : vCx} {A : Int → Int} (hA : σ 56 = A) (hO : okA A)  (hM : vM cx 0 0 (some .int) (rP (S0 ++ T) (fun z σ2 => z = (mvE A).2.2.2.2 ∧ MF σ σ2 ∧ ∀ i, 0 ≤ i → i < A 5 → σ2 69 i = (mvE A).2.2.1 i))) : ∀ (n : Nat) (idle m : Int) (σ1 : vMem) (st : MvT), mvM A st ≤ n → mvR A n st = mvE A → okMv A st → mvAg A (σ1 68) (σ1 70) (σ1 69) st → idle = st.2.2.2.2 → m = st.2.2.2.1 → MF σ σ1 → vV cx y_M_moves.cls prog_14_method_89_code 4 3 0 0 0 0 66 [some (.ref 55), some (.int (iI idle)), some (.int (iI m)), none] [] (S0 ++ T) σ1 := by
  intro n
  induction n with
  | zero =>
    intro idle m σ1 st hf hE hk hg h1 h2 hσ
    obtain ⟨⟨q0, q1, q2, q3, q4, q5, q6, q7⟩, hVi, hWe, hCo, hOf, hBo, hWo, hMo, hRe, hLi, hTa⟩ := id hO
    have hA1 : σ1 56 = A := by rw [hσ 56 (by decide)]; exact hA
    obtain ⟨k1, k2, k3, k4, k5, k6⟩ := id hk
    have hmm : 2 * (A 5 - st.2.2.2.1) - 1 ≤ mvM A st := by unfold mvM; split <;> omega
    have hm0 : 0 ≤ mvM A st ∨ A 5 ≤ st.2.2.2.1 := by omega
    refine v_iload2 d_M_moves_66 ?_
    refine v_aload0 d_M_moves_67 ?_
    refine v_getR d_M_moves_68 f_M_7 (sh_55 T) rfl ?_
    refine v_iconst d_M_moves_71 ?_
    refine v_ialoadE hA1 d_M_moves_72 (sh_56 T) (by omega) (fun g72 => ?_)
    refine v_icmp_ge d_M_moves_73 (by omega) (by omega) (fun u73 => ?_) (fun u73 => ?_)
    · refine v_iload1 d_M_moves_186 ?_
      exact v_ireturn hM d_M_moves_187 (by omega) ⟨rfl, by rw [← hE, mvR]; exact h1, hσ, fun i y1 y2 => by rw [← hE, mvR]; exact hg.2.2 i y1 (by omega)⟩
    · omega
  | succ n ih =>
    intro idle m σ1 st hf hE hk hg h1 h2 hσ
    obtain ⟨⟨q0, q1, q2, q3, q4, q5, q6, q7⟩, hVi, hWe, hCo, hOf, hBo, hWo, hMo, hRe, hLi, hTa⟩ := id hO
    have hA1 : σ1 56 = A := by rw [hσ 56 (by decide)]; exact hA
    obtain ⟨k1, k2, k3, k4, k5, k6⟩ := id hk
    have hmm : 2 * (A 5 - st.2.2.2.1) - 1 ≤ mvM A st := by unfold mvM; split <;> omega
    have hm0 : 0 ≤ mvM A st ∨ A 5 ≤ st.2.2.2.1 := by omega
    have hAr : -1 ≤ mvA A st ∧ mvA A st < (A 5).toNat := fst_rng (mvP A st.1 st.2.1) (A 5).toNat
    have hBr : -1 ≤ mvB A st ∧ mvB A st < (A 5).toNat := fst_rng (mvQ st.2.1) (A 5).toNat
    have eA := mvF_A hO hg
    have eB := mvF_B hg
    refine v_iload2 d_M_moves_66 ?_
    refine v_aload0 d_M_moves_67 ?_
    refine v_getR d_M_moves_68 f_M_7 (sh_55 T) rfl ?_
    refine v_iconst d_M_moves_71 ?_
    refine v_ialoadE hA1 d_M_moves_72 (sh_56 T) (by omega) (fun g72 => ?_)
    refine v_icmp_ge d_M_moves_73 (by omega) (by omega) (fun u73 => ?_) (fun u73 => ?_)
    · refine v_iload1 d_M_moves_186 ?_
      exact v_ireturn hM d_M_moves_187 (by omega) ⟨rfl, by rw [← hE, mvR, if_neg (by omega)]; exact h1, hσ, fun i y1 y2 => by rw [← hE, mvR, if_neg (by omega)]; exact hg.2.2 i y1 (by omega)⟩
    · have hE2 : mvR A n (mvS A st) = mvE A := by rw [← hE, mvR, if_pos (by omega)]
      have hs9 := mvS_ok hO hk (by omega)
      have hB0 := mvB_has hO hk (by omega)
      have hmo := hMo (mvB A st) hB0 (by omega)
      have hk5 := k5 (A (400 + 2 * mvB A st + 1)) (by omega) (by omega)
      have hg5 := hg.1 (A (400 + 2 * mvB A st + 1)) (by omega) (by omega)
      refine v_aload0 d_M_moves_76 ?_
      refine v_iconst d_M_moves_77 ?_
      refine v_fVI1 d_M_moves_78 l_M_301 k_M_first (c_M_first hA1 hO (by omega)) (sh_55 T) rfl (by decide) (by decide) (Nat.le_of_ble_eq_true rfl) (Nat.zero_le _) (Nat.zero_le _) (fun g78 => ?_)
      rw [eA]
      refine v_istore3 d_M_moves_81 (by decide) rfl ?_
      refine v_iload3 d_M_moves_82 ?_
      refine v_if_ge d_M_moves_83 (by omega) (fun u83 => ?_) (fun u83 => ?_)
      · have hmp := hMo (mvA A st) (by omega) (by omega)
        refine v_aload0 d_M_moves_119 ?_
        refine v_aload0 d_M_moves_120 ?_
        refine v_getR d_M_moves_121 f_M_7 (sh_55 T) rfl ?_
        refine v_sipush d_M_moves_124 rfl ?_
        refine v_iconst d_M_moves_127 ?_
        refine v_iload3 d_M_moves_128 ?_
        refine v_imul d_M_moves_129 ?_
        refine v_iadd d_M_moves_130 ?_
        refine v_ialoadE hA1 d_M_moves_131 (sh_56 T) (by omega) (fun g131 => ?_)
        refine v_gVV1 d_M_moves_132 l_M_305 k_M_losesAll (c_M_losesAll hA1 hO (by omega)) (sh_55 T) rfl (by decide) (by decide) (Nat.le_of_ble_eq_true rfl) (Nat.zero_le _) (Nat.zero_le _) (fun z132 s132 e132 => ?_)
        have hA132 : s132 56 = A := by rw [e132.1 56 (by decide)]; exact hA1
        refine v_aload0 d_M_moves_135 ?_
        refine v_getR d_M_moves_136 f_M_47 (sh_55 T) rfl ?_
        refine v_aload0 d_M_moves_139 ?_
        refine v_getR d_M_moves_140 f_M_7 (sh_55 T) rfl ?_
        refine v_sipush d_M_moves_143 rfl ?_
        refine v_iconst d_M_moves_146 ?_
        refine v_iload3 d_M_moves_147 ?_
        refine v_imul d_M_moves_148 ?_
        refine v_iadd d_M_moves_149 ?_
        refine v_iconst d_M_moves_150 ?_
        refine v_iadd d_M_moves_151 ?_
        refine v_ialoadE hA132 d_M_moves_152 (sh_56 T) (by omega) (fun g152 => ?_)
        refine v_aload0 d_M_moves_153 ?_
        refine v_getR d_M_moves_154 f_M_7 (sh_55 T) rfl ?_
        refine v_sipush d_M_moves_157 rfl ?_
        refine v_iconst d_M_moves_160 ?_
        refine v_iload3 d_M_moves_161 ?_
        refine v_imul d_M_moves_162 ?_
        refine v_iadd d_M_moves_163 ?_
        refine v_ialoadE hA132 d_M_moves_164 (sh_56 T) (by omega) (fun g164 => ?_)
        refine v_iastore d_M_moves_165 (sh_68 T) (by omega) (by omega) ?_
        refine v_aload0 d_M_moves_166 ?_
        refine v_getR d_M_moves_167 f_M_53 (sh_55 T) rfl ?_
        refine v_iload3 d_M_moves_170 ?_
        refine v_iconst d_M_moves_171 ?_
        refine v_zastore d_M_moves_172 (sh_70 T) (by omega) (by omega) ?_
        refine v_aload0 d_M_moves_173 ?_
        refine v_getR d_M_moves_174 f_M_50 (sh_55 T) rfl ?_
        refine v_iload2 d_M_moves_177 ?_
        refine v_iload3 d_M_moves_178 ?_
        refine v_iastore d_M_moves_179 (sh_69 T) (by omega) (by omega) ?_
        refine v_iinc2 d_M_moves_180 (by decide) rfl ?_
        refine v_goto d_M_moves_183 ?_
        refine v_drop3 ?_
        have hq9 : ¬ mvA A st < 0 := by omega
        refine ih _ _ _ (mvS A st) (by omega) hE2 hs9.1 (mvAg_do hO hg (by omega) hq9 (fun v => ?_) (fun x => ?_) (fun x => ?_)) (by rw [h1, mvS, if_neg hq9]) (by rw [mvS, if_neg hq9, ← h2]) (hσ.trans' (fun k hk => by rw [vUp_ne (by omega), vUp_ne (by omega), vUp_ne (by omega)]; exact e132.1 k (by omega)))
        · rw [vUp_ne (by decide), vUp_ne (by decide)]
          by_cases q : v = A (400 + 2 * mvA A st + 1)
          · rw [q, vUp_same, upF_s]
          · rw [vUp_ix q, upF_n q]; exact e132.2 v
        · rw [vUp_ne (by decide)]
          by_cases q : x = mvA A st
          · rw [q, vUp_same, upF_s]
          · rw [vUp_ix q, upF_n q, vUp_ne (by decide), e132.1 70 (by decide)]
        · by_cases q : x = m
          · rw [q, vUp_same, h2, upF_s]
          · rw [vUp_ix q, ← h2, upF_n q, vUp_ne (by decide), vUp_ne (by decide), e132.1 69 (by decide)]
      · refine v_aload0 d_M_moves_86 ?_
        refine v_aload0 d_M_moves_87 ?_
        refine v_getR d_M_moves_88 f_M_47 (sh_55 T) rfl ?_
        refine v_aload0 d_M_moves_91 ?_
        refine v_getR d_M_moves_92 f_M_7 (sh_55 T) rfl ?_
        refine v_sipush d_M_moves_95 rfl ?_
        refine v_iconst d_M_moves_98 ?_
        refine v_aload0 d_M_moves_99 ?_
        refine v_iconst d_M_moves_100 ?_
        refine v_fVI1 d_M_moves_101 l_M_301 k_M_first (c_M_first hA1 hO (by omega)) (sh_55 T) rfl (by decide) (by decide) (Nat.le_of_ble_eq_true rfl) (Nat.zero_le _) (Nat.zero_le _) (fun g101 => ?_)
        rw [eB]
        refine v_imul d_M_moves_104 ?_
        refine v_iadd d_M_moves_105 ?_
        refine v_iconst d_M_moves_106 ?_
        refine v_iadd d_M_moves_107 ?_
        refine v_ialoadE hA1 d_M_moves_108 (sh_56 T) (by omega) (fun g108 => ?_)
        refine v_iaload d_M_moves_109 (sh_68 T) (by omega) (fun g109 => ?_)
        refine v_gVV1 d_M_moves_110 l_M_305 k_M_losesAll (c_M_losesAll hA1 hO (by omega)) (sh_55 T) rfl (by decide) (by decide) (Nat.le_of_ble_eq_true rfl) (Nat.zero_le _) (Nat.zero_le _) (fun z110 s110 e110 => ?_)
        refine v_iinc1 d_M_moves_113 (by decide) rfl ?_
        refine v_goto d_M_moves_116 ?_
        refine v_drop3 ?_
        have hq9 : mvA A st < 0 := u83
        exact ih _ _ _ (mvS A st) (by omega) hE2 hs9.1 (by rw [e110.1 70 (by decide), e110.1 69 (by decide)]; exact mvAg_idle hO hg hk (by omega) hq9 e110.2) (by rw [h1, mvS, if_pos hq9]) (by rw [h2, mvS, if_pos hq9]) (hσ.trans' (fun k hk => e110.1 k (by omega)))

theorem c_M_moves_43 {T : vSh} {σ : vMem} {cx : vCx} {A : Int → Int} (hA : σ 56 = A) (hO : okA A)  (hM : vM cx 0 0 (some .int) (rP (S0 ++ T) (fun z σ2 => z = (mvE A).2.2.2.2 ∧ MF σ σ2 ∧ ∀ i, 0 ≤ i → i < A 5 → σ2 69 i = (mvE A).2.2.1 i))) : ∀ (n j : Nat) (i : Int) (σ1 : vMem), (j : Int) + n = 12 → i = j → (∀ k, k ≠ 68 → k ≠ 70 → σ1 k = σ k) → (∀ v, 0 ≤ v → v < A 0 → σ1 68 v = heldF A v (A 4) (A 4)) → (∀ m, 0 ≤ m → m < (j : Int) → σ1 70 m = 0) → vV cx y_M_moves.cls prog_14_method_89_code 4 3 0 0 0 0 43 [some (.ref 55), some (.int (iI i)), none, none] [] (S0 ++ T) σ1 := by
  intro n
  induction n with
  | zero =>
    intro j i σ1 hj hi hσ hv hd
    obtain ⟨⟨q0, q1, q2, q3, q4, q5, q6, q7⟩, hVi, hWe, hCo, hOf, hBo, hWo, hMo, hRe, hLi, hTa⟩ := id hO
    have hA1 : σ1 56 = A := by rw [hσ 56 (by decide) (by decide)]; exact hA
    refine v_iload1 d_M_moves_43 ?_
    refine v_bipush d_M_moves_44 rfl ?_
    refine v_icmp_ge d_M_moves_46 (by omega) (by omega) (fun u46 => ?_) (fun u46 => ?_)
    · refine v_iconst d_M_moves_62 ?_
      refine v_istore1 d_M_moves_63 (by decide) rfl ?_
      refine v_iconst d_M_moves_64 ?_
      refine v_istore2 d_M_moves_65 (by decide) rfl ?_
      exact c_M_moves_66 hA hO hM 24 _ _ _ (mv0 A) (mv0_ok hO).2 rfl (mv0_ok hO).1 ⟨hv, fun m y1 y2 => hd m y1 (by omega), fun i y1 y2 => by exfalso; simp [mv0] at y2; omega⟩ rfl rfl (fun k hk => hσ k (by omega) (by omega))
    · omega
  | succ n ih =>
    intro j i σ1 hj hi hσ hv hd
    obtain ⟨⟨q0, q1, q2, q3, q4, q5, q6, q7⟩, hVi, hWe, hCo, hOf, hBo, hWo, hMo, hRe, hLi, hTa⟩ := id hO
    have hA1 : σ1 56 = A := by rw [hσ 56 (by decide) (by decide)]; exact hA
    refine v_iload1 d_M_moves_43 ?_
    refine v_bipush d_M_moves_44 rfl ?_
    refine v_icmp_ge d_M_moves_46 (by omega) (by omega) (fun u46 => ?_) (fun u46 => ?_)
    · omega
    · refine v_aload0 d_M_moves_49 ?_
      refine v_getR d_M_moves_50 f_M_53 (sh_55 T) rfl ?_
      refine v_iload1 d_M_moves_53 ?_
      refine v_iconst d_M_moves_54 ?_
      refine v_zastore d_M_moves_55 (sh_70 T) (by omega) (by omega) ?_
      refine v_iinc1 d_M_moves_56 (by decide) rfl ?_
      refine v_goto d_M_moves_59 ?_
      exact ih (j + 1) _ _ (by omega) (by omega) (fun k h1 h2 => by rw [vUp_ne h2]; exact hσ k h1 h2) (fun v y1 y2 => by rw [vUp_ne (by decide)]; exact hv v y1 y2) (fun m y1 y2 => by
        by_cases q : m = i
        · subst q; exact vUp_same _ _ _ _
        · rw [vUp_ix q]; exact hd m y1 (by omega))

theorem c_M_moves_2 {T : vSh} {σ : vMem} {cx : vCx} {A : Int → Int} (hA : σ 56 = A) (hO : okA A)  (hM : vM cx 0 0 (some .int) (rP (S0 ++ T) (fun z σ2 => z = (mvE A).2.2.2.2 ∧ MF σ σ2 ∧ ∀ i, 0 ≤ i → i < A 5 → σ2 69 i = (mvE A).2.2.1 i))) : ∀ (n j : Nat) (i : Int) (σ1 : vMem), (j : Int) + n = A 0 → i = j → (∀ k, k ≠ 68 → k ≠ 70 → σ1 k = σ k) → (∀ v, 0 ≤ v → v < (j : Int) → σ1 68 v = heldF A v (A 4) (A 4)) → vV cx y_M_moves.cls prog_14_method_89_code 4 3 0 0 0 0 2 [some (.ref 55), some (.int (iI i)), none, none] [] (S0 ++ T) σ1 := by
  intro n
  induction n with
  | zero =>
    intro j i σ1 hj hi hσ hv
    obtain ⟨⟨q0, q1, q2, q3, q4, q5, q6, q7⟩, hVi, hWe, hCo, hOf, hBo, hWo, hMo, hRe, hLi, hTa⟩ := id hO
    have hA1 : σ1 56 = A := by rw [hσ 56 (by decide) (by decide)]; exact hA
    refine v_iload1 d_M_moves_2 ?_
    refine v_aload0 d_M_moves_3 ?_
    refine v_getR d_M_moves_4 f_M_7 (sh_55 T) rfl ?_
    refine v_iconst d_M_moves_7 ?_
    refine v_ialoadE hA1 d_M_moves_8 (sh_56 T) (by omega) (fun g8 => ?_)
    refine v_icmp_ge d_M_moves_9 (by omega) (by omega) (fun u9 => ?_) (fun u9 => ?_)
    · refine v_iconst d_M_moves_41 ?_
      refine v_istore1 d_M_moves_42 (by decide) rfl ?_
      exact c_M_moves_43 hA hO hM 12 0 _ _ (by omega) rfl hσ (fun v y1 y2 => hv v y1 (by omega)) (fun m y1 y2 => by omega)
    · omega
  | succ n ih =>
    intro j i σ1 hj hi hσ hv
    obtain ⟨⟨q0, q1, q2, q3, q4, q5, q6, q7⟩, hVi, hWe, hCo, hOf, hBo, hWo, hMo, hRe, hLi, hTa⟩ := id hO
    have hA1 : σ1 56 = A := by rw [hσ 56 (by decide) (by decide)]; exact hA
    refine v_iload1 d_M_moves_2 ?_
    refine v_aload0 d_M_moves_3 ?_
    refine v_getR d_M_moves_4 f_M_7 (sh_55 T) rfl ?_
    refine v_iconst d_M_moves_7 ?_
    refine v_ialoadE hA1 d_M_moves_8 (sh_56 T) (by omega) (fun g8 => ?_)
    refine v_icmp_ge d_M_moves_9 (by omega) (by omega) (fun u9 => ?_) (fun u9 => ?_)
    · omega
    · refine v_aload0 d_M_moves_12 ?_
      refine v_getR d_M_moves_13 f_M_47 (sh_55 T) rfl ?_
      refine v_iload1 d_M_moves_16 ?_
      refine v_aload0 d_M_moves_17 ?_
      refine v_iload1 d_M_moves_18 ?_
      refine v_aload0 d_M_moves_19 ?_
      refine v_getR d_M_moves_20 f_M_7 (sh_55 T) rfl ?_
      refine v_iconst d_M_moves_23 ?_
      refine v_ialoadE hA1 d_M_moves_24 (sh_56 T) (by omega) (fun g24 => ?_)
      refine v_aload0 d_M_moves_25 ?_
      refine v_getR d_M_moves_26 f_M_7 (sh_55 T) rfl ?_
      refine v_iconst d_M_moves_29 ?_
      refine v_ialoadE hA1 d_M_moves_30 (sh_56 T) (by omega) (fun g30 => ?_)
      refine v_fVI3 d_M_moves_31 l_M_86 k_M_held (c_M_held hA1 hO (by omega) (by omega) (by omega)) (sh_55 T) rfl (by decide) (by decide) (Nat.le_of_ble_eq_true rfl) (Nat.zero_le _) (Nat.zero_le _) (fun g31 => ?_)
      have hhr := heldF_rng hO i (A 4) (A 4)
      refine v_iastore d_M_moves_34 (sh_68 T) (by omega) (by omega) ?_
      refine v_iinc1 d_M_moves_35 (by decide) rfl ?_
      refine v_goto d_M_moves_38 ?_
      exact ih (j + 1) _ _ (by omega) (by omega) (fun k h1 h2 => by rw [vUp_ne h1]; exact hσ k h1 h2) (fun v y1 y2 => by
        by_cases q : v = i
        · subst q; exact vUp_same _ _ _ _
        · rw [vUp_ix q]; exact hv v y1 (by omega))

theorem c_M_moves {T : vSh} {σ : vMem} {A : Int → Int} (hA : σ 56 = A) (hO : okA A)  : mt_M_moves [.ref 55] (S0 ++ T) σ (rP (S0 ++ T) (fun z σ2 => z = (mvE A).2.2.2.2 ∧ MF σ σ2 ∧ ∀ i, 0 ≤ i → i < A 5 → σ2 69 i = (mvE A).2.2.1 i)) := by
  refine vMet.intro 3 (by decide +kernel) (Nat.le_of_ble_eq_true rfl) rfl (fun cx hM _ => ?_)
  obtain ⟨⟨q0, q1, q2, q3, q4, q5, q6, q7⟩, hVi, hWe, hCo, hOf, hBo, hWo, hMo, hRe, hLi, hTa⟩ := id hO
  refine v_iconst d_M_moves_0 ?_
  refine v_istore1 d_M_moves_1 (by decide) rfl ?_
  exact c_M_moves_2 hA hO hM (A 0).toNat 0 _ _ (by omega) rfl (fun k _ _ => rfl) (fun v y1 y2 => by omega)

theorem c_M_idle {T : vSh} {σ : vMem} {A : Int → Int} (hA : σ 56 = A) (hO : okA A)  : mt_M_idle [.ref 55] (S0 ++ T) σ (rP (S0 ++ T) (fun z σ2 => z = (mvE A).2.2.2.2 ∧ MF σ σ2)) := by
  refine vMet.intro 0 (by decide +kernel) (Nat.le_of_ble_eq_true rfl) rfl (fun cx hM _ => ?_)
  obtain ⟨⟨q0, q1, q2, q3, q4, q5, q6, q7⟩, hVi, hWe, hCo, hOf, hBo, hWo, hMo, hRe, hLi, hTa⟩ := id hO
  refine v_aload0 d_M_idle_0 ?_
  refine v_gVI0 d_M_idle_1 l_M_308 k_M_moves (c_M_moves hA hO) (sh_55 T) rfl (by decide) (by decide) (Nat.le_of_ble_eq_true rfl) (Nat.zero_le _) (Nat.zero_le _) (fun z1 s1 g1 e1 => ?_)
  exact v_ireturn hM d_M_idle_4 g1 ⟨rfl, e1.1, e1.2.1⟩

theorem c_M_moved {T : vSh} {σ : vMem} {A : Int → Int} (hA : σ 56 = A) (hO : okA A) {p : Int} (h0 : vIn p) : mt_M_moved [.ref 55, .int (iI p)] (S0 ++ T) σ (rP (S0 ++ T) (fun z σ2 => z = rMoved A p ∧ MF σ σ2)) := by
  refine vMet.intro 1 (by decide +kernel) (Nat.le_of_ble_eq_true rfl) rfl (fun cx hM _ => ?_)
  obtain ⟨⟨q0, q1, q2, q3, q4, q5, q6, q7⟩, hVi, hWe, hCo, hOf, hBo, hWo, hMo, hRe, hLi, hTa⟩ := id hO
  refine v_aload0 d_M_moved_0 ?_
  refine v_gVI0 d_M_moved_1 l_M_308 k_M_moves (c_M_moves hA hO) (sh_55 T) rfl (by decide) (by decide) (Nat.le_of_ble_eq_true rfl) (Nat.zero_le _) (Nat.zero_le _) (fun z1 s1 g1 e1 => ?_)
  have hA1 : s1 56 = A := by rw [e1.2.1 56 (by decide)]; exact hA
  have hE9 := (mvR_ok hO 24 (mv0 A) (mv0_ok hO).1 (mv0_ok hO).2).1.2.2.2.1.1
  have hE8 : 0 ≤ (mvE A).2.2.2.2 := hE9
  refine v_istore2 d_M_moved_4 (by decide) rfl ?_
  refine v_iload1 d_M_moved_5 ?_
  refine v_iconst d_M_moved_6 ?_
  refine v_aload0 d_M_moved_7 ?_
  refine v_getR d_M_moved_8 f_M_7 (sh_55 T) rfl ?_
  refine v_iconst d_M_moved_11 ?_
  refine v_ialoadE hA1 d_M_moved_12 (sh_56 T) (by omega) (fun g12 => ?_)
  refine v_iconst d_M_moved_13 ?_
  refine v_isub d_M_moved_14 ?_
  refine v_fSZ3 d_M_moved_15 l_M_56 k_M_isIn (c_M_isIn (by omega) (by omega) (by omega)) (by decide) (by decide) (Nat.le_of_ble_eq_true rfl) (Nat.zero_le _) (Nat.zero_le _) (fun g15 => ?_)
  refine v_ifb_eq d_M_moved_18 (fun u18 => ?_) (fun u18 => ?_)
  · refine v_iconst d_M_moved_34 ?_
    first
    | (exact v_ireturn hM d_M_moved_35 g30 ⟨rfl, by rw [rMoved, if_pos (by omega)]; exact e1.2.2 p (by omega) (by omega), e1.2.1⟩)
    | (exact v_ireturn hM d_M_moved_35 (by omega) ⟨rfl, by rw [rMoved, if_neg (by omega)], e1.2.1⟩)
  · refine v_iload2 d_M_moved_21 ?_
    refine v_if_lt d_M_moved_22 (by omega) (fun u22 => ?_) (fun u22 => ?_)
    · refine v_iconst d_M_moved_34 ?_
      first
      | (exact v_ireturn hM d_M_moved_35 g30 ⟨rfl, by rw [rMoved, if_pos (by omega)]; exact e1.2.2 p (by omega) (by omega), e1.2.1⟩)
      | (exact v_ireturn hM d_M_moved_35 (by omega) ⟨rfl, by rw [rMoved, if_neg (by omega)], e1.2.1⟩)
    · refine v_aload0 d_M_moved_25 ?_
      refine v_getR d_M_moved_26 f_M_50 (sh_55 T) rfl ?_
      refine v_iload1 d_M_moved_29 ?_
      refine v_iaload d_M_moved_30 (sh_69 T) (by omega) (fun g30 => ?_)
      refine v_goto d_M_moved_31 ?_
      first
      | (exact v_ireturn hM d_M_moved_35 g30 ⟨rfl, by rw [rMoved, if_pos (by omega)]; exact e1.2.2 p (by omega) (by omega), e1.2.1⟩)
      | (exact v_ireturn hM d_M_moved_35 (by omega) ⟨rfl, by rw [rMoved, if_neg (by omega)], e1.2.1⟩)

