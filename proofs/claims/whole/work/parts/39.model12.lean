theorem by_contra9 {p : Prop} [Decidable p] (h : ¬ ¬ p) : p := Decidable.of_not_not h
theorem c_M_byRule_17 {T : vSh} {σ : vMem} {cx : vCx} {A : Int → Int} (hA : σ 56 = A) (hO : okA A) {set : Int} (h1 : dlP A set) {st : RuT} {dn m : Int} (hR : RuM σ A set st dn) (K : ∀ nx : Int, nx = grF A st.1 (dL A).toNat → vV cx y_M_byRule.cls prog_14_method_80_code 6 2 0 0 0 0 74 [some (.ref 55), some (.int (iI dn)), some (.int (iI m)), some (.int (iI nx)), none, none] [] (S0 ++ T) σ) : ∀ (n j : Nat) (nx i : Int), (j : Int) + n = dL A → i = j → nx = grF A st.1 j → vV cx y_M_byRule.cls prog_14_method_80_code 6 2 0 0 0 0 17 [some (.ref 55), some (.int (iI dn)), some (.int (iI m)), some (.int (iI nx)), some (.int (iI i)), none] [] (S0 ++ T) σ := by
  intro n
  induction n with
  | zero =>
    intro j nx i hj hi hn
    obtain ⟨⟨q0, q1, q2, q3, q4, q5, q6, q7⟩, hVi, hWe, hCo, hOf, hBo, hWo, hMo, hRe, hLi, hTa⟩ := id hO
    have hP := dP_rng hO h1
    have hL := dL_rng A
    obtain ⟨⟨r1, r2⟩, rP, rK, rd, rb⟩ := id hR
    have hgr := grF_rng A st.1 j
    refine v_iload4 d_M_byRule_17 ?_
    refine v_aload0 d_M_byRule_19 ?_
    refine v_getJ (ji := 21) d_M_byRule_20 f_M_279 (sh_55 T) rfl rfl (fun g20 => ?_)
    refine v_icmp_ge d_M_byRule_23 (by omega) (by omega) (fun u23 => ?_) (fun u23 => ?_)
    · refine v_drop4 ?_
      exact K nx (by rw [hn]; congr 1; omega)
    · omega
  | succ n ih =>
    intro j nx i hj hi hn
    obtain ⟨⟨q0, q1, q2, q3, q4, q5, q6, q7⟩, hVi, hWe, hCo, hOf, hBo, hWo, hMo, hRe, hLi, hTa⟩ := id hO
    have hP := dP_rng hO h1
    have hL := dL_rng A
    obtain ⟨⟨r1, r2⟩, rP, rK, rd, rb⟩ := id hR
    have hgr := grF_rng A st.1 j
    have hki := rK i (by omega) (by omega)
    have hli := dLot_rng hO (k := i) (by omega)
    have hbi := rb i (by omega) (by omega)
    have hpi := dPa_rng hO (k := i) (by omega)
    refine v_iload4 d_M_byRule_17 ?_
    refine v_aload0 d_M_byRule_19 ?_
    refine v_getJ (ji := 21) d_M_byRule_20 f_M_279 (sh_55 T) rfl rfl (fun g20 => ?_)
    refine v_icmp_ge d_M_byRule_23 (by omega) (by omega) (fun u23 => ?_) (fun u23 => ?_)
    · omega
    · refine v_iload1 d_M_byRule_26 ?_
      refine v_iload4 d_M_byRule_27 ?_
      refine v_ishr d_M_byRule_29 (bshr (by omega) (by omega)) ?_
      refine v_iconst d_M_byRule_30 ?_
      refine v_iand d_M_byRule_31 (band1 _) ?_
      refine v_if_ne d_M_byRule_32 (by omega) (fun u32 => ?_) (fun u32 => ?_)
      · refine v_iinc4 d_M_byRule_68 (by decide) rfl ?_
        refine v_goto d_M_byRule_71 ?_
        first
        | (exact ih (j + 1) _ _ (by omega) (by omega) (by rw [grF, ← hi, ← hn, if_neg (fun z => by have := b01_0 (p := st.1 i ≠ -1) (fun w => w z.1); unfold bt at hbi; omega)]))
        | (exact ih (j + 1) _ _ (by omega) (by omega) (by rw [grF, ← hi, ← hn, if_neg (fun z => by have := z.2; omega)]))
        | (exact ih (j + 1) _ _ (by omega) (by omega) (by rw [grF, ← hi, ← hn, if_pos ⟨by_contra9 (fun w => by have := b01_1 (p := st.1 i ≠ -1) w; unfold bt at hbi; omega), by omega⟩]))
      · refine v_iload3 d_M_byRule_35 ?_
        refine v_if_lt d_M_byRule_36 (by omega) (fun u36 => ?_) (fun u36 => ?_)
        · refine v_iload4 d_M_byRule_65 ?_
          refine v_istore3 d_M_byRule_67 (by decide) rfl ?_
          refine v_iinc4 d_M_byRule_68 (by decide) rfl ?_
          refine v_goto d_M_byRule_71 ?_
          first
          | (exact ih (j + 1) _ _ (by omega) (by omega) (by rw [grF, ← hi, ← hn, if_neg (fun z => by have := b01_0 (p := st.1 i ≠ -1) (fun w => w z.1); unfold bt at hbi; omega)]))
          | (exact ih (j + 1) _ _ (by omega) (by omega) (by rw [grF, ← hi, ← hn, if_neg (fun z => by have := z.2; omega)]))
          | (exact ih (j + 1) _ _ (by omega) (by omega) (by rw [grF, ← hi, ← hn, if_pos ⟨by_contra9 (fun w => by have := b01_1 (p := st.1 i ≠ -1) w; unfold bt at hbi; omega), by omega⟩]))
        · have hkn := rK nx (by omega) (by omega)
          have hln := dLot_rng hO (k := nx) (by omega)
          have hpn := dPa_rng hO (k := nx) (by omega)
          have ei : A (40 + 6 * σ 62 i + 0) = dPa A i := by rw [hki.1]
          have en : A (40 + 6 * σ 62 nx + 0) = dPa A nx := by rw [hkn.1]
          refine v_aload0 d_M_byRule_39 ?_
          refine v_aload0 d_M_byRule_40 ?_
          refine v_getR d_M_byRule_41 f_M_29 (sh_55 T) rfl ?_
          refine v_iload4 d_M_byRule_44 ?_
          refine v_iaload d_M_byRule_46 (sh_62 T) (by omega) (fun g46 => ?_)
          refine v_iconst d_M_byRule_47 ?_
          refine v_fVI2 d_M_byRule_48 l_M_83 k_M_its (c_M_its hA (by omega)) (sh_55 T) rfl (by decide) (by decide) (Nat.le_of_ble_eq_true rfl) (Nat.zero_le _) (Nat.zero_le _) (fun g48 => ?_)
          refine v_aload0 d_M_byRule_51 ?_
          refine v_aload0 d_M_byRule_52 ?_
          refine v_getR d_M_byRule_53 f_M_29 (sh_55 T) rfl ?_
          refine v_iload3 d_M_byRule_56 ?_
          refine v_iaload d_M_byRule_57 (sh_62 T) (by omega) (fun g57 => ?_)
          refine v_iconst d_M_byRule_58 ?_
          refine v_fVI2 d_M_byRule_59 l_M_83 k_M_its (c_M_its hA (by omega)) (sh_55 T) rfl (by decide) (by decide) (Nat.le_of_ble_eq_true rfl) (Nat.zero_le _) (Nat.zero_le _) (fun g59 => ?_)
          refine v_icmp_le d_M_byRule_62 (by omega) (by omega) (fun u62 => ?_) (fun u62 => ?_)
          · refine v_iinc4 d_M_byRule_68 (by decide) rfl ?_
            refine v_goto d_M_byRule_71 ?_
            first
            | (exact ih (j + 1) _ _ (by omega) (by omega) (by rw [grF, ← hi, ← hn, if_neg (fun z => by have := b01_0 (p := st.1 i ≠ -1) (fun w => w z.1); unfold bt at hbi; omega)]))
            | (exact ih (j + 1) _ _ (by omega) (by omega) (by rw [grF, ← hi, ← hn, if_neg (fun z => by have := z.2; omega)]))
            | (exact ih (j + 1) _ _ (by omega) (by omega) (by rw [grF, ← hi, ← hn, if_pos ⟨by_contra9 (fun w => by have := b01_1 (p := st.1 i ≠ -1) w; unfold bt at hbi; omega), by omega⟩]))
          · refine v_iload4 d_M_byRule_65 ?_
            refine v_istore3 d_M_byRule_67 (by decide) rfl ?_
            refine v_iinc4 d_M_byRule_68 (by decide) rfl ?_
            refine v_goto d_M_byRule_71 ?_
            first
            | (exact ih (j + 1) _ _ (by omega) (by omega) (by rw [grF, ← hi, ← hn, if_neg (fun z => by have := b01_0 (p := st.1 i ≠ -1) (fun w => w z.1); unfold bt at hbi; omega)]))
            | (exact ih (j + 1) _ _ (by omega) (by omega) (by rw [grF, ← hi, ← hn, if_neg (fun z => by have := z.2; omega)]))
            | (exact ih (j + 1) _ _ (by omega) (by omega) (by rw [grF, ← hi, ← hn, if_pos ⟨by_contra9 (fun w => by have := b01_1 (p := st.1 i ≠ -1) w; unfold bt at hbi; omega), by omega⟩]))

theorem c_M_byRule_86 {T : vSh} {σ : vMem} {cx : vCx} {A : Int → Int} (hA : σ 56 = A) (hO : okA A) {set : Int} (h1 : dlP A set) {lk : Int → Int} {dn m : Int} (r2 : σ 55 22 = dP A set) (rP : ∀ i, 0 ≤ i → i < dP A set → σ 63 i = dWho A set i ∧ σ 64 i = dDue A set i ∧ σ 65 i = dDue A set i - lk i) (ho1 : ∀ i, 0 ≤ i → i < dP A set → -70000 ≤ lk i ∧ lk i ≤ 159984) {nx : Int} (K : ∀ who : Int, who = neF lk (dP A set).toNat → vV cx y_M_byRule.cls prog_14_method_80_code 6 2 0 0 0 0 138 [some (.ref 55), some (.int (iI dn)), some (.int (iI m)), some (.int (iI nx)), some (.int (iI who)), none] [] (S0 ++ T) σ) : ∀ (n j : Nat) (who i : Int), (j : Int) + n = dP A set → i = j → who = neF lk j → 1 ≤ j → vV cx y_M_byRule.cls prog_14_method_80_code 6 2 0 0 0 0 86 [some (.ref 55), some (.int (iI dn)), some (.int (iI m)), some (.int (iI nx)), some (.int (iI who)), some (.int (iI i))] [] (S0 ++ T) σ := by
  intro n
  induction n with
  | zero =>
    intro j who i hj hi hw hj1
    obtain ⟨⟨q0, q1, q2, q3, q4, q5, q6, q7⟩, hVi, hWe, hCo, hOf, hBo, hWo, hMo, hRe, hLi, hTa⟩ := id hO
    have hP := dP_rng hO h1
    have hL := dL_rng A
    have hne := neF_rng lk j
    refine v_iload5 d_M_byRule_86 ?_
    refine v_aload0 d_M_byRule_88 ?_
    refine v_getJ (ji := 22) d_M_byRule_89 f_M_276 (sh_55 T) rfl rfl (fun g89 => ?_)
    refine v_icmp_ge d_M_byRule_92 (by omega) (by omega) (fun u92 => ?_) (fun u92 => ?_)
    · refine v_drop5 ?_
      exact K who (by rw [hw]; congr 1; omega)
    · omega
  | succ n ih =>
    intro j who i hj hi hw hj1
    obtain ⟨⟨q0, q1, q2, q3, q4, q5, q6, q7⟩, hVi, hWe, hCo, hOf, hBo, hWo, hMo, hRe, hLi, hTa⟩ := id hO
    have hP := dP_rng hO h1
    have hL := dL_rng A
    have hne := neF_rng lk j
    have hpi := rP i (by omega) (by omega)
    have hpw := rP who (by omega) (by omega)
    have hoi := ho1 i (by omega) (by omega)
    have how := ho1 who (by omega) (by omega)
    have hdi := dDue_rng hO set i
    have hdw := dDue_rng hO set who
    refine v_iload5 d_M_byRule_86 ?_
    refine v_aload0 d_M_byRule_88 ?_
    refine v_getJ (ji := 22) d_M_byRule_89 f_M_276 (sh_55 T) rfl rfl (fun g89 => ?_)
    refine v_icmp_ge d_M_byRule_92 (by omega) (by omega) (fun u92 => ?_) (fun u92 => ?_)
    · omega
    · refine v_aload0 d_M_byRule_95 ?_
      refine v_getR d_M_byRule_96 f_M_35 (sh_55 T) rfl ?_
      refine v_iload5 d_M_byRule_99 ?_
      refine v_iaload d_M_byRule_101 (sh_64 T) (by omega) (fun g101 => ?_)
      refine v_aload0 d_M_byRule_102 ?_
      refine v_getR d_M_byRule_103 f_M_38 (sh_55 T) rfl ?_
      refine v_iload5 d_M_byRule_106 ?_
      refine v_iaload d_M_byRule_108 (sh_65 T) (by omega) (fun g108 => ?_)
      refine v_isub d_M_byRule_109 ?_
      refine v_aload0 d_M_byRule_110 ?_
      refine v_getR d_M_byRule_111 f_M_35 (sh_55 T) rfl ?_
      refine v_iload4 d_M_byRule_114 ?_
      refine v_iaload d_M_byRule_116 (sh_64 T) (by omega) (fun g116 => ?_)
      refine v_aload0 d_M_byRule_117 ?_
      refine v_getR d_M_byRule_118 f_M_38 (sh_55 T) rfl ?_
      refine v_iload4 d_M_byRule_121 ?_
      refine v_iaload d_M_byRule_123 (sh_65 T) (by omega) (fun g123 => ?_)
      refine v_isub d_M_byRule_124 ?_
      refine v_icmp_le d_M_byRule_125 (by omega) (by omega) (fun u125 => ?_) (fun u125 => ?_)
      · refine v_iinc5 d_M_byRule_132 (by decide) rfl ?_
        refine v_goto d_M_byRule_135 ?_
        first
        | (exact ih (j + 1) _ _ (by omega) (by omega) (by rw [neF, ← hi, ← hw, if_neg (by omega)]) (by omega))
        | (exact ih (j + 1) _ _ (by omega) (by omega) (by rw [neF, ← hi, ← hw, if_pos (by omega)]) (by omega))
      · refine v_iload5 d_M_byRule_128 ?_
        refine v_istore4 d_M_byRule_130 (by decide) rfl ?_
        refine v_iinc5 d_M_byRule_132 (by decide) rfl ?_
        refine v_goto d_M_byRule_135 ?_
        first
        | (exact ih (j + 1) _ _ (by omega) (by omega) (by rw [neF, ← hi, ← hw, if_neg (by omega)]) (by omega))
        | (exact ih (j + 1) _ _ (by omega) (by omega) (by rw [neF, ← hi, ← hw, if_pos (by omega)]) (by omega))

theorem c_M_byRule_138 {T : vSh} {σ : vMem} {cx : vCx} {A : Int → Int} (hA : σ 56 = A) (hO : okA A) {set : Int} (h1 : dlP A set) {σ1 : vMem} (hσ : MF σ σ1) {j : Nat} (hj : (j : Int) < dL A) {dn m nx who : Int} (hR : RuM σ1 A set (ruR A set j) dn) (hnx : nx = grF A (ruR A set j).1 (dL A).toNat) (hwho : who = neF (ruR A set j).2 (dP A set).toNat) (hmj : m = j) (K : ∀ (dn m : Int) (σ2 : vMem), MF σ σ2 → RuM σ2 A set (ruR A set (j + 1)) dn → m = ((j + 1 : Nat) : Int) → vV cx y_M_byRule.cls prog_14_method_80_code 6 2 0 0 0 0 4 [some (.ref 55), some (.int (iI dn)), some (.int (iI m)), none, none, none] [] (S0 ++ T) σ2) : vV cx y_M_byRule.cls prog_14_method_80_code 6 2 0 0 0 0 138 [some (.ref 55), some (.int (iI (orI dn nx))), some (.int (iI m)), some (.int (iI nx)), some (.int (iI who)), none] [] (S0 ++ T) σ1 := by
  obtain ⟨⟨q0, q1, q2, q3, q4, q5, q6, q7⟩, hVi, hWe, hCo, hOf, hBo, hWo, hMo, hRe, hLi, hTa⟩ := id hO
  have hP := dP_rng hO h1
  have hL := dL_rng A
  have hA1 : σ1 56 = A := by rw [hσ 56 (by decide)]; exact hA
  obtain ⟨⟨r1, r2⟩, rP, rK, rd, rb⟩ := id hR
  have hok := ruR_ok hO (set := set) hP.1 j (by omega)
  have hg9 := gr_has hok (by omega)
  have hgo := grF_ok A (ruR A set j).1 (dL A).toNat hg9.1
  have hne := neF_rng (ruR A set j).2 (dP A set).toNat
  rw [← hnx] at hg9 hgo
  rw [← hwho] at hne
  have hpw := rP who (by omega) (by omega)
  have how := hok.2.2 who (by omega) (by omega)
  have hdw := dDue_rng hO set who
  have hkn := rK nx (by omega) (by omega)
  have hln := dLot_rng hO hg9
  have hpn := dPa_rng hO hg9
  have en : A (40 + 6 * σ1 62 nx + 0) = dPa A nx := by rw [hkn.1]
  have e0 : ruR A set (j + 1) = ruS A set (ruR A set j) := rfl
  refine v_iconst d_M_byRule_138 ?_
  refine v_aload0 d_M_byRule_139 ?_
  refine v_getR d_M_byRule_140 f_M_35 (sh_55 T) rfl ?_
  refine v_iload4 d_M_byRule_143 ?_
  refine v_iaload d_M_byRule_145 (sh_64 T) (by omega) (fun g145 => ?_)
  refine v_aload0 d_M_byRule_146 ?_
  refine v_getR d_M_byRule_147 f_M_38 (sh_55 T) rfl ?_
  refine v_iload4 d_M_byRule_150 ?_
  refine v_iaload d_M_byRule_152 (sh_65 T) (by omega) (fun g152 => ?_)
  refine v_isub d_M_byRule_153 ?_
  refine v_imul d_M_byRule_154 ?_
  refine v_aload0 d_M_byRule_155 ?_
  refine v_aload0 d_M_byRule_156 ?_
  refine v_getR d_M_byRule_157 f_M_29 (sh_55 T) rfl ?_
  refine v_iload3 d_M_byRule_160 ?_
  refine v_iaload d_M_byRule_161 (sh_62 T) (by omega) (fun g161 => ?_)
  refine v_iconst d_M_byRule_162 ?_
  refine v_fVI2 d_M_byRule_163 l_M_83 k_M_its (c_M_its hA1 (by omega)) (sh_55 T) rfl (by decide) (by decide) (Nat.le_of_ble_eq_true rfl) (Nat.zero_le _) (Nat.zero_le _) (fun g163 => ?_)
  refine v_icmp_ge d_M_byRule_166 (by omega) (by omega) (fun u166 => ?_) (fun u166 => ?_)
  · refine v_aload0 d_M_byRule_172 ?_
    refine v_getR d_M_byRule_173 f_M_38 (sh_55 T) rfl ?_
    refine v_iload4 d_M_byRule_176 ?_
    refine v_dup2 d_M_byRule_178 rfl rfl ?_
    refine v_iaload d_M_byRule_179 (sh_65 T) (by omega) (fun g179 => ?_)
    refine v_aload0 d_M_byRule_180 ?_
    refine v_aload0 d_M_byRule_181 ?_
    refine v_getR d_M_byRule_182 f_M_29 (sh_55 T) rfl ?_
    refine v_iload3 d_M_byRule_185 ?_
    refine v_iaload d_M_byRule_186 (sh_62 T) (by omega) (fun g186 => ?_)
    refine v_iconst d_M_byRule_187 ?_
    refine v_fVI2 d_M_byRule_188 l_M_83 k_M_its (c_M_its hA1 (by omega)) (sh_55 T) rfl (by decide) (by decide) (Nat.le_of_ble_eq_true rfl) (Nat.zero_le _) (Nat.zero_le _) (fun g188 => ?_)
    refine v_iadd d_M_byRule_191 ?_
    refine v_iastore d_M_byRule_192 (sh_65 T) (by omega) (by omega) ?_
    refine v_aload0 d_M_byRule_193 ?_
    refine v_getR d_M_byRule_194 f_M_44 (sh_55 T) rfl ?_
    refine v_iload3 d_M_byRule_197 ?_
    refine v_aload0 d_M_byRule_198 ?_
    refine v_getR d_M_byRule_199 f_M_32 (sh_55 T) rfl ?_
    refine v_iload4 d_M_byRule_202 ?_
    refine v_iaload d_M_byRule_204 (sh_63 T) (by omega) (fun g204 => ?_)
    refine v_iastore d_M_byRule_205 (sh_67 T) (by omega) (by omega) ?_
    refine v_iinc2 d_M_byRule_206 (by decide) rfl ?_
    refine v_goto d_M_byRule_209 ?_
    refine v_drop3 ?_
    refine v_drop4 ?_
    have e1 : ruR A set (j + 1) = (upF (ruR A set j).1 nx who, upF (ruR A set j).2 who ((ruR A set j).2 who - A (40 + 6 * σ1 62 nx + 0))) := by rw [e0, ruS, ← hnx, ← hwho, if_neg (by omega), en]
    exact K _ _ _ (hσ.trans' (fun k hk => by rw [vUp_ne (by omega), vUp_ne (by omega)])) (by rw [e1]; exact RuM_give hR hg9 (by omega) (by rw [vUp_ne (by decide)]; exact hpw.1)) (by omega)
  · refine v_goto d_M_byRule_169 ?_
    refine v_iinc2 d_M_byRule_206 (by decide) rfl ?_
    refine v_goto d_M_byRule_209 ?_
    refine v_drop3 ?_
    refine v_drop4 ?_
    have e1 : ruR A set (j + 1) = (upF (ruR A set j).1 nx (dP A set), (ruR A set j).2) := by rw [e0, ruS, ← hnx, ← hwho, if_pos (by omega)]
    exact K _ _ _ hσ (by rw [e1]; exact RuM_none hP hR hg9 hgo) (by omega)

theorem c_M_byRule_4 {T : vSh} {σ : vMem} {cx : vCx} {A : Int → Int} (hA : σ 56 = A) (hO : okA A) {set : Int} (h1 : dlP A set) (hM : vM cx 0 0 (some .int) (rP (S0 ++ T) (fun z σ2 => z = gapF A set (ruR A set (dL A).toNat).2 (dP A set).toNat ∧ MF σ σ2 ∧ DeM σ2 A set (ruR A set (dL A).toNat).1))) : ∀ (n j : Nat) (dn m : Int) (σ1 : vMem), (j : Int) + n = dL A → m = j → MF σ σ1 → RuM σ1 A set (ruR A set j) dn → vV cx y_M_byRule.cls prog_14_method_80_code 6 2 0 0 0 0 4 [some (.ref 55), some (.int (iI dn)), some (.int (iI m)), none, none, none] [] (S0 ++ T) σ1 := by
  intro n
  induction n with
  | zero =>
    intro j dn m σ1 hj hi hσ hR
    obtain ⟨⟨q0, q1, q2, q3, q4, q5, q6, q7⟩, hVi, hWe, hCo, hOf, hBo, hWo, hMo, hRe, hLi, hTa⟩ := id hO
    have hP := dP_rng hO h1
    have hL := dL_rng A
    have hA1 : σ1 56 = A := by rw [hσ 56 (by decide)]; exact hA
    obtain ⟨⟨r1, r2⟩, rP, rK, rd, rb⟩ := id hR
    have hok := ruR_ok hO (set := set) hP.1 j (by omega)
    refine v_iload2 d_M_byRule_4 ?_
    refine v_aload0 d_M_byRule_5 ?_
    refine v_getJ (ji := 21) d_M_byRule_6 f_M_279 (sh_55 T) rfl rfl (fun g6 => ?_)
    refine v_icmp_ge d_M_byRule_9 (by omega) (by omega) (fun u9 => ?_) (fun u9 => ?_)
    · refine v_aload0 d_M_byRule_212 ?_
      refine v_fVI0 d_M_byRule_213 l_M_282 k_M_gapNow (c_M_gapNow (σ := σ1) (P := dP A set) r2 (by omega) (fun i y1 y2 => by have a := rP i y1 y2; have b := hok.2.2 i y1 y2; rw [a.2.2, a.2.1, far_lk]; unfold vAb; split <;> omega) (fun i y1 y2 => by have a := rP i y1 y2; have b := hok.2.2 i y1 y2; have c := dDue_rng hO set i; omega)) (sh_55 T) rfl (by decide) (by decide) (Nat.le_of_ble_eq_true rfl) (Nat.zero_le _) (Nat.zero_le _) (fun g213 => ?_)
      have eg : sm (fun i => farI (σ1 65 i) (σ1 64 i)) (dP A set).toNat = gapF A set (ruR A set (dL A).toNat).2 (dP A set).toNat := sm_congr _ (fun i y1 y2 => by
        have a := rP i y1 (by omega)
        rw [a.2.2, a.2.1, far_lk, show (dL A).toNat = j by omega])
      rw [eg] at g213
      rw [eg]
      exact v_ireturn hM d_M_byRule_216 g213 ⟨rfl, rfl, hσ, r1, fun k k1 k2 => by rw [show (dL A).toNat = j by omega]; exact rK k k1 k2⟩
    · omega
  | succ n ih =>
    intro j dn m σ1 hj hi hσ hR
    obtain ⟨⟨q0, q1, q2, q3, q4, q5, q6, q7⟩, hVi, hWe, hCo, hOf, hBo, hWo, hMo, hRe, hLi, hTa⟩ := id hO
    have hP := dP_rng hO h1
    have hL := dL_rng A
    have hA1 : σ1 56 = A := by rw [hσ 56 (by decide)]; exact hA
    obtain ⟨⟨r1, r2⟩, rP, rK, rd, rb⟩ := id hR
    have hok := ruR_ok hO (set := set) hP.1 j (by omega)
    refine v_iload2 d_M_byRule_4 ?_
    refine v_aload0 d_M_byRule_5 ?_
    refine v_getJ (ji := 21) d_M_byRule_6 f_M_279 (sh_55 T) rfl rfl (fun g6 => ?_)
    refine v_icmp_ge d_M_byRule_9 (by omega) (by omega) (fun u9 => ?_) (fun u9 => ?_)
    · omega
    · refine v_iconst d_M_byRule_12 ?_
      refine v_istore3 d_M_byRule_13 (by decide) rfl ?_
      refine v_iconst d_M_byRule_14 ?_
      refine v_istore4 d_M_byRule_15 (by decide) rfl ?_
      exact c_M_byRule_17 hA1 hO h1 hR (fun nx hnx => by
        have hg9 := gr_has hok (by omega)
        rw [← hnx] at hg9
        refine v_iload1 d_M_byRule_74 ?_
        refine v_iconst d_M_byRule_75 ?_
        refine v_iload3 d_M_byRule_76 ?_
        refine v_ishl d_M_byRule_77 (bshl (by omega)) ?_
        refine v_ior d_M_byRule_78 (orI_eq (by omega) (by omega)) ?_
        refine v_istore1 d_M_byRule_79 (by decide) rfl ?_
        refine v_iconst d_M_byRule_80 ?_
        refine v_istore4 d_M_byRule_81 (by decide) rfl ?_
        refine v_iconst d_M_byRule_83 ?_
        refine v_istore5 d_M_byRule_84 (by decide) rfl ?_
        exact c_M_byRule_86 hA1 hO h1 r2 rP (fun i y1 y2 => by have b := hok.2.2 i y1 y2; omega) (fun who hwho => c_M_byRule_138 hA hO h1 hσ (by omega) hR hnx hwho hi (fun dn2 m2 σ2 z1 z2 z3 => ih (j + 1) _ _ _ (by omega) z3 z1 z2)) (dP A set - 1).toNat 1 _ _ (by omega) (by omega) (by rw [neF, if_neg (by show ¬ (ruR A set j).2 0 < (ruR A set j).2 ((0 : Nat) : Int); exact Int.lt_irrefl _)]; rfl) (by omega)) (dL A).toNat 0 _ _ (by omega) rfl rfl

theorem c_M_byRule {T : vSh} {σ : vMem} {A : Int → Int} (hA : σ 56 = A) (hO : okA A) {set : Int} (h1 : dlP A set) (hp : Pp σ A set (A 1).toNat) (hl : Lt σ A (A 0).toNat) : mt_M_byRule [.ref 55] (S0 ++ T) σ (rP (S0 ++ T) (fun z σ2 => z = gapF A set (ruR A set (dL A).toNat).2 (dP A set).toNat ∧ MF σ σ2 ∧ DeM σ2 A set (ruR A set (dL A).toNat).1)) := by
  refine vMet.intro 5 (by decide +kernel) (Nat.le_of_ble_eq_true rfl) rfl (fun cx hM _ => ?_)
  obtain ⟨⟨q0, q1, q2, q3, q4, q5, q6, q7⟩, hVi, hWe, hCo, hOf, hBo, hWo, hMo, hRe, hLi, hTa⟩ := id hO
  have hP := dP_rng hO h1
  have hL := dL_rng A
  refine v_iconst d_M_byRule_0 ?_
  refine v_istore1 d_M_byRule_1 (by decide) rfl ?_
  refine v_iconst d_M_byRule_2 ?_
  refine v_istore2 d_M_byRule_3 (by decide) rfl ?_
  exact c_M_byRule_4 hA hO h1 hM (dL A).toNat 0 _ _ _ (by omega) rfl MF.rfl' ⟨⟨hl.1, hp.1⟩, fun i i1 i2 => by
    have a := hp.2 i i1 i2
    refine ⟨a.1, a.2.1, ?_⟩
    show σ 65 i = dDue A set i - dDue A set i
    omega, fun k k1 k2 => by
    have a := hl.2 k k1 k2
    exact ⟨a.1, by rw [a.2]; exact (if_pos (Or.inl rfl)).symm⟩, by omega, fun k k1 k2 => by
    have e : b01 ((ruR A set 0).1 k ≠ -1) = 0 := (b01_0 (fun z => z rfl)).symm
    rw [e]
    unfold bt
    rw [Int.zero_ediv]
    rfl⟩

