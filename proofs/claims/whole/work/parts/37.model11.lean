def Pp (σ : vMem) (A : Int → Int) (set : Int) (n : Nat) : Prop := σ 55 22 = pcn set n ∧ ∀ i, 0 ≤ i → i < pcn set n → σ 63 i = ppl set n i ∧ σ 64 i = dueY A (ppl set n i) (A 4) (A 4) ∧ σ 65 i = 0
def Lt (σ : vMem) (A : Int → Int) (n : Nat) : Prop := σ 55 21 = ltN A n ∧ ∀ k, 0 ≤ k → k < ltN A n → σ 62 k = ltF A n k ∧ σ 67 k = 10
theorem Pp_off {σ σ' : vMem} {A : Int → Int} {set : Int} {n : Nat} (h : σ' 55 22 = σ 55 22) (h3 : σ' 63 = σ 63) (h4 : σ' 64 = σ 64) (h5 : σ' 65 = σ 65) (hp : Pp σ A set n) : Pp σ' A set n := by
  unfold Pp
  rw [h, h3, h4, h5]
  exact hp
theorem c_M_begins_121 {T : vSh} {σ : vMem} {cx : vCx} {A : Int → Int} (hA : σ 56 = A) (hO : okA A) {set : Int} (h0 : vIn set) (hM : vM cx 0 0 (some .boolean) (rP (S0 ++ T) (fun z σ2 => z = b01 (dlP A set) ∧ MF σ σ2 ∧ (dlP A set → Pp σ2 A set (A 1).toNat ∧ Lt σ2 A (A 0).toNat)))) (h1 : dlP A set) : ∀ (n j : Nat) (i : Int) (σ1 : vMem), (j : Int) + n = A 0 → i = j → MF σ σ1 → Pp σ1 A set (A 1).toNat → Lt σ1 A j → vV cx y_M_begins.cls prog_14_method_78_code 3 8 0 0 0 0 121 [some (.ref 55), some (.int (iI set)), some (.int (iI i))] [] (S0 ++ T) σ1 := by
  intro n
  induction n with
  | zero =>
    intro j i σ1 hj hi hσ hp hl
    obtain ⟨⟨q0, q1, q2, q3, q4, q5, q6, q7⟩, hVi, hWe, hCo, hOf, hBo, hWo, hMo, hRe, hLi, hTa⟩ := id hO
    have hA1 : σ1 56 = A := by rw [hσ 56 (by decide)]; exact hA
    have hlr := ltN_rng A j
    have hc := hl.1
    refine v_iload2 d_M_begins_121 ?_
    refine v_aload0 d_M_begins_122 ?_
    refine v_getR d_M_begins_123 f_M_7 (sh_55 T) rfl ?_
    refine v_iconst d_M_begins_126 ?_
    refine v_ialoadE hA1 d_M_begins_127 (sh_56 T) (by omega) (fun g127 => ?_)
    refine v_icmp_ge d_M_begins_128 (by omega) (by omega) (fun u128 => ?_) (fun u128 => ?_)
    · refine v_iconst d_M_begins_188 ?_
      exact v_zreturn hM d_M_begins_189 (Or.inr rfl) ⟨rfl, b01_1 h1, hσ, fun _ => ⟨hp, by rw [show (A 0).toNat = j by omega]; exact hl⟩⟩
    · omega
  | succ n ih =>
    intro j i σ1 hj hi hσ hp hl
    obtain ⟨⟨q0, q1, q2, q3, q4, q5, q6, q7⟩, hVi, hWe, hCo, hOf, hBo, hWo, hMo, hRe, hLi, hTa⟩ := id hO
    have hA1 : σ1 56 = A := by rw [hσ 56 (by decide)]; exact hA
    have hlr := ltN_rng A j
    have hc := hl.1
    refine v_iload2 d_M_begins_121 ?_
    refine v_aload0 d_M_begins_122 ?_
    refine v_getR d_M_begins_123 f_M_7 (sh_55 T) rfl ?_
    refine v_iconst d_M_begins_126 ?_
    refine v_ialoadE hA1 d_M_begins_127 (sh_56 T) (by omega) (fun g127 => ?_)
    refine v_icmp_ge d_M_begins_128 (by omega) (by omega) (fun u128 => ?_) (fun u128 => ?_)
    · omega
    · refine v_aload0 d_M_begins_131 ?_
      refine v_getJ (ji := 21) d_M_begins_132 f_M_279 (sh_55 T) rfl rfl (fun g132 => ?_)
      refine v_bipush d_M_begins_135 rfl ?_
      refine v_icmp_ge d_M_begins_137 (by omega) (by omega) (fun u137 => ?_) (fun u137 => ?_)
      · refine v_iconst d_M_begins_188 ?_
        exact v_zreturn hM d_M_begins_189 (Or.inr rfl) ⟨rfl, b01_1 h1, hσ, fun _ => ⟨hp, ⟨by rw [(lt_stop A (m := j) (by omega) (A 0).toNat (by omega)).1]; exact hc, by rw [(lt_stop A (m := j) (by omega) (A 0).toNat (by omega)).1, (lt_stop A (m := j) (by omega) (A 0).toNat (by omega)).2]; exact hl.2⟩⟩⟩
      · refine v_aload0 d_M_begins_140 ?_
        refine v_iload2 d_M_begins_141 ?_
        refine v_fVZ1 d_M_begins_142 l_M_261 k_M_isCrowns (c_M_isCrowns hA1 hO (by omega)) (sh_55 T) rfl (by decide) (by decide) (Nat.le_of_ble_eq_true rfl) (Nat.zero_le _) (Nat.zero_le _) (fun g142 => ?_)
        refine v_ifb_ne d_M_begins_145 (fun u145 => ?_) (fun u145 => ?_)
        · refine v_aload0 d_M_begins_151 ?_
          refine v_getR d_M_begins_152 f_M_29 (sh_55 T) rfl ?_
          refine v_aload0 d_M_begins_155 ?_
          refine v_getJ (ji := 21) d_M_begins_156 f_M_279 (sh_55 T) rfl rfl (fun g156 => ?_)
          refine v_iload2 d_M_begins_159 ?_
          rw [hc]
          refine v_iastore d_M_begins_160 (sh_62 T) (by omega) (by omega) ?_
          refine v_aload0 d_M_begins_161 ?_
          refine v_getR d_M_begins_162 f_M_44 (sh_55 T) rfl ?_
          refine v_aload0 d_M_begins_165 ?_
          refine v_getJ (ji := 21) d_M_begins_166 f_M_279 (sh_55 T) rfl rfl (fun g166 => ?_)
          have r156 : vUp σ1 62 (ltN A j) i 55 21 = ltN A j := by rw [vUp_ne (by decide)]; exact hc
          rw [r156]
          refine v_bipush d_M_begins_169 rfl ?_
          refine v_iastore d_M_begins_171 (sh_67 T) (by omega) (by omega) ?_
          refine v_aload0 d_M_begins_172 ?_
          refine v_dup d_M_begins_173 rfl ?_
          refine v_getJ (ji := 21) d_M_begins_174 f_M_279 (sh_55 T) rfl rfl (fun g174 => ?_)
          have r174 : vUp (vUp σ1 62 (ltN A j) i) 67 (ltN A j) 10 55 21 = ltN A j := by rw [vUp_ne (by decide), vUp_ne (by decide)]; exact hc
          rw [r174]
          refine v_iconst d_M_begins_177 ?_
          refine v_iadd d_M_begins_178 ?_
          refine v_putJ (ji := 21) d_M_begins_179 p_M_279 (sh_55 T) rfl rfl (by omega) ?_
          refine v_iinc2 d_M_begins_182 (by decide) rfl ?_
          refine v_goto d_M_begins_185 ?_
          have e1 : ltN A (j + 1) = ltN A j + 1 := by rw [ltN, if_pos ⟨by omega, by rw [← hi]; exact u145⟩]
          have e2 : ltF A (j + 1) = upF (ltF A j) (ltN A j) i := by rw [ltF, if_pos ⟨by omega, by rw [← hi]; exact u145⟩, hi]
          refine ih (j + 1) _ _ (by omega) (by omega) (hσ.trans' (fun k hk => by rw [vUp_ne (by omega), vUp_ne (by omega), vUp_ne (by omega)])) (Pp_off (by simp [vUp]) (by rw [vUp_ne (by decide), vUp_ne (by decide), vUp_ne (by decide)]) (by rw [vUp_ne (by decide), vUp_ne (by decide), vUp_ne (by decide)]) (by rw [vUp_ne (by decide), vUp_ne (by decide), vUp_ne (by decide)]) hp) ⟨by rw [vUp_same, e1], fun k k1 k2 => ?_⟩
          rw [e1] at k2
          rw [e2]
          by_cases q : k = ltN A j
          · rw [q, upF_s]; exact ⟨by simp [vUp], by simp [vUp]⟩
          · rw [upF_n q]
            have := hl.2 k k1 (by omega)
            refine ⟨?_, ?_⟩
            · rw [vUp_ne (by decide), vUp_ne (by decide), vUp_ix q]; exact this.1
            · rw [vUp_ne (by decide), vUp_ix q, vUp_ne (by decide)]; exact this.2
        · refine v_goto d_M_begins_148 ?_
          refine v_iinc2 d_M_begins_182 (by decide) rfl ?_
          refine v_goto d_M_begins_185 ?_
          have e1 : ltN A (j + 1) = ltN A j := by rw [ltN, if_neg (fun z => u145 (by rw [hi]; exact z.2))]
          have e2 : ltF A (j + 1) = ltF A j := by rw [ltF, if_neg (fun z => u145 (by rw [hi]; exact z.2))]
          exact ih (j + 1) _ _ (by omega) (by omega) hσ hp ⟨by rw [e1]; exact hc, by rw [e1, e2]; exact hl.2⟩

theorem c_M_begins_25 {T : vSh} {σ : vMem} {cx : vCx} {A : Int → Int} (hA : σ 56 = A) (hO : okA A) {set : Int} (h0 : vIn set) (hM : vM cx 0 0 (some .boolean) (rP (S0 ++ T) (fun z σ2 => z = b01 (dlP A set) ∧ MF σ σ2 ∧ (dlP A set → Pp σ2 A set (A 1).toNat ∧ Lt σ2 A (A 0).toNat)))) (h1 : 0 < set ∧ set < pw (A 1)) : ∀ (n j : Nat) (i : Int) (σ1 : vMem), (j : Int) + n = A 1 → i = j → MF σ σ1 → okN A set j = 1 → Pp σ1 A set j → vV cx y_M_begins.cls prog_14_method_78_code 3 8 0 0 0 0 25 [some (.ref 55), some (.int (iI set)), some (.int (iI i))] [] (S0 ++ T) σ1 := by
  intro n
  induction n with
  | zero =>
    intro j i σ1 hj hi hσ hk hp
    obtain ⟨⟨q0, q1, q2, q3, q4, q5, q6, q7⟩, hVi, hWe, hCo, hOf, hBo, hWo, hMo, hRe, hLi, hTa⟩ := id hO
    have hA1 : σ1 56 = A := by rw [hσ 56 (by decide)]; exact hA
    have hcr := pcn_rng set j
    have hc := hp.1
    have hk3 := ((okN_iff A set j).mp hk).2
    refine v_iload2 d_M_begins_25 ?_
    refine v_aload0 d_M_begins_26 ?_
    refine v_getR d_M_begins_27 f_M_7 (sh_55 T) rfl ?_
    refine v_iconst d_M_begins_30 ?_
    refine v_ialoadE hA1 d_M_begins_31 (sh_56 T) (by omega) (fun g31 => ?_)
    refine v_icmp_ge d_M_begins_32 (by omega) (by omega) (fun u32 => ?_) (fun u32 => ?_)
    · refine v_aload0 d_M_begins_114 ?_
      refine v_iconst d_M_begins_115 ?_
      refine v_putJ (ji := 21) d_M_begins_116 p_M_279 (sh_55 T) rfl rfl (by omega) ?_
      refine v_iconst d_M_begins_119 ?_
      refine v_istore2 d_M_begins_120 (by decide) rfl ?_
      exact c_M_begins_121 hA hO h0 hM ⟨h1, by rw [show (A 1).toNat = j by omega]; exact hk⟩ (A 0).toNat 0 _ _ (by omega) rfl (hσ.trans' (MF_up (by omega))) (by rw [show (A 1).toNat = j by omega]; exact Pp_off (by simp [vUp]) (by rw [vUp_ne (by decide)]) (by rw [vUp_ne (by decide)]) (by rw [vUp_ne (by decide)]) hp) ⟨by rw [vUp_same]; rfl, fun k k1 k2 => by simp [ltN] at k2; omega⟩
    · omega
  | succ n ih =>
    intro j i σ1 hj hi hσ hk hp
    obtain ⟨⟨q0, q1, q2, q3, q4, q5, q6, q7⟩, hVi, hWe, hCo, hOf, hBo, hWo, hMo, hRe, hLi, hTa⟩ := id hO
    have hA1 : σ1 56 = A := by rw [hσ 56 (by decide)]; exact hA
    have hcr := pcn_rng set j
    have hc := hp.1
    have hk3 := ((okN_iff A set j).mp hk).2
    refine v_iload2 d_M_begins_25 ?_
    refine v_aload0 d_M_begins_26 ?_
    refine v_getR d_M_begins_27 f_M_7 (sh_55 T) rfl ?_
    refine v_iconst d_M_begins_30 ?_
    refine v_ialoadE hA1 d_M_begins_31 (sh_56 T) (by omega) (fun g31 => ?_)
    refine v_icmp_ge d_M_begins_32 (by omega) (by omega) (fun u32 => ?_) (fun u32 => ?_)
    · omega
    · refine v_iload1 d_M_begins_35 ?_
      refine v_iload2 d_M_begins_36 ?_
      refine v_ishr d_M_begins_37 (bshr h0 (by omega)) ?_
      refine v_iconst d_M_begins_38 ?_
      refine v_iand d_M_begins_39 (band1 _) ?_
      refine v_if_ne d_M_begins_40 (by omega) (fun u40 => ?_) (fun u40 => ?_)
      · refine v_aload0 d_M_begins_46 ?_
        refine v_getJ (ji := 22) d_M_begins_47 f_M_276 (sh_55 T) rfl rfl (fun g47 => ?_)
        refine v_iconst d_M_begins_50 ?_
        refine v_icmp_eq d_M_begins_51 (by omega) (by omega) (fun u51 => ?_) (fun u51 => ?_)
        · refine v_iconst d_M_begins_62 ?_
          have e9 : okN A set (j + 1) = 0 := by rw [okN, if_neg (by omega), if_neg (by rw [← hi]; exact u40)]; exact (b01_0 (by rw [← hi]; omega)).symm
          exact v_zreturn hM d_M_begins_63 (Or.inl rfl) ⟨rfl, b01_0 (fun z => by have := okN_stop A set e9 (A 1).toNat (by omega); have := z.2; omega), hσ, fun z => by have := okN_stop A set e9 (A 1).toNat (by omega); have := z.2; omega⟩
        · refine v_aload0 d_M_begins_54 ?_
          refine v_iload2 d_M_begins_55 ?_
          refine v_fVZ1 d_M_begins_56 l_M_258 k_M_servesNow (c_M_servesNow hA1 hO (by omega)) (sh_55 T) rfl (by decide) (by decide) (Nat.le_of_ble_eq_true rfl) (Nat.zero_le _) (Nat.zero_le _) (fun g56 => ?_)
          refine v_ifb_ne d_M_begins_59 (fun u59 => ?_) (fun u59 => ?_)
          · refine v_aload0 d_M_begins_64 ?_
            refine v_getR d_M_begins_65 f_M_32 (sh_55 T) rfl ?_
            refine v_aload0 d_M_begins_68 ?_
            refine v_getJ (ji := 22) d_M_begins_69 f_M_276 (sh_55 T) rfl rfl (fun g69 => ?_)
            refine v_iload2 d_M_begins_72 ?_
            rw [hc]
            refine v_iastore d_M_begins_73 (sh_63 T) (by omega) (by omega) ?_
            refine v_aload0 d_M_begins_74 ?_
            refine v_getR d_M_begins_75 f_M_35 (sh_55 T) rfl ?_
            refine v_aload0 d_M_begins_78 ?_
            refine v_getJ (ji := 22) d_M_begins_79 f_M_276 (sh_55 T) rfl rfl (fun g79 => ?_)
            have r79 : vUp σ1 63 (pcn set j) i 55 22 = pcn set j := by rw [vUp_ne (by decide)]; exact hc
            rw [r79]
            have hA82 : vUp σ1 63 (pcn set j) i 56 = A := by rw [vUp_ne (by decide)]; exact hA1
            refine v_aload0 d_M_begins_82 ?_
            refine v_iload2 d_M_begins_83 ?_
            refine v_gVI1 d_M_begins_84 l_M_267 k_M_dueNow (c_M_dueNow hA82 hO (by omega)) (sh_55 T) rfl (by decide) (by decide) (Nat.le_of_ble_eq_true rfl) (Nat.zero_le _) (Nat.zero_le _) (fun z84 s84 g84 e84 => ?_)
            obtain ⟨rfl, -⟩ := id e84
            have hdr := dueY_rng hO i (A 4) (A 4)
            have r84 : s84 55 22 = pcn set j := by rw [e84.2 55 (by decide), vUp_ne (by decide)]; exact hc
            refine v_iastore d_M_begins_87 (sh_64 T) (by omega) (by omega) ?_
            refine v_aload0 d_M_begins_88 ?_
            refine v_getR d_M_begins_89 f_M_38 (sh_55 T) rfl ?_
            refine v_aload0 d_M_begins_92 ?_
            refine v_getJ (ji := 22) d_M_begins_93 f_M_276 (sh_55 T) rfl rfl (fun g93 => ?_)
            have r93 : vUp s84 64 (pcn set j) (dueY A i (A 4) (A 4)) 55 22 = pcn set j := by rw [vUp_ne (by decide)]; exact r84
            rw [r93]
            refine v_iconst d_M_begins_96 ?_
            refine v_iastore d_M_begins_97 (sh_65 T) (by omega) (by omega) ?_
            refine v_aload0 d_M_begins_98 ?_
            refine v_dup d_M_begins_99 rfl ?_
            refine v_getJ (ji := 22) d_M_begins_100 f_M_276 (sh_55 T) rfl rfl (fun g100 => ?_)
            have r100 : vUp (vUp s84 64 (pcn set j) (dueY A i (A 4) (A 4))) 65 (pcn set j) 0 55 22 = pcn set j := by rw [vUp_ne (by decide), vUp_ne (by decide)]; exact r84
            rw [r100]
            refine v_iconst d_M_begins_103 ?_
            refine v_iadd d_M_begins_104 ?_
            refine v_putJ (ji := 22) d_M_begins_105 p_M_276 (sh_55 T) rfl rfl (by omega) ?_
            refine v_iinc2 d_M_begins_108 (by decide) rfl ?_
            refine v_goto d_M_begins_111 ?_
            have hb1 : bt set (j : Int) = 1 := by have := bt_rng set (j : Int); rw [hi] at u40; unfold bt at this ⊢; omega
            have e1 : pcn set (j + 1) = pcn set j + 1 := by rw [pcn_succ, hb1]
            have e2 : ppl set (j + 1) = upF (ppl set j) (pcn set j) i := by rw [ppl, if_pos hb1, hi]
            refine ih (j + 1) _ _ (by omega) (by omega) (fun k hk => by rw [vUp_ne (by omega), vUp_ne (by omega), vUp_ne (by omega), e84.2 k (by omega), vUp_ne (by omega)]; exact hσ k hk) (by rw [okN, if_neg (by omega), if_neg (by omega)]; exact (b01_1 ⟨by omega, by rw [← hi]; exact u59.2⟩).symm) ⟨by rw [vUp_same, e1], fun k k1 k2 => ?_⟩
            rw [e1] at k2
            rw [e2]
            by_cases q : k = pcn set j
            · rw [q, upF_s]
              refine ⟨?_, ?_, ?_⟩
              · rw [vUp_ne (by decide), vUp_ne (by decide), vUp_ne (by decide), e84.2 63 (by decide), vUp_same]
              · rw [vUp_ne (by decide), vUp_ne (by decide), vUp_same]
              · rw [vUp_ne (by decide), vUp_same]
            · rw [upF_n q]
              have := hp.2 k k1 (by omega)
              refine ⟨?_, ?_, ?_⟩
              · rw [vUp_ne (by decide), vUp_ne (by decide), vUp_ne (by decide), e84.2 63 (by decide), vUp_ix q]; exact this.1
              · rw [vUp_ne (by decide), vUp_ne (by decide), vUp_ix q, e84.2 64 (by decide), vUp_ne (by decide)]; exact this.2.1
              · rw [vUp_ne (by decide), vUp_ix q, vUp_ne (by decide), e84.2 65 (by decide), vUp_ne (by decide)]; exact this.2.2
          · refine v_iconst d_M_begins_62 ?_
            have e9 : okN A set (j + 1) = 0 := by rw [okN, if_neg (by omega), if_neg (by rw [← hi]; exact u40)]; exact (b01_0 (by rw [← hi]; omega)).symm
            exact v_zreturn hM d_M_begins_63 (Or.inl rfl) ⟨rfl, b01_0 (fun z => by have := okN_stop A set e9 (A 1).toNat (by omega); have := z.2; omega), hσ, fun z => by have := okN_stop A set e9 (A 1).toNat (by omega); have := z.2; omega⟩
      · refine v_goto d_M_begins_43 ?_
        refine v_iinc2 d_M_begins_108 (by decide) rfl ?_
        refine v_goto d_M_begins_111 ?_
        have hb0 : bt set (j : Int) = 0 := by rw [← hi]; exact u40
        have e1 : pcn set (j + 1) = pcn set j := by rw [pcn_succ, hb0]; omega
        have e2 : ppl set (j + 1) = ppl set j := by rw [ppl, if_neg (by omega)]
        exact ih (j + 1) _ _ (by omega) (by omega) hσ (by rw [okN, if_neg (by omega), if_pos hb0]) ⟨by rw [e1]; exact hc, by rw [e1, e2]; exact hp.2⟩

theorem c_M_begins {T : vSh} {σ : vMem} {A : Int → Int} (hA : σ 56 = A) (hO : okA A) {set : Int} (h0 : vIn set) : mt_M_begins [.ref 55, .int (iI set)] (S0 ++ T) σ (rP (S0 ++ T) (fun z σ2 => z = b01 (dlP A set) ∧ MF σ σ2 ∧ (dlP A set → Pp σ2 A set (A 1).toNat ∧ Lt σ2 A (A 0).toNat))) := by
  refine vMet.intro 1 (by decide +kernel) (Nat.le_of_ble_eq_true rfl) rfl (fun cx hM _ => ?_)
  obtain ⟨⟨q0, q1, q2, q3, q4, q5, q6, q7⟩, hVi, hWe, hCo, hOf, hBo, hWo, hMo, hRe, hLi, hTa⟩ := id hO
  refine v_aload0 d_M_begins_0 ?_
  refine v_iconst d_M_begins_1 ?_
  refine v_putJ (ji := 22) d_M_begins_2 p_M_276 (sh_55 T) rfl rfl (by omega) ?_
  have hA1 : vUp σ 55 22 0 56 = A := by rw [vUp_ne (by decide)]; exact hA
  have hpw := pw12 (v := A 1) (by omega)
  refine v_iload1 d_M_begins_5 ?_
  refine v_if_le d_M_begins_6 (by omega) (fun u6 => ?_) (fun u6 => ?_)
  · refine v_iconst d_M_begins_21 ?_
    exact v_zreturn hM d_M_begins_22 (Or.inl rfl) ⟨rfl, b01_0 (fun z => by have := z.1; omega), MF_up (by omega), fun z => by have := z.1; omega⟩
  · refine v_iload1 d_M_begins_9 ?_
    refine v_iconst d_M_begins_10 ?_
    refine v_aload0 d_M_begins_11 ?_
    refine v_getR d_M_begins_12 f_M_7 (sh_55 T) rfl ?_
    refine v_iconst d_M_begins_15 ?_
    refine v_ialoadE hA1 d_M_begins_16 (sh_56 T) (by omega) (fun g16 => ?_)
    refine v_ishl d_M_begins_17 (bshl (by omega)) ?_
    refine v_icmp_lt d_M_begins_18 (by omega) (by omega) (fun u18 => ?_) (fun u18 => ?_)
    · refine v_iconst d_M_begins_23 ?_
      refine v_istore2 d_M_begins_24 (by decide) rfl ?_
      exact c_M_begins_25 hA hO h0 hM (by omega) (A 1).toNat 0 _ _ (by omega) rfl (MF_up (by omega)) rfl ⟨by rw [vUp_same]; rfl, fun i i1 i2 => by simp [pcn, sm] at i2; omega⟩
    · refine v_iconst d_M_begins_21 ?_
      exact v_zreturn hM d_M_begins_22 (Or.inl rfl) ⟨rfl, b01_0 (fun z => by have := z.1; omega), MF_up (by omega), fun z => by have := z.1; omega⟩

theorem c_M_gapNow_4 {T : vSh} {σ : vMem} {cx : vCx} {P : Int} (hP : σ 55 22 = P) (h0 : 0 ≤ P ∧ P ≤ 3) (h1 : ∀ i, 0 ≤ i → i < P → 0 ≤ farI (σ 65 i) (σ 64 i) ∧ farI (σ 65 i) (σ 64 i) ≤ 1000000) (h2 : ∀ i, 0 ≤ i → i < P → (-1000000 ≤ σ 65 i ∧ σ 65 i ≤ 1000000) ∧ (-1000000 ≤ σ 64 i ∧ σ 64 i ≤ 1000000)) (hM : vM cx 0 0 (some .int) (rF (S0 ++ T) σ (sm (fun i => farI (σ 65 i) (σ 64 i)) P.toNat))) : ∀ (n j : Nat) (sum i : Int), (j : Int) + n = P → i = j → sum = sm (fun i => farI (σ 65 i) (σ 64 i)) j → vV cx y_M_gapNow.cls prog_14_method_79_code 3 1 0 0 0 0 4 [some (.ref 55), some (.int (iI sum)), some (.int (iI i))] [] (S0 ++ T) σ := by
  intro n
  induction n with
  | zero =>
    intro j sum i hj hi hs
    have hsr := sm_rng (f := fun i => farI (σ 65 i) (σ 64 i)) (m := 1000000) j (fun i y1 y2 => h1 i y1 (by omega))
    refine v_iload2 d_M_gapNow_4 ?_
    refine v_aload0 d_M_gapNow_5 ?_
    refine v_getJ (ji := 22) d_M_gapNow_6 f_M_276 (sh_55 T) rfl rfl (fun g6 => ?_)
    refine v_icmp_ge d_M_gapNow_9 (by omega) (by omega) (fun u9 => ?_) (fun u9 => ?_)
    · refine v_iload1 d_M_gapNow_36 ?_
      exact v_ireturn hM d_M_gapNow_37 (by omega) ⟨rfl, rfl, by rw [hs]; congr 1; omega⟩
    · omega
  | succ n ih =>
    intro j sum i hj hi hs
    have hsr := sm_rng (f := fun i => farI (σ 65 i) (σ 64 i)) (m := 1000000) j (fun i y1 y2 => h1 i y1 (by omega))
    have h1i := h1 i (by omega) (by omega)
    have h2i := h2 i (by omega) (by omega)
    refine v_iload2 d_M_gapNow_4 ?_
    refine v_aload0 d_M_gapNow_5 ?_
    refine v_getJ (ji := 22) d_M_gapNow_6 f_M_276 (sh_55 T) rfl rfl (fun g6 => ?_)
    refine v_icmp_ge d_M_gapNow_9 (by omega) (by omega) (fun u9 => ?_) (fun u9 => ?_)
    · omega
    · refine v_iload1 d_M_gapNow_12 ?_
      refine v_aload0 d_M_gapNow_13 ?_
      refine v_getR d_M_gapNow_14 f_M_38 (sh_55 T) rfl ?_
      refine v_iload2 d_M_gapNow_17 ?_
      refine v_iaload d_M_gapNow_18 (sh_65 T) (by omega) (fun g18 => ?_)
      refine v_aload0 d_M_gapNow_19 ?_
      refine v_getR d_M_gapNow_20 f_M_35 (sh_55 T) rfl ?_
      refine v_iload2 d_M_gapNow_23 ?_
      refine v_iaload d_M_gapNow_24 (sh_64 T) (by omega) (fun g24 => ?_)
      refine v_fSI2 d_M_gapNow_25 l_M_255 k_M_far (c_M_farI (by omega) (by omega) (by omega) (by omega)) (by decide) (by decide) (Nat.le_of_ble_eq_true rfl) (Nat.zero_le _) (Nat.zero_le _) (fun g25 => ?_)
      refine v_iadd d_M_gapNow_28 ?_
      refine v_istore1 d_M_gapNow_29 (by decide) rfl ?_
      refine v_iinc2 d_M_gapNow_30 (by decide) rfl ?_
      refine v_goto d_M_gapNow_33 ?_
      exact ih (j + 1) _ _ (by omega) (by omega) (by rw [hs, sm, ← hi])

theorem c_M_gapNow {T : vSh} {σ : vMem} {P : Int} (hP : σ 55 22 = P) (h0 : 0 ≤ P ∧ P ≤ 3) (h1 : ∀ i, 0 ≤ i → i < P → 0 ≤ farI (σ 65 i) (σ 64 i) ∧ farI (σ 65 i) (σ 64 i) ≤ 1000000) (h2 : ∀ i, 0 ≤ i → i < P → (-1000000 ≤ σ 65 i ∧ σ 65 i ≤ 1000000) ∧ (-1000000 ≤ σ 64 i ∧ σ 64 i ≤ 1000000)) : mt_M_gapNow [.ref 55] (S0 ++ T) σ (rF (S0 ++ T) σ (sm (fun i => farI (σ 65 i) (σ 64 i)) P.toNat)) := by
  refine vMet.intro 2 (by decide +kernel) (Nat.le_of_ble_eq_true rfl) rfl (fun cx hM _ => ?_)
  refine v_iconst d_M_gapNow_0 ?_
  refine v_istore1 d_M_gapNow_1 (by decide) rfl ?_
  refine v_iconst d_M_gapNow_2 ?_
  refine v_istore2 d_M_gapNow_3 (by decide) rfl ?_
  exact c_M_gapNow_4 hP h0 h1 h2 hM P.toNat 0 _ _ (by omega) rfl rfl

