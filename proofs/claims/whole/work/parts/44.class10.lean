theorem c_De_gatherPeople_18 {T : vSh} {σ : vMem} {cx : vCx} {A : Int → Int} (hC : CR σ A) (hO : okA A) {set : Int} (h0 : vIn set) (h1 : dlP A set) (hM : vM cx 0 0 none (rP (S0 ++ T) (fun _ σ2 => CF σ σ2 ∧ PpC σ2 A set (A 1).toNat))) {td : Int} (htd : td = A 4) : ∀ (n j : Nat) (i : Int) (σ1 : vMem), (j : Int) + n = 10 → i = j → CF σ σ1 → PpC σ1 A set j → vV cx y_De_gatherPeople.cls prog_4_method_6_code 4 4 0 0 0 0 18 [some (.ref 49), some (.int (iI set)), some (.int (iI td)), some (.int (iI i))] [] (S0 ++ T) σ1 := by
  intro n
  induction n with
  | zero =>
    intro j i σ1 hj hi hσ hp
    obtain ⟨⟨q0, q1, q2, q3, q4, q5, q6, q7⟩, hVi, hWe, hCo, hOf, hBo, hWo, hMo, hRe, hLi, hTa⟩ := id hO
    have hP := dP_rng hO h1
    have hL := dL_rng A
    have hC1 := hσ.cr hC
    obtain ⟨⟨l0, l1, lV, lC, lZ, lS⟩, ⟨b0, b1, bO, bB⟩, ⟨w0, wR, wL⟩, ⟨t0, t1, t2, tR, tB⟩, ⟨n9, nW⟩, m0, mM⟩ := id hC1
    have hcr := pcn_rng set j
    have hc := hp.1
    have htn := pcn_ten hO h1
    have hmo := pcn_mono set (m := j) 10 (by omega)
    refine v_iload3 d_De_gatherPeople_18 ?_
    refine v_bipush d_De_gatherPeople_19 rfl ?_
    refine v_icmp_ge d_De_gatherPeople_21 (by omega) (by omega) (fun u21 => ?_) (fun u21 => ?_)
    · have eL : pcn set 10 = pcn set j := by rw [show j = 10 by omega]
      have eP : ppl set (A 1).toNat = ppl set j := by rw [← htn.2]; exact ppl_same set 10 (by omega) eL
      exact v_return hM d_De_gatherPeople_92 ⟨rfl, hσ, by show σ1 49 4 = dP A set; omega, fun i i1 i2 => by rw [eP]; exact hp.2 i i1 (by have e : pcn set (A 1).toNat = pcn set 10 := htn.1.symm; omega)⟩
    · omega
  | succ n ih =>
    intro j i σ1 hj hi hσ hp
    obtain ⟨⟨q0, q1, q2, q3, q4, q5, q6, q7⟩, hVi, hWe, hCo, hOf, hBo, hWo, hMo, hRe, hLi, hTa⟩ := id hO
    have hP := dP_rng hO h1
    have hL := dL_rng A
    have hC1 := hσ.cr hC
    obtain ⟨⟨l0, l1, lV, lC, lZ, lS⟩, ⟨b0, b1, bO, bB⟩, ⟨w0, wR, wL⟩, ⟨t0, t1, t2, tR, tB⟩, ⟨n9, nW⟩, m0, mM⟩ := id hC1
    have hcr := pcn_rng set j
    have hc := hp.1
    have htn := pcn_ten hO h1
    have hmo := pcn_mono set (m := j) 10 (by omega)
    refine v_iload3 d_De_gatherPeople_18 ?_
    refine v_bipush d_De_gatherPeople_19 rfl ?_
    refine v_icmp_ge d_De_gatherPeople_21 (by omega) (by omega) (fun u21 => ?_) (fun u21 => ?_)
    · omega
    · refine v_aload0 d_De_gatherPeople_24 ?_
      refine v_getJ (ji := 4) d_De_gatherPeople_25 f_De_114 (sh_49 T) rfl rfl (fun g25 => ?_)
      refine v_iconst d_De_gatherPeople_28 ?_
      refine v_icmp_ge d_De_gatherPeople_29 (by omega) (by omega) (fun u29 => ?_) (fun u29 => ?_)
      · have eL : pcn set 10 = pcn set j := by omega
        have eP : ppl set (A 1).toNat = ppl set j := by rw [← htn.2]; exact ppl_same set 10 (by omega) eL
        exact v_return hM d_De_gatherPeople_92 ⟨rfl, hσ, by show σ1 49 4 = dP A set; omega, fun i i1 i2 => by rw [eP]; exact hp.2 i i1 (by have e : pcn set (A 1).toNat = pcn set 10 := htn.1.symm; omega)⟩
      · refine v_iload1 d_De_gatherPeople_32 ?_
        refine v_iload3 d_De_gatherPeople_33 ?_
        refine v_ishr d_De_gatherPeople_34 (bshr h0 (by omega)) ?_
        refine v_iconst d_De_gatherPeople_35 ?_
        refine v_iand d_De_gatherPeople_36 (band1 _) ?_
        refine v_if_eq d_De_gatherPeople_37 (by omega) (fun u37 => ?_) (fun u37 => ?_)
        · refine v_iinc3 d_De_gatherPeople_86 (by decide) rfl ?_
          refine v_goto d_De_gatherPeople_89 ?_
          have hb0 : bt set (j : Int) = 0 := by rw [← hi]; exact u37
          have e1 : pcn set (j + 1) = pcn set j := by rw [pcn_succ, hb0]; omega
          have e2 : ppl set (j + 1) = ppl set j := by rw [ppl, if_neg (by omega)]
          exact ih (j + 1) _ _ (by omega) (by omega) hσ ⟨by rw [e1]; exact hc, by rw [e1, e2]; exact hp.2⟩
        · have hb9 : bt set i = 1 := by have := bt_rng set i; unfold bt at this ⊢; omega
          have hi1 : i < A 1 := by_contra9 (fun w => by have := bt_hi (o := i) (n := A 1) (set := set) (by have := h1.1; omega) h1.1.2 (by omega) (by omega); omega)
          have hsv := ((okN_iff A set (A 1).toNat).mp h1.2).1 i (by omega) (by omega) hb9
          have hof := hOf i (by omega) (by omega)
          refine v_aload0 d_De_gatherPeople_40 ?_
          refine v_getR d_De_gatherPeople_41 f_De_31 (sh_49 T) rfl ?_
          refine v_iload3 d_De_gatherPeople_44 ?_
          refine v_iload2 d_De_gatherPeople_45 ?_
          refine v_iload2 d_De_gatherPeople_46 ?_
          refine v_gVV3 d_De_gatherPeople_47 l_De_47 k_Sc_reckon (c_Sc_reckon hC1 hO (by omega) (by omega) (by omega) (by omega)) (sh_46 T) rfl (by decide) (by decide) (Nat.le_of_ble_eq_true rfl) (Nat.zero_le _) (Nat.zero_le _) (fun z47 s47 e47 => ?_)
          have r55 : s47 49 4 = pcn set j := by rw [e47.1 49 (by decide)]; exact hc
          have hs9 := scF_rng hO i td td
          have hd9 : dueY A i td td = ((scF A i td td).1 * (scF A i td td).2.1 / 12) := rfl
          have hd8 := dueY_rng hO i td td
          refine v_aload0 d_De_gatherPeople_50 ?_
          refine v_getR d_De_gatherPeople_51 f_De_9 (sh_49 T) rfl ?_
          refine v_aload0 d_De_gatherPeople_54 ?_
          refine v_getJ (ji := 4) d_De_gatherPeople_55 f_De_114 (sh_49 T) rfl rfl (fun g55 => ?_)
          rw [r55]
          refine v_iload3 d_De_gatherPeople_58 ?_
          refine v_iastore d_De_gatherPeople_59 (sh_50 T) (by omega) (by omega) ?_
          refine v_aload0 d_De_gatherPeople_60 ?_
          refine v_getR d_De_gatherPeople_61 f_De_15 (sh_49 T) rfl ?_
          refine v_aload0 d_De_gatherPeople_64 ?_
          refine v_getJ (ji := 4) d_De_gatherPeople_65 f_De_114 (sh_49 T) rfl rfl (fun g65 => ?_)
          have r65 : vUp s47 50 (pcn set j) i 49 4 = pcn set j := by rw [vUp_ne (by decide)]; exact r55
          rw [r65]
          refine v_aload0 d_De_gatherPeople_68 ?_
          refine v_getR d_De_gatherPeople_69 f_De_31 (sh_49 T) rfl ?_
          refine v_fVI0 d_De_gatherPeople_72 l_De_53 k_Sc_yearly (c_Sc_yearly (p := scF A i td td) (by unfold scC; rw [vUp_ne (by decide)]; exact e47.2) (by omega)) (sh_46 T) rfl (by decide) (by decide) (Nat.le_of_ble_eq_true rfl) (Nat.zero_le _) (Nat.zero_le _) (fun g72 => ?_)
          refine v_iastore d_De_gatherPeople_75 (sh_51 T) (by omega) (by omega) ?_
          refine v_aload0 d_De_gatherPeople_76 ?_
          refine v_dup d_De_gatherPeople_77 rfl ?_
          refine v_getJ (ji := 4) d_De_gatherPeople_78 f_De_114 (sh_49 T) rfl rfl (fun g78 => ?_)
          have r78 : vUp (vUp s47 50 (pcn set j) i) 51 (pcn set j) ((scF A i td td).1 * (scF A i td td).2.1 / 12) 49 4 = pcn set j := by rw [vUp_ne (by decide), vUp_ne (by decide)]; exact r55
          rw [r78]
          refine v_iconst d_De_gatherPeople_81 ?_
          refine v_iadd d_De_gatherPeople_82 ?_
          refine v_putJ (ji := 4) d_De_gatherPeople_83 p_De_114 (sh_49 T) rfl rfl (by omega) ?_
          refine v_iinc3 d_De_gatherPeople_86 (by decide) rfl ?_
          refine v_goto d_De_gatherPeople_89 ?_
          have hb1 : bt set (j : Int) = 1 := by rw [← hi]; exact hb9
          have e1 : pcn set (j + 1) = pcn set j + 1 := by rw [pcn_succ, hb1]
          have e2 : ppl set (j + 1) = upF (ppl set j) (pcn set j) i := by rw [ppl, if_pos hb1, hi]
          refine ih (j + 1) _ _ (by omega) (by omega) (hσ.trans' ((CF_46 e47.1).trans' ((CF_up (by omega)).trans' ((CF_up (by omega)).trans' (CF_up (by omega)))))) ⟨by rw [vUp_same, e1], fun k k1 k2 => ?_⟩
          rw [e1] at k2
          rw [e2]
          by_cases q : k = pcn set j
          · rw [q, upF_s]
            refine ⟨?_, ?_⟩
            · rw [vUp_ne (by decide), vUp_ne (by decide), vUp_same]
            · rw [vUp_ne (by decide), vUp_same, ← htd]; rfl
          · rw [upF_n q]
            have := hp.2 k k1 (by omega)
            refine ⟨?_, ?_⟩
            · rw [vUp_ne (by decide), vUp_ne (by decide), vUp_ix q, e47.1 50 (by decide)]; exact this.1
            · rw [vUp_ne (by decide), vUp_ix q, vUp_ne (by decide), e47.1 51 (by decide)]; exact this.2

theorem c_De_gatherPeople {T : vSh} {σ : vMem} {A : Int → Int} (hC : CR σ A) (hO : okA A) {set : Int} (h0 : vIn set) (h1 : dlP A set) : mt_De_gatherPeople [.ref 49, .int (iI set)] (S0 ++ T) σ (rP (S0 ++ T) (fun _ σ2 => CF σ σ2 ∧ PpC σ2 A set (A 1).toNat)) := by
  refine vMet.intro 2 (by decide +kernel) (Nat.le_of_ble_eq_true rfl) rfl (fun cx hM _ => ?_)
  obtain ⟨⟨q0, q1, q2, q3, q4, q5, q6, q7⟩, hVi, hWe, hCo, hOf, hBo, hWo, hMo, hRe, hLi, hTa⟩ := id hO
  obtain ⟨⟨l0, l1, lV, lC, lZ, lS⟩, ⟨b0, b1, bO, bB⟩, ⟨w0, wR, wL⟩, ⟨t0, t1, t2, tR, tB⟩, ⟨n9, nW⟩, m0, mM⟩ := id hC
  refine v_aload0 d_De_gatherPeople_0 ?_
  refine v_iconst d_De_gatherPeople_1 ?_
  refine v_putJ (ji := 4) d_De_gatherPeople_2 p_De_114 (sh_49 T) rfl rfl (by omega) ?_
  refine v_aload0 d_De_gatherPeople_5 ?_
  refine v_getR d_De_gatherPeople_6 f_De_27 (sh_49 T) rfl ?_
  refine v_getR d_De_gatherPeople_9 f_De_35 (sh_1 T) rfl ?_
  refine v_getJ (ji := 0) d_De_gatherPeople_12 f_De_41 (sh_2 T) rfl rfl (fun g12 => ?_)
  have r12 : vUp σ 49 4 0 2 0 = A 4 := by rw [vUp_ne (by decide)]; exact l0
  rw [r12]
  refine v_istore2 d_De_gatherPeople_15 (by decide) rfl ?_
  refine v_iconst d_De_gatherPeople_16 ?_
  refine v_istore3 d_De_gatherPeople_17 (by decide) rfl ?_
  exact c_De_gatherPeople_18 hC hO h0 h1 hM rfl 10 0 _ _ (by omega) rfl (CF_up (by omega)) ⟨by rw [vUp_same]; rfl, fun i i1 i2 => by simp [pcn, sm] at i2; omega⟩

theorem c_De_gatherLots_7 {T : vSh} {σ : vMem} {cx : vCx} {A : Int → Int} (hC : CR σ A) (hO : okA A)  (hM : vM cx 0 0 none (rP (S0 ++ T) (fun _ σ2 => (∀ k, k ≠ 49 → k ≠ 52 → σ2 k = σ k) ∧ (∀ f, f ≠ 8 → σ2 49 f = σ 49 f) ∧ LtC σ2 A (A 0).toNat))) : ∀ (n j : Nat) (i : Int) (σ1 : vMem), (j : Int) + n = A 0 → i = j → (∀ k, k ≠ 49 → k ≠ 52 → σ1 k = σ k) → (∀ f, f ≠ 8 → σ1 49 f = σ 49 f) → LtC σ1 A j → vV cx y_De_gatherLots.cls prog_4_method_7_code 2 3 0 0 0 0 7 [some (.ref 49), some (.int (iI i))] [] (S0 ++ T) σ1 := by
  intro n
  induction n with
  | zero =>
    intro j i σ1 hj hi hσ hf hl
    obtain ⟨⟨q0, q1, q2, q3, q4, q5, q6, q7⟩, hVi, hWe, hCo, hOf, hBo, hWo, hMo, hRe, hLi, hTa⟩ := id hO
    have hC1 : CR σ1 A := (show CF σ σ1 from ⟨fun k hk => hσ k (by omega) (by omega), by rw [hσ 38 (by decide) (by decide)]⟩).cr hC
    obtain ⟨⟨l0, l1, lV, lC, lZ, lS⟩, ⟨b0, b1, bO, bB⟩, ⟨w0, wR, wL⟩, ⟨t0, t1, t2, tR, tB⟩, ⟨n9, nW⟩, m0, mM⟩ := id hC1
    have hlr := ltN_rng A j
    have hc := hl.1
    refine v_iload1 d_De_gatherLots_7 ?_
    refine v_aload0 d_De_gatherLots_8 ?_
    refine v_getR d_De_gatherLots_9 f_De_27 (sh_49 T) rfl ?_
    refine v_getR d_De_gatherLots_12 f_De_35 (sh_1 T) rfl ?_
    refine v_getJ (ji := 1) d_De_gatherLots_15 f_De_81 (sh_2 T) rfl rfl (fun g15 => ?_)
    refine v_icmp_ge d_De_gatherLots_18 (by omega) (by omega) (fun u18 => ?_) (fun u18 => ?_)
    · exact v_return hM d_De_gatherLots_68 ⟨rfl, hσ, hf, by rw [show (A 0).toNat = j by omega]; exact hl⟩
    · omega
  | succ n ih =>
    intro j i σ1 hj hi hσ hf hl
    obtain ⟨⟨q0, q1, q2, q3, q4, q5, q6, q7⟩, hVi, hWe, hCo, hOf, hBo, hWo, hMo, hRe, hLi, hTa⟩ := id hO
    have hC1 : CR σ1 A := (show CF σ σ1 from ⟨fun k hk => hσ k (by omega) (by omega), by rw [hσ 38 (by decide) (by decide)]⟩).cr hC
    obtain ⟨⟨l0, l1, lV, lC, lZ, lS⟩, ⟨b0, b1, bO, bB⟩, ⟨w0, wR, wL⟩, ⟨t0, t1, t2, tR, tB⟩, ⟨n9, nW⟩, m0, mM⟩ := id hC1
    have hlr := ltN_rng A j
    have hc := hl.1
    refine v_iload1 d_De_gatherLots_7 ?_
    refine v_aload0 d_De_gatherLots_8 ?_
    refine v_getR d_De_gatherLots_9 f_De_27 (sh_49 T) rfl ?_
    refine v_getR d_De_gatherLots_12 f_De_35 (sh_1 T) rfl ?_
    refine v_getJ (ji := 1) d_De_gatherLots_15 f_De_81 (sh_2 T) rfl rfl (fun g15 => ?_)
    refine v_icmp_ge d_De_gatherLots_18 (by omega) (by omega) (fun u18 => ?_) (fun u18 => ?_)
    · omega
    · refine v_aload0 d_De_gatherLots_21 ?_
      refine v_getJ (ji := 8) d_De_gatherLots_22 f_De_111 (sh_49 T) rfl rfl (fun g22 => ?_)
      refine v_bipush d_De_gatherLots_25 rfl ?_
      refine v_icmp_ge d_De_gatherLots_27 (by omega) (by omega) (fun u27 => ?_) (fun u27 => ?_)
      · exact v_return hM d_De_gatherLots_68 ⟨rfl, hσ, hf, ⟨by rw [(lt_stop A (m := j) (by omega) (A 0).toNat (by omega)).1]; exact hc, by rw [(lt_stop A (m := j) (by omega) (A 0).toNat (by omega)).1, (lt_stop A (m := j) (by omega) (A 0).toNat (by omega)).2]; exact hl.2⟩⟩
      · refine v_aload0 d_De_gatherLots_30 ?_
        refine v_getR d_De_gatherLots_31 f_De_27 (sh_49 T) rfl ?_
        refine v_iload1 d_De_gatherLots_34 ?_
        refine v_fVI1 d_De_gatherLots_35 l_De_84 k_St_holderToday (c_St_holderToday hC1 hO (by omega)) (sh_1 T) rfl (by decide) (by decide) (Nat.le_of_ble_eq_true rfl) (Nat.zero_le _) (Nat.zero_le _) (fun g35 => ?_)
        have hhr := heldF_rng hO i (A 4) (A 4)
        refine v_iconst d_De_gatherLots_38 ?_
        refine v_icmp_ne d_De_gatherLots_39 (by omega) (by omega) (fun u39 => ?_) (fun u39 => ?_)
        · refine v_iinc1 d_De_gatherLots_62 (by decide) rfl ?_
          refine v_goto d_De_gatherLots_65 ?_
          have e0 : ¬ crwP A (j : Int) := by rw [← hi]; show ¬ heldF A i (A 4) (A 4) < 0; omega
          have e1 : ltN A (j + 1) = ltN A j := by rw [ltN, if_neg (fun z => e0 z.2)]
          have e2 : ltF A (j + 1) = ltF A j := by rw [ltF, if_neg (fun z => e0 z.2)]
          exact ih (j + 1) _ _ (by omega) (by omega) hσ hf ⟨by rw [e1]; exact hc, by rw [e1, e2]; exact hl.2⟩
        · refine v_aload0 d_De_gatherLots_42 ?_
          refine v_getR d_De_gatherLots_43 f_De_18 (sh_49 T) rfl ?_
          refine v_aload0 d_De_gatherLots_46 ?_
          refine v_getJ (ji := 8) d_De_gatherLots_47 f_De_111 (sh_49 T) rfl rfl (fun g47 => ?_)
          rw [hc]
          refine v_iload1 d_De_gatherLots_50 ?_
          refine v_iastore d_De_gatherLots_51 (sh_52 T) (by omega) (by omega) ?_
          refine v_aload0 d_De_gatherLots_52 ?_
          refine v_dup d_De_gatherLots_53 rfl ?_
          refine v_getJ (ji := 8) d_De_gatherLots_54 f_De_111 (sh_49 T) rfl rfl (fun g54 => ?_)
          have r54 : vUp σ1 52 (ltN A j) i 49 8 = ltN A j := by rw [vUp_ne (by decide)]; exact hc
          rw [r54]
          refine v_iconst d_De_gatherLots_57 ?_
          refine v_iadd d_De_gatherLots_58 ?_
          refine v_putJ (ji := 8) d_De_gatherLots_59 p_De_111 (sh_49 T) rfl rfl (by omega) ?_
          refine v_iinc1 d_De_gatherLots_62 (by decide) rfl ?_
          refine v_goto d_De_gatherLots_65 ?_
          have e1 : ltN A (j + 1) = ltN A j + 1 := by rw [ltN, if_pos ⟨by omega, by rw [← hi]; show heldF A i (A 4) (A 4) < 0; omega⟩]
          have e2 : ltF A (j + 1) = upF (ltF A j) (ltN A j) i := by rw [ltF, if_pos ⟨by omega, by rw [← hi]; show heldF A i (A 4) (A 4) < 0; omega⟩, hi]
          refine ih (j + 1) _ _ (by omega) (by omega) (fun k k1 k2 => by rw [vUp_ne k1, vUp_ne k2]; exact hσ k k1 k2) (fun f hf8 => by rw [vUp_ix hf8, vUp_ne (by decide)]; exact hf f hf8) ⟨by rw [vUp_same, e1], fun k k1 k2 => ?_⟩
          rw [e1] at k2
          rw [e2]
          by_cases q : k = ltN A j
          · rw [q, upF_s, vUp_ne (by decide), vUp_same]
          · rw [upF_n q, vUp_ne (by decide), vUp_ix q]
            exact hl.2 k k1 (by omega)

theorem c_De_gatherLots {T : vSh} {σ : vMem} {A : Int → Int} (hC : CR σ A) (hO : okA A)  : mt_De_gatherLots [.ref 49] (S0 ++ T) σ (rP (S0 ++ T) (fun _ σ2 => (∀ k, k ≠ 49 → k ≠ 52 → σ2 k = σ k) ∧ (∀ f, f ≠ 8 → σ2 49 f = σ 49 f) ∧ LtC σ2 A (A 0).toNat)) := by
  refine vMet.intro 1 (by decide +kernel) (Nat.le_of_ble_eq_true rfl) rfl (fun cx hM _ => ?_)
  obtain ⟨⟨q0, q1, q2, q3, q4, q5, q6, q7⟩, hVi, hWe, hCo, hOf, hBo, hWo, hMo, hRe, hLi, hTa⟩ := id hO
  obtain ⟨⟨l0, l1, lV, lC, lZ, lS⟩, ⟨b0, b1, bO, bB⟩, ⟨w0, wR, wL⟩, ⟨t0, t1, t2, tR, tB⟩, ⟨n9, nW⟩, m0, mM⟩ := id hC
  refine v_aload0 d_De_gatherLots_0 ?_
  refine v_iconst d_De_gatherLots_1 ?_
  refine v_putJ (ji := 8) d_De_gatherLots_2 p_De_111 (sh_49 T) rfl rfl (by omega) ?_
  refine v_iconst d_De_gatherLots_5 ?_
  refine v_istore1 d_De_gatherLots_6 (by decide) rfl ?_
  exact c_De_gatherLots_7 hC hO hM (A 0).toNat 0 _ _ (by omega) rfl (fun k k1 k2 => by rw [vUp_ne k1]) (fun f hf => by rw [vUp_ix hf]) ⟨by rw [vUp_same]; rfl, fun k k1 k2 => by simp [ltN] at k2; omega⟩

theorem c_De_greatestLotLeft_6 {T : vSh} {σ : vMem} {cx : vCx} {A : Int → Int} (hC : CR σ A) (hO : okA A) {set : Int} (h1 : dlP A set) (hG : GaC σ A set) (hg : 0 ≤ grF A (σ 53) (dL A).toNat) (hM : vM cx 0 0 (some .int) (rF (S0 ++ T) σ (grF A (σ 53) (dL A).toNat))) : ∀ (n j : Nat) (g p i : Int), (j : Int) + n = dL A → i = j → (grF A (σ 53) j < 0 → g = 0 ∧ p = 0) → (0 ≤ grF A (σ 53) j → g = grF A (σ 53) j ∧ p = dPa A (grF A (σ 53) j)) → vV cx y_De_greatestLotLeft.cls prog_4_method_9_code 4 0 0 0 0 0 6 [some (.ref 49), some (.int (iI g)), some (.int (iI p)), some (.int (iI i))] [] (S0 ++ T) σ := by
  intro n
  induction n with
  | zero =>
    intro j g p i hj hi ha hb
    obtain ⟨⟨q0, q1, q2, q3, q4, q5, q6, q7⟩, hVi, hWe, hCo, hOf, hBo, hWo, hMo, hRe, hLi, hTa⟩ := id hO
    obtain ⟨⟨l0, l1, lV, lC, lZ, lS⟩, ⟨b0, b1, bO, bB⟩, ⟨w0, wR, wL⟩, ⟨t0, t1, t2, tR, tB⟩, ⟨n9, nW⟩, m0, mM⟩ := id hC
    have hP := dP_rng hO h1
    have hL := dL_rng A
    obtain ⟨⟨r1, r2⟩, rP, rK⟩ := id hG
    have hgr := grF_rng A (σ 53) j
    refine v_iload3 d_De_greatestLotLeft_6 ?_
    refine v_aload0 d_De_greatestLotLeft_7 ?_
    refine v_getJ (ji := 8) d_De_greatestLotLeft_8 f_De_111 (sh_49 T) rfl rfl (fun g8 => ?_)
    refine v_icmp_ge d_De_greatestLotLeft_11 (by omega) (by omega) (fun u11 => ?_) (fun u11 => ?_)
    · refine v_iload1 d_De_greatestLotLeft_71 ?_
      have e9 : (dL A).toNat = j := by omega
      rw [e9] at hg
      have := hb hg
      exact v_ireturn hM d_De_greatestLotLeft_72 (by omega) ⟨rfl, rfl, by rw [e9]; exact this.1⟩
    · omega
  | succ n ih =>
    intro j g p i hj hi ha hb
    obtain ⟨⟨q0, q1, q2, q3, q4, q5, q6, q7⟩, hVi, hWe, hCo, hOf, hBo, hWo, hMo, hRe, hLi, hTa⟩ := id hO
    obtain ⟨⟨l0, l1, lV, lC, lZ, lS⟩, ⟨b0, b1, bO, bB⟩, ⟨w0, wR, wL⟩, ⟨t0, t1, t2, tR, tB⟩, ⟨n9, nW⟩, m0, mM⟩ := id hC
    have hP := dP_rng hO h1
    have hL := dL_rng A
    obtain ⟨⟨r1, r2⟩, rP, rK⟩ := id hG
    have hgr := grF_rng A (σ 53) j
    have hki := rK i (by omega) (by omega)
    have hli := dLot_rng hO (k := i) (by omega)
    have hpi := dPa_rng hO (k := i) (by omega)
    have hlv := (lV (dLot A i) hli.1 hli.2).1
    have ei : σ 3 (σ 52 i) = dPa A i := by rw [hki]; exact hlv
    have hgp : 0 ≤ grF A (σ 53) j → 1 ≤ dPa A (grF A (σ 53) j) ∧ dPa A (grF A (σ 53) j) ≤ 9999 := fun z => dPa_rng hO (by omega)
    refine v_iload3 d_De_greatestLotLeft_6 ?_
    refine v_aload0 d_De_greatestLotLeft_7 ?_
    refine v_getJ (ji := 8) d_De_greatestLotLeft_8 f_De_111 (sh_49 T) rfl rfl (fun g8 => ?_)
    refine v_icmp_ge d_De_greatestLotLeft_11 (by omega) (by omega) (fun u11 => ?_) (fun u11 => ?_)
    · omega
    · refine v_aload0 d_De_greatestLotLeft_14 ?_
      refine v_getR d_De_greatestLotLeft_15 f_De_21 (sh_49 T) rfl ?_
      refine v_iload3 d_De_greatestLotLeft_18 ?_
      refine v_iaload d_De_greatestLotLeft_19 (sh_53 T) (by omega) (fun g19 => ?_)
      refine v_iconst d_De_greatestLotLeft_20 ?_
      refine v_icmp_ne d_De_greatestLotLeft_21 (by omega) (by omega) (fun u21 => ?_) (fun u21 => ?_)
      · refine v_iinc3 d_De_greatestLotLeft_65 (by decide) rfl ?_
        refine v_goto d_De_greatestLotLeft_68 ?_
        first
        | (have e9 : grF A (σ 53) (j + 1) = grF A (σ 53) j := by rw [grF, ← hi, if_neg (by omega)]
           exact ih (j + 1) _ _ _ (by omega) (by omega) (by rw [e9]; exact ha) (by rw [e9]; exact hb))
        | (have e9 : grF A (σ 53) (j + 1) = i := by rw [grF, ← hi, if_pos (by omega)]
           exact ih (j + 1) _ _ _ (by omega) (by omega) (by rw [e9]; omega) (by rw [e9]; exact fun _ => ⟨rfl, ei⟩))
      · refine v_aload0 d_De_greatestLotLeft_24 ?_
        refine v_getR d_De_greatestLotLeft_25 f_De_27 (sh_49 T) rfl ?_
        refine v_getR d_De_greatestLotLeft_28 f_De_35 (sh_1 T) rfl ?_
        refine v_getR d_De_greatestLotLeft_31 f_De_126 (sh_2 T) rfl ?_
        refine v_aload0 d_De_greatestLotLeft_34 ?_
        refine v_getR d_De_greatestLotLeft_35 f_De_18 (sh_49 T) rfl ?_
        refine v_iload3 d_De_greatestLotLeft_38 ?_
        refine v_iaload d_De_greatestLotLeft_39 (sh_52 T) (by omega) (fun g39 => ?_)
        refine v_iaload d_De_greatestLotLeft_40 (sh_3 T) (by omega) (fun g40 => ?_)
        refine v_iload2 d_De_greatestLotLeft_41 ?_
        refine v_icmp_le d_De_greatestLotLeft_42 (by omega) (by omega) (fun u42 => ?_) (fun u42 => ?_)
        · refine v_iinc3 d_De_greatestLotLeft_65 (by decide) rfl ?_
          refine v_goto d_De_greatestLotLeft_68 ?_
          first
          | (have e9 : grF A (σ 53) (j + 1) = grF A (σ 53) j := by rw [grF, ← hi, if_neg (by omega)]
             exact ih (j + 1) _ _ _ (by omega) (by omega) (by rw [e9]; exact ha) (by rw [e9]; exact hb))
          | (have e9 : grF A (σ 53) (j + 1) = i := by rw [grF, ← hi, if_pos (by omega)]
             exact ih (j + 1) _ _ _ (by omega) (by omega) (by rw [e9]; omega) (by rw [e9]; exact fun _ => ⟨rfl, ei⟩))
        · refine v_iload3 d_De_greatestLotLeft_45 ?_
          refine v_istore1 d_De_greatestLotLeft_46 (by decide) rfl ?_
          refine v_aload0 d_De_greatestLotLeft_47 ?_
          refine v_getR d_De_greatestLotLeft_48 f_De_27 (sh_49 T) rfl ?_
          refine v_getR d_De_greatestLotLeft_51 f_De_35 (sh_1 T) rfl ?_
          refine v_getR d_De_greatestLotLeft_54 f_De_126 (sh_2 T) rfl ?_
          refine v_aload0 d_De_greatestLotLeft_57 ?_
          refine v_getR d_De_greatestLotLeft_58 f_De_18 (sh_49 T) rfl ?_
          refine v_iload3 d_De_greatestLotLeft_61 ?_
          refine v_iaload d_De_greatestLotLeft_62 (sh_52 T) (by omega) (fun g62 => ?_)
          refine v_iaload d_De_greatestLotLeft_63 (sh_3 T) (by omega) (fun g63 => ?_)
          refine v_istore2 d_De_greatestLotLeft_64 (by decide) rfl ?_
          refine v_iinc3 d_De_greatestLotLeft_65 (by decide) rfl ?_
          refine v_goto d_De_greatestLotLeft_68 ?_
          first
          | (have e9 : grF A (σ 53) (j + 1) = grF A (σ 53) j := by rw [grF, ← hi, if_neg (by omega)]
             exact ih (j + 1) _ _ _ (by omega) (by omega) (by rw [e9]; exact ha) (by rw [e9]; exact hb))
          | (have e9 : grF A (σ 53) (j + 1) = i := by rw [grF, ← hi, if_pos (by omega)]
             exact ih (j + 1) _ _ _ (by omega) (by omega) (by rw [e9]; omega) (by rw [e9]; exact fun _ => ⟨rfl, ei⟩))

theorem c_De_greatestLotLeft {T : vSh} {σ : vMem} {A : Int → Int} (hC : CR σ A) (hO : okA A) {set : Int} (h1 : dlP A set) (hG : GaC σ A set) (hg : 0 ≤ grF A (σ 53) (dL A).toNat) : mt_De_greatestLotLeft [.ref 49] (S0 ++ T) σ (rF (S0 ++ T) σ (grF A (σ 53) (dL A).toNat)) := by
  refine vMet.intro 3 (by decide +kernel) (Nat.le_of_ble_eq_true rfl) rfl (fun cx hM _ => ?_)
  obtain ⟨⟨q0, q1, q2, q3, q4, q5, q6, q7⟩, hVi, hWe, hCo, hOf, hBo, hWo, hMo, hRe, hLi, hTa⟩ := id hO
  have hP := dP_rng hO h1
  have hL := dL_rng A
  refine v_iconst d_De_greatestLotLeft_0 ?_
  refine v_istore1 d_De_greatestLotLeft_1 (by decide) rfl ?_
  refine v_iconst d_De_greatestLotLeft_2 ?_
  refine v_istore2 d_De_greatestLotLeft_3 (by decide) rfl ?_
  refine v_iconst d_De_greatestLotLeft_4 ?_
  refine v_istore3 d_De_greatestLotLeft_5 (by decide) rfl ?_
  exact c_De_greatestLotLeft_6 hC hO h1 hG hg hM (dL A).toNat 0 _ _ _ (by omega) rfl (fun _ => ⟨rfl, rfl⟩) (fun h => by simp [grF] at h)

