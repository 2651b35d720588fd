theorem vUp_fn (σ : vMem) (k : Nat) (i v : Int) : vUp σ k i v k = upF (σ k) i v := by
  funext x
  by_cases q : x = i
  · rw [q, vUp_same, upF_s]
  · rw [vUp_ix q, upF_n q]
def BsM (σ : vMem) (A : Int → Int) (set : Int) (ch : Int → Int) (b : BsT) : Prop := (σ 55 21 = dL A ∧ σ 55 22 = dP A set) ∧ (∀ i, 0 ≤ i → i < dP A set → σ 63 i = dWho A set i ∧ σ 64 i = dDue A set i) ∧ ∀ k, 0 ≤ k → k < dL A → σ 62 k = dLot A k ∧ σ 66 k = ch k ∧ (0 ≤ b.1 → σ 67 k = bstF A set b.2 k)
theorem BsM_65 {σ σ' : vMem} {A : Int → Int} {set : Int} {ch : Int → Int} {b : BsT} (h : ∀ k, k ≠ 65 → σ' k = σ k) (hB : BsM σ A set ch b) : BsM σ' A set ch b := by
  unfold BsM
  rw [h 55 (by decide), h 62 (by decide), h 63 (by decide), h 64 (by decide), h 66 (by decide), h 67 (by decide)]
  exact hB
def inCh (A : Int → Int) (set : Int) (ch : Int → Int) : Prop := ∀ k, 0 ≤ k → k < dL A → 0 ≤ ch k ∧ ch k ≤ dP A set
theorem c_M_goesOn_7 {T : vSh} {σ : vMem} {cx : vCx} {A : Int → Int} (hA : σ 56 = A) (hO : okA A) {set : Int} (h1 : dlP A set) (r1 : σ 55 21 = dL A) (r2 : σ 55 22 = dP A set) (hc : inCh A set (σ 66)) (hM : vM cx 0 0 (some .boolean) (rP (S0 ++ T) (fun z σ2 => z = (odF (dP A set) (dL A).toNat (σ 66)).2 ∧ (∀ k, k ≠ 66 → σ2 k = σ k) ∧ σ2 66 = (odF (dP A set) (dL A).toNat (σ 66)).1))) : ∀ (j : Nat) (i : Int) (σ1 : vMem), (j : Int) ≤ dL A → i = (j : Int) - 1 → (∀ k, k ≠ 66 → σ1 k = σ k) → (∀ k, 0 ≤ k → k < (j : Int) → σ1 66 k = σ 66 k) → odF (dP A set) j (σ1 66) = odF (dP A set) (dL A).toNat (σ 66) → vV cx y_M_goesOn.cls prog_14_method_81_code 2 0 0 0 0 0 7 [some (.ref 55), some (.int (iI i))] [] (S0 ++ T) σ1 := by
  intro j
  induction j with
  | zero =>
    intro i σ1 hj hi hσ hk ho
    have hP := dP_rng hO h1
    have hL := dL_rng A
    refine v_iload1 d_M_goesOn_7 ?_
    refine v_if_lt d_M_goesOn_8 (by omega) (fun u8 => ?_) (fun u8 => ?_)
    · refine v_iconst d_M_goesOn_49 ?_
      exact v_zreturn hM d_M_goesOn_50 (Or.inl rfl) ⟨rfl, by rw [← ho]; rfl, hσ, by rw [← ho]; rfl⟩
    · omega
  | succ j ih =>
    intro i σ1 hj hi hσ hk ho
    have hP := dP_rng hO h1
    have hL := dL_rng A
    have hci := hc i (by omega) (by omega)
    have hki := hk i (by omega) (by omega)
    have e55 : σ1 55 22 = dP A set := by rw [hσ 55 (by decide)]; exact r2
    have eij : ((j : Nat) : Int) = i := by omega
    refine v_iload1 d_M_goesOn_7 ?_
    refine v_if_lt d_M_goesOn_8 (by omega) (fun u8 => ?_) (fun u8 => ?_)
    · omega
    · refine v_aload0 d_M_goesOn_11 ?_
      refine v_getR d_M_goesOn_12 f_M_41 (sh_55 T) rfl ?_
      refine v_iload1 d_M_goesOn_15 ?_
      refine v_iaload d_M_goesOn_16 (sh_66 T) (by omega) (fun g16 => ?_)
      refine v_aload0 d_M_goesOn_17 ?_
      refine v_getJ (ji := 22) d_M_goesOn_18 f_M_276 (sh_55 T) rfl rfl (fun g18 => ?_)
      refine v_icmp_ge d_M_goesOn_21 (by omega) (by omega) (fun u21 => ?_) (fun u21 => ?_)
      · refine v_aload0 d_M_goesOn_36 ?_
        refine v_getR d_M_goesOn_37 f_M_41 (sh_55 T) rfl ?_
        refine v_iload1 d_M_goesOn_40 ?_
        refine v_iconst d_M_goesOn_41 ?_
        refine v_iastore d_M_goesOn_42 (sh_66 T) (by omega) (by omega) ?_
        refine v_iinc1 d_M_goesOn_43 (by decide) rfl ?_
        refine v_goto d_M_goesOn_46 ?_
        exact ih _ _ (by omega) (by omega) (fun k hk2 => by rw [vUp_ne hk2]; exact hσ k hk2) (fun k k1 k2 => by rw [vUp_ix (by omega)]; exact hk k k1 (by omega)) (by rw [vUp_fn, ← ho]; show _ = (if σ1 66 (j : Int) < dP A set then _ else _); rw [eij, if_neg (by omega)])
      · refine v_aload0 d_M_goesOn_24 ?_
        refine v_getR d_M_goesOn_25 f_M_41 (sh_55 T) rfl ?_
        refine v_iload1 d_M_goesOn_28 ?_
        refine v_dup2 d_M_goesOn_29 rfl rfl ?_
        refine v_iaload d_M_goesOn_30 (sh_66 T) (by omega) (fun g30 => ?_)
        refine v_iconst d_M_goesOn_31 ?_
        refine v_iadd d_M_goesOn_32 ?_
        refine v_iastore d_M_goesOn_33 (sh_66 T) (by omega) (by omega) ?_
        refine v_iconst d_M_goesOn_34 ?_
        have ho2 : odF (dP A set) (j + 1) (σ1 66) = (upF (σ1 66) i (σ1 66 i + 1), 1) := by show (if σ1 66 (j : Int) < dP A set then _ else _) = _; rw [eij, if_pos (by omega)]
        exact v_zreturn hM d_M_goesOn_35 (Or.inr rfl) ⟨rfl, by rw [← ho, ho2], fun k hk2 => by rw [vUp_ne hk2]; exact hσ k hk2, by rw [vUp_fn, ← ho, ho2]⟩

theorem c_M_goesOn {T : vSh} {σ : vMem} {A : Int → Int} (hA : σ 56 = A) (hO : okA A) {set : Int} (h1 : dlP A set) (r1 : σ 55 21 = dL A) (r2 : σ 55 22 = dP A set) (hc : inCh A set (σ 66)) : mt_M_goesOn [.ref 55] (S0 ++ T) σ (rP (S0 ++ T) (fun z σ2 => z = (odF (dP A set) (dL A).toNat (σ 66)).2 ∧ (∀ k, k ≠ 66 → σ2 k = σ k) ∧ σ2 66 = (odF (dP A set) (dL A).toNat (σ 66)).1)) := by
  refine vMet.intro 1 (by decide +kernel) (Nat.le_of_ble_eq_true rfl) rfl (fun cx hM _ => ?_)
  have hP := dP_rng hO h1
  have hL := dL_rng A
  refine v_aload0 d_M_goesOn_0 ?_
  refine v_getJ (ji := 21) d_M_goesOn_1 f_M_279 (sh_55 T) rfl rfl (fun g1 => ?_)
  refine v_iconst d_M_goesOn_4 ?_
  refine v_isub d_M_goesOn_5 ?_
  refine v_istore1 d_M_goesOn_6 (by decide) rfl ?_
  exact c_M_goesOn_7 hA hO h1 r1 r2 hc hM (dL A).toNat _ _ (by omega) (by omega) (fun k _ => rfl) (fun k _ _ => rfl) rfl

theorem c_M_byBest_31 {T : vSh} {σ : vMem} {cx : vCx} {A : Int → Int} (hA : σ 56 = A) (hO : okA A) {set : Int} (h1 : dlP A set) {ch : Int → Int} {b : BsT} {le : Int} (hB : BsM σ A set ch b) (hc : inCh A set ch) (K : ∀ σ2 : vMem, (∀ k, k ≠ 65 → σ2 k = σ k) → (∀ x, 0 ≤ x → x < dP A set → σ2 65 x = 0) → vV cx y_M_byBest.cls prog_14_method_82_code 5 2 0 0 0 0 52 [some (.ref 55), some (.int (iI le)), some (.int (iI 1)), none, none] [] (S0 ++ T) σ2) : ∀ (n j : Nat) (i : Int) (σ1 : vMem), (j : Int) + n = dP A set → i = j → (∀ k, k ≠ 65 → σ1 k = σ k) → (∀ x, 0 ≤ x → x < (j : Int) → σ1 65 x = 0) → vV cx y_M_byBest.cls prog_14_method_82_code 5 2 0 0 0 0 31 [some (.ref 55), some (.int (iI le)), some (.int (iI 1)), some (.int (iI i)), none] [] (S0 ++ T) σ1 := by
  intro n
  induction n with
  | zero =>
    intro j i σ1 hj hi hσ hz
    obtain ⟨⟨q0, q1, q2, q3, q4, q5, q6, q7⟩, hVi, hWe, hCo, hOf, hBo, hWo, hMo, hRe, hLi, hTa⟩ := id hO
    have hP := dP_rng hO h1
    have hL := dL_rng A
    have hB1 := BsM_65 hσ hB
    obtain ⟨⟨r1, r2⟩, rP, rK⟩ := id hB1
    refine v_iload3 d_M_byBest_31 ?_
    refine v_aload0 d_M_byBest_32 ?_
    refine v_getJ (ji := 22) d_M_byBest_33 f_M_276 (sh_55 T) rfl rfl (fun g33 => ?_)
    refine v_icmp_ge d_M_byBest_36 (by omega) (by omega) (fun u36 => ?_) (fun u36 => ?_)
    · refine v_drop3 ?_
      exact K σ1 hσ (fun x y1 y2 => hz x y1 (by omega))
    · omega
  | succ n ih =>
    intro j i σ1 hj hi hσ hz
    obtain ⟨⟨q0, q1, q2, q3, q4, q5, q6, q7⟩, hVi, hWe, hCo, hOf, hBo, hWo, hMo, hRe, hLi, hTa⟩ := id hO
    have hP := dP_rng hO h1
    have hL := dL_rng A
    have hB1 := BsM_65 hσ hB
    obtain ⟨⟨r1, r2⟩, rP, rK⟩ := id hB1
    refine v_iload3 d_M_byBest_31 ?_
    refine v_aload0 d_M_byBest_32 ?_
    refine v_getJ (ji := 22) d_M_byBest_33 f_M_276 (sh_55 T) rfl rfl (fun g33 => ?_)
    refine v_icmp_ge d_M_byBest_36 (by omega) (by omega) (fun u36 => ?_) (fun u36 => ?_)
    · omega
    · refine v_aload0 d_M_byBest_39 ?_
      refine v_getR d_M_byBest_40 f_M_38 (sh_55 T) rfl ?_
      refine v_iload3 d_M_byBest_43 ?_
      refine v_iconst d_M_byBest_44 ?_
      refine v_iastore d_M_byBest_45 (sh_65 T) (by omega) (by omega) ?_
      refine v_iinc3 d_M_byBest_46 (by decide) rfl ?_
      refine v_goto d_M_byBest_49 ?_
      exact ih (j + 1) _ _ (by omega) (by omega) (fun k hk => by rw [vUp_ne hk]; exact hσ k hk) (fun x y1 y2 => by
        by_cases q : x = i
        · subst q; exact vUp_same _ _ _ _
        · rw [vUp_ix q]; exact hz x y1 (by omega))

theorem c_M_byBest_54 {T : vSh} {σ : vMem} {cx : vCx} {A : Int → Int} (hA : σ 56 = A) (hO : okA A) {set : Int} (h1 : dlP A set) {ch : Int → Int} {b : BsT} {le : Int} (hB : BsM σ A set ch b) (hc : inCh A set ch) (K : ∀ σ2 : vMem, (∀ k, k ≠ 65 → σ2 k = σ k) → (∀ x, 0 ≤ x → x < dP A set → σ2 65 x = sm (fun k => if ch k = x then dPa A k else 0) (dL A).toNat) → vV cx y_M_byBest.cls prog_14_method_82_code 5 2 0 0 0 0 106 [some (.ref 55), some (.int (iI le)), some (.int (iI 1)), none, none] [] (S0 ++ T) σ2) : ∀ (n j : Nat) (i : Int) (σ1 : vMem), (j : Int) + n = dL A → i = j → (∀ k, k ≠ 65 → σ1 k = σ k) → (∀ x, 0 ≤ x → x < dP A set → σ1 65 x = sm (fun k => if ch k = x then dPa A k else 0) j) → vV cx y_M_byBest.cls prog_14_method_82_code 5 2 0 0 0 0 54 [some (.ref 55), some (.int (iI le)), some (.int (iI 1)), some (.int (iI i)), none] [] (S0 ++ T) σ1 := by
  intro n
  induction n with
  | zero =>
    intro j i σ1 hj hi hσ hz
    obtain ⟨⟨q0, q1, q2, q3, q4, q5, q6, q7⟩, hVi, hWe, hCo, hOf, hBo, hWo, hMo, hRe, hLi, hTa⟩ := id hO
    have hP := dP_rng hO h1
    have hL := dL_rng A
    have hB1 := BsM_65 hσ hB
    have hA1 : σ1 56 = A := by rw [hσ 56 (by decide)]; exact hA
    obtain ⟨⟨r1, r2⟩, rP, rK⟩ := id hB1
    refine v_iload3 d_M_byBest_54 ?_
    refine v_aload0 d_M_byBest_55 ?_
    refine v_getJ (ji := 21) d_M_byBest_56 f_M_279 (sh_55 T) rfl rfl (fun g56 => ?_)
    refine v_icmp_ge d_M_byBest_59 (by omega) (by omega) (fun u59 => ?_) (fun u59 => ?_)
    · refine v_drop3 ?_
      exact K σ1 hσ (fun x y1 y2 => by rw [hz x y1 y2, show j = (dL A).toNat by omega])
    · omega
  | succ n ih =>
    intro j i σ1 hj hi hσ hz
    obtain ⟨⟨q0, q1, q2, q3, q4, q5, q6, q7⟩, hVi, hWe, hCo, hOf, hBo, hWo, hMo, hRe, hLi, hTa⟩ := id hO
    have hP := dP_rng hO h1
    have hL := dL_rng A
    have hB1 := BsM_65 hσ hB
    have hA1 : σ1 56 = A := by rw [hσ 56 (by decide)]; exact hA
    obtain ⟨⟨r1, r2⟩, rP, rK⟩ := id hB1
    have hki := rK i (by omega) (by omega)
    have hci := hc i (by omega) (by omega)
    have hli := dLot_rng hO (k := i) (by omega)
    have hpi := dPa_rng hO (k := i) (by omega)
    have ei : A (40 + 6 * σ1 62 i + 0) = dPa A i := by rw [hki.1]
    refine v_iload3 d_M_byBest_54 ?_
    refine v_aload0 d_M_byBest_55 ?_
    refine v_getJ (ji := 21) d_M_byBest_56 f_M_279 (sh_55 T) rfl rfl (fun g56 => ?_)
    refine v_icmp_ge d_M_byBest_59 (by omega) (by omega) (fun u59 => ?_) (fun u59 => ?_)
    · omega
    · refine v_aload0 d_M_byBest_62 ?_
      refine v_getR d_M_byBest_63 f_M_41 (sh_55 T) rfl ?_
      refine v_iload3 d_M_byBest_66 ?_
      refine v_iaload d_M_byBest_67 (sh_66 T) (by omega) (fun g67 => ?_)
      refine v_aload0 d_M_byBest_68 ?_
      refine v_getJ (ji := 22) d_M_byBest_69 f_M_276 (sh_55 T) rfl rfl (fun g69 => ?_)
      refine v_icmp_ge d_M_byBest_72 (by omega) (by omega) (fun u72 => ?_) (fun u72 => ?_)
      · refine v_iinc3 d_M_byBest_100 (by decide) rfl ?_
        refine v_goto d_M_byBest_103 ?_
        exact ih (j + 1) _ _ (by omega) (by omega) hσ (fun x y1 y2 => by
          rw [hz x y1 y2, sm, ← hi, if_neg (by omega)]
          omega)
      · refine v_aload0 d_M_byBest_75 ?_
        refine v_getR d_M_byBest_76 f_M_38 (sh_55 T) rfl ?_
        refine v_aload0 d_M_byBest_79 ?_
        refine v_getR d_M_byBest_80 f_M_41 (sh_55 T) rfl ?_
        refine v_iload3 d_M_byBest_83 ?_
        refine v_iaload d_M_byBest_84 (sh_66 T) (by omega) (fun g84 => ?_)
        have hzi := hz (σ1 66 i) (by omega) (by omega)
        have hsm := lkB_sm hO ch (σ1 66 i) j (by omega)
        refine v_dup2 d_M_byBest_85 rfl rfl ?_
        refine v_iaload d_M_byBest_86 (sh_65 T) (by omega) (fun g86 => ?_)
        refine v_aload0 d_M_byBest_87 ?_
        refine v_aload0 d_M_byBest_88 ?_
        refine v_getR d_M_byBest_89 f_M_29 (sh_55 T) rfl ?_
        refine v_iload3 d_M_byBest_92 ?_
        refine v_iaload d_M_byBest_93 (sh_62 T) (by omega) (fun g93 => ?_)
        refine v_iconst d_M_byBest_94 ?_
        refine v_fVI2 d_M_byBest_95 l_M_83 k_M_its (c_M_its hA1 (by omega)) (sh_55 T) rfl (by decide) (by decide) (Nat.le_of_ble_eq_true rfl) (Nat.zero_le _) (Nat.zero_le _) (fun g95 => ?_)
        refine v_iadd d_M_byBest_98 ?_
        refine v_iastore d_M_byBest_99 (sh_65 T) (by omega) (by omega) ?_
        refine v_iinc3 d_M_byBest_100 (by decide) rfl ?_
        refine v_goto d_M_byBest_103 ?_
        exact ih (j + 1) _ _ (by omega) (by omega) (fun k hk => by rw [vUp_ne hk]; exact hσ k hk) (fun x y1 y2 => by
          rw [sm, ← hi, hki.2.1]
          by_cases q : x = ch i
          · rw [q, vUp_same, hz (ch i) (by omega) (by omega), if_pos rfl, ei]
          · rw [vUp_ix q, hz x y1 y2, if_neg (fun z => q z.symm)]
            omega)

theorem c_M_byBest_125 {T : vSh} {σ : vMem} {cx : vCx} {A : Int → Int} (hA : σ 56 = A) (hO : okA A) {set : Int} (h1 : dlP A set) {ch : Int → Int} {b : BsT} {le v : Int} (hB : BsM σ A set ch b) (hc : inCh A set ch) (K : ∀ σ2 : vMem, (∀ k, k ≠ 67 → σ2 k = σ k) → (∀ k, 0 ≤ k → k < dL A → σ2 67 k = bstF A set ch k) → vV cx y_M_byBest.cls prog_14_method_82_code 5 2 0 0 0 0 178 [some (.ref 55), some (.int (iI le)), some (.int (iI 1)), some (.int (iI v)), none] [] (S0 ++ T) σ2) : ∀ (n j : Nat) (i : Int) (σ1 : vMem), (j : Int) + n = dL A → i = j → (∀ k, k ≠ 67 → σ1 k = σ k) → (∀ k, 0 ≤ k → k < (j : Int) → σ1 67 k = bstF A set ch k) → vV cx y_M_byBest.cls prog_14_method_82_code 5 2 0 0 0 0 125 [some (.ref 55), some (.int (iI le)), some (.int (iI 1)), some (.int (iI v)), some (.int (iI i))] [] (S0 ++ T) σ1 := by
  intro n
  induction n with
  | zero =>
    intro j i σ1 hj hi hσ hz
    obtain ⟨⟨q0, q1, q2, q3, q4, q5, q6, q7⟩, hVi, hWe, hCo, hOf, hBo, hWo, hMo, hRe, hLi, hTa⟩ := id hO
    have hP := dP_rng hO h1
    have hL := dL_rng A
    obtain ⟨⟨r1', r2'⟩, rP', rK'⟩ := id hB
    have r1 : σ1 55 21 = dL A := by rw [hσ 55 (by decide)]; exact r1'
    have r2 : σ1 55 22 = dP A set := by rw [hσ 55 (by decide)]; exact r2'
    refine v_iload4 d_M_byBest_125 ?_
    refine v_aload0 d_M_byBest_127 ?_
    refine v_getJ (ji := 21) d_M_byBest_128 f_M_279 (sh_55 T) rfl rfl (fun g128 => ?_)
    refine v_icmp_ge d_M_byBest_131 (by omega) (by omega) (fun u131 => ?_) (fun u131 => ?_)
    · refine v_drop4 ?_
      exact K σ1 hσ (fun k k1 k2 => hz k k1 (by omega))
    · omega
  | succ n ih =>
    intro j i σ1 hj hi hσ hz
    obtain ⟨⟨q0, q1, q2, q3, q4, q5, q6, q7⟩, hVi, hWe, hCo, hOf, hBo, hWo, hMo, hRe, hLi, hTa⟩ := id hO
    have hP := dP_rng hO h1
    have hL := dL_rng A
    obtain ⟨⟨r1', r2'⟩, rP', rK'⟩ := id hB
    have r1 : σ1 55 21 = dL A := by rw [hσ 55 (by decide)]; exact r1'
    have r2 : σ1 55 22 = dP A set := by rw [hσ 55 (by decide)]; exact r2'
    have hci := hc i (by omega) (by omega)
    have hki : σ1 66 i = ch i := by rw [hσ 66 (by decide)]; exact (rK' i (by omega) (by omega)).2.1
    refine v_iload4 d_M_byBest_125 ?_
    refine v_aload0 d_M_byBest_127 ?_
    refine v_getJ (ji := 21) d_M_byBest_128 f_M_279 (sh_55 T) rfl rfl (fun g128 => ?_)
    refine v_icmp_ge d_M_byBest_131 (by omega) (by omega) (fun u131 => ?_) (fun u131 => ?_)
    · omega
    · refine v_aload0 d_M_byBest_134 ?_
      refine v_getR d_M_byBest_135 f_M_44 (sh_55 T) rfl ?_
      refine v_iload4 d_M_byBest_138 ?_
      refine v_aload0 d_M_byBest_140 ?_
      refine v_getR d_M_byBest_141 f_M_41 (sh_55 T) rfl ?_
      refine v_iload4 d_M_byBest_144 ?_
      refine v_iaload d_M_byBest_146 (sh_66 T) (by omega) (fun g146 => ?_)
      refine v_aload0 d_M_byBest_147 ?_
      refine v_getJ (ji := 22) d_M_byBest_148 f_M_276 (sh_55 T) rfl rfl (fun g148 => ?_)
      refine v_icmp_ge d_M_byBest_151 (by omega) (by omega) (fun u151 => ?_) (fun u151 => ?_)
      · refine v_bipush d_M_byBest_169 rfl ?_
        refine v_iastore d_M_byBest_171 (sh_67 T) (by omega) (by omega) ?_
        refine v_iinc4 d_M_byBest_172 (by decide) rfl ?_
        refine v_goto d_M_byBest_175 ?_
        exact ih (j + 1) _ _ (by omega) (by omega) (fun k hk => by rw [vUp_ne hk]; exact hσ k hk) (fun k k1 k2 => by
          by_cases q : k = i
          · subst q; rw [vUp_same]; rw [bstF, if_pos (by omega)]
          · rw [vUp_ix q]; exact hz k k1 (by omega))
      · have hwi : σ1 63 (σ1 66 i) = dWho A set (σ1 66 i) ∧ True := ⟨by rw [hσ 63 (by decide)]; exact (rP' (σ1 66 i) (by omega) (by omega)).1, trivial⟩
        have hwr := dWho_rng hO (set := set) (i := σ1 66 i) (by omega)
        refine v_aload0 d_M_byBest_154 ?_
        refine v_getR d_M_byBest_155 f_M_32 (sh_55 T) rfl ?_
        refine v_aload0 d_M_byBest_158 ?_
        refine v_getR d_M_byBest_159 f_M_41 (sh_55 T) rfl ?_
        refine v_iload4 d_M_byBest_162 ?_
        refine v_iaload d_M_byBest_164 (sh_66 T) (by omega) (fun g164 => ?_)
        refine v_iaload d_M_byBest_165 (sh_63 T) (by omega) (fun g165 => ?_)
        refine v_goto d_M_byBest_166 ?_
        refine v_iastore d_M_byBest_171 (sh_67 T) (by omega) (by omega) ?_
        refine v_iinc4 d_M_byBest_172 (by decide) rfl ?_
        refine v_goto d_M_byBest_175 ?_
        exact ih (j + 1) _ _ (by omega) (by omega) (fun k hk => by rw [vUp_ne hk]; exact hσ k hk) (fun k k1 k2 => by
          by_cases q : k = i
          · subst q; rw [vUp_same]; rw [bstF, if_neg (by omega), hwi.1, hki]
          · rw [vUp_ix q]; exact hz k k1 (by omega))

theorem c_M_byBest_25e {T : vSh} {σ σ1 : vMem} {cx : vCx} {A : Int → Int} (hA : σ 56 = A) (hO : okA A) {set : Int} (h1 : dlP A set) (hM : vM cx 0 0 (some .int) (rP (S0 ++ T) (fun z σ2 => z = (bsE A set).1 ∧ MF σ σ2 ∧ DeM σ2 A set (bsE A set).2 ∧ 0 ≤ z))) {ch : Int → Int} {le mo : Int} (hmo : mo = 0) (hσ : MF σ σ1) (hle : le = (bsE A set).1) (h0 : 0 ≤ le ∧ le ≤ 480000) (hB : BsM σ1 A set ch (bsE A set)) : vV cx y_M_byBest.cls prog_14_method_82_code 5 2 0 0 0 0 25 [some (.ref 55), some (.int (iI le)), some (.int (iI mo)), none, none] [] (S0 ++ T) σ1 := by
  refine v_iload2 d_M_byBest_25 ?_
  refine v_if_eq d_M_byBest_26 (by omega) (fun u26 => ?_) (fun u26 => ?_)
  · refine v_iload1 d_M_byBest_186 ?_
    exact v_ireturn hM d_M_byBest_187 (by omega) ⟨rfl, hle, hσ, ⟨hB.1.1, fun k k1 k2 => ⟨(hB.2.2 k k1 k2).1, (hB.2.2 k k1 k2).2.2 (by omega)⟩⟩, h0.1⟩
  · omega

theorem c_M_byBest_178 {T : vSh} {σ : vMem} {cx : vCx} {A : Int → Int} (hA : σ 56 = A) (hO : okA A) {set : Int} (h1 : dlP A set) (hM : vM cx 0 0 (some .int) (rP (S0 ++ T) (fun z σ2 => z = (bsE A set).1 ∧ MF σ σ2 ∧ DeM σ2 A set (bsE A set).2 ∧ 0 ≤ z))) {σ1 : vMem} {n : Nat} {ch : Int → Int} {b : BsT} {le v : Int} (hσ : MF σ σ1) (hc : inCh A set ch) (hB : BsM σ1 A set ch (bsK A set ch b)) (hle : le = (bsK A set ch b).1) (hb : okBs A set b) (hE : bsR A set (n + 1) ch b = bsE A set) (hms : twF (dP A set) (dL A).toNat - vlF (dP A set) ch (dL A).toNat ≤ (n : Int) + 1) (ih : ∀ (le mo : Int) (σ1 : vMem) (ch : Int → Int) (b : BsT), mo = 1 → twF (dP A set) (dL A).toNat - vlF (dP A set) ch (dL A).toNat ≤ (n : Int) → bsR A set n ch b = bsE A set → inCh A set ch → okBs A set b → BsM σ1 A set ch b → le = b.1 → MF σ σ1 → vV cx y_M_byBest.cls prog_14_method_82_code 5 2 0 0 0 0 25 [some (.ref 55), some (.int (iI le)), some (.int (iI mo)), none, none] [] (S0 ++ T) σ1) : vV cx y_M_byBest.cls prog_14_method_82_code 5 2 0 0 0 0 178 [some (.ref 55), some (.int (iI le)), some (.int (iI 1)), some (.int (iI v)), none] [] (S0 ++ T) σ1 := by
  have hP := dP_rng hO h1
  have hL := dL_rng A
  have hA1 : σ1 56 = A := by rw [hσ 56 (by decide)]; exact hA
  refine v_aload0 d_M_byBest_178 ?_
  refine v_gVZ0 d_M_byBest_179 l_M_285 k_M_goesOn (c_M_goesOn hA1 hO h1 hB.1.1 hB.1.2 (fun k k1 k2 => by rw [(hB.2.2 k k1 k2).2.1]; exact hc k k1 k2)) (sh_55 T) rfl (by decide) (by decide) (Nat.le_of_ble_eq_true rfl) (Nat.zero_le _) (Nat.zero_le _) (fun z179 s179 g179 e179 => ?_)
  refine v_istore2 d_M_byBest_182 (by decide) rfl ?_
  refine v_goto d_M_byBest_183 ?_
  refine v_drop3 ?_
  have hkb := bsK_ok hO h1 hc hb
  have hcg := odF_congr (dP A set) (dL A).toNat (σ1 66) ch (fun k k1 k2 => (hB.2.2 k k1 (by omega)).2.1)
  have hog := odF_rng (dP A set) (by omega) (dL A).toNat ch (fun k k1 k2 => hc k k1 (by omega))
  rw [hcg.1] at e179
  rcases hog.2 with q | q
  · exact c_M_byBest_25e hA hO h1 hM (ch := s179 66) (by rw [e179.1]; exact q) (fun k hk => by rw [e179.2.1 k (by omega)]; exact hσ k hk) (by rw [hle, ← hE, bsR, if_neg (by omega)]) (by rw [hle]; exact ⟨hkb.2, hkb.1.1.2⟩) (by
    have hE2 : bsE A set = bsK A set ch b := by rw [← hE, bsR, if_neg (by omega)]
    rw [hE2]
    refine ⟨by rw [e179.2.1 55 (by decide)]; exact hB.1, fun i i1 i2 => by rw [e179.2.1 63 (by decide), e179.2.1 64 (by decide)]; exact hB.2.1 i i1 i2, fun k k1 k2 => ?_⟩
    have a := hB.2.2 k k1 k2
    rw [e179.2.1 62 (by decide), e179.2.1 67 (by decide)]
    exact ⟨a.1, rfl, a.2.2⟩)
  · refine ih _ _ _ (odF (dP A set) (dL A).toNat ch).1 (bsK A set ch b) (by rw [e179.1]; exact q) ?_ (by rw [← hE, bsR, if_pos q]) (fun k k1 k2 => hog.1 k k1 (by omega)) hkb.1 ?_ hle (fun k hk => by rw [e179.2.1 k (by omega)]; exact hσ k hk)
    · have a := (odF_val (P := dP A set) (by omega) (dL A).toNat ch (fun k k1 k2 => hc k k1 (by omega))).1 q
      omega
    · refine ⟨by rw [e179.2.1 55 (by decide)]; exact hB.1, fun i i1 i2 => by rw [e179.2.1 63 (by decide), e179.2.1 64 (by decide)]; exact hB.2.1 i i1 i2, fun k k1 k2 => ?_⟩
      have a := hB.2.2 k k1 k2
      rw [e179.2.1 62 (by decide), e179.2.1 67 (by decide), e179.2.2]
      exact ⟨a.1, hcg.2 k k1 (by omega), a.2.2⟩

theorem c_M_byBest_25 {T : vSh} {σ : vMem} {cx : vCx} {A : Int → Int} (hA : σ 56 = A) (hO : okA A) {set : Int} (h1 : dlP A set) (hM : vM cx 0 0 (some .int) (rP (S0 ++ T) (fun z σ2 => z = (bsE A set).1 ∧ MF σ σ2 ∧ DeM σ2 A set (bsE A set).2 ∧ 0 ≤ z))) : ∀ (n : Nat) (le mo : Int) (σ1 : vMem) (ch : Int → Int) (b : BsT), mo = 1 → twF (dP A set) (dL A).toNat - vlF (dP A set) ch (dL A).toNat ≤ (n : Int) → bsR A set n ch b = bsE A set → inCh A set ch → okBs A set b → BsM σ1 A set ch b → le = b.1 → MF σ σ1 → vV cx y_M_byBest.cls prog_14_method_82_code 5 2 0 0 0 0 25 [some (.ref 55), some (.int (iI le)), some (.int (iI mo)), none, none] [] (S0 ++ T) σ1 := by
  intro n
  induction n with
  | zero =>
    intro le mo σ1 ch b hmo hms hE hc hb hB hle hσ
    have hP := dP_rng hO h1
    have hL := dL_rng A
    have := vlF_rng (P := dP A set) (by omega) (dL A).toNat ch (fun k k1 k2 => hc k k1 (by omega))
    omega
  | succ n ih =>
    intro le mo σ1 ch b hmo hms hE hc hb hB hle hσ
    subst hmo
    obtain ⟨⟨q0, q1, q2, q3, q4, q5, q6, q7⟩, hVi, hWe, hCo, hOf, hBo, hWo, hMo, hRe, hLi, hTa⟩ := id hO
    have hP := dP_rng hO h1
    have hL := dL_rng A
    have hA1 : σ1 56 = A := by rw [hσ 56 (by decide)]; exact hA
    have hb0 := hb.1
    refine v_iload2 d_M_byBest_25 ?_
    refine v_if_eq d_M_byBest_26 (by omega) (fun u26 => ?_) (fun u26 => ?_)
    · omega
    · refine v_iconst d_M_byBest_29 ?_
      refine v_istore3 d_M_byBest_30 (by decide) rfl ?_
      exact c_M_byBest_31 hA1 hO h1 hB hc (fun σ2 f2 z2 => by
        refine v_iconst d_M_byBest_52 ?_
        refine v_istore3 d_M_byBest_53 (by decide) rfl ?_
        exact c_M_byBest_54 (by rw [f2 56 (by decide)]; exact hA1) hO h1 (BsM_65 f2 hB) hc (fun σ3 f3 g3 => by
            have hB3 := BsM_65 f3 (BsM_65 f2 hB)
            have hA3 : σ3 56 = A := by rw [f3 56 (by decide), f2 56 (by decide)]; exact hA1
            have hgr := gpB_rng hO h1 ch
            have eF : ∀ i, 0 ≤ i → i < dP A set → farI (σ3 65 i) (σ3 64 i) = vAb (lkB A set ch i) := fun i y1 y2 => by
              have e1 : σ3 65 i = dDue A set i - lkB A set ch i := by rw [g3 i y1 y2, lkB]; omega
              rw [e1, (hB3.2.1 i y1 y2).2, far_lk]
            have eG : sm (fun i => farI (σ3 65 i) (σ3 64 i)) (dP A set).toNat = gpB A set ch := sm_congr _ (fun i y1 y2 => eF i y1 (by omega))
            refine v_aload0 d_M_byBest_106 ?_
            refine v_fVI0 d_M_byBest_107 l_M_282 k_M_gapNow (c_M_gapNow (σ := σ3) (P := dP A set) (by rw [f3 55 (by decide), f2 55 (by decide)]; exact hB.1.2) (by omega) (fun i y1 y2 => by rw [eF i y1 y2]; exact vAb_rng (by have := lkB_rng hO set ch i; omega)) (fun i y1 y2 => by have a := g3 i y1 y2; have b := (hB3.2.1 i y1 y2).2; have c := dDue_rng hO set i; have d := lkB_sm hO ch i (dL A).toNat (by omega); omega)) (sh_55 T) rfl (by decide) (by decide) (Nat.le_of_ble_eq_true rfl) (Nat.zero_le _) (Nat.zero_le _) (fun g107 => ?_)
            rw [eG] at g107
            rw [eG]
            refine v_istore3 d_M_byBest_110 (by decide) rfl ?_
            refine v_iload1 d_M_byBest_111 ?_
            refine v_if_lt d_M_byBest_112 (by omega) (fun u112 => ?_) (fun u112 => ?_)
            · refine v_iload3 d_M_byBest_120 ?_
              refine v_istore1 d_M_byBest_121 (by decide) rfl ?_
              refine v_iconst d_M_byBest_122 ?_
              refine v_istore4 d_M_byBest_123 (by decide) rfl ?_
              exact c_M_byBest_125 hA3 hO h1 hB3 hc (fun σ4 f4 g4 => c_M_byBest_178 hA hO h1 hM (fun k hk => by rw [f4 k (by omega), f3 k (by omega), f2 k (by omega)]; exact hσ k hk) hc (by
                have hK : bsK A set ch b = (gpB A set ch, ch) := by rw [bsK, if_pos (by omega)]
                rw [hK]
                refine ⟨by rw [f4 55 (by decide)]; exact hB3.1, fun i i1 i2 => by rw [f4 63 (by decide), f4 64 (by decide)]; exact hB3.2.1 i i1 i2, fun k k1 k2 => ?_⟩
                have a := hB3.2.2 k k1 k2
                rw [f4 62 (by decide), f4 66 (by decide)]
                exact ⟨a.1, a.2.1, fun _ => g4 k k1 k2⟩) (by rw [bsK, if_pos (by omega)]) hb hE (by omega) ih) (dL A).toNat 0 _ _ (by omega) rfl (fun k _ => rfl) (fun k k1 k2 => by omega)
            · refine v_iload3 d_M_byBest_115 ?_
              refine v_iload1 d_M_byBest_116 ?_
              refine v_icmp_ge d_M_byBest_117 (by omega) (by omega) (fun u117 => ?_) (fun u117 => ?_)
              · have hK : bsK A set ch b = b := by rw [bsK, if_neg (by omega)]
                exact c_M_byBest_178 hA hO h1 hM (fun k hk => by rw [f3 k (by omega), f2 k (by omega)]; exact hσ k hk) hc (by rw [hK]; exact hB3) (by rw [hK]; exact hle) hb hE (by omega) ih
              · refine v_iload3 d_M_byBest_120 ?_
                refine v_istore1 d_M_byBest_121 (by decide) rfl ?_
                refine v_iconst d_M_byBest_122 ?_
                refine v_istore4 d_M_byBest_123 (by decide) rfl ?_
                exact c_M_byBest_125 hA3 hO h1 hB3 hc (fun σ4 f4 g4 => c_M_byBest_178 hA hO h1 hM (fun k hk => by rw [f4 k (by omega), f3 k (by omega), f2 k (by omega)]; exact hσ k hk) hc (by
                  have hK : bsK A set ch b = (gpB A set ch, ch) := by rw [bsK, if_pos (by omega)]
                  rw [hK]
                  refine ⟨by rw [f4 55 (by decide)]; exact hB3.1, fun i i1 i2 => by rw [f4 63 (by decide), f4 64 (by decide)]; exact hB3.2.1 i i1 i2, fun k k1 k2 => ?_⟩
                  have a := hB3.2.2 k k1 k2
                  rw [f4 62 (by decide), f4 66 (by decide)]
                  exact ⟨a.1, a.2.1, fun _ => g4 k k1 k2⟩) (by rw [bsK, if_pos (by omega)]) hb hE (by omega) ih) (dL A).toNat 0 _ _ (by omega) rfl (fun k _ => rfl) (fun k k1 k2 => by omega)) (dL A).toNat 0 _ _ (by omega) rfl (fun k _ => rfl) (fun x y1 y2 => z2 x y1 y2)) (dP A set).toNat 0 _ _ (by omega) rfl (fun k _ => rfl) (fun x y1 y2 => by omega)

theorem c_M_byBest_2 {T : vSh} {σ : vMem} {cx : vCx} {A : Int → Int} (hA : σ 56 = A) (hO : okA A) {set : Int} (h1 : dlP A set) (hp : Pp σ A set (A 1).toNat) (hl : Lt σ A (A 0).toNat) (hM : vM cx 0 0 (some .int) (rP (S0 ++ T) (fun z σ2 => z = (bsE A set).1 ∧ MF σ σ2 ∧ DeM σ2 A set (bsE A set).2 ∧ 0 ≤ z))) : ∀ (n j : Nat) (i : Int) (σ1 : vMem), (j : Int) + n = 7 → i = j → (∀ k, k ≠ 66 → σ1 k = σ k) → (∀ k, 0 ≤ k → k < (j : Int) → σ1 66 k = 0) → vV cx y_M_byBest.cls prog_14_method_82_code 5 2 0 0 0 0 2 [some (.ref 55), some (.int (iI i)), none, none, none] [] (S0 ++ T) σ1 := by
  intro n
  induction n with
  | zero =>
    intro j i σ1 hj hi hσ hz
    obtain ⟨⟨q0, q1, q2, q3, q4, q5, q6, q7⟩, hVi, hWe, hCo, hOf, hBo, hWo, hMo, hRe, hLi, hTa⟩ := id hO
    have hP := dP_rng hO h1
    have hL := dL_rng A
    refine v_iload1 d_M_byBest_2 ?_
    refine v_bipush d_M_byBest_3 rfl ?_
    refine v_icmp_ge d_M_byBest_5 (by omega) (by omega) (fun u5 => ?_) (fun u5 => ?_)
    · refine v_iconst d_M_byBest_21 ?_
      refine v_istore1 d_M_byBest_22 (by decide) rfl ?_
      refine v_iconst d_M_byBest_23 ?_
      refine v_istore2 d_M_byBest_24 (by decide) rfl ?_
      exact c_M_byBest_25 hA hO h1 hM 16384 _ _ _ (fun _ => 0) (-1, fun _ => 0) rfl (by
        have a := twF_most hO h1
        have b := vlF_rng (P := dP A set) (by omega) (dL A).toNat (fun _ => 0) (fun k _ _ => by omega)
        omega) rfl (fun k _ _ => by show (0 : Int) ≤ 0 ∧ 0 ≤ dP A set; omega) ⟨by decide, fun k _ _ => by show (0 : Int) ≤ 0 ∧ 0 ≤ dP A set; omega⟩ ⟨⟨by rw [hσ 55 (by decide)]; exact hl.1, by rw [hσ 55 (by decide)]; exact hp.1⟩, fun x x1 x2 => by
        rw [hσ 63 (by decide), hσ 64 (by decide)]
        exact ⟨(hp.2 x x1 x2).1, (hp.2 x x1 x2).2.1⟩, fun k k1 k2 => by
        rw [hσ 62 (by decide)]
        exact ⟨(hl.2 k k1 k2).1, hz k k1 (by omega), fun w => by exfalso; exact absurd w (by decide)⟩⟩ rfl (fun k hk => hσ k (by omega))
    · omega
  | succ n ih =>
    intro j i σ1 hj hi hσ hz
    obtain ⟨⟨q0, q1, q2, q3, q4, q5, q6, q7⟩, hVi, hWe, hCo, hOf, hBo, hWo, hMo, hRe, hLi, hTa⟩ := id hO
    have hP := dP_rng hO h1
    have hL := dL_rng A
    refine v_iload1 d_M_byBest_2 ?_
    refine v_bipush d_M_byBest_3 rfl ?_
    refine v_icmp_ge d_M_byBest_5 (by omega) (by omega) (fun u5 => ?_) (fun u5 => ?_)
    · omega
    · refine v_aload0 d_M_byBest_8 ?_
      refine v_getR d_M_byBest_9 f_M_41 (sh_55 T) rfl ?_
      refine v_iload1 d_M_byBest_12 ?_
      refine v_iconst d_M_byBest_13 ?_
      refine v_iastore d_M_byBest_14 (sh_66 T) (by omega) (by omega) ?_
      refine v_iinc1 d_M_byBest_15 (by decide) rfl ?_
      refine v_goto d_M_byBest_18 ?_
      exact ih (j + 1) _ _ (by omega) (by omega) (fun k hk => by rw [vUp_ne hk]; exact hσ k hk) (fun x y1 y2 => by
        by_cases q : x = i
        · subst q; exact vUp_same _ _ _ _
        · rw [vUp_ix q]; exact hz x y1 (by omega))

theorem c_M_byBest {T : vSh} {σ : vMem} {A : Int → Int} (hA : σ 56 = A) (hO : okA A) {set : Int} (h1 : dlP A set) (hp : Pp σ A set (A 1).toNat) (hl : Lt σ A (A 0).toNat) : mt_M_byBest [.ref 55] (S0 ++ T) σ (rP (S0 ++ T) (fun z σ2 => z = (bsE A set).1 ∧ MF σ σ2 ∧ DeM σ2 A set (bsE A set).2 ∧ 0 ≤ z)) := by
  refine vMet.intro 4 (by decide +kernel) (Nat.le_of_ble_eq_true rfl) rfl (fun cx hM _ => ?_)
  obtain ⟨⟨q0, q1, q2, q3, q4, q5, q6, q7⟩, hVi, hWe, hCo, hOf, hBo, hWo, hMo, hRe, hLi, hTa⟩ := id hO
  refine v_iconst d_M_byBest_0 ?_
  refine v_istore1 d_M_byBest_1 (by decide) rfl ?_
  exact c_M_byBest_2 hA hO h1 hp hl hM 7 0 _ _ (by omega) rfl (fun k _ => rfl) (fun x y1 y2 => by omega)

theorem c_M_deal {T : vSh} {σ : vMem} {A : Int → Int} (hA : σ 56 = A) (hO : okA A) {set best : Int} (h0 : vIn set) (hb : best = 0 ∨ best = 1) : mt_M_deal [.ref 55, .int (iI set), .int (iI best)] (S0 ++ T) σ (rP (S0 ++ T) (fun z σ2 => z = rDeal A set best ∧ MF σ σ2 ∧ (dlP A set → DeM σ2 A set (dlE A set best).2 ∧ 0 ≤ z))) := by
  refine vMet.intro 0 (by decide +kernel) (Nat.le_of_ble_eq_true rfl) rfl (fun cx hM _ => ?_)
  obtain ⟨⟨q0, q1, q2, q3, q4, q5, q6, q7⟩, hVi, hWe, hCo, hOf, hBo, hWo, hMo, hRe, hLi, hTa⟩ := id hO
  refine v_aload0 d_M_deal_0 ?_
  refine v_iload1 d_M_deal_1 ?_
  refine v_gVZ1 d_M_deal_2 l_M_289 k_M_begins (c_M_begins hA hO (by omega)) (sh_55 T) rfl (by decide) (by decide) (Nat.le_of_ble_eq_true rfl) (Nat.zero_le _) (Nat.zero_le _) (fun z2 s2 g2 e2 => ?_)
  have hA2 : s2 56 = A := by rw [e2.2.1 56 (by decide)]; exact hA
  have h2b := e2.1
  refine v_if_ne d_M_deal_5 (by omega) (fun u5 => ?_) (fun u5 => ?_)
  · have hd9 : dlP A set := by_contra9 (fun w => by have := b01_0 w; omega)
    obtain ⟨hp9, hl9⟩ := e2.2.2 hd9
    refine v_iload2 d_M_deal_12 ?_
    refine v_if_eq d_M_deal_13 (by omega) (fun u13 => ?_) (fun u13 => ?_)
    · refine v_aload0 d_M_deal_23 ?_
      refine v_gVI0 d_M_deal_24 l_M_295 k_M_byRule (c_M_byRule hA2 hO hd9 hp9 hl9) (sh_55 T) rfl (by decide) (by decide) (Nat.le_of_ble_eq_true rfl) (Nat.zero_le _) (Nat.zero_le _) (fun z24 s24 g24 e24 => ?_)
      exact v_ireturn hM d_M_deal_27 g24 ⟨rfl, by rw [rDeal, if_pos hd9, dlE, if_pos (by omega)]; exact e24.1, e2.2.1.trans' e24.2.1, fun _ => ⟨by rw [dlE, if_pos (by omega)]; exact e24.2.2, by rw [e24.1]; exact (gapF_rng (dP A set).toNat (fun i i1 i2 => by have := dP_rng hO hd9; have hL := dL_rng A; have := (ruR_ok hO (set := set) (by omega) (dL A).toNat (by omega)).2.2 i i1 (by omega); omega)).1⟩⟩
    · refine v_aload0 d_M_deal_16 ?_
      refine v_gVI0 d_M_deal_17 l_M_292 k_M_byBest (c_M_byBest hA2 hO hd9 hp9 hl9) (sh_55 T) rfl (by decide) (by decide) (Nat.le_of_ble_eq_true rfl) (Nat.zero_le _) (Nat.zero_le _) (fun z17 s17 g17 e17 => ?_)
      refine v_goto d_M_deal_20 ?_
      exact v_ireturn hM d_M_deal_27 g17 ⟨rfl, by rw [rDeal, if_pos hd9, dlE, if_neg (by omega)]; exact e17.1, e2.2.1.trans' e17.2.1, fun _ => ⟨by rw [dlE, if_neg (by omega)]; exact e17.2.2.1, e17.2.2.2⟩⟩
  · refine v_iconst d_M_deal_8 ?_
    refine v_goto d_M_deal_9 ?_
    exact v_ireturn hM d_M_deal_27 (by omega) ⟨rfl, by rw [rDeal, if_neg (fun z => by have := b01_1 (p := dlP A set) z; omega)], e2.2.1, fun z => by have := b01_1 (p := dlP A set) z; omega⟩

theorem c_M_dealt_14 {T : vSh} {σ : vMem} {cx : vCx} {A : Int → Int} (hA : σ 56 = A) (hO : okA A) {set best v : Int} (h0 : vIn set) (hb : best = 0 ∨ best = 1) (h2 : vIn v) {σ1 : vMem} (hσ : MF σ σ1) (hd9 : dlP A set) (hD : DeM σ1 A set (dlE A set best).2) (hch : ∀ k, 0 ≤ k → k < dL A → 0 ≤ (dlE A set best).2 k ∧ (dlE A set best).2 k ≤ dP A set) (hM : vM cx 0 0 (some .int) (rP (S0 ++ T) (fun z σ2 => z = rDealt A set best v ∧ MF σ σ2))) : ∀ (n j : Nat) (i : Int), (j : Int) + n = dL A → i = j → fst (fun k => dLot A k = v ∧ (dlE A set best).2 k < dP A set) j < 0 → vV cx y_M_dealt.cls prog_14_method_84_code 5 10 0 0 0 0 14 [some (.ref 55), some (.int (iI set)), some (.int (iI best)), some (.int (iI v)), some (.int (iI i))] [] (S0 ++ T) σ1 := by
  intro n
  induction n with
  | zero =>
    intro j i hj hi hz
    obtain ⟨⟨q0, q1, q2, q3, q4, q5, q6, q7⟩, hVi, hWe, hCo, hOf, hBo, hWo, hMo, hRe, hLi, hTa⟩ := id hO
    have hP := dP_rng hO hd9
    have hL := dL_rng A
    have r1 := hD.1
    refine v_iload4 d_M_dealt_14 ?_
    refine v_aload0 d_M_dealt_16 ?_
    refine v_getJ (ji := 21) d_M_dealt_17 f_M_279 (sh_55 T) rfl rfl (fun g17 => ?_)
    refine v_icmp_ge d_M_dealt_20 (by omega) (by omega) (fun u20 => ?_) (fun u20 => ?_)
    · refine v_iconst d_M_dealt_60 ?_
      exact v_ireturn hM d_M_dealt_61 (by omega) ⟨rfl, by rw [rDealt, if_pos hd9, dlR, show (dL A).toNat = j by omega, if_pos hz], hσ⟩
    · omega
  | succ n ih =>
    intro j i hj hi hz
    obtain ⟨⟨q0, q1, q2, q3, q4, q5, q6, q7⟩, hVi, hWe, hCo, hOf, hBo, hWo, hMo, hRe, hLi, hTa⟩ := id hO
    have hP := dP_rng hO hd9
    have hL := dL_rng A
    have r1 := hD.1
    have hki := hD.2 i (by omega) (by omega)
    have hci := hch i (by omega) (by omega)
    have hli := dLot_rng hO (k := i) (by omega)
    have hbi : (dlE A set best).2 i < dP A set → σ1 67 i = dWho A set ((dlE A set best).2 i) ∧ 0 ≤ dWho A set ((dlE A set best).2 i) ∧ dWho A set ((dlE A set best).2 i) < A 1 := fun z => ⟨by rw [hki.2, bstF, if_neg (by omega)], dWho_rng hO (by omega)⟩
    have hbj : ¬ (dlE A set best).2 i < dP A set → σ1 67 i = 10 := fun z => by rw [hki.2, bstF, if_pos (by omega)]
    refine v_iload4 d_M_dealt_14 ?_
    refine v_aload0 d_M_dealt_16 ?_
    refine v_getJ (ji := 21) d_M_dealt_17 f_M_279 (sh_55 T) rfl rfl (fun g17 => ?_)
    refine v_icmp_ge d_M_dealt_20 (by omega) (by omega) (fun u20 => ?_) (fun u20 => ?_)
    · omega
    · refine v_aload0 d_M_dealt_23 ?_
      refine v_getR d_M_dealt_24 f_M_29 (sh_55 T) rfl ?_
      refine v_iload4 d_M_dealt_27 ?_
      refine v_iaload d_M_dealt_29 (sh_62 T) (by omega) (fun g29 => ?_)
      refine v_iload3 d_M_dealt_30 ?_
      refine v_icmp_ne d_M_dealt_31 (by omega) (by omega) (fun u31 => ?_) (fun u31 => ?_)
      · refine v_iinc4 d_M_dealt_54 (by decide) rfl ?_
        refine v_goto d_M_dealt_57 ?_
        exact ih (j + 1) _ (by omega) (by omega) (fst_no _ hz (by rw [← hi]; omega))
      · refine v_aload0 d_M_dealt_34 ?_
        refine v_getR d_M_dealt_35 f_M_44 (sh_55 T) rfl ?_
        refine v_iload4 d_M_dealt_38 ?_
        refine v_iaload d_M_dealt_40 (sh_67 T) (by omega) (fun g40 => ?_)
        refine v_bipush d_M_dealt_41 rfl ?_
        refine v_icmp_ge d_M_dealt_43 (by omega) (by omega) (fun u43 => ?_) (fun u43 => ?_)
        · refine v_iinc4 d_M_dealt_54 (by decide) rfl ?_
          refine v_goto d_M_dealt_57 ?_
          exact ih (j + 1) _ (by omega) (by omega) (fst_no _ hz (by rw [← hi]; omega))
        · refine v_aload0 d_M_dealt_46 ?_
          refine v_getR d_M_dealt_47 f_M_44 (sh_55 T) rfl ?_
          refine v_iload4 d_M_dealt_50 ?_
          refine v_iaload d_M_dealt_52 (sh_67 T) (by omega) (fun g52 => ?_)
          have e9 := fst_at (fun k => dLot A k = v ∧ (dlE A set best).2 k < dP A set) hz (by rw [← hi]; omega)
          have e8 := fst_stay (fun k => dLot A k = v ∧ (dlE A set best).2 k < dP A set) (m := j + 1) (by omega) (dL A).toNat (by omega)
          rw [e9] at e8
          exact v_ireturn hM d_M_dealt_53 (by omega) ⟨rfl, by rw [rDealt, if_pos hd9, dlR, e8, if_neg (by omega), ← hi]; omega, hσ⟩

theorem dlE_in {A : Int → Int} (hO : okA A) {set : Int} (h : dlP A set) (best : Int) : ∀ k, 0 ≤ k → k < dL A → 0 ≤ (dlE A set best).2 k ∧ (dlE A set best).2 k ≤ dP A set := by
  unfold dlE
  split
  · exact ru_all hO h
  · exact (bsR_ok hO h 16384 (fun _ => 0) (-1, fun _ => 0) (fun k _ _ => by have := dP_rng hO h; show (0 : Int) ≤ 0 ∧ 0 ≤ dP A set; omega) ⟨by decide, fun k _ _ => by have := dP_rng hO h; show (0 : Int) ≤ 0 ∧ 0 ≤ dP A set; omega⟩).2
theorem c_M_dealt {T : vSh} {σ : vMem} {A : Int → Int} (hA : σ 56 = A) (hO : okA A) {set best v : Int} (h0 : vIn set) (hb : best = 0 ∨ best = 1) (h2 : vIn v) : mt_M_dealt [.ref 55, .int (iI set), .int (iI best), .int (iI v)] (S0 ++ T) σ (rP (S0 ++ T) (fun z σ2 => z = rDealt A set best v ∧ MF σ σ2)) := by
  refine vMet.intro 1 (by decide +kernel) (Nat.le_of_ble_eq_true rfl) rfl (fun cx hM _ => ?_)
  obtain ⟨⟨q0, q1, q2, q3, q4, q5, q6, q7⟩, hVi, hWe, hCo, hOf, hBo, hWo, hMo, hRe, hLi, hTa⟩ := id hO
  refine v_aload0 d_M_dealt_0 ?_
  refine v_iload1 d_M_dealt_1 ?_
  refine v_iload2 d_M_dealt_2 ?_
  refine v_gVI2 d_M_dealt_3 l_M_298 k_M_deal (c_M_deal hA hO (by omega) (by omega)) (sh_55 T) rfl (by decide) (by decide) (Nat.le_of_ble_eq_true rfl) (Nat.zero_le _) (Nat.zero_le _) (fun z3 s3 g3 e3 => ?_)
  refine v_if_ge d_M_dealt_6 (by omega) (fun u6 => ?_) (fun u6 => ?_)
  · refine v_iconst d_M_dealt_11 ?_
    refine v_istore4 d_M_dealt_12 (by decide) rfl ?_
    have hd9 : dlP A set := by_contra9 (fun w => by have := e3.1; rw [rDeal, if_neg w] at this; omega)
    have hL := dL_rng A
    exact c_M_dealt_14 hA hO h0 hb h2 e3.2.1 hd9 (e3.2.2 hd9).1 (dlE_in hO hd9 best) hM (dL A).toNat 0 _ (by omega) rfl (show (-1 : Int) < 0 by decide)
  · refine v_iconst d_M_dealt_9 ?_
    exact v_ireturn hM d_M_dealt_10 (by omega) ⟨rfl, by rw [rDealt, if_neg (fun z => by have := (e3.2.2 z).2; omega)], e3.2.1⟩

