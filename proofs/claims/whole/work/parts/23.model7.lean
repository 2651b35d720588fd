theorem c_M_dueOf_12 {T : vSh} {σ : vMem} {cx : vCx} {A : Int → Int} (hA : σ 56 = A) (hO : okA A) {oo s k : Int} (h0 : 0 ≤ oo ∧ oo < A 1) (h1 : 0 ≤ s ∧ s < 20) (h2 : vIn k) (hM : vM cx 0 0 (some .int) (rP (S0 ++ T) (fun z σ2 => z = dueF A oo s k ∧ MF σ σ2))) : ∀ (n j : Nat) (sum fi dd : Int) (σ1 : vMem), (j : Int) + n = 60 → dd = 60 * s + j → (∀ k, k ≠ 61 → σ1 k = σ k) → sum = dueS A oo s k j → (fi = 0 ∨ fi = 1) → (fi = 0 → srvF A oo (dd - 1) → σ1 61 4 = dueY A oo (dd - 1) k) → vV cx y_M_dueOf.cls prog_14_method_68_code 7 7 0 0 0 0 12 [some (.ref 55), some (.int (iI oo)), some (.int (iI s)), some (.int (iI k)), some (.int (iI sum)), some (.int (iI fi)), some (.int (iI dd))] [] (S0 ++ T) σ1 := by
  intro n
  induction n with
  | zero =>
    intro j sum fi dd σ1 hj hi hσ hs hf hv
    obtain ⟨⟨q0, q1, q2, q3, q4, q5, q6, q7⟩, hVi, hWe, hCo, hOf, hBo, hWo, hMo, hRe, hLi, hTa⟩ := id hO
    have hA1 : σ1 56 = A := by rw [hσ 56 (by decide)]; exact hA
    have hsr := dueS_rng hO oo s k j
    have hdr := dueD_rng hO oo dd k
    have hd9 : dueS A oo s k (j + 1) = dueS A oo s k j + dueD A oo dd k := by rw [dueS, ← hi]
    have hyr := dueY_rng hO oo dd k
    refine v_iload6 d_M_dueOf_12 ?_
    refine v_bipush d_M_dueOf_14 rfl ?_
    refine v_iload2 d_M_dueOf_16 ?_
    refine v_imul d_M_dueOf_17 ?_
    refine v_bipush d_M_dueOf_18 rfl ?_
    refine v_iadd d_M_dueOf_20 ?_
    refine v_icmp_ge d_M_dueOf_21 (by omega) (by omega) (fun u21 => ?_) (fun u21 => ?_)
    · refine v_iload4 d_M_dueOf_80 ?_
      refine v_bipush d_M_dueOf_82 rfl ?_
      refine v_idiv d_M_dueOf_84 (by omega) (by omega) ?_
      exact v_ireturn hM d_M_dueOf_85 (by omega) ⟨rfl, by rw [dueF, hs, show j = 60 by omega], MF_61 hσ⟩
    · omega
  | succ n ih =>
    intro j sum fi dd σ1 hj hi hσ hs hf hv
    obtain ⟨⟨q0, q1, q2, q3, q4, q5, q6, q7⟩, hVi, hWe, hCo, hOf, hBo, hWo, hMo, hRe, hLi, hTa⟩ := id hO
    have hA1 : σ1 56 = A := by rw [hσ 56 (by decide)]; exact hA
    have hsr := dueS_rng hO oo s k j
    have hdr := dueD_rng hO oo dd k
    have hd9 : dueS A oo s k (j + 1) = dueS A oo s k j + dueD A oo dd k := by rw [dueS, ← hi]
    have hyr := dueY_rng hO oo dd k
    refine v_iload6 d_M_dueOf_12 ?_
    refine v_bipush d_M_dueOf_14 rfl ?_
    refine v_iload2 d_M_dueOf_16 ?_
    refine v_imul d_M_dueOf_17 ?_
    refine v_bipush d_M_dueOf_18 rfl ?_
    refine v_iadd d_M_dueOf_20 ?_
    refine v_icmp_ge d_M_dueOf_21 (by omega) (by omega) (fun u21 => ?_) (fun u21 => ?_)
    · omega
    · refine v_aload0 d_M_dueOf_24 ?_
      refine v_iload1 d_M_dueOf_25 ?_
      refine v_iload6 d_M_dueOf_26 ?_
      refine v_fVZ2 d_M_dueOf_28 l_M_113 k_M_serves (c_M_serves hA1 (by omega) (by omega)) (sh_55 T) rfl (by decide) (by decide) (Nat.le_of_ble_eq_true rfl) (Nat.zero_le _) (Nat.zero_le _) (fun g28 => ?_)
      refine v_ifb_ne d_M_dueOf_31 (fun u31 => ?_) (fun u31 => ?_)
      · have hq9 : dueD A oo dd k = dueY A oo dd k := by rw [dueD, if_pos (by omega)]
        refine v_iload5 d_M_dueOf_37 ?_
        refine v_if_ne d_M_dueOf_39 (by omega) (fun u39 => ?_) (fun u39 => ?_)
        · refine v_aload0 d_M_dueOf_52 ?_
          refine v_iload1 d_M_dueOf_53 ?_
          refine v_iload6 d_M_dueOf_54 ?_
          refine v_iload3 d_M_dueOf_56 ?_
          refine v_gVV3 d_M_dueOf_57 l_M_94 k_M_scales (c_M_scales hA1 hO (by omega) (by omega) (by omega) (by omega)) (sh_55 T) rfl (by decide) (by decide) (Nat.le_of_ble_eq_true rfl) (Nat.zero_le _) (Nat.zero_le _) (fun z57 s57 e57 => ?_)
          have e9 := e57.2.2
          refine v_iconst d_M_dueOf_60 ?_
          refine v_istore5 d_M_dueOf_61 (by decide) rfl ?_
          refine v_iload4 d_M_dueOf_63 ?_
          refine v_aload0 d_M_dueOf_65 ?_
          refine v_getR d_M_dueOf_66 f_M_26 (sh_55 T) rfl ?_
          refine v_iconst d_M_dueOf_69 ?_
          refine v_iaload d_M_dueOf_70 (sh_61 T) (by omega) (fun g70 => ?_)
          refine v_iadd d_M_dueOf_71 ?_
          refine v_istore4 d_M_dueOf_72 (by decide) rfl ?_
          refine v_iinc6 d_M_dueOf_74 (by decide) rfl ?_
          refine v_goto d_M_dueOf_77 ?_
          first
          | (exact ih (j + 1) _ _ _ _ (by omega) (by omega) (fun k hk => by rw [e57.1 k hk]; exact hσ k hk) (by omega) (Or.inl rfl) (fun _ _ => by rw [show dd + 1 - 1 = dd by omega]; omega))
          | (exact ih (j + 1) _ _ _ _ (by omega) (by omega) hσ (by omega) (Or.inl rfl) (fun _ _ => by rw [show dd + 1 - 1 = dd by omega]; omega))
          | (exact ih (j + 1) _ _ _ _ (by omega) (by omega) hσ (by rw [hd9, dueD, if_neg (by omega), hs]; omega) hf (fun _ q => absurd q (by rw [show dd + 1 - 1 = dd by omega]; omega)))
        · refine v_aload0 d_M_dueOf_42 ?_
          refine v_iload1 d_M_dueOf_43 ?_
          refine v_iload6 d_M_dueOf_44 ?_
          refine v_gVZ2 d_M_dueOf_46 l_M_122 k_M_changes (c_M_changes hA1 hO (by omega) (by omega)) (sh_55 T) rfl (by decide) (by decide) (Nat.le_of_ble_eq_true rfl) (Nat.zero_le _) (Nat.zero_le _) (fun z46 s46 g46 e46 => ?_)
          obtain ⟨rfl, -⟩ := id e46
          refine v_if_eq d_M_dueOf_49 (by omega) (fun u49 => ?_) (fun u49 => ?_)
          · have hnc := e46.2.2.1 u49
            have hn1 := noChg_due hO (by omega) hnc k
            have hn2 := (noChg_srv hnc).mp (by omega)
            have hn3 := hv u39 hn2
            refine v_iconst d_M_dueOf_60 ?_
            refine v_istore5 d_M_dueOf_61 (by decide) rfl ?_
            refine v_iload4 d_M_dueOf_63 ?_
            refine v_aload0 d_M_dueOf_65 ?_
            refine v_getR d_M_dueOf_66 f_M_26 (sh_55 T) rfl ?_
            refine v_iconst d_M_dueOf_69 ?_
            refine v_iaload d_M_dueOf_70 (sh_61 T) (by omega) (fun g70 => ?_)
            refine v_iadd d_M_dueOf_71 ?_
            refine v_istore4 d_M_dueOf_72 (by decide) rfl ?_
            refine v_iinc6 d_M_dueOf_74 (by decide) rfl ?_
            refine v_goto d_M_dueOf_77 ?_
            first
            | (exact ih (j + 1) _ _ _ _ (by omega) (by omega) (fun k hk => by rw [e57.1 k hk]; exact hσ k hk) (by omega) (Or.inl rfl) (fun _ _ => by rw [show dd + 1 - 1 = dd by omega]; omega))
            | (exact ih (j + 1) _ _ _ _ (by omega) (by omega) hσ (by omega) (Or.inl rfl) (fun _ _ => by rw [show dd + 1 - 1 = dd by omega]; omega))
            | (exact ih (j + 1) _ _ _ _ (by omega) (by omega) hσ (by rw [hd9, dueD, if_neg (by omega), hs]; omega) hf (fun _ q => absurd q (by rw [show dd + 1 - 1 = dd by omega]; omega)))
          · refine v_aload0 d_M_dueOf_52 ?_
            refine v_iload1 d_M_dueOf_53 ?_
            refine v_iload6 d_M_dueOf_54 ?_
            refine v_iload3 d_M_dueOf_56 ?_
            refine v_gVV3 d_M_dueOf_57 l_M_94 k_M_scales (c_M_scales hA1 hO (by omega) (by omega) (by omega) (by omega)) (sh_55 T) rfl (by decide) (by decide) (Nat.le_of_ble_eq_true rfl) (Nat.zero_le _) (Nat.zero_le _) (fun z57 s57 e57 => ?_)
            have e9 := e57.2.2
            refine v_iconst d_M_dueOf_60 ?_
            refine v_istore5 d_M_dueOf_61 (by decide) rfl ?_
            refine v_iload4 d_M_dueOf_63 ?_
            refine v_aload0 d_M_dueOf_65 ?_
            refine v_getR d_M_dueOf_66 f_M_26 (sh_55 T) rfl ?_
            refine v_iconst d_M_dueOf_69 ?_
            refine v_iaload d_M_dueOf_70 (sh_61 T) (by omega) (fun g70 => ?_)
            refine v_iadd d_M_dueOf_71 ?_
            refine v_istore4 d_M_dueOf_72 (by decide) rfl ?_
            refine v_iinc6 d_M_dueOf_74 (by decide) rfl ?_
            refine v_goto d_M_dueOf_77 ?_
            first
            | (exact ih (j + 1) _ _ _ _ (by omega) (by omega) (fun k hk => by rw [e57.1 k hk]; exact hσ k hk) (by omega) (Or.inl rfl) (fun _ _ => by rw [show dd + 1 - 1 = dd by omega]; omega))
            | (exact ih (j + 1) _ _ _ _ (by omega) (by omega) hσ (by omega) (Or.inl rfl) (fun _ _ => by rw [show dd + 1 - 1 = dd by omega]; omega))
            | (exact ih (j + 1) _ _ _ _ (by omega) (by omega) hσ (by rw [hd9, dueD, if_neg (by omega), hs]; omega) hf (fun _ q => absurd q (by rw [show dd + 1 - 1 = dd by omega]; omega)))
      · refine v_goto d_M_dueOf_34 ?_
        refine v_iinc6 d_M_dueOf_74 (by decide) rfl ?_
        refine v_goto d_M_dueOf_77 ?_
        first
        | (exact ih (j + 1) _ _ _ _ (by omega) (by omega) (fun k hk => by rw [e57.1 k hk]; exact hσ k hk) (by omega) (Or.inl rfl) (fun _ _ => by rw [show dd + 1 - 1 = dd by omega]; omega))
        | (exact ih (j + 1) _ _ _ _ (by omega) (by omega) hσ (by omega) (Or.inl rfl) (fun _ _ => by rw [show dd + 1 - 1 = dd by omega]; omega))
        | (exact ih (j + 1) _ _ _ _ (by omega) (by omega) hσ (by rw [hd9, dueD, if_neg (by omega), hs]; omega) hf (fun _ q => absurd q (by rw [show dd + 1 - 1 = dd by omega]; omega)))

theorem c_M_dueOf {T : vSh} {σ : vMem} {A : Int → Int} (hA : σ 56 = A) (hO : okA A) {oo s k : Int} (h0 : 0 ≤ oo ∧ oo < A 1) (h1 : 0 ≤ s ∧ s < 20) (h2 : vIn k) : mt_M_dueOf [.ref 55, .int (iI oo), .int (iI s), .int (iI k)] (S0 ++ T) σ (rP (S0 ++ T) (fun z σ2 => z = dueF A oo s k ∧ MF σ σ2)) := by
  refine vMet.intro 3 (by decide +kernel) (Nat.le_of_ble_eq_true rfl) rfl (fun cx hM _ => ?_)
  obtain ⟨⟨q0, q1, q2, q3, q4, q5, q6, q7⟩, hVi, hWe, hCo, hOf, hBo, hWo, hMo, hRe, hLi, hTa⟩ := id hO
  refine v_iconst d_M_dueOf_0 ?_
  refine v_istore4 d_M_dueOf_1 (by decide) rfl ?_
  refine v_iconst d_M_dueOf_3 ?_
  refine v_istore5 d_M_dueOf_4 (by decide) rfl ?_
  refine v_bipush d_M_dueOf_6 rfl ?_
  refine v_iload2 d_M_dueOf_8 ?_
  refine v_imul d_M_dueOf_9 ?_
  refine v_istore6 d_M_dueOf_10 (by decide) rfl ?_
  exact c_M_dueOf_12 hA hO h0 h1 h2 hM 60 0 _ _ _ _ (by omega) (by omega) (fun k _ => rfl) rfl (Or.inr rfl) (fun h => by omega)

def rBal (A : Int → Int) (oo s k : Int) : Int := if (0 ≤ oo ∧ oo < A 1) ∧ (0 ≤ s ∧ s < A 4 / 60) ∧ 0 ≤ k ∧ k ≤ A 4 then balS A oo k (s + 1).toNat else -1000000000
def rDue (A : Int → Int) (oo s k : Int) : Int := if (0 ≤ oo ∧ oo < A 1) ∧ (0 ≤ s ∧ s < 20) ∧ 0 ≤ k ∧ k ≤ A 4 then dueF A oo s k else -1
def rHad (A : Int → Int) (oo s k : Int) : Int := if (0 ≤ oo ∧ oo < A 1) ∧ (0 ≤ s ∧ s < A 4 / 60) ∧ 0 ≤ k ∧ k ≤ A 4 then hadF A oo s k else -1
def rScale (A : Int → Int) (oo d k w : Int) : Int := if (0 ≤ oo ∧ oo < A 1) ∧ (0 ≤ d ∧ d < 1200) ∧ (0 ≤ k ∧ k ≤ A 4) ∧ srvF A oo d then (if w = 0 then (scF A oo d k).1 else if w = 1 then (scF A oo d k).2.1 else if w = 2 then (scF A oo d k).2.2.1 else if w = 3 then (scF A oo d k).2.2.2.1 else if w = 4 then dueY A oo d k else -1) else -1
abbrev overP (A : Int → Int) (v : Int) : Prop := 0 ≤ heldF A v (A 4) (A 4) ∧ (scF A (heldF A v (A 4) (A 4)) (A 4) (A 4)).2.2.2.1 < A (40 + 6 * v + 4)
def rAbout (A : Int → Int) (v w : Int) : Int := if ¬ (0 ≤ v ∧ v < A 0) then -2 else if 0 ≤ w ∧ w ≤ 4 then A (40 + 6 * v + w) else if w = 5 then heldF A v (A 4) (A 4) else if w = 6 then b01 (overP A v) else -2
def rCome (A : Int → Int) (v s : Int) : Int := if (0 ≤ v ∧ v < A 0) ∧ (0 ≤ s ∧ s < A 4 / 60) then A (120 + 20 * v + s) else -1
theorem heldF_srv {A : Int → Int} {v dd k : Int} (h : 0 ≤ heldF A v dd k) : srvF A (heldF A v dd k) dd := ((heldF_iff h v dd k).mp rfl).2
theorem b01_le {p : Prop} [Decidable p] : b01 p ≤ 1 := b01_rng.2
theorem c_M_balance_40 {T : vSh} {σ : vMem} {cx : vCx} {A : Int → Int} (hA : σ 56 = A) (hO : okA A) {oo s k : Int} (h0 : 0 ≤ oo ∧ oo < A 1) (h1 : 0 ≤ s ∧ s < A 4 / 60) (h2 : 0 ≤ k ∧ k ≤ A 4) (hM : vM cx 0 0 (some .int) (rP (S0 ++ T) (fun z σ2 => z = rBal A oo s k ∧ MF σ σ2))) : ∀ (n j : Nat) (sum i : Int) (σ1 : vMem), (j : Int) + n = s + 1 → i = j → MF σ σ1 → sum = balS A oo k j → vV cx y_M_balance.cls prog_14_method_70_code 6 8 0 0 0 0 40 [some (.ref 55), some (.int (iI oo)), some (.int (iI s)), some (.int (iI k)), some (.int (iI sum)), some (.int (iI i))] [] (S0 ++ T) σ1 := by
  intro n
  induction n with
  | zero =>
    intro j sum i σ1 hj hi hσ hs
    obtain ⟨⟨q0, q1, q2, q3, q4, q5, q6, q7⟩, hVi, hWe, hCo, hOf, hBo, hWo, hMo, hRe, hLi, hTa⟩ := id hO
    have hA1 : σ1 56 = A := by rw [hσ 56 (by decide)]; exact hA
    have hbr := balS_rng hO oo k j (by omega)
    refine v_iload5 d_M_balance_40 ?_
    refine v_iload2 d_M_balance_42 ?_
    refine v_icmp_gt d_M_balance_43 (by omega) (by omega) (fun u43 => ?_) (fun u43 => ?_)
    · refine v_iload4 d_M_balance_74 ?_
      exact v_ireturn hM d_M_balance_76 (by omega) ⟨rfl, by rw [rBal, if_pos (by omega), hs]; congr 1; omega, hσ⟩
    · omega
  | succ n ih =>
    intro j sum i σ1 hj hi hσ hs
    obtain ⟨⟨q0, q1, q2, q3, q4, q5, q6, q7⟩, hVi, hWe, hCo, hOf, hBo, hWo, hMo, hRe, hLi, hTa⟩ := id hO
    have hA1 : σ1 56 = A := by rw [hσ 56 (by decide)]; exact hA
    have hbr := balS_rng hO oo k j (by omega)
    have hbr2 := balS_rng hO oo k (j + 1)
    rw [balS, ← hi] at hbr2
    have hbr3 := hbr2 (by omega)
    refine v_iload5 d_M_balance_40 ?_
    refine v_iload2 d_M_balance_42 ?_
    refine v_icmp_gt d_M_balance_43 (by omega) (by omega) (fun u43 => ?_) (fun u43 => ?_)
    · omega
    · refine v_iload4 d_M_balance_46 ?_
      refine v_aload0 d_M_balance_48 ?_
      refine v_iload1 d_M_balance_49 ?_
      refine v_iload5 d_M_balance_50 ?_
      refine v_iload3 d_M_balance_52 ?_
      refine v_gVI3 d_M_balance_53 l_M_128 k_M_hadOf (c_M_hadOf hA1 hO (by omega) (by omega) (by omega)) (sh_55 T) rfl (by decide) (by decide) (Nat.le_of_ble_eq_true rfl) (Nat.zero_le _) (Nat.zero_le _) (fun z53 s53 g53 e53 => ?_)
      have hA53 : s53 56 = A := by rw [e53.2 56 (by decide)]; exact hA1
      refine v_aload0 d_M_balance_56 ?_
      refine v_iload1 d_M_balance_57 ?_
      refine v_iload5 d_M_balance_58 ?_
      refine v_iload3 d_M_balance_60 ?_
      refine v_gVI3 d_M_balance_61 l_M_251 k_M_dueOf (c_M_dueOf hA53 hO (by omega) (by omega) (by omega)) (sh_55 T) rfl (by decide) (by decide) (Nat.le_of_ble_eq_true rfl) (Nat.zero_le _) (Nat.zero_le _) (fun z61 s61 g61 e61 => ?_)
      refine v_isub d_M_balance_64 ?_
      refine v_iadd d_M_balance_65 ?_
      refine v_istore4 d_M_balance_66 (by decide) rfl ?_
      refine v_iinc5 d_M_balance_68 (by decide) rfl ?_
      refine v_goto d_M_balance_71 ?_
      exact ih (j + 1) _ _ _ (by omega) (by omega) ((hσ.trans' e53.2).trans' e61.2) (by rw [balS, ← hi, ← hs, ← e53.1, ← e61.1])

theorem c_M_balance {T : vSh} {σ : vMem} {A : Int → Int} (hA : σ 56 = A) (hO : okA A) {oo s k : Int} (h0 : vIn oo) (h1 : vIn s) (h2 : vIn k) : mt_M_balance [.ref 55, .int (iI oo), .int (iI s), .int (iI k)] (S0 ++ T) σ (rP (S0 ++ T) (fun z σ2 => z = rBal A oo s k ∧ MF σ σ2)) := by
  refine vMet.intro 2 (by decide +kernel) (Nat.le_of_ble_eq_true rfl) rfl (fun cx hM _ => ?_)
  obtain ⟨⟨q0, q1, q2, q3, q4, q5, q6, q7⟩, hVi, hWe, hCo, hOf, hBo, hWo, hMo, hRe, hLi, hTa⟩ := id hO
  refine v_aload0 d_M_balance_0 ?_
  refine v_iload1 d_M_balance_1 ?_
  refine v_iconst d_M_balance_2 ?_
  refine v_fVZ2 d_M_balance_3 l_M_64 k_M_isOf (c_M_isOf hA (by omega) (by omega) (by omega)) (sh_55 T) rfl (by decide) (by decide) (Nat.le_of_ble_eq_true rfl) (Nat.zero_le _) (Nat.zero_le _) (fun g3 => ?_)
  refine v_ifb_eq d_M_balance_6 (fun u6 => ?_) (fun u6 => ?_)
  · refine v_ldc d_M_balance_31 c_M_254 ?_
    exact v_ireturn hM d_M_balance_33 (by omega) ⟨rfl, by rw [rBal, if_neg (by omega)], MF.rfl'⟩
  · refine v_iload2 d_M_balance_9 ?_
    refine v_iconst d_M_balance_10 ?_
    refine v_aload0 d_M_balance_11 ?_
    refine v_fVI0 d_M_balance_12 l_M_60 k_M_ended (c_M_ended hA (by omega)) (sh_55 T) rfl (by decide) (by decide) (Nat.le_of_ble_eq_true rfl) (Nat.zero_le _) (Nat.zero_le _) (fun g12 => ?_)
    refine v_iconst d_M_balance_15 ?_
    refine v_isub d_M_balance_16 ?_
    refine v_fSZ3 d_M_balance_17 l_M_56 k_M_isIn (c_M_isIn (by omega) (by omega) (by omega)) (by decide) (by decide) (Nat.le_of_ble_eq_true rfl) (Nat.zero_le _) (Nat.zero_le _) (fun g17 => ?_)
    refine v_ifb_eq d_M_balance_20 (fun u20 => ?_) (fun u20 => ?_)
    · refine v_ldc d_M_balance_31 c_M_254 ?_
      exact v_ireturn hM d_M_balance_33 (by omega) ⟨rfl, by rw [rBal, if_neg (by omega)], MF.rfl'⟩
    · refine v_aload0 d_M_balance_23 ?_
      refine v_iload3 d_M_balance_24 ?_
      refine v_fVZ1 d_M_balance_25 l_M_116 k_M_isKnown (c_M_isKnown hA (by omega)) (sh_55 T) rfl (by decide) (by decide) (Nat.le_of_ble_eq_true rfl) (Nat.zero_le _) (Nat.zero_le _) (fun g25 => ?_)
      refine v_ifb_ne d_M_balance_28 (fun u28 => ?_) (fun u28 => ?_)
      · refine v_iconst d_M_balance_34 ?_
        refine v_istore4 d_M_balance_35 (by decide) rfl ?_
        refine v_iconst d_M_balance_37 ?_
        refine v_istore5 d_M_balance_38 (by decide) rfl ?_
        exact c_M_balance_40 hA hO (by omega) (by omega) (by omega) hM (s + 1).toNat 0 _ _ _ (by omega) rfl MF.rfl' rfl
      · refine v_ldc d_M_balance_31 c_M_254 ?_
        exact v_ireturn hM d_M_balance_33 (by omega) ⟨rfl, by rw [rBal, if_neg (by omega)], MF.rfl'⟩

theorem c_M_due {T : vSh} {σ : vMem} {A : Int → Int} (hA : σ 56 = A) (hO : okA A) {oo s k : Int} (h0 : vIn oo) (h1 : vIn s) (h2 : vIn k) : mt_M_due [.ref 55, .int (iI oo), .int (iI s), .int (iI k)] (S0 ++ T) σ (rP (S0 ++ T) (fun z σ2 => z = rDue A oo s k ∧ MF σ σ2)) := by
  refine vMet.intro 0 (by decide +kernel) (Nat.le_of_ble_eq_true rfl) rfl (fun cx hM _ => ?_)
  obtain ⟨⟨q0, q1, q2, q3, q4, q5, q6, q7⟩, hVi, hWe, hCo, hOf, hBo, hWo, hMo, hRe, hLi, hTa⟩ := id hO
  have hdu := dueS_rng hO oo s k 60
  refine v_aload0 d_M_due_0 ?_
  refine v_iload1 d_M_due_1 ?_
  refine v_iconst d_M_due_2 ?_
  refine v_fVZ2 d_M_due_3 l_M_64 k_M_isOf (c_M_isOf hA (by omega) (by omega) (by omega)) (sh_55 T) rfl (by decide) (by decide) (Nat.le_of_ble_eq_true rfl) (Nat.zero_le _) (Nat.zero_le _) (fun g3 => ?_)
  refine v_ifb_eq d_M_due_6 (fun u6 => ?_) (fun u6 => ?_)
  · refine v_iconst d_M_due_34 ?_
    first
    | (exact v_ireturn hM d_M_due_35 (by rw [e28.1]; unfold dueF; omega) ⟨rfl, by rw [rDue, if_pos (by omega)]; exact e28.1, e28.2⟩)
    | (exact v_ireturn hM d_M_due_35 (by omega) ⟨rfl, by rw [rDue, if_neg (by omega)], MF.rfl'⟩)
  · refine v_iload2 d_M_due_9 ?_
    refine v_fSZ1 d_M_due_10 l_M_248 k_M_isSeason (c_M_isSeason (by omega)) (by decide) (by decide) (Nat.le_of_ble_eq_true rfl) (Nat.zero_le _) (Nat.zero_le _) (fun g10 => ?_)
    refine v_ifb_eq d_M_due_13 (fun u13 => ?_) (fun u13 => ?_)
    · refine v_iconst d_M_due_34 ?_
      first
      | (exact v_ireturn hM d_M_due_35 (by rw [e28.1]; unfold dueF; omega) ⟨rfl, by rw [rDue, if_pos (by omega)]; exact e28.1, e28.2⟩)
      | (exact v_ireturn hM d_M_due_35 (by omega) ⟨rfl, by rw [rDue, if_neg (by omega)], MF.rfl'⟩)
    · refine v_aload0 d_M_due_16 ?_
      refine v_iload3 d_M_due_17 ?_
      refine v_fVZ1 d_M_due_18 l_M_116 k_M_isKnown (c_M_isKnown hA (by omega)) (sh_55 T) rfl (by decide) (by decide) (Nat.le_of_ble_eq_true rfl) (Nat.zero_le _) (Nat.zero_le _) (fun g18 => ?_)
      refine v_ifb_eq d_M_due_21 (fun u21 => ?_) (fun u21 => ?_)
      · refine v_iconst d_M_due_34 ?_
        first
        | (exact v_ireturn hM d_M_due_35 (by rw [e28.1]; unfold dueF; omega) ⟨rfl, by rw [rDue, if_pos (by omega)]; exact e28.1, e28.2⟩)
        | (exact v_ireturn hM d_M_due_35 (by omega) ⟨rfl, by rw [rDue, if_neg (by omega)], MF.rfl'⟩)
      · refine v_aload0 d_M_due_24 ?_
        refine v_iload1 d_M_due_25 ?_
        refine v_iload2 d_M_due_26 ?_
        refine v_iload3 d_M_due_27 ?_
        refine v_gVI3 d_M_due_28 l_M_251 k_M_dueOf (c_M_dueOf hA hO (by omega) (by omega) (by omega)) (sh_55 T) rfl (by decide) (by decide) (Nat.le_of_ble_eq_true rfl) (Nat.zero_le _) (Nat.zero_le _) (fun z28 s28 g28 e28 => ?_)
        refine v_goto d_M_due_31 ?_
        first
        | (exact v_ireturn hM d_M_due_35 (by rw [e28.1]; unfold dueF; omega) ⟨rfl, by rw [rDue, if_pos (by omega)]; exact e28.1, e28.2⟩)
        | (exact v_ireturn hM d_M_due_35 (by omega) ⟨rfl, by rw [rDue, if_neg (by omega)], MF.rfl'⟩)

theorem c_M_had {T : vSh} {σ : vMem} {A : Int → Int} (hA : σ 56 = A) (hO : okA A) {oo s k : Int} (h0 : vIn oo) (h1 : vIn s) (h2 : vIn k) : mt_M_had [.ref 55, .int (iI oo), .int (iI s), .int (iI k)] (S0 ++ T) σ (rP (S0 ++ T) (fun z σ2 => z = rHad A oo s k ∧ MF σ σ2)) := by
  refine vMet.intro 0 (by decide +kernel) (Nat.le_of_ble_eq_true rfl) rfl (fun cx hM _ => ?_)
  obtain ⟨⟨q0, q1, q2, q3, q4, q5, q6, q7⟩, hVi, hWe, hCo, hOf, hBo, hWo, hMo, hRe, hLi, hTa⟩ := id hO
  refine v_aload0 d_M_had_0 ?_
  refine v_iload1 d_M_had_1 ?_
  refine v_iconst d_M_had_2 ?_
  refine v_fVZ2 d_M_had_3 l_M_64 k_M_isOf (c_M_isOf hA (by omega) (by omega) (by omega)) (sh_55 T) rfl (by decide) (by decide) (Nat.le_of_ble_eq_true rfl) (Nat.zero_le _) (Nat.zero_le _) (fun g3 => ?_)
  refine v_ifb_eq d_M_had_6 (fun u6 => ?_) (fun u6 => ?_)
  · refine v_iconst d_M_had_41 ?_
    first
    | (exact v_ireturn hM d_M_had_42 (by rw [e35.1]; have := hadS_rng hO oo k (s := s) (by omega) (A 0).toNat (by omega); omega) ⟨rfl, by rw [rHad, if_pos (by omega)]; exact e35.1, e35.2⟩)
    | (exact v_ireturn hM d_M_had_42 (by omega) ⟨rfl, by rw [rHad, if_neg (by omega)], MF.rfl'⟩)
  · refine v_iload2 d_M_had_9 ?_
    refine v_iconst d_M_had_10 ?_
    refine v_aload0 d_M_had_11 ?_
    refine v_fVI0 d_M_had_12 l_M_60 k_M_ended (c_M_ended hA (by omega)) (sh_55 T) rfl (by decide) (by decide) (Nat.le_of_ble_eq_true rfl) (Nat.zero_le _) (Nat.zero_le _) (fun g12 => ?_)
    refine v_iconst d_M_had_15 ?_
    refine v_isub d_M_had_16 ?_
    refine v_fSZ3 d_M_had_17 l_M_56 k_M_isIn (c_M_isIn (by omega) (by omega) (by omega)) (by decide) (by decide) (Nat.le_of_ble_eq_true rfl) (Nat.zero_le _) (Nat.zero_le _) (fun g17 => ?_)
    refine v_ifb_eq d_M_had_20 (fun u20 => ?_) (fun u20 => ?_)
    · refine v_iconst d_M_had_41 ?_
      first
      | (exact v_ireturn hM d_M_had_42 (by rw [e35.1]; have := hadS_rng hO oo k (s := s) (by omega) (A 0).toNat (by omega); omega) ⟨rfl, by rw [rHad, if_pos (by omega)]; exact e35.1, e35.2⟩)
      | (exact v_ireturn hM d_M_had_42 (by omega) ⟨rfl, by rw [rHad, if_neg (by omega)], MF.rfl'⟩)
    · refine v_aload0 d_M_had_23 ?_
      refine v_iload3 d_M_had_24 ?_
      refine v_fVZ1 d_M_had_25 l_M_116 k_M_isKnown (c_M_isKnown hA (by omega)) (sh_55 T) rfl (by decide) (by decide) (Nat.le_of_ble_eq_true rfl) (Nat.zero_le _) (Nat.zero_le _) (fun g25 => ?_)
      refine v_ifb_eq d_M_had_28 (fun u28 => ?_) (fun u28 => ?_)
      · refine v_iconst d_M_had_41 ?_
        first
        | (exact v_ireturn hM d_M_had_42 (by rw [e35.1]; have := hadS_rng hO oo k (s := s) (by omega) (A 0).toNat (by omega); omega) ⟨rfl, by rw [rHad, if_pos (by omega)]; exact e35.1, e35.2⟩)
        | (exact v_ireturn hM d_M_had_42 (by omega) ⟨rfl, by rw [rHad, if_neg (by omega)], MF.rfl'⟩)
      · refine v_aload0 d_M_had_31 ?_
        refine v_iload1 d_M_had_32 ?_
        refine v_iload2 d_M_had_33 ?_
        refine v_iload3 d_M_had_34 ?_
        refine v_gVI3 d_M_had_35 l_M_128 k_M_hadOf (c_M_hadOf hA hO (by omega) (by omega) (by omega)) (sh_55 T) rfl (by decide) (by decide) (Nat.le_of_ble_eq_true rfl) (Nat.zero_le _) (Nat.zero_le _) (fun z35 s35 g35 e35 => ?_)
        refine v_goto d_M_had_38 ?_
        first
        | (exact v_ireturn hM d_M_had_42 (by rw [e35.1]; have := hadS_rng hO oo k (s := s) (by omega) (A 0).toNat (by omega); omega) ⟨rfl, by rw [rHad, if_pos (by omega)]; exact e35.1, e35.2⟩)
        | (exact v_ireturn hM d_M_had_42 (by omega) ⟨rfl, by rw [rHad, if_neg (by omega)], MF.rfl'⟩)

theorem c_M_scale {T : vSh} {σ : vMem} {A : Int → Int} (hA : σ 56 = A) (hO : okA A) {oo dd k w : Int} (h0 : vIn oo) (h1 : vIn dd) (h2 : vIn k) (h3 : vIn w) : mt_M_scale [.ref 55, .int (iI oo), .int (iI dd), .int (iI k), .int (iI w)] (S0 ++ T) σ (rP (S0 ++ T) (fun z σ2 => z = rScale A oo dd k w ∧ MF σ σ2)) := by
  refine vMet.intro 0 (by decide +kernel) (Nat.le_of_ble_eq_true rfl) rfl (fun cx hM _ => ?_)
  obtain ⟨⟨q0, q1, q2, q3, q4, q5, q6, q7⟩, hVi, hWe, hCo, hOf, hBo, hWo, hMo, hRe, hLi, hTa⟩ := id hO
  refine v_aload0 d_M_scale_0 ?_
  refine v_iload1 d_M_scale_1 ?_
  refine v_iconst d_M_scale_2 ?_
  refine v_fVZ2 d_M_scale_3 l_M_64 k_M_isOf (c_M_isOf hA (by omega) (by omega) (by omega)) (sh_55 T) rfl (by decide) (by decide) (Nat.le_of_ble_eq_true rfl) (Nat.zero_le _) (Nat.zero_le _) (fun g3 => ?_)
  refine v_ifb_eq d_M_scale_6 (fun u6 => ?_) (fun u6 => ?_)
  · refine v_iconst d_M_scale_43 ?_
    first
    | (have hs9 := scF_rng hO oo dd k
       have hy9 := dueY_rng hO oo dd k
       have he9 : s49 61 w = rScale A oo dd k w := by
         obtain ⟨-, ⟨y0, y1, y2, y3⟩, y4⟩ := e49
         rw [rScale, if_pos (by omega)]
         rcases (show w = 0 ∨ w = 1 ∨ w = 2 ∨ w = 3 ∨ w = 4 by omega) with rfl | rfl | rfl | rfl | rfl
         · exact y0
         · exact y1
         · exact y2
         · exact y3
         · exact y4
       exact v_ireturn hM d_M_scale_44 g58 ⟨rfl, he9, MF_61 e49.1⟩)
    | (exact v_ireturn hM d_M_scale_44 (by omega) ⟨rfl, by rw [rScale, if_neg (by omega : ¬ w = 0), if_neg (by omega : ¬ w = 1), if_neg (by omega : ¬ w = 2), if_neg (by omega : ¬ w = 3), if_neg (by omega : ¬ w = 4)]; split <;> rfl, MF.rfl'⟩)
    | (exact v_ireturn hM d_M_scale_44 (by omega) ⟨rfl, by rw [rScale, if_neg (by omega)], MF.rfl'⟩)
  · refine v_iload2 d_M_scale_9 ?_
    refine v_fSZ1 d_M_scale_10 l_M_101 k_M_isDay (c_M_isDay (by omega)) (by decide) (by decide) (Nat.le_of_ble_eq_true rfl) (Nat.zero_le _) (Nat.zero_le _) (fun g10 => ?_)
    refine v_ifb_eq d_M_scale_13 (fun u13 => ?_) (fun u13 => ?_)
    · refine v_iconst d_M_scale_43 ?_
      first
      | (have hs9 := scF_rng hO oo dd k
         have hy9 := dueY_rng hO oo dd k
         have he9 : s49 61 w = rScale A oo dd k w := by
           obtain ⟨-, ⟨y0, y1, y2, y3⟩, y4⟩ := e49
           rw [rScale, if_pos (by omega)]
           rcases (show w = 0 ∨ w = 1 ∨ w = 2 ∨ w = 3 ∨ w = 4 by omega) with rfl | rfl | rfl | rfl | rfl
           · exact y0
           · exact y1
           · exact y2
           · exact y3
           · exact y4
         exact v_ireturn hM d_M_scale_44 g58 ⟨rfl, he9, MF_61 e49.1⟩)
      | (exact v_ireturn hM d_M_scale_44 (by omega) ⟨rfl, by rw [rScale, if_neg (by omega : ¬ w = 0), if_neg (by omega : ¬ w = 1), if_neg (by omega : ¬ w = 2), if_neg (by omega : ¬ w = 3), if_neg (by omega : ¬ w = 4)]; split <;> rfl, MF.rfl'⟩)
      | (exact v_ireturn hM d_M_scale_44 (by omega) ⟨rfl, by rw [rScale, if_neg (by omega)], MF.rfl'⟩)
    · refine v_aload0 d_M_scale_16 ?_
      refine v_iload3 d_M_scale_17 ?_
      refine v_fVZ1 d_M_scale_18 l_M_116 k_M_isKnown (c_M_isKnown hA (by omega)) (sh_55 T) rfl (by decide) (by decide) (Nat.le_of_ble_eq_true rfl) (Nat.zero_le _) (Nat.zero_le _) (fun g18 => ?_)
      refine v_ifb_eq d_M_scale_21 (fun u21 => ?_) (fun u21 => ?_)
      · refine v_iconst d_M_scale_43 ?_
        first
        | (have hs9 := scF_rng hO oo dd k
           have hy9 := dueY_rng hO oo dd k
           have he9 : s49 61 w = rScale A oo dd k w := by
             obtain ⟨-, ⟨y0, y1, y2, y3⟩, y4⟩ := e49
             rw [rScale, if_pos (by omega)]
             rcases (show w = 0 ∨ w = 1 ∨ w = 2 ∨ w = 3 ∨ w = 4 by omega) with rfl | rfl | rfl | rfl | rfl
             · exact y0
             · exact y1
             · exact y2
             · exact y3
             · exact y4
           exact v_ireturn hM d_M_scale_44 g58 ⟨rfl, he9, MF_61 e49.1⟩)
        | (exact v_ireturn hM d_M_scale_44 (by omega) ⟨rfl, by rw [rScale, if_neg (by omega : ¬ w = 0), if_neg (by omega : ¬ w = 1), if_neg (by omega : ¬ w = 2), if_neg (by omega : ¬ w = 3), if_neg (by omega : ¬ w = 4)]; split <;> rfl, MF.rfl'⟩)
        | (exact v_ireturn hM d_M_scale_44 (by omega) ⟨rfl, by rw [rScale, if_neg (by omega)], MF.rfl'⟩)
      · refine v_aload0 d_M_scale_24 ?_
        refine v_iload1 d_M_scale_25 ?_
        refine v_iload2 d_M_scale_26 ?_
        refine v_fVZ2 d_M_scale_27 l_M_113 k_M_serves (c_M_serves hA (by omega) (by omega)) (sh_55 T) rfl (by decide) (by decide) (Nat.le_of_ble_eq_true rfl) (Nat.zero_le _) (Nat.zero_le _) (fun g27 => ?_)
        refine v_ifb_eq d_M_scale_30 (fun u30 => ?_) (fun u30 => ?_)
        · refine v_iconst d_M_scale_43 ?_
          first
          | (have hs9 := scF_rng hO oo dd k
             have hy9 := dueY_rng hO oo dd k
             have he9 : s49 61 w = rScale A oo dd k w := by
               obtain ⟨-, ⟨y0, y1, y2, y3⟩, y4⟩ := e49
               rw [rScale, if_pos (by omega)]
               rcases (show w = 0 ∨ w = 1 ∨ w = 2 ∨ w = 3 ∨ w = 4 by omega) with rfl | rfl | rfl | rfl | rfl
               · exact y0
               · exact y1
               · exact y2
               · exact y3
               · exact y4
             exact v_ireturn hM d_M_scale_44 g58 ⟨rfl, he9, MF_61 e49.1⟩)
          | (exact v_ireturn hM d_M_scale_44 (by omega) ⟨rfl, by rw [rScale, if_neg (by omega : ¬ w = 0), if_neg (by omega : ¬ w = 1), if_neg (by omega : ¬ w = 2), if_neg (by omega : ¬ w = 3), if_neg (by omega : ¬ w = 4)]; split <;> rfl, MF.rfl'⟩)
          | (exact v_ireturn hM d_M_scale_44 (by omega) ⟨rfl, by rw [rScale, if_neg (by omega)], MF.rfl'⟩)
        · refine v_iload4 d_M_scale_33 ?_
          refine v_iconst d_M_scale_35 ?_
          refine v_iconst d_M_scale_36 ?_
          refine v_fSZ3 d_M_scale_37 l_M_56 k_M_isIn (c_M_isIn (by omega) (by omega) (by omega)) (by decide) (by decide) (Nat.le_of_ble_eq_true rfl) (Nat.zero_le _) (Nat.zero_le _) (fun g37 => ?_)
          refine v_ifb_ne d_M_scale_40 (fun u40 => ?_) (fun u40 => ?_)
          · refine v_aload0 d_M_scale_45 ?_
            refine v_iload1 d_M_scale_46 ?_
            refine v_iload2 d_M_scale_47 ?_
            refine v_iload3 d_M_scale_48 ?_
            refine v_gVV3 d_M_scale_49 l_M_94 k_M_scales (c_M_scales hA hO (by omega) (by omega) (by omega) (by omega)) (sh_55 T) rfl (by decide) (by decide) (Nat.le_of_ble_eq_true rfl) (Nat.zero_le _) (Nat.zero_le _) (fun z49 s49 e49 => ?_)
            refine v_aload0 d_M_scale_52 ?_
            refine v_getR d_M_scale_53 f_M_26 (sh_55 T) rfl ?_
            refine v_iload4 d_M_scale_56 ?_
            refine v_iaload d_M_scale_58 (sh_61 T) (by omega) (fun g58 => ?_)
            first
            | (have hs9 := scF_rng hO oo dd k
               have hy9 := dueY_rng hO oo dd k
               have he9 : s49 61 w = rScale A oo dd k w := by
                 obtain ⟨-, ⟨y0, y1, y2, y3⟩, y4⟩ := e49
                 rw [rScale, if_pos (by omega)]
                 rcases (show w = 0 ∨ w = 1 ∨ w = 2 ∨ w = 3 ∨ w = 4 by omega) with rfl | rfl | rfl | rfl | rfl
                 · exact y0
                 · exact y1
                 · exact y2
                 · exact y3
                 · exact y4
               exact v_ireturn hM d_M_scale_59 g58 ⟨rfl, he9, MF_61 e49.1⟩)
            | (exact v_ireturn hM d_M_scale_59 (by omega) ⟨rfl, by rw [rScale, if_neg (by omega : ¬ w = 0), if_neg (by omega : ¬ w = 1), if_neg (by omega : ¬ w = 2), if_neg (by omega : ¬ w = 3), if_neg (by omega : ¬ w = 4)]; split <;> rfl, MF.rfl'⟩)
            | (exact v_ireturn hM d_M_scale_59 (by omega) ⟨rfl, by rw [rScale, if_neg (by omega)], MF.rfl'⟩)
          · refine v_iconst d_M_scale_43 ?_
            first
            | (have hs9 := scF_rng hO oo dd k
               have hy9 := dueY_rng hO oo dd k
               have he9 : s49 61 w = rScale A oo dd k w := by
                 obtain ⟨-, ⟨y0, y1, y2, y3⟩, y4⟩ := e49
                 rw [rScale, if_pos (by omega)]
                 rcases (show w = 0 ∨ w = 1 ∨ w = 2 ∨ w = 3 ∨ w = 4 by omega) with rfl | rfl | rfl | rfl | rfl
                 · exact y0
                 · exact y1
                 · exact y2
                 · exact y3
                 · exact y4
               exact v_ireturn hM d_M_scale_44 g58 ⟨rfl, he9, MF_61 e49.1⟩)
            | (exact v_ireturn hM d_M_scale_44 (by omega) ⟨rfl, by rw [rScale, if_neg (by omega : ¬ w = 0), if_neg (by omega : ¬ w = 1), if_neg (by omega : ¬ w = 2), if_neg (by omega : ¬ w = 3), if_neg (by omega : ¬ w = 4)]; split <;> rfl, MF.rfl'⟩)
            | (exact v_ireturn hM d_M_scale_44 (by omega) ⟨rfl, by rw [rScale, if_neg (by omega)], MF.rfl'⟩)

theorem c_M_isOver {T : vSh} {σ : vMem} {A : Int → Int} (hA : σ 56 = A) (hO : okA A) {v : Int} (h0 : 0 ≤ v ∧ v < A 0) : mt_M_isOver [.ref 55, .int (iI v)] (S0 ++ T) σ (rP (S0 ++ T) (fun z σ2 => z = b01 (overP A v) ∧ MF σ σ2)) := by
  refine vMet.intro 1 (by decide +kernel) (Nat.le_of_ble_eq_true rfl) rfl (fun cx hM _ => ?_)
  obtain ⟨⟨q0, q1, q2, q3, q4, q5, q6, q7⟩, hVi, hWe, hCo, hOf, hBo, hWo, hMo, hRe, hLi, hTa⟩ := id hO
  have hvi := hVi v (by omega) (by omega)
  refine v_aload0 d_M_isOver_0 ?_
  refine v_iload1 d_M_isOver_1 ?_
  refine v_aload0 d_M_isOver_2 ?_
  refine v_getR d_M_isOver_3 f_M_7 (sh_55 T) rfl ?_
  refine v_iconst d_M_isOver_6 ?_
  refine v_ialoadE hA d_M_isOver_7 (sh_56 T) (by omega) (fun g7 => ?_)
  refine v_aload0 d_M_isOver_8 ?_
  refine v_getR d_M_isOver_9 f_M_7 (sh_55 T) rfl ?_
  refine v_iconst d_M_isOver_12 ?_
  refine v_ialoadE hA d_M_isOver_13 (sh_56 T) (by omega) (fun g13 => ?_)
  refine v_fVI3 d_M_isOver_14 l_M_86 k_M_held (c_M_held hA hO (by omega) (by omega) (by omega)) (sh_55 T) rfl (by decide) (by decide) (Nat.le_of_ble_eq_true rfl) (Nat.zero_le _) (Nat.zero_le _) (fun g14 => ?_)
  refine v_istore2 d_M_isOver_17 (by decide) rfl ?_
  refine v_iload2 d_M_isOver_18 ?_
  refine v_if_ge d_M_isOver_19 (by omega) (fun u19 => ?_) (fun u19 => ?_)
  · refine v_aload0 d_M_isOver_24 ?_
    refine v_iload2 d_M_isOver_25 ?_
    refine v_aload0 d_M_isOver_26 ?_
    refine v_getR d_M_isOver_27 f_M_7 (sh_55 T) rfl ?_
    refine v_iconst d_M_isOver_30 ?_
    refine v_ialoadE hA d_M_isOver_31 (sh_56 T) (by omega) (fun g31 => ?_)
    refine v_aload0 d_M_isOver_32 ?_
    refine v_getR d_M_isOver_33 f_M_7 (sh_55 T) rfl ?_
    refine v_iconst d_M_isOver_36 ?_
    refine v_ialoadE hA d_M_isOver_37 (sh_56 T) (by omega) (fun g37 => ?_)
    have hsv := heldF_srv (A := A) (v := v) (dd := A 4) (k := A 4) (by omega)
    have hhr := heldF_rng hO v (A 4) (A 4)
    refine v_gVV3 d_M_isOver_38 l_M_94 k_M_scales (c_M_scales hA hO (by omega) (by omega) (by omega) (by omega)) (sh_55 T) rfl (by decide) (by decide) (Nat.le_of_ble_eq_true rfl) (Nat.zero_le _) (Nat.zero_le _) (fun z38 s38 e38 => ?_)
    have hA38 : s38 56 = A := by rw [e38.1 56 (by decide)]; exact hA
    have h38 := e38.2.1.2.2.2
    have hs9 := scF_rng hO (heldF A v (A 4) (A 4)) (A 4) (A 4)
    refine v_aload0 d_M_isOver_41 ?_
    refine v_iload1 d_M_isOver_42 ?_
    refine v_iconst d_M_isOver_43 ?_
    refine v_fVI2 d_M_isOver_44 l_M_83 k_M_its (c_M_its hA38 (by omega)) (sh_55 T) rfl (by decide) (by decide) (Nat.le_of_ble_eq_true rfl) (Nat.zero_le _) (Nat.zero_le _) (fun g44 => ?_)
    refine v_aload0 d_M_isOver_47 ?_
    refine v_getR d_M_isOver_48 f_M_26 (sh_55 T) rfl ?_
    refine v_iconst d_M_isOver_51 ?_
    refine v_iaload d_M_isOver_52 (sh_61 T) (by omega) (fun g52 => ?_)
    refine v_icmp_le d_M_isOver_53 (by omega) (by omega) (fun u53 => ?_) (fun u53 => ?_)
    · refine v_iconst d_M_isOver_60 ?_
      first | exact v_zreturn hM d_M_isOver_61 (Or.inl rfl) ⟨rfl, b01_0 (by omega), MF_61 e38.1⟩ | exact v_zreturn hM d_M_isOver_61 (Or.inr rfl) ⟨rfl, b01_1 (by omega), MF_61 e38.1⟩
    · refine v_iconst d_M_isOver_56 ?_
      refine v_goto d_M_isOver_57 ?_
      first | exact v_zreturn hM d_M_isOver_61 (Or.inl rfl) ⟨rfl, b01_0 (by omega), MF_61 e38.1⟩ | exact v_zreturn hM d_M_isOver_61 (Or.inr rfl) ⟨rfl, b01_1 (by omega), MF_61 e38.1⟩
  · refine v_iconst d_M_isOver_22 ?_
    exact v_zreturn hM d_M_isOver_23 (Or.inl rfl) ⟨rfl, b01_0 (by omega), MF.rfl'⟩

theorem c_M_about {T : vSh} {σ : vMem} {A : Int → Int} (hA : σ 56 = A) (hO : okA A) {v w : Int} (h0 : vIn v) (h1 : vIn w) : mt_M_about [.ref 55, .int (iI v), .int (iI w)] (S0 ++ T) σ (rP (S0 ++ T) (fun z σ2 => z = rAbout A v w ∧ MF σ σ2)) := by
  refine vMet.intro 0 (by decide +kernel) (Nat.le_of_ble_eq_true rfl) rfl (fun cx hM _ => ?_)
  obtain ⟨⟨q0, q1, q2, q3, q4, q5, q6, q7⟩, hVi, hWe, hCo, hOf, hBo, hWo, hMo, hRe, hLi, hTa⟩ := id hO
  refine v_aload0 d_M_about_0 ?_
  refine v_iload1 d_M_about_1 ?_
  refine v_iconst d_M_about_2 ?_
  refine v_fVZ2 d_M_about_3 l_M_64 k_M_isOf (c_M_isOf hA (by omega) (by omega) (by omega)) (sh_55 T) rfl (by decide) (by decide) (Nat.le_of_ble_eq_true rfl) (Nat.zero_le _) (Nat.zero_le _) (fun g3 => ?_)
  refine v_ifb_ne d_M_about_6 (fun u6 => ?_) (fun u6 => ?_)
  · refine v_iload2 d_M_about_12 ?_
    refine v_iconst d_M_about_13 ?_
    refine v_iconst d_M_about_14 ?_
    refine v_fSZ3 d_M_about_15 l_M_56 k_M_isIn (c_M_isIn (by omega) (by omega) (by omega)) (by decide) (by decide) (Nat.le_of_ble_eq_true rfl) (Nat.zero_le _) (Nat.zero_le _) (fun g15 => ?_)
    refine v_ifb_eq d_M_about_18 (fun u18 => ?_) (fun u18 => ?_)
    · refine v_iload2 d_M_about_30 ?_
      refine v_iconst d_M_about_31 ?_
      refine v_icmp_ne d_M_about_32 (by omega) (by omega) (fun u32 => ?_) (fun u32 => ?_)
      · refine v_iload2 d_M_about_55 ?_
        refine v_bipush d_M_about_56 rfl ?_
        refine v_icmp_ne d_M_about_58 (by omega) (by omega) (fun u58 => ?_) (fun u58 => ?_)
        · refine v_bipush d_M_about_77 rfl ?_
          first
          | (exact v_ireturn hM d_M_about_79 g24 ⟨rfl, by rw [rAbout, if_neg (by omega), if_pos (by omega)], MF.rfl'⟩)
          | (exact v_ireturn hM d_M_about_79 g49 ⟨rfl, by rw [rAbout, if_neg (by omega), if_neg (by omega), if_pos (by omega)], MF.rfl'⟩)
          | (exact v_ireturn hM d_M_about_79 (by omega) ⟨rfl, by rw [rAbout, if_neg (by omega), if_neg (by omega), if_neg (by omega), if_pos (by omega), ← e63.1]; omega, e63.2⟩)
          | (exact v_ireturn hM d_M_about_79 (by omega) ⟨rfl, by rw [rAbout, if_pos (by omega)], MF.rfl'⟩)
          | (exact v_ireturn hM d_M_about_79 (by omega) ⟨rfl, by rw [rAbout, if_neg (by omega), if_neg (by omega), if_neg (by omega), if_neg (by omega)], MF.rfl'⟩)
        · refine v_aload0 d_M_about_61 ?_
          refine v_iload1 d_M_about_62 ?_
          refine v_gVZ1 d_M_about_63 l_M_90 k_M_isOver (c_M_isOver hA hO (by omega)) (sh_55 T) rfl (by decide) (by decide) (Nat.le_of_ble_eq_true rfl) (Nat.zero_le _) (Nat.zero_le _) (fun z63 s63 g63 e63 => ?_)
          have h63 := b01_rng (p := overP A v)
          refine v_if_eq d_M_about_66 (by omega) (fun u66 => ?_) (fun u66 => ?_)
          · refine v_iconst d_M_about_73 ?_
            refine v_goto d_M_about_74 ?_
            first
            | (exact v_ireturn hM d_M_about_79 g24 ⟨rfl, by rw [rAbout, if_neg (by omega), if_pos (by omega)], MF.rfl'⟩)
            | (exact v_ireturn hM d_M_about_79 g49 ⟨rfl, by rw [rAbout, if_neg (by omega), if_neg (by omega), if_pos (by omega)], MF.rfl'⟩)
            | (exact v_ireturn hM d_M_about_79 (by omega) ⟨rfl, by rw [rAbout, if_neg (by omega), if_neg (by omega), if_neg (by omega), if_pos (by omega), ← e63.1]; omega, e63.2⟩)
            | (exact v_ireturn hM d_M_about_79 (by omega) ⟨rfl, by rw [rAbout, if_pos (by omega)], MF.rfl'⟩)
            | (exact v_ireturn hM d_M_about_79 (by omega) ⟨rfl, by rw [rAbout, if_neg (by omega), if_neg (by omega), if_neg (by omega), if_neg (by omega)], MF.rfl'⟩)
          · refine v_iconst d_M_about_69 ?_
            refine v_goto d_M_about_70 ?_
            first
            | (exact v_ireturn hM d_M_about_79 g24 ⟨rfl, by rw [rAbout, if_neg (by omega), if_pos (by omega)], MF.rfl'⟩)
            | (exact v_ireturn hM d_M_about_79 g49 ⟨rfl, by rw [rAbout, if_neg (by omega), if_neg (by omega), if_pos (by omega)], MF.rfl'⟩)
            | (exact v_ireturn hM d_M_about_79 (by omega) ⟨rfl, by rw [rAbout, if_neg (by omega), if_neg (by omega), if_neg (by omega), if_pos (by omega), ← e63.1]; omega, e63.2⟩)
            | (exact v_ireturn hM d_M_about_79 (by omega) ⟨rfl, by rw [rAbout, if_pos (by omega)], MF.rfl'⟩)
            | (exact v_ireturn hM d_M_about_79 (by omega) ⟨rfl, by rw [rAbout, if_neg (by omega), if_neg (by omega), if_neg (by omega), if_neg (by omega)], MF.rfl'⟩)
      · refine v_aload0 d_M_about_35 ?_
        refine v_iload1 d_M_about_36 ?_
        refine v_aload0 d_M_about_37 ?_
        refine v_getR d_M_about_38 f_M_7 (sh_55 T) rfl ?_
        refine v_iconst d_M_about_41 ?_
        refine v_ialoadE hA d_M_about_42 (sh_56 T) (by omega) (fun g42 => ?_)
        refine v_aload0 d_M_about_43 ?_
        refine v_getR d_M_about_44 f_M_7 (sh_55 T) rfl ?_
        refine v_iconst d_M_about_47 ?_
        refine v_ialoadE hA d_M_about_48 (sh_56 T) (by omega) (fun g48 => ?_)
        refine v_fVI3 d_M_about_49 l_M_86 k_M_held (c_M_held hA hO (by omega) (by omega) (by omega)) (sh_55 T) rfl (by decide) (by decide) (Nat.le_of_ble_eq_true rfl) (Nat.zero_le _) (Nat.zero_le _) (fun g49 => ?_)
        refine v_goto d_M_about_52 ?_
        first
        | (exact v_ireturn hM d_M_about_79 g24 ⟨rfl, by rw [rAbout, if_neg (by omega), if_pos (by omega)], MF.rfl'⟩)
        | (exact v_ireturn hM d_M_about_79 g49 ⟨rfl, by rw [rAbout, if_neg (by omega), if_neg (by omega), if_pos (by omega)], MF.rfl'⟩)
        | (exact v_ireturn hM d_M_about_79 (by omega) ⟨rfl, by rw [rAbout, if_neg (by omega), if_neg (by omega), if_neg (by omega), if_pos (by omega), ← e63.1]; omega, e63.2⟩)
        | (exact v_ireturn hM d_M_about_79 (by omega) ⟨rfl, by rw [rAbout, if_pos (by omega)], MF.rfl'⟩)
        | (exact v_ireturn hM d_M_about_79 (by omega) ⟨rfl, by rw [rAbout, if_neg (by omega), if_neg (by omega), if_neg (by omega), if_neg (by omega)], MF.rfl'⟩)
    · refine v_aload0 d_M_about_21 ?_
      refine v_iload1 d_M_about_22 ?_
      refine v_iload2 d_M_about_23 ?_
      refine v_fVI2 d_M_about_24 l_M_83 k_M_its (c_M_its hA (by omega)) (sh_55 T) rfl (by decide) (by decide) (Nat.le_of_ble_eq_true rfl) (Nat.zero_le _) (Nat.zero_le _) (fun g24 => ?_)
      refine v_goto d_M_about_27 ?_
      first
      | (exact v_ireturn hM d_M_about_79 g24 ⟨rfl, by rw [rAbout, if_neg (by omega), if_pos (by omega)], MF.rfl'⟩)
      | (exact v_ireturn hM d_M_about_79 g49 ⟨rfl, by rw [rAbout, if_neg (by omega), if_neg (by omega), if_pos (by omega)], MF.rfl'⟩)
      | (exact v_ireturn hM d_M_about_79 (by omega) ⟨rfl, by rw [rAbout, if_neg (by omega), if_neg (by omega), if_neg (by omega), if_pos (by omega), ← e63.1]; omega, e63.2⟩)
      | (exact v_ireturn hM d_M_about_79 (by omega) ⟨rfl, by rw [rAbout, if_pos (by omega)], MF.rfl'⟩)
      | (exact v_ireturn hM d_M_about_79 (by omega) ⟨rfl, by rw [rAbout, if_neg (by omega), if_neg (by omega), if_neg (by omega), if_neg (by omega)], MF.rfl'⟩)
  · refine v_bipush d_M_about_9 rfl ?_
    first
    | (exact v_ireturn hM d_M_about_11 g24 ⟨rfl, by rw [rAbout, if_neg (by omega), if_pos (by omega)], MF.rfl'⟩)
    | (exact v_ireturn hM d_M_about_11 g49 ⟨rfl, by rw [rAbout, if_neg (by omega), if_neg (by omega), if_pos (by omega)], MF.rfl'⟩)
    | (exact v_ireturn hM d_M_about_11 (by omega) ⟨rfl, by rw [rAbout, if_neg (by omega), if_neg (by omega), if_neg (by omega), if_pos (by omega), ← e63.1]; omega, e63.2⟩)
    | (exact v_ireturn hM d_M_about_11 (by omega) ⟨rfl, by rw [rAbout, if_pos (by omega)], MF.rfl'⟩)
    | (exact v_ireturn hM d_M_about_11 (by omega) ⟨rfl, by rw [rAbout, if_neg (by omega), if_neg (by omega), if_neg (by omega), if_neg (by omega)], MF.rfl'⟩)

theorem c_M_come {T : vSh} {σ : vMem} {A : Int → Int} (hA : σ 56 = A) (hO : okA A) {v s : Int} (h0 : vIn v) (h1 : vIn s) : mt_M_come [.ref 55, .int (iI v), .int (iI s)] (S0 ++ T) σ (rP (S0 ++ T) (fun z σ2 => z = rCome A v s ∧ MF σ σ2)) := by
  refine vMet.intro 0 (by decide +kernel) (Nat.le_of_ble_eq_true rfl) rfl (fun cx hM _ => ?_)
  obtain ⟨⟨q0, q1, q2, q3, q4, q5, q6, q7⟩, hVi, hWe, hCo, hOf, hBo, hWo, hMo, hRe, hLi, hTa⟩ := id hO
  refine v_aload0 d_M_come_0 ?_
  refine v_iload1 d_M_come_1 ?_
  refine v_iconst d_M_come_2 ?_
  refine v_fVZ2 d_M_come_3 l_M_64 k_M_isOf (c_M_isOf hA (by omega) (by omega) (by omega)) (sh_55 T) rfl (by decide) (by decide) (Nat.le_of_ble_eq_true rfl) (Nat.zero_le _) (Nat.zero_le _) (fun g3 => ?_)
  refine v_ifb_eq d_M_come_6 (fun u6 => ?_) (fun u6 => ?_)
  · refine v_iconst d_M_come_32 ?_
    first
    | (exact v_ireturn hM d_M_come_33 g26 ⟨rfl, by rw [rCome, if_pos (by omega)], MF.rfl'⟩)
    | (exact v_ireturn hM d_M_come_33 (by omega) ⟨rfl, by rw [rCome, if_neg (by omega)], MF.rfl'⟩)
  · refine v_iload2 d_M_come_9 ?_
    refine v_iconst d_M_come_10 ?_
    refine v_aload0 d_M_come_11 ?_
    refine v_fVI0 d_M_come_12 l_M_60 k_M_ended (c_M_ended hA (by omega)) (sh_55 T) rfl (by decide) (by decide) (Nat.le_of_ble_eq_true rfl) (Nat.zero_le _) (Nat.zero_le _) (fun g12 => ?_)
    refine v_iconst d_M_come_15 ?_
    refine v_isub d_M_come_16 ?_
    refine v_fSZ3 d_M_come_17 l_M_56 k_M_isIn (c_M_isIn (by omega) (by omega) (by omega)) (by decide) (by decide) (Nat.le_of_ble_eq_true rfl) (Nat.zero_le _) (Nat.zero_le _) (fun g17 => ?_)
    refine v_ifb_eq d_M_come_20 (fun u20 => ?_) (fun u20 => ?_)
    · refine v_iconst d_M_come_32 ?_
      first
      | (exact v_ireturn hM d_M_come_33 g26 ⟨rfl, by rw [rCome, if_pos (by omega)], MF.rfl'⟩)
      | (exact v_ireturn hM d_M_come_33 (by omega) ⟨rfl, by rw [rCome, if_neg (by omega)], MF.rfl'⟩)
    · refine v_aload0 d_M_come_23 ?_
      refine v_iload1 d_M_come_24 ?_
      refine v_iload2 d_M_come_25 ?_
      refine v_fVI2 d_M_come_26 l_M_80 k_M_comeOf (c_M_comeOf hA (by omega)) (sh_55 T) rfl (by decide) (by decide) (Nat.le_of_ble_eq_true rfl) (Nat.zero_le _) (Nat.zero_le _) (fun g26 => ?_)
      refine v_goto d_M_come_29 ?_
      first
      | (exact v_ireturn hM d_M_come_33 g26 ⟨rfl, by rw [rCome, if_pos (by omega)], MF.rfl'⟩)
      | (exact v_ireturn hM d_M_come_33 (by omega) ⟨rfl, by rw [rCome, if_neg (by omega)], MF.rfl'⟩)

