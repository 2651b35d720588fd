/-! ===== the accounts ===== -/
def TT (σ : vMem) (A : Int → Int) (oo f : Int) : Prop := ∀ x, 0 ≤ x → x < 60 → (σ 48 x = 0 ∨ σ 48 x = 1) ∧ (σ 48 x = 0 → x ≠ 0 ∧ noChg A oo (f + x))
theorem CF_48 {σ σ' : vMem} (h : ∀ k, k ≠ 48 → σ' k = σ k) : CF σ σ' := ⟨fun k hk => h k (by omega), by rw [h 38 (by decide)]⟩
theorem TT_off {σ σ' : vMem} {A : Int → Int} {oo f : Int} (h : σ' 48 = σ 48) (hT : TT σ A oo f) : TT σ' A oo f := by unfold TT; rw [h]; exact hT
theorem c_Ac_markTurn {T : vSh} {σ : vMem} {i : Int} (h0 : vIn i) : mt_Ac_markTurn [.ref 47, .int (iI i)] (S0 ++ T) σ (rP (S0 ++ T) (fun _ σ2 => (∀ k, k ≠ 48 → σ2 k = σ k) ∧ (∀ x, σ2 48 x = σ 48 x ∨ σ2 48 x = 1) ∧ (0 ≤ i → i < 60 → σ2 48 i = 1))) := by
  refine vMet.intro 0 (by decide +kernel) (Nat.le_of_ble_eq_true rfl) rfl (fun cx hM _ => ?_)
  refine v_iload1 d_Ac_markTurn_0 ?_
  refine v_if_lt d_Ac_markTurn_1 (by omega) (fun u1 => ?_) (fun u1 => ?_)
  · first
    | (exact v_return hM d_Ac_markTurn_17 ⟨rfl, fun k hk => rfl, fun x => Or.inl rfl, fun h1 h2 => by omega⟩)
    | (exact v_return hM d_Ac_markTurn_17 ⟨rfl, fun k hk => vUp_ne hk, fun x => by
         by_cases q : x = i
         · subst q; exact Or.inr (vUp_same _ _ _ _)
         · exact Or.inl (vUp_ix q), fun _ _ => vUp_same _ _ _ _⟩)
  · refine v_iload1 d_Ac_markTurn_4 ?_
    refine v_bipush d_Ac_markTurn_5 rfl ?_
    refine v_icmp_ge d_Ac_markTurn_7 (by omega) (by omega) (fun u7 => ?_) (fun u7 => ?_)
    · first
      | (exact v_return hM d_Ac_markTurn_17 ⟨rfl, fun k hk => rfl, fun x => Or.inl rfl, fun h1 h2 => by omega⟩)
      | (exact v_return hM d_Ac_markTurn_17 ⟨rfl, fun k hk => vUp_ne hk, fun x => by
           by_cases q : x = i
           · subst q; exact Or.inr (vUp_same _ _ _ _)
           · exact Or.inl (vUp_ix q), fun _ _ => vUp_same _ _ _ _⟩)
    · refine v_aload0 d_Ac_markTurn_10 ?_
      refine v_getR d_Ac_markTurn_11 f_Ac_9 (sh_47 T) rfl ?_
      refine v_iload1 d_Ac_markTurn_14 ?_
      refine v_iconst d_Ac_markTurn_15 ?_
      refine v_zastore d_Ac_markTurn_16 (sh_48 T) (by omega) (by omega) ?_
      first
      | (exact v_return hM d_Ac_markTurn_17 ⟨rfl, fun k hk => rfl, fun x => Or.inl rfl, fun h1 h2 => by omega⟩)
      | (exact v_return hM d_Ac_markTurn_17 ⟨rfl, fun k hk => vUp_ne hk, fun x => by
           by_cases q : x = i
           · subst q; exact Or.inr (vUp_same _ _ _ _)
           · exact Or.inl (vUp_ix q), fun _ _ => vUp_same _ _ _ _⟩)

theorem c_Ac_markTurns_92 {T : vSh} {σ : vMem} {cx : vCx} {A : Int → Int} (hC : CR σ A) (hO : okA A) {oo f : Int} (h0 : 0 ≤ oo ∧ oo < A 1) (h1 : 0 ≤ f ∧ f ≤ 1140 ∧ f % 60 = 0) (hM : vM cx 0 0 none (rP (S0 ++ T) (fun _ σ2 => (∀ k, k ≠ 48 → σ2 k = σ k) ∧ TT σ2 A oo f))) : ∀ (n j : Nat) (i : Int) (σ1 : vMem), (j : Int) + n = A 3 → i = j → (∀ k, k ≠ 48 → σ1 k = σ k) → (∀ x, 0 ≤ x → x < 60 → σ1 48 x = 0 ∨ σ1 48 x = 1) → (∀ x, 0 ≤ x → x < 60 → σ1 48 x = 0 → x ≠ 0 ∧ (f + x - A (360 + 4 * oo + 2)) % 120 ≠ 0) → (∀ y x, 0 ≤ y → y < A 2 → 0 ≤ x → x < 60 → σ1 48 x = 0 → A (430 + 5 * y + 3) ≠ f + x) → (∀ y x, 0 ≤ y → y < (j : Int) → 0 ≤ x → x < 60 → σ1 48 x = 0 → A (10 + 2 * y) ≠ f + x) → vV cx y_Ac_markTurns.cls prog_2_method_6_code 5 1 0 0 0 0 92 [some (.ref 47), some (.int (iI oo)), some (.int (iI f)), some (.ref 10), some (.int (iI i))] [] (S0 ++ T) σ1 := by
  intro n
  induction n with
  | zero =>
    intro j i σ1 hj hi hσ h01 hp ho hr
    obtain ⟨⟨q0, q1, q2, q3, q4, q5, q6, q7⟩, hVi, hWe, hCo, hOf, hBo, hWo, hMo, hRe, hLi, hTa⟩ := id hO
    have hC1 := (CF_48 hσ).cr hC
    obtain ⟨⟨l0, l1, lV, lC, lZ, lS⟩, ⟨b0, b1, bO, bB⟩, ⟨w0, wR, wL⟩, ⟨t0, t1, t2, tR, tB⟩, ⟨n9, nW⟩, m0, mM⟩ := id hC1
    refine v_iload4 d_Ac_markTurns_92 ?_
    refine v_aload0 d_Ac_markTurns_94 ?_
    refine v_getR d_Ac_markTurns_95 f_Ac_15 (sh_47 T) rfl ?_
    refine v_getR d_Ac_markTurns_98 f_Ac_93 (sh_1 T) rfl ?_
    refine v_getJ (ji := 0) d_Ac_markTurns_101 f_Ac_97 (sh_20 T) rfl rfl (fun g101 => ?_)
    refine v_icmp_ge d_Ac_markTurns_104 (by omega) (by omega) (fun u104 => ?_) (fun u104 => ?_)
    · refine v_aload0 d_Ac_markTurns_132 ?_
      refine v_aload3 d_Ac_markTurns_133 ?_
      refine v_getR d_Ac_markTurns_134 f_Ac_105 (sh_10 T) rfl ?_
      refine v_iload1 d_Ac_markTurns_137 ?_
      refine v_iaload d_Ac_markTurns_138 (sh_14 T) (by omega) (fun g138 => ?_)
      refine v_iload2 d_Ac_markTurns_139 ?_
      refine v_isub d_Ac_markTurns_140 ?_
      have hof := hOf oo (by omega) (by omega)
      have hbo := bO oo (by omega) (by omega)
      refine v_gVV1 d_Ac_markTurns_141 l_Ac_89 k_Ac_markTurn (c_Ac_markTurn (by omega)) (sh_47 T) rfl (by decide) (by decide) (Nat.le_of_ble_eq_true rfl) (Nat.zero_le _) (Nat.zero_le _) (fun z141 s141 e141 => ?_)
      exact v_return hM d_Ac_markTurns_144 ⟨rfl, fun k hk => by rw [e141.1 k hk]; exact hσ k hk, fun x y1 y2 => by
        have a1 := e141.2.1 x
        have a2 := h01 x y1 y2
        refine ⟨by omega, fun y3 => ?_⟩
        have a3 := hp x y1 y2 (by omega)
        refine ⟨a3.1, by omega, a3.2, fun y z1 z2 => ho y x z1 z2 y1 y2 (by omega), fun y z1 z2 => hr y x z1 (by omega) y1 y2 (by omega), fun q => ?_⟩
        have a4 := e141.2.2 (by omega) (by omega)
        rw [show σ1 14 oo - f = x by omega] at a4
        omega⟩
    · omega
  | succ n ih =>
    intro j i σ1 hj hi hσ h01 hp ho hr
    obtain ⟨⟨q0, q1, q2, q3, q4, q5, q6, q7⟩, hVi, hWe, hCo, hOf, hBo, hWo, hMo, hRe, hLi, hTa⟩ := id hO
    have hC1 := (CF_48 hσ).cr hC
    obtain ⟨⟨l0, l1, lV, lC, lZ, lS⟩, ⟨b0, b1, bO, bB⟩, ⟨w0, wR, wL⟩, ⟨t0, t1, t2, tR, tB⟩, ⟨n9, nW⟩, m0, mM⟩ := id hC1
    refine v_iload4 d_Ac_markTurns_92 ?_
    refine v_aload0 d_Ac_markTurns_94 ?_
    refine v_getR d_Ac_markTurns_95 f_Ac_15 (sh_47 T) rfl ?_
    refine v_getR d_Ac_markTurns_98 f_Ac_93 (sh_1 T) rfl ?_
    refine v_getJ (ji := 0) d_Ac_markTurns_101 f_Ac_97 (sh_20 T) rfl rfl (fun g101 => ?_)
    refine v_icmp_ge d_Ac_markTurns_104 (by omega) (by omega) (fun u104 => ?_) (fun u104 => ?_)
    · omega
    · refine v_aload0 d_Ac_markTurns_107 ?_
      refine v_aload0 d_Ac_markTurns_108 ?_
      refine v_getR d_Ac_markTurns_109 f_Ac_15 (sh_47 T) rfl ?_
      refine v_getR d_Ac_markTurns_112 f_Ac_93 (sh_1 T) rfl ?_
      refine v_getR d_Ac_markTurns_115 f_Ac_102 (sh_20 T) rfl ?_
      refine v_iload4 d_Ac_markTurns_118 ?_
      refine v_iaload d_Ac_markTurns_120 (sh_21 T) (by omega) (fun g120 => ?_)
      refine v_iload2 d_Ac_markTurns_121 ?_
      refine v_isub d_Ac_markTurns_122 ?_
      have hre := hRe i (by omega) (by omega)
      have hwr := wR i (by omega) (by omega)
      refine v_gVV1 d_Ac_markTurns_123 l_Ac_89 k_Ac_markTurn (c_Ac_markTurn (by omega)) (sh_47 T) rfl (by decide) (by decide) (Nat.le_of_ble_eq_true rfl) (Nat.zero_le _) (Nat.zero_le _) (fun z123 s123 e123 => ?_)
      refine v_iinc4 d_Ac_markTurns_126 (by decide) rfl ?_
      refine v_goto d_Ac_markTurns_129 ?_
      exact ih (j + 1) _ _ (by omega) (by omega) (fun k hk => by rw [e123.1 k hk]; exact hσ k hk) (fun x y1 y2 => by have a1 := e123.2.1 x; have a2 := h01 x y1 y2; omega) (fun x y1 y2 y3 => hp x y1 y2 (by have a1 := e123.2.1 x; omega)) (fun y x y1 y2 y3 y4 y5 => ho y x y1 y2 y3 y4 (by have a1 := e123.2.1 x; omega)) (fun y x y1 y2 y3 y4 y5 => by
        have a1 := e123.2.1 x
        rcases (show y < (j : Int) ∨ y = i by omega) with q | q
        · exact hr y x y1 q y3 y4 (by omega)
        · subst q
          intro q2
          have a2 := e123.2.2 (by omega) (by omega)
          rw [show σ1 21 y - f = x by omega] at a2
          omega)

theorem c_Ac_markTurns_61 {T : vSh} {σ : vMem} {cx : vCx} {A : Int → Int} (hC : CR σ A) (hO : okA A) {oo f : Int} (h0 : 0 ≤ oo ∧ oo < A 1) (h1 : 0 ≤ f ∧ f ≤ 1140 ∧ f % 60 = 0) (hM : vM cx 0 0 none (rP (S0 ++ T) (fun _ σ2 => (∀ k, k ≠ 48 → σ2 k = σ k) ∧ TT σ2 A oo f))) : ∀ (n j : Nat) (i : Int) (σ1 : vMem), (j : Int) + n = A 2 → i = j → (∀ k, k ≠ 48 → σ1 k = σ k) → (∀ x, 0 ≤ x → x < 60 → σ1 48 x = 0 ∨ σ1 48 x = 1) → (∀ x, 0 ≤ x → x < 60 → σ1 48 x = 0 → x ≠ 0 ∧ (f + x - A (360 + 4 * oo + 2)) % 120 ≠ 0) → (∀ y x, 0 ≤ y → y < (j : Int) → 0 ≤ x → x < 60 → σ1 48 x = 0 → A (430 + 5 * y + 3) ≠ f + x) → vV cx y_Ac_markTurns.cls prog_2_method_6_code 5 1 0 0 0 0 61 [some (.ref 47), some (.int (iI oo)), some (.int (iI f)), some (.ref 10), some (.int (iI i))] [] (S0 ++ T) σ1 := by
  intro n
  induction n with
  | zero =>
    intro j i σ1 hj hi hσ h01 hp ho
    obtain ⟨⟨q0, q1, q2, q3, q4, q5, q6, q7⟩, hVi, hWe, hCo, hOf, hBo, hWo, hMo, hRe, hLi, hTa⟩ := id hO
    have hC1 := (CF_48 hσ).cr hC
    obtain ⟨⟨l0, l1, lV, lC, lZ, lS⟩, ⟨b0, b1, bO, bB⟩, ⟨w0, wR, wL⟩, ⟨t0, t1, t2, tR, tB⟩, ⟨n9, nW⟩, m0, mM⟩ := id hC1
    refine v_iload4 d_Ac_markTurns_61 ?_
    refine v_aload3 d_Ac_markTurns_63 ?_
    refine v_getJ (ji := 5) d_Ac_markTurns_64 f_Ac_83 (sh_10 T) rfl rfl (fun g64 => ?_)
    refine v_icmp_ge d_Ac_markTurns_67 (by omega) (by omega) (fun u67 => ?_) (fun u67 => ?_)
    · refine v_iconst d_Ac_markTurns_89 ?_
      refine v_istore4 d_Ac_markTurns_90 (by decide) rfl ?_
      exact c_Ac_markTurns_92 hC hO h0 h1 hM (A 3).toNat 0 _ _ (by omega) rfl hσ h01 hp (fun y x y1 y2 y3 y4 y5 => ho y x y1 (by omega) y3 y4 y5) (fun y x y1 y2 => by omega)
    · omega
  | succ n ih =>
    intro j i σ1 hj hi hσ h01 hp ho
    obtain ⟨⟨q0, q1, q2, q3, q4, q5, q6, q7⟩, hVi, hWe, hCo, hOf, hBo, hWo, hMo, hRe, hLi, hTa⟩ := id hO
    have hC1 := (CF_48 hσ).cr hC
    obtain ⟨⟨l0, l1, lV, lC, lZ, lS⟩, ⟨b0, b1, bO, bB⟩, ⟨w0, wR, wL⟩, ⟨t0, t1, t2, tR, tB⟩, ⟨n9, nW⟩, m0, mM⟩ := id hC1
    refine v_iload4 d_Ac_markTurns_61 ?_
    refine v_aload3 d_Ac_markTurns_63 ?_
    refine v_getJ (ji := 5) d_Ac_markTurns_64 f_Ac_83 (sh_10 T) rfl rfl (fun g64 => ?_)
    refine v_icmp_ge d_Ac_markTurns_67 (by omega) (by omega) (fun u67 => ?_) (fun u67 => ?_)
    · omega
    · refine v_aload0 d_Ac_markTurns_70 ?_
      refine v_aload3 d_Ac_markTurns_71 ?_
      refine v_getR d_Ac_markTurns_72 f_Ac_86 (sh_10 T) rfl ?_
      refine v_iload4 d_Ac_markTurns_75 ?_
      refine v_iaload d_Ac_markTurns_77 (sh_18 T) (by omega) (fun g77 => ?_)
      refine v_iload2 d_Ac_markTurns_78 ?_
      refine v_isub d_Ac_markTurns_79 ?_
      have hbo := hBo i (by omega) (by omega)
      have hbb := bB i (by omega) (by omega)
      refine v_gVV1 d_Ac_markTurns_80 l_Ac_89 k_Ac_markTurn (c_Ac_markTurn (by omega)) (sh_47 T) rfl (by decide) (by decide) (Nat.le_of_ble_eq_true rfl) (Nat.zero_le _) (Nat.zero_le _) (fun z80 s80 e80 => ?_)
      refine v_iinc4 d_Ac_markTurns_83 (by decide) rfl ?_
      refine v_goto d_Ac_markTurns_86 ?_
      exact ih (j + 1) _ _ (by omega) (by omega) (fun k hk => by rw [e80.1 k hk]; exact hσ k hk) (fun x y1 y2 => by have a1 := e80.2.1 x; have a2 := h01 x y1 y2; omega) (fun x y1 y2 y3 => hp x y1 y2 (by have a1 := e80.2.1 x; omega)) (fun y x y1 y2 y3 y4 y5 => by
        have a1 := e80.2.1 x
        rcases (show y < (j : Int) ∨ y = i by omega) with q | q
        · exact ho y x y1 q y3 y4 (by omega)
        · subst q
          intro q2
          have a2 := e80.2.2 (by omega) (by omega)
          rw [show σ1 18 y - f = x by omega] at a2
          omega)

theorem c_Ac_markTurns_11 {T : vSh} {σ : vMem} {cx : vCx} {A : Int → Int} (hC : CR σ A) (hO : okA A) {oo f : Int} (h0 : 0 ≤ oo ∧ oo < A 1) (h1 : 0 ≤ f ∧ f ≤ 1140 ∧ f % 60 = 0) (hM : vM cx 0 0 none (rP (S0 ++ T) (fun _ σ2 => (∀ k, k ≠ 48 → σ2 k = σ k) ∧ TT σ2 A oo f))) : ∀ (n j : Nat) (i : Int) (σ1 : vMem), (j : Int) + n = 60 → i = j → (∀ k, k ≠ 48 → σ1 k = σ k) → (∀ x, 0 ≤ x → x < (j : Int) → σ1 48 x = 0 ∨ σ1 48 x = 1) → (∀ x, 0 ≤ x → x < (j : Int) → σ1 48 x = 0 → x ≠ 0 ∧ (f + x - A (360 + 4 * oo + 2)) % 120 ≠ 0) → vV cx y_Ac_markTurns.cls prog_2_method_6_code 5 1 0 0 0 0 11 [some (.ref 47), some (.int (iI oo)), some (.int (iI f)), some (.ref 10), some (.int (iI i))] [] (S0 ++ T) σ1 := by
  intro n
  induction n with
  | zero =>
    intro j i σ1 hj hi hσ h01 hp
    obtain ⟨⟨q0, q1, q2, q3, q4, q5, q6, q7⟩, hVi, hWe, hCo, hOf, hBo, hWo, hMo, hRe, hLi, hTa⟩ := id hO
    have hC1 := (CF_48 hσ).cr hC
    obtain ⟨⟨l0, l1, lV, lC, lZ, lS⟩, ⟨b0, b1, bO, bB⟩, ⟨w0, wR, wL⟩, ⟨t0, t1, t2, tR, tB⟩, ⟨n9, nW⟩, m0, mM⟩ := id hC1
    have hof := hOf oo (by omega) (by omega)
    have hbo := bO oo (by omega) (by omega)
    refine v_iload4 d_Ac_markTurns_11 ?_
    refine v_bipush d_Ac_markTurns_13 rfl ?_
    refine v_icmp_ge d_Ac_markTurns_15 (by omega) (by omega) (fun u15 => ?_) (fun u15 => ?_)
    · refine v_iconst d_Ac_markTurns_58 ?_
      refine v_istore4 d_Ac_markTurns_59 (by decide) rfl ?_
      exact c_Ac_markTurns_61 hC hO h0 h1 hM (A 2).toNat 0 _ _ (by omega) rfl hσ (fun x y1 y2 => h01 x y1 (by omega)) (fun x y1 y2 => hp x y1 (by omega)) (fun y x y1 y2 => by omega)
    · omega
  | succ n ih =>
    intro j i σ1 hj hi hσ h01 hp
    obtain ⟨⟨q0, q1, q2, q3, q4, q5, q6, q7⟩, hVi, hWe, hCo, hOf, hBo, hWo, hMo, hRe, hLi, hTa⟩ := id hO
    have hC1 := (CF_48 hσ).cr hC
    obtain ⟨⟨l0, l1, lV, lC, lZ, lS⟩, ⟨b0, b1, bO, bB⟩, ⟨w0, wR, wL⟩, ⟨t0, t1, t2, tR, tB⟩, ⟨n9, nW⟩, m0, mM⟩ := id hC1
    have hof := hOf oo (by omega) (by omega)
    have hbo := bO oo (by omega) (by omega)
    refine v_iload4 d_Ac_markTurns_11 ?_
    refine v_bipush d_Ac_markTurns_13 rfl ?_
    refine v_icmp_ge d_Ac_markTurns_15 (by omega) (by omega) (fun u15 => ?_) (fun u15 => ?_)
    · omega
    · refine v_aload0 d_Ac_markTurns_18 ?_
      refine v_getR d_Ac_markTurns_19 f_Ac_9 (sh_47 T) rfl ?_
      refine v_iload4 d_Ac_markTurns_22 ?_
      refine v_iload4 d_Ac_markTurns_24 ?_
      refine v_if_eq d_Ac_markTurns_26 (by omega) (fun u26 => ?_) (fun u26 => ?_)
      · refine v_iconst d_Ac_markTurns_46 ?_
        refine v_goto d_Ac_markTurns_47 ?_
        refine v_zastore d_Ac_markTurns_51 (sh_48 T) (by omega) (by omega) ?_
        refine v_iinc4 d_Ac_markTurns_52 (by decide) rfl ?_
        refine v_goto d_Ac_markTurns_55 ?_
        exact ih (j + 1) _ _ (by omega) (by omega) (fun k hk => by rw [vUp_ne hk]; exact hσ k hk) (fun x y1 y2 => by
          by_cases q : x = i
          · subst q; rw [vUp_same]; omega
          · rw [vUp_ix q]; exact h01 x y1 (by omega)) (fun x y1 y2 y3 => by
          by_cases q : x = i
          · subst q; rw [vUp_same] at y3; omega
          · rw [vUp_ix q] at y3; exact hp x y1 (by omega) y3)
      · refine v_iload2 d_Ac_markTurns_29 ?_
        refine v_iload4 d_Ac_markTurns_30 ?_
        refine v_iadd d_Ac_markTurns_32 ?_
        refine v_aload3 d_Ac_markTurns_33 ?_
        refine v_getR d_Ac_markTurns_34 f_Ac_80 (sh_10 T) rfl ?_
        refine v_iload1 d_Ac_markTurns_37 ?_
        refine v_iaload d_Ac_markTurns_38 (sh_13 T) (by omega) (fun g38 => ?_)
        refine v_isub d_Ac_markTurns_39 ?_
        refine v_bipush d_Ac_markTurns_40 rfl ?_
        refine v_iremT d_Ac_markTurns_42 (by omega) (by omega) (fun g42 => ?_)
        refine v_if_ne d_Ac_markTurns_43 (by omega) (fun u43 => ?_) (fun u43 => ?_)
        · refine v_iconst d_Ac_markTurns_50 ?_
          refine v_zastore d_Ac_markTurns_51 (sh_48 T) (by omega) (by omega) ?_
          refine v_iinc4 d_Ac_markTurns_52 (by decide) rfl ?_
          refine v_goto d_Ac_markTurns_55 ?_
          exact ih (j + 1) _ _ (by omega) (by omega) (fun k hk => by rw [vUp_ne hk]; exact hσ k hk) (fun x y1 y2 => by
            by_cases q : x = i
            · subst q; rw [vUp_same]; omega
            · rw [vUp_ix q]; exact h01 x y1 (by omega)) (fun x y1 y2 y3 => by
            by_cases q : x = i
            · subst q; rw [vUp_same] at y3; exact ⟨by omega, by have a9 := tmod120 u43; rw [show f + x - A (360 + 4 * oo + 2) = f + x - σ1 13 oo by omega]; exact a9⟩
            · rw [vUp_ix q] at y3; exact hp x y1 (by omega) y3)
        · refine v_iconst d_Ac_markTurns_46 ?_
          refine v_goto d_Ac_markTurns_47 ?_
          refine v_zastore d_Ac_markTurns_51 (sh_48 T) (by omega) (by omega) ?_
          refine v_iinc4 d_Ac_markTurns_52 (by decide) rfl ?_
          refine v_goto d_Ac_markTurns_55 ?_
          exact ih (j + 1) _ _ (by omega) (by omega) (fun k hk => by rw [vUp_ne hk]; exact hσ k hk) (fun x y1 y2 => by
            by_cases q : x = i
            · subst q; rw [vUp_same]; omega
            · rw [vUp_ix q]; exact h01 x y1 (by omega)) (fun x y1 y2 y3 => by
            by_cases q : x = i
            · subst q; rw [vUp_same] at y3; omega
            · rw [vUp_ix q] at y3; exact hp x y1 (by omega) y3)

theorem c_Ac_markTurns {T : vSh} {σ : vMem} {A : Int → Int} (hC : CR σ A) (hO : okA A) {oo f : Int} (h0 : 0 ≤ oo ∧ oo < A 1) (h1 : 0 ≤ f ∧ f ≤ 1140 ∧ f % 60 = 0) : mt_Ac_markTurns [.ref 47, .int (iI oo), .int (iI f)] (S0 ++ T) σ (rP (S0 ++ T) (fun _ σ2 => (∀ k, k ≠ 48 → σ2 k = σ k) ∧ TT σ2 A oo f)) := by
  refine vMet.intro 2 (by decide +kernel) (Nat.le_of_ble_eq_true rfl) rfl (fun cx hM _ => ?_)
  obtain ⟨⟨q0, q1, q2, q3, q4, q5, q6, q7⟩, hVi, hWe, hCo, hOf, hBo, hWo, hMo, hRe, hLi, hTa⟩ := id hO
  obtain ⟨⟨l0, l1, lV, lC, lZ, lS⟩, ⟨b0, b1, bO, bB⟩, ⟨w0, wR, wL⟩, ⟨t0, t1, t2, tR, tB⟩, ⟨n9, nW⟩, m0, mM⟩ := id hC
  refine v_aload0 d_Ac_markTurns_0 ?_
  refine v_getR d_Ac_markTurns_1 f_Ac_15 (sh_47 T) rfl ?_
  refine v_getR d_Ac_markTurns_4 f_Ac_23 (sh_1 T) rfl ?_
  refine v_astore3 d_Ac_markTurns_7 (by decide) rfl ?_
  refine v_iconst d_Ac_markTurns_8 ?_
  refine v_istore4 d_Ac_markTurns_9 (by decide) rfl ?_
  exact c_Ac_markTurns_11 hC hO h0 h1 hM 60 0 _ _ (by omega) rfl (fun k _ => rfl) (fun x y1 y2 => by omega) (fun x y1 y2 => by omega)

theorem c_Ac_daysHeld_9 {T : vSh} {σ : vMem} {cx : vCx} {A : Int → Int} (hC : CR σ A) (hO : okA A) {v oo f k s : Int} (h0 : 0 ≤ v ∧ v < A 0) (h1 : 0 ≤ oo ∧ oo < A 1) (h2 : f = 60 * s) (h4 : 0 ≤ s ∧ s < 20) (h3 : vIn k) (hT : TT σ A oo f) (hM : vM cx 0 0 (some .int) (rF (S0 ++ T) σ (dhF A oo v s k 60))) : ∀ (n j : Nat) (z m i : Int), (j : Int) + n = 60 → i = j → (z = 0 ∨ z = 1) → (((j : Nat) : Int) ≠ 0 → z = b01 (heldF A v (f + (j : Nat) - 1) k = oo)) → m = dhF A oo v s k j → vV cx y_Ac_daysHeld.cls prog_2_method_5_code 8 2 0 0 0 0 9 [some (.ref 47), some (.int (iI v)), some (.int (iI oo)), some (.int (iI f)), some (.int (iI k)), some (.int (iI z)), some (.int (iI m)), some (.int (iI i))] [] (S0 ++ T) σ := by
  intro n
  induction n with
  | zero =>
    intro j z m i hj hi hz hzz hm
    obtain ⟨⟨q0, q1, q2, q3, q4, q5, q6, q7⟩, hVi, hWe, hCo, hOf, hBo, hWo, hMo, hRe, hLi, hTa⟩ := id hO
    obtain ⟨⟨l0, l1, lV, lC, lZ, lS⟩, ⟨b0, b1, bO, bB⟩, ⟨w0, wR, wL⟩, ⟨t0, t1, t2, tR, tB⟩, ⟨n9, nW⟩, m0, mM⟩ := id hC
    have hdr := dhF_rng A oo v s k j
    refine v_iload7 d_Ac_daysHeld_9 ?_
    refine v_bipush d_Ac_daysHeld_11 rfl ?_
    refine v_icmp_ge d_Ac_daysHeld_13 (by omega) (by omega) (fun u13 => ?_) (fun u13 => ?_)
    · refine v_iload6 d_Ac_daysHeld_68 ?_
      exact v_ireturn hM d_Ac_daysHeld_70 (by omega) ⟨rfl, rfl, by rw [hm]; congr 1; omega⟩
    · omega
  | succ n ih =>
    intro j z m i hj hi hz hzz hm
    obtain ⟨⟨q0, q1, q2, q3, q4, q5, q6, q7⟩, hVi, hWe, hCo, hOf, hBo, hWo, hMo, hRe, hLi, hTa⟩ := id hO
    obtain ⟨⟨l0, l1, lV, lC, lZ, lS⟩, ⟨b0, b1, bO, bB⟩, ⟨w0, wR, wL⟩, ⟨t0, t1, t2, tR, tB⟩, ⟨n9, nW⟩, m0, mM⟩ := id hC
    have hdr := dhF_rng A oo v s k j
    have htt := hT i (by omega) (by omega)
    have hd9 : dhF A oo v s k (j + 1) = dhF A oo v s k j + b01 (heldF A v (f + i) k = oo) := by rw [dhF, h2, hi]
    refine v_iload7 d_Ac_daysHeld_9 ?_
    refine v_bipush d_Ac_daysHeld_11 rfl ?_
    refine v_icmp_ge d_Ac_daysHeld_13 (by omega) (by omega) (fun u13 => ?_) (fun u13 => ?_)
    · omega
    · refine v_aload0 d_Ac_daysHeld_16 ?_
      refine v_getR d_Ac_daysHeld_17 f_Ac_9 (sh_47 T) rfl ?_
      refine v_iload7 d_Ac_daysHeld_20 ?_
      refine v_zaload d_Ac_daysHeld_22 (sh_48 T) (by omega) (fun g22 => ?_)
      refine v_if_eq d_Ac_daysHeld_23 (by omega) (fun u23 => ?_) (fun u23 => ?_)
      · refine v_iload5 d_Ac_daysHeld_54 ?_
        refine v_if_eq d_Ac_daysHeld_56 (by omega) (fun u56 => ?_) (fun u56 => ?_)
        · refine v_iinc7 d_Ac_daysHeld_62 (by decide) rfl ?_
          refine v_goto d_Ac_daysHeld_65 ?_
          first
          | (have hcon : 1 = b01 (heldF A v (f + i) k = oo) := b01_1 (by omega)
             exact ih (j + 1) _ _ _ (by omega) (by omega) (Or.inr rfl) (fun _ => by rw [show f + ((j + 1 : Nat) : Int) - 1 = f + i by omega]; exact hcon) (by omega))
          | (have hcon : 0 = b01 (heldF A v (f + i) k = oo) := b01_0 (by omega)
             exact ih (j + 1) _ _ _ (by omega) (by omega) (Or.inl rfl) (fun _ => by rw [show f + ((j + 1 : Nat) : Int) - 1 = f + i by omega]; exact hcon) (by omega))
          | (have hnc := htt.2 u23
             have hcon : z = b01 (heldF A v (f + i) k = oo) := by rw [hzz (by omega), b01_congr (noChg_held hO (by omega) hnc.2 v k), hi]
             exact ih (j + 1) _ _ _ (by omega) (by omega) hz (fun _ => by rw [show f + ((j + 1 : Nat) : Int) - 1 = f + i by omega]; exact hcon) (by omega))
        · refine v_iinc6 d_Ac_daysHeld_59 (by decide) rfl ?_
          refine v_iinc7 d_Ac_daysHeld_62 (by decide) rfl ?_
          refine v_goto d_Ac_daysHeld_65 ?_
          first
          | (have hcon : 1 = b01 (heldF A v (f + i) k = oo) := b01_1 (by omega)
             exact ih (j + 1) _ _ _ (by omega) (by omega) (Or.inr rfl) (fun _ => by rw [show f + ((j + 1 : Nat) : Int) - 1 = f + i by omega]; exact hcon) (by omega))
          | (have hcon : 0 = b01 (heldF A v (f + i) k = oo) := b01_0 (by omega)
             exact ih (j + 1) _ _ _ (by omega) (by omega) (Or.inl rfl) (fun _ => by rw [show f + ((j + 1 : Nat) : Int) - 1 = f + i by omega]; exact hcon) (by omega))
          | (have hnc := htt.2 u23
             have hcon : z = b01 (heldF A v (f + i) k = oo) := by rw [hzz (by omega), b01_congr (noChg_held hO (by omega) hnc.2 v k), hi]
             exact ih (j + 1) _ _ _ (by omega) (by omega) hz (fun _ => by rw [show f + ((j + 1 : Nat) : Int) - 1 = f + i by omega]; exact hcon) (by omega))
      · refine v_aload0 d_Ac_daysHeld_26 ?_
        refine v_getR d_Ac_daysHeld_27 f_Ac_15 (sh_47 T) rfl ?_
        refine v_getR d_Ac_daysHeld_30 f_Ac_23 (sh_1 T) rfl ?_
        refine v_iload1 d_Ac_daysHeld_33 ?_
        refine v_iload3 d_Ac_daysHeld_34 ?_
        refine v_iload7 d_Ac_daysHeld_35 ?_
        refine v_iadd d_Ac_daysHeld_37 ?_
        refine v_iload4 d_Ac_daysHeld_38 ?_
        refine v_fVI3 d_Ac_daysHeld_40 l_Ac_77 k_Bo_holderOn (c_Bo_holderOn hC hO (by omega) (by omega) (by omega)) (sh_10 T) rfl (by decide) (by decide) (Nat.le_of_ble_eq_true rfl) (Nat.zero_le _) (Nat.zero_le _) (fun g40 => ?_)
        refine v_iload2 d_Ac_daysHeld_43 ?_
        refine v_icmp_ne d_Ac_daysHeld_44 (by omega) (by omega) (fun u44 => ?_) (fun u44 => ?_)
        · refine v_iconst d_Ac_daysHeld_51 ?_
          refine v_istore5 d_Ac_daysHeld_52 (by decide) rfl ?_
          refine v_iload5 d_Ac_daysHeld_54 ?_
          refine v_if_eq d_Ac_daysHeld_56 (by omega) (fun u56 => ?_) (fun u56 => ?_)
          · refine v_iinc7 d_Ac_daysHeld_62 (by decide) rfl ?_
            refine v_goto d_Ac_daysHeld_65 ?_
            first
            | (have hcon : 1 = b01 (heldF A v (f + i) k = oo) := b01_1 (by omega)
               exact ih (j + 1) _ _ _ (by omega) (by omega) (Or.inr rfl) (fun _ => by rw [show f + ((j + 1 : Nat) : Int) - 1 = f + i by omega]; exact hcon) (by omega))
            | (have hcon : 0 = b01 (heldF A v (f + i) k = oo) := b01_0 (by omega)
               exact ih (j + 1) _ _ _ (by omega) (by omega) (Or.inl rfl) (fun _ => by rw [show f + ((j + 1 : Nat) : Int) - 1 = f + i by omega]; exact hcon) (by omega))
            | (have hnc := htt.2 u23
               have hcon : z = b01 (heldF A v (f + i) k = oo) := by rw [hzz (by omega), b01_congr (noChg_held hO (by omega) hnc.2 v k), hi]
               exact ih (j + 1) _ _ _ (by omega) (by omega) hz (fun _ => by rw [show f + ((j + 1 : Nat) : Int) - 1 = f + i by omega]; exact hcon) (by omega))
          · omega
        · refine v_iconst d_Ac_daysHeld_47 ?_
          refine v_goto d_Ac_daysHeld_48 ?_
          refine v_istore5 d_Ac_daysHeld_52 (by decide) rfl ?_
          refine v_iload5 d_Ac_daysHeld_54 ?_
          refine v_if_eq d_Ac_daysHeld_56 (by omega) (fun u56 => ?_) (fun u56 => ?_)
          · omega
          · refine v_iinc6 d_Ac_daysHeld_59 (by decide) rfl ?_
            refine v_iinc7 d_Ac_daysHeld_62 (by decide) rfl ?_
            refine v_goto d_Ac_daysHeld_65 ?_
            first
            | (have hcon : 1 = b01 (heldF A v (f + i) k = oo) := b01_1 (by omega)
               exact ih (j + 1) _ _ _ (by omega) (by omega) (Or.inr rfl) (fun _ => by rw [show f + ((j + 1 : Nat) : Int) - 1 = f + i by omega]; exact hcon) (by omega))
            | (have hcon : 0 = b01 (heldF A v (f + i) k = oo) := b01_0 (by omega)
               exact ih (j + 1) _ _ _ (by omega) (by omega) (Or.inl rfl) (fun _ => by rw [show f + ((j + 1 : Nat) : Int) - 1 = f + i by omega]; exact hcon) (by omega))
            | (have hnc := htt.2 u23
               have hcon : z = b01 (heldF A v (f + i) k = oo) := by rw [hzz (by omega), b01_congr (noChg_held hO (by omega) hnc.2 v k), hi]
               exact ih (j + 1) _ _ _ (by omega) (by omega) hz (fun _ => by rw [show f + ((j + 1 : Nat) : Int) - 1 = f + i by omega]; exact hcon) (by omega))

theorem c_Ac_daysHeld {T : vSh} {σ : vMem} {A : Int → Int} (hC : CR σ A) (hO : okA A) {v oo f k s : Int} (h0 : 0 ≤ v ∧ v < A 0) (h1 : 0 ≤ oo ∧ oo < A 1) (h2 : f = 60 * s) (h4 : 0 ≤ s ∧ s < 20) (h3 : vIn k) (hT : TT σ A oo f) : mt_Ac_daysHeld [.ref 47, .int (iI v), .int (iI oo), .int (iI f), .int (iI k)] (S0 ++ T) σ (rF (S0 ++ T) σ (dhF A oo v s k 60)) := by
  refine vMet.intro 3 (by decide +kernel) (Nat.le_of_ble_eq_true rfl) rfl (fun cx hM _ => ?_)
  obtain ⟨⟨q0, q1, q2, q3, q4, q5, q6, q7⟩, hVi, hWe, hCo, hOf, hBo, hWo, hMo, hRe, hLi, hTa⟩ := id hO
  obtain ⟨⟨l0, l1, lV, lC, lZ, lS⟩, ⟨b0, b1, bO, bB⟩, ⟨w0, wR, wL⟩, ⟨t0, t1, t2, tR, tB⟩, ⟨n9, nW⟩, m0, mM⟩ := id hC
  refine v_iconst d_Ac_daysHeld_0 ?_
  refine v_istore5 d_Ac_daysHeld_1 (by decide) rfl ?_
  refine v_iconst d_Ac_daysHeld_3 ?_
  refine v_istore6 d_Ac_daysHeld_4 (by decide) rfl ?_
  refine v_iconst d_Ac_daysHeld_6 ?_
  refine v_istore7 d_Ac_daysHeld_7 (by decide) rfl ?_
  exact c_Ac_daysHeld_9 hC hO h0 h1 h2 h4 h3 hT hM 60 0 _ _ _ (by omega) rfl (Or.inl rfl) (fun h => absurd rfl h) rfl

theorem c_Ac_hadIn_58 {T : vSh} {σ : vMem} {cx : vCx} {A : Int → Int} (hC : CR σ A) (hO : okA A) {oo s k : Int} (h0 : 0 ≤ oo ∧ oo < A 1) (h1 : 0 ≤ s ∧ s < 20) (h2 : vIn k) {σ1 : vMem} (hσ : CF σ σ1) {f p : Int} (hf : f = 60 * s) (hT1 : TT σ1 A oo f) (hp : p = crnF A oo s k) (hM : vM cx 0 0 (some .int) (rP (S0 ++ T) (fun z σ2 => z = hadF A oo s k ∧ CF σ σ2))) : ∀ (n j : Nat) (sum i : Int), (j : Int) + n = A 0 → i = j → sum = hadS A oo s k j → vV cx y_Ac_hadIn.cls prog_2_method_2_code 9 4 0 0 0 0 58 [some (.ref 47), some (.int (iI oo)), some (.int (iI s)), some (.int (iI k)), some (.int (iI f)), some (.int (iI p)), some (.int (iI sum)), some (.int (iI i)), none] [] (S0 ++ T) σ1 := by
  intro n
  induction n with
  | zero =>
    intro j sum i hj hi hs
    obtain ⟨⟨q0, q1, q2, q3, q4, q5, q6, q7⟩, hVi, hWe, hCo, hOf, hBo, hWo, hMo, hRe, hLi, hTa⟩ := id hO
    have hC1 := hσ.cr hC
    obtain ⟨⟨l0, l1, lV, lC, lZ, lS⟩, ⟨b0, b1, bO, bB⟩, ⟨w0, wR, wL⟩, ⟨t0, t1, t2, tR, tB⟩, ⟨n9, nW⟩, m0, mM⟩ := id hC1
    have hcr := crnF_rng hO oo s k
    have hsr := hadS_rng hO oo k h1 j (by omega)
    refine v_iload7 d_Ac_hadIn_58 ?_
    refine v_aload0 d_Ac_hadIn_60 ?_
    refine v_getR d_Ac_hadIn_61 f_Ac_15 (sh_47 T) rfl ?_
    refine v_getR d_Ac_hadIn_64 f_Ac_49 (sh_1 T) rfl ?_
    refine v_getJ (ji := 1) d_Ac_hadIn_67 f_Ac_53 (sh_2 T) rfl rfl (fun g67 => ?_)
    refine v_icmp_ge d_Ac_hadIn_70 (by omega) (by omega) (fun u70 => ?_) (fun u70 => ?_)
    · refine v_iload6 d_Ac_hadIn_133 ?_
      exact v_ireturn hM d_Ac_hadIn_135 (by omega) ⟨rfl, by rw [hs]; congr 1; omega, hσ⟩
    · omega
  | succ n ih =>
    intro j sum i hj hi hs
    obtain ⟨⟨q0, q1, q2, q3, q4, q5, q6, q7⟩, hVi, hWe, hCo, hOf, hBo, hWo, hMo, hRe, hLi, hTa⟩ := id hO
    have hC1 := hσ.cr hC
    obtain ⟨⟨l0, l1, lV, lC, lZ, lS⟩, ⟨b0, b1, bO, bB⟩, ⟨w0, wR, wL⟩, ⟨t0, t1, t2, tR, tB⟩, ⟨n9, nW⟩, m0, mM⟩ := id hC1
    have hcr := crnF_rng hO oo s k
    have hsr := hadS_rng hO oo k h1 j (by omega)
    refine v_iload7 d_Ac_hadIn_58 ?_
    refine v_aload0 d_Ac_hadIn_60 ?_
    refine v_getR d_Ac_hadIn_61 f_Ac_15 (sh_47 T) rfl ?_
    refine v_getR d_Ac_hadIn_64 f_Ac_49 (sh_1 T) rfl ?_
    refine v_getJ (ji := 1) d_Ac_hadIn_67 f_Ac_53 (sh_2 T) rfl rfl (fun g67 => ?_)
    refine v_icmp_ge d_Ac_hadIn_70 (by omega) (by omega) (fun u70 => ?_) (fun u70 => ?_)
    · omega
    · refine v_aload0 d_Ac_hadIn_73 ?_
      refine v_getR d_Ac_hadIn_74 f_Ac_15 (sh_47 T) rfl ?_
      refine v_getR d_Ac_hadIn_77 f_Ac_49 (sh_1 T) rfl ?_
      refine v_getR d_Ac_hadIn_80 f_Ac_58 (sh_2 T) rfl ?_
      refine v_iload7 d_Ac_hadIn_83 ?_
      refine v_bipush d_Ac_hadIn_85 rfl ?_
      refine v_imul d_Ac_hadIn_87 ?_
      refine v_iload2 d_Ac_hadIn_88 ?_
      refine v_iadd d_Ac_hadIn_89 ?_
      refine v_iaload d_Ac_hadIn_90 (sh_8 T) (by omega) (fun g90 => ?_)
      refine v_istore8 d_Ac_hadIn_91 (by decide) rfl ?_
      have hlc := lC i s (by omega) (by omega) (by omega) (by omega)
      have hco := hCo i s (by omega) (by omega) (by omega) (by omega)
      have hdh := dhF_rng A oo i s k 60
      have hon := had_one hco hcr (n := dhF A oo i s k 60) (by omega)
      rw [← hp, ← hlc] at hon
      refine v_iload8 d_Ac_hadIn_93 ?_
      refine v_iload8 d_Ac_hadIn_95 ?_
      refine v_iload5 d_Ac_hadIn_97 ?_
      refine v_imul d_Ac_hadIn_99 ?_
      refine v_bipush d_Ac_hadIn_100 rfl ?_
      refine v_idiv d_Ac_hadIn_102 (by omega) (by omega) ?_
      refine v_isub d_Ac_hadIn_103 ?_
      refine v_istore8 d_Ac_hadIn_104 (by decide) rfl ?_
      refine v_iload6 d_Ac_hadIn_106 ?_
      refine v_iload8 d_Ac_hadIn_108 ?_
      refine v_aload0 d_Ac_hadIn_110 ?_
      refine v_iload7 d_Ac_hadIn_111 ?_
      refine v_iload1 d_Ac_hadIn_113 ?_
      refine v_iload4 d_Ac_hadIn_114 ?_
      refine v_iload3 d_Ac_hadIn_116 ?_
      refine v_fVI4 d_Ac_hadIn_117 l_Ac_62 k_Ac_daysHeld (c_Ac_daysHeld (s := s) hC1 hO (by omega) (by omega) (by omega) (by omega) (by omega) hT1) (sh_47 T) rfl (by decide) (by decide) (Nat.le_of_ble_eq_true rfl) (Nat.zero_le _) (Nat.zero_le _) (fun g117 => ?_)
      refine v_imul d_Ac_hadIn_120 ?_
      refine v_bipush d_Ac_hadIn_121 rfl ?_
      refine v_idiv d_Ac_hadIn_123 (by omega) (by omega) ?_
      refine v_iadd d_Ac_hadIn_124 ?_
      refine v_istore6 d_Ac_hadIn_125 (by decide) rfl ?_
      refine v_iinc7 d_Ac_hadIn_127 (by decide) rfl ?_
      refine v_goto d_Ac_hadIn_130 ?_
      refine v_drop8 ?_
      exact ih (j + 1) _ _ (by omega) (by omega) (by rw [hadS, ← hs, ← hi, ← hp, ← hlc])

theorem c_Ac_hadIn {T : vSh} {σ : vMem} {A : Int → Int} (hC : CR σ A) (hO : okA A) {oo s k : Int} (h0 : 0 ≤ oo ∧ oo < A 1) (h1 : 0 ≤ s ∧ s < 20) (h2 : vIn k) : mt_Ac_hadIn [.ref 47, .int (iI oo), .int (iI s), .int (iI k)] (S0 ++ T) σ (rP (S0 ++ T) (fun z σ2 => z = hadF A oo s k ∧ CF σ σ2)) := by
  refine vMet.intro 5 (by decide +kernel) (Nat.le_of_ble_eq_true rfl) rfl (fun cx hM _ => ?_)
  obtain ⟨⟨q0, q1, q2, q3, q4, q5, q6, q7⟩, hVi, hWe, hCo, hOf, hBo, hWo, hMo, hRe, hLi, hTa⟩ := id hO
  obtain ⟨⟨l0, l1, lV, lC, lZ, lS⟩, ⟨b0, b1, bO, bB⟩, ⟨w0, wR, wL⟩, ⟨t0, t1, t2, tR, tB⟩, ⟨n9, nW⟩, m0, mM⟩ := id hC
  refine v_iload2 d_Ac_hadIn_0 ?_
  refine v_bipush d_Ac_hadIn_1 rfl ?_
  refine v_imul d_Ac_hadIn_3 ?_
  refine v_istore4 d_Ac_hadIn_4 (by decide) rfl ?_
  refine v_iconst d_Ac_hadIn_6 ?_
  refine v_istore5 d_Ac_hadIn_7 (by decide) rfl ?_
  refine v_aload0 d_Ac_hadIn_9 ?_
  refine v_getR d_Ac_hadIn_10 f_Ac_15 (sh_47 T) rfl ?_
  refine v_getR d_Ac_hadIn_13 f_Ac_23 (sh_1 T) rfl ?_
  refine v_iload1 d_Ac_hadIn_16 ?_
  refine v_iload4 d_Ac_hadIn_17 ?_
  refine v_fVZ2 d_Ac_hadIn_19 l_Ac_29 k_Bo_serves (c_Bo_serves hC hO (by omega) (by omega)) (sh_10 T) rfl (by decide) (by decide) (Nat.le_of_ble_eq_true rfl) (Nat.zero_le _) (Nat.zero_le _) (fun g19 => ?_)
  refine v_ifb_eq d_Ac_hadIn_22 (fun u22 => ?_) (fun u22 => ?_)
  · refine v_aload0 d_Ac_hadIn_45 ?_
    refine v_iload1 d_Ac_hadIn_46 ?_
    refine v_iload4 d_Ac_hadIn_47 ?_
    refine v_gVV2 d_Ac_hadIn_49 l_Ac_45 k_Ac_markTurns (c_Ac_markTurns hC hO (by omega) (by omega)) (sh_47 T) rfl (by decide) (by decide) (Nat.le_of_ble_eq_true rfl) (Nat.zero_le _) (Nat.zero_le _) (fun z49 s49 e49 => ?_)
    refine v_iconst d_Ac_hadIn_52 ?_
    refine v_istore6 d_Ac_hadIn_53 (by decide) rfl ?_
    refine v_iconst d_Ac_hadIn_55 ?_
    refine v_istore7 d_Ac_hadIn_56 (by decide) rfl ?_
    first
    | (exact c_Ac_hadIn_58 hC hO h0 h1 h2 ((CF_46 e33.1).trans' (CF_48 e49.1)) (by omega) e49.2 (by rw [crnF, if_pos (by rw [show 60 * s = s * 60 by omega]; exact u22), ← show s * 60 = 60 * s by omega]; exact e33.2.2.2.1) hM (A 0).toNat 0 _ _ (by omega) rfl rfl)
    | (exact c_Ac_hadIn_58 hC hO h0 h1 h2 (CF_48 e49.1) (by omega) e49.2 (by rw [crnF, if_neg (by rw [show 60 * s = s * 60 by omega]; exact u22)]) hM (A 0).toNat 0 _ _ (by omega) rfl rfl)
  · refine v_aload0 d_Ac_hadIn_25 ?_
    refine v_getR d_Ac_hadIn_26 f_Ac_19 (sh_47 T) rfl ?_
    refine v_iload1 d_Ac_hadIn_29 ?_
    refine v_iload4 d_Ac_hadIn_30 ?_
    refine v_iload3 d_Ac_hadIn_32 ?_
    refine v_gVV3 d_Ac_hadIn_33 l_Ac_35 k_Sc_reckon (c_Sc_reckon hC hO (by omega) (by omega) (by omega) (by omega)) (sh_46 T) rfl (by decide) (by decide) (Nat.le_of_ble_eq_true rfl) (Nat.zero_le _) (Nat.zero_le _) (fun z33 s33 e33 => ?_)
    have hC33 := CR_46 e33.1 hC
    have hs9 := scF_rng hO oo (s * 60) k
    refine v_aload0 d_Ac_hadIn_36 ?_
    refine v_getR d_Ac_hadIn_37 f_Ac_19 (sh_47 T) rfl ?_
    refine v_getJ (ji := 3) d_Ac_hadIn_40 f_Ac_41 (sh_46 T) rfl rfl (fun g40 => ?_)
    refine v_istore5 d_Ac_hadIn_43 (by decide) rfl ?_
    refine v_aload0 d_Ac_hadIn_45 ?_
    refine v_iload1 d_Ac_hadIn_46 ?_
    refine v_iload4 d_Ac_hadIn_47 ?_
    refine v_gVV2 d_Ac_hadIn_49 l_Ac_45 k_Ac_markTurns (c_Ac_markTurns hC33 hO (by omega) (by omega)) (sh_47 T) rfl (by decide) (by decide) (Nat.le_of_ble_eq_true rfl) (Nat.zero_le _) (Nat.zero_le _) (fun z49 s49 e49 => ?_)
    refine v_iconst d_Ac_hadIn_52 ?_
    refine v_istore6 d_Ac_hadIn_53 (by decide) rfl ?_
    refine v_iconst d_Ac_hadIn_55 ?_
    refine v_istore7 d_Ac_hadIn_56 (by decide) rfl ?_
    first
    | (exact c_Ac_hadIn_58 hC hO h0 h1 h2 ((CF_46 e33.1).trans' (CF_48 e49.1)) (by omega) e49.2 (by rw [crnF, if_pos (by rw [show 60 * s = s * 60 by omega]; exact u22), ← show s * 60 = 60 * s by omega]; exact e33.2.2.2.1) hM (A 0).toNat 0 _ _ (by omega) rfl rfl)
    | (exact c_Ac_hadIn_58 hC hO h0 h1 h2 (CF_48 e49.1) (by omega) e49.2 (by rw [crnF, if_neg (by rw [show 60 * s = s * 60 by omega]; exact u22)]) hM (A 0).toNat 0 _ _ (by omega) rfl rfl)

theorem c_Ac_dueIn_22 {T : vSh} {σ : vMem} {cx : vCx} {A : Int → Int} (hC : CR σ A) (hO : okA A) {oo s k : Int} (h0 : 0 ≤ oo ∧ oo < A 1) (h1 : 0 ≤ s ∧ s < 20) (h2 : vIn k) {σ0 : vMem} (hσ0 : CF σ σ0) {f : Int} (hf : f = 60 * s) (hT : TT σ0 A oo f) (hM : vM cx 0 0 (some .int) (rP (S0 ++ T) (fun z σ2 => z = dueF A oo s k ∧ CF σ σ2))) : ∀ (n j : Nat) (y sum i : Int) (σ1 : vMem), (j : Int) + n = 60 → i = j → (∀ k, k ≠ 46 → σ1 k = σ0 k) → sum = dueS A oo s k j → (0 ≤ y ∧ y ≤ 159984) → ((j : Int) ≠ 0 → y = dueD A oo (f + i - 1) k) → vV cx y_Ac_dueIn.cls prog_2_method_3_code 9 4 0 0 0 0 22 [some (.ref 47), some (.int (iI oo)), some (.int (iI s)), some (.int (iI k)), some (.int (iI f)), some (.int (iI y)), some (.int (iI sum)), some (.int (iI i)), none] [] (S0 ++ T) σ1 := by
  intro n
  induction n with
  | zero =>
    intro j y sum i σ1 hj hi hσ hs hy hyy
    obtain ⟨⟨q0, q1, q2, q3, q4, q5, q6, q7⟩, hVi, hWe, hCo, hOf, hBo, hWo, hMo, hRe, hLi, hTa⟩ := id hO
    have hq1 : CF σ σ1 := hσ0.trans' (CF_46 hσ)
    have hC1 := hq1.cr hC
    have hT1 : TT σ1 A oo f := TT_off (hσ 48 (by decide)) hT
    obtain ⟨⟨l0, l1, lV, lC, lZ, lS⟩, ⟨b0, b1, bO, bB⟩, ⟨w0, wR, wL⟩, ⟨t0, t1, t2, tR, tB⟩, ⟨n9, nW⟩, m0, mM⟩ := id hC1
    have hsr := dueS_rng hO oo s k j
    have hyr := dueY_rng hO oo (f + i) k
    have hdd := dueD_rng hO oo (f + i - 1) k
    have hd9 : dueS A oo s k (j + 1) = dueS A oo s k j + dueD A oo (f + i) k := by rw [dueS, hf, hi]
    have hd8 := dueD_rng hO oo (f + i) k
    refine v_iload7 d_Ac_dueIn_22 ?_
    refine v_bipush d_Ac_dueIn_24 rfl ?_
    refine v_icmp_ge d_Ac_dueIn_26 (by omega) (by omega) (fun u26 => ?_) (fun u26 => ?_)
    · refine v_iload6 d_Ac_dueIn_111 ?_
      refine v_bipush d_Ac_dueIn_113 rfl ?_
      refine v_idiv d_Ac_dueIn_115 (by omega) (by omega) ?_
      exact v_ireturn hM d_Ac_dueIn_116 (by omega) ⟨rfl, by rw [dueF, hs, show j = 60 by omega], hq1⟩
    · omega
  | succ n ih =>
    intro j y sum i σ1 hj hi hσ hs hy hyy
    obtain ⟨⟨q0, q1, q2, q3, q4, q5, q6, q7⟩, hVi, hWe, hCo, hOf, hBo, hWo, hMo, hRe, hLi, hTa⟩ := id hO
    have hq1 : CF σ σ1 := hσ0.trans' (CF_46 hσ)
    have hC1 := hq1.cr hC
    have hT1 : TT σ1 A oo f := TT_off (hσ 48 (by decide)) hT
    obtain ⟨⟨l0, l1, lV, lC, lZ, lS⟩, ⟨b0, b1, bO, bB⟩, ⟨w0, wR, wL⟩, ⟨t0, t1, t2, tR, tB⟩, ⟨n9, nW⟩, m0, mM⟩ := id hC1
    have hsr := dueS_rng hO oo s k j
    have hyr := dueY_rng hO oo (f + i) k
    have hdd := dueD_rng hO oo (f + i - 1) k
    have hd9 : dueS A oo s k (j + 1) = dueS A oo s k j + dueD A oo (f + i) k := by rw [dueS, hf, hi]
    have hd8 := dueD_rng hO oo (f + i) k
    have htt := hT1 i (by omega) (by omega)
    refine v_iload7 d_Ac_dueIn_22 ?_
    refine v_bipush d_Ac_dueIn_24 rfl ?_
    refine v_icmp_ge d_Ac_dueIn_26 (by omega) (by omega) (fun u26 => ?_) (fun u26 => ?_)
    · omega
    · refine v_iload4 d_Ac_dueIn_29 ?_
      refine v_iload7 d_Ac_dueIn_31 ?_
      refine v_iadd d_Ac_dueIn_33 ?_
      refine v_istore8 d_Ac_dueIn_34 (by decide) rfl ?_
      refine v_aload0 d_Ac_dueIn_36 ?_
      refine v_getR d_Ac_dueIn_37 f_Ac_9 (sh_47 T) rfl ?_
      refine v_iload7 d_Ac_dueIn_40 ?_
      refine v_zaload d_Ac_dueIn_42 (sh_48 T) (by omega) (fun g42 => ?_)
      refine v_if_eq d_Ac_dueIn_43 (by omega) (fun u43 => ?_) (fun u43 => ?_)
      · refine v_aload0 d_Ac_dueIn_85 ?_
        refine v_getR d_Ac_dueIn_86 f_Ac_9 (sh_47 T) rfl ?_
        refine v_iload7 d_Ac_dueIn_89 ?_
        refine v_zaload d_Ac_dueIn_91 (sh_48 T) (by omega) (fun g91 => ?_)
        refine v_if_eq d_Ac_dueIn_92 (by omega) (fun u92 => ?_) (fun u92 => ?_)
        · refine v_iload6 d_Ac_dueIn_98 ?_
          refine v_iload5 d_Ac_dueIn_100 ?_
          refine v_iadd d_Ac_dueIn_102 ?_
          refine v_istore6 d_Ac_dueIn_103 (by decide) rfl ?_
          refine v_iinc7 d_Ac_dueIn_105 (by decide) rfl ?_
          refine v_goto d_Ac_dueIn_108 ?_
          refine v_drop8 ?_
          first
          | (exfalso; omega)
          | (have hcon : dueD A oo (f + i) k = dueY A oo (f + i) k := if_pos u59
             exact ih (j + 1) _ _ _ _ (by omega) (by omega) (fun k hk => by rw [e70.1 k hk]; exact hσ k hk) (by rw [hd9, hcon, hs, dueY]) (by rw [← hv9]; omega) (fun _ => by rw [show f + (i + 1) - 1 = f + i by omega, hcon, dueY]))
          | (have hcon : dueD A oo (f + i) k = 0 := if_neg u59
             exact ih (j + 1) _ _ _ _ (by omega) (by omega) hσ (by omega) (by omega) (fun _ => by rw [show f + (i + 1) - 1 = f + i by omega, hcon]))
          | (have hcon := noChg_dueD hO (by omega) (htt.2 u43).2 k
             have hnz := (htt.2 u43).1
             have hy9 := hyy (by omega)
             exact ih (j + 1) _ _ _ _ (by omega) (by omega) hσ (by omega) (by omega) (fun _ => by rw [show f + (i + 1) - 1 = f + i by omega]; omega))
        · refine v_iconst d_Ac_dueIn_95 ?_
          refine v_istore5 d_Ac_dueIn_96 (by decide) rfl ?_
          refine v_iload6 d_Ac_dueIn_98 ?_
          refine v_iload5 d_Ac_dueIn_100 ?_
          refine v_iadd d_Ac_dueIn_102 ?_
          refine v_istore6 d_Ac_dueIn_103 (by decide) rfl ?_
          refine v_iinc7 d_Ac_dueIn_105 (by decide) rfl ?_
          refine v_goto d_Ac_dueIn_108 ?_
          refine v_drop8 ?_
          first
          | (exfalso; omega)
          | (have hcon : dueD A oo (f + i) k = dueY A oo (f + i) k := if_pos u59
             exact ih (j + 1) _ _ _ _ (by omega) (by omega) (fun k hk => by rw [e70.1 k hk]; exact hσ k hk) (by rw [hd9, hcon, hs, dueY]) (by rw [← hv9]; omega) (fun _ => by rw [show f + (i + 1) - 1 = f + i by omega, hcon, dueY]))
          | (have hcon : dueD A oo (f + i) k = 0 := if_neg u59
             exact ih (j + 1) _ _ _ _ (by omega) (by omega) hσ (by omega) (by omega) (fun _ => by rw [show f + (i + 1) - 1 = f + i by omega, hcon]))
          | (have hcon := noChg_dueD hO (by omega) (htt.2 u43).2 k
             have hnz := (htt.2 u43).1
             have hy9 := hyy (by omega)
             exact ih (j + 1) _ _ _ _ (by omega) (by omega) hσ (by omega) (by omega) (fun _ => by rw [show f + (i + 1) - 1 = f + i by omega]; omega))
      · refine v_aload0 d_Ac_dueIn_46 ?_
        refine v_getR d_Ac_dueIn_47 f_Ac_15 (sh_47 T) rfl ?_
        refine v_getR d_Ac_dueIn_50 f_Ac_23 (sh_1 T) rfl ?_
        refine v_iload1 d_Ac_dueIn_53 ?_
        refine v_iload8 d_Ac_dueIn_54 ?_
        refine v_fVZ2 d_Ac_dueIn_56 l_Ac_29 k_Bo_serves (c_Bo_serves hC1 hO (by omega) (by omega)) (sh_10 T) rfl (by decide) (by decide) (Nat.le_of_ble_eq_true rfl) (Nat.zero_le _) (Nat.zero_le _) (fun g56 => ?_)
        refine v_ifb_eq d_Ac_dueIn_59 (fun u59 => ?_) (fun u59 => ?_)
        · refine v_aload0 d_Ac_dueIn_85 ?_
          refine v_getR d_Ac_dueIn_86 f_Ac_9 (sh_47 T) rfl ?_
          refine v_iload7 d_Ac_dueIn_89 ?_
          refine v_zaload d_Ac_dueIn_91 (sh_48 T) (by omega) (fun g91 => ?_)
          refine v_if_eq d_Ac_dueIn_92 (by omega) (fun u92 => ?_) (fun u92 => ?_)
          · refine v_iload6 d_Ac_dueIn_98 ?_
            refine v_iload5 d_Ac_dueIn_100 ?_
            refine v_iadd d_Ac_dueIn_102 ?_
            refine v_istore6 d_Ac_dueIn_103 (by decide) rfl ?_
            refine v_iinc7 d_Ac_dueIn_105 (by decide) rfl ?_
            refine v_goto d_Ac_dueIn_108 ?_
            refine v_drop8 ?_
            first
            | (exfalso; omega)
            | (have hcon : dueD A oo (f + i) k = dueY A oo (f + i) k := if_pos u59
               exact ih (j + 1) _ _ _ _ (by omega) (by omega) (fun k hk => by rw [e70.1 k hk]; exact hσ k hk) (by rw [hd9, hcon, hs, dueY]) (by rw [← hv9]; omega) (fun _ => by rw [show f + (i + 1) - 1 = f + i by omega, hcon, dueY]))
            | (have hcon : dueD A oo (f + i) k = 0 := if_neg u59
               exact ih (j + 1) _ _ _ _ (by omega) (by omega) hσ (by omega) (by omega) (fun _ => by rw [show f + (i + 1) - 1 = f + i by omega, hcon]))
            | (have hcon := noChg_dueD hO (by omega) (htt.2 u43).2 k
               have hnz := (htt.2 u43).1
               have hy9 := hyy (by omega)
               exact ih (j + 1) _ _ _ _ (by omega) (by omega) hσ (by omega) (by omega) (fun _ => by rw [show f + (i + 1) - 1 = f + i by omega]; omega))
          · refine v_iconst d_Ac_dueIn_95 ?_
            refine v_istore5 d_Ac_dueIn_96 (by decide) rfl ?_
            refine v_iload6 d_Ac_dueIn_98 ?_
            refine v_iload5 d_Ac_dueIn_100 ?_
            refine v_iadd d_Ac_dueIn_102 ?_
            refine v_istore6 d_Ac_dueIn_103 (by decide) rfl ?_
            refine v_iinc7 d_Ac_dueIn_105 (by decide) rfl ?_
            refine v_goto d_Ac_dueIn_108 ?_
            refine v_drop8 ?_
            first
            | (exfalso; omega)
            | (have hcon : dueD A oo (f + i) k = dueY A oo (f + i) k := if_pos u59
               exact ih (j + 1) _ _ _ _ (by omega) (by omega) (fun k hk => by rw [e70.1 k hk]; exact hσ k hk) (by rw [hd9, hcon, hs, dueY]) (by rw [← hv9]; omega) (fun _ => by rw [show f + (i + 1) - 1 = f + i by omega, hcon, dueY]))
            | (have hcon : dueD A oo (f + i) k = 0 := if_neg u59
               exact ih (j + 1) _ _ _ _ (by omega) (by omega) hσ (by omega) (by omega) (fun _ => by rw [show f + (i + 1) - 1 = f + i by omega, hcon]))
            | (have hcon := noChg_dueD hO (by omega) (htt.2 u43).2 k
               have hnz := (htt.2 u43).1
               have hy9 := hyy (by omega)
               exact ih (j + 1) _ _ _ _ (by omega) (by omega) hσ (by omega) (by omega) (fun _ => by rw [show f + (i + 1) - 1 = f + i by omega]; omega))
        · refine v_aload0 d_Ac_dueIn_62 ?_
          refine v_getR d_Ac_dueIn_63 f_Ac_19 (sh_47 T) rfl ?_
          refine v_iload1 d_Ac_dueIn_66 ?_
          refine v_iload8 d_Ac_dueIn_67 ?_
          refine v_iload3 d_Ac_dueIn_69 ?_
          refine v_gVV3 d_Ac_dueIn_70 l_Ac_35 k_Sc_reckon (c_Sc_reckon hC1 hO (by omega) (by omega) (by omega) (by omega)) (sh_46 T) rfl (by decide) (by decide) (Nat.le_of_ble_eq_true rfl) (Nat.zero_le _) (Nat.zero_le _) (fun z70 s70 e70 => ?_)
          have hC70 := CR_46 e70.1 hC1
          have hs9 := scF_rng hO oo (f + i) k
          have hv9 : dueY A oo (f + i) k = (scF A oo (f + i) k).1 * (scF A oo (f + i) k).2.1 / 12 := rfl
          refine v_aload0 d_Ac_dueIn_73 ?_
          refine v_getR d_Ac_dueIn_74 f_Ac_19 (sh_47 T) rfl ?_
          refine v_fVI0 d_Ac_dueIn_77 l_Ac_66 k_Sc_yearly (c_Sc_yearly e70.2 (by omega)) (sh_46 T) rfl (by decide) (by decide) (Nat.le_of_ble_eq_true rfl) (Nat.zero_le _) (Nat.zero_le _) (fun g77 => ?_)
          refine v_istore5 d_Ac_dueIn_80 (by decide) rfl ?_
          refine v_goto d_Ac_dueIn_82 ?_
          refine v_iload6 d_Ac_dueIn_98 ?_
          refine v_iload5 d_Ac_dueIn_100 ?_
          refine v_iadd d_Ac_dueIn_102 ?_
          refine v_istore6 d_Ac_dueIn_103 (by decide) rfl ?_
          refine v_iinc7 d_Ac_dueIn_105 (by decide) rfl ?_
          refine v_goto d_Ac_dueIn_108 ?_
          refine v_drop8 ?_
          first
          | (exfalso; omega)
          | (have hcon : dueD A oo (f + i) k = dueY A oo (f + i) k := if_pos u59
             exact ih (j + 1) _ _ _ _ (by omega) (by omega) (fun k hk => by rw [e70.1 k hk]; exact hσ k hk) (by rw [hd9, hcon, hs, dueY]) (by rw [← hv9]; omega) (fun _ => by rw [show f + (i + 1) - 1 = f + i by omega, hcon, dueY]))
          | (have hcon : dueD A oo (f + i) k = 0 := if_neg u59
             exact ih (j + 1) _ _ _ _ (by omega) (by omega) hσ (by omega) (by omega) (fun _ => by rw [show f + (i + 1) - 1 = f + i by omega, hcon]))
          | (have hcon := noChg_dueD hO (by omega) (htt.2 u43).2 k
             have hnz := (htt.2 u43).1
             have hy9 := hyy (by omega)
             exact ih (j + 1) _ _ _ _ (by omega) (by omega) hσ (by omega) (by omega) (fun _ => by rw [show f + (i + 1) - 1 = f + i by omega]; omega))

theorem c_Ac_dueIn {T : vSh} {σ : vMem} {A : Int → Int} (hC : CR σ A) (hO : okA A) {oo s k : Int} (h0 : 0 ≤ oo ∧ oo < A 1) (h1 : 0 ≤ s ∧ s < 20) (h2 : vIn k) : mt_Ac_dueIn [.ref 47, .int (iI oo), .int (iI s), .int (iI k)] (S0 ++ T) σ (rP (S0 ++ T) (fun z σ2 => z = dueF A oo s k ∧ CF σ σ2)) := by
  refine vMet.intro 5 (by decide +kernel) (Nat.le_of_ble_eq_true rfl) rfl (fun cx hM _ => ?_)
  obtain ⟨⟨q0, q1, q2, q3, q4, q5, q6, q7⟩, hVi, hWe, hCo, hOf, hBo, hWo, hMo, hRe, hLi, hTa⟩ := id hO
  obtain ⟨⟨l0, l1, lV, lC, lZ, lS⟩, ⟨b0, b1, bO, bB⟩, ⟨w0, wR, wL⟩, ⟨t0, t1, t2, tR, tB⟩, ⟨n9, nW⟩, m0, mM⟩ := id hC
  refine v_iload2 d_Ac_dueIn_0 ?_
  refine v_bipush d_Ac_dueIn_1 rfl ?_
  refine v_imul d_Ac_dueIn_3 ?_
  refine v_istore4 d_Ac_dueIn_4 (by decide) rfl ?_
  refine v_aload0 d_Ac_dueIn_6 ?_
  refine v_iload1 d_Ac_dueIn_7 ?_
  refine v_iload4 d_Ac_dueIn_8 ?_
  refine v_gVV2 d_Ac_dueIn_10 l_Ac_45 k_Ac_markTurns (c_Ac_markTurns hC hO (by omega) (by omega)) (sh_47 T) rfl (by decide) (by decide) (Nat.le_of_ble_eq_true rfl) (Nat.zero_le _) (Nat.zero_le _) (fun z10 s10 e10 => ?_)
  refine v_iconst d_Ac_dueIn_13 ?_
  refine v_istore5 d_Ac_dueIn_14 (by decide) rfl ?_
  refine v_iconst d_Ac_dueIn_16 ?_
  refine v_istore6 d_Ac_dueIn_17 (by decide) rfl ?_
  refine v_iconst d_Ac_dueIn_19 ?_
  refine v_istore7 d_Ac_dueIn_20 (by decide) rfl ?_
  exact c_Ac_dueIn_22 hC hO h0 h1 h2 (CF_48 e10.1) (by omega) e10.2 hM 60 0 _ _ _ _ (by omega) rfl (fun k _ => rfl) rfl (by omega) (fun h => absurd rfl h)

theorem c_Ac_balanceUpTo_6 {T : vSh} {σ : vMem} {cx : vCx} {A : Int → Int} (hC : CR σ A) (hO : okA A) {oo s k : Int} (h0 : 0 ≤ oo ∧ oo < A 1) (h1 : 0 ≤ s ∧ s < 20) (h2 : vIn k) (hM : vM cx 0 0 (some .int) (rP (S0 ++ T) (fun z σ2 => z = balS A oo k (s + 1).toNat ∧ CF σ σ2))) : ∀ (n j : Nat) (sum i : Int) (σ1 : vMem), (j : Int) + n = s + 1 → i = j → CF σ σ1 → sum = balS A oo k j → vV cx y_Ac_balanceUpTo.cls prog_2_method_4_code 6 5 0 0 0 0 6 [some (.ref 47), some (.int (iI oo)), some (.int (iI s)), some (.int (iI k)), some (.int (iI sum)), some (.int (iI i))] [] (S0 ++ T) σ1 := by
  intro n
  induction n with
  | zero =>
    intro j sum i σ1 hj hi hσ hs
    obtain ⟨⟨q0, q1, q2, q3, q4, q5, q6, q7⟩, hVi, hWe, hCo, hOf, hBo, hWo, hMo, hRe, hLi, hTa⟩ := id hO
    have hC1 := hσ.cr hC
    have hbr := balS_rng hO oo k j (by omega)
    refine v_iload5 d_Ac_balanceUpTo_6 ?_
    refine v_iload2 d_Ac_balanceUpTo_8 ?_
    refine v_icmp_gt d_Ac_balanceUpTo_9 (by omega) (by omega) (fun u9 => ?_) (fun u9 => ?_)
    · refine v_iload4 d_Ac_balanceUpTo_40 ?_
      exact v_ireturn hM d_Ac_balanceUpTo_42 (by omega) ⟨rfl, by rw [hs]; congr 1; omega, hσ⟩
    · omega
  | succ n ih =>
    intro j sum i σ1 hj hi hσ hs
    obtain ⟨⟨q0, q1, q2, q3, q4, q5, q6, q7⟩, hVi, hWe, hCo, hOf, hBo, hWo, hMo, hRe, hLi, hTa⟩ := id hO
    have hC1 := hσ.cr hC
    have hbr := balS_rng hO oo k j (by omega)
    have hbr2 := balS_rng hO oo k (j + 1) (by omega)
    rw [balS, ← hi] at hbr2
    refine v_iload5 d_Ac_balanceUpTo_6 ?_
    refine v_iload2 d_Ac_balanceUpTo_8 ?_
    refine v_icmp_gt d_Ac_balanceUpTo_9 (by omega) (by omega) (fun u9 => ?_) (fun u9 => ?_)
    · omega
    · refine v_iload4 d_Ac_balanceUpTo_12 ?_
      refine v_aload0 d_Ac_balanceUpTo_14 ?_
      refine v_iload1 d_Ac_balanceUpTo_15 ?_
      refine v_iload5 d_Ac_balanceUpTo_16 ?_
      refine v_iload3 d_Ac_balanceUpTo_18 ?_
      refine v_gVI3 d_Ac_balanceUpTo_19 l_Ac_70 k_Ac_hadIn (c_Ac_hadIn hC1 hO (by omega) (by omega) (by omega)) (sh_47 T) rfl (by decide) (by decide) (Nat.le_of_ble_eq_true rfl) (Nat.zero_le _) (Nat.zero_le _) (fun z19 s19 g19 e19 => ?_)
      have hC19 := e19.2.cr hC1
      refine v_aload0 d_Ac_balanceUpTo_22 ?_
      refine v_iload1 d_Ac_balanceUpTo_23 ?_
      refine v_iload5 d_Ac_balanceUpTo_24 ?_
      refine v_iload3 d_Ac_balanceUpTo_26 ?_
      refine v_gVI3 d_Ac_balanceUpTo_27 l_Ac_74 k_Ac_dueIn (c_Ac_dueIn hC19 hO (by omega) (by omega) (by omega)) (sh_47 T) rfl (by decide) (by decide) (Nat.le_of_ble_eq_true rfl) (Nat.zero_le _) (Nat.zero_le _) (fun z27 s27 g27 e27 => ?_)
      refine v_isub d_Ac_balanceUpTo_30 ?_
      refine v_iadd d_Ac_balanceUpTo_31 ?_
      refine v_istore4 d_Ac_balanceUpTo_32 (by decide) rfl ?_
      refine v_iinc5 d_Ac_balanceUpTo_34 (by decide) rfl ?_
      refine v_goto d_Ac_balanceUpTo_37 ?_
      exact ih (j + 1) _ _ _ (by omega) (by omega) ((hσ.trans' e19.2).trans' e27.2) (by rw [balS, ← hi, ← hs, ← e19.1, ← e27.1])

theorem c_Ac_balanceUpTo {T : vSh} {σ : vMem} {A : Int → Int} (hC : CR σ A) (hO : okA A) {oo s k : Int} (h0 : 0 ≤ oo ∧ oo < A 1) (h1 : 0 ≤ s ∧ s < 20) (h2 : vIn k) : mt_Ac_balanceUpTo [.ref 47, .int (iI oo), .int (iI s), .int (iI k)] (S0 ++ T) σ (rP (S0 ++ T) (fun z σ2 => z = balS A oo k (s + 1).toNat ∧ CF σ σ2)) := by
  refine vMet.intro 2 (by decide +kernel) (Nat.le_of_ble_eq_true rfl) rfl (fun cx hM _ => ?_)
  obtain ⟨⟨q0, q1, q2, q3, q4, q5, q6, q7⟩, hVi, hWe, hCo, hOf, hBo, hWo, hMo, hRe, hLi, hTa⟩ := id hO
  obtain ⟨⟨l0, l1, lV, lC, lZ, lS⟩, ⟨b0, b1, bO, bB⟩, ⟨w0, wR, wL⟩, ⟨t0, t1, t2, tR, tB⟩, ⟨n9, nW⟩, m0, mM⟩ := id hC
  refine v_iconst d_Ac_balanceUpTo_0 ?_
  refine v_istore4 d_Ac_balanceUpTo_1 (by decide) rfl ?_
  refine v_iconst d_Ac_balanceUpTo_3 ?_
  refine v_istore5 d_Ac_balanceUpTo_4 (by decide) rfl ?_
  exact c_Ac_balanceUpTo_6 hC hO h0 h1 h2 hM (s + 1).toNat 0 _ _ _ (by omega) rfl CF.rfl' rfl

theorem c_V_had {T : vSh} {σ : vMem} {A : Int → Int} (hC : CR σ A) (hO : okA A) {oo s k : Int} (h0 : vIn oo) (h1 : vIn s) (h2 : vIn k) : mt_V_had [.ref 0, .int (iI oo), .int (iI s), .int (iI k)] (S0 ++ T) σ (rP (S0 ++ T) (fun z σ2 => z = rHad A oo s k ∧ CF σ σ2)) := by
  refine vMet.intro 0 (by decide +kernel) (Nat.le_of_ble_eq_true rfl) rfl (fun cx hM _ => ?_)
  obtain ⟨⟨q0, q1, q2, q3, q4, q5, q6, q7⟩, hVi, hWe, hCo, hOf, hBo, hWo, hMo, hRe, hLi, hTa⟩ := id hO
  obtain ⟨⟨l0, l1, lV, lC, lZ, lS⟩, ⟨b0, b1, bO, bB⟩, ⟨w0, wR, wL⟩, ⟨t0, t1, t2, tR, tB⟩, ⟨n9, nW⟩, m0, mM⟩ := id hC
  refine v_aload0 d_V_had_0 ?_
  refine v_iload1 d_V_had_1 ?_
  refine v_fVZ1 d_V_had_2 l_V_150 k_V_isOfficer (c_V_isOfficer hC hO (by omega)) (sh_0 T) rfl (by decide) (by decide) (Nat.le_of_ble_eq_true rfl) (Nat.zero_le _) (Nat.zero_le _) (fun g2 => ?_)
  refine v_ifb_eq d_V_had_5 (fun u5 => ?_) (fun u5 => ?_)
  · refine v_iconst d_V_had_31 ?_
    first
    | (exact v_ireturn hM d_V_had_32 g40 ⟨rfl, by rw [rHad, if_pos (by omega)]; exact e40.1, e40.2⟩)
    | (exact v_ireturn hM d_V_had_32 (by omega) ⟨rfl, by rw [rHad, if_neg (by omega)], CF.rfl'⟩)
  · refine v_iload2 d_V_had_8 ?_
    refine v_fSZ1 d_V_had_9 l_V_96 k_V_isSeason (c_V_isSeason (by omega)) (by decide) (by decide) (Nat.le_of_ble_eq_true rfl) (Nat.zero_le _) (Nat.zero_le _) (fun g9 => ?_)
    refine v_ifb_eq d_V_had_12 (fun u12 => ?_) (fun u12 => ?_)
    · refine v_iconst d_V_had_31 ?_
      first
      | (exact v_ireturn hM d_V_had_32 g40 ⟨rfl, by rw [rHad, if_pos (by omega)]; exact e40.1, e40.2⟩)
      | (exact v_ireturn hM d_V_had_32 (by omega) ⟨rfl, by rw [rHad, if_neg (by omega)], CF.rfl'⟩)
    · refine v_aload0 d_V_had_15 ?_
      refine v_iload3 d_V_had_16 ?_
      refine v_fVZ1 d_V_had_17 l_V_181 k_V_isKnownDay (c_V_isKnownDay hC hO (by omega)) (sh_0 T) rfl (by decide) (by decide) (Nat.le_of_ble_eq_true rfl) (Nat.zero_le _) (Nat.zero_le _) (fun g17 => ?_)
      refine v_ifb_eq d_V_had_20 (fun u20 => ?_) (fun u20 => ?_)
      · refine v_iconst d_V_had_31 ?_
        first
        | (exact v_ireturn hM d_V_had_32 g40 ⟨rfl, by rw [rHad, if_pos (by omega)]; exact e40.1, e40.2⟩)
        | (exact v_ireturn hM d_V_had_32 (by omega) ⟨rfl, by rw [rHad, if_neg (by omega)], CF.rfl'⟩)
      · refine v_aload0 d_V_had_23 ?_
        refine v_iload2 d_V_had_24 ?_
        refine v_fVZ1 d_V_had_25 l_V_100 k_V_hasEnded (c_V_hasEnded hC hO (by omega)) (sh_0 T) rfl (by decide) (by decide) (Nat.le_of_ble_eq_true rfl) (Nat.zero_le _) (Nat.zero_le _) (fun g25 => ?_)
        refine v_ifb_ne d_V_had_28 (fun u28 => ?_) (fun u28 => ?_)
        · refine v_aload0 d_V_had_33 ?_
          refine v_getR d_V_had_34 f_V_51 (sh_0 T) rfl ?_
          refine v_iload1 d_V_had_37 ?_
          refine v_iload2 d_V_had_38 ?_
          refine v_iload3 d_V_had_39 ?_
          refine v_gVI3 d_V_had_40 l_V_194 k_Ac_hadIn (c_Ac_hadIn hC hO (by omega) (by omega) (by omega)) (sh_47 T) rfl (by decide) (by decide) (Nat.le_of_ble_eq_true rfl) (Nat.zero_le _) (Nat.zero_le _) (fun z40 s40 g40 e40 => ?_)
          first
          | (exact v_ireturn hM d_V_had_43 g40 ⟨rfl, by rw [rHad, if_pos (by omega)]; exact e40.1, e40.2⟩)
          | (exact v_ireturn hM d_V_had_43 (by omega) ⟨rfl, by rw [rHad, if_neg (by omega)], CF.rfl'⟩)
        · refine v_iconst d_V_had_31 ?_
          first
          | (exact v_ireturn hM d_V_had_32 g40 ⟨rfl, by rw [rHad, if_pos (by omega)]; exact e40.1, e40.2⟩)
          | (exact v_ireturn hM d_V_had_32 (by omega) ⟨rfl, by rw [rHad, if_neg (by omega)], CF.rfl'⟩)

theorem c_V_due {T : vSh} {σ : vMem} {A : Int → Int} (hC : CR σ A) (hO : okA A) {oo s k : Int} (h0 : vIn oo) (h1 : vIn s) (h2 : vIn k) : mt_V_due [.ref 0, .int (iI oo), .int (iI s), .int (iI k)] (S0 ++ T) σ (rP (S0 ++ T) (fun z σ2 => z = rDue A oo s k ∧ CF σ σ2)) := by
  refine vMet.intro 0 (by decide +kernel) (Nat.le_of_ble_eq_true rfl) rfl (fun cx hM _ => ?_)
  obtain ⟨⟨q0, q1, q2, q3, q4, q5, q6, q7⟩, hVi, hWe, hCo, hOf, hBo, hWo, hMo, hRe, hLi, hTa⟩ := id hO
  obtain ⟨⟨l0, l1, lV, lC, lZ, lS⟩, ⟨b0, b1, bO, bB⟩, ⟨w0, wR, wL⟩, ⟨t0, t1, t2, tR, tB⟩, ⟨n9, nW⟩, m0, mM⟩ := id hC
  refine v_aload0 d_V_due_0 ?_
  refine v_iload1 d_V_due_1 ?_
  refine v_fVZ1 d_V_due_2 l_V_150 k_V_isOfficer (c_V_isOfficer hC hO (by omega)) (sh_0 T) rfl (by decide) (by decide) (Nat.le_of_ble_eq_true rfl) (Nat.zero_le _) (Nat.zero_le _) (fun g2 => ?_)
  refine v_ifb_eq d_V_due_5 (fun u5 => ?_) (fun u5 => ?_)
  · refine v_iconst d_V_due_23 ?_
    first
    | (exact v_ireturn hM d_V_due_24 g32 ⟨rfl, by rw [rDue, if_pos (by omega)]; exact e32.1, e32.2⟩)
    | (exact v_ireturn hM d_V_due_24 (by omega) ⟨rfl, by rw [rDue, if_neg (by omega)], CF.rfl'⟩)
  · refine v_iload2 d_V_due_8 ?_
    refine v_fSZ1 d_V_due_9 l_V_96 k_V_isSeason (c_V_isSeason (by omega)) (by decide) (by decide) (Nat.le_of_ble_eq_true rfl) (Nat.zero_le _) (Nat.zero_le _) (fun g9 => ?_)
    refine v_ifb_eq d_V_due_12 (fun u12 => ?_) (fun u12 => ?_)
    · refine v_iconst d_V_due_23 ?_
      first
      | (exact v_ireturn hM d_V_due_24 g32 ⟨rfl, by rw [rDue, if_pos (by omega)]; exact e32.1, e32.2⟩)
      | (exact v_ireturn hM d_V_due_24 (by omega) ⟨rfl, by rw [rDue, if_neg (by omega)], CF.rfl'⟩)
    · refine v_aload0 d_V_due_15 ?_
      refine v_iload3 d_V_due_16 ?_
      refine v_fVZ1 d_V_due_17 l_V_181 k_V_isKnownDay (c_V_isKnownDay hC hO (by omega)) (sh_0 T) rfl (by decide) (by decide) (Nat.le_of_ble_eq_true rfl) (Nat.zero_le _) (Nat.zero_le _) (fun g17 => ?_)
      refine v_ifb_ne d_V_due_20 (fun u20 => ?_) (fun u20 => ?_)
      · refine v_aload0 d_V_due_25 ?_
        refine v_getR d_V_due_26 f_V_51 (sh_0 T) rfl ?_
        refine v_iload1 d_V_due_29 ?_
        refine v_iload2 d_V_due_30 ?_
        refine v_iload3 d_V_due_31 ?_
        refine v_gVI3 d_V_due_32 l_V_242 k_Ac_dueIn (c_Ac_dueIn hC hO (by omega) (by omega) (by omega)) (sh_47 T) rfl (by decide) (by decide) (Nat.le_of_ble_eq_true rfl) (Nat.zero_le _) (Nat.zero_le _) (fun z32 s32 g32 e32 => ?_)
        first
        | (exact v_ireturn hM d_V_due_35 g32 ⟨rfl, by rw [rDue, if_pos (by omega)]; exact e32.1, e32.2⟩)
        | (exact v_ireturn hM d_V_due_35 (by omega) ⟨rfl, by rw [rDue, if_neg (by omega)], CF.rfl'⟩)
      · refine v_iconst d_V_due_23 ?_
        first
        | (exact v_ireturn hM d_V_due_24 g32 ⟨rfl, by rw [rDue, if_pos (by omega)]; exact e32.1, e32.2⟩)
        | (exact v_ireturn hM d_V_due_24 (by omega) ⟨rfl, by rw [rDue, if_neg (by omega)], CF.rfl'⟩)

theorem c_V_balance {T : vSh} {σ : vMem} {A : Int → Int} (hC : CR σ A) (hO : okA A) {oo s k : Int} (h0 : vIn oo) (h1 : vIn s) (h2 : vIn k) : mt_V_balance [.ref 0, .int (iI oo), .int (iI s), .int (iI k)] (S0 ++ T) σ (rP (S0 ++ T) (fun z σ2 => z = rBal A oo s k ∧ CF σ σ2)) := by
  refine vMet.intro 0 (by decide +kernel) (Nat.le_of_ble_eq_true rfl) rfl (fun cx hM _ => ?_)
  obtain ⟨⟨q0, q1, q2, q3, q4, q5, q6, q7⟩, hVi, hWe, hCo, hOf, hBo, hWo, hMo, hRe, hLi, hTa⟩ := id hO
  obtain ⟨⟨l0, l1, lV, lC, lZ, lS⟩, ⟨b0, b1, bO, bB⟩, ⟨w0, wR, wL⟩, ⟨t0, t1, t2, tR, tB⟩, ⟨n9, nW⟩, m0, mM⟩ := id hC
  refine v_aload0 d_V_balance_0 ?_
  refine v_iload1 d_V_balance_1 ?_
  refine v_fVZ1 d_V_balance_2 l_V_150 k_V_isOfficer (c_V_isOfficer hC hO (by omega)) (sh_0 T) rfl (by decide) (by decide) (Nat.le_of_ble_eq_true rfl) (Nat.zero_le _) (Nat.zero_le _) (fun g2 => ?_)
  refine v_ifb_eq d_V_balance_5 (fun u5 => ?_) (fun u5 => ?_)
  · refine v_ldc d_V_balance_31 c_V_245 ?_
    first
    | (exact v_ireturn hM d_V_balance_33 g41 ⟨rfl, by rw [rBal, if_pos (by omega)]; exact e41.1, e41.2⟩)
    | (exact v_ireturn hM d_V_balance_33 (by omega) ⟨rfl, by rw [rBal, if_neg (by omega)], CF.rfl'⟩)
  · refine v_iload2 d_V_balance_8 ?_
    refine v_fSZ1 d_V_balance_9 l_V_96 k_V_isSeason (c_V_isSeason (by omega)) (by decide) (by decide) (Nat.le_of_ble_eq_true rfl) (Nat.zero_le _) (Nat.zero_le _) (fun g9 => ?_)
    refine v_ifb_eq d_V_balance_12 (fun u12 => ?_) (fun u12 => ?_)
    · refine v_ldc d_V_balance_31 c_V_245 ?_
      first
      | (exact v_ireturn hM d_V_balance_33 g41 ⟨rfl, by rw [rBal, if_pos (by omega)]; exact e41.1, e41.2⟩)
      | (exact v_ireturn hM d_V_balance_33 (by omega) ⟨rfl, by rw [rBal, if_neg (by omega)], CF.rfl'⟩)
    · refine v_aload0 d_V_balance_15 ?_
      refine v_iload3 d_V_balance_16 ?_
      refine v_fVZ1 d_V_balance_17 l_V_181 k_V_isKnownDay (c_V_isKnownDay hC hO (by omega)) (sh_0 T) rfl (by decide) (by decide) (Nat.le_of_ble_eq_true rfl) (Nat.zero_le _) (Nat.zero_le _) (fun g17 => ?_)
      refine v_ifb_eq d_V_balance_20 (fun u20 => ?_) (fun u20 => ?_)
      · refine v_ldc d_V_balance_31 c_V_245 ?_
        first
        | (exact v_ireturn hM d_V_balance_33 g41 ⟨rfl, by rw [rBal, if_pos (by omega)]; exact e41.1, e41.2⟩)
        | (exact v_ireturn hM d_V_balance_33 (by omega) ⟨rfl, by rw [rBal, if_neg (by omega)], CF.rfl'⟩)
      · refine v_aload0 d_V_balance_23 ?_
        refine v_iload2 d_V_balance_24 ?_
        refine v_fVZ1 d_V_balance_25 l_V_100 k_V_hasEnded (c_V_hasEnded hC hO (by omega)) (sh_0 T) rfl (by decide) (by decide) (Nat.le_of_ble_eq_true rfl) (Nat.zero_le _) (Nat.zero_le _) (fun g25 => ?_)
        refine v_ifb_ne d_V_balance_28 (fun u28 => ?_) (fun u28 => ?_)
        · refine v_aload0 d_V_balance_34 ?_
          refine v_getR d_V_balance_35 f_V_51 (sh_0 T) rfl ?_
          refine v_iload1 d_V_balance_38 ?_
          refine v_iload2 d_V_balance_39 ?_
          refine v_iload3 d_V_balance_40 ?_
          refine v_gVI3 d_V_balance_41 l_V_246 k_Ac_balanceUpTo (c_Ac_balanceUpTo hC hO (by omega) (by omega) (by omega)) (sh_47 T) rfl (by decide) (by decide) (Nat.le_of_ble_eq_true rfl) (Nat.zero_le _) (Nat.zero_le _) (fun z41 s41 g41 e41 => ?_)
          first
          | (exact v_ireturn hM d_V_balance_44 g41 ⟨rfl, by rw [rBal, if_pos (by omega)]; exact e41.1, e41.2⟩)
          | (exact v_ireturn hM d_V_balance_44 (by omega) ⟨rfl, by rw [rBal, if_neg (by omega)], CF.rfl'⟩)
        · refine v_ldc d_V_balance_31 c_V_245 ?_
          first
          | (exact v_ireturn hM d_V_balance_33 g41 ⟨rfl, by rw [rBal, if_pos (by omega)]; exact e41.1, e41.2⟩)
          | (exact v_ireturn hM d_V_balance_33 (by omega) ⟨rfl, by rw [rBal, if_neg (by omega)], CF.rfl'⟩)

