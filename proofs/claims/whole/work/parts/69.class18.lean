/-! ===== the class's reign ===== -/
def RI (σ σ1 : vMem) (b : Int → Int) (r p l : Int) (fp : FP) (C : Int → Int) : Prop := RkP b p (σ1 45) ∧ σ1 45 6 = l ∧ FPt σ1 fp ∧ FK σ σ1 ∧ AG σ σ1 (r * 16) ∧ (fp.1 = 0 → l ≤ 16 ∧ ∀ k, 0 ≤ k → k < l → LnR σ1 (r * 16 + k) C (20 * k))
theorem AG.le {σ σ2 : vMem} {x y : Int} (h : AG σ σ2 y) (hx : x ≤ y) : AG σ σ2 x := ⟨fun k hk i hi => h.1 k hk i (by omega), fun k hk i hi => h.2 k hk i (by omega)⟩
theorem RI.line {σ σ1 σ2 : vMem} {b : Int → Int} {r p l : Int} {fp : FP} {C : Int → Int} (h : RI σ σ1 b r p l fp C) (hl : 0 ≤ l) (y1 : (lnF b p l fp C).1 = 1) (e1 : RkP b (lnF b p l fp C).2.1 (σ2 45)) (e2 : σ2 45 6 = l + 1) (e3 : FK σ1 σ2) (e4 : AG σ1 σ2 (r * 16 + l)) (e5 : FPt σ2 (lnF b p l fp C).2.2.1 ∧ ((lnF b p l fp C).2.2.1.1 = 0 → l < 16 ∧ LnR σ2 (r * 16 + l) (lnF b p l fp C).2.2.2 (20 * l))) : RI σ σ2 b r (lnF b p l fp C).2.1 (l + 1) (lnF b p l fp C).2.2.1 (lnF b p l fp C).2.2.2 := by
  obtain ⟨a1, a2, a3, a4, a5, a6⟩ := h
  refine ⟨e1, e2, e5.1, a4.trans' e3, a5.trans' (e4.le (by omega)), fun z => ?_⟩
  have h8 := e5.2 z
  have h9 := a6 (lnF_m z).1
  refine ⟨by omega, fun k k1 k2 => ?_⟩
  by_cases q : k = l
  · rw [q]; exact h8.2
  · exact LnR_keep (h9.2 k k1 (by omega)) e4 (by omega) (fun i i1 i2 => lnF_C (by omega))

theorem c_Ta_clearFault {T : vSh} {σ : vMem}  : mt_Ta_clearFault [.ref 30] (S0 ++ T) σ (rP (S0 ++ T) (fun _ σ2 => (∀ k, k ≠ 30 → σ2 k = σ k) ∧ σ2 30 1 = σ 30 1 ∧ FPt σ2 (0, -1))) := by
  refine vMet.intro 0 (by decide +kernel) (Nat.le_of_ble_eq_true rfl) rfl (fun cx hM _ => ?_)
  refine v_aload0 d_Ta_clearFault_0 ?_
  refine v_iconst d_Ta_clearFault_1 ?_
  refine v_putJ (ji := 2) d_Ta_clearFault_2 p_Ta_22 (sh_30 T) rfl rfl (by omega) ?_
  refine v_aload0 d_Ta_clearFault_5 ?_
  refine v_iconst d_Ta_clearFault_6 ?_
  refine v_putJ (ji := 3) d_Ta_clearFault_7 p_Ta_15 (sh_30 T) rfl rfl (by omega) ?_
  exact v_return hM d_Ta_clearFault_10 ⟨rfl, fun k hk => by rw [vUp_ne hk, vUp_ne hk], by rw [vUp_ix (by decide), vUp_ix (by decide)], by rw [vUp_ix (by decide), vUp_same], by rw [vUp_same]⟩

theorem c_Lw_canBegin {T : vSh} {σ : vMem} {A : Int → Int} (hC : CR σ A) (hO : okA A) {dd : Int} (h0 : vIn dd) : mt_Lw_canBegin [.ref 20, .int (iI dd)] (S0 ++ T) σ (rF (S0 ++ T) σ (b01 (A 3 < 4 ∧ (A 3 = 0 ∨ A (10 + 2 * A 3 - 2) < dd)))) := by
  refine vMet.intro 0 (by decide +kernel) (Nat.le_of_ble_eq_true rfl) rfl (fun cx hM _ => ?_)
  obtain ⟨⟨q0, q1, q2, q3, q4, q5, q6, q7⟩, hVi, hWe, hCo, hOf, hBo, hWo, hMo, hRe, hLi, hTa⟩ := id hO
  obtain ⟨⟨l0, l1, lV, lC, lZ, lS⟩, ⟨b0, b1, bO, bB⟩, ⟨w0, wR, wL⟩, ⟨t0, t1, t2, tR, tB⟩, ⟨n9, nW⟩, m0, mM⟩ := id hC
  refine v_aload0 d_Lw_canBegin_0 ?_
  refine v_getJ (ji := 0) d_Lw_canBegin_1 f_Lw_40 (sh_20 T) rfl rfl (fun g1 => ?_)
  refine v_iconst d_Lw_canBegin_4 ?_
  refine v_icmp_ge d_Lw_canBegin_5 (by omega) (by omega) (fun u5 => ?_) (fun u5 => ?_)
  · refine v_iconst d_Lw_canBegin_34 ?_
    first | exact v_zreturn hM d_Lw_canBegin_35 (Or.inr rfl) ⟨rfl, rfl, b01_1 (by omega)⟩ | exact v_zreturn hM d_Lw_canBegin_35 (Or.inl rfl) ⟨rfl, rfl, b01_0 (by omega)⟩ | exact v_zreturn hM d_Lw_canBegin_35 b01_or ⟨rfl, rfl, rfl⟩
  · refine v_aload0 d_Lw_canBegin_8 ?_
    refine v_getJ (ji := 0) d_Lw_canBegin_9 f_Lw_40 (sh_20 T) rfl rfl (fun g9 => ?_)
    refine v_if_eq d_Lw_canBegin_12 (by omega) (fun u12 => ?_) (fun u12 => ?_)
    · refine v_iconst d_Lw_canBegin_30 ?_
      refine v_goto d_Lw_canBegin_31 ?_
      first | exact v_zreturn hM d_Lw_canBegin_35 (Or.inr rfl) ⟨rfl, rfl, b01_1 (by omega)⟩ | exact v_zreturn hM d_Lw_canBegin_35 (Or.inl rfl) ⟨rfl, rfl, b01_0 (by omega)⟩ | exact v_zreturn hM d_Lw_canBegin_35 b01_or ⟨rfl, rfl, rfl⟩
    · refine v_iload1 d_Lw_canBegin_15 ?_
      refine v_aload0 d_Lw_canBegin_16 ?_
      refine v_getR d_Lw_canBegin_17 f_Lw_9 (sh_20 T) rfl ?_
      refine v_aload0 d_Lw_canBegin_20 ?_
      refine v_getJ (ji := 0) d_Lw_canBegin_21 f_Lw_40 (sh_20 T) rfl rfl (fun g21 => ?_)
      refine v_iconst d_Lw_canBegin_24 ?_
      refine v_isub d_Lw_canBegin_25 ?_
      refine v_iaload d_Lw_canBegin_26 (sh_21 T) (by omega) (fun g26 => ?_)
      have hb9 := (wR (A 3 - 1) (by omega) (by omega)).1
      have hr9 := (hRe (A 3 - 1) (by omega) (by omega)).1
      rw [show 10 + 2 * (A 3 - 1) = 10 + 2 * A 3 - 2 by omega] at hb9 hr9
      rw [show σ 20 0 - 1 = A 3 - 1 by omega, hb9] at g26 ⊢
      refine v_icmp_le d_Lw_canBegin_27 (by omega) (by omega) (fun u27 => ?_) (fun u27 => ?_)
      · refine v_iconst d_Lw_canBegin_34 ?_
        first | exact v_zreturn hM d_Lw_canBegin_35 (Or.inr rfl) ⟨rfl, rfl, b01_1 (by omega)⟩ | exact v_zreturn hM d_Lw_canBegin_35 (Or.inl rfl) ⟨rfl, rfl, b01_0 (by omega)⟩ | exact v_zreturn hM d_Lw_canBegin_35 b01_or ⟨rfl, rfl, rfl⟩
      · refine v_iconst d_Lw_canBegin_30 ?_
        refine v_goto d_Lw_canBegin_31 ?_
        first | exact v_zreturn hM d_Lw_canBegin_35 (Or.inr rfl) ⟨rfl, rfl, b01_1 (by omega)⟩ | exact v_zreturn hM d_Lw_canBegin_35 (Or.inl rfl) ⟨rfl, rfl, b01_0 (by omega)⟩ | exact v_zreturn hM d_Lw_canBegin_35 b01_or ⟨rfl, rfl, rfl⟩

theorem c_Re_readReign_82 {T : vSh} {σ : vMem} {cx : vCx} {L r dd : Int} {b C : Int → Int} (hR : RK σ b L) (hr : 0 ≤ r ∧ r < 4) (hdd : vIn dd) (hM : vM cx 0 0 (some .int) (rP (S0 ++ T) (fun z σ2 => AG σ σ2 (r * 16) ∧ (∀ k, k < 20 ∨ (30 < k ∧ k ≠ 45) → σ2 k = σ k) ∧ (((((rgF b 501 0 0 (0, -1) C).1 ≠ 1 ∧ FPt σ2 (1, whF b (rgF b 501 0 0 (0, -1) C).2.1)) ∨ ((rgF b 501 0 0 (0, -1) C).1 = 1 ∧ (rgF b 501 0 0 (0, -1) C).2.2.2.1.1 ≠ 0 ∧ FPt σ2 (rgF b 501 0 0 (0, -1) C).2.2.2.1)) ∧ z = -1 ∧ (∀ k : Nat, 20 ≤ k ∧ k ≤ 22 → σ2 k = σ k)) ∨ (((rgF b 501 0 0 (0, -1) C).1 = 1 ∧ (rgF b 501 0 0 (0, -1) C).2.2.2.1.1 = 0 ∧ FPt σ2 (rgF b 501 0 0 (0, -1) C).2.2.2.1) ∧ z = (rgF b 501 0 0 (0, -1) C).2.2.1 ∧ σ2 20 0 = r + 1 ∧ σ2 21 = upF (σ 21) r dd ∧ σ2 22 = upF (σ 22) r (rgF b 501 0 0 (0, -1) C).2.2.1 ∧ ∀ k, 0 ≤ k → k < (rgF b 501 0 0 (0, -1) C).2.2.1 → LnR σ2 (r * 16 + k) (rgF b 501 0 0 (0, -1) C).2.2.2.2 (20 * k)))))) {p l : Int} {fp : FP} {D : Int → Int} {σ1 : vMem} (h20 : σ 20 0 = r) (hl : 0 ≤ l ∧ l ≤ 501) (hT : (rgF b 501 0 0 (0, -1) C) = (1, p, l, fp, D)) (hQ : RI σ σ1 b r p l fp D) : vV cx y_Re_readReign.cls prog_9_method_2_code 5 9 0 0 0 0 82 [some (.ref 45), some (.int (iI dd)), some (.int (iI r)), none, none] [] (S0 ++ T) σ1 := by
  obtain ⟨a1, a2, a3, a4, a5, a6⟩ := id hQ
  refine v_aload0 d_Re_readReign_82 ?_
  refine v_getR d_Re_readReign_83 f_Re_9 (sh_45 T) rfl ?_
  refine v_getJ (ji := 2) d_Re_readReign_86 f_Re_50 (sh_30 T) rfl rfl (fun g86 => ?_)
  rw [a3.1] at g86 ⊢
  refine v_if_eq d_Re_readReign_89 (by omega) (fun u89 => ?_) (fun u89 => ?_)
  · have h9 := a6 (by omega)
    refine v_aload0 d_Re_readReign_94 ?_
    refine v_getR d_Re_readReign_95 f_Re_15 (sh_45 T) rfl ?_
    refine v_getR d_Re_readReign_98 f_Re_53 (sh_20 T) rfl ?_
    refine v_iload2 d_Re_readReign_101 ?_
    refine v_iload1 d_Re_readReign_102 ?_
    refine v_iastore d_Re_readReign_103 (sh_21 T) (by omega) (by omega) ?_
    refine v_aload0 d_Re_readReign_104 ?_
    refine v_getR d_Re_readReign_105 f_Re_15 (sh_45 T) rfl ?_
    refine v_getR d_Re_readReign_108 f_Re_57 (sh_20 T) rfl ?_
    refine v_iload2 d_Re_readReign_111 ?_
    refine v_aload0 d_Re_readReign_112 ?_
    refine v_getJ (ji := 6) d_Re_readReign_113 f_Re_28 (sh_45 T) rfl rfl (fun g113 => ?_)
    rw [vUp_ne (by decide), a2] at g113 ⊢
    refine v_iastore d_Re_readReign_116 (sh_22 T) (by omega) (by omega) ?_
    refine v_aload0 d_Re_readReign_117 ?_
    refine v_getR d_Re_readReign_118 f_Re_15 (sh_45 T) rfl ?_
    refine v_dup d_Re_readReign_121 rfl ?_
    refine v_getJ (ji := 0) d_Re_readReign_122 f_Re_19 (sh_20 T) rfl rfl (fun g122 => ?_)
    rw [vUp_ne (by decide), vUp_ne (by decide), a4.1 20 (by omega), h20] at g122 ⊢
    refine v_iconst d_Re_readReign_125 ?_
    refine v_iadd d_Re_readReign_126 ?_
    refine v_putJ (ji := 0) d_Re_readReign_127 p_Re_19 (sh_20 T) rfl rfl (by omega) ?_
    refine v_aload0 d_Re_readReign_130 ?_
    refine v_getJ (ji := 6) d_Re_readReign_131 f_Re_28 (sh_45 T) rfl rfl (fun g131 => ?_)
    rw [vUp_ne (by decide), vUp_ne (by decide), vUp_ne (by decide), a2] at g131 ⊢
    refine v_ireturn hM d_Re_readReign_134 (by omega) ⟨rfl, ?_, fun k hk => by rw [vUp_ne (by omega), vUp_ne (by omega), vUp_ne (by omega)]; exact a4.1 k (by omega), Or.inr ⟨⟨by rw [hT], by rw [hT]; dsimp only; omega, by rw [hT]; exact FPt.of a3 (by rw [vUp_ne (by decide), vUp_ne (by decide), vUp_ne (by decide)])⟩, by rw [hT], ?_, ?_, ?_, ?_⟩⟩
    · exact a5.trans' (AG.of (fun k hk => by rw [vUp_ne (by omega), vUp_ne (by omega), vUp_ne (by omega)]))
    · rw [vUp_same]
    · rw [vUp_ne (by decide), vUp_ne (by decide), vUp_fn, a4.1 21 (by omega)]
    · rw [vUp_ne (by decide), vUp_fn, vUp_ne (by decide), a4.1 22 (by omega), hT]
    · rw [hT]
      intro k k1 k2
      exact LnR_keep (h9.2 k k1 k2) (y := r * 16 + l) (AG.of (fun i hi => by rw [vUp_ne (by omega), vUp_ne (by omega), vUp_ne (by omega)])) (by dsimp only at k2; omega) (fun i _ _ => rfl)
  · refine v_iconst d_Re_readReign_92 ?_
    exact v_ireturn hM d_Re_readReign_93 (by omega) ⟨rfl, a5, fun k hk => a4.1 k (by omega), Or.inl ⟨Or.inr ⟨by rw [hT], by rw [hT]; dsimp only; omega, by rw [hT]; exact a3⟩, rfl, fun k hk => a4.1 k (by omega)⟩⟩

theorem c_Re_readReign_66 {T : vSh} {σ : vMem} {cx : vCx} {L r dd : Int} {b C : Int → Int} (hR : RK σ b L) (hr : 0 ≤ r ∧ r < 4) (hdd : vIn dd) (hM : vM cx 0 0 (some .int) (rP (S0 ++ T) (fun z σ2 => AG σ σ2 (r * 16) ∧ (∀ k, k < 20 ∨ (30 < k ∧ k ≠ 45) → σ2 k = σ k) ∧ (((((rgF b 501 0 0 (0, -1) C).1 ≠ 1 ∧ FPt σ2 (1, whF b (rgF b 501 0 0 (0, -1) C).2.1)) ∨ ((rgF b 501 0 0 (0, -1) C).1 = 1 ∧ (rgF b 501 0 0 (0, -1) C).2.2.2.1.1 ≠ 0 ∧ FPt σ2 (rgF b 501 0 0 (0, -1) C).2.2.2.1)) ∧ z = -1 ∧ (∀ k : Nat, 20 ≤ k ∧ k ≤ 22 → σ2 k = σ k)) ∨ (((rgF b 501 0 0 (0, -1) C).1 = 1 ∧ (rgF b 501 0 0 (0, -1) C).2.2.2.1.1 = 0 ∧ FPt σ2 (rgF b 501 0 0 (0, -1) C).2.2.2.1) ∧ z = (rgF b 501 0 0 (0, -1) C).2.2.1 ∧ σ2 20 0 = r + 1 ∧ σ2 21 = upF (σ 21) r dd ∧ σ2 22 = upF (σ 22) r (rgF b 501 0 0 (0, -1) C).2.2.1 ∧ ∀ k, 0 ≤ k → k < (rgF b 501 0 0 (0, -1) C).2.2.1 → LnR σ2 (r * 16 + k) (rgF b 501 0 0 (0, -1) C).2.2.2.2 (20 * k)))))) {q : Int} {σ1 : vMem} (hno : (rgF b 501 0 0 (0, -1) C).1 ≠ 1) (hwq : (rgF b 501 0 0 (0, -1) C).2.1 = q) (hQ : RkP b q (σ1 45)) (hF : FK σ σ1) (hG : AG σ σ1 (r * 16)) : vV cx y_Re_readReign.cls prog_9_method_2_code 5 9 0 0 0 0 66 [some (.ref 45), some (.int (iI dd)), some (.int (iI r)), some (.int (iI 0)), none] [] (S0 ++ T) σ1 := by
  refine v_iload3 d_Re_readReign_66 ?_
  refine v_if_ne d_Re_readReign_67 (by omega) (fun u67 => ?_) (fun u67 => ?_)
  · omega
  · refine v_aload0 d_Re_readReign_70 ?_
    refine v_getR d_Re_readReign_71 f_Re_9 (sh_45 T) rfl ?_
    refine v_gVV0 d_Re_readReign_74 l_Re_41 k_Ta_clearFault c_Ta_clearFault (sh_30 T) rfl (by decide) (by decide) (Nat.le_of_ble_eq_true rfl) (Nat.zero_le _) (Nat.zero_le _) (fun z74 s74 e74 => ?_)
    refine v_aload0 d_Re_readReign_77 ?_
    refine v_iconst d_Re_readReign_78 ?_
    refine v_gVV1 d_Re_readReign_79 l_Re_46 k_Re_remark (c_Re_remark (by omega) e74.2.2) (sh_45 T) rfl (by decide) (by decide) (Nat.le_of_ble_eq_true rfl) (Nat.zero_le _) (Nat.zero_le _) (fun z79 s79 e79 => ?_)
    have f9 := e79.2.2
    rw [adF, if_pos rfl, e74.1 45 (by decide), hQ.2.2.1] at f9
    have f91 := f9.1
    refine v_aload0 d_Re_readReign_82 ?_
    refine v_getR d_Re_readReign_83 f_Re_9 (sh_45 T) rfl ?_
    refine v_getJ (ji := 2) d_Re_readReign_86 f_Re_50 (sh_30 T) rfl rfl (fun g86 => ?_)
    rw [f91] at g86 ⊢
    refine v_if_eq d_Re_readReign_89 (by omega) (fun u89 => ?_) (fun u89 => ?_)
    · omega
    · refine v_iconst d_Re_readReign_92 ?_
      first
      | (omega)
      | (exact v_ireturn hM d_Re_readReign_93 (by omega) ⟨rfl, hG.trans' (AG.of (fun k hk => by rw [e79.1 k (by omega), e74.1 k (by omega)])), fun k hk => by rw [e79.1 k (by omega), e74.1 k (by omega)]; exact hF.1 k (by omega), Or.inl ⟨Or.inl ⟨hno, by rw [hwq]; exact f9⟩, rfl, fun k hk => by rw [e79.1 k (by omega), e74.1 k (by omega)]; exact hF.1 k (by omega)⟩⟩)

theorem c_Re_readReign_27 {T : vSh} {σ : vMem} {cx : vCx} {L r dd : Int} {b C : Int → Int} (hR : RK σ b L) (hr : 0 ≤ r ∧ r < 4) (hdd : vIn dd) (hM : vM cx 0 0 (some .int) (rP (S0 ++ T) (fun z σ2 => AG σ σ2 (r * 16) ∧ (∀ k, k < 20 ∨ (30 < k ∧ k ≠ 45) → σ2 k = σ k) ∧ (((((rgF b 501 0 0 (0, -1) C).1 ≠ 1 ∧ FPt σ2 (1, whF b (rgF b 501 0 0 (0, -1) C).2.1)) ∨ ((rgF b 501 0 0 (0, -1) C).1 = 1 ∧ (rgF b 501 0 0 (0, -1) C).2.2.2.1.1 ≠ 0 ∧ FPt σ2 (rgF b 501 0 0 (0, -1) C).2.2.2.1)) ∧ z = -1 ∧ (∀ k : Nat, 20 ≤ k ∧ k ≤ 22 → σ2 k = σ k)) ∨ (((rgF b 501 0 0 (0, -1) C).1 = 1 ∧ (rgF b 501 0 0 (0, -1) C).2.2.2.1.1 = 0 ∧ FPt σ2 (rgF b 501 0 0 (0, -1) C).2.2.2.1) ∧ z = (rgF b 501 0 0 (0, -1) C).2.2.1 ∧ σ2 20 0 = r + 1 ∧ σ2 21 = upF (σ 21) r dd ∧ σ2 22 = upF (σ 22) r (rgF b 501 0 0 (0, -1) C).2.2.1 ∧ ∀ k, 0 ≤ k → k < (rgF b 501 0 0 (0, -1) C).2.2.1 → LnR σ2 (r * 16 + k) (rgF b 501 0 0 (0, -1) C).2.2.2.2 (20 * k)))))) (h20 : σ 20 0 = r) : ∀ (m : Nat) (p l : Int) (fp : FP) (D : Int → Int) (σ1 : vMem), 500 - p < (m : Int) → (0 ≤ p ∧ p ≤ 500) → (0 ≤ l ∧ l ≤ p) → (rgF b 501 0 0 (0, -1) C) = rgF b m p l fp D → RI σ σ1 b r p l fp D → vV cx y_Re_readReign.cls prog_9_method_2_code 5 9 0 0 0 0 27 [some (.ref 45), some (.int (iI dd)), some (.int (iI r)), some (.int (iI 1)), some (.int (iI l))] [] (S0 ++ T) σ1 := by
  intro m
  induction m with
  | zero => intro p l fp D σ1 hn hp; omega
  | succ m ih =>
    intro p l fp D σ1 hn hp hl hT hQ
    obtain ⟨a1, a2, a3, a4, a5, a6⟩ := id hQ
    have htk := tkF_rng b p
    refine v_iload4 d_Re_readReign_27 ?_
    refine v_sipush d_Re_readReign_29 rfl ?_
    refine v_icmp_gt d_Re_readReign_32 (by omega) (by omega) (fun u32 => ?_) (fun u32 => ?_)
    · first
      | (omega)
      | ((refine v_iload3 d_Re_readReign_66 ?_; refine v_if_ne d_Re_readReign_67 (by omega) (fun u67 => ?_) (fun u67 => by omega); refine v_drop3 (v_drop4 ?_); exact c_Re_readReign_82 hR hr hdd hM h20 (by omega) (by rw [hT, rgF, if_pos (by omega)]) hQ))
    · refine v_iload3 d_Re_readReign_35 ?_
      refine v_if_eq d_Re_readReign_36 (by omega) (fun u36 => ?_) (fun u36 => ?_)
      · omega
      · refine v_aload0 d_Re_readReign_39 ?_
        refine v_getJ (ji := 3) d_Re_readReign_40 f_Re_34 (sh_45 T) rfl rfl (fun g40 => ?_)
        rw [a1.2.1] at g40 ⊢
        refine v_bipush d_Re_readReign_43 rfl ?_
        refine v_icmp_eq d_Re_readReign_45 (by omega) (by omega) (fun u45 => ?_) (fun u45 => ?_)
        · first
          | (omega)
          | ((refine v_iload3 d_Re_readReign_66 ?_; refine v_if_ne d_Re_readReign_67 (by omega) (fun u67 => ?_) (fun u67 => by omega); refine v_drop3 (v_drop4 ?_); exact c_Re_readReign_82 hR hr hdd hM h20 (by omega) (by rw [hT, rgF, if_pos (by omega)]) hQ))
        · refine v_aload0 d_Re_readReign_48 ?_
          refine v_iload2 d_Re_readReign_49 ?_
          refine v_bipush d_Re_readReign_50 rfl ?_
          refine v_imul d_Re_readReign_52 ?_
          refine v_iload4 d_Re_readReign_53 ?_
          refine v_iadd d_Re_readReign_55 ?_
          refine v_gVZ1 d_Re_readReign_56 l_Re_37 k_Re_readLine (c_Re_readLine (C := D) (a4.rk hR) hp (by omega) (x := r * 16 + l) (by omega) a2 a1 a3) (sh_45 T) rfl (by decide) (by decide) (Nat.le_of_ble_eq_true rfl) (Nat.zero_le _) (Nat.zero_le _) (fun z56 s56 g56 e56 => ?_)
          refine v_istore3 d_Re_readReign_59 (by decide) rfl ?_
          refine v_iinc4 d_Re_readReign_60 (by decide) rfl ?_
          refine v_goto d_Re_readReign_63 ?_
          have h4 := lnF_rng hR.2.1 (l := l) (fp := fp) (C := D) hp
          by_cases y1 : (lnF b p l fp D).1 = 1
          · have z9 : z56 = 1 := e56.1.trans (b01_1 y1).symm
            have h5 := h4.2.2 y1
            rw [z9]
            exact ih _ _ _ _ _ (by omega) (by omega) (by omega) (by rw [hT, rgF, if_neg (by omega), if_pos y1]) (hQ.line hl.1 y1 e56.2.1 e56.2.2.1 e56.2.2.2.1 e56.2.2.2.2.1 (e56.2.2.2.2.2 y1))
          · have z9 : z56 = 0 := e56.1.trans (b01_0 y1).symm
            rw [z9]
            refine v_iload4 d_Re_readReign_27 ?_
            refine v_sipush d_Re_readReign_29 rfl ?_
            have k66 : vV cx y_Re_readReign.cls prog_9_method_2_code 5 9 0 0 0 0 66 [some (.ref 45), some (.int (iI dd)), some (.int (iI r)), some (.int (iI 0)), some (.int (iI (l + 1)))] [] (S0 ++ T) s56 := (by
              refine v_drop4 ?_
              exact c_Re_readReign_66 hR hr hdd hM (q := (lnF b p l fp D).2.1) (by rw [hT, rgF, if_neg (by omega), if_neg y1]; exact z1n) (by rw [hT, rgF, if_neg (by omega), if_neg y1]) e56.2.1 (a4.trans' e56.2.2.2.1) (a5.trans' (e56.2.2.2.2.1.le (by omega))))
            refine v_icmp_gt d_Re_readReign_32 (by omega) (by omega) (fun u32 => ?_) (fun u32 => ?_)
            · exact k66
            · refine v_iload3 d_Re_readReign_35 ?_
              refine v_if_eq d_Re_readReign_36 (by omega) (fun u36 => ?_) (fun u36 => by omega)
              exact k66

theorem c_Re_readReign {T : vSh} {σ : vMem} {L r dd : Int} {b C : Int → Int} (hR : RK σ b L) (hr : 0 ≤ r ∧ r < 4) (hdd : vIn dd) (h20 : σ 20 0 = r) (hf : FPt σ (0, -1)) : mt_Re_readReign [.ref 45, .int (iI dd)] (S0 ++ T) σ (rP (S0 ++ T) (fun z σ2 => AG σ σ2 (r * 16) ∧ (∀ k, k < 20 ∨ (30 < k ∧ k ≠ 45) → σ2 k = σ k) ∧ (((((rgF b 501 0 0 (0, -1) C).1 ≠ 1 ∧ FPt σ2 (1, whF b (rgF b 501 0 0 (0, -1) C).2.1)) ∨ ((rgF b 501 0 0 (0, -1) C).1 = 1 ∧ (rgF b 501 0 0 (0, -1) C).2.2.2.1.1 ≠ 0 ∧ FPt σ2 (rgF b 501 0 0 (0, -1) C).2.2.2.1)) ∧ z = -1 ∧ (∀ k : Nat, 20 ≤ k ∧ k ≤ 22 → σ2 k = σ k)) ∨ (((rgF b 501 0 0 (0, -1) C).1 = 1 ∧ (rgF b 501 0 0 (0, -1) C).2.2.2.1.1 = 0 ∧ FPt σ2 (rgF b 501 0 0 (0, -1) C).2.2.2.1) ∧ z = (rgF b 501 0 0 (0, -1) C).2.2.1 ∧ σ2 20 0 = r + 1 ∧ σ2 21 = upF (σ 21) r dd ∧ σ2 22 = upF (σ 22) r (rgF b 501 0 0 (0, -1) C).2.2.1 ∧ ∀ k, 0 ≤ k → k < (rgF b 501 0 0 (0, -1) C).2.2.1 → LnR σ2 (r * 16 + k) (rgF b 501 0 0 (0, -1) C).2.2.2.2 (20 * k))))) := by
  refine vMet.intro 3 (by decide +kernel) (Nat.le_of_ble_eq_true rfl) rfl (fun cx hM _ => ?_)
  refine v_aload0 d_Re_readReign_0 ?_
  refine v_getR d_Re_readReign_1 f_Re_15 (sh_45 T) rfl ?_
  refine v_getJ (ji := 0) d_Re_readReign_4 f_Re_19 (sh_20 T) rfl rfl (fun g4 => ?_)
  rw [h20] at g4 ⊢
  refine v_istore2 d_Re_readReign_7 (by decide) rfl ?_
  refine v_aload0 d_Re_readReign_8 ?_
  refine v_iconst d_Re_readReign_9 ?_
  refine v_putJ (ji := 2) d_Re_readReign_10 p_Re_25 (sh_45 T) rfl rfl (by omega) ?_
  refine v_aload0 d_Re_readReign_13 ?_
  refine v_iconst d_Re_readReign_14 ?_
  refine v_putJ (ji := 6) d_Re_readReign_15 p_Re_28 (sh_45 T) rfl rfl (by omega) ?_
  refine v_aload0 d_Re_readReign_18 ?_
  refine v_gVV0 d_Re_readReign_19 l_Re_31 k_Re_readToken (c_Re_readToken (p := 0) (b := b) (L := L) (by unfold RK; rw [vUp_ne (by decide), vUp_ne (by decide), vUp_ne (by decide), vUp_ne (by decide)]; exact hR) (by omega) (by rw [vUp_ix (by decide), vUp_same])) (sh_45 T) rfl (by decide) (by decide) (Nat.le_of_ble_eq_true rfl) (Nat.zero_le _) (Nat.zero_le _) (fun z19 s19 e19 => ?_)
  refine v_iconst d_Re_readReign_22 ?_
  refine v_istore3 d_Re_readReign_23 (by decide) rfl ?_
  refine v_iconst d_Re_readReign_24 ?_
  refine v_istore4 d_Re_readReign_25 (by decide) rfl ?_
  exact c_Re_readReign_27 hR hr hdd hM h20 501 0 0 (0, -1) C _ (by omega) (by omega) (by omega) rfl ⟨e19.2, by rw [e19.1.2 6 (by omega), vUp_same], FPt.of hf (by rw [e19.1.1 30 (by decide), vUp_ne (by decide), vUp_ne (by decide)]), ⟨fun k hk => by rw [e19.1.1 k (by omega), vUp_ne (by omega), vUp_ne (by omega)], by rw [e19.1.1 30 (by decide), vUp_ne (by decide), vUp_ne (by decide)]⟩, AG.of (fun k hk => by rw [e19.1.1 k (by omega), vUp_ne (by omega), vUp_ne (by omega)]), fun _ => ⟨by omega, fun k k1 k2 => by omega⟩⟩

