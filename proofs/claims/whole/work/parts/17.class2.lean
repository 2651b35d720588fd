def scC (σ : vMem) (p : Sc5) : Prop := σ 46 1 = p.1 ∧ σ 46 2 = p.2.1 ∧ σ 46 3 = p.2.2.1 ∧ σ 46 4 = p.2.2.2.1
def lkC (σ : vMem) (A : Int → Int) (oo dd k : Int) : Prop := σ 46 5 = rankF A oo dd k ∧ σ 46 6 = (dd - A (360 + 4 * oo + 2)) / 120 ∧ σ 46 7 = A (360 + 4 * oo + 1) ∧ σ 46 8 = dd / 60 % 2 ∧ σ 46 9 = cntF A oo dd k (A 0).toNat ∧ σ 46 10 = famZ A oo dd k (A 0).toNat
theorem CR_46 {σ σ' : vMem} {A : Int → Int} (h : ∀ k, k ≠ 46 → σ' k = σ k) (hC : CR σ A) : CR σ' A := CR_off (fun k h1 h2 => h k (by omega)) (by rw [h 38 (by decide)]) hC

theorem c_Sc_measure {T : vSh} {σ : vMem} {A : Int → Int} {oo dd k su : Int} (hk : lkC σ A oo dd k) (h0 : 10 ≤ su ∧ su ≤ 14) : mt_Sc_measure [.ref 46, .int (iI su)] (S0 ++ T) σ (rF (S0 ++ T) σ (askF A (su - 8) oo dd k)) := by
  refine vMet.intro 0 (by decide +kernel) (Nat.le_of_ble_eq_true rfl) rfl (fun cx hM _ => ?_)
  obtain ⟨k1, k2, k3, k4, k5, k6⟩ := id hk
  refine v_iload1 d_Sc_measure_0 ?_
  rcases (show (su < 10 ∨ 13 < su) ∨ su = 10 ∨ su = 11 ∨ su = 12 ∨ su = 13 by omega) with hs | hs | hs | hs | hs
  · refine v_tableOut d_Sc_measure_1 (by omega) hs (tgt := 52) rfl ?_
    refine v_aload0 d_Sc_measure_52 ?_
    refine v_getJ (ji := 9) d_Sc_measure_53 f_Sc_90 (sh_46 T) rfl rfl (fun g53 => ?_)
    have hs2 : su = 14 := by omega
    exact v_ireturn hM d_Sc_measure_56 (by omega) ⟨rfl, rfl, by simp [askF, hs2, k5]⟩
  · refine v_table d_Sc_measure_1 (by omega) (by omega) (by omega) (off := 31) (tgt := 32) (by rw [hs]; rfl) rfl ?_
    refine v_aload0 d_Sc_measure_32 ?_
    refine v_getJ (ji := 5) d_Sc_measure_33 f_Sc_72 (sh_46 T) rfl rfl (fun g33 => ?_)
    exact v_ireturn hM d_Sc_measure_36 (by omega) ⟨rfl, rfl, by simp [askF, hs, k1, k2, k3, k4, k5, k6]⟩
  · refine v_table d_Sc_measure_1 (by omega) (by omega) (by omega) (off := 36) (tgt := 37) (by rw [hs]; rfl) rfl ?_
    refine v_aload0 d_Sc_measure_37 ?_
    refine v_getJ (ji := 6) d_Sc_measure_38 f_Sc_78 (sh_46 T) rfl rfl (fun g38 => ?_)
    exact v_ireturn hM d_Sc_measure_41 (by omega) ⟨rfl, rfl, by simp [askF, hs, k1, k2, k3, k4, k5, k6]⟩
  · refine v_table d_Sc_measure_1 (by omega) (by omega) (by omega) (off := 41) (tgt := 42) (by rw [hs]; rfl) rfl ?_
    refine v_aload0 d_Sc_measure_42 ?_
    refine v_getJ (ji := 7) d_Sc_measure_43 f_Sc_84 (sh_46 T) rfl rfl (fun g43 => ?_)
    exact v_ireturn hM d_Sc_measure_46 (by omega) ⟨rfl, rfl, by simp [askF, hs, k1, k2, k3, k4, k5, k6]⟩
  · refine v_table d_Sc_measure_1 (by omega) (by omega) (by omega) (off := 46) (tgt := 47) (by rw [hs]; rfl) rfl ?_
    refine v_aload0 d_Sc_measure_47 ?_
    refine v_getJ (ji := 8) d_Sc_measure_48 f_Sc_87 (sh_46 T) rfl rfl (fun g48 => ?_)
    exact v_ireturn hM d_Sc_measure_51 (by omega) ⟨rfl, rfl, by simp [askF, hs, k1, k2, k3, k4, k5, k6]⟩

theorem c_Sc_compares {T : vSh} {σ : vMem} {v sg n : Int} (h0 : vIn v) (h1 : vIn sg) (h2 : vIn n) : mt_Sc_compares [.int (iI v), .int (iI sg), .int (iI n)] (S0 ++ T) σ (rF (S0 ++ T) σ (b01 (cmpP sg v n))) := by
  refine vMet.intro 0 (by decide +kernel) (Nat.le_of_ble_eq_true rfl) rfl (fun cx hM _ => ?_)
  refine v_iload1 d_Sc_compares_0 ?_
  refine v_bipush d_Sc_compares_1 rfl ?_
  refine v_icmp_ne d_Sc_compares_3 (by omega) (by omega) (fun u3 => ?_) (fun u3 => ?_)
  · refine v_iload1 d_Sc_compares_19 ?_
    refine v_bipush d_Sc_compares_20 rfl ?_
    refine v_icmp_ne d_Sc_compares_22 (by omega) (by omega) (fun u22 => ?_) (fun u22 => ?_)
    · refine v_iload0 d_Sc_compares_38 ?_
      refine v_iload2 d_Sc_compares_39 ?_
      refine v_icmp_ne d_Sc_compares_40 (by omega) (by omega) (fun u40 => ?_) (fun u40 => ?_)
      · refine v_iconst d_Sc_compares_47 ?_
        first | exact v_zreturn hM d_Sc_compares_48 (Or.inr rfl) ⟨rfl, rfl, b01_1 (by omega)⟩ | exact v_zreturn hM d_Sc_compares_48 (Or.inl rfl) ⟨rfl, rfl, b01_0 (by omega)⟩ | exact v_zreturn hM d_Sc_compares_48 b01_or ⟨rfl, rfl, rfl⟩
      · refine v_iconst d_Sc_compares_43 ?_
        refine v_goto d_Sc_compares_44 ?_
        first | exact v_zreturn hM d_Sc_compares_48 (Or.inr rfl) ⟨rfl, rfl, b01_1 (by omega)⟩ | exact v_zreturn hM d_Sc_compares_48 (Or.inl rfl) ⟨rfl, rfl, b01_0 (by omega)⟩ | exact v_zreturn hM d_Sc_compares_48 b01_or ⟨rfl, rfl, rfl⟩
    · refine v_iload0 d_Sc_compares_25 ?_
      refine v_iload2 d_Sc_compares_26 ?_
      refine v_icmp_le d_Sc_compares_27 (by omega) (by omega) (fun u27 => ?_) (fun u27 => ?_)
      · refine v_iconst d_Sc_compares_34 ?_
        refine v_goto d_Sc_compares_35 ?_
        first | exact v_zreturn hM d_Sc_compares_48 (Or.inr rfl) ⟨rfl, rfl, b01_1 (by omega)⟩ | exact v_zreturn hM d_Sc_compares_48 (Or.inl rfl) ⟨rfl, rfl, b01_0 (by omega)⟩ | exact v_zreturn hM d_Sc_compares_48 b01_or ⟨rfl, rfl, rfl⟩
      · refine v_iconst d_Sc_compares_30 ?_
        refine v_goto d_Sc_compares_31 ?_
        first | exact v_zreturn hM d_Sc_compares_48 (Or.inr rfl) ⟨rfl, rfl, b01_1 (by omega)⟩ | exact v_zreturn hM d_Sc_compares_48 (Or.inl rfl) ⟨rfl, rfl, b01_0 (by omega)⟩ | exact v_zreturn hM d_Sc_compares_48 b01_or ⟨rfl, rfl, rfl⟩
  · refine v_iload0 d_Sc_compares_6 ?_
    refine v_iload2 d_Sc_compares_7 ?_
    refine v_icmp_ge d_Sc_compares_8 (by omega) (by omega) (fun u8 => ?_) (fun u8 => ?_)
    · refine v_iconst d_Sc_compares_15 ?_
      refine v_goto d_Sc_compares_16 ?_
      first | exact v_zreturn hM d_Sc_compares_48 (Or.inr rfl) ⟨rfl, rfl, b01_1 (by omega)⟩ | exact v_zreturn hM d_Sc_compares_48 (Or.inl rfl) ⟨rfl, rfl, b01_0 (by omega)⟩ | exact v_zreturn hM d_Sc_compares_48 b01_or ⟨rfl, rfl, rfl⟩
    · refine v_iconst d_Sc_compares_11 ?_
      refine v_goto d_Sc_compares_12 ?_
      first | exact v_zreturn hM d_Sc_compares_48 (Or.inr rfl) ⟨rfl, rfl, b01_1 (by omega)⟩ | exact v_zreturn hM d_Sc_compares_48 (Or.inl rfl) ⟨rfl, rfl, b01_0 (by omega)⟩ | exact v_zreturn hM d_Sc_compares_48 b01_or ⟨rfl, rfl, rfl⟩

theorem c_Sc_obey {T : vSh} {σ : vMem} {p : Sc5} {act n : Int} (hp : scC σ p) (hr : (0 ≤ p.1 ∧ p.1 ≤ 150000)) (h1 : 3 ≤ act ∧ act ≤ 7) (h2 : 0 ≤ n ∧ n ≤ 9999) (h3 : act = 4 ∨ act = 6 → n ≤ 100) : mt_Sc_obey [.ref 46, .int (iI act), .int (iI n)] (S0 ++ T) σ (rP (S0 ++ T) (fun _ σ2 => (∀ k, k ≠ 46 → σ2 k = σ k) ∧ (∀ j, 5 ≤ j → σ2 46 j = σ 46 j) ∧ scC σ2 (scA p (act + 17) n))) := by
  refine vMet.intro 0 (by decide +kernel) (Nat.le_of_ble_eq_true rfl) rfl (fun cx hM _ => ?_)
  obtain ⟨p0, p1, p2, p3⟩ := id hp
  refine v_iload1 d_Sc_obey_0 ?_
  rcases (show (act < 3 ∨ 6 < act) ∨ act = 3 ∨ act = 4 ∨ act = 5 ∨ act = 6 by omega) with hs | hs | hs | hs | hs
  · refine v_tableOut d_Sc_obey_1 (by omega) hs (tgt := 82) rfl ?_
    refine v_aload0 d_Sc_obey_82 ?_
    refine v_iload2 d_Sc_obey_83 ?_
    refine v_putJ (ji := 4) d_Sc_obey_84 p_Sc_25 (sh_46 T) rfl rfl (by omega) ?_
    exact v_return hM d_Sc_obey_87 ⟨rfl, fun k hk => vUp_ne hk, fun j hj => vUp_ix (by omega), by
      obtain ⟨e0, e1, e2, e3⟩ := hp
      obtain rfl : act = 7 := by omega
      simp [scC, scA, vUp, e0, e1, e2, e3]⟩
  · refine v_table d_Sc_obey_1 (by omega) (by omega) (by omega) (off := 31) (tgt := 32) (by rw [hs]; rfl) rfl ?_
    refine v_aload0 d_Sc_obey_32 ?_
    refine v_dup d_Sc_obey_33 rfl ?_
    refine v_getJ (ji := 1) d_Sc_obey_34 f_Sc_15 (sh_46 T) rfl rfl (fun g34 => ?_)
    refine v_iload2 d_Sc_obey_37 ?_
    refine v_iadd d_Sc_obey_38 ?_
    refine v_putJ (ji := 1) d_Sc_obey_39 p_Sc_15 (sh_46 T) rfl rfl (by omega) ?_
    refine v_goto d_Sc_obey_42 ?_
    exact v_return hM d_Sc_obey_87 ⟨rfl, fun k hk => vUp_ne hk, fun j hj => vUp_ix (by omega), by
      obtain ⟨e0, e1, e2, e3⟩ := hp
      obtain rfl : act = 3 := by omega
      simp [scC, scA, vUp, e0, e1, e2, e3]⟩
  · refine v_table d_Sc_obey_1 (by omega) (by omega) (by omega) (off := 44) (tgt := 45) (by rw [hs]; rfl) rfl ?_
    refine v_aload0 d_Sc_obey_45 ?_
    refine v_dup d_Sc_obey_46 rfl ?_
    refine v_getJ (ji := 1) d_Sc_obey_47 f_Sc_15 (sh_46 T) rfl rfl (fun g47 => ?_)
    refine v_aload0 d_Sc_obey_50 ?_
    refine v_getJ (ji := 1) d_Sc_obey_51 f_Sc_15 (sh_46 T) rfl rfl (fun g51 => ?_)
    refine v_iload2 d_Sc_obey_54 ?_
    refine v_imul d_Sc_obey_55 ?_
    refine v_bipush d_Sc_obey_56 rfl ?_
    refine v_idiv d_Sc_obey_58 (by have := mul_rng (a := σ 46 1) (b := n) (m := 150000) (n := 9999) (by omega) (by omega); omega) (by omega) ?_
    refine v_isub d_Sc_obey_59 ?_
    refine v_putJ (ji := 1) d_Sc_obey_60 p_Sc_15 (sh_46 T) rfl rfl (by have h9 := h3 (Or.inl hs); have := mul_rng (a := σ 46 1) (b := n) (m := 150000) (n := 9999) (by omega) (by omega); have h10 : σ 46 1 * n ≤ σ 46 1 * 100 := Int.mul_le_mul_of_nonneg_left h9 (by omega); omega) ?_
    refine v_goto d_Sc_obey_63 ?_
    exact v_return hM d_Sc_obey_87 ⟨rfl, fun k hk => vUp_ne hk, fun j hj => vUp_ix (by omega), by
      obtain ⟨e0, e1, e2, e3⟩ := hp
      obtain rfl : act = 4 := by omega
      simp [scC, scA, vUp, e0, e1, e2, e3]⟩
  · refine v_table d_Sc_obey_1 (by omega) (by omega) (by omega) (off := 65) (tgt := 66) (by rw [hs]; rfl) rfl ?_
    refine v_aload0 d_Sc_obey_66 ?_
    refine v_iload2 d_Sc_obey_67 ?_
    refine v_putJ (ji := 2) d_Sc_obey_68 p_Sc_19 (sh_46 T) rfl rfl (by omega) ?_
    refine v_goto d_Sc_obey_71 ?_
    exact v_return hM d_Sc_obey_87 ⟨rfl, fun k hk => vUp_ne hk, fun j hj => vUp_ix (by omega), by
      obtain ⟨e0, e1, e2, e3⟩ := hp
      obtain rfl : act = 5 := by omega
      simp [scC, scA, vUp, e0, e1, e2, e3]⟩
  · refine v_table d_Sc_obey_1 (by omega) (by omega) (by omega) (off := 73) (tgt := 74) (by rw [hs]; rfl) rfl ?_
    refine v_aload0 d_Sc_obey_74 ?_
    refine v_iload2 d_Sc_obey_75 ?_
    refine v_putJ (ji := 3) d_Sc_obey_76 p_Sc_22 (sh_46 T) rfl rfl (by omega) ?_
    refine v_goto d_Sc_obey_79 ?_
    exact v_return hM d_Sc_obey_87 ⟨rfl, fun k hk => vUp_ne hk, fun j hj => vUp_ix (by omega), by
      obtain ⟨e0, e1, e2, e3⟩ := hp
      obtain rfl : act = 6 := by omega
      simp [scC, scA, vUp, e0, e1, e2, e3]⟩

theorem c_Sc_yearly {T : vSh} {σ : vMem} {p : Sc5} (hp : scC σ p) (hr : (0 ≤ p.1 ∧ p.1 ≤ 159984) ∧ (1 ≤ p.2.1 ∧ p.2.1 ≤ 12)) : mt_Sc_yearly [.ref 46] (S0 ++ T) σ (rF (S0 ++ T) σ (p.1 * p.2.1 / 12)) := by
  refine vMet.intro 0 (by decide +kernel) (Nat.le_of_ble_eq_true rfl) rfl (fun cx hM _ => ?_)
  obtain ⟨p0, p1, p2, p3⟩ := id hp
  have hm := mul_rng (a := σ 46 1) (b := σ 46 2) (m := 159984) (n := 12) (by omega) (by omega)
  refine v_aload0 d_Sc_yearly_0 ?_
  refine v_getJ (ji := 1) d_Sc_yearly_1 f_Sc_15 (sh_46 T) rfl rfl (fun g1 => ?_)
  refine v_aload0 d_Sc_yearly_4 ?_
  refine v_getJ (ji := 2) d_Sc_yearly_5 f_Sc_19 (sh_46 T) rfl rfl (fun g5 => ?_)
  refine v_imul d_Sc_yearly_8 ?_
  refine v_bipush d_Sc_yearly_9 rfl ?_
  refine v_idiv d_Sc_yearly_11 (by omega) (by omega) ?_
  exact v_ireturn hM d_Sc_yearly_12 (by omega) ⟨rfl, rfl, by rw [p0, p1]⟩

theorem c_Sc_lookAt_71 {T : vSh} {σ : vMem} {cx : vCx} {A : Int → Int} (hC : CR σ A) (hO : okA A) {oo dd k : Int} (h0 : 0 ≤ oo ∧ oo < A 1) (h1 : 0 ≤ dd ∧ dd < 1200) (h2 : vIn k) (h3 : A (360 + 4 * oo + 2) ≤ dd) (hM : vM cx 0 0 none (rP (S0 ++ T) (fun _ σ2 => (∀ k, k ≠ 46 → σ2 k = σ k) ∧ (∀ j, j < 5 → σ2 46 j = σ 46 j) ∧ lkC σ2 A oo dd k))) : ∀ (n j : Nat) (i : Int) (σ1 : vMem), (j : Int) + n = A 0 → i = j → (∀ k, k ≠ 46 → σ1 k = σ k) → (∀ j, j < 5 → σ1 46 j = σ 46 j) → (σ1 46 5 = rankF A oo dd k ∧ σ1 46 6 = (dd - A (360 + 4 * oo + 2)) / 120 ∧ σ1 46 7 = A (360 + 4 * oo + 1) ∧ σ1 46 8 = dd / 60 % 2) → σ1 46 9 = cntF A oo dd k j → σ1 46 10 = famZ A oo dd k j → vV cx y_Sc_lookAt.cls prog_10_method_4_code 6 2 0 0 0 0 71 [some (.ref 46), some (.int (iI oo)), some (.int (iI dd)), some (.int (iI k)), some (.ref 10), some (.int (iI i))] [] (S0 ++ T) σ1 := by
  intro n
  induction n with
  | zero =>
    intro j i σ1 hj hi hσ h5 hlk hcnt hfam
    obtain ⟨⟨q0, q1, q2, q3, q4, q5, q6, q7⟩, hVi, hWe, hCo, hOf, hBo, hWo, hMo, hRe, hLi, hTa⟩ := id hO
    obtain ⟨⟨l0, l1, lV, lC, lZ, lS⟩, ⟨b0, b1, bO, bB⟩, ⟨w0, wR, wL⟩, ⟨t0, t1, t2, tR, tB⟩, ⟨n9, nW⟩, m0, mM⟩ := id hC
    have hC1 : CR σ1 A := CR_46 hσ hC
    obtain ⟨⟨r0, r1, rV, -, -, -⟩, -⟩ := id hC1
    have hcn := cntF_rng A oo dd k j
    have hfz := famZ_rng A oo dd k j
    refine v_iload5 d_Sc_lookAt_71 ?_
    refine v_aload0 d_Sc_lookAt_73 ?_
    refine v_getR d_Sc_lookAt_74 f_Sc_9 (sh_46 T) rfl ?_
    refine v_getR d_Sc_lookAt_77 f_Sc_97 (sh_1 T) rfl ?_
    refine v_getJ (ji := 1) d_Sc_lookAt_80 f_Sc_101 (sh_2 T) rfl rfl (fun g80 => ?_)
    refine v_icmp_ge d_Sc_lookAt_83 (by omega) (by omega) (fun u83 => ?_) (fun u83 => ?_)
    · exact v_return hM d_Sc_lookAt_151 ⟨rfl, hσ, h5, hlk.1, hlk.2.1, hlk.2.2.1, hlk.2.2.2, by rw [hcnt]; congr 1; omega, by rw [hfam]; congr 1; omega⟩
    · omega
  | succ n ih =>
    intro j i σ1 hj hi hσ h5 hlk hcnt hfam
    obtain ⟨⟨q0, q1, q2, q3, q4, q5, q6, q7⟩, hVi, hWe, hCo, hOf, hBo, hWo, hMo, hRe, hLi, hTa⟩ := id hO
    obtain ⟨⟨l0, l1, lV, lC, lZ, lS⟩, ⟨b0, b1, bO, bB⟩, ⟨w0, wR, wL⟩, ⟨t0, t1, t2, tR, tB⟩, ⟨n9, nW⟩, m0, mM⟩ := id hC
    have hC1 : CR σ1 A := CR_46 hσ hC
    obtain ⟨⟨r0, r1, rV, -, -, -⟩, -⟩ := id hC1
    have hcn := cntF_rng A oo dd k j
    have hfz := famZ_rng A oo dd k j
    refine v_iload5 d_Sc_lookAt_71 ?_
    refine v_aload0 d_Sc_lookAt_73 ?_
    refine v_getR d_Sc_lookAt_74 f_Sc_9 (sh_46 T) rfl ?_
    refine v_getR d_Sc_lookAt_77 f_Sc_97 (sh_1 T) rfl ?_
    refine v_getJ (ji := 1) d_Sc_lookAt_80 f_Sc_101 (sh_2 T) rfl rfl (fun g80 => ?_)
    refine v_icmp_ge d_Sc_lookAt_83 (by omega) (by omega) (fun u83 => ?_) (fun u83 => ?_)
    · omega
    · refine v_aload4 d_Sc_lookAt_86 ?_
      refine v_iload5 d_Sc_lookAt_88 ?_
      refine v_iload2 d_Sc_lookAt_90 ?_
      refine v_iload3 d_Sc_lookAt_91 ?_
      refine v_fVI3 d_Sc_lookAt_92 l_Sc_106 k_Bo_holderOn (c_Bo_holderOn hC1 hO (by omega) (by omega) (by omega)) (sh_10 T) rfl (by decide) (by decide) (Nat.le_of_ble_eq_true rfl) (Nat.zero_le _) (Nat.zero_le _) (fun g92 => ?_)
      refine v_iload1 d_Sc_lookAt_95 ?_
      refine v_icmp_ne d_Sc_lookAt_96 (by omega) (by omega) (fun u96 => ?_) (fun u96 => ?_)
      · refine v_iinc5 d_Sc_lookAt_145 (by decide) rfl ?_
        refine v_goto d_Sc_lookAt_148 ?_
        exact ih (j + 1) _ _ (by omega) (by omega) hσ h5 hlk (by rw [cntF, ← hi, hcnt]; have e := b01_0 (p := heldF A i dd k = oo) (by omega); omega) (by rw [famZ, ← hi, hfam]; rcases hfz with e | e <;> rw [e] <;> first | exact b01_1 (by omega) | exact b01_0 (by omega))
      · refine v_aload0 d_Sc_lookAt_99 ?_
        refine v_dup d_Sc_lookAt_100 rfl ?_
        refine v_getJ (ji := 9) d_Sc_lookAt_101 f_Sc_90 (sh_46 T) rfl rfl (fun g101 => ?_)
        refine v_iconst d_Sc_lookAt_104 ?_
        refine v_iadd d_Sc_lookAt_105 ?_
        refine v_putJ (ji := 9) d_Sc_lookAt_106 p_Sc_90 (sh_46 T) rfl rfl (by omega) ?_
        refine v_aload0 d_Sc_lookAt_109 ?_
        refine v_aload0 d_Sc_lookAt_110 ?_
        refine v_getJ (ji := 10) d_Sc_lookAt_111 f_Sc_93 (sh_46 T) rfl rfl (fun g111 => ?_)
        rw [vUp_ix (by decide)] at g111
        refine v_if_ne d_Sc_lookAt_114 (by rw [vUp_ix (by decide)]; omega) (fun u114 => ?_) (fun u114 => ?_)
        · rw [vUp_ix (by decide)] at u114
          refine v_iconst d_Sc_lookAt_137 ?_
          refine v_goto d_Sc_lookAt_138 ?_
          refine v_putZJ (ji := 10) d_Sc_lookAt_142 p_Sc_93 (sh_46 T) rfl rfl (by omega) ?_
          refine v_iinc5 d_Sc_lookAt_145 (by decide) rfl ?_
          refine v_goto d_Sc_lookAt_148 ?_
          exact ih (j + 1) _ _ (by omega) (by omega) (fun k hk => by rw [vUp_ne hk, vUp_ne hk]; exact hσ k hk) (fun j' hj' => by rw [vUp_ix (by omega), vUp_ix (by omega)]; exact h5 j' hj') (by obtain ⟨y1, y2, y3, y4⟩ := hlk; refine ⟨?_, ?_, ?_, ?_⟩ <;> (rw [vUp_ix (by decide), vUp_ix (by decide)]; assumption)) (by rw [vUp_ix (by decide), vUp_same, cntF, ← hi, hcnt]; have e := b01_1 (p := heldF A i dd k = oo) (by omega); omega) (by rw [vUp_same, famZ, ← hi]; exact b01_1 (by omega))
        · rw [vUp_ix (by decide)] at u114
          refine v_aload0 d_Sc_lookAt_117 ?_
          refine v_getR d_Sc_lookAt_118 f_Sc_9 (sh_46 T) rfl ?_
          refine v_getR d_Sc_lookAt_121 f_Sc_109 (sh_1 T) rfl ?_
          refine v_iload5 d_Sc_lookAt_124 ?_
          refine v_iload2 d_Sc_lookAt_126 ?_
          refine v_bipush d_Sc_lookAt_127 rfl ?_
          refine v_idiv d_Sc_lookAt_129 (by omega) (by omega) ?_
          refine v_iload3 d_Sc_lookAt_130 ?_
          refine v_fVZ3 d_Sc_lookAt_131 l_Sc_113 k_Ne_isProven (c_Ne_isProven (CR_46 (fun k hk => vUp_ne hk) hC1) hO (by omega) (by omega) (by omega)) (sh_32 T) rfl (by decide) (by decide) (Nat.le_of_ble_eq_true rfl) (Nat.zero_le _) (Nat.zero_le _) (fun g131 => ?_)
          refine v_ifb_eq d_Sc_lookAt_134 (fun u134 => ?_) (fun u134 => ?_)
          · refine v_iconst d_Sc_lookAt_141 ?_
            refine v_putZJ (ji := 10) d_Sc_lookAt_142 p_Sc_93 (sh_46 T) rfl rfl (by omega) ?_
            refine v_iinc5 d_Sc_lookAt_145 (by decide) rfl ?_
            refine v_goto d_Sc_lookAt_148 ?_
            exact ih (j + 1) _ _ (by omega) (by omega) (fun k hk => by rw [vUp_ne hk, vUp_ne hk]; exact hσ k hk) (fun j' hj' => by rw [vUp_ix (by omega), vUp_ix (by omega)]; exact h5 j' hj') (by obtain ⟨y1, y2, y3, y4⟩ := hlk; refine ⟨?_, ?_, ?_, ?_⟩ <;> (rw [vUp_ix (by decide), vUp_ix (by decide)]; assumption)) (by rw [vUp_ix (by decide), vUp_same, cntF, ← hi, hcnt]; have e := b01_1 (p := heldF A i dd k = oo) (by omega); omega) (by rw [vUp_same, famZ, ← hi]; exact b01_0 (by omega))
          · refine v_iconst d_Sc_lookAt_137 ?_
            refine v_goto d_Sc_lookAt_138 ?_
            refine v_putZJ (ji := 10) d_Sc_lookAt_142 p_Sc_93 (sh_46 T) rfl rfl (by omega) ?_
            refine v_iinc5 d_Sc_lookAt_145 (by decide) rfl ?_
            refine v_goto d_Sc_lookAt_148 ?_
            exact ih (j + 1) _ _ (by omega) (by omega) (fun k hk => by rw [vUp_ne hk, vUp_ne hk]; exact hσ k hk) (fun j' hj' => by rw [vUp_ix (by omega), vUp_ix (by omega)]; exact h5 j' hj') (by obtain ⟨y1, y2, y3, y4⟩ := hlk; refine ⟨?_, ?_, ?_, ?_⟩ <;> (rw [vUp_ix (by decide), vUp_ix (by decide)]; assumption)) (by rw [vUp_ix (by decide), vUp_same, cntF, ← hi, hcnt]; have e := b01_1 (p := heldF A i dd k = oo) (by omega); omega) (by rw [vUp_same, famZ, ← hi]; exact b01_1 (by omega))

theorem c_Sc_lookAt {T : vSh} {σ : vMem} {A : Int → Int} (hC : CR σ A) (hO : okA A) {oo dd k : Int} (h0 : 0 ≤ oo ∧ oo < A 1) (h1 : 0 ≤ dd ∧ dd < 1200) (h2 : vIn k) (h3 : A (360 + 4 * oo + 2) ≤ dd) : mt_Sc_lookAt [.ref 46, .int (iI oo), .int (iI dd), .int (iI k)] (S0 ++ T) σ (rP (S0 ++ T) (fun _ σ2 => (∀ k, k ≠ 46 → σ2 k = σ k) ∧ (∀ j, j < 5 → σ2 46 j = σ 46 j) ∧ lkC σ2 A oo dd k)) := by
  refine vMet.intro 2 (by decide +kernel) (Nat.le_of_ble_eq_true rfl) rfl (fun cx hM _ => ?_)
  obtain ⟨⟨q0, q1, q2, q3, q4, q5, q6, q7⟩, hVi, hWe, hCo, hOf, hBo, hWo, hMo, hRe, hLi, hTa⟩ := id hO
  obtain ⟨⟨l0, l1, lV, lC, lZ, lS⟩, ⟨b0, b1, bO, bB⟩, ⟨w0, wR, wL⟩, ⟨t0, t1, t2, tR, tB⟩, ⟨n9, nW⟩, m0, mM⟩ := id hC
  have hb := bO oo (by omega) (by omega)
  have hof := hOf oo (by omega) (by omega)
  refine v_aload0 d_Sc_lookAt_0 ?_
  refine v_getR d_Sc_lookAt_1 f_Sc_9 (sh_46 T) rfl ?_
  refine v_getR d_Sc_lookAt_4 f_Sc_62 (sh_1 T) rfl ?_
  refine v_astore4 d_Sc_lookAt_7 (by decide) rfl ?_
  refine v_aload0 d_Sc_lookAt_9 ?_
  refine v_aload4 d_Sc_lookAt_10 ?_
  refine v_iload1 d_Sc_lookAt_12 ?_
  refine v_iload2 d_Sc_lookAt_13 ?_
  refine v_iload3 d_Sc_lookAt_14 ?_
  refine v_fVI3 d_Sc_lookAt_15 l_Sc_66 k_Bo_rankOn (c_Bo_rankOn hC hO (by omega) (by omega) (by omega)) (sh_10 T) rfl (by decide) (by decide) (Nat.le_of_ble_eq_true rfl) (Nat.zero_le _) (Nat.zero_le _) (fun g15 => ?_)
  refine v_putJ (ji := 5) d_Sc_lookAt_18 p_Sc_72 (sh_46 T) rfl rfl (by omega) ?_
  refine v_aload0 d_Sc_lookAt_21 ?_
  refine v_iload2 d_Sc_lookAt_22 ?_
  refine v_aload4 d_Sc_lookAt_23 ?_
  refine v_getR d_Sc_lookAt_25 f_Sc_75 (sh_10 T) rfl ?_
  refine v_iload1 d_Sc_lookAt_28 ?_
  refine v_iaload d_Sc_lookAt_29 (sh_13 T) (by omega) (fun g29 => ?_)
  refine v_isub d_Sc_lookAt_30 ?_
  refine v_bipush d_Sc_lookAt_31 rfl ?_
  refine v_idiv d_Sc_lookAt_33 (by simp [vUp]; omega) (by omega) ?_
  refine v_putJ (ji := 6) d_Sc_lookAt_34 p_Sc_78 (sh_46 T) rfl rfl (by simp [vUp]; omega) ?_
  refine v_aload0 d_Sc_lookAt_37 ?_
  refine v_aload4 d_Sc_lookAt_38 ?_
  refine v_getR d_Sc_lookAt_40 f_Sc_81 (sh_10 T) rfl ?_
  refine v_iload1 d_Sc_lookAt_43 ?_
  refine v_iaload d_Sc_lookAt_44 (sh_12 T) (by omega) (fun g44 => ?_)
  refine v_putJ (ji := 7) d_Sc_lookAt_45 p_Sc_84 (sh_46 T) rfl rfl (by omega) ?_
  refine v_aload0 d_Sc_lookAt_48 ?_
  refine v_iload2 d_Sc_lookAt_49 ?_
  refine v_bipush d_Sc_lookAt_50 rfl ?_
  refine v_idiv d_Sc_lookAt_52 (by omega) (by omega) ?_
  refine v_iconst d_Sc_lookAt_53 ?_
  refine v_iremN d_Sc_lookAt_54 (by omega) (by omega) ?_
  refine v_putJ (ji := 8) d_Sc_lookAt_55 p_Sc_87 (sh_46 T) rfl rfl (by omega) ?_
  refine v_aload0 d_Sc_lookAt_58 ?_
  refine v_iconst d_Sc_lookAt_59 ?_
  refine v_putJ (ji := 9) d_Sc_lookAt_60 p_Sc_90 (sh_46 T) rfl rfl (by omega) ?_
  refine v_aload0 d_Sc_lookAt_63 ?_
  refine v_iconst d_Sc_lookAt_64 ?_
  refine v_putZJ (ji := 10) d_Sc_lookAt_65 p_Sc_93 (sh_46 T) rfl rfl (by omega) ?_
  refine v_iconst d_Sc_lookAt_68 ?_
  refine v_istore5 d_Sc_lookAt_69 (by decide) rfl ?_
  exact c_Sc_lookAt_71 hC hO h0 h1 h2 h3 hM (A 0).toNat 0 _ _ (by omega) rfl (fun k hk => by rw [vUp_ne hk, vUp_ne hk, vUp_ne hk, vUp_ne hk, vUp_ne hk, vUp_ne hk]) (fun j hj => by rw [vUp_ix (by omega), vUp_ix (by omega), vUp_ix (by omega), vUp_ix (by omega), vUp_ix (by omega), vUp_ix (by omega)]) ⟨by simp [vUp], by simp [vUp]; rw [hb.2.2.1], by simp [vUp]; rw [hb.2.1], by simp [vUp]⟩ (by simp [vUp, cntF]) (by simp [vUp, famZ])

theorem b01_ne {a b : Int} (ha : a = 0 ∨ a = 1) (hb : b = 0 ∨ b = 1) : b01 (¬ (a = b01 (b = 1))) = b01 (a ≠ b) := by
  rcases ha with rfl | rfl <;> rcases hb with rfl | rfl <;> rfl
theorem c_Sc_allHold_77 {T : vSh} {σ : vMem} {cx : vCx} {A : Int → Int} (hC : CR σ A) (hO : okA A) {oo dd k r l ln : Int} (h0 : 0 ≤ oo ∧ oo < A 1) (h1 : 0 ≤ dd ∧ dd < 1200) (h3 : A (360 + 4 * oo + 2) ≤ dd) (hk : lkC σ A oo dd k) (hr : 0 ≤ r ∧ r < A 3) (hl : 0 ≤ l ∧ l < A (10 + 2 * r + 1)) (hln : ln = r * 16 + l) (hM : vM cx 0 0 (some .boolean) (rF (S0 ++ T) σ (holdF A (1430 + 320 * r + 20 * l) oo dd k (A (1430 + 320 * r + 20 * l)).toNat))) {j : Nat} {i lf so : Int} (hlf : lf = ln * 4) (hi : (i - lf) = j) (hj : (j : Int) < A (1430 + 320 * r + 20 * l)) (h8 : holdF A (1430 + 320 * r + 20 * l) oo dd k j = 1) (hso : so = b01 (cmpP (A (1430 + 320 * r + 20 * l + 1 + 4 * (i - lf) + 2)) (askF A (A (1430 + 320 * r + 20 * l + 1 + 4 * (i - lf) + 1)) oo dd k) (A (1430 + 320 * r + 20 * l + 1 + 4 * (i - lf) + 3))))
    (K : holdF A (1430 + 320 * r + 20 * l) oo dd k (j + 1) = 1 → vV cx y_Sc_allHold.cls prog_10_method_5_code 6 1 0 0 0 0 91 [some (.ref 46), some (.int (iI ln)), some (.ref 20), some (.int (iI lf)), some (.int (iI i)), none] [] (S0 ++ T) σ) : vV cx y_Sc_allHold.cls prog_10_method_5_code 6 1 0 0 0 0 75 [some (.ref 46), some (.int (iI ln)), some (.ref 20), some (.int (iI lf)), some (.int (iI i)), none] [.int (iI so)] (S0 ++ T) σ := by
  obtain ⟨⟨q0, q1, q2, q3, q4, q5, q6, q7⟩, hVi, hWe, hCo, hOf, hBo, hWo, hMo, hRe, hLi, hTa⟩ := id hO
  obtain ⟨⟨l0, l1, lV, lC, lZ, lS⟩, ⟨b0, b1, bO, bB⟩, ⟨w0, wR, wL⟩, ⟨t0, t1, t2, tR, tB⟩, ⟨n9, nW⟩, m0, mM⟩ := id hC
  have hok := hLi r l (by omega) (by omega) (by omega) (by omega)
  obtain ⟨hl2, hl3, -⟩ := id hok
  have h9 := hRe r (by omega) (by omega)
  obtain ⟨y1, y2, y3, y4⟩ := wL r l (by omega) (by omega) (by omega) (by omega)
  rw [← hln] at y1 y2 y3 y4
  have hz := holdF_rng A (1430 + 320 * r + 20 * l) oo dd k j
  obtain ⟨k1, k2, k3, k4, k5, k6⟩ := id hk
  have ht := hl3 (i - lf) (by omega) (by omega)
  obtain ⟨x1, x2, x3, x4⟩ := y4 (i - lf) (by omega) (by omega)
  rw [show ln * 4 + (i - lf) = i by omega] at x1 x2 x3 x4
  have hfz := famZ_rng A oo dd k (A 0).toNat
  have e1 : A (1430 + 320 * r + 20 * l + 1 + 4 * (i - lf) + 1) = 1 → askF A (A (1430 + 320 * r + 20 * l + 1 + 4 * (i - lf) + 1)) oo dd k = famZ A oo dd k (A 0).toNat := fun h => by rw [h]; rfl
  have e2 := askF_rng hO (what := A (1430 + 320 * r + 20 * l + 1 + 4 * (i - lf) + 1)) (k := k) h0 h1 h3
  have hs9 : so = 0 ∨ so = 1 := by rw [hso]; exact b01_or
  have h7 := holdF_step A (1430 + 320 * r + 20 * l) oo dd k (j := j) (i := i - lf) hi h8 rfl rfl hso
  rw [b01_ne hs9 ht.1] at h7
  refine v_istore5 d_Sc_allHold_75 (by decide) rfl ?_
  refine v_iload5 d_Sc_allHold_77 ?_
  refine v_aload2 d_Sc_allHold_79 ?_
  refine v_getR d_Sc_allHold_80 f_Sc_137 (sh_20 T) rfl ?_
  refine v_iload4 d_Sc_allHold_83 ?_
  refine v_zaload d_Sc_allHold_85 (sh_29 T) (by omega) (fun g85 => ?_)
  refine v_icmp_ne d_Sc_allHold_86 (by omega) (by omega) (fun u86 => ?_) (fun u86 => ?_)
  · refine v_drop5 ?_
    exact K (by rw [h7]; exact (b01_1 (by omega)).symm)
  · refine v_iconst d_Sc_allHold_89 ?_
    exact v_zreturn hM d_Sc_allHold_90 (Or.inl rfl) ⟨rfl, rfl, (holdF_stop A _ oo dd k (by rw [h7]; exact (b01_0 (by omega)).symm) _ (by omega)).symm⟩

theorem c_Sc_allHold_15 {T : vSh} {σ : vMem} {cx : vCx} {A : Int → Int} (hC : CR σ A) (hO : okA A) {oo dd k r l ln : Int} (h0 : 0 ≤ oo ∧ oo < A 1) (h1 : 0 ≤ dd ∧ dd < 1200) (h3 : A (360 + 4 * oo + 2) ≤ dd) (hk : lkC σ A oo dd k) (hr : 0 ≤ r ∧ r < A 3) (hl : 0 ≤ l ∧ l < A (10 + 2 * r + 1)) (hln : ln = r * 16 + l) {lf : Int} (hlf : lf = ln * 4) (hM : vM cx 0 0 (some .boolean) (rF (S0 ++ T) σ (holdF A (1430 + 320 * r + 20 * l) oo dd k (A (1430 + 320 * r + 20 * l)).toNat))) : ∀ (n j : Nat) (i : Int), (j : Int) + n = A (1430 + 320 * r + 20 * l) → (i - lf) = j → 1 = holdF A (1430 + 320 * r + 20 * l) oo dd k j → vV cx y_Sc_allHold.cls prog_10_method_5_code 6 1 0 0 0 0 15 [some (.ref 46), some (.int (iI ln)), some (.ref 20), some (.int (iI lf)), some (.int (iI i)), none] [] (S0 ++ T) σ := by
  intro n
  induction n with
  | zero =>
    intro j i hj hi h8
    obtain ⟨⟨q0, q1, q2, q3, q4, q5, q6, q7⟩, hVi, hWe, hCo, hOf, hBo, hWo, hMo, hRe, hLi, hTa⟩ := id hO
    obtain ⟨⟨l0, l1, lV, lC, lZ, lS⟩, ⟨b0, b1, bO, bB⟩, ⟨w0, wR, wL⟩, ⟨t0, t1, t2, tR, tB⟩, ⟨n9, nW⟩, m0, mM⟩ := id hC
    have hok := hLi r l (by omega) (by omega) (by omega) (by omega)
    obtain ⟨hl2, hl3, -⟩ := id hok
    have h9 := hRe r (by omega) (by omega)
    obtain ⟨y1, y2, y3, y4⟩ := wL r l (by omega) (by omega) (by omega) (by omega)
    rw [← hln] at y1 y2 y3 y4
    have hz := holdF_rng A (1430 + 320 * r + 20 * l) oo dd k j
    obtain ⟨k1, k2, k3, k4, k5, k6⟩ := id hk
    refine v_iload4 d_Sc_allHold_15 ?_
    refine v_iload3 d_Sc_allHold_17 ?_
    refine v_aload2 d_Sc_allHold_18 ?_
    refine v_getR d_Sc_allHold_19 f_Sc_119 (sh_20 T) rfl ?_
    refine v_iload1 d_Sc_allHold_22 ?_
    refine v_iaload d_Sc_allHold_23 (sh_25 T) (by omega) (fun g23 => ?_)
    refine v_iadd d_Sc_allHold_24 ?_
    refine v_icmp_ge d_Sc_allHold_25 (by omega) (by omega) (fun u25 => ?_) (fun u25 => ?_)
    · refine v_iconst d_Sc_allHold_97 ?_
      exact v_zreturn hM d_Sc_allHold_98 (Or.inr rfl) ⟨rfl, rfl, by rw [h8]; congr 1; omega⟩
    · omega
  | succ n ih =>
    intro j i hj hi h8
    obtain ⟨⟨q0, q1, q2, q3, q4, q5, q6, q7⟩, hVi, hWe, hCo, hOf, hBo, hWo, hMo, hRe, hLi, hTa⟩ := id hO
    obtain ⟨⟨l0, l1, lV, lC, lZ, lS⟩, ⟨b0, b1, bO, bB⟩, ⟨w0, wR, wL⟩, ⟨t0, t1, t2, tR, tB⟩, ⟨n9, nW⟩, m0, mM⟩ := id hC
    have hok := hLi r l (by omega) (by omega) (by omega) (by omega)
    obtain ⟨hl2, hl3, -⟩ := id hok
    have h9 := hRe r (by omega) (by omega)
    obtain ⟨y1, y2, y3, y4⟩ := wL r l (by omega) (by omega) (by omega) (by omega)
    rw [← hln] at y1 y2 y3 y4
    have hz := holdF_rng A (1430 + 320 * r + 20 * l) oo dd k j
    obtain ⟨k1, k2, k3, k4, k5, k6⟩ := id hk
    have ht := hl3 (i - lf) (by omega) (by omega)
    obtain ⟨x1, x2, x3, x4⟩ := y4 (i - lf) (by omega) (by omega)
    rw [show ln * 4 + (i - lf) = i by omega] at x1 x2 x3 x4
    have hfz := famZ_rng A oo dd k (A 0).toNat
    have e1 : A (1430 + 320 * r + 20 * l + 1 + 4 * (i - lf) + 1) = 1 → askF A (A (1430 + 320 * r + 20 * l + 1 + 4 * (i - lf) + 1)) oo dd k = famZ A oo dd k (A 0).toNat := fun h => by rw [h]; rfl
    have e2 := askF_rng hO (what := A (1430 + 320 * r + 20 * l + 1 + 4 * (i - lf) + 1)) (k := k) h0 h1 h3
    have h8 := h8.symm
    refine v_iload4 d_Sc_allHold_15 ?_
    refine v_iload3 d_Sc_allHold_17 ?_
    refine v_aload2 d_Sc_allHold_18 ?_
    refine v_getR d_Sc_allHold_19 f_Sc_119 (sh_20 T) rfl ?_
    refine v_iload1 d_Sc_allHold_22 ?_
    refine v_iaload d_Sc_allHold_23 (sh_25 T) (by omega) (fun g23 => ?_)
    refine v_iadd d_Sc_allHold_24 ?_
    refine v_icmp_ge d_Sc_allHold_25 (by omega) (by omega) (fun u25 => ?_) (fun u25 => ?_)
    · omega
    · refine v_aload2 d_Sc_allHold_28 ?_
      refine v_getR d_Sc_allHold_29 f_Sc_122 (sh_20 T) rfl ?_
      refine v_iload4 d_Sc_allHold_32 ?_
      refine v_iaload d_Sc_allHold_34 (sh_26 T) (by omega) (fun g34 => ?_)
      refine v_bipush d_Sc_allHold_35 rfl ?_
      refine v_icmp_ne d_Sc_allHold_37 (by omega) (by omega) (fun u37 => ?_) (fun u37 => ?_)
      · refine v_aload0 d_Sc_allHold_47 ?_
        refine v_aload2 d_Sc_allHold_48 ?_
        refine v_getR d_Sc_allHold_49 f_Sc_122 (sh_20 T) rfl ?_
        refine v_iload4 d_Sc_allHold_52 ?_
        refine v_iaload d_Sc_allHold_54 (sh_26 T) (by omega) (fun g54 => ?_)
        refine v_fVI1 d_Sc_allHold_55 l_Sc_125 k_Sc_measure (c_Sc_measure @hk (by omega)) (sh_46 T) rfl (by decide) (by decide) (Nat.le_of_ble_eq_true rfl) (Nat.zero_le _) (Nat.zero_le _) (fun g55 => ?_)
        refine v_aload2 d_Sc_allHold_58 ?_
        refine v_getR d_Sc_allHold_59 f_Sc_128 (sh_20 T) rfl ?_
        refine v_iload4 d_Sc_allHold_62 ?_
        refine v_iaload d_Sc_allHold_64 (sh_27 T) (by omega) (fun g64 => ?_)
        refine v_aload2 d_Sc_allHold_65 ?_
        refine v_getR d_Sc_allHold_66 f_Sc_131 (sh_20 T) rfl ?_
        refine v_iload4 d_Sc_allHold_69 ?_
        refine v_iaload d_Sc_allHold_71 (sh_28 T) (by omega) (fun g71 => ?_)
        refine v_fSZ3 d_Sc_allHold_72 l_Sc_134 k_Sc_compares (c_Sc_compares (by omega) (by omega) (by omega)) (by decide) (by decide) (Nat.le_of_ble_eq_true rfl) (Nat.zero_le _) (Nat.zero_le _) (fun g72 => ?_)
        refine c_Sc_allHold_77 hC hO h0 h1 h3 hk hr hl hln hM hlf hi (by omega) (by omega) (by rw [x1, x2, x4 (by omega), show A (1430 + 320 * r + 20 * l + 1 + 4 * (i - lf) + 1) + 8 - 8 = A (1430 + 320 * r + 20 * l + 1 + 4 * (i - lf) + 1) by omega]) (fun h6 => ?_)
        refine v_iinc4 d_Sc_allHold_91 (by decide) rfl ?_
        refine v_goto d_Sc_allHold_94 ?_
        exact ih (j + 1) _ (by omega) (by omega) h6.symm
      · refine v_aload0 d_Sc_allHold_40 ?_
        refine v_getJ (ji := 10) d_Sc_allHold_41 f_Sc_93 (sh_46 T) rfl rfl (fun g41 => ?_)
        refine v_goto d_Sc_allHold_44 ?_
        refine c_Sc_allHold_77 hC hO h0 h1 h3 hk hr hl hln hM hlf hi (by omega) (by omega) (by rw [k6, e1 (by omega), (ht.2.2.2.2 (by omega)).1, (ht.2.2.2.2 (by omega)).2]; rcases hfz with f | f <;> rw [f] <;> rfl) (fun h6 => ?_)
        refine v_iinc4 d_Sc_allHold_91 (by decide) rfl ?_
        refine v_goto d_Sc_allHold_94 ?_
        exact ih (j + 1) _ (by omega) (by omega) h6.symm

theorem c_Sc_allHold {T : vSh} {σ : vMem} {A : Int → Int} (hC : CR σ A) (hO : okA A) {oo dd k r l ln : Int} (h0 : 0 ≤ oo ∧ oo < A 1) (h1 : 0 ≤ dd ∧ dd < 1200) (h3 : A (360 + 4 * oo + 2) ≤ dd) (hk : lkC σ A oo dd k) (hr : 0 ≤ r ∧ r < A 3) (hl : 0 ≤ l ∧ l < A (10 + 2 * r + 1)) (hln : ln = r * 16 + l) : mt_Sc_allHold [.ref 46, .int (iI ln)] (S0 ++ T) σ (rF (S0 ++ T) σ (holdF A (1430 + 320 * r + 20 * l) oo dd k (A (1430 + 320 * r + 20 * l)).toNat)) := by
  refine vMet.intro 4 (by decide +kernel) (Nat.le_of_ble_eq_true rfl) rfl (fun cx hM _ => ?_)
  obtain ⟨⟨q0, q1, q2, q3, q4, q5, q6, q7⟩, hVi, hWe, hCo, hOf, hBo, hWo, hMo, hRe, hLi, hTa⟩ := id hO
  obtain ⟨⟨l0, l1, lV, lC, lZ, lS⟩, ⟨b0, b1, bO, bB⟩, ⟨w0, wR, wL⟩, ⟨t0, t1, t2, tR, tB⟩, ⟨n9, nW⟩, m0, mM⟩ := id hC
  refine v_aload0 d_Sc_allHold_0 ?_
  refine v_getR d_Sc_allHold_1 f_Sc_9 (sh_46 T) rfl ?_
  refine v_getR d_Sc_allHold_4 f_Sc_28 (sh_1 T) rfl ?_
  refine v_astore2 d_Sc_allHold_7 (by decide) rfl ?_
  refine v_iload1 d_Sc_allHold_8 ?_
  refine v_iconst d_Sc_allHold_9 ?_
  refine v_imul d_Sc_allHold_10 ?_
  refine v_istore3 d_Sc_allHold_11 (by decide) rfl ?_
  refine v_iload3 d_Sc_allHold_12 ?_
  refine v_istore4 d_Sc_allHold_13 (by decide) rfl ?_
  exact c_Sc_allHold_15 hC hO h0 h1 h3 hk hr hl hln rfl hM (A (1430 + 320 * r + 20 * l)).toNat 0 _ (by have := (hLi r l (by omega) (by omega) (by omega) (by omega)).1; omega) (by omega) rfl

