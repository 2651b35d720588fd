def CW (σ σ' : vMem) : Prop := ∀ k, k < 2 ∨ k = 44 ∨ 55 ≤ k → σ' k = σ k
theorem CW.rfl' {σ : vMem} : CW σ σ := fun _ _ => rfl
theorem CF.cw {σ σ' : vMem} (h : CF σ σ') : CW σ σ' := fun k hk => h.1 k (by omega)
theorem CW.trans' {a b c : vMem} (h1 : CW a b) (h2 : CW b c) : CW a c := fun k hk => (h2 k hk).trans (h1 k hk)
theorem c_V_weather {T : vSh} {σ : vMem} {A : Int → Int} (hC : CR σ A) (hO : okA A) {s p : Int} (h0 : vIn s) (h1 : vIn p) : mt_V_weather [.ref 0, .int (iI s), .int (iI p)] (S0 ++ T) σ (rP (S0 ++ T) (fun z σ2 => z = (wWe A s p).2 ∧ CW σ σ2 ∧ CR σ2 (wWe A s p).1)) := by
  refine vMet.intro 1 (by decide +kernel) (Nat.le_of_ble_eq_true rfl) rfl (fun cx hM _ => ?_)
  obtain ⟨⟨q0, q1, q2, q3, q4, q5, q6, q7⟩, hVi, hWe, hCo, hOf, hBo, hWo, hMo, hRe, hLi, hTa⟩ := id hO
  obtain ⟨⟨l0, l1, lV, lC, lZ, lS⟩, ⟨b0, b1, bO, bB⟩, ⟨w0, wR, wL⟩, ⟨t0, t1, t2, tR, tB⟩, ⟨n9, nW⟩, m0, mM⟩ := id hC
  refine v_iload1 d_V_weather_0 ?_
  refine v_fSZ1 d_V_weather_1 l_V_96 k_V_isSeason (c_V_isSeason (by omega)) (by decide) (by decide) (Nat.le_of_ble_eq_true rfl) (Nat.zero_le _) (Nat.zero_le _) (fun g1 => ?_)
  refine v_ifb_eq d_V_weather_4 (fun u4 => ?_) (fun u4 => ?_)
  · refine v_iconst d_V_weather_19 ?_
    refine v_istore3 d_V_weather_20 (by decide) rfl ?_
    refine v_iload3 d_V_weather_21 ?_
    refine v_if_eq d_V_weather_22 (by omega) (fun u22 => ?_) (fun u22 => ?_)
    · refine v_iconst d_V_weather_36 ?_
      first
      | (exact v_zreturn hM d_V_weather_37 (Or.inr rfl) ⟨rfl, by rw [wWe, if_pos (by omega)], fun k hk => vUp_ne (by omega), by rw [wWe, if_pos (by omega)]; exact CR_we hC hO (by omega) (fun k hk => vUp_ne hk) (vUp_fn _ _ _ _)⟩)
      | (exact v_zreturn hM d_V_weather_37 (Or.inl rfl) ⟨rfl, by rw [wWe, if_neg (by omega)], CW.rfl', by rw [wWe, if_neg (by omega)]; exact hC⟩)
    · omega
  · refine v_aload0 d_V_weather_7 ?_
    refine v_iload1 d_V_weather_8 ?_
    refine v_fVZ1 d_V_weather_9 l_V_100 k_V_hasEnded (c_V_hasEnded hC hO (by omega)) (sh_0 T) rfl (by decide) (by decide) (Nat.le_of_ble_eq_true rfl) (Nat.zero_le _) (Nat.zero_le _) (fun g9 => ?_)
    refine v_ifb_ne d_V_weather_12 (fun u12 => ?_) (fun u12 => ?_)
    · refine v_iconst d_V_weather_19 ?_
      refine v_istore3 d_V_weather_20 (by decide) rfl ?_
      refine v_iload3 d_V_weather_21 ?_
      refine v_if_eq d_V_weather_22 (by omega) (fun u22 => ?_) (fun u22 => ?_)
      · refine v_iconst d_V_weather_36 ?_
        first
        | (exact v_zreturn hM d_V_weather_37 (Or.inr rfl) ⟨rfl, by rw [wWe, if_pos (by omega)], fun k hk => vUp_ne (by omega), by rw [wWe, if_pos (by omega)]; exact CR_we hC hO (by omega) (fun k hk => vUp_ne hk) (vUp_fn _ _ _ _)⟩)
        | (exact v_zreturn hM d_V_weather_37 (Or.inl rfl) ⟨rfl, by rw [wWe, if_neg (by omega)], CW.rfl', by rw [wWe, if_neg (by omega)]; exact hC⟩)
      · omega
    · refine v_iconst d_V_weather_15 ?_
      refine v_goto d_V_weather_16 ?_
      refine v_istore3 d_V_weather_20 (by decide) rfl ?_
      refine v_iload3 d_V_weather_21 ?_
      refine v_if_eq d_V_weather_22 (by omega) (fun u22 => ?_) (fun u22 => ?_)
      · omega
      · refine v_iload2 d_V_weather_25 ?_
        refine v_iconst d_V_weather_26 ?_
        refine v_sipush d_V_weather_27 rfl ?_
        refine v_fSZ3 d_V_weather_30 l_V_82 k_V_isWithin (c_V_isWithin (by omega) (by omega) (by omega)) (by decide) (by decide) (Nat.le_of_ble_eq_true rfl) (Nat.zero_le _) (Nat.zero_le _) (fun g30 => ?_)
        refine v_ifb_ne d_V_weather_33 (fun u33 => ?_) (fun u33 => ?_)
        · refine v_aload0 d_V_weather_38 ?_
          refine v_getR d_V_weather_39 f_V_66 (sh_0 T) rfl ?_
          refine v_getR d_V_weather_42 f_V_103 (sh_2 T) rfl ?_
          refine v_iload1 d_V_weather_45 ?_
          refine v_iload2 d_V_weather_46 ?_
          refine v_iastore d_V_weather_47 (sh_9 T) (by omega) (by omega) ?_
          refine v_iconst d_V_weather_48 ?_
          first
          | (exact v_zreturn hM d_V_weather_49 (Or.inr rfl) ⟨rfl, by rw [wWe, if_pos (by omega)], fun k hk => vUp_ne (by omega), by rw [wWe, if_pos (by omega)]; exact CR_we hC hO (by omega) (fun k hk => vUp_ne hk) (vUp_fn _ _ _ _)⟩)
          | (exact v_zreturn hM d_V_weather_49 (Or.inl rfl) ⟨rfl, by rw [wWe, if_neg (by omega)], CW.rfl', by rw [wWe, if_neg (by omega)]; exact hC⟩)
        · refine v_iconst d_V_weather_36 ?_
          first
          | (exact v_zreturn hM d_V_weather_37 (Or.inr rfl) ⟨rfl, by rw [wWe, if_pos (by omega)], fun k hk => vUp_ne (by omega), by rw [wWe, if_pos (by omega)]; exact CR_we hC hO (by omega) (fun k hk => vUp_ne hk) (vUp_fn _ _ _ _)⟩)
          | (exact v_zreturn hM d_V_weather_37 (Or.inl rfl) ⟨rfl, by rw [wWe, if_neg (by omega)], CW.rfl', by rw [wWe, if_neg (by omega)]; exact hC⟩)

theorem c_V_squeeze {T : vSh} {σ : vMem} {A : Int → Int} (hC : CR σ A) (hO : okA A) {v p : Int} (h0 : vIn v) (h1 : vIn p) : mt_V_squeeze [.ref 0, .int (iI v), .int (iI p)] (S0 ++ T) σ (rP (S0 ++ T) (fun z σ2 => z = (wSq A v p).2 ∧ CW σ σ2 ∧ CR σ2 (wSq A v p).1)) := by
  refine vMet.intro 0 (by decide +kernel) (Nat.le_of_ble_eq_true rfl) rfl (fun cx hM _ => ?_)
  obtain ⟨⟨q0, q1, q2, q3, q4, q5, q6, q7⟩, hVi, hWe, hCo, hOf, hBo, hWo, hMo, hRe, hLi, hTa⟩ := id hO
  obtain ⟨⟨l0, l1, lV, lC, lZ, lS⟩, ⟨b0, b1, bO, bB⟩, ⟨w0, wR, wL⟩, ⟨t0, t1, t2, tR, tB⟩, ⟨n9, nW⟩, m0, mM⟩ := id hC
  refine v_aload0 d_V_squeeze_0 ?_
  refine v_iload1 d_V_squeeze_1 ?_
  refine v_fVZ1 d_V_squeeze_2 l_V_107 k_V_isVillage (c_V_isVillage hC hO (by omega)) (sh_0 T) rfl (by decide) (by decide) (Nat.le_of_ble_eq_true rfl) (Nat.zero_le _) (Nat.zero_le _) (fun g2 => ?_)
  refine v_ifb_eq d_V_squeeze_5 (fun u5 => ?_) (fun u5 => ?_)
  · refine v_iconst d_V_squeeze_20 ?_
    first
    | (exact v_zreturn hM d_V_squeeze_21 (Or.inr rfl) ⟨rfl, by rw [wSq, if_pos (by omega)], fun k hk => vUp_ne (by omega), by rw [wSq, if_pos (by omega)]; exact CR_sq hC hO (by omega) (fun k hk => vUp_ne hk) (vUp_fn _ _ _ _)⟩)
    | (exact v_zreturn hM d_V_squeeze_21 (Or.inl rfl) ⟨rfl, by rw [wSq, if_neg (by omega)], CW.rfl', by rw [wSq, if_neg (by omega)]; exact hC⟩)
  · refine v_iload2 d_V_squeeze_8 ?_
    refine v_bipush d_V_squeeze_9 rfl ?_
    refine v_sipush d_V_squeeze_11 rfl ?_
    refine v_fSZ3 d_V_squeeze_14 l_V_82 k_V_isWithin (c_V_isWithin (by omega) (by omega) (by omega)) (by decide) (by decide) (Nat.le_of_ble_eq_true rfl) (Nat.zero_le _) (Nat.zero_le _) (fun g14 => ?_)
    refine v_ifb_ne d_V_squeeze_17 (fun u17 => ?_) (fun u17 => ?_)
    · refine v_aload0 d_V_squeeze_22 ?_
      refine v_getR d_V_squeeze_23 f_V_66 (sh_0 T) rfl ?_
      refine v_getR d_V_squeeze_26 f_V_110 (sh_2 T) rfl ?_
      refine v_iload1 d_V_squeeze_29 ?_
      refine v_iload2 d_V_squeeze_30 ?_
      refine v_iastore d_V_squeeze_31 (sh_7 T) (by omega) (by omega) ?_
      refine v_iconst d_V_squeeze_32 ?_
      first
      | (exact v_zreturn hM d_V_squeeze_33 (Or.inr rfl) ⟨rfl, by rw [wSq, if_pos (by omega)], fun k hk => vUp_ne (by omega), by rw [wSq, if_pos (by omega)]; exact CR_sq hC hO (by omega) (fun k hk => vUp_ne hk) (vUp_fn _ _ _ _)⟩)
      | (exact v_zreturn hM d_V_squeeze_33 (Or.inl rfl) ⟨rfl, by rw [wSq, if_neg (by omega)], CW.rfl', by rw [wSq, if_neg (by omega)]; exact hC⟩)
    · refine v_iconst d_V_squeeze_20 ?_
      first
      | (exact v_zreturn hM d_V_squeeze_21 (Or.inr rfl) ⟨rfl, by rw [wSq, if_pos (by omega)], fun k hk => vUp_ne (by omega), by rw [wSq, if_pos (by omega)]; exact CR_sq hC hO (by omega) (fun k hk => vUp_ne hk) (vUp_fn _ _ _ _)⟩)
      | (exact v_zreturn hM d_V_squeeze_21 (Or.inl rfl) ⟨rfl, by rw [wSq, if_neg (by omega)], CW.rfl', by rw [wSq, if_neg (by omega)]; exact hC⟩)

theorem c_V_dies {T : vSh} {σ : vMem} {A : Int → Int} (hC : CR σ A) (hO : okA A) {oo : Int} (h0 : vIn oo) : mt_V_dies [.ref 0, .int (iI oo)] (S0 ++ T) σ (rP (S0 ++ T) (fun z σ2 => z = (wDi A oo).2 ∧ CW σ σ2 ∧ CR σ2 (wDi A oo).1)) := by
  refine vMet.intro 0 (by decide +kernel) (Nat.le_of_ble_eq_true rfl) rfl (fun cx hM _ => ?_)
  obtain ⟨⟨q0, q1, q2, q3, q4, q5, q6, q7⟩, hVi, hWe, hCo, hOf, hBo, hWo, hMo, hRe, hLi, hTa⟩ := id hO
  obtain ⟨⟨l0, l1, lV, lC, lZ, lS⟩, ⟨b0, b1, bO, bB⟩, ⟨w0, wR, wL⟩, ⟨t0, t1, t2, tR, tB⟩, ⟨n9, nW⟩, m0, mM⟩ := id hC
  refine v_aload0 d_V_dies_0 ?_
  refine v_iload1 d_V_dies_1 ?_
  refine v_fVZ1 d_V_dies_2 l_V_150 k_V_isOfficer (c_V_isOfficer hC hO (by omega)) (sh_0 T) rfl (by decide) (by decide) (Nat.le_of_ble_eq_true rfl) (Nat.zero_le _) (Nat.zero_le _) (fun g2 => ?_)
  refine v_ifb_eq d_V_dies_5 (fun u5 => ?_) (fun u5 => ?_)
  · refine v_iconst d_V_dies_23 ?_
    first
    | (exact v_zreturn hM d_V_dies_24 (Or.inr rfl) ⟨rfl, by rw [wDi, if_pos (by omega)], fun k hk => vUp_ne (by omega), by rw [wDi, if_pos (by omega)]; exact CR_di hC hO (by omega) (fun k hk => vUp_ne hk) (by rw [vUp_fn, l0])⟩)
    | (exact v_zreturn hM d_V_dies_24 (Or.inl rfl) ⟨rfl, by rw [wDi, if_neg (by omega)], CW.rfl', by rw [wDi, if_neg (by omega)]; exact hC⟩)
  · have hbo := bO oo (by omega) (by omega)
    have hof := hOf oo (by omega) (by omega)
    refine v_aload0 d_V_dies_8 ?_
    refine v_getR d_V_dies_9 f_V_71 (sh_0 T) rfl ?_
    refine v_getR d_V_dies_12 f_V_153 (sh_10 T) rfl ?_
    refine v_iload1 d_V_dies_15 ?_
    refine v_iaload d_V_dies_16 (sh_14 T) (by omega) (fun g16 => ?_)
    refine v_sipush d_V_dies_17 rfl ?_
    refine v_icmp_ge d_V_dies_20 (by omega) (by omega) (fun u20 => ?_) (fun u20 => ?_)
    · refine v_aload0 d_V_dies_25 ?_
      refine v_getR d_V_dies_26 f_V_71 (sh_0 T) rfl ?_
      refine v_getR d_V_dies_29 f_V_153 (sh_10 T) rfl ?_
      refine v_iload1 d_V_dies_32 ?_
      refine v_aload0 d_V_dies_33 ?_
      refine v_getR d_V_dies_34 f_V_66 (sh_0 T) rfl ?_
      refine v_getJ (ji := 0) d_V_dies_37 f_V_113 (sh_2 T) rfl rfl (fun g37 => ?_)
      refine v_iastore d_V_dies_40 (sh_14 T) (by omega) (by omega) ?_
      refine v_iconst d_V_dies_41 ?_
      first
      | (exact v_zreturn hM d_V_dies_42 (Or.inr rfl) ⟨rfl, by rw [wDi, if_pos (by omega)], fun k hk => vUp_ne (by omega), by rw [wDi, if_pos (by omega)]; exact CR_di hC hO (by omega) (fun k hk => vUp_ne hk) (by rw [vUp_fn, l0])⟩)
      | (exact v_zreturn hM d_V_dies_42 (Or.inl rfl) ⟨rfl, by rw [wDi, if_neg (by omega)], CW.rfl', by rw [wDi, if_neg (by omega)]; exact hC⟩)
    · refine v_iconst d_V_dies_23 ?_
      first
      | (exact v_zreturn hM d_V_dies_24 (Or.inr rfl) ⟨rfl, by rw [wDi, if_pos (by omega)], fun k hk => vUp_ne (by omega), by rw [wDi, if_pos (by omega)]; exact CR_di hC hO (by omega) (fun k hk => vUp_ne hk) (by rw [vUp_fn, l0])⟩)
      | (exact v_zreturn hM d_V_dies_24 (Or.inl rfl) ⟨rfl, by rw [wDi, if_neg (by omega)], CW.rfl', by rw [wDi, if_neg (by omega)]; exact hC⟩)

theorem c_La_settle {T : vSh} {σ : vMem} {A : Int → Int} (hC : CR σ A) (hO : okA A) {p x y : Int} (h0 : vIn p) (h1 : vIn x) (h2 : vIn y) (hn : A 0 < 12) : mt_La_settle [.ref 2, .int (iI p), .int (iI x), .int (iI y)] (S0 ++ T) σ (rP (S0 ++ T) (fun z σ2 => z = A 0 ∧ CW σ σ2 ∧ CR σ2 (viA A p x y))) := by
  refine vMet.intro 1 (by decide +kernel) (Nat.le_of_ble_eq_true rfl) rfl (fun cx hM _ => ?_)
  obtain ⟨⟨q0, q1, q2, q3, q4, q5, q6, q7⟩, hVi, hWe, hCo, hOf, hBo, hWo, hMo, hRe, hLi, hTa⟩ := id hO
  obtain ⟨⟨l0, l1, lV, lC, lZ, lS⟩, ⟨b0, b1, bO, bB⟩, ⟨w0, wR, wL⟩, ⟨t0, t1, t2, tR, tB⟩, ⟨n9, nW⟩, m0, mM⟩ := id hC
  refine v_aload0 d_La_settle_0 ?_
  refine v_getJ (ji := 1) d_La_settle_1 f_La_39 (sh_2 T) rfl rfl (fun g1 => ?_)
  refine v_istore4 d_La_settle_4 (by decide) rfl ?_
  refine v_aload0 d_La_settle_6 ?_
  refine v_getR d_La_settle_7 f_La_9 (sh_2 T) rfl ?_
  refine v_iload4 d_La_settle_10 ?_
  refine v_iload1 d_La_settle_12 ?_
  refine v_iastore d_La_settle_13 (sh_3 T) (by omega) (by omega) ?_
  refine v_aload0 d_La_settle_14 ?_
  refine v_getR d_La_settle_15 f_La_15 (sh_2 T) rfl ?_
  refine v_iload4 d_La_settle_18 ?_
  refine v_iload2 d_La_settle_20 ?_
  refine v_iastore d_La_settle_21 (sh_4 T) (by omega) (by omega) ?_
  refine v_aload0 d_La_settle_22 ?_
  refine v_getR d_La_settle_23 f_La_18 (sh_2 T) rfl ?_
  refine v_iload4 d_La_settle_26 ?_
  refine v_iload3 d_La_settle_28 ?_
  refine v_iastore d_La_settle_29 (sh_5 T) (by omega) (by omega) ?_
  refine v_aload0 d_La_settle_30 ?_
  refine v_getR d_La_settle_31 f_La_21 (sh_2 T) rfl ?_
  refine v_iload4 d_La_settle_34 ?_
  refine v_bipush d_La_settle_36 rfl ?_
  refine v_iastore d_La_settle_38 (sh_6 T) (by omega) (by omega) ?_
  refine v_aload0 d_La_settle_39 ?_
  refine v_getR d_La_settle_40 f_La_24 (sh_2 T) rfl ?_
  refine v_iload4 d_La_settle_43 ?_
  refine v_bipush d_La_settle_45 rfl ?_
  refine v_iastore d_La_settle_47 (sh_7 T) (by omega) (by omega) ?_
  refine v_aload0 d_La_settle_48 ?_
  refine v_dup d_La_settle_49 rfl ?_
  refine v_getJ (ji := 1) d_La_settle_50 f_La_39 (sh_2 T) rfl rfl (fun g50 => ?_)
  have r9 : (vUp (vUp (vUp (vUp (vUp σ 3 (σ 2 1) p) 4 (σ 2 1) x) 5 (σ 2 1) y) 6 (σ 2 1) 100) 7 (σ 2 1) 100) 2 1 = σ 2 1 := by rw [vUp_ne (by decide), vUp_ne (by decide), vUp_ne (by decide), vUp_ne (by decide), vUp_ne (by decide)]
  rw [r9]
  refine v_iconst d_La_settle_53 ?_
  refine v_iadd d_La_settle_54 ?_
  refine v_putJ (ji := 1) d_La_settle_55 p_La_39 (sh_2 T) rfl rfl (by omega) ?_
  refine v_iload4 d_La_settle_58 ?_
  exact v_ireturn hM d_La_settle_60 (by omega) ⟨rfl, by omega, fun k hk => by rw [vUp_ne (by omega), vUp_ne (by omega), vUp_ne (by omega), vUp_ne (by omega), vUp_ne (by omega), vUp_ne (by omega)], CR_vi hC hO hn (fun k hk => by rw [vUp_ne (by omega), vUp_ne (by omega), vUp_ne (by omega), vUp_ne (by omega), vUp_ne (by omega), vUp_ne (by omega)]) (by rw [vUp_ix (by decide), vUp_ne (by decide), vUp_ne (by decide), vUp_ne (by decide), vUp_ne (by decide), vUp_ne (by decide)]) (by rw [vUp_same, l1]) (by rw [vUp_ne (by decide), vUp_ne (by decide), vUp_ne (by decide), vUp_ne (by decide), vUp_ne (by decide), vUp_fn, l1]) (by rw [vUp_ne (by decide), vUp_ne (by decide), vUp_ne (by decide), vUp_ne (by decide), vUp_fn, vUp_ne (by decide), l1]) (by rw [vUp_ne (by decide), vUp_ne (by decide), vUp_ne (by decide), vUp_fn, vUp_ne (by decide), vUp_ne (by decide), l1]) (by rw [vUp_ne (by decide), vUp_ne (by decide), vUp_fn, vUp_ne (by decide), vUp_ne (by decide), vUp_ne (by decide), l1]) (by rw [vUp_ne (by decide), vUp_fn, vUp_ne (by decide), vUp_ne (by decide), vUp_ne (by decide), vUp_ne (by decide), l1])⟩

theorem c_Bo_enlist {T : vSh} {σ : vMem} {A : Int → Int} (hC : CR σ A) (hO : okA A) {r k t : Int} (h0 : vIn r) (h1 : vIn k) (h2 : t = A 4) (hn : A 1 < 10) : mt_Bo_enlist [.ref 10, .int (iI r), .int (iI k), .int (iI t)] (S0 ++ T) σ (rP (S0 ++ T) (fun z σ2 => z = A 1 ∧ CW σ σ2 ∧ CR σ2 (ofA A r k))) := by
  refine vMet.intro 1 (by decide +kernel) (Nat.le_of_ble_eq_true rfl) rfl (fun cx hM _ => ?_)
  obtain ⟨⟨q0, q1, q2, q3, q4, q5, q6, q7⟩, hVi, hWe, hCo, hOf, hBo, hWo, hMo, hRe, hLi, hTa⟩ := id hO
  obtain ⟨⟨l0, l1, lV, lC, lZ, lS⟩, ⟨b0, b1, bO, bB⟩, ⟨w0, wR, wL⟩, ⟨t0, t1, t2, tR, tB⟩, ⟨n9, nW⟩, m0, mM⟩ := id hC
  subst h2
  refine v_aload0 d_Bo_enlist_0 ?_
  refine v_getJ (ji := 0) d_Bo_enlist_1 f_Bo_39 (sh_10 T) rfl rfl (fun g1 => ?_)
  refine v_istore4 d_Bo_enlist_4 (by decide) rfl ?_
  refine v_aload0 d_Bo_enlist_6 ?_
  refine v_getR d_Bo_enlist_7 f_Bo_9 (sh_10 T) rfl ?_
  refine v_iload4 d_Bo_enlist_10 ?_
  refine v_iload1 d_Bo_enlist_12 ?_
  refine v_iastore d_Bo_enlist_13 (sh_11 T) (by omega) (by omega) ?_
  refine v_aload0 d_Bo_enlist_14 ?_
  refine v_getR d_Bo_enlist_15 f_Bo_15 (sh_10 T) rfl ?_
  refine v_iload4 d_Bo_enlist_18 ?_
  refine v_iload2 d_Bo_enlist_20 ?_
  refine v_iastore d_Bo_enlist_21 (sh_12 T) (by omega) (by omega) ?_
  refine v_aload0 d_Bo_enlist_22 ?_
  refine v_getR d_Bo_enlist_23 f_Bo_18 (sh_10 T) rfl ?_
  refine v_iload4 d_Bo_enlist_26 ?_
  refine v_iload3 d_Bo_enlist_28 ?_
  refine v_iastore d_Bo_enlist_29 (sh_13 T) (by omega) (by omega) ?_
  refine v_aload0 d_Bo_enlist_30 ?_
  refine v_getR d_Bo_enlist_31 f_Bo_21 (sh_10 T) rfl ?_
  refine v_iload4 d_Bo_enlist_34 ?_
  refine v_sipush d_Bo_enlist_36 rfl ?_
  refine v_iastore d_Bo_enlist_39 (sh_14 T) (by omega) (by omega) ?_
  refine v_aload0 d_Bo_enlist_40 ?_
  refine v_dup d_Bo_enlist_41 rfl ?_
  refine v_getJ (ji := 0) d_Bo_enlist_42 f_Bo_39 (sh_10 T) rfl rfl (fun g42 => ?_)
  have r9 : (vUp (vUp (vUp (vUp σ 11 (σ 10 0) r) 12 (σ 10 0) k) 13 (σ 10 0) (A 4)) 14 (σ 10 0) 1200) 10 0 = σ 10 0 := by rw [vUp_ne (by decide), vUp_ne (by decide), vUp_ne (by decide), vUp_ne (by decide)]
  rw [r9]
  refine v_iconst d_Bo_enlist_45 ?_
  refine v_iadd d_Bo_enlist_46 ?_
  refine v_putJ (ji := 0) d_Bo_enlist_47 p_Bo_39 (sh_10 T) rfl rfl (by omega) ?_
  refine v_iload4 d_Bo_enlist_50 ?_
  exact v_ireturn hM d_Bo_enlist_52 (by omega) ⟨rfl, by omega, fun k hk => by rw [vUp_ne (by omega), vUp_ne (by omega), vUp_ne (by omega), vUp_ne (by omega), vUp_ne (by omega)], CR_of hC hO hn (fun k hk => by rw [vUp_ne (by omega), vUp_ne (by omega), vUp_ne (by omega), vUp_ne (by omega), vUp_ne (by omega)]) (by rw [vUp_same, b0]) (by rw [vUp_ix (by decide), vUp_ne (by decide), vUp_ne (by decide), vUp_ne (by decide), vUp_ne (by decide)]) (by rw [vUp_ne (by decide), vUp_ne (by decide), vUp_ne (by decide), vUp_ne (by decide), vUp_fn, b0]) (by rw [vUp_ne (by decide), vUp_ne (by decide), vUp_ne (by decide), vUp_fn, vUp_ne (by decide), b0]) (by rw [vUp_ne (by decide), vUp_ne (by decide), vUp_fn, vUp_ne (by decide), vUp_ne (by decide), b0]) (by rw [vUp_ne (by decide), vUp_fn, vUp_ne (by decide), vUp_ne (by decide), vUp_ne (by decide), b0])⟩

theorem c_Bo_write {T : vSh} {σ : vMem} {A : Int → Int} (hC : CR σ A) (hO : okA A) {kind what oo from' t : Int} (h0 : vIn kind) (h1 : vIn what) (h2 : vIn oo) (h3 : vIn from') (h4 : t = A 4) (hn : A 2 < 100) : mt_Bo_write [.ref 10, .int (iI kind), .int (iI what), .int (iI oo), .int (iI from'), .int (iI t)] (S0 ++ T) σ (rP (S0 ++ T) (fun z σ2 => z = A 2 ∧ CW σ σ2 ∧ CR σ2 (orA A kind what oo from'))) := by
  refine vMet.intro 1 (by decide +kernel) (Nat.le_of_ble_eq_true rfl) rfl (fun cx hM _ => ?_)
  obtain ⟨⟨q0, q1, q2, q3, q4, q5, q6, q7⟩, hVi, hWe, hCo, hOf, hBo, hWo, hMo, hRe, hLi, hTa⟩ := id hO
  obtain ⟨⟨l0, l1, lV, lC, lZ, lS⟩, ⟨b0, b1, bO, bB⟩, ⟨w0, wR, wL⟩, ⟨t0, t1, t2, tR, tB⟩, ⟨n9, nW⟩, m0, mM⟩ := id hC
  subst h4
  refine v_aload0 d_Bo_write_0 ?_
  refine v_getJ (ji := 5) d_Bo_write_1 f_Bo_43 (sh_10 T) rfl rfl (fun g1 => ?_)
  refine v_istore6 d_Bo_write_4 (by decide) rfl ?_
  refine v_aload0 d_Bo_write_6 ?_
  refine v_getR d_Bo_write_7 f_Bo_24 (sh_10 T) rfl ?_
  refine v_iload6 d_Bo_write_10 ?_
  refine v_iload1 d_Bo_write_12 ?_
  refine v_iastore d_Bo_write_13 (sh_15 T) (by omega) (by omega) ?_
  refine v_aload0 d_Bo_write_14 ?_
  refine v_getR d_Bo_write_15 f_Bo_27 (sh_10 T) rfl ?_
  refine v_iload6 d_Bo_write_18 ?_
  refine v_iload2 d_Bo_write_20 ?_
  refine v_iastore d_Bo_write_21 (sh_16 T) (by omega) (by omega) ?_
  refine v_aload0 d_Bo_write_22 ?_
  refine v_getR d_Bo_write_23 f_Bo_30 (sh_10 T) rfl ?_
  refine v_iload6 d_Bo_write_26 ?_
  refine v_iload3 d_Bo_write_28 ?_
  refine v_iastore d_Bo_write_29 (sh_17 T) (by omega) (by omega) ?_
  refine v_aload0 d_Bo_write_30 ?_
  refine v_getR d_Bo_write_31 f_Bo_33 (sh_10 T) rfl ?_
  refine v_iload6 d_Bo_write_34 ?_
  refine v_iload4 d_Bo_write_36 ?_
  refine v_iastore d_Bo_write_38 (sh_18 T) (by omega) (by omega) ?_
  refine v_aload0 d_Bo_write_39 ?_
  refine v_getR d_Bo_write_40 f_Bo_36 (sh_10 T) rfl ?_
  refine v_iload6 d_Bo_write_43 ?_
  refine v_iload5 d_Bo_write_45 ?_
  refine v_iastore d_Bo_write_47 (sh_19 T) (by omega) (by omega) ?_
  refine v_aload0 d_Bo_write_48 ?_
  refine v_dup d_Bo_write_49 rfl ?_
  refine v_getJ (ji := 5) d_Bo_write_50 f_Bo_43 (sh_10 T) rfl rfl (fun g50 => ?_)
  have r9 : (vUp (vUp (vUp (vUp (vUp σ 15 (σ 10 5) kind) 16 (σ 10 5) what) 17 (σ 10 5) oo) 18 (σ 10 5) from') 19 (σ 10 5) (A 4)) 10 5 = σ 10 5 := by rw [vUp_ne (by decide), vUp_ne (by decide), vUp_ne (by decide), vUp_ne (by decide), vUp_ne (by decide)]
  rw [r9]
  refine v_iconst d_Bo_write_53 ?_
  refine v_iadd d_Bo_write_54 ?_
  refine v_putJ (ji := 5) d_Bo_write_55 p_Bo_43 (sh_10 T) rfl rfl (by omega) ?_
  refine v_iload6 d_Bo_write_58 ?_
  exact v_ireturn hM d_Bo_write_60 (by omega) ⟨rfl, by omega, fun k hk => by rw [vUp_ne (by omega), vUp_ne (by omega), vUp_ne (by omega), vUp_ne (by omega), vUp_ne (by omega), vUp_ne (by omega)], CR_or hC hO hn (fun k hk => by rw [vUp_ne (by omega), vUp_ne (by omega), vUp_ne (by omega), vUp_ne (by omega), vUp_ne (by omega), vUp_ne (by omega)]) (by rw [vUp_ix (by decide), vUp_ne (by decide), vUp_ne (by decide), vUp_ne (by decide), vUp_ne (by decide), vUp_ne (by decide)]) (by rw [vUp_same, b1]) (by rw [vUp_ne (by decide), vUp_ne (by decide), vUp_ne (by decide), vUp_ne (by decide), vUp_ne (by decide), vUp_fn, b1]) (by rw [vUp_ne (by decide), vUp_ne (by decide), vUp_ne (by decide), vUp_ne (by decide), vUp_fn, vUp_ne (by decide), b1]) (by rw [vUp_ne (by decide), vUp_ne (by decide), vUp_ne (by decide), vUp_fn, vUp_ne (by decide), vUp_ne (by decide), b1]) (by rw [vUp_ne (by decide), vUp_ne (by decide), vUp_fn, vUp_ne (by decide), vUp_ne (by decide), vUp_ne (by decide), b1]) (by rw [vUp_ne (by decide), vUp_fn, vUp_ne (by decide), vUp_ne (by decide), vUp_ne (by decide), vUp_ne (by decide), b1])⟩

theorem c_Mo_plan {T : vSh} {σ : vMem} {A : Int → Int} (hC : CR σ A) (hO : okA A) {oo v : Int} (h0 : vIn oo) (h1 : vIn v) (hn : A 5 < 12) : mt_Mo_plan [.ref 38, .int (iI oo), .int (iI v)] (S0 ++ T) σ (rP (S0 ++ T) (fun z σ2 => z = A 5 ∧ CW σ σ2 ∧ CR σ2 (moA A oo v))) := by
  refine vMet.intro 1 (by decide +kernel) (Nat.le_of_ble_eq_true rfl) rfl (fun cx hM _ => ?_)
  obtain ⟨⟨q0, q1, q2, q3, q4, q5, q6, q7⟩, hVi, hWe, hCo, hOf, hBo, hWo, hMo, hRe, hLi, hTa⟩ := id hO
  obtain ⟨⟨l0, l1, lV, lC, lZ, lS⟩, ⟨b0, b1, bO, bB⟩, ⟨w0, wR, wL⟩, ⟨t0, t1, t2, tR, tB⟩, ⟨n9, nW⟩, m0, mM⟩ := id hC
  refine v_aload0 d_Mo_plan_0 ?_
  refine v_getJ (ji := 0) d_Mo_plan_1 f_Mo_28 (sh_38 T) rfl rfl (fun g1 => ?_)
  refine v_istore3 d_Mo_plan_4 (by decide) rfl ?_
  refine v_aload0 d_Mo_plan_5 ?_
  refine v_getR d_Mo_plan_6 f_Mo_9 (sh_38 T) rfl ?_
  refine v_iload3 d_Mo_plan_9 ?_
  refine v_iload1 d_Mo_plan_10 ?_
  refine v_iastore d_Mo_plan_11 (sh_39 T) (by omega) (by omega) ?_
  refine v_aload0 d_Mo_plan_12 ?_
  refine v_getR d_Mo_plan_13 f_Mo_15 (sh_38 T) rfl ?_
  refine v_iload3 d_Mo_plan_16 ?_
  refine v_iload2 d_Mo_plan_17 ?_
  refine v_iastore d_Mo_plan_18 (sh_40 T) (by omega) (by omega) ?_
  refine v_aload0 d_Mo_plan_19 ?_
  refine v_dup d_Mo_plan_20 rfl ?_
  refine v_getJ (ji := 0) d_Mo_plan_21 f_Mo_28 (sh_38 T) rfl rfl (fun g21 => ?_)
  have r9 : (vUp (vUp σ 39 (σ 38 0) oo) 40 (σ 38 0) v) 38 0 = σ 38 0 := by rw [vUp_ne (by decide), vUp_ne (by decide)]
  rw [r9]
  refine v_iconst d_Mo_plan_24 ?_
  refine v_iadd d_Mo_plan_25 ?_
  refine v_putJ (ji := 0) d_Mo_plan_26 p_Mo_28 (sh_38 T) rfl rfl (by omega) ?_
  refine v_iload3 d_Mo_plan_29 ?_
  exact v_ireturn hM d_Mo_plan_30 (by omega) ⟨rfl, by omega, fun k hk => by rw [vUp_ne (by omega), vUp_ne (by omega), vUp_ne (by omega)], CR_mo hC hO hn (fun k hk => by rw [vUp_ne (by omega), vUp_ne (by omega), vUp_ne (by omega)]) (by rw [vUp_same, m0]) (by rw [vUp_ne (by decide), vUp_ne (by decide), vUp_fn, m0]) (by rw [vUp_ne (by decide), vUp_fn, vUp_ne (by decide), m0])⟩

theorem c_Ne_write {T : vSh} {σ : vMem} {A : Int → Int} (hC : CR σ A) (hO : okA A) {w v s c t : Int} (h0 : vIn w) (h1 : vIn v) (h2 : vIn s) (h3 : vIn c) (h4 : t = A 4) (hn : A 6 < 100) : mt_Ne_write [.ref 32, .int (iI w), .int (iI v), .int (iI s), .int (iI c), .int (iI t)] (S0 ++ T) σ (rP (S0 ++ T) (fun z σ2 => z = A 6 ∧ CW σ σ2 ∧ CR σ2 (saA A w v s c))) := by
  refine vMet.intro 1 (by decide +kernel) (Nat.le_of_ble_eq_true rfl) rfl (fun cx hM _ => ?_)
  obtain ⟨⟨q0, q1, q2, q3, q4, q5, q6, q7⟩, hVi, hWe, hCo, hOf, hBo, hWo, hMo, hRe, hLi, hTa⟩ := id hO
  obtain ⟨⟨l0, l1, lV, lC, lZ, lS⟩, ⟨b0, b1, bO, bB⟩, ⟨w0, wR, wL⟩, ⟨t0, t1, t2, tR, tB⟩, ⟨n9, nW⟩, m0, mM⟩ := id hC
  subst h4
  refine v_aload0 d_Ne_write_0 ?_
  refine v_getJ (ji := 1) d_Ne_write_1 f_Ne_31 (sh_32 T) rfl rfl (fun g1 => ?_)
  refine v_istore6 d_Ne_write_4 (by decide) rfl ?_
  refine v_aload0 d_Ne_write_6 ?_
  refine v_getR d_Ne_write_7 f_Ne_9 (sh_32 T) rfl ?_
  refine v_iload6 d_Ne_write_10 ?_
  refine v_iload1 d_Ne_write_12 ?_
  refine v_iastore d_Ne_write_13 (sh_33 T) (by omega) (by omega) ?_
  refine v_aload0 d_Ne_write_14 ?_
  refine v_getR d_Ne_write_15 f_Ne_15 (sh_32 T) rfl ?_
  refine v_iload6 d_Ne_write_18 ?_
  refine v_iload2 d_Ne_write_20 ?_
  refine v_iastore d_Ne_write_21 (sh_34 T) (by omega) (by omega) ?_
  refine v_aload0 d_Ne_write_22 ?_
  refine v_getR d_Ne_write_23 f_Ne_18 (sh_32 T) rfl ?_
  refine v_iload6 d_Ne_write_26 ?_
  refine v_iload3 d_Ne_write_28 ?_
  refine v_iastore d_Ne_write_29 (sh_35 T) (by omega) (by omega) ?_
  refine v_aload0 d_Ne_write_30 ?_
  refine v_getR d_Ne_write_31 f_Ne_21 (sh_32 T) rfl ?_
  refine v_iload6 d_Ne_write_34 ?_
  refine v_iload4 d_Ne_write_36 ?_
  refine v_iastore d_Ne_write_38 (sh_36 T) (by omega) (by omega) ?_
  refine v_aload0 d_Ne_write_39 ?_
  refine v_getR d_Ne_write_40 f_Ne_24 (sh_32 T) rfl ?_
  refine v_iload6 d_Ne_write_43 ?_
  refine v_iload5 d_Ne_write_45 ?_
  refine v_iastore d_Ne_write_47 (sh_37 T) (by omega) (by omega) ?_
  refine v_aload0 d_Ne_write_48 ?_
  refine v_dup d_Ne_write_49 rfl ?_
  refine v_getJ (ji := 1) d_Ne_write_50 f_Ne_31 (sh_32 T) rfl rfl (fun g50 => ?_)
  have r9 : (vUp (vUp (vUp (vUp (vUp σ 33 (σ 32 1) w) 34 (σ 32 1) v) 35 (σ 32 1) s) 36 (σ 32 1) c) 37 (σ 32 1) (A 4)) 32 1 = σ 32 1 := by rw [vUp_ne (by decide), vUp_ne (by decide), vUp_ne (by decide), vUp_ne (by decide), vUp_ne (by decide)]
  rw [r9]
  refine v_iconst d_Ne_write_53 ?_
  refine v_iadd d_Ne_write_54 ?_
  refine v_putJ (ji := 1) d_Ne_write_55 p_Ne_31 (sh_32 T) rfl rfl (by omega) ?_
  refine v_iload6 d_Ne_write_58 ?_
  exact v_ireturn hM d_Ne_write_60 (by omega) ⟨rfl, by omega, fun k hk => by rw [vUp_ne (by omega), vUp_ne (by omega), vUp_ne (by omega), vUp_ne (by omega), vUp_ne (by omega), vUp_ne (by omega)], CR_sa hC hO hn (fun k hk => by rw [vUp_ne (by omega), vUp_ne (by omega), vUp_ne (by omega), vUp_ne (by omega), vUp_ne (by omega), vUp_ne (by omega)]) (by rw [vUp_same, n9]) (by rw [vUp_ne (by decide), vUp_ne (by decide), vUp_ne (by decide), vUp_ne (by decide), vUp_ne (by decide), vUp_fn, n9]) (by rw [vUp_ne (by decide), vUp_ne (by decide), vUp_ne (by decide), vUp_ne (by decide), vUp_fn, vUp_ne (by decide), n9]) (by rw [vUp_ne (by decide), vUp_ne (by decide), vUp_ne (by decide), vUp_fn, vUp_ne (by decide), vUp_ne (by decide), n9]) (by rw [vUp_ne (by decide), vUp_ne (by decide), vUp_fn, vUp_ne (by decide), vUp_ne (by decide), vUp_ne (by decide), n9]) (by rw [vUp_ne (by decide), vUp_fn, vUp_ne (by decide), vUp_ne (by decide), vUp_ne (by decide), vUp_ne (by decide), n9])⟩

theorem c_V_village {T : vSh} {σ : vMem} {A : Int → Int} (hC : CR σ A) (hO : okA A) {p x y : Int} (h0 : vIn p) (h1 : vIn x) (h2 : vIn y) : mt_V_village [.ref 0, .int (iI p), .int (iI x), .int (iI y)] (S0 ++ T) σ (rP (S0 ++ T) (fun z σ2 => z = (wVi A p x y).2 ∧ CW σ σ2 ∧ CR σ2 (wVi A p x y).1)) := by
  refine vMet.intro 1 (by decide +kernel) (Nat.le_of_ble_eq_true rfl) rfl (fun cx hM _ => ?_)
  obtain ⟨⟨q0, q1, q2, q3, q4, q5, q6, q7⟩, hVi, hWe, hCo, hOf, hBo, hWo, hMo, hRe, hLi, hTa⟩ := id hO
  obtain ⟨⟨l0, l1, lV, lC, lZ, lS⟩, ⟨b0, b1, bO, bB⟩, ⟨w0, wR, wL⟩, ⟨t0, t1, t2, tR, tB⟩, ⟨n9, nW⟩, m0, mM⟩ := id hC
  refine v_iload1 d_V_village_0 ?_
  refine v_iconst d_V_village_1 ?_
  refine v_sipush d_V_village_2 rfl ?_
  refine v_fSZ3 d_V_village_5 l_V_82 k_V_isWithin (c_V_isWithin (by omega) (by omega) (by omega)) (by decide) (by decide) (Nat.le_of_ble_eq_true rfl) (Nat.zero_le _) (Nat.zero_le _) (fun g5 => ?_)
  refine v_ifb_eq d_V_village_8 (fun u8 => ?_) (fun u8 => ?_)
  · refine v_iconst d_V_village_35 ?_
    refine v_istore4 d_V_village_36 (by decide) rfl ?_
    refine v_iload4 d_V_village_38 ?_
    refine v_if_eq d_V_village_40 (by omega) (fun u40 => ?_) (fun u40 => ?_)
    · refine v_iconst d_V_village_55 ?_
      first
      | (exact v_ireturn hM d_V_village_56 (by omega) ⟨rfl, by rw [wVi, if_pos (by omega)]; exact e64.1, e64.2.1, by rw [wVi, if_pos (by omega)]; exact e64.2.2⟩)
      | (exact v_ireturn hM d_V_village_56 (by omega) ⟨rfl, by rw [wVi, if_neg (by omega)], CW.rfl', by rw [wVi, if_neg (by omega)]; exact hC⟩)
    · omega
  · refine v_iload2 d_V_village_11 ?_
    refine v_iconst d_V_village_12 ?_
    refine v_bipush d_V_village_13 rfl ?_
    refine v_fSZ3 d_V_village_15 l_V_82 k_V_isWithin (c_V_isWithin (by omega) (by omega) (by omega)) (by decide) (by decide) (Nat.le_of_ble_eq_true rfl) (Nat.zero_le _) (Nat.zero_le _) (fun g15 => ?_)
    refine v_ifb_eq d_V_village_18 (fun u18 => ?_) (fun u18 => ?_)
    · refine v_iconst d_V_village_35 ?_
      refine v_istore4 d_V_village_36 (by decide) rfl ?_
      refine v_iload4 d_V_village_38 ?_
      refine v_if_eq d_V_village_40 (by omega) (fun u40 => ?_) (fun u40 => ?_)
      · refine v_iconst d_V_village_55 ?_
        first
        | (exact v_ireturn hM d_V_village_56 (by omega) ⟨rfl, by rw [wVi, if_pos (by omega)]; exact e64.1, e64.2.1, by rw [wVi, if_pos (by omega)]; exact e64.2.2⟩)
        | (exact v_ireturn hM d_V_village_56 (by omega) ⟨rfl, by rw [wVi, if_neg (by omega)], CW.rfl', by rw [wVi, if_neg (by omega)]; exact hC⟩)
      · omega
    · refine v_iload3 d_V_village_21 ?_
      refine v_iconst d_V_village_22 ?_
      refine v_bipush d_V_village_23 rfl ?_
      refine v_fSZ3 d_V_village_25 l_V_82 k_V_isWithin (c_V_isWithin (by omega) (by omega) (by omega)) (by decide) (by decide) (Nat.le_of_ble_eq_true rfl) (Nat.zero_le _) (Nat.zero_le _) (fun g25 => ?_)
      refine v_ifb_eq d_V_village_28 (fun u28 => ?_) (fun u28 => ?_)
      · refine v_iconst d_V_village_35 ?_
        refine v_istore4 d_V_village_36 (by decide) rfl ?_
        refine v_iload4 d_V_village_38 ?_
        refine v_if_eq d_V_village_40 (by omega) (fun u40 => ?_) (fun u40 => ?_)
        · refine v_iconst d_V_village_55 ?_
          first
          | (exact v_ireturn hM d_V_village_56 (by omega) ⟨rfl, by rw [wVi, if_pos (by omega)]; exact e64.1, e64.2.1, by rw [wVi, if_pos (by omega)]; exact e64.2.2⟩)
          | (exact v_ireturn hM d_V_village_56 (by omega) ⟨rfl, by rw [wVi, if_neg (by omega)], CW.rfl', by rw [wVi, if_neg (by omega)]; exact hC⟩)
        · omega
      · refine v_iconst d_V_village_31 ?_
        refine v_goto d_V_village_32 ?_
        refine v_istore4 d_V_village_36 (by decide) rfl ?_
        refine v_iload4 d_V_village_38 ?_
        refine v_if_eq d_V_village_40 (by omega) (fun u40 => ?_) (fun u40 => ?_)
        · omega
        · refine v_aload0 d_V_village_43 ?_
          refine v_getR d_V_village_44 f_V_66 (sh_0 T) rfl ?_
          refine v_getJ (ji := 1) d_V_village_47 f_V_86 (sh_2 T) rfl rfl (fun g47 => ?_)
          refine v_bipush d_V_village_50 rfl ?_
          refine v_icmp_lt d_V_village_52 (by omega) (by omega) (fun u52 => ?_) (fun u52 => ?_)
          · refine v_aload0 d_V_village_57 ?_
            refine v_getR d_V_village_58 f_V_66 (sh_0 T) rfl ?_
            refine v_iload1 d_V_village_61 ?_
            refine v_iload2 d_V_village_62 ?_
            refine v_iload3 d_V_village_63 ?_
            refine v_gVI3 d_V_village_64 l_V_92 k_La_settle (c_La_settle hC hO (by omega) (by omega) (by omega) (by omega)) (sh_2 T) rfl (by decide) (by decide) (Nat.le_of_ble_eq_true rfl) (Nat.zero_le _) (Nat.zero_le _) (fun z64 s64 g64 e64 => ?_)
            have h9 := e64.1
            first
            | (exact v_ireturn hM d_V_village_67 (by omega) ⟨rfl, by rw [wVi, if_pos (by omega)]; exact e64.1, e64.2.1, by rw [wVi, if_pos (by omega)]; exact e64.2.2⟩)
            | (exact v_ireturn hM d_V_village_67 (by omega) ⟨rfl, by rw [wVi, if_neg (by omega)], CW.rfl', by rw [wVi, if_neg (by omega)]; exact hC⟩)
          · refine v_iconst d_V_village_55 ?_
            first
            | (exact v_ireturn hM d_V_village_56 (by omega) ⟨rfl, by rw [wVi, if_pos (by omega)]; exact e64.1, e64.2.1, by rw [wVi, if_pos (by omega)]; exact e64.2.2⟩)
            | (exact v_ireturn hM d_V_village_56 (by omega) ⟨rfl, by rw [wVi, if_neg (by omega)], CW.rfl', by rw [wVi, if_neg (by omega)]; exact hC⟩)

theorem c_V_officer {T : vSh} {σ : vMem} {A : Int → Int} (hC : CR σ A) (hO : okA A) {r k : Int} (h0 : vIn r) (h1 : vIn k) : mt_V_officer [.ref 0, .int (iI r), .int (iI k)] (S0 ++ T) σ (rP (S0 ++ T) (fun z σ2 => z = (wOf A r k).2 ∧ CW σ σ2 ∧ CR σ2 (wOf A r k).1)) := by
  refine vMet.intro 1 (by decide +kernel) (Nat.le_of_ble_eq_true rfl) rfl (fun cx hM _ => ?_)
  obtain ⟨⟨q0, q1, q2, q3, q4, q5, q6, q7⟩, hVi, hWe, hCo, hOf, hBo, hWo, hMo, hRe, hLi, hTa⟩ := id hO
  obtain ⟨⟨l0, l1, lV, lC, lZ, lS⟩, ⟨b0, b1, bO, bB⟩, ⟨w0, wR, wL⟩, ⟨t0, t1, t2, tR, tB⟩, ⟨n9, nW⟩, m0, mM⟩ := id hC
  refine v_iload1 d_V_officer_0 ?_
  refine v_iconst d_V_officer_1 ?_
  refine v_bipush d_V_officer_2 rfl ?_
  refine v_fSZ3 d_V_officer_4 l_V_82 k_V_isWithin (c_V_isWithin (by omega) (by omega) (by omega)) (by decide) (by decide) (Nat.le_of_ble_eq_true rfl) (Nat.zero_le _) (Nat.zero_le _) (fun g4 => ?_)
  refine v_ifb_eq d_V_officer_7 (fun u7 => ?_) (fun u7 => ?_)
  · refine v_iconst d_V_officer_24 ?_
    refine v_istore3 d_V_officer_25 (by decide) rfl ?_
    refine v_iload3 d_V_officer_26 ?_
    refine v_if_eq d_V_officer_27 (by omega) (fun u27 => ?_) (fun u27 => ?_)
    · refine v_iconst d_V_officer_42 ?_
      first
      | (exact v_ireturn hM d_V_officer_43 (by omega) ⟨rfl, by rw [wOf, if_pos (by omega)]; exact e57.1, e57.2.1, by rw [wOf, if_pos (by omega)]; exact e57.2.2⟩)
      | (exact v_ireturn hM d_V_officer_43 (by omega) ⟨rfl, by rw [wOf, if_neg (by omega)], CW.rfl', by rw [wOf, if_neg (by omega)]; exact hC⟩)
    · omega
  · refine v_iload2 d_V_officer_10 ?_
    refine v_iconst d_V_officer_11 ?_
    refine v_bipush d_V_officer_12 rfl ?_
    refine v_fSZ3 d_V_officer_14 l_V_82 k_V_isWithin (c_V_isWithin (by omega) (by omega) (by omega)) (by decide) (by decide) (Nat.le_of_ble_eq_true rfl) (Nat.zero_le _) (Nat.zero_le _) (fun g14 => ?_)
    refine v_ifb_eq d_V_officer_17 (fun u17 => ?_) (fun u17 => ?_)
    · refine v_iconst d_V_officer_24 ?_
      refine v_istore3 d_V_officer_25 (by decide) rfl ?_
      refine v_iload3 d_V_officer_26 ?_
      refine v_if_eq d_V_officer_27 (by omega) (fun u27 => ?_) (fun u27 => ?_)
      · refine v_iconst d_V_officer_42 ?_
        first
        | (exact v_ireturn hM d_V_officer_43 (by omega) ⟨rfl, by rw [wOf, if_pos (by omega)]; exact e57.1, e57.2.1, by rw [wOf, if_pos (by omega)]; exact e57.2.2⟩)
        | (exact v_ireturn hM d_V_officer_43 (by omega) ⟨rfl, by rw [wOf, if_neg (by omega)], CW.rfl', by rw [wOf, if_neg (by omega)]; exact hC⟩)
      · omega
    · refine v_iconst d_V_officer_20 ?_
      refine v_goto d_V_officer_21 ?_
      refine v_istore3 d_V_officer_25 (by decide) rfl ?_
      refine v_iload3 d_V_officer_26 ?_
      refine v_if_eq d_V_officer_27 (by omega) (fun u27 => ?_) (fun u27 => ?_)
      · omega
      · refine v_aload0 d_V_officer_30 ?_
        refine v_getR d_V_officer_31 f_V_71 (sh_0 T) rfl ?_
        refine v_getJ (ji := 0) d_V_officer_34 f_V_142 (sh_10 T) rfl rfl (fun g34 => ?_)
        refine v_bipush d_V_officer_37 rfl ?_
        refine v_icmp_lt d_V_officer_39 (by omega) (by omega) (fun u39 => ?_) (fun u39 => ?_)
        · refine v_aload0 d_V_officer_44 ?_
          refine v_getR d_V_officer_45 f_V_71 (sh_0 T) rfl ?_
          refine v_iload1 d_V_officer_48 ?_
          refine v_iload2 d_V_officer_49 ?_
          refine v_aload0 d_V_officer_50 ?_
          refine v_getR d_V_officer_51 f_V_66 (sh_0 T) rfl ?_
          refine v_getJ (ji := 0) d_V_officer_54 f_V_113 (sh_2 T) rfl rfl (fun g54 => ?_)
          refine v_gVI3 d_V_officer_57 l_V_147 k_Bo_enlist (c_Bo_enlist hC hO (by omega) (by omega) l0 (by omega)) (sh_10 T) rfl (by decide) (by decide) (Nat.le_of_ble_eq_true rfl) (Nat.zero_le _) (Nat.zero_le _) (fun z57 s57 g57 e57 => ?_)
          have h9 := e57.1
          first
          | (exact v_ireturn hM d_V_officer_60 (by omega) ⟨rfl, by rw [wOf, if_pos (by omega)]; exact e57.1, e57.2.1, by rw [wOf, if_pos (by omega)]; exact e57.2.2⟩)
          | (exact v_ireturn hM d_V_officer_60 (by omega) ⟨rfl, by rw [wOf, if_neg (by omega)], CW.rfl', by rw [wOf, if_neg (by omega)]; exact hC⟩)
        · refine v_iconst d_V_officer_42 ?_
          first
          | (exact v_ireturn hM d_V_officer_43 (by omega) ⟨rfl, by rw [wOf, if_pos (by omega)]; exact e57.1, e57.2.1, by rw [wOf, if_pos (by omega)]; exact e57.2.2⟩)
          | (exact v_ireturn hM d_V_officer_43 (by omega) ⟨rfl, by rw [wOf, if_neg (by omega)], CW.rfl', by rw [wOf, if_neg (by omega)]; exact hC⟩)

theorem c_V_give {T : vSh} {σ : vMem} {A : Int → Int} (hC : CR σ A) (hO : okA A) {v oo dd : Int} (h0 : vIn v) (h1 : vIn oo) (h2 : vIn dd) : mt_V_give [.ref 0, .int (iI v), .int (iI oo), .int (iI dd)] (S0 ++ T) σ (rP (S0 ++ T) (fun z σ2 => z = (wGi A v oo dd).2 ∧ CW σ σ2 ∧ CR σ2 (wGi A v oo dd).1)) := by
  refine vMet.intro 1 (by decide +kernel) (Nat.le_of_ble_eq_true rfl) rfl (fun cx hM _ => ?_)
  obtain ⟨⟨q0, q1, q2, q3, q4, q5, q6, q7⟩, hVi, hWe, hCo, hOf, hBo, hWo, hMo, hRe, hLi, hTa⟩ := id hO
  obtain ⟨⟨l0, l1, lV, lC, lZ, lS⟩, ⟨b0, b1, bO, bB⟩, ⟨w0, wR, wL⟩, ⟨t0, t1, t2, tR, tB⟩, ⟨n9, nW⟩, m0, mM⟩ := id hC
  refine v_aload0 d_V_give_0 ?_
  refine v_iload1 d_V_give_1 ?_
  refine v_fVZ1 d_V_give_2 l_V_107 k_V_isVillage (c_V_isVillage hC hO (by omega)) (sh_0 T) rfl (by decide) (by decide) (Nat.le_of_ble_eq_true rfl) (Nat.zero_le _) (Nat.zero_le _) (fun g2 => ?_)
  refine v_ifb_eq d_V_give_5 (fun u5 => ?_) (fun u5 => ?_)
  · refine v_iconst d_V_give_32 ?_
    refine v_istore4 d_V_give_33 (by decide) rfl ?_
    refine v_iload4 d_V_give_35 ?_
    refine v_if_eq d_V_give_37 (by omega) (fun u37 => ?_) (fun u37 => ?_)
    · refine v_iconst d_V_give_52 ?_
      first
      | (exact v_ireturn hM d_V_give_53 (by omega) ⟨rfl, by rw [wGi, if_pos (by omega)]; exact e69.1, e69.2.1, by rw [wGi, if_pos (by omega)]; exact e69.2.2⟩)
      | (exact v_ireturn hM d_V_give_53 (by omega) ⟨rfl, by rw [wGi, if_neg (by omega)], CW.rfl', by rw [wGi, if_neg (by omega)]; exact hC⟩)
    · omega
  · refine v_iload2 d_V_give_8 ?_
    refine v_iconst d_V_give_9 ?_
    refine v_icmp_eq d_V_give_10 (by omega) (by omega) (fun u10 => ?_) (fun u10 => ?_)
    · refine v_iload3 d_V_give_21 ?_
      refine v_fSZ1 d_V_give_22 l_V_156 k_V_isDay (c_V_isDay (by omega)) (by decide) (by decide) (Nat.le_of_ble_eq_true rfl) (Nat.zero_le _) (Nat.zero_le _) (fun g22 => ?_)
      refine v_ifb_eq d_V_give_25 (fun u25 => ?_) (fun u25 => ?_)
      · refine v_iconst d_V_give_32 ?_
        refine v_istore4 d_V_give_33 (by decide) rfl ?_
        refine v_iload4 d_V_give_35 ?_
        refine v_if_eq d_V_give_37 (by omega) (fun u37 => ?_) (fun u37 => ?_)
        · refine v_iconst d_V_give_52 ?_
          first
          | (exact v_ireturn hM d_V_give_53 (by omega) ⟨rfl, by rw [wGi, if_pos (by omega)]; exact e69.1, e69.2.1, by rw [wGi, if_pos (by omega)]; exact e69.2.2⟩)
          | (exact v_ireturn hM d_V_give_53 (by omega) ⟨rfl, by rw [wGi, if_neg (by omega)], CW.rfl', by rw [wGi, if_neg (by omega)]; exact hC⟩)
        · omega
      · refine v_iconst d_V_give_28 ?_
        refine v_goto d_V_give_29 ?_
        refine v_istore4 d_V_give_33 (by decide) rfl ?_
        refine v_iload4 d_V_give_35 ?_
        refine v_if_eq d_V_give_37 (by omega) (fun u37 => ?_) (fun u37 => ?_)
        · omega
        · refine v_aload0 d_V_give_40 ?_
          refine v_getR d_V_give_41 f_V_71 (sh_0 T) rfl ?_
          refine v_getJ (ji := 5) d_V_give_44 f_V_159 (sh_10 T) rfl rfl (fun g44 => ?_)
          refine v_bipush d_V_give_47 rfl ?_
          refine v_icmp_lt d_V_give_49 (by omega) (by omega) (fun u49 => ?_) (fun u49 => ?_)
          · refine v_aload0 d_V_give_54 ?_
            refine v_getR d_V_give_55 f_V_71 (sh_0 T) rfl ?_
            refine v_iconst d_V_give_58 ?_
            refine v_iload1 d_V_give_59 ?_
            refine v_iload2 d_V_give_60 ?_
            refine v_iload3 d_V_give_61 ?_
            refine v_aload0 d_V_give_62 ?_
            refine v_getR d_V_give_63 f_V_66 (sh_0 T) rfl ?_
            refine v_getJ (ji := 0) d_V_give_66 f_V_113 (sh_2 T) rfl rfl (fun g66 => ?_)
            refine v_gVI5 d_V_give_69 l_V_162 k_Bo_write (c_Bo_write hC hO (by omega) (by omega) (by omega) (by omega) l0 (by omega)) (sh_10 T) rfl (by decide) (by decide) (Nat.le_of_ble_eq_true rfl) (Nat.zero_le _) (Nat.zero_le _) (fun z69 s69 g69 e69 => ?_)
            have h9 := e69.1
            first
            | (exact v_ireturn hM d_V_give_72 (by omega) ⟨rfl, by rw [wGi, if_pos (by omega)]; exact e69.1, e69.2.1, by rw [wGi, if_pos (by omega)]; exact e69.2.2⟩)
            | (exact v_ireturn hM d_V_give_72 (by omega) ⟨rfl, by rw [wGi, if_neg (by omega)], CW.rfl', by rw [wGi, if_neg (by omega)]; exact hC⟩)
          · refine v_iconst d_V_give_52 ?_
            first
            | (exact v_ireturn hM d_V_give_53 (by omega) ⟨rfl, by rw [wGi, if_pos (by omega)]; exact e69.1, e69.2.1, by rw [wGi, if_pos (by omega)]; exact e69.2.2⟩)
            | (exact v_ireturn hM d_V_give_53 (by omega) ⟨rfl, by rw [wGi, if_neg (by omega)], CW.rfl', by rw [wGi, if_neg (by omega)]; exact hC⟩)
    · refine v_aload0 d_V_give_13 ?_
      refine v_iload2 d_V_give_14 ?_
      refine v_fVZ1 d_V_give_15 l_V_150 k_V_isOfficer (c_V_isOfficer hC hO (by omega)) (sh_0 T) rfl (by decide) (by decide) (Nat.le_of_ble_eq_true rfl) (Nat.zero_le _) (Nat.zero_le _) (fun g15 => ?_)
      refine v_ifb_eq d_V_give_18 (fun u18 => ?_) (fun u18 => ?_)
      · refine v_iconst d_V_give_32 ?_
        refine v_istore4 d_V_give_33 (by decide) rfl ?_
        refine v_iload4 d_V_give_35 ?_
        refine v_if_eq d_V_give_37 (by omega) (fun u37 => ?_) (fun u37 => ?_)
        · refine v_iconst d_V_give_52 ?_
          first
          | (exact v_ireturn hM d_V_give_53 (by omega) ⟨rfl, by rw [wGi, if_pos (by omega)]; exact e69.1, e69.2.1, by rw [wGi, if_pos (by omega)]; exact e69.2.2⟩)
          | (exact v_ireturn hM d_V_give_53 (by omega) ⟨rfl, by rw [wGi, if_neg (by omega)], CW.rfl', by rw [wGi, if_neg (by omega)]; exact hC⟩)
        · omega
      · refine v_iload3 d_V_give_21 ?_
        refine v_fSZ1 d_V_give_22 l_V_156 k_V_isDay (c_V_isDay (by omega)) (by decide) (by decide) (Nat.le_of_ble_eq_true rfl) (Nat.zero_le _) (Nat.zero_le _) (fun g22 => ?_)
        refine v_ifb_eq d_V_give_25 (fun u25 => ?_) (fun u25 => ?_)
        · refine v_iconst d_V_give_32 ?_
          refine v_istore4 d_V_give_33 (by decide) rfl ?_
          refine v_iload4 d_V_give_35 ?_
          refine v_if_eq d_V_give_37 (by omega) (fun u37 => ?_) (fun u37 => ?_)
          · refine v_iconst d_V_give_52 ?_
            first
            | (exact v_ireturn hM d_V_give_53 (by omega) ⟨rfl, by rw [wGi, if_pos (by omega)]; exact e69.1, e69.2.1, by rw [wGi, if_pos (by omega)]; exact e69.2.2⟩)
            | (exact v_ireturn hM d_V_give_53 (by omega) ⟨rfl, by rw [wGi, if_neg (by omega)], CW.rfl', by rw [wGi, if_neg (by omega)]; exact hC⟩)
          · omega
        · refine v_iconst d_V_give_28 ?_
          refine v_goto d_V_give_29 ?_
          refine v_istore4 d_V_give_33 (by decide) rfl ?_
          refine v_iload4 d_V_give_35 ?_
          refine v_if_eq d_V_give_37 (by omega) (fun u37 => ?_) (fun u37 => ?_)
          · omega
          · refine v_aload0 d_V_give_40 ?_
            refine v_getR d_V_give_41 f_V_71 (sh_0 T) rfl ?_
            refine v_getJ (ji := 5) d_V_give_44 f_V_159 (sh_10 T) rfl rfl (fun g44 => ?_)
            refine v_bipush d_V_give_47 rfl ?_
            refine v_icmp_lt d_V_give_49 (by omega) (by omega) (fun u49 => ?_) (fun u49 => ?_)
            · refine v_aload0 d_V_give_54 ?_
              refine v_getR d_V_give_55 f_V_71 (sh_0 T) rfl ?_
              refine v_iconst d_V_give_58 ?_
              refine v_iload1 d_V_give_59 ?_
              refine v_iload2 d_V_give_60 ?_
              refine v_iload3 d_V_give_61 ?_
              refine v_aload0 d_V_give_62 ?_
              refine v_getR d_V_give_63 f_V_66 (sh_0 T) rfl ?_
              refine v_getJ (ji := 0) d_V_give_66 f_V_113 (sh_2 T) rfl rfl (fun g66 => ?_)
              refine v_gVI5 d_V_give_69 l_V_162 k_Bo_write (c_Bo_write hC hO (by omega) (by omega) (by omega) (by omega) l0 (by omega)) (sh_10 T) rfl (by decide) (by decide) (Nat.le_of_ble_eq_true rfl) (Nat.zero_le _) (Nat.zero_le _) (fun z69 s69 g69 e69 => ?_)
              have h9 := e69.1
              first
              | (exact v_ireturn hM d_V_give_72 (by omega) ⟨rfl, by rw [wGi, if_pos (by omega)]; exact e69.1, e69.2.1, by rw [wGi, if_pos (by omega)]; exact e69.2.2⟩)
              | (exact v_ireturn hM d_V_give_72 (by omega) ⟨rfl, by rw [wGi, if_neg (by omega)], CW.rfl', by rw [wGi, if_neg (by omega)]; exact hC⟩)
            · refine v_iconst d_V_give_52 ?_
              first
              | (exact v_ireturn hM d_V_give_53 (by omega) ⟨rfl, by rw [wGi, if_pos (by omega)]; exact e69.1, e69.2.1, by rw [wGi, if_pos (by omega)]; exact e69.2.2⟩)
              | (exact v_ireturn hM d_V_give_53 (by omega) ⟨rfl, by rw [wGi, if_neg (by omega)], CW.rfl', by rw [wGi, if_neg (by omega)]; exact hC⟩)

theorem c_V_raise {T : vSh} {σ : vMem} {A : Int → Int} (hC : CR σ A) (hO : okA A) {oo r dd : Int} (h0 : vIn oo) (h1 : vIn r) (h2 : vIn dd) : mt_V_raise [.ref 0, .int (iI oo), .int (iI r), .int (iI dd)] (S0 ++ T) σ (rP (S0 ++ T) (fun z σ2 => z = (wRa A oo r dd).2 ∧ CW σ σ2 ∧ CR σ2 (wRa A oo r dd).1)) := by
  refine vMet.intro 1 (by decide +kernel) (Nat.le_of_ble_eq_true rfl) rfl (fun cx hM _ => ?_)
  obtain ⟨⟨q0, q1, q2, q3, q4, q5, q6, q7⟩, hVi, hWe, hCo, hOf, hBo, hWo, hMo, hRe, hLi, hTa⟩ := id hO
  obtain ⟨⟨l0, l1, lV, lC, lZ, lS⟩, ⟨b0, b1, bO, bB⟩, ⟨w0, wR, wL⟩, ⟨t0, t1, t2, tR, tB⟩, ⟨n9, nW⟩, m0, mM⟩ := id hC
  refine v_aload0 d_V_raise_0 ?_
  refine v_iload1 d_V_raise_1 ?_
  refine v_fVZ1 d_V_raise_2 l_V_150 k_V_isOfficer (c_V_isOfficer hC hO (by omega)) (sh_0 T) rfl (by decide) (by decide) (Nat.le_of_ble_eq_true rfl) (Nat.zero_le _) (Nat.zero_le _) (fun g2 => ?_)
  refine v_ifb_eq d_V_raise_5 (fun u5 => ?_) (fun u5 => ?_)
  · refine v_iconst d_V_raise_29 ?_
    refine v_istore4 d_V_raise_30 (by decide) rfl ?_
    refine v_iload4 d_V_raise_32 ?_
    refine v_if_eq d_V_raise_34 (by omega) (fun u34 => ?_) (fun u34 => ?_)
    · refine v_iconst d_V_raise_49 ?_
      first
      | (exact v_ireturn hM d_V_raise_50 (by omega) ⟨rfl, by rw [wRa, if_pos (by omega)]; exact e66.1, e66.2.1, by rw [wRa, if_pos (by omega)]; exact e66.2.2⟩)
      | (exact v_ireturn hM d_V_raise_50 (by omega) ⟨rfl, by rw [wRa, if_neg (by omega)], CW.rfl', by rw [wRa, if_neg (by omega)]; exact hC⟩)
    · omega
  · refine v_iload2 d_V_raise_8 ?_
    refine v_iconst d_V_raise_9 ?_
    refine v_bipush d_V_raise_10 rfl ?_
    refine v_fSZ3 d_V_raise_12 l_V_82 k_V_isWithin (c_V_isWithin (by omega) (by omega) (by omega)) (by decide) (by decide) (Nat.le_of_ble_eq_true rfl) (Nat.zero_le _) (Nat.zero_le _) (fun g12 => ?_)
    refine v_ifb_eq d_V_raise_15 (fun u15 => ?_) (fun u15 => ?_)
    · refine v_iconst d_V_raise_29 ?_
      refine v_istore4 d_V_raise_30 (by decide) rfl ?_
      refine v_iload4 d_V_raise_32 ?_
      refine v_if_eq d_V_raise_34 (by omega) (fun u34 => ?_) (fun u34 => ?_)
      · refine v_iconst d_V_raise_49 ?_
        first
        | (exact v_ireturn hM d_V_raise_50 (by omega) ⟨rfl, by rw [wRa, if_pos (by omega)]; exact e66.1, e66.2.1, by rw [wRa, if_pos (by omega)]; exact e66.2.2⟩)
        | (exact v_ireturn hM d_V_raise_50 (by omega) ⟨rfl, by rw [wRa, if_neg (by omega)], CW.rfl', by rw [wRa, if_neg (by omega)]; exact hC⟩)
      · omega
    · refine v_iload3 d_V_raise_18 ?_
      refine v_fSZ1 d_V_raise_19 l_V_156 k_V_isDay (c_V_isDay (by omega)) (by decide) (by decide) (Nat.le_of_ble_eq_true rfl) (Nat.zero_le _) (Nat.zero_le _) (fun g19 => ?_)
      refine v_ifb_eq d_V_raise_22 (fun u22 => ?_) (fun u22 => ?_)
      · refine v_iconst d_V_raise_29 ?_
        refine v_istore4 d_V_raise_30 (by decide) rfl ?_
        refine v_iload4 d_V_raise_32 ?_
        refine v_if_eq d_V_raise_34 (by omega) (fun u34 => ?_) (fun u34 => ?_)
        · refine v_iconst d_V_raise_49 ?_
          first
          | (exact v_ireturn hM d_V_raise_50 (by omega) ⟨rfl, by rw [wRa, if_pos (by omega)]; exact e66.1, e66.2.1, by rw [wRa, if_pos (by omega)]; exact e66.2.2⟩)
          | (exact v_ireturn hM d_V_raise_50 (by omega) ⟨rfl, by rw [wRa, if_neg (by omega)], CW.rfl', by rw [wRa, if_neg (by omega)]; exact hC⟩)
        · omega
      · refine v_iconst d_V_raise_25 ?_
        refine v_goto d_V_raise_26 ?_
        refine v_istore4 d_V_raise_30 (by decide) rfl ?_
        refine v_iload4 d_V_raise_32 ?_
        refine v_if_eq d_V_raise_34 (by omega) (fun u34 => ?_) (fun u34 => ?_)
        · omega
        · refine v_aload0 d_V_raise_37 ?_
          refine v_getR d_V_raise_38 f_V_71 (sh_0 T) rfl ?_
          refine v_getJ (ji := 5) d_V_raise_41 f_V_159 (sh_10 T) rfl rfl (fun g41 => ?_)
          refine v_bipush d_V_raise_44 rfl ?_
          refine v_icmp_lt d_V_raise_46 (by omega) (by omega) (fun u46 => ?_) (fun u46 => ?_)
          · refine v_aload0 d_V_raise_51 ?_
            refine v_getR d_V_raise_52 f_V_71 (sh_0 T) rfl ?_
            refine v_iconst d_V_raise_55 ?_
            refine v_iload2 d_V_raise_56 ?_
            refine v_iload1 d_V_raise_57 ?_
            refine v_iload3 d_V_raise_58 ?_
            refine v_aload0 d_V_raise_59 ?_
            refine v_getR d_V_raise_60 f_V_66 (sh_0 T) rfl ?_
            refine v_getJ (ji := 0) d_V_raise_63 f_V_113 (sh_2 T) rfl rfl (fun g63 => ?_)
            refine v_gVI5 d_V_raise_66 l_V_162 k_Bo_write (c_Bo_write hC hO (by omega) (by omega) (by omega) (by omega) l0 (by omega)) (sh_10 T) rfl (by decide) (by decide) (Nat.le_of_ble_eq_true rfl) (Nat.zero_le _) (Nat.zero_le _) (fun z66 s66 g66 e66 => ?_)
            have h9 := e66.1
            first
            | (exact v_ireturn hM d_V_raise_69 (by omega) ⟨rfl, by rw [wRa, if_pos (by omega)]; exact e66.1, e66.2.1, by rw [wRa, if_pos (by omega)]; exact e66.2.2⟩)
            | (exact v_ireturn hM d_V_raise_69 (by omega) ⟨rfl, by rw [wRa, if_neg (by omega)], CW.rfl', by rw [wRa, if_neg (by omega)]; exact hC⟩)
          · refine v_iconst d_V_raise_49 ?_
            first
            | (exact v_ireturn hM d_V_raise_50 (by omega) ⟨rfl, by rw [wRa, if_pos (by omega)]; exact e66.1, e66.2.1, by rw [wRa, if_pos (by omega)]; exact e66.2.2⟩)
            | (exact v_ireturn hM d_V_raise_50 (by omega) ⟨rfl, by rw [wRa, if_neg (by omega)], CW.rfl', by rw [wRa, if_neg (by omega)]; exact hC⟩)

theorem c_V_say {T : vSh} {σ : vMem} {A : Int → Int} (hC : CR σ A) (hO : okA A) {w v s c : Int} (h0 : vIn w) (h1 : vIn v) (h2 : vIn s) (h3 : vIn c) : mt_V_say [.ref 0, .int (iI w), .int (iI v), .int (iI s), .int (iI c)] (S0 ++ T) σ (rP (S0 ++ T) (fun z σ2 => z = (wSa A w v s c).2 ∧ CW σ σ2 ∧ CR σ2 (wSa A w v s c).1)) := by
  refine vMet.intro 1 (by decide +kernel) (Nat.le_of_ble_eq_true rfl) rfl (fun cx hM _ => ?_)
  obtain ⟨⟨q0, q1, q2, q3, q4, q5, q6, q7⟩, hVi, hWe, hCo, hOf, hBo, hWo, hMo, hRe, hLi, hTa⟩ := id hO
  obtain ⟨⟨l0, l1, lV, lC, lZ, lS⟩, ⟨b0, b1, bO, bB⟩, ⟨w0, wR, wL⟩, ⟨t0, t1, t2, tR, tB⟩, ⟨n9, nW⟩, m0, mM⟩ := id hC
  refine v_iload1 d_V_say_0 ?_
  refine v_fSZ1 d_V_say_1 l_V_293 k_V_isWriter (c_V_isWriter (by omega)) (by decide) (by decide) (Nat.le_of_ble_eq_true rfl) (Nat.zero_le _) (Nat.zero_le _) (fun g1 => ?_)
  refine v_ifb_eq d_V_say_4 (fun u4 => ?_) (fun u4 => ?_)
  · refine v_iconst d_V_say_38 ?_
    refine v_istore5 d_V_say_39 (by decide) rfl ?_
    refine v_iload5 d_V_say_41 ?_
    refine v_if_eq d_V_say_43 (by omega) (fun u43 => ?_) (fun u43 => ?_)
    · refine v_iconst d_V_say_58 ?_
      first
      | (exact v_ireturn hM d_V_say_59 (by omega) ⟨rfl, by rw [wSa, if_pos (by omega)]; exact e76.1, e76.2.1, by rw [wSa, if_pos (by omega)]; exact e76.2.2⟩)
      | (exact v_ireturn hM d_V_say_59 (by omega) ⟨rfl, by rw [wSa, if_neg (by omega)], CW.rfl', by rw [wSa, if_neg (by omega)]; exact hC⟩)
    · omega
  · refine v_aload0 d_V_say_7 ?_
    refine v_iload2 d_V_say_8 ?_
    refine v_fVZ1 d_V_say_9 l_V_107 k_V_isVillage (c_V_isVillage hC hO (by omega)) (sh_0 T) rfl (by decide) (by decide) (Nat.le_of_ble_eq_true rfl) (Nat.zero_le _) (Nat.zero_le _) (fun g9 => ?_)
    refine v_ifb_eq d_V_say_12 (fun u12 => ?_) (fun u12 => ?_)
    · refine v_iconst d_V_say_38 ?_
      refine v_istore5 d_V_say_39 (by decide) rfl ?_
      refine v_iload5 d_V_say_41 ?_
      refine v_if_eq d_V_say_43 (by omega) (fun u43 => ?_) (fun u43 => ?_)
      · refine v_iconst d_V_say_58 ?_
        first
        | (exact v_ireturn hM d_V_say_59 (by omega) ⟨rfl, by rw [wSa, if_pos (by omega)]; exact e76.1, e76.2.1, by rw [wSa, if_pos (by omega)]; exact e76.2.2⟩)
        | (exact v_ireturn hM d_V_say_59 (by omega) ⟨rfl, by rw [wSa, if_neg (by omega)], CW.rfl', by rw [wSa, if_neg (by omega)]; exact hC⟩)
      · omega
    · refine v_iload3 d_V_say_15 ?_
      refine v_fSZ1 d_V_say_16 l_V_96 k_V_isSeason (c_V_isSeason (by omega)) (by decide) (by decide) (Nat.le_of_ble_eq_true rfl) (Nat.zero_le _) (Nat.zero_le _) (fun g16 => ?_)
      refine v_ifb_eq d_V_say_19 (fun u19 => ?_) (fun u19 => ?_)
      · refine v_iconst d_V_say_38 ?_
        refine v_istore5 d_V_say_39 (by decide) rfl ?_
        refine v_iload5 d_V_say_41 ?_
        refine v_if_eq d_V_say_43 (by omega) (fun u43 => ?_) (fun u43 => ?_)
        · refine v_iconst d_V_say_58 ?_
          first
          | (exact v_ireturn hM d_V_say_59 (by omega) ⟨rfl, by rw [wSa, if_pos (by omega)]; exact e76.1, e76.2.1, by rw [wSa, if_pos (by omega)]; exact e76.2.2⟩)
          | (exact v_ireturn hM d_V_say_59 (by omega) ⟨rfl, by rw [wSa, if_neg (by omega)], CW.rfl', by rw [wSa, if_neg (by omega)]; exact hC⟩)
        · omega
      · refine v_iload4 d_V_say_22 ?_
        refine v_iconst d_V_say_24 ?_
        refine v_sipush d_V_say_25 rfl ?_
        refine v_fSZ3 d_V_say_28 l_V_82 k_V_isWithin (c_V_isWithin (by omega) (by omega) (by omega)) (by decide) (by decide) (Nat.le_of_ble_eq_true rfl) (Nat.zero_le _) (Nat.zero_le _) (fun g28 => ?_)
        refine v_ifb_eq d_V_say_31 (fun u31 => ?_) (fun u31 => ?_)
        · refine v_iconst d_V_say_38 ?_
          refine v_istore5 d_V_say_39 (by decide) rfl ?_
          refine v_iload5 d_V_say_41 ?_
          refine v_if_eq d_V_say_43 (by omega) (fun u43 => ?_) (fun u43 => ?_)
          · refine v_iconst d_V_say_58 ?_
            first
            | (exact v_ireturn hM d_V_say_59 (by omega) ⟨rfl, by rw [wSa, if_pos (by omega)]; exact e76.1, e76.2.1, by rw [wSa, if_pos (by omega)]; exact e76.2.2⟩)
            | (exact v_ireturn hM d_V_say_59 (by omega) ⟨rfl, by rw [wSa, if_neg (by omega)], CW.rfl', by rw [wSa, if_neg (by omega)]; exact hC⟩)
          · omega
        · refine v_iconst d_V_say_34 ?_
          refine v_goto d_V_say_35 ?_
          refine v_istore5 d_V_say_39 (by decide) rfl ?_
          refine v_iload5 d_V_say_41 ?_
          refine v_if_eq d_V_say_43 (by omega) (fun u43 => ?_) (fun u43 => ?_)
          · omega
          · refine v_aload0 d_V_say_46 ?_
            refine v_getR d_V_say_47 f_V_76 (sh_0 T) rfl ?_
            refine v_getJ (ji := 1) d_V_say_50 f_V_296 (sh_32 T) rfl rfl (fun g50 => ?_)
            refine v_bipush d_V_say_53 rfl ?_
            refine v_icmp_lt d_V_say_55 (by omega) (by omega) (fun u55 => ?_) (fun u55 => ?_)
            · refine v_aload0 d_V_say_60 ?_
              refine v_getR d_V_say_61 f_V_76 (sh_0 T) rfl ?_
              refine v_iload1 d_V_say_64 ?_
              refine v_iload2 d_V_say_65 ?_
              refine v_iload3 d_V_say_66 ?_
              refine v_iload4 d_V_say_67 ?_
              refine v_aload0 d_V_say_69 ?_
              refine v_getR d_V_say_70 f_V_66 (sh_0 T) rfl ?_
              refine v_getJ (ji := 0) d_V_say_73 f_V_113 (sh_2 T) rfl rfl (fun g73 => ?_)
              refine v_gVI5 d_V_say_76 l_V_301 k_Ne_write (c_Ne_write hC hO (by omega) (by omega) (by omega) (by omega) l0 (by omega)) (sh_32 T) rfl (by decide) (by decide) (Nat.le_of_ble_eq_true rfl) (Nat.zero_le _) (Nat.zero_le _) (fun z76 s76 g76 e76 => ?_)
              have h9 := e76.1
              first
              | (exact v_ireturn hM d_V_say_79 (by omega) ⟨rfl, by rw [wSa, if_pos (by omega)]; exact e76.1, e76.2.1, by rw [wSa, if_pos (by omega)]; exact e76.2.2⟩)
              | (exact v_ireturn hM d_V_say_79 (by omega) ⟨rfl, by rw [wSa, if_neg (by omega)], CW.rfl', by rw [wSa, if_neg (by omega)]; exact hC⟩)
            · refine v_iconst d_V_say_58 ?_
              first
              | (exact v_ireturn hM d_V_say_59 (by omega) ⟨rfl, by rw [wSa, if_pos (by omega)]; exact e76.1, e76.2.1, by rw [wSa, if_pos (by omega)]; exact e76.2.2⟩)
              | (exact v_ireturn hM d_V_say_59 (by omega) ⟨rfl, by rw [wSa, if_neg (by omega)], CW.rfl', by rw [wSa, if_neg (by omega)]; exact hC⟩)

theorem c_V_end {T : vSh} {σ : vMem} {A : Int → Int} (hC : CR σ A) (hO : okA A) {n : Int} (h0 : vIn n) : mt_V_end [.ref 0, .int (iI n)] (S0 ++ T) σ (rP (S0 ++ T) (fun z σ2 => z = (wEn A n).2 ∧ CW σ σ2 ∧ CR σ2 (wEn A n).1)) := by
  refine vMet.intro 0 (by decide +kernel) (Nat.le_of_ble_eq_true rfl) rfl (fun cx hM _ => ?_)
  obtain ⟨⟨q0, q1, q2, q3, q4, q5, q6, q7⟩, hVi, hWe, hCo, hOf, hBo, hWo, hMo, hRe, hLi, hTa⟩ := id hO
  obtain ⟨⟨l0, l1, lV, lC, lZ, lS⟩, ⟨b0, b1, bO, bB⟩, ⟨w0, wR, wL⟩, ⟨t0, t1, t2, tR, tB⟩, ⟨n9, nW⟩, m0, mM⟩ := id hC
  refine v_iload1 d_V_end_0 ?_
  refine v_if_lt d_V_end_1 (by omega) (fun u1 => ?_) (fun u1 => ?_)
  · refine v_iconst d_V_end_18 ?_
    first
    | (exact v_ireturn hM d_V_end_19 (by omega) ⟨rfl, by rw [wEn, if_pos (by omega)], fun k hk => vUp_ne (by omega), by rw [wEn, if_pos (by omega)]; exact CR_en hC hO (by omega) (fun k hk => vUp_ne hk) (by rw [vUp_same]) (by rw [vUp_ix (by decide)]) (by rw [vUp_ix (by decide)])⟩)
    | (exact v_ireturn hM d_V_end_19 (by omega) ⟨rfl, by rw [wEn, if_neg (by omega)], CW.rfl', by rw [wEn, if_neg (by omega)]; exact hC⟩)
  · refine v_iload1 d_V_end_4 ?_
    refine v_aload0 d_V_end_5 ?_
    refine v_getR d_V_end_6 f_V_10 (sh_0 T) rfl ?_
    refine v_getR d_V_end_9 f_V_22 (sh_1 T) rfl ?_
    refine v_getJ (ji := 1) d_V_end_12 f_V_197 (sh_30 T) rfl rfl (fun g12 => ?_)
    refine v_icmp_le d_V_end_15 (by omega) (by omega) (fun u15 => ?_) (fun u15 => ?_)
    · refine v_aload0 d_V_end_20 ?_
      refine v_getR d_V_end_21 f_V_10 (sh_0 T) rfl ?_
      refine v_getR d_V_end_24 f_V_22 (sh_1 T) rfl ?_
      refine v_iload1 d_V_end_27 ?_
      refine v_putJ (ji := 1) d_V_end_28 p_V_197 (sh_30 T) rfl rfl (by omega) ?_
      refine v_iload1 d_V_end_31 ?_
      first
      | (exact v_ireturn hM d_V_end_32 (by omega) ⟨rfl, by rw [wEn, if_pos (by omega)], fun k hk => vUp_ne (by omega), by rw [wEn, if_pos (by omega)]; exact CR_en hC hO (by omega) (fun k hk => vUp_ne hk) (by rw [vUp_same]) (by rw [vUp_ix (by decide)]) (by rw [vUp_ix (by decide)])⟩)
      | (exact v_ireturn hM d_V_end_32 (by omega) ⟨rfl, by rw [wEn, if_neg (by omega)], CW.rfl', by rw [wEn, if_neg (by omega)]; exact hC⟩)
    · refine v_iconst d_V_end_18 ?_
      first
      | (exact v_ireturn hM d_V_end_19 (by omega) ⟨rfl, by rw [wEn, if_pos (by omega)], fun k hk => vUp_ne (by omega), by rw [wEn, if_pos (by omega)]; exact CR_en hC hO (by omega) (fun k hk => vUp_ne hk) (by rw [vUp_same]) (by rw [vUp_ix (by decide)]) (by rw [vUp_ix (by decide)])⟩)
      | (exact v_ireturn hM d_V_end_19 (by omega) ⟨rfl, by rw [wEn, if_neg (by omega)], CW.rfl', by rw [wEn, if_neg (by omega)]; exact hC⟩)

theorem c_V_stay {T : vSh} {σ : vMem} {A : Int → Int} (hC : CR σ A) (hO : okA A)  : mt_V_stay [.ref 0] (S0 ++ T) σ (rP (S0 ++ T) (fun _ σ2 => CW σ σ2 ∧ CR σ2 (stA A))) := by
  refine vMet.intro 0 (by decide +kernel) (Nat.le_of_ble_eq_true rfl) rfl (fun cx hM _ => ?_)
  obtain ⟨⟨q0, q1, q2, q3, q4, q5, q6, q7⟩, hVi, hWe, hCo, hOf, hBo, hWo, hMo, hRe, hLi, hTa⟩ := id hO
  obtain ⟨⟨l0, l1, lV, lC, lZ, lS⟩, ⟨b0, b1, bO, bB⟩, ⟨w0, wR, wL⟩, ⟨t0, t1, t2, tR, tB⟩, ⟨n9, nW⟩, m0, mM⟩ := id hC
  refine v_aload0 d_V_stay_0 ?_
  refine v_getR d_V_stay_1 f_V_81 (sh_0 T) rfl ?_
  refine v_iconst d_V_stay_4 ?_
  refine v_putJ (ji := 0) d_V_stay_5 p_V_272 (sh_38 T) rfl rfl (by omega) ?_
  exact v_return hM d_V_stay_8 ⟨rfl, fun k hk => vUp_ne (by omega), CR_st hC hO (fun k hk => vUp_ne hk) (by rw [vUp_same])⟩

theorem c_Mo_hasEither_2 {T : vSh} {σ : vMem} {cx : vCx} {A : Int → Int} (hC : CR σ A) (hO : okA A) {oo v : Int} (h0 : vIn oo) (h1 : vIn v) (hM : vM cx 0 0 (some .boolean) (rF (S0 ++ T) σ (b01 (0 ≤ fst (mvE2 A oo v) (A 5).toNat)))) : ∀ (n j : Nat) (i : Int), (j : Int) + n = A 5 → i = j → fst (mvE2 A oo v) j < 0 → vV cx y_Mo_hasEither.cls prog_7_method_2_code 4 0 0 0 0 0 2 [some (.ref 38), some (.int (iI oo)), some (.int (iI v)), some (.int (iI i))] [] (S0 ++ T) σ := by
  intro n
  induction n with
  | zero =>
    intro j i hj hi hz
    obtain ⟨⟨q0, q1, q2, q3, q4, q5, q6, q7⟩, hVi, hWe, hCo, hOf, hBo, hWo, hMo, hRe, hLi, hTa⟩ := id hO
    obtain ⟨⟨l0, l1, lV, lC, lZ, lS⟩, ⟨b0, b1, bO, bB⟩, ⟨w0, wR, wL⟩, ⟨t0, t1, t2, tR, tB⟩, ⟨n9, nW⟩, m0, mM⟩ := id hC
    refine v_iload3 d_Mo_hasEither_2 ?_
    refine v_aload0 d_Mo_hasEither_3 ?_
    refine v_getJ (ji := 0) d_Mo_hasEither_4 f_Mo_28 (sh_38 T) rfl rfl (fun g4 => ?_)
    refine v_icmp_ge d_Mo_hasEither_7 (by omega) (by omega) (fun u7 => ?_) (fun u7 => ?_)
    · refine v_iconst d_Mo_hasEither_38 ?_
      exact v_zreturn hM d_Mo_hasEither_39 (Or.inl rfl) ⟨rfl, rfl, b01_0 (by rw [show (A 5).toNat = j by omega]; omega)⟩
    · omega
  | succ n ih =>
    intro j i hj hi hz
    obtain ⟨⟨q0, q1, q2, q3, q4, q5, q6, q7⟩, hVi, hWe, hCo, hOf, hBo, hWo, hMo, hRe, hLi, hTa⟩ := id hO
    obtain ⟨⟨l0, l1, lV, lC, lZ, lS⟩, ⟨b0, b1, bO, bB⟩, ⟨w0, wR, wL⟩, ⟨t0, t1, t2, tR, tB⟩, ⟨n9, nW⟩, m0, mM⟩ := id hC
    have hmm := mM i (by omega) (by omega)
    refine v_iload3 d_Mo_hasEither_2 ?_
    refine v_aload0 d_Mo_hasEither_3 ?_
    refine v_getJ (ji := 0) d_Mo_hasEither_4 f_Mo_28 (sh_38 T) rfl rfl (fun g4 => ?_)
    refine v_icmp_ge d_Mo_hasEither_7 (by omega) (by omega) (fun u7 => ?_) (fun u7 => ?_)
    · omega
    · refine v_aload0 d_Mo_hasEither_10 ?_
      refine v_getR d_Mo_hasEither_11 f_Mo_9 (sh_38 T) rfl ?_
      refine v_iload3 d_Mo_hasEither_14 ?_
      refine v_iaload d_Mo_hasEither_15 (sh_39 T) (by omega) (fun g15 => ?_)
      refine v_iload1 d_Mo_hasEither_16 ?_
      refine v_icmp_eq d_Mo_hasEither_17 (by omega) (by omega) (fun u17 => ?_) (fun u17 => ?_)
      · refine v_iconst d_Mo_hasEither_30 ?_
        have e9 := fst_at (mvE2 A oo v) hz (by rw [← hi, mvE2, ← hmm.1, ← hmm.2]; omega)
        have e8 := fst_stay (mvE2 A oo v) (m := j + 1) (by omega) (A 5).toNat (by omega)
        exact v_zreturn hM d_Mo_hasEither_31 (Or.inr rfl) ⟨rfl, rfl, b01_1 (by omega)⟩
      · refine v_aload0 d_Mo_hasEither_20 ?_
        refine v_getR d_Mo_hasEither_21 f_Mo_15 (sh_38 T) rfl ?_
        refine v_iload3 d_Mo_hasEither_24 ?_
        refine v_iaload d_Mo_hasEither_25 (sh_40 T) (by omega) (fun g25 => ?_)
        refine v_iload2 d_Mo_hasEither_26 ?_
        refine v_icmp_ne d_Mo_hasEither_27 (by omega) (by omega) (fun u27 => ?_) (fun u27 => ?_)
        · refine v_iinc3 d_Mo_hasEither_32 (by decide) rfl ?_
          refine v_goto d_Mo_hasEither_35 ?_
          exact ih (j + 1) _ (by omega) (by omega) (fst_no _ hz (by rw [← hi, mvE2, ← hmm.1, ← hmm.2]; omega))
        · refine v_iconst d_Mo_hasEither_30 ?_
          have e9 := fst_at (mvE2 A oo v) hz (by rw [← hi, mvE2, ← hmm.1, ← hmm.2]; omega)
          have e8 := fst_stay (mvE2 A oo v) (m := j + 1) (by omega) (A 5).toNat (by omega)
          exact v_zreturn hM d_Mo_hasEither_31 (Or.inr rfl) ⟨rfl, rfl, b01_1 (by omega)⟩

theorem c_Mo_hasEither {T : vSh} {σ : vMem} {A : Int → Int} (hC : CR σ A) (hO : okA A) {oo v : Int} (h0 : vIn oo) (h1 : vIn v) : mt_Mo_hasEither [.ref 38, .int (iI oo), .int (iI v)] (S0 ++ T) σ (rF (S0 ++ T) σ (b01 (0 ≤ fst (mvE2 A oo v) (A 5).toNat))) := by
  refine vMet.intro 1 (by decide +kernel) (Nat.le_of_ble_eq_true rfl) rfl (fun cx hM _ => ?_)
  obtain ⟨⟨q0, q1, q2, q3, q4, q5, q6, q7⟩, hVi, hWe, hCo, hOf, hBo, hWo, hMo, hRe, hLi, hTa⟩ := id hO
  refine v_iconst d_Mo_hasEither_0 ?_
  refine v_istore3 d_Mo_hasEither_1 (by decide) rfl ?_
  exact c_Mo_hasEither_2 hC hO h0 h1 hM (A 5).toNat 0 _ (by omega) rfl (show (-1 : Int) < 0 by decide)

theorem c_V_move {T : vSh} {σ : vMem} {A : Int → Int} (hC : CR σ A) (hO : okA A) {oo v : Int} (h0 : vIn oo) (h1 : vIn v) : mt_V_move [.ref 0, .int (iI oo), .int (iI v)] (S0 ++ T) σ (rP (S0 ++ T) (fun z σ2 => z = (wMo A oo v).2 ∧ CW σ σ2 ∧ CR σ2 (wMo A oo v).1)) := by
  refine vMet.intro 1 (by decide +kernel) (Nat.le_of_ble_eq_true rfl) rfl (fun cx hM _ => ?_)
  obtain ⟨⟨q0, q1, q2, q3, q4, q5, q6, q7⟩, hVi, hWe, hCo, hOf, hBo, hWo, hMo, hRe, hLi, hTa⟩ := id hO
  obtain ⟨⟨l0, l1, lV, lC, lZ, lS⟩, ⟨b0, b1, bO, bB⟩, ⟨w0, wR, wL⟩, ⟨t0, t1, t2, tR, tB⟩, ⟨n9, nW⟩, m0, mM⟩ := id hC
  refine v_aload0 d_V_move_0 ?_
  refine v_iload1 d_V_move_1 ?_
  refine v_fVZ1 d_V_move_2 l_V_249 k_V_servesToday (c_V_servesToday hC hO (by omega)) (sh_0 T) rfl (by decide) (by decide) (Nat.le_of_ble_eq_true rfl) (Nat.zero_le _) (Nat.zero_le _) (fun g2 => ?_)
  refine v_ifb_eq d_V_move_5 (fun u5 => ?_) (fun u5 => ?_)
  · refine v_iconst d_V_move_20 ?_
    refine v_istore3 d_V_move_21 (by decide) rfl ?_
    refine v_iload3 d_V_move_22 ?_
    refine v_if_eq d_V_move_23 (by omega) (fun u23 => ?_) (fun u23 => ?_)
    · refine v_iconst d_V_move_50 ?_
      first
      | (exact v_ireturn hM d_V_move_51 (by omega) ⟨rfl, by rw [wMo, if_pos ⟨by omega, by omega, by omega, by omega⟩]; exact e58.1, e58.2.1, by rw [wMo, if_pos ⟨by omega, by omega, by omega, by omega⟩]; exact e58.2.2⟩)
      | (exact v_ireturn hM d_V_move_51 (by omega) ⟨rfl, by rw [wMo, if_neg (fun z => by have := z.1; have := z.2.1; have := z.2.2.1; have := z.2.2.2; omega)], CW.rfl', by rw [wMo, if_neg (fun z => by have := z.1; have := z.2.1; have := z.2.2.1; have := z.2.2.2; omega)]; exact hC⟩)
    · omega
  · refine v_aload0 d_V_move_8 ?_
    refine v_iload2 d_V_move_9 ?_
    refine v_fVZ1 d_V_move_10 l_V_107 k_V_isVillage (c_V_isVillage hC hO (by omega)) (sh_0 T) rfl (by decide) (by decide) (Nat.le_of_ble_eq_true rfl) (Nat.zero_le _) (Nat.zero_le _) (fun g10 => ?_)
    refine v_ifb_eq d_V_move_13 (fun u13 => ?_) (fun u13 => ?_)
    · refine v_iconst d_V_move_20 ?_
      refine v_istore3 d_V_move_21 (by decide) rfl ?_
      refine v_iload3 d_V_move_22 ?_
      refine v_if_eq d_V_move_23 (by omega) (fun u23 => ?_) (fun u23 => ?_)
      · refine v_iconst d_V_move_50 ?_
        first
        | (exact v_ireturn hM d_V_move_51 (by omega) ⟨rfl, by rw [wMo, if_pos ⟨by omega, by omega, by omega, by omega⟩]; exact e58.1, e58.2.1, by rw [wMo, if_pos ⟨by omega, by omega, by omega, by omega⟩]; exact e58.2.2⟩)
        | (exact v_ireturn hM d_V_move_51 (by omega) ⟨rfl, by rw [wMo, if_neg (fun z => by have := z.1; have := z.2.1; have := z.2.2.1; have := z.2.2.2; omega)], CW.rfl', by rw [wMo, if_neg (fun z => by have := z.1; have := z.2.1; have := z.2.2.1; have := z.2.2.2; omega)]; exact hC⟩)
      · omega
    · refine v_iconst d_V_move_16 ?_
      refine v_goto d_V_move_17 ?_
      refine v_istore3 d_V_move_21 (by decide) rfl ?_
      refine v_iload3 d_V_move_22 ?_
      refine v_if_eq d_V_move_23 (by omega) (fun u23 => ?_) (fun u23 => ?_)
      · omega
      · refine v_aload0 d_V_move_26 ?_
        refine v_getR d_V_move_27 f_V_81 (sh_0 T) rfl ?_
        refine v_getJ (ji := 0) d_V_move_30 f_V_272 (sh_38 T) rfl rfl (fun g30 => ?_)
        refine v_bipush d_V_move_33 rfl ?_
        refine v_icmp_ge d_V_move_35 (by omega) (by omega) (fun u35 => ?_) (fun u35 => ?_)
        · refine v_iconst d_V_move_50 ?_
          first
          | (exact v_ireturn hM d_V_move_51 (by omega) ⟨rfl, by rw [wMo, if_pos ⟨by omega, by omega, by omega, by omega⟩]; exact e58.1, e58.2.1, by rw [wMo, if_pos ⟨by omega, by omega, by omega, by omega⟩]; exact e58.2.2⟩)
          | (exact v_ireturn hM d_V_move_51 (by omega) ⟨rfl, by rw [wMo, if_neg (fun z => by have := z.1; have := z.2.1; have := z.2.2.1; have := z.2.2.2; omega)], CW.rfl', by rw [wMo, if_neg (fun z => by have := z.1; have := z.2.1; have := z.2.2.1; have := z.2.2.2; omega)]; exact hC⟩)
        · refine v_aload0 d_V_move_38 ?_
          refine v_getR d_V_move_39 f_V_81 (sh_0 T) rfl ?_
          refine v_iload1 d_V_move_42 ?_
          refine v_iload2 d_V_move_43 ?_
          refine v_fVZ2 d_V_move_44 l_V_277 k_Mo_hasEither (c_Mo_hasEither hC hO (by omega) (by omega)) (sh_38 T) rfl (by decide) (by decide) (Nat.le_of_ble_eq_true rfl) (Nat.zero_le _) (Nat.zero_le _) (fun g44 => ?_)
          refine v_ifb_eq d_V_move_47 (fun u47 => ?_) (fun u47 => ?_)
          · refine v_aload0 d_V_move_52 ?_
            refine v_getR d_V_move_53 f_V_81 (sh_0 T) rfl ?_
            refine v_iload1 d_V_move_56 ?_
            refine v_iload2 d_V_move_57 ?_
            refine v_gVI2 d_V_move_58 l_V_280 k_Mo_plan (c_Mo_plan hC hO (by omega) (by omega) (by omega)) (sh_38 T) rfl (by decide) (by decide) (Nat.le_of_ble_eq_true rfl) (Nat.zero_le _) (Nat.zero_le _) (fun z58 s58 g58 e58 => ?_)
            have h9 := e58.1
            first
            | (exact v_ireturn hM d_V_move_61 (by omega) ⟨rfl, by rw [wMo, if_pos ⟨by omega, by omega, by omega, by omega⟩]; exact e58.1, e58.2.1, by rw [wMo, if_pos ⟨by omega, by omega, by omega, by omega⟩]; exact e58.2.2⟩)
            | (exact v_ireturn hM d_V_move_61 (by omega) ⟨rfl, by rw [wMo, if_neg (fun z => by have := z.1; have := z.2.1; have := z.2.2.1; have := z.2.2.2; omega)], CW.rfl', by rw [wMo, if_neg (fun z => by have := z.1; have := z.2.1; have := z.2.2.1; have := z.2.2.2; omega)]; exact hC⟩)
          · refine v_iconst d_V_move_50 ?_
            first
            | (exact v_ireturn hM d_V_move_51 (by omega) ⟨rfl, by rw [wMo, if_pos ⟨by omega, by omega, by omega, by omega⟩]; exact e58.1, e58.2.1, by rw [wMo, if_pos ⟨by omega, by omega, by omega, by omega⟩]; exact e58.2.2⟩)
            | (exact v_ireturn hM d_V_move_51 (by omega) ⟨rfl, by rw [wMo, if_neg (fun z => by have := z.1; have := z.2.1; have := z.2.2.1; have := z.2.2.2; omega)], CW.rfl', by rw [wMo, if_neg (fun z => by have := z.1; have := z.2.1; have := z.2.2.1; have := z.2.2.2; omega)]; exact hC⟩)

