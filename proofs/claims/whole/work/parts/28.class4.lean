theorem c_V_isWithin {T : vSh} {σ : vMem} {n lo hi : Int} (h0 : vIn n) (h1 : vIn lo) (h2 : vIn hi) : mt_V_isWithin [.int (iI n), .int (iI lo), .int (iI hi)] (S0 ++ T) σ (rF (S0 ++ T) σ (b01 (lo ≤ n ∧ n ≤ hi))) := by
  refine vMet.intro 0 (by decide +kernel) (Nat.le_of_ble_eq_true rfl) rfl (fun cx hM _ => ?_)
  refine v_iload0 d_V_isWithin_0 ?_
  refine v_iload1 d_V_isWithin_1 ?_
  refine v_icmp_lt d_V_isWithin_2 (by omega) (by omega) (fun u2 => ?_) (fun u2 => ?_)
  · refine v_iconst d_V_isWithin_14 ?_
    first | exact v_zreturn hM d_V_isWithin_15 (Or.inr rfl) ⟨rfl, rfl, b01_1 (by omega)⟩ | exact v_zreturn hM d_V_isWithin_15 (Or.inl rfl) ⟨rfl, rfl, b01_0 (by omega)⟩ | exact v_zreturn hM d_V_isWithin_15 b01_or ⟨rfl, rfl, rfl⟩
  · refine v_iload0 d_V_isWithin_5 ?_
    refine v_iload2 d_V_isWithin_6 ?_
    refine v_icmp_gt d_V_isWithin_7 (by omega) (by omega) (fun u7 => ?_) (fun u7 => ?_)
    · refine v_iconst d_V_isWithin_14 ?_
      first | exact v_zreturn hM d_V_isWithin_15 (Or.inr rfl) ⟨rfl, rfl, b01_1 (by omega)⟩ | exact v_zreturn hM d_V_isWithin_15 (Or.inl rfl) ⟨rfl, rfl, b01_0 (by omega)⟩ | exact v_zreturn hM d_V_isWithin_15 b01_or ⟨rfl, rfl, rfl⟩
    · refine v_iconst d_V_isWithin_10 ?_
      refine v_goto d_V_isWithin_11 ?_
      first | exact v_zreturn hM d_V_isWithin_15 (Or.inr rfl) ⟨rfl, rfl, b01_1 (by omega)⟩ | exact v_zreturn hM d_V_isWithin_15 (Or.inl rfl) ⟨rfl, rfl, b01_0 (by omega)⟩ | exact v_zreturn hM d_V_isWithin_15 b01_or ⟨rfl, rfl, rfl⟩

theorem c_V_isDay {T : vSh} {σ : vMem} {n : Int} (h0 : vIn n) : mt_V_isDay [.int (iI n)] (S0 ++ T) σ (rF (S0 ++ T) σ (b01 (0 ≤ n ∧ n < 1200))) := by
  refine vMet.intro 0 (by decide +kernel) (Nat.le_of_ble_eq_true rfl) rfl (fun cx hM _ => ?_)
  refine v_iload0 d_V_isDay_0 ?_
  refine v_iconst d_V_isDay_1 ?_
  refine v_sipush d_V_isDay_2 rfl ?_
  refine v_fSZ3 d_V_isDay_5 l_V_82 k_V_isWithin (c_V_isWithin (by omega) (by omega) (by omega)) (by decide) (by decide) (Nat.le_of_ble_eq_true rfl) (Nat.zero_le _) (Nat.zero_le _) (fun g5 => ?_)
  exact v_zreturn hM d_V_isDay_8 b01_or ⟨rfl, rfl, b01_congr (by omega)⟩

theorem c_V_isSeason {T : vSh} {σ : vMem} {n : Int} (h0 : vIn n) : mt_V_isSeason [.int (iI n)] (S0 ++ T) σ (rF (S0 ++ T) σ (b01 (0 ≤ n ∧ n < 20))) := by
  refine vMet.intro 0 (by decide +kernel) (Nat.le_of_ble_eq_true rfl) rfl (fun cx hM _ => ?_)
  refine v_iload0 d_V_isSeason_0 ?_
  refine v_iconst d_V_isSeason_1 ?_
  refine v_bipush d_V_isSeason_2 rfl ?_
  refine v_fSZ3 d_V_isSeason_4 l_V_82 k_V_isWithin (c_V_isWithin (by omega) (by omega) (by omega)) (by decide) (by decide) (Nat.le_of_ble_eq_true rfl) (Nat.zero_le _) (Nat.zero_le _) (fun g4 => ?_)
  exact v_zreturn hM d_V_isSeason_7 b01_or ⟨rfl, rfl, b01_congr (by omega)⟩

theorem c_V_isWriter {T : vSh} {σ : vMem} {n : Int} (h0 : vIn n) : mt_V_isWriter [.int (iI n)] (S0 ++ T) σ (rF (S0 ++ T) σ (b01 (0 ≤ n ∧ n ≤ 4))) := by
  refine vMet.intro 0 (by decide +kernel) (Nat.le_of_ble_eq_true rfl) rfl (fun cx hM _ => ?_)
  refine v_iload0 d_V_isWriter_0 ?_
  refine v_iconst d_V_isWriter_1 ?_
  refine v_iconst d_V_isWriter_2 ?_
  refine v_fSZ3 d_V_isWriter_3 l_V_82 k_V_isWithin (c_V_isWithin (by omega) (by omega) (by omega)) (by decide) (by decide) (Nat.le_of_ble_eq_true rfl) (Nat.zero_le _) (Nat.zero_le _) (fun g3 => ?_)
  exact v_zreturn hM d_V_isWriter_6 b01_or ⟨rfl, rfl, b01_congr (by omega)⟩

theorem c_V_isVillage {T : vSh} {σ : vMem} {A : Int → Int} (hC : CR σ A) (hO : okA A) {n : Int} (h0 : vIn n) : mt_V_isVillage [.ref 0, .int (iI n)] (S0 ++ T) σ (rF (S0 ++ T) σ (b01 (0 ≤ n ∧ n < A 0))) := by
  refine vMet.intro 0 (by decide +kernel) (Nat.le_of_ble_eq_true rfl) rfl (fun cx hM _ => ?_)
  obtain ⟨⟨q0, q1, q2, q3, q4, q5, q6, q7⟩, hVi, hWe, hCo, hOf, hBo, hWo, hMo, hRe, hLi, hTa⟩ := id hO
  obtain ⟨⟨l0, l1, lV, lC, lZ, lS⟩, ⟨b0, b1, bO, bB⟩, ⟨w0, wR, wL⟩, ⟨t0, t1, t2, tR, tB⟩, ⟨n9, nW⟩, m0, mM⟩ := id hC
  refine v_iload1 d_V_isVillage_0 ?_
  refine v_iconst d_V_isVillage_1 ?_
  refine v_aload0 d_V_isVillage_2 ?_
  refine v_getR d_V_isVillage_3 f_V_66 (sh_0 T) rfl ?_
  refine v_getJ (ji := 1) d_V_isVillage_6 f_V_86 (sh_2 T) rfl rfl (fun g6 => ?_)
  refine v_iconst d_V_isVillage_9 ?_
  refine v_isub d_V_isVillage_10 ?_
  refine v_fSZ3 d_V_isVillage_11 l_V_82 k_V_isWithin (c_V_isWithin (by omega) (by omega) (by omega)) (by decide) (by decide) (Nat.le_of_ble_eq_true rfl) (Nat.zero_le _) (Nat.zero_le _) (fun g11 => ?_)
  exact v_zreturn hM d_V_isVillage_14 b01_or ⟨rfl, rfl, b01_congr (by omega)⟩

theorem c_V_isOfficer {T : vSh} {σ : vMem} {A : Int → Int} (hC : CR σ A) (hO : okA A) {n : Int} (h0 : vIn n) : mt_V_isOfficer [.ref 0, .int (iI n)] (S0 ++ T) σ (rF (S0 ++ T) σ (b01 (0 ≤ n ∧ n < A 1))) := by
  refine vMet.intro 0 (by decide +kernel) (Nat.le_of_ble_eq_true rfl) rfl (fun cx hM _ => ?_)
  obtain ⟨⟨q0, q1, q2, q3, q4, q5, q6, q7⟩, hVi, hWe, hCo, hOf, hBo, hWo, hMo, hRe, hLi, hTa⟩ := id hO
  obtain ⟨⟨l0, l1, lV, lC, lZ, lS⟩, ⟨b0, b1, bO, bB⟩, ⟨w0, wR, wL⟩, ⟨t0, t1, t2, tR, tB⟩, ⟨n9, nW⟩, m0, mM⟩ := id hC
  refine v_iload1 d_V_isOfficer_0 ?_
  refine v_iconst d_V_isOfficer_1 ?_
  refine v_aload0 d_V_isOfficer_2 ?_
  refine v_getR d_V_isOfficer_3 f_V_71 (sh_0 T) rfl ?_
  refine v_getJ (ji := 0) d_V_isOfficer_6 f_V_142 (sh_10 T) rfl rfl (fun g6 => ?_)
  refine v_iconst d_V_isOfficer_9 ?_
  refine v_isub d_V_isOfficer_10 ?_
  refine v_fSZ3 d_V_isOfficer_11 l_V_82 k_V_isWithin (c_V_isWithin (by omega) (by omega) (by omega)) (by decide) (by decide) (Nat.le_of_ble_eq_true rfl) (Nat.zero_le _) (Nat.zero_le _) (fun g11 => ?_)
  exact v_zreturn hM d_V_isOfficer_14 b01_or ⟨rfl, rfl, b01_congr (by omega)⟩

theorem c_V_isKnownDay {T : vSh} {σ : vMem} {A : Int → Int} (hC : CR σ A) (hO : okA A) {n : Int} (h0 : vIn n) : mt_V_isKnownDay [.ref 0, .int (iI n)] (S0 ++ T) σ (rF (S0 ++ T) σ (b01 (0 ≤ n ∧ n ≤ A 4))) := by
  refine vMet.intro 0 (by decide +kernel) (Nat.le_of_ble_eq_true rfl) rfl (fun cx hM _ => ?_)
  obtain ⟨⟨q0, q1, q2, q3, q4, q5, q6, q7⟩, hVi, hWe, hCo, hOf, hBo, hWo, hMo, hRe, hLi, hTa⟩ := id hO
  obtain ⟨⟨l0, l1, lV, lC, lZ, lS⟩, ⟨b0, b1, bO, bB⟩, ⟨w0, wR, wL⟩, ⟨t0, t1, t2, tR, tB⟩, ⟨n9, nW⟩, m0, mM⟩ := id hC
  refine v_iload1 d_V_isKnownDay_0 ?_
  refine v_iconst d_V_isKnownDay_1 ?_
  refine v_aload0 d_V_isKnownDay_2 ?_
  refine v_getR d_V_isKnownDay_3 f_V_66 (sh_0 T) rfl ?_
  refine v_getJ (ji := 0) d_V_isKnownDay_6 f_V_113 (sh_2 T) rfl rfl (fun g6 => ?_)
  refine v_fSZ3 d_V_isKnownDay_9 l_V_82 k_V_isWithin (c_V_isWithin (by omega) (by omega) (by omega)) (by decide) (by decide) (Nat.le_of_ble_eq_true rfl) (Nat.zero_le _) (Nat.zero_le _) (fun g9 => ?_)
  exact v_zreturn hM d_V_isKnownDay_12 b01_or ⟨rfl, rfl, b01_congr (by omega)⟩

theorem c_V_hasEnded {T : vSh} {σ : vMem} {A : Int → Int} (hC : CR σ A) (hO : okA A) {n : Int} (h0 : vIn n) : mt_V_hasEnded [.ref 0, .int (iI n)] (S0 ++ T) σ (rF (S0 ++ T) σ (b01 (n < A 4 / 60))) := by
  refine vMet.intro 0 (by decide +kernel) (Nat.le_of_ble_eq_true rfl) rfl (fun cx hM _ => ?_)
  obtain ⟨⟨q0, q1, q2, q3, q4, q5, q6, q7⟩, hVi, hWe, hCo, hOf, hBo, hWo, hMo, hRe, hLi, hTa⟩ := id hO
  obtain ⟨⟨l0, l1, lV, lC, lZ, lS⟩, ⟨b0, b1, bO, bB⟩, ⟨w0, wR, wL⟩, ⟨t0, t1, t2, tR, tB⟩, ⟨n9, nW⟩, m0, mM⟩ := id hC
  refine v_iload1 d_V_hasEnded_0 ?_
  refine v_aload0 d_V_hasEnded_1 ?_
  refine v_getR d_V_hasEnded_2 f_V_66 (sh_0 T) rfl ?_
  refine v_getJ (ji := 0) d_V_hasEnded_5 f_V_113 (sh_2 T) rfl rfl (fun g5 => ?_)
  refine v_bipush d_V_hasEnded_8 rfl ?_
  refine v_idiv d_V_hasEnded_10 (by omega) (by omega) ?_
  refine v_icmp_ge d_V_hasEnded_11 (by omega) (by omega) (fun u11 => ?_) (fun u11 => ?_)
  · refine v_iconst d_V_hasEnded_18 ?_
    first | exact v_zreturn hM d_V_hasEnded_19 (Or.inr rfl) ⟨rfl, rfl, b01_1 (by omega)⟩ | exact v_zreturn hM d_V_hasEnded_19 (Or.inl rfl) ⟨rfl, rfl, b01_0 (by omega)⟩ | exact v_zreturn hM d_V_hasEnded_19 b01_or ⟨rfl, rfl, rfl⟩
  · refine v_iconst d_V_hasEnded_14 ?_
    refine v_goto d_V_hasEnded_15 ?_
    first | exact v_zreturn hM d_V_hasEnded_19 (Or.inr rfl) ⟨rfl, rfl, b01_1 (by omega)⟩ | exact v_zreturn hM d_V_hasEnded_19 (Or.inl rfl) ⟨rfl, rfl, b01_0 (by omega)⟩ | exact v_zreturn hM d_V_hasEnded_19 b01_or ⟨rfl, rfl, rfl⟩

theorem c_V_servesToday {T : vSh} {σ : vMem} {A : Int → Int} (hC : CR σ A) (hO : okA A) {n : Int} (h0 : vIn n) : mt_V_servesToday [.ref 0, .int (iI n)] (S0 ++ T) σ (rF (S0 ++ T) σ (b01 ((0 ≤ n ∧ n < A 1) ∧ srvF A n (A 4)))) := by
  refine vMet.intro 0 (by decide +kernel) (Nat.le_of_ble_eq_true rfl) rfl (fun cx hM _ => ?_)
  obtain ⟨⟨q0, q1, q2, q3, q4, q5, q6, q7⟩, hVi, hWe, hCo, hOf, hBo, hWo, hMo, hRe, hLi, hTa⟩ := id hO
  obtain ⟨⟨l0, l1, lV, lC, lZ, lS⟩, ⟨b0, b1, bO, bB⟩, ⟨w0, wR, wL⟩, ⟨t0, t1, t2, tR, tB⟩, ⟨n9, nW⟩, m0, mM⟩ := id hC
  refine v_aload0 d_V_servesToday_0 ?_
  refine v_iload1 d_V_servesToday_1 ?_
  refine v_fVZ1 d_V_servesToday_2 l_V_150 k_V_isOfficer (c_V_isOfficer hC hO (by omega)) (sh_0 T) rfl (by decide) (by decide) (Nat.le_of_ble_eq_true rfl) (Nat.zero_le _) (Nat.zero_le _) (fun g2 => ?_)
  refine v_ifb_eq d_V_servesToday_5 (fun u5 => ?_) (fun u5 => ?_)
  · refine v_iconst d_V_servesToday_30 ?_
    first | exact v_zreturn hM d_V_servesToday_31 (Or.inr rfl) ⟨rfl, rfl, b01_1 (by omega)⟩ | exact v_zreturn hM d_V_servesToday_31 (Or.inl rfl) ⟨rfl, rfl, b01_0 (by omega)⟩ | exact v_zreturn hM d_V_servesToday_31 b01_or ⟨rfl, rfl, rfl⟩
  · refine v_aload0 d_V_servesToday_8 ?_
    refine v_getR d_V_servesToday_9 f_V_71 (sh_0 T) rfl ?_
    refine v_iload1 d_V_servesToday_12 ?_
    refine v_aload0 d_V_servesToday_13 ?_
    refine v_getR d_V_servesToday_14 f_V_66 (sh_0 T) rfl ?_
    refine v_getJ (ji := 0) d_V_servesToday_17 f_V_113 (sh_2 T) rfl rfl (fun g17 => ?_)
    rw [l0]
    refine v_fVZ2 d_V_servesToday_20 l_V_187 k_Bo_serves (c_Bo_serves hC hO (by omega) (by omega)) (sh_10 T) rfl (by decide) (by decide) (Nat.le_of_ble_eq_true rfl) (Nat.zero_le _) (Nat.zero_le _) (fun g20 => ?_)
    refine v_ifb_eq d_V_servesToday_23 (fun u23 => ?_) (fun u23 => ?_)
    · refine v_iconst d_V_servesToday_30 ?_
      first | exact v_zreturn hM d_V_servesToday_31 (Or.inr rfl) ⟨rfl, rfl, b01_1 (by omega)⟩ | exact v_zreturn hM d_V_servesToday_31 (Or.inl rfl) ⟨rfl, rfl, b01_0 (by omega)⟩ | exact v_zreturn hM d_V_servesToday_31 b01_or ⟨rfl, rfl, rfl⟩
    · refine v_iconst d_V_servesToday_26 ?_
      refine v_goto d_V_servesToday_27 ?_
      first | exact v_zreturn hM d_V_servesToday_31 (Or.inr rfl) ⟨rfl, rfl, b01_1 (by omega)⟩ | exact v_zreturn hM d_V_servesToday_31 (Or.inl rfl) ⟨rfl, rfl, b01_0 (by omega)⟩ | exact v_zreturn hM d_V_servesToday_31 b01_or ⟨rfl, rfl, rfl⟩

theorem c_V_come {T : vSh} {σ : vMem} {A : Int → Int} (hC : CR σ A) (hO : okA A) {v s : Int} (h0 : vIn v) (h1 : vIn s) : mt_V_come [.ref 0, .int (iI v), .int (iI s)] (S0 ++ T) σ (rF (S0 ++ T) σ (rCome A v s)) := by
  refine vMet.intro 0 (by decide +kernel) (Nat.le_of_ble_eq_true rfl) rfl (fun cx hM _ => ?_)
  obtain ⟨⟨q0, q1, q2, q3, q4, q5, q6, q7⟩, hVi, hWe, hCo, hOf, hBo, hWo, hMo, hRe, hLi, hTa⟩ := id hO
  obtain ⟨⟨l0, l1, lV, lC, lZ, lS⟩, ⟨b0, b1, bO, bB⟩, ⟨w0, wR, wL⟩, ⟨t0, t1, t2, tR, tB⟩, ⟨n9, nW⟩, m0, mM⟩ := id hC
  refine v_aload0 d_V_come_0 ?_
  refine v_iload1 d_V_come_1 ?_
  refine v_fVZ1 d_V_come_2 l_V_107 k_V_isVillage (c_V_isVillage hC hO (by omega)) (sh_0 T) rfl (by decide) (by decide) (Nat.le_of_ble_eq_true rfl) (Nat.zero_le _) (Nat.zero_le _) (fun g2 => ?_)
  refine v_ifb_eq d_V_come_5 (fun u5 => ?_) (fun u5 => ?_)
  · refine v_iconst d_V_come_23 ?_
    first
    | (have hc9 := lC v s (by omega) (by omega) (by omega) (by omega)
       exact v_ireturn hM d_V_come_24 g38 ⟨rfl, rfl, by rw [rCome, if_pos (by omega)]; exact hc9⟩)
    | (exact v_ireturn hM d_V_come_24 (by omega) ⟨rfl, rfl, by rw [rCome, if_neg (by omega)]⟩)
  · refine v_iload2 d_V_come_8 ?_
    refine v_fSZ1 d_V_come_9 l_V_96 k_V_isSeason (c_V_isSeason (by omega)) (by decide) (by decide) (Nat.le_of_ble_eq_true rfl) (Nat.zero_le _) (Nat.zero_le _) (fun g9 => ?_)
    refine v_ifb_eq d_V_come_12 (fun u12 => ?_) (fun u12 => ?_)
    · refine v_iconst d_V_come_23 ?_
      first
      | (have hc9 := lC v s (by omega) (by omega) (by omega) (by omega)
         exact v_ireturn hM d_V_come_24 g38 ⟨rfl, rfl, by rw [rCome, if_pos (by omega)]; exact hc9⟩)
      | (exact v_ireturn hM d_V_come_24 (by omega) ⟨rfl, rfl, by rw [rCome, if_neg (by omega)]⟩)
    · refine v_aload0 d_V_come_15 ?_
      refine v_iload2 d_V_come_16 ?_
      refine v_fVZ1 d_V_come_17 l_V_100 k_V_hasEnded (c_V_hasEnded hC hO (by omega)) (sh_0 T) rfl (by decide) (by decide) (Nat.le_of_ble_eq_true rfl) (Nat.zero_le _) (Nat.zero_le _) (fun g17 => ?_)
      refine v_ifb_ne d_V_come_20 (fun u20 => ?_) (fun u20 => ?_)
      · refine v_aload0 d_V_come_25 ?_
        refine v_getR d_V_come_26 f_V_66 (sh_0 T) rfl ?_
        refine v_getR d_V_come_29 f_V_120 (sh_2 T) rfl ?_
        refine v_iload1 d_V_come_32 ?_
        refine v_bipush d_V_come_33 rfl ?_
        refine v_imul d_V_come_35 ?_
        refine v_iload2 d_V_come_36 ?_
        refine v_iadd d_V_come_37 ?_
        refine v_iaload d_V_come_38 (sh_8 T) (by omega) (fun g38 => ?_)
        first
        | (have hc9 := lC v s (by omega) (by omega) (by omega) (by omega)
           exact v_ireturn hM d_V_come_39 g38 ⟨rfl, rfl, by rw [rCome, if_pos (by omega)]; exact hc9⟩)
        | (exact v_ireturn hM d_V_come_39 (by omega) ⟨rfl, rfl, by rw [rCome, if_neg (by omega)]⟩)
      · refine v_iconst d_V_come_23 ?_
        first
        | (have hc9 := lC v s (by omega) (by omega) (by omega) (by omega)
           exact v_ireturn hM d_V_come_24 g38 ⟨rfl, rfl, by rw [rCome, if_pos (by omega)]; exact hc9⟩)
        | (exact v_ireturn hM d_V_come_24 (by omega) ⟨rfl, rfl, by rw [rCome, if_neg (by omega)]⟩)

theorem c_V_holder {T : vSh} {σ : vMem} {A : Int → Int} (hC : CR σ A) (hO : okA A) {v dd k : Int} (h0 : vIn v) (h1 : vIn dd) (h2 : vIn k) : mt_V_holder [.ref 0, .int (iI v), .int (iI dd), .int (iI k)] (S0 ++ T) σ (rF (S0 ++ T) σ (rHolder A v dd k)) := by
  refine vMet.intro 0 (by decide +kernel) (Nat.le_of_ble_eq_true rfl) rfl (fun cx hM _ => ?_)
  obtain ⟨⟨q0, q1, q2, q3, q4, q5, q6, q7⟩, hVi, hWe, hCo, hOf, hBo, hWo, hMo, hRe, hLi, hTa⟩ := id hO
  obtain ⟨⟨l0, l1, lV, lC, lZ, lS⟩, ⟨b0, b1, bO, bB⟩, ⟨w0, wR, wL⟩, ⟨t0, t1, t2, tR, tB⟩, ⟨n9, nW⟩, m0, mM⟩ := id hC
  refine v_aload0 d_V_holder_0 ?_
  refine v_iload1 d_V_holder_1 ?_
  refine v_fVZ1 d_V_holder_2 l_V_107 k_V_isVillage (c_V_isVillage hC hO (by omega)) (sh_0 T) rfl (by decide) (by decide) (Nat.le_of_ble_eq_true rfl) (Nat.zero_le _) (Nat.zero_le _) (fun g2 => ?_)
  refine v_ifb_eq d_V_holder_5 (fun u5 => ?_) (fun u5 => ?_)
  · refine v_bipush d_V_holder_23 rfl ?_
    first
    | (exact v_ireturn hM d_V_holder_25 g33 ⟨rfl, rfl, by rw [rHolder, if_pos (by omega)]⟩)
    | (exact v_ireturn hM d_V_holder_25 (by omega) ⟨rfl, rfl, by rw [rHolder, if_neg (by omega)]⟩)
  · refine v_iload2 d_V_holder_8 ?_
    refine v_fSZ1 d_V_holder_9 l_V_156 k_V_isDay (c_V_isDay (by omega)) (by decide) (by decide) (Nat.le_of_ble_eq_true rfl) (Nat.zero_le _) (Nat.zero_le _) (fun g9 => ?_)
    refine v_ifb_eq d_V_holder_12 (fun u12 => ?_) (fun u12 => ?_)
    · refine v_bipush d_V_holder_23 rfl ?_
      first
      | (exact v_ireturn hM d_V_holder_25 g33 ⟨rfl, rfl, by rw [rHolder, if_pos (by omega)]⟩)
      | (exact v_ireturn hM d_V_holder_25 (by omega) ⟨rfl, rfl, by rw [rHolder, if_neg (by omega)]⟩)
    · refine v_aload0 d_V_holder_15 ?_
      refine v_iload3 d_V_holder_16 ?_
      refine v_fVZ1 d_V_holder_17 l_V_181 k_V_isKnownDay (c_V_isKnownDay hC hO (by omega)) (sh_0 T) rfl (by decide) (by decide) (Nat.le_of_ble_eq_true rfl) (Nat.zero_le _) (Nat.zero_le _) (fun g17 => ?_)
      refine v_ifb_ne d_V_holder_20 (fun u20 => ?_) (fun u20 => ?_)
      · refine v_aload0 d_V_holder_26 ?_
        refine v_getR d_V_holder_27 f_V_71 (sh_0 T) rfl ?_
        refine v_iload1 d_V_holder_30 ?_
        refine v_iload2 d_V_holder_31 ?_
        refine v_iload3 d_V_holder_32 ?_
        refine v_fVI3 d_V_holder_33 l_V_184 k_Bo_holderOn (c_Bo_holderOn hC hO (by omega) (by omega) (by omega)) (sh_10 T) rfl (by decide) (by decide) (Nat.le_of_ble_eq_true rfl) (Nat.zero_le _) (Nat.zero_le _) (fun g33 => ?_)
        first
        | (exact v_ireturn hM d_V_holder_36 g33 ⟨rfl, rfl, by rw [rHolder, if_pos (by omega)]⟩)
        | (exact v_ireturn hM d_V_holder_36 (by omega) ⟨rfl, rfl, by rw [rHolder, if_neg (by omega)]⟩)
      · refine v_bipush d_V_holder_23 rfl ?_
        first
        | (exact v_ireturn hM d_V_holder_25 g33 ⟨rfl, rfl, by rw [rHolder, if_pos (by omega)]⟩)
        | (exact v_ireturn hM d_V_holder_25 (by omega) ⟨rfl, rfl, by rw [rHolder, if_neg (by omega)]⟩)

theorem c_V_rank {T : vSh} {σ : vMem} {A : Int → Int} (hC : CR σ A) (hO : okA A) {oo dd k : Int} (h0 : vIn oo) (h1 : vIn dd) (h2 : vIn k) : mt_V_rank [.ref 0, .int (iI oo), .int (iI dd), .int (iI k)] (S0 ++ T) σ (rF (S0 ++ T) σ (rRank A oo dd k)) := by
  refine vMet.intro 0 (by decide +kernel) (Nat.le_of_ble_eq_true rfl) rfl (fun cx hM _ => ?_)
  obtain ⟨⟨q0, q1, q2, q3, q4, q5, q6, q7⟩, hVi, hWe, hCo, hOf, hBo, hWo, hMo, hRe, hLi, hTa⟩ := id hO
  obtain ⟨⟨l0, l1, lV, lC, lZ, lS⟩, ⟨b0, b1, bO, bB⟩, ⟨w0, wR, wL⟩, ⟨t0, t1, t2, tR, tB⟩, ⟨n9, nW⟩, m0, mM⟩ := id hC
  refine v_aload0 d_V_rank_0 ?_
  refine v_iload1 d_V_rank_1 ?_
  refine v_fVZ1 d_V_rank_2 l_V_150 k_V_isOfficer (c_V_isOfficer hC hO (by omega)) (sh_0 T) rfl (by decide) (by decide) (Nat.le_of_ble_eq_true rfl) (Nat.zero_le _) (Nat.zero_le _) (fun g2 => ?_)
  refine v_ifb_eq d_V_rank_5 (fun u5 => ?_) (fun u5 => ?_)
  · refine v_iconst d_V_rank_35 ?_
    first
    | (exact v_ireturn hM d_V_rank_36 g44 ⟨rfl, rfl, by rw [rRank, if_pos (by omega)]⟩)
    | (exact v_ireturn hM d_V_rank_36 (by omega) ⟨rfl, rfl, by rw [rRank, if_neg (by omega)]⟩)
  · refine v_iload2 d_V_rank_8 ?_
    refine v_fSZ1 d_V_rank_9 l_V_156 k_V_isDay (c_V_isDay (by omega)) (by decide) (by decide) (Nat.le_of_ble_eq_true rfl) (Nat.zero_le _) (Nat.zero_le _) (fun g9 => ?_)
    refine v_ifb_eq d_V_rank_12 (fun u12 => ?_) (fun u12 => ?_)
    · refine v_iconst d_V_rank_35 ?_
      first
      | (exact v_ireturn hM d_V_rank_36 g44 ⟨rfl, rfl, by rw [rRank, if_pos (by omega)]⟩)
      | (exact v_ireturn hM d_V_rank_36 (by omega) ⟨rfl, rfl, by rw [rRank, if_neg (by omega)]⟩)
    · refine v_aload0 d_V_rank_15 ?_
      refine v_iload3 d_V_rank_16 ?_
      refine v_fVZ1 d_V_rank_17 l_V_181 k_V_isKnownDay (c_V_isKnownDay hC hO (by omega)) (sh_0 T) rfl (by decide) (by decide) (Nat.le_of_ble_eq_true rfl) (Nat.zero_le _) (Nat.zero_le _) (fun g17 => ?_)
      refine v_ifb_eq d_V_rank_20 (fun u20 => ?_) (fun u20 => ?_)
      · refine v_iconst d_V_rank_35 ?_
        first
        | (exact v_ireturn hM d_V_rank_36 g44 ⟨rfl, rfl, by rw [rRank, if_pos (by omega)]⟩)
        | (exact v_ireturn hM d_V_rank_36 (by omega) ⟨rfl, rfl, by rw [rRank, if_neg (by omega)]⟩)
      · refine v_aload0 d_V_rank_23 ?_
        refine v_getR d_V_rank_24 f_V_71 (sh_0 T) rfl ?_
        refine v_iload1 d_V_rank_27 ?_
        refine v_iload2 d_V_rank_28 ?_
        refine v_fVZ2 d_V_rank_29 l_V_187 k_Bo_serves (c_Bo_serves hC hO (by omega) (by omega)) (sh_10 T) rfl (by decide) (by decide) (Nat.le_of_ble_eq_true rfl) (Nat.zero_le _) (Nat.zero_le _) (fun g29 => ?_)
        refine v_ifb_ne d_V_rank_32 (fun u32 => ?_) (fun u32 => ?_)
        · refine v_aload0 d_V_rank_37 ?_
          refine v_getR d_V_rank_38 f_V_71 (sh_0 T) rfl ?_
          refine v_iload1 d_V_rank_41 ?_
          refine v_iload2 d_V_rank_42 ?_
          refine v_iload3 d_V_rank_43 ?_
          refine v_fVI3 d_V_rank_44 l_V_191 k_Bo_rankOn (c_Bo_rankOn hC hO (by omega) (by omega) (by omega)) (sh_10 T) rfl (by decide) (by decide) (Nat.le_of_ble_eq_true rfl) (Nat.zero_le _) (Nat.zero_le _) (fun g44 => ?_)
          first
          | (exact v_ireturn hM d_V_rank_47 g44 ⟨rfl, rfl, by rw [rRank, if_pos (by omega)]⟩)
          | (exact v_ireturn hM d_V_rank_47 (by omega) ⟨rfl, rfl, by rw [rRank, if_neg (by omega)]⟩)
        · refine v_iconst d_V_rank_35 ?_
          first
          | (exact v_ireturn hM d_V_rank_36 g44 ⟨rfl, rfl, by rw [rRank, if_pos (by omega)]⟩)
          | (exact v_ireturn hM d_V_rank_36 (by omega) ⟨rfl, rfl, by rw [rRank, if_neg (by omega)]⟩)

theorem c_V_order {T : vSh} {σ : vMem} {A : Int → Int} (hC : CR σ A) (hO : okA A) {i w : Int} (h0 : vIn i) (h1 : vIn w) : mt_V_order [.ref 0, .int (iI i), .int (iI w)] (S0 ++ T) σ (rF (S0 ++ T) σ (rOrder A i w)) := by
  refine vMet.intro 0 (by decide +kernel) (Nat.le_of_ble_eq_true rfl) rfl (fun cx hM _ => ?_)
  obtain ⟨⟨q0, q1, q2, q3, q4, q5, q6, q7⟩, hVi, hWe, hCo, hOf, hBo, hWo, hMo, hRe, hLi, hTa⟩ := id hO
  obtain ⟨⟨l0, l1, lV, lC, lZ, lS⟩, ⟨b0, b1, bO, bB⟩, ⟨w0, wR, wL⟩, ⟨t0, t1, t2, tR, tB⟩, ⟨n9, nW⟩, m0, mM⟩ := id hC
  refine v_iload1 d_V_order_0 ?_
  refine v_if_lt d_V_order_1 (by omega) (fun u1 => ?_) (fun u1 => ?_)
  · refine v_bipush d_V_order_15 rfl ?_
    first
    | (have hb9 := bB i (by omega) (by omega)
       exact v_ireturn hM d_V_order_17 (by omega) ⟨rfl, rfl, by rw [rOrder, if_pos (by omega), hs]; omega⟩)
    | (exact v_ireturn hM d_V_order_17 (by omega) ⟨rfl, rfl, by rw [rOrder, if_neg (by omega)]⟩)
  · refine v_iload1 d_V_order_4 ?_
    refine v_aload0 d_V_order_5 ?_
    refine v_getR d_V_order_6 f_V_71 (sh_0 T) rfl ?_
    refine v_getJ (ji := 5) d_V_order_9 f_V_159 (sh_10 T) rfl rfl (fun g9 => ?_)
    refine v_icmp_lt d_V_order_12 (by omega) (by omega) (fun u12 => ?_) (fun u12 => ?_)
    · refine v_iload2 d_V_order_18 ?_
      rcases (show (w < 0 ∨ 4 < w) ∨ w = 0 ∨ w = 1 ∨ w = 2 ∨ w = 3 ∨ w = 4 by omega) with hs | hs | hs | hs | hs | hs
      · refine v_tableOut d_V_order_19 (by omega) hs (tgt := 102) rfl ?_
        refine v_bipush d_V_order_102 rfl ?_
        first
        | (have hb9 := bB i (by omega) (by omega)
           exact v_ireturn hM d_V_order_104 (by omega) ⟨rfl, rfl, by rw [rOrder, if_pos (by omega), hs]; omega⟩)
        | (exact v_ireturn hM d_V_order_104 (by omega) ⟨rfl, rfl, by rw [rOrder, if_neg (by omega)]⟩)
      · refine v_table d_V_order_19 (by omega) (by omega) (by omega) (off := 33) (tgt := 52) (by rw [hs]; rfl) rfl ?_
        refine v_aload0 d_V_order_52 ?_
        refine v_getR d_V_order_53 f_V_71 (sh_0 T) rfl ?_
        refine v_getR d_V_order_56 f_V_166 (sh_10 T) rfl ?_
        refine v_iload1 d_V_order_59 ?_
        refine v_iaload d_V_order_60 (sh_15 T) (by omega) (fun g60 => ?_)
        first
        | (have hb9 := bB i (by omega) (by omega)
           exact v_ireturn hM d_V_order_61 (by omega) ⟨rfl, rfl, by rw [rOrder, if_pos (by omega), hs]; omega⟩)
        | (exact v_ireturn hM d_V_order_61 (by omega) ⟨rfl, rfl, by rw [rOrder, if_neg (by omega)]⟩)
      · refine v_table d_V_order_19 (by omega) (by omega) (by omega) (off := 43) (tgt := 62) (by rw [hs]; rfl) rfl ?_
        refine v_aload0 d_V_order_62 ?_
        refine v_getR d_V_order_63 f_V_71 (sh_0 T) rfl ?_
        refine v_getR d_V_order_66 f_V_169 (sh_10 T) rfl ?_
        refine v_iload1 d_V_order_69 ?_
        refine v_iaload d_V_order_70 (sh_16 T) (by omega) (fun g70 => ?_)
        first
        | (have hb9 := bB i (by omega) (by omega)
           exact v_ireturn hM d_V_order_71 (by omega) ⟨rfl, rfl, by rw [rOrder, if_pos (by omega), hs]; omega⟩)
        | (exact v_ireturn hM d_V_order_71 (by omega) ⟨rfl, rfl, by rw [rOrder, if_neg (by omega)]⟩)
      · refine v_table d_V_order_19 (by omega) (by omega) (by omega) (off := 53) (tgt := 72) (by rw [hs]; rfl) rfl ?_
        refine v_aload0 d_V_order_72 ?_
        refine v_getR d_V_order_73 f_V_71 (sh_0 T) rfl ?_
        refine v_getR d_V_order_76 f_V_172 (sh_10 T) rfl ?_
        refine v_iload1 d_V_order_79 ?_
        refine v_iaload d_V_order_80 (sh_17 T) (by omega) (fun g80 => ?_)
        first
        | (have hb9 := bB i (by omega) (by omega)
           exact v_ireturn hM d_V_order_81 (by omega) ⟨rfl, rfl, by rw [rOrder, if_pos (by omega), hs]; omega⟩)
        | (exact v_ireturn hM d_V_order_81 (by omega) ⟨rfl, rfl, by rw [rOrder, if_neg (by omega)]⟩)
      · refine v_table d_V_order_19 (by omega) (by omega) (by omega) (off := 63) (tgt := 82) (by rw [hs]; rfl) rfl ?_
        refine v_aload0 d_V_order_82 ?_
        refine v_getR d_V_order_83 f_V_71 (sh_0 T) rfl ?_
        refine v_getR d_V_order_86 f_V_175 (sh_10 T) rfl ?_
        refine v_iload1 d_V_order_89 ?_
        refine v_iaload d_V_order_90 (sh_18 T) (by omega) (fun g90 => ?_)
        first
        | (have hb9 := bB i (by omega) (by omega)
           exact v_ireturn hM d_V_order_91 (by omega) ⟨rfl, rfl, by rw [rOrder, if_pos (by omega), hs]; omega⟩)
        | (exact v_ireturn hM d_V_order_91 (by omega) ⟨rfl, rfl, by rw [rOrder, if_neg (by omega)]⟩)
      · refine v_table d_V_order_19 (by omega) (by omega) (by omega) (off := 73) (tgt := 92) (by rw [hs]; rfl) rfl ?_
        refine v_aload0 d_V_order_92 ?_
        refine v_getR d_V_order_93 f_V_71 (sh_0 T) rfl ?_
        refine v_getR d_V_order_96 f_V_178 (sh_10 T) rfl ?_
        refine v_iload1 d_V_order_99 ?_
        refine v_iaload d_V_order_100 (sh_19 T) (by omega) (fun g100 => ?_)
        first
        | (have hb9 := bB i (by omega) (by omega)
           exact v_ireturn hM d_V_order_101 (by omega) ⟨rfl, rfl, by rw [rOrder, if_pos (by omega), hs]; omega⟩)
        | (exact v_ireturn hM d_V_order_101 (by omega) ⟨rfl, rfl, by rw [rOrder, if_neg (by omega)]⟩)
    · refine v_bipush d_V_order_15 rfl ?_
      first
      | (have hb9 := bB i (by omega) (by omega)
         exact v_ireturn hM d_V_order_17 (by omega) ⟨rfl, rfl, by rw [rOrder, if_pos (by omega), hs]; omega⟩)
      | (exact v_ireturn hM d_V_order_17 (by omega) ⟨rfl, rfl, by rw [rOrder, if_neg (by omega)]⟩)

theorem c_V_isOver {T : vSh} {σ : vMem} {A : Int → Int} (hC : CR σ A) (hO : okA A) {v : Int} (h0 : 0 ≤ v ∧ v < A 0) : mt_V_isOver [.ref 0, .int (iI v)] (S0 ++ T) σ (rP (S0 ++ T) (fun z σ2 => z = b01 (overP A v) ∧ CF σ σ2)) := by
  refine vMet.intro 1 (by decide +kernel) (Nat.le_of_ble_eq_true rfl) rfl (fun cx hM _ => ?_)
  obtain ⟨⟨q0, q1, q2, q3, q4, q5, q6, q7⟩, hVi, hWe, hCo, hOf, hBo, hWo, hMo, hRe, hLi, hTa⟩ := id hO
  obtain ⟨⟨l0, l1, lV, lC, lZ, lS⟩, ⟨b0, b1, bO, bB⟩, ⟨w0, wR, wL⟩, ⟨t0, t1, t2, tR, tB⟩, ⟨n9, nW⟩, m0, mM⟩ := id hC
  have hhr := heldF_rng hO v (A 4) (A 4)
  refine v_aload0 d_V_isOver_0 ?_
  refine v_getR d_V_isOver_1 f_V_10 (sh_0 T) rfl ?_
  refine v_iload1 d_V_isOver_4 ?_
  refine v_fVI1 d_V_isOver_5 l_V_135 k_St_holderToday (c_St_holderToday hC hO (by omega)) (sh_1 T) rfl (by decide) (by decide) (Nat.le_of_ble_eq_true rfl) (Nat.zero_le _) (Nat.zero_le _) (fun g5 => ?_)
  refine v_istore2 d_V_isOver_8 (by decide) rfl ?_
  refine v_iload2 d_V_isOver_9 ?_
  refine v_iconst d_V_isOver_10 ?_
  refine v_icmp_ne d_V_isOver_11 (by omega) (by omega) (fun u11 => ?_) (fun u11 => ?_)
  · refine v_aload0 d_V_isOver_16 ?_
    refine v_getR d_V_isOver_17 f_V_42 (sh_0 T) rfl ?_
    refine v_iload2 d_V_isOver_20 ?_
    refine v_aload0 d_V_isOver_21 ?_
    refine v_getR d_V_isOver_22 f_V_66 (sh_0 T) rfl ?_
    refine v_getJ (ji := 0) d_V_isOver_25 f_V_113 (sh_2 T) rfl rfl (fun g25 => ?_)
    refine v_aload0 d_V_isOver_28 ?_
    refine v_getR d_V_isOver_29 f_V_66 (sh_0 T) rfl ?_
    refine v_getJ (ji := 0) d_V_isOver_32 f_V_113 (sh_2 T) rfl rfl (fun g32 => ?_)
    rw [l0]
    have hsv := heldF_srv (A := A) (v := v) (dd := A 4) (k := A 4) (by omega)
    refine v_gVV3 d_V_isOver_35 l_V_222 k_Sc_reckon (c_Sc_reckon hC hO (by omega) (by omega) (by omega) (by omega)) (sh_46 T) rfl (by decide) (by decide) (Nat.le_of_ble_eq_true rfl) (Nat.zero_le _) (Nat.zero_le _) (fun z35 s35 e35 => ?_)
    have h35 := e35.2.2.2.2
    have hs9 := scF_rng hO (heldF A v (A 4) (A 4)) (A 4) (A 4)
    have e7 : s35 7 = σ 7 := e35.1 7 (by decide)
    have hvi := hVi v (by omega) (by omega)
    have hlv := lV v (by omega) (by omega)
    rw [← e7] at hlv
    refine v_aload0 d_V_isOver_38 ?_
    refine v_getR d_V_isOver_39 f_V_66 (sh_0 T) rfl ?_
    refine v_getR d_V_isOver_42 f_V_110 (sh_2 T) rfl ?_
    refine v_iload1 d_V_isOver_45 ?_
    refine v_iaload d_V_isOver_46 (sh_7 T) (by omega) (fun g46 => ?_)
    refine v_aload0 d_V_isOver_47 ?_
    refine v_getR d_V_isOver_48 f_V_42 (sh_0 T) rfl ?_
    refine v_getJ (ji := 4) d_V_isOver_51 f_V_235 (sh_46 T) rfl rfl (fun g51 => ?_)
    refine v_icmp_le d_V_isOver_54 (by omega) (by omega) (fun u54 => ?_) (fun u54 => ?_)
    · refine v_iconst d_V_isOver_61 ?_
      first | exact v_zreturn hM d_V_isOver_62 (Or.inl rfl) ⟨rfl, b01_0 (by omega), CF_46 e35.1⟩ | exact v_zreturn hM d_V_isOver_62 (Or.inr rfl) ⟨rfl, b01_1 (by omega), CF_46 e35.1⟩
    · refine v_iconst d_V_isOver_57 ?_
      refine v_goto d_V_isOver_58 ?_
      first | exact v_zreturn hM d_V_isOver_62 (Or.inl rfl) ⟨rfl, b01_0 (by omega), CF_46 e35.1⟩ | exact v_zreturn hM d_V_isOver_62 (Or.inr rfl) ⟨rfl, b01_1 (by omega), CF_46 e35.1⟩
  · refine v_iconst d_V_isOver_14 ?_
    exact v_zreturn hM d_V_isOver_15 (Or.inl rfl) ⟨rfl, b01_0 (by omega), CF.rfl'⟩

theorem c_V_about {T : vSh} {σ : vMem} {A : Int → Int} (hC : CR σ A) (hO : okA A) {v w : Int} (h0 : vIn v) (h1 : vIn w) : mt_V_about [.ref 0, .int (iI v), .int (iI w)] (S0 ++ T) σ (rP (S0 ++ T) (fun z σ2 => z = rAbout A v w ∧ CF σ σ2)) := by
  refine vMet.intro 0 (by decide +kernel) (Nat.le_of_ble_eq_true rfl) rfl (fun cx hM _ => ?_)
  obtain ⟨⟨q0, q1, q2, q3, q4, q5, q6, q7⟩, hVi, hWe, hCo, hOf, hBo, hWo, hMo, hRe, hLi, hTa⟩ := id hO
  obtain ⟨⟨l0, l1, lV, lC, lZ, lS⟩, ⟨b0, b1, bO, bB⟩, ⟨w0, wR, wL⟩, ⟨t0, t1, t2, tR, tB⟩, ⟨n9, nW⟩, m0, mM⟩ := id hC
  refine v_aload0 d_V_about_0 ?_
  refine v_iload1 d_V_about_1 ?_
  refine v_fVZ1 d_V_about_2 l_V_107 k_V_isVillage (c_V_isVillage hC hO (by omega)) (sh_0 T) rfl (by decide) (by decide) (Nat.le_of_ble_eq_true rfl) (Nat.zero_le _) (Nat.zero_le _) (fun g2 => ?_)
  refine v_ifb_ne d_V_about_5 (fun u5 => ?_) (fun u5 => ?_)
  · have hlv := lV v (by omega) (by omega)
    have hhr := heldF_rng hO v (A 4) (A 4)
    refine v_iload2 d_V_about_11 ?_
    rcases (show (w < 0 ∨ 6 < w) ∨ w = 0 ∨ w = 1 ∨ w = 2 ∨ w = 3 ∨ w = 4 ∨ w = 5 ∨ w = 6 by omega) with hs | hs | hs | hs | hs | hs | hs | hs
    · refine v_tableOut d_V_about_12 (by omega) hs (tgt := 129) rfl ?_
      refine v_bipush d_V_about_129 rfl ?_
      first
      | (exact v_ireturn hM d_V_about_131 (by omega) ⟨rfl, by rw [rAbout, if_neg (by omega), if_pos (by omega), hs]; omega, CF.rfl'⟩)
      | (exact v_ireturn hM d_V_about_131 (by omega) ⟨rfl, by rw [rAbout, if_neg (by omega), if_neg (by omega), if_pos (by omega)], CF.rfl'⟩)
      | (exact v_ireturn hM d_V_about_131 (by omega) ⟨rfl, by rw [rAbout, if_neg (by omega), if_neg (by omega), if_neg (by omega), if_pos (by omega), ← e117.1]; omega, e117.2⟩)
      | (exact v_ireturn hM d_V_about_131 (by omega) ⟨rfl, by rw [rAbout, if_neg (by omega), if_neg (by omega), if_neg (by omega), if_neg (by omega)], CF.rfl'⟩)
    · refine v_table d_V_about_12 (by omega) (by omega) (by omega) (off := 44) (tgt := 56) (by rw [hs]; rfl) rfl ?_
      refine v_aload0 d_V_about_56 ?_
      refine v_getR d_V_about_57 f_V_66 (sh_0 T) rfl ?_
      refine v_getR d_V_about_60 f_V_123 (sh_2 T) rfl ?_
      refine v_iload1 d_V_about_63 ?_
      refine v_iaload d_V_about_64 (sh_3 T) (by omega) (fun g64 => ?_)
      first
      | (exact v_ireturn hM d_V_about_65 (by omega) ⟨rfl, by rw [rAbout, if_neg (by omega), if_pos (by omega), hs]; omega, CF.rfl'⟩)
      | (exact v_ireturn hM d_V_about_65 (by omega) ⟨rfl, by rw [rAbout, if_neg (by omega), if_neg (by omega), if_pos (by omega)], CF.rfl'⟩)
      | (exact v_ireturn hM d_V_about_65 (by omega) ⟨rfl, by rw [rAbout, if_neg (by omega), if_neg (by omega), if_neg (by omega), if_pos (by omega), ← e117.1]; omega, e117.2⟩)
      | (exact v_ireturn hM d_V_about_65 (by omega) ⟨rfl, by rw [rAbout, if_neg (by omega), if_neg (by omega), if_neg (by omega), if_neg (by omega)], CF.rfl'⟩)
    · refine v_table d_V_about_12 (by omega) (by omega) (by omega) (off := 54) (tgt := 66) (by rw [hs]; rfl) rfl ?_
      refine v_aload0 d_V_about_66 ?_
      refine v_getR d_V_about_67 f_V_66 (sh_0 T) rfl ?_
      refine v_getR d_V_about_70 f_V_126 (sh_2 T) rfl ?_
      refine v_iload1 d_V_about_73 ?_
      refine v_iaload d_V_about_74 (sh_4 T) (by omega) (fun g74 => ?_)
      first
      | (exact v_ireturn hM d_V_about_75 (by omega) ⟨rfl, by rw [rAbout, if_neg (by omega), if_pos (by omega), hs]; omega, CF.rfl'⟩)
      | (exact v_ireturn hM d_V_about_75 (by omega) ⟨rfl, by rw [rAbout, if_neg (by omega), if_neg (by omega), if_pos (by omega)], CF.rfl'⟩)
      | (exact v_ireturn hM d_V_about_75 (by omega) ⟨rfl, by rw [rAbout, if_neg (by omega), if_neg (by omega), if_neg (by omega), if_pos (by omega), ← e117.1]; omega, e117.2⟩)
      | (exact v_ireturn hM d_V_about_75 (by omega) ⟨rfl, by rw [rAbout, if_neg (by omega), if_neg (by omega), if_neg (by omega), if_neg (by omega)], CF.rfl'⟩)
    · refine v_table d_V_about_12 (by omega) (by omega) (by omega) (off := 64) (tgt := 76) (by rw [hs]; rfl) rfl ?_
      refine v_aload0 d_V_about_76 ?_
      refine v_getR d_V_about_77 f_V_66 (sh_0 T) rfl ?_
      refine v_getR d_V_about_80 f_V_129 (sh_2 T) rfl ?_
      refine v_iload1 d_V_about_83 ?_
      refine v_iaload d_V_about_84 (sh_5 T) (by omega) (fun g84 => ?_)
      first
      | (exact v_ireturn hM d_V_about_85 (by omega) ⟨rfl, by rw [rAbout, if_neg (by omega), if_pos (by omega), hs]; omega, CF.rfl'⟩)
      | (exact v_ireturn hM d_V_about_85 (by omega) ⟨rfl, by rw [rAbout, if_neg (by omega), if_neg (by omega), if_pos (by omega)], CF.rfl'⟩)
      | (exact v_ireturn hM d_V_about_85 (by omega) ⟨rfl, by rw [rAbout, if_neg (by omega), if_neg (by omega), if_neg (by omega), if_pos (by omega), ← e117.1]; omega, e117.2⟩)
      | (exact v_ireturn hM d_V_about_85 (by omega) ⟨rfl, by rw [rAbout, if_neg (by omega), if_neg (by omega), if_neg (by omega), if_neg (by omega)], CF.rfl'⟩)
    · refine v_table d_V_about_12 (by omega) (by omega) (by omega) (off := 74) (tgt := 86) (by rw [hs]; rfl) rfl ?_
      refine v_aload0 d_V_about_86 ?_
      refine v_getR d_V_about_87 f_V_66 (sh_0 T) rfl ?_
      refine v_getR d_V_about_90 f_V_132 (sh_2 T) rfl ?_
      refine v_iload1 d_V_about_93 ?_
      refine v_iaload d_V_about_94 (sh_6 T) (by omega) (fun g94 => ?_)
      first
      | (exact v_ireturn hM d_V_about_95 (by omega) ⟨rfl, by rw [rAbout, if_neg (by omega), if_pos (by omega), hs]; omega, CF.rfl'⟩)
      | (exact v_ireturn hM d_V_about_95 (by omega) ⟨rfl, by rw [rAbout, if_neg (by omega), if_neg (by omega), if_pos (by omega)], CF.rfl'⟩)
      | (exact v_ireturn hM d_V_about_95 (by omega) ⟨rfl, by rw [rAbout, if_neg (by omega), if_neg (by omega), if_neg (by omega), if_pos (by omega), ← e117.1]; omega, e117.2⟩)
      | (exact v_ireturn hM d_V_about_95 (by omega) ⟨rfl, by rw [rAbout, if_neg (by omega), if_neg (by omega), if_neg (by omega), if_neg (by omega)], CF.rfl'⟩)
    · refine v_table d_V_about_12 (by omega) (by omega) (by omega) (off := 84) (tgt := 96) (by rw [hs]; rfl) rfl ?_
      refine v_aload0 d_V_about_96 ?_
      refine v_getR d_V_about_97 f_V_66 (sh_0 T) rfl ?_
      refine v_getR d_V_about_100 f_V_110 (sh_2 T) rfl ?_
      refine v_iload1 d_V_about_103 ?_
      refine v_iaload d_V_about_104 (sh_7 T) (by omega) (fun g104 => ?_)
      first
      | (exact v_ireturn hM d_V_about_105 (by omega) ⟨rfl, by rw [rAbout, if_neg (by omega), if_pos (by omega), hs]; omega, CF.rfl'⟩)
      | (exact v_ireturn hM d_V_about_105 (by omega) ⟨rfl, by rw [rAbout, if_neg (by omega), if_neg (by omega), if_pos (by omega)], CF.rfl'⟩)
      | (exact v_ireturn hM d_V_about_105 (by omega) ⟨rfl, by rw [rAbout, if_neg (by omega), if_neg (by omega), if_neg (by omega), if_pos (by omega), ← e117.1]; omega, e117.2⟩)
      | (exact v_ireturn hM d_V_about_105 (by omega) ⟨rfl, by rw [rAbout, if_neg (by omega), if_neg (by omega), if_neg (by omega), if_neg (by omega)], CF.rfl'⟩)
    · refine v_table d_V_about_12 (by omega) (by omega) (by omega) (off := 94) (tgt := 106) (by rw [hs]; rfl) rfl ?_
      refine v_aload0 d_V_about_106 ?_
      refine v_getR d_V_about_107 f_V_10 (sh_0 T) rfl ?_
      refine v_iload1 d_V_about_110 ?_
      refine v_fVI1 d_V_about_111 l_V_135 k_St_holderToday (c_St_holderToday hC hO (by omega)) (sh_1 T) rfl (by decide) (by decide) (Nat.le_of_ble_eq_true rfl) (Nat.zero_le _) (Nat.zero_le _) (fun g111 => ?_)
      first
      | (exact v_ireturn hM d_V_about_114 (by omega) ⟨rfl, by rw [rAbout, if_neg (by omega), if_pos (by omega), hs]; omega, CF.rfl'⟩)
      | (exact v_ireturn hM d_V_about_114 (by omega) ⟨rfl, by rw [rAbout, if_neg (by omega), if_neg (by omega), if_pos (by omega)], CF.rfl'⟩)
      | (exact v_ireturn hM d_V_about_114 (by omega) ⟨rfl, by rw [rAbout, if_neg (by omega), if_neg (by omega), if_neg (by omega), if_pos (by omega), ← e117.1]; omega, e117.2⟩)
      | (exact v_ireturn hM d_V_about_114 (by omega) ⟨rfl, by rw [rAbout, if_neg (by omega), if_neg (by omega), if_neg (by omega), if_neg (by omega)], CF.rfl'⟩)
    · refine v_table d_V_about_12 (by omega) (by omega) (by omega) (off := 103) (tgt := 115) (by rw [hs]; rfl) rfl ?_
      refine v_aload0 d_V_about_115 ?_
      refine v_iload1 d_V_about_116 ?_
      refine v_gVZ1 d_V_about_117 l_V_139 k_V_isOver (c_V_isOver hC hO (by omega)) (sh_0 T) rfl (by decide) (by decide) (Nat.le_of_ble_eq_true rfl) (Nat.zero_le _) (Nat.zero_le _) (fun z117 s117 g117 e117 => ?_)
      have h117 := b01_rng (p := overP A v)
      refine v_if_eq d_V_about_120 (by omega) (fun u120 => ?_) (fun u120 => ?_)
      · refine v_iconst d_V_about_127 ?_
        first
        | (exact v_ireturn hM d_V_about_128 (by omega) ⟨rfl, by rw [rAbout, if_neg (by omega), if_pos (by omega), hs]; omega, CF.rfl'⟩)
        | (exact v_ireturn hM d_V_about_128 (by omega) ⟨rfl, by rw [rAbout, if_neg (by omega), if_neg (by omega), if_pos (by omega)], CF.rfl'⟩)
        | (exact v_ireturn hM d_V_about_128 (by omega) ⟨rfl, by rw [rAbout, if_neg (by omega), if_neg (by omega), if_neg (by omega), if_pos (by omega), ← e117.1]; omega, e117.2⟩)
        | (exact v_ireturn hM d_V_about_128 (by omega) ⟨rfl, by rw [rAbout, if_neg (by omega), if_neg (by omega), if_neg (by omega), if_neg (by omega)], CF.rfl'⟩)
      · refine v_iconst d_V_about_123 ?_
        refine v_goto d_V_about_124 ?_
        first
        | (exact v_ireturn hM d_V_about_128 (by omega) ⟨rfl, by rw [rAbout, if_neg (by omega), if_pos (by omega), hs]; omega, CF.rfl'⟩)
        | (exact v_ireturn hM d_V_about_128 (by omega) ⟨rfl, by rw [rAbout, if_neg (by omega), if_neg (by omega), if_pos (by omega)], CF.rfl'⟩)
        | (exact v_ireturn hM d_V_about_128 (by omega) ⟨rfl, by rw [rAbout, if_neg (by omega), if_neg (by omega), if_neg (by omega), if_pos (by omega), ← e117.1]; omega, e117.2⟩)
        | (exact v_ireturn hM d_V_about_128 (by omega) ⟨rfl, by rw [rAbout, if_neg (by omega), if_neg (by omega), if_neg (by omega), if_neg (by omega)], CF.rfl'⟩)
  · refine v_bipush d_V_about_8 rfl ?_
    exact v_ireturn hM d_V_about_10 (by omega) ⟨rfl, by rw [rAbout, if_pos (by omega)], CF.rfl'⟩

theorem c_V_scale {T : vSh} {σ : vMem} {A : Int → Int} (hC : CR σ A) (hO : okA A) {oo dd k w : Int} (h0 : vIn oo) (h1 : vIn dd) (h2 : vIn k) (h3 : vIn w) : mt_V_scale [.ref 0, .int (iI oo), .int (iI dd), .int (iI k), .int (iI w)] (S0 ++ T) σ (rP (S0 ++ T) (fun z σ2 => z = rScale A oo dd k w ∧ CF σ σ2)) := by
  refine vMet.intro 0 (by decide +kernel) (Nat.le_of_ble_eq_true rfl) rfl (fun cx hM _ => ?_)
  obtain ⟨⟨q0, q1, q2, q3, q4, q5, q6, q7⟩, hVi, hWe, hCo, hOf, hBo, hWo, hMo, hRe, hLi, hTa⟩ := id hO
  obtain ⟨⟨l0, l1, lV, lC, lZ, lS⟩, ⟨b0, b1, bO, bB⟩, ⟨w0, wR, wL⟩, ⟨t0, t1, t2, tR, tB⟩, ⟨n9, nW⟩, m0, mM⟩ := id hC
  refine v_aload0 d_V_scale_0 ?_
  refine v_iload1 d_V_scale_1 ?_
  refine v_fVZ1 d_V_scale_2 l_V_150 k_V_isOfficer (c_V_isOfficer hC hO (by omega)) (sh_0 T) rfl (by decide) (by decide) (Nat.le_of_ble_eq_true rfl) (Nat.zero_le _) (Nat.zero_le _) (fun g2 => ?_)
  refine v_ifb_eq d_V_scale_5 (fun u5 => ?_) (fun u5 => ?_)
  · refine v_iconst d_V_scale_35 ?_
    exact v_ireturn hM d_V_scale_36 (by omega) ⟨rfl, by rw [rScale, if_neg (by omega)], CF.rfl'⟩
  · refine v_iload2 d_V_scale_8 ?_
    refine v_fSZ1 d_V_scale_9 l_V_156 k_V_isDay (c_V_isDay (by omega)) (by decide) (by decide) (Nat.le_of_ble_eq_true rfl) (Nat.zero_le _) (Nat.zero_le _) (fun g9 => ?_)
    refine v_ifb_eq d_V_scale_12 (fun u12 => ?_) (fun u12 => ?_)
    · refine v_iconst d_V_scale_35 ?_
      exact v_ireturn hM d_V_scale_36 (by omega) ⟨rfl, by rw [rScale, if_neg (by omega)], CF.rfl'⟩
    · refine v_aload0 d_V_scale_15 ?_
      refine v_iload3 d_V_scale_16 ?_
      refine v_fVZ1 d_V_scale_17 l_V_181 k_V_isKnownDay (c_V_isKnownDay hC hO (by omega)) (sh_0 T) rfl (by decide) (by decide) (Nat.le_of_ble_eq_true rfl) (Nat.zero_le _) (Nat.zero_le _) (fun g17 => ?_)
      refine v_ifb_eq d_V_scale_20 (fun u20 => ?_) (fun u20 => ?_)
      · refine v_iconst d_V_scale_35 ?_
        exact v_ireturn hM d_V_scale_36 (by omega) ⟨rfl, by rw [rScale, if_neg (by omega)], CF.rfl'⟩
      · refine v_aload0 d_V_scale_23 ?_
        refine v_getR d_V_scale_24 f_V_71 (sh_0 T) rfl ?_
        refine v_iload1 d_V_scale_27 ?_
        refine v_iload2 d_V_scale_28 ?_
        refine v_fVZ2 d_V_scale_29 l_V_187 k_Bo_serves (c_Bo_serves hC hO (by omega) (by omega)) (sh_10 T) rfl (by decide) (by decide) (Nat.le_of_ble_eq_true rfl) (Nat.zero_le _) (Nat.zero_le _) (fun g29 => ?_)
        refine v_ifb_ne d_V_scale_32 (fun u32 => ?_) (fun u32 => ?_)
        · refine v_aload0 d_V_scale_37 ?_
          refine v_getR d_V_scale_38 f_V_42 (sh_0 T) rfl ?_
          refine v_iload1 d_V_scale_41 ?_
          refine v_iload2 d_V_scale_42 ?_
          refine v_iload3 d_V_scale_43 ?_
          refine v_gVV3 d_V_scale_44 l_V_222 k_Sc_reckon (c_Sc_reckon hC hO (by omega) (by omega) (by omega) (by omega)) (sh_46 T) rfl (by decide) (by decide) (Nat.le_of_ble_eq_true rfl) (Nat.zero_le _) (Nat.zero_le _) (fun z44 s44 e44 => ?_)
          have hs9 := scF_rng hO oo dd k
          have hy9 := dueY_rng hO oo dd k
          obtain ⟨y0, y1, y2, y3⟩ := id e44.2
          refine v_iload4 d_V_scale_47 ?_
          rcases (show (w < 0 ∨ 4 < w) ∨ w = 0 ∨ w = 1 ∨ w = 2 ∨ w = 3 ∨ w = 4 by omega) with hs | hs | hs | hs | hs | hs
          · refine v_tableOut d_V_scale_49 (by omega) hs (tgt := 124) rfl ?_
            refine v_iconst d_V_scale_124 ?_
            exact v_ireturn hM d_V_scale_125 (by omega) ⟨rfl, by rw [rScale, if_pos (by omega)]; first | (rw [hs]; omega) | (rw [hs]; simp only [dueY]; omega) | (rw [hs]; rfl) | rw [if_neg (by omega), if_neg (by omega), if_neg (by omega), if_neg (by omega), if_neg (by omega)], CF_46 e44.1⟩
          · refine v_table d_V_scale_49 (by omega) (by omega) (by omega) (off := 35) (tgt := 84) (by rw [hs]; rfl) rfl ?_
            refine v_aload0 d_V_scale_84 ?_
            refine v_getR d_V_scale_85 f_V_42 (sh_0 T) rfl ?_
            refine v_getJ (ji := 1) d_V_scale_88 f_V_226 (sh_46 T) rfl rfl (fun g88 => ?_)
            exact v_ireturn hM d_V_scale_91 (by omega) ⟨rfl, by rw [rScale, if_pos (by omega)]; first | (rw [hs]; omega) | (rw [hs]; simp only [dueY]; omega) | (rw [hs]; rfl) | rw [if_neg (by omega), if_neg (by omega), if_neg (by omega), if_neg (by omega), if_neg (by omega)], CF_46 e44.1⟩
          · refine v_table d_V_scale_49 (by omega) (by omega) (by omega) (off := 43) (tgt := 92) (by rw [hs]; rfl) rfl ?_
            refine v_aload0 d_V_scale_92 ?_
            refine v_getR d_V_scale_93 f_V_42 (sh_0 T) rfl ?_
            refine v_getJ (ji := 2) d_V_scale_96 f_V_229 (sh_46 T) rfl rfl (fun g96 => ?_)
            exact v_ireturn hM d_V_scale_99 (by omega) ⟨rfl, by rw [rScale, if_pos (by omega)]; first | (rw [hs]; omega) | (rw [hs]; simp only [dueY]; omega) | (rw [hs]; rfl) | rw [if_neg (by omega), if_neg (by omega), if_neg (by omega), if_neg (by omega), if_neg (by omega)], CF_46 e44.1⟩
          · refine v_table d_V_scale_49 (by omega) (by omega) (by omega) (off := 51) (tgt := 100) (by rw [hs]; rfl) rfl ?_
            refine v_aload0 d_V_scale_100 ?_
            refine v_getR d_V_scale_101 f_V_42 (sh_0 T) rfl ?_
            refine v_getJ (ji := 3) d_V_scale_104 f_V_232 (sh_46 T) rfl rfl (fun g104 => ?_)
            exact v_ireturn hM d_V_scale_107 (by omega) ⟨rfl, by rw [rScale, if_pos (by omega)]; first | (rw [hs]; omega) | (rw [hs]; simp only [dueY]; omega) | (rw [hs]; rfl) | rw [if_neg (by omega), if_neg (by omega), if_neg (by omega), if_neg (by omega), if_neg (by omega)], CF_46 e44.1⟩
          · refine v_table d_V_scale_49 (by omega) (by omega) (by omega) (off := 59) (tgt := 108) (by rw [hs]; rfl) rfl ?_
            refine v_aload0 d_V_scale_108 ?_
            refine v_getR d_V_scale_109 f_V_42 (sh_0 T) rfl ?_
            refine v_getJ (ji := 4) d_V_scale_112 f_V_235 (sh_46 T) rfl rfl (fun g112 => ?_)
            exact v_ireturn hM d_V_scale_115 (by omega) ⟨rfl, by rw [rScale, if_pos (by omega)]; first | (rw [hs]; omega) | (rw [hs]; simp only [dueY]; omega) | (rw [hs]; rfl) | rw [if_neg (by omega), if_neg (by omega), if_neg (by omega), if_neg (by omega), if_neg (by omega)], CF_46 e44.1⟩
          · refine v_table d_V_scale_49 (by omega) (by omega) (by omega) (off := 67) (tgt := 116) (by rw [hs]; rfl) rfl ?_
            refine v_aload0 d_V_scale_116 ?_
            refine v_getR d_V_scale_117 f_V_42 (sh_0 T) rfl ?_
            refine v_fVI0 d_V_scale_120 l_V_238 k_Sc_yearly (c_Sc_yearly e44.2 (by omega)) (sh_46 T) rfl (by decide) (by decide) (Nat.le_of_ble_eq_true rfl) (Nat.zero_le _) (Nat.zero_le _) (fun g120 => ?_)
            have hy8 : dueY A oo dd k = (scF A oo dd k).1 * (scF A oo dd k).2.1 / 12 := rfl
            exact v_ireturn hM d_V_scale_123 (by omega) ⟨rfl, by rw [rScale, if_pos (by omega)]; first | (rw [hs]; omega) | (rw [hs]; simp only [dueY]; omega) | (rw [hs]; rfl) | rw [if_neg (by omega), if_neg (by omega), if_neg (by omega), if_neg (by omega), if_neg (by omega)], CF_46 e44.1⟩
        · refine v_iconst d_V_scale_35 ?_
          exact v_ireturn hM d_V_scale_36 (by omega) ⟨rfl, by rw [rScale, if_neg (by omega)], CF.rfl'⟩

theorem c_V_countServing_4 {T : vSh} {σ : vMem} {cx : vCx} {A : Int → Int} (hC : CR σ A) (hO : okA A)  (hM : vM cx 0 0 (some .int) (rF (S0 ++ T) σ (cS A (A 1).toNat))) : ∀ (n j : Nat) (m i : Int), (j : Int) + n = A 1 → i = j → m = cS A j → vV cx y_V_countServing.cls prog_1_method_50_code 3 1 0 0 0 0 4 [some (.ref 0), some (.int (iI m)), some (.int (iI i))] [] (S0 ++ T) σ := by
  intro n
  induction n with
  | zero =>
    intro j m i hj hi hm
    obtain ⟨⟨q0, q1, q2, q3, q4, q5, q6, q7⟩, hVi, hWe, hCo, hOf, hBo, hWo, hMo, hRe, hLi, hTa⟩ := id hO
    obtain ⟨⟨l0, l1, lV, lC, lZ, lS⟩, ⟨b0, b1, bO, bB⟩, ⟨w0, wR, wL⟩, ⟨t0, t1, t2, tR, tB⟩, ⟨n9, nW⟩, m0, mM⟩ := id hC
    have hr1 : 0 ≤ cS A j ∧ cS A j ≤ j := smb_rng (fun v => srvF A v (A 4)) j
    refine v_iload2 d_V_countServing_4 ?_
    refine v_aload0 d_V_countServing_5 ?_
    refine v_getR d_V_countServing_6 f_V_71 (sh_0 T) rfl ?_
    refine v_getJ (ji := 0) d_V_countServing_9 f_V_142 (sh_10 T) rfl rfl (fun g9 => ?_)
    refine v_icmp_ge d_V_countServing_12 (by omega) (by omega) (fun u12 => ?_) (fun u12 => ?_)
    · refine v_iload1 d_V_countServing_42 ?_
      exact v_ireturn hM d_V_countServing_43 (by omega) ⟨rfl, rfl, by rw [hm]; congr 1; omega⟩
    · omega
  | succ n ih =>
    intro j m i hj hi hm
    obtain ⟨⟨q0, q1, q2, q3, q4, q5, q6, q7⟩, hVi, hWe, hCo, hOf, hBo, hWo, hMo, hRe, hLi, hTa⟩ := id hO
    obtain ⟨⟨l0, l1, lV, lC, lZ, lS⟩, ⟨b0, b1, bO, bB⟩, ⟨w0, wR, wL⟩, ⟨t0, t1, t2, tR, tB⟩, ⟨n9, nW⟩, m0, mM⟩ := id hC
    have hr1 : 0 ≤ cS A j ∧ cS A j ≤ j := smb_rng (fun v => srvF A v (A 4)) j
    refine v_iload2 d_V_countServing_4 ?_
    refine v_aload0 d_V_countServing_5 ?_
    refine v_getR d_V_countServing_6 f_V_71 (sh_0 T) rfl ?_
    refine v_getJ (ji := 0) d_V_countServing_9 f_V_142 (sh_10 T) rfl rfl (fun g9 => ?_)
    refine v_icmp_ge d_V_countServing_12 (by omega) (by omega) (fun u12 => ?_) (fun u12 => ?_)
    · omega
    · refine v_aload0 d_V_countServing_15 ?_
      refine v_getR d_V_countServing_16 f_V_71 (sh_0 T) rfl ?_
      refine v_iload2 d_V_countServing_19 ?_
      refine v_aload0 d_V_countServing_20 ?_
      refine v_getR d_V_countServing_21 f_V_66 (sh_0 T) rfl ?_
      refine v_getJ (ji := 0) d_V_countServing_24 f_V_113 (sh_2 T) rfl rfl (fun g24 => ?_)
      rw [l0]
      refine v_fVZ2 d_V_countServing_27 l_V_187 k_Bo_serves (c_Bo_serves hC hO (by omega) (by omega)) (sh_10 T) rfl (by decide) (by decide) (Nat.le_of_ble_eq_true rfl) (Nat.zero_le _) (Nat.zero_le _) (fun g27 => ?_)
      refine v_ifb_eq d_V_countServing_30 (fun u30 => ?_) (fun u30 => ?_)
      · refine v_iinc2 d_V_countServing_36 (by decide) rfl ?_
        refine v_goto d_V_countServing_39 ?_
        have e1 : cS A (j + 1) = m + b01 (srvF A i (A 4)) := by rw [hm, hi]; rfl
        exact ih (j + 1) _ _ (by omega) (by omega) (by rw [e1]; first | rw [← b01_1 u30] | (rw [← b01_0 u30]; omega))
      · refine v_iinc1 d_V_countServing_33 (by decide) rfl ?_
        refine v_iinc2 d_V_countServing_36 (by decide) rfl ?_
        refine v_goto d_V_countServing_39 ?_
        have e1 : cS A (j + 1) = m + b01 (srvF A i (A 4)) := by rw [hm, hi]; rfl
        exact ih (j + 1) _ _ (by omega) (by omega) (by rw [e1]; first | rw [← b01_1 u30] | (rw [← b01_0 u30]; omega))

theorem c_V_countServing {T : vSh} {σ : vMem} {A : Int → Int} (hC : CR σ A) (hO : okA A)  : mt_V_countServing [.ref 0] (S0 ++ T) σ (rF (S0 ++ T) σ (cS A (A 1).toNat)) := by
  refine vMet.intro 2 (by decide +kernel) (Nat.le_of_ble_eq_true rfl) rfl (fun cx hM _ => ?_)
  obtain ⟨⟨q0, q1, q2, q3, q4, q5, q6, q7⟩, hVi, hWe, hCo, hOf, hBo, hWo, hMo, hRe, hLi, hTa⟩ := id hO
  obtain ⟨⟨l0, l1, lV, lC, lZ, lS⟩, ⟨b0, b1, bO, bB⟩, ⟨w0, wR, wL⟩, ⟨t0, t1, t2, tR, tB⟩, ⟨n9, nW⟩, m0, mM⟩ := id hC
  refine v_iconst d_V_countServing_0 ?_
  refine v_istore1 d_V_countServing_1 (by decide) rfl ?_
  refine v_iconst d_V_countServing_2 ?_
  refine v_istore2 d_V_countServing_3 (by decide) rfl ?_
  exact c_V_countServing_4 hC hO hM (A 1).toNat 0 _ _ (by omega) rfl rfl

theorem c_V_countOfCrown_4 {T : vSh} {σ : vMem} {cx : vCx} {A : Int → Int} (hC : CR σ A) (hO : okA A)  (hM : vM cx 0 0 (some .int) (rF (S0 ++ T) σ (cC A (A 0).toNat))) : ∀ (n j : Nat) (m i : Int), (j : Int) + n = A 0 → i = j → m = cC A j → vV cx y_V_countOfCrown.cls prog_1_method_51_code 3 3 0 0 0 0 4 [some (.ref 0), some (.int (iI m)), some (.int (iI i))] [] (S0 ++ T) σ := by
  intro n
  induction n with
  | zero =>
    intro j m i hj hi hm
    obtain ⟨⟨q0, q1, q2, q3, q4, q5, q6, q7⟩, hVi, hWe, hCo, hOf, hBo, hWo, hMo, hRe, hLi, hTa⟩ := id hO
    obtain ⟨⟨l0, l1, lV, lC, lZ, lS⟩, ⟨b0, b1, bO, bB⟩, ⟨w0, wR, wL⟩, ⟨t0, t1, t2, tR, tB⟩, ⟨n9, nW⟩, m0, mM⟩ := id hC
    have hr1 : 0 ≤ cC A j ∧ cC A j ≤ j := smb_rng (fun v => crwP A v) j
    refine v_iload2 d_V_countOfCrown_4 ?_
    refine v_aload0 d_V_countOfCrown_5 ?_
    refine v_getR d_V_countOfCrown_6 f_V_66 (sh_0 T) rfl ?_
    refine v_getJ (ji := 1) d_V_countOfCrown_9 f_V_86 (sh_2 T) rfl rfl (fun g9 => ?_)
    refine v_icmp_ge d_V_countOfCrown_12 (by omega) (by omega) (fun u12 => ?_) (fun u12 => ?_)
    · refine v_iload1 d_V_countOfCrown_36 ?_
      exact v_ireturn hM d_V_countOfCrown_37 (by omega) ⟨rfl, rfl, by rw [hm]; congr 1; omega⟩
    · omega
  | succ n ih =>
    intro j m i hj hi hm
    obtain ⟨⟨q0, q1, q2, q3, q4, q5, q6, q7⟩, hVi, hWe, hCo, hOf, hBo, hWo, hMo, hRe, hLi, hTa⟩ := id hO
    obtain ⟨⟨l0, l1, lV, lC, lZ, lS⟩, ⟨b0, b1, bO, bB⟩, ⟨w0, wR, wL⟩, ⟨t0, t1, t2, tR, tB⟩, ⟨n9, nW⟩, m0, mM⟩ := id hC
    have hr1 : 0 ≤ cC A j ∧ cC A j ≤ j := smb_rng (fun v => crwP A v) j
    have hhr := heldF_rng hO i (A 4) (A 4)
    refine v_iload2 d_V_countOfCrown_4 ?_
    refine v_aload0 d_V_countOfCrown_5 ?_
    refine v_getR d_V_countOfCrown_6 f_V_66 (sh_0 T) rfl ?_
    refine v_getJ (ji := 1) d_V_countOfCrown_9 f_V_86 (sh_2 T) rfl rfl (fun g9 => ?_)
    refine v_icmp_ge d_V_countOfCrown_12 (by omega) (by omega) (fun u12 => ?_) (fun u12 => ?_)
    · omega
    · refine v_aload0 d_V_countOfCrown_15 ?_
      refine v_getR d_V_countOfCrown_16 f_V_10 (sh_0 T) rfl ?_
      refine v_iload2 d_V_countOfCrown_19 ?_
      refine v_fVI1 d_V_countOfCrown_20 l_V_135 k_St_holderToday (c_St_holderToday hC hO (by omega)) (sh_1 T) rfl (by decide) (by decide) (Nat.le_of_ble_eq_true rfl) (Nat.zero_le _) (Nat.zero_le _) (fun g20 => ?_)
      refine v_iconst d_V_countOfCrown_23 ?_
      refine v_icmp_ne d_V_countOfCrown_24 (by omega) (by omega) (fun u24 => ?_) (fun u24 => ?_)
      · refine v_iinc2 d_V_countOfCrown_30 (by decide) rfl ?_
        refine v_goto d_V_countOfCrown_33 ?_
        have e1 : cC A (j + 1) = m + b01 (crwP A i) := by rw [hm, hi]; rfl
        exact ih (j + 1) _ _ (by omega) (by omega) (by rw [e1]; first | rw [← b01_1 (p := crwP A i) (by omega)] | (rw [← b01_0 (p := crwP A i) (by omega)]; omega))
      · refine v_iinc1 d_V_countOfCrown_27 (by decide) rfl ?_
        refine v_iinc2 d_V_countOfCrown_30 (by decide) rfl ?_
        refine v_goto d_V_countOfCrown_33 ?_
        have e1 : cC A (j + 1) = m + b01 (crwP A i) := by rw [hm, hi]; rfl
        exact ih (j + 1) _ _ (by omega) (by omega) (by rw [e1]; first | rw [← b01_1 (p := crwP A i) (by omega)] | (rw [← b01_0 (p := crwP A i) (by omega)]; omega))

theorem c_V_countOfCrown {T : vSh} {σ : vMem} {A : Int → Int} (hC : CR σ A) (hO : okA A)  : mt_V_countOfCrown [.ref 0] (S0 ++ T) σ (rF (S0 ++ T) σ (cC A (A 0).toNat)) := by
  refine vMet.intro 2 (by decide +kernel) (Nat.le_of_ble_eq_true rfl) rfl (fun cx hM _ => ?_)
  obtain ⟨⟨q0, q1, q2, q3, q4, q5, q6, q7⟩, hVi, hWe, hCo, hOf, hBo, hWo, hMo, hRe, hLi, hTa⟩ := id hO
  obtain ⟨⟨l0, l1, lV, lC, lZ, lS⟩, ⟨b0, b1, bO, bB⟩, ⟨w0, wR, wL⟩, ⟨t0, t1, t2, tR, tB⟩, ⟨n9, nW⟩, m0, mM⟩ := id hC
  refine v_iconst d_V_countOfCrown_0 ?_
  refine v_istore1 d_V_countOfCrown_1 (by decide) rfl ?_
  refine v_iconst d_V_countOfCrown_2 ?_
  refine v_istore2 d_V_countOfCrown_3 (by decide) rfl ?_
  exact c_V_countOfCrown_4 hC hO hM (A 0).toNat 0 _ _ (by omega) rfl rfl

theorem c_V_countOver_4 {T : vSh} {σ : vMem} {cx : vCx} {A : Int → Int} (hC : CR σ A) (hO : okA A) (hM : vM cx 0 0 (some .int) (rP (S0 ++ T) (fun z σ2 => z = cO A (A 0).toNat ∧ CF σ σ2))) : ∀ (n j : Nat) (m i : Int) (σ1 : vMem), (j : Int) + n = A 0 → i = j → CF σ σ1 → m = cO A j → vV cx y_V_countOver.cls prog_1_method_52_code 3 5 0 0 0 0 4 [some (.ref 0), some (.int (iI m)), some (.int (iI i))] [] (S0 ++ T) σ1 := by
  intro n
  induction n with
  | zero =>
    intro j m i σ1 hj hi hσ hm
    obtain ⟨⟨q0, q1, q2, q3, q4, q5, q6, q7⟩, hVi, hWe, hCo, hOf, hBo, hWo, hMo, hRe, hLi, hTa⟩ := id hO
    have hC1 := hσ.cr hC
    obtain ⟨⟨l0, l1, lV, lC, lZ, lS⟩, ⟨b0, b1, bO, bB⟩, ⟨w0, wR, wL⟩, ⟨t0, t1, t2, tR, tB⟩, ⟨n9, nW⟩, m0, mM⟩ := id hC1
    have hr1 : 0 ≤ cO A j ∧ cO A j ≤ j := smb_rng (fun v => overP A v) j
    refine v_iload2 d_V_countOver_4 ?_
    refine v_aload0 d_V_countOver_5 ?_
    refine v_getR d_V_countOver_6 f_V_66 (sh_0 T) rfl ?_
    refine v_getJ (ji := 1) d_V_countOver_9 f_V_86 (sh_2 T) rfl rfl (fun g9 => ?_)
    refine v_icmp_ge d_V_countOver_12 (by omega) (by omega) (fun u12 => ?_) (fun u12 => ?_)
    · refine v_iload1 d_V_countOver_32 ?_
      exact v_ireturn hM d_V_countOver_33 (by omega) ⟨rfl, by rw [hm]; congr 1; omega, hσ⟩
    · omega
  | succ n ih =>
    intro j m i σ1 hj hi hσ hm
    obtain ⟨⟨q0, q1, q2, q3, q4, q5, q6, q7⟩, hVi, hWe, hCo, hOf, hBo, hWo, hMo, hRe, hLi, hTa⟩ := id hO
    have hC1 := hσ.cr hC
    obtain ⟨⟨l0, l1, lV, lC, lZ, lS⟩, ⟨b0, b1, bO, bB⟩, ⟨w0, wR, wL⟩, ⟨t0, t1, t2, tR, tB⟩, ⟨n9, nW⟩, m0, mM⟩ := id hC1
    have hr1 : 0 ≤ cO A j ∧ cO A j ≤ j := smb_rng (fun v => overP A v) j
    refine v_iload2 d_V_countOver_4 ?_
    refine v_aload0 d_V_countOver_5 ?_
    refine v_getR d_V_countOver_6 f_V_66 (sh_0 T) rfl ?_
    refine v_getJ (ji := 1) d_V_countOver_9 f_V_86 (sh_2 T) rfl rfl (fun g9 => ?_)
    refine v_icmp_ge d_V_countOver_12 (by omega) (by omega) (fun u12 => ?_) (fun u12 => ?_)
    · omega
    · refine v_aload0 d_V_countOver_15 ?_
      refine v_iload2 d_V_countOver_16 ?_
      refine v_gVZ1 d_V_countOver_17 l_V_139 k_V_isOver (c_V_isOver hC1 hO (by omega)) (sh_0 T) rfl (by decide) (by decide) (Nat.le_of_ble_eq_true rfl) (Nat.zero_le _) (Nat.zero_le _) (fun z17 s17 g17 e17 => ?_)
      have h17 := e17.1
      have hb17 := b01_rng (p := overP A i)
      refine v_if_eq d_V_countOver_20 (by omega) (fun u20 => ?_) (fun u20 => ?_)
      · refine v_iinc2 d_V_countOver_26 (by decide) rfl ?_
        refine v_goto d_V_countOver_29 ?_
        have e1 : cO A (j + 1) = m + b01 (overP A i) := by rw [hm, hi]; rfl
        exact ih (j + 1) _ _ _ (by omega) (by omega) (hσ.trans' e17.2) (by rw [e1]; omega)
      · refine v_iinc1 d_V_countOver_23 (by decide) rfl ?_
        refine v_iinc2 d_V_countOver_26 (by decide) rfl ?_
        refine v_goto d_V_countOver_29 ?_
        have e1 : cO A (j + 1) = m + b01 (overP A i) := by rw [hm, hi]; rfl
        exact ih (j + 1) _ _ _ (by omega) (by omega) (hσ.trans' e17.2) (by rw [e1]; omega)

theorem c_V_countOver {T : vSh} {σ : vMem} {A : Int → Int} (hC : CR σ A) (hO : okA A)  : mt_V_countOver [.ref 0] (S0 ++ T) σ (rP (S0 ++ T) (fun z σ2 => z = cO A (A 0).toNat ∧ CF σ σ2)) := by
  refine vMet.intro 2 (by decide +kernel) (Nat.le_of_ble_eq_true rfl) rfl (fun cx hM _ => ?_)
  obtain ⟨⟨q0, q1, q2, q3, q4, q5, q6, q7⟩, hVi, hWe, hCo, hOf, hBo, hWo, hMo, hRe, hLi, hTa⟩ := id hO
  obtain ⟨⟨l0, l1, lV, lC, lZ, lS⟩, ⟨b0, b1, bO, bB⟩, ⟨w0, wR, wL⟩, ⟨t0, t1, t2, tR, tB⟩, ⟨n9, nW⟩, m0, mM⟩ := id hC
  refine v_iconst d_V_countOver_0 ?_
  refine v_istore1 d_V_countOver_1 (by decide) rfl ?_
  refine v_iconst d_V_countOver_2 ?_
  refine v_istore2 d_V_countOver_3 (by decide) rfl ?_
  exact c_V_countOver_4 hC hO hM (A 0).toNat 0 _ _ _ (by omega) rfl CF.rfl' rfl

theorem c_V_count {T : vSh} {σ : vMem} {A : Int → Int} (hC : CR σ A) (hO : okA A) {w : Int} (h0 : vIn w) : mt_V_count [.ref 0, .int (iI w)] (S0 ++ T) σ (rP (S0 ++ T) (fun z σ2 => z = rCount A w ∧ CF σ σ2)) := by
  refine vMet.intro 0 (by decide +kernel) (Nat.le_of_ble_eq_true rfl) rfl (fun cx hM _ => ?_)
  obtain ⟨⟨q0, q1, q2, q3, q4, q5, q6, q7⟩, hVi, hWe, hCo, hOf, hBo, hWo, hMo, hRe, hLi, hTa⟩ := id hO
  obtain ⟨⟨l0, l1, lV, lC, lZ, lS⟩, ⟨b0, b1, bO, bB⟩, ⟨w0, wR, wL⟩, ⟨t0, t1, t2, tR, tB⟩, ⟨n9, nW⟩, m0, mM⟩ := id hC
  refine v_iload1 d_V_count_0 ?_
  rcases (show (w < 0 ∨ 10 < w) ∨ w = 0 ∨ w = 1 ∨ w = 2 ∨ w = 3 ∨ w = 4 ∨ w = 5 ∨ w = 6 ∨ w = 7 ∨ w = 8 ∨ w = 9 ∨ w = 10 by omega) with hs | hs | hs | hs | hs | hs | hs | hs | hs | hs | hs | hs
  · refine v_tableOut d_V_count_1 (by omega) hs (tgt := 145) rfl ?_
    refine v_iconst d_V_count_145 ?_
    exact v_ireturn hM d_V_count_146 (by omega) ⟨rfl, by rw [rCount]; first | (rw [if_pos (by omega), hs]; omega)| (rw [if_neg (by omega), if_pos (by omega)]; try omega) | (rw [if_neg (by omega), if_neg (by omega), if_pos (by omega)]; try omega) | (rw [if_neg (by omega), if_neg (by omega), if_neg (by omega), if_pos (by omega)]; try omega) | (rw [if_neg (by omega), if_neg (by omega), if_neg (by omega), if_neg (by omega), if_pos (by omega)]; try omega) | (rw [if_neg (by omega), if_neg (by omega), if_neg (by omega), if_neg (by omega), if_neg (by omega), if_pos (by omega)]; try omega) | (rw [if_neg (by omega), if_neg (by omega), if_neg (by omega), if_neg (by omega), if_neg (by omega), if_neg (by omega), if_pos (by omega)]; try omega) | (rw [if_neg (by omega), if_neg (by omega), if_neg (by omega), if_neg (by omega), if_neg (by omega), if_neg (by omega), if_neg (by omega)]; try omega), CF.rfl'⟩
  · refine v_table d_V_count_1 (by omega) (by omega) (by omega) (off := 59) (tgt := 60) (by rw [hs]; rfl) rfl ?_
    refine v_aload0 d_V_count_60 ?_
    refine v_getR d_V_count_61 f_V_66 (sh_0 T) rfl ?_
    refine v_getJ (ji := 1) d_V_count_64 f_V_86 (sh_2 T) rfl rfl (fun g64 => ?_)
    exact v_ireturn hM d_V_count_67 (by omega) ⟨rfl, by rw [rCount]; first | (rw [if_pos (by omega), hs]; omega)| (rw [if_neg (by omega), if_pos (by omega)]; try omega) | (rw [if_neg (by omega), if_neg (by omega), if_pos (by omega)]; try omega) | (rw [if_neg (by omega), if_neg (by omega), if_neg (by omega), if_pos (by omega)]; try omega) | (rw [if_neg (by omega), if_neg (by omega), if_neg (by omega), if_neg (by omega), if_pos (by omega)]; try omega) | (rw [if_neg (by omega), if_neg (by omega), if_neg (by omega), if_neg (by omega), if_neg (by omega), if_pos (by omega)]; try omega) | (rw [if_neg (by omega), if_neg (by omega), if_neg (by omega), if_neg (by omega), if_neg (by omega), if_neg (by omega), if_pos (by omega)]; try omega) | (rw [if_neg (by omega), if_neg (by omega), if_neg (by omega), if_neg (by omega), if_neg (by omega), if_neg (by omega), if_neg (by omega)]; try omega), CF.rfl'⟩
  · refine v_table d_V_count_1 (by omega) (by omega) (by omega) (off := 67) (tgt := 68) (by rw [hs]; rfl) rfl ?_
    refine v_aload0 d_V_count_68 ?_
    refine v_getR d_V_count_69 f_V_71 (sh_0 T) rfl ?_
    refine v_getJ (ji := 0) d_V_count_72 f_V_142 (sh_10 T) rfl rfl (fun g72 => ?_)
    exact v_ireturn hM d_V_count_75 (by omega) ⟨rfl, by rw [rCount]; first | (rw [if_pos (by omega), hs]; omega)| (rw [if_neg (by omega), if_pos (by omega)]; try omega) | (rw [if_neg (by omega), if_neg (by omega), if_pos (by omega)]; try omega) | (rw [if_neg (by omega), if_neg (by omega), if_neg (by omega), if_pos (by omega)]; try omega) | (rw [if_neg (by omega), if_neg (by omega), if_neg (by omega), if_neg (by omega), if_pos (by omega)]; try omega) | (rw [if_neg (by omega), if_neg (by omega), if_neg (by omega), if_neg (by omega), if_neg (by omega), if_pos (by omega)]; try omega) | (rw [if_neg (by omega), if_neg (by omega), if_neg (by omega), if_neg (by omega), if_neg (by omega), if_neg (by omega), if_pos (by omega)]; try omega) | (rw [if_neg (by omega), if_neg (by omega), if_neg (by omega), if_neg (by omega), if_neg (by omega), if_neg (by omega), if_neg (by omega)]; try omega), CF.rfl'⟩
  · refine v_table d_V_count_1 (by omega) (by omega) (by omega) (off := 75) (tgt := 76) (by rw [hs]; rfl) rfl ?_
    refine v_aload0 d_V_count_76 ?_
    refine v_getR d_V_count_77 f_V_71 (sh_0 T) rfl ?_
    refine v_getJ (ji := 5) d_V_count_80 f_V_159 (sh_10 T) rfl rfl (fun g80 => ?_)
    exact v_ireturn hM d_V_count_83 (by omega) ⟨rfl, by rw [rCount]; first | (rw [if_pos (by omega), hs]; omega)| (rw [if_neg (by omega), if_pos (by omega)]; try omega) | (rw [if_neg (by omega), if_neg (by omega), if_pos (by omega)]; try omega) | (rw [if_neg (by omega), if_neg (by omega), if_neg (by omega), if_pos (by omega)]; try omega) | (rw [if_neg (by omega), if_neg (by omega), if_neg (by omega), if_neg (by omega), if_pos (by omega)]; try omega) | (rw [if_neg (by omega), if_neg (by omega), if_neg (by omega), if_neg (by omega), if_neg (by omega), if_pos (by omega)]; try omega) | (rw [if_neg (by omega), if_neg (by omega), if_neg (by omega), if_neg (by omega), if_neg (by omega), if_neg (by omega), if_pos (by omega)]; try omega) | (rw [if_neg (by omega), if_neg (by omega), if_neg (by omega), if_neg (by omega), if_neg (by omega), if_neg (by omega), if_neg (by omega)]; try omega), CF.rfl'⟩
  · refine v_table d_V_count_1 (by omega) (by omega) (by omega) (off := 83) (tgt := 84) (by rw [hs]; rfl) rfl ?_
    refine v_aload0 d_V_count_84 ?_
    refine v_getR d_V_count_85 f_V_10 (sh_0 T) rfl ?_
    refine v_getR d_V_count_88 f_V_26 (sh_1 T) rfl ?_
    refine v_getJ (ji := 0) d_V_count_91 f_V_314 (sh_20 T) rfl rfl (fun g91 => ?_)
    exact v_ireturn hM d_V_count_94 (by omega) ⟨rfl, by rw [rCount]; first | (rw [if_pos (by omega), hs]; omega)| (rw [if_neg (by omega), if_pos (by omega)]; try omega) | (rw [if_neg (by omega), if_neg (by omega), if_pos (by omega)]; try omega) | (rw [if_neg (by omega), if_neg (by omega), if_neg (by omega), if_pos (by omega)]; try omega) | (rw [if_neg (by omega), if_neg (by omega), if_neg (by omega), if_neg (by omega), if_pos (by omega)]; try omega) | (rw [if_neg (by omega), if_neg (by omega), if_neg (by omega), if_neg (by omega), if_neg (by omega), if_pos (by omega)]; try omega) | (rw [if_neg (by omega), if_neg (by omega), if_neg (by omega), if_neg (by omega), if_neg (by omega), if_neg (by omega), if_pos (by omega)]; try omega) | (rw [if_neg (by omega), if_neg (by omega), if_neg (by omega), if_neg (by omega), if_neg (by omega), if_neg (by omega), if_neg (by omega)]; try omega), CF.rfl'⟩
  · refine v_table d_V_count_1 (by omega) (by omega) (by omega) (off := 94) (tgt := 95) (by rw [hs]; rfl) rfl ?_
    refine v_aload0 d_V_count_95 ?_
    refine v_getR d_V_count_96 f_V_66 (sh_0 T) rfl ?_
    refine v_getJ (ji := 0) d_V_count_99 f_V_113 (sh_2 T) rfl rfl (fun g99 => ?_)
    exact v_ireturn hM d_V_count_102 (by omega) ⟨rfl, by rw [rCount]; first | (rw [if_pos (by omega), hs]; omega)| (rw [if_neg (by omega), if_pos (by omega)]; try omega) | (rw [if_neg (by omega), if_neg (by omega), if_pos (by omega)]; try omega) | (rw [if_neg (by omega), if_neg (by omega), if_neg (by omega), if_pos (by omega)]; try omega) | (rw [if_neg (by omega), if_neg (by omega), if_neg (by omega), if_neg (by omega), if_pos (by omega)]; try omega) | (rw [if_neg (by omega), if_neg (by omega), if_neg (by omega), if_neg (by omega), if_neg (by omega), if_pos (by omega)]; try omega) | (rw [if_neg (by omega), if_neg (by omega), if_neg (by omega), if_neg (by omega), if_neg (by omega), if_neg (by omega), if_pos (by omega)]; try omega) | (rw [if_neg (by omega), if_neg (by omega), if_neg (by omega), if_neg (by omega), if_neg (by omega), if_neg (by omega), if_neg (by omega)]; try omega), CF.rfl'⟩
  · refine v_table d_V_count_1 (by omega) (by omega) (by omega) (off := 102) (tgt := 103) (by rw [hs]; rfl) rfl ?_
    refine v_aload0 d_V_count_103 ?_
    refine v_getR d_V_count_104 f_V_66 (sh_0 T) rfl ?_
    refine v_getJ (ji := 0) d_V_count_107 f_V_113 (sh_2 T) rfl rfl (fun g107 => ?_)
    refine v_bipush d_V_count_110 rfl ?_
    refine v_idiv d_V_count_112 (by omega) (by omega) ?_
    exact v_ireturn hM d_V_count_113 (by omega) ⟨rfl, by rw [rCount]; first | (rw [if_pos (by omega), hs]; omega)| (rw [if_neg (by omega), if_pos (by omega)]; try omega) | (rw [if_neg (by omega), if_neg (by omega), if_pos (by omega)]; try omega) | (rw [if_neg (by omega), if_neg (by omega), if_neg (by omega), if_pos (by omega)]; try omega) | (rw [if_neg (by omega), if_neg (by omega), if_neg (by omega), if_neg (by omega), if_pos (by omega)]; try omega) | (rw [if_neg (by omega), if_neg (by omega), if_neg (by omega), if_neg (by omega), if_neg (by omega), if_pos (by omega)]; try omega) | (rw [if_neg (by omega), if_neg (by omega), if_neg (by omega), if_neg (by omega), if_neg (by omega), if_neg (by omega), if_pos (by omega)]; try omega) | (rw [if_neg (by omega), if_neg (by omega), if_neg (by omega), if_neg (by omega), if_neg (by omega), if_neg (by omega), if_neg (by omega)]; try omega), CF.rfl'⟩
  · refine v_table d_V_count_1 (by omega) (by omega) (by omega) (off := 113) (tgt := 114) (by rw [hs]; rfl) rfl ?_
    refine v_aload0 d_V_count_114 ?_
    refine v_getR d_V_count_115 f_V_81 (sh_0 T) rfl ?_
    refine v_getJ (ji := 0) d_V_count_118 f_V_272 (sh_38 T) rfl rfl (fun g118 => ?_)
    exact v_ireturn hM d_V_count_121 (by omega) ⟨rfl, by rw [rCount]; first | (rw [if_pos (by omega), hs]; omega)| (rw [if_neg (by omega), if_pos (by omega)]; try omega) | (rw [if_neg (by omega), if_neg (by omega), if_pos (by omega)]; try omega) | (rw [if_neg (by omega), if_neg (by omega), if_neg (by omega), if_pos (by omega)]; try omega) | (rw [if_neg (by omega), if_neg (by omega), if_neg (by omega), if_neg (by omega), if_pos (by omega)]; try omega) | (rw [if_neg (by omega), if_neg (by omega), if_neg (by omega), if_neg (by omega), if_neg (by omega), if_pos (by omega)]; try omega) | (rw [if_neg (by omega), if_neg (by omega), if_neg (by omega), if_neg (by omega), if_neg (by omega), if_neg (by omega), if_pos (by omega)]; try omega) | (rw [if_neg (by omega), if_neg (by omega), if_neg (by omega), if_neg (by omega), if_neg (by omega), if_neg (by omega), if_neg (by omega)]; try omega), CF.rfl'⟩
  · refine v_table d_V_count_1 (by omega) (by omega) (by omega) (off := 121) (tgt := 122) (by rw [hs]; rfl) rfl ?_
    refine v_aload0 d_V_count_122 ?_
    refine v_getR d_V_count_123 f_V_76 (sh_0 T) rfl ?_
    refine v_getJ (ji := 1) d_V_count_126 f_V_296 (sh_32 T) rfl rfl (fun g126 => ?_)
    exact v_ireturn hM d_V_count_129 (by omega) ⟨rfl, by rw [rCount]; first | (rw [if_pos (by omega), hs]; omega)| (rw [if_neg (by omega), if_pos (by omega)]; try omega) | (rw [if_neg (by omega), if_neg (by omega), if_pos (by omega)]; try omega) | (rw [if_neg (by omega), if_neg (by omega), if_neg (by omega), if_pos (by omega)]; try omega) | (rw [if_neg (by omega), if_neg (by omega), if_neg (by omega), if_neg (by omega), if_pos (by omega)]; try omega) | (rw [if_neg (by omega), if_neg (by omega), if_neg (by omega), if_neg (by omega), if_neg (by omega), if_pos (by omega)]; try omega) | (rw [if_neg (by omega), if_neg (by omega), if_neg (by omega), if_neg (by omega), if_neg (by omega), if_neg (by omega), if_pos (by omega)]; try omega) | (rw [if_neg (by omega), if_neg (by omega), if_neg (by omega), if_neg (by omega), if_neg (by omega), if_neg (by omega), if_neg (by omega)]; try omega), CF.rfl'⟩
  · refine v_table d_V_count_1 (by omega) (by omega) (by omega) (off := 129) (tgt := 130) (by rw [hs]; rfl) rfl ?_
    refine v_aload0 d_V_count_130 ?_
    refine v_fVI0 d_V_count_131 l_V_317 k_V_countServing (c_V_countServing hC hO) (sh_0 T) rfl (by decide) (by decide) (Nat.le_of_ble_eq_true rfl) (Nat.zero_le _) (Nat.zero_le _) (fun g131 => ?_)
    exact v_ireturn hM d_V_count_134 (by omega) ⟨rfl, by rw [rCount]; first | (rw [if_pos (by omega), hs]; omega)| (rw [if_neg (by omega), if_pos (by omega)]; try omega) | (rw [if_neg (by omega), if_neg (by omega), if_pos (by omega)]; try omega) | (rw [if_neg (by omega), if_neg (by omega), if_neg (by omega), if_pos (by omega)]; try omega) | (rw [if_neg (by omega), if_neg (by omega), if_neg (by omega), if_neg (by omega), if_pos (by omega)]; try omega) | (rw [if_neg (by omega), if_neg (by omega), if_neg (by omega), if_neg (by omega), if_neg (by omega), if_pos (by omega)]; try omega) | (rw [if_neg (by omega), if_neg (by omega), if_neg (by omega), if_neg (by omega), if_neg (by omega), if_neg (by omega), if_pos (by omega)]; try omega) | (rw [if_neg (by omega), if_neg (by omega), if_neg (by omega), if_neg (by omega), if_neg (by omega), if_neg (by omega), if_neg (by omega)]; try omega), CF.rfl'⟩
  · refine v_table d_V_count_1 (by omega) (by omega) (by omega) (off := 134) (tgt := 135) (by rw [hs]; rfl) rfl ?_
    refine v_aload0 d_V_count_135 ?_
    refine v_fVI0 d_V_count_136 l_V_320 k_V_countOfCrown (c_V_countOfCrown hC hO) (sh_0 T) rfl (by decide) (by decide) (Nat.le_of_ble_eq_true rfl) (Nat.zero_le _) (Nat.zero_le _) (fun g136 => ?_)
    exact v_ireturn hM d_V_count_139 (by omega) ⟨rfl, by rw [rCount]; first | (rw [if_pos (by omega), hs]; omega)| (rw [if_neg (by omega), if_pos (by omega)]; try omega) | (rw [if_neg (by omega), if_neg (by omega), if_pos (by omega)]; try omega) | (rw [if_neg (by omega), if_neg (by omega), if_neg (by omega), if_pos (by omega)]; try omega) | (rw [if_neg (by omega), if_neg (by omega), if_neg (by omega), if_neg (by omega), if_pos (by omega)]; try omega) | (rw [if_neg (by omega), if_neg (by omega), if_neg (by omega), if_neg (by omega), if_neg (by omega), if_pos (by omega)]; try omega) | (rw [if_neg (by omega), if_neg (by omega), if_neg (by omega), if_neg (by omega), if_neg (by omega), if_neg (by omega), if_pos (by omega)]; try omega) | (rw [if_neg (by omega), if_neg (by omega), if_neg (by omega), if_neg (by omega), if_neg (by omega), if_neg (by omega), if_neg (by omega)]; try omega), CF.rfl'⟩
  · refine v_table d_V_count_1 (by omega) (by omega) (by omega) (off := 139) (tgt := 140) (by rw [hs]; rfl) rfl ?_
    refine v_aload0 d_V_count_140 ?_
    refine v_gVI0 d_V_count_141 l_V_323 k_V_countOver (c_V_countOver hC hO) (sh_0 T) rfl (by decide) (by decide) (Nat.le_of_ble_eq_true rfl) (Nat.zero_le _) (Nat.zero_le _) (fun z141 s141 g141 e141 => ?_)
    exact v_ireturn hM d_V_count_144 (by omega) ⟨rfl, by rw [rCount, if_neg (by omega), if_neg (by omega), if_neg (by omega), if_neg (by omega), if_neg (by omega), if_neg (by omega), if_pos (by omega)]; exact e141.1, e141.2⟩

theorem c_Ne_valueOf {T : vSh} {σ : vMem} {told came : Int} (h1 : 0 ≤ told ∧ told ≤ 15000) (h2 : 0 ≤ came ∧ came ≤ 15000) : mt_Ne_valueOf [.int (iI told), .int (iI came)] (S0 ++ T) σ (rF (S0 ++ T) σ (valF told came)) := by
  refine vMet.intro 0 (by decide +kernel) (Nat.le_of_ble_eq_true rfl) rfl (fun cx hM _ => ?_)
  refine v_iload1 d_Ne_valueOf_0 ?_
  refine v_if_gt d_Ne_valueOf_1 (by omega) (fun u1 => ?_) (fun u1 => ?_)
  · refine v_iconst d_Ne_valueOf_15 ?_
    refine v_bipush d_Ne_valueOf_16 rfl ?_
    refine v_bipush d_Ne_valueOf_18 rfl ?_
    refine v_iload0 d_Ne_valueOf_20 ?_
    refine v_iload1 d_Ne_valueOf_21 ?_
    refine v_isub d_Ne_valueOf_22 ?_
    refine v_abs d_Ne_valueOf_23 lx_Ne_42 cw_abss cw_mi cw_absc (by omega) (by decide) (Nat.le_of_ble_eq_true rfl) ?_
    have ha9 : vAb (told - came) = farI told came := by unfold vAb farI; split <;> split <;> omega
    have hfr := farI_rng h1 h2
    have hdv := div_bnd (a := vAb (told - came) * 10) (b := came) (m := 150000) (by omega) (by omega)
    have hdw := div_bnd (a := 10 * farI told came) (b := came) (m := 150000) (by omega) (by omega)
    refine v_bipush d_Ne_valueOf_26 rfl ?_
    refine v_imul d_Ne_valueOf_28 ?_
    refine v_iload1 d_Ne_valueOf_29 ?_
    refine v_idiv d_Ne_valueOf_30 (by omega) (by omega) ?_
    refine v_imul d_Ne_valueOf_31 ?_
    refine v_isub d_Ne_valueOf_32 ?_
    refine v_max d_Ne_valueOf_33 lx_Ne_48 cw_maxs cw_mi cw_maxc (by omega) (by omega) (by decide) (Nat.le_of_ble_eq_true rfl) ?_
    have ha : vAb (told - came) = farI told came := by unfold vAb farI; split <;> split <;> omega
    rw [ha, Int.mul_comm (farI told came) 10]
    exact v_ireturn hM d_Ne_valueOf_36 (by unfold vMx; split <;> omega) ⟨rfl, rfl, by rw [valF, if_neg (by omega)]; unfold vMx; split <;> split <;> omega⟩
  · refine v_iload0 d_Ne_valueOf_4 ?_
    refine v_if_ne d_Ne_valueOf_5 (by omega) (fun u5 => ?_) (fun u5 => ?_)
    · refine v_iconst d_Ne_valueOf_13 ?_
      exact v_ireturn hM d_Ne_valueOf_14 (by omega) ⟨rfl, rfl, by rw [valF, if_pos (by omega)]; first | rw [if_pos (by omega)] | rw [if_neg (by omega)]⟩
    · refine v_bipush d_Ne_valueOf_8 rfl ?_
      refine v_goto d_Ne_valueOf_10 ?_
      exact v_ireturn hM d_Ne_valueOf_14 (by omega) ⟨rfl, rfl, by rw [valF, if_pos (by omega)]; first | rw [if_pos (by omega)] | rw [if_neg (by omega)]⟩

theorem c_Ne_trustIn_8 {T : vSh} {σ : vMem} {cx : vCx} {A : Int → Int} (hC : CR σ A) (hO : okA A) {w k : Int} (h0 : vIn w) (h1 : vIn k) (hM : vM cx 0 0 (some .int) (rF (S0 ++ T) σ (trF A w k))) : ∀ (n j : Nat) (m sum i : Int), (j : Int) + n = A 6 → i = j → sum = (trS A w k j).1 → m = (trS A w k j).2 → vV cx y_Ne_trustIn.cls prog_8_method_3_code 7 2 0 0 0 0 8 [some (.ref 32), some (.int (iI w)), some (.int (iI k)), some (.int (iI m)), some (.int (iI sum)), some (.int (iI i)), none] [] (S0 ++ T) σ := by
  intro n
  induction n with
  | zero =>
    intro j m sum i hj hi hs hm
    obtain ⟨⟨q0, q1, q2, q3, q4, q5, q6, q7⟩, hVi, hWe, hCo, hOf, hBo, hWo, hMo, hRe, hLi, hTa⟩ := id hO
    obtain ⟨⟨l0, l1, lV, lC, lZ, lS⟩, ⟨b0, b1, bO, bB⟩, ⟨w0, wR, wL⟩, ⟨t0, t1, t2, tR, tB⟩, ⟨n9, nW⟩, m0, mM⟩ := id hC
    have htr := trS_rng hO w k j (by omega)
    refine v_iload5 d_Ne_trustIn_8 ?_
    refine v_aload0 d_Ne_trustIn_10 ?_
    refine v_getJ (ji := 1) d_Ne_trustIn_11 f_Ne_31 (sh_32 T) rfl rfl (fun g11 => ?_)
    refine v_icmp_ge d_Ne_trustIn_14 (by omega) (by omega) (fun u14 => ?_) (fun u14 => ?_)
    · refine v_iload3 d_Ne_trustIn_117 ?_
      refine v_if_ne d_Ne_trustIn_118 (by omega) (fun u118 => ?_) (fun u118 => ?_)
      · refine v_iload4 d_Ne_trustIn_126 ?_
        refine v_iload3 d_Ne_trustIn_128 ?_
        refine v_idiv d_Ne_trustIn_129 (by omega) (by omega) ?_
        first
        | (exact v_ireturn hM d_Ne_trustIn_130 (by omega) ⟨rfl, rfl, by rw [trF, show (A 6).toNat = j by omega, ← hm, ← hs, if_pos (by omega)]⟩)
        | (have hdv := div_hund (a := sum) (b := m) (by omega) (by omega)
           exact v_ireturn hM d_Ne_trustIn_130 (by omega) ⟨rfl, rfl, by rw [trF, show (A 6).toNat = j by omega, ← hm, ← hs, if_neg (by omega)]⟩)
      · refine v_bipush d_Ne_trustIn_121 rfl ?_
        refine v_goto d_Ne_trustIn_123 ?_
        first
        | (exact v_ireturn hM d_Ne_trustIn_130 (by omega) ⟨rfl, rfl, by rw [trF, show (A 6).toNat = j by omega, ← hm, ← hs, if_pos (by omega)]⟩)
        | (have hdv := div_hund (a := sum) (b := m) (by omega) (by omega)
           exact v_ireturn hM d_Ne_trustIn_130 (by omega) ⟨rfl, rfl, by rw [trF, show (A 6).toNat = j by omega, ← hm, ← hs, if_neg (by omega)]⟩)
    · omega
  | succ n ih =>
    intro j m sum i hj hi hs hm
    obtain ⟨⟨q0, q1, q2, q3, q4, q5, q6, q7⟩, hVi, hWe, hCo, hOf, hBo, hWo, hMo, hRe, hLi, hTa⟩ := id hO
    obtain ⟨⟨l0, l1, lV, lC, lZ, lS⟩, ⟨b0, b1, bO, bB⟩, ⟨w0, wR, wL⟩, ⟨t0, t1, t2, tR, tB⟩, ⟨n9, nW⟩, m0, mM⟩ := id hC
    have htr := trS_rng hO w k j (by omega)
    have hwo := hWo i (by omega) (by omega)
    have hvw := valW_rng hO (i := i) (by omega)
    obtain ⟨w0', w1, w2, w3, w4⟩ := nW i (by omega) (by omega)
    have hlc := lC (A (930 + 5 * i + 1)) (A (930 + 5 * i + 2)) (by omega) (by omega) (by omega) (by omega)
    rw [show A (930 + 5 * i + 1) * 20 + A (930 + 5 * i + 2) = σ 34 i * 20 + σ 35 i by omega] at hlc
    have hco := hCo (A (930 + 5 * i + 1)) (A (930 + 5 * i + 2)) (by omega) (by omega) (by omega) (by omega)
    have hvx : valW A i = valF (σ 36 i) (σ 8 (σ 34 i * 20 + σ 35 i)) := by rw [valW, ← w3, ← hlc]
    refine v_iload5 d_Ne_trustIn_8 ?_
    refine v_aload0 d_Ne_trustIn_10 ?_
    refine v_getJ (ji := 1) d_Ne_trustIn_11 f_Ne_31 (sh_32 T) rfl rfl (fun g11 => ?_)
    refine v_icmp_ge d_Ne_trustIn_14 (by omega) (by omega) (fun u14 => ?_) (fun u14 => ?_)
    · omega
    · refine v_aload0 d_Ne_trustIn_17 ?_
      refine v_getR d_Ne_trustIn_18 f_Ne_18 (sh_32 T) rfl ?_
      refine v_iload5 d_Ne_trustIn_21 ?_
      refine v_iaload d_Ne_trustIn_23 (sh_35 T) (by omega) (fun g23 => ?_)
      refine v_iconst d_Ne_trustIn_24 ?_
      refine v_iadd d_Ne_trustIn_25 ?_
      refine v_bipush d_Ne_trustIn_26 rfl ?_
      refine v_imul d_Ne_trustIn_28 ?_
      refine v_iload2 d_Ne_trustIn_29 ?_
      refine v_icmp_gt d_Ne_trustIn_30 (by omega) (by omega) (fun u30 => ?_) (fun u30 => ?_)
      · refine v_iconst d_Ne_trustIn_37 ?_
        refine v_istore6 d_Ne_trustIn_38 (by decide) rfl ?_
        refine v_aload0 d_Ne_trustIn_40 ?_
        refine v_getR d_Ne_trustIn_41 f_Ne_9 (sh_32 T) rfl ?_
        refine v_iload5 d_Ne_trustIn_44 ?_
        refine v_iaload d_Ne_trustIn_46 (sh_33 T) (by omega) (fun g46 => ?_)
        refine v_iload1 d_Ne_trustIn_47 ?_
        refine v_icmp_ne d_Ne_trustIn_48 (by omega) (by omega) (fun u48 => ?_) (fun u48 => ?_)
        · refine v_iinc5 d_Ne_trustIn_111 (by decide) rfl ?_
          refine v_goto d_Ne_trustIn_114 ?_
          refine v_drop6 ?_
          first
          | (exfalso; omega)
          | (have e9 : trS A w k (j + 1) = trS A w k j := by rw [trS, ← hi, if_neg (by omega)]
             exact ih (j + 1) _ _ _ (by omega) (by omega) (by rw [e9]; exact hs) (by rw [e9]; exact hm))
          | (have e9 : trS A w k (j + 1) = (sum + valW A i, m + 1) := by rw [trS, ← hi, if_pos (by omega), ← hs, ← hm]
             exact ih (j + 1) _ _ _ (by omega) (by omega) (by rw [e9, valW, ← w3, ← hlc]) (by rw [e9]))
        · refine v_aload0 d_Ne_trustIn_51 ?_
          refine v_getR d_Ne_trustIn_52 f_Ne_24 (sh_32 T) rfl ?_
          refine v_iload5 d_Ne_trustIn_55 ?_
          refine v_iaload d_Ne_trustIn_57 (sh_37 T) (by omega) (fun g57 => ?_)
          refine v_iload2 d_Ne_trustIn_58 ?_
          refine v_icmp_gt d_Ne_trustIn_59 (by omega) (by omega) (fun u59 => ?_) (fun u59 => ?_)
          · refine v_iinc5 d_Ne_trustIn_111 (by decide) rfl ?_
            refine v_goto d_Ne_trustIn_114 ?_
            refine v_drop6 ?_
            first
            | (exfalso; omega)
            | (have e9 : trS A w k (j + 1) = trS A w k j := by rw [trS, ← hi, if_neg (by omega)]
               exact ih (j + 1) _ _ _ (by omega) (by omega) (by rw [e9]; exact hs) (by rw [e9]; exact hm))
            | (have e9 : trS A w k (j + 1) = (sum + valW A i, m + 1) := by rw [trS, ← hi, if_pos (by omega), ← hs, ← hm]
               exact ih (j + 1) _ _ _ (by omega) (by omega) (by rw [e9, valW, ← w3, ← hlc]) (by rw [e9]))
          · refine v_iload6 d_Ne_trustIn_62 ?_
            refine v_if_eq d_Ne_trustIn_64 (by omega) (fun u64 => ?_) (fun u64 => ?_)
            · refine v_iinc5 d_Ne_trustIn_111 (by decide) rfl ?_
              refine v_goto d_Ne_trustIn_114 ?_
              refine v_drop6 ?_
              first
              | (exfalso; omega)
              | (have e9 : trS A w k (j + 1) = trS A w k j := by rw [trS, ← hi, if_neg (by omega)]
                 exact ih (j + 1) _ _ _ (by omega) (by omega) (by rw [e9]; exact hs) (by rw [e9]; exact hm))
              | (have e9 : trS A w k (j + 1) = (sum + valW A i, m + 1) := by rw [trS, ← hi, if_pos (by omega), ← hs, ← hm]
                 exact ih (j + 1) _ _ _ (by omega) (by omega) (by rw [e9, valW, ← w3, ← hlc]) (by rw [e9]))
            · refine v_iinc3 d_Ne_trustIn_67 (by decide) rfl ?_
              refine v_iload4 d_Ne_trustIn_70 ?_
              refine v_aload0 d_Ne_trustIn_72 ?_
              refine v_getR d_Ne_trustIn_73 f_Ne_21 (sh_32 T) rfl ?_
              refine v_iload5 d_Ne_trustIn_76 ?_
              refine v_iaload d_Ne_trustIn_78 (sh_36 T) (by omega) (fun g78 => ?_)
              refine v_aload0 d_Ne_trustIn_79 ?_
              refine v_getR d_Ne_trustIn_80 f_Ne_27 (sh_32 T) rfl ?_
              refine v_getR d_Ne_trustIn_83 f_Ne_35 (sh_2 T) rfl ?_
              refine v_aload0 d_Ne_trustIn_86 ?_
              refine v_getR d_Ne_trustIn_87 f_Ne_15 (sh_32 T) rfl ?_
              refine v_iload5 d_Ne_trustIn_90 ?_
              refine v_iaload d_Ne_trustIn_92 (sh_34 T) (by omega) (fun g92 => ?_)
              refine v_bipush d_Ne_trustIn_93 rfl ?_
              refine v_imul d_Ne_trustIn_95 ?_
              refine v_aload0 d_Ne_trustIn_96 ?_
              refine v_getR d_Ne_trustIn_97 f_Ne_18 (sh_32 T) rfl ?_
              refine v_iload5 d_Ne_trustIn_100 ?_
              refine v_iaload d_Ne_trustIn_102 (sh_35 T) (by omega) (fun g102 => ?_)
              refine v_iadd d_Ne_trustIn_103 ?_
              refine v_iaload d_Ne_trustIn_104 (sh_8 T) (by omega) (fun g104 => ?_)
              refine v_fSI2 d_Ne_trustIn_105 l_Ne_38 k_Ne_valueOf (c_Ne_valueOf (by omega) (by omega)) (by decide) (by decide) (Nat.le_of_ble_eq_true rfl) (Nat.zero_le _) (Nat.zero_le _) (fun g105 => ?_)
              refine v_iadd d_Ne_trustIn_108 ?_
              refine v_istore4 d_Ne_trustIn_109 (by decide) rfl ?_
              refine v_iinc5 d_Ne_trustIn_111 (by decide) rfl ?_
              refine v_goto d_Ne_trustIn_114 ?_
              refine v_drop6 ?_
              first
              | (exfalso; omega)
              | (have e9 : trS A w k (j + 1) = trS A w k j := by rw [trS, ← hi, if_neg (by omega)]
                 exact ih (j + 1) _ _ _ (by omega) (by omega) (by rw [e9]; exact hs) (by rw [e9]; exact hm))
              | (have e9 : trS A w k (j + 1) = (sum + valW A i, m + 1) := by rw [trS, ← hi, if_pos (by omega), ← hs, ← hm]
                 exact ih (j + 1) _ _ _ (by omega) (by omega) (by rw [e9, valW, ← w3, ← hlc]) (by rw [e9]))
      · refine v_iconst d_Ne_trustIn_33 ?_
        refine v_goto d_Ne_trustIn_34 ?_
        refine v_istore6 d_Ne_trustIn_38 (by decide) rfl ?_
        refine v_aload0 d_Ne_trustIn_40 ?_
        refine v_getR d_Ne_trustIn_41 f_Ne_9 (sh_32 T) rfl ?_
        refine v_iload5 d_Ne_trustIn_44 ?_
        refine v_iaload d_Ne_trustIn_46 (sh_33 T) (by omega) (fun g46 => ?_)
        refine v_iload1 d_Ne_trustIn_47 ?_
        refine v_icmp_ne d_Ne_trustIn_48 (by omega) (by omega) (fun u48 => ?_) (fun u48 => ?_)
        · refine v_iinc5 d_Ne_trustIn_111 (by decide) rfl ?_
          refine v_goto d_Ne_trustIn_114 ?_
          refine v_drop6 ?_
          first
          | (exfalso; omega)
          | (have e9 : trS A w k (j + 1) = trS A w k j := by rw [trS, ← hi, if_neg (by omega)]
             exact ih (j + 1) _ _ _ (by omega) (by omega) (by rw [e9]; exact hs) (by rw [e9]; exact hm))
          | (have e9 : trS A w k (j + 1) = (sum + valW A i, m + 1) := by rw [trS, ← hi, if_pos (by omega), ← hs, ← hm]
             exact ih (j + 1) _ _ _ (by omega) (by omega) (by rw [e9, valW, ← w3, ← hlc]) (by rw [e9]))
        · refine v_aload0 d_Ne_trustIn_51 ?_
          refine v_getR d_Ne_trustIn_52 f_Ne_24 (sh_32 T) rfl ?_
          refine v_iload5 d_Ne_trustIn_55 ?_
          refine v_iaload d_Ne_trustIn_57 (sh_37 T) (by omega) (fun g57 => ?_)
          refine v_iload2 d_Ne_trustIn_58 ?_
          refine v_icmp_gt d_Ne_trustIn_59 (by omega) (by omega) (fun u59 => ?_) (fun u59 => ?_)
          · refine v_iinc5 d_Ne_trustIn_111 (by decide) rfl ?_
            refine v_goto d_Ne_trustIn_114 ?_
            refine v_drop6 ?_
            first
            | (exfalso; omega)
            | (have e9 : trS A w k (j + 1) = trS A w k j := by rw [trS, ← hi, if_neg (by omega)]
               exact ih (j + 1) _ _ _ (by omega) (by omega) (by rw [e9]; exact hs) (by rw [e9]; exact hm))
            | (have e9 : trS A w k (j + 1) = (sum + valW A i, m + 1) := by rw [trS, ← hi, if_pos (by omega), ← hs, ← hm]
               exact ih (j + 1) _ _ _ (by omega) (by omega) (by rw [e9, valW, ← w3, ← hlc]) (by rw [e9]))
          · refine v_iload6 d_Ne_trustIn_62 ?_
            refine v_if_eq d_Ne_trustIn_64 (by omega) (fun u64 => ?_) (fun u64 => ?_)
            · refine v_iinc5 d_Ne_trustIn_111 (by decide) rfl ?_
              refine v_goto d_Ne_trustIn_114 ?_
              refine v_drop6 ?_
              first
              | (exfalso; omega)
              | (have e9 : trS A w k (j + 1) = trS A w k j := by rw [trS, ← hi, if_neg (by omega)]
                 exact ih (j + 1) _ _ _ (by omega) (by omega) (by rw [e9]; exact hs) (by rw [e9]; exact hm))
              | (have e9 : trS A w k (j + 1) = (sum + valW A i, m + 1) := by rw [trS, ← hi, if_pos (by omega), ← hs, ← hm]
                 exact ih (j + 1) _ _ _ (by omega) (by omega) (by rw [e9, valW, ← w3, ← hlc]) (by rw [e9]))
            · refine v_iinc3 d_Ne_trustIn_67 (by decide) rfl ?_
              refine v_iload4 d_Ne_trustIn_70 ?_
              refine v_aload0 d_Ne_trustIn_72 ?_
              refine v_getR d_Ne_trustIn_73 f_Ne_21 (sh_32 T) rfl ?_
              refine v_iload5 d_Ne_trustIn_76 ?_
              refine v_iaload d_Ne_trustIn_78 (sh_36 T) (by omega) (fun g78 => ?_)
              refine v_aload0 d_Ne_trustIn_79 ?_
              refine v_getR d_Ne_trustIn_80 f_Ne_27 (sh_32 T) rfl ?_
              refine v_getR d_Ne_trustIn_83 f_Ne_35 (sh_2 T) rfl ?_
              refine v_aload0 d_Ne_trustIn_86 ?_
              refine v_getR d_Ne_trustIn_87 f_Ne_15 (sh_32 T) rfl ?_
              refine v_iload5 d_Ne_trustIn_90 ?_
              refine v_iaload d_Ne_trustIn_92 (sh_34 T) (by omega) (fun g92 => ?_)
              refine v_bipush d_Ne_trustIn_93 rfl ?_
              refine v_imul d_Ne_trustIn_95 ?_
              refine v_aload0 d_Ne_trustIn_96 ?_
              refine v_getR d_Ne_trustIn_97 f_Ne_18 (sh_32 T) rfl ?_
              refine v_iload5 d_Ne_trustIn_100 ?_
              refine v_iaload d_Ne_trustIn_102 (sh_35 T) (by omega) (fun g102 => ?_)
              refine v_iadd d_Ne_trustIn_103 ?_
              refine v_iaload d_Ne_trustIn_104 (sh_8 T) (by omega) (fun g104 => ?_)
              refine v_fSI2 d_Ne_trustIn_105 l_Ne_38 k_Ne_valueOf (c_Ne_valueOf (by omega) (by omega)) (by decide) (by decide) (Nat.le_of_ble_eq_true rfl) (Nat.zero_le _) (Nat.zero_le _) (fun g105 => ?_)
              refine v_iadd d_Ne_trustIn_108 ?_
              refine v_istore4 d_Ne_trustIn_109 (by decide) rfl ?_
              refine v_iinc5 d_Ne_trustIn_111 (by decide) rfl ?_
              refine v_goto d_Ne_trustIn_114 ?_
              refine v_drop6 ?_
              first
              | (exfalso; omega)
              | (have e9 : trS A w k (j + 1) = trS A w k j := by rw [trS, ← hi, if_neg (by omega)]
                 exact ih (j + 1) _ _ _ (by omega) (by omega) (by rw [e9]; exact hs) (by rw [e9]; exact hm))
              | (have e9 : trS A w k (j + 1) = (sum + valW A i, m + 1) := by rw [trS, ← hi, if_pos (by omega), ← hs, ← hm]
                 exact ih (j + 1) _ _ _ (by omega) (by omega) (by rw [e9, valW, ← w3, ← hlc]) (by rw [e9]))

theorem c_Ne_trustIn {T : vSh} {σ : vMem} {A : Int → Int} (hC : CR σ A) (hO : okA A) {w k : Int} (h0 : vIn w) (h1 : vIn k) : mt_Ne_trustIn [.ref 32, .int (iI w), .int (iI k)] (S0 ++ T) σ (rF (S0 ++ T) σ (trF A w k)) := by
  refine vMet.intro 4 (by decide +kernel) (Nat.le_of_ble_eq_true rfl) rfl (fun cx hM _ => ?_)
  obtain ⟨⟨q0, q1, q2, q3, q4, q5, q6, q7⟩, hVi, hWe, hCo, hOf, hBo, hWo, hMo, hRe, hLi, hTa⟩ := id hO
  obtain ⟨⟨l0, l1, lV, lC, lZ, lS⟩, ⟨b0, b1, bO, bB⟩, ⟨w0, wR, wL⟩, ⟨t0, t1, t2, tR, tB⟩, ⟨n9, nW⟩, m0, mM⟩ := id hC
  refine v_iconst d_Ne_trustIn_0 ?_
  refine v_istore3 d_Ne_trustIn_1 (by decide) rfl ?_
  refine v_iconst d_Ne_trustIn_2 ?_
  refine v_istore4 d_Ne_trustIn_3 (by decide) rfl ?_
  refine v_iconst d_Ne_trustIn_5 ?_
  refine v_istore5 d_Ne_trustIn_6 (by decide) rfl ?_
  exact c_Ne_trustIn_8 hC hO h0 h1 hM (A 6).toNat 0 _ _ _ (by omega) rfl rfl rfl

theorem c_V_trust {T : vSh} {σ : vMem} {A : Int → Int} (hC : CR σ A) (hO : okA A) {w k : Int} (h0 : vIn w) (h1 : vIn k) : mt_V_trust [.ref 0, .int (iI w), .int (iI k)] (S0 ++ T) σ (rF (S0 ++ T) σ (rTrust A w k)) := by
  refine vMet.intro 0 (by decide +kernel) (Nat.le_of_ble_eq_true rfl) rfl (fun cx hM _ => ?_)
  obtain ⟨⟨q0, q1, q2, q3, q4, q5, q6, q7⟩, hVi, hWe, hCo, hOf, hBo, hWo, hMo, hRe, hLi, hTa⟩ := id hO
  obtain ⟨⟨l0, l1, lV, lC, lZ, lS⟩, ⟨b0, b1, bO, bB⟩, ⟨w0, wR, wL⟩, ⟨t0, t1, t2, tR, tB⟩, ⟨n9, nW⟩, m0, mM⟩ := id hC
  refine v_iload1 d_V_trust_0 ?_
  refine v_fSZ1 d_V_trust_1 l_V_293 k_V_isWriter (c_V_isWriter (by omega)) (by decide) (by decide) (Nat.le_of_ble_eq_true rfl) (Nat.zero_le _) (Nat.zero_le _) (fun g1 => ?_)
  refine v_ifb_eq d_V_trust_4 (fun u4 => ?_) (fun u4 => ?_)
  · refine v_iconst d_V_trust_15 ?_
    first
    | (exact v_ireturn hM d_V_trust_16 g23 ⟨rfl, rfl, by rw [rTrust, if_pos (by omega)]⟩)
    | (exact v_ireturn hM d_V_trust_16 (by omega) ⟨rfl, rfl, by rw [rTrust, if_neg (by omega)]⟩)
  · refine v_aload0 d_V_trust_7 ?_
    refine v_iload2 d_V_trust_8 ?_
    refine v_fVZ1 d_V_trust_9 l_V_181 k_V_isKnownDay (c_V_isKnownDay hC hO (by omega)) (sh_0 T) rfl (by decide) (by decide) (Nat.le_of_ble_eq_true rfl) (Nat.zero_le _) (Nat.zero_le _) (fun g9 => ?_)
    refine v_ifb_ne d_V_trust_12 (fun u12 => ?_) (fun u12 => ?_)
    · refine v_aload0 d_V_trust_17 ?_
      refine v_getR d_V_trust_18 f_V_76 (sh_0 T) rfl ?_
      refine v_iload1 d_V_trust_21 ?_
      refine v_iload2 d_V_trust_22 ?_
      refine v_fVI2 d_V_trust_23 l_V_302 k_Ne_trustIn (c_Ne_trustIn hC hO (by omega) (by omega)) (sh_32 T) rfl (by decide) (by decide) (Nat.le_of_ble_eq_true rfl) (Nat.zero_le _) (Nat.zero_le _) (fun g23 => ?_)
      first
      | (exact v_ireturn hM d_V_trust_26 g23 ⟨rfl, rfl, by rw [rTrust, if_pos (by omega)]⟩)
      | (exact v_ireturn hM d_V_trust_26 (by omega) ⟨rfl, rfl, by rw [rTrust, if_neg (by omega)]⟩)
    · refine v_iconst d_V_trust_15 ?_
      first
      | (exact v_ireturn hM d_V_trust_16 g23 ⟨rfl, rfl, by rw [rTrust, if_pos (by omega)]⟩)
      | (exact v_ireturn hM d_V_trust_16 (by omega) ⟨rfl, rfl, by rw [rTrust, if_neg (by omega)]⟩)

theorem c_V_famine {T : vSh} {σ : vMem} {A : Int → Int} (hC : CR σ A) (hO : okA A) {v s k : Int} (h0 : vIn v) (h1 : vIn s) (h2 : vIn k) : mt_V_famine [.ref 0, .int (iI v), .int (iI s), .int (iI k)] (S0 ++ T) σ (rF (S0 ++ T) σ (b01 (askP A v s k ∧ famP A v s k))) := by
  refine vMet.intro 0 (by decide +kernel) (Nat.le_of_ble_eq_true rfl) rfl (fun cx hM _ => ?_)
  obtain ⟨⟨q0, q1, q2, q3, q4, q5, q6, q7⟩, hVi, hWe, hCo, hOf, hBo, hWo, hMo, hRe, hLi, hTa⟩ := id hO
  obtain ⟨⟨l0, l1, lV, lC, lZ, lS⟩, ⟨b0, b1, bO, bB⟩, ⟨w0, wR, wL⟩, ⟨t0, t1, t2, tR, tB⟩, ⟨n9, nW⟩, m0, mM⟩ := id hC
  refine v_aload0 d_V_famine_0 ?_
  refine v_iload1 d_V_famine_1 ?_
  refine v_fVZ1 d_V_famine_2 l_V_107 k_V_isVillage (c_V_isVillage hC hO (by omega)) (sh_0 T) rfl (by decide) (by decide) (Nat.le_of_ble_eq_true rfl) (Nat.zero_le _) (Nat.zero_le _) (fun g2 => ?_)
  refine v_ifb_eq d_V_famine_5 (fun u5 => ?_) (fun u5 => ?_)
  · refine v_iconst d_V_famine_40 ?_
    first | exact v_zreturn hM d_V_famine_41 (Or.inr rfl) ⟨rfl, rfl, b01_1 (by omega)⟩ | exact v_zreturn hM d_V_famine_41 (Or.inl rfl) ⟨rfl, rfl, b01_0 (by omega)⟩ | exact v_zreturn hM d_V_famine_41 b01_or ⟨rfl, rfl, rfl⟩
  · refine v_iload2 d_V_famine_8 ?_
    refine v_fSZ1 d_V_famine_9 l_V_96 k_V_isSeason (c_V_isSeason (by omega)) (by decide) (by decide) (Nat.le_of_ble_eq_true rfl) (Nat.zero_le _) (Nat.zero_le _) (fun g9 => ?_)
    refine v_ifb_eq d_V_famine_12 (fun u12 => ?_) (fun u12 => ?_)
    · refine v_iconst d_V_famine_40 ?_
      first | exact v_zreturn hM d_V_famine_41 (Or.inr rfl) ⟨rfl, rfl, b01_1 (by omega)⟩ | exact v_zreturn hM d_V_famine_41 (Or.inl rfl) ⟨rfl, rfl, b01_0 (by omega)⟩ | exact v_zreturn hM d_V_famine_41 b01_or ⟨rfl, rfl, rfl⟩
    · refine v_aload0 d_V_famine_15 ?_
      refine v_iload3 d_V_famine_16 ?_
      refine v_fVZ1 d_V_famine_17 l_V_181 k_V_isKnownDay (c_V_isKnownDay hC hO (by omega)) (sh_0 T) rfl (by decide) (by decide) (Nat.le_of_ble_eq_true rfl) (Nat.zero_le _) (Nat.zero_le _) (fun g17 => ?_)
      refine v_ifb_eq d_V_famine_20 (fun u20 => ?_) (fun u20 => ?_)
      · refine v_iconst d_V_famine_40 ?_
        first | exact v_zreturn hM d_V_famine_41 (Or.inr rfl) ⟨rfl, rfl, b01_1 (by omega)⟩ | exact v_zreturn hM d_V_famine_41 (Or.inl rfl) ⟨rfl, rfl, b01_0 (by omega)⟩ | exact v_zreturn hM d_V_famine_41 b01_or ⟨rfl, rfl, rfl⟩
      · refine v_aload0 d_V_famine_23 ?_
        refine v_getR d_V_famine_24 f_V_76 (sh_0 T) rfl ?_
        refine v_iload1 d_V_famine_27 ?_
        refine v_iload2 d_V_famine_28 ?_
        refine v_iload3 d_V_famine_29 ?_
        refine v_fVZ3 d_V_famine_30 l_V_308 k_Ne_isProven (c_Ne_isProven hC hO (by omega) (by omega) (by omega)) (sh_32 T) rfl (by decide) (by decide) (Nat.le_of_ble_eq_true rfl) (Nat.zero_le _) (Nat.zero_le _) (fun g30 => ?_)
        refine v_ifb_eq d_V_famine_33 (fun u33 => ?_) (fun u33 => ?_)
        · refine v_iconst d_V_famine_40 ?_
          first | exact v_zreturn hM d_V_famine_41 (Or.inr rfl) ⟨rfl, rfl, b01_1 (by omega)⟩ | exact v_zreturn hM d_V_famine_41 (Or.inl rfl) ⟨rfl, rfl, b01_0 (by omega)⟩ | exact v_zreturn hM d_V_famine_41 b01_or ⟨rfl, rfl, rfl⟩
        · refine v_iconst d_V_famine_36 ?_
          refine v_goto d_V_famine_37 ?_
          first | exact v_zreturn hM d_V_famine_41 (Or.inr rfl) ⟨rfl, rfl, b01_1 (by omega)⟩ | exact v_zreturn hM d_V_famine_41 (Or.inl rfl) ⟨rfl, rfl, b01_0 (by omega)⟩ | exact v_zreturn hM d_V_famine_41 b01_or ⟨rfl, rfl, rfl⟩

theorem c_Ne_weigh_9 {T : vSh} {σ : vMem} {cx : vCx} {A : Int → Int} (hC : CR σ A) (hO : okA A) {v s k : Int} (h0 : askP A v s k) (hM : vM cx 0 0 (some .int) (rF (S0 ++ T) σ (rWeigh A v s k))) : ∀ (n j : Nat) (sum ws i : Int), (j : Int) + n = 5 → i = j → sum = (wgS A v s k j).1 → ws = (wgS A v s k j).2 → vV cx y_Ne_weigh.cls prog_8_method_5_code 9 3 0 0 0 0 9 [some (.ref 32), some (.int (iI v)), some (.int (iI s)), some (.int (iI k)), some (.int (iI sum)), some (.int (iI ws)), some (.int (iI i)), none, none] [] (S0 ++ T) σ := by
  intro n
  induction n with
  | zero =>
    intro j sum ws i hj hi hs hw
    obtain ⟨⟨q0, q1, q2, q3, q4, q5, q6, q7⟩, hVi, hWe, hCo, hOf, hBo, hWo, hMo, hRe, hLi, hTa⟩ := id hO
    obtain ⟨⟨l0, l1, lV, lC, lZ, lS⟩, ⟨b0, b1, bO, bB⟩, ⟨w0, wR, wL⟩, ⟨t0, t1, t2, tR, tB⟩, ⟨n9, nW⟩, m0, mM⟩ := id hC
    have hwr := wgS_rng hO v s k j (by omega)
    refine v_iload6 d_Ne_weigh_9 ?_
    refine v_iconst d_Ne_weigh_11 ?_
    refine v_icmp_ge d_Ne_weigh_12 (by omega) (by omega) (fun u12 => ?_) (fun u12 => ?_)
    · refine v_iload5 d_Ne_weigh_69 ?_
      refine v_if_ne d_Ne_weigh_71 (by omega) (fun u71 => ?_) (fun u71 => ?_)
      · refine v_iload4 d_Ne_weigh_78 ?_
        refine v_iload5 d_Ne_weigh_80 ?_
        refine v_idiv d_Ne_weigh_82 (by omega) (by omega) ?_
        first
        | (exact v_ireturn hM d_Ne_weigh_83 (by omega) ⟨rfl, rfl, by rw [rWeigh, if_pos h0, show 5 = j by omega, ← hw, ← hs, if_pos (by omega)]⟩)
        | (have hdv := div_bnd (a := sum) (b := ws) (m := 5000000) (by omega) (by omega)
           exact v_ireturn hM d_Ne_weigh_83 (by omega) ⟨rfl, rfl, by rw [rWeigh, if_pos h0, show 5 = j by omega, ← hw, ← hs, if_neg (by omega)]⟩)
      · refine v_iconst d_Ne_weigh_74 ?_
        refine v_goto d_Ne_weigh_75 ?_
        first
        | (exact v_ireturn hM d_Ne_weigh_83 (by omega) ⟨rfl, rfl, by rw [rWeigh, if_pos h0, show 5 = j by omega, ← hw, ← hs, if_pos (by omega)]⟩)
        | (have hdv := div_bnd (a := sum) (b := ws) (m := 5000000) (by omega) (by omega)
           exact v_ireturn hM d_Ne_weigh_83 (by omega) ⟨rfl, rfl, by rw [rWeigh, if_pos h0, show 5 = j by omega, ← hw, ← hs, if_neg (by omega)]⟩)
    · omega
  | succ n ih =>
    intro j sum ws i hj hi hs hw
    obtain ⟨⟨q0, q1, q2, q3, q4, q5, q6, q7⟩, hVi, hWe, hCo, hOf, hBo, hWo, hMo, hRe, hLi, hTa⟩ := id hO
    obtain ⟨⟨l0, l1, lV, lC, lZ, lS⟩, ⟨b0, b1, bO, bB⟩, ⟨w0, wR, wL⟩, ⟨t0, t1, t2, tR, tB⟩, ⟨n9, nW⟩, m0, mM⟩ := id hC
    have hwr := wgS_rng hO v s k j (by omega)
    have hlr := lastW_rng A i v s k q6.1
    have htf := trF_rng hO i k
    refine v_iload6 d_Ne_weigh_9 ?_
    refine v_iconst d_Ne_weigh_11 ?_
    refine v_icmp_ge d_Ne_weigh_12 (by omega) (by omega) (fun u12 => ?_) (fun u12 => ?_)
    · omega
    · refine v_aload0 d_Ne_weigh_15 ?_
      refine v_iload6 d_Ne_weigh_16 ?_
      refine v_iload1 d_Ne_weigh_18 ?_
      refine v_iload2 d_Ne_weigh_19 ?_
      refine v_iload3 d_Ne_weigh_20 ?_
      refine v_fVI4 d_Ne_weigh_21 l_Ne_51 k_Ne_lastWord (c_Ne_lastWord hC hO (by omega) (by omega) (by omega) (by omega)) (sh_32 T) rfl (by decide) (by decide) (Nat.le_of_ble_eq_true rfl) (Nat.zero_le _) (Nat.zero_le _) (fun g21 => ?_)
      refine v_istore7 d_Ne_weigh_24 (by decide) rfl ?_
      refine v_iload7 d_Ne_weigh_26 ?_
      refine v_iconst d_Ne_weigh_28 ?_
      refine v_icmp_eq d_Ne_weigh_29 (by omega) (by omega) (fun u29 => ?_) (fun u29 => ?_)
      · refine v_iinc6 d_Ne_weigh_63 (by decide) rfl ?_
        refine v_goto d_Ne_weigh_66 ?_
        refine v_drop7 ?_
        first
        | (have e9 : wgS A v s k (j + 1) = wgS A v s k j := by rw [wgS, ← hi, if_pos (by omega)]
           exact ih (j + 1) _ _ _ (by omega) (by omega) (by rw [e9]; exact hs) (by rw [e9]; exact hw))
        | (have e9 : wgS A v s k (j + 1) = (sum + A (930 + 5 * lastW A i v s k + 3) * trF A i k, ws + trF A i k) := by rw [wgS, ← hi, if_neg (by omega), ← hs, ← hw]
           exact ih (j + 1) _ _ _ (by omega) (by omega) (by rw [e9, ← hn1.2.2.2.1]) (by rw [e9]))
      · have hw1 := wg_one hO v s k i (by omega)
        have hn1 := nW (lastW A i v s k) (by omega) (by omega)
        rw [← hn1.2.2.2.1] at hw1
        refine v_aload0 d_Ne_weigh_32 ?_
        refine v_iload6 d_Ne_weigh_33 ?_
        refine v_iload3 d_Ne_weigh_35 ?_
        refine v_fVI2 d_Ne_weigh_36 l_Ne_55 k_Ne_trustIn (c_Ne_trustIn hC hO (by omega) (by omega)) (sh_32 T) rfl (by decide) (by decide) (Nat.le_of_ble_eq_true rfl) (Nat.zero_le _) (Nat.zero_le _) (fun g36 => ?_)
        refine v_istore8 d_Ne_weigh_39 (by decide) rfl ?_
        refine v_iload4 d_Ne_weigh_41 ?_
        refine v_aload0 d_Ne_weigh_43 ?_
        refine v_getR d_Ne_weigh_44 f_Ne_21 (sh_32 T) rfl ?_
        refine v_iload7 d_Ne_weigh_47 ?_
        refine v_iaload d_Ne_weigh_49 (sh_36 T) (by omega) (fun g49 => ?_)
        refine v_iload8 d_Ne_weigh_50 ?_
        refine v_imul d_Ne_weigh_52 ?_
        refine v_iadd d_Ne_weigh_53 ?_
        refine v_istore4 d_Ne_weigh_54 (by decide) rfl ?_
        refine v_iload5 d_Ne_weigh_56 ?_
        refine v_iload8 d_Ne_weigh_58 ?_
        refine v_iadd d_Ne_weigh_60 ?_
        refine v_istore5 d_Ne_weigh_61 (by decide) rfl ?_
        refine v_iinc6 d_Ne_weigh_63 (by decide) rfl ?_
        refine v_goto d_Ne_weigh_66 ?_
        refine v_drop7 ?_
        refine v_drop8 ?_
        first
        | (have e9 : wgS A v s k (j + 1) = wgS A v s k j := by rw [wgS, ← hi, if_pos (by omega)]
           exact ih (j + 1) _ _ _ (by omega) (by omega) (by rw [e9]; exact hs) (by rw [e9]; exact hw))
        | (have e9 : wgS A v s k (j + 1) = (sum + A (930 + 5 * lastW A i v s k + 3) * trF A i k, ws + trF A i k) := by rw [wgS, ← hi, if_neg (by omega), ← hs, ← hw]
           exact ih (j + 1) _ _ _ (by omega) (by omega) (by rw [e9, ← hn1.2.2.2.1]) (by rw [e9]))

theorem c_Ne_weigh {T : vSh} {σ : vMem} {A : Int → Int} (hC : CR σ A) (hO : okA A) {v s k : Int} (h0 : askP A v s k) : mt_Ne_weigh [.ref 32, .int (iI v), .int (iI s), .int (iI k)] (S0 ++ T) σ (rF (S0 ++ T) σ (rWeigh A v s k)) := by
  refine vMet.intro 5 (by decide +kernel) (Nat.le_of_ble_eq_true rfl) rfl (fun cx hM _ => ?_)
  obtain ⟨⟨q0, q1, q2, q3, q4, q5, q6, q7⟩, hVi, hWe, hCo, hOf, hBo, hWo, hMo, hRe, hLi, hTa⟩ := id hO
  obtain ⟨⟨l0, l1, lV, lC, lZ, lS⟩, ⟨b0, b1, bO, bB⟩, ⟨w0, wR, wL⟩, ⟨t0, t1, t2, tR, tB⟩, ⟨n9, nW⟩, m0, mM⟩ := id hC
  refine v_iconst d_Ne_weigh_0 ?_
  refine v_istore4 d_Ne_weigh_1 (by decide) rfl ?_
  refine v_iconst d_Ne_weigh_3 ?_
  refine v_istore5 d_Ne_weigh_4 (by decide) rfl ?_
  refine v_iconst d_Ne_weigh_6 ?_
  refine v_istore6 d_Ne_weigh_7 (by decide) rfl ?_
  exact c_Ne_weigh_9 hC hO (by omega) hM 5 0 _ _ _ (by omega) rfl rfl rfl

theorem c_V_weighed {T : vSh} {σ : vMem} {A : Int → Int} (hC : CR σ A) (hO : okA A) {v s k : Int} (h0 : vIn v) (h1 : vIn s) (h2 : vIn k) : mt_V_weighed [.ref 0, .int (iI v), .int (iI s), .int (iI k)] (S0 ++ T) σ (rF (S0 ++ T) σ (rWeigh A v s k)) := by
  refine vMet.intro 0 (by decide +kernel) (Nat.le_of_ble_eq_true rfl) rfl (fun cx hM _ => ?_)
  obtain ⟨⟨q0, q1, q2, q3, q4, q5, q6, q7⟩, hVi, hWe, hCo, hOf, hBo, hWo, hMo, hRe, hLi, hTa⟩ := id hO
  obtain ⟨⟨l0, l1, lV, lC, lZ, lS⟩, ⟨b0, b1, bO, bB⟩, ⟨w0, wR, wL⟩, ⟨t0, t1, t2, tR, tB⟩, ⟨n9, nW⟩, m0, mM⟩ := id hC
  refine v_aload0 d_V_weighed_0 ?_
  refine v_iload1 d_V_weighed_1 ?_
  refine v_fVZ1 d_V_weighed_2 l_V_107 k_V_isVillage (c_V_isVillage hC hO (by omega)) (sh_0 T) rfl (by decide) (by decide) (Nat.le_of_ble_eq_true rfl) (Nat.zero_le _) (Nat.zero_le _) (fun g2 => ?_)
  refine v_ifb_eq d_V_weighed_5 (fun u5 => ?_) (fun u5 => ?_)
  · refine v_iconst d_V_weighed_23 ?_
    first
    | (exact v_ireturn hM d_V_weighed_24 g32 ⟨rfl, rfl, rfl⟩)
    | (exact v_ireturn hM d_V_weighed_24 (by omega) ⟨rfl, rfl, by rw [rWeigh, if_neg (by omega)]⟩)
  · refine v_iload2 d_V_weighed_8 ?_
    refine v_fSZ1 d_V_weighed_9 l_V_96 k_V_isSeason (c_V_isSeason (by omega)) (by decide) (by decide) (Nat.le_of_ble_eq_true rfl) (Nat.zero_le _) (Nat.zero_le _) (fun g9 => ?_)
    refine v_ifb_eq d_V_weighed_12 (fun u12 => ?_) (fun u12 => ?_)
    · refine v_iconst d_V_weighed_23 ?_
      first
      | (exact v_ireturn hM d_V_weighed_24 g32 ⟨rfl, rfl, rfl⟩)
      | (exact v_ireturn hM d_V_weighed_24 (by omega) ⟨rfl, rfl, by rw [rWeigh, if_neg (by omega)]⟩)
    · refine v_aload0 d_V_weighed_15 ?_
      refine v_iload3 d_V_weighed_16 ?_
      refine v_fVZ1 d_V_weighed_17 l_V_181 k_V_isKnownDay (c_V_isKnownDay hC hO (by omega)) (sh_0 T) rfl (by decide) (by decide) (Nat.le_of_ble_eq_true rfl) (Nat.zero_le _) (Nat.zero_le _) (fun g17 => ?_)
      refine v_ifb_ne d_V_weighed_20 (fun u20 => ?_) (fun u20 => ?_)
      · refine v_aload0 d_V_weighed_25 ?_
        refine v_getR d_V_weighed_26 f_V_76 (sh_0 T) rfl ?_
        refine v_iload1 d_V_weighed_29 ?_
        refine v_iload2 d_V_weighed_30 ?_
        refine v_iload3 d_V_weighed_31 ?_
        refine v_fVI3 d_V_weighed_32 l_V_305 k_Ne_weigh (c_Ne_weigh hC hO (by omega)) (sh_32 T) rfl (by decide) (by decide) (Nat.le_of_ble_eq_true rfl) (Nat.zero_le _) (Nat.zero_le _) (fun g32 => ?_)
        first
        | (exact v_ireturn hM d_V_weighed_35 g32 ⟨rfl, rfl, rfl⟩)
        | (exact v_ireturn hM d_V_weighed_35 (by omega) ⟨rfl, rfl, by rw [rWeigh, if_neg (by omega)]⟩)
      · refine v_iconst d_V_weighed_23 ?_
        first
        | (exact v_ireturn hM d_V_weighed_24 g32 ⟨rfl, rfl, rfl⟩)
        | (exact v_ireturn hM d_V_weighed_24 (by omega) ⟨rfl, rfl, by rw [rWeigh, if_neg (by omega)]⟩)

