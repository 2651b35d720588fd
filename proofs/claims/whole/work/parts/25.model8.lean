theorem c_M_holder {T : vSh} {σ : vMem} {A : Int → Int} (hA : σ 56 = A) (hO : okA A) {v dd k : Int} (h0 : vIn v) (h1 : vIn dd) (h2 : vIn k) : mt_M_holder [.ref 55, .int (iI v), .int (iI dd), .int (iI k)] (S0 ++ T) σ (rF (S0 ++ T) σ (rHolder A v dd k)) := by
  refine vMet.intro 0 (by decide +kernel) (Nat.le_of_ble_eq_true rfl) rfl (fun cx hM _ => ?_)
  obtain ⟨⟨q0, q1, q2, q3, q4, q5, q6, q7⟩, hVi, hWe, hCo, hOf, hBo, hWo, hMo, hRe, hLi, hTa⟩ := id hO
  refine v_aload0 d_M_holder_0 ?_
  refine v_iload1 d_M_holder_1 ?_
  refine v_iconst d_M_holder_2 ?_
  refine v_fVZ2 d_M_holder_3 l_M_64 k_M_isOf (c_M_isOf hA (by omega) (by omega) (by omega)) (sh_55 T) rfl (by decide) (by decide) (Nat.le_of_ble_eq_true rfl) (Nat.zero_le _) (Nat.zero_le _) (fun g3 => ?_)
  refine v_ifb_eq d_M_holder_6 (fun u6 => ?_) (fun u6 => ?_)
  · refine v_bipush d_M_holder_34 rfl ?_
    first
    | (exact v_ireturn hM d_M_holder_36 g28 ⟨rfl, rfl, by rw [rHolder, if_pos (by omega)]⟩)
    | (exact v_ireturn hM d_M_holder_36 (by omega) ⟨rfl, rfl, by rw [rHolder, if_neg (by omega)]⟩)
  · refine v_iload2 d_M_holder_9 ?_
    refine v_fSZ1 d_M_holder_10 l_M_101 k_M_isDay (c_M_isDay (by omega)) (by decide) (by decide) (Nat.le_of_ble_eq_true rfl) (Nat.zero_le _) (Nat.zero_le _) (fun g10 => ?_)
    refine v_ifb_eq d_M_holder_13 (fun u13 => ?_) (fun u13 => ?_)
    · refine v_bipush d_M_holder_34 rfl ?_
      first
      | (exact v_ireturn hM d_M_holder_36 g28 ⟨rfl, rfl, by rw [rHolder, if_pos (by omega)]⟩)
      | (exact v_ireturn hM d_M_holder_36 (by omega) ⟨rfl, rfl, by rw [rHolder, if_neg (by omega)]⟩)
    · refine v_aload0 d_M_holder_16 ?_
      refine v_iload3 d_M_holder_17 ?_
      refine v_fVZ1 d_M_holder_18 l_M_116 k_M_isKnown (c_M_isKnown hA (by omega)) (sh_55 T) rfl (by decide) (by decide) (Nat.le_of_ble_eq_true rfl) (Nat.zero_le _) (Nat.zero_le _) (fun g18 => ?_)
      refine v_ifb_eq d_M_holder_21 (fun u21 => ?_) (fun u21 => ?_)
      · refine v_bipush d_M_holder_34 rfl ?_
        first
        | (exact v_ireturn hM d_M_holder_36 g28 ⟨rfl, rfl, by rw [rHolder, if_pos (by omega)]⟩)
        | (exact v_ireturn hM d_M_holder_36 (by omega) ⟨rfl, rfl, by rw [rHolder, if_neg (by omega)]⟩)
      · refine v_aload0 d_M_holder_24 ?_
        refine v_iload1 d_M_holder_25 ?_
        refine v_iload2 d_M_holder_26 ?_
        refine v_iload3 d_M_holder_27 ?_
        refine v_fVI3 d_M_holder_28 l_M_86 k_M_held (c_M_held hA hO (by omega) (by omega) (by omega)) (sh_55 T) rfl (by decide) (by decide) (Nat.le_of_ble_eq_true rfl) (Nat.zero_le _) (Nat.zero_le _) (fun g28 => ?_)
        refine v_goto d_M_holder_31 ?_
        first
        | (exact v_ireturn hM d_M_holder_36 g28 ⟨rfl, rfl, by rw [rHolder, if_pos (by omega)]⟩)
        | (exact v_ireturn hM d_M_holder_36 (by omega) ⟨rfl, rfl, by rw [rHolder, if_neg (by omega)]⟩)

theorem c_M_rank {T : vSh} {σ : vMem} {A : Int → Int} (hA : σ 56 = A) (hO : okA A) {oo dd k : Int} (h0 : vIn oo) (h1 : vIn dd) (h2 : vIn k) : mt_M_rank [.ref 55, .int (iI oo), .int (iI dd), .int (iI k)] (S0 ++ T) σ (rF (S0 ++ T) σ (rRank A oo dd k)) := by
  refine vMet.intro 0 (by decide +kernel) (Nat.le_of_ble_eq_true rfl) rfl (fun cx hM _ => ?_)
  obtain ⟨⟨q0, q1, q2, q3, q4, q5, q6, q7⟩, hVi, hWe, hCo, hOf, hBo, hWo, hMo, hRe, hLi, hTa⟩ := id hO
  refine v_aload0 d_M_rank_0 ?_
  refine v_iload1 d_M_rank_1 ?_
  refine v_iconst d_M_rank_2 ?_
  refine v_fVZ2 d_M_rank_3 l_M_64 k_M_isOf (c_M_isOf hA (by omega) (by omega) (by omega)) (sh_55 T) rfl (by decide) (by decide) (Nat.le_of_ble_eq_true rfl) (Nat.zero_le _) (Nat.zero_le _) (fun g3 => ?_)
  refine v_ifb_eq d_M_rank_6 (fun u6 => ?_) (fun u6 => ?_)
  · refine v_iconst d_M_rank_43 ?_
    first
    | (exact v_ireturn hM d_M_rank_44 g37 ⟨rfl, rfl, by rw [rRank, if_pos (by omega)]⟩)
    | (exact v_ireturn hM d_M_rank_44 (by omega) ⟨rfl, rfl, by rw [rRank, if_neg (by omega)]⟩)
  · refine v_iload2 d_M_rank_9 ?_
    refine v_fSZ1 d_M_rank_10 l_M_101 k_M_isDay (c_M_isDay (by omega)) (by decide) (by decide) (Nat.le_of_ble_eq_true rfl) (Nat.zero_le _) (Nat.zero_le _) (fun g10 => ?_)
    refine v_ifb_eq d_M_rank_13 (fun u13 => ?_) (fun u13 => ?_)
    · refine v_iconst d_M_rank_43 ?_
      first
      | (exact v_ireturn hM d_M_rank_44 g37 ⟨rfl, rfl, by rw [rRank, if_pos (by omega)]⟩)
      | (exact v_ireturn hM d_M_rank_44 (by omega) ⟨rfl, rfl, by rw [rRank, if_neg (by omega)]⟩)
    · refine v_aload0 d_M_rank_16 ?_
      refine v_iload3 d_M_rank_17 ?_
      refine v_fVZ1 d_M_rank_18 l_M_116 k_M_isKnown (c_M_isKnown hA (by omega)) (sh_55 T) rfl (by decide) (by decide) (Nat.le_of_ble_eq_true rfl) (Nat.zero_le _) (Nat.zero_le _) (fun g18 => ?_)
      refine v_ifb_eq d_M_rank_21 (fun u21 => ?_) (fun u21 => ?_)
      · refine v_iconst d_M_rank_43 ?_
        first
        | (exact v_ireturn hM d_M_rank_44 g37 ⟨rfl, rfl, by rw [rRank, if_pos (by omega)]⟩)
        | (exact v_ireturn hM d_M_rank_44 (by omega) ⟨rfl, rfl, by rw [rRank, if_neg (by omega)]⟩)
      · refine v_aload0 d_M_rank_24 ?_
        refine v_iload1 d_M_rank_25 ?_
        refine v_iload2 d_M_rank_26 ?_
        refine v_fVZ2 d_M_rank_27 l_M_113 k_M_serves (c_M_serves hA (by omega) (by omega)) (sh_55 T) rfl (by decide) (by decide) (Nat.le_of_ble_eq_true rfl) (Nat.zero_le _) (Nat.zero_le _) (fun g27 => ?_)
        refine v_ifb_eq d_M_rank_30 (fun u30 => ?_) (fun u30 => ?_)
        · refine v_iconst d_M_rank_43 ?_
          first
          | (exact v_ireturn hM d_M_rank_44 g37 ⟨rfl, rfl, by rw [rRank, if_pos (by omega)]⟩)
          | (exact v_ireturn hM d_M_rank_44 (by omega) ⟨rfl, rfl, by rw [rRank, if_neg (by omega)]⟩)
        · refine v_aload0 d_M_rank_33 ?_
          refine v_iload1 d_M_rank_34 ?_
          refine v_iload2 d_M_rank_35 ?_
          refine v_iload3 d_M_rank_36 ?_
          refine v_fVI3 d_M_rank_37 l_M_119 k_M_rankOf (c_M_rankOf hA hO (by omega) (by omega) (by omega)) (sh_55 T) rfl (by decide) (by decide) (Nat.le_of_ble_eq_true rfl) (Nat.zero_le _) (Nat.zero_le _) (fun g37 => ?_)
          refine v_goto d_M_rank_40 ?_
          first
          | (exact v_ireturn hM d_M_rank_44 g37 ⟨rfl, rfl, by rw [rRank, if_pos (by omega)]⟩)
          | (exact v_ireturn hM d_M_rank_44 (by omega) ⟨rfl, rfl, by rw [rRank, if_neg (by omega)]⟩)

theorem c_M_order {T : vSh} {σ : vMem} {A : Int → Int} (hA : σ 56 = A) (hO : okA A) {i w : Int} (h0 : vIn i) (h1 : vIn w) : mt_M_order [.ref 55, .int (iI i), .int (iI w)] (S0 ++ T) σ (rF (S0 ++ T) σ (rOrder A i w)) := by
  refine vMet.intro 0 (by decide +kernel) (Nat.le_of_ble_eq_true rfl) rfl (fun cx hM _ => ?_)
  obtain ⟨⟨q0, q1, q2, q3, q4, q5, q6, q7⟩, hVi, hWe, hCo, hOf, hBo, hWo, hMo, hRe, hLi, hTa⟩ := id hO
  refine v_aload0 d_M_order_0 ?_
  refine v_iload1 d_M_order_1 ?_
  refine v_iconst d_M_order_2 ?_
  refine v_fVZ2 d_M_order_3 l_M_64 k_M_isOf (c_M_isOf hA (by omega) (by omega) (by omega)) (sh_55 T) rfl (by decide) (by decide) (Nat.le_of_ble_eq_true rfl) (Nat.zero_le _) (Nat.zero_le _) (fun g3 => ?_)
  refine v_ifb_eq d_M_order_6 (fun u6 => ?_) (fun u6 => ?_)
  · refine v_bipush d_M_order_27 rfl ?_
    first
    | (exact v_ireturn hM d_M_order_29 g21 ⟨rfl, rfl, by rw [rOrder, if_pos (by omega)]⟩)
    | (exact v_ireturn hM d_M_order_29 (by omega) ⟨rfl, rfl, by rw [rOrder, if_neg (by omega)]⟩)
  · refine v_iload2 d_M_order_9 ?_
    refine v_iconst d_M_order_10 ?_
    refine v_iconst d_M_order_11 ?_
    refine v_fSZ3 d_M_order_12 l_M_56 k_M_isIn (c_M_isIn (by omega) (by omega) (by omega)) (by decide) (by decide) (Nat.le_of_ble_eq_true rfl) (Nat.zero_le _) (Nat.zero_le _) (fun g12 => ?_)
    refine v_ifb_eq d_M_order_15 (fun u15 => ?_) (fun u15 => ?_)
    · refine v_bipush d_M_order_27 rfl ?_
      first
      | (exact v_ireturn hM d_M_order_29 g21 ⟨rfl, rfl, by rw [rOrder, if_pos (by omega)]⟩)
      | (exact v_ireturn hM d_M_order_29 (by omega) ⟨rfl, rfl, by rw [rOrder, if_neg (by omega)]⟩)
    · refine v_aload0 d_M_order_18 ?_
      refine v_iload1 d_M_order_19 ?_
      refine v_iload2 d_M_order_20 ?_
      refine v_fVI2 d_M_order_21 l_M_107 k_M_written (c_M_written hA (by omega)) (sh_55 T) rfl (by decide) (by decide) (Nat.le_of_ble_eq_true rfl) (Nat.zero_le _) (Nat.zero_le _) (fun g21 => ?_)
      refine v_goto d_M_order_24 ?_
      first
      | (exact v_ireturn hM d_M_order_29 g21 ⟨rfl, rfl, by rw [rOrder, if_pos (by omega)]⟩)
      | (exact v_ireturn hM d_M_order_29 (by omega) ⟨rfl, rfl, by rw [rOrder, if_neg (by omega)]⟩)

theorem c_M_fault {T : vSh} {σ : vMem} {A : Int → Int} (hA : σ 56 = A) (hO : okA A) {w : Int} (h0 : vIn w) : mt_M_fault [.ref 55, .int (iI w)] (S0 ++ T) σ (rF (S0 ++ T) σ (rFault A w)) := by
  refine vMet.intro 0 (by decide +kernel) (Nat.le_of_ble_eq_true rfl) rfl (fun cx hM _ => ?_)
  refine v_iload1 d_M_fault_0 ?_
  refine v_if_ne d_M_fault_1 (by omega) (fun u1 => ?_) (fun u1 => ?_)
  · refine v_iload1 d_M_fault_14 ?_
    refine v_iconst d_M_fault_15 ?_
    refine v_icmp_ne d_M_fault_16 (by omega) (by omega) (fun u16 => ?_) (fun u16 => ?_)
    · refine v_iconst d_M_fault_29 ?_
      first
      | (exact v_ireturn hM d_M_fault_30 g10 ⟨rfl, rfl, by rw [rFault, if_pos (by omega)]⟩)
      | (exact v_ireturn hM d_M_fault_30 g25 ⟨rfl, rfl, by rw [rFault, if_neg (by omega), if_pos (by omega)]⟩)
      | (exact v_ireturn hM d_M_fault_30 (by omega) ⟨rfl, rfl, by rw [rFault, if_neg (by omega), if_neg (by omega)]⟩)
    · refine v_aload0 d_M_fault_19 ?_
      refine v_getR d_M_fault_20 f_M_7 (sh_55 T) rfl ?_
      refine v_bipush d_M_fault_23 rfl ?_
      refine v_ialoadE hA d_M_fault_25 (sh_56 T) (by omega) (fun g25 => ?_)
      refine v_goto d_M_fault_26 ?_
      first
      | (exact v_ireturn hM d_M_fault_30 g10 ⟨rfl, rfl, by rw [rFault, if_pos (by omega)]⟩)
      | (exact v_ireturn hM d_M_fault_30 g25 ⟨rfl, rfl, by rw [rFault, if_neg (by omega), if_pos (by omega)]⟩)
      | (exact v_ireturn hM d_M_fault_30 (by omega) ⟨rfl, rfl, by rw [rFault, if_neg (by omega), if_neg (by omega)]⟩)
  · refine v_aload0 d_M_fault_4 ?_
    refine v_getR d_M_fault_5 f_M_7 (sh_55 T) rfl ?_
    refine v_bipush d_M_fault_8 rfl ?_
    refine v_ialoadE hA d_M_fault_10 (sh_56 T) (by omega) (fun g10 => ?_)
    refine v_goto d_M_fault_11 ?_
    first
    | (exact v_ireturn hM d_M_fault_30 g10 ⟨rfl, rfl, by rw [rFault, if_pos (by omega)]⟩)
    | (exact v_ireturn hM d_M_fault_30 g25 ⟨rfl, rfl, by rw [rFault, if_neg (by omega), if_pos (by omega)]⟩)
    | (exact v_ireturn hM d_M_fault_30 (by omega) ⟨rfl, rfl, by rw [rFault, if_neg (by omega), if_neg (by omega)]⟩)

theorem c_M_isCrowns {T : vSh} {σ : vMem} {A : Int → Int} (hA : σ 56 = A) (hO : okA A) {v : Int} (h0 : vIn v) : mt_M_isCrowns [.ref 55, .int (iI v)] (S0 ++ T) σ (rF (S0 ++ T) σ (b01 (crwP A v))) := by
  refine vMet.intro 0 (by decide +kernel) (Nat.le_of_ble_eq_true rfl) rfl (fun cx hM _ => ?_)
  obtain ⟨⟨q0, q1, q2, q3, q4, q5, q6, q7⟩, hVi, hWe, hCo, hOf, hBo, hWo, hMo, hRe, hLi, hTa⟩ := id hO
  refine v_aload0 d_M_isCrowns_0 ?_
  refine v_iload1 d_M_isCrowns_1 ?_
  refine v_aload0 d_M_isCrowns_2 ?_
  refine v_getR d_M_isCrowns_3 f_M_7 (sh_55 T) rfl ?_
  refine v_iconst d_M_isCrowns_6 ?_
  refine v_ialoadE hA d_M_isCrowns_7 (sh_56 T) (by omega) (fun g7 => ?_)
  refine v_aload0 d_M_isCrowns_8 ?_
  refine v_getR d_M_isCrowns_9 f_M_7 (sh_55 T) rfl ?_
  refine v_iconst d_M_isCrowns_12 ?_
  refine v_ialoadE hA d_M_isCrowns_13 (sh_56 T) (by omega) (fun g13 => ?_)
  refine v_fVI3 d_M_isCrowns_14 l_M_86 k_M_held (c_M_held hA hO (by omega) (by omega) (by omega)) (sh_55 T) rfl (by decide) (by decide) (Nat.le_of_ble_eq_true rfl) (Nat.zero_le _) (Nat.zero_le _) (fun g14 => ?_)
  refine v_if_ge d_M_isCrowns_17 (by omega) (fun u17 => ?_) (fun u17 => ?_)
  · refine v_iconst d_M_isCrowns_24 ?_
    first | exact v_zreturn hM d_M_isCrowns_25 (Or.inr rfl) ⟨rfl, rfl, b01_1 (by omega)⟩ | exact v_zreturn hM d_M_isCrowns_25 (Or.inl rfl) ⟨rfl, rfl, b01_0 (by omega)⟩ | exact v_zreturn hM d_M_isCrowns_25 b01_or ⟨rfl, rfl, rfl⟩
  · refine v_iconst d_M_isCrowns_20 ?_
    refine v_goto d_M_isCrowns_21 ?_
    first | exact v_zreturn hM d_M_isCrowns_25 (Or.inr rfl) ⟨rfl, rfl, b01_1 (by omega)⟩ | exact v_zreturn hM d_M_isCrowns_25 (Or.inl rfl) ⟨rfl, rfl, b01_0 (by omega)⟩ | exact v_zreturn hM d_M_isCrowns_25 b01_or ⟨rfl, rfl, rfl⟩

theorem c_M_servesNow {T : vSh} {σ : vMem} {A : Int → Int} (hA : σ 56 = A) (hO : okA A) {oo : Int} (h0 : vIn oo) : mt_M_servesNow [.ref 55, .int (iI oo)] (S0 ++ T) σ (rF (S0 ++ T) σ (b01 ((0 ≤ oo ∧ oo < A 1) ∧ srvF A oo (A 4)))) := by
  refine vMet.intro 0 (by decide +kernel) (Nat.le_of_ble_eq_true rfl) rfl (fun cx hM _ => ?_)
  obtain ⟨⟨q0, q1, q2, q3, q4, q5, q6, q7⟩, hVi, hWe, hCo, hOf, hBo, hWo, hMo, hRe, hLi, hTa⟩ := id hO
  refine v_aload0 d_M_servesNow_0 ?_
  refine v_iload1 d_M_servesNow_1 ?_
  refine v_iconst d_M_servesNow_2 ?_
  refine v_fVZ2 d_M_servesNow_3 l_M_64 k_M_isOf (c_M_isOf hA (by omega) (by omega) (by omega)) (sh_55 T) rfl (by decide) (by decide) (Nat.le_of_ble_eq_true rfl) (Nat.zero_le _) (Nat.zero_le _) (fun g3 => ?_)
  refine v_ifb_eq d_M_servesNow_6 (fun u6 => ?_) (fun u6 => ?_)
  · refine v_iconst d_M_servesNow_27 ?_
    first | exact v_zreturn hM d_M_servesNow_28 (Or.inr rfl) ⟨rfl, rfl, b01_1 (by omega)⟩ | exact v_zreturn hM d_M_servesNow_28 (Or.inl rfl) ⟨rfl, rfl, b01_0 (by omega)⟩ | exact v_zreturn hM d_M_servesNow_28 b01_or ⟨rfl, rfl, rfl⟩
  · refine v_aload0 d_M_servesNow_9 ?_
    refine v_iload1 d_M_servesNow_10 ?_
    refine v_aload0 d_M_servesNow_11 ?_
    refine v_getR d_M_servesNow_12 f_M_7 (sh_55 T) rfl ?_
    refine v_iconst d_M_servesNow_15 ?_
    refine v_ialoadE hA d_M_servesNow_16 (sh_56 T) (by omega) (fun g16 => ?_)
    refine v_fVZ2 d_M_servesNow_17 l_M_113 k_M_serves (c_M_serves hA (by omega) (by omega)) (sh_55 T) rfl (by decide) (by decide) (Nat.le_of_ble_eq_true rfl) (Nat.zero_le _) (Nat.zero_le _) (fun g17 => ?_)
    refine v_ifb_eq d_M_servesNow_20 (fun u20 => ?_) (fun u20 => ?_)
    · refine v_iconst d_M_servesNow_27 ?_
      first | exact v_zreturn hM d_M_servesNow_28 (Or.inr rfl) ⟨rfl, rfl, b01_1 (by omega)⟩ | exact v_zreturn hM d_M_servesNow_28 (Or.inl rfl) ⟨rfl, rfl, b01_0 (by omega)⟩ | exact v_zreturn hM d_M_servesNow_28 b01_or ⟨rfl, rfl, rfl⟩
    · refine v_iconst d_M_servesNow_23 ?_
      refine v_goto d_M_servesNow_24 ?_
      first | exact v_zreturn hM d_M_servesNow_28 (Or.inr rfl) ⟨rfl, rfl, b01_1 (by omega)⟩ | exact v_zreturn hM d_M_servesNow_28 (Or.inl rfl) ⟨rfl, rfl, b01_0 (by omega)⟩ | exact v_zreturn hM d_M_servesNow_28 b01_or ⟨rfl, rfl, rfl⟩

theorem c_M_hadByKin_5 {T : vSh} {σ : vMem} {cx : vCx} {A : Int → Int} (hA : σ 56 = A) (hO : okA A) {v kin : Int} (h0 : vIn v) (h1 : vIn kin) (hM : vM cx 0 0 (some .boolean) (rF (S0 ++ T) σ (kinF A v kin (A 2).toNat))) : ∀ (n j : Nat) (z i : Int), (j : Int) + n = A 2 → i = j → z = kinF A v kin j → vV cx y_M_hadByKin.cls prog_14_method_73_code 5 1 0 0 0 0 5 [some (.ref 55), some (.int (iI v)), some (.int (iI kin)), some (.int (iI z)), some (.int (iI i))] [] (S0 ++ T) σ := by
  intro n
  induction n with
  | zero =>
    intro j z i hj hi hz
    obtain ⟨⟨q0, q1, q2, q3, q4, q5, q6, q7⟩, hVi, hWe, hCo, hOf, hBo, hWo, hMo, hRe, hLi, hTa⟩ := id hO
    have hzr := kinF_rng A v kin j
    refine v_iload4 d_M_hadByKin_5 ?_
    refine v_aload0 d_M_hadByKin_7 ?_
    refine v_getR d_M_hadByKin_8 f_M_7 (sh_55 T) rfl ?_
    refine v_iconst d_M_hadByKin_11 ?_
    refine v_ialoadE hA d_M_hadByKin_12 (sh_56 T) (by omega) (fun g12 => ?_)
    refine v_icmp_ge d_M_hadByKin_13 (by omega) (by omega) (fun u13 => ?_) (fun u13 => ?_)
    · refine v_iload3 d_M_hadByKin_79 ?_
      exact v_zreturn hM d_M_hadByKin_80 (by omega) ⟨rfl, rfl, by rw [hz]; congr 1; omega⟩
    · omega
  | succ n ih =>
    intro j z i hj hi hz
    obtain ⟨⟨q0, q1, q2, q3, q4, q5, q6, q7⟩, hVi, hWe, hCo, hOf, hBo, hWo, hMo, hRe, hLi, hTa⟩ := id hO
    have hzr := kinF_rng A v kin j
    have hbo := hBo i (by omega) (by omega)
    refine v_iload4 d_M_hadByKin_5 ?_
    refine v_aload0 d_M_hadByKin_7 ?_
    refine v_getR d_M_hadByKin_8 f_M_7 (sh_55 T) rfl ?_
    refine v_iconst d_M_hadByKin_11 ?_
    refine v_ialoadE hA d_M_hadByKin_12 (sh_56 T) (by omega) (fun g12 => ?_)
    refine v_icmp_ge d_M_hadByKin_13 (by omega) (by omega) (fun u13 => ?_) (fun u13 => ?_)
    · omega
    · refine v_iload3 d_M_hadByKin_16 ?_
      refine v_if_ne d_M_hadByKin_17 (by omega) (fun u17 => ?_) (fun u17 => ?_)
      · refine v_iconst d_M_hadByKin_67 ?_
        refine v_goto d_M_hadByKin_68 ?_
        refine v_istore3 d_M_hadByKin_72 (by decide) rfl ?_
        refine v_iinc4 d_M_hadByKin_73 (by decide) rfl ?_
        refine v_goto d_M_hadByKin_76 ?_
        exact ih (j + 1) _ _ (by omega) (by omega) (by rw [kinF, ← hi, ← hz]; first | exact b01_1 (by omega) | exact b01_0 (by omega))
      · refine v_aload0 d_M_hadByKin_20 ?_
        refine v_iload4 d_M_hadByKin_21 ?_
        refine v_iconst d_M_hadByKin_23 ?_
        refine v_fVI2 d_M_hadByKin_24 l_M_107 k_M_written (c_M_written hA (by omega)) (sh_55 T) rfl (by decide) (by decide) (Nat.le_of_ble_eq_true rfl) (Nat.zero_le _) (Nat.zero_le _) (fun g24 => ?_)
        refine v_if_ne d_M_hadByKin_27 (by omega) (fun u27 => ?_) (fun u27 => ?_)
        · refine v_iconst d_M_hadByKin_71 ?_
          refine v_istore3 d_M_hadByKin_72 (by decide) rfl ?_
          refine v_iinc4 d_M_hadByKin_73 (by decide) rfl ?_
          refine v_goto d_M_hadByKin_76 ?_
          exact ih (j + 1) _ _ (by omega) (by omega) (by rw [kinF, ← hi, ← hz]; first | exact b01_1 (by omega) | exact b01_0 (by omega))
        · refine v_aload0 d_M_hadByKin_30 ?_
          refine v_iload4 d_M_hadByKin_31 ?_
          refine v_iconst d_M_hadByKin_33 ?_
          refine v_fVI2 d_M_hadByKin_34 l_M_107 k_M_written (c_M_written hA (by omega)) (sh_55 T) rfl (by decide) (by decide) (Nat.le_of_ble_eq_true rfl) (Nat.zero_le _) (Nat.zero_le _) (fun g34 => ?_)
          refine v_iload1 d_M_hadByKin_37 ?_
          refine v_icmp_ne d_M_hadByKin_38 (by omega) (by omega) (fun u38 => ?_) (fun u38 => ?_)
          · refine v_iconst d_M_hadByKin_71 ?_
            refine v_istore3 d_M_hadByKin_72 (by decide) rfl ?_
            refine v_iinc4 d_M_hadByKin_73 (by decide) rfl ?_
            refine v_goto d_M_hadByKin_76 ?_
            exact ih (j + 1) _ _ (by omega) (by omega) (by rw [kinF, ← hi, ← hz]; first | exact b01_1 (by omega) | exact b01_0 (by omega))
          · refine v_aload0 d_M_hadByKin_41 ?_
            refine v_iload4 d_M_hadByKin_42 ?_
            refine v_iconst d_M_hadByKin_44 ?_
            refine v_fVI2 d_M_hadByKin_45 l_M_107 k_M_written (c_M_written hA (by omega)) (sh_55 T) rfl (by decide) (by decide) (Nat.le_of_ble_eq_true rfl) (Nat.zero_le _) (Nat.zero_le _) (fun g45 => ?_)
            refine v_if_lt d_M_hadByKin_48 (by omega) (fun u48 => ?_) (fun u48 => ?_)
            · refine v_iconst d_M_hadByKin_71 ?_
              refine v_istore3 d_M_hadByKin_72 (by decide) rfl ?_
              refine v_iinc4 d_M_hadByKin_73 (by decide) rfl ?_
              refine v_goto d_M_hadByKin_76 ?_
              exact ih (j + 1) _ _ (by omega) (by omega) (by rw [kinF, ← hi, ← hz]; first | exact b01_1 (by omega) | exact b01_0 (by omega))
            · refine v_aload0 d_M_hadByKin_51 ?_
              refine v_aload0 d_M_hadByKin_52 ?_
              refine v_iload4 d_M_hadByKin_53 ?_
              refine v_iconst d_M_hadByKin_55 ?_
              refine v_fVI2 d_M_hadByKin_56 l_M_107 k_M_written (c_M_written hA (by omega)) (sh_55 T) rfl (by decide) (by decide) (Nat.le_of_ble_eq_true rfl) (Nat.zero_le _) (Nat.zero_le _) (fun g56 => ?_)
              refine v_iconst d_M_hadByKin_59 ?_
              refine v_fVI2 d_M_hadByKin_60 l_M_98 k_M_officer0 (c_M_officer0 hA (by omega)) (sh_55 T) rfl (by decide) (by decide) (Nat.le_of_ble_eq_true rfl) (Nat.zero_le _) (Nat.zero_le _) (fun g60 => ?_)
              refine v_iload2 d_M_hadByKin_63 ?_
              refine v_icmp_ne d_M_hadByKin_64 (by omega) (by omega) (fun u64 => ?_) (fun u64 => ?_)
              · refine v_iconst d_M_hadByKin_71 ?_
                refine v_istore3 d_M_hadByKin_72 (by decide) rfl ?_
                refine v_iinc4 d_M_hadByKin_73 (by decide) rfl ?_
                refine v_goto d_M_hadByKin_76 ?_
                exact ih (j + 1) _ _ (by omega) (by omega) (by rw [kinF, ← hi, ← hz]; first | exact b01_1 (by omega) | exact b01_0 (by omega))
              · refine v_iconst d_M_hadByKin_67 ?_
                refine v_goto d_M_hadByKin_68 ?_
                refine v_istore3 d_M_hadByKin_72 (by decide) rfl ?_
                refine v_iinc4 d_M_hadByKin_73 (by decide) rfl ?_
                refine v_goto d_M_hadByKin_76 ?_
                exact ih (j + 1) _ _ (by omega) (by omega) (by rw [kinF, ← hi, ← hz]; first | exact b01_1 (by omega) | exact b01_0 (by omega))

theorem c_M_hadByKin {T : vSh} {σ : vMem} {A : Int → Int} (hA : σ 56 = A) (hO : okA A) {v kin : Int} (h0 : vIn v) (h1 : vIn kin) : mt_M_hadByKin [.ref 55, .int (iI v), .int (iI kin)] (S0 ++ T) σ (rF (S0 ++ T) σ (kinF A v kin (A 2).toNat)) := by
  refine vMet.intro 2 (by decide +kernel) (Nat.le_of_ble_eq_true rfl) rfl (fun cx hM _ => ?_)
  obtain ⟨⟨q0, q1, q2, q3, q4, q5, q6, q7⟩, hVi, hWe, hCo, hOf, hBo, hWo, hMo, hRe, hLi, hTa⟩ := id hO
  refine v_iconst d_M_hadByKin_0 ?_
  refine v_istore3 d_M_hadByKin_1 (by decide) rfl ?_
  refine v_iconst d_M_hadByKin_2 ?_
  refine v_istore4 d_M_hadByKin_3 (by decide) rfl ?_
  exact c_M_hadByKin_5 hA hO h0 h1 hM (A 2).toNat 0 _ _ (by omega) rfl rfl

theorem c_M_paperOf_4 {T : vSh} {σ : vMem} {cx : vCx} {A : Int → Int} (hA : σ 56 = A) (hO : okA A) {set : Int} (h0 : vIn set) (hM : vM cx 0 0 (some .int) (rF (S0 ++ T) σ (papF A set))) : ∀ (n j : Nat) (sum i : Int), (j : Int) + n = A 0 → i = j → sum = papS A set j → vV cx y_M_paperOf.cls prog_14_method_74_code 4 1 0 0 0 0 4 [some (.ref 55), some (.int (iI set)), some (.int (iI sum)), some (.int (iI i))] [] (S0 ++ T) σ := by
  intro n
  induction n with
  | zero =>
    intro j sum i hj hi hs
    obtain ⟨⟨q0, q1, q2, q3, q4, q5, q6, q7⟩, hVi, hWe, hCo, hOf, hBo, hWo, hMo, hRe, hLi, hTa⟩ := id hO
    have hpr := papS_rng hO set j (by omega)
    refine v_iload3 d_M_paperOf_4 ?_
    refine v_aload0 d_M_paperOf_5 ?_
    refine v_getR d_M_paperOf_6 f_M_7 (sh_55 T) rfl ?_
    refine v_iconst d_M_paperOf_9 ?_
    refine v_ialoadE hA d_M_paperOf_10 (sh_56 T) (by omega) (fun g10 => ?_)
    refine v_icmp_ge d_M_paperOf_11 (by omega) (by omega) (fun u11 => ?_) (fun u11 => ?_)
    · refine v_iload2 d_M_paperOf_35 ?_
      exact v_ireturn hM d_M_paperOf_36 (by omega) ⟨rfl, rfl, by rw [hs]; congr 1; omega⟩
    · omega
  | succ n ih =>
    intro j sum i hj hi hs
    obtain ⟨⟨q0, q1, q2, q3, q4, q5, q6, q7⟩, hVi, hWe, hCo, hOf, hBo, hWo, hMo, hRe, hLi, hTa⟩ := id hO
    have hpr := papS_rng hO set j (by omega)
    have hp1 := papS_one hO set (v := i) (by omega)
    refine v_iload3 d_M_paperOf_4 ?_
    refine v_aload0 d_M_paperOf_5 ?_
    refine v_getR d_M_paperOf_6 f_M_7 (sh_55 T) rfl ?_
    refine v_iconst d_M_paperOf_9 ?_
    refine v_ialoadE hA d_M_paperOf_10 (sh_56 T) (by omega) (fun g10 => ?_)
    refine v_icmp_ge d_M_paperOf_11 (by omega) (by omega) (fun u11 => ?_) (fun u11 => ?_)
    · omega
    · refine v_iload2 d_M_paperOf_14 ?_
      refine v_iload1 d_M_paperOf_15 ?_
      refine v_iload3 d_M_paperOf_16 ?_
      refine v_ishr d_M_paperOf_17 (bshr h0 (by omega)) ?_
      refine v_iconst d_M_paperOf_18 ?_
      refine v_iand d_M_paperOf_19 (band1 _) ?_
      refine v_aload0 d_M_paperOf_20 ?_
      refine v_iload3 d_M_paperOf_21 ?_
      refine v_iconst d_M_paperOf_22 ?_
      refine v_fVI2 d_M_paperOf_23 l_M_83 k_M_its (c_M_its hA (by omega)) (sh_55 T) rfl (by decide) (by decide) (Nat.le_of_ble_eq_true rfl) (Nat.zero_le _) (Nat.zero_le _) (fun g23 => ?_)
      refine v_imul d_M_paperOf_26 ?_
      refine v_iadd d_M_paperOf_27 ?_
      refine v_istore2 d_M_paperOf_28 (by decide) rfl ?_
      refine v_iinc3 d_M_paperOf_29 (by decide) rfl ?_
      refine v_goto d_M_paperOf_32 ?_
      exact ih (j + 1) _ _ (by omega) (by omega) (by rw [papS, sm, ← hi]; exact congrArg (· + _) hs)

theorem c_M_paperOf {T : vSh} {σ : vMem} {A : Int → Int} (hA : σ 56 = A) (hO : okA A) {set : Int} (h0 : vIn set) : mt_M_paperOf [.ref 55, .int (iI set)] (S0 ++ T) σ (rF (S0 ++ T) σ (papF A set)) := by
  refine vMet.intro 2 (by decide +kernel) (Nat.le_of_ble_eq_true rfl) rfl (fun cx hM _ => ?_)
  obtain ⟨⟨q0, q1, q2, q3, q4, q5, q6, q7⟩, hVi, hWe, hCo, hOf, hBo, hWo, hMo, hRe, hLi, hTa⟩ := id hO
  refine v_iconst d_M_paperOf_0 ?_
  refine v_istore2 d_M_paperOf_1 (by decide) rfl ?_
  refine v_iconst d_M_paperOf_2 ?_
  refine v_istore3 d_M_paperOf_3 (by decide) rfl ?_
  exact c_M_paperOf_4 hA hO h0 hM (A 0).toNat 0 _ _ (by omega) rfl rfl

theorem c_M_dueNow {T : vSh} {σ : vMem} {A : Int → Int} (hA : σ 56 = A) (hO : okA A) {oo : Int} (h0 : 0 ≤ oo ∧ oo < A 1) : mt_M_dueNow [.ref 55, .int (iI oo)] (S0 ++ T) σ (rP (S0 ++ T) (fun z σ2 => z = dueY A oo (A 4) (A 4) ∧ ∀ k, k ≠ 61 → σ2 k = σ k)) := by
  refine vMet.intro 0 (by decide +kernel) (Nat.le_of_ble_eq_true rfl) rfl (fun cx hM _ => ?_)
  obtain ⟨⟨q0, q1, q2, q3, q4, q5, q6, q7⟩, hVi, hWe, hCo, hOf, hBo, hWo, hMo, hRe, hLi, hTa⟩ := id hO
  have hof := hOf oo (by omega) (by omega)
  refine v_aload0 d_M_dueNow_0 ?_
  refine v_iload1 d_M_dueNow_1 ?_
  refine v_aload0 d_M_dueNow_2 ?_
  refine v_getR d_M_dueNow_3 f_M_7 (sh_55 T) rfl ?_
  refine v_iconst d_M_dueNow_6 ?_
  refine v_ialoadE hA d_M_dueNow_7 (sh_56 T) (by omega) (fun g7 => ?_)
  refine v_aload0 d_M_dueNow_8 ?_
  refine v_getR d_M_dueNow_9 f_M_7 (sh_55 T) rfl ?_
  refine v_iconst d_M_dueNow_12 ?_
  refine v_ialoadE hA d_M_dueNow_13 (sh_56 T) (by omega) (fun g13 => ?_)
  refine v_gVV3 d_M_dueNow_14 l_M_94 k_M_scales (c_M_scales hA hO (by omega) (by omega) (by omega) (by omega)) (sh_55 T) rfl (by decide) (by decide) (Nat.le_of_ble_eq_true rfl) (Nat.zero_le _) (Nat.zero_le _) (fun z14 s14 e14 => ?_)
  refine v_aload0 d_M_dueNow_17 ?_
  refine v_getR d_M_dueNow_18 f_M_26 (sh_55 T) rfl ?_
  refine v_iconst d_M_dueNow_21 ?_
  refine v_iaload d_M_dueNow_22 (sh_61 T) (by omega) (fun g22 => ?_)
  exact v_ireturn hM d_M_dueNow_23 g22 ⟨rfl, e14.2.2, e14.1⟩

theorem c_M_near_17 {T : vSh} {σ : vMem} {cx : vCx} {A : Int → Int} (hA : σ 56 = A) (hO : okA A) {set : Int} (h0 : vIn set) (hM : vM cx 0 0 (some .int) (rF (S0 ++ T) σ (nearF A set))) {aa base : Int} {ja : Nat} (hja : aa = ja) (haa : (ja : Int) < A 0) (hbase : base = nearR A set ja) (K : ∀ sum : Int, sum = nearR A set (ja + 1) → vV cx y_M_near.cls prog_14_method_71_code 5 1 0 0 0 0 84 [some (.ref 55), some (.int (iI set)), some (.int (iI sum)), some (.int (iI aa)), none] [] (S0 ++ T) σ) : ∀ (n j : Nat) (sum i : Int), (j : Int) + n = aa → i = j → sum = base + sm (fun b => pairF A set aa b) j → vV cx y_M_near.cls prog_14_method_71_code 5 1 0 0 0 0 17 [some (.ref 55), some (.int (iI set)), some (.int (iI sum)), some (.int (iI aa)), some (.int (iI i))] [] (S0 ++ T) σ := by
  intro n
  induction n with
  | zero =>
    intro j sum i hj hi hs
    obtain ⟨⟨q0, q1, q2, q3, q4, q5, q6, q7⟩, hVi, hWe, hCo, hOf, hBo, hWo, hMo, hRe, hLi, hTa⟩ := id hO
    have hp1 := sm_rng (f := (fun b => pairF A set aa b)) (m := 100) j (fun b y1 y2 => pairF_rng hO set (by omega) (by omega))
    have hnr := nearR_rng hO set ja (by omega)
    have hva := hVi aa (by omega) (by omega)
    refine v_iload4 d_M_near_17 ?_
    refine v_iload3 d_M_near_19 ?_
    refine v_icmp_ge d_M_near_20 (by omega) (by omega) (fun u20 => ?_) (fun u20 => ?_)
    · refine v_drop4 ?_
      exact K sum (by rw [hs, hbase]; show _ = nearR A set ja + sm (fun b => pairF A set ja b) (ja : Int).toNat; rw [← hja, show j = aa.toNat by omega])
    · omega
  | succ n ih =>
    intro j sum i hj hi hs
    obtain ⟨⟨q0, q1, q2, q3, q4, q5, q6, q7⟩, hVi, hWe, hCo, hOf, hBo, hWo, hMo, hRe, hLi, hTa⟩ := id hO
    have hp1 := sm_rng (f := (fun b => pairF A set aa b)) (m := 100) j (fun b y1 y2 => pairF_rng hO set (by omega) (by omega))
    have hnr := nearR_rng hO set ja (by omega)
    have hva := hVi aa (by omega) (by omega)
    have hvb := hVi i (by omega) (by omega)
    refine v_iload4 d_M_near_17 ?_
    refine v_iload3 d_M_near_19 ?_
    refine v_icmp_ge d_M_near_20 (by omega) (by omega) (fun u20 => ?_) (fun u20 => ?_)
    · omega
    · refine v_iload1 d_M_near_23 ?_
      refine v_iload3 d_M_near_24 ?_
      refine v_ishr d_M_near_25 (bshr h0 (by omega)) ?_
      refine v_iconst d_M_near_26 ?_
      refine v_iand d_M_near_27 (band1 _) ?_
      refine v_iconst d_M_near_28 ?_
      refine v_icmp_ne d_M_near_29 (by omega) (by omega) (fun u29 => ?_) (fun u29 => ?_)
      · refine v_iinc4 d_M_near_78 (by decide) rfl ?_
        refine v_goto d_M_near_81 ?_
        exact ih (j + 1) _ _ (by omega) (by omega) (by rw [hs]; show _ = base + (sm (fun b => pairF A set aa b) j + pairF A set aa (j : Int)); rw [← hi]; unfold pairF bt; first | (rw [if_pos (by omega)]; omega) | (rw [if_neg (by omega)]; omega))
      · refine v_iload1 d_M_near_32 ?_
        refine v_iload4 d_M_near_33 ?_
        refine v_ishr d_M_near_35 (bshr h0 (by omega)) ?_
        refine v_iconst d_M_near_36 ?_
        refine v_iand d_M_near_37 (band1 _) ?_
        refine v_iconst d_M_near_38 ?_
        refine v_icmp_ne d_M_near_39 (by omega) (by omega) (fun u39 => ?_) (fun u39 => ?_)
        · refine v_iinc4 d_M_near_78 (by decide) rfl ?_
          refine v_goto d_M_near_81 ?_
          exact ih (j + 1) _ _ (by omega) (by omega) (by rw [hs]; show _ = base + (sm (fun b => pairF A set aa b) j + pairF A set aa (j : Int)); rw [← hi]; unfold pairF bt; first | (rw [if_pos (by omega)]; omega) | (rw [if_neg (by omega)]; omega))
        · refine v_iload2 d_M_near_42 ?_
          refine v_aload0 d_M_near_43 ?_
          refine v_iload3 d_M_near_44 ?_
          refine v_iconst d_M_near_45 ?_
          refine v_fVI2 d_M_near_46 l_M_83 k_M_its (c_M_its hA (by omega)) (sh_55 T) rfl (by decide) (by decide) (Nat.le_of_ble_eq_true rfl) (Nat.zero_le _) (Nat.zero_le _) (fun g46 => ?_)
          refine v_aload0 d_M_near_49 ?_
          refine v_iload4 d_M_near_50 ?_
          refine v_iconst d_M_near_52 ?_
          refine v_fVI2 d_M_near_53 l_M_83 k_M_its (c_M_its hA (by omega)) (sh_55 T) rfl (by decide) (by decide) (Nat.le_of_ble_eq_true rfl) (Nat.zero_le _) (Nat.zero_le _) (fun g53 => ?_)
          refine v_fSI2 d_M_near_56 l_M_255 k_M_far (c_M_farI (by omega) (by omega) (by omega) (by omega)) (by decide) (by decide) (Nat.le_of_ble_eq_true rfl) (Nat.zero_le _) (Nat.zero_le _) (fun g56 => ?_)
          have hf56 := farI_rng (a := A (40 + 6 * aa + 1)) (b := A (40 + 6 * i + 1)) (m := 50) (by omega) (by omega)
          refine v_aload0 d_M_near_59 ?_
          refine v_iload3 d_M_near_60 ?_
          refine v_iconst d_M_near_61 ?_
          refine v_fVI2 d_M_near_62 l_M_83 k_M_its (c_M_its hA (by omega)) (sh_55 T) rfl (by decide) (by decide) (Nat.le_of_ble_eq_true rfl) (Nat.zero_le _) (Nat.zero_le _) (fun g62 => ?_)
          refine v_aload0 d_M_near_65 ?_
          refine v_iload4 d_M_near_66 ?_
          refine v_iconst d_M_near_68 ?_
          refine v_fVI2 d_M_near_69 l_M_83 k_M_its (c_M_its hA (by omega)) (sh_55 T) rfl (by decide) (by decide) (Nat.le_of_ble_eq_true rfl) (Nat.zero_le _) (Nat.zero_le _) (fun g69 => ?_)
          refine v_fSI2 d_M_near_72 l_M_255 k_M_far (c_M_farI (by omega) (by omega) (by omega) (by omega)) (by decide) (by decide) (Nat.le_of_ble_eq_true rfl) (Nat.zero_le _) (Nat.zero_le _) (fun g72 => ?_)
          have hf72 := farI_rng (a := A (40 + 6 * aa + 2)) (b := A (40 + 6 * i + 2)) (m := 50) (by omega) (by omega)
          refine v_iadd d_M_near_75 ?_
          refine v_iadd d_M_near_76 ?_
          refine v_istore2 d_M_near_77 (by decide) rfl ?_
          refine v_iinc4 d_M_near_78 (by decide) rfl ?_
          refine v_goto d_M_near_81 ?_
          exact ih (j + 1) _ _ (by omega) (by omega) (by rw [hs]; show _ = base + (sm (fun b => pairF A set aa b) j + pairF A set aa (j : Int)); rw [← hi]; unfold pairF bt; first | (rw [if_pos (by omega)]; omega) | (rw [if_neg (by omega)]; omega))

theorem c_M_near_4 {T : vSh} {σ : vMem} {cx : vCx} {A : Int → Int} (hA : σ 56 = A) (hO : okA A) {set : Int} (h0 : vIn set) (hM : vM cx 0 0 (some .int) (rF (S0 ++ T) σ (nearF A set))) : ∀ (n j : Nat) (sum i : Int), (j : Int) + n = A 0 → i = j → sum = nearR A set j → vV cx y_M_near.cls prog_14_method_71_code 5 1 0 0 0 0 4 [some (.ref 55), some (.int (iI set)), some (.int (iI sum)), some (.int (iI i)), none] [] (S0 ++ T) σ := by
  intro n
  induction n with
  | zero =>
    intro j sum i hj hi hs
    obtain ⟨⟨q0, q1, q2, q3, q4, q5, q6, q7⟩, hVi, hWe, hCo, hOf, hBo, hWo, hMo, hRe, hLi, hTa⟩ := id hO
    have hnr := nearR_rng hO set j (by omega)
    refine v_iload3 d_M_near_4 ?_
    refine v_aload0 d_M_near_5 ?_
    refine v_getR d_M_near_6 f_M_7 (sh_55 T) rfl ?_
    refine v_iconst d_M_near_9 ?_
    refine v_ialoadE hA d_M_near_10 (sh_56 T) (by omega) (fun g10 => ?_)
    refine v_icmp_ge d_M_near_11 (by omega) (by omega) (fun u11 => ?_) (fun u11 => ?_)
    · refine v_iload2 d_M_near_90 ?_
      exact v_ireturn hM d_M_near_91 (by omega) ⟨rfl, rfl, by rw [hs]; congr 1; omega⟩
    · omega
  | succ n ih =>
    intro j sum i hj hi hs
    obtain ⟨⟨q0, q1, q2, q3, q4, q5, q6, q7⟩, hVi, hWe, hCo, hOf, hBo, hWo, hMo, hRe, hLi, hTa⟩ := id hO
    have hnr := nearR_rng hO set j (by omega)
    refine v_iload3 d_M_near_4 ?_
    refine v_aload0 d_M_near_5 ?_
    refine v_getR d_M_near_6 f_M_7 (sh_55 T) rfl ?_
    refine v_iconst d_M_near_9 ?_
    refine v_ialoadE hA d_M_near_10 (sh_56 T) (by omega) (fun g10 => ?_)
    refine v_icmp_ge d_M_near_11 (by omega) (by omega) (fun u11 => ?_) (fun u11 => ?_)
    · omega
    · refine v_iconst d_M_near_14 ?_
      refine v_istore4 d_M_near_15 (by decide) rfl ?_
      exact c_M_near_17 hA hO h0 hM hi (by omega) hs (fun sum2 hs2 => by
        refine v_iinc3 d_M_near_84 (by decide) rfl ?_
        refine v_goto d_M_near_87 ?_
        exact ih (j + 1) _ _ (by omega) (by omega) hs2) j 0 _ _ (by omega) rfl (by rw [sm]; omega)

theorem c_M_near {T : vSh} {σ : vMem} {A : Int → Int} (hA : σ 56 = A) (hO : okA A) {set : Int} (h0 : vIn set) : mt_M_near [.ref 55, .int (iI set)] (S0 ++ T) σ (rF (S0 ++ T) σ (nearF A set)) := by
  refine vMet.intro 3 (by decide +kernel) (Nat.le_of_ble_eq_true rfl) rfl (fun cx hM _ => ?_)
  obtain ⟨⟨q0, q1, q2, q3, q4, q5, q6, q7⟩, hVi, hWe, hCo, hOf, hBo, hWo, hMo, hRe, hLi, hTa⟩ := id hO
  refine v_iconst d_M_near_0 ?_
  refine v_istore2 d_M_near_1 (by decide) rfl ?_
  refine v_iconst d_M_near_2 ?_
  refine v_istore3 d_M_near_3 (by decide) rfl ?_
  exact c_M_near_4 hA hO h0 hM (A 0).toNat 0 _ _ (by omega) rfl rfl

theorem c_M_fit_90 {T : vSh} {σ : vMem} {cx : vCx} {A : Int → Int} (hA : σ 56 = A) (hO : okA A) {oo e : Int} (h0 : (0 ≤ oo ∧ oo < A 1) ∧ srvF A oo (A 4)) (h1 : 0 ≤ e ∧ e ≤ 9999) {σ1 : vMem} (hσ : ∀ k, k ≠ 61 → σ1 k = σ k) (hM : vM cx 0 0 (some .int) (rP (S0 ++ T) (fun z σ2 => z = rFit A oo e ∧ MF σ σ2))) {may due : Int} (hmay : may = mayF A oo) (hdue : due = dueY A oo (A 4) (A 4)) : ∀ (n j : Nat) (best least i : Int), (j : Int) + n = pw (A 0) - 1 → i = (j : Int) + 1 → best = (fitS A (mayF A oo) (dueY A oo (A 4) (A 4)) e j).1 → least = (fitS A (mayF A oo) (dueY A oo (A 4) (A 4)) e j).2 → vV cx y_M_fit.cls prog_14_method_77_code 9 8 0 0 0 0 90 [some (.ref 55), some (.int (iI oo)), some (.int (iI e)), some (.int (iI may)), some (.int (iI due)), some (.int (iI best)), some (.int (iI least)), some (.int (iI i)), none] [] (S0 ++ T) σ1 := by
  intro n
  induction n with
  | zero =>
    intro j best least i hj hi hb hl
    obtain ⟨⟨q0, q1, q2, q3, q4, q5, q6, q7⟩, hVi, hWe, hCo, hOf, hBo, hWo, hMo, hRe, hLi, hTa⟩ := id hO
    have hA1 : σ1 56 = A := by rw [hσ 56 (by decide)]; exact hA
    have hpw := pw12 q0
    have hfr := fitS_rng A (mayF A oo) (dueY A oo (A 4) (A 4)) h1.1 j
    have hdr := dueY_rng hO oo (A 4) (A 4)
    refine v_iload7 d_M_fit_90 ?_
    refine v_iconst d_M_fit_92 ?_
    refine v_aload0 d_M_fit_93 ?_
    refine v_getR d_M_fit_94 f_M_7 (sh_55 T) rfl ?_
    refine v_iconst d_M_fit_97 ?_
    refine v_ialoadE hA1 d_M_fit_98 (sh_56 T) (by omega) (fun g98 => ?_)
    refine v_ishl d_M_fit_99 (bshl (by omega)) ?_
    refine v_icmp_ge d_M_fit_100 (by omega) (by omega) (fun u100 => ?_) (fun u100 => ?_)
    · refine v_iload5 d_M_fit_179 ?_
      exact v_ireturn hM d_M_fit_181 (by omega) ⟨rfl, by rw [rFit, if_pos (by omega), hb]; congr 2; omega, MF_61 hσ⟩
    · omega
  | succ n ih =>
    intro j best least i hj hi hb hl
    obtain ⟨⟨q0, q1, q2, q3, q4, q5, q6, q7⟩, hVi, hWe, hCo, hOf, hBo, hWo, hMo, hRe, hLi, hTa⟩ := id hO
    have hA1 : σ1 56 = A := by rw [hσ 56 (by decide)]; exact hA
    have hpw := pw12 q0
    have hfr := fitS_rng A (mayF A oo) (dueY A oo (A 4) (A 4)) h1.1 j
    have hdr := dueY_rng hO oo (A 4) (A 4)
    refine v_iload7 d_M_fit_90 ?_
    refine v_iconst d_M_fit_92 ?_
    refine v_aload0 d_M_fit_93 ?_
    refine v_getR d_M_fit_94 f_M_7 (sh_55 T) rfl ?_
    refine v_iconst d_M_fit_97 ?_
    refine v_ialoadE hA1 d_M_fit_98 (sh_56 T) (by omega) (fun g98 => ?_)
    refine v_ishl d_M_fit_99 (bshl (by omega)) ?_
    refine v_icmp_ge d_M_fit_100 (by omega) (by omega) (fun u100 => ?_) (fun u100 => ?_)
    · omega
    · refine v_iload7 d_M_fit_103 ?_
      refine v_iload3 d_M_fit_105 ?_
      refine v_iand d_M_fit_106 (andI_eq _ _) ?_
      refine v_iload7 d_M_fit_107 ?_
      refine v_icmp_eq d_M_fit_109 (andI_in _ _) (by omega) (fun u109 => ?_) (fun u109 => ?_)
      · refine v_aload0 d_M_fit_115 ?_
        refine v_iload7 d_M_fit_116 ?_
        refine v_fVI1 d_M_fit_118 l_M_270 k_M_paperOf (c_M_paperOf hA1 hO (by omega)) (sh_55 T) rfl (by decide) (by decide) (Nat.le_of_ble_eq_true rfl) (Nat.zero_le _) (Nat.zero_le _) (fun g118 => ?_)
        have hpr : 0 ≤ papF A i ∧ papF A i ≤ 9999 * (A 0).toNat := papS_rng hO i (A 0).toNat (by omega)
        refine v_iload4 d_M_fit_121 ?_
        refine v_fSI2 d_M_fit_123 l_M_255 k_M_far (c_M_farI (by omega) (by omega) (by omega) (by omega)) (by decide) (by decide) (Nat.le_of_ble_eq_true rfl) (Nat.zero_le _) (Nat.zero_le _) (fun g123 => ?_)
        have hfn := farI_nn (papF A i) due
        have hfm := farI_rng (a := papF A i) (b := due) (m := 159984) (by omega) (by omega)
        refine v_istore8 d_M_fit_126 (by decide) rfl ?_
        refine v_iload8 d_M_fit_128 ?_
        refine v_iload6 d_M_fit_130 ?_
        refine v_icmp_gt d_M_fit_132 (by omega) (by omega) (fun u132 => ?_) (fun u132 => ?_)
        · refine v_iinc7 d_M_fit_173 (by decide) rfl ?_
          refine v_goto d_M_fit_176 ?_
          refine v_drop8 ?_
          first
          | (have e9 : fitS A (mayF A oo) (dueY A oo (A 4) (A 4)) e (j + 1) = fitS A (mayF A oo) (dueY A oo (A 4) (A 4)) e j := by
               rw [fitS, ← hi, ← hb, ← hl, ← hmay, ← hdue, if_neg (by omega)]
             exact ih (j + 1) _ _ _ (by omega) (by omega) (by rw [e9]; exact hb) (by rw [e9]; exact hl))
          | (have e9 : fitS A (mayF A oo) (dueY A oo (A 4) (A 4)) e (j + 1) = (i, farI (papF A i) due) := by
               rw [fitS, ← hi, ← hb, ← hl, ← hmay, ← hdue, if_pos (by omega)]
             exact ih (j + 1) _ _ _ (by omega) (by omega) (by rw [e9]) (by rw [e9]))
        · refine v_iload5 d_M_fit_135 ?_
          refine v_if_lt d_M_fit_137 (by omega) (fun u137 => ?_) (fun u137 => ?_)
          · refine v_iload7 d_M_fit_165 ?_
            refine v_istore5 d_M_fit_167 (by decide) rfl ?_
            refine v_iload8 d_M_fit_169 ?_
            refine v_istore6 d_M_fit_171 (by decide) rfl ?_
            refine v_iinc7 d_M_fit_173 (by decide) rfl ?_
            refine v_goto d_M_fit_176 ?_
            refine v_drop8 ?_
            first
            | (have e9 : fitS A (mayF A oo) (dueY A oo (A 4) (A 4)) e (j + 1) = fitS A (mayF A oo) (dueY A oo (A 4) (A 4)) e j := by
                 rw [fitS, ← hi, ← hb, ← hl, ← hmay, ← hdue, if_neg (by omega)]
               exact ih (j + 1) _ _ _ (by omega) (by omega) (by rw [e9]; exact hb) (by rw [e9]; exact hl))
            | (have e9 : fitS A (mayF A oo) (dueY A oo (A 4) (A 4)) e (j + 1) = (i, farI (papF A i) due) := by
                 rw [fitS, ← hi, ← hb, ← hl, ← hmay, ← hdue, if_pos (by omega)]
               exact ih (j + 1) _ _ _ (by omega) (by omega) (by rw [e9]) (by rw [e9]))
          · refine v_iload8 d_M_fit_140 ?_
            refine v_iload6 d_M_fit_142 ?_
            refine v_icmp_ne d_M_fit_144 (by omega) (by omega) (fun u144 => ?_) (fun u144 => ?_)
            · refine v_iload7 d_M_fit_165 ?_
              refine v_istore5 d_M_fit_167 (by decide) rfl ?_
              refine v_iload8 d_M_fit_169 ?_
              refine v_istore6 d_M_fit_171 (by decide) rfl ?_
              refine v_iinc7 d_M_fit_173 (by decide) rfl ?_
              refine v_goto d_M_fit_176 ?_
              refine v_drop8 ?_
              first
              | (have e9 : fitS A (mayF A oo) (dueY A oo (A 4) (A 4)) e (j + 1) = fitS A (mayF A oo) (dueY A oo (A 4) (A 4)) e j := by
                   rw [fitS, ← hi, ← hb, ← hl, ← hmay, ← hdue, if_neg (by omega)]
                 exact ih (j + 1) _ _ _ (by omega) (by omega) (by rw [e9]; exact hb) (by rw [e9]; exact hl))
              | (have e9 : fitS A (mayF A oo) (dueY A oo (A 4) (A 4)) e (j + 1) = (i, farI (papF A i) due) := by
                   rw [fitS, ← hi, ← hb, ← hl, ← hmay, ← hdue, if_pos (by omega)]
                 exact ih (j + 1) _ _ _ (by omega) (by omega) (by rw [e9]) (by rw [e9]))
            · refine v_aload0 d_M_fit_147 ?_
              refine v_iload7 d_M_fit_148 ?_
              refine v_fVI1 d_M_fit_150 l_M_273 k_M_near (c_M_near hA1 hO (by omega)) (sh_55 T) rfl (by decide) (by decide) (Nat.le_of_ble_eq_true rfl) (Nat.zero_le _) (Nat.zero_le _) (fun g150 => ?_)
              have hn1 : 0 ≤ nearF A i ∧ nearF A i ≤ 1200 * (A 0).toNat := nearR_rng hO i (A 0).toNat (by omega)
              refine v_aload0 d_M_fit_153 ?_
              refine v_iload5 d_M_fit_154 ?_
              refine v_fVI1 d_M_fit_156 l_M_273 k_M_near (c_M_near hA1 hO (by omega)) (sh_55 T) rfl (by decide) (by decide) (Nat.le_of_ble_eq_true rfl) (Nat.zero_le _) (Nat.zero_le _) (fun g156 => ?_)
              have hn2 : 0 ≤ nearF A best ∧ nearF A best ≤ 1200 * (A 0).toNat := nearR_rng hO best (A 0).toNat (by omega)
              refine v_icmp_lt d_M_fit_159 (by omega) (by omega) (fun u159 => ?_) (fun u159 => ?_)
              · refine v_iload7 d_M_fit_165 ?_
                refine v_istore5 d_M_fit_167 (by decide) rfl ?_
                refine v_iload8 d_M_fit_169 ?_
                refine v_istore6 d_M_fit_171 (by decide) rfl ?_
                refine v_iinc7 d_M_fit_173 (by decide) rfl ?_
                refine v_goto d_M_fit_176 ?_
                refine v_drop8 ?_
                first
                | (have e9 : fitS A (mayF A oo) (dueY A oo (A 4) (A 4)) e (j + 1) = fitS A (mayF A oo) (dueY A oo (A 4) (A 4)) e j := by
                     rw [fitS, ← hi, ← hb, ← hl, ← hmay, ← hdue, if_neg (by omega)]
                   exact ih (j + 1) _ _ _ (by omega) (by omega) (by rw [e9]; exact hb) (by rw [e9]; exact hl))
                | (have e9 : fitS A (mayF A oo) (dueY A oo (A 4) (A 4)) e (j + 1) = (i, farI (papF A i) due) := by
                     rw [fitS, ← hi, ← hb, ← hl, ← hmay, ← hdue, if_pos (by omega)]
                   exact ih (j + 1) _ _ _ (by omega) (by omega) (by rw [e9]) (by rw [e9]))
              · refine v_goto d_M_fit_162 ?_
                refine v_iinc7 d_M_fit_173 (by decide) rfl ?_
                refine v_goto d_M_fit_176 ?_
                refine v_drop8 ?_
                first
                | (have e9 : fitS A (mayF A oo) (dueY A oo (A 4) (A 4)) e (j + 1) = fitS A (mayF A oo) (dueY A oo (A 4) (A 4)) e j := by
                     rw [fitS, ← hi, ← hb, ← hl, ← hmay, ← hdue, if_neg (by omega)]
                   exact ih (j + 1) _ _ _ (by omega) (by omega) (by rw [e9]; exact hb) (by rw [e9]; exact hl))
                | (have e9 : fitS A (mayF A oo) (dueY A oo (A 4) (A 4)) e (j + 1) = (i, farI (papF A i) due) := by
                     rw [fitS, ← hi, ← hb, ← hl, ← hmay, ← hdue, if_pos (by omega)]
                   exact ih (j + 1) _ _ _ (by omega) (by omega) (by rw [e9]) (by rw [e9]))
      · refine v_goto d_M_fit_112 ?_
        refine v_iinc7 d_M_fit_173 (by decide) rfl ?_
        refine v_goto d_M_fit_176 ?_
        first
        | (have e9 : fitS A (mayF A oo) (dueY A oo (A 4) (A 4)) e (j + 1) = fitS A (mayF A oo) (dueY A oo (A 4) (A 4)) e j := by
             rw [fitS, ← hi, ← hb, ← hl, ← hmay, ← hdue, if_neg (by omega)]
           exact ih (j + 1) _ _ _ (by omega) (by omega) (by rw [e9]; exact hb) (by rw [e9]; exact hl))
        | (have e9 : fitS A (mayF A oo) (dueY A oo (A 4) (A 4)) e (j + 1) = (i, farI (papF A i) due) := by
             rw [fitS, ← hi, ← hb, ← hl, ← hmay, ← hdue, if_pos (by omega)]
           exact ih (j + 1) _ _ _ (by omega) (by omega) (by rw [e9]) (by rw [e9]))

theorem c_M_fit_26 {T : vSh} {σ : vMem} {cx : vCx} {A : Int → Int} (hA : σ 56 = A) (hO : okA A) {oo e : Int} (h0 : (0 ≤ oo ∧ oo < A 1) ∧ srvF A oo (A 4)) (h1 : 0 ≤ e ∧ e ≤ 9999) (hM : vM cx 0 0 (some .int) (rP (S0 ++ T) (fun z σ2 => z = rFit A oo e ∧ MF σ σ2))) : ∀ (n j : Nat) (bits i : Int), (j : Int) + n = A 0 → i = j → bits = bitS (mayQ A oo) j → vV cx y_M_fit.cls prog_14_method_77_code 9 8 0 0 0 0 26 [some (.ref 55), some (.int (iI oo)), some (.int (iI e)), some (.int (iI bits)), some (.int (iI i)), none, none, none, none] [] (S0 ++ T) σ := by
  intro n
  induction n with
  | zero =>
    intro j bits i hj hi hb
    obtain ⟨⟨q0, q1, q2, q3, q4, q5, q6, q7⟩, hVi, hWe, hCo, hOf, hBo, hWo, hMo, hRe, hLi, hTa⟩ := id hO
    have hr := bitS_rng (mayQ A oo) (fun v => b01_or) j
    rw [← hi, ← hb] at hr
    have hof := hOf oo (by omega) (by omega)
    have hpw := pw12 q0
    refine v_iload4 d_M_fit_26 ?_
    refine v_aload0 d_M_fit_28 ?_
    refine v_getR d_M_fit_29 f_M_7 (sh_55 T) rfl ?_
    refine v_iconst d_M_fit_32 ?_
    refine v_ialoadE hA d_M_fit_33 (sh_56 T) (by omega) (fun g33 => ?_)
    refine v_icmp_ge d_M_fit_34 (by omega) (by omega) (fun u34 => ?_) (fun u34 => ?_)
    · refine v_aload0 d_M_fit_74 ?_
      refine v_iload1 d_M_fit_75 ?_
      refine v_gVI1 d_M_fit_76 l_M_267 k_M_dueNow (c_M_dueNow hA hO (by omega)) (sh_55 T) rfl (by decide) (by decide) (Nat.le_of_ble_eq_true rfl) (Nat.zero_le _) (Nat.zero_le _) (fun z76 s76 g76 e76 => ?_)
      refine v_istore4 d_M_fit_79 (by decide) rfl ?_
      refine v_iconst d_M_fit_81 ?_
      refine v_istore5 d_M_fit_82 (by decide) rfl ?_
      refine v_iload2 d_M_fit_84 ?_
      refine v_istore6 d_M_fit_85 (by decide) rfl ?_
      refine v_iconst d_M_fit_87 ?_
      refine v_istore7 d_M_fit_88 (by decide) rfl ?_
      exact c_M_fit_90 hA hO h0 h1 e76.2 hM (by rw [hb, mayF]; congr 1; omega) e76.1 (pw (A 0) - 1).toNat 0 _ _ _ (by omega) (by omega) rfl rfl
    · omega
  | succ n ih =>
    intro j bits i hj hi hb
    obtain ⟨⟨q0, q1, q2, q3, q4, q5, q6, q7⟩, hVi, hWe, hCo, hOf, hBo, hWo, hMo, hRe, hLi, hTa⟩ := id hO
    have hr := bitS_rng (mayQ A oo) (fun v => b01_or) j
    rw [← hi, ← hb] at hr
    have hof := hOf oo (by omega) (by omega)
    refine v_iload4 d_M_fit_26 ?_
    refine v_aload0 d_M_fit_28 ?_
    refine v_getR d_M_fit_29 f_M_7 (sh_55 T) rfl ?_
    refine v_iconst d_M_fit_32 ?_
    refine v_ialoadE hA d_M_fit_33 (sh_56 T) (by omega) (fun g33 => ?_)
    refine v_icmp_ge d_M_fit_34 (by omega) (by omega) (fun u34 => ?_) (fun u34 => ?_)
    · omega
    · refine v_aload0 d_M_fit_37 ?_
      refine v_iload4 d_M_fit_38 ?_
      refine v_fVZ1 d_M_fit_40 l_M_261 k_M_isCrowns (c_M_isCrowns hA hO (by omega)) (sh_55 T) rfl (by decide) (by decide) (Nat.le_of_ble_eq_true rfl) (Nat.zero_le _) (Nat.zero_le _) (fun g40 => ?_)
      refine v_ifb_eq d_M_fit_43 (fun u43 => ?_) (fun u43 => ?_)
      · refine v_iinc4 d_M_fit_68 (by decide) rfl ?_
        refine v_goto d_M_fit_71 ?_
        first
        | (exact ih (j + 1) _ _ (by omega) (by omega) (by rw [bitS, ← hb, ← hi, mayQ, ← b01_0 (by omega)]; omega))
        | (exact ih (j + 1) _ _ (by omega) (by omega) (by rw [bitS, ← hb, ← hi, mayQ, ← b01_1 (by omega)]; omega))
      · refine v_aload0 d_M_fit_46 ?_
        refine v_iload4 d_M_fit_47 ?_
        refine v_aload0 d_M_fit_49 ?_
        refine v_iload1 d_M_fit_50 ?_
        refine v_iconst d_M_fit_51 ?_
        refine v_fVI2 d_M_fit_52 l_M_98 k_M_officer0 (c_M_officer0 hA (by omega)) (sh_55 T) rfl (by decide) (by decide) (Nat.le_of_ble_eq_true rfl) (Nat.zero_le _) (Nat.zero_le _) (fun g52 => ?_)
        refine v_fVZ2 d_M_fit_55 l_M_264 k_M_hadByKin (c_M_hadByKin hA hO (by omega) (by omega)) (sh_55 T) rfl (by decide) (by decide) (Nat.le_of_ble_eq_true rfl) (Nat.zero_le _) (Nat.zero_le _) (fun g55 => ?_)
        have hkr := kinF_rng A i (A (360 + 4 * oo + 1)) (A 2).toNat
        refine v_if_ne d_M_fit_58 (by omega) (fun u58 => ?_) (fun u58 => ?_)
        · refine v_iinc4 d_M_fit_68 (by decide) rfl ?_
          refine v_goto d_M_fit_71 ?_
          first
          | (exact ih (j + 1) _ _ (by omega) (by omega) (by rw [bitS, ← hb, ← hi, mayQ, ← b01_0 (by omega)]; omega))
          | (exact ih (j + 1) _ _ (by omega) (by omega) (by rw [bitS, ← hb, ← hi, mayQ, ← b01_1 (by omega)]; omega))
        · refine v_iload3 d_M_fit_61 ?_
          refine v_iconst d_M_fit_62 ?_
          refine v_iload4 d_M_fit_63 ?_
          refine v_ishl d_M_fit_65 (bshl (by omega)) ?_
          refine v_ior d_M_fit_66 (bor (by omega) hr) ?_
          refine v_istore3 d_M_fit_67 (by decide) rfl ?_
          refine v_iinc4 d_M_fit_68 (by decide) rfl ?_
          refine v_goto d_M_fit_71 ?_
          first
          | (exact ih (j + 1) _ _ (by omega) (by omega) (by rw [bitS, ← hb, ← hi, mayQ, ← b01_0 (by omega)]; omega))
          | (exact ih (j + 1) _ _ (by omega) (by omega) (by rw [bitS, ← hb, ← hi, mayQ, ← b01_1 (by omega)]; omega))

theorem c_M_fit {T : vSh} {σ : vMem} {A : Int → Int} (hA : σ 56 = A) (hO : okA A) {oo e : Int} (h0 : vIn oo) (h1 : vIn e) : mt_M_fit [.ref 55, .int (iI oo), .int (iI e)] (S0 ++ T) σ (rP (S0 ++ T) (fun z σ2 => z = rFit A oo e ∧ MF σ σ2)) := by
  refine vMet.intro 6 (by decide +kernel) (Nat.le_of_ble_eq_true rfl) rfl (fun cx hM _ => ?_)
  obtain ⟨⟨q0, q1, q2, q3, q4, q5, q6, q7⟩, hVi, hWe, hCo, hOf, hBo, hWo, hMo, hRe, hLi, hTa⟩ := id hO
  refine v_aload0 d_M_fit_0 ?_
  refine v_iload1 d_M_fit_1 ?_
  refine v_fVZ1 d_M_fit_2 l_M_258 k_M_servesNow (c_M_servesNow hA hO (by omega)) (sh_55 T) rfl (by decide) (by decide) (Nat.le_of_ble_eq_true rfl) (Nat.zero_le _) (Nat.zero_le _) (fun g2 => ?_)
  refine v_ifb_eq d_M_fit_5 (fun u5 => ?_) (fun u5 => ?_)
  · refine v_iconst d_M_fit_19 ?_
    exact v_ireturn hM d_M_fit_20 (by omega) ⟨rfl, by rw [rFit, if_neg (by omega)], MF.rfl'⟩
  · refine v_iload2 d_M_fit_8 ?_
    refine v_iconst d_M_fit_9 ?_
    refine v_sipush d_M_fit_10 rfl ?_
    refine v_fSZ3 d_M_fit_13 l_M_56 k_M_isIn (c_M_isIn (by omega) (by omega) (by omega)) (by decide) (by decide) (Nat.le_of_ble_eq_true rfl) (Nat.zero_le _) (Nat.zero_le _) (fun g13 => ?_)
    refine v_ifb_ne d_M_fit_16 (fun u16 => ?_) (fun u16 => ?_)
    · refine v_iconst d_M_fit_21 ?_
      refine v_istore3 d_M_fit_22 (by decide) rfl ?_
      refine v_iconst d_M_fit_23 ?_
      refine v_istore4 d_M_fit_24 (by decide) rfl ?_
      exact c_M_fit_26 hA hO (by omega) (by omega) hM (A 0).toNat 0 _ _ (by omega) rfl rfl
    · refine v_iconst d_M_fit_19 ?_
      exact v_ireturn hM d_M_fit_20 (by omega) ⟨rfl, by rw [rFit, if_neg (by omega)], MF.rfl'⟩

