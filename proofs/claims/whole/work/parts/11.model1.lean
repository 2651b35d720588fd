theorem vCmp_in {a b : Int} : vIn (vCmp a b) := by unfold vCmp; split; decide; split <;> decide
theorem c_M_isIn {T : vSh} {σ : vMem} {v a b : Int} (hv : vIn v) (ha : vIn a) (hb : vIn b) : mt_M_isIn [.int (iI v), .int (iI a), .int (iI b)] (S0 ++ T) σ (rF (S0 ++ T) σ (b01 (a ≤ v ∧ v ≤ b))) := by
  refine vMet.intro 0 (by decide +kernel) (Nat.le_of_ble_eq_true rfl) rfl (fun cx hM _ => ?_)
  refine v_iload0 d_M_isIn_0 ?_
  refine v_iload1 d_M_isIn_1 ?_
  refine v_icmp_lt d_M_isIn_2 (by omega) (by omega) (fun u2 => ?_) (fun u2 => ?_)
  · refine v_iconst d_M_isIn_14 ?_
    first | exact v_zreturn hM d_M_isIn_15 (Or.inr rfl) ⟨rfl, rfl, b01_1 (by omega)⟩ | exact v_zreturn hM d_M_isIn_15 (Or.inl rfl) ⟨rfl, rfl, b01_0 (by omega)⟩ | exact v_zreturn hM d_M_isIn_15 b01_or ⟨rfl, rfl, rfl⟩
  · refine v_iload0 d_M_isIn_5 ?_
    refine v_iload2 d_M_isIn_6 ?_
    refine v_icmp_gt d_M_isIn_7 (by omega) (by omega) (fun u7 => ?_) (fun u7 => ?_)
    · refine v_iconst d_M_isIn_14 ?_
      first | exact v_zreturn hM d_M_isIn_15 (Or.inr rfl) ⟨rfl, rfl, b01_1 (by omega)⟩ | exact v_zreturn hM d_M_isIn_15 (Or.inl rfl) ⟨rfl, rfl, b01_0 (by omega)⟩ | exact v_zreturn hM d_M_isIn_15 b01_or ⟨rfl, rfl, rfl⟩
    · refine v_iconst d_M_isIn_10 ?_
      refine v_goto d_M_isIn_11 ?_
      first | exact v_zreturn hM d_M_isIn_15 (Or.inr rfl) ⟨rfl, rfl, b01_1 (by omega)⟩ | exact v_zreturn hM d_M_isIn_15 (Or.inl rfl) ⟨rfl, rfl, b01_0 (by omega)⟩ | exact v_zreturn hM d_M_isIn_15 b01_or ⟨rfl, rfl, rfl⟩

theorem c_M_isOf {T : vSh} {σ : vMem} {A : Int → Int} (hA : σ 56 = A) {k many : Int} (hk : vIn k) (hm : 0 ≤ many ∧ many < 12840) (h1 : 0 ≤ A many) : mt_M_isOf [.ref 55, .int (iI k), .int (iI many)] (S0 ++ T) σ (rF (S0 ++ T) σ (b01 (0 ≤ k ∧ k ≤ A many - 1))) := by
  refine vMet.intro 0 (by decide +kernel) (Nat.le_of_ble_eq_true rfl) rfl (fun cx hM _ => ?_)
  refine v_iload1 d_M_isOf_0 ?_
  refine v_iconst d_M_isOf_1 ?_
  refine v_aload0 d_M_isOf_2 ?_
  refine v_getR d_M_isOf_3 f_M_7 (sh_55 T) rfl ?_
  refine v_iload2 d_M_isOf_6 ?_
  refine v_ialoadE hA d_M_isOf_7 (sh_56 T) (by omega) (fun g7 => ?_)
  refine v_iconst d_M_isOf_8 ?_
  refine v_isub d_M_isOf_9 ?_
  refine v_fSZ3 d_M_isOf_10 l_M_56 k_M_isIn (c_M_isIn (by omega) (by omega) (by omega)) (by decide) (by decide) (Nat.le_of_ble_eq_true rfl) (Nat.zero_le _) (Nat.zero_le _) (fun g10 => ?_)
  first | exact v_zreturn hM d_M_isOf_13 (Or.inr rfl) ⟨rfl, rfl, b01_1 (by omega)⟩ | exact v_zreturn hM d_M_isOf_13 (Or.inl rfl) ⟨rfl, rfl, b01_0 (by omega)⟩ | exact v_zreturn hM d_M_isOf_13 b01_or ⟨rfl, rfl, rfl⟩

theorem c_M_isDay {T : vSh} {σ : vMem} {dd : Int} (hd : vIn dd) : mt_M_isDay [.int (iI dd)] (S0 ++ T) σ (rF (S0 ++ T) σ (b01 (0 ≤ dd ∧ dd ≤ 1199))) := by
  refine vMet.intro 0 (by decide +kernel) (Nat.le_of_ble_eq_true rfl) rfl (fun cx hM _ => ?_)
  refine v_iload0 d_M_isDay_0 ?_
  refine v_iconst d_M_isDay_1 ?_
  refine v_sipush d_M_isDay_2 rfl ?_
  refine v_fSZ3 d_M_isDay_5 l_M_56 k_M_isIn (c_M_isIn (by omega) (by omega) (by omega)) (by decide) (by decide) (Nat.le_of_ble_eq_true rfl) (Nat.zero_le _) (Nat.zero_le _) (fun g5 => ?_)
  first | exact v_zreturn hM d_M_isDay_8 (Or.inr rfl) ⟨rfl, rfl, b01_1 (by omega)⟩ | exact v_zreturn hM d_M_isDay_8 (Or.inl rfl) ⟨rfl, rfl, b01_0 (by omega)⟩ | exact v_zreturn hM d_M_isDay_8 b01_or ⟨rfl, rfl, rfl⟩

theorem c_M_isKnown {T : vSh} {σ : vMem} {A : Int → Int} (hA : σ 56 = A) {k : Int} (hk : vIn k) : mt_M_isKnown [.ref 55, .int (iI k)] (S0 ++ T) σ (rF (S0 ++ T) σ (b01 (0 ≤ k ∧ k ≤ A 4))) := by
  refine vMet.intro 0 (by decide +kernel) (Nat.le_of_ble_eq_true rfl) rfl (fun cx hM _ => ?_)
  refine v_iload1 d_M_isKnown_0 ?_
  refine v_iconst d_M_isKnown_1 ?_
  refine v_aload0 d_M_isKnown_2 ?_
  refine v_getR d_M_isKnown_3 f_M_7 (sh_55 T) rfl ?_
  refine v_iconst d_M_isKnown_6 ?_
  refine v_ialoadE hA d_M_isKnown_7 (sh_56 T) (by omega) (fun g7 => ?_)
  refine v_fSZ3 d_M_isKnown_8 l_M_56 k_M_isIn (c_M_isIn (by omega) (by omega) (by omega)) (by decide) (by decide) (Nat.le_of_ble_eq_true rfl) (Nat.zero_le _) (Nat.zero_le _) (fun g8 => ?_)
  first | exact v_zreturn hM d_M_isKnown_11 (Or.inr rfl) ⟨rfl, rfl, b01_1 (by omega)⟩ | exact v_zreturn hM d_M_isKnown_11 (Or.inl rfl) ⟨rfl, rfl, b01_0 (by omega)⟩ | exact v_zreturn hM d_M_isKnown_11 b01_or ⟨rfl, rfl, rfl⟩

theorem c_M_isSeason {T : vSh} {σ : vMem} {dd : Int} (hd : vIn dd) : mt_M_isSeason [.int (iI dd)] (S0 ++ T) σ (rF (S0 ++ T) σ (b01 (0 ≤ dd ∧ dd ≤ 19))) := by
  refine vMet.intro 0 (by decide +kernel) (Nat.le_of_ble_eq_true rfl) rfl (fun cx hM _ => ?_)
  refine v_iload0 d_M_isSeason_0 ?_
  refine v_iconst d_M_isSeason_1 ?_
  refine v_bipush d_M_isSeason_2 rfl ?_
  refine v_fSZ3 d_M_isSeason_4 l_M_56 k_M_isIn (c_M_isIn (by omega) (by omega) (by omega)) (by decide) (by decide) (Nat.le_of_ble_eq_true rfl) (Nat.zero_le _) (Nat.zero_le _) (fun g4 => ?_)
  first | exact v_zreturn hM d_M_isSeason_7 (Or.inr rfl) ⟨rfl, rfl, b01_1 (by omega)⟩ | exact v_zreturn hM d_M_isSeason_7 (Or.inl rfl) ⟨rfl, rfl, b01_0 (by omega)⟩ | exact v_zreturn hM d_M_isSeason_7 b01_or ⟨rfl, rfl, rfl⟩

theorem c_M_ended {T : vSh} {σ : vMem} {A : Int → Int} (hA : σ 56 = A) (h0 : 0 ≤ A 4) : mt_M_ended [.ref 55] (S0 ++ T) σ (rF (S0 ++ T) σ (A 4 / 60)) := by
  refine vMet.intro 0 (by decide +kernel) (Nat.le_of_ble_eq_true rfl) rfl (fun cx hM _ => ?_)
  refine v_aload0 d_M_ended_0 ?_
  refine v_getR d_M_ended_1 f_M_7 (sh_55 T) rfl ?_
  refine v_iconst d_M_ended_4 ?_
  refine v_ialoadE hA d_M_ended_5 (sh_56 T) (by omega) (fun g5 => ?_)
  refine v_bipush d_M_ended_6 rfl ?_
  refine v_idiv d_M_ended_8 (by omega) (by omega) ?_
  first | exact v_ireturn hM d_M_ended_9 (by omega) ⟨rfl, rfl, rfl⟩ | exact v_ireturn hM d_M_ended_9 (by omega) ⟨rfl, rfl, by split <;> omega⟩

theorem c_M_far {T : vSh} {σ : vMem} {a b : Int} (ha : vIn a) (hb : vIn b) (hab : vIn (a - b)) (hba : vIn (b - a)) : mt_M_far [.int (iI a), .int (iI b)] (S0 ++ T) σ (rF (S0 ++ T) σ (if b < a then a - b else b - a)) := by
  refine vMet.intro 0 (by decide +kernel) (Nat.le_of_ble_eq_true rfl) rfl (fun cx hM _ => ?_)
  refine v_iload0 d_M_far_0 ?_
  refine v_iload1 d_M_far_1 ?_
  refine v_icmp_le d_M_far_2 (by omega) (by omega) (fun u2 => ?_) (fun u2 => ?_)
  · refine v_iload1 d_M_far_11 ?_
    refine v_iload0 d_M_far_12 ?_
    refine v_isub d_M_far_13 ?_
    first | exact v_ireturn hM d_M_far_14 (by omega) ⟨rfl, rfl, rfl⟩ | exact v_ireturn hM d_M_far_14 (by omega) ⟨rfl, rfl, by split <;> omega⟩
  · refine v_iload0 d_M_far_5 ?_
    refine v_iload1 d_M_far_6 ?_
    refine v_isub d_M_far_7 ?_
    refine v_goto d_M_far_8 ?_
    first | exact v_ireturn hM d_M_far_14 (by omega) ⟨rfl, rfl, rfl⟩ | exact v_ireturn hM d_M_far_14 (by omega) ⟨rfl, rfl, by split <;> omega⟩

theorem c_M_its {T : vSh} {σ : vMem} {A : Int → Int} (hA : σ 56 = A) {v what : Int} (h1 : 0 ≤ 40 + 6 * v + what ∧ 40 + 6 * v + what < 12840) : mt_M_its [.ref 55, .int (iI v), .int (iI what)] (S0 ++ T) σ (rF (S0 ++ T) σ (A (40 + 6 * v + what))) := by
  refine vMet.intro 0 (by decide +kernel) (Nat.le_of_ble_eq_true rfl) rfl (fun cx hM _ => ?_)
  refine v_aload0 d_M_its_0 ?_
  refine v_getR d_M_its_1 f_M_7 (sh_55 T) rfl ?_
  refine v_bipush d_M_its_4 rfl ?_
  refine v_bipush d_M_its_6 rfl ?_
  refine v_iload1 d_M_its_8 ?_
  refine v_imul d_M_its_9 ?_
  refine v_iadd d_M_its_10 ?_
  refine v_iload2 d_M_its_11 ?_
  refine v_iadd d_M_its_12 ?_
  refine v_ialoadE hA d_M_its_13 (sh_56 T) (by omega) (fun g13 => ?_)
  first | exact v_ireturn hM d_M_its_14 (by omega) ⟨rfl, rfl, rfl⟩ | exact v_ireturn hM d_M_its_14 (by omega) ⟨rfl, rfl, by split <;> omega⟩

theorem c_M_officer0 {T : vSh} {σ : vMem} {A : Int → Int} (hA : σ 56 = A) {v what : Int} (h1 : 0 ≤ 360 + 4 * v + what ∧ 360 + 4 * v + what < 12840) : mt_M_officer0 [.ref 55, .int (iI v), .int (iI what)] (S0 ++ T) σ (rF (S0 ++ T) σ (A (360 + 4 * v + what))) := by
  refine vMet.intro 0 (by decide +kernel) (Nat.le_of_ble_eq_true rfl) rfl (fun cx hM _ => ?_)
  refine v_aload0 d_M_officer0_0 ?_
  refine v_getR d_M_officer0_1 f_M_7 (sh_55 T) rfl ?_
  refine v_sipush d_M_officer0_4 rfl ?_
  refine v_iconst d_M_officer0_7 ?_
  refine v_iload1 d_M_officer0_8 ?_
  refine v_imul d_M_officer0_9 ?_
  refine v_iadd d_M_officer0_10 ?_
  refine v_iload2 d_M_officer0_11 ?_
  refine v_iadd d_M_officer0_12 ?_
  refine v_ialoadE hA d_M_officer0_13 (sh_56 T) (by omega) (fun g13 => ?_)
  first | exact v_ireturn hM d_M_officer0_14 (by omega) ⟨rfl, rfl, rfl⟩ | exact v_ireturn hM d_M_officer0_14 (by omega) ⟨rfl, rfl, by split <;> omega⟩

theorem c_M_written {T : vSh} {σ : vMem} {A : Int → Int} (hA : σ 56 = A) {v what : Int} (h1 : 0 ≤ 430 + 5 * v + what ∧ 430 + 5 * v + what < 12840) : mt_M_written [.ref 55, .int (iI v), .int (iI what)] (S0 ++ T) σ (rF (S0 ++ T) σ (A (430 + 5 * v + what))) := by
  refine vMet.intro 0 (by decide +kernel) (Nat.le_of_ble_eq_true rfl) rfl (fun cx hM _ => ?_)
  refine v_aload0 d_M_written_0 ?_
  refine v_getR d_M_written_1 f_M_7 (sh_55 T) rfl ?_
  refine v_sipush d_M_written_4 rfl ?_
  refine v_iconst d_M_written_7 ?_
  refine v_iload1 d_M_written_8 ?_
  refine v_imul d_M_written_9 ?_
  refine v_iadd d_M_written_10 ?_
  refine v_iload2 d_M_written_11 ?_
  refine v_iadd d_M_written_12 ?_
  refine v_ialoadE hA d_M_written_13 (sh_56 T) (by omega) (fun g13 => ?_)
  first | exact v_ireturn hM d_M_written_14 (by omega) ⟨rfl, rfl, rfl⟩ | exact v_ireturn hM d_M_written_14 (by omega) ⟨rfl, rfl, by split <;> omega⟩

theorem c_M_said {T : vSh} {σ : vMem} {A : Int → Int} (hA : σ 56 = A) {v what : Int} (h1 : 0 ≤ 930 + 5 * v + what ∧ 930 + 5 * v + what < 12840) : mt_M_said [.ref 55, .int (iI v), .int (iI what)] (S0 ++ T) σ (rF (S0 ++ T) σ (A (930 + 5 * v + what))) := by
  refine vMet.intro 0 (by decide +kernel) (Nat.le_of_ble_eq_true rfl) rfl (fun cx hM _ => ?_)
  refine v_aload0 d_M_said_0 ?_
  refine v_getR d_M_said_1 f_M_7 (sh_55 T) rfl ?_
  refine v_sipush d_M_said_4 rfl ?_
  refine v_iconst d_M_said_7 ?_
  refine v_iload1 d_M_said_8 ?_
  refine v_imul d_M_said_9 ?_
  refine v_iadd d_M_said_10 ?_
  refine v_iload2 d_M_said_11 ?_
  refine v_iadd d_M_said_12 ?_
  refine v_ialoadE hA d_M_said_13 (sh_56 T) (by omega) (fun g13 => ?_)
  first | exact v_ireturn hM d_M_said_14 (by omega) ⟨rfl, rfl, rfl⟩ | exact v_ireturn hM d_M_said_14 (by omega) ⟨rfl, rfl, by split <;> omega⟩

theorem c_M_comeOf {T : vSh} {σ : vMem} {A : Int → Int} (hA : σ 56 = A) {v what : Int} (h1 : 0 ≤ 120 + 20 * v + what ∧ 120 + 20 * v + what < 12840) : mt_M_comeOf [.ref 55, .int (iI v), .int (iI what)] (S0 ++ T) σ (rF (S0 ++ T) σ (A (120 + 20 * v + what))) := by
  refine vMet.intro 0 (by decide +kernel) (Nat.le_of_ble_eq_true rfl) rfl (fun cx hM _ => ?_)
  refine v_aload0 d_M_comeOf_0 ?_
  refine v_getR d_M_comeOf_1 f_M_7 (sh_55 T) rfl ?_
  refine v_bipush d_M_comeOf_4 rfl ?_
  refine v_bipush d_M_comeOf_6 rfl ?_
  refine v_iload1 d_M_comeOf_8 ?_
  refine v_imul d_M_comeOf_9 ?_
  refine v_iadd d_M_comeOf_10 ?_
  refine v_iload2 d_M_comeOf_11 ?_
  refine v_iadd d_M_comeOf_12 ?_
  refine v_ialoadE hA d_M_comeOf_13 (sh_56 T) (by omega) (fun g13 => ?_)
  first | exact v_ireturn hM d_M_comeOf_14 (by omega) ⟨rfl, rfl, rfl⟩ | exact v_ireturn hM d_M_comeOf_14 (by omega) ⟨rfl, rfl, by split <;> omega⟩

