/-! ===== the reference's reader: tokens ===== -/
theorem vCmp_e {a b : Int} (h : vCmp a b = 0) : a = b := by unfold vCmp at h; split at h <;> (try split at h) <;> omega
theorem vCmp_ne {a b : Int} (h : ¬ vCmp a b = 0) : a ≠ b := fun e => h (by unfold vCmp; rw [if_neg (by omega), if_pos e])
def RC (σ : vMem) (b : Int → Int) (L : Int) : Prop := σ 55 3 = L ∧ okB b L ∧ ∀ i, 0 ≤ i → i < L → σ 56 (2710 + i) = b i
def F55 (σ σ2 : vMem) : Prop := (∀ k, k ≠ 55 → σ2 k = σ k) ∧ ∀ i, i < 4 ∨ 9 < i → σ2 55 i = σ 55 i
theorem F55.rfl' {σ : vMem} : F55 σ σ := ⟨fun _ _ => rfl, fun _ _ => rfl⟩
theorem F55.trans' {a b c : vMem} (h1 : F55 a b) (h2 : F55 b c) : F55 a c := ⟨fun k hk => (h2.1 k hk).trans (h1.1 k hk), fun i hi => (h2.2 i hi).trans (h1.2 i hi)⟩
theorem F55.up {σ σ2 : vMem} (h : F55 σ σ2) {i v : Int} (hi : 4 ≤ i ∧ i ≤ 9) : F55 σ (vUp σ2 55 i v) := ⟨fun k hk => by rw [vUp_ne hk]; exact h.1 k hk, fun j hj => by rw [vUp_ix (by omega)]; exact h.2 j hj⟩
theorem F55.rc {σ σ2 : vMem} (h : F55 σ σ2) {b : Int → Int} {L : Int} (hC : RC σ b L) : RC σ2 b L := by
  refine ⟨by rw [h.2 3 (by omega)]; exact hC.1, hC.2.1, fun i i1 i2 => ?_⟩
  rw [h.1 56 (by decide)]
  exact hC.2.2 i i1 i2
def TKr (tok word sign num T N : Int) : Prop := (T = 100 ∧ tok = 0) ∨ (T = 102 ∧ tok = 1 ∧ num = N) ∨ (58 ≤ T ∧ T ≤ 62 ∧ tok = 2 ∧ sign = T) ∨ (tok = 3 ∧ ((0 ≤ T ∧ T ≤ 2 ∧ word = T + 30) ∨ (3 ≤ T ∧ T ≤ 8 ∧ word = T + 17) ∨ (9 ≤ T ∧ T ≤ 14 ∧ word = T - 8))) ∨ (T = 101 ∧ tok = 4)
def RrP (b : Int → Int) (p : Int) (F : Int → Int) : Prop := F 4 = nxF b p ∧ F 5 = whF b p ∧ TKr (F 6) (F 9) (F 8) (F 7) (tkF b p) (nmF b p)

theorem c_M_byteAt {T : vSh} {σ : vMem} {p L : Int} {b : Int → Int} (hR : RC σ b L) (h0 : 0 ≤ p) (h1 : p ≤ 500) : mt_M_byteAt [.ref 55, .int (iI p)] (S0 ++ T) σ (rF (S0 ++ T) σ (b p)) := by
  refine vMet.intro 0 (by decide +kernel) (Nat.le_of_ble_eq_true rfl) rfl (fun cx hM _ => ?_)
  have r0 := hR.1
  have r1 := hR.2.1.1
  refine v_iload1 d_M_byteAt_0 ?_
  refine v_aload0 d_M_byteAt_1 ?_
  refine v_getJ (ji := 3) d_M_byteAt_2 f_M_131 (sh_55 T) rfl rfl (fun g2 => ?_)
  refine v_icmp_ge d_M_byteAt_5 (by omega) (by omega) (fun u5 => ?_) (fun u5 => ?_)
  · refine v_iconst d_M_byteAt_21 ?_
    first
    | (exact v_ireturn hM d_M_byteAt_22 (by omega) ⟨rfl, rfl, (hR.2.2 p h0 (by omega))⟩)
    | (exact v_ireturn hM d_M_byteAt_22 (by omega) ⟨rfl, rfl, (hR.2.1.2.2 p (by omega)).symm⟩)
  · refine v_aload0 d_M_byteAt_8 ?_
    refine v_getR d_M_byteAt_9 f_M_7 (sh_55 T) rfl ?_
    refine v_sipush d_M_byteAt_12 rfl ?_
    refine v_iload1 d_M_byteAt_15 ?_
    refine v_iadd d_M_byteAt_16 ?_
    refine v_ialoadE (rfl : σ 56 = σ 56) d_M_byteAt_17 (sh_56 T) (by omega) (fun g17 => ?_)
    refine v_goto d_M_byteAt_18 ?_
    first
    | (exact v_ireturn hM d_M_byteAt_22 (by omega) ⟨rfl, rfl, (hR.2.2 p h0 (by omega))⟩)
    | (exact v_ireturn hM d_M_byteAt_22 (by omega) ⟨rfl, rfl, (hR.2.1.2.2 p (by omega)).symm⟩)

theorem c_M_isLetter {T : vSh} {σ : vMem} {c : Int} (h0 : vIn c) : mt_M_isLetter [.int (iI c)] (S0 ++ T) σ (rF (S0 ++ T) σ (b01 (97 ≤ c ∧ c ≤ 122))) := by
  refine vMet.intro 0 (by decide +kernel) (Nat.le_of_ble_eq_true rfl) rfl (fun cx hM _ => ?_)
  refine v_iload0 d_M_isLetter_0 ?_
  refine v_bipush d_M_isLetter_1 rfl ?_
  refine v_icmp_lt d_M_isLetter_3 (by omega) (by omega) (fun u3 => ?_) (fun u3 => ?_)
  · refine v_iconst d_M_isLetter_16 ?_
    first | exact v_zreturn hM d_M_isLetter_17 (Or.inr rfl) ⟨rfl, rfl, b01_1 (by omega)⟩ | exact v_zreturn hM d_M_isLetter_17 (Or.inl rfl) ⟨rfl, rfl, b01_0 (by omega)⟩ | exact v_zreturn hM d_M_isLetter_17 b01_or ⟨rfl, rfl, rfl⟩
  · refine v_iload0 d_M_isLetter_6 ?_
    refine v_bipush d_M_isLetter_7 rfl ?_
    refine v_icmp_gt d_M_isLetter_9 (by omega) (by omega) (fun u9 => ?_) (fun u9 => ?_)
    · refine v_iconst d_M_isLetter_16 ?_
      first | exact v_zreturn hM d_M_isLetter_17 (Or.inr rfl) ⟨rfl, rfl, b01_1 (by omega)⟩ | exact v_zreturn hM d_M_isLetter_17 (Or.inl rfl) ⟨rfl, rfl, b01_0 (by omega)⟩ | exact v_zreturn hM d_M_isLetter_17 b01_or ⟨rfl, rfl, rfl⟩
    · refine v_iconst d_M_isLetter_12 ?_
      refine v_goto d_M_isLetter_13 ?_
      first | exact v_zreturn hM d_M_isLetter_17 (Or.inr rfl) ⟨rfl, rfl, b01_1 (by omega)⟩ | exact v_zreturn hM d_M_isLetter_17 (Or.inl rfl) ⟨rfl, rfl, b01_0 (by omega)⟩ | exact v_zreturn hM d_M_isLetter_17 b01_or ⟨rfl, rfl, rfl⟩

theorem c_M_isDigit {T : vSh} {σ : vMem} {c : Int} (h0 : vIn c) : mt_M_isDigit [.int (iI c)] (S0 ++ T) σ (rF (S0 ++ T) σ (b01 (48 ≤ c ∧ c ≤ 57))) := by
  refine vMet.intro 0 (by decide +kernel) (Nat.le_of_ble_eq_true rfl) rfl (fun cx hM _ => ?_)
  refine v_iload0 d_M_isDigit_0 ?_
  refine v_bipush d_M_isDigit_1 rfl ?_
  refine v_icmp_lt d_M_isDigit_3 (by omega) (by omega) (fun u3 => ?_) (fun u3 => ?_)
  · refine v_iconst d_M_isDigit_16 ?_
    first | exact v_zreturn hM d_M_isDigit_17 (Or.inr rfl) ⟨rfl, rfl, b01_1 (by omega)⟩ | exact v_zreturn hM d_M_isDigit_17 (Or.inl rfl) ⟨rfl, rfl, b01_0 (by omega)⟩ | exact v_zreturn hM d_M_isDigit_17 b01_or ⟨rfl, rfl, rfl⟩
  · refine v_iload0 d_M_isDigit_6 ?_
    refine v_bipush d_M_isDigit_7 rfl ?_
    refine v_icmp_gt d_M_isDigit_9 (by omega) (by omega) (fun u9 => ?_) (fun u9 => ?_)
    · refine v_iconst d_M_isDigit_16 ?_
      first | exact v_zreturn hM d_M_isDigit_17 (Or.inr rfl) ⟨rfl, rfl, b01_1 (by omega)⟩ | exact v_zreturn hM d_M_isDigit_17 (Or.inl rfl) ⟨rfl, rfl, b01_0 (by omega)⟩ | exact v_zreturn hM d_M_isDigit_17 b01_or ⟨rfl, rfl, rfl⟩
    · refine v_iconst d_M_isDigit_12 ?_
      refine v_goto d_M_isDigit_13 ?_
      first | exact v_zreturn hM d_M_isDigit_17 (Or.inr rfl) ⟨rfl, rfl, b01_1 (by omega)⟩ | exact v_zreturn hM d_M_isDigit_17 (Or.inl rfl) ⟨rfl, rfl, b01_0 (by omega)⟩ | exact v_zreturn hM d_M_isDigit_17 b01_or ⟨rfl, rfl, rfl⟩

theorem c_M_isSignByte {T : vSh} {σ : vMem} {c : Int} (h0 : vIn c) : mt_M_isSignByte [.int (iI c)] (S0 ++ T) σ (rF (S0 ++ T) σ (b01 (58 ≤ c ∧ c ≤ 62))) := by
  refine vMet.intro 0 (by decide +kernel) (Nat.le_of_ble_eq_true rfl) rfl (fun cx hM _ => ?_)
  refine v_iload0 d_M_isSignByte_0 ?_
  refine v_bipush d_M_isSignByte_1 rfl ?_
  refine v_icmp_eq d_M_isSignByte_3 (by omega) (by omega) (fun u3 => ?_) (fun u3 => ?_)
  · refine v_iconst d_M_isSignByte_30 ?_
    refine v_goto d_M_isSignByte_31 ?_
    first | exact v_zreturn hM d_M_isSignByte_35 (Or.inr rfl) ⟨rfl, rfl, b01_1 (by omega)⟩ | exact v_zreturn hM d_M_isSignByte_35 (Or.inl rfl) ⟨rfl, rfl, b01_0 (by omega)⟩ | exact v_zreturn hM d_M_isSignByte_35 b01_or ⟨rfl, rfl, rfl⟩
  · refine v_iload0 d_M_isSignByte_6 ?_
    refine v_bipush d_M_isSignByte_7 rfl ?_
    refine v_icmp_eq d_M_isSignByte_9 (by omega) (by omega) (fun u9 => ?_) (fun u9 => ?_)
    · refine v_iconst d_M_isSignByte_30 ?_
      refine v_goto d_M_isSignByte_31 ?_
      first | exact v_zreturn hM d_M_isSignByte_35 (Or.inr rfl) ⟨rfl, rfl, b01_1 (by omega)⟩ | exact v_zreturn hM d_M_isSignByte_35 (Or.inl rfl) ⟨rfl, rfl, b01_0 (by omega)⟩ | exact v_zreturn hM d_M_isSignByte_35 b01_or ⟨rfl, rfl, rfl⟩
    · refine v_iload0 d_M_isSignByte_12 ?_
      refine v_bipush d_M_isSignByte_13 rfl ?_
      refine v_icmp_eq d_M_isSignByte_15 (by omega) (by omega) (fun u15 => ?_) (fun u15 => ?_)
      · refine v_iconst d_M_isSignByte_30 ?_
        refine v_goto d_M_isSignByte_31 ?_
        first | exact v_zreturn hM d_M_isSignByte_35 (Or.inr rfl) ⟨rfl, rfl, b01_1 (by omega)⟩ | exact v_zreturn hM d_M_isSignByte_35 (Or.inl rfl) ⟨rfl, rfl, b01_0 (by omega)⟩ | exact v_zreturn hM d_M_isSignByte_35 b01_or ⟨rfl, rfl, rfl⟩
      · refine v_iload0 d_M_isSignByte_18 ?_
        refine v_bipush d_M_isSignByte_19 rfl ?_
        refine v_icmp_eq d_M_isSignByte_21 (by omega) (by omega) (fun u21 => ?_) (fun u21 => ?_)
        · refine v_iconst d_M_isSignByte_30 ?_
          refine v_goto d_M_isSignByte_31 ?_
          first | exact v_zreturn hM d_M_isSignByte_35 (Or.inr rfl) ⟨rfl, rfl, b01_1 (by omega)⟩ | exact v_zreturn hM d_M_isSignByte_35 (Or.inl rfl) ⟨rfl, rfl, b01_0 (by omega)⟩ | exact v_zreturn hM d_M_isSignByte_35 b01_or ⟨rfl, rfl, rfl⟩
        · refine v_iload0 d_M_isSignByte_24 ?_
          refine v_bipush d_M_isSignByte_25 rfl ?_
          refine v_icmp_ne d_M_isSignByte_27 (by omega) (by omega) (fun u27 => ?_) (fun u27 => ?_)
          · refine v_iconst d_M_isSignByte_34 ?_
            first | exact v_zreturn hM d_M_isSignByte_35 (Or.inr rfl) ⟨rfl, rfl, b01_1 (by omega)⟩ | exact v_zreturn hM d_M_isSignByte_35 (Or.inl rfl) ⟨rfl, rfl, b01_0 (by omega)⟩ | exact v_zreturn hM d_M_isSignByte_35 b01_or ⟨rfl, rfl, rfl⟩
          · refine v_iconst d_M_isSignByte_30 ?_
            refine v_goto d_M_isSignByte_31 ?_
            first | exact v_zreturn hM d_M_isSignByte_35 (Or.inr rfl) ⟨rfl, rfl, b01_1 (by omega)⟩ | exact v_zreturn hM d_M_isSignByte_35 (Or.inl rfl) ⟨rfl, rfl, b01_0 (by omega)⟩ | exact v_zreturn hM d_M_isSignByte_35 b01_or ⟨rfl, rfl, rfl⟩

theorem c_M_three {T : vSh} {σ : vMem} {a bb c : Int} (h0 : 0 ≤ a ∧ a ≤ 255) (h1 : 0 ≤ bb ∧ bb ≤ 255) (h2 : 0 ≤ c ∧ c ≤ 255) : mt_M_three [.int (iI a), .int (iI bb), .int (iI c)] (S0 ++ T) σ (rF (S0 ++ T) σ ((32 * (a - 96) + bb - 96) * 32 + c - 96)) := by
  refine vMet.intro 0 (by decide +kernel) (Nat.le_of_ble_eq_true rfl) rfl (fun cx hM _ => ?_)
  refine v_ldc2 d_M_three_0 c_M_135 ?_
  refine v_iload0 d_M_three_3 ?_
  refine v_bipush d_M_three_4 rfl ?_
  refine v_isub d_M_three_6 ?_
  refine v_i2l d_M_three_7 (by omega) ?_
  refine v_lmul d_M_three_8 ?_
  refine v_iload1 d_M_three_9 ?_
  refine v_i2l d_M_three_10 (by omega) ?_
  refine v_ladd d_M_three_11 ?_
  refine v_ldc2 d_M_three_12 c_M_137 ?_
  refine v_lsub d_M_three_15 ?_
  refine v_ldc2 d_M_three_16 c_M_135 ?_
  refine v_lmul d_M_three_19 ?_
  refine v_iload2 d_M_three_20 ?_
  refine v_i2l d_M_three_21 (by omega) ?_
  refine v_ladd d_M_three_22 ?_
  refine v_ldc2 d_M_three_23 c_M_137 ?_
  refine v_lsub d_M_three_26 ?_
  exact v_lreturn hM d_M_three_27 (by omega) ⟨rfl, rfl, rfl⟩

theorem c_M_four {T : vSh} {σ : vMem} {a bb c d : Int} (h0 : 0 ≤ a ∧ a ≤ 255) (h1 : 0 ≤ bb ∧ bb ≤ 255) (h2 : 0 ≤ c ∧ c ≤ 255) (h3 : 0 ≤ d ∧ d ≤ 255) : mt_M_four [.int (iI a), .int (iI bb), .int (iI c), .int (iI d)] (S0 ++ T) σ (rF (S0 ++ T) σ (((32 * (a - 96) + bb - 96) * 32 + c - 96) * 32 + d - 96)) := by
  refine vMet.intro 0 (by decide +kernel) (Nat.le_of_ble_eq_true rfl) rfl (fun cx hM _ => ?_)
  refine v_iload0 d_M_four_0 ?_
  refine v_iload1 d_M_four_1 ?_
  refine v_iload2 d_M_four_2 ?_
  refine v_fSJ3 d_M_four_3 l_M_139 k_M_three (c_M_three (by omega) (by omega) (by omega)) (by decide) (by decide) (Nat.le_of_ble_eq_true rfl) (Nat.zero_le _) (Nat.zero_le _) (fun g3 => ?_)
  refine v_ldc2 d_M_four_6 c_M_135 ?_
  refine v_lmul d_M_four_9 ?_
  refine v_iload3 d_M_four_10 ?_
  refine v_i2l d_M_four_11 (by omega) ?_
  refine v_ladd d_M_four_12 ?_
  refine v_ldc2 d_M_four_13 c_M_137 ?_
  refine v_lsub d_M_four_16 ?_
  exact v_lreturn hM d_M_four_17 (by omega) ⟨rfl, rfl, rfl⟩

theorem rwA_rng (v : Int) : 1 ≤ rwA v ∧ rwA v ≤ 99 := by
  unfold rwA
  repeat' split
  all_goals omega
theorem c_M_askedOf {T : vSh} {σ : vMem} {v : Int} (h0 : 0 ≤ v ∧ v ≤ 100000000000) : mt_M_askedOf [.long (lI v)] (S0 ++ T) σ (rF (S0 ++ T) σ (rwA v)) := by
  refine vMet.intro 0 (by decide +kernel) (Nat.le_of_ble_eq_true rfl) rfl (fun cx hM _ => ?_)
  refine v_lload0 d_M_askedOf_0 ?_
  refine v_bipush d_M_askedOf_1 rfl ?_
  refine v_bipush d_M_askedOf_3 rfl ?_
  refine v_bipush d_M_askedOf_5 rfl ?_
  refine v_fSJ3 d_M_askedOf_7 l_M_139 k_M_three (c_M_three (by omega) (by omega) (by omega)) (by decide) (by decide) (Nat.le_of_ble_eq_true rfl) (Nat.zero_le _) (Nat.zero_le _) (fun g7 => ?_)
  refine v_ldc2 d_M_askedOf_10 c_M_143 ?_
  refine v_lmul d_M_askedOf_13 ?_
  refine v_bipush d_M_askedOf_14 rfl ?_
  refine v_bipush d_M_askedOf_16 rfl ?_
  refine v_bipush d_M_askedOf_18 rfl ?_
  refine v_fSJ3 d_M_askedOf_20 l_M_139 k_M_three (c_M_three (by omega) (by omega) (by omega)) (by decide) (by decide) (Nat.le_of_ble_eq_true rfl) (Nat.zero_le _) (Nat.zero_le _) (fun g20 => ?_)
  refine v_ladd d_M_askedOf_23 ?_
  refine v_lcmp d_M_askedOf_24 (by omega) (by omega) ?_
  refine v_if_ne d_M_askedOf_25 vCmp_in (fun u25 => ?_) (fun u25 => ?_)
  · have w25 := vCmp_ne u25
    refine v_lload0 d_M_askedOf_30 ?_
    refine v_bipush d_M_askedOf_31 rfl ?_
    refine v_bipush d_M_askedOf_33 rfl ?_
    refine v_bipush d_M_askedOf_35 rfl ?_
    refine v_bipush d_M_askedOf_37 rfl ?_
    refine v_fSJ4 d_M_askedOf_39 l_M_145 k_M_four (c_M_four (by omega) (by omega) (by omega) (by omega)) (by decide) (by decide) (Nat.le_of_ble_eq_true rfl) (Nat.zero_le _) (Nat.zero_le _) (fun g39 => ?_)
    refine v_lcmp d_M_askedOf_42 (by omega) (by omega) ?_
    refine v_if_ne d_M_askedOf_43 vCmp_in (fun u43 => ?_) (fun u43 => ?_)
    · have w43 := vCmp_ne u43
      refine v_lload0 d_M_askedOf_48 ?_
      refine v_bipush d_M_askedOf_49 rfl ?_
      refine v_bipush d_M_askedOf_51 rfl ?_
      refine v_bipush d_M_askedOf_53 rfl ?_
      refine v_fSJ3 d_M_askedOf_55 l_M_139 k_M_three (c_M_three (by omega) (by omega) (by omega)) (by decide) (by decide) (Nat.le_of_ble_eq_true rfl) (Nat.zero_le _) (Nat.zero_le _) (fun g55 => ?_)
      refine v_ldc2 d_M_askedOf_58 c_M_143 ?_
      refine v_lmul d_M_askedOf_61 ?_
      refine v_bipush d_M_askedOf_62 rfl ?_
      refine v_bipush d_M_askedOf_64 rfl ?_
      refine v_bipush d_M_askedOf_66 rfl ?_
      refine v_fSJ3 d_M_askedOf_68 l_M_139 k_M_three (c_M_three (by omega) (by omega) (by omega)) (by decide) (by decide) (Nat.le_of_ble_eq_true rfl) (Nat.zero_le _) (Nat.zero_le _) (fun g68 => ?_)
      refine v_ladd d_M_askedOf_71 ?_
      refine v_lcmp d_M_askedOf_72 (by omega) (by omega) ?_
      refine v_if_ne d_M_askedOf_73 vCmp_in (fun u73 => ?_) (fun u73 => ?_)
      · have w73 := vCmp_ne u73
        refine v_lload0 d_M_askedOf_78 ?_
        refine v_bipush d_M_askedOf_79 rfl ?_
        refine v_bipush d_M_askedOf_81 rfl ?_
        refine v_bipush d_M_askedOf_83 rfl ?_
        refine v_fSJ3 d_M_askedOf_85 l_M_139 k_M_three (c_M_three (by omega) (by omega) (by omega)) (by decide) (by decide) (Nat.le_of_ble_eq_true rfl) (Nat.zero_le _) (Nat.zero_le _) (fun g85 => ?_)
        refine v_lcmp d_M_askedOf_88 (by omega) (by omega) ?_
        refine v_if_ne d_M_askedOf_89 vCmp_in (fun u89 => ?_) (fun u89 => ?_)
        · have w89 := vCmp_ne u89
          refine v_lload0 d_M_askedOf_94 ?_
          refine v_bipush d_M_askedOf_95 rfl ?_
          refine v_bipush d_M_askedOf_97 rfl ?_
          refine v_bipush d_M_askedOf_99 rfl ?_
          refine v_fSJ3 d_M_askedOf_101 l_M_139 k_M_three (c_M_three (by omega) (by omega) (by omega)) (by decide) (by decide) (Nat.le_of_ble_eq_true rfl) (Nat.zero_le _) (Nat.zero_le _) (fun g101 => ?_)
          refine v_ldc2 d_M_askedOf_104 c_M_143 ?_
          refine v_lmul d_M_askedOf_107 ?_
          refine v_bipush d_M_askedOf_108 rfl ?_
          refine v_bipush d_M_askedOf_110 rfl ?_
          refine v_bipush d_M_askedOf_112 rfl ?_
          refine v_fSJ3 d_M_askedOf_114 l_M_139 k_M_three (c_M_three (by omega) (by omega) (by omega)) (by decide) (by decide) (Nat.le_of_ble_eq_true rfl) (Nat.zero_le _) (Nat.zero_le _) (fun g114 => ?_)
          refine v_ladd d_M_askedOf_117 ?_
          refine v_lcmp d_M_askedOf_118 (by omega) (by omega) ?_
          refine v_if_ne d_M_askedOf_119 vCmp_in (fun u119 => ?_) (fun u119 => ?_)
          · have w119 := vCmp_ne u119
            refine v_lload0 d_M_askedOf_124 ?_
            refine v_bipush d_M_askedOf_125 rfl ?_
            refine v_bipush d_M_askedOf_127 rfl ?_
            refine v_bipush d_M_askedOf_129 rfl ?_
            refine v_fSJ3 d_M_askedOf_131 l_M_139 k_M_three (c_M_three (by omega) (by omega) (by omega)) (by decide) (by decide) (Nat.le_of_ble_eq_true rfl) (Nat.zero_le _) (Nat.zero_le _) (fun g131 => ?_)
            refine v_lcmp d_M_askedOf_134 (by omega) (by omega) ?_
            refine v_if_ne d_M_askedOf_135 vCmp_in (fun u135 => ?_) (fun u135 => ?_)
            · have w135 := vCmp_ne u135
              refine v_bipush d_M_askedOf_141 rfl ?_
              exact v_ireturn hM d_M_askedOf_143 (by omega) ⟨rfl, rfl, by rw [rwA, if_neg (by omega), if_neg (by omega), if_neg (by omega), if_neg (by omega), if_neg (by omega), if_neg (by omega)]⟩
            · have w135 := vCmp_e u135
              refine v_bipush d_M_askedOf_138 rfl ?_
              exact v_ireturn hM d_M_askedOf_140 (by omega) ⟨rfl, rfl, by rw [rwA, if_neg (by omega), if_neg (by omega), if_neg (by omega), if_neg (by omega), if_neg (by omega), if_pos (by omega)]⟩
          · have w119 := vCmp_e u119
            refine v_iconst d_M_askedOf_122 ?_
            exact v_ireturn hM d_M_askedOf_123 (by omega) ⟨rfl, rfl, by rw [rwA, if_neg (by omega), if_neg (by omega), if_neg (by omega), if_neg (by omega), if_pos (by omega)]⟩
        · have w89 := vCmp_e u89
          refine v_iconst d_M_askedOf_92 ?_
          exact v_ireturn hM d_M_askedOf_93 (by omega) ⟨rfl, rfl, by rw [rwA, if_neg (by omega), if_neg (by omega), if_neg (by omega), if_pos (by omega)]⟩
      · have w73 := vCmp_e u73
        refine v_iconst d_M_askedOf_76 ?_
        exact v_ireturn hM d_M_askedOf_77 (by omega) ⟨rfl, rfl, by rw [rwA, if_neg (by omega), if_neg (by omega), if_pos (by omega)]⟩
    · have w43 := vCmp_e u43
      refine v_iconst d_M_askedOf_46 ?_
      exact v_ireturn hM d_M_askedOf_47 (by omega) ⟨rfl, rfl, by rw [rwA, if_neg (by omega), if_pos (by omega)]⟩
  · have w25 := vCmp_e u25
    refine v_iconst d_M_askedOf_28 ?_
    exact v_ireturn hM d_M_askedOf_29 (by omega) ⟨rfl, rfl, by rw [rwA, if_pos (by omega)]⟩

theorem c_M_wordOf {T : vSh} {σ : vMem} {v : Int} (h0 : 0 ≤ v ∧ v ≤ 100000000000) : mt_M_wordOf [.long (lI v)] (S0 ++ T) σ (rF (S0 ++ T) σ (rwF v)) := by
  refine vMet.intro 0 (by decide +kernel) (Nat.le_of_ble_eq_true rfl) rfl (fun cx hM _ => ?_)
  refine v_lload0 d_M_wordOf_0 ?_
  refine v_bipush d_M_wordOf_1 rfl ?_
  refine v_bipush d_M_wordOf_3 rfl ?_
  refine v_bipush d_M_wordOf_5 rfl ?_
  refine v_fSJ3 d_M_wordOf_7 l_M_139 k_M_three (c_M_three (by omega) (by omega) (by omega)) (by decide) (by decide) (Nat.le_of_ble_eq_true rfl) (Nat.zero_le _) (Nat.zero_le _) (fun g7 => ?_)
  refine v_lcmp d_M_wordOf_10 (by omega) (by omega) ?_
  refine v_if_ne d_M_wordOf_11 vCmp_in (fun u11 => ?_) (fun u11 => ?_)
  · have w11 := vCmp_ne u11
    refine v_lload0 d_M_wordOf_17 ?_
    refine v_bipush d_M_wordOf_18 rfl ?_
    refine v_bipush d_M_wordOf_20 rfl ?_
    refine v_bipush d_M_wordOf_22 rfl ?_
    refine v_bipush d_M_wordOf_24 rfl ?_
    refine v_fSJ4 d_M_wordOf_26 l_M_145 k_M_four (c_M_four (by omega) (by omega) (by omega) (by omega)) (by decide) (by decide) (Nat.le_of_ble_eq_true rfl) (Nat.zero_le _) (Nat.zero_le _) (fun g26 => ?_)
    refine v_lcmp d_M_wordOf_29 (by omega) (by omega) ?_
    refine v_if_ne d_M_wordOf_30 vCmp_in (fun u30 => ?_) (fun u30 => ?_)
    · have w30 := vCmp_ne u30
      refine v_lload0 d_M_wordOf_36 ?_
      refine v_bipush d_M_wordOf_37 rfl ?_
      refine v_bipush d_M_wordOf_39 rfl ?_
      refine v_bipush d_M_wordOf_41 rfl ?_
      refine v_fSJ3 d_M_wordOf_43 l_M_139 k_M_three (c_M_three (by omega) (by omega) (by omega)) (by decide) (by decide) (Nat.le_of_ble_eq_true rfl) (Nat.zero_le _) (Nat.zero_le _) (fun g43 => ?_)
      refine v_ldc2 d_M_wordOf_46 c_M_143 ?_
      refine v_lmul d_M_wordOf_49 ?_
      refine v_bipush d_M_wordOf_50 rfl ?_
      refine v_bipush d_M_wordOf_52 rfl ?_
      refine v_bipush d_M_wordOf_54 rfl ?_
      refine v_fSJ3 d_M_wordOf_56 l_M_139 k_M_three (c_M_three (by omega) (by omega) (by omega)) (by decide) (by decide) (Nat.le_of_ble_eq_true rfl) (Nat.zero_le _) (Nat.zero_le _) (fun g56 => ?_)
      refine v_ladd d_M_wordOf_59 ?_
      refine v_lcmp d_M_wordOf_60 (by omega) (by omega) ?_
      refine v_if_ne d_M_wordOf_61 vCmp_in (fun u61 => ?_) (fun u61 => ?_)
      · have w61 := vCmp_ne u61
        refine v_lload0 d_M_wordOf_67 ?_
        refine v_bipush d_M_wordOf_68 rfl ?_
        refine v_bipush d_M_wordOf_70 rfl ?_
        refine v_bipush d_M_wordOf_72 rfl ?_
        refine v_bipush d_M_wordOf_74 rfl ?_
        refine v_fSJ4 d_M_wordOf_76 l_M_145 k_M_four (c_M_four (by omega) (by omega) (by omega) (by omega)) (by decide) (by decide) (Nat.le_of_ble_eq_true rfl) (Nat.zero_le _) (Nat.zero_le _) (fun g76 => ?_)
        refine v_ldc2 d_M_wordOf_79 c_M_135 ?_
        refine v_lmul d_M_wordOf_82 ?_
        refine v_ldc2 d_M_wordOf_83 c_M_149 ?_
        refine v_ladd d_M_wordOf_86 ?_
        refine v_ldc2 d_M_wordOf_87 c_M_137 ?_
        refine v_lsub d_M_wordOf_90 ?_
        refine v_lcmp d_M_wordOf_91 (by omega) (by omega) ?_
        refine v_if_ne d_M_wordOf_92 vCmp_in (fun u92 => ?_) (fun u92 => ?_)
        · have w92 := vCmp_ne u92
          refine v_lload0 d_M_wordOf_98 ?_
          refine v_bipush d_M_wordOf_99 rfl ?_
          refine v_bipush d_M_wordOf_101 rfl ?_
          refine v_bipush d_M_wordOf_103 rfl ?_
          refine v_bipush d_M_wordOf_105 rfl ?_
          refine v_fSJ4 d_M_wordOf_107 l_M_145 k_M_four (c_M_four (by omega) (by omega) (by omega) (by omega)) (by decide) (by decide) (Nat.le_of_ble_eq_true rfl) (Nat.zero_le _) (Nat.zero_le _) (fun g107 => ?_)
          refine v_lcmp d_M_wordOf_110 (by omega) (by omega) ?_
          refine v_if_ne d_M_wordOf_111 vCmp_in (fun u111 => ?_) (fun u111 => ?_)
          · have w111 := vCmp_ne u111
            refine v_lload0 d_M_wordOf_117 ?_
            refine v_bipush d_M_wordOf_118 rfl ?_
            refine v_bipush d_M_wordOf_120 rfl ?_
            refine v_bipush d_M_wordOf_122 rfl ?_
            refine v_bipush d_M_wordOf_124 rfl ?_
            refine v_fSJ4 d_M_wordOf_126 l_M_145 k_M_four (c_M_four (by omega) (by omega) (by omega) (by omega)) (by decide) (by decide) (Nat.le_of_ble_eq_true rfl) (Nat.zero_le _) (Nat.zero_le _) (fun g126 => ?_)
            refine v_lcmp d_M_wordOf_129 (by omega) (by omega) ?_
            refine v_if_ne d_M_wordOf_130 vCmp_in (fun u130 => ?_) (fun u130 => ?_)
            · have w130 := vCmp_ne u130
              refine v_lload0 d_M_wordOf_136 ?_
              refine v_ldc2 d_M_wordOf_137 c_M_151 ?_
              refine v_lcmp d_M_wordOf_140 (by omega) (by omega) ?_
              refine v_if_ne d_M_wordOf_141 vCmp_in (fun u141 => ?_) (fun u141 => ?_)
              · have w141 := vCmp_ne u141
                refine v_lload0 d_M_wordOf_147 ?_
                refine v_bipush d_M_wordOf_148 rfl ?_
                refine v_bipush d_M_wordOf_150 rfl ?_
                refine v_bipush d_M_wordOf_152 rfl ?_
                refine v_fSJ3 d_M_wordOf_154 l_M_139 k_M_three (c_M_three (by omega) (by omega) (by omega)) (by decide) (by decide) (Nat.le_of_ble_eq_true rfl) (Nat.zero_le _) (Nat.zero_le _) (fun g154 => ?_)
                refine v_lcmp d_M_wordOf_157 (by omega) (by omega) ?_
                refine v_if_ne d_M_wordOf_158 vCmp_in (fun u158 => ?_) (fun u158 => ?_)
                · have w158 := vCmp_ne u158
                  refine v_lload0 d_M_wordOf_164 ?_
                  refine v_bipush d_M_wordOf_165 rfl ?_
                  refine v_bipush d_M_wordOf_167 rfl ?_
                  refine v_bipush d_M_wordOf_169 rfl ?_
                  refine v_fSJ3 d_M_wordOf_171 l_M_139 k_M_three (c_M_three (by omega) (by omega) (by omega)) (by decide) (by decide) (Nat.le_of_ble_eq_true rfl) (Nat.zero_le _) (Nat.zero_le _) (fun g171 => ?_)
                  refine v_lcmp d_M_wordOf_174 (by omega) (by omega) ?_
                  refine v_if_ne d_M_wordOf_175 vCmp_in (fun u175 => ?_) (fun u175 => ?_)
                  · have w175 := vCmp_ne u175
                    refine v_lload0 d_M_wordOf_181 ?_
                    refine v_fSI1 d_M_wordOf_182 l_M_153 k_M_askedOf (c_M_askedOf (by omega)) (by decide) (by decide) (Nat.le_of_ble_eq_true rfl) (Nat.zero_le _) (Nat.zero_le _) (fun g182 => ?_)
                    have r9 := rwA_rng v
                    exact v_ireturn hM d_M_wordOf_185 (by omega) ⟨rfl, rfl, by rw [rwF, if_neg (by omega), if_neg (by omega), if_neg (by omega), if_neg (by omega), if_neg (by omega), if_neg (by omega), if_neg (by omega), if_neg (by omega), if_neg (by omega)]⟩
                  · have w175 := vCmp_e u175
                    refine v_bipush d_M_wordOf_178 rfl ?_
                    exact v_ireturn hM d_M_wordOf_180 (by omega) ⟨rfl, rfl, by rw [rwF, if_neg (by omega), if_neg (by omega), if_neg (by omega), if_neg (by omega), if_neg (by omega), if_neg (by omega), if_neg (by omega), if_neg (by omega), if_pos (by omega)]⟩
                · have w158 := vCmp_e u158
                  refine v_bipush d_M_wordOf_161 rfl ?_
                  exact v_ireturn hM d_M_wordOf_163 (by omega) ⟨rfl, rfl, by rw [rwF, if_neg (by omega), if_neg (by omega), if_neg (by omega), if_neg (by omega), if_neg (by omega), if_neg (by omega), if_neg (by omega), if_pos (by omega)]⟩
              · have w141 := vCmp_e u141
                refine v_bipush d_M_wordOf_144 rfl ?_
                exact v_ireturn hM d_M_wordOf_146 (by omega) ⟨rfl, rfl, by rw [rwF, if_neg (by omega), if_neg (by omega), if_neg (by omega), if_neg (by omega), if_neg (by omega), if_neg (by omega), if_pos (by omega)]⟩
            · have w130 := vCmp_e u130
              refine v_bipush d_M_wordOf_133 rfl ?_
              exact v_ireturn hM d_M_wordOf_135 (by omega) ⟨rfl, rfl, by rw [rwF, if_neg (by omega), if_neg (by omega), if_neg (by omega), if_neg (by omega), if_neg (by omega), if_pos (by omega)]⟩
          · have w111 := vCmp_e u111
            refine v_bipush d_M_wordOf_114 rfl ?_
            exact v_ireturn hM d_M_wordOf_116 (by omega) ⟨rfl, rfl, by rw [rwF, if_neg (by omega), if_neg (by omega), if_neg (by omega), if_neg (by omega), if_pos (by omega)]⟩
        · have w92 := vCmp_e u92
          refine v_bipush d_M_wordOf_95 rfl ?_
          exact v_ireturn hM d_M_wordOf_97 (by omega) ⟨rfl, rfl, by rw [rwF, if_neg (by omega), if_neg (by omega), if_neg (by omega), if_pos (by omega)]⟩
      · have w61 := vCmp_e u61
        refine v_bipush d_M_wordOf_64 rfl ?_
        exact v_ireturn hM d_M_wordOf_66 (by omega) ⟨rfl, rfl, by rw [rwF, if_neg (by omega), if_neg (by omega), if_pos (by omega)]⟩
    · have w30 := vCmp_e u30
      refine v_bipush d_M_wordOf_33 rfl ?_
      exact v_ireturn hM d_M_wordOf_35 (by omega) ⟨rfl, rfl, by rw [rwF, if_neg (by omega), if_pos (by omega)]⟩
  · have w11 := vCmp_e u11
    refine v_bipush d_M_wordOf_14 rfl ?_
    exact v_ireturn hM d_M_wordOf_16 (by omega) ⟨rfl, rfl, by rw [rwF, if_pos (by omega)]⟩

theorem okB_rng {b : Int → Int} {L : Int} (hb : okB b L) {e : Int} (he : 0 ≤ e) : -1 ≤ b e ∧ b e ≤ 255 := by
  by_cases h : e < L
  · have := hb.2.1 e he h; omega
  · have := hb.2.2 e (by omega); omega
theorem okB_lt {b : Int → Int} {L : Int} (hb : okB b L) {e : Int} (h : 0 ≤ b e) : e < L := Int.not_le.mp (fun h2 => by have := hb.2.2 e h2; omega)
theorem wvF_rng {b : Int → Int} {s : Int} : ∀ n : Nat, (∀ i : Int, 0 ≤ i → i < n → qL (b (s + i))) → 0 ≤ wvF b s n ∧ wvF b s n ≤ 40000000000 ∧ (n ≤ 7 → wvF b s n < 32 ^ n)
  | 0, _ => by simp [wvF]
  | n + 1, h => by
    have ih := wvF_rng n (fun i h1 h2 => h i h1 (by omega))
    have hd := h n (by omega) (by omega)
    rw [wvF]
    by_cases c : n < 7
    · rw [if_pos c]
      have h9 := ih.2.2 (by omega)
      have h8 : (32 : Int) ^ n ≤ 1073741824 := by
        rcases (show n = 0 ∨ n = 1 ∨ n = 2 ∨ n = 3 ∨ n = 4 ∨ n = 5 ∨ n = 6 by omega) with rfl | rfl | rfl | rfl | rfl | rfl | rfl <;> decide
      rw [Int.pow_succ]
      omega
    · rw [if_neg c]
      exact ⟨ih.1, ih.2.1, fun h9 => by omega⟩
theorem RrP_word {b F : Int → Int} {p : Int} (c0 : ¬ b (whF b p) < 0) (hc : qL (b (whF b p))) (h4 : F 4 = weF b p) (h5 : F 5 = whF b p) (h : (6 < weF b p - whF b p ∧ F 6 = 4) ∨ (weF b p - whF b p ≤ 6 ∧ F 9 = rwF (wvF b (whF b p) (weF b p - whF b p).toNat) ∧ ((F 9 = 99 ∧ F 6 = 4) ∨ (F 9 ≠ 99 ∧ F 6 = 3)))) : RrP b p F := by
  refine ⟨by rw [h4, nxF, if_neg c0, if_pos hc], h5, ?_⟩
  rw [tkF, if_neg c0, if_pos hc]
  rcases h with h | ⟨h1, h2, h3⟩
  · rw [if_pos h.1]
    exact Or.inr (Or.inr (Or.inr (Or.inr ⟨rfl, h.2⟩)))
  · rw [if_neg (by omega)]
    have hT := TKw_of (wvF b (whF b p) (weF b p - whF b p).toNat)
    rw [← h2] at hT
    unfold TKw at hT
    unfold TKr
    omega
theorem RrP_num {b F : Int → Int} {p : Int} (c0 : ¬ b (whF b p) < 0) (c1 : ¬ qL (b (whF b p))) (hc : qD (b (whF b p))) (h4 : F 4 = deF b p) (h5 : F 5 = whF b p) (h7 : F 7 = nmF b p) (h : (4 < deF b p - whF b p ∧ F 6 = 4) ∨ (deF b p - whF b p ≤ 4 ∧ F 6 = 1)) : RrP b p F := by
  refine ⟨by rw [h4, nxF, if_neg c0, if_neg c1, if_pos hc], h5, ?_⟩
  rw [tkF, if_neg c0, if_neg c1, if_pos hc]
  rcases h with h | h
  · rw [if_pos h.1]
    exact Or.inr (Or.inr (Or.inr (Or.inr ⟨rfl, h.2⟩)))
  · rw [if_neg (by omega)]
    exact Or.inr (Or.inl ⟨rfl, h.2, h7⟩)
theorem RrP_sign {b F : Int → Int} {p : Int} (c0 : ¬ b (whF b p) < 0) (c1 : ¬ qL (b (whF b p))) (c2 : ¬ qD (b (whF b p))) (h4 : F 4 = whF b p + 1) (h5 : F 5 = whF b p) (h8 : F 8 = b (whF b p)) (h : ((58 ≤ b (whF b p) ∧ b (whF b p) ≤ 62) ∧ F 6 = 2) ∨ (¬ (58 ≤ b (whF b p) ∧ b (whF b p) ≤ 62) ∧ F 6 = 4)) : RrP b p F := by
  refine ⟨by rw [h4, nxF, if_neg c0, if_neg c1, if_neg c2], h5, ?_⟩
  rw [tkF, if_neg c0, if_neg c1, if_neg c2]
  rcases h with h | h
  · rw [if_pos h.1]
    exact Or.inr (Or.inr (Or.inl ⟨h.1.1, h.1.2, h.2, h8⟩))
  · rw [if_neg h.1]
    exact Or.inr (Or.inr (Or.inr (Or.inr ⟨rfl, h.2⟩)))
theorem RrP_end {b F : Int → Int} {p : Int} (c0 : b (whF b p) < 0) (h4 : F 4 = whF b p) (h5 : F 5 = whF b p) (h6 : F 6 = 0) : RrP b p F := by
  refine ⟨by rw [h4, nxF, if_pos c0], h5, ?_⟩
  rw [tkF, if_pos c0]
  exact Or.inl ⟨rfl, h6⟩
theorem rwF_rng (v : Int) : 1 ≤ rwF v ∧ rwF v ≤ 99 := by
  have h := rwA_rng v
  unfold rwF
  repeat' split
  all_goals omega
theorem c_M_advance_77 {T : vSh} {σ : vMem} {cx : vCx} {p L : Int} {b : Int → Int} (hR : RC σ b L) (hp : 0 ≤ p ∧ p ≤ 500) (hM : vM cx 0 0 none (rP (S0 ++ T) (fun _ σ2 => F55 σ σ2 ∧ RrP b p (σ2 55)))) {c : Int} (hq : qL (b (whF b p))) : ∀ (n : Nat) (e v : Int) (σ1 : vMem), 500 - e < (n : Int) → (whF b p ≤ e ∧ e ≤ 500) → (rn b qL e = weF b p) → σ1 55 4 = e → σ1 55 5 = whF b p → v = wvF b (whF b p) (e - whF b p).toNat → F55 σ σ1 → vV cx y_M_advance.cls prog_14_method_49_code 4 4 0 0 0 0 77 [some (.ref 55), some (.int (iI c)), some (.long (lI v)), none] [] (S0 ++ T) σ1 := by
  intro n
  induction n with
  | zero =>
    intro e v σ1 hn h1 hwe h4 h5 hv hF
    omega
  | succ n ih =>
    intro e v σ1 hn h1 hwe h4 h5 hv hF
    have hR1 := hF.rc hR
    have bL := hR.2.1.1
    have hw := whF_rng b hp.2
    have hbe : -1 ≤ b e ∧ b e ≤ 255 := okB_rng hR.2.1 (by omega)
    have hlt : 0 ≤ b e → e < L := okB_lt hR.2.1
    have hwv := wvF_rng (b := b) (s := whF b p) (e - whF b p).toNat (fun i i1 i2 => rn_all b qL (p := whF b p) (by omega) (by have h9 := rn_ge b qL (p := e) h1.2; have h8 : rn b qL (whF b p) = weF b p := rfl; omega))
    rw [← hv] at hwv
    refine v_aload0 d_M_advance_77 ?_
    refine v_aload0 d_M_advance_78 ?_
    refine v_getJ (ji := 4) d_M_advance_79 f_M_157 (sh_55 T) rfl rfl (fun g79 => ?_)
    rw [h4]
    refine v_fVI1 d_M_advance_82 l_M_160 k_M_byteAt (c_M_byteAt hR1 (by omega) (by omega)) (sh_55 T) rfl (by decide) (by decide) (Nat.le_of_ble_eq_true rfl) (Nat.zero_le _) (Nat.zero_le _) (fun g82 => ?_)
    refine v_fSZ1 d_M_advance_85 l_M_170 k_M_isLetter (c_M_isLetter (by omega)) (by decide) (by decide) (Nat.le_of_ble_eq_true rfl) (Nat.zero_le _) (Nat.zero_le _) (fun g85 => ?_)
    refine v_ifb_eq d_M_advance_88 (fun u88 => ?_) (fun u88 => ?_)
    · have he : e = weF b p := by rw [← hwe, rn_stop u88]
      refine v_aload0 d_M_advance_138 ?_
      refine v_aload0 d_M_advance_139 ?_
      refine v_getJ (ji := 4) d_M_advance_140 f_M_157 (sh_55 T) rfl rfl (fun g140 => ?_)
      refine v_aload0 d_M_advance_143 ?_
      refine v_getJ (ji := 5) d_M_advance_144 f_M_164 (sh_55 T) rfl rfl (fun g144 => ?_)
      refine v_isub d_M_advance_147 ?_
      refine v_bipush d_M_advance_148 rfl ?_
      refine v_icmp_le d_M_advance_150 (by omega) (by omega) (fun u150 => ?_) (fun u150 => ?_)
      · refine v_lload2 d_M_advance_158 ?_
        refine v_fSI1 d_M_advance_159 l_M_173 k_M_wordOf (c_M_wordOf (by omega)) (by decide) (by decide) (Nat.le_of_ble_eq_true rfl) (Nat.zero_le _) (Nat.zero_le _) (fun g159 => ?_)
        have hrw := rwF_rng v
        refine v_putJ (ji := 9) d_M_advance_162 p_M_176 (sh_55 T) rfl rfl (by omega) ?_
        refine v_aload0 d_M_advance_165 ?_
        refine v_aload0 d_M_advance_166 ?_
        refine v_getJ (ji := 9) d_M_advance_167 f_M_176 (sh_55 T) rfl rfl (fun g167 => ?_)
        rw [vUp_same]
        refine v_bipush d_M_advance_170 rfl ?_
        refine v_icmp_ne d_M_advance_172 (by omega) (by omega) (fun u172 => ?_) (fun u172 => ?_)
        · refine v_iconst d_M_advance_179 ?_
          refine v_putJ (ji := 6) d_M_advance_180 p_M_167 (sh_55 T) rfl rfl (by omega) ?_
          refine v_goto d_M_advance_183 ?_
          first
          | (omega)
          | (exact v_return hM d_M_advance_317 ⟨rfl, F55.up (F55.up hF (by omega)) (by omega), RrP_word (by omega) hq (by rw [vUp_ix (by decide), vUp_ix (by decide), h4, he]) (by rw [vUp_ix (by decide), vUp_ix (by decide), h5]) (Or.inl ⟨by omega, by rw [vUp_same]⟩)⟩)
          | (exact v_return hM d_M_advance_317 ⟨rfl, F55.up (F55.up hF (by omega)) (by omega), RrP_word (by omega) hq (by rw [vUp_ix (by decide), vUp_ix (by decide), h4, he]) (by rw [vUp_ix (by decide), vUp_ix (by decide), h5]) (Or.inr ⟨by omega, by rw [vUp_ix (by decide), vUp_same, hv, he], Or.inr ⟨by rw [vUp_ix (by decide), vUp_same]; omega, by rw [vUp_same]⟩⟩)⟩)
          | (exact v_return hM d_M_advance_317 ⟨rfl, F55.up (F55.up hF (by omega)) (by omega), RrP_word (by omega) hq (by rw [vUp_ix (by decide), vUp_ix (by decide), h4, he]) (by rw [vUp_ix (by decide), vUp_ix (by decide), h5]) (Or.inr ⟨by omega, by rw [vUp_ix (by decide), vUp_same, hv, he], Or.inl ⟨by rw [vUp_ix (by decide), vUp_same]; omega, by rw [vUp_same]⟩⟩)⟩)
        · refine v_iconst d_M_advance_175 ?_
          refine v_goto d_M_advance_176 ?_
          refine v_putJ (ji := 6) d_M_advance_180 p_M_167 (sh_55 T) rfl rfl (by omega) ?_
          refine v_goto d_M_advance_183 ?_
          first
          | (omega)
          | (exact v_return hM d_M_advance_317 ⟨rfl, F55.up (F55.up hF (by omega)) (by omega), RrP_word (by omega) hq (by rw [vUp_ix (by decide), vUp_ix (by decide), h4, he]) (by rw [vUp_ix (by decide), vUp_ix (by decide), h5]) (Or.inl ⟨by omega, by rw [vUp_same]⟩)⟩)
          | (exact v_return hM d_M_advance_317 ⟨rfl, F55.up (F55.up hF (by omega)) (by omega), RrP_word (by omega) hq (by rw [vUp_ix (by decide), vUp_ix (by decide), h4, he]) (by rw [vUp_ix (by decide), vUp_ix (by decide), h5]) (Or.inr ⟨by omega, by rw [vUp_ix (by decide), vUp_same, hv, he], Or.inr ⟨by rw [vUp_ix (by decide), vUp_same]; omega, by rw [vUp_same]⟩⟩)⟩)
          | (exact v_return hM d_M_advance_317 ⟨rfl, F55.up (F55.up hF (by omega)) (by omega), RrP_word (by omega) hq (by rw [vUp_ix (by decide), vUp_ix (by decide), h4, he]) (by rw [vUp_ix (by decide), vUp_ix (by decide), h5]) (Or.inr ⟨by omega, by rw [vUp_ix (by decide), vUp_same, hv, he], Or.inl ⟨by rw [vUp_ix (by decide), vUp_same]; omega, by rw [vUp_same]⟩⟩)⟩)
      · refine v_bipush d_M_advance_153 rfl ?_
        refine v_goto d_M_advance_155 ?_
        have hrw := rwF_rng v
        refine v_putJ (ji := 9) d_M_advance_162 p_M_176 (sh_55 T) rfl rfl (by omega) ?_
        refine v_aload0 d_M_advance_165 ?_
        refine v_aload0 d_M_advance_166 ?_
        refine v_getJ (ji := 9) d_M_advance_167 f_M_176 (sh_55 T) rfl rfl (fun g167 => ?_)
        rw [vUp_same]
        refine v_bipush d_M_advance_170 rfl ?_
        refine v_icmp_ne d_M_advance_172 (by omega) (by omega) (fun u172 => ?_) (fun u172 => ?_)
        · refine v_iconst d_M_advance_179 ?_
          refine v_putJ (ji := 6) d_M_advance_180 p_M_167 (sh_55 T) rfl rfl (by omega) ?_
          refine v_goto d_M_advance_183 ?_
          first
          | (omega)
          | (exact v_return hM d_M_advance_317 ⟨rfl, F55.up (F55.up hF (by omega)) (by omega), RrP_word (by omega) hq (by rw [vUp_ix (by decide), vUp_ix (by decide), h4, he]) (by rw [vUp_ix (by decide), vUp_ix (by decide), h5]) (Or.inl ⟨by omega, by rw [vUp_same]⟩)⟩)
          | (exact v_return hM d_M_advance_317 ⟨rfl, F55.up (F55.up hF (by omega)) (by omega), RrP_word (by omega) hq (by rw [vUp_ix (by decide), vUp_ix (by decide), h4, he]) (by rw [vUp_ix (by decide), vUp_ix (by decide), h5]) (Or.inr ⟨by omega, by rw [vUp_ix (by decide), vUp_same, hv, he], Or.inr ⟨by rw [vUp_ix (by decide), vUp_same]; omega, by rw [vUp_same]⟩⟩)⟩)
          | (exact v_return hM d_M_advance_317 ⟨rfl, F55.up (F55.up hF (by omega)) (by omega), RrP_word (by omega) hq (by rw [vUp_ix (by decide), vUp_ix (by decide), h4, he]) (by rw [vUp_ix (by decide), vUp_ix (by decide), h5]) (Or.inr ⟨by omega, by rw [vUp_ix (by decide), vUp_same, hv, he], Or.inl ⟨by rw [vUp_ix (by decide), vUp_same]; omega, by rw [vUp_same]⟩⟩)⟩)
        · refine v_iconst d_M_advance_175 ?_
          refine v_goto d_M_advance_176 ?_
          refine v_putJ (ji := 6) d_M_advance_180 p_M_167 (sh_55 T) rfl rfl (by omega) ?_
          refine v_goto d_M_advance_183 ?_
          first
          | (omega)
          | (exact v_return hM d_M_advance_317 ⟨rfl, F55.up (F55.up hF (by omega)) (by omega), RrP_word (by omega) hq (by rw [vUp_ix (by decide), vUp_ix (by decide), h4, he]) (by rw [vUp_ix (by decide), vUp_ix (by decide), h5]) (Or.inl ⟨by omega, by rw [vUp_same]⟩)⟩)
          | (exact v_return hM d_M_advance_317 ⟨rfl, F55.up (F55.up hF (by omega)) (by omega), RrP_word (by omega) hq (by rw [vUp_ix (by decide), vUp_ix (by decide), h4, he]) (by rw [vUp_ix (by decide), vUp_ix (by decide), h5]) (Or.inr ⟨by omega, by rw [vUp_ix (by decide), vUp_same, hv, he], Or.inr ⟨by rw [vUp_ix (by decide), vUp_same]; omega, by rw [vUp_same]⟩⟩)⟩)
          | (exact v_return hM d_M_advance_317 ⟨rfl, F55.up (F55.up hF (by omega)) (by omega), RrP_word (by omega) hq (by rw [vUp_ix (by decide), vUp_ix (by decide), h4, he]) (by rw [vUp_ix (by decide), vUp_ix (by decide), h5]) (Or.inr ⟨by omega, by rw [vUp_ix (by decide), vUp_same, hv, he], Or.inl ⟨by rw [vUp_ix (by decide), vUp_same]; omega, by rw [vUp_same]⟩⟩)⟩)
    · refine v_aload0 d_M_advance_91 ?_
      refine v_getJ (ji := 4) d_M_advance_92 f_M_157 (sh_55 T) rfl rfl (fun g92 => ?_)
      refine v_aload0 d_M_advance_95 ?_
      refine v_getJ (ji := 5) d_M_advance_96 f_M_164 (sh_55 T) rfl rfl (fun g96 => ?_)
      refine v_isub d_M_advance_99 ?_
      refine v_bipush d_M_advance_100 rfl ?_
      refine v_icmp_ge d_M_advance_102 (by omega) (by omega) (fun u102 => ?_) (fun u102 => ?_)
      · refine v_aload0 d_M_advance_125 ?_
        refine v_dup d_M_advance_126 rfl ?_
        refine v_getJ (ji := 4) d_M_advance_127 f_M_157 (sh_55 T) rfl rfl (fun g127 => ?_)
        rw [h4]
        refine v_iconst d_M_advance_130 ?_
        refine v_iadd d_M_advance_131 ?_
        refine v_putJ (ji := 4) d_M_advance_132 p_M_157 (sh_55 T) rfl rfl (by omega) ?_
        refine v_goto d_M_advance_135 ?_
        refine ih (e + 1) _ _ (by omega) (by omega) (by rw [← rn_step (by omega) u88]; exact hwe) (by rw [vUp_same]) (by rw [vUp_ix (by decide)]; exact h5) ?_ (F55.up hF (by omega))
        rw [show (e + 1 - whF b p).toNat = (e - whF b p).toNat + 1 by omega, wvF, if_neg (by omega), hv]
      · refine v_ldc2 d_M_advance_105 c_M_135 ?_
        refine v_lload2 d_M_advance_108 ?_
        refine v_lmul d_M_advance_109 ?_
        refine v_aload0 d_M_advance_110 ?_
        refine v_aload0 d_M_advance_111 ?_
        refine v_getJ (ji := 4) d_M_advance_112 f_M_157 (sh_55 T) rfl rfl (fun g112 => ?_)
        rw [h4]
        refine v_fVI1 d_M_advance_115 l_M_160 k_M_byteAt (c_M_byteAt hR1 (by omega) (by omega)) (sh_55 T) rfl (by decide) (by decide) (Nat.le_of_ble_eq_true rfl) (Nat.zero_le _) (Nat.zero_le _) (fun g115 => ?_)
        refine v_i2l d_M_advance_118 (by omega) ?_
        refine v_ladd d_M_advance_119 ?_
        refine v_ldc2 d_M_advance_120 c_M_137 ?_
        refine v_lsub d_M_advance_123 ?_
        refine v_lstore2 d_M_advance_124 (by decide) rfl ?_
        refine v_aload0 d_M_advance_125 ?_
        refine v_dup d_M_advance_126 rfl ?_
        refine v_getJ (ji := 4) d_M_advance_127 f_M_157 (sh_55 T) rfl rfl (fun g127 => ?_)
        rw [h4]
        refine v_iconst d_M_advance_130 ?_
        refine v_iadd d_M_advance_131 ?_
        refine v_putJ (ji := 4) d_M_advance_132 p_M_157 (sh_55 T) rfl rfl (by omega) ?_
        refine v_goto d_M_advance_135 ?_
        refine ih (e + 1) _ _ (by omega) (by omega) (by rw [← rn_step (by omega) u88]; exact hwe) (by rw [vUp_same]) (by rw [vUp_ix (by decide)]; exact h5) ?_ (F55.up hF (by omega))
        rw [show (e + 1 - whF b p).toNat = (e - whF b p).toNat + 1 by omega, wvF, if_pos (by omega), ← hv, show whF b p + ((e - whF b p).toNat : Int) = e by omega]

theorem c_M_advance_198 {T : vSh} {σ : vMem} {cx : vCx} {p L : Int} {b : Int → Int} (hR : RC σ b L) (hp : 0 ≤ p ∧ p ≤ 500) (hM : vM cx 0 0 none (rP (S0 ++ T) (fun _ σ2 => F55 σ σ2 ∧ RrP b p (σ2 55)))) {c : Int} (c1 : ¬ qL (b (whF b p))) (hq : qD (b (whF b p))) : ∀ (n : Nat) (e : Int) (σ1 : vMem), 500 - e < (n : Int) → (whF b p ≤ e ∧ e ≤ 500) → (rn b qD e = deF b p) → σ1 55 4 = e → σ1 55 5 = whF b p → σ1 55 7 = dgF b (whF b p) (e - whF b p).toNat → F55 σ σ1 → vV cx y_M_advance.cls prog_14_method_49_code 4 4 0 0 0 0 198 [some (.ref 55), some (.int (iI c)), none, none] [] (S0 ++ T) σ1 := by
  intro n
  induction n with
  | zero =>
    intro e σ1 hn h1 hwe h4 h5 hv hF
    omega
  | succ n ih =>
    intro e σ1 hn h1 hwe h4 h5 hv hF
    have hR1 := hF.rc hR
    have bL := hR.2.1.1
    have hw := whF_rng b hp.2
    have hbe : -1 ≤ b e ∧ b e ≤ 255 := okB_rng hR.2.1 (by omega)
    have hlt : 0 ≤ b e → e < L := okB_lt hR.2.1
    have hwv := dgF_rng (b := b) (s := whF b p) (e - whF b p).toNat (fun i i1 i2 => rn_all b qD (p := whF b p) (by omega) (by have h9 := rn_ge b qD (p := e) h1.2; have h8 : rn b qD (whF b p) = deF b p := rfl; omega))
    rw [← hv] at hwv
    refine v_aload0 d_M_advance_198 ?_
    refine v_aload0 d_M_advance_199 ?_
    refine v_getJ (ji := 4) d_M_advance_200 f_M_157 (sh_55 T) rfl rfl (fun g200 => ?_)
    rw [h4]
    refine v_fVI1 d_M_advance_203 l_M_160 k_M_byteAt (c_M_byteAt hR1 (by omega) (by omega)) (sh_55 T) rfl (by decide) (by decide) (Nat.le_of_ble_eq_true rfl) (Nat.zero_le _) (Nat.zero_le _) (fun g203 => ?_)
    refine v_fSZ1 d_M_advance_206 l_M_179 k_M_isDigit (c_M_isDigit (by omega)) (by decide) (by decide) (Nat.le_of_ble_eq_true rfl) (Nat.zero_le _) (Nat.zero_le _) (fun g206 => ?_)
    refine v_ifb_eq d_M_advance_209 (fun u209 => ?_) (fun u209 => ?_)
    · have he : e = deF b p := by rw [← hwe, rn_stop u209]
      refine v_aload0 d_M_advance_261 ?_
      refine v_aload0 d_M_advance_262 ?_
      refine v_getJ (ji := 4) d_M_advance_263 f_M_157 (sh_55 T) rfl rfl (fun g263 => ?_)
      refine v_aload0 d_M_advance_266 ?_
      refine v_getJ (ji := 5) d_M_advance_267 f_M_164 (sh_55 T) rfl rfl (fun g267 => ?_)
      refine v_isub d_M_advance_270 ?_
      refine v_iconst d_M_advance_271 ?_
      refine v_icmp_le d_M_advance_272 (by omega) (by omega) (fun u272 => ?_) (fun u272 => ?_)
      · refine v_iconst d_M_advance_279 ?_
        refine v_putJ (ji := 6) d_M_advance_280 p_M_167 (sh_55 T) rfl rfl (by omega) ?_
        refine v_goto d_M_advance_283 ?_
        exact v_return hM d_M_advance_317 ⟨rfl, F55.up hF (by omega), RrP_num (by omega) c1 hq (by rw [vUp_ix (by decide), h4, he]) (by rw [vUp_ix (by decide), h5]) (by rw [vUp_ix (by decide), hv, he]; rfl) (Or.inr ⟨by omega, by rw [vUp_same]⟩)⟩
      · refine v_iconst d_M_advance_275 ?_
        refine v_goto d_M_advance_276 ?_
        refine v_putJ (ji := 6) d_M_advance_280 p_M_167 (sh_55 T) rfl rfl (by omega) ?_
        refine v_goto d_M_advance_283 ?_
        exact v_return hM d_M_advance_317 ⟨rfl, F55.up hF (by omega), RrP_num (by omega) c1 hq (by rw [vUp_ix (by decide), h4, he]) (by rw [vUp_ix (by decide), h5]) (by rw [vUp_ix (by decide), hv, he]; rfl) (Or.inl ⟨by omega, by rw [vUp_same]⟩)⟩
    · refine v_aload0 d_M_advance_212 ?_
      refine v_getJ (ji := 4) d_M_advance_213 f_M_157 (sh_55 T) rfl rfl (fun g213 => ?_)
      refine v_aload0 d_M_advance_216 ?_
      refine v_getJ (ji := 5) d_M_advance_217 f_M_164 (sh_55 T) rfl rfl (fun g217 => ?_)
      refine v_isub d_M_advance_220 ?_
      refine v_iconst d_M_advance_221 ?_
      refine v_icmp_ge d_M_advance_222 (by omega) (by omega) (fun u222 => ?_) (fun u222 => ?_)
      · refine v_aload0 d_M_advance_248 ?_
        refine v_dup d_M_advance_249 rfl ?_
        refine v_getJ (ji := 4) d_M_advance_250 f_M_157 (sh_55 T) rfl rfl (fun g250 => ?_)
        try rw [vUp_ix (by decide)]
        rw [h4]
        refine v_iconst d_M_advance_253 ?_
        refine v_iadd d_M_advance_254 ?_
        refine v_putJ (ji := 4) d_M_advance_255 p_M_157 (sh_55 T) rfl rfl (by omega) ?_
        refine v_goto d_M_advance_258 ?_
        refine ih (e + 1) _ (by omega) (by omega) (by rw [← rn_step (by omega) u209]; exact hwe) (by rw [vUp_same]) (by rw [vUp_ix (by decide)]; exact h5) ?_ (F55.up hF (by omega))
        rw [show (e + 1 - whF b p).toNat = (e - whF b p).toNat + 1 by omega, dgF, if_neg (by omega), vUp_ix (by decide), hv]
      · refine v_aload0 d_M_advance_225 ?_
        refine v_bipush d_M_advance_226 rfl ?_
        refine v_aload0 d_M_advance_228 ?_
        refine v_getJ (ji := 7) d_M_advance_229 f_M_182 (sh_55 T) rfl rfl (fun g229 => ?_)
        refine v_imul d_M_advance_232 ?_
        refine v_aload0 d_M_advance_233 ?_
        refine v_aload0 d_M_advance_234 ?_
        refine v_getJ (ji := 4) d_M_advance_235 f_M_157 (sh_55 T) rfl rfl (fun g235 => ?_)
        rw [h4]
        refine v_fVI1 d_M_advance_238 l_M_160 k_M_byteAt (c_M_byteAt hR1 (by omega) (by omega)) (sh_55 T) rfl (by decide) (by decide) (Nat.le_of_ble_eq_true rfl) (Nat.zero_le _) (Nat.zero_le _) (fun g238 => ?_)
        refine v_iadd d_M_advance_241 ?_
        refine v_bipush d_M_advance_242 rfl ?_
        refine v_isub d_M_advance_244 ?_
        refine v_putJ (ji := 7) d_M_advance_245 p_M_182 (sh_55 T) rfl rfl (by omega) ?_
        refine v_aload0 d_M_advance_248 ?_
        refine v_dup d_M_advance_249 rfl ?_
        refine v_getJ (ji := 4) d_M_advance_250 f_M_157 (sh_55 T) rfl rfl (fun g250 => ?_)
        try rw [vUp_ix (by decide)]
        rw [h4]
        refine v_iconst d_M_advance_253 ?_
        refine v_iadd d_M_advance_254 ?_
        refine v_putJ (ji := 4) d_M_advance_255 p_M_157 (sh_55 T) rfl rfl (by omega) ?_
        refine v_goto d_M_advance_258 ?_
        refine ih (e + 1) _ (by omega) (by omega) (by rw [← rn_step (by omega) u209]; exact hwe) (by rw [vUp_same]) (by rw [vUp_ix (by decide), vUp_ix (by decide)]; exact h5) ?_ (F55.up (F55.up hF (by omega)) (by omega))
        rw [show (e + 1 - whF b p).toNat = (e - whF b p).toNat + 1 by omega, dgF, if_pos (by omega), vUp_ix (by decide), vUp_same, hv, show whF b p + ((e - whF b p).toNat : Int) = e by omega]

theorem c_M_advance_39 {T : vSh} {σ σ1 : vMem} {cx : vCx} {p L : Int} {b : Int → Int} (hR : RC σ b L) (hp : 0 ≤ p ∧ p ≤ 500) (hM : vM cx 0 0 none (rP (S0 ++ T) (fun _ σ2 => F55 σ σ2 ∧ RrP b p (σ2 55)))) (h4 : σ1 55 4 = whF b p) (hF : F55 σ σ1) : vV cx y_M_advance.cls prog_14_method_49_code 4 4 0 0 0 0 39 [some (.ref 55), none, none, none] [] (S0 ++ T) σ1 := by
  have bL := hR.2.1.1
  have hw := whF_rng b hp.2
  have hbe : -1 ≤ b (whF b p) ∧ b (whF b p) ≤ 255 := okB_rng hR.2.1 (by omega)
  have hF1 : F55 σ (vUp σ1 55 5 (whF b p)) := F55.up hF (by omega)
  have hR1 := hF1.rc hR
  refine v_aload0 d_M_advance_39 ?_
  refine v_aload0 d_M_advance_40 ?_
  refine v_getJ (ji := 4) d_M_advance_41 f_M_157 (sh_55 T) rfl rfl (fun g41 => ?_)
  rw [h4]
  refine v_putJ (ji := 5) d_M_advance_44 p_M_164 (sh_55 T) rfl rfl (by omega) ?_
  refine v_aload0 d_M_advance_47 ?_
  refine v_aload0 d_M_advance_48 ?_
  refine v_getJ (ji := 4) d_M_advance_49 f_M_157 (sh_55 T) rfl rfl (fun g49 => ?_)
  rw [vUp_ix (by decide), h4]
  refine v_fVI1 d_M_advance_52 l_M_160 k_M_byteAt (c_M_byteAt hR1 (by omega) (by omega)) (sh_55 T) rfl (by decide) (by decide) (Nat.le_of_ble_eq_true rfl) (Nat.zero_le _) (Nat.zero_le _) (fun g52 => ?_)
  refine v_istore1 d_M_advance_55 (by decide) rfl ?_
  refine v_iload1 d_M_advance_56 ?_
  refine v_if_ge d_M_advance_57 (by omega) (fun u57 => ?_) (fun u57 => ?_)
  · refine v_iload1 d_M_advance_68 ?_
    refine v_fSZ1 d_M_advance_69 l_M_170 k_M_isLetter (c_M_isLetter (by omega)) (by decide) (by decide) (Nat.le_of_ble_eq_true rfl) (Nat.zero_le _) (Nat.zero_le _) (fun g69 => ?_)
    refine v_ifb_eq d_M_advance_72 (fun u72 => ?_) (fun u72 => ?_)
    · refine v_iload1 d_M_advance_186 ?_
      refine v_fSZ1 d_M_advance_187 l_M_179 k_M_isDigit (c_M_isDigit (by omega)) (by decide) (by decide) (Nat.le_of_ble_eq_true rfl) (Nat.zero_le _) (Nat.zero_le _) (fun g187 => ?_)
      refine v_ifb_eq d_M_advance_190 (fun u190 => ?_) (fun u190 => ?_)
      · refine v_aload0 d_M_advance_286 ?_
        refine v_dup d_M_advance_287 rfl ?_
        refine v_getJ (ji := 4) d_M_advance_288 f_M_157 (sh_55 T) rfl rfl (fun g288 => ?_)
        rw [vUp_ix (by decide), h4]
        refine v_iconst d_M_advance_291 ?_
        refine v_iadd d_M_advance_292 ?_
        refine v_putJ (ji := 4) d_M_advance_293 p_M_157 (sh_55 T) rfl rfl (by omega) ?_
        refine v_aload0 d_M_advance_296 ?_
        refine v_iload1 d_M_advance_297 ?_
        refine v_putJ (ji := 8) d_M_advance_298 p_M_185 (sh_55 T) rfl rfl (by omega) ?_
        refine v_aload0 d_M_advance_301 ?_
        refine v_iload1 d_M_advance_302 ?_
        refine v_fSZ1 d_M_advance_303 l_M_188 k_M_isSignByte (c_M_isSignByte (by omega)) (by decide) (by decide) (Nat.le_of_ble_eq_true rfl) (Nat.zero_le _) (Nat.zero_le _) (fun g303 => ?_)
        refine v_ifb_eq d_M_advance_306 (fun u306 => ?_) (fun u306 => ?_)
        · refine v_iconst d_M_advance_313 ?_
          refine v_putJ (ji := 6) d_M_advance_314 p_M_167 (sh_55 T) rfl rfl (by omega) ?_
          first
          | (exact v_return hM d_M_advance_317 ⟨rfl, F55.up hF1 (by omega), RrP_end (by omega) (by rw [vUp_ix (by decide), vUp_ix (by decide), h4]) (by rw [vUp_ix (by decide), vUp_same]) (by rw [vUp_same])⟩)
          | (exact v_return hM d_M_advance_317 ⟨rfl, F55.up (F55.up (F55.up hF1 (by omega)) (by omega)) (by omega), RrP_sign (by omega) u72 u190 (by rw [vUp_ix (by decide), vUp_ix (by decide), vUp_same]) (by rw [vUp_ix (by decide), vUp_ix (by decide), vUp_ix (by decide), vUp_same]) (by rw [vUp_ix (by decide), vUp_same]) (Or.inl ⟨by omega, by rw [vUp_same]⟩)⟩)
          | (exact v_return hM d_M_advance_317 ⟨rfl, F55.up (F55.up (F55.up hF1 (by omega)) (by omega)) (by omega), RrP_sign (by omega) u72 u190 (by rw [vUp_ix (by decide), vUp_ix (by decide), vUp_same]) (by rw [vUp_ix (by decide), vUp_ix (by decide), vUp_ix (by decide), vUp_same]) (by rw [vUp_ix (by decide), vUp_same]) (Or.inr ⟨by omega, by rw [vUp_same]⟩)⟩)
        · refine v_iconst d_M_advance_309 ?_
          refine v_goto d_M_advance_310 ?_
          refine v_putJ (ji := 6) d_M_advance_314 p_M_167 (sh_55 T) rfl rfl (by omega) ?_
          first
          | (exact v_return hM d_M_advance_317 ⟨rfl, F55.up hF1 (by omega), RrP_end (by omega) (by rw [vUp_ix (by decide), vUp_ix (by decide), h4]) (by rw [vUp_ix (by decide), vUp_same]) (by rw [vUp_same])⟩)
          | (exact v_return hM d_M_advance_317 ⟨rfl, F55.up (F55.up (F55.up hF1 (by omega)) (by omega)) (by omega), RrP_sign (by omega) u72 u190 (by rw [vUp_ix (by decide), vUp_ix (by decide), vUp_same]) (by rw [vUp_ix (by decide), vUp_ix (by decide), vUp_ix (by decide), vUp_same]) (by rw [vUp_ix (by decide), vUp_same]) (Or.inl ⟨by omega, by rw [vUp_same]⟩)⟩)
          | (exact v_return hM d_M_advance_317 ⟨rfl, F55.up (F55.up (F55.up hF1 (by omega)) (by omega)) (by omega), RrP_sign (by omega) u72 u190 (by rw [vUp_ix (by decide), vUp_ix (by decide), vUp_same]) (by rw [vUp_ix (by decide), vUp_ix (by decide), vUp_ix (by decide), vUp_same]) (by rw [vUp_ix (by decide), vUp_same]) (Or.inr ⟨by omega, by rw [vUp_same]⟩)⟩)
      · refine v_aload0 d_M_advance_193 ?_
        refine v_iconst d_M_advance_194 ?_
        refine v_putJ (ji := 7) d_M_advance_195 p_M_182 (sh_55 T) rfl rfl (by omega) ?_
        exact c_M_advance_198 hR hp hM u72 u190 501 (whF b p) _ (by omega) (by omega) rfl (by rw [vUp_ix (by decide), vUp_ix (by decide), h4]) (by rw [vUp_ix (by decide), vUp_same]) (by rw [vUp_same, Int.sub_self]; rfl) (F55.up hF1 (by omega))
    · refine v_lconst (z := 0) d_M_advance_75 rfl ?_
      refine v_lstore2 d_M_advance_76 (by decide) rfl ?_
      exact c_M_advance_77 hR hp hM u72 501 (whF b p) _ _ (by omega) (by omega) rfl (by rw [vUp_ix (by decide), h4]) (by rw [vUp_same]) (by rw [Int.sub_self]; rfl) hF1
  · refine v_aload0 d_M_advance_60 ?_
    refine v_iconst d_M_advance_61 ?_
    refine v_putJ (ji := 6) d_M_advance_62 p_M_167 (sh_55 T) rfl rfl (by omega) ?_
    refine v_goto d_M_advance_65 ?_
    first
    | (exact v_return hM d_M_advance_317 ⟨rfl, F55.up hF1 (by omega), RrP_end (by omega) (by rw [vUp_ix (by decide), vUp_ix (by decide), h4]) (by rw [vUp_ix (by decide), vUp_same]) (by rw [vUp_same])⟩)
    | (exact v_return hM d_M_advance_317 ⟨rfl, F55.up (F55.up (F55.up hF1 (by omega)) (by omega)) (by omega), RrP_sign (by omega) u72 u190 (by rw [vUp_ix (by decide), vUp_ix (by decide), vUp_same]) (by rw [vUp_ix (by decide), vUp_ix (by decide), vUp_ix (by decide), vUp_same]) (by rw [vUp_ix (by decide), vUp_same]) (Or.inl ⟨by omega, by rw [vUp_same]⟩)⟩)
    | (exact v_return hM d_M_advance_317 ⟨rfl, F55.up (F55.up (F55.up hF1 (by omega)) (by omega)) (by omega), RrP_sign (by omega) u72 u190 (by rw [vUp_ix (by decide), vUp_ix (by decide), vUp_same]) (by rw [vUp_ix (by decide), vUp_ix (by decide), vUp_ix (by decide), vUp_same]) (by rw [vUp_ix (by decide), vUp_same]) (Or.inr ⟨by omega, by rw [vUp_same]⟩)⟩)

theorem c_M_advance_0 {T : vSh} {σ : vMem} {cx : vCx} {p L : Int} {b : Int → Int} (hR : RC σ b L) (hp : 0 ≤ p ∧ p ≤ 500) (hM : vM cx 0 0 none (rP (S0 ++ T) (fun _ σ2 => F55 σ σ2 ∧ RrP b p (σ2 55)))) : ∀ (n : Nat) (e : Int) (σ1 : vMem), 500 - e < (n : Int) → (0 ≤ e ∧ e ≤ 500) → (rn b qB e = whF b p) → σ1 55 4 = e → F55 σ σ1 → vV cx y_M_advance.cls prog_14_method_49_code 4 4 0 0 0 0 0 [some (.ref 55), none, none, none] [] (S0 ++ T) σ1 := by
  intro n
  induction n with
  | zero =>
    intro e σ1 hn h1 hwe h4 hF
    omega
  | succ n ih =>
    intro e σ1 hn h1 hwe h4 hF
    have hR1 := hF.rc hR
    have bL := hR.2.1.1
    have hw := whF_rng b hp.2
    have hbe : -1 ≤ b e ∧ b e ≤ 255 := okB_rng hR.2.1 (by omega)
    have hlt : 0 ≤ b e → e < L := okB_lt hR.2.1
    refine v_aload0 d_M_advance_0 ?_
    refine v_aload0 d_M_advance_1 ?_
    refine v_getJ (ji := 4) d_M_advance_2 f_M_157 (sh_55 T) rfl rfl (fun g2 => ?_)
    rw [h4]
    refine v_fVI1 d_M_advance_5 l_M_160 k_M_byteAt (c_M_byteAt hR1 (by omega) (by omega)) (sh_55 T) rfl (by decide) (by decide) (Nat.le_of_ble_eq_true rfl) (Nat.zero_le _) (Nat.zero_le _) (fun g5 => ?_)
    refine v_bipush d_M_advance_8 rfl ?_
    refine v_icmp_eq d_M_advance_10 (by omega) (by omega) (fun u10 => ?_) (fun u10 => ?_)
    · refine v_aload0 d_M_advance_26 ?_
      refine v_dup d_M_advance_27 rfl ?_
      refine v_getJ (ji := 4) d_M_advance_28 f_M_157 (sh_55 T) rfl rfl (fun g28 => ?_)
      rw [h4]
      refine v_iconst d_M_advance_31 ?_
      refine v_iadd d_M_advance_32 ?_
      refine v_putJ (ji := 4) d_M_advance_33 p_M_157 (sh_55 T) rfl rfl (by omega) ?_
      refine v_goto d_M_advance_36 ?_
      exact ih (e + 1) _ (by omega) (by omega) (by rw [← rn_step (by omega) (Or.inl u10)]; exact hwe) (by rw [vUp_same]) (F55.up hF (by omega))
    · refine v_aload0 d_M_advance_13 ?_
      refine v_aload0 d_M_advance_14 ?_
      refine v_getJ (ji := 4) d_M_advance_15 f_M_157 (sh_55 T) rfl rfl (fun g15 => ?_)
      rw [h4]
      refine v_fVI1 d_M_advance_18 l_M_160 k_M_byteAt (c_M_byteAt hR1 (by omega) (by omega)) (sh_55 T) rfl (by decide) (by decide) (Nat.le_of_ble_eq_true rfl) (Nat.zero_le _) (Nat.zero_le _) (fun g18 => ?_)
      refine v_bipush d_M_advance_21 rfl ?_
      refine v_icmp_ne d_M_advance_23 (by omega) (by omega) (fun u23 => ?_) (fun u23 => ?_)
      · exact c_M_advance_39 hR hp hM (by rw [h4, ← hwe, rn_stop (fun h => by omega)]) hF
      · refine v_aload0 d_M_advance_26 ?_
        refine v_dup d_M_advance_27 rfl ?_
        refine v_getJ (ji := 4) d_M_advance_28 f_M_157 (sh_55 T) rfl rfl (fun g28 => ?_)
        rw [h4]
        refine v_iconst d_M_advance_31 ?_
        refine v_iadd d_M_advance_32 ?_
        refine v_putJ (ji := 4) d_M_advance_33 p_M_157 (sh_55 T) rfl rfl (by omega) ?_
        refine v_goto d_M_advance_36 ?_
        exact ih (e + 1) _ (by omega) (by omega) (by rw [← rn_step (by omega) (Or.inr u23)]; exact hwe) (by rw [vUp_same]) (F55.up hF (by omega))

theorem c_M_advance {T : vSh} {σ : vMem} {p L : Int} {b : Int → Int} (hR : RC σ b L) (hp : 0 ≤ p ∧ p ≤ 500) (h4 : σ 55 4 = p) : mt_M_advance [.ref 55] (S0 ++ T) σ (rP (S0 ++ T) (fun _ σ2 => F55 σ σ2 ∧ RrP b p (σ2 55))) := by
  refine vMet.intro 3 (by decide +kernel) (Nat.le_of_ble_eq_true rfl) rfl (fun cx hM _ => ?_)
  exact c_M_advance_0 hR hp hM 501 p σ (by omega) hp rfl h4 F55.rfl'

