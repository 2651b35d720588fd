theorem c_M_worthOf {T : vSh} {σ : vMem} {A : Int → Int} (hA : σ 56 = A) (hO : okA A) {i : Int} (h0 : 0 ≤ i ∧ i < A 6) : mt_M_worthOf [.ref 55, .int (iI i)] (S0 ++ T) σ (rF (S0 ++ T) σ (valW A i)) := by
  refine vMet.intro 2 (by decide +kernel) (Nat.le_of_ble_eq_true rfl) rfl (fun cx hM _ => ?_)
  obtain ⟨⟨q0, q1, q2, q3, q4, q5, q6, q7⟩, hVi, hWe, hCo, hOf, hBo, hWo, hMo, hRe, hLi, hTa⟩ := id hO
  have hwo := hWo i (by omega) (by omega)
  have hco := hCo (A (930 + 5 * i + 1)) (A (930 + 5 * i + 2)) (by omega) (by omega) (by omega) (by omega)
  refine v_aload0 d_M_worthOf_0 ?_
  refine v_aload0 d_M_worthOf_1 ?_
  refine v_iload1 d_M_worthOf_2 ?_
  refine v_iconst d_M_worthOf_3 ?_
  refine v_fVI2 d_M_worthOf_4 l_M_311 k_M_said (c_M_said hA (by omega)) (sh_55 T) rfl (by decide) (by decide) (Nat.le_of_ble_eq_true rfl) (Nat.zero_le _) (Nat.zero_le _) (fun g4 => ?_)
  refine v_aload0 d_M_worthOf_7 ?_
  refine v_iload1 d_M_worthOf_8 ?_
  refine v_iconst d_M_worthOf_9 ?_
  refine v_fVI2 d_M_worthOf_10 l_M_311 k_M_said (c_M_said hA (by omega)) (sh_55 T) rfl (by decide) (by decide) (Nat.le_of_ble_eq_true rfl) (Nat.zero_le _) (Nat.zero_le _) (fun g10 => ?_)
  refine v_fVI2 d_M_worthOf_13 l_M_80 k_M_comeOf (c_M_comeOf hA (by omega)) (sh_55 T) rfl (by decide) (by decide) (Nat.le_of_ble_eq_true rfl) (Nat.zero_le _) (Nat.zero_le _) (fun g13 => ?_)
  refine v_istore2 d_M_worthOf_16 (by decide) rfl ?_
  refine v_iload2 d_M_worthOf_17 ?_
  refine v_if_ne d_M_worthOf_18 (by omega) (fun u18 => ?_) (fun u18 => ?_)
  · refine v_bipush d_M_worthOf_37 rfl ?_
    refine v_aload0 d_M_worthOf_39 ?_
    refine v_iload1 d_M_worthOf_40 ?_
    refine v_iconst d_M_worthOf_41 ?_
    refine v_fVI2 d_M_worthOf_42 l_M_311 k_M_said (c_M_said hA (by omega)) (sh_55 T) rfl (by decide) (by decide) (Nat.le_of_ble_eq_true rfl) (Nat.zero_le _) (Nat.zero_le _) (fun g42 => ?_)
    refine v_iload2 d_M_worthOf_45 ?_
    refine v_fSI2 d_M_worthOf_46 l_M_255 k_M_far (c_M_farI (by omega) (by omega) (by omega) (by omega)) (by decide) (by decide) (Nat.le_of_ble_eq_true rfl) (Nat.zero_le _) (Nat.zero_le _) (fun g46 => ?_)
    have hfr := farI_rng (a := A (930 + 5 * i + 3)) (b := A (120 + 20 * A (930 + 5 * i + 1) + A (930 + 5 * i + 2))) (m := 15000) (by omega) (by omega)
    have hdv := div_bnd (a := 10 * farI (A (930 + 5 * i + 3)) (A (120 + 20 * A (930 + 5 * i + 1) + A (930 + 5 * i + 2)))) (b := A (120 + 20 * A (930 + 5 * i + 1) + A (930 + 5 * i + 2))) (m := 150000) (by omega) (by omega)
    refine v_imul d_M_worthOf_49 ?_
    refine v_iload2 d_M_worthOf_50 ?_
    refine v_idiv d_M_worthOf_51 (by omega) (by omega) ?_
    refine v_istore3 d_M_worthOf_52 (by decide) rfl ?_
    refine v_iload3 d_M_worthOf_53 ?_
    refine v_iconst d_M_worthOf_54 ?_
    refine v_icmp_lt d_M_worthOf_55 (by omega) (by omega) (fun u55 => ?_) (fun u55 => ?_)
    · refine v_bipush d_M_worthOf_62 rfl ?_
      refine v_bipush d_M_worthOf_64 rfl ?_
      refine v_iload3 d_M_worthOf_66 ?_
      refine v_imul d_M_worthOf_67 ?_
      refine v_isub d_M_worthOf_68 ?_
      exact v_ireturn hM d_M_worthOf_69 (by omega) ⟨rfl, rfl, by rw [valW, valF]; first | rw [if_pos (by omega), if_pos (by omega)] | rw [if_pos (by omega), if_neg (by omega)] | rw [if_neg (by omega), if_pos (by omega)] | rw [if_neg (by omega), if_neg (by omega)]⟩
    · refine v_iconst d_M_worthOf_58 ?_
      refine v_goto d_M_worthOf_59 ?_
      exact v_ireturn hM d_M_worthOf_69 (by omega) ⟨rfl, rfl, by rw [valW, valF]; first | rw [if_pos (by omega), if_pos (by omega)] | rw [if_pos (by omega), if_neg (by omega)] | rw [if_neg (by omega), if_pos (by omega)] | rw [if_neg (by omega), if_neg (by omega)]⟩
  · refine v_aload0 d_M_worthOf_21 ?_
    refine v_iload1 d_M_worthOf_22 ?_
    refine v_iconst d_M_worthOf_23 ?_
    refine v_fVI2 d_M_worthOf_24 l_M_311 k_M_said (c_M_said hA (by omega)) (sh_55 T) rfl (by decide) (by decide) (Nat.le_of_ble_eq_true rfl) (Nat.zero_le _) (Nat.zero_le _) (fun g24 => ?_)
    refine v_if_ne d_M_worthOf_27 (by omega) (fun u27 => ?_) (fun u27 => ?_)
    · refine v_iconst d_M_worthOf_35 ?_
      exact v_ireturn hM d_M_worthOf_36 (by omega) ⟨rfl, rfl, by rw [valW, valF]; first | rw [if_pos (by omega), if_pos (by omega)] | rw [if_pos (by omega), if_neg (by omega)] | rw [if_neg (by omega), if_pos (by omega)] | rw [if_neg (by omega), if_neg (by omega)]⟩
    · refine v_bipush d_M_worthOf_30 rfl ?_
      refine v_goto d_M_worthOf_32 ?_
      exact v_ireturn hM d_M_worthOf_36 (by omega) ⟨rfl, rfl, by rw [valW, valF]; first | rw [if_pos (by omega), if_pos (by omega)] | rw [if_pos (by omega), if_neg (by omega)] | rw [if_neg (by omega), if_pos (by omega)] | rw [if_neg (by omega), if_neg (by omega)]⟩

theorem c_M_trustOf_8 {T : vSh} {σ : vMem} {cx : vCx} {A : Int → Int} (hA : σ 56 = A) (hO : okA A) {w k : Int} (h0 : vIn w) (h1 : vIn k) (hM : vM cx 0 0 (some .int) (rF (S0 ++ T) σ (trF A w k))) : ∀ (n j : Nat) (sum m i : Int), (j : Int) + n = A 6 → i = j → sum = (trS A w k j).1 → m = (trS A w k j).2 → vV cx y_M_trustOf.cls prog_14_method_95_code 6 2 0 0 0 0 8 [some (.ref 55), some (.int (iI w)), some (.int (iI k)), some (.int (iI sum)), some (.int (iI m)), some (.int (iI i))] [] (S0 ++ T) σ := by
  intro n
  induction n with
  | zero =>
    intro j sum m i hj hi hs hm
    obtain ⟨⟨q0, q1, q2, q3, q4, q5, q6, q7⟩, hVi, hWe, hCo, hOf, hBo, hWo, hMo, hRe, hLi, hTa⟩ := id hO
    have htr := trS_rng hO w k j (by omega)
    refine v_iload5 d_M_trustOf_8 ?_
    refine v_aload0 d_M_trustOf_10 ?_
    refine v_getR d_M_trustOf_11 f_M_7 (sh_55 T) rfl ?_
    refine v_bipush d_M_trustOf_14 rfl ?_
    refine v_ialoadE hA d_M_trustOf_16 (sh_56 T) (by omega) (fun g16 => ?_)
    refine v_icmp_ge d_M_trustOf_17 (by omega) (by omega) (fun u17 => ?_) (fun u17 => ?_)
    · refine v_iload4 d_M_trustOf_79 ?_
      refine v_if_ne d_M_trustOf_81 (by omega) (fun u81 => ?_) (fun u81 => ?_)
      · refine v_iload3 d_M_trustOf_89 ?_
        refine v_iload4 d_M_trustOf_90 ?_
        refine v_idiv d_M_trustOf_92 (by omega) (by omega) ?_
        first
        | (exact v_ireturn hM d_M_trustOf_93 (by omega) ⟨rfl, rfl, by rw [trF, show (A 6).toNat = j by omega, ← hm, ← hs, if_pos (by omega)]⟩)
        | (have hdv := div_hund (a := sum) (b := m) (by omega) (by omega)
           exact v_ireturn hM d_M_trustOf_93 (by omega) ⟨rfl, rfl, by rw [trF, show (A 6).toNat = j by omega, ← hm, ← hs, if_neg (by omega)]⟩)
      · refine v_bipush d_M_trustOf_84 rfl ?_
        refine v_goto d_M_trustOf_86 ?_
        first
        | (exact v_ireturn hM d_M_trustOf_93 (by omega) ⟨rfl, rfl, by rw [trF, show (A 6).toNat = j by omega, ← hm, ← hs, if_pos (by omega)]⟩)
        | (have hdv := div_hund (a := sum) (b := m) (by omega) (by omega)
           exact v_ireturn hM d_M_trustOf_93 (by omega) ⟨rfl, rfl, by rw [trF, show (A 6).toNat = j by omega, ← hm, ← hs, if_neg (by omega)]⟩)
    · omega
  | succ n ih =>
    intro j sum m i hj hi hs hm
    obtain ⟨⟨q0, q1, q2, q3, q4, q5, q6, q7⟩, hVi, hWe, hCo, hOf, hBo, hWo, hMo, hRe, hLi, hTa⟩ := id hO
    have htr := trS_rng hO w k j (by omega)
    have hwo := hWo i (by omega) (by omega)
    have hvw := valW_rng hO (i := i) (by omega)
    refine v_iload5 d_M_trustOf_8 ?_
    refine v_aload0 d_M_trustOf_10 ?_
    refine v_getR d_M_trustOf_11 f_M_7 (sh_55 T) rfl ?_
    refine v_bipush d_M_trustOf_14 rfl ?_
    refine v_ialoadE hA d_M_trustOf_16 (sh_56 T) (by omega) (fun g16 => ?_)
    refine v_icmp_ge d_M_trustOf_17 (by omega) (by omega) (fun u17 => ?_) (fun u17 => ?_)
    · omega
    · refine v_aload0 d_M_trustOf_20 ?_
      refine v_iload5 d_M_trustOf_21 ?_
      refine v_iconst d_M_trustOf_23 ?_
      refine v_fVI2 d_M_trustOf_24 l_M_311 k_M_said (c_M_said hA (by omega)) (sh_55 T) rfl (by decide) (by decide) (Nat.le_of_ble_eq_true rfl) (Nat.zero_le _) (Nat.zero_le _) (fun g24 => ?_)
      refine v_iload1 d_M_trustOf_27 ?_
      refine v_icmp_ne d_M_trustOf_28 (by omega) (by omega) (fun u28 => ?_) (fun u28 => ?_)
      · refine v_iinc5 d_M_trustOf_73 (by decide) rfl ?_
        refine v_goto d_M_trustOf_76 ?_
        first
        | (have e9 : trS A w k (j + 1) = trS A w k j := by rw [trS, ← hi, if_neg (by omega)]
           exact ih (j + 1) _ _ _ (by omega) (by omega) (by rw [e9]; exact hs) (by rw [e9]; exact hm))
        | (have e9 : trS A w k (j + 1) = (sum + valW A i, m + 1) := by rw [trS, ← hi, if_pos (by omega), ← hs, ← hm]
           exact ih (j + 1) _ _ _ (by omega) (by omega) (by rw [e9]) (by rw [e9]))
      · refine v_aload0 d_M_trustOf_31 ?_
        refine v_iload5 d_M_trustOf_32 ?_
        refine v_iconst d_M_trustOf_34 ?_
        refine v_fVI2 d_M_trustOf_35 l_M_311 k_M_said (c_M_said hA (by omega)) (sh_55 T) rfl (by decide) (by decide) (Nat.le_of_ble_eq_true rfl) (Nat.zero_le _) (Nat.zero_le _) (fun g35 => ?_)
        refine v_iload2 d_M_trustOf_38 ?_
        refine v_icmp_gt d_M_trustOf_39 (by omega) (by omega) (fun u39 => ?_) (fun u39 => ?_)
        · refine v_iinc5 d_M_trustOf_73 (by decide) rfl ?_
          refine v_goto d_M_trustOf_76 ?_
          first
          | (have e9 : trS A w k (j + 1) = trS A w k j := by rw [trS, ← hi, if_neg (by omega)]
             exact ih (j + 1) _ _ _ (by omega) (by omega) (by rw [e9]; exact hs) (by rw [e9]; exact hm))
          | (have e9 : trS A w k (j + 1) = (sum + valW A i, m + 1) := by rw [trS, ← hi, if_pos (by omega), ← hs, ← hm]
             exact ih (j + 1) _ _ _ (by omega) (by omega) (by rw [e9]) (by rw [e9]))
        · refine v_bipush d_M_trustOf_42 rfl ?_
          refine v_aload0 d_M_trustOf_44 ?_
          refine v_iload5 d_M_trustOf_45 ?_
          refine v_iconst d_M_trustOf_47 ?_
          refine v_fVI2 d_M_trustOf_48 l_M_311 k_M_said (c_M_said hA (by omega)) (sh_55 T) rfl (by decide) (by decide) (Nat.le_of_ble_eq_true rfl) (Nat.zero_le _) (Nat.zero_le _) (fun g48 => ?_)
          refine v_iconst d_M_trustOf_51 ?_
          refine v_iadd d_M_trustOf_52 ?_
          refine v_imul d_M_trustOf_53 ?_
          refine v_iload2 d_M_trustOf_54 ?_
          refine v_icmp_le d_M_trustOf_55 (by omega) (by omega) (fun u55 => ?_) (fun u55 => ?_)
          · refine v_iload3 d_M_trustOf_61 ?_
            refine v_aload0 d_M_trustOf_62 ?_
            refine v_iload5 d_M_trustOf_63 ?_
            refine v_fVI1 d_M_trustOf_65 l_M_314 k_M_worthOf (c_M_worthOf hA hO (by omega)) (sh_55 T) rfl (by decide) (by decide) (Nat.le_of_ble_eq_true rfl) (Nat.zero_le _) (Nat.zero_le _) (fun g65 => ?_)
            refine v_iadd d_M_trustOf_68 ?_
            refine v_istore3 d_M_trustOf_69 (by decide) rfl ?_
            refine v_iinc4 d_M_trustOf_70 (by decide) rfl ?_
            refine v_iinc5 d_M_trustOf_73 (by decide) rfl ?_
            refine v_goto d_M_trustOf_76 ?_
            first
            | (have e9 : trS A w k (j + 1) = trS A w k j := by rw [trS, ← hi, if_neg (by omega)]
               exact ih (j + 1) _ _ _ (by omega) (by omega) (by rw [e9]; exact hs) (by rw [e9]; exact hm))
            | (have e9 : trS A w k (j + 1) = (sum + valW A i, m + 1) := by rw [trS, ← hi, if_pos (by omega), ← hs, ← hm]
               exact ih (j + 1) _ _ _ (by omega) (by omega) (by rw [e9]) (by rw [e9]))
          · refine v_goto d_M_trustOf_58 ?_
            refine v_iinc5 d_M_trustOf_73 (by decide) rfl ?_
            refine v_goto d_M_trustOf_76 ?_
            first
            | (have e9 : trS A w k (j + 1) = trS A w k j := by rw [trS, ← hi, if_neg (by omega)]
               exact ih (j + 1) _ _ _ (by omega) (by omega) (by rw [e9]; exact hs) (by rw [e9]; exact hm))
            | (have e9 : trS A w k (j + 1) = (sum + valW A i, m + 1) := by rw [trS, ← hi, if_pos (by omega), ← hs, ← hm]
               exact ih (j + 1) _ _ _ (by omega) (by omega) (by rw [e9]) (by rw [e9]))

theorem c_M_trustOf {T : vSh} {σ : vMem} {A : Int → Int} (hA : σ 56 = A) (hO : okA A) {w k : Int} (h0 : vIn w) (h1 : vIn k) : mt_M_trustOf [.ref 55, .int (iI w), .int (iI k)] (S0 ++ T) σ (rF (S0 ++ T) σ (trF A w k)) := by
  refine vMet.intro 3 (by decide +kernel) (Nat.le_of_ble_eq_true rfl) rfl (fun cx hM _ => ?_)
  obtain ⟨⟨q0, q1, q2, q3, q4, q5, q6, q7⟩, hVi, hWe, hCo, hOf, hBo, hWo, hMo, hRe, hLi, hTa⟩ := id hO
  refine v_iconst d_M_trustOf_0 ?_
  refine v_istore3 d_M_trustOf_1 (by decide) rfl ?_
  refine v_iconst d_M_trustOf_2 ?_
  refine v_istore4 d_M_trustOf_3 (by decide) rfl ?_
  refine v_iconst d_M_trustOf_5 ?_
  refine v_istore5 d_M_trustOf_6 (by decide) rfl ?_
  exact c_M_trustOf_8 hA hO h0 h1 hM (A 6).toNat 0 _ _ _ (by omega) rfl rfl rfl

theorem c_M_trust {T : vSh} {σ : vMem} {A : Int → Int} (hA : σ 56 = A) (hO : okA A) {w k : Int} (h0 : vIn w) (h1 : vIn k) : mt_M_trust [.ref 55, .int (iI w), .int (iI k)] (S0 ++ T) σ (rF (S0 ++ T) σ (rTrust A w k)) := by
  refine vMet.intro 0 (by decide +kernel) (Nat.le_of_ble_eq_true rfl) rfl (fun cx hM _ => ?_)
  obtain ⟨⟨q0, q1, q2, q3, q4, q5, q6, q7⟩, hVi, hWe, hCo, hOf, hBo, hWo, hMo, hRe, hLi, hTa⟩ := id hO
  refine v_iload1 d_M_trust_0 ?_
  refine v_iconst d_M_trust_1 ?_
  refine v_iconst d_M_trust_2 ?_
  refine v_fSZ3 d_M_trust_3 l_M_56 k_M_isIn (c_M_isIn (by omega) (by omega) (by omega)) (by decide) (by decide) (Nat.le_of_ble_eq_true rfl) (Nat.zero_le _) (Nat.zero_le _) (fun g3 => ?_)
  refine v_ifb_eq d_M_trust_6 (fun u6 => ?_) (fun u6 => ?_)
  · refine v_iconst d_M_trust_26 ?_
    first
    | (exact v_ireturn hM d_M_trust_27 g20 ⟨rfl, rfl, by rw [rTrust, if_pos (by omega)]⟩)
    | (exact v_ireturn hM d_M_trust_27 (by omega) ⟨rfl, rfl, by rw [rTrust, if_neg (by omega)]⟩)
  · refine v_aload0 d_M_trust_9 ?_
    refine v_iload2 d_M_trust_10 ?_
    refine v_fVZ1 d_M_trust_11 l_M_116 k_M_isKnown (c_M_isKnown hA (by omega)) (sh_55 T) rfl (by decide) (by decide) (Nat.le_of_ble_eq_true rfl) (Nat.zero_le _) (Nat.zero_le _) (fun g11 => ?_)
    refine v_ifb_eq d_M_trust_14 (fun u14 => ?_) (fun u14 => ?_)
    · refine v_iconst d_M_trust_26 ?_
      first
      | (exact v_ireturn hM d_M_trust_27 g20 ⟨rfl, rfl, by rw [rTrust, if_pos (by omega)]⟩)
      | (exact v_ireturn hM d_M_trust_27 (by omega) ⟨rfl, rfl, by rw [rTrust, if_neg (by omega)]⟩)
    · refine v_aload0 d_M_trust_17 ?_
      refine v_iload1 d_M_trust_18 ?_
      refine v_iload2 d_M_trust_19 ?_
      refine v_fVI2 d_M_trust_20 l_M_317 k_M_trustOf (c_M_trustOf hA hO (by omega) (by omega)) (sh_55 T) rfl (by decide) (by decide) (Nat.le_of_ble_eq_true rfl) (Nat.zero_le _) (Nat.zero_le _) (fun g20 => ?_)
      refine v_goto d_M_trust_23 ?_
      first
      | (exact v_ireturn hM d_M_trust_27 g20 ⟨rfl, rfl, by rw [rTrust, if_pos (by omega)]⟩)
      | (exact v_ireturn hM d_M_trust_27 (by omega) ⟨rfl, rfl, by rw [rTrust, if_neg (by omega)]⟩)

theorem c_M_isAsked {T : vSh} {σ : vMem} {A : Int → Int} (hA : σ 56 = A) (hO : okA A) {v s k : Int} (h0 : vIn v) (h1 : vIn s) (h2 : vIn k) : mt_M_isAsked [.ref 55, .int (iI v), .int (iI s), .int (iI k)] (S0 ++ T) σ (rF (S0 ++ T) σ (b01 (askP A v s k))) := by
  refine vMet.intro 0 (by decide +kernel) (Nat.le_of_ble_eq_true rfl) rfl (fun cx hM _ => ?_)
  obtain ⟨⟨q0, q1, q2, q3, q4, q5, q6, q7⟩, hVi, hWe, hCo, hOf, hBo, hWo, hMo, hRe, hLi, hTa⟩ := id hO
  refine v_aload0 d_M_isAsked_0 ?_
  refine v_iload1 d_M_isAsked_1 ?_
  refine v_iconst d_M_isAsked_2 ?_
  refine v_fVZ2 d_M_isAsked_3 l_M_64 k_M_isOf (c_M_isOf hA (by omega) (by omega) (by omega)) (sh_55 T) rfl (by decide) (by decide) (Nat.le_of_ble_eq_true rfl) (Nat.zero_le _) (Nat.zero_le _) (fun g3 => ?_)
  refine v_ifb_eq d_M_isAsked_6 (fun u6 => ?_) (fun u6 => ?_)
  · refine v_iconst d_M_isAsked_28 ?_
    first | exact v_zreturn hM d_M_isAsked_29 (Or.inr rfl) ⟨rfl, rfl, b01_1 (by omega)⟩ | exact v_zreturn hM d_M_isAsked_29 (Or.inl rfl) ⟨rfl, rfl, b01_0 (by omega)⟩ | exact v_zreturn hM d_M_isAsked_29 b01_or ⟨rfl, rfl, rfl⟩
  · refine v_iload2 d_M_isAsked_9 ?_
    refine v_fSZ1 d_M_isAsked_10 l_M_248 k_M_isSeason (c_M_isSeason (by omega)) (by decide) (by decide) (Nat.le_of_ble_eq_true rfl) (Nat.zero_le _) (Nat.zero_le _) (fun g10 => ?_)
    refine v_ifb_eq d_M_isAsked_13 (fun u13 => ?_) (fun u13 => ?_)
    · refine v_iconst d_M_isAsked_28 ?_
      first | exact v_zreturn hM d_M_isAsked_29 (Or.inr rfl) ⟨rfl, rfl, b01_1 (by omega)⟩ | exact v_zreturn hM d_M_isAsked_29 (Or.inl rfl) ⟨rfl, rfl, b01_0 (by omega)⟩ | exact v_zreturn hM d_M_isAsked_29 b01_or ⟨rfl, rfl, rfl⟩
    · refine v_aload0 d_M_isAsked_16 ?_
      refine v_iload3 d_M_isAsked_17 ?_
      refine v_fVZ1 d_M_isAsked_18 l_M_116 k_M_isKnown (c_M_isKnown hA (by omega)) (sh_55 T) rfl (by decide) (by decide) (Nat.le_of_ble_eq_true rfl) (Nat.zero_le _) (Nat.zero_le _) (fun g18 => ?_)
      refine v_ifb_eq d_M_isAsked_21 (fun u21 => ?_) (fun u21 => ?_)
      · refine v_iconst d_M_isAsked_28 ?_
        first | exact v_zreturn hM d_M_isAsked_29 (Or.inr rfl) ⟨rfl, rfl, b01_1 (by omega)⟩ | exact v_zreturn hM d_M_isAsked_29 (Or.inl rfl) ⟨rfl, rfl, b01_0 (by omega)⟩ | exact v_zreturn hM d_M_isAsked_29 b01_or ⟨rfl, rfl, rfl⟩
      · refine v_iconst d_M_isAsked_24 ?_
        refine v_goto d_M_isAsked_25 ?_
        first | exact v_zreturn hM d_M_isAsked_29 (Or.inr rfl) ⟨rfl, rfl, b01_1 (by omega)⟩ | exact v_zreturn hM d_M_isAsked_29 (Or.inl rfl) ⟨rfl, rfl, b01_0 (by omega)⟩ | exact v_zreturn hM d_M_isAsked_29 b01_or ⟨rfl, rfl, rfl⟩

theorem c_M_famine {T : vSh} {σ : vMem} {A : Int → Int} (hA : σ 56 = A) (hO : okA A) {v s k : Int} (h0 : vIn v) (h1 : vIn s) (h2 : vIn k) : mt_M_famine [.ref 55, .int (iI v), .int (iI s), .int (iI k)] (S0 ++ T) σ (rF (S0 ++ T) σ (b01 (askP A v s k ∧ famP A v s k))) := by
  refine vMet.intro 0 (by decide +kernel) (Nat.le_of_ble_eq_true rfl) rfl (fun cx hM _ => ?_)
  obtain ⟨⟨q0, q1, q2, q3, q4, q5, q6, q7⟩, hVi, hWe, hCo, hOf, hBo, hWo, hMo, hRe, hLi, hTa⟩ := id hO
  refine v_aload0 d_M_famine_0 ?_
  refine v_iload1 d_M_famine_1 ?_
  refine v_iload2 d_M_famine_2 ?_
  refine v_iload3 d_M_famine_3 ?_
  refine v_fVZ3 d_M_famine_4 l_M_320 k_M_isAsked (c_M_isAsked hA hO (by omega) (by omega) (by omega)) (sh_55 T) rfl (by decide) (by decide) (Nat.le_of_ble_eq_true rfl) (Nat.zero_le _) (Nat.zero_le _) (fun g4 => ?_)
  refine v_ifb_eq d_M_famine_7 (fun u7 => ?_) (fun u7 => ?_)
  · refine v_iconst d_M_famine_24 ?_
    first | exact v_zreturn hM d_M_famine_25 (Or.inr rfl) ⟨rfl, rfl, b01_1 (by omega)⟩ | exact v_zreturn hM d_M_famine_25 (Or.inl rfl) ⟨rfl, rfl, b01_0 (by omega)⟩ | exact v_zreturn hM d_M_famine_25 b01_or ⟨rfl, rfl, rfl⟩
  · refine v_aload0 d_M_famine_10 ?_
    refine v_iload1 d_M_famine_11 ?_
    refine v_iload2 d_M_famine_12 ?_
    refine v_iload3 d_M_famine_13 ?_
    refine v_fVZ3 d_M_famine_14 l_M_229 k_M_isFamine (c_M_isFamine hA hO (by omega) (by omega) (by omega)) (sh_55 T) rfl (by decide) (by decide) (Nat.le_of_ble_eq_true rfl) (Nat.zero_le _) (Nat.zero_le _) (fun g14 => ?_)
    refine v_ifb_eq d_M_famine_17 (fun u17 => ?_) (fun u17 => ?_)
    · refine v_iconst d_M_famine_24 ?_
      first | exact v_zreturn hM d_M_famine_25 (Or.inr rfl) ⟨rfl, rfl, b01_1 (by omega)⟩ | exact v_zreturn hM d_M_famine_25 (Or.inl rfl) ⟨rfl, rfl, b01_0 (by omega)⟩ | exact v_zreturn hM d_M_famine_25 b01_or ⟨rfl, rfl, rfl⟩
    · refine v_iconst d_M_famine_20 ?_
      refine v_goto d_M_famine_21 ?_
      first | exact v_zreturn hM d_M_famine_25 (Or.inr rfl) ⟨rfl, rfl, b01_1 (by omega)⟩ | exact v_zreturn hM d_M_famine_25 (Or.inl rfl) ⟨rfl, rfl, b01_0 (by omega)⟩ | exact v_zreturn hM d_M_famine_25 b01_or ⟨rfl, rfl, rfl⟩

theorem c_M_weighed_21 {T : vSh} {σ : vMem} {cx : vCx} {A : Int → Int} (hA : σ 56 = A) (hO : okA A) {v s k : Int} (h0 : askP A v s k) (hM : vM cx 0 0 (some .int) (rF (S0 ++ T) σ (rWeigh A v s k))) : ∀ (n j : Nat) (sum ws i : Int), (j : Int) + n = 5 → i = j → sum = (wgS A v s k j).1 → ws = (wgS A v s k j).2 → vV cx y_M_weighed.cls prog_14_method_99_code 8 3 0 0 0 0 21 [some (.ref 55), some (.int (iI v)), some (.int (iI s)), some (.int (iI k)), some (.int (iI sum)), some (.int (iI ws)), some (.int (iI i)), none] [] (S0 ++ T) σ := by
  intro n
  induction n with
  | zero =>
    intro j sum ws i hj hi hs hw
    obtain ⟨⟨q0, q1, q2, q3, q4, q5, q6, q7⟩, hVi, hWe, hCo, hOf, hBo, hWo, hMo, hRe, hLi, hTa⟩ := id hO
    have hwr := wgS_rng hO v s k j (by omega)
    refine v_iload6 d_M_weighed_21 ?_
    refine v_iconst d_M_weighed_23 ?_
    refine v_icmp_ge d_M_weighed_24 (by omega) (by omega) (fun u24 => ?_) (fun u24 => ?_)
    · refine v_iload5 d_M_weighed_84 ?_
      refine v_if_ne d_M_weighed_86 (by omega) (fun u86 => ?_) (fun u86 => ?_)
      · refine v_iload4 d_M_weighed_93 ?_
        refine v_iload5 d_M_weighed_95 ?_
        refine v_idiv d_M_weighed_97 (by omega) (by omega) ?_
        first
        | (exact v_ireturn hM d_M_weighed_98 (by omega) ⟨rfl, rfl, by rw [rWeigh, if_pos h0, show 5 = j by omega, ← hw, ← hs, if_pos (by omega)]⟩)
        | (have hdv := div_bnd (a := sum) (b := ws) (m := 5000000) (by omega) (by omega)
           exact v_ireturn hM d_M_weighed_98 (by omega) ⟨rfl, rfl, by rw [rWeigh, if_pos h0, show 5 = j by omega, ← hw, ← hs, if_neg (by omega)]⟩)
      · refine v_iconst d_M_weighed_89 ?_
        refine v_goto d_M_weighed_90 ?_
        first
        | (exact v_ireturn hM d_M_weighed_98 (by omega) ⟨rfl, rfl, by rw [rWeigh, if_pos h0, show 5 = j by omega, ← hw, ← hs, if_pos (by omega)]⟩)
        | (have hdv := div_bnd (a := sum) (b := ws) (m := 5000000) (by omega) (by omega)
           exact v_ireturn hM d_M_weighed_98 (by omega) ⟨rfl, rfl, by rw [rWeigh, if_pos h0, show 5 = j by omega, ← hw, ← hs, if_neg (by omega)]⟩)
    · omega
  | succ n ih =>
    intro j sum ws i hj hi hs hw
    obtain ⟨⟨q0, q1, q2, q3, q4, q5, q6, q7⟩, hVi, hWe, hCo, hOf, hBo, hWo, hMo, hRe, hLi, hTa⟩ := id hO
    have hwr := wgS_rng hO v s k j (by omega)
    have hlr := lastW_rng A i v s k q6.1
    have htf := trF_rng hO i k
    refine v_iload6 d_M_weighed_21 ?_
    refine v_iconst d_M_weighed_23 ?_
    refine v_icmp_ge d_M_weighed_24 (by omega) (by omega) (fun u24 => ?_) (fun u24 => ?_)
    · omega
    · refine v_aload0 d_M_weighed_27 ?_
      refine v_iload6 d_M_weighed_28 ?_
      refine v_iload1 d_M_weighed_30 ?_
      refine v_iload2 d_M_weighed_31 ?_
      refine v_iload3 d_M_weighed_32 ?_
      refine v_fVI4 d_M_weighed_33 l_M_323 k_M_last (c_M_last hA (by omega) (by omega) (by omega) (by omega) (by omega)) (sh_55 T) rfl (by decide) (by decide) (Nat.le_of_ble_eq_true rfl) (Nat.zero_le _) (Nat.zero_le _) (fun g33 => ?_)
      refine v_istore7 d_M_weighed_36 (by decide) rfl ?_
      refine v_iload7 d_M_weighed_38 ?_
      refine v_if_ge d_M_weighed_40 (by omega) (fun u40 => ?_) (fun u40 => ?_)
      · have hw1 := wg_one hO v s k i (by omega)
        refine v_iload4 d_M_weighed_46 ?_
        refine v_aload0 d_M_weighed_48 ?_
        refine v_iload7 d_M_weighed_49 ?_
        refine v_iconst d_M_weighed_51 ?_
        refine v_fVI2 d_M_weighed_52 l_M_311 k_M_said (c_M_said hA (by omega)) (sh_55 T) rfl (by decide) (by decide) (Nat.le_of_ble_eq_true rfl) (Nat.zero_le _) (Nat.zero_le _) (fun g52 => ?_)
        refine v_aload0 d_M_weighed_55 ?_
        refine v_iload6 d_M_weighed_56 ?_
        refine v_iload3 d_M_weighed_58 ?_
        refine v_fVI2 d_M_weighed_59 l_M_317 k_M_trustOf (c_M_trustOf hA hO (by omega) (by omega)) (sh_55 T) rfl (by decide) (by decide) (Nat.le_of_ble_eq_true rfl) (Nat.zero_le _) (Nat.zero_le _) (fun g59 => ?_)
        refine v_imul d_M_weighed_62 ?_
        refine v_iadd d_M_weighed_63 ?_
        refine v_istore4 d_M_weighed_64 (by decide) rfl ?_
        refine v_iload5 d_M_weighed_66 ?_
        refine v_aload0 d_M_weighed_68 ?_
        refine v_iload6 d_M_weighed_69 ?_
        refine v_iload3 d_M_weighed_71 ?_
        refine v_fVI2 d_M_weighed_72 l_M_317 k_M_trustOf (c_M_trustOf hA hO (by omega) (by omega)) (sh_55 T) rfl (by decide) (by decide) (Nat.le_of_ble_eq_true rfl) (Nat.zero_le _) (Nat.zero_le _) (fun g72 => ?_)
        refine v_iadd d_M_weighed_75 ?_
        refine v_istore5 d_M_weighed_76 (by decide) rfl ?_
        refine v_iinc6 d_M_weighed_78 (by decide) rfl ?_
        refine v_goto d_M_weighed_81 ?_
        refine v_drop7 ?_
        first
        | (have e9 : wgS A v s k (j + 1) = wgS A v s k j := by rw [wgS, ← hi, if_pos (by omega)]
           exact ih (j + 1) _ _ _ (by omega) (by omega) (by rw [e9]; exact hs) (by rw [e9]; exact hw))
        | (have e9 : wgS A v s k (j + 1) = (sum + A (930 + 5 * lastW A i v s k + 3) * trF A i k, ws + trF A i k) := by rw [wgS, ← hi, if_neg (by omega), ← hs, ← hw]
           exact ih (j + 1) _ _ _ (by omega) (by omega) (by rw [e9]) (by rw [e9]))
      · refine v_goto d_M_weighed_43 ?_
        refine v_iinc6 d_M_weighed_78 (by decide) rfl ?_
        refine v_goto d_M_weighed_81 ?_
        refine v_drop7 ?_
        first
        | (have e9 : wgS A v s k (j + 1) = wgS A v s k j := by rw [wgS, ← hi, if_pos (by omega)]
           exact ih (j + 1) _ _ _ (by omega) (by omega) (by rw [e9]; exact hs) (by rw [e9]; exact hw))
        | (have e9 : wgS A v s k (j + 1) = (sum + A (930 + 5 * lastW A i v s k + 3) * trF A i k, ws + trF A i k) := by rw [wgS, ← hi, if_neg (by omega), ← hs, ← hw]
           exact ih (j + 1) _ _ _ (by omega) (by omega) (by rw [e9]) (by rw [e9]))

theorem c_M_weighed {T : vSh} {σ : vMem} {A : Int → Int} (hA : σ 56 = A) (hO : okA A) {v s k : Int} (h0 : vIn v) (h1 : vIn s) (h2 : vIn k) : mt_M_weighed [.ref 55, .int (iI v), .int (iI s), .int (iI k)] (S0 ++ T) σ (rF (S0 ++ T) σ (rWeigh A v s k)) := by
  refine vMet.intro 4 (by decide +kernel) (Nat.le_of_ble_eq_true rfl) rfl (fun cx hM _ => ?_)
  obtain ⟨⟨q0, q1, q2, q3, q4, q5, q6, q7⟩, hVi, hWe, hCo, hOf, hBo, hWo, hMo, hRe, hLi, hTa⟩ := id hO
  refine v_aload0 d_M_weighed_0 ?_
  refine v_iload1 d_M_weighed_1 ?_
  refine v_iload2 d_M_weighed_2 ?_
  refine v_iload3 d_M_weighed_3 ?_
  refine v_fVZ3 d_M_weighed_4 l_M_320 k_M_isAsked (c_M_isAsked hA hO (by omega) (by omega) (by omega)) (sh_55 T) rfl (by decide) (by decide) (Nat.le_of_ble_eq_true rfl) (Nat.zero_le _) (Nat.zero_le _) (fun g4 => ?_)
  refine v_ifb_ne d_M_weighed_7 (fun u7 => ?_) (fun u7 => ?_)
  · refine v_iconst d_M_weighed_12 ?_
    refine v_istore4 d_M_weighed_13 (by decide) rfl ?_
    refine v_iconst d_M_weighed_15 ?_
    refine v_istore5 d_M_weighed_16 (by decide) rfl ?_
    refine v_iconst d_M_weighed_18 ?_
    refine v_istore6 d_M_weighed_19 (by decide) rfl ?_
    exact c_M_weighed_21 hA hO (by omega) hM 5 0 _ _ _ (by omega) rfl rfl rfl
  · refine v_iconst d_M_weighed_10 ?_
    exact v_ireturn hM d_M_weighed_11 (by omega) ⟨rfl, rfl, by rw [rWeigh, if_neg (by omega)]⟩

theorem c_M_gives {T : vSh} {σ : vMem} {A : Int → Int} {paper h s p : Int} (hA : σ 56 = A) (hW : 0 ≤ A (20 + s) ∧ A (20 + s) ≤ 200)  (h0 : 0 ≤ paper ∧ paper ≤ 9999) (h1 : 0 ≤ h ∧ h ≤ 100) (h2 : 0 ≤ s ∧ s < 20) (h3 : 0 ≤ p ∧ p ≤ 150) : mt_M_gives [.ref 55, .int (iI paper), .int (iI h), .int (iI s), .int (iI p)] (S0 ++ T) σ (rF (S0 ++ T) σ (cropF paper h (A (20 + s)) p)) := by
  refine vMet.intro 0 (by decide +kernel) (Nat.le_of_ble_eq_true rfl) rfl (fun cx hM _ => ?_)
  have hcr := crop_rng h0 h1 hW h3
  refine v_iload1 d_M_gives_0 ?_
  refine v_iload2 d_M_gives_1 ?_
  refine v_imul d_M_gives_2 ?_
  refine v_bipush d_M_gives_3 rfl ?_
  refine v_idiv d_M_gives_5 (by omega) (by omega) ?_
  refine v_aload0 d_M_gives_6 ?_
  refine v_getR d_M_gives_7 f_M_7 (sh_55 T) rfl ?_
  refine v_bipush d_M_gives_10 rfl ?_
  refine v_iload3 d_M_gives_12 ?_
  refine v_iadd d_M_gives_13 ?_
  refine v_ialoadE hA d_M_gives_14 (sh_56 T) (by omega) (fun g14 => ?_)
  refine v_imul d_M_gives_15 ?_
  refine v_bipush d_M_gives_16 rfl ?_
  refine v_idiv d_M_gives_18 (by omega) (by omega) ?_
  refine v_iload4 d_M_gives_19 ?_
  refine v_imul d_M_gives_21 ?_
  refine v_bipush d_M_gives_22 rfl ?_
  refine v_idiv d_M_gives_24 (by omega) (by omega) ?_
  refine v_iconst d_M_gives_25 ?_
  refine v_idiv d_M_gives_26 (by omega) (by omega) ?_
  exact v_ireturn hM d_M_gives_27 (by omega) ⟨rfl, rfl, rfl⟩

theorem c_M_healthAfter {T : vSh} {σ : vMem} {h p : Int} (h1 : 0 ≤ h ∧ h ≤ 100) (h3 : 0 ≤ p ∧ p ≤ 150) : mt_M_healthAfter [.int (iI h), .int (iI p)] (S0 ++ T) σ (rF (S0 ++ T) σ (hlF h p)) := by
  refine vMet.intro 1 (by decide +kernel) (Nat.le_of_ble_eq_true rfl) rfl (fun cx hM _ => ?_)
  refine v_iload1 d_M_healthAfter_0 ?_
  refine v_bipush d_M_healthAfter_1 rfl ?_
  refine v_icmp_le d_M_healthAfter_3 (by omega) (by omega) (fun u3 => ?_) (fun u3 => ?_)
  · refine v_iload0 d_M_healthAfter_17 ?_
    refine v_iconst d_M_healthAfter_18 ?_
    refine v_iadd d_M_healthAfter_19 ?_
    refine v_istore2 d_M_healthAfter_20 (by decide) rfl ?_
    refine v_iload2 d_M_healthAfter_21 ?_
    refine v_if_ge d_M_healthAfter_22 (by omega) (fun u22 => ?_) (fun u22 => ?_)
    · refine v_iload2 d_M_healthAfter_29 ?_
      refine v_bipush d_M_healthAfter_30 rfl ?_
      refine v_icmp_le d_M_healthAfter_32 (by omega) (by omega) (fun u32 => ?_) (fun u32 => ?_)
      · refine v_iload2 d_M_healthAfter_40 ?_
        first | (exfalso; omega) | exact v_ireturn hM d_M_healthAfter_41 (by omega) ⟨rfl, rfl, by unfold hlF; (first | simp only [if_pos (show 100 < p by omega)] | simp only [if_neg (show ¬ (100 < p) by omega)]); first | rw [if_pos (by omega)] | rw [if_neg (by omega), if_pos (by omega)] | rw [if_neg (by omega), if_neg (by omega)]⟩
      · refine v_bipush d_M_healthAfter_35 rfl ?_
        refine v_goto d_M_healthAfter_37 ?_
        first | (exfalso; omega) | exact v_ireturn hM d_M_healthAfter_41 (by omega) ⟨rfl, rfl, by unfold hlF; (first | simp only [if_pos (show 100 < p by omega)] | simp only [if_neg (show ¬ (100 < p) by omega)]); first | rw [if_pos (by omega)] | rw [if_neg (by omega), if_pos (by omega)] | rw [if_neg (by omega), if_neg (by omega)]⟩
    · refine v_iconst d_M_healthAfter_25 ?_
      refine v_goto d_M_healthAfter_26 ?_
      first | (exfalso; omega) | exact v_ireturn hM d_M_healthAfter_41 (by omega) ⟨rfl, rfl, by unfold hlF; (first | simp only [if_pos (show 100 < p by omega)] | simp only [if_neg (show ¬ (100 < p) by omega)]); first | rw [if_pos (by omega)] | rw [if_neg (by omega), if_pos (by omega)] | rw [if_neg (by omega), if_neg (by omega)]⟩
  · refine v_iload0 d_M_healthAfter_6 ?_
    refine v_iload1 d_M_healthAfter_7 ?_
    refine v_bipush d_M_healthAfter_8 rfl ?_
    refine v_isub d_M_healthAfter_10 ?_
    refine v_iconst d_M_healthAfter_11 ?_
    refine v_idiv d_M_healthAfter_12 (by omega) (by omega) ?_
    refine v_isub d_M_healthAfter_13 ?_
    refine v_goto d_M_healthAfter_14 ?_
    refine v_istore2 d_M_healthAfter_20 (by decide) rfl ?_
    refine v_iload2 d_M_healthAfter_21 ?_
    refine v_if_ge d_M_healthAfter_22 (by omega) (fun u22 => ?_) (fun u22 => ?_)
    · refine v_iload2 d_M_healthAfter_29 ?_
      refine v_bipush d_M_healthAfter_30 rfl ?_
      refine v_icmp_le d_M_healthAfter_32 (by omega) (by omega) (fun u32 => ?_) (fun u32 => ?_)
      · refine v_iload2 d_M_healthAfter_40 ?_
        first | (exfalso; omega) | exact v_ireturn hM d_M_healthAfter_41 (by omega) ⟨rfl, rfl, by unfold hlF; (first | simp only [if_pos (show 100 < p by omega)] | simp only [if_neg (show ¬ (100 < p) by omega)]); first | rw [if_pos (by omega)] | rw [if_neg (by omega), if_pos (by omega)] | rw [if_neg (by omega), if_neg (by omega)]⟩
      · refine v_bipush d_M_healthAfter_35 rfl ?_
        refine v_goto d_M_healthAfter_37 ?_
        first | (exfalso; omega) | exact v_ireturn hM d_M_healthAfter_41 (by omega) ⟨rfl, rfl, by unfold hlF; (first | simp only [if_pos (show 100 < p by omega)] | simp only [if_neg (show ¬ (100 < p) by omega)]); first | rw [if_pos (by omega)] | rw [if_neg (by omega), if_pos (by omega)] | rw [if_neg (by omega), if_neg (by omega)]⟩
    · refine v_iconst d_M_healthAfter_25 ?_
      refine v_goto d_M_healthAfter_26 ?_
      first | (exfalso; omega) | exact v_ireturn hM d_M_healthAfter_41 (by omega) ⟨rfl, rfl, by unfold hlF; (first | simp only [if_pos (show 100 < p by omega)] | simp only [if_neg (show ¬ (100 < p) by omega)]); first | rw [if_pos (by omega)] | rw [if_neg (by omega), if_pos (by omega)] | rw [if_neg (by omega), if_neg (by omega)]⟩

theorem c_M_tried_69 {T : vSh} {σ : vMem} {cx : vCx} {A : Int → Int} (hA : σ 56 = A) (hO : okA A) {paper n0 t s w : Int} (h0 : (1 ≤ paper ∧ paper ≤ 9999) ∧ (1 ≤ n0 ∧ n0 ≤ 20) ∧ (0 ≤ t ∧ t ≤ 20) ∧ (50 ≤ s ∧ s ≤ 150) ∧ 0 ≤ w ∧ w ≤ 2) (hM : vM cx 0 0 (some .int) (rF (S0 ++ T) σ (rTried A paper n0 t s w))) : ∀ (n j : Nat) (h paid cr i : Int), (j : Int) + n = n0 → i = j → h = (triS A paper t s j).1 → paid = (triS A paper t s j).2.1 → cr = (triS A paper t s j).2.2 → vV cx y_M_tried.cls prog_14_method_102_code 13 1 0 0 0 0 69 [some (.ref 55), some (.int (iI paper)), some (.int (iI n0)), some (.int (iI t)), some (.int (iI s)), some (.int (iI w)), some (.int (iI h)), some (.int (iI paid)), some (.int (iI cr)), some (.int (iI i)), none, none, none] [] (S0 ++ T) σ := by
  intro n
  induction n with
  | zero =>
    intro j h paid cr i hj hi hh hp hc
    obtain ⟨⟨q0, q1, q2, q3, q4, q5, q6, q7⟩, hVi, hWe, hCo, hOf, hBo, hWo, hMo, hRe, hLi, hTa⟩ := id hO
    have htr := triS_rng hO (t := t) h0.1 h0.2.2.2.1 j (by omega)
    refine v_iload9 d_M_tried_69 ?_
    refine v_iload2 d_M_tried_71 ?_
    refine v_icmp_ge d_M_tried_72 (by omega) (by omega) (fun u72 => ?_) (fun u72 => ?_)
    · refine v_iload5 d_M_tried_175 ?_
      refine v_if_ne d_M_tried_177 (by omega) (fun u177 => ?_) (fun u177 => ?_)
      · refine v_iload5 d_M_tried_185 ?_
        refine v_iconst d_M_tried_187 ?_
        refine v_icmp_ne d_M_tried_188 (by omega) (by omega) (fun u188 => ?_) (fun u188 => ?_)
        · refine v_iload8 d_M_tried_196 ?_
          exact v_ireturn hM d_M_tried_198 (by omega) ⟨rfl, rfl, by rw [rTried, if_pos h0, show n0.toNat = j by omega]; first | rw [if_pos (by omega), ← hp] | rw [if_neg (by omega), if_pos (by omega), ← hh] | rw [if_neg (by omega), if_neg (by omega), ← hc]⟩
        · refine v_iload6 d_M_tried_191 ?_
          refine v_goto d_M_tried_193 ?_
          exact v_ireturn hM d_M_tried_198 (by omega) ⟨rfl, rfl, by rw [rTried, if_pos h0, show n0.toNat = j by omega]; first | rw [if_pos (by omega), ← hp] | rw [if_neg (by omega), if_pos (by omega), ← hh] | rw [if_neg (by omega), if_neg (by omega), ← hc]⟩
      · refine v_iload7 d_M_tried_180 ?_
        refine v_goto d_M_tried_182 ?_
        exact v_ireturn hM d_M_tried_198 (by omega) ⟨rfl, rfl, by rw [rTried, if_pos h0, show n0.toNat = j by omega]; first | rw [if_pos (by omega), ← hp] | rw [if_neg (by omega), if_pos (by omega), ← hh] | rw [if_neg (by omega), if_neg (by omega), ← hc]⟩
    · omega
  | succ n ih =>
    intro j h paid cr i hj hi hh hp hc
    obtain ⟨⟨q0, q1, q2, q3, q4, q5, q6, q7⟩, hVi, hWe, hCo, hOf, hBo, hWo, hMo, hRe, hLi, hTa⟩ := id hO
    have htr := triS_rng hO (t := t) h0.1 h0.2.2.2.1 j (by omega)
    have hone := tri_one hO (t := t) (i := i) h0.1 h0.2.2.2.1 (h := h) (by omega) (by omega)
    have hwe := hWe i (by omega) (by omega)
    refine v_iload9 d_M_tried_69 ?_
    refine v_iload2 d_M_tried_71 ?_
    refine v_icmp_ge d_M_tried_72 (by omega) (by omega) (fun u72 => ?_) (fun u72 => ?_)
    · omega
    · refine v_iload3 d_M_tried_75 ?_
      refine v_if_le d_M_tried_76 (by omega) (fun u76 => ?_) (fun u76 => ?_)
      · refine v_bipush d_M_tried_94 rfl ?_
        refine v_istore10 d_M_tried_96 (by decide) rfl ?_
        first
        | have hsq : sqF t s i = 100 := if_neg (by omega)
        | have hsq : sqF t s i = s := if_pos (by omega)
        rw [hsq] at hone
        refine v_aload0 d_M_tried_98 ?_
        refine v_iload1 d_M_tried_99 ?_
        refine v_iload6 d_M_tried_100 ?_
        refine v_iload9 d_M_tried_102 ?_
        refine v_iload10 d_M_tried_104 ?_
        refine v_fVI4 d_M_tried_106 l_M_68 k_M_gives (c_M_gives hA (by omega) (by omega) (by omega) (by omega) (by omega)) (sh_55 T) rfl (by decide) (by decide) (Nat.le_of_ble_eq_true rfl) (Nat.zero_le _) (Nat.zero_le _) (fun g106 => ?_)
        refine v_istore11 d_M_tried_109 (by decide) rfl ?_
        refine v_iload3 d_M_tried_111 ?_
        refine v_if_gt d_M_tried_112 (by omega) (fun u112 => ?_) (fun u112 => ?_)
        · refine v_iload11 d_M_tried_128 ?_
          refine v_goto d_M_tried_130 ?_
          refine v_istore12 d_M_tried_141 (by decide) rfl ?_
          first
          | rw [show shF t _ _ = _ from if_pos (by omega)] at hone
          | rw [show shF t _ _ = _ from if_neg (by omega)] at hone
          refine v_iload7 d_M_tried_143 ?_
          refine v_iload12 d_M_tried_145 ?_
          refine v_iadd d_M_tried_147 ?_
          refine v_istore7 d_M_tried_148 (by decide) rfl ?_
          refine v_iload8 d_M_tried_150 ?_
          refine v_iload11 d_M_tried_152 ?_
          refine v_iload12 d_M_tried_154 ?_
          refine v_isub d_M_tried_156 ?_
          refine v_iadd d_M_tried_157 ?_
          refine v_istore8 d_M_tried_158 (by decide) rfl ?_
          refine v_iload6 d_M_tried_160 ?_
          refine v_iload10 d_M_tried_162 ?_
          refine v_fSI2 d_M_tried_164 l_M_72 k_M_healthAfter (c_M_healthAfter (by omega) (by omega)) (by decide) (by decide) (Nat.le_of_ble_eq_true rfl) (Nat.zero_le _) (Nat.zero_le _) (fun g164 => ?_)
          refine v_istore6 d_M_tried_167 (by decide) rfl ?_
          refine v_iinc9 d_M_tried_169 (by decide) rfl ?_
          refine v_goto d_M_tried_172 ?_
          refine v_drop10 ?_
          refine v_drop11 ?_
          refine v_drop12 ?_
          first
          | (exfalso; omega)
          | (have hsh : shF t (cropF paper h (A (20 + i)) 100) (paper * s / 200) = cropF paper h (A (20 + i)) 100 := if_pos (by omega)
             have e9 : triS A paper t s (j + 1) = (hlF h 100, paid + cropF paper h (A (20 + i)) 100, cr + (cropF paper h (A (20 + i)) 100 - cropF paper h (A (20 + i)) 100)) := by rw [triS, ← hi, ← hh, ← hp, ← hc, hsq, hsh]
             exact ih (j + 1) _ _ _ _ (by omega) (by omega) (by rw [e9]) (by rw [e9]) (by rw [e9]))
          | (have hsh : shF t (cropF paper h (A (20 + i)) 100) (paper * s / 200) = paper * s / 200 := if_neg (by omega)
             have e9 : triS A paper t s (j + 1) = (hlF h 100, paid + paper * s / 200, cr + (cropF paper h (A (20 + i)) 100 - paper * s / 200)) := by rw [triS, ← hi, ← hh, ← hp, ← hc, hsq, hsh]
             exact ih (j + 1) _ _ _ _ (by omega) (by omega) (by rw [e9]) (by rw [e9]) (by rw [e9]))
          | (have hsh : shF t (cropF paper h (A (20 + i)) s) (paper * s / 200) = cropF paper h (A (20 + i)) s := if_pos (by omega)
             have e9 : triS A paper t s (j + 1) = (hlF h s, paid + cropF paper h (A (20 + i)) s, cr + (cropF paper h (A (20 + i)) s - cropF paper h (A (20 + i)) s)) := by rw [triS, ← hi, ← hh, ← hp, ← hc, hsq, hsh]
             exact ih (j + 1) _ _ _ _ (by omega) (by omega) (by rw [e9]) (by rw [e9]) (by rw [e9]))
          | (have hsh : shF t (cropF paper h (A (20 + i)) s) (paper * s / 200) = paper * s / 200 := if_neg (by omega)
             have e9 : triS A paper t s (j + 1) = (hlF h s, paid + paper * s / 200, cr + (cropF paper h (A (20 + i)) s - paper * s / 200)) := by rw [triS, ← hi, ← hh, ← hp, ← hc, hsq, hsh]
             exact ih (j + 1) _ _ _ _ (by omega) (by omega) (by rw [e9]) (by rw [e9]) (by rw [e9]))
        · refine v_iload1 d_M_tried_115 ?_
          refine v_iload4 d_M_tried_116 ?_
          refine v_imul d_M_tried_118 ?_
          refine v_sipush d_M_tried_119 rfl ?_
          refine v_idiv d_M_tried_122 (by omega) (by omega) ?_
          refine v_iload11 d_M_tried_123 ?_
          refine v_icmp_le d_M_tried_125 (by omega) (by omega) (fun u125 => ?_) (fun u125 => ?_)
          · refine v_iload1 d_M_tried_133 ?_
            refine v_iload4 d_M_tried_134 ?_
            refine v_imul d_M_tried_136 ?_
            refine v_sipush d_M_tried_137 rfl ?_
            refine v_idiv d_M_tried_140 (by omega) (by omega) ?_
            refine v_istore12 d_M_tried_141 (by decide) rfl ?_
            first
            | rw [show shF t _ _ = _ from if_pos (by omega)] at hone
            | rw [show shF t _ _ = _ from if_neg (by omega)] at hone
            refine v_iload7 d_M_tried_143 ?_
            refine v_iload12 d_M_tried_145 ?_
            refine v_iadd d_M_tried_147 ?_
            refine v_istore7 d_M_tried_148 (by decide) rfl ?_
            refine v_iload8 d_M_tried_150 ?_
            refine v_iload11 d_M_tried_152 ?_
            refine v_iload12 d_M_tried_154 ?_
            refine v_isub d_M_tried_156 ?_
            refine v_iadd d_M_tried_157 ?_
            refine v_istore8 d_M_tried_158 (by decide) rfl ?_
            refine v_iload6 d_M_tried_160 ?_
            refine v_iload10 d_M_tried_162 ?_
            refine v_fSI2 d_M_tried_164 l_M_72 k_M_healthAfter (c_M_healthAfter (by omega) (by omega)) (by decide) (by decide) (Nat.le_of_ble_eq_true rfl) (Nat.zero_le _) (Nat.zero_le _) (fun g164 => ?_)
            refine v_istore6 d_M_tried_167 (by decide) rfl ?_
            refine v_iinc9 d_M_tried_169 (by decide) rfl ?_
            refine v_goto d_M_tried_172 ?_
            refine v_drop10 ?_
            refine v_drop11 ?_
            refine v_drop12 ?_
            first
            | (exfalso; omega)
            | (have hsh : shF t (cropF paper h (A (20 + i)) 100) (paper * s / 200) = cropF paper h (A (20 + i)) 100 := if_pos (by omega)
               have e9 : triS A paper t s (j + 1) = (hlF h 100, paid + cropF paper h (A (20 + i)) 100, cr + (cropF paper h (A (20 + i)) 100 - cropF paper h (A (20 + i)) 100)) := by rw [triS, ← hi, ← hh, ← hp, ← hc, hsq, hsh]
               exact ih (j + 1) _ _ _ _ (by omega) (by omega) (by rw [e9]) (by rw [e9]) (by rw [e9]))
            | (have hsh : shF t (cropF paper h (A (20 + i)) 100) (paper * s / 200) = paper * s / 200 := if_neg (by omega)
               have e9 : triS A paper t s (j + 1) = (hlF h 100, paid + paper * s / 200, cr + (cropF paper h (A (20 + i)) 100 - paper * s / 200)) := by rw [triS, ← hi, ← hh, ← hp, ← hc, hsq, hsh]
               exact ih (j + 1) _ _ _ _ (by omega) (by omega) (by rw [e9]) (by rw [e9]) (by rw [e9]))
            | (have hsh : shF t (cropF paper h (A (20 + i)) s) (paper * s / 200) = cropF paper h (A (20 + i)) s := if_pos (by omega)
               have e9 : triS A paper t s (j + 1) = (hlF h s, paid + cropF paper h (A (20 + i)) s, cr + (cropF paper h (A (20 + i)) s - cropF paper h (A (20 + i)) s)) := by rw [triS, ← hi, ← hh, ← hp, ← hc, hsq, hsh]
               exact ih (j + 1) _ _ _ _ (by omega) (by omega) (by rw [e9]) (by rw [e9]) (by rw [e9]))
            | (have hsh : shF t (cropF paper h (A (20 + i)) s) (paper * s / 200) = paper * s / 200 := if_neg (by omega)
               have e9 : triS A paper t s (j + 1) = (hlF h s, paid + paper * s / 200, cr + (cropF paper h (A (20 + i)) s - paper * s / 200)) := by rw [triS, ← hi, ← hh, ← hp, ← hc, hsq, hsh]
               exact ih (j + 1) _ _ _ _ (by omega) (by omega) (by rw [e9]) (by rw [e9]) (by rw [e9]))
          · refine v_iload11 d_M_tried_128 ?_
            refine v_goto d_M_tried_130 ?_
            refine v_istore12 d_M_tried_141 (by decide) rfl ?_
            first
            | rw [show shF t _ _ = _ from if_pos (by omega)] at hone
            | rw [show shF t _ _ = _ from if_neg (by omega)] at hone
            refine v_iload7 d_M_tried_143 ?_
            refine v_iload12 d_M_tried_145 ?_
            refine v_iadd d_M_tried_147 ?_
            refine v_istore7 d_M_tried_148 (by decide) rfl ?_
            refine v_iload8 d_M_tried_150 ?_
            refine v_iload11 d_M_tried_152 ?_
            refine v_iload12 d_M_tried_154 ?_
            refine v_isub d_M_tried_156 ?_
            refine v_iadd d_M_tried_157 ?_
            refine v_istore8 d_M_tried_158 (by decide) rfl ?_
            refine v_iload6 d_M_tried_160 ?_
            refine v_iload10 d_M_tried_162 ?_
            refine v_fSI2 d_M_tried_164 l_M_72 k_M_healthAfter (c_M_healthAfter (by omega) (by omega)) (by decide) (by decide) (Nat.le_of_ble_eq_true rfl) (Nat.zero_le _) (Nat.zero_le _) (fun g164 => ?_)
            refine v_istore6 d_M_tried_167 (by decide) rfl ?_
            refine v_iinc9 d_M_tried_169 (by decide) rfl ?_
            refine v_goto d_M_tried_172 ?_
            refine v_drop10 ?_
            refine v_drop11 ?_
            refine v_drop12 ?_
            first
            | (exfalso; omega)
            | (have hsh : shF t (cropF paper h (A (20 + i)) 100) (paper * s / 200) = cropF paper h (A (20 + i)) 100 := if_pos (by omega)
               have e9 : triS A paper t s (j + 1) = (hlF h 100, paid + cropF paper h (A (20 + i)) 100, cr + (cropF paper h (A (20 + i)) 100 - cropF paper h (A (20 + i)) 100)) := by rw [triS, ← hi, ← hh, ← hp, ← hc, hsq, hsh]
               exact ih (j + 1) _ _ _ _ (by omega) (by omega) (by rw [e9]) (by rw [e9]) (by rw [e9]))
            | (have hsh : shF t (cropF paper h (A (20 + i)) 100) (paper * s / 200) = paper * s / 200 := if_neg (by omega)
               have e9 : triS A paper t s (j + 1) = (hlF h 100, paid + paper * s / 200, cr + (cropF paper h (A (20 + i)) 100 - paper * s / 200)) := by rw [triS, ← hi, ← hh, ← hp, ← hc, hsq, hsh]
               exact ih (j + 1) _ _ _ _ (by omega) (by omega) (by rw [e9]) (by rw [e9]) (by rw [e9]))
            | (have hsh : shF t (cropF paper h (A (20 + i)) s) (paper * s / 200) = cropF paper h (A (20 + i)) s := if_pos (by omega)
               have e9 : triS A paper t s (j + 1) = (hlF h s, paid + cropF paper h (A (20 + i)) s, cr + (cropF paper h (A (20 + i)) s - cropF paper h (A (20 + i)) s)) := by rw [triS, ← hi, ← hh, ← hp, ← hc, hsq, hsh]
               exact ih (j + 1) _ _ _ _ (by omega) (by omega) (by rw [e9]) (by rw [e9]) (by rw [e9]))
            | (have hsh : shF t (cropF paper h (A (20 + i)) s) (paper * s / 200) = paper * s / 200 := if_neg (by omega)
               have e9 : triS A paper t s (j + 1) = (hlF h s, paid + paper * s / 200, cr + (cropF paper h (A (20 + i)) s - paper * s / 200)) := by rw [triS, ← hi, ← hh, ← hp, ← hc, hsq, hsh]
               exact ih (j + 1) _ _ _ _ (by omega) (by omega) (by rw [e9]) (by rw [e9]) (by rw [e9]))
      · have hm1 := Int.emod_nonneg i (show t ≠ 0 by omega)
        have hm2 := Int.emod_lt_of_pos i (show 0 < t by omega)
        refine v_iload9 d_M_tried_79 ?_
        refine v_iload3 d_M_tried_81 ?_
        refine v_iremN d_M_tried_82 (by omega) (by omega) ?_
        refine v_iload3 d_M_tried_83 ?_
        refine v_iconst d_M_tried_84 ?_
        refine v_isub d_M_tried_85 ?_
        refine v_icmp_ne d_M_tried_86 (by omega) (by omega) (fun u86 => ?_) (fun u86 => ?_)
        · refine v_bipush d_M_tried_94 rfl ?_
          refine v_istore10 d_M_tried_96 (by decide) rfl ?_
          first
          | have hsq : sqF t s i = 100 := if_neg (by omega)
          | have hsq : sqF t s i = s := if_pos (by omega)
          rw [hsq] at hone
          refine v_aload0 d_M_tried_98 ?_
          refine v_iload1 d_M_tried_99 ?_
          refine v_iload6 d_M_tried_100 ?_
          refine v_iload9 d_M_tried_102 ?_
          refine v_iload10 d_M_tried_104 ?_
          refine v_fVI4 d_M_tried_106 l_M_68 k_M_gives (c_M_gives hA (by omega) (by omega) (by omega) (by omega) (by omega)) (sh_55 T) rfl (by decide) (by decide) (Nat.le_of_ble_eq_true rfl) (Nat.zero_le _) (Nat.zero_le _) (fun g106 => ?_)
          refine v_istore11 d_M_tried_109 (by decide) rfl ?_
          refine v_iload3 d_M_tried_111 ?_
          refine v_if_gt d_M_tried_112 (by omega) (fun u112 => ?_) (fun u112 => ?_)
          · refine v_iload11 d_M_tried_128 ?_
            refine v_goto d_M_tried_130 ?_
            refine v_istore12 d_M_tried_141 (by decide) rfl ?_
            first
            | rw [show shF t _ _ = _ from if_pos (by omega)] at hone
            | rw [show shF t _ _ = _ from if_neg (by omega)] at hone
            refine v_iload7 d_M_tried_143 ?_
            refine v_iload12 d_M_tried_145 ?_
            refine v_iadd d_M_tried_147 ?_
            refine v_istore7 d_M_tried_148 (by decide) rfl ?_
            refine v_iload8 d_M_tried_150 ?_
            refine v_iload11 d_M_tried_152 ?_
            refine v_iload12 d_M_tried_154 ?_
            refine v_isub d_M_tried_156 ?_
            refine v_iadd d_M_tried_157 ?_
            refine v_istore8 d_M_tried_158 (by decide) rfl ?_
            refine v_iload6 d_M_tried_160 ?_
            refine v_iload10 d_M_tried_162 ?_
            refine v_fSI2 d_M_tried_164 l_M_72 k_M_healthAfter (c_M_healthAfter (by omega) (by omega)) (by decide) (by decide) (Nat.le_of_ble_eq_true rfl) (Nat.zero_le _) (Nat.zero_le _) (fun g164 => ?_)
            refine v_istore6 d_M_tried_167 (by decide) rfl ?_
            refine v_iinc9 d_M_tried_169 (by decide) rfl ?_
            refine v_goto d_M_tried_172 ?_
            refine v_drop10 ?_
            refine v_drop11 ?_
            refine v_drop12 ?_
            first
            | (exfalso; omega)
            | (have hsh : shF t (cropF paper h (A (20 + i)) 100) (paper * s / 200) = cropF paper h (A (20 + i)) 100 := if_pos (by omega)
               have e9 : triS A paper t s (j + 1) = (hlF h 100, paid + cropF paper h (A (20 + i)) 100, cr + (cropF paper h (A (20 + i)) 100 - cropF paper h (A (20 + i)) 100)) := by rw [triS, ← hi, ← hh, ← hp, ← hc, hsq, hsh]
               exact ih (j + 1) _ _ _ _ (by omega) (by omega) (by rw [e9]) (by rw [e9]) (by rw [e9]))
            | (have hsh : shF t (cropF paper h (A (20 + i)) 100) (paper * s / 200) = paper * s / 200 := if_neg (by omega)
               have e9 : triS A paper t s (j + 1) = (hlF h 100, paid + paper * s / 200, cr + (cropF paper h (A (20 + i)) 100 - paper * s / 200)) := by rw [triS, ← hi, ← hh, ← hp, ← hc, hsq, hsh]
               exact ih (j + 1) _ _ _ _ (by omega) (by omega) (by rw [e9]) (by rw [e9]) (by rw [e9]))
            | (have hsh : shF t (cropF paper h (A (20 + i)) s) (paper * s / 200) = cropF paper h (A (20 + i)) s := if_pos (by omega)
               have e9 : triS A paper t s (j + 1) = (hlF h s, paid + cropF paper h (A (20 + i)) s, cr + (cropF paper h (A (20 + i)) s - cropF paper h (A (20 + i)) s)) := by rw [triS, ← hi, ← hh, ← hp, ← hc, hsq, hsh]
               exact ih (j + 1) _ _ _ _ (by omega) (by omega) (by rw [e9]) (by rw [e9]) (by rw [e9]))
            | (have hsh : shF t (cropF paper h (A (20 + i)) s) (paper * s / 200) = paper * s / 200 := if_neg (by omega)
               have e9 : triS A paper t s (j + 1) = (hlF h s, paid + paper * s / 200, cr + (cropF paper h (A (20 + i)) s - paper * s / 200)) := by rw [triS, ← hi, ← hh, ← hp, ← hc, hsq, hsh]
               exact ih (j + 1) _ _ _ _ (by omega) (by omega) (by rw [e9]) (by rw [e9]) (by rw [e9]))
          · refine v_iload1 d_M_tried_115 ?_
            refine v_iload4 d_M_tried_116 ?_
            refine v_imul d_M_tried_118 ?_
            refine v_sipush d_M_tried_119 rfl ?_
            refine v_idiv d_M_tried_122 (by omega) (by omega) ?_
            refine v_iload11 d_M_tried_123 ?_
            refine v_icmp_le d_M_tried_125 (by omega) (by omega) (fun u125 => ?_) (fun u125 => ?_)
            · refine v_iload1 d_M_tried_133 ?_
              refine v_iload4 d_M_tried_134 ?_
              refine v_imul d_M_tried_136 ?_
              refine v_sipush d_M_tried_137 rfl ?_
              refine v_idiv d_M_tried_140 (by omega) (by omega) ?_
              refine v_istore12 d_M_tried_141 (by decide) rfl ?_
              first
              | rw [show shF t _ _ = _ from if_pos (by omega)] at hone
              | rw [show shF t _ _ = _ from if_neg (by omega)] at hone
              refine v_iload7 d_M_tried_143 ?_
              refine v_iload12 d_M_tried_145 ?_
              refine v_iadd d_M_tried_147 ?_
              refine v_istore7 d_M_tried_148 (by decide) rfl ?_
              refine v_iload8 d_M_tried_150 ?_
              refine v_iload11 d_M_tried_152 ?_
              refine v_iload12 d_M_tried_154 ?_
              refine v_isub d_M_tried_156 ?_
              refine v_iadd d_M_tried_157 ?_
              refine v_istore8 d_M_tried_158 (by decide) rfl ?_
              refine v_iload6 d_M_tried_160 ?_
              refine v_iload10 d_M_tried_162 ?_
              refine v_fSI2 d_M_tried_164 l_M_72 k_M_healthAfter (c_M_healthAfter (by omega) (by omega)) (by decide) (by decide) (Nat.le_of_ble_eq_true rfl) (Nat.zero_le _) (Nat.zero_le _) (fun g164 => ?_)
              refine v_istore6 d_M_tried_167 (by decide) rfl ?_
              refine v_iinc9 d_M_tried_169 (by decide) rfl ?_
              refine v_goto d_M_tried_172 ?_
              refine v_drop10 ?_
              refine v_drop11 ?_
              refine v_drop12 ?_
              first
              | (exfalso; omega)
              | (have hsh : shF t (cropF paper h (A (20 + i)) 100) (paper * s / 200) = cropF paper h (A (20 + i)) 100 := if_pos (by omega)
                 have e9 : triS A paper t s (j + 1) = (hlF h 100, paid + cropF paper h (A (20 + i)) 100, cr + (cropF paper h (A (20 + i)) 100 - cropF paper h (A (20 + i)) 100)) := by rw [triS, ← hi, ← hh, ← hp, ← hc, hsq, hsh]
                 exact ih (j + 1) _ _ _ _ (by omega) (by omega) (by rw [e9]) (by rw [e9]) (by rw [e9]))
              | (have hsh : shF t (cropF paper h (A (20 + i)) 100) (paper * s / 200) = paper * s / 200 := if_neg (by omega)
                 have e9 : triS A paper t s (j + 1) = (hlF h 100, paid + paper * s / 200, cr + (cropF paper h (A (20 + i)) 100 - paper * s / 200)) := by rw [triS, ← hi, ← hh, ← hp, ← hc, hsq, hsh]
                 exact ih (j + 1) _ _ _ _ (by omega) (by omega) (by rw [e9]) (by rw [e9]) (by rw [e9]))
              | (have hsh : shF t (cropF paper h (A (20 + i)) s) (paper * s / 200) = cropF paper h (A (20 + i)) s := if_pos (by omega)
                 have e9 : triS A paper t s (j + 1) = (hlF h s, paid + cropF paper h (A (20 + i)) s, cr + (cropF paper h (A (20 + i)) s - cropF paper h (A (20 + i)) s)) := by rw [triS, ← hi, ← hh, ← hp, ← hc, hsq, hsh]
                 exact ih (j + 1) _ _ _ _ (by omega) (by omega) (by rw [e9]) (by rw [e9]) (by rw [e9]))
              | (have hsh : shF t (cropF paper h (A (20 + i)) s) (paper * s / 200) = paper * s / 200 := if_neg (by omega)
                 have e9 : triS A paper t s (j + 1) = (hlF h s, paid + paper * s / 200, cr + (cropF paper h (A (20 + i)) s - paper * s / 200)) := by rw [triS, ← hi, ← hh, ← hp, ← hc, hsq, hsh]
                 exact ih (j + 1) _ _ _ _ (by omega) (by omega) (by rw [e9]) (by rw [e9]) (by rw [e9]))
            · refine v_iload11 d_M_tried_128 ?_
              refine v_goto d_M_tried_130 ?_
              refine v_istore12 d_M_tried_141 (by decide) rfl ?_
              first
              | rw [show shF t _ _ = _ from if_pos (by omega)] at hone
              | rw [show shF t _ _ = _ from if_neg (by omega)] at hone
              refine v_iload7 d_M_tried_143 ?_
              refine v_iload12 d_M_tried_145 ?_
              refine v_iadd d_M_tried_147 ?_
              refine v_istore7 d_M_tried_148 (by decide) rfl ?_
              refine v_iload8 d_M_tried_150 ?_
              refine v_iload11 d_M_tried_152 ?_
              refine v_iload12 d_M_tried_154 ?_
              refine v_isub d_M_tried_156 ?_
              refine v_iadd d_M_tried_157 ?_
              refine v_istore8 d_M_tried_158 (by decide) rfl ?_
              refine v_iload6 d_M_tried_160 ?_
              refine v_iload10 d_M_tried_162 ?_
              refine v_fSI2 d_M_tried_164 l_M_72 k_M_healthAfter (c_M_healthAfter (by omega) (by omega)) (by decide) (by decide) (Nat.le_of_ble_eq_true rfl) (Nat.zero_le _) (Nat.zero_le _) (fun g164 => ?_)
              refine v_istore6 d_M_tried_167 (by decide) rfl ?_
              refine v_iinc9 d_M_tried_169 (by decide) rfl ?_
              refine v_goto d_M_tried_172 ?_
              refine v_drop10 ?_
              refine v_drop11 ?_
              refine v_drop12 ?_
              first
              | (exfalso; omega)
              | (have hsh : shF t (cropF paper h (A (20 + i)) 100) (paper * s / 200) = cropF paper h (A (20 + i)) 100 := if_pos (by omega)
                 have e9 : triS A paper t s (j + 1) = (hlF h 100, paid + cropF paper h (A (20 + i)) 100, cr + (cropF paper h (A (20 + i)) 100 - cropF paper h (A (20 + i)) 100)) := by rw [triS, ← hi, ← hh, ← hp, ← hc, hsq, hsh]
                 exact ih (j + 1) _ _ _ _ (by omega) (by omega) (by rw [e9]) (by rw [e9]) (by rw [e9]))
              | (have hsh : shF t (cropF paper h (A (20 + i)) 100) (paper * s / 200) = paper * s / 200 := if_neg (by omega)
                 have e9 : triS A paper t s (j + 1) = (hlF h 100, paid + paper * s / 200, cr + (cropF paper h (A (20 + i)) 100 - paper * s / 200)) := by rw [triS, ← hi, ← hh, ← hp, ← hc, hsq, hsh]
                 exact ih (j + 1) _ _ _ _ (by omega) (by omega) (by rw [e9]) (by rw [e9]) (by rw [e9]))
              | (have hsh : shF t (cropF paper h (A (20 + i)) s) (paper * s / 200) = cropF paper h (A (20 + i)) s := if_pos (by omega)
                 have e9 : triS A paper t s (j + 1) = (hlF h s, paid + cropF paper h (A (20 + i)) s, cr + (cropF paper h (A (20 + i)) s - cropF paper h (A (20 + i)) s)) := by rw [triS, ← hi, ← hh, ← hp, ← hc, hsq, hsh]
                 exact ih (j + 1) _ _ _ _ (by omega) (by omega) (by rw [e9]) (by rw [e9]) (by rw [e9]))
              | (have hsh : shF t (cropF paper h (A (20 + i)) s) (paper * s / 200) = paper * s / 200 := if_neg (by omega)
                 have e9 : triS A paper t s (j + 1) = (hlF h s, paid + paper * s / 200, cr + (cropF paper h (A (20 + i)) s - paper * s / 200)) := by rw [triS, ← hi, ← hh, ← hp, ← hc, hsq, hsh]
                 exact ih (j + 1) _ _ _ _ (by omega) (by omega) (by rw [e9]) (by rw [e9]) (by rw [e9]))
        · refine v_iload4 d_M_tried_89 ?_
          refine v_goto d_M_tried_91 ?_
          refine v_istore10 d_M_tried_96 (by decide) rfl ?_
          first
          | have hsq : sqF t s i = 100 := if_neg (by omega)
          | have hsq : sqF t s i = s := if_pos (by omega)
          rw [hsq] at hone
          refine v_aload0 d_M_tried_98 ?_
          refine v_iload1 d_M_tried_99 ?_
          refine v_iload6 d_M_tried_100 ?_
          refine v_iload9 d_M_tried_102 ?_
          refine v_iload10 d_M_tried_104 ?_
          refine v_fVI4 d_M_tried_106 l_M_68 k_M_gives (c_M_gives hA (by omega) (by omega) (by omega) (by omega) (by omega)) (sh_55 T) rfl (by decide) (by decide) (Nat.le_of_ble_eq_true rfl) (Nat.zero_le _) (Nat.zero_le _) (fun g106 => ?_)
          refine v_istore11 d_M_tried_109 (by decide) rfl ?_
          refine v_iload3 d_M_tried_111 ?_
          refine v_if_gt d_M_tried_112 (by omega) (fun u112 => ?_) (fun u112 => ?_)
          · refine v_iload11 d_M_tried_128 ?_
            refine v_goto d_M_tried_130 ?_
            refine v_istore12 d_M_tried_141 (by decide) rfl ?_
            first
            | rw [show shF t _ _ = _ from if_pos (by omega)] at hone
            | rw [show shF t _ _ = _ from if_neg (by omega)] at hone
            refine v_iload7 d_M_tried_143 ?_
            refine v_iload12 d_M_tried_145 ?_
            refine v_iadd d_M_tried_147 ?_
            refine v_istore7 d_M_tried_148 (by decide) rfl ?_
            refine v_iload8 d_M_tried_150 ?_
            refine v_iload11 d_M_tried_152 ?_
            refine v_iload12 d_M_tried_154 ?_
            refine v_isub d_M_tried_156 ?_
            refine v_iadd d_M_tried_157 ?_
            refine v_istore8 d_M_tried_158 (by decide) rfl ?_
            refine v_iload6 d_M_tried_160 ?_
            refine v_iload10 d_M_tried_162 ?_
            refine v_fSI2 d_M_tried_164 l_M_72 k_M_healthAfter (c_M_healthAfter (by omega) (by omega)) (by decide) (by decide) (Nat.le_of_ble_eq_true rfl) (Nat.zero_le _) (Nat.zero_le _) (fun g164 => ?_)
            refine v_istore6 d_M_tried_167 (by decide) rfl ?_
            refine v_iinc9 d_M_tried_169 (by decide) rfl ?_
            refine v_goto d_M_tried_172 ?_
            refine v_drop10 ?_
            refine v_drop11 ?_
            refine v_drop12 ?_
            first
            | (exfalso; omega)
            | (have hsh : shF t (cropF paper h (A (20 + i)) 100) (paper * s / 200) = cropF paper h (A (20 + i)) 100 := if_pos (by omega)
               have e9 : triS A paper t s (j + 1) = (hlF h 100, paid + cropF paper h (A (20 + i)) 100, cr + (cropF paper h (A (20 + i)) 100 - cropF paper h (A (20 + i)) 100)) := by rw [triS, ← hi, ← hh, ← hp, ← hc, hsq, hsh]
               exact ih (j + 1) _ _ _ _ (by omega) (by omega) (by rw [e9]) (by rw [e9]) (by rw [e9]))
            | (have hsh : shF t (cropF paper h (A (20 + i)) 100) (paper * s / 200) = paper * s / 200 := if_neg (by omega)
               have e9 : triS A paper t s (j + 1) = (hlF h 100, paid + paper * s / 200, cr + (cropF paper h (A (20 + i)) 100 - paper * s / 200)) := by rw [triS, ← hi, ← hh, ← hp, ← hc, hsq, hsh]
               exact ih (j + 1) _ _ _ _ (by omega) (by omega) (by rw [e9]) (by rw [e9]) (by rw [e9]))
            | (have hsh : shF t (cropF paper h (A (20 + i)) s) (paper * s / 200) = cropF paper h (A (20 + i)) s := if_pos (by omega)
               have e9 : triS A paper t s (j + 1) = (hlF h s, paid + cropF paper h (A (20 + i)) s, cr + (cropF paper h (A (20 + i)) s - cropF paper h (A (20 + i)) s)) := by rw [triS, ← hi, ← hh, ← hp, ← hc, hsq, hsh]
               exact ih (j + 1) _ _ _ _ (by omega) (by omega) (by rw [e9]) (by rw [e9]) (by rw [e9]))
            | (have hsh : shF t (cropF paper h (A (20 + i)) s) (paper * s / 200) = paper * s / 200 := if_neg (by omega)
               have e9 : triS A paper t s (j + 1) = (hlF h s, paid + paper * s / 200, cr + (cropF paper h (A (20 + i)) s - paper * s / 200)) := by rw [triS, ← hi, ← hh, ← hp, ← hc, hsq, hsh]
               exact ih (j + 1) _ _ _ _ (by omega) (by omega) (by rw [e9]) (by rw [e9]) (by rw [e9]))
          · refine v_iload1 d_M_tried_115 ?_
            refine v_iload4 d_M_tried_116 ?_
            refine v_imul d_M_tried_118 ?_
            refine v_sipush d_M_tried_119 rfl ?_
            refine v_idiv d_M_tried_122 (by omega) (by omega) ?_
            refine v_iload11 d_M_tried_123 ?_
            refine v_icmp_le d_M_tried_125 (by omega) (by omega) (fun u125 => ?_) (fun u125 => ?_)
            · refine v_iload1 d_M_tried_133 ?_
              refine v_iload4 d_M_tried_134 ?_
              refine v_imul d_M_tried_136 ?_
              refine v_sipush d_M_tried_137 rfl ?_
              refine v_idiv d_M_tried_140 (by omega) (by omega) ?_
              refine v_istore12 d_M_tried_141 (by decide) rfl ?_
              first
              | rw [show shF t _ _ = _ from if_pos (by omega)] at hone
              | rw [show shF t _ _ = _ from if_neg (by omega)] at hone
              refine v_iload7 d_M_tried_143 ?_
              refine v_iload12 d_M_tried_145 ?_
              refine v_iadd d_M_tried_147 ?_
              refine v_istore7 d_M_tried_148 (by decide) rfl ?_
              refine v_iload8 d_M_tried_150 ?_
              refine v_iload11 d_M_tried_152 ?_
              refine v_iload12 d_M_tried_154 ?_
              refine v_isub d_M_tried_156 ?_
              refine v_iadd d_M_tried_157 ?_
              refine v_istore8 d_M_tried_158 (by decide) rfl ?_
              refine v_iload6 d_M_tried_160 ?_
              refine v_iload10 d_M_tried_162 ?_
              refine v_fSI2 d_M_tried_164 l_M_72 k_M_healthAfter (c_M_healthAfter (by omega) (by omega)) (by decide) (by decide) (Nat.le_of_ble_eq_true rfl) (Nat.zero_le _) (Nat.zero_le _) (fun g164 => ?_)
              refine v_istore6 d_M_tried_167 (by decide) rfl ?_
              refine v_iinc9 d_M_tried_169 (by decide) rfl ?_
              refine v_goto d_M_tried_172 ?_
              refine v_drop10 ?_
              refine v_drop11 ?_
              refine v_drop12 ?_
              first
              | (exfalso; omega)
              | (have hsh : shF t (cropF paper h (A (20 + i)) 100) (paper * s / 200) = cropF paper h (A (20 + i)) 100 := if_pos (by omega)
                 have e9 : triS A paper t s (j + 1) = (hlF h 100, paid + cropF paper h (A (20 + i)) 100, cr + (cropF paper h (A (20 + i)) 100 - cropF paper h (A (20 + i)) 100)) := by rw [triS, ← hi, ← hh, ← hp, ← hc, hsq, hsh]
                 exact ih (j + 1) _ _ _ _ (by omega) (by omega) (by rw [e9]) (by rw [e9]) (by rw [e9]))
              | (have hsh : shF t (cropF paper h (A (20 + i)) 100) (paper * s / 200) = paper * s / 200 := if_neg (by omega)
                 have e9 : triS A paper t s (j + 1) = (hlF h 100, paid + paper * s / 200, cr + (cropF paper h (A (20 + i)) 100 - paper * s / 200)) := by rw [triS, ← hi, ← hh, ← hp, ← hc, hsq, hsh]
                 exact ih (j + 1) _ _ _ _ (by omega) (by omega) (by rw [e9]) (by rw [e9]) (by rw [e9]))
              | (have hsh : shF t (cropF paper h (A (20 + i)) s) (paper * s / 200) = cropF paper h (A (20 + i)) s := if_pos (by omega)
                 have e9 : triS A paper t s (j + 1) = (hlF h s, paid + cropF paper h (A (20 + i)) s, cr + (cropF paper h (A (20 + i)) s - cropF paper h (A (20 + i)) s)) := by rw [triS, ← hi, ← hh, ← hp, ← hc, hsq, hsh]
                 exact ih (j + 1) _ _ _ _ (by omega) (by omega) (by rw [e9]) (by rw [e9]) (by rw [e9]))
              | (have hsh : shF t (cropF paper h (A (20 + i)) s) (paper * s / 200) = paper * s / 200 := if_neg (by omega)
                 have e9 : triS A paper t s (j + 1) = (hlF h s, paid + paper * s / 200, cr + (cropF paper h (A (20 + i)) s - paper * s / 200)) := by rw [triS, ← hi, ← hh, ← hp, ← hc, hsq, hsh]
                 exact ih (j + 1) _ _ _ _ (by omega) (by omega) (by rw [e9]) (by rw [e9]) (by rw [e9]))
            · refine v_iload11 d_M_tried_128 ?_
              refine v_goto d_M_tried_130 ?_
              refine v_istore12 d_M_tried_141 (by decide) rfl ?_
              first
              | rw [show shF t _ _ = _ from if_pos (by omega)] at hone
              | rw [show shF t _ _ = _ from if_neg (by omega)] at hone
              refine v_iload7 d_M_tried_143 ?_
              refine v_iload12 d_M_tried_145 ?_
              refine v_iadd d_M_tried_147 ?_
              refine v_istore7 d_M_tried_148 (by decide) rfl ?_
              refine v_iload8 d_M_tried_150 ?_
              refine v_iload11 d_M_tried_152 ?_
              refine v_iload12 d_M_tried_154 ?_
              refine v_isub d_M_tried_156 ?_
              refine v_iadd d_M_tried_157 ?_
              refine v_istore8 d_M_tried_158 (by decide) rfl ?_
              refine v_iload6 d_M_tried_160 ?_
              refine v_iload10 d_M_tried_162 ?_
              refine v_fSI2 d_M_tried_164 l_M_72 k_M_healthAfter (c_M_healthAfter (by omega) (by omega)) (by decide) (by decide) (Nat.le_of_ble_eq_true rfl) (Nat.zero_le _) (Nat.zero_le _) (fun g164 => ?_)
              refine v_istore6 d_M_tried_167 (by decide) rfl ?_
              refine v_iinc9 d_M_tried_169 (by decide) rfl ?_
              refine v_goto d_M_tried_172 ?_
              refine v_drop10 ?_
              refine v_drop11 ?_
              refine v_drop12 ?_
              first
              | (exfalso; omega)
              | (have hsh : shF t (cropF paper h (A (20 + i)) 100) (paper * s / 200) = cropF paper h (A (20 + i)) 100 := if_pos (by omega)
                 have e9 : triS A paper t s (j + 1) = (hlF h 100, paid + cropF paper h (A (20 + i)) 100, cr + (cropF paper h (A (20 + i)) 100 - cropF paper h (A (20 + i)) 100)) := by rw [triS, ← hi, ← hh, ← hp, ← hc, hsq, hsh]
                 exact ih (j + 1) _ _ _ _ (by omega) (by omega) (by rw [e9]) (by rw [e9]) (by rw [e9]))
              | (have hsh : shF t (cropF paper h (A (20 + i)) 100) (paper * s / 200) = paper * s / 200 := if_neg (by omega)
                 have e9 : triS A paper t s (j + 1) = (hlF h 100, paid + paper * s / 200, cr + (cropF paper h (A (20 + i)) 100 - paper * s / 200)) := by rw [triS, ← hi, ← hh, ← hp, ← hc, hsq, hsh]
                 exact ih (j + 1) _ _ _ _ (by omega) (by omega) (by rw [e9]) (by rw [e9]) (by rw [e9]))
              | (have hsh : shF t (cropF paper h (A (20 + i)) s) (paper * s / 200) = cropF paper h (A (20 + i)) s := if_pos (by omega)
                 have e9 : triS A paper t s (j + 1) = (hlF h s, paid + cropF paper h (A (20 + i)) s, cr + (cropF paper h (A (20 + i)) s - cropF paper h (A (20 + i)) s)) := by rw [triS, ← hi, ← hh, ← hp, ← hc, hsq, hsh]
                 exact ih (j + 1) _ _ _ _ (by omega) (by omega) (by rw [e9]) (by rw [e9]) (by rw [e9]))
              | (have hsh : shF t (cropF paper h (A (20 + i)) s) (paper * s / 200) = paper * s / 200 := if_neg (by omega)
                 have e9 : triS A paper t s (j + 1) = (hlF h s, paid + paper * s / 200, cr + (cropF paper h (A (20 + i)) s - paper * s / 200)) := by rw [triS, ← hi, ← hh, ← hp, ← hc, hsq, hsh]
                 exact ih (j + 1) _ _ _ _ (by omega) (by omega) (by rw [e9]) (by rw [e9]) (by rw [e9]))

theorem c_M_tried {T : vSh} {σ : vMem} {A : Int → Int} (hA : σ 56 = A) (hO : okA A) {paper n0 t s w : Int} (h0 : vIn paper) (h1 : vIn n0) (h2 : vIn t) (h3 : vIn s) (h4 : vIn w) : mt_M_tried [.ref 55, .int (iI paper), .int (iI n0), .int (iI t), .int (iI s), .int (iI w)] (S0 ++ T) σ (rF (S0 ++ T) σ (rTried A paper n0 t s w)) := by
  refine vMet.intro 7 (by decide +kernel) (Nat.le_of_ble_eq_true rfl) rfl (fun cx hM _ => ?_)
  obtain ⟨⟨q0, q1, q2, q3, q4, q5, q6, q7⟩, hVi, hWe, hCo, hOf, hBo, hWo, hMo, hRe, hLi, hTa⟩ := id hO
  refine v_iload1 d_M_tried_0 ?_
  refine v_iconst d_M_tried_1 ?_
  refine v_sipush d_M_tried_2 rfl ?_
  refine v_fSZ3 d_M_tried_5 l_M_56 k_M_isIn (c_M_isIn (by omega) (by omega) (by omega)) (by decide) (by decide) (Nat.le_of_ble_eq_true rfl) (Nat.zero_le _) (Nat.zero_le _) (fun g5 => ?_)
  refine v_ifb_eq d_M_tried_8 (fun u8 => ?_) (fun u8 => ?_)
  · refine v_iconst d_M_tried_54 ?_
    exact v_ireturn hM d_M_tried_55 (by omega) ⟨rfl, rfl, by rw [rTried, if_neg (by omega)]⟩
  · refine v_iload2 d_M_tried_11 ?_
    refine v_iconst d_M_tried_12 ?_
    refine v_bipush d_M_tried_13 rfl ?_
    refine v_fSZ3 d_M_tried_15 l_M_56 k_M_isIn (c_M_isIn (by omega) (by omega) (by omega)) (by decide) (by decide) (Nat.le_of_ble_eq_true rfl) (Nat.zero_le _) (Nat.zero_le _) (fun g15 => ?_)
    refine v_ifb_eq d_M_tried_18 (fun u18 => ?_) (fun u18 => ?_)
    · refine v_iconst d_M_tried_54 ?_
      exact v_ireturn hM d_M_tried_55 (by omega) ⟨rfl, rfl, by rw [rTried, if_neg (by omega)]⟩
    · refine v_iload3 d_M_tried_21 ?_
      refine v_iconst d_M_tried_22 ?_
      refine v_bipush d_M_tried_23 rfl ?_
      refine v_fSZ3 d_M_tried_25 l_M_56 k_M_isIn (c_M_isIn (by omega) (by omega) (by omega)) (by decide) (by decide) (Nat.le_of_ble_eq_true rfl) (Nat.zero_le _) (Nat.zero_le _) (fun g25 => ?_)
      refine v_ifb_eq d_M_tried_28 (fun u28 => ?_) (fun u28 => ?_)
      · refine v_iconst d_M_tried_54 ?_
        exact v_ireturn hM d_M_tried_55 (by omega) ⟨rfl, rfl, by rw [rTried, if_neg (by omega)]⟩
      · refine v_iload4 d_M_tried_31 ?_
        refine v_bipush d_M_tried_33 rfl ?_
        refine v_sipush d_M_tried_35 rfl ?_
        refine v_fSZ3 d_M_tried_38 l_M_56 k_M_isIn (c_M_isIn (by omega) (by omega) (by omega)) (by decide) (by decide) (Nat.le_of_ble_eq_true rfl) (Nat.zero_le _) (Nat.zero_le _) (fun g38 => ?_)
        refine v_ifb_eq d_M_tried_41 (fun u41 => ?_) (fun u41 => ?_)
        · refine v_iconst d_M_tried_54 ?_
          exact v_ireturn hM d_M_tried_55 (by omega) ⟨rfl, rfl, by rw [rTried, if_neg (by omega)]⟩
        · refine v_iload5 d_M_tried_44 ?_
          refine v_iconst d_M_tried_46 ?_
          refine v_iconst d_M_tried_47 ?_
          refine v_fSZ3 d_M_tried_48 l_M_56 k_M_isIn (c_M_isIn (by omega) (by omega) (by omega)) (by decide) (by decide) (Nat.le_of_ble_eq_true rfl) (Nat.zero_le _) (Nat.zero_le _) (fun g48 => ?_)
          refine v_ifb_ne d_M_tried_51 (fun u51 => ?_) (fun u51 => ?_)
          · refine v_bipush d_M_tried_56 rfl ?_
            refine v_istore6 d_M_tried_58 (by decide) rfl ?_
            refine v_iconst d_M_tried_60 ?_
            refine v_istore7 d_M_tried_61 (by decide) rfl ?_
            refine v_iconst d_M_tried_63 ?_
            refine v_istore8 d_M_tried_64 (by decide) rfl ?_
            refine v_iconst d_M_tried_66 ?_
            refine v_istore9 d_M_tried_67 (by decide) rfl ?_
            exact c_M_tried_69 hA hO (by omega) hM n0.toNat 0 _ _ _ _ (by omega) rfl rfl rfl rfl
          · refine v_iconst d_M_tried_54 ?_
            exact v_ireturn hM d_M_tried_55 (by omega) ⟨rfl, rfl, by rw [rTried, if_neg (by omega)]⟩

theorem c_M_count_47 {T : vSh} {σ : vMem} {cx : vCx} {A : Int → Int} (hA : σ 56 = A) (hO : okA A) {w : Int} (h0 : vIn w) (hM : vM cx 0 0 (some .int) (rP (S0 ++ T) (fun z σ2 => z = rCount A w ∧ MF σ σ2))) {sv : Int} (hsv : sv = cS A (A 1).toNat) : ∀ (n j : Nat) (cw ov i : Int) (σ1 : vMem), (j : Int) + n = A 0 → i = j → MF σ σ1 → cw = cC A j → ov = cO A j → vV cx y_M_count.cls prog_14_method_103_code 6 8 0 0 0 0 47 [some (.ref 55), some (.int (iI w)), some (.int (iI sv)), some (.int (iI cw)), some (.int (iI ov)), some (.int (iI i))] [] (S0 ++ T) σ1 := by
  intro n
  induction n with
  | zero =>
    intro j cw ov i σ1 hj hi hσ hc hv
    obtain ⟨⟨q0, q1, q2, q3, q4, q5, q6, q7⟩, hVi, hWe, hCo, hOf, hBo, hWo, hMo, hRe, hLi, hTa⟩ := id hO
    have hA1 : σ1 56 = A := by rw [hσ 56 (by decide)]; exact hA
    have hr1 : 0 ≤ cC A j ∧ cC A j ≤ j := smb_rng (fun v => crwP A v) j
    have hr2 : 0 ≤ cO A j ∧ cO A j ≤ j := smb_rng (fun v => overP A v) j
    have hr3 : 0 ≤ cS A (A 1).toNat ∧ cS A (A 1).toNat ≤ (A 1).toNat := smb_rng (fun i => srvF A i (A 4)) (A 1).toNat
    refine v_iload5 d_M_count_47 ?_
    refine v_aload0 d_M_count_49 ?_
    refine v_getR d_M_count_50 f_M_7 (sh_55 T) rfl ?_
    refine v_iconst d_M_count_53 ?_
    refine v_ialoadE hA1 d_M_count_54 (sh_56 T) (by omega) (fun g54 => ?_)
    refine v_icmp_ge d_M_count_55 (by omega) (by omega) (fun u55 => ?_) (fun u55 => ?_)
    · refine v_iload1 d_M_count_100 ?_
      rcases (show (w < 0 ∨ 10 < w) ∨ w = 0 ∨ w = 1 ∨ w = 2 ∨ w = 3 ∨ w = 4 ∨ w = 5 ∨ w = 6 ∨ w = 7 ∨ w = 8 ∨ w = 9 ∨ w = 10 by omega) with hs | hs | hs | hs | hs | hs | hs | hs | hs | hs | hs | hs
      · refine v_tableOut d_M_count_101 (by omega) hs (tgt := 194) rfl ?_
        refine v_iconst d_M_count_194 ?_
        exact v_ireturn hM d_M_count_195 (by first | omega | exact g165) ⟨rfl, by rw [rCount]; first | (rw [if_pos (by omega)]; try (first | omega | (rw [hsv]) | (rw [hc]; congr 1; omega) | (rw [hv]; congr 1; omega))) | (rw [if_neg (by omega), if_pos (by omega)]; try (first | omega | (rw [hsv]) | (rw [hc]; congr 1; omega) | (rw [hv]; congr 1; omega))) | (rw [if_neg (by omega), if_neg (by omega), if_pos (by omega)]; try (first | omega | (rw [hsv]) | (rw [hc]; congr 1; omega) | (rw [hv]; congr 1; omega))) | (rw [if_neg (by omega), if_neg (by omega), if_neg (by omega), if_pos (by omega)]; try (first | omega | (rw [hsv]) | (rw [hc]; congr 1; omega) | (rw [hv]; congr 1; omega))) | (rw [if_neg (by omega), if_neg (by omega), if_neg (by omega), if_neg (by omega), if_pos (by omega)]; try (first | omega | (rw [hsv]) | (rw [hc]; congr 1; omega) | (rw [hv]; congr 1; omega))) | (rw [if_neg (by omega), if_neg (by omega), if_neg (by omega), if_neg (by omega), if_neg (by omega), if_pos (by omega)]; try (first | omega | (rw [hsv]) | (rw [hc]; congr 1; omega) | (rw [hv]; congr 1; omega))) | (rw [if_neg (by omega), if_neg (by omega), if_neg (by omega), if_neg (by omega), if_neg (by omega), if_neg (by omega), if_pos (by omega)]; try (first | omega | (rw [hsv]) | (rw [hc]; congr 1; omega) | (rw [hv]; congr 1; omega))) | (rw [if_neg (by omega), if_neg (by omega), if_neg (by omega), if_neg (by omega), if_neg (by omega), if_neg (by omega), if_neg (by omega)]; try (first | omega | (rw [hsv]) | (rw [hc]; congr 1; omega) | (rw [hv]; congr 1; omega))), hσ⟩
      · refine v_table d_M_count_101 (by omega) (by omega) (by omega) (off := 59) (tgt := 160) (by rw [hs]; rfl) rfl ?_
        refine v_aload0 d_M_count_160 ?_
        refine v_getR d_M_count_161 f_M_7 (sh_55 T) rfl ?_
        refine v_iload1 d_M_count_164 ?_
        refine v_ialoadE hA1 d_M_count_165 (sh_56 T) (by omega) (fun g165 => ?_)
        exact v_ireturn hM d_M_count_166 (by first | omega | exact g165) ⟨rfl, by rw [rCount]; first | (rw [if_pos (by omega)]; try (first | omega | (rw [hsv]) | (rw [hc]; congr 1; omega) | (rw [hv]; congr 1; omega))) | (rw [if_neg (by omega), if_pos (by omega)]; try (first | omega | (rw [hsv]) | (rw [hc]; congr 1; omega) | (rw [hv]; congr 1; omega))) | (rw [if_neg (by omega), if_neg (by omega), if_pos (by omega)]; try (first | omega | (rw [hsv]) | (rw [hc]; congr 1; omega) | (rw [hv]; congr 1; omega))) | (rw [if_neg (by omega), if_neg (by omega), if_neg (by omega), if_pos (by omega)]; try (first | omega | (rw [hsv]) | (rw [hc]; congr 1; omega) | (rw [hv]; congr 1; omega))) | (rw [if_neg (by omega), if_neg (by omega), if_neg (by omega), if_neg (by omega), if_pos (by omega)]; try (first | omega | (rw [hsv]) | (rw [hc]; congr 1; omega) | (rw [hv]; congr 1; omega))) | (rw [if_neg (by omega), if_neg (by omega), if_neg (by omega), if_neg (by omega), if_neg (by omega), if_pos (by omega)]; try (first | omega | (rw [hsv]) | (rw [hc]; congr 1; omega) | (rw [hv]; congr 1; omega))) | (rw [if_neg (by omega), if_neg (by omega), if_neg (by omega), if_neg (by omega), if_neg (by omega), if_neg (by omega), if_pos (by omega)]; try (first | omega | (rw [hsv]) | (rw [hc]; congr 1; omega) | (rw [hv]; congr 1; omega))) | (rw [if_neg (by omega), if_neg (by omega), if_neg (by omega), if_neg (by omega), if_neg (by omega), if_neg (by omega), if_neg (by omega)]; try (first | omega | (rw [hsv]) | (rw [hc]; congr 1; omega) | (rw [hv]; congr 1; omega))), hσ⟩
      · refine v_table d_M_count_101 (by omega) (by omega) (by omega) (off := 59) (tgt := 160) (by rw [hs]; rfl) rfl ?_
        refine v_aload0 d_M_count_160 ?_
        refine v_getR d_M_count_161 f_M_7 (sh_55 T) rfl ?_
        refine v_iload1 d_M_count_164 ?_
        refine v_ialoadE hA1 d_M_count_165 (sh_56 T) (by omega) (fun g165 => ?_)
        exact v_ireturn hM d_M_count_166 (by first | omega | exact g165) ⟨rfl, by rw [rCount]; first | (rw [if_pos (by omega)]; try (first | omega | (rw [hsv]) | (rw [hc]; congr 1; omega) | (rw [hv]; congr 1; omega))) | (rw [if_neg (by omega), if_pos (by omega)]; try (first | omega | (rw [hsv]) | (rw [hc]; congr 1; omega) | (rw [hv]; congr 1; omega))) | (rw [if_neg (by omega), if_neg (by omega), if_pos (by omega)]; try (first | omega | (rw [hsv]) | (rw [hc]; congr 1; omega) | (rw [hv]; congr 1; omega))) | (rw [if_neg (by omega), if_neg (by omega), if_neg (by omega), if_pos (by omega)]; try (first | omega | (rw [hsv]) | (rw [hc]; congr 1; omega) | (rw [hv]; congr 1; omega))) | (rw [if_neg (by omega), if_neg (by omega), if_neg (by omega), if_neg (by omega), if_pos (by omega)]; try (first | omega | (rw [hsv]) | (rw [hc]; congr 1; omega) | (rw [hv]; congr 1; omega))) | (rw [if_neg (by omega), if_neg (by omega), if_neg (by omega), if_neg (by omega), if_neg (by omega), if_pos (by omega)]; try (first | omega | (rw [hsv]) | (rw [hc]; congr 1; omega) | (rw [hv]; congr 1; omega))) | (rw [if_neg (by omega), if_neg (by omega), if_neg (by omega), if_neg (by omega), if_neg (by omega), if_neg (by omega), if_pos (by omega)]; try (first | omega | (rw [hsv]) | (rw [hc]; congr 1; omega) | (rw [hv]; congr 1; omega))) | (rw [if_neg (by omega), if_neg (by omega), if_neg (by omega), if_neg (by omega), if_neg (by omega), if_neg (by omega), if_neg (by omega)]; try (first | omega | (rw [hsv]) | (rw [hc]; congr 1; omega) | (rw [hv]; congr 1; omega))), hσ⟩
      · refine v_table d_M_count_101 (by omega) (by omega) (by omega) (off := 59) (tgt := 160) (by rw [hs]; rfl) rfl ?_
        refine v_aload0 d_M_count_160 ?_
        refine v_getR d_M_count_161 f_M_7 (sh_55 T) rfl ?_
        refine v_iload1 d_M_count_164 ?_
        refine v_ialoadE hA1 d_M_count_165 (sh_56 T) (by omega) (fun g165 => ?_)
        exact v_ireturn hM d_M_count_166 (by first | omega | exact g165) ⟨rfl, by rw [rCount]; first | (rw [if_pos (by omega)]; try (first | omega | (rw [hsv]) | (rw [hc]; congr 1; omega) | (rw [hv]; congr 1; omega))) | (rw [if_neg (by omega), if_pos (by omega)]; try (first | omega | (rw [hsv]) | (rw [hc]; congr 1; omega) | (rw [hv]; congr 1; omega))) | (rw [if_neg (by omega), if_neg (by omega), if_pos (by omega)]; try (first | omega | (rw [hsv]) | (rw [hc]; congr 1; omega) | (rw [hv]; congr 1; omega))) | (rw [if_neg (by omega), if_neg (by omega), if_neg (by omega), if_pos (by omega)]; try (first | omega | (rw [hsv]) | (rw [hc]; congr 1; omega) | (rw [hv]; congr 1; omega))) | (rw [if_neg (by omega), if_neg (by omega), if_neg (by omega), if_neg (by omega), if_pos (by omega)]; try (first | omega | (rw [hsv]) | (rw [hc]; congr 1; omega) | (rw [hv]; congr 1; omega))) | (rw [if_neg (by omega), if_neg (by omega), if_neg (by omega), if_neg (by omega), if_neg (by omega), if_pos (by omega)]; try (first | omega | (rw [hsv]) | (rw [hc]; congr 1; omega) | (rw [hv]; congr 1; omega))) | (rw [if_neg (by omega), if_neg (by omega), if_neg (by omega), if_neg (by omega), if_neg (by omega), if_neg (by omega), if_pos (by omega)]; try (first | omega | (rw [hsv]) | (rw [hc]; congr 1; omega) | (rw [hv]; congr 1; omega))) | (rw [if_neg (by omega), if_neg (by omega), if_neg (by omega), if_neg (by omega), if_neg (by omega), if_neg (by omega), if_neg (by omega)]; try (first | omega | (rw [hsv]) | (rw [hc]; congr 1; omega) | (rw [hv]; congr 1; omega))), hσ⟩
      · refine v_table d_M_count_101 (by omega) (by omega) (by omega) (off := 59) (tgt := 160) (by rw [hs]; rfl) rfl ?_
        refine v_aload0 d_M_count_160 ?_
        refine v_getR d_M_count_161 f_M_7 (sh_55 T) rfl ?_
        refine v_iload1 d_M_count_164 ?_
        refine v_ialoadE hA1 d_M_count_165 (sh_56 T) (by omega) (fun g165 => ?_)
        exact v_ireturn hM d_M_count_166 (by first | omega | exact g165) ⟨rfl, by rw [rCount]; first | (rw [if_pos (by omega)]; try (first | omega | (rw [hsv]) | (rw [hc]; congr 1; omega) | (rw [hv]; congr 1; omega))) | (rw [if_neg (by omega), if_pos (by omega)]; try (first | omega | (rw [hsv]) | (rw [hc]; congr 1; omega) | (rw [hv]; congr 1; omega))) | (rw [if_neg (by omega), if_neg (by omega), if_pos (by omega)]; try (first | omega | (rw [hsv]) | (rw [hc]; congr 1; omega) | (rw [hv]; congr 1; omega))) | (rw [if_neg (by omega), if_neg (by omega), if_neg (by omega), if_pos (by omega)]; try (first | omega | (rw [hsv]) | (rw [hc]; congr 1; omega) | (rw [hv]; congr 1; omega))) | (rw [if_neg (by omega), if_neg (by omega), if_neg (by omega), if_neg (by omega), if_pos (by omega)]; try (first | omega | (rw [hsv]) | (rw [hc]; congr 1; omega) | (rw [hv]; congr 1; omega))) | (rw [if_neg (by omega), if_neg (by omega), if_neg (by omega), if_neg (by omega), if_neg (by omega), if_pos (by omega)]; try (first | omega | (rw [hsv]) | (rw [hc]; congr 1; omega) | (rw [hv]; congr 1; omega))) | (rw [if_neg (by omega), if_neg (by omega), if_neg (by omega), if_neg (by omega), if_neg (by omega), if_neg (by omega), if_pos (by omega)]; try (first | omega | (rw [hsv]) | (rw [hc]; congr 1; omega) | (rw [hv]; congr 1; omega))) | (rw [if_neg (by omega), if_neg (by omega), if_neg (by omega), if_neg (by omega), if_neg (by omega), if_neg (by omega), if_neg (by omega)]; try (first | omega | (rw [hsv]) | (rw [hc]; congr 1; omega) | (rw [hv]; congr 1; omega))), hσ⟩
      · refine v_table d_M_count_101 (by omega) (by omega) (by omega) (off := 59) (tgt := 160) (by rw [hs]; rfl) rfl ?_
        refine v_aload0 d_M_count_160 ?_
        refine v_getR d_M_count_161 f_M_7 (sh_55 T) rfl ?_
        refine v_iload1 d_M_count_164 ?_
        refine v_ialoadE hA1 d_M_count_165 (sh_56 T) (by omega) (fun g165 => ?_)
        exact v_ireturn hM d_M_count_166 (by first | omega | exact g165) ⟨rfl, by rw [rCount]; first | (rw [if_pos (by omega)]; try (first | omega | (rw [hsv]) | (rw [hc]; congr 1; omega) | (rw [hv]; congr 1; omega))) | (rw [if_neg (by omega), if_pos (by omega)]; try (first | omega | (rw [hsv]) | (rw [hc]; congr 1; omega) | (rw [hv]; congr 1; omega))) | (rw [if_neg (by omega), if_neg (by omega), if_pos (by omega)]; try (first | omega | (rw [hsv]) | (rw [hc]; congr 1; omega) | (rw [hv]; congr 1; omega))) | (rw [if_neg (by omega), if_neg (by omega), if_neg (by omega), if_pos (by omega)]; try (first | omega | (rw [hsv]) | (rw [hc]; congr 1; omega) | (rw [hv]; congr 1; omega))) | (rw [if_neg (by omega), if_neg (by omega), if_neg (by omega), if_neg (by omega), if_pos (by omega)]; try (first | omega | (rw [hsv]) | (rw [hc]; congr 1; omega) | (rw [hv]; congr 1; omega))) | (rw [if_neg (by omega), if_neg (by omega), if_neg (by omega), if_neg (by omega), if_neg (by omega), if_pos (by omega)]; try (first | omega | (rw [hsv]) | (rw [hc]; congr 1; omega) | (rw [hv]; congr 1; omega))) | (rw [if_neg (by omega), if_neg (by omega), if_neg (by omega), if_neg (by omega), if_neg (by omega), if_neg (by omega), if_pos (by omega)]; try (first | omega | (rw [hsv]) | (rw [hc]; congr 1; omega) | (rw [hv]; congr 1; omega))) | (rw [if_neg (by omega), if_neg (by omega), if_neg (by omega), if_neg (by omega), if_neg (by omega), if_neg (by omega), if_neg (by omega)]; try (first | omega | (rw [hsv]) | (rw [hc]; congr 1; omega) | (rw [hv]; congr 1; omega))), hσ⟩
      · refine v_table d_M_count_101 (by omega) (by omega) (by omega) (off := 66) (tgt := 167) (by rw [hs]; rfl) rfl ?_
        refine v_aload0 d_M_count_167 ?_
        refine v_fVI0 d_M_count_168 l_M_60 k_M_ended (c_M_ended hA1 (by omega)) (sh_55 T) rfl (by decide) (by decide) (Nat.le_of_ble_eq_true rfl) (Nat.zero_le _) (Nat.zero_le _) (fun g168 => ?_)
        exact v_ireturn hM d_M_count_171 (by first | omega | exact g165) ⟨rfl, by rw [rCount]; first | (rw [if_pos (by omega)]; try (first | omega | (rw [hsv]) | (rw [hc]; congr 1; omega) | (rw [hv]; congr 1; omega))) | (rw [if_neg (by omega), if_pos (by omega)]; try (first | omega | (rw [hsv]) | (rw [hc]; congr 1; omega) | (rw [hv]; congr 1; omega))) | (rw [if_neg (by omega), if_neg (by omega), if_pos (by omega)]; try (first | omega | (rw [hsv]) | (rw [hc]; congr 1; omega) | (rw [hv]; congr 1; omega))) | (rw [if_neg (by omega), if_neg (by omega), if_neg (by omega), if_pos (by omega)]; try (first | omega | (rw [hsv]) | (rw [hc]; congr 1; omega) | (rw [hv]; congr 1; omega))) | (rw [if_neg (by omega), if_neg (by omega), if_neg (by omega), if_neg (by omega), if_pos (by omega)]; try (first | omega | (rw [hsv]) | (rw [hc]; congr 1; omega) | (rw [hv]; congr 1; omega))) | (rw [if_neg (by omega), if_neg (by omega), if_neg (by omega), if_neg (by omega), if_neg (by omega), if_pos (by omega)]; try (first | omega | (rw [hsv]) | (rw [hc]; congr 1; omega) | (rw [hv]; congr 1; omega))) | (rw [if_neg (by omega), if_neg (by omega), if_neg (by omega), if_neg (by omega), if_neg (by omega), if_neg (by omega), if_pos (by omega)]; try (first | omega | (rw [hsv]) | (rw [hc]; congr 1; omega) | (rw [hv]; congr 1; omega))) | (rw [if_neg (by omega), if_neg (by omega), if_neg (by omega), if_neg (by omega), if_neg (by omega), if_neg (by omega), if_neg (by omega)]; try (first | omega | (rw [hsv]) | (rw [hc]; congr 1; omega) | (rw [hv]; congr 1; omega))), hσ⟩
      · refine v_table d_M_count_101 (by omega) (by omega) (by omega) (off := 71) (tgt := 172) (by rw [hs]; rfl) rfl ?_
        refine v_aload0 d_M_count_172 ?_
        refine v_getR d_M_count_173 f_M_7 (sh_55 T) rfl ?_
        refine v_iconst d_M_count_176 ?_
        refine v_ialoadE hA1 d_M_count_177 (sh_56 T) (by omega) (fun g177 => ?_)
        exact v_ireturn hM d_M_count_178 (by first | omega | exact g165) ⟨rfl, by rw [rCount]; first | (rw [if_pos (by omega)]; try (first | omega | (rw [hsv]) | (rw [hc]; congr 1; omega) | (rw [hv]; congr 1; omega))) | (rw [if_neg (by omega), if_pos (by omega)]; try (first | omega | (rw [hsv]) | (rw [hc]; congr 1; omega) | (rw [hv]; congr 1; omega))) | (rw [if_neg (by omega), if_neg (by omega), if_pos (by omega)]; try (first | omega | (rw [hsv]) | (rw [hc]; congr 1; omega) | (rw [hv]; congr 1; omega))) | (rw [if_neg (by omega), if_neg (by omega), if_neg (by omega), if_pos (by omega)]; try (first | omega | (rw [hsv]) | (rw [hc]; congr 1; omega) | (rw [hv]; congr 1; omega))) | (rw [if_neg (by omega), if_neg (by omega), if_neg (by omega), if_neg (by omega), if_pos (by omega)]; try (first | omega | (rw [hsv]) | (rw [hc]; congr 1; omega) | (rw [hv]; congr 1; omega))) | (rw [if_neg (by omega), if_neg (by omega), if_neg (by omega), if_neg (by omega), if_neg (by omega), if_pos (by omega)]; try (first | omega | (rw [hsv]) | (rw [hc]; congr 1; omega) | (rw [hv]; congr 1; omega))) | (rw [if_neg (by omega), if_neg (by omega), if_neg (by omega), if_neg (by omega), if_neg (by omega), if_neg (by omega), if_pos (by omega)]; try (first | omega | (rw [hsv]) | (rw [hc]; congr 1; omega) | (rw [hv]; congr 1; omega))) | (rw [if_neg (by omega), if_neg (by omega), if_neg (by omega), if_neg (by omega), if_neg (by omega), if_neg (by omega), if_neg (by omega)]; try (first | omega | (rw [hsv]) | (rw [hc]; congr 1; omega) | (rw [hv]; congr 1; omega))), hσ⟩
      · refine v_table d_M_count_101 (by omega) (by omega) (by omega) (off := 78) (tgt := 179) (by rw [hs]; rfl) rfl ?_
        refine v_aload0 d_M_count_179 ?_
        refine v_getR d_M_count_180 f_M_7 (sh_55 T) rfl ?_
        refine v_bipush d_M_count_183 rfl ?_
        refine v_ialoadE hA1 d_M_count_185 (sh_56 T) (by omega) (fun g185 => ?_)
        exact v_ireturn hM d_M_count_186 (by first | omega | exact g165) ⟨rfl, by rw [rCount]; first | (rw [if_pos (by omega)]; try (first | omega | (rw [hsv]) | (rw [hc]; congr 1; omega) | (rw [hv]; congr 1; omega))) | (rw [if_neg (by omega), if_pos (by omega)]; try (first | omega | (rw [hsv]) | (rw [hc]; congr 1; omega) | (rw [hv]; congr 1; omega))) | (rw [if_neg (by omega), if_neg (by omega), if_pos (by omega)]; try (first | omega | (rw [hsv]) | (rw [hc]; congr 1; omega) | (rw [hv]; congr 1; omega))) | (rw [if_neg (by omega), if_neg (by omega), if_neg (by omega), if_pos (by omega)]; try (first | omega | (rw [hsv]) | (rw [hc]; congr 1; omega) | (rw [hv]; congr 1; omega))) | (rw [if_neg (by omega), if_neg (by omega), if_neg (by omega), if_neg (by omega), if_pos (by omega)]; try (first | omega | (rw [hsv]) | (rw [hc]; congr 1; omega) | (rw [hv]; congr 1; omega))) | (rw [if_neg (by omega), if_neg (by omega), if_neg (by omega), if_neg (by omega), if_neg (by omega), if_pos (by omega)]; try (first | omega | (rw [hsv]) | (rw [hc]; congr 1; omega) | (rw [hv]; congr 1; omega))) | (rw [if_neg (by omega), if_neg (by omega), if_neg (by omega), if_neg (by omega), if_neg (by omega), if_neg (by omega), if_pos (by omega)]; try (first | omega | (rw [hsv]) | (rw [hc]; congr 1; omega) | (rw [hv]; congr 1; omega))) | (rw [if_neg (by omega), if_neg (by omega), if_neg (by omega), if_neg (by omega), if_neg (by omega), if_neg (by omega), if_neg (by omega)]; try (first | omega | (rw [hsv]) | (rw [hc]; congr 1; omega) | (rw [hv]; congr 1; omega))), hσ⟩
      · refine v_table d_M_count_101 (by omega) (by omega) (by omega) (off := 86) (tgt := 187) (by rw [hs]; rfl) rfl ?_
        refine v_iload2 d_M_count_187 ?_
        exact v_ireturn hM d_M_count_188 (by first | omega | exact g165) ⟨rfl, by rw [rCount]; first | (rw [if_pos (by omega)]; try (first | omega | (rw [hsv]) | (rw [hc]; congr 1; omega) | (rw [hv]; congr 1; omega))) | (rw [if_neg (by omega), if_pos (by omega)]; try (first | omega | (rw [hsv]) | (rw [hc]; congr 1; omega) | (rw [hv]; congr 1; omega))) | (rw [if_neg (by omega), if_neg (by omega), if_pos (by omega)]; try (first | omega | (rw [hsv]) | (rw [hc]; congr 1; omega) | (rw [hv]; congr 1; omega))) | (rw [if_neg (by omega), if_neg (by omega), if_neg (by omega), if_pos (by omega)]; try (first | omega | (rw [hsv]) | (rw [hc]; congr 1; omega) | (rw [hv]; congr 1; omega))) | (rw [if_neg (by omega), if_neg (by omega), if_neg (by omega), if_neg (by omega), if_pos (by omega)]; try (first | omega | (rw [hsv]) | (rw [hc]; congr 1; omega) | (rw [hv]; congr 1; omega))) | (rw [if_neg (by omega), if_neg (by omega), if_neg (by omega), if_neg (by omega), if_neg (by omega), if_pos (by omega)]; try (first | omega | (rw [hsv]) | (rw [hc]; congr 1; omega) | (rw [hv]; congr 1; omega))) | (rw [if_neg (by omega), if_neg (by omega), if_neg (by omega), if_neg (by omega), if_neg (by omega), if_neg (by omega), if_pos (by omega)]; try (first | omega | (rw [hsv]) | (rw [hc]; congr 1; omega) | (rw [hv]; congr 1; omega))) | (rw [if_neg (by omega), if_neg (by omega), if_neg (by omega), if_neg (by omega), if_neg (by omega), if_neg (by omega), if_neg (by omega)]; try (first | omega | (rw [hsv]) | (rw [hc]; congr 1; omega) | (rw [hv]; congr 1; omega))), hσ⟩
      · refine v_table d_M_count_101 (by omega) (by omega) (by omega) (off := 88) (tgt := 189) (by rw [hs]; rfl) rfl ?_
        refine v_iload3 d_M_count_189 ?_
        exact v_ireturn hM d_M_count_190 (by first | omega | exact g165) ⟨rfl, by rw [rCount]; first | (rw [if_pos (by omega)]; try (first | omega | (rw [hsv]) | (rw [hc]; congr 1; omega) | (rw [hv]; congr 1; omega))) | (rw [if_neg (by omega), if_pos (by omega)]; try (first | omega | (rw [hsv]) | (rw [hc]; congr 1; omega) | (rw [hv]; congr 1; omega))) | (rw [if_neg (by omega), if_neg (by omega), if_pos (by omega)]; try (first | omega | (rw [hsv]) | (rw [hc]; congr 1; omega) | (rw [hv]; congr 1; omega))) | (rw [if_neg (by omega), if_neg (by omega), if_neg (by omega), if_pos (by omega)]; try (first | omega | (rw [hsv]) | (rw [hc]; congr 1; omega) | (rw [hv]; congr 1; omega))) | (rw [if_neg (by omega), if_neg (by omega), if_neg (by omega), if_neg (by omega), if_pos (by omega)]; try (first | omega | (rw [hsv]) | (rw [hc]; congr 1; omega) | (rw [hv]; congr 1; omega))) | (rw [if_neg (by omega), if_neg (by omega), if_neg (by omega), if_neg (by omega), if_neg (by omega), if_pos (by omega)]; try (first | omega | (rw [hsv]) | (rw [hc]; congr 1; omega) | (rw [hv]; congr 1; omega))) | (rw [if_neg (by omega), if_neg (by omega), if_neg (by omega), if_neg (by omega), if_neg (by omega), if_neg (by omega), if_pos (by omega)]; try (first | omega | (rw [hsv]) | (rw [hc]; congr 1; omega) | (rw [hv]; congr 1; omega))) | (rw [if_neg (by omega), if_neg (by omega), if_neg (by omega), if_neg (by omega), if_neg (by omega), if_neg (by omega), if_neg (by omega)]; try (first | omega | (rw [hsv]) | (rw [hc]; congr 1; omega) | (rw [hv]; congr 1; omega))), hσ⟩
      · refine v_table d_M_count_101 (by omega) (by omega) (by omega) (off := 90) (tgt := 191) (by rw [hs]; rfl) rfl ?_
        refine v_iload4 d_M_count_191 ?_
        exact v_ireturn hM d_M_count_193 (by first | omega | exact g165) ⟨rfl, by rw [rCount]; first | (rw [if_pos (by omega)]; try (first | omega | (rw [hsv]) | (rw [hc]; congr 1; omega) | (rw [hv]; congr 1; omega))) | (rw [if_neg (by omega), if_pos (by omega)]; try (first | omega | (rw [hsv]) | (rw [hc]; congr 1; omega) | (rw [hv]; congr 1; omega))) | (rw [if_neg (by omega), if_neg (by omega), if_pos (by omega)]; try (first | omega | (rw [hsv]) | (rw [hc]; congr 1; omega) | (rw [hv]; congr 1; omega))) | (rw [if_neg (by omega), if_neg (by omega), if_neg (by omega), if_pos (by omega)]; try (first | omega | (rw [hsv]) | (rw [hc]; congr 1; omega) | (rw [hv]; congr 1; omega))) | (rw [if_neg (by omega), if_neg (by omega), if_neg (by omega), if_neg (by omega), if_pos (by omega)]; try (first | omega | (rw [hsv]) | (rw [hc]; congr 1; omega) | (rw [hv]; congr 1; omega))) | (rw [if_neg (by omega), if_neg (by omega), if_neg (by omega), if_neg (by omega), if_neg (by omega), if_pos (by omega)]; try (first | omega | (rw [hsv]) | (rw [hc]; congr 1; omega) | (rw [hv]; congr 1; omega))) | (rw [if_neg (by omega), if_neg (by omega), if_neg (by omega), if_neg (by omega), if_neg (by omega), if_neg (by omega), if_pos (by omega)]; try (first | omega | (rw [hsv]) | (rw [hc]; congr 1; omega) | (rw [hv]; congr 1; omega))) | (rw [if_neg (by omega), if_neg (by omega), if_neg (by omega), if_neg (by omega), if_neg (by omega), if_neg (by omega), if_neg (by omega)]; try (first | omega | (rw [hsv]) | (rw [hc]; congr 1; omega) | (rw [hv]; congr 1; omega))), hσ⟩
    · omega
  | succ n ih =>
    intro j cw ov i σ1 hj hi hσ hc hv
    obtain ⟨⟨q0, q1, q2, q3, q4, q5, q6, q7⟩, hVi, hWe, hCo, hOf, hBo, hWo, hMo, hRe, hLi, hTa⟩ := id hO
    have hA1 : σ1 56 = A := by rw [hσ 56 (by decide)]; exact hA
    have hr1 : 0 ≤ cC A j ∧ cC A j ≤ j := smb_rng (fun v => crwP A v) j
    have hr2 : 0 ≤ cO A j ∧ cO A j ≤ j := smb_rng (fun v => overP A v) j
    have hr3 : 0 ≤ cS A (A 1).toNat ∧ cS A (A 1).toNat ≤ (A 1).toNat := smb_rng (fun i => srvF A i (A 4)) (A 1).toNat
    refine v_iload5 d_M_count_47 ?_
    refine v_aload0 d_M_count_49 ?_
    refine v_getR d_M_count_50 f_M_7 (sh_55 T) rfl ?_
    refine v_iconst d_M_count_53 ?_
    refine v_ialoadE hA1 d_M_count_54 (sh_56 T) (by omega) (fun g54 => ?_)
    refine v_icmp_ge d_M_count_55 (by omega) (by omega) (fun u55 => ?_) (fun u55 => ?_)
    · omega
    · refine v_iload3 d_M_count_58 ?_
      refine v_aload0 d_M_count_59 ?_
      refine v_iload5 d_M_count_60 ?_
      refine v_fVZ1 d_M_count_62 l_M_261 k_M_isCrowns (c_M_isCrowns hA1 hO (by omega)) (sh_55 T) rfl (by decide) (by decide) (Nat.le_of_ble_eq_true rfl) (Nat.zero_le _) (Nat.zero_le _) (fun g62 => ?_)
      refine v_ifb_eq d_M_count_65 (fun u65 => ?_) (fun u65 => ?_)
      · refine v_iconst d_M_count_72 ?_
        refine v_iadd d_M_count_73 ?_
        refine v_istore3 d_M_count_74 (by decide) rfl ?_
        refine v_iload4 d_M_count_75 ?_
        refine v_aload0 d_M_count_77 ?_
        refine v_iload5 d_M_count_78 ?_
        refine v_gVZ1 d_M_count_80 l_M_90 k_M_isOver (c_M_isOver hA1 hO (by omega)) (sh_55 T) rfl (by decide) (by decide) (Nat.le_of_ble_eq_true rfl) (Nat.zero_le _) (Nat.zero_le _) (fun z80 s80 g80 e80 => ?_)
        have hA80 : s80 56 = A := by rw [e80.2 56 (by decide)]; exact hA1
        have h80 := e80.1
        have hb80 := b01_rng (p := overP A i)
        refine v_if_eq d_M_count_83 (by omega) (fun u83 => ?_) (fun u83 => ?_)
        · refine v_iconst d_M_count_90 ?_
          refine v_iadd d_M_count_91 ?_
          refine v_istore4 d_M_count_92 (by decide) rfl ?_
          refine v_iinc5 d_M_count_94 (by decide) rfl ?_
          refine v_goto d_M_count_97 ?_
          have e1 : cC A (j + 1) = cw + b01 (crwP A i) := by rw [hc, hi]; rfl
          have e2 : cO A (j + 1) = ov + b01 (overP A i) := by rw [hv, hi]; rfl
          exact ih (j + 1) _ _ _ _ (by omega) (by omega) (hσ.trans' e80.2) (by rw [e1]; first | rw [← b01_1 u65] | rw [← b01_0 u65]) (by rw [e2]; omega)
        · refine v_iconst d_M_count_86 ?_
          refine v_goto d_M_count_87 ?_
          refine v_iadd d_M_count_91 ?_
          refine v_istore4 d_M_count_92 (by decide) rfl ?_
          refine v_iinc5 d_M_count_94 (by decide) rfl ?_
          refine v_goto d_M_count_97 ?_
          have e1 : cC A (j + 1) = cw + b01 (crwP A i) := by rw [hc, hi]; rfl
          have e2 : cO A (j + 1) = ov + b01 (overP A i) := by rw [hv, hi]; rfl
          exact ih (j + 1) _ _ _ _ (by omega) (by omega) (hσ.trans' e80.2) (by rw [e1]; first | rw [← b01_1 u65] | rw [← b01_0 u65]) (by rw [e2]; omega)
      · refine v_iconst d_M_count_68 ?_
        refine v_goto d_M_count_69 ?_
        refine v_iadd d_M_count_73 ?_
        refine v_istore3 d_M_count_74 (by decide) rfl ?_
        refine v_iload4 d_M_count_75 ?_
        refine v_aload0 d_M_count_77 ?_
        refine v_iload5 d_M_count_78 ?_
        refine v_gVZ1 d_M_count_80 l_M_90 k_M_isOver (c_M_isOver hA1 hO (by omega)) (sh_55 T) rfl (by decide) (by decide) (Nat.le_of_ble_eq_true rfl) (Nat.zero_le _) (Nat.zero_le _) (fun z80 s80 g80 e80 => ?_)
        have hA80 : s80 56 = A := by rw [e80.2 56 (by decide)]; exact hA1
        have h80 := e80.1
        have hb80 := b01_rng (p := overP A i)
        refine v_if_eq d_M_count_83 (by omega) (fun u83 => ?_) (fun u83 => ?_)
        · refine v_iconst d_M_count_90 ?_
          refine v_iadd d_M_count_91 ?_
          refine v_istore4 d_M_count_92 (by decide) rfl ?_
          refine v_iinc5 d_M_count_94 (by decide) rfl ?_
          refine v_goto d_M_count_97 ?_
          have e1 : cC A (j + 1) = cw + b01 (crwP A i) := by rw [hc, hi]; rfl
          have e2 : cO A (j + 1) = ov + b01 (overP A i) := by rw [hv, hi]; rfl
          exact ih (j + 1) _ _ _ _ (by omega) (by omega) (hσ.trans' e80.2) (by rw [e1]; first | rw [← b01_1 u65] | rw [← b01_0 u65]) (by rw [e2]; omega)
        · refine v_iconst d_M_count_86 ?_
          refine v_goto d_M_count_87 ?_
          refine v_iadd d_M_count_91 ?_
          refine v_istore4 d_M_count_92 (by decide) rfl ?_
          refine v_iinc5 d_M_count_94 (by decide) rfl ?_
          refine v_goto d_M_count_97 ?_
          have e1 : cC A (j + 1) = cw + b01 (crwP A i) := by rw [hc, hi]; rfl
          have e2 : cO A (j + 1) = ov + b01 (overP A i) := by rw [hv, hi]; rfl
          exact ih (j + 1) _ _ _ _ (by omega) (by omega) (hσ.trans' e80.2) (by rw [e1]; first | rw [← b01_1 u65] | rw [← b01_0 u65]) (by rw [e2]; omega)

theorem c_M_count_10 {T : vSh} {σ : vMem} {cx : vCx} {A : Int → Int} (hA : σ 56 = A) (hO : okA A) {w : Int} (h0 : vIn w) (hM : vM cx 0 0 (some .int) (rP (S0 ++ T) (fun z σ2 => z = rCount A w ∧ MF σ σ2))) : ∀ (n j : Nat) (sv cw ov i : Int), (j : Int) + n = A 1 → i = j → sv = cS A j → cw = 0 → ov = 0 → vV cx y_M_count.cls prog_14_method_103_code 6 8 0 0 0 0 10 [some (.ref 55), some (.int (iI w)), some (.int (iI sv)), some (.int (iI cw)), some (.int (iI ov)), some (.int (iI i))] [] (S0 ++ T) σ := by
  intro n
  induction n with
  | zero =>
    intro j sv cw ov i hj hi hs hc hv
    obtain ⟨⟨q0, q1, q2, q3, q4, q5, q6, q7⟩, hVi, hWe, hCo, hOf, hBo, hWo, hMo, hRe, hLi, hTa⟩ := id hO
    have hr1 : 0 ≤ cS A j ∧ cS A j ≤ j := smb_rng (fun v => srvF A v (A 4)) j
    refine v_iload5 d_M_count_10 ?_
    refine v_aload0 d_M_count_12 ?_
    refine v_getR d_M_count_13 f_M_7 (sh_55 T) rfl ?_
    refine v_iconst d_M_count_16 ?_
    refine v_ialoadE hA d_M_count_17 (sh_56 T) (by omega) (fun g17 => ?_)
    refine v_icmp_ge d_M_count_18 (by omega) (by omega) (fun u18 => ?_) (fun u18 => ?_)
    · refine v_iconst d_M_count_44 ?_
      refine v_istore5 d_M_count_45 (by decide) rfl ?_
      exact c_M_count_47 hA hO h0 hM (by rw [hs]; congr 1; omega) (A 0).toNat 0 _ _ _ _ (by omega) rfl MF.rfl' hc hv
    · omega
  | succ n ih =>
    intro j sv cw ov i hj hi hs hc hv
    obtain ⟨⟨q0, q1, q2, q3, q4, q5, q6, q7⟩, hVi, hWe, hCo, hOf, hBo, hWo, hMo, hRe, hLi, hTa⟩ := id hO
    have hr1 : 0 ≤ cS A j ∧ cS A j ≤ j := smb_rng (fun v => srvF A v (A 4)) j
    refine v_iload5 d_M_count_10 ?_
    refine v_aload0 d_M_count_12 ?_
    refine v_getR d_M_count_13 f_M_7 (sh_55 T) rfl ?_
    refine v_iconst d_M_count_16 ?_
    refine v_ialoadE hA d_M_count_17 (sh_56 T) (by omega) (fun g17 => ?_)
    refine v_icmp_ge d_M_count_18 (by omega) (by omega) (fun u18 => ?_) (fun u18 => ?_)
    · omega
    · refine v_iload2 d_M_count_21 ?_
      refine v_aload0 d_M_count_22 ?_
      refine v_iload5 d_M_count_23 ?_
      refine v_fVZ1 d_M_count_25 l_M_258 k_M_servesNow (c_M_servesNow hA hO (by omega)) (sh_55 T) rfl (by decide) (by decide) (Nat.le_of_ble_eq_true rfl) (Nat.zero_le _) (Nat.zero_le _) (fun g25 => ?_)
      refine v_ifb_eq d_M_count_28 (fun u28 => ?_) (fun u28 => ?_)
      · refine v_iconst d_M_count_35 ?_
        refine v_iadd d_M_count_36 ?_
        refine v_istore2 d_M_count_37 (by decide) rfl ?_
        refine v_iinc5 d_M_count_38 (by decide) rfl ?_
        refine v_goto d_M_count_41 ?_
        have e1 : cS A (j + 1) = sv + b01 (srvF A i (A 4)) := by rw [hs, hi]; rfl
        exact ih (j + 1) _ _ _ _ (by omega) (by omega) (by rw [e1]; first | rw [← b01_1 u28.2] | rw [← b01_0 (fun z => u28 ⟨by omega, z⟩)]) hc hv
      · refine v_iconst d_M_count_31 ?_
        refine v_goto d_M_count_32 ?_
        refine v_iadd d_M_count_36 ?_
        refine v_istore2 d_M_count_37 (by decide) rfl ?_
        refine v_iinc5 d_M_count_38 (by decide) rfl ?_
        refine v_goto d_M_count_41 ?_
        have e1 : cS A (j + 1) = sv + b01 (srvF A i (A 4)) := by rw [hs, hi]; rfl
        exact ih (j + 1) _ _ _ _ (by omega) (by omega) (by rw [e1]; first | rw [← b01_1 u28.2] | rw [← b01_0 (fun z => u28 ⟨by omega, z⟩)]) hc hv

theorem c_M_count {T : vSh} {σ : vMem} {A : Int → Int} (hA : σ 56 = A) (hO : okA A) {w : Int} (h0 : vIn w) : mt_M_count [.ref 55, .int (iI w)] (S0 ++ T) σ (rP (S0 ++ T) (fun z σ2 => z = rCount A w ∧ MF σ σ2)) := by
  refine vMet.intro 4 (by decide +kernel) (Nat.le_of_ble_eq_true rfl) rfl (fun cx hM _ => ?_)
  obtain ⟨⟨q0, q1, q2, q3, q4, q5, q6, q7⟩, hVi, hWe, hCo, hOf, hBo, hWo, hMo, hRe, hLi, hTa⟩ := id hO
  refine v_iconst d_M_count_0 ?_
  refine v_istore2 d_M_count_1 (by decide) rfl ?_
  refine v_iconst d_M_count_2 ?_
  refine v_istore3 d_M_count_3 (by decide) rfl ?_
  refine v_iconst d_M_count_4 ?_
  refine v_istore4 d_M_count_5 (by decide) rfl ?_
  refine v_iconst d_M_count_7 ?_
  refine v_istore5 d_M_count_8 (by decide) rfl ?_
  exact c_M_count_10 hA hO h0 hM (A 1).toNat 0 _ _ _ _ (by omega) rfl rfl rfl rfl

