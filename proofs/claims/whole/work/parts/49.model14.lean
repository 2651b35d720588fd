theorem v_iastoreE {cx : vCx} {own : String} {cc : ByteArray} {nL d MC MS kc ks pc pc' : Nat} {L : List (Option Value)} {st : List Value} {S : vSh} {σ : vMem} {A : Int → Int} {n : Nat} {i v : Int} (hA : σ 56 = A) (hd : vD cc pc (.iastore) 1 pc') (hr : S[56]? = some (.inl (0, n))) (hi : 0 ≤ i ∧ i < n) (hv : vIn v) (k : ∀ σ' : vMem, (∀ k, k ≠ 56 → σ' k = σ k) → σ' 56 = upF A i v → vV cx own cc nL d MC MS kc ks pc' L st S σ') : vV cx own cc nL d MC MS kc ks pc L (.int (iI v) :: .int (iI i) :: .ref 56 :: st) S σ := v_iastore hd hr hi hv (k _ (fun k hk => vUp_ne hk) (by rw [vUp_fn, hA]))
/-- what a write makes of the row, and what it answers -/
abbrev WrT : Type := (Int → Int) × Int
def wWe (A : Int → Int) (s p : Int) : WrT := if (A 4 / 60 ≤ s ∧ s ≤ 19) ∧ 0 ≤ p ∧ p ≤ 200 then (weA A s p, 1) else (A, 0)
def wSq (A : Int → Int) (v p : Int) : WrT := if (0 ≤ v ∧ v < A 0) ∧ 50 ≤ p ∧ p ≤ 150 then (sqA A v p, 1) else (A, 0)
def wOf (A : Int → Int) (r k : Int) : WrT := if A 1 < 10 ∧ (0 ≤ r ∧ r ≤ 9) ∧ 0 ≤ k ∧ k ≤ 9 then (ofA A r k, A 1) else (A, -1)
def wDi (A : Int → Int) (oo : Int) : WrT := if (0 ≤ oo ∧ oo < A 1) ∧ A (360 + 4 * oo + 3) < 0 then (diA A oo, 1) else (A, 0)
def wGi (A : Int → Int) (v oo dd : Int) : WrT := if A 2 < 100 ∧ (0 ≤ v ∧ v < A 0) ∧ (-1 ≤ oo ∧ oo < A 1) ∧ 0 ≤ dd ∧ dd < 1200 then (orA A 0 v oo dd, A 2) else (A, -1)
def wRa (A : Int → Int) (oo r dd : Int) : WrT := if A 2 < 100 ∧ (0 ≤ oo ∧ oo < A 1) ∧ (0 ≤ r ∧ r ≤ 9) ∧ 0 ≤ dd ∧ dd < 1200 then (orA A 1 r oo dd, A 2) else (A, -1)
def wEn (A : Int → Int) (n : Int) : WrT := if 0 ≤ n ∧ n ≤ A 7 then (enA A n, n) else (A, -1)
abbrev mvE2 (A : Int → Int) (oo v m : Int) : Prop := A (400 + 2 * m) = oo ∨ A (400 + 2 * m + 1) = v
def wMo (A : Int → Int) (oo v : Int) : WrT := if A 5 < 12 ∧ (0 ≤ v ∧ v < A 0) ∧ ((0 ≤ oo ∧ oo < A 1) ∧ srvF A oo (A 4)) ∧ fst (mvE2 A oo v) (A 5).toNat < 0 then (moA A oo v, A 5) else (A, -1)
def wSa (A : Int → Int) (w v s c : Int) : WrT := if A 6 < 100 ∧ (0 ≤ w ∧ w ≤ 4) ∧ (0 ≤ v ∧ v < A 0) ∧ (0 ≤ s ∧ s < 20) ∧ 0 ≤ c ∧ c ≤ 9999 then (saA A w v s c, A 6) else (A, -1)
def wVi (A : Int → Int) (p x y : Int) : WrT := if A 0 < 12 ∧ (1 ≤ p ∧ p ≤ 9999) ∧ (0 ≤ x ∧ x ≤ 50) ∧ 0 ≤ y ∧ y ≤ 50 then (viA A p x y, A 0) else (A, -1)
theorem c_M_weather {T : vSh} {σ : vMem} {A : Int → Int} (hA : σ 56 = A) (hO : okA A) {s p : Int} (h0 : vIn s) (h1 : vIn p) : mt_M_weather [.ref 55, .int (iI s), .int (iI p)] (S0 ++ T) σ (rP (S0 ++ T) (fun z σ2 => z = (wWe A s p).2 ∧ (∀ k, k ≠ 56 → σ2 k = σ k) ∧ σ2 56 = (wWe A s p).1)) := by
  refine vMet.intro 0 (by decide +kernel) (Nat.le_of_ble_eq_true rfl) rfl (fun cx hM _ => ?_)
  obtain ⟨⟨q0, q1, q2, q3, q4, q5, q6, q7⟩, hVi, hWe, hCo, hOf, hBo, hWo, hMo, hRe, hLi, hTa⟩ := id hO
  refine v_iload1 d_M_weather_0 ?_
  refine v_aload0 d_M_weather_1 ?_
  refine v_fVI0 d_M_weather_2 l_M_60 k_M_ended (c_M_ended hA (by omega)) (sh_55 T) rfl (by decide) (by decide) (Nat.le_of_ble_eq_true rfl) (Nat.zero_le _) (Nat.zero_le _) (fun g2 => ?_)
  refine v_bipush d_M_weather_5 rfl ?_
  refine v_fSZ3 d_M_weather_7 l_M_56 k_M_isIn (c_M_isIn (by omega) (by omega) (by omega)) (by decide) (by decide) (Nat.le_of_ble_eq_true rfl) (Nat.zero_le _) (Nat.zero_le _) (fun g7 => ?_)
  refine v_ifb_eq d_M_weather_10 (fun u10 => ?_) (fun u10 => ?_)
  · refine v_iconst d_M_weather_24 ?_
    first
    | (exact v_zreturn hM d_M_weather_25 (Or.inr rfl) ⟨rfl, by rw [wWe, if_pos (by omega)]; try (dsimp only; omega), fun k hk => by rw [f35 k hk], by rw [wWe, if_pos (by omega)]; exact hA35⟩)
    | (exact v_zreturn hM d_M_weather_25 (Or.inl rfl) ⟨rfl, by rw [wWe, if_neg (by omega)], fun k _ => rfl, by rw [wWe, if_neg (by omega)]; exact hA⟩)
  · refine v_iload2 d_M_weather_13 ?_
    refine v_iconst d_M_weather_14 ?_
    refine v_sipush d_M_weather_15 rfl ?_
    refine v_fSZ3 d_M_weather_18 l_M_56 k_M_isIn (c_M_isIn (by omega) (by omega) (by omega)) (by decide) (by decide) (Nat.le_of_ble_eq_true rfl) (Nat.zero_le _) (Nat.zero_le _) (fun g18 => ?_)
    refine v_ifb_ne d_M_weather_21 (fun u21 => ?_) (fun u21 => ?_)
    · refine v_aload0 d_M_weather_26 ?_
      refine v_getR d_M_weather_27 f_M_7 (sh_55 T) rfl ?_
      refine v_bipush d_M_weather_30 rfl ?_
      refine v_iload1 d_M_weather_32 ?_
      refine v_iadd d_M_weather_33 ?_
      refine v_iload2 d_M_weather_34 ?_
      refine v_iastoreE hA d_M_weather_35 (sh_56 T) (by omega) (by omega) (fun m35 f35 hA35 => ?_)
      refine v_iconst d_M_weather_36 ?_
      first
      | (exact v_zreturn hM d_M_weather_37 (Or.inr rfl) ⟨rfl, by rw [wWe, if_pos (by omega)]; try (dsimp only; omega), fun k hk => by rw [f35 k hk], by rw [wWe, if_pos (by omega)]; exact hA35⟩)
      | (exact v_zreturn hM d_M_weather_37 (Or.inl rfl) ⟨rfl, by rw [wWe, if_neg (by omega)], fun k _ => rfl, by rw [wWe, if_neg (by omega)]; exact hA⟩)
    · refine v_iconst d_M_weather_24 ?_
      first
      | (exact v_zreturn hM d_M_weather_25 (Or.inr rfl) ⟨rfl, by rw [wWe, if_pos (by omega)]; try (dsimp only; omega), fun k hk => by rw [f35 k hk], by rw [wWe, if_pos (by omega)]; exact hA35⟩)
      | (exact v_zreturn hM d_M_weather_25 (Or.inl rfl) ⟨rfl, by rw [wWe, if_neg (by omega)], fun k _ => rfl, by rw [wWe, if_neg (by omega)]; exact hA⟩)

theorem c_M_squeeze {T : vSh} {σ : vMem} {A : Int → Int} (hA : σ 56 = A) (hO : okA A) {v p : Int} (h0 : vIn v) (h1 : vIn p) : mt_M_squeeze [.ref 55, .int (iI v), .int (iI p)] (S0 ++ T) σ (rP (S0 ++ T) (fun z σ2 => z = (wSq A v p).2 ∧ (∀ k, k ≠ 56 → σ2 k = σ k) ∧ σ2 56 = (wSq A v p).1)) := by
  refine vMet.intro 0 (by decide +kernel) (Nat.le_of_ble_eq_true rfl) rfl (fun cx hM _ => ?_)
  obtain ⟨⟨q0, q1, q2, q3, q4, q5, q6, q7⟩, hVi, hWe, hCo, hOf, hBo, hWo, hMo, hRe, hLi, hTa⟩ := id hO
  refine v_aload0 d_M_squeeze_0 ?_
  refine v_iload1 d_M_squeeze_1 ?_
  refine v_iconst d_M_squeeze_2 ?_
  refine v_fVZ2 d_M_squeeze_3 l_M_64 k_M_isOf (c_M_isOf hA (by omega) (by omega) (by omega)) (sh_55 T) rfl (by decide) (by decide) (Nat.le_of_ble_eq_true rfl) (Nat.zero_le _) (Nat.zero_le _) (fun g3 => ?_)
  refine v_ifb_eq d_M_squeeze_6 (fun u6 => ?_) (fun u6 => ?_)
  · refine v_iconst d_M_squeeze_21 ?_
    first
    | (exact v_zreturn hM d_M_squeeze_22 (Or.inr rfl) ⟨rfl, by rw [wSq, if_pos (by omega)]; try (dsimp only; omega), fun k hk => by rw [f37 k hk], by rw [wSq, if_pos (by omega)]; exact hA37⟩)
    | (exact v_zreturn hM d_M_squeeze_22 (Or.inl rfl) ⟨rfl, by rw [wSq, if_neg (by omega)], fun k _ => rfl, by rw [wSq, if_neg (by omega)]; exact hA⟩)
  · refine v_iload2 d_M_squeeze_9 ?_
    refine v_bipush d_M_squeeze_10 rfl ?_
    refine v_sipush d_M_squeeze_12 rfl ?_
    refine v_fSZ3 d_M_squeeze_15 l_M_56 k_M_isIn (c_M_isIn (by omega) (by omega) (by omega)) (by decide) (by decide) (Nat.le_of_ble_eq_true rfl) (Nat.zero_le _) (Nat.zero_le _) (fun g15 => ?_)
    refine v_ifb_ne d_M_squeeze_18 (fun u18 => ?_) (fun u18 => ?_)
    · refine v_aload0 d_M_squeeze_23 ?_
      refine v_getR d_M_squeeze_24 f_M_7 (sh_55 T) rfl ?_
      refine v_bipush d_M_squeeze_27 rfl ?_
      refine v_bipush d_M_squeeze_29 rfl ?_
      refine v_iload1 d_M_squeeze_31 ?_
      refine v_imul d_M_squeeze_32 ?_
      refine v_iadd d_M_squeeze_33 ?_
      refine v_iconst d_M_squeeze_34 ?_
      refine v_iadd d_M_squeeze_35 ?_
      refine v_iload2 d_M_squeeze_36 ?_
      refine v_iastoreE hA d_M_squeeze_37 (sh_56 T) (by omega) (by omega) (fun m37 f37 hA37 => ?_)
      refine v_iconst d_M_squeeze_38 ?_
      first
      | (exact v_zreturn hM d_M_squeeze_39 (Or.inr rfl) ⟨rfl, by rw [wSq, if_pos (by omega)]; try (dsimp only; omega), fun k hk => by rw [f37 k hk], by rw [wSq, if_pos (by omega)]; exact hA37⟩)
      | (exact v_zreturn hM d_M_squeeze_39 (Or.inl rfl) ⟨rfl, by rw [wSq, if_neg (by omega)], fun k _ => rfl, by rw [wSq, if_neg (by omega)]; exact hA⟩)
    · refine v_iconst d_M_squeeze_21 ?_
      first
      | (exact v_zreturn hM d_M_squeeze_22 (Or.inr rfl) ⟨rfl, by rw [wSq, if_pos (by omega)]; try (dsimp only; omega), fun k hk => by rw [f37 k hk], by rw [wSq, if_pos (by omega)]; exact hA37⟩)
      | (exact v_zreturn hM d_M_squeeze_22 (Or.inl rfl) ⟨rfl, by rw [wSq, if_neg (by omega)], fun k _ => rfl, by rw [wSq, if_neg (by omega)]; exact hA⟩)

theorem c_M_officer {T : vSh} {σ : vMem} {A : Int → Int} (hA : σ 56 = A) (hO : okA A) {r k : Int} (h0 : vIn r) (h1 : vIn k) : mt_M_officer [.ref 55, .int (iI r), .int (iI k)] (S0 ++ T) σ (rP (S0 ++ T) (fun z σ2 => z = (wOf A r k).2 ∧ (∀ k, k ≠ 56 → σ2 k = σ k) ∧ σ2 56 = (wOf A r k).1)) := by
  refine vMet.intro 1 (by decide +kernel) (Nat.le_of_ble_eq_true rfl) rfl (fun cx hM _ => ?_)
  obtain ⟨⟨q0, q1, q2, q3, q4, q5, q6, q7⟩, hVi, hWe, hCo, hOf, hBo, hWo, hMo, hRe, hLi, hTa⟩ := id hO
  refine v_aload0 d_M_officer_0 ?_
  refine v_getR d_M_officer_1 f_M_7 (sh_55 T) rfl ?_
  refine v_iconst d_M_officer_4 ?_
  refine v_ialoadE hA d_M_officer_5 (sh_56 T) (by omega) (fun g5 => ?_)
  refine v_bipush d_M_officer_6 rfl ?_
  refine v_icmp_eq d_M_officer_8 (by omega) (by omega) (fun u8 => ?_) (fun u8 => ?_)
  · refine v_iconst d_M_officer_31 ?_
    first
    | (exact v_ireturn hM d_M_officer_32 (by omega) ⟨rfl, by rw [wOf, if_pos (by omega)]; try (dsimp only; omega), fun k hk => by rw [f94 k hk, f84 k hk, f75 k hk, f61 k hk, f52 k hk], by rw [wOf, if_pos (by omega)]; exact hA94⟩)
    | (exact v_ireturn hM d_M_officer_32 (by omega) ⟨rfl, by rw [wOf, if_neg (by omega)], fun k _ => rfl, by rw [wOf, if_neg (by omega)]; exact hA⟩)
  · refine v_iload1 d_M_officer_11 ?_
    refine v_iconst d_M_officer_12 ?_
    refine v_bipush d_M_officer_13 rfl ?_
    refine v_fSZ3 d_M_officer_15 l_M_56 k_M_isIn (c_M_isIn (by omega) (by omega) (by omega)) (by decide) (by decide) (Nat.le_of_ble_eq_true rfl) (Nat.zero_le _) (Nat.zero_le _) (fun g15 => ?_)
    refine v_ifb_eq d_M_officer_18 (fun u18 => ?_) (fun u18 => ?_)
    · refine v_iconst d_M_officer_31 ?_
      first
      | (exact v_ireturn hM d_M_officer_32 (by omega) ⟨rfl, by rw [wOf, if_pos (by omega)]; try (dsimp only; omega), fun k hk => by rw [f94 k hk, f84 k hk, f75 k hk, f61 k hk, f52 k hk], by rw [wOf, if_pos (by omega)]; exact hA94⟩)
      | (exact v_ireturn hM d_M_officer_32 (by omega) ⟨rfl, by rw [wOf, if_neg (by omega)], fun k _ => rfl, by rw [wOf, if_neg (by omega)]; exact hA⟩)
    · refine v_iload2 d_M_officer_21 ?_
      refine v_iconst d_M_officer_22 ?_
      refine v_bipush d_M_officer_23 rfl ?_
      refine v_fSZ3 d_M_officer_25 l_M_56 k_M_isIn (c_M_isIn (by omega) (by omega) (by omega)) (by decide) (by decide) (Nat.le_of_ble_eq_true rfl) (Nat.zero_le _) (Nat.zero_le _) (fun g25 => ?_)
      refine v_ifb_ne d_M_officer_28 (fun u28 => ?_) (fun u28 => ?_)
      · refine v_sipush d_M_officer_33 rfl ?_
        refine v_iconst d_M_officer_36 ?_
        refine v_aload0 d_M_officer_37 ?_
        refine v_getR d_M_officer_38 f_M_7 (sh_55 T) rfl ?_
        refine v_iconst d_M_officer_41 ?_
        refine v_ialoadE hA d_M_officer_42 (sh_56 T) (by omega) (fun g42 => ?_)
        refine v_imul d_M_officer_43 ?_
        refine v_iadd d_M_officer_44 ?_
        refine v_istore3 d_M_officer_45 (by decide) rfl ?_
        refine v_aload0 d_M_officer_46 ?_
        refine v_getR d_M_officer_47 f_M_7 (sh_55 T) rfl ?_
        refine v_iload3 d_M_officer_50 ?_
        refine v_iload1 d_M_officer_51 ?_
        refine v_iastoreE hA d_M_officer_52 (sh_56 T) (by omega) (by omega) (fun m52 f52 hA52 => ?_)
        refine v_aload0 d_M_officer_53 ?_
        refine v_getR d_M_officer_54 f_M_7 (sh_55 T) rfl ?_
        refine v_iload3 d_M_officer_57 ?_
        refine v_iconst d_M_officer_58 ?_
        refine v_iadd d_M_officer_59 ?_
        refine v_iload2 d_M_officer_60 ?_
        refine v_iastoreE hA52 d_M_officer_61 (sh_56 T) (by omega) (by omega) (fun m61 f61 hA61 => ?_)
        refine v_aload0 d_M_officer_62 ?_
        refine v_getR d_M_officer_63 f_M_7 (sh_55 T) rfl ?_
        refine v_iload3 d_M_officer_66 ?_
        refine v_iconst d_M_officer_67 ?_
        refine v_iadd d_M_officer_68 ?_
        refine v_aload0 d_M_officer_69 ?_
        refine v_getR d_M_officer_70 f_M_7 (sh_55 T) rfl ?_
        refine v_iconst d_M_officer_73 ?_
        refine v_ialoadE hA61 d_M_officer_74 (sh_56 T) (by omega) (fun g74 => ?_)
        rw [upF_n (by omega), upF_n (by omega)] at g74
        rw [upF_n (by omega), upF_n (by omega)]
        refine v_iastoreE hA61 d_M_officer_75 (sh_56 T) (by omega) (by omega) (fun m75 f75 hA75 => ?_)
        refine v_aload0 d_M_officer_76 ?_
        refine v_getR d_M_officer_77 f_M_7 (sh_55 T) rfl ?_
        refine v_iload3 d_M_officer_80 ?_
        refine v_iconst d_M_officer_81 ?_
        refine v_iadd d_M_officer_82 ?_
        refine v_iconst d_M_officer_83 ?_
        refine v_iastoreE hA75 d_M_officer_84 (sh_56 T) (by omega) (by omega) (fun m84 f84 hA84 => ?_)
        refine v_aload0 d_M_officer_85 ?_
        refine v_getR d_M_officer_86 f_M_7 (sh_55 T) rfl ?_
        refine v_iconst d_M_officer_89 ?_
        refine v_dup2 d_M_officer_90 rfl rfl ?_
        refine v_ialoadE hA84 d_M_officer_91 (sh_56 T) (by omega) (fun g91 => ?_)
        rw [upF_n (by omega), upF_n (by omega), upF_n (by omega), upF_n (by omega)] at g91
        rw [upF_n (by omega), upF_n (by omega), upF_n (by omega), upF_n (by omega)]
        refine v_iconst d_M_officer_92 ?_
        refine v_iadd d_M_officer_93 ?_
        refine v_iastoreE hA84 d_M_officer_94 (sh_56 T) (by omega) (by omega) (fun m94 f94 hA94 => ?_)
        refine v_aload0 d_M_officer_95 ?_
        refine v_getR d_M_officer_96 f_M_7 (sh_55 T) rfl ?_
        refine v_iconst d_M_officer_99 ?_
        refine v_ialoadE hA94 d_M_officer_100 (sh_56 T) (by omega) (fun g100 => ?_)
        rw [upF_s] at g100
        rw [upF_s]
        refine v_iconst d_M_officer_101 ?_
        refine v_isub d_M_officer_102 ?_
        first
        | (exact v_ireturn hM d_M_officer_103 (by omega) ⟨rfl, by rw [wOf, if_pos (by omega)]; try (dsimp only; omega), fun k hk => by rw [f94 k hk, f84 k hk, f75 k hk, f61 k hk, f52 k hk], by rw [wOf, if_pos (by omega)]; exact hA94⟩)
        | (exact v_ireturn hM d_M_officer_103 (by omega) ⟨rfl, by rw [wOf, if_neg (by omega)], fun k _ => rfl, by rw [wOf, if_neg (by omega)]; exact hA⟩)
      · refine v_iconst d_M_officer_31 ?_
        first
        | (exact v_ireturn hM d_M_officer_32 (by omega) ⟨rfl, by rw [wOf, if_pos (by omega)]; try (dsimp only; omega), fun k hk => by rw [f94 k hk, f84 k hk, f75 k hk, f61 k hk, f52 k hk], by rw [wOf, if_pos (by omega)]; exact hA94⟩)
        | (exact v_ireturn hM d_M_officer_32 (by omega) ⟨rfl, by rw [wOf, if_neg (by omega)], fun k _ => rfl, by rw [wOf, if_neg (by omega)]; exact hA⟩)

theorem c_M_dies {T : vSh} {σ : vMem} {A : Int → Int} (hA : σ 56 = A) (hO : okA A) {oo : Int} (h0 : vIn oo) : mt_M_dies [.ref 55, .int (iI oo)] (S0 ++ T) σ (rP (S0 ++ T) (fun z σ2 => z = (wDi A oo).2 ∧ (∀ k, k ≠ 56 → σ2 k = σ k) ∧ σ2 56 = (wDi A oo).1)) := by
  refine vMet.intro 0 (by decide +kernel) (Nat.le_of_ble_eq_true rfl) rfl (fun cx hM _ => ?_)
  obtain ⟨⟨q0, q1, q2, q3, q4, q5, q6, q7⟩, hVi, hWe, hCo, hOf, hBo, hWo, hMo, hRe, hLi, hTa⟩ := id hO
  refine v_aload0 d_M_dies_0 ?_
  refine v_iload1 d_M_dies_1 ?_
  refine v_iconst d_M_dies_2 ?_
  refine v_fVZ2 d_M_dies_3 l_M_64 k_M_isOf (c_M_isOf hA (by omega) (by omega) (by omega)) (sh_55 T) rfl (by decide) (by decide) (Nat.le_of_ble_eq_true rfl) (Nat.zero_le _) (Nat.zero_le _) (fun g3 => ?_)
  refine v_ifb_eq d_M_dies_6 (fun u6 => ?_) (fun u6 => ?_)
  · refine v_iconst d_M_dies_18 ?_
    first
    | (exact v_zreturn hM d_M_dies_19 (Or.inr rfl) ⟨rfl, by rw [wDi, if_pos (by omega)]; try (dsimp only; omega), fun k hk => by rw [f39 k hk], by rw [wDi, if_pos (by omega)]; exact hA39⟩)
    | (exact v_zreturn hM d_M_dies_19 (Or.inl rfl) ⟨rfl, by rw [wDi, if_neg (by omega)], fun k _ => rfl, by rw [wDi, if_neg (by omega)]; exact hA⟩)
  · refine v_aload0 d_M_dies_9 ?_
    refine v_iload1 d_M_dies_10 ?_
    refine v_iconst d_M_dies_11 ?_
    refine v_fVI2 d_M_dies_12 l_M_98 k_M_officer0 (c_M_officer0 hA (by omega)) (sh_55 T) rfl (by decide) (by decide) (Nat.le_of_ble_eq_true rfl) (Nat.zero_le _) (Nat.zero_le _) (fun g12 => ?_)
    refine v_if_lt d_M_dies_15 (by omega) (fun u15 => ?_) (fun u15 => ?_)
    · refine v_aload0 d_M_dies_20 ?_
      refine v_getR d_M_dies_21 f_M_7 (sh_55 T) rfl ?_
      refine v_sipush d_M_dies_24 rfl ?_
      refine v_iconst d_M_dies_27 ?_
      refine v_iload1 d_M_dies_28 ?_
      refine v_imul d_M_dies_29 ?_
      refine v_iadd d_M_dies_30 ?_
      refine v_iconst d_M_dies_31 ?_
      refine v_iadd d_M_dies_32 ?_
      refine v_aload0 d_M_dies_33 ?_
      refine v_getR d_M_dies_34 f_M_7 (sh_55 T) rfl ?_
      refine v_iconst d_M_dies_37 ?_
      refine v_ialoadE hA d_M_dies_38 (sh_56 T) (by omega) (fun g38 => ?_)
      refine v_iastoreE hA d_M_dies_39 (sh_56 T) (by omega) (by omega) (fun m39 f39 hA39 => ?_)
      refine v_iconst d_M_dies_40 ?_
      first
      | (exact v_zreturn hM d_M_dies_41 (Or.inr rfl) ⟨rfl, by rw [wDi, if_pos (by omega)]; try (dsimp only; omega), fun k hk => by rw [f39 k hk], by rw [wDi, if_pos (by omega)]; exact hA39⟩)
      | (exact v_zreturn hM d_M_dies_41 (Or.inl rfl) ⟨rfl, by rw [wDi, if_neg (by omega)], fun k _ => rfl, by rw [wDi, if_neg (by omega)]; exact hA⟩)
    · refine v_iconst d_M_dies_18 ?_
      first
      | (exact v_zreturn hM d_M_dies_19 (Or.inr rfl) ⟨rfl, by rw [wDi, if_pos (by omega)]; try (dsimp only; omega), fun k hk => by rw [f39 k hk], by rw [wDi, if_pos (by omega)]; exact hA39⟩)
      | (exact v_zreturn hM d_M_dies_19 (Or.inl rfl) ⟨rfl, by rw [wDi, if_neg (by omega)], fun k _ => rfl, by rw [wDi, if_neg (by omega)]; exact hA⟩)

theorem c_M_orders {T : vSh} {σ : vMem} {A : Int → Int} (hA : σ 56 = A) (hO : okA A) {kind what oo from' : Int} (h0 : vIn kind) (h1 : vIn what) (h2 : vIn oo) (h3 : vIn from') (hn : A 2 < 100) : mt_M_orders [.ref 55, .int (iI kind), .int (iI what), .int (iI oo), .int (iI from')] (S0 ++ T) σ (rP (S0 ++ T) (fun z σ2 => z = A 2 ∧ (∀ k, k ≠ 56 → σ2 k = σ k) ∧ σ2 56 = orA A kind what oo from')) := by
  refine vMet.intro 1 (by decide +kernel) (Nat.le_of_ble_eq_true rfl) rfl (fun cx hM _ => ?_)
  obtain ⟨⟨q0, q1, q2, q3, q4, q5, q6, q7⟩, hVi, hWe, hCo, hOf, hBo, hWo, hMo, hRe, hLi, hTa⟩ := id hO
  refine v_sipush d_M_orders_0 rfl ?_
  refine v_iconst d_M_orders_3 ?_
  refine v_aload0 d_M_orders_4 ?_
  refine v_getR d_M_orders_5 f_M_7 (sh_55 T) rfl ?_
  refine v_iconst d_M_orders_8 ?_
  refine v_ialoadE hA d_M_orders_9 (sh_56 T) (by omega) (fun g9 => ?_)
  refine v_imul d_M_orders_10 ?_
  refine v_iadd d_M_orders_11 ?_
  refine v_istore5 d_M_orders_12 (by decide) rfl ?_
  refine v_aload0 d_M_orders_14 ?_
  refine v_getR d_M_orders_15 f_M_7 (sh_55 T) rfl ?_
  refine v_iload5 d_M_orders_18 ?_
  refine v_iload1 d_M_orders_20 ?_
  refine v_iastoreE hA d_M_orders_21 (sh_56 T) (by omega) (by omega) (fun m21 f21 hA21 => ?_)
  refine v_aload0 d_M_orders_22 ?_
  refine v_getR d_M_orders_23 f_M_7 (sh_55 T) rfl ?_
  refine v_iload5 d_M_orders_26 ?_
  refine v_iconst d_M_orders_28 ?_
  refine v_iadd d_M_orders_29 ?_
  refine v_iload2 d_M_orders_30 ?_
  refine v_iastoreE hA21 d_M_orders_31 (sh_56 T) (by omega) (by omega) (fun m31 f31 hA31 => ?_)
  refine v_aload0 d_M_orders_32 ?_
  refine v_getR d_M_orders_33 f_M_7 (sh_55 T) rfl ?_
  refine v_iload5 d_M_orders_36 ?_
  refine v_iconst d_M_orders_38 ?_
  refine v_iadd d_M_orders_39 ?_
  refine v_iload3 d_M_orders_40 ?_
  refine v_iastoreE hA31 d_M_orders_41 (sh_56 T) (by omega) (by omega) (fun m41 f41 hA41 => ?_)
  refine v_aload0 d_M_orders_42 ?_
  refine v_getR d_M_orders_43 f_M_7 (sh_55 T) rfl ?_
  refine v_iload5 d_M_orders_46 ?_
  refine v_iconst d_M_orders_48 ?_
  refine v_iadd d_M_orders_49 ?_
  refine v_iload4 d_M_orders_50 ?_
  refine v_iastoreE hA41 d_M_orders_52 (sh_56 T) (by omega) (by omega) (fun m52 f52 hA52 => ?_)
  refine v_aload0 d_M_orders_53 ?_
  refine v_getR d_M_orders_54 f_M_7 (sh_55 T) rfl ?_
  refine v_iload5 d_M_orders_57 ?_
  refine v_iconst d_M_orders_59 ?_
  refine v_iadd d_M_orders_60 ?_
  refine v_aload0 d_M_orders_61 ?_
  refine v_getR d_M_orders_62 f_M_7 (sh_55 T) rfl ?_
  refine v_iconst d_M_orders_65 ?_
  refine v_ialoadE hA52 d_M_orders_66 (sh_56 T) (by omega) (fun g66 => ?_)
  rw [upF_n (by omega), upF_n (by omega), upF_n (by omega), upF_n (by omega)] at g66
  rw [upF_n (by omega), upF_n (by omega), upF_n (by omega), upF_n (by omega)]
  refine v_iastoreE hA52 d_M_orders_67 (sh_56 T) (by omega) (by omega) (fun m67 f67 hA67 => ?_)
  refine v_aload0 d_M_orders_68 ?_
  refine v_getR d_M_orders_69 f_M_7 (sh_55 T) rfl ?_
  refine v_iconst d_M_orders_72 ?_
  refine v_dup2 d_M_orders_73 rfl rfl ?_
  refine v_ialoadE hA67 d_M_orders_74 (sh_56 T) (by omega) (fun g74 => ?_)
  rw [upF_n (by omega), upF_n (by omega), upF_n (by omega), upF_n (by omega), upF_n (by omega)] at g74
  rw [upF_n (by omega), upF_n (by omega), upF_n (by omega), upF_n (by omega), upF_n (by omega)]
  refine v_iconst d_M_orders_75 ?_
  refine v_iadd d_M_orders_76 ?_
  refine v_iastoreE hA67 d_M_orders_77 (sh_56 T) (by omega) (by omega) (fun m77 f77 hA77 => ?_)
  refine v_aload0 d_M_orders_78 ?_
  refine v_getR d_M_orders_79 f_M_7 (sh_55 T) rfl ?_
  refine v_iconst d_M_orders_82 ?_
  refine v_ialoadE hA77 d_M_orders_83 (sh_56 T) (by omega) (fun g83 => ?_)
  rw [upF_s] at g83
  rw [upF_s]
  refine v_iconst d_M_orders_84 ?_
  refine v_isub d_M_orders_85 ?_
  exact v_ireturn hM d_M_orders_86 (by omega) ⟨rfl, by omega, fun k hk => by rw [f77 k hk, f67 k hk, f52 k hk, f41 k hk, f31 k hk, f21 k hk], hA77⟩

theorem c_M_give {T : vSh} {σ : vMem} {A : Int → Int} (hA : σ 56 = A) (hO : okA A) {v oo dd : Int} (h0 : vIn v) (h1 : vIn oo) (h2 : vIn dd) : mt_M_give [.ref 55, .int (iI v), .int (iI oo), .int (iI dd)] (S0 ++ T) σ (rP (S0 ++ T) (fun z σ2 => z = (wGi A v oo dd).2 ∧ (∀ k, k ≠ 56 → σ2 k = σ k) ∧ σ2 56 = (wGi A v oo dd).1)) := by
  refine vMet.intro 0 (by decide +kernel) (Nat.le_of_ble_eq_true rfl) rfl (fun cx hM _ => ?_)
  obtain ⟨⟨q0, q1, q2, q3, q4, q5, q6, q7⟩, hVi, hWe, hCo, hOf, hBo, hWo, hMo, hRe, hLi, hTa⟩ := id hO
  refine v_aload0 d_M_give_0 ?_
  refine v_getR d_M_give_1 f_M_7 (sh_55 T) rfl ?_
  refine v_iconst d_M_give_4 ?_
  refine v_ialoadE hA d_M_give_5 (sh_56 T) (by omega) (fun g5 => ?_)
  refine v_bipush d_M_give_6 rfl ?_
  refine v_icmp_eq d_M_give_8 (by omega) (by omega) (fun u8 => ?_) (fun u8 => ?_)
  · refine v_iconst d_M_give_41 ?_
    first
    | (exact v_ireturn hM d_M_give_42 (by omega) ⟨rfl, by rw [wGi, if_pos (by omega)]; exact e48.1, e48.2.1, by rw [wGi, if_pos (by omega)]; exact e48.2.2⟩)
    | (exact v_ireturn hM d_M_give_42 (by omega) ⟨rfl, by rw [wGi, if_neg (by omega)], fun k _ => rfl, by rw [wGi, if_neg (by omega)]; exact hA⟩)
  · refine v_aload0 d_M_give_11 ?_
    refine v_iload1 d_M_give_12 ?_
    refine v_iconst d_M_give_13 ?_
    refine v_fVZ2 d_M_give_14 l_M_64 k_M_isOf (c_M_isOf hA (by omega) (by omega) (by omega)) (sh_55 T) rfl (by decide) (by decide) (Nat.le_of_ble_eq_true rfl) (Nat.zero_le _) (Nat.zero_le _) (fun g14 => ?_)
    refine v_ifb_eq d_M_give_17 (fun u17 => ?_) (fun u17 => ?_)
    · refine v_iconst d_M_give_41 ?_
      first
      | (exact v_ireturn hM d_M_give_42 (by omega) ⟨rfl, by rw [wGi, if_pos (by omega)]; exact e48.1, e48.2.1, by rw [wGi, if_pos (by omega)]; exact e48.2.2⟩)
      | (exact v_ireturn hM d_M_give_42 (by omega) ⟨rfl, by rw [wGi, if_neg (by omega)], fun k _ => rfl, by rw [wGi, if_neg (by omega)]; exact hA⟩)
    · refine v_iload2 d_M_give_20 ?_
      refine v_iconst d_M_give_21 ?_
      refine v_icmp_eq d_M_give_22 (by omega) (by omega) (fun u22 => ?_) (fun u22 => ?_)
      · refine v_iload3 d_M_give_34 ?_
        refine v_fSZ1 d_M_give_35 l_M_101 k_M_isDay (c_M_isDay (by omega)) (by decide) (by decide) (Nat.le_of_ble_eq_true rfl) (Nat.zero_le _) (Nat.zero_le _) (fun g35 => ?_)
        refine v_ifb_ne d_M_give_38 (fun u38 => ?_) (fun u38 => ?_)
        · refine v_aload0 d_M_give_43 ?_
          refine v_iconst d_M_give_44 ?_
          refine v_iload1 d_M_give_45 ?_
          refine v_iload2 d_M_give_46 ?_
          refine v_iload3 d_M_give_47 ?_
          refine v_gVI4 d_M_give_48 l_M_104 k_M_orders (c_M_orders hA hO (by omega) (by omega) (by omega) (by omega) (by omega)) (sh_55 T) rfl (by decide) (by decide) (Nat.le_of_ble_eq_true rfl) (Nat.zero_le _) (Nat.zero_le _) (fun z48 s48 g48 e48 => ?_)
          have h9 := e48.1
          first
          | (exact v_ireturn hM d_M_give_51 (by omega) ⟨rfl, by rw [wGi, if_pos (by omega)]; exact e48.1, e48.2.1, by rw [wGi, if_pos (by omega)]; exact e48.2.2⟩)
          | (exact v_ireturn hM d_M_give_51 (by omega) ⟨rfl, by rw [wGi, if_neg (by omega)], fun k _ => rfl, by rw [wGi, if_neg (by omega)]; exact hA⟩)
        · refine v_iconst d_M_give_41 ?_
          first
          | (exact v_ireturn hM d_M_give_42 (by omega) ⟨rfl, by rw [wGi, if_pos (by omega)]; exact e48.1, e48.2.1, by rw [wGi, if_pos (by omega)]; exact e48.2.2⟩)
          | (exact v_ireturn hM d_M_give_42 (by omega) ⟨rfl, by rw [wGi, if_neg (by omega)], fun k _ => rfl, by rw [wGi, if_neg (by omega)]; exact hA⟩)
      · refine v_aload0 d_M_give_25 ?_
        refine v_iload2 d_M_give_26 ?_
        refine v_iconst d_M_give_27 ?_
        refine v_fVZ2 d_M_give_28 l_M_64 k_M_isOf (c_M_isOf hA (by omega) (by omega) (by omega)) (sh_55 T) rfl (by decide) (by decide) (Nat.le_of_ble_eq_true rfl) (Nat.zero_le _) (Nat.zero_le _) (fun g28 => ?_)
        refine v_ifb_eq d_M_give_31 (fun u31 => ?_) (fun u31 => ?_)
        · refine v_iconst d_M_give_41 ?_
          first
          | (exact v_ireturn hM d_M_give_42 (by omega) ⟨rfl, by rw [wGi, if_pos (by omega)]; exact e48.1, e48.2.1, by rw [wGi, if_pos (by omega)]; exact e48.2.2⟩)
          | (exact v_ireturn hM d_M_give_42 (by omega) ⟨rfl, by rw [wGi, if_neg (by omega)], fun k _ => rfl, by rw [wGi, if_neg (by omega)]; exact hA⟩)
        · refine v_iload3 d_M_give_34 ?_
          refine v_fSZ1 d_M_give_35 l_M_101 k_M_isDay (c_M_isDay (by omega)) (by decide) (by decide) (Nat.le_of_ble_eq_true rfl) (Nat.zero_le _) (Nat.zero_le _) (fun g35 => ?_)
          refine v_ifb_ne d_M_give_38 (fun u38 => ?_) (fun u38 => ?_)
          · refine v_aload0 d_M_give_43 ?_
            refine v_iconst d_M_give_44 ?_
            refine v_iload1 d_M_give_45 ?_
            refine v_iload2 d_M_give_46 ?_
            refine v_iload3 d_M_give_47 ?_
            refine v_gVI4 d_M_give_48 l_M_104 k_M_orders (c_M_orders hA hO (by omega) (by omega) (by omega) (by omega) (by omega)) (sh_55 T) rfl (by decide) (by decide) (Nat.le_of_ble_eq_true rfl) (Nat.zero_le _) (Nat.zero_le _) (fun z48 s48 g48 e48 => ?_)
            have h9 := e48.1
            first
            | (exact v_ireturn hM d_M_give_51 (by omega) ⟨rfl, by rw [wGi, if_pos (by omega)]; exact e48.1, e48.2.1, by rw [wGi, if_pos (by omega)]; exact e48.2.2⟩)
            | (exact v_ireturn hM d_M_give_51 (by omega) ⟨rfl, by rw [wGi, if_neg (by omega)], fun k _ => rfl, by rw [wGi, if_neg (by omega)]; exact hA⟩)
          · refine v_iconst d_M_give_41 ?_
            first
            | (exact v_ireturn hM d_M_give_42 (by omega) ⟨rfl, by rw [wGi, if_pos (by omega)]; exact e48.1, e48.2.1, by rw [wGi, if_pos (by omega)]; exact e48.2.2⟩)
            | (exact v_ireturn hM d_M_give_42 (by omega) ⟨rfl, by rw [wGi, if_neg (by omega)], fun k _ => rfl, by rw [wGi, if_neg (by omega)]; exact hA⟩)

theorem c_M_raise {T : vSh} {σ : vMem} {A : Int → Int} (hA : σ 56 = A) (hO : okA A) {oo r dd : Int} (h0 : vIn oo) (h1 : vIn r) (h2 : vIn dd) : mt_M_raise [.ref 55, .int (iI oo), .int (iI r), .int (iI dd)] (S0 ++ T) σ (rP (S0 ++ T) (fun z σ2 => z = (wRa A oo r dd).2 ∧ (∀ k, k ≠ 56 → σ2 k = σ k) ∧ σ2 56 = (wRa A oo r dd).1)) := by
  refine vMet.intro 0 (by decide +kernel) (Nat.le_of_ble_eq_true rfl) rfl (fun cx hM _ => ?_)
  obtain ⟨⟨q0, q1, q2, q3, q4, q5, q6, q7⟩, hVi, hWe, hCo, hOf, hBo, hWo, hMo, hRe, hLi, hTa⟩ := id hO
  refine v_aload0 d_M_raise_0 ?_
  refine v_getR d_M_raise_1 f_M_7 (sh_55 T) rfl ?_
  refine v_iconst d_M_raise_4 ?_
  refine v_ialoadE hA d_M_raise_5 (sh_56 T) (by omega) (fun g5 => ?_)
  refine v_bipush d_M_raise_6 rfl ?_
  refine v_icmp_eq d_M_raise_8 (by omega) (by omega) (fun u8 => ?_) (fun u8 => ?_)
  · refine v_iconst d_M_raise_37 ?_
    first
    | (exact v_ireturn hM d_M_raise_38 (by omega) ⟨rfl, by rw [wRa, if_pos (by omega)]; exact e44.1, e44.2.1, by rw [wRa, if_pos (by omega)]; exact e44.2.2⟩)
    | (exact v_ireturn hM d_M_raise_38 (by omega) ⟨rfl, by rw [wRa, if_neg (by omega)], fun k _ => rfl, by rw [wRa, if_neg (by omega)]; exact hA⟩)
  · refine v_aload0 d_M_raise_11 ?_
    refine v_iload1 d_M_raise_12 ?_
    refine v_iconst d_M_raise_13 ?_
    refine v_fVZ2 d_M_raise_14 l_M_64 k_M_isOf (c_M_isOf hA (by omega) (by omega) (by omega)) (sh_55 T) rfl (by decide) (by decide) (Nat.le_of_ble_eq_true rfl) (Nat.zero_le _) (Nat.zero_le _) (fun g14 => ?_)
    refine v_ifb_eq d_M_raise_17 (fun u17 => ?_) (fun u17 => ?_)
    · refine v_iconst d_M_raise_37 ?_
      first
      | (exact v_ireturn hM d_M_raise_38 (by omega) ⟨rfl, by rw [wRa, if_pos (by omega)]; exact e44.1, e44.2.1, by rw [wRa, if_pos (by omega)]; exact e44.2.2⟩)
      | (exact v_ireturn hM d_M_raise_38 (by omega) ⟨rfl, by rw [wRa, if_neg (by omega)], fun k _ => rfl, by rw [wRa, if_neg (by omega)]; exact hA⟩)
    · refine v_iload2 d_M_raise_20 ?_
      refine v_iconst d_M_raise_21 ?_
      refine v_bipush d_M_raise_22 rfl ?_
      refine v_fSZ3 d_M_raise_24 l_M_56 k_M_isIn (c_M_isIn (by omega) (by omega) (by omega)) (by decide) (by decide) (Nat.le_of_ble_eq_true rfl) (Nat.zero_le _) (Nat.zero_le _) (fun g24 => ?_)
      refine v_ifb_eq d_M_raise_27 (fun u27 => ?_) (fun u27 => ?_)
      · refine v_iconst d_M_raise_37 ?_
        first
        | (exact v_ireturn hM d_M_raise_38 (by omega) ⟨rfl, by rw [wRa, if_pos (by omega)]; exact e44.1, e44.2.1, by rw [wRa, if_pos (by omega)]; exact e44.2.2⟩)
        | (exact v_ireturn hM d_M_raise_38 (by omega) ⟨rfl, by rw [wRa, if_neg (by omega)], fun k _ => rfl, by rw [wRa, if_neg (by omega)]; exact hA⟩)
      · refine v_iload3 d_M_raise_30 ?_
        refine v_fSZ1 d_M_raise_31 l_M_101 k_M_isDay (c_M_isDay (by omega)) (by decide) (by decide) (Nat.le_of_ble_eq_true rfl) (Nat.zero_le _) (Nat.zero_le _) (fun g31 => ?_)
        refine v_ifb_ne d_M_raise_34 (fun u34 => ?_) (fun u34 => ?_)
        · refine v_aload0 d_M_raise_39 ?_
          refine v_iconst d_M_raise_40 ?_
          refine v_iload2 d_M_raise_41 ?_
          refine v_iload1 d_M_raise_42 ?_
          refine v_iload3 d_M_raise_43 ?_
          refine v_gVI4 d_M_raise_44 l_M_104 k_M_orders (c_M_orders hA hO (by omega) (by omega) (by omega) (by omega) (by omega)) (sh_55 T) rfl (by decide) (by decide) (Nat.le_of_ble_eq_true rfl) (Nat.zero_le _) (Nat.zero_le _) (fun z44 s44 g44 e44 => ?_)
          have h9 := e44.1
          first
          | (exact v_ireturn hM d_M_raise_47 (by omega) ⟨rfl, by rw [wRa, if_pos (by omega)]; exact e44.1, e44.2.1, by rw [wRa, if_pos (by omega)]; exact e44.2.2⟩)
          | (exact v_ireturn hM d_M_raise_47 (by omega) ⟨rfl, by rw [wRa, if_neg (by omega)], fun k _ => rfl, by rw [wRa, if_neg (by omega)]; exact hA⟩)
        · refine v_iconst d_M_raise_37 ?_
          first
          | (exact v_ireturn hM d_M_raise_38 (by omega) ⟨rfl, by rw [wRa, if_pos (by omega)]; exact e44.1, e44.2.1, by rw [wRa, if_pos (by omega)]; exact e44.2.2⟩)
          | (exact v_ireturn hM d_M_raise_38 (by omega) ⟨rfl, by rw [wRa, if_neg (by omega)], fun k _ => rfl, by rw [wRa, if_neg (by omega)]; exact hA⟩)

theorem c_M_end {T : vSh} {σ : vMem} {A : Int → Int} (hA : σ 56 = A) (hO : okA A) {n : Int} (h0 : vIn n) : mt_M_end [.ref 55, .int (iI n)] (S0 ++ T) σ (rP (S0 ++ T) (fun z σ2 => z = (wEn A n).2 ∧ (∀ k, k ≠ 56 → σ2 k = σ k) ∧ σ2 56 = (wEn A n).1)) := by
  refine vMet.intro 0 (by decide +kernel) (Nat.le_of_ble_eq_true rfl) rfl (fun cx hM _ => ?_)
  obtain ⟨⟨q0, q1, q2, q3, q4, q5, q6, q7⟩, hVi, hWe, hCo, hOf, hBo, hWo, hMo, hRe, hLi, hTa⟩ := id hO
  refine v_iload1 d_M_end_0 ?_
  refine v_if_lt d_M_end_1 (by omega) (fun u1 => ?_) (fun u1 => ?_)
  · refine v_iconst d_M_end_15 ?_
    first
    | (exact v_ireturn hM d_M_end_16 (by omega) ⟨rfl, by rw [wEn, if_pos (by omega)]; try (dsimp only; omega), fun k hk => by rw [f24 k hk], by rw [wEn, if_pos (by omega)]; exact hA24⟩)
    | (exact v_ireturn hM d_M_end_16 (by omega) ⟨rfl, by rw [wEn, if_neg (by omega)], fun k _ => rfl, by rw [wEn, if_neg (by omega)]; exact hA⟩)
  · refine v_iload1 d_M_end_4 ?_
    refine v_aload0 d_M_end_5 ?_
    refine v_getR d_M_end_6 f_M_7 (sh_55 T) rfl ?_
    refine v_bipush d_M_end_9 rfl ?_
    refine v_ialoadE hA d_M_end_11 (sh_56 T) (by omega) (fun g11 => ?_)
    refine v_icmp_le d_M_end_12 (by omega) (by omega) (fun u12 => ?_) (fun u12 => ?_)
    · refine v_aload0 d_M_end_17 ?_
      refine v_getR d_M_end_18 f_M_7 (sh_55 T) rfl ?_
      refine v_bipush d_M_end_21 rfl ?_
      refine v_iload1 d_M_end_23 ?_
      refine v_iastoreE hA d_M_end_24 (sh_56 T) (by omega) (by omega) (fun m24 f24 hA24 => ?_)
      refine v_iload1 d_M_end_25 ?_
      first
      | (exact v_ireturn hM d_M_end_26 (by omega) ⟨rfl, by rw [wEn, if_pos (by omega)]; try (dsimp only; omega), fun k hk => by rw [f24 k hk], by rw [wEn, if_pos (by omega)]; exact hA24⟩)
      | (exact v_ireturn hM d_M_end_26 (by omega) ⟨rfl, by rw [wEn, if_neg (by omega)], fun k _ => rfl, by rw [wEn, if_neg (by omega)]; exact hA⟩)
    · refine v_iconst d_M_end_15 ?_
      first
      | (exact v_ireturn hM d_M_end_16 (by omega) ⟨rfl, by rw [wEn, if_pos (by omega)]; try (dsimp only; omega), fun k hk => by rw [f24 k hk], by rw [wEn, if_pos (by omega)]; exact hA24⟩)
      | (exact v_ireturn hM d_M_end_16 (by omega) ⟨rfl, by rw [wEn, if_neg (by omega)], fun k _ => rfl, by rw [wEn, if_neg (by omega)]; exact hA⟩)

theorem c_M_stay {T : vSh} {σ : vMem} {A : Int → Int} (hA : σ 56 = A) (hO : okA A)  : mt_M_stay [.ref 55] (S0 ++ T) σ (rP (S0 ++ T) (fun _ σ2 => (∀ k, k ≠ 56 → σ2 k = σ k) ∧ σ2 56 = stA A)) := by
  refine vMet.intro 0 (by decide +kernel) (Nat.le_of_ble_eq_true rfl) rfl (fun cx hM _ => ?_)
  obtain ⟨⟨q0, q1, q2, q3, q4, q5, q6, q7⟩, hVi, hWe, hCo, hOf, hBo, hWo, hMo, hRe, hLi, hTa⟩ := id hO
  refine v_aload0 d_M_stay_0 ?_
  refine v_getR d_M_stay_1 f_M_7 (sh_55 T) rfl ?_
  refine v_iconst d_M_stay_4 ?_
  refine v_iconst d_M_stay_5 ?_
  refine v_iastoreE hA d_M_stay_6 (sh_56 T) (by omega) (by omega) (fun m6 f6 hA6 => ?_)
  exact v_return hM d_M_stay_7 ⟨rfl, f6, hA6⟩

theorem c_M_say {T : vSh} {σ : vMem} {A : Int → Int} (hA : σ 56 = A) (hO : okA A) {w v s c : Int} (h0 : vIn w) (h1 : vIn v) (h2 : vIn s) (h3 : vIn c) : mt_M_say [.ref 55, .int (iI w), .int (iI v), .int (iI s), .int (iI c)] (S0 ++ T) σ (rP (S0 ++ T) (fun z σ2 => z = (wSa A w v s c).2 ∧ (∀ k, k ≠ 56 → σ2 k = σ k) ∧ σ2 56 = (wSa A w v s c).1)) := by
  refine vMet.intro 1 (by decide +kernel) (Nat.le_of_ble_eq_true rfl) rfl (fun cx hM _ => ?_)
  obtain ⟨⟨q0, q1, q2, q3, q4, q5, q6, q7⟩, hVi, hWe, hCo, hOf, hBo, hWo, hMo, hRe, hLi, hTa⟩ := id hO
  refine v_aload0 d_M_say_0 ?_
  refine v_getR d_M_say_1 f_M_7 (sh_55 T) rfl ?_
  refine v_bipush d_M_say_4 rfl ?_
  refine v_ialoadE hA d_M_say_6 (sh_56 T) (by omega) (fun g6 => ?_)
  refine v_bipush d_M_say_7 rfl ?_
  refine v_icmp_eq d_M_say_9 (by omega) (by omega) (fun u9 => ?_) (fun u9 => ?_)
  · refine v_iconst d_M_say_49 ?_
    first
    | (exact v_ireturn hM d_M_say_50 (by omega) ⟨rfl, by rw [wSa, if_pos (by omega)]; try (dsimp only; omega), fun k hk => by rw [f130 k hk, f119 k hk, f104 k hk, f93 k hk, f83 k hk, f73 k hk], by rw [wSa, if_pos (by omega)]; exact hA130⟩)
    | (exact v_ireturn hM d_M_say_50 (by omega) ⟨rfl, by rw [wSa, if_neg (by omega)], fun k _ => rfl, by rw [wSa, if_neg (by omega)]; exact hA⟩)
  · refine v_iload1 d_M_say_12 ?_
    refine v_iconst d_M_say_13 ?_
    refine v_iconst d_M_say_14 ?_
    refine v_fSZ3 d_M_say_15 l_M_56 k_M_isIn (c_M_isIn (by omega) (by omega) (by omega)) (by decide) (by decide) (Nat.le_of_ble_eq_true rfl) (Nat.zero_le _) (Nat.zero_le _) (fun g15 => ?_)
    refine v_ifb_eq d_M_say_18 (fun u18 => ?_) (fun u18 => ?_)
    · refine v_iconst d_M_say_49 ?_
      first
      | (exact v_ireturn hM d_M_say_50 (by omega) ⟨rfl, by rw [wSa, if_pos (by omega)]; try (dsimp only; omega), fun k hk => by rw [f130 k hk, f119 k hk, f104 k hk, f93 k hk, f83 k hk, f73 k hk], by rw [wSa, if_pos (by omega)]; exact hA130⟩)
      | (exact v_ireturn hM d_M_say_50 (by omega) ⟨rfl, by rw [wSa, if_neg (by omega)], fun k _ => rfl, by rw [wSa, if_neg (by omega)]; exact hA⟩)
    · refine v_aload0 d_M_say_21 ?_
      refine v_iload2 d_M_say_22 ?_
      refine v_iconst d_M_say_23 ?_
      refine v_fVZ2 d_M_say_24 l_M_64 k_M_isOf (c_M_isOf hA (by omega) (by omega) (by omega)) (sh_55 T) rfl (by decide) (by decide) (Nat.le_of_ble_eq_true rfl) (Nat.zero_le _) (Nat.zero_le _) (fun g24 => ?_)
      refine v_ifb_eq d_M_say_27 (fun u27 => ?_) (fun u27 => ?_)
      · refine v_iconst d_M_say_49 ?_
        first
        | (exact v_ireturn hM d_M_say_50 (by omega) ⟨rfl, by rw [wSa, if_pos (by omega)]; try (dsimp only; omega), fun k hk => by rw [f130 k hk, f119 k hk, f104 k hk, f93 k hk, f83 k hk, f73 k hk], by rw [wSa, if_pos (by omega)]; exact hA130⟩)
        | (exact v_ireturn hM d_M_say_50 (by omega) ⟨rfl, by rw [wSa, if_neg (by omega)], fun k _ => rfl, by rw [wSa, if_neg (by omega)]; exact hA⟩)
      · refine v_iload3 d_M_say_30 ?_
        refine v_fSZ1 d_M_say_31 l_M_248 k_M_isSeason (c_M_isSeason (by omega)) (by decide) (by decide) (Nat.le_of_ble_eq_true rfl) (Nat.zero_le _) (Nat.zero_le _) (fun g31 => ?_)
        refine v_ifb_eq d_M_say_34 (fun u34 => ?_) (fun u34 => ?_)
        · refine v_iconst d_M_say_49 ?_
          first
          | (exact v_ireturn hM d_M_say_50 (by omega) ⟨rfl, by rw [wSa, if_pos (by omega)]; try (dsimp only; omega), fun k hk => by rw [f130 k hk, f119 k hk, f104 k hk, f93 k hk, f83 k hk, f73 k hk], by rw [wSa, if_pos (by omega)]; exact hA130⟩)
          | (exact v_ireturn hM d_M_say_50 (by omega) ⟨rfl, by rw [wSa, if_neg (by omega)], fun k _ => rfl, by rw [wSa, if_neg (by omega)]; exact hA⟩)
        · refine v_iload4 d_M_say_37 ?_
          refine v_iconst d_M_say_39 ?_
          refine v_sipush d_M_say_40 rfl ?_
          refine v_fSZ3 d_M_say_43 l_M_56 k_M_isIn (c_M_isIn (by omega) (by omega) (by omega)) (by decide) (by decide) (Nat.le_of_ble_eq_true rfl) (Nat.zero_le _) (Nat.zero_le _) (fun g43 => ?_)
          refine v_ifb_ne d_M_say_46 (fun u46 => ?_) (fun u46 => ?_)
          · refine v_sipush d_M_say_51 rfl ?_
            refine v_iconst d_M_say_54 ?_
            refine v_aload0 d_M_say_55 ?_
            refine v_getR d_M_say_56 f_M_7 (sh_55 T) rfl ?_
            refine v_bipush d_M_say_59 rfl ?_
            refine v_ialoadE hA d_M_say_61 (sh_56 T) (by omega) (fun g61 => ?_)
            refine v_imul d_M_say_62 ?_
            refine v_iadd d_M_say_63 ?_
            refine v_istore5 d_M_say_64 (by decide) rfl ?_
            refine v_aload0 d_M_say_66 ?_
            refine v_getR d_M_say_67 f_M_7 (sh_55 T) rfl ?_
            refine v_iload5 d_M_say_70 ?_
            refine v_iload1 d_M_say_72 ?_
            refine v_iastoreE hA d_M_say_73 (sh_56 T) (by omega) (by omega) (fun m73 f73 hA73 => ?_)
            refine v_aload0 d_M_say_74 ?_
            refine v_getR d_M_say_75 f_M_7 (sh_55 T) rfl ?_
            refine v_iload5 d_M_say_78 ?_
            refine v_iconst d_M_say_80 ?_
            refine v_iadd d_M_say_81 ?_
            refine v_iload2 d_M_say_82 ?_
            refine v_iastoreE hA73 d_M_say_83 (sh_56 T) (by omega) (by omega) (fun m83 f83 hA83 => ?_)
            refine v_aload0 d_M_say_84 ?_
            refine v_getR d_M_say_85 f_M_7 (sh_55 T) rfl ?_
            refine v_iload5 d_M_say_88 ?_
            refine v_iconst d_M_say_90 ?_
            refine v_iadd d_M_say_91 ?_
            refine v_iload3 d_M_say_92 ?_
            refine v_iastoreE hA83 d_M_say_93 (sh_56 T) (by omega) (by omega) (fun m93 f93 hA93 => ?_)
            refine v_aload0 d_M_say_94 ?_
            refine v_getR d_M_say_95 f_M_7 (sh_55 T) rfl ?_
            refine v_iload5 d_M_say_98 ?_
            refine v_iconst d_M_say_100 ?_
            refine v_iadd d_M_say_101 ?_
            refine v_iload4 d_M_say_102 ?_
            refine v_iastoreE hA93 d_M_say_104 (sh_56 T) (by omega) (by omega) (fun m104 f104 hA104 => ?_)
            refine v_aload0 d_M_say_105 ?_
            refine v_getR d_M_say_106 f_M_7 (sh_55 T) rfl ?_
            refine v_iload5 d_M_say_109 ?_
            refine v_iconst d_M_say_111 ?_
            refine v_iadd d_M_say_112 ?_
            refine v_aload0 d_M_say_113 ?_
            refine v_getR d_M_say_114 f_M_7 (sh_55 T) rfl ?_
            refine v_iconst d_M_say_117 ?_
            refine v_ialoadE hA104 d_M_say_118 (sh_56 T) (by omega) (fun g118 => ?_)
            rw [upF_n (by omega), upF_n (by omega), upF_n (by omega), upF_n (by omega)] at g118
            rw [upF_n (by omega), upF_n (by omega), upF_n (by omega), upF_n (by omega)]
            refine v_iastoreE hA104 d_M_say_119 (sh_56 T) (by omega) (by omega) (fun m119 f119 hA119 => ?_)
            refine v_aload0 d_M_say_120 ?_
            refine v_getR d_M_say_121 f_M_7 (sh_55 T) rfl ?_
            refine v_bipush d_M_say_124 rfl ?_
            refine v_dup2 d_M_say_126 rfl rfl ?_
            refine v_ialoadE hA119 d_M_say_127 (sh_56 T) (by omega) (fun g127 => ?_)
            rw [upF_n (by omega), upF_n (by omega), upF_n (by omega), upF_n (by omega), upF_n (by omega)] at g127
            rw [upF_n (by omega), upF_n (by omega), upF_n (by omega), upF_n (by omega), upF_n (by omega)]
            refine v_iconst d_M_say_128 ?_
            refine v_iadd d_M_say_129 ?_
            refine v_iastoreE hA119 d_M_say_130 (sh_56 T) (by omega) (by omega) (fun m130 f130 hA130 => ?_)
            refine v_aload0 d_M_say_131 ?_
            refine v_getR d_M_say_132 f_M_7 (sh_55 T) rfl ?_
            refine v_bipush d_M_say_135 rfl ?_
            refine v_ialoadE hA130 d_M_say_137 (sh_56 T) (by omega) (fun g137 => ?_)
            rw [upF_s] at g137
            rw [upF_s]
            refine v_iconst d_M_say_138 ?_
            refine v_isub d_M_say_139 ?_
            first
            | (exact v_ireturn hM d_M_say_140 (by omega) ⟨rfl, by rw [wSa, if_pos (by omega)]; try (dsimp only; omega), fun k hk => by rw [f130 k hk, f119 k hk, f104 k hk, f93 k hk, f83 k hk, f73 k hk], by rw [wSa, if_pos (by omega)]; exact hA130⟩)
            | (exact v_ireturn hM d_M_say_140 (by omega) ⟨rfl, by rw [wSa, if_neg (by omega)], fun k _ => rfl, by rw [wSa, if_neg (by omega)]; exact hA⟩)
          · refine v_iconst d_M_say_49 ?_
            first
            | (exact v_ireturn hM d_M_say_50 (by omega) ⟨rfl, by rw [wSa, if_pos (by omega)]; try (dsimp only; omega), fun k hk => by rw [f130 k hk, f119 k hk, f104 k hk, f93 k hk, f83 k hk, f73 k hk], by rw [wSa, if_pos (by omega)]; exact hA130⟩)
            | (exact v_ireturn hM d_M_say_50 (by omega) ⟨rfl, by rw [wSa, if_neg (by omega)], fun k _ => rfl, by rw [wSa, if_neg (by omega)]; exact hA⟩)

theorem c_M_move_32 {T : vSh} {σ : vMem} {cx : vCx} {A : Int → Int} (hA : σ 56 = A) (hO : okA A) {oo v : Int} (h0 : (0 ≤ oo ∧ oo < A 1) ∧ srvF A oo (A 4)) (h1 : 0 ≤ v ∧ v < A 0) (h5 : A 5 < 12) (hM : vM cx 0 0 (some .int) (rP (S0 ++ T) (fun z σ2 => z = (wMo A oo v).2 ∧ (∀ k, k ≠ 56 → σ2 k = σ k) ∧ σ2 56 = (wMo A oo v).1))) : ∀ (n j : Nat) (i : Int), (j : Int) + n = A 5 → i = j → fst (mvE2 A oo v) j < 0 → vV cx y_M_move.cls prog_14_method_85_code 4 3 0 0 0 0 32 [some (.ref 55), some (.int (iI oo)), some (.int (iI v)), some (.int (iI i))] [] (S0 ++ T) σ := by
  intro n
  induction n with
  | zero =>
    intro j i hj hi hz
    obtain ⟨⟨q0, q1, q2, q3, q4, q5, q6, q7⟩, hVi, hWe, hCo, hOf, hBo, hWo, hMo, hRe, hLi, hTa⟩ := id hO
    refine v_iload3 d_M_move_32 ?_
    refine v_aload0 d_M_move_33 ?_
    refine v_getR d_M_move_34 f_M_7 (sh_55 T) rfl ?_
    refine v_iconst d_M_move_37 ?_
    refine v_ialoadE hA d_M_move_38 (sh_56 T) (by omega) (fun g38 => ?_)
    refine v_icmp_ge d_M_move_39 (by omega) (by omega) (fun u39 => ?_) (fun u39 => ?_)
    · refine v_aload0 d_M_move_84 ?_
      refine v_getR d_M_move_85 f_M_7 (sh_55 T) rfl ?_
      refine v_sipush d_M_move_88 rfl ?_
      refine v_iconst d_M_move_91 ?_
      refine v_aload0 d_M_move_92 ?_
      refine v_getR d_M_move_93 f_M_7 (sh_55 T) rfl ?_
      refine v_iconst d_M_move_96 ?_
      refine v_ialoadE hA d_M_move_97 (sh_56 T) (by omega) (fun g97 => ?_)
      refine v_imul d_M_move_98 ?_
      refine v_iadd d_M_move_99 ?_
      refine v_iload1 d_M_move_100 ?_
      refine v_iastoreE hA d_M_move_101 (sh_56 T) (by omega) (by omega) (fun m101 f101 hA101 => ?_)
      refine v_aload0 d_M_move_102 ?_
      refine v_getR d_M_move_103 f_M_7 (sh_55 T) rfl ?_
      refine v_sipush d_M_move_106 rfl ?_
      refine v_iconst d_M_move_109 ?_
      refine v_aload0 d_M_move_110 ?_
      refine v_getR d_M_move_111 f_M_7 (sh_55 T) rfl ?_
      refine v_iconst d_M_move_114 ?_
      refine v_ialoadE hA101 d_M_move_115 (sh_56 T) (by omega) (fun g115 => ?_)
      rw [upF_n (by omega)] at g115
      rw [upF_n (by omega)]
      refine v_imul d_M_move_116 ?_
      refine v_iadd d_M_move_117 ?_
      refine v_iconst d_M_move_118 ?_
      refine v_iadd d_M_move_119 ?_
      refine v_iload2 d_M_move_120 ?_
      refine v_iastoreE hA101 d_M_move_121 (sh_56 T) (by omega) (by omega) (fun m121 f121 hA121 => ?_)
      refine v_aload0 d_M_move_122 ?_
      refine v_getR d_M_move_123 f_M_7 (sh_55 T) rfl ?_
      refine v_iconst d_M_move_126 ?_
      refine v_dup2 d_M_move_127 rfl rfl ?_
      refine v_ialoadE hA121 d_M_move_128 (sh_56 T) (by omega) (fun g128 => ?_)
      rw [upF_n (by omega), upF_n (by omega)] at g128
      rw [upF_n (by omega), upF_n (by omega)]
      refine v_iconst d_M_move_129 ?_
      refine v_iadd d_M_move_130 ?_
      refine v_iastoreE hA121 d_M_move_131 (sh_56 T) (by omega) (by omega) (fun m131 f131 hA131 => ?_)
      refine v_aload0 d_M_move_132 ?_
      refine v_getR d_M_move_133 f_M_7 (sh_55 T) rfl ?_
      refine v_iconst d_M_move_136 ?_
      refine v_ialoadE hA131 d_M_move_137 (sh_56 T) (by omega) (fun g137 => ?_)
      rw [upF_s] at g137
      rw [upF_s]
      refine v_iconst d_M_move_138 ?_
      refine v_isub d_M_move_139 ?_
      have e5 : (A 5).toNat = j := by omega
      exact v_ireturn hM d_M_move_140 (by omega) ⟨rfl, by rw [wMo, if_pos ⟨h5, h1, h0, by rw [e5]; exact hz⟩]; dsimp only; omega, fun k hk => by rw [f131 k hk, f121 k hk, f101 k hk], by rw [wMo, if_pos ⟨h5, h1, h0, by rw [e5]; exact hz⟩]; exact hA131⟩
    · omega
  | succ n ih =>
    intro j i hj hi hz
    obtain ⟨⟨q0, q1, q2, q3, q4, q5, q6, q7⟩, hVi, hWe, hCo, hOf, hBo, hWo, hMo, hRe, hLi, hTa⟩ := id hO
    refine v_iload3 d_M_move_32 ?_
    refine v_aload0 d_M_move_33 ?_
    refine v_getR d_M_move_34 f_M_7 (sh_55 T) rfl ?_
    refine v_iconst d_M_move_37 ?_
    refine v_ialoadE hA d_M_move_38 (sh_56 T) (by omega) (fun g38 => ?_)
    refine v_icmp_ge d_M_move_39 (by omega) (by omega) (fun u39 => ?_) (fun u39 => ?_)
    · omega
    · refine v_aload0 d_M_move_42 ?_
      refine v_getR d_M_move_43 f_M_7 (sh_55 T) rfl ?_
      refine v_sipush d_M_move_46 rfl ?_
      refine v_iconst d_M_move_49 ?_
      refine v_iload3 d_M_move_50 ?_
      refine v_imul d_M_move_51 ?_
      refine v_iadd d_M_move_52 ?_
      refine v_ialoadE hA d_M_move_53 (sh_56 T) (by omega) (fun g53 => ?_)
      refine v_iload1 d_M_move_54 ?_
      refine v_icmp_eq d_M_move_55 (by omega) (by omega) (fun u55 => ?_) (fun u55 => ?_)
      · refine v_iconst d_M_move_76 ?_
        have e9 := fst_at (mvE2 A oo v) hz (by rw [← hi]; omega)
        have e8 := fst_stay (mvE2 A oo v) (m := j + 1) (by omega) (A 5).toNat (by omega)
        exact v_ireturn hM d_M_move_77 (by omega) ⟨rfl, by rw [wMo, if_neg (fun z => by have := z.2.2.2; omega)], fun k _ => rfl, by rw [wMo, if_neg (fun z => by have := z.2.2.2; omega)]; exact hA⟩
      · refine v_aload0 d_M_move_58 ?_
        refine v_getR d_M_move_59 f_M_7 (sh_55 T) rfl ?_
        refine v_sipush d_M_move_62 rfl ?_
        refine v_iconst d_M_move_65 ?_
        refine v_iload3 d_M_move_66 ?_
        refine v_imul d_M_move_67 ?_
        refine v_iadd d_M_move_68 ?_
        refine v_iconst d_M_move_69 ?_
        refine v_iadd d_M_move_70 ?_
        refine v_ialoadE hA d_M_move_71 (sh_56 T) (by omega) (fun g71 => ?_)
        refine v_iload2 d_M_move_72 ?_
        refine v_icmp_ne d_M_move_73 (by omega) (by omega) (fun u73 => ?_) (fun u73 => ?_)
        · refine v_iinc3 d_M_move_78 (by decide) rfl ?_
          refine v_goto d_M_move_81 ?_
          exact ih (j + 1) _ (by omega) (by omega) (fst_no _ hz (by rw [← hi]; omega))
        · refine v_iconst d_M_move_76 ?_
          have e9 := fst_at (mvE2 A oo v) hz (by rw [← hi]; omega)
          have e8 := fst_stay (mvE2 A oo v) (m := j + 1) (by omega) (A 5).toNat (by omega)
          exact v_ireturn hM d_M_move_77 (by omega) ⟨rfl, by rw [wMo, if_neg (fun z => by have := z.2.2.2; omega)], fun k _ => rfl, by rw [wMo, if_neg (fun z => by have := z.2.2.2; omega)]; exact hA⟩

theorem c_M_move {T : vSh} {σ : vMem} {A : Int → Int} (hA : σ 56 = A) (hO : okA A) {oo v : Int} (h0 : vIn oo) (h1 : vIn v) : mt_M_move [.ref 55, .int (iI oo), .int (iI v)] (S0 ++ T) σ (rP (S0 ++ T) (fun z σ2 => z = (wMo A oo v).2 ∧ (∀ k, k ≠ 56 → σ2 k = σ k) ∧ σ2 56 = (wMo A oo v).1)) := by
  refine vMet.intro 1 (by decide +kernel) (Nat.le_of_ble_eq_true rfl) rfl (fun cx hM _ => ?_)
  obtain ⟨⟨q0, q1, q2, q3, q4, q5, q6, q7⟩, hVi, hWe, hCo, hOf, hBo, hWo, hMo, hRe, hLi, hTa⟩ := id hO
  refine v_aload0 d_M_move_0 ?_
  refine v_getR d_M_move_1 f_M_7 (sh_55 T) rfl ?_
  refine v_iconst d_M_move_4 ?_
  refine v_ialoadE hA d_M_move_5 (sh_56 T) (by omega) (fun g5 => ?_)
  refine v_bipush d_M_move_6 rfl ?_
  refine v_icmp_eq d_M_move_8 (by omega) (by omega) (fun u8 => ?_) (fun u8 => ?_)
  · refine v_iconst d_M_move_28 ?_
    exact v_ireturn hM d_M_move_29 (by omega) ⟨rfl, by rw [wMo, if_neg (by omega)], fun k _ => rfl, by rw [wMo, if_neg (by omega)]; exact hA⟩
  · refine v_aload0 d_M_move_11 ?_
    refine v_iload2 d_M_move_12 ?_
    refine v_iconst d_M_move_13 ?_
    refine v_fVZ2 d_M_move_14 l_M_64 k_M_isOf (c_M_isOf hA (by omega) (by omega) (by omega)) (sh_55 T) rfl (by decide) (by decide) (Nat.le_of_ble_eq_true rfl) (Nat.zero_le _) (Nat.zero_le _) (fun g14 => ?_)
    refine v_ifb_eq d_M_move_17 (fun u17 => ?_) (fun u17 => ?_)
    · refine v_iconst d_M_move_28 ?_
      exact v_ireturn hM d_M_move_29 (by omega) ⟨rfl, by rw [wMo, if_neg (by omega)], fun k _ => rfl, by rw [wMo, if_neg (by omega)]; exact hA⟩
    · refine v_aload0 d_M_move_20 ?_
      refine v_iload1 d_M_move_21 ?_
      refine v_fVZ1 d_M_move_22 l_M_258 k_M_servesNow (c_M_servesNow hA hO (by omega)) (sh_55 T) rfl (by decide) (by decide) (Nat.le_of_ble_eq_true rfl) (Nat.zero_le _) (Nat.zero_le _) (fun g22 => ?_)
      refine v_ifb_ne d_M_move_25 (fun u25 => ?_) (fun u25 => ?_)
      · refine v_iconst d_M_move_30 ?_
        refine v_istore3 d_M_move_31 (by decide) rfl ?_
        exact c_M_move_32 hA hO (by omega) (by omega) (by omega) hM (A 5).toNat 0 _ (by omega) rfl (show (-1 : Int) < 0 by decide)
      · refine v_iconst d_M_move_28 ?_
        exact v_ireturn hM d_M_move_29 (by omega) ⟨rfl, by rw [wMo, if_neg (by omega)], fun k _ => rfl, by rw [wMo, if_neg (by omega)]; exact hA⟩

