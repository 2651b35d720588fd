/-! ===== the class's reader: lines ===== -/
def FK (σ σ2 : vMem) : Prop := (∀ k, k < 23 ∨ (30 < k ∧ k ≠ 45) → σ2 k = σ k) ∧ σ2 30 1 = σ 30 1
theorem FK.rfl' {σ : vMem} : FK σ σ := ⟨fun _ _ => rfl, rfl⟩
theorem FK.trans' {a b c : vMem} (h1 : FK a b) (h2 : FK b c) : FK a c := ⟨fun k hk => (h2.1 k hk).trans (h1.1 k hk), h2.2.trans h1.2⟩
theorem F45.fk {σ σ2 : vMem} (h : F45 σ σ2) : FK σ σ2 := ⟨fun k hk => h.1 k (by omega), by rw [h.1 30 (by decide)]⟩
theorem FK.rk {σ σ2 : vMem} (h : FK σ σ2) {b : Int → Int} {L : Int} (hC : RK σ b L) : RK σ2 b L := by
  unfold RK
  rw [h.2, h.1 31 (by omega)]
  exact hC
/-- the rows of the lines before x are as they were -/
def AG (σ σ2 : vMem) (x : Int) : Prop := (∀ k : Nat, 23 ≤ k ∧ k ≤ 25 → ∀ i, i < x → σ2 k i = σ k i) ∧ ∀ k : Nat, 26 ≤ k ∧ k ≤ 29 → ∀ i, i < x * 4 → σ2 k i = σ k i
theorem AG.rfl' {σ : vMem} {x : Int} : AG σ σ x := ⟨fun _ _ _ _ => rfl, fun _ _ _ _ => rfl⟩
theorem AG.trans' {a b c : vMem} {x : Int} (h1 : AG a b x) (h2 : AG b c x) : AG a c x := ⟨fun k hk i hi => (h2.1 k hk i hi).trans (h1.1 k hk i hi), fun k hk i hi => (h2.2 k hk i hi).trans (h1.2 k hk i hi)⟩
theorem AG.of {σ σ2 : vMem} {x : Int} (h : ∀ k : Nat, 23 ≤ k ∧ k ≤ 29 → σ2 k = σ k) : AG σ σ2 x := ⟨fun k hk i _ => by rw [h k (by omega)], fun k hk i _ => by rw [h k (by omega)]⟩
theorem F45.ag {σ σ2 : vMem} {x : Int} (h : F45 σ σ2) : AG σ σ2 x := AG.of (fun k hk => h.1 k (by omega))
def FPt (σ : vMem) (fp : FP) : Prop := σ 30 2 = fp.1 ∧ σ 30 3 = fp.2
def TW (σ σ2 : vMem) (x : Int) (b : Int → Int) (p : Int) : Prop := σ2 26 = upF (σ 26) x (tSb b p + 8) ∧ σ2 27 = upF (σ 27) x (tSg b p) ∧ σ2 29 = upF (σ 29) x (tNg b p) ∧ ∃ nn, σ2 28 = upF (σ 28) x nn ∧ (tSb b p ≠ 1 → nn = tLm b p)
def TR (σ : vMem) (x : Int) (D : Int → Int) (row n : Int) : Prop := ∀ t, 0 ≤ t → t < n → σ 26 (x * 4 + t) = D (row + 1 + 4 * t + 1) + 8 ∧ σ 27 (x * 4 + t) = D (row + 1 + 4 * t + 2) ∧ σ 29 (x * 4 + t) = D (row + 1 + 4 * t) ∧ (D (row + 1 + 4 * t + 1) ≠ 1 → σ 28 (x * 4 + t) = D (row + 1 + 4 * t + 3))
theorem TR_step {σ σ2 : vMem} {x row n q : Int} {D b : Int → Int} (hn : 0 ≤ n) (hT : TR σ x D row n) (hW : TW σ σ2 (x * 4 + n) b q) : TR σ2 x (put4 D (row + 1 + 4 * n) b q) row (n + 1) := by
  intro t t1 t2
  obtain ⟨w6, w7, w9, nn, w8, w8'⟩ := hW
  rw [w6, w7, w8, w9]
  unfold put4
  by_cases h : t = n
  · subst h
    have e3 : upF (upF (upF (upF D (row + 1 + 4 * t) (tNg b q)) (row + 1 + 4 * t + 1) (tSb b q)) (row + 1 + 4 * t + 2) (tSg b q)) (row + 1 + 4 * t + 3) (tLm b q) (row + 1 + 4 * t + 1) = tSb b q := by rw [upF_n (by omega), upF_n (by omega), upF_s]
    rw [e3, upF_s, upF_s, upF_s, upF_s, upF_s, upF_n (by omega), upF_s, upF_n (by omega), upF_n (by omega), upF_n (by omega), upF_s]
    exact ⟨rfl, rfl, rfl, w8'⟩
  · have h9 := hT t t1 (by omega)
    simp only [upF]
    rw [if_neg (by omega), if_neg (by omega), if_neg (by omega), if_neg (by omega)]
    rw [if_neg (by omega), if_neg (by omega), if_neg (by omega), if_neg (by omega)]
    rw [if_neg (by omega), if_neg (by omega), if_neg (by omega), if_neg (by omega)]
    rw [if_neg (by omega), if_neg (by omega), if_neg (by omega), if_neg (by omega)]
    rw [if_neg (by omega), if_neg (by omega), if_neg (by omega), if_neg (by omega)]
    exact h9

theorem FPt.of45 {σ σ2 : vMem} {fp : FP} (h : FPt σ fp) (hF : F45 σ σ2) : FPt σ2 fp := by
  unfold FPt
  rw [hF.1 30 (by decide)]
  exact h
theorem c_Re_remark {T : vSh} {σ : vMem} {k : Int} (hk : vIn k) {fp : FP} (hf : FPt σ fp) : mt_Re_remark [.ref 45, .int (iI k)] (S0 ++ T) σ (rP (S0 ++ T) (fun _ σ2 => (∀ i, i ≠ 30 → σ2 i = σ i) ∧ σ2 30 1 = σ 30 1 ∧ FPt σ2 (adF fp k (σ 45 4)))) := by
  refine vMet.intro 0 (by decide +kernel) (Nat.le_of_ble_eq_true rfl) rfl (fun cx hM _ => ?_)
  have f1 := hf.1
  refine v_aload0 d_Re_remark_0 ?_
  refine v_getR d_Re_remark_1 f_Re_9 (sh_45 T) rfl ?_
  refine v_getJ (ji := 2) d_Re_remark_4 f_Re_50 (sh_30 T) rfl rfl (fun g4 => ?_)
  refine v_if_ne d_Re_remark_7 (by omega) (fun u7 => ?_) (fun u7 => ?_)
  · first
    | (exact v_return hM d_Re_remark_29 ⟨rfl, fun i hi => rfl, rfl, by rw [adF, if_neg (by omega)]; exact hf⟩)
    | (exact v_return hM d_Re_remark_29 ⟨rfl, fun i hi => by rw [vUp_ne hi, vUp_ne hi], by rw [vUp_ix (by decide), vUp_ix (by decide)], by rw [adF, if_pos (by omega)]; exact ⟨by rw [vUp_ix (by decide), vUp_same], by rw [vUp_same]⟩⟩)
  · refine v_aload0 d_Re_remark_10 ?_
    refine v_getR d_Re_remark_11 f_Re_9 (sh_45 T) rfl ?_
    refine v_iload1 d_Re_remark_14 ?_
    refine v_putJ (ji := 2) d_Re_remark_15 p_Re_50 (sh_30 T) rfl rfl (by omega) ?_
    refine v_aload0 d_Re_remark_18 ?_
    refine v_getR d_Re_remark_19 f_Re_9 (sh_45 T) rfl ?_
    refine v_aload0 d_Re_remark_22 ?_
    refine v_getJ (ji := 4) d_Re_remark_23 f_Re_60 (sh_45 T) rfl rfl (fun g23 => ?_)
    rw [vUp_ne (by decide)] at g23 ⊢
    refine v_putJ (ji := 3) d_Re_remark_26 p_Re_63 (sh_30 T) rfl rfl (by omega) ?_
    first
    | (exact v_return hM d_Re_remark_29 ⟨rfl, fun i hi => rfl, rfl, by rw [adF, if_neg (by omega)]; exact hf⟩)
    | (exact v_return hM d_Re_remark_29 ⟨rfl, fun i hi => by rw [vUp_ne hi, vUp_ne hi], by rw [vUp_ix (by decide), vUp_ix (by decide)], by rw [adF, if_pos (by omega)]; exact ⟨by rw [vUp_ix (by decide), vUp_same], by rw [vUp_same]⟩⟩)

theorem c_Re_pass {T : vSh} {σ : vMem} {L p : Int} {b : Int → Int} (hR : RK σ b L) (hp : 0 ≤ p ∧ p ≤ 500) (hK : RkP b p (σ 45)) {c : Int} (hc : vIn c) : mt_Re_pass [.ref 45, .int (iI c)] (S0 ++ T) σ (rP (S0 ++ T) (fun z σ2 => z = b01 (tkF b p = c) ∧ F45 σ σ2 ∧ RkP b (if tkF b p = c then nxF b p else p) (σ2 45))) := by
  refine vMet.intro 0 (by decide +kernel) (Nat.le_of_ble_eq_true rfl) rfl (fun cx hM _ => ?_)
  obtain ⟨k2, k3, k4, k5⟩ := id hK
  have hnx := nxF_rng hR.2.1 hp
  have hwh := whF_rng b hp.2
  have htk := tkF_rng b p
  refine v_aload0 d_Re_pass_0 ?_
  refine v_getJ (ji := 3) d_Re_pass_1 f_Re_34 (sh_45 T) rfl rfl (fun g1 => ?_)
  refine v_iload1 d_Re_pass_4 ?_
  refine v_icmp_eq d_Re_pass_5 (by omega) (by omega) (fun u5 => ?_) (fun u5 => ?_)
  · refine v_aload0 d_Re_pass_10 ?_
    refine v_gVV0 d_Re_pass_11 l_Re_31 k_Re_readToken (c_Re_readToken hR (by omega) k2) (sh_45 T) rfl (by decide) (by decide) (Nat.le_of_ble_eq_true rfl) (Nat.zero_le _) (Nat.zero_le _) (fun z11 s11 e11 => ?_)
    refine v_iconst d_Re_pass_14 ?_
    first
    | (exact v_zreturn hM d_Re_pass_15 (Or.inr rfl) ⟨rfl, b01_1 (by omega), e11.1, by rw [if_pos (by omega)]; exact e11.2⟩)
    | (exact v_zreturn hM d_Re_pass_15 (Or.inl rfl) ⟨rfl, b01_0 (by omega), F45.rfl', by rw [if_neg (by omega)]; exact hK⟩)
  · refine v_iconst d_Re_pass_8 ?_
    first
    | (exact v_zreturn hM d_Re_pass_9 (Or.inr rfl) ⟨rfl, b01_1 (by omega), e11.1, by rw [if_pos (by omega)]; exact e11.2⟩)
    | (exact v_zreturn hM d_Re_pass_9 (Or.inl rfl) ⟨rfl, b01_0 (by omega), F45.rfl', by rw [if_neg (by omega)]; exact hK⟩)

theorem c_Re_isFitNumber {T : vSh} {σ : vMem} {a n : Int} (ha : vIn a) (hn : σ 45 5 = n) : mt_Re_isFitNumber [.ref 45, .int (iI a)] (S0 ++ T) σ (rF (S0 ++ T) σ (b01 (fitP a n))) := by
  refine vMet.intro 0 (by decide +kernel) (Nat.le_of_ble_eq_true rfl) rfl (fun cx hM _ => ?_)
  refine v_iload1 d_Re_isFitNumber_0 ?_
  rcases (show (a < 4 ∨ 7 < a) ∨ a = 4 ∨ a = 5 ∨ a = 6 ∨ a = 7 by omega) with hs | hs | hs | hs | hs
  · refine v_tableOut d_Re_isFitNumber_1 (by omega) hs (tgt := 95) rfl ?_
    refine v_iconst d_Re_isFitNumber_95 ?_
    first | exact v_zreturn hM d_Re_isFitNumber_96 (Or.inr rfl) ⟨rfl, rfl, b01_1 (by unfold fitP; omega)⟩ | exact v_zreturn hM d_Re_isFitNumber_96 (Or.inl rfl) ⟨rfl, rfl, b01_0 (by unfold fitP; omega)⟩
  · refine v_table d_Re_isFitNumber_1 (by omega) (by omega) (by omega) (off := 31) (tgt := 32) (by rw [hs]; rfl) rfl ?_
    refine v_aload0 d_Re_isFitNumber_32 ?_
    refine v_getJ (ji := 5) d_Re_isFitNumber_33 f_Re_101 (sh_45 T) rfl rfl (fun g33 => ?_)
    rw [hn] at g33 ⊢
    refine v_bipush d_Re_isFitNumber_36 rfl ?_
    refine v_icmp_gt d_Re_isFitNumber_38 (by omega) (by omega) (fun u38 => ?_) (fun u38 => ?_)
    · refine v_iconst d_Re_isFitNumber_45 ?_
      first | exact v_zreturn hM d_Re_isFitNumber_46 (Or.inr rfl) ⟨rfl, rfl, b01_1 (by unfold fitP; omega)⟩ | exact v_zreturn hM d_Re_isFitNumber_46 (Or.inl rfl) ⟨rfl, rfl, b01_0 (by unfold fitP; omega)⟩
    · refine v_iconst d_Re_isFitNumber_41 ?_
      refine v_goto d_Re_isFitNumber_42 ?_
      first | exact v_zreturn hM d_Re_isFitNumber_46 (Or.inr rfl) ⟨rfl, rfl, b01_1 (by unfold fitP; omega)⟩ | exact v_zreturn hM d_Re_isFitNumber_46 (Or.inl rfl) ⟨rfl, rfl, b01_0 (by unfold fitP; omega)⟩
  · refine v_table d_Re_isFitNumber_1 (by omega) (by omega) (by omega) (off := 46) (tgt := 47) (by rw [hs]; rfl) rfl ?_
    refine v_aload0 d_Re_isFitNumber_47 ?_
    refine v_getJ (ji := 5) d_Re_isFitNumber_48 f_Re_101 (sh_45 T) rfl rfl (fun g48 => ?_)
    rw [hn] at g48 ⊢
    refine v_iconst d_Re_isFitNumber_51 ?_
    refine v_icmp_lt d_Re_isFitNumber_52 (by omega) (by omega) (fun u52 => ?_) (fun u52 => ?_)
    · refine v_iconst d_Re_isFitNumber_68 ?_
      first | exact v_zreturn hM d_Re_isFitNumber_69 (Or.inr rfl) ⟨rfl, rfl, b01_1 (by unfold fitP; omega)⟩ | exact v_zreturn hM d_Re_isFitNumber_69 (Or.inl rfl) ⟨rfl, rfl, b01_0 (by unfold fitP; omega)⟩
    · refine v_aload0 d_Re_isFitNumber_55 ?_
      refine v_getJ (ji := 5) d_Re_isFitNumber_56 f_Re_101 (sh_45 T) rfl rfl (fun g56 => ?_)
      rw [hn] at g56 ⊢
      refine v_bipush d_Re_isFitNumber_59 rfl ?_
      refine v_icmp_gt d_Re_isFitNumber_61 (by omega) (by omega) (fun u61 => ?_) (fun u61 => ?_)
      · refine v_iconst d_Re_isFitNumber_68 ?_
        first | exact v_zreturn hM d_Re_isFitNumber_69 (Or.inr rfl) ⟨rfl, rfl, b01_1 (by unfold fitP; omega)⟩ | exact v_zreturn hM d_Re_isFitNumber_69 (Or.inl rfl) ⟨rfl, rfl, b01_0 (by unfold fitP; omega)⟩
      · refine v_iconst d_Re_isFitNumber_64 ?_
        refine v_goto d_Re_isFitNumber_65 ?_
        first | exact v_zreturn hM d_Re_isFitNumber_69 (Or.inr rfl) ⟨rfl, rfl, b01_1 (by unfold fitP; omega)⟩ | exact v_zreturn hM d_Re_isFitNumber_69 (Or.inl rfl) ⟨rfl, rfl, b01_0 (by unfold fitP; omega)⟩
  · refine v_table d_Re_isFitNumber_1 (by omega) (by omega) (by omega) (off := 31) (tgt := 32) (by rw [hs]; rfl) rfl ?_
    refine v_aload0 d_Re_isFitNumber_32 ?_
    refine v_getJ (ji := 5) d_Re_isFitNumber_33 f_Re_101 (sh_45 T) rfl rfl (fun g33 => ?_)
    rw [hn] at g33 ⊢
    refine v_bipush d_Re_isFitNumber_36 rfl ?_
    refine v_icmp_gt d_Re_isFitNumber_38 (by omega) (by omega) (fun u38 => ?_) (fun u38 => ?_)
    · refine v_iconst d_Re_isFitNumber_45 ?_
      first | exact v_zreturn hM d_Re_isFitNumber_46 (Or.inr rfl) ⟨rfl, rfl, b01_1 (by unfold fitP; omega)⟩ | exact v_zreturn hM d_Re_isFitNumber_46 (Or.inl rfl) ⟨rfl, rfl, b01_0 (by unfold fitP; omega)⟩
    · refine v_iconst d_Re_isFitNumber_41 ?_
      refine v_goto d_Re_isFitNumber_42 ?_
      first | exact v_zreturn hM d_Re_isFitNumber_46 (Or.inr rfl) ⟨rfl, rfl, b01_1 (by unfold fitP; omega)⟩ | exact v_zreturn hM d_Re_isFitNumber_46 (Or.inl rfl) ⟨rfl, rfl, b01_0 (by unfold fitP; omega)⟩
  · refine v_table d_Re_isFitNumber_1 (by omega) (by omega) (by omega) (off := 69) (tgt := 70) (by rw [hs]; rfl) rfl ?_
    refine v_aload0 d_Re_isFitNumber_70 ?_
    refine v_getJ (ji := 5) d_Re_isFitNumber_71 f_Re_101 (sh_45 T) rfl rfl (fun g71 => ?_)
    rw [hn] at g71 ⊢
    refine v_bipush d_Re_isFitNumber_74 rfl ?_
    refine v_icmp_lt d_Re_isFitNumber_76 (by omega) (by omega) (fun u76 => ?_) (fun u76 => ?_)
    · refine v_iconst d_Re_isFitNumber_93 ?_
      first | exact v_zreturn hM d_Re_isFitNumber_94 (Or.inr rfl) ⟨rfl, rfl, b01_1 (by unfold fitP; omega)⟩ | exact v_zreturn hM d_Re_isFitNumber_94 (Or.inl rfl) ⟨rfl, rfl, b01_0 (by unfold fitP; omega)⟩
    · refine v_aload0 d_Re_isFitNumber_79 ?_
      refine v_getJ (ji := 5) d_Re_isFitNumber_80 f_Re_101 (sh_45 T) rfl rfl (fun g80 => ?_)
      rw [hn] at g80 ⊢
      refine v_sipush d_Re_isFitNumber_83 rfl ?_
      refine v_icmp_gt d_Re_isFitNumber_86 (by omega) (by omega) (fun u86 => ?_) (fun u86 => ?_)
      · refine v_iconst d_Re_isFitNumber_93 ?_
        first | exact v_zreturn hM d_Re_isFitNumber_94 (Or.inr rfl) ⟨rfl, rfl, b01_1 (by unfold fitP; omega)⟩ | exact v_zreturn hM d_Re_isFitNumber_94 (Or.inl rfl) ⟨rfl, rfl, b01_0 (by unfold fitP; omega)⟩
      · refine v_iconst d_Re_isFitNumber_89 ?_
        refine v_goto d_Re_isFitNumber_90 ?_
        first | exact v_zreturn hM d_Re_isFitNumber_94 (Or.inr rfl) ⟨rfl, rfl, b01_1 (by unfold fitP; omega)⟩ | exact v_zreturn hM d_Re_isFitNumber_94 (Or.inl rfl) ⟨rfl, rfl, b01_0 (by unfold fitP; omega)⟩

theorem c_Re_readTest_152 {T : vSh} {σ σ1 : vMem} {cx : vCx} {L p : Int} {b : Int → Int} (hR : RK σ b L) (hp : 0 ≤ p ∧ p ≤ 500) (hK : RkP b p (σ 45)) {x kp : Int} (hx : 0 ≤ x ∧ x < 256 ∨ kp = 0) (hkp : kp = 0 ∨ kp = 1) (hM : vM cx 0 0 (some .boolean) (rP (S0 ++ T) (fun z σ2 => z = b01 (tOk b p) ∧ RkP b (tEn b p) (σ2 45) ∧ σ2 45 6 = σ 45 6 ∧ (∀ k, k ≠ 45 ∧ (k < 26 ∨ 29 < k) → σ2 k = σ k) ∧ (¬ (kp = 1 ∧ tOk b p) → ∀ k, k ≠ 45 → σ2 k = σ k) ∧ ((kp = 1 ∧ tOk b p) → TW σ σ2 x b p)))) {sb s : Int} (hs : 0 ≤ s ∧ s ≤ 500) (hok : tOk b p) (hs9 : tkF b (tqF b p) = 9 → s = tgF b p) (hs8 : tkF b (tqF b p) ≠ 9 → nxF b s = nxF b (tsF b p)) (hsb : sb = tSb b p + 8) {ng : Int} (hR1 : RK σ1 b L) (hQ : RkP b s (σ1 45)) (h6 : σ1 45 6 = σ 45 6) (fr : ∀ k, k ≠ 45 ∧ (k < 26 ∨ 29 < k) → σ1 k = σ k) (f1 : ¬ kp = 1 → ∀ k, k ≠ 45 → σ1 k = σ k) (f2 : kp = 1 → TW σ σ1 x b p) : vV cx y_Re_readTest.cls prog_9_method_6_code 6 6 0 0 0 0 152 [some (.ref 45), some (.int (iI x)), some (.int (iI kp)), some (.int (iI ng)), some (.int (iI sb)), none] [] (S0 ++ T) σ1 := by
  have hns9 := nxF_rng hR.2.1 hs
  have h1 : tSb b p = tkF b (tqF b p) - 8 := rfl
  refine v_iload4 d_Re_readTest_152 ?_
  refine v_bipush d_Re_readTest_154 rfl ?_
  refine v_icmp_eq d_Re_readTest_156 (by omega) (by omega) (fun u156 => ?_) (fun u156 => ?_)
  · refine v_iconst d_Re_readTest_163 ?_
    exact v_zreturn hM d_Re_readTest_164 (Or.inr rfl) ⟨rfl, b01_1 hok, by rw [tEn, if_neg (by omega), if_pos (by omega), ← hs9 (by omega)]; exact hQ, h6, fr, fun z => f1 (fun y => z ⟨y, hok⟩), fun z => f2 z.1⟩
  · refine v_aload0 d_Re_readTest_159 ?_
    refine v_gVV0 d_Re_readTest_160 l_Re_31 k_Re_readToken (c_Re_readToken hR1 (by omega) hQ.1) (sh_45 T) rfl (by decide) (by decide) (Nat.le_of_ble_eq_true rfl) (Nat.zero_le _) (Nat.zero_le _) (fun z160 s160 e160 => ?_)
    refine v_iconst d_Re_readTest_163 ?_
    exact v_zreturn hM d_Re_readTest_164 (Or.inr rfl) ⟨rfl, b01_1 hok, by rw [tEn, if_neg (by omega), if_neg (by omega), if_neg (by omega), if_neg (by omega), ← hs8 (by omega)]; exact e160.2, by rw [e160.1.2 6 (by omega)]; exact h6, fun k hk => by rw [e160.1.1 k hk.1]; exact fr k hk, fun z k hk => by rw [e160.1.1 k hk]; exact f1 (fun y => z ⟨y, hok⟩) k hk, fun z => by unfold TW; rw [e160.1.1 26 (by decide), e160.1.1 27 (by decide), e160.1.1 28 (by decide), e160.1.1 29 (by decide)]; exact f2 z.1⟩

theorem c_Re_readTest_103 {T : vSh} {σ σ1 : vMem} {cx : vCx} {L p : Int} {b : Int → Int} (hR : RK σ b L) (hp : 0 ≤ p ∧ p ≤ 500) (hK : RkP b p (σ 45)) {x kp : Int} (hx : 0 ≤ x ∧ x < 256 ∨ kp = 0) (hkp : kp = 0 ∨ kp = 1) (hM : vM cx 0 0 (some .boolean) (rP (S0 ++ T) (fun z σ2 => z = b01 (tOk b p) ∧ RkP b (tEn b p) (σ2 45) ∧ σ2 45 6 = σ 45 6 ∧ (∀ k, k ≠ 45 ∧ (k < 26 ∨ 29 < k) → σ2 k = σ k) ∧ (¬ (kp = 1 ∧ tOk b p) → ∀ k, k ≠ 45 → σ2 k = σ k) ∧ ((kp = 1 ∧ tOk b p) → TW σ σ2 x b p)))) {sb s : Int} (hs : 0 ≤ s ∧ s ≤ 500) (hok : tOk b p) (hs9 : tkF b (tqF b p) = 9 → s = tgF b p) (hs8 : tkF b (tqF b p) ≠ 9 → nxF b s = nxF b (tsF b p)) (hsb : sb = tSb b p + 8) {ng sg : Int} (hQ : F45 σ σ1 ∧ RkP b s (σ1 45)) (hng : ng = tNg b p) (hsg : sg = tSg b p) (hnn : tSb b p ≠ 1 → σ1 45 5 = tLm b p) : vV cx y_Re_readTest.cls prog_9_method_6_code 6 6 0 0 0 0 103 [some (.ref 45), some (.int (iI x)), some (.int (iI kp)), some (.int (iI ng)), some (.int (iI sb)), some (.int (iI sg))] [] (S0 ++ T) σ1 := by
  have h1 : tSb b p = tkF b (tqF b p) - 8 := rfl
  have h2 : 60 ≤ tSg b p ∧ tSg b p ≤ 62 := by unfold tSg; split <;> omega
  have h3 : tNg b p = 0 ∨ tNg b p = 1 := by unfold tNg; split <;> omega
  refine v_iload2 d_Re_readTest_103 ?_
  refine v_if_eq d_Re_readTest_104 (by omega) (fun u104 => ?_) (fun u104 => ?_)
  · refine v_drop5 ?_
    exact c_Re_readTest_152 hR hp hK hx hkp hM hs hok hs9 hs8 hsb (hQ.1.rk hR) hQ.2 (hQ.1.2 6 (by omega)) (fun k hk => hQ.1.1 k hk.1) (fun _ k hk => hQ.1.1 k hk) (fun z => by omega)
  · have hx9 : 0 ≤ x ∧ x < 256 := by omega
    have hkp1 : kp = 1 := by omega
    refine v_aload0 d_Re_readTest_107 ?_
    refine v_getR d_Re_readTest_108 f_Re_15 (sh_45 T) rfl ?_
    refine v_getR d_Re_readTest_111 f_Re_88 (sh_20 T) rfl ?_
    refine v_iload1 d_Re_readTest_114 ?_
    refine v_iload3 d_Re_readTest_115 ?_
    refine v_zastore d_Re_readTest_116 (sh_29 T) (by omega) (by omega) ?_
    refine v_aload0 d_Re_readTest_117 ?_
    refine v_getR d_Re_readTest_118 f_Re_15 (sh_45 T) rfl ?_
    refine v_getR d_Re_readTest_121 f_Re_92 (sh_20 T) rfl ?_
    refine v_iload1 d_Re_readTest_124 ?_
    refine v_iload4 d_Re_readTest_125 ?_
    refine v_iastore d_Re_readTest_127 (sh_26 T) (by omega) (by omega) ?_
    refine v_aload0 d_Re_readTest_128 ?_
    refine v_getR d_Re_readTest_129 f_Re_15 (sh_45 T) rfl ?_
    refine v_getR d_Re_readTest_132 f_Re_95 (sh_20 T) rfl ?_
    refine v_iload1 d_Re_readTest_135 ?_
    refine v_iload5 d_Re_readTest_136 ?_
    refine v_iastore d_Re_readTest_138 (sh_27 T) (by omega) (by omega) ?_
    refine v_aload0 d_Re_readTest_139 ?_
    refine v_getR d_Re_readTest_140 f_Re_15 (sh_45 T) rfl ?_
    refine v_getR d_Re_readTest_143 f_Re_98 (sh_20 T) rfl ?_
    refine v_iload1 d_Re_readTest_146 ?_
    refine v_aload0 d_Re_readTest_147 ?_
    refine v_getJ (ji := 5) d_Re_readTest_148 f_Re_101 (sh_45 T) rfl rfl (fun g148 => ?_)
    rw [vUp_ne (by decide), vUp_ne (by decide), vUp_ne (by decide)] at g148 ⊢
    refine v_iastore d_Re_readTest_151 (sh_28 T) (by omega) (by omega) ?_
    refine v_drop5 ?_
    have tw9 : TW σ (vUp (vUp (vUp (vUp σ1 29 x ng) 26 x sb) 27 x sg) 28 x (σ1 45 5)) x b p := ⟨by rw [vUp_ne (by decide), vUp_ne (by decide), vUp_fn, vUp_ne (by decide), hQ.1.1 26 (by decide), hsb], by rw [vUp_ne (by decide), vUp_fn, vUp_ne (by decide), vUp_ne (by decide), hQ.1.1 27 (by decide), hsg], by rw [vUp_ne (by decide), vUp_ne (by decide), vUp_ne (by decide), vUp_fn, hQ.1.1 29 (by decide), hng], σ1 45 5, by rw [vUp_fn, vUp_ne (by decide), vUp_ne (by decide), vUp_ne (by decide), hQ.1.1 28 (by decide)], hnn⟩
    have fr9 : ∀ k : Nat, k < 26 ∨ 29 < k → vUp (vUp (vUp (vUp σ1 29 x ng) 26 x sb) 27 x sg) 28 x (σ1 45 5) k = σ1 k := fun k hk => by rw [vUp_ne (by omega), vUp_ne (by omega), vUp_ne (by omega), vUp_ne (by omega)]
    exact c_Re_readTest_152 hR hp hK hx hkp hM hs hok hs9 hs8 hsb (by unfold RK; rw [fr9 30 (by omega), fr9 31 (by omega)]; exact hQ.1.rk hR) (by rw [fr9 45 (by omega)]; exact hQ.2) (by rw [fr9 45 (by omega)]; exact hQ.1.2 6 (by omega)) (fun k hk => by rw [fr9 k hk.2]; exact hQ.1.1 k hk.1) (fun z => absurd hkp1 z) (fun _ => tw9)

theorem c_Re_readTest_22 {T : vSh} {σ σ1 : vMem} {cx : vCx} {L p : Int} {b : Int → Int} (hR : RK σ b L) (hp : 0 ≤ p ∧ p ≤ 500) (hK : RkP b p (σ 45)) {x kp : Int} (hx : 0 ≤ x ∧ x < 256 ∨ kp = 0) (hkp : kp = 0 ∨ kp = 1) (hM : vM cx 0 0 (some .boolean) (rP (S0 ++ T) (fun z σ2 => z = b01 (tOk b p) ∧ RkP b (tEn b p) (σ2 45) ∧ σ2 45 6 = σ 45 6 ∧ (∀ k, k ≠ 45 ∧ (k < 26 ∨ 29 < k) → σ2 k = σ k) ∧ (¬ (kp = 1 ∧ tOk b p) → ∀ k, k ≠ 45 → σ2 k = σ k) ∧ ((kp = 1 ∧ tOk b p) → TW σ σ2 x b p)))) {ng : Int} (hng : ng = tNg b p) (hQ : F45 σ σ1 ∧ RkP b (tqF b p) (σ1 45)) : vV cx y_Re_readTest.cls prog_9_method_6_code 6 6 0 0 0 0 22 [some (.ref 45), some (.int (iI x)), some (.int (iI kp)), some (.int (iI ng)), none, none] [] (S0 ++ T) σ1 := by
  obtain ⟨k2, k3, k4, k5⟩ := id hK
  have hb := hR.2.1
  have hnx := nxF_rng hb hp
  have hq := tqF_rng hb hp
  have hns := nxF_rng hb (p := tqF b p) (by omega)
  have htr : tgF b p = nxF b (tqF b p) := rfl
  have hnr := nxF_rng hb (p := tgF b p) (by omega)
  have hts : tsF b p = nxF b (tgF b p) := rfl
  have hnt := nxF_rng hb (p := tsF b p) (by omega)
  have htk := tkF_rng b p
  have htq := tkF_rng b (tqF b p)
  have htg := tkF_rng b (tgF b p)
  have htt := tkF_rng b (tsF b p)
  refine v_aload0 d_Re_readTest_22 ?_
  refine v_getJ (ji := 3) d_Re_readTest_23 f_Re_34 (sh_45 T) rfl rfl (fun g23 => ?_)
  rw [hQ.2.2.1] at g23 ⊢
  refine v_istore4 d_Re_readTest_26 (by decide) rfl ?_
  refine v_bipush d_Re_readTest_28 rfl ?_
  refine v_istore5 d_Re_readTest_30 (by decide) rfl ?_
  refine v_iload4 d_Re_readTest_32 ?_
  refine v_bipush d_Re_readTest_34 rfl ?_
  refine v_icmp_lt d_Re_readTest_36 (by omega) (by omega) (fun u36 => ?_) (fun u36 => ?_)
  · refine v_iconst d_Re_readTest_46 ?_
    first
    | (exact v_zreturn hM d_Re_readTest_47 (Or.inl rfl) ⟨rfl, b01_0 (by omega), by rw [tEn, if_pos (by omega)]; exact hQ.2, hQ.1.2 6 (by omega), fun k hk => hQ.1.1 k hk.1, fun _ k hk => hQ.1.1 k hk, fun z => absurd z.2 (by omega)⟩)
    | (exact v_zreturn hM d_Re_readTest_47 (Or.inl rfl) ⟨rfl, b01_0 (by omega), by rw [tEn, if_neg (by omega), if_neg (by omega), if_pos (by omega)]; exact hQ2.2, hQ2.1.2 6 (by omega), fun k hk => hQ2.1.1 k hk.1, fun _ k hk => hQ2.1.1 k hk, fun z => absurd z.2 (by omega)⟩)
    | (exact v_zreturn hM d_Re_readTest_47 (Or.inl rfl) ⟨rfl, b01_0 (by omega), by rw [tEn, if_neg (by omega), if_neg (by omega), if_neg (by omega), if_pos (by omega)]; exact hQ3.2, hQ3.1.2 6 (by omega), fun k hk => hQ3.1.1 k hk.1, fun _ k hk => hQ3.1.1 k hk, fun z => absurd z.2 (by omega)⟩)
    | (omega)
  · refine v_iload4 d_Re_readTest_39 ?_
    refine v_bipush d_Re_readTest_41 rfl ?_
    refine v_icmp_le d_Re_readTest_43 (by omega) (by omega) (fun u43 => ?_) (fun u43 => ?_)
    · refine v_aload0 d_Re_readTest_48 ?_
      refine v_gVV0 d_Re_readTest_49 l_Re_31 k_Re_readToken (c_Re_readToken (hQ.1.rk hR) (by omega) hQ.2.1) (sh_45 T) rfl (by decide) (by decide) (Nat.le_of_ble_eq_true rfl) (Nat.zero_le _) (Nat.zero_le _) (fun z49 s49 e49 => ?_)
      have hQ2 : F45 σ s49 ∧ RkP b (tgF b p) (s49 45) := ⟨hQ.1.trans' e49.1, e49.2⟩
      refine v_iload4 d_Re_readTest_52 ?_
      refine v_bipush d_Re_readTest_54 rfl ?_
      refine v_icmp_eq d_Re_readTest_56 (by omega) (by omega) (fun u56 => ?_) (fun u56 => ?_)
      · have z9 : tkF b (tqF b p) = 9 := by omega
        exact c_Re_readTest_103 hR hp hK hx hkp hM (s := tgF b p) (by omega) ⟨by omega, Or.inl (by omega)⟩ (fun _ => rfl) (fun z => absurd z9 z) (by rw [tSb]; omega) hQ2 hng (by rw [tSg, if_pos (by omega)]) (fun z => by rw [tSb] at z; omega)
      · refine v_aload0 d_Re_readTest_59 ?_
        refine v_getJ (ji := 3) d_Re_readTest_60 f_Re_34 (sh_45 T) rfl rfl (fun g60 => ?_)
        rw [hQ2.2.2.1] at g60 ⊢
        refine v_istore5 d_Re_readTest_63 (by decide) rfl ?_
        refine v_iload5 d_Re_readTest_65 ?_
        refine v_bipush d_Re_readTest_67 rfl ?_
        refine v_icmp_eq d_Re_readTest_69 (by omega) (by omega) (fun u69 => ?_) (fun u69 => ?_)
        · refine v_aload0 d_Re_readTest_88 ?_
          refine v_gVV0 d_Re_readTest_89 l_Re_31 k_Re_readToken (c_Re_readToken (hQ2.1.rk hR) (by omega) hQ2.2.1) (sh_45 T) rfl (by decide) (by decide) (Nat.le_of_ble_eq_true rfl) (Nat.zero_le _) (Nat.zero_le _) (fun z89 s89 e89 => ?_)
          have hQ3 : F45 σ s89 ∧ RkP b (tsF b p) (s89 45) := ⟨hQ2.1.trans' e89.1, e89.2⟩
          refine v_aload0 d_Re_readTest_92 ?_
          refine v_getJ (ji := 3) d_Re_readTest_93 f_Re_34 (sh_45 T) rfl rfl (fun g93 => ?_)
          rw [hQ3.2.2.1] at g93 ⊢
          refine v_bipush d_Re_readTest_96 rfl ?_
          refine v_icmp_eq d_Re_readTest_98 (by omega) (by omega) (fun u98 => ?_) (fun u98 => ?_)
          · exact c_Re_readTest_103 hR hp hK hx hkp hM (s := tsF b p) (by omega) ⟨by omega, Or.inr ⟨by omega, by omega⟩⟩ (fun z => by omega) (fun _ => rfl) (by rw [tSb]; omega) hQ3 hng (by rw [tSg, if_neg (by omega)]) (fun z => by rw [tLm, if_neg (by omega)]; exact hQ3.2.2.2.2 (by omega))
          · refine v_iconst d_Re_readTest_101 ?_
            first
            | (exact v_zreturn hM d_Re_readTest_102 (Or.inl rfl) ⟨rfl, b01_0 (by omega), by rw [tEn, if_pos (by omega)]; exact hQ.2, hQ.1.2 6 (by omega), fun k hk => hQ.1.1 k hk.1, fun _ k hk => hQ.1.1 k hk, fun z => absurd z.2 (by omega)⟩)
            | (exact v_zreturn hM d_Re_readTest_102 (Or.inl rfl) ⟨rfl, b01_0 (by omega), by rw [tEn, if_neg (by omega), if_neg (by omega), if_pos (by omega)]; exact hQ2.2, hQ2.1.2 6 (by omega), fun k hk => hQ2.1.1 k hk.1, fun _ k hk => hQ2.1.1 k hk, fun z => absurd z.2 (by omega)⟩)
            | (exact v_zreturn hM d_Re_readTest_102 (Or.inl rfl) ⟨rfl, b01_0 (by omega), by rw [tEn, if_neg (by omega), if_neg (by omega), if_neg (by omega), if_pos (by omega)]; exact hQ3.2, hQ3.1.2 6 (by omega), fun k hk => hQ3.1.1 k hk.1, fun _ k hk => hQ3.1.1 k hk, fun z => absurd z.2 (by omega)⟩)
            | (omega)
        · refine v_iload5 d_Re_readTest_72 ?_
          refine v_bipush d_Re_readTest_74 rfl ?_
          refine v_icmp_eq d_Re_readTest_76 (by omega) (by omega) (fun u76 => ?_) (fun u76 => ?_)
          · refine v_aload0 d_Re_readTest_88 ?_
            refine v_gVV0 d_Re_readTest_89 l_Re_31 k_Re_readToken (c_Re_readToken (hQ2.1.rk hR) (by omega) hQ2.2.1) (sh_45 T) rfl (by decide) (by decide) (Nat.le_of_ble_eq_true rfl) (Nat.zero_le _) (Nat.zero_le _) (fun z89 s89 e89 => ?_)
            have hQ3 : F45 σ s89 ∧ RkP b (tsF b p) (s89 45) := ⟨hQ2.1.trans' e89.1, e89.2⟩
            refine v_aload0 d_Re_readTest_92 ?_
            refine v_getJ (ji := 3) d_Re_readTest_93 f_Re_34 (sh_45 T) rfl rfl (fun g93 => ?_)
            rw [hQ3.2.2.1] at g93 ⊢
            refine v_bipush d_Re_readTest_96 rfl ?_
            refine v_icmp_eq d_Re_readTest_98 (by omega) (by omega) (fun u98 => ?_) (fun u98 => ?_)
            · exact c_Re_readTest_103 hR hp hK hx hkp hM (s := tsF b p) (by omega) ⟨by omega, Or.inr ⟨by omega, by omega⟩⟩ (fun z => by omega) (fun _ => rfl) (by rw [tSb]; omega) hQ3 hng (by rw [tSg, if_neg (by omega)]) (fun z => by rw [tLm, if_neg (by omega)]; exact hQ3.2.2.2.2 (by omega))
            · refine v_iconst d_Re_readTest_101 ?_
              first
              | (exact v_zreturn hM d_Re_readTest_102 (Or.inl rfl) ⟨rfl, b01_0 (by omega), by rw [tEn, if_pos (by omega)]; exact hQ.2, hQ.1.2 6 (by omega), fun k hk => hQ.1.1 k hk.1, fun _ k hk => hQ.1.1 k hk, fun z => absurd z.2 (by omega)⟩)
              | (exact v_zreturn hM d_Re_readTest_102 (Or.inl rfl) ⟨rfl, b01_0 (by omega), by rw [tEn, if_neg (by omega), if_neg (by omega), if_pos (by omega)]; exact hQ2.2, hQ2.1.2 6 (by omega), fun k hk => hQ2.1.1 k hk.1, fun _ k hk => hQ2.1.1 k hk, fun z => absurd z.2 (by omega)⟩)
              | (exact v_zreturn hM d_Re_readTest_102 (Or.inl rfl) ⟨rfl, b01_0 (by omega), by rw [tEn, if_neg (by omega), if_neg (by omega), if_neg (by omega), if_pos (by omega)]; exact hQ3.2, hQ3.1.2 6 (by omega), fun k hk => hQ3.1.1 k hk.1, fun _ k hk => hQ3.1.1 k hk, fun z => absurd z.2 (by omega)⟩)
              | (omega)
          · refine v_iload5 d_Re_readTest_79 ?_
            refine v_bipush d_Re_readTest_81 rfl ?_
            refine v_icmp_eq d_Re_readTest_83 (by omega) (by omega) (fun u83 => ?_) (fun u83 => ?_)
            · refine v_aload0 d_Re_readTest_88 ?_
              refine v_gVV0 d_Re_readTest_89 l_Re_31 k_Re_readToken (c_Re_readToken (hQ2.1.rk hR) (by omega) hQ2.2.1) (sh_45 T) rfl (by decide) (by decide) (Nat.le_of_ble_eq_true rfl) (Nat.zero_le _) (Nat.zero_le _) (fun z89 s89 e89 => ?_)
              have hQ3 : F45 σ s89 ∧ RkP b (tsF b p) (s89 45) := ⟨hQ2.1.trans' e89.1, e89.2⟩
              refine v_aload0 d_Re_readTest_92 ?_
              refine v_getJ (ji := 3) d_Re_readTest_93 f_Re_34 (sh_45 T) rfl rfl (fun g93 => ?_)
              rw [hQ3.2.2.1] at g93 ⊢
              refine v_bipush d_Re_readTest_96 rfl ?_
              refine v_icmp_eq d_Re_readTest_98 (by omega) (by omega) (fun u98 => ?_) (fun u98 => ?_)
              · exact c_Re_readTest_103 hR hp hK hx hkp hM (s := tsF b p) (by omega) ⟨by omega, Or.inr ⟨by omega, by omega⟩⟩ (fun z => by omega) (fun _ => rfl) (by rw [tSb]; omega) hQ3 hng (by rw [tSg, if_neg (by omega)]) (fun z => by rw [tLm, if_neg (by omega)]; exact hQ3.2.2.2.2 (by omega))
              · refine v_iconst d_Re_readTest_101 ?_
                first
                | (exact v_zreturn hM d_Re_readTest_102 (Or.inl rfl) ⟨rfl, b01_0 (by omega), by rw [tEn, if_pos (by omega)]; exact hQ.2, hQ.1.2 6 (by omega), fun k hk => hQ.1.1 k hk.1, fun _ k hk => hQ.1.1 k hk, fun z => absurd z.2 (by omega)⟩)
                | (exact v_zreturn hM d_Re_readTest_102 (Or.inl rfl) ⟨rfl, b01_0 (by omega), by rw [tEn, if_neg (by omega), if_neg (by omega), if_pos (by omega)]; exact hQ2.2, hQ2.1.2 6 (by omega), fun k hk => hQ2.1.1 k hk.1, fun _ k hk => hQ2.1.1 k hk, fun z => absurd z.2 (by omega)⟩)
                | (exact v_zreturn hM d_Re_readTest_102 (Or.inl rfl) ⟨rfl, b01_0 (by omega), by rw [tEn, if_neg (by omega), if_neg (by omega), if_neg (by omega), if_pos (by omega)]; exact hQ3.2, hQ3.1.2 6 (by omega), fun k hk => hQ3.1.1 k hk.1, fun _ k hk => hQ3.1.1 k hk, fun z => absurd z.2 (by omega)⟩)
                | (omega)
            · refine v_iconst d_Re_readTest_86 ?_
              first
              | (exact v_zreturn hM d_Re_readTest_87 (Or.inl rfl) ⟨rfl, b01_0 (by omega), by rw [tEn, if_pos (by omega)]; exact hQ.2, hQ.1.2 6 (by omega), fun k hk => hQ.1.1 k hk.1, fun _ k hk => hQ.1.1 k hk, fun z => absurd z.2 (by omega)⟩)
              | (exact v_zreturn hM d_Re_readTest_87 (Or.inl rfl) ⟨rfl, b01_0 (by omega), by rw [tEn, if_neg (by omega), if_neg (by omega), if_pos (by omega)]; exact hQ2.2, hQ2.1.2 6 (by omega), fun k hk => hQ2.1.1 k hk.1, fun _ k hk => hQ2.1.1 k hk, fun z => absurd z.2 (by omega)⟩)
              | (exact v_zreturn hM d_Re_readTest_87 (Or.inl rfl) ⟨rfl, b01_0 (by omega), by rw [tEn, if_neg (by omega), if_neg (by omega), if_neg (by omega), if_pos (by omega)]; exact hQ3.2, hQ3.1.2 6 (by omega), fun k hk => hQ3.1.1 k hk.1, fun _ k hk => hQ3.1.1 k hk, fun z => absurd z.2 (by omega)⟩)
              | (omega)
    · refine v_iconst d_Re_readTest_46 ?_
      first
      | (exact v_zreturn hM d_Re_readTest_47 (Or.inl rfl) ⟨rfl, b01_0 (by omega), by rw [tEn, if_pos (by omega)]; exact hQ.2, hQ.1.2 6 (by omega), fun k hk => hQ.1.1 k hk.1, fun _ k hk => hQ.1.1 k hk, fun z => absurd z.2 (by omega)⟩)
      | (exact v_zreturn hM d_Re_readTest_47 (Or.inl rfl) ⟨rfl, b01_0 (by omega), by rw [tEn, if_neg (by omega), if_neg (by omega), if_pos (by omega)]; exact hQ2.2, hQ2.1.2 6 (by omega), fun k hk => hQ2.1.1 k hk.1, fun _ k hk => hQ2.1.1 k hk, fun z => absurd z.2 (by omega)⟩)
      | (exact v_zreturn hM d_Re_readTest_47 (Or.inl rfl) ⟨rfl, b01_0 (by omega), by rw [tEn, if_neg (by omega), if_neg (by omega), if_neg (by omega), if_pos (by omega)]; exact hQ3.2, hQ3.1.2 6 (by omega), fun k hk => hQ3.1.1 k hk.1, fun _ k hk => hQ3.1.1 k hk, fun z => absurd z.2 (by omega)⟩)
      | (omega)

theorem c_Re_readTest {T : vSh} {σ : vMem} {L p : Int} {b : Int → Int} (hR : RK σ b L) (hp : 0 ≤ p ∧ p ≤ 500) (hK : RkP b p (σ 45)) {x kp : Int} (hx : 0 ≤ x ∧ x < 256 ∨ kp = 0) (hkp : kp = 0 ∨ kp = 1)  : mt_Re_readTest [.ref 45, .int (iI x), .int (iI kp)] (S0 ++ T) σ (rP (S0 ++ T) (fun z σ2 => z = b01 (tOk b p) ∧ RkP b (tEn b p) (σ2 45) ∧ σ2 45 6 = σ 45 6 ∧ (∀ k, k ≠ 45 ∧ (k < 26 ∨ 29 < k) → σ2 k = σ k) ∧ (¬ (kp = 1 ∧ tOk b p) → ∀ k, k ≠ 45 → σ2 k = σ k) ∧ ((kp = 1 ∧ tOk b p) → TW σ σ2 x b p))) := by
  refine vMet.intro 3 (by decide +kernel) (Nat.le_of_ble_eq_true rfl) rfl (fun cx hM _ => ?_)
  obtain ⟨k2, k3, k4, k5⟩ := id hK
  have hnx := nxF_rng hR.2.1 hp
  have hwh := whF_rng b hp.2
  have htk := tkF_rng b p
  refine v_aload0 d_Re_readTest_0 ?_
  refine v_getJ (ji := 3) d_Re_readTest_1 f_Re_34 (sh_45 T) rfl rfl (fun g1 => ?_)
  refine v_iconst d_Re_readTest_4 ?_
  refine v_icmp_ne d_Re_readTest_5 (by omega) (by omega) (fun u5 => ?_) (fun u5 => ?_)
  · refine v_iconst d_Re_readTest_12 ?_
    refine v_istore3 d_Re_readTest_13 (by decide) rfl ?_
    refine v_iload3 d_Re_readTest_14 ?_
    refine v_if_eq d_Re_readTest_15 (by omega) (fun u15 => ?_) (fun u15 => ?_)
    · first
      | (exact c_Re_readTest_22 hR hp hK hx hkp hM (by rw [tNg, if_pos (by omega)]) ⟨e19.1, by rw [tqF, if_pos (by omega)]; exact e19.2⟩)
      | (exact c_Re_readTest_22 hR hp hK hx hkp hM (by rw [tNg, if_neg (by omega)]) ⟨F45.rfl', by rw [tqF, if_neg (by omega)]; exact hK⟩)
      | (omega)
    · omega
  · refine v_iconst d_Re_readTest_8 ?_
    refine v_goto d_Re_readTest_9 ?_
    refine v_istore3 d_Re_readTest_13 (by decide) rfl ?_
    refine v_iload3 d_Re_readTest_14 ?_
    refine v_if_eq d_Re_readTest_15 (by omega) (fun u15 => ?_) (fun u15 => ?_)
    · omega
    · refine v_aload0 d_Re_readTest_18 ?_
      refine v_gVV0 d_Re_readTest_19 l_Re_31 k_Re_readToken (c_Re_readToken hR (by omega) k2) (sh_45 T) rfl (by decide) (by decide) (Nat.le_of_ble_eq_true rfl) (Nat.zero_le _) (Nat.zero_le _) (fun z19 s19 e19 => ?_)
      first
      | (exact c_Re_readTest_22 hR hp hK hx hkp hM (by rw [tNg, if_pos (by omega)]) ⟨e19.1, by rw [tqF, if_pos (by omega)]; exact e19.2⟩)
      | (exact c_Re_readTest_22 hR hp hK hx hkp hM (by rw [tNg, if_neg (by omega)]) ⟨F45.rfl', by rw [tqF, if_neg (by omega)]; exact hK⟩)
      | (omega)

