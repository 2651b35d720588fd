/-! ===== the reference's reader: tests ===== -/
theorem vMet.mono {d mc ms nL : Nat} {y : MethodName} {cc : ByteArray} {ret : Option FieldType} {as : List Value} {S : vSh} {σ : vMem} {RT RT' : vRT} (h : vMet d mc ms y cc nL ret as S σ RT) (hi : ∀ z S' σ2, RT z S' σ2 → RT' z S' σ2) : vMet d mc ms y cc nL ret as S σ RT' := by
  intro l D cA ad sz p e ha hc hk s m args below hf happ hP hK
  obtain ⟨n, o, h1, h2, h3, ⟨⟨z, S', σ', ad', g1, g2, g3, g4⟩, hF⟩, hL⟩ := h l D cA ad sz p e ha hc hk s m args below hf happ hP hK
  exact ⟨n, o, h1, h2, h3, ⟨⟨z, S', σ', ad', g1, g2, hi _ _ _ g3, g4⟩, hF⟩, hL⟩
def fpA (B : Int → Int) (fp : FP) : Int → Int := upF (upF B 8 fp.1) 9 fp.2
theorem fpA_8 (B : Int → Int) (fp : FP) : fpA B fp 8 = fp.1 := by rw [fpA, upF_n (by decide), upF_s]
theorem fpA_9 (B : Int → Int) (fp : FP) : fpA B fp 9 = fp.2 := by rw [fpA, upF_s]
theorem fpA_n (B : Int → Int) (fp : FP) {i : Int} (h : i ≠ 8 ∧ i ≠ 9) : fpA B fp i = B i := by rw [fpA, upF_n h.2, upF_n h.1]
theorem fpA_set (B : Int → Int) (fp : FP) (k w : Int) : upF (upF (fpA B fp) 8 k) 9 w = fpA B (k, w) := by
  funext i
  simp only [fpA, upF]
  by_cases h : i = 9
  · simp [h]
  · by_cases h2 : i = 8
    · simp [h2]
    · simp [h, h2]
def FL (σ σ2 : vMem) : Prop := (∀ k, k ≠ 55 ∧ k ≠ 56 ∧ k ≠ 59 ∧ k ≠ 60 → σ2 k = σ k) ∧ ∀ i, i < 4 ∨ 11 < i → σ2 55 i = σ 55 i
def PS (σ0 σ : vMem) (b : Int → Int) (L : Int) (B : Int → Int) (l p : Int) (fp : FP) (C : Int → Int) : Prop := RC σ b L ∧ σ 55 10 = 0 ∧ σ 55 11 = l ∧ RrP b p (σ 55) ∧ σ 56 = fpA B fp ∧ σ 59 = C ∧ FL σ0 σ
def PW (σ0 σ : vMem) (B : Int → Int) (w : Int) : Prop := σ 55 10 = 1 ∧ σ 56 = fpA B (1, w) ∧ FL σ0 σ ∧ 0 ≤ σ 55 11 ∧ σ 55 11 ≤ 501
theorem PS.adv {σ0 σ σ2 : vMem} {b : Int → Int} {L : Int} {B : Int → Int} {l p : Int} {fp : FP} {C : Int → Int} (h : PS σ0 σ b L B l p fp C) {q : Int} (hF : F55 σ σ2) (hr : RrP b q (σ2 55)) : PS σ0 σ2 b L B l q fp C := by
  obtain ⟨a1, a2, a3, a4, a5, a6, a7, a8⟩ := h
  refine ⟨hF.rc a1, by rw [hF.2 10 (by omega)]; exact a2, by rw [hF.2 11 (by omega)]; exact a3, hr, by rw [hF.1 56 (by decide)]; exact a5, by rw [hF.1 59 (by decide)]; exact a6, fun k hk => by rw [hF.1 k hk.1]; exact a7 k hk, fun i hi => by rw [hF.2 i (by omega)]; exact a8 i hi⟩
theorem PS.s60 {σ0 σ : vMem} {b : Int → Int} {L : Int} {B : Int → Int} {l p : Int} {fp : FP} {C : Int → Int} (h : PS σ0 σ b L B l p fp C) {i v : Int} : PS σ0 (vUp σ 60 i v) b L B l p fp C := by
  obtain ⟨a1, a2, a3, a4, a5, a6, a7, a8⟩ := h
  unfold PS RC FL
  rw [vUp_ne (by decide), vUp_ne (by decide), vUp_ne (by decide)]
  exact ⟨a1, a2, a3, a4, a5, a6, fun k hk => by rw [vUp_ne hk.2.2.2]; exact a7 k hk, a8⟩
theorem PW.s60 {σ0 σ : vMem} {B : Int → Int} {w : Int} (h : PW σ0 σ B w) {i v : Int} : PW σ0 (vUp σ 60 i v) B w := by
  obtain ⟨a2, a5, ⟨a7, a8⟩, a9⟩ := h
  unfold PW FL
  rw [vUp_ne (by decide), vUp_ne (by decide)]
  exact ⟨a2, a5, ⟨fun k hk => by rw [vUp_ne hk.2.2.2]; exact a7 k hk, a8⟩, a9⟩

theorem c_M_advP {T : vSh} {σ : vMem} {σ0 : vMem} {L l p : Int} {b B C : Int → Int} {fp : FP} (hP : PS σ0 σ b L B l p fp C) (hp : 0 ≤ p ∧ p ≤ 500) : mt_M_advance [.ref 55] (S0 ++ T) σ (rP (S0 ++ T) (fun _ σ2 => PS σ0 σ2 b L B l (nxF b p) fp C ∧ σ2 60 = σ 60)) := by
  obtain ⟨a1, a2, a3, ⟨a41, a42, a43⟩, a5, a6, a7, a8⟩ := id hP
  have hnx := nxF_rng a1.2.1 hp
  exact vMet.mono (c_M_advance a1 (by omega) a41) (fun z S' σ2 h => ⟨h.1, hP.adv h.2.1 h.2.2, h.2.1.1 60 (by decide)⟩)

theorem c_M_stopsP {T : vSh} {σ : vMem} {σ0 : vMem} {L l p : Int} {b B C : Int → Int} {fp : FP} (hP : PS σ0 σ b L B l p fp C) (hp : 0 ≤ p ∧ p ≤ 500) (hl : 0 ≤ l ∧ l ≤ 500) : mt_M_stops [.ref 55] (S0 ++ T) σ (rP (S0 ++ T) (fun _ σ2 => PW σ0 σ2 B (whF b p))) := by
  refine vMet.intro 0 (by decide +kernel) (Nat.le_of_ble_eq_true rfl) rfl (fun cx hM _ => ?_)
  obtain ⟨a1, a2, a3, ⟨a41, a42, a43⟩, a5, a6, a7, a8⟩ := id hP
  have hnx := nxF_rng a1.2.1 hp
  have hwh := whF_rng b hp.2
  have htk := tkF_rng b p
  unfold TKr at a43
  refine v_aload0 d_M_stops_0 ?_
  refine v_getJ (ji := 10) d_M_stops_1 f_M_191 (sh_55 T) rfl rfl (fun g1 => ?_)
  refine v_if_eq d_M_stops_4 (by omega) (fun u4 => ?_) (fun u4 => ?_)
  · refine v_aload0 d_M_stops_8 ?_
    refine v_iconst d_M_stops_9 ?_
    refine v_putZJ (ji := 10) d_M_stops_10 p_M_191 (sh_55 T) rfl rfl (Or.inr rfl) ?_
    refine v_aload0 d_M_stops_13 ?_
    refine v_getR d_M_stops_14 f_M_7 (sh_55 T) rfl ?_
    refine v_bipush d_M_stops_17 rfl ?_
    refine v_iconst d_M_stops_19 ?_
    refine v_iastoreE (show vUp σ 55 10 1 56 = fpA B fp by rw [vUp_ne (by decide)]; exact a5) d_M_stops_20 (sh_56 T) (by omega) (by omega) (fun m20 f20 hA20 => ?_)
    refine v_aload0 d_M_stops_21 ?_
    refine v_getR d_M_stops_22 f_M_7 (sh_55 T) rfl ?_
    refine v_bipush d_M_stops_25 rfl ?_
    refine v_aload0 d_M_stops_27 ?_
    refine v_getJ (ji := 5) d_M_stops_28 f_M_164 (sh_55 T) rfl rfl (fun g28 => ?_)
    rw [f20 55 (by decide)] at g28 ⊢
    refine v_iastoreE hA20 d_M_stops_31 (sh_56 T) (by omega) (by omega) (fun m31 f31 hA31 => ?_)
    first
    | (omega)
    | (exact v_return hM d_M_stops_32 ⟨rfl, by rw [f31 55 (by decide), f20 55 (by decide), vUp_same], by rw [hA31, vUp_ix (by decide), a42]; exact fpA_set B fp 1 (whF b p), ⟨fun k hk => by rw [f31 k hk.2.1, f20 k hk.2.1, vUp_ne hk.1]; exact a7 k hk, fun i hi => by rw [f31 55 (by decide), f20 55 (by decide), vUp_ix (by omega)]; exact a8 i hi⟩, by rw [f31 55 (by decide), f20 55 (by decide), vUp_ix (by decide)]; omega⟩)
  · first
    | (omega)
    | (exact v_return hM d_M_stops_7 ⟨rfl, by rw [f31 55 (by decide), f20 55 (by decide), vUp_same], by rw [hA31, vUp_ix (by decide), a42]; exact fpA_set B fp 1 (whF b p), ⟨fun k hk => by rw [f31 k hk.2.1, f20 k hk.2.1, vUp_ne hk.1]; exact a7 k hk, fun i hi => by rw [f31 55 (by decide), f20 55 (by decide), vUp_ix (by omega)]; exact a8 i hi⟩, by rw [f31 55 (by decide), f20 55 (by decide), vUp_ix (by decide)]; omega⟩)

theorem c_M_stopsW {T : vSh} {σ : vMem} (hw : σ 55 10 = 1) : mt_M_stops [.ref 55] (S0 ++ T) σ (rP (S0 ++ T) (fun _ σ2 => σ2 = σ)) := by
  refine vMet.intro 0 (by decide +kernel) (Nat.le_of_ble_eq_true rfl) rfl (fun cx hM _ => ?_)
  refine v_aload0 d_M_stops_0 ?_
  refine v_getJ (ji := 10) d_M_stops_1 f_M_191 (sh_55 T) rfl rfl (fun g1 => ?_)
  refine v_if_eq d_M_stops_4 (by omega) (fun u4 => ?_) (fun u4 => ?_)
  · refine v_aload0 d_M_stops_8 ?_
    refine v_iconst d_M_stops_9 ?_
    refine v_putZJ (ji := 10) d_M_stops_10 p_M_191 (sh_55 T) rfl rfl (by omega) ?_
    omega
  · first
    | (exact v_return hM d_M_stops_7 ⟨rfl, rfl⟩)
    | (omega)

theorem c_M_alsoP {T : vSh} {σ : vMem} {σ0 : vMem} {L l p : Int} {b B C : Int → Int} {fp : FP} (hP : PS σ0 σ b L B l p fp C) (hp : 0 ≤ p ∧ p ≤ 500) {k w : Int} (h0 : vIn k) (h1 : vIn w) : mt_M_also [.ref 55, .int (iI k), .int (iI w)] (S0 ++ T) σ (rP (S0 ++ T) (fun _ σ2 => PS σ0 σ2 b L B l p (adF fp k w) C ∧ σ2 60 = σ 60)) := by
  refine vMet.intro 0 (by decide +kernel) (Nat.le_of_ble_eq_true rfl) rfl (fun cx hM _ => ?_)
  obtain ⟨a1, a2, a3, ⟨a41, a42, a43⟩, a5, a6, a7, a8⟩ := id hP
  have hnx := nxF_rng a1.2.1 hp
  have hwh := whF_rng b hp.2
  have htk := tkF_rng b p
  unfold TKr at a43
  refine v_aload0 d_M_also_0 ?_
  refine v_getJ (ji := 10) d_M_also_1 f_M_191 (sh_55 T) rfl rfl (fun g1 => ?_)
  refine v_if_ne d_M_also_4 (by omega) (fun u4 => ?_) (fun u4 => ?_)
  · first
    | (omega)
    | (exact v_return hM d_M_also_17 ⟨rfl, by rw [adF, if_neg (by omega)]; exact hP, rfl⟩)
    | (exact v_return hM d_M_also_17 ⟨rfl, ⟨⟨by rw [f33 55 (by decide), f25 55 (by decide)]; exact a1.1, a1.2.1, fun i i1 i2 => by rw [hA33, upF_n (by omega), upF_n (by omega), ← a5]; exact a1.2.2 i i1 i2⟩, by rw [f33 55 (by decide), f25 55 (by decide)]; exact a2, by rw [f33 55 (by decide), f25 55 (by decide)]; exact a3, by rw [f33 55 (by decide), f25 55 (by decide)]; exact ⟨a41, a42, a43⟩, by rw [hA33, fpA_set, adF, if_pos (by omega)], by rw [f33 59 (by decide), f25 59 (by decide)]; exact a6, fun i hk => by rw [f33 i hk.2.1, f25 i hk.2.1]; exact a7 i hk, fun i hi => by rw [f33 55 (by decide), f25 55 (by decide)]; exact a8 i hi⟩, by rw [f33 60 (by decide), f25 60 (by decide)]⟩)
  · refine v_aload0 d_M_also_7 ?_
    refine v_getR d_M_also_8 f_M_7 (sh_55 T) rfl ?_
    refine v_bipush d_M_also_11 rfl ?_
    refine v_ialoadE a5 d_M_also_13 (sh_56 T) (by omega) (fun g13 => ?_)
    rw [fpA_8] at g13 ⊢
    refine v_if_eq d_M_also_14 (by omega) (fun u14 => ?_) (fun u14 => ?_)
    · refine v_aload0 d_M_also_18 ?_
      refine v_getR d_M_also_19 f_M_7 (sh_55 T) rfl ?_
      refine v_bipush d_M_also_22 rfl ?_
      refine v_iload1 d_M_also_24 ?_
      refine v_iastoreE a5 d_M_also_25 (sh_56 T) (by omega) (by omega) (fun m25 f25 hA25 => ?_)
      refine v_aload0 d_M_also_26 ?_
      refine v_getR d_M_also_27 f_M_7 (sh_55 T) rfl ?_
      refine v_bipush d_M_also_30 rfl ?_
      refine v_iload2 d_M_also_32 ?_
      refine v_iastoreE hA25 d_M_also_33 (sh_56 T) (by omega) (by omega) (fun m33 f33 hA33 => ?_)
      first
      | (omega)
      | (exact v_return hM d_M_also_34 ⟨rfl, by rw [adF, if_neg (by omega)]; exact hP, rfl⟩)
      | (exact v_return hM d_M_also_34 ⟨rfl, ⟨⟨by rw [f33 55 (by decide), f25 55 (by decide)]; exact a1.1, a1.2.1, fun i i1 i2 => by rw [hA33, upF_n (by omega), upF_n (by omega), ← a5]; exact a1.2.2 i i1 i2⟩, by rw [f33 55 (by decide), f25 55 (by decide)]; exact a2, by rw [f33 55 (by decide), f25 55 (by decide)]; exact a3, by rw [f33 55 (by decide), f25 55 (by decide)]; exact ⟨a41, a42, a43⟩, by rw [hA33, fpA_set, adF, if_pos (by omega)], by rw [f33 59 (by decide), f25 59 (by decide)]; exact a6, fun i hk => by rw [f33 i hk.2.1, f25 i hk.2.1]; exact a7 i hk, fun i hi => by rw [f33 55 (by decide), f25 55 (by decide)]; exact a8 i hi⟩, by rw [f33 60 (by decide), f25 60 (by decide)]⟩)
    · first
      | (omega)
      | (exact v_return hM d_M_also_17 ⟨rfl, by rw [adF, if_neg (by omega)]; exact hP, rfl⟩)
      | (exact v_return hM d_M_also_17 ⟨rfl, ⟨⟨by rw [f33 55 (by decide), f25 55 (by decide)]; exact a1.1, a1.2.1, fun i i1 i2 => by rw [hA33, upF_n (by omega), upF_n (by omega), ← a5]; exact a1.2.2 i i1 i2⟩, by rw [f33 55 (by decide), f25 55 (by decide)]; exact a2, by rw [f33 55 (by decide), f25 55 (by decide)]; exact a3, by rw [f33 55 (by decide), f25 55 (by decide)]; exact ⟨a41, a42, a43⟩, by rw [hA33, fpA_set, adF, if_pos (by omega)], by rw [f33 59 (by decide), f25 59 (by decide)]; exact a6, fun i hk => by rw [f33 i hk.2.1, f25 i hk.2.1]; exact a7 i hk, fun i hi => by rw [f33 55 (by decide), f25 55 (by decide)]; exact a8 i hi⟩, by rw [f33 60 (by decide), f25 60 (by decide)]⟩)

theorem c_M_alsoW {T : vSh} {σ : vMem} {k w : Int} (hw : σ 55 10 = 1) : mt_M_also [.ref 55, .int (iI k), .int (iI w)] (S0 ++ T) σ (rP (S0 ++ T) (fun _ σ2 => σ2 = σ)) := by
  refine vMet.intro 0 (by decide +kernel) (Nat.le_of_ble_eq_true rfl) rfl (fun cx hM _ => ?_)
  refine v_aload0 d_M_also_0 ?_
  refine v_getJ (ji := 10) d_M_also_1 f_M_191 (sh_55 T) rfl rfl (fun g1 => ?_)
  refine v_if_ne d_M_also_4 (by omega) (fun u4 => ?_) (fun u4 => ?_)
  · first
    | (exact v_return hM d_M_also_17 ⟨rfl, rfl⟩)
    | (omega)
  · omega

theorem c_M_takesP {T : vSh} {σ : vMem} {σ0 : vMem} {L l p : Int} {b B C : Int → Int} {fp : FP} (hP : PS σ0 σ b L B l p fp C) (hp : 0 ≤ p ∧ p ≤ 500) {t w : Int} (h0 : w = t + 30) (h1 : 0 ≤ t ∧ t ≤ 2) : mt_M_takes [.ref 55, .int (iI w)] (S0 ++ T) σ (rP (S0 ++ T) (fun z σ2 => z = b01 (tkF b p = t) ∧ PS σ0 σ2 b L B l (if tkF b p = t then nxF b p else p) fp C ∧ σ2 60 = σ 60)) := by
  refine vMet.intro 0 (by decide +kernel) (Nat.le_of_ble_eq_true rfl) rfl (fun cx hM _ => ?_)
  obtain ⟨a1, a2, a3, ⟨a41, a42, a43⟩, a5, a6, a7, a8⟩ := id hP
  have hnx := nxF_rng a1.2.1 hp
  have hwh := whF_rng b hp.2
  have htk := tkF_rng b p
  unfold TKr at a43
  refine v_aload0 d_M_takes_0 ?_
  refine v_getJ (ji := 10) d_M_takes_1 f_M_191 (sh_55 T) rfl rfl (fun g1 => ?_)
  refine v_if_ne d_M_takes_4 (by omega) (fun u4 => ?_) (fun u4 => ?_)
  · refine v_iconst d_M_takes_23 ?_
    first
    | (omega)
    | (exact v_zreturn hM d_M_takes_24 (Or.inr rfl) ⟨rfl, (b01_1 (by omega)), by rw [if_pos (by omega)]; exact e26.1, e26.2⟩)
    | (exact v_zreturn hM d_M_takes_24 (Or.inl rfl) ⟨rfl, (b01_0 (by omega)), by rw [if_neg (by omega)]; exact hP, rfl⟩)
  · refine v_aload0 d_M_takes_7 ?_
    refine v_getJ (ji := 6) d_M_takes_8 f_M_167 (sh_55 T) rfl rfl (fun g8 => ?_)
    refine v_iconst d_M_takes_11 ?_
    refine v_icmp_ne d_M_takes_12 (by omega) (by omega) (fun u12 => ?_) (fun u12 => ?_)
    · refine v_iconst d_M_takes_23 ?_
      first
      | (omega)
      | (exact v_zreturn hM d_M_takes_24 (Or.inr rfl) ⟨rfl, (b01_1 (by omega)), by rw [if_pos (by omega)]; exact e26.1, e26.2⟩)
      | (exact v_zreturn hM d_M_takes_24 (Or.inl rfl) ⟨rfl, (b01_0 (by omega)), by rw [if_neg (by omega)]; exact hP, rfl⟩)
    · refine v_aload0 d_M_takes_15 ?_
      refine v_getJ (ji := 9) d_M_takes_16 f_M_176 (sh_55 T) rfl rfl (fun g16 => ?_)
      refine v_iload1 d_M_takes_19 ?_
      refine v_icmp_eq d_M_takes_20 (by omega) (by omega) (fun u20 => ?_) (fun u20 => ?_)
      · refine v_aload0 d_M_takes_25 ?_
        refine v_gVV0 d_M_takes_26 l_M_195 k_M_advance (c_M_advP @hP (by omega)) (sh_55 T) rfl (by decide) (by decide) (Nat.le_of_ble_eq_true rfl) (Nat.zero_le _) (Nat.zero_le _) (fun z26 s26 e26 => ?_)
        refine v_iconst d_M_takes_29 ?_
        first
        | (omega)
        | (exact v_zreturn hM d_M_takes_30 (Or.inr rfl) ⟨rfl, (b01_1 (by omega)), by rw [if_pos (by omega)]; exact e26.1, e26.2⟩)
        | (exact v_zreturn hM d_M_takes_30 (Or.inl rfl) ⟨rfl, (b01_0 (by omega)), by rw [if_neg (by omega)]; exact hP, rfl⟩)
      · refine v_iconst d_M_takes_23 ?_
        first
        | (omega)
        | (exact v_zreturn hM d_M_takes_24 (Or.inr rfl) ⟨rfl, (b01_1 (by omega)), by rw [if_pos (by omega)]; exact e26.1, e26.2⟩)
        | (exact v_zreturn hM d_M_takes_24 (Or.inl rfl) ⟨rfl, (b01_0 (by omega)), by rw [if_neg (by omega)]; exact hP, rfl⟩)

theorem c_M_takesW {T : vSh} {σ : vMem} {w : Int} (hw : σ 55 10 = 1) : mt_M_takes [.ref 55, .int (iI w)] (S0 ++ T) σ (rP (S0 ++ T) (fun z σ2 => z = 0 ∧ σ2 = σ)) := by
  refine vMet.intro 0 (by decide +kernel) (Nat.le_of_ble_eq_true rfl) rfl (fun cx hM _ => ?_)
  refine v_aload0 d_M_takes_0 ?_
  refine v_getJ (ji := 10) d_M_takes_1 f_M_191 (sh_55 T) rfl rfl (fun g1 => ?_)
  refine v_if_ne d_M_takes_4 (by omega) (fun u4 => ?_) (fun u4 => ?_)
  · refine v_iconst d_M_takes_23 ?_
    first
    | (exact v_zreturn hM d_M_takes_24 (Or.inl rfl) ⟨rfl, rfl, rfl⟩)
    | (omega)
  · omega

theorem c_M_mustP {T : vSh} {σ : vMem} {σ0 : vMem} {L l p : Int} {b B C : Int → Int} {fp : FP} (hP : PS σ0 σ b L B l p fp C) (hp : 0 ≤ p ∧ p ≤ 500) (hl : 0 ≤ l ∧ l ≤ 500) {c : Int} (h0 : 58 ≤ c ∧ c ≤ 62) : mt_M_must [.ref 55, .int (iI c)] (S0 ++ T) σ (rP (S0 ++ T) (fun _ σ2 => (tkF b p = c ∧ PS σ0 σ2 b L B l (nxF b p) fp C) ∨ (tkF b p ≠ c ∧ PW σ0 σ2 B (whF b p)))) := by
  refine vMet.intro 0 (by decide +kernel) (Nat.le_of_ble_eq_true rfl) rfl (fun cx hM _ => ?_)
  obtain ⟨a1, a2, a3, ⟨a41, a42, a43⟩, a5, a6, a7, a8⟩ := id hP
  have hnx := nxF_rng a1.2.1 hp
  have hwh := whF_rng b hp.2
  have htk := tkF_rng b p
  unfold TKr at a43
  refine v_aload0 d_M_must_0 ?_
  refine v_getJ (ji := 10) d_M_must_1 f_M_191 (sh_55 T) rfl rfl (fun g1 => ?_)
  refine v_if_ne d_M_must_4 (by omega) (fun u4 => ?_) (fun u4 => ?_)
  · refine v_aload0 d_M_must_30 ?_
    refine v_gVV0 d_M_must_31 l_M_198 k_M_stops (c_M_stopsP hP hp hl) (sh_55 T) rfl (by decide) (by decide) (Nat.le_of_ble_eq_true rfl) (Nat.zero_le _) (Nat.zero_le _) (fun z31 s31 e31 => ?_)
    first
    | (omega)
    | (exact v_return hM d_M_must_34 ⟨rfl, Or.inl ⟨by omega, e24.1⟩⟩)
    | (exact v_return hM d_M_must_34 ⟨rfl, Or.inr ⟨by omega, e31⟩⟩)
  · refine v_aload0 d_M_must_7 ?_
    refine v_getJ (ji := 6) d_M_must_8 f_M_167 (sh_55 T) rfl rfl (fun g8 => ?_)
    refine v_iconst d_M_must_11 ?_
    refine v_icmp_ne d_M_must_12 (by omega) (by omega) (fun u12 => ?_) (fun u12 => ?_)
    · refine v_aload0 d_M_must_30 ?_
      refine v_gVV0 d_M_must_31 l_M_198 k_M_stops (c_M_stopsP hP hp hl) (sh_55 T) rfl (by decide) (by decide) (Nat.le_of_ble_eq_true rfl) (Nat.zero_le _) (Nat.zero_le _) (fun z31 s31 e31 => ?_)
      first
      | (omega)
      | (exact v_return hM d_M_must_34 ⟨rfl, Or.inl ⟨by omega, e24.1⟩⟩)
      | (exact v_return hM d_M_must_34 ⟨rfl, Or.inr ⟨by omega, e31⟩⟩)
    · refine v_aload0 d_M_must_15 ?_
      refine v_getJ (ji := 8) d_M_must_16 f_M_185 (sh_55 T) rfl rfl (fun g16 => ?_)
      refine v_iload1 d_M_must_19 ?_
      refine v_icmp_ne d_M_must_20 (by omega) (by omega) (fun u20 => ?_) (fun u20 => ?_)
      · refine v_aload0 d_M_must_30 ?_
        refine v_gVV0 d_M_must_31 l_M_198 k_M_stops (c_M_stopsP hP hp hl) (sh_55 T) rfl (by decide) (by decide) (Nat.le_of_ble_eq_true rfl) (Nat.zero_le _) (Nat.zero_le _) (fun z31 s31 e31 => ?_)
        first
        | (omega)
        | (exact v_return hM d_M_must_34 ⟨rfl, Or.inl ⟨by omega, e24.1⟩⟩)
        | (exact v_return hM d_M_must_34 ⟨rfl, Or.inr ⟨by omega, e31⟩⟩)
      · refine v_aload0 d_M_must_23 ?_
        refine v_gVV0 d_M_must_24 l_M_195 k_M_advance (c_M_advP @hP (by omega)) (sh_55 T) rfl (by decide) (by decide) (Nat.le_of_ble_eq_true rfl) (Nat.zero_le _) (Nat.zero_le _) (fun z24 s24 e24 => ?_)
        refine v_goto d_M_must_27 ?_
        first
        | (omega)
        | (exact v_return hM d_M_must_34 ⟨rfl, Or.inl ⟨by omega, e24.1⟩⟩)
        | (exact v_return hM d_M_must_34 ⟨rfl, Or.inr ⟨by omega, e31⟩⟩)

theorem c_M_mustW {T : vSh} {σ : vMem} {c : Int} (hw : σ 55 10 = 1) : mt_M_must [.ref 55, .int (iI c)] (S0 ++ T) σ (rP (S0 ++ T) (fun _ σ2 => σ2 = σ)) := by
  refine vMet.intro 0 (by decide +kernel) (Nat.le_of_ble_eq_true rfl) rfl (fun cx hM _ => ?_)
  refine v_aload0 d_M_must_0 ?_
  refine v_getJ (ji := 10) d_M_must_1 f_M_191 (sh_55 T) rfl rfl (fun g1 => ?_)
  refine v_if_ne d_M_must_4 (by omega) (fun u4 => ?_) (fun u4 => ?_)
  · refine v_aload0 d_M_must_30 ?_
    refine v_gVV0 d_M_must_31 l_M_198 k_M_stops (c_M_stopsW hw) (sh_55 T) rfl (by decide) (by decide) (Nat.le_of_ble_eq_true rfl) (Nat.zero_le _) (Nat.zero_le _) (fun z31 s31 e31 => ?_)
    first
    | (exact v_return hM d_M_must_34 ⟨rfl, e31⟩)
    | (omega)
  · omega

theorem c_M_numP {T : vSh} {σ : vMem} {σ0 : vMem} {L l p : Int} {b B C : Int → Int} {fp : FP} (hP : PS σ0 σ b L B l p fp C) (hp : 0 ≤ p ∧ p ≤ 500) (hl : 0 ≤ l ∧ l ≤ 500) : mt_M_numbered [.ref 55] (S0 ++ T) σ (rP (S0 ++ T) (fun z σ2 => (tkF b p = 102 ∧ z = nmF b p ∧ PS σ0 σ2 b L B l (nxF b p) fp C ∧ σ2 60 = σ 60) ∨ (tkF b p ≠ 102 ∧ PW σ0 σ2 B (whF b p)))) := by
  refine vMet.intro 1 (by decide +kernel) (Nat.le_of_ble_eq_true rfl) rfl (fun cx hM _ => ?_)
  obtain ⟨a1, a2, a3, ⟨a41, a42, a43⟩, a5, a6, a7, a8⟩ := id hP
  have hnx := nxF_rng a1.2.1 hp
  have hwh := whF_rng b hp.2
  have htk := tkF_rng b p
  unfold TKr at a43
  refine v_aload0 d_M_numbered_0 ?_
  refine v_getJ (ji := 7) d_M_numbered_1 f_M_182 (sh_55 T) rfl rfl (fun g1 => ?_)
  refine v_istore1 d_M_numbered_4 (by decide) rfl ?_
  refine v_aload0 d_M_numbered_5 ?_
  refine v_getJ (ji := 10) d_M_numbered_6 f_M_191 (sh_55 T) rfl rfl (fun g6 => ?_)
  refine v_if_ne d_M_numbered_9 (by omega) (fun u9 => ?_) (fun u9 => ?_)
  · refine v_aload0 d_M_numbered_27 ?_
    refine v_gVV0 d_M_numbered_28 l_M_198 k_M_stops (c_M_stopsP hP hp hl) (sh_55 T) rfl (by decide) (by decide) (Nat.le_of_ble_eq_true rfl) (Nat.zero_le _) (Nat.zero_le _) (fun z28 s28 e28 => ?_)
    refine v_iload1 d_M_numbered_31 ?_
    first
    | (omega)
    | (exact v_ireturn hM d_M_numbered_32 (by omega) ⟨rfl, Or.inl ⟨by omega, by omega, e21.1, e21.2⟩⟩)
    | (exact v_ireturn hM d_M_numbered_32 (by omega) ⟨rfl, Or.inr ⟨by omega, e28⟩⟩)
  · refine v_aload0 d_M_numbered_12 ?_
    refine v_getJ (ji := 6) d_M_numbered_13 f_M_167 (sh_55 T) rfl rfl (fun g13 => ?_)
    refine v_iconst d_M_numbered_16 ?_
    refine v_icmp_ne d_M_numbered_17 (by omega) (by omega) (fun u17 => ?_) (fun u17 => ?_)
    · refine v_aload0 d_M_numbered_27 ?_
      refine v_gVV0 d_M_numbered_28 l_M_198 k_M_stops (c_M_stopsP hP hp hl) (sh_55 T) rfl (by decide) (by decide) (Nat.le_of_ble_eq_true rfl) (Nat.zero_le _) (Nat.zero_le _) (fun z28 s28 e28 => ?_)
      refine v_iload1 d_M_numbered_31 ?_
      first
      | (omega)
      | (exact v_ireturn hM d_M_numbered_32 (by omega) ⟨rfl, Or.inl ⟨by omega, by omega, e21.1, e21.2⟩⟩)
      | (exact v_ireturn hM d_M_numbered_32 (by omega) ⟨rfl, Or.inr ⟨by omega, e28⟩⟩)
    · refine v_aload0 d_M_numbered_20 ?_
      refine v_gVV0 d_M_numbered_21 l_M_195 k_M_advance (c_M_advP @hP (by omega)) (sh_55 T) rfl (by decide) (by decide) (Nat.le_of_ble_eq_true rfl) (Nat.zero_le _) (Nat.zero_le _) (fun z21 s21 e21 => ?_)
      refine v_goto d_M_numbered_24 ?_
      refine v_iload1 d_M_numbered_31 ?_
      first
      | (omega)
      | (exact v_ireturn hM d_M_numbered_32 (by omega) ⟨rfl, Or.inl ⟨by omega, by omega, e21.1, e21.2⟩⟩)
      | (exact v_ireturn hM d_M_numbered_32 (by omega) ⟨rfl, Or.inr ⟨by omega, e28⟩⟩)

theorem c_M_aTest_45 {T : vSh} {σ1 σ0 : vMem} {cx : vCx} {L l p : Int} {b B C : Int → Int} {fp : FP} (hp : 0 ≤ p ∧ p ≤ 500) (hl : 0 ≤ l ∧ l ≤ 500) (hM : vM cx 0 0 none (rP (S0 ++ T) (fun _ σ2 => (tOk b p ∧ PS σ0 σ2 b L B l (tEn b p) fp C ∧ σ2 60 0 = tNg b p ∧ σ2 60 1 = tSb b p ∧ σ2 60 2 = tSg b p ∧ σ2 60 3 = tLm b p) ∨ (¬ tOk b p ∧ PW σ0 σ2 B (whF b (tEn b p)))))) (hQ : PS σ0 σ1 b L B l (tqF b p) fp C) (t0 : σ1 60 0 = tNg b p) (t1 : σ1 60 1 = σ1 55 9) (t2 : σ1 60 2 = 61) (t3 : σ1 60 3 = 1) : vV cx y_M_aTest.cls prog_14_method_55_code 1 6 0 0 0 0 45 [some (.ref 55)] [] (S0 ++ T) σ1 := by
  obtain ⟨a1, a2, a3, ⟨a41, a42, a43⟩, a5, a6, a7, a8⟩ := id hQ
  have hq := tqF_rng a1.2.1 hp
  have hnx := nxF_rng a1.2.1 (p := tqF b p) (by omega)
  have htr : tgF b p = nxF b (tqF b p) := rfl
  have hns := nxF_rng a1.2.1 (p := tgF b p) (by omega)
  have hts : tsF b p = nxF b (tgF b p) := rfl
  have hnt := nxF_rng a1.2.1 (p := tsF b p) (by omega)
  have htk := tkF_rng b (tqF b p)
  have htk2 := tkF_rng b (tgF b p)
  unfold TKr at a43
  refine v_aload0 d_M_aTest_45 ?_
  refine v_getJ (ji := 10) d_M_aTest_46 f_M_191 (sh_55 T) rfl rfl (fun g46 => ?_)
  refine v_if_ne d_M_aTest_49 (by omega) (fun u49 => ?_) (fun u49 => ?_)
  · refine v_aload0 d_M_aTest_73 ?_
    refine v_gVV0 d_M_aTest_74 l_M_198 k_M_stops (c_M_stopsP hQ (by omega) hl) (sh_55 T) rfl (by decide) (by decide) (Nat.le_of_ble_eq_true rfl) (Nat.zero_le _) (Nat.zero_le _) (fun z74 s74 e74 => ?_)
    first
    | (omega)
    | (exact v_return hM d_M_aTest_77 ⟨rfl, Or.inr ⟨by omega, by rw [tEn, if_pos (by omega)]; exact e74⟩⟩)
    | (exact v_return hM d_M_aTest_77 ⟨rfl, Or.inr ⟨by omega, by rw [tEn, if_neg (by omega), if_neg (by omega), if_pos (by omega)]; exact e130⟩⟩)
    | (exact v_return hM d_M_aTest_77 ⟨rfl, Or.inl ⟨by omega, by rw [tEn, if_neg (by omega), if_pos (by omega)]; exact e79.1, by rw [e79.2]; exact t0, by rw [e79.2, t1, tSb]; omega, by rw [e79.2, t2, tSg, if_pos (by omega)], by rw [e79.2, t3, tLm, if_pos (by omega)]⟩⟩)
    | (rcases e144 with ⟨y1, y2, y3, y4⟩ | ⟨y1, y2⟩ <;> first | exact v_return hM d_M_aTest_77 ⟨rfl, Or.inl ⟨by omega, by rw [tEn, if_neg (by omega), if_neg (by omega), if_neg (by omega), if_neg (by omega)]; exact y3.s60, by rw [vUp_ix (by decide), y4, e135.2, vUp_ix (by decide), e79.2]; exact t0, by rw [vUp_ix (by decide), y4, e135.2, vUp_ix (by decide), e79.2, t1, tSb]; omega, by rw [vUp_ix (by decide), y4, e135.2, vUp_same, tSg, if_neg (by omega)]; omega, by rw [vUp_same, tLm, if_neg (by omega), y2]⟩⟩ | exact v_return hM d_M_aTest_77 ⟨rfl, Or.inr ⟨by omega, by rw [tEn, if_neg (by omega), if_neg (by omega), if_neg (by omega), if_pos (by omega)]; exact y2.s60⟩⟩)
  · refine v_aload0 d_M_aTest_52 ?_
    refine v_getJ (ji := 6) d_M_aTest_53 f_M_167 (sh_55 T) rfl rfl (fun g53 => ?_)
    refine v_iconst d_M_aTest_56 ?_
    refine v_icmp_ne d_M_aTest_57 (by omega) (by omega) (fun u57 => ?_) (fun u57 => ?_)
    · refine v_aload0 d_M_aTest_73 ?_
      refine v_gVV0 d_M_aTest_74 l_M_198 k_M_stops (c_M_stopsP hQ (by omega) hl) (sh_55 T) rfl (by decide) (by decide) (Nat.le_of_ble_eq_true rfl) (Nat.zero_le _) (Nat.zero_le _) (fun z74 s74 e74 => ?_)
      first
      | (omega)
      | (exact v_return hM d_M_aTest_77 ⟨rfl, Or.inr ⟨by omega, by rw [tEn, if_pos (by omega)]; exact e74⟩⟩)
      | (exact v_return hM d_M_aTest_77 ⟨rfl, Or.inr ⟨by omega, by rw [tEn, if_neg (by omega), if_neg (by omega), if_pos (by omega)]; exact e130⟩⟩)
      | (exact v_return hM d_M_aTest_77 ⟨rfl, Or.inl ⟨by omega, by rw [tEn, if_neg (by omega), if_pos (by omega)]; exact e79.1, by rw [e79.2]; exact t0, by rw [e79.2, t1, tSb]; omega, by rw [e79.2, t2, tSg, if_pos (by omega)], by rw [e79.2, t3, tLm, if_pos (by omega)]⟩⟩)
      | (rcases e144 with ⟨y1, y2, y3, y4⟩ | ⟨y1, y2⟩ <;> first | exact v_return hM d_M_aTest_77 ⟨rfl, Or.inl ⟨by omega, by rw [tEn, if_neg (by omega), if_neg (by omega), if_neg (by omega), if_neg (by omega)]; exact y3.s60, by rw [vUp_ix (by decide), y4, e135.2, vUp_ix (by decide), e79.2]; exact t0, by rw [vUp_ix (by decide), y4, e135.2, vUp_ix (by decide), e79.2, t1, tSb]; omega, by rw [vUp_ix (by decide), y4, e135.2, vUp_same, tSg, if_neg (by omega)]; omega, by rw [vUp_same, tLm, if_neg (by omega), y2]⟩⟩ | exact v_return hM d_M_aTest_77 ⟨rfl, Or.inr ⟨by omega, by rw [tEn, if_neg (by omega), if_neg (by omega), if_neg (by omega), if_pos (by omega)]; exact y2.s60⟩⟩)
    · refine v_aload0 d_M_aTest_60 ?_
      refine v_getJ (ji := 9) d_M_aTest_61 f_M_176 (sh_55 T) rfl rfl (fun g61 => ?_)
      refine v_iconst d_M_aTest_64 ?_
      refine v_bipush d_M_aTest_65 rfl ?_
      refine v_fSZ3 d_M_aTest_67 l_M_56 k_M_isIn (c_M_isIn (by omega) (by omega) (by omega)) (by decide) (by decide) (Nat.le_of_ble_eq_true rfl) (Nat.zero_le _) (Nat.zero_le _) (fun g67 => ?_)
      refine v_ifb_ne d_M_aTest_70 (fun u70 => ?_) (fun u70 => ?_)
      · refine v_aload0 d_M_aTest_78 ?_
        refine v_gVV0 d_M_aTest_79 l_M_195 k_M_advance (c_M_advP hQ (by omega)) (sh_55 T) rfl (by decide) (by decide) (Nat.le_of_ble_eq_true rfl) (Nat.zero_le _) (Nat.zero_le _) (fun z79 s79 e79 => ?_)
        obtain ⟨c1, c2, c3, ⟨c41, c42, c43⟩, c5, c6, c7, c8⟩ := id e79.1
        rw [← htr] at c41 c42 c43
        unfold TKr at c43
        refine v_aload0 d_M_aTest_82 ?_
        refine v_getR d_M_aTest_83 f_M_23 (sh_55 T) rfl ?_
        refine v_iconst d_M_aTest_86 ?_
        refine v_iaload d_M_aTest_87 (sh_60 T) (by omega) (fun g87 => ?_)
        rw [e79.2, t1] at g87 ⊢
        refine v_iconst d_M_aTest_88 ?_
        refine v_icmp_ne d_M_aTest_89 (by omega) (by omega) (fun u89 => ?_) (fun u89 => ?_)
        · refine v_aload0 d_M_aTest_93 ?_
          refine v_getR d_M_aTest_94 f_M_23 (sh_55 T) rfl ?_
          refine v_iconst d_M_aTest_97 ?_
          refine v_aload0 d_M_aTest_98 ?_
          refine v_getJ (ji := 8) d_M_aTest_99 f_M_185 (sh_55 T) rfl rfl (fun g99 => ?_)
          refine v_iastore d_M_aTest_102 (sh_60 T) (by omega) (by omega) ?_
          refine v_aload0 d_M_aTest_103 ?_
          refine v_getJ (ji := 6) d_M_aTest_104 f_M_167 (sh_55 T) rfl rfl (fun g104 => ?_)
          rw [vUp_ne (by decide)] at g104 ⊢
          refine v_iconst d_M_aTest_107 ?_
          refine v_icmp_ne d_M_aTest_108 (by omega) (by omega) (fun u108 => ?_) (fun u108 => ?_)
          · refine v_aload0 d_M_aTest_129 ?_
            refine v_gVV0 d_M_aTest_130 l_M_198 k_M_stops (c_M_stopsP (p := tgF b p) e79.1.s60 (by omega) hl) (sh_55 T) rfl (by decide) (by decide) (Nat.le_of_ble_eq_true rfl) (Nat.zero_le _) (Nat.zero_le _) (fun z130 s130 e130 => ?_)
            first
            | (omega)
            | (exact v_return hM d_M_aTest_133 ⟨rfl, Or.inr ⟨by omega, by rw [tEn, if_pos (by omega)]; exact e74⟩⟩)
            | (exact v_return hM d_M_aTest_133 ⟨rfl, Or.inr ⟨by omega, by rw [tEn, if_neg (by omega), if_neg (by omega), if_pos (by omega)]; exact e130⟩⟩)
            | (exact v_return hM d_M_aTest_133 ⟨rfl, Or.inl ⟨by omega, by rw [tEn, if_neg (by omega), if_pos (by omega)]; exact e79.1, by rw [e79.2]; exact t0, by rw [e79.2, t1, tSb]; omega, by rw [e79.2, t2, tSg, if_pos (by omega)], by rw [e79.2, t3, tLm, if_pos (by omega)]⟩⟩)
            | (rcases e144 with ⟨y1, y2, y3, y4⟩ | ⟨y1, y2⟩ <;> first | exact v_return hM d_M_aTest_133 ⟨rfl, Or.inl ⟨by omega, by rw [tEn, if_neg (by omega), if_neg (by omega), if_neg (by omega), if_neg (by omega)]; exact y3.s60, by rw [vUp_ix (by decide), y4, e135.2, vUp_ix (by decide), e79.2]; exact t0, by rw [vUp_ix (by decide), y4, e135.2, vUp_ix (by decide), e79.2, t1, tSb]; omega, by rw [vUp_ix (by decide), y4, e135.2, vUp_same, tSg, if_neg (by omega)]; omega, by rw [vUp_same, tLm, if_neg (by omega), y2]⟩⟩ | exact v_return hM d_M_aTest_133 ⟨rfl, Or.inr ⟨by omega, by rw [tEn, if_neg (by omega), if_neg (by omega), if_neg (by omega), if_pos (by omega)]; exact y2.s60⟩⟩)
          · refine v_aload0 d_M_aTest_111 ?_
            refine v_getJ (ji := 8) d_M_aTest_112 f_M_185 (sh_55 T) rfl rfl (fun g112 => ?_)
            rw [vUp_ne (by decide)] at g112 ⊢
            refine v_bipush d_M_aTest_115 rfl ?_
            refine v_icmp_eq d_M_aTest_117 (by omega) (by omega) (fun u117 => ?_) (fun u117 => ?_)
            · refine v_aload0 d_M_aTest_129 ?_
              refine v_gVV0 d_M_aTest_130 l_M_198 k_M_stops (c_M_stopsP (p := tgF b p) e79.1.s60 (by omega) hl) (sh_55 T) rfl (by decide) (by decide) (Nat.le_of_ble_eq_true rfl) (Nat.zero_le _) (Nat.zero_le _) (fun z130 s130 e130 => ?_)
              first
              | (omega)
              | (exact v_return hM d_M_aTest_133 ⟨rfl, Or.inr ⟨by omega, by rw [tEn, if_pos (by omega)]; exact e74⟩⟩)
              | (exact v_return hM d_M_aTest_133 ⟨rfl, Or.inr ⟨by omega, by rw [tEn, if_neg (by omega), if_neg (by omega), if_pos (by omega)]; exact e130⟩⟩)
              | (exact v_return hM d_M_aTest_133 ⟨rfl, Or.inl ⟨by omega, by rw [tEn, if_neg (by omega), if_pos (by omega)]; exact e79.1, by rw [e79.2]; exact t0, by rw [e79.2, t1, tSb]; omega, by rw [e79.2, t2, tSg, if_pos (by omega)], by rw [e79.2, t3, tLm, if_pos (by omega)]⟩⟩)
              | (rcases e144 with ⟨y1, y2, y3, y4⟩ | ⟨y1, y2⟩ <;> first | exact v_return hM d_M_aTest_133 ⟨rfl, Or.inl ⟨by omega, by rw [tEn, if_neg (by omega), if_neg (by omega), if_neg (by omega), if_neg (by omega)]; exact y3.s60, by rw [vUp_ix (by decide), y4, e135.2, vUp_ix (by decide), e79.2]; exact t0, by rw [vUp_ix (by decide), y4, e135.2, vUp_ix (by decide), e79.2, t1, tSb]; omega, by rw [vUp_ix (by decide), y4, e135.2, vUp_same, tSg, if_neg (by omega)]; omega, by rw [vUp_same, tLm, if_neg (by omega), y2]⟩⟩ | exact v_return hM d_M_aTest_133 ⟨rfl, Or.inr ⟨by omega, by rw [tEn, if_neg (by omega), if_neg (by omega), if_neg (by omega), if_pos (by omega)]; exact y2.s60⟩⟩)
            · refine v_aload0 d_M_aTest_120 ?_
              refine v_getJ (ji := 8) d_M_aTest_121 f_M_185 (sh_55 T) rfl rfl (fun g121 => ?_)
              rw [vUp_ne (by decide)] at g121 ⊢
              refine v_bipush d_M_aTest_124 rfl ?_
              refine v_icmp_ne d_M_aTest_126 (by omega) (by omega) (fun u126 => ?_) (fun u126 => ?_)
              · refine v_aload0 d_M_aTest_134 ?_
                refine v_gVV0 d_M_aTest_135 l_M_195 k_M_advance (c_M_advP (p := tgF b p) e79.1.s60 (by omega)) (sh_55 T) rfl (by decide) (by decide) (Nat.le_of_ble_eq_true rfl) (Nat.zero_le _) (Nat.zero_le _) (fun z135 s135 e135 => ?_)
                refine v_aload0 d_M_aTest_138 ?_
                refine v_getR d_M_aTest_139 f_M_23 (sh_55 T) rfl ?_
                refine v_iconst d_M_aTest_142 ?_
                refine v_aload0 d_M_aTest_143 ?_
                refine v_gVI0 d_M_aTest_144 l_M_204 k_M_numbered (c_M_numP (p := tsF b p) e135.1 (by omega) hl) (sh_55 T) rfl (by decide) (by decide) (Nat.le_of_ble_eq_true rfl) (Nat.zero_le _) (Nat.zero_le _) (fun z144 s144 g144 e144 => ?_)
                refine v_iastore d_M_aTest_147 (sh_60 T) (by omega) (by omega) ?_
                first
                | (omega)
                | (exact v_return hM d_M_aTest_148 ⟨rfl, Or.inr ⟨by omega, by rw [tEn, if_pos (by omega)]; exact e74⟩⟩)
                | (exact v_return hM d_M_aTest_148 ⟨rfl, Or.inr ⟨by omega, by rw [tEn, if_neg (by omega), if_neg (by omega), if_pos (by omega)]; exact e130⟩⟩)
                | (exact v_return hM d_M_aTest_148 ⟨rfl, Or.inl ⟨by omega, by rw [tEn, if_neg (by omega), if_pos (by omega)]; exact e79.1, by rw [e79.2]; exact t0, by rw [e79.2, t1, tSb]; omega, by rw [e79.2, t2, tSg, if_pos (by omega)], by rw [e79.2, t3, tLm, if_pos (by omega)]⟩⟩)
                | (rcases e144 with ⟨y1, y2, y3, y4⟩ | ⟨y1, y2⟩ <;> first | exact v_return hM d_M_aTest_148 ⟨rfl, Or.inl ⟨by omega, by rw [tEn, if_neg (by omega), if_neg (by omega), if_neg (by omega), if_neg (by omega)]; exact y3.s60, by rw [vUp_ix (by decide), y4, e135.2, vUp_ix (by decide), e79.2]; exact t0, by rw [vUp_ix (by decide), y4, e135.2, vUp_ix (by decide), e79.2, t1, tSb]; omega, by rw [vUp_ix (by decide), y4, e135.2, vUp_same, tSg, if_neg (by omega)]; omega, by rw [vUp_same, tLm, if_neg (by omega), y2]⟩⟩ | exact v_return hM d_M_aTest_148 ⟨rfl, Or.inr ⟨by omega, by rw [tEn, if_neg (by omega), if_neg (by omega), if_neg (by omega), if_pos (by omega)]; exact y2.s60⟩⟩)
              · refine v_aload0 d_M_aTest_129 ?_
                refine v_gVV0 d_M_aTest_130 l_M_198 k_M_stops (c_M_stopsP (p := tgF b p) e79.1.s60 (by omega) hl) (sh_55 T) rfl (by decide) (by decide) (Nat.le_of_ble_eq_true rfl) (Nat.zero_le _) (Nat.zero_le _) (fun z130 s130 e130 => ?_)
                first
                | (omega)
                | (exact v_return hM d_M_aTest_133 ⟨rfl, Or.inr ⟨by omega, by rw [tEn, if_pos (by omega)]; exact e74⟩⟩)
                | (exact v_return hM d_M_aTest_133 ⟨rfl, Or.inr ⟨by omega, by rw [tEn, if_neg (by omega), if_neg (by omega), if_pos (by omega)]; exact e130⟩⟩)
                | (exact v_return hM d_M_aTest_133 ⟨rfl, Or.inl ⟨by omega, by rw [tEn, if_neg (by omega), if_pos (by omega)]; exact e79.1, by rw [e79.2]; exact t0, by rw [e79.2, t1, tSb]; omega, by rw [e79.2, t2, tSg, if_pos (by omega)], by rw [e79.2, t3, tLm, if_pos (by omega)]⟩⟩)
                | (rcases e144 with ⟨y1, y2, y3, y4⟩ | ⟨y1, y2⟩ <;> first | exact v_return hM d_M_aTest_133 ⟨rfl, Or.inl ⟨by omega, by rw [tEn, if_neg (by omega), if_neg (by omega), if_neg (by omega), if_neg (by omega)]; exact y3.s60, by rw [vUp_ix (by decide), y4, e135.2, vUp_ix (by decide), e79.2]; exact t0, by rw [vUp_ix (by decide), y4, e135.2, vUp_ix (by decide), e79.2, t1, tSb]; omega, by rw [vUp_ix (by decide), y4, e135.2, vUp_same, tSg, if_neg (by omega)]; omega, by rw [vUp_same, tLm, if_neg (by omega), y2]⟩⟩ | exact v_return hM d_M_aTest_133 ⟨rfl, Or.inr ⟨by omega, by rw [tEn, if_neg (by omega), if_neg (by omega), if_neg (by omega), if_pos (by omega)]; exact y2.s60⟩⟩)
        · first
          | (omega)
          | (exact v_return hM d_M_aTest_92 ⟨rfl, Or.inr ⟨by omega, by rw [tEn, if_pos (by omega)]; exact e74⟩⟩)
          | (exact v_return hM d_M_aTest_92 ⟨rfl, Or.inr ⟨by omega, by rw [tEn, if_neg (by omega), if_neg (by omega), if_pos (by omega)]; exact e130⟩⟩)
          | (exact v_return hM d_M_aTest_92 ⟨rfl, Or.inl ⟨by omega, by rw [tEn, if_neg (by omega), if_pos (by omega)]; exact e79.1, by rw [e79.2]; exact t0, by rw [e79.2, t1, tSb]; omega, by rw [e79.2, t2, tSg, if_pos (by omega)], by rw [e79.2, t3, tLm, if_pos (by omega)]⟩⟩)
          | (rcases e144 with ⟨y1, y2, y3, y4⟩ | ⟨y1, y2⟩ <;> first | exact v_return hM d_M_aTest_92 ⟨rfl, Or.inl ⟨by omega, by rw [tEn, if_neg (by omega), if_neg (by omega), if_neg (by omega), if_neg (by omega)]; exact y3.s60, by rw [vUp_ix (by decide), y4, e135.2, vUp_ix (by decide), e79.2]; exact t0, by rw [vUp_ix (by decide), y4, e135.2, vUp_ix (by decide), e79.2, t1, tSb]; omega, by rw [vUp_ix (by decide), y4, e135.2, vUp_same, tSg, if_neg (by omega)]; omega, by rw [vUp_same, tLm, if_neg (by omega), y2]⟩⟩ | exact v_return hM d_M_aTest_92 ⟨rfl, Or.inr ⟨by omega, by rw [tEn, if_neg (by omega), if_neg (by omega), if_neg (by omega), if_pos (by omega)]; exact y2.s60⟩⟩)
      · refine v_aload0 d_M_aTest_73 ?_
        refine v_gVV0 d_M_aTest_74 l_M_198 k_M_stops (c_M_stopsP hQ (by omega) hl) (sh_55 T) rfl (by decide) (by decide) (Nat.le_of_ble_eq_true rfl) (Nat.zero_le _) (Nat.zero_le _) (fun z74 s74 e74 => ?_)
        first
        | (omega)
        | (exact v_return hM d_M_aTest_77 ⟨rfl, Or.inr ⟨by omega, by rw [tEn, if_pos (by omega)]; exact e74⟩⟩)
        | (exact v_return hM d_M_aTest_77 ⟨rfl, Or.inr ⟨by omega, by rw [tEn, if_neg (by omega), if_neg (by omega), if_pos (by omega)]; exact e130⟩⟩)
        | (exact v_return hM d_M_aTest_77 ⟨rfl, Or.inl ⟨by omega, by rw [tEn, if_neg (by omega), if_pos (by omega)]; exact e79.1, by rw [e79.2]; exact t0, by rw [e79.2, t1, tSb]; omega, by rw [e79.2, t2, tSg, if_pos (by omega)], by rw [e79.2, t3, tLm, if_pos (by omega)]⟩⟩)
        | (rcases e144 with ⟨y1, y2, y3, y4⟩ | ⟨y1, y2⟩ <;> first | exact v_return hM d_M_aTest_77 ⟨rfl, Or.inl ⟨by omega, by rw [tEn, if_neg (by omega), if_neg (by omega), if_neg (by omega), if_neg (by omega)]; exact y3.s60, by rw [vUp_ix (by decide), y4, e135.2, vUp_ix (by decide), e79.2]; exact t0, by rw [vUp_ix (by decide), y4, e135.2, vUp_ix (by decide), e79.2, t1, tSb]; omega, by rw [vUp_ix (by decide), y4, e135.2, vUp_same, tSg, if_neg (by omega)]; omega, by rw [vUp_same, tLm, if_neg (by omega), y2]⟩⟩ | exact v_return hM d_M_aTest_77 ⟨rfl, Or.inr ⟨by omega, by rw [tEn, if_neg (by omega), if_neg (by omega), if_neg (by omega), if_pos (by omega)]; exact y2.s60⟩⟩)

theorem c_M_aTestP {T : vSh} {σ : vMem} {σ0 : vMem} {L l p : Int} {b B C : Int → Int} {fp : FP} (hP : PS σ0 σ b L B l p fp C) (hp : 0 ≤ p ∧ p ≤ 500) (hl : 0 ≤ l ∧ l ≤ 500) : mt_M_aTest [.ref 55] (S0 ++ T) σ (rP (S0 ++ T) (fun _ σ2 => (tOk b p ∧ PS σ0 σ2 b L B l (tEn b p) fp C ∧ σ2 60 0 = tNg b p ∧ σ2 60 1 = tSb b p ∧ σ2 60 2 = tSg b p ∧ σ2 60 3 = tLm b p) ∨ (¬ tOk b p ∧ PW σ0 σ2 B (whF b (tEn b p))))) := by
  refine vMet.intro 0 (by decide +kernel) (Nat.le_of_ble_eq_true rfl) rfl (fun cx hM _ => ?_)
  obtain ⟨a1, a2, a3, ⟨a41, a42, a43⟩, a5, a6, a7, a8⟩ := id hP
  have hnx := nxF_rng a1.2.1 hp
  have hwh := whF_rng b hp.2
  have htk := tkF_rng b p
  unfold TKr at a43
  refine v_aload0 d_M_aTest_0 ?_
  refine v_getR d_M_aTest_1 f_M_23 (sh_55 T) rfl ?_
  refine v_iconst d_M_aTest_4 ?_
  refine v_aload0 d_M_aTest_5 ?_
  refine v_bipush d_M_aTest_6 rfl ?_
  refine v_gVZ1 d_M_aTest_8 l_M_201 k_M_takes (c_M_takesP (t := 2) hP hp rfl (by omega)) (sh_55 T) rfl (by decide) (by decide) (Nat.le_of_ble_eq_true rfl) (Nat.zero_le _) (Nat.zero_le _) (fun z8 s8 g8 e8 => ?_)
  have n9 : tNg b p = b01 (tkF b p = 2) := rfl
  have n8 := b01_rng (p := tkF b p = 2)
  have n7 := e8.1
  refine v_if_eq d_M_aTest_11 (by omega) (fun u11 => ?_) (fun u11 => ?_)
  · refine v_iconst d_M_aTest_18 ?_
    refine v_iastore d_M_aTest_19 (sh_60 T) (by omega) (by omega) ?_
    refine v_aload0 d_M_aTest_20 ?_
    refine v_getR d_M_aTest_21 f_M_23 (sh_55 T) rfl ?_
    refine v_iconst d_M_aTest_24 ?_
    refine v_aload0 d_M_aTest_25 ?_
    refine v_getJ (ji := 9) d_M_aTest_26 f_M_176 (sh_55 T) rfl rfl (fun g26 => ?_)
    rw [vUp_ne (by decide)] at g26 ⊢
    refine v_iastore d_M_aTest_29 (sh_60 T) (by omega) (by omega) ?_
    refine v_aload0 d_M_aTest_30 ?_
    refine v_getR d_M_aTest_31 f_M_23 (sh_55 T) rfl ?_
    refine v_iconst d_M_aTest_34 ?_
    refine v_bipush d_M_aTest_35 rfl ?_
    refine v_iastore d_M_aTest_37 (sh_60 T) (by omega) (by omega) ?_
    refine v_aload0 d_M_aTest_38 ?_
    refine v_getR d_M_aTest_39 f_M_23 (sh_55 T) rfl ?_
    refine v_iconst d_M_aTest_42 ?_
    refine v_iconst d_M_aTest_43 ?_
    refine v_iastore d_M_aTest_44 (sh_60 T) (by omega) (by omega) ?_
    exact c_M_aTest_45 hp hl hM (PS.s60 (PS.s60 (PS.s60 (PS.s60 e8.2.1)))) (by rw [vUp_ix (by decide), vUp_ix (by decide), vUp_ix (by decide), vUp_same]; omega) (by rw [vUp_ix (by decide), vUp_ix (by decide), vUp_same, vUp_ne (by decide), vUp_ne (by decide), vUp_ne (by decide), vUp_ne (by decide)]) (by rw [vUp_ix (by decide), vUp_same]) (by rw [vUp_same])
  · refine v_iconst d_M_aTest_14 ?_
    refine v_goto d_M_aTest_15 ?_
    refine v_iastore d_M_aTest_19 (sh_60 T) (by omega) (by omega) ?_
    refine v_aload0 d_M_aTest_20 ?_
    refine v_getR d_M_aTest_21 f_M_23 (sh_55 T) rfl ?_
    refine v_iconst d_M_aTest_24 ?_
    refine v_aload0 d_M_aTest_25 ?_
    refine v_getJ (ji := 9) d_M_aTest_26 f_M_176 (sh_55 T) rfl rfl (fun g26 => ?_)
    rw [vUp_ne (by decide)] at g26 ⊢
    refine v_iastore d_M_aTest_29 (sh_60 T) (by omega) (by omega) ?_
    refine v_aload0 d_M_aTest_30 ?_
    refine v_getR d_M_aTest_31 f_M_23 (sh_55 T) rfl ?_
    refine v_iconst d_M_aTest_34 ?_
    refine v_bipush d_M_aTest_35 rfl ?_
    refine v_iastore d_M_aTest_37 (sh_60 T) (by omega) (by omega) ?_
    refine v_aload0 d_M_aTest_38 ?_
    refine v_getR d_M_aTest_39 f_M_23 (sh_55 T) rfl ?_
    refine v_iconst d_M_aTest_42 ?_
    refine v_iconst d_M_aTest_43 ?_
    refine v_iastore d_M_aTest_44 (sh_60 T) (by omega) (by omega) ?_
    exact c_M_aTest_45 hp hl hM (PS.s60 (PS.s60 (PS.s60 (PS.s60 e8.2.1)))) (by rw [vUp_ix (by decide), vUp_ix (by decide), vUp_ix (by decide), vUp_same]; omega) (by rw [vUp_ix (by decide), vUp_ix (by decide), vUp_same, vUp_ne (by decide), vUp_ne (by decide), vUp_ne (by decide), vUp_ne (by decide)]) (by rw [vUp_ix (by decide), vUp_same]) (by rw [vUp_same])

theorem c_M_puts {T : vSh} {σ : vMem} {k v l : Int} (hl : σ 55 11 = l) (h1 : 0 ≤ l) (h2 : 0 ≤ k ∧ k < 20) (h3 : vIn v) : mt_M_puts [.ref 55, .int (iI k), .int (iI v)] (S0 ++ T) σ (rP (S0 ++ T) (fun _ σ2 => (l < 16 ∧ σ2 = vUp σ 59 (20 * l + k) v) ∨ (16 ≤ l ∧ σ2 = σ))) := by
  refine vMet.intro 0 (by decide +kernel) (Nat.le_of_ble_eq_true rfl) rfl (fun cx hM _ => ?_)
  refine v_aload0 d_M_puts_0 ?_
  refine v_getJ (ji := 11) d_M_puts_1 f_M_207 (sh_55 T) rfl rfl (fun g1 => ?_)
  rw [hl] at g1 ⊢
  refine v_bipush d_M_puts_4 rfl ?_
  refine v_icmp_ge d_M_puts_6 (by omega) (by omega) (fun u6 => ?_) (fun u6 => ?_)
  · first
    | (exact v_return hM d_M_puts_24 ⟨rfl, Or.inr ⟨by omega, rfl⟩⟩)
    | (exact v_return hM d_M_puts_24 ⟨rfl, Or.inl ⟨by omega, rfl⟩⟩)
  · refine v_aload0 d_M_puts_9 ?_
    refine v_getR d_M_puts_10 f_M_20 (sh_55 T) rfl ?_
    refine v_bipush d_M_puts_13 rfl ?_
    refine v_aload0 d_M_puts_15 ?_
    refine v_getJ (ji := 11) d_M_puts_16 f_M_207 (sh_55 T) rfl rfl (fun g16 => ?_)
    rw [hl] at g16 ⊢
    refine v_imul d_M_puts_19 ?_
    refine v_iload1 d_M_puts_20 ?_
    refine v_iadd d_M_puts_21 ?_
    refine v_iload2 d_M_puts_22 ?_
    refine v_iastore d_M_puts_23 (sh_59 T) (by omega) (by omega) ?_
    first
    | (exact v_return hM d_M_puts_24 ⟨rfl, Or.inr ⟨by omega, rfl⟩⟩)
    | (exact v_return hM d_M_puts_24 ⟨rfl, Or.inl ⟨by omega, rfl⟩⟩)

def puC (C : Int → Int) (l k v : Int) : Int → Int := if l < 16 then upF C (20 * l + k) v else C
theorem PS.s59 {σ0 σ : vMem} {b : Int → Int} {L : Int} {B : Int → Int} {l p : Int} {fp : FP} {C : Int → Int} (h : PS σ0 σ b L B l p fp C) {i v : Int} : PS σ0 (vUp σ 59 i v) b L B l p fp (upF C i v) := by
  obtain ⟨a1, a2, a3, a4, a5, a6, a7, a8⟩ := h
  unfold PS RC FL
  rw [vUp_ne (by decide), vUp_ne (by decide), vUp_fn, a6]
  exact ⟨a1, a2, a3, a4, a5, rfl, fun k hk => by rw [vUp_ne hk.2.2.1]; exact a7 k hk, a8⟩
theorem PW.s59 {σ0 σ : vMem} {B : Int → Int} {w : Int} (h : PW σ0 σ B w) {i v : Int} : PW σ0 (vUp σ 59 i v) B w := by
  obtain ⟨a2, a5, ⟨a7, a8⟩, a9⟩ := h
  unfold PW FL
  rw [vUp_ne (by decide), vUp_ne (by decide)]
  exact ⟨a2, a5, ⟨fun k hk => by rw [vUp_ne hk.2.2.1]; exact a7 k hk, a8⟩, a9⟩
theorem c_M_putsP {T : vSh} {σ : vMem} {σ0 : vMem} {L l p : Int} {b B C : Int → Int} {fp : FP} (hP : PS σ0 σ b L B l p fp C) (hp : 0 ≤ p ∧ p ≤ 500) (hl : 0 ≤ l ∧ l ≤ 500) {k v : Int} (h2 : 0 ≤ k ∧ k < 20) (h3 : vIn v) : mt_M_puts [.ref 55, .int (iI k), .int (iI v)] (S0 ++ T) σ (rP (S0 ++ T) (fun _ σ2 => PS σ0 σ2 b L B l p fp (puC C l k v) ∧ σ2 60 = σ 60)) :=
  vMet.mono (c_M_puts hP.2.2.1 hl.1 h2 h3) (fun z S' σ2 h => ⟨h.1, by
    rcases h.2 with h9 | h9
    · rw [h9.2, puC, if_pos h9.1]; exact ⟨hP.s59, vUp_ne (by decide)⟩
    · rw [h9.2, puC, if_neg (by omega)]; exact ⟨hP, rfl⟩⟩)
theorem c_M_putsW {T : vSh} {σ σ0 : vMem} {B : Int → Int} {w : Int} (hW : PW σ0 σ B w) {k v : Int} (h2 : 0 ≤ k ∧ k < 20) (h3 : vIn v) : mt_M_puts [.ref 55, .int (iI k), .int (iI v)] (S0 ++ T) σ (rP (S0 ++ T) (fun _ σ2 => PW σ0 σ2 B w)) :=
  vMet.mono (c_M_puts rfl hW.2.2.2.1 h2 h3) (fun z S' σ2 h => ⟨h.1, by
    rcases h.2 with h9 | h9
    · rw [h9.2]; exact hW.s59
    · rw [h9.2]; exact hW⟩)

theorem c_M_mayBe {T : vSh} {σ : vMem} {a n : Int} (h0 : 20 ≤ a ∧ a ≤ 25) (h1 : vIn n) : mt_M_mayBe [.int (iI a), .int (iI n)] (S0 ++ T) σ (rF (S0 ++ T) σ (b01 (fitP (a - 17) n))) := by
  refine vMet.intro 0 (by decide +kernel) (Nat.le_of_ble_eq_true rfl) rfl (fun cx hM _ => ?_)
  refine v_iload0 d_M_mayBe_0 ?_
  refine v_bipush d_M_mayBe_1 rfl ?_
  refine v_icmp_ne d_M_mayBe_3 (by omega) (by omega) (fun u3 => ?_) (fun u3 => ?_)
  · refine v_iload0 d_M_mayBe_16 ?_
    refine v_bipush d_M_mayBe_17 rfl ?_
    refine v_icmp_eq d_M_mayBe_19 (by omega) (by omega) (fun u19 => ?_) (fun u19 => ?_)
    · refine v_iload1 d_M_mayBe_28 ?_
      refine v_bipush d_M_mayBe_29 rfl ?_
      refine v_icmp_gt d_M_mayBe_31 (by omega) (by omega) (fun u31 => ?_) (fun u31 => ?_)
      · refine v_iconst d_M_mayBe_38 ?_
        refine v_goto d_M_mayBe_39 ?_
        first | exact v_zreturn hM d_M_mayBe_65 (Or.inr rfl) ⟨rfl, rfl, b01_1 (by unfold fitP; omega)⟩ | exact v_zreturn hM d_M_mayBe_65 (Or.inl rfl) ⟨rfl, rfl, b01_0 (by unfold fitP; omega)⟩ | exact v_zreturn hM d_M_mayBe_65 b01_or ⟨rfl, rfl, b01_congr (by unfold fitP; omega)⟩
      · refine v_iconst d_M_mayBe_34 ?_
        refine v_goto d_M_mayBe_35 ?_
        first | exact v_zreturn hM d_M_mayBe_65 (Or.inr rfl) ⟨rfl, rfl, b01_1 (by unfold fitP; omega)⟩ | exact v_zreturn hM d_M_mayBe_65 (Or.inl rfl) ⟨rfl, rfl, b01_0 (by unfold fitP; omega)⟩ | exact v_zreturn hM d_M_mayBe_65 b01_or ⟨rfl, rfl, b01_congr (by unfold fitP; omega)⟩
    · refine v_iload0 d_M_mayBe_22 ?_
      refine v_bipush d_M_mayBe_23 rfl ?_
      refine v_icmp_ne d_M_mayBe_25 (by omega) (by omega) (fun u25 => ?_) (fun u25 => ?_)
      · refine v_iload0 d_M_mayBe_42 ?_
        refine v_bipush d_M_mayBe_43 rfl ?_
        refine v_icmp_ne d_M_mayBe_45 (by omega) (by omega) (fun u45 => ?_) (fun u45 => ?_)
        · refine v_iconst d_M_mayBe_60 ?_
          refine v_goto d_M_mayBe_61 ?_
          first | exact v_zreturn hM d_M_mayBe_65 (Or.inr rfl) ⟨rfl, rfl, b01_1 (by unfold fitP; omega)⟩ | exact v_zreturn hM d_M_mayBe_65 (Or.inl rfl) ⟨rfl, rfl, b01_0 (by unfold fitP; omega)⟩ | exact v_zreturn hM d_M_mayBe_65 b01_or ⟨rfl, rfl, b01_congr (by unfold fitP; omega)⟩
        · refine v_iload1 d_M_mayBe_48 ?_
          refine v_bipush d_M_mayBe_49 rfl ?_
          refine v_sipush d_M_mayBe_51 rfl ?_
          refine v_fSZ3 d_M_mayBe_54 l_M_56 k_M_isIn (c_M_isIn (by omega) (by omega) (by omega)) (by decide) (by decide) (Nat.le_of_ble_eq_true rfl) (Nat.zero_le _) (Nat.zero_le _) (fun g54 => ?_)
          refine v_ifb_eq d_M_mayBe_57 (fun u57 => ?_) (fun u57 => ?_)
          · refine v_iconst d_M_mayBe_64 ?_
            first | exact v_zreturn hM d_M_mayBe_65 (Or.inr rfl) ⟨rfl, rfl, b01_1 (by unfold fitP; omega)⟩ | exact v_zreturn hM d_M_mayBe_65 (Or.inl rfl) ⟨rfl, rfl, b01_0 (by unfold fitP; omega)⟩ | exact v_zreturn hM d_M_mayBe_65 b01_or ⟨rfl, rfl, b01_congr (by unfold fitP; omega)⟩
          · refine v_iconst d_M_mayBe_60 ?_
            refine v_goto d_M_mayBe_61 ?_
            first | exact v_zreturn hM d_M_mayBe_65 (Or.inr rfl) ⟨rfl, rfl, b01_1 (by unfold fitP; omega)⟩ | exact v_zreturn hM d_M_mayBe_65 (Or.inl rfl) ⟨rfl, rfl, b01_0 (by unfold fitP; omega)⟩ | exact v_zreturn hM d_M_mayBe_65 b01_or ⟨rfl, rfl, b01_congr (by unfold fitP; omega)⟩
      · refine v_iload1 d_M_mayBe_28 ?_
        refine v_bipush d_M_mayBe_29 rfl ?_
        refine v_icmp_gt d_M_mayBe_31 (by omega) (by omega) (fun u31 => ?_) (fun u31 => ?_)
        · refine v_iconst d_M_mayBe_38 ?_
          refine v_goto d_M_mayBe_39 ?_
          first | exact v_zreturn hM d_M_mayBe_65 (Or.inr rfl) ⟨rfl, rfl, b01_1 (by unfold fitP; omega)⟩ | exact v_zreturn hM d_M_mayBe_65 (Or.inl rfl) ⟨rfl, rfl, b01_0 (by unfold fitP; omega)⟩ | exact v_zreturn hM d_M_mayBe_65 b01_or ⟨rfl, rfl, b01_congr (by unfold fitP; omega)⟩
        · refine v_iconst d_M_mayBe_34 ?_
          refine v_goto d_M_mayBe_35 ?_
          first | exact v_zreturn hM d_M_mayBe_65 (Or.inr rfl) ⟨rfl, rfl, b01_1 (by unfold fitP; omega)⟩ | exact v_zreturn hM d_M_mayBe_65 (Or.inl rfl) ⟨rfl, rfl, b01_0 (by unfold fitP; omega)⟩ | exact v_zreturn hM d_M_mayBe_65 b01_or ⟨rfl, rfl, b01_congr (by unfold fitP; omega)⟩
  · refine v_iload1 d_M_mayBe_6 ?_
    refine v_iconst d_M_mayBe_7 ?_
    refine v_bipush d_M_mayBe_8 rfl ?_
    refine v_fSZ3 d_M_mayBe_10 l_M_56 k_M_isIn (c_M_isIn (by omega) (by omega) (by omega)) (by decide) (by decide) (Nat.le_of_ble_eq_true rfl) (Nat.zero_le _) (Nat.zero_le _) (fun g10 => ?_)
    refine v_goto d_M_mayBe_13 ?_
    first | exact v_zreturn hM d_M_mayBe_65 (Or.inr rfl) ⟨rfl, rfl, b01_1 (by unfold fitP; omega)⟩ | exact v_zreturn hM d_M_mayBe_65 (Or.inl rfl) ⟨rfl, rfl, b01_0 (by unfold fitP; omega)⟩ | exact v_zreturn hM d_M_mayBe_65 b01_or ⟨rfl, rfl, b01_congr (by unfold fitP; omega)⟩

