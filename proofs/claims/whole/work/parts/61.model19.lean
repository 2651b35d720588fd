/-! ===== the reference's reader: lines ===== -/
theorem z1n : (0 : Int) ≠ 1 := by decide
theorem lnF_1 {b : Int → Int} {p l d n : Int} {fp gp : FP} {C D : Int → Int} (hH : hdF b p l fp C = (1, d, n, gp, D)) (h : dOk b d) : lnF b p l fp C = (1, dEn b d, dFp b d gp, dC b d l n D) := by
  unfold lnF
  rw [hH, if_pos rfl, if_pos h]
theorem lnF_0 {b : Int → Int} {p l d n : Int} {fp gp : FP} {C D : Int → Int} (hH : hdF b p l fp C = (1, d, n, gp, D)) (h : ¬ dOk b d) : lnF b p l fp C = (0, dEn b d, gp, D) := by
  unfold lnF
  rw [hH, if_pos rfl, if_neg h]
theorem lnF_h {b : Int → Int} {p l d n : Int} {fp gp : FP} {C D : Int → Int} (hH : hdF b p l fp C = (0, d, n, gp, D)) : lnF b p l fp C = (0, d, gp, D) := by
  unfold lnF
  rw [hH, if_neg z1n]
theorem hdF_no {b : Int → Int} {p l : Int} {fp : FP} {C : Int → Int} (h : ¬ tkF b p = 0) : hdF b p l fp C = (1, p, 0, liP b p l fp, C) := by
  unfold hdF
  rw [if_neg h]
theorem hdF_1 {b : Int → Int} {p l q n : Int} {fp gp : FP} {C D : Int → Int} (h : tkF b p = 0) (hT : tsR b p l fp C = (1, q, n, gp, D)) (h2 : tkF b q = 58) : hdF b p l fp C = (1, nxF b q, n, gp, D) := by
  unfold hdF
  rw [if_pos h, hT, if_pos rfl, if_pos h2]
theorem hdF_2 {b : Int → Int} {p l q n : Int} {fp gp : FP} {C D : Int → Int} (h : tkF b p = 0) (hT : tsR b p l fp C = (1, q, n, gp, D)) (h2 : ¬ tkF b q = 58) : hdF b p l fp C = (0, q, n, gp, D) := by
  unfold hdF
  rw [if_pos h, hT, if_pos rfl, if_neg h2]
theorem hdF_3 {b : Int → Int} {p l q n : Int} {fp gp : FP} {C D : Int → Int} (h : tkF b p = 0) (hT : tsR b p l fp C = (0, q, n, gp, D)) : hdF b p l fp C = (0, q, n, gp, D) := by
  unfold hdF
  rw [if_pos h, hT, if_neg z1n]
def PX (σ0 σ : vMem) (B : Int → Int) (w : Int) : Prop := σ 55 10 = 1 ∧ σ 56 = fpA B (1, w) ∧ FL σ0 σ
theorem PW.x {σ0 σ : vMem} {B : Int → Int} {w : Int} (h : PW σ0 σ B w) : PX σ0 σ B w := ⟨h.1, h.2.1, h.2.2.1⟩
theorem PX.ln {σ0 σ : vMem} {B : Int → Int} {w : Int} (h : PX σ0 σ B w) {v : Int} : PX σ0 (vUp σ 55 11 v) B w := by
  obtain ⟨a2, a5, a7, a8⟩ := h
  exact ⟨by rw [vUp_ix (by decide)]; exact a2, by rw [vUp_ne (by decide)]; exact a5, fun k hk => by rw [vUp_ne hk.1]; exact a7 k hk, fun i hi => by rw [vUp_ix (by omega)]; exact a8 i hi⟩
theorem PS.ln {σ0 σ : vMem} {b : Int → Int} {L : Int} {B : Int → Int} {l p : Int} {fp : FP} {C : Int → Int} (h : PS σ0 σ b L B l p fp C) {v : Int} : PS σ0 (vUp σ 55 11 v) b L B v p fp C := by
  obtain ⟨a1, a2, a3, ⟨a41, a42, a43⟩, a5, a6, a7, a8⟩ := h
  refine ⟨⟨by rw [vUp_ix (by decide)]; exact a1.1, a1.2.1, by rw [vUp_ne (by decide)]; exact a1.2.2⟩, by rw [vUp_ix (by decide)]; exact a2, by rw [vUp_same], ⟨by rw [vUp_ix (by decide)]; exact a41, by rw [vUp_ix (by decide)]; exact a42, ?_⟩, by rw [vUp_ne (by decide)]; exact a5, by rw [vUp_ne (by decide)]; exact a6, fun k hk => by rw [vUp_ne hk.1]; exact a7 k hk, fun i hi => by rw [vUp_ix (by omega)]; exact a8 i hi⟩
  rw [vUp_ix (by decide), vUp_ix (by decide), vUp_ix (by decide), vUp_ix (by decide)]
  exact a43
def ptC (C : Int → Int) (l k : Int) (g : Int → Int) : Nat → Int → Int
  | 0 => C
  | j + 1 => puC (ptC C l k g j) l (1 + 4 * k + (j : Int)) (g j)
theorem ptC_4 {b : Int → Int} {q l k : Int} {g D : Int → Int} (hk : k < 4) (g0 : g 0 = tNg b q) (g1 : g 1 = tSb b q) (g2 : g 2 = tSg b q) (g3 : g 3 = tLm b q) : ptC D l k g 4 = teC b l q k D := by
  show puC (puC (puC (puC D l (1 + 4 * k + 0) (g 0)) l (1 + 4 * k + 1) (g 1)) l (1 + 4 * k + 2) (g 2)) l (1 + 4 * k + 3) (g 3) = _
  rw [g0, g1, g2, g3]
  unfold puC teC
  by_cases h : l < 16
  · rw [if_pos h, if_pos h, if_pos h, if_pos h, if_pos ⟨h, hk⟩, put4, show 20 * l + (1 + 4 * k + 0) = 20 * l + 1 + 4 * k by omega, show 20 * l + (1 + 4 * k + 1) = 20 * l + 1 + 4 * k + 1 by omega, show 20 * l + (1 + 4 * k + 2) = 20 * l + 1 + 4 * k + 2 by omega, show 20 * l + (1 + 4 * k + 3) = 20 * l + 1 + 4 * k + 3 by omega]
  · rw [if_neg h, if_neg h, if_neg h, if_neg h, if_neg (fun z => h z.1)]
theorem dC_pu {b : Int → Int} {d l n : Int} {C : Int → Int} : puC (puC (puC C l 0 n) l 17 (tkF b d + 17)) l 18 (dNm b d) = dC b d l n C := by
  unfold puC dC
  by_cases h : l < 16
  · rw [if_pos h, if_pos h, if_pos h, if_pos h]
  · rw [if_neg h, if_neg h, if_neg h, if_neg h]

theorem c_M_aLine_198W {T : vSh} {σ1 σ0 : vMem} {cx : vCx} {L l p : Int} {b B C : Int → Int} {fp : FP} (hp : 0 ≤ p ∧ p ≤ 500) (hl : 0 ≤ l ∧ l ≤ 500) (hM : vM cx 0 0 none (rP (S0 ++ T) (fun _ σ2 => ((lnF b p l fp C).1 = 1 ∧ PS σ0 σ2 b L B (l + 1) (lnF b p l fp C).2.1 (lnF b p l fp C).2.2.1 (lnF b p l fp C).2.2.2) ∨ ((lnF b p l fp C).1 ≠ 1 ∧ PX σ0 σ2 B (whF b (lnF b p l fp C).2.1))))) {k dd at1 nn : Int} (hk : vIn k) (hd : vIn dd) (hn : vIn nn) {w : Int} (hW : PW σ0 σ1 B w) (hr : (lnF b p l fp C).1 ≠ 1 ∧ whF b (lnF b p l fp C).2.1 = w)  : vV cx y_M_aLine.cls prog_14_method_58_code 5 7 0 0 0 0 198 [some (.ref 55), some (.int (iI k)), some (.int (iI dd)), some (.int (iI at1)), some (.int (iI nn))] [] (S0 ++ T) σ1 := by
  refine v_aload0 d_M_aLine_198 ?_
  refine v_iconst d_M_aLine_199 ?_
  refine v_iload1 d_M_aLine_200 ?_
  refine v_gVV2 d_M_aLine_201 l_M_217 k_M_puts (c_M_putsW hW (by omega) hk) (sh_55 T) rfl (by decide) (by decide) (Nat.le_of_ble_eq_true rfl) (Nat.zero_le _) (Nat.zero_le _) (fun z201 s201 e201 => ?_)
  refine v_aload0 d_M_aLine_204 ?_
  refine v_bipush d_M_aLine_205 rfl ?_
  refine v_iload2 d_M_aLine_207 ?_
  refine v_gVV2 d_M_aLine_208 l_M_217 k_M_puts (c_M_putsW e201 (by omega) hd) (sh_55 T) rfl (by decide) (by decide) (Nat.le_of_ble_eq_true rfl) (Nat.zero_le _) (Nat.zero_le _) (fun z208 s208 e208 => ?_)
  refine v_aload0 d_M_aLine_211 ?_
  refine v_bipush d_M_aLine_212 rfl ?_
  refine v_iload4 d_M_aLine_214 ?_
  refine v_gVV2 d_M_aLine_216 l_M_217 k_M_puts (c_M_putsW e208 (by omega) hn) (sh_55 T) rfl (by decide) (by decide) (Nat.le_of_ble_eq_true rfl) (Nat.zero_le _) (Nat.zero_le _) (fun z216 s216 e216 => ?_)
  have hb9 := e216.2.2.2
  refine v_aload0 d_M_aLine_219 ?_
  refine v_dup d_M_aLine_220 rfl ?_
  refine v_getJ (ji := 11) d_M_aLine_221 f_M_207 (sh_55 T) rfl rfl (fun g221 => ?_)
  refine v_iconst d_M_aLine_224 ?_
  refine v_iadd d_M_aLine_225 ?_
  refine v_putJ (ji := 11) d_M_aLine_226 p_M_207 (sh_55 T) rfl rfl (by omega) ?_
  exact v_return hM d_M_aLine_229 ⟨rfl, Or.inr ⟨hr.1, by rw [hr.2]; exact e216.x.ln⟩⟩

theorem c_M_aLine_171W {T : vSh} {σ1 σ0 : vMem} {cx : vCx} {L l p : Int} {b B C : Int → Int} {fp : FP} (hp : 0 ≤ p ∧ p ≤ 500) (hl : 0 ≤ l ∧ l ≤ 500) (hM : vM cx 0 0 none (rP (S0 ++ T) (fun _ σ2 => ((lnF b p l fp C).1 = 1 ∧ PS σ0 σ2 b L B (l + 1) (lnF b p l fp C).2.1 (lnF b p l fp C).2.2.1 (lnF b p l fp C).2.2.2) ∨ ((lnF b p l fp C).1 ≠ 1 ∧ PX σ0 σ2 B (whF b (lnF b p l fp C).2.1))))) {k dd at1 nn : Int} (hk : vIn k) (hd : 20 ≤ dd ∧ dd ≤ 25) (ha : vIn at1) (hn : vIn nn) {w : Int} (hW : PW σ0 σ1 B w) (hr : (lnF b p l fp C).1 ≠ 1 ∧ whF b (lnF b p l fp C).2.1 = w)  : vV cx y_M_aLine.cls prog_14_method_58_code 5 7 0 0 0 0 171 [some (.ref 55), some (.int (iI k)), some (.int (iI dd)), some (.int (iI at1)), some (.int (iI nn))] [] (S0 ++ T) σ1 := by
  refine v_iload2 d_M_aLine_171 ?_
  refine v_iload4 d_M_aLine_172 ?_
  refine v_fSZ2 d_M_aLine_174 l_M_223 k_M_mayBe (c_M_mayBe (by omega) (by omega)) (by decide) (by decide) (Nat.le_of_ble_eq_true rfl) (Nat.zero_le _) (Nat.zero_le _) (fun g174 => ?_)
  refine v_ifb_ne d_M_aLine_177 (fun u177 => ?_) (fun u177 => ?_)
  · refine v_aload0 d_M_aLine_192 ?_
    refine v_bipush d_M_aLine_193 rfl ?_
    refine v_gVV1 d_M_aLine_195 l_M_220 k_M_must (c_M_mustW hW.1) (sh_55 T) rfl (by decide) (by decide) (Nat.le_of_ble_eq_true rfl) (Nat.zero_le _) (Nat.zero_le _) (fun z195 s195 e195 => ?_)
    subst e195
    exact c_M_aLine_198W hp hl hM hk (by omega) hn hW hr
  · refine v_iload2 d_M_aLine_180 ?_
    refine v_bipush d_M_aLine_181 rfl ?_
    refine v_icmp_eq d_M_aLine_183 (by omega) (by omega) (fun u183 => ?_) (fun u183 => ?_)
    · refine v_aload0 d_M_aLine_192 ?_
      refine v_bipush d_M_aLine_193 rfl ?_
      refine v_gVV1 d_M_aLine_195 l_M_220 k_M_must (c_M_mustW hW.1) (sh_55 T) rfl (by decide) (by decide) (Nat.le_of_ble_eq_true rfl) (Nat.zero_le _) (Nat.zero_le _) (fun z195 s195 e195 => ?_)
      subst e195
      exact c_M_aLine_198W hp hl hM hk (by omega) hn hW hr
    · refine v_aload0 d_M_aLine_186 ?_
      refine v_iconst d_M_aLine_187 ?_
      refine v_iload3 d_M_aLine_188 ?_
      refine v_gVV2 d_M_aLine_189 l_M_210 k_M_also (c_M_alsoW hW.1) (sh_55 T) rfl (by decide) (by decide) (Nat.le_of_ble_eq_true rfl) (Nat.zero_le _) (Nat.zero_le _) (fun z189 s189 e189 => ?_)
      subst e189
      refine v_aload0 d_M_aLine_192 ?_
      refine v_bipush d_M_aLine_193 rfl ?_
      refine v_gVV1 d_M_aLine_195 l_M_220 k_M_must (c_M_mustW hW.1) (sh_55 T) rfl (by decide) (by decide) (Nat.le_of_ble_eq_true rfl) (Nat.zero_le _) (Nat.zero_le _) (fun z195 s195 e195 => ?_)
      subst e195
      exact c_M_aLine_198W hp hl hM hk (by omega) hn hW hr

theorem c_M_aLine_107W {T : vSh} {σ1 σ0 : vMem} {cx : vCx} {L l p : Int} {b B C : Int → Int} {fp : FP} (hp : 0 ≤ p ∧ p ≤ 500) (hl : 0 ≤ l ∧ l ≤ 500) (hM : vM cx 0 0 none (rP (S0 ++ T) (fun _ σ2 => ((lnF b p l fp C).1 = 1 ∧ PS σ0 σ2 b L B (l + 1) (lnF b p l fp C).2.1 (lnF b p l fp C).2.2.1 (lnF b p l fp C).2.2.2) ∨ ((lnF b p l fp C).1 ≠ 1 ∧ PX σ0 σ2 B (whF b (lnF b p l fp C).2.1))))) {k : Int} {w : Int} (hW : PW σ0 σ1 B w) (hr : (lnF b p l fp C).1 ≠ 1 ∧ whF b (lnF b p l fp C).2.1 = w)  : vV cx y_M_aLine.cls prog_14_method_58_code 5 7 0 0 0 0 107 [some (.ref 55), some (.int (iI k)), none, none, none] [] (S0 ++ T) σ1 := by
  refine v_aload0 d_M_aLine_107 ?_
  refine v_getJ (ji := 10) d_M_aLine_108 f_M_191 (sh_55 T) rfl rfl (fun g108 => ?_)
  rw [hW.1]
  refine v_if_ne d_M_aLine_111 (by omega) (fun u111 => ?_) (fun u111 => ?_)
  · refine v_aload0 d_M_aLine_136 ?_
    refine v_gVV0 d_M_aLine_137 l_M_198 k_M_stops (c_M_stopsW hW.1) (sh_55 T) rfl (by decide) (by decide) (Nat.le_of_ble_eq_true rfl) (Nat.zero_le _) (Nat.zero_le _) (fun z137 s137 e137 => ?_)
    subst e137
    exact v_return hM d_M_aLine_140 ⟨rfl, Or.inr ⟨hr.1, by rw [hr.2]; exact hW.x⟩⟩
  · omega

theorem c_M_aLine_101W {T : vSh} {σ1 σ0 : vMem} {cx : vCx} {L l p : Int} {b B C : Int → Int} {fp : FP} (hp : 0 ≤ p ∧ p ≤ 500) (hl : 0 ≤ l ∧ l ≤ 500) (hM : vM cx 0 0 none (rP (S0 ++ T) (fun _ σ2 => ((lnF b p l fp C).1 = 1 ∧ PS σ0 σ2 b L B (l + 1) (lnF b p l fp C).2.1 (lnF b p l fp C).2.2.1 (lnF b p l fp C).2.2.2) ∨ ((lnF b p l fp C).1 ≠ 1 ∧ PX σ0 σ2 B (whF b (lnF b p l fp C).2.1))))) {k : Int} {w : Int} (hW : PW σ0 σ1 B w) (hr : (lnF b p l fp C).1 ≠ 1 ∧ whF b (lnF b p l fp C).2.1 = w)  : vV cx y_M_aLine.cls prog_14_method_58_code 5 7 0 0 0 0 101 [some (.ref 55), some (.int (iI k)), none, none, none] [] (S0 ++ T) σ1 := by
  refine v_aload0 d_M_aLine_101 ?_
  refine v_bipush d_M_aLine_102 rfl ?_
  refine v_gVV1 d_M_aLine_104 l_M_220 k_M_must (c_M_mustW hW.1) (sh_55 T) rfl (by decide) (by decide) (Nat.le_of_ble_eq_true rfl) (Nat.zero_le _) (Nat.zero_le _) (fun z104 s104 e104 => ?_)
  subst e104
  exact c_M_aLine_107W hp hl hM hW hr

theorem c_M_aLine_198 {T : vSh} {σ1 σ0 : vMem} {cx : vCx} {L l p : Int} {b B C : Int → Int} {fp : FP} (hp : 0 ≤ p ∧ p ≤ 500) (hl : 0 ≤ l ∧ l ≤ 500) (hM : vM cx 0 0 none (rP (S0 ++ T) (fun _ σ2 => ((lnF b p l fp C).1 = 1 ∧ PS σ0 σ2 b L B (l + 1) (lnF b p l fp C).2.1 (lnF b p l fp C).2.2.1 (lnF b p l fp C).2.2.2) ∨ ((lnF b p l fp C).1 ≠ 1 ∧ PX σ0 σ2 B (whF b (lnF b p l fp C).2.1))))) {at1 : Int} {d k : Int} {gp : FP} {D : Int → Int} (hd : 0 ≤ d ∧ d ≤ 500) (hk : 0 ≤ k ∧ k ≤ 500) (hH : hdF b p l fp C = (1, d, k, gp, D)) (hok : dOk b d) (hQ : PS σ0 σ1 b L B l (dEn b d) (dFp b d gp) D) : vV cx y_M_aLine.cls prog_14_method_58_code 5 7 0 0 0 0 198 [some (.ref 55), some (.int (iI k)), some (.int (iI (tkF b d + 17))), some (.int (iI at1)), some (.int (iI (dNm b d)))] [] (S0 ++ T) σ1 := by
  have hln := lnF_1 hH hok
  have htd := tkF_rng b d
  have hnn := nmF_rng b (nxF b d)
  have hdn : 0 ≤ dNm b d ∧ dNm b d ≤ 9999 := by unfold dNm; split <;> omega
  refine v_aload0 d_M_aLine_198 ?_
  refine v_iconst d_M_aLine_199 ?_
  refine v_iload1 d_M_aLine_200 ?_
  have hde := dEn_rng hQ.1.2.1 hd
  refine v_gVV2 d_M_aLine_201 l_M_217 k_M_puts (c_M_putsP hQ (by omega) hl (by omega) (by omega)) (sh_55 T) rfl (by decide) (by decide) (Nat.le_of_ble_eq_true rfl) (Nat.zero_le _) (Nat.zero_le _) (fun z201 s201 e201 => ?_)
  refine v_aload0 d_M_aLine_204 ?_
  refine v_bipush d_M_aLine_205 rfl ?_
  refine v_iload2 d_M_aLine_207 ?_
  refine v_gVV2 d_M_aLine_208 l_M_217 k_M_puts (c_M_putsP e201.1 (by omega) hl (by omega) (by omega)) (sh_55 T) rfl (by decide) (by decide) (Nat.le_of_ble_eq_true rfl) (Nat.zero_le _) (Nat.zero_le _) (fun z208 s208 e208 => ?_)
  refine v_aload0 d_M_aLine_211 ?_
  refine v_bipush d_M_aLine_212 rfl ?_
  refine v_iload4 d_M_aLine_214 ?_
  refine v_gVV2 d_M_aLine_216 l_M_217 k_M_puts (c_M_putsP e208.1 (by omega) hl (by omega) (by omega)) (sh_55 T) rfl (by decide) (by decide) (Nat.le_of_ble_eq_true rfl) (Nat.zero_le _) (Nat.zero_le _) (fun z216 s216 e216 => ?_)
  refine v_aload0 d_M_aLine_219 ?_
  refine v_dup d_M_aLine_220 rfl ?_
  refine v_getJ (ji := 11) d_M_aLine_221 f_M_207 (sh_55 T) rfl rfl (fun g221 => ?_)
  rw [e216.1.2.2.1] at g221 ⊢
  refine v_iconst d_M_aLine_224 ?_
  refine v_iadd d_M_aLine_225 ?_
  refine v_putJ (ji := 11) d_M_aLine_226 p_M_207 (sh_55 T) rfl rfl (by omega) ?_
  have e9 := e216.1.ln (v := l + 1)
  exact v_return hM d_M_aLine_229 ⟨rfl, Or.inl ⟨by rw [hln], by rw [hln]; dsimp only; rw [← dC_pu]; exact e9⟩⟩

theorem c_M_aLine_192 {T : vSh} {σ1 σ0 : vMem} {cx : vCx} {L l p : Int} {b B C : Int → Int} {fp : FP} (hp : 0 ≤ p ∧ p ≤ 500) (hl : 0 ≤ l ∧ l ≤ 500) (hM : vM cx 0 0 none (rP (S0 ++ T) (fun _ σ2 => ((lnF b p l fp C).1 = 1 ∧ PS σ0 σ2 b L B (l + 1) (lnF b p l fp C).2.1 (lnF b p l fp C).2.2.1 (lnF b p l fp C).2.2.2) ∨ ((lnF b p l fp C).1 ≠ 1 ∧ PX σ0 σ2 B (whF b (lnF b p l fp C).2.1))))) {at1 : Int} {d k : Int} {gp : FP} {D : Int → Int} (hd : 0 ≤ d ∧ d ≤ 500) (hk : 0 ≤ k ∧ k ≤ 500) (hH : hdF b p l fp C = (1, d, k, gp, D)) (hha : dHas b d) (hQ : PS σ0 σ1 b L B l (dF b d) (dFp b d gp) D) : vV cx y_M_aLine.cls prog_14_method_58_code 5 7 0 0 0 0 192 [some (.ref 55), some (.int (iI k)), some (.int (iI (tkF b d + 17))), some (.int (iI at1)), some (.int (iI (dNm b d)))] [] (S0 ++ T) σ1 := by
  have hnx := nxF_rng hQ.1.2.1 hd
  have hnx2 := nxF_rng hQ.1.2.1 (p := nxF b d) (by omega)
  have hdf : 0 ≤ dF b d ∧ dF b d ≤ 500 := by unfold dF; split <;> omega
  have htd := tkF_rng b d
  have hnn := nmF_rng b (nxF b d)
  have hdn : 0 ≤ dNm b d ∧ dNm b d ≤ 9999 := by unfold dNm; split <;> omega
  refine v_aload0 d_M_aLine_192 ?_
  refine v_bipush d_M_aLine_193 rfl ?_
  refine v_gVV1 d_M_aLine_195 l_M_220 k_M_must (c_M_mustP hQ hdf hl (by omega)) (sh_55 T) rfl (by decide) (by decide) (Nat.le_of_ble_eq_true rfl) (Nat.zero_le _) (Nat.zero_le _) (fun z195 s195 e195 => ?_)
  rcases e195 with ⟨y1, y2⟩ | ⟨y1, y2⟩
  · exact c_M_aLine_198 hp hl hM hd hk hH ⟨hha, y1⟩ (by rw [dEn, if_neg (fun z => z hha.1), if_neg (fun z => z hha.2), if_pos y1]; exact y2)
  · exact c_M_aLine_198W hp hl hM (by omega) (by omega) (by omega) y2 (by rw [lnF_0 hH (fun z => y1 z.2)]; exact ⟨z1n, by rw [dEn, if_neg (fun z => z hha.1), if_neg (fun z => z hha.2), if_neg y1]⟩)

theorem c_M_aLine_171 {T : vSh} {σ1 σ0 : vMem} {cx : vCx} {L l p : Int} {b B C : Int → Int} {fp : FP} (hp : 0 ≤ p ∧ p ≤ 500) (hl : 0 ≤ l ∧ l ≤ 500) (hM : vM cx 0 0 none (rP (S0 ++ T) (fun _ σ2 => ((lnF b p l fp C).1 = 1 ∧ PS σ0 σ2 b L B (l + 1) (lnF b p l fp C).2.1 (lnF b p l fp C).2.2.1 (lnF b p l fp C).2.2.2) ∨ ((lnF b p l fp C).1 ≠ 1 ∧ PX σ0 σ2 B (whF b (lnF b p l fp C).2.1))))) {d k : Int} {gp : FP} {D : Int → Int} (hd : 0 ≤ d ∧ d ≤ 500) (hk : 0 ≤ k ∧ k ≤ 500) (hH : hdF b p l fp C = (1, d, k, gp, D)) (hha : dHas b d) (hQ : PS σ0 σ1 b L B l (dF b d) gp D) : vV cx y_M_aLine.cls prog_14_method_58_code 5 7 0 0 0 0 171 [some (.ref 55), some (.int (iI k)), some (.int (iI (tkF b d + 17))), some (.int (iI (whF b (nxF b d)))), some (.int (iI (dNm b d)))] [] (S0 ++ T) σ1 := by
  have hnx := nxF_rng hQ.1.2.1 hd
  have hnx2 := nxF_rng hQ.1.2.1 (p := nxF b d) (by omega)
  have hdf : 0 ≤ dF b d ∧ dF b d ≤ 500 := by unfold dF; split <;> omega
  have htd := tkF_rng b d
  have hnn := nmF_rng b (nxF b d)
  have hdn : 0 ≤ dNm b d ∧ dNm b d ≤ 9999 := by unfold dNm; split <;> omega
  have hwn := whF_rng b (p := nxF b d) (by omega)
  have hfi : tkF b d ≠ 8 → fitP (tkF b d + 17 - 17) (dNm b d) → fitP (tkF b d) (nmF b (nxF b d)) := fun z1 z2 => by rw [dNm, if_neg z1, Int.add_sub_cancel] at z2; exact z2
  have hfj : tkF b d ≠ 8 → fitP (tkF b d) (nmF b (nxF b d)) → fitP (tkF b d + 17 - 17) (dNm b d) := fun z1 z2 => by rw [dNm, if_neg z1, Int.add_sub_cancel]; exact z2
  refine v_iload2 d_M_aLine_171 ?_
  refine v_iload4 d_M_aLine_172 ?_
  refine v_fSZ2 d_M_aLine_174 l_M_223 k_M_mayBe (c_M_mayBe (by omega) (by omega)) (by decide) (by decide) (Nat.le_of_ble_eq_true rfl) (Nat.zero_le _) (Nat.zero_le _) (fun g174 => ?_)
  refine v_ifb_ne d_M_aLine_177 (fun u177 => ?_) (fun u177 => ?_)
  · exact c_M_aLine_192 hp hl hM hd hk hH hha (by rw [dFp, if_neg (fun z => z.2 (hfi z.1 u177))]; exact hQ)
  · refine v_iload2 d_M_aLine_180 ?_
    refine v_bipush d_M_aLine_181 rfl ?_
    refine v_icmp_eq d_M_aLine_183 (by omega) (by omega) (fun u183 => ?_) (fun u183 => ?_)
    · exact c_M_aLine_192 hp hl hM hd hk hH hha (by rw [dFp, if_neg (by omega)]; exact hQ)
    · refine v_aload0 d_M_aLine_186 ?_
      refine v_iconst d_M_aLine_187 ?_
      refine v_iload3 d_M_aLine_188 ?_
      refine v_gVV2 d_M_aLine_189 l_M_210 k_M_also (c_M_alsoP hQ hdf (by omega) (by omega)) (sh_55 T) rfl (by decide) (by decide) (Nat.le_of_ble_eq_true rfl) (Nat.zero_le _) (Nat.zero_le _) (fun z189 s189 e189 => ?_)
      exact c_M_aLine_192 hp hl hM hd hk hH hha (by rw [dFp, if_pos ⟨by omega, fun z => u177 (hfj (by omega) z)⟩]; exact e189.1)

theorem c_M_aLine_107 {T : vSh} {σ1 σ0 : vMem} {cx : vCx} {L l p : Int} {b B C : Int → Int} {fp : FP} (hp : 0 ≤ p ∧ p ≤ 500) (hl : 0 ≤ l ∧ l ≤ 500) (hM : vM cx 0 0 none (rP (S0 ++ T) (fun _ σ2 => ((lnF b p l fp C).1 = 1 ∧ PS σ0 σ2 b L B (l + 1) (lnF b p l fp C).2.1 (lnF b p l fp C).2.2.1 (lnF b p l fp C).2.2.2) ∨ ((lnF b p l fp C).1 ≠ 1 ∧ PX σ0 σ2 B (whF b (lnF b p l fp C).2.1))))) {d k : Int} {gp : FP} {D : Int → Int} (hd : 0 ≤ d ∧ d ≤ 500) (hk : 0 ≤ k ∧ k ≤ 500) (hH : hdF b p l fp C = (1, d, k, gp, D)) (hQ : PS σ0 σ1 b L B l d gp D) : vV cx y_M_aLine.cls prog_14_method_58_code 5 7 0 0 0 0 107 [some (.ref 55), some (.int (iI k)), none, none, none] [] (S0 ++ T) σ1 := by
  obtain ⟨a1, a2, a3, ⟨a41, a42, a43⟩, a5, a6, a7, a8⟩ := id hQ
  have hnx := nxF_rng a1.2.1 hd
  have htd := tkF_rng b d
  unfold TKr at a43
  refine v_aload0 d_M_aLine_107 ?_
  refine v_getJ (ji := 10) d_M_aLine_108 f_M_191 (sh_55 T) rfl rfl (fun g108 => ?_)
  refine v_if_ne d_M_aLine_111 (by omega) (fun u111 => ?_) (fun u111 => ?_)
  · refine v_aload0 d_M_aLine_136 ?_
    refine v_gVV0 d_M_aLine_137 l_M_198 k_M_stops (c_M_stopsP hQ hd hl) (sh_55 T) rfl (by decide) (by decide) (Nat.le_of_ble_eq_true rfl) (Nat.zero_le _) (Nat.zero_le _) (fun z137 s137 e137 => ?_)
    first
    | (omega)
    | (exact v_return hM d_M_aLine_140 ⟨rfl, Or.inr (by rw [lnF_0 hH (fun z => by omega)]; exact ⟨z1n, by dsimp only; rw [dEn, if_pos (by omega)]; exact e137.x⟩)⟩)
  · refine v_aload0 d_M_aLine_114 ?_
    refine v_getJ (ji := 6) d_M_aLine_115 f_M_167 (sh_55 T) rfl rfl (fun g115 => ?_)
    refine v_iconst d_M_aLine_118 ?_
    refine v_icmp_ne d_M_aLine_119 (by omega) (by omega) (fun u119 => ?_) (fun u119 => ?_)
    · refine v_aload0 d_M_aLine_136 ?_
      refine v_gVV0 d_M_aLine_137 l_M_198 k_M_stops (c_M_stopsP hQ hd hl) (sh_55 T) rfl (by decide) (by decide) (Nat.le_of_ble_eq_true rfl) (Nat.zero_le _) (Nat.zero_le _) (fun z137 s137 e137 => ?_)
      first
      | (omega)
      | (exact v_return hM d_M_aLine_140 ⟨rfl, Or.inr (by rw [lnF_0 hH (fun z => by omega)]; exact ⟨z1n, by dsimp only; rw [dEn, if_pos (by omega)]; exact e137.x⟩)⟩)
    · refine v_aload0 d_M_aLine_122 ?_
      refine v_getJ (ji := 9) d_M_aLine_123 f_M_176 (sh_55 T) rfl rfl (fun g123 => ?_)
      refine v_bipush d_M_aLine_126 rfl ?_
      refine v_bipush d_M_aLine_128 rfl ?_
      refine v_fSZ3 d_M_aLine_130 l_M_56 k_M_isIn (c_M_isIn (by omega) (by omega) (by omega)) (by decide) (by decide) (Nat.le_of_ble_eq_true rfl) (Nat.zero_le _) (Nat.zero_le _) (fun g130 => ?_)
      refine v_ifb_ne d_M_aLine_133 (fun u133 => ?_) (fun u133 => ?_)
      · refine v_aload0 d_M_aLine_141 ?_
        refine v_getJ (ji := 9) d_M_aLine_142 f_M_176 (sh_55 T) rfl rfl (fun g142 => ?_)
        rw [show σ1 55 9 = tkF b d + 17 by omega] at g142 ⊢
        refine v_istore2 d_M_aLine_145 (by decide) rfl ?_
        refine v_aload0 d_M_aLine_146 ?_
        refine v_gVV0 d_M_aLine_147 l_M_195 k_M_advance (c_M_advP hQ hd) (sh_55 T) rfl (by decide) (by decide) (Nat.le_of_ble_eq_true rfl) (Nat.zero_le _) (Nat.zero_le _) (fun z147 s147 e147 => ?_)
        have hwn := whF_rng b (p := nxF b d) (by omega)
        refine v_aload0 d_M_aLine_150 ?_
        refine v_getJ (ji := 5) d_M_aLine_151 f_M_164 (sh_55 T) rfl rfl (fun g151 => ?_)
        rw [e147.1.2.2.2.1.2.1] at g151 ⊢
        refine v_istore3 d_M_aLine_154 (by decide) rfl ?_
        refine v_iload2 d_M_aLine_155 ?_
        refine v_bipush d_M_aLine_156 rfl ?_
        refine v_icmp_ne d_M_aLine_158 (by omega) (by omega) (fun u158 => ?_) (fun u158 => ?_)
        · refine v_aload0 d_M_aLine_165 ?_
          refine v_gVI0 d_M_aLine_166 l_M_204 k_M_numbered (c_M_numP e147.1 (by omega) hl) (sh_55 T) rfl (by decide) (by decide) (Nat.le_of_ble_eq_true rfl) (Nat.zero_le _) (Nat.zero_le _) (fun z166 s166 g166 e166 => ?_)
          refine v_istore4 d_M_aLine_169 (by decide) rfl ?_
          rcases e166 with ⟨y1, y2, y3, y4⟩ | ⟨y1, y2⟩
          · rw [y2, show nmF b (nxF b d) = dNm b d by rw [dNm, if_neg (by omega)]]
            exact c_M_aLine_171 hp hl hM hd hk hH ⟨by omega, Or.inr y1⟩ (by rw [dF, if_neg (by omega)]; exact y3)
          · exact c_M_aLine_171W hp hl hM (by omega) (by omega) (by omega) (by omega) y2 (by rw [lnF_0 hH (fun z => by omega)]; exact ⟨z1n, by rw [dEn, if_neg (by omega), if_pos (by omega)]⟩)
        · refine v_iconst d_M_aLine_161 ?_
          refine v_goto d_M_aLine_162 ?_
          refine v_istore4 d_M_aLine_169 (by decide) rfl ?_
          rw [show (0 : Int) = dNm b d by rw [dNm, if_pos (by omega)]]
          exact c_M_aLine_171 hp hl hM hd hk hH ⟨by omega, Or.inl (by omega)⟩ (by rw [dF, if_pos (by omega)]; exact e147.1)
      · refine v_aload0 d_M_aLine_136 ?_
        refine v_gVV0 d_M_aLine_137 l_M_198 k_M_stops (c_M_stopsP hQ hd hl) (sh_55 T) rfl (by decide) (by decide) (Nat.le_of_ble_eq_true rfl) (Nat.zero_le _) (Nat.zero_le _) (fun z137 s137 e137 => ?_)
        first
        | (omega)
        | (exact v_return hM d_M_aLine_140 ⟨rfl, Or.inr (by rw [lnF_0 hH (fun z => by omega)]; exact ⟨z1n, by dsimp only; rw [dEn, if_pos (by omega)]; exact e137.x⟩)⟩)

theorem c_M_aLine_101 {T : vSh} {σ1 σ0 : vMem} {cx : vCx} {L l p : Int} {b B C : Int → Int} {fp : FP} (hp : 0 ≤ p ∧ p ≤ 500) (hl : 0 ≤ l ∧ l ≤ 500) (hM : vM cx 0 0 none (rP (S0 ++ T) (fun _ σ2 => ((lnF b p l fp C).1 = 1 ∧ PS σ0 σ2 b L B (l + 1) (lnF b p l fp C).2.1 (lnF b p l fp C).2.2.1 (lnF b p l fp C).2.2.2) ∨ ((lnF b p l fp C).1 ≠ 1 ∧ PX σ0 σ2 B (whF b (lnF b p l fp C).2.1))))) {q k : Int} {gp : FP} {D : Int → Int} (hq : 0 ≤ q ∧ q ≤ 500) (hk : 0 ≤ k ∧ k ≤ 500) (h0 : tkF b p = 0) (hT : tsR b p l fp C = (1, q, k, gp, D)) (hQ : PS σ0 σ1 b L B l q gp D) : vV cx y_M_aLine.cls prog_14_method_58_code 5 7 0 0 0 0 101 [some (.ref 55), some (.int (iI k)), none, none, none] [] (S0 ++ T) σ1 := by
  obtain ⟨a1, a2, a3, ⟨a41, a42, a43⟩, a5, a6, a7, a8⟩ := id hQ
  have hnx := nxF_rng a1.2.1 hq
  refine v_aload0 d_M_aLine_101 ?_
  refine v_bipush d_M_aLine_102 rfl ?_
  refine v_gVV1 d_M_aLine_104 l_M_220 k_M_must (c_M_mustP hQ hq hl (by omega)) (sh_55 T) rfl (by decide) (by decide) (Nat.le_of_ble_eq_true rfl) (Nat.zero_le _) (Nat.zero_le _) (fun z104 s104 e104 => ?_)
  rcases e104 with ⟨y1, y2⟩ | ⟨y1, y2⟩
  · exact c_M_aLine_107 hp hl hM (by omega) hk (hdF_1 h0 hT y1) y2
  · exact c_M_aLine_107W hp hl hM y2 (by rw [lnF_h (hdF_2 h0 hT y1)]; exact ⟨z1n, rfl⟩)

theorem c_M_aLine_55 {T : vSh} {cx : vCx} {k : Int} (hk : 0 ≤ k ∧ k < 4) {I : Nat → vMem → Prop} (hI : ∀ (j : Nat) (i : Int) (σ1 : vMem), i = j → j < 4 → vIn (σ1 60 i) → I j σ1 → mt_M_puts [.ref 55, .int (iI (1 + 4 * k + i)), .int (iI (σ1 60 i))] (S0 ++ T) σ1 (rP (S0 ++ T) (fun _ σ2 => I (j + 1) σ2))) (K : ∀ (σ2 : vMem), I 4 σ2 → vV cx y_M_aLine.cls prog_14_method_58_code 5 7 0 0 0 0 88 [some (.ref 55), some (.int (iI k)), some (.int (iI 1)), none, none] [] (S0 ++ T) σ2) : ∀ (n j : Nat) (i : Int) (σ1 : vMem), (j : Int) + n = 4 → i = j → I j σ1 → vV cx y_M_aLine.cls prog_14_method_58_code 5 7 0 0 0 0 55 [some (.ref 55), some (.int (iI k)), some (.int (iI 1)), some (.int (iI i)), none] [] (S0 ++ T) σ1 := by
  intro n
  induction n with
  | zero =>
    intro j i σ1 hj hi hJ
    refine v_iload3 d_M_aLine_55 ?_
    refine v_iconst d_M_aLine_56 ?_
    refine v_icmp_ge d_M_aLine_57 (by omega) (by omega) (fun u57 => ?_) (fun u57 => ?_)
    · refine v_drop3 ?_
      refine K σ1 (by rw [show (4 : Nat) = j by omega]; exact hJ)
    · omega
  | succ n ih =>
    intro j i σ1 hj hi hJ
    refine v_iload3 d_M_aLine_55 ?_
    refine v_iconst d_M_aLine_56 ?_
    refine v_icmp_ge d_M_aLine_57 (by omega) (by omega) (fun u57 => ?_) (fun u57 => ?_)
    · omega
    · refine v_iload1 d_M_aLine_60 ?_
      refine v_iconst d_M_aLine_61 ?_
      refine v_icmp_ge d_M_aLine_62 (by omega) (by omega) (fun u62 => ?_) (fun u62 => ?_)
      · omega
      · refine v_aload0 d_M_aLine_65 ?_
        refine v_iconst d_M_aLine_66 ?_
        refine v_iconst d_M_aLine_67 ?_
        refine v_iload1 d_M_aLine_68 ?_
        refine v_imul d_M_aLine_69 ?_
        refine v_iadd d_M_aLine_70 ?_
        refine v_iload3 d_M_aLine_71 ?_
        refine v_iadd d_M_aLine_72 ?_
        refine v_aload0 d_M_aLine_73 ?_
        refine v_getR d_M_aLine_74 f_M_23 (sh_55 T) rfl ?_
        refine v_iload3 d_M_aLine_77 ?_
        refine v_iaload d_M_aLine_78 (sh_60 T) (by omega) (fun g78 => ?_)
        refine v_gVV2 d_M_aLine_79 l_M_217 k_M_puts (hI j i _ hi (by omega) g78 hJ) (sh_55 T) rfl (by decide) (by decide) (Nat.le_of_ble_eq_true rfl) (Nat.zero_le _) (Nat.zero_le _) (fun z79 s79 e79 => ?_)
        refine v_iinc3 d_M_aLine_82 (by decide) rfl ?_
        refine v_goto d_M_aLine_85 ?_
        exact ih (j + 1) _ _ (by omega) (by omega) e79

theorem c_M_aLine_53 {T : vSh} {σ1 σ0 : vMem} {cx : vCx} {L l p : Int} {b B C : Int → Int} {fp : FP} (hp : 0 ≤ p ∧ p ≤ 500) (hl : 0 ≤ l ∧ l ≤ 500) (hM : vM cx 0 0 none (rP (S0 ++ T) (fun _ σ2 => ((lnF b p l fp C).1 = 1 ∧ PS σ0 σ2 b L B (l + 1) (lnF b p l fp C).2.1 (lnF b p l fp C).2.2.1 (lnF b p l fp C).2.2.2) ∨ ((lnF b p l fp C).1 ≠ 1 ∧ PX σ0 σ2 B (whF b (lnF b p l fp C).2.1))))) {q k e : Int} {gp : FP} {D : Int → Int} (hk : 0 ≤ k ∧ k ≤ 500) (he : 0 ≤ e ∧ e ≤ 500) (hQ : PS σ0 σ1 b L B l e gp D) (t0 : σ1 60 0 = tNg b q) (t1 : σ1 60 1 = tSb b q) (t2 : σ1 60 2 = tSg b q) (t3 : σ1 60 3 = tLm b q) (K : ∀ (σ2 : vMem), PS σ0 σ2 b L B l e gp (teC b l q k D) → vV cx y_M_aLine.cls prog_14_method_58_code 5 7 0 0 0 0 88 [some (.ref 55), some (.int (iI k)), some (.int (iI 1)), none, none] [] (S0 ++ T) σ2) : vV cx y_M_aLine.cls prog_14_method_58_code 5 7 0 0 0 0 53 [some (.ref 55), some (.int (iI k)), some (.int (iI 1)), none, none] [] (S0 ++ T) σ1 := by
  by_cases h4 : k < 4
  · refine v_iconst d_M_aLine_53 ?_
    refine v_istore3 d_M_aLine_54 (by decide) rfl ?_
    exact c_M_aLine_55 ⟨hk.1, h4⟩ (I := fun j σ2 => PS σ0 σ2 b L B l e gp (ptC D l k (σ1 60) j) ∧ σ2 60 = σ1 60) (fun j i σ3 hi hj hv hJ => vMet.mono (c_M_putsP hJ.1 he hl (by omega) hv) (fun z S' σ4 h9 => ⟨h9.1, by have e8 := congrFun hJ.2 i; rw [ptC, ← hi, ← e8]; exact h9.2.1, h9.2.2.trans hJ.2⟩)) (fun σ2 h9 => K σ2 (by rw [← ptC_4 h4 t0 t1 t2 t3]; exact h9.1)) 4 0 _ _ (by omega) rfl ⟨hQ, rfl⟩
  · have eC : teC b l q k D = D := if_neg (by omega)
    rw [eC] at K
    refine v_iconst d_M_aLine_53 ?_
    refine v_istore3 d_M_aLine_54 (by decide) rfl ?_
    refine v_iload3 d_M_aLine_55 ?_
    refine v_iconst d_M_aLine_56 ?_
    refine v_icmp_ge d_M_aLine_57 (by omega) (by omega) (fun u57 => ?_) (fun u57 => ?_)
    · omega
    · refine v_iload1 d_M_aLine_60 ?_
      refine v_iconst d_M_aLine_61 ?_
      refine v_icmp_ge d_M_aLine_62 (by omega) (by omega) (fun u62 => ?_) (fun u62 => ?_)
      · refine v_drop3 ?_
        exact K σ1 hQ
      · omega
theorem c_M_aLine_53W {T : vSh} {σ1 σ0 : vMem} {cx : vCx} {L l p : Int} {b B C : Int → Int} {fp : FP} (hp : 0 ≤ p ∧ p ≤ 500) (hl : 0 ≤ l ∧ l ≤ 500) (hM : vM cx 0 0 none (rP (S0 ++ T) (fun _ σ2 => ((lnF b p l fp C).1 = 1 ∧ PS σ0 σ2 b L B (l + 1) (lnF b p l fp C).2.1 (lnF b p l fp C).2.2.1 (lnF b p l fp C).2.2.2) ∨ ((lnF b p l fp C).1 ≠ 1 ∧ PX σ0 σ2 B (whF b (lnF b p l fp C).2.1))))) {k w : Int} (hk : 0 ≤ k ∧ k ≤ 500) (hW : PW σ0 σ1 B w) (K : ∀ (σ2 : vMem), PW σ0 σ2 B w → vV cx y_M_aLine.cls prog_14_method_58_code 5 7 0 0 0 0 88 [some (.ref 55), some (.int (iI k)), some (.int (iI 1)), none, none] [] (S0 ++ T) σ2) : vV cx y_M_aLine.cls prog_14_method_58_code 5 7 0 0 0 0 53 [some (.ref 55), some (.int (iI k)), some (.int (iI 1)), none, none] [] (S0 ++ T) σ1 := by
  by_cases h4 : k < 4
  · refine v_iconst d_M_aLine_53 ?_
    refine v_istore3 d_M_aLine_54 (by decide) rfl ?_
    exact c_M_aLine_55 ⟨hk.1, h4⟩ (I := fun j σ2 => PW σ0 σ2 B w) (fun j i σ3 hi hj hv hJ => c_M_putsW hJ (by omega) hv) (fun σ2 h9 => K σ2 h9) 4 0 _ _ (by omega) rfl hW
  · skip
    refine v_iconst d_M_aLine_53 ?_
    refine v_istore3 d_M_aLine_54 (by decide) rfl ?_
    refine v_iload3 d_M_aLine_55 ?_
    refine v_iconst d_M_aLine_56 ?_
    refine v_icmp_ge d_M_aLine_57 (by omega) (by omega) (fun u57 => ?_) (fun u57 => ?_)
    · omega
    · refine v_iload1 d_M_aLine_60 ?_
      refine v_iconst d_M_aLine_61 ?_
      refine v_icmp_ge d_M_aLine_62 (by omega) (by omega) (fun u62 => ?_) (fun u62 => ?_)
      · refine v_drop3 ?_
        exact K σ1 hW
      · omega

theorem c_M_aLine_88 {T : vSh} {σ1 σ0 : vMem} {cx : vCx} {L l p : Int} {b B C : Int → Int} {fp : FP} (hp : 0 ≤ p ∧ p ≤ 500) (hl : 0 ≤ l ∧ l ≤ 500) (hM : vM cx 0 0 none (rP (S0 ++ T) (fun _ σ2 => ((lnF b p l fp C).1 = 1 ∧ PS σ0 σ2 b L B (l + 1) (lnF b p l fp C).2.1 (lnF b p l fp C).2.2.1 (lnF b p l fp C).2.2.2) ∨ ((lnF b p l fp C).1 ≠ 1 ∧ PX σ0 σ2 B (whF b (lnF b p l fp C).2.1))))) {k e : Int} {gp : FP} {D : Int → Int} (hk : 0 ≤ k ∧ k ≤ 500) (he : 0 ≤ e ∧ e ≤ 500) (hQ : PS σ0 σ1 b L B l e gp D) (K1 : tkF b e = 1 → ∀ σ2, PS σ0 σ2 b L B l (nxF b e) gp D → vV cx y_M_aLine.cls prog_14_method_58_code 5 7 0 0 0 0 31 [some (.ref 55), some (.int (iI (k + 1))), some (.int (iI 1)), none, none] [] (S0 ++ T) σ2) (K2 : tkF b e ≠ 1 → ∀ σ2, PS σ0 σ2 b L B l e gp D → vV cx y_M_aLine.cls prog_14_method_58_code 5 7 0 0 0 0 101 [some (.ref 55), some (.int (iI (k + 1))), none, none, none] [] (S0 ++ T) σ2) : vV cx y_M_aLine.cls prog_14_method_58_code 5 7 0 0 0 0 88 [some (.ref 55), some (.int (iI k)), some (.int (iI 1)), none, none] [] (S0 ++ T) σ1 := by
  refine v_iinc1 d_M_aLine_88 (by decide) rfl ?_
  refine v_aload0 d_M_aLine_91 ?_
  refine v_bipush d_M_aLine_92 rfl ?_
  refine v_gVZ1 d_M_aLine_94 l_M_201 k_M_takes (c_M_takesP (t := 1) hQ he rfl (by omega)) (sh_55 T) rfl (by decide) (by decide) (Nat.le_of_ble_eq_true rfl) (Nat.zero_le _) (Nat.zero_le _) (fun z94 s94 g94 e94 => ?_)
  refine v_istore2 d_M_aLine_97 (by decide) rfl ?_
  refine v_goto d_M_aLine_98 ?_
  by_cases q9 : tkF b e = 1
  · have z9 : z94 = 1 := by rw [e94.1]; exact (b01_1 q9).symm
    have p9 := e94.2.1
    rw [if_pos q9] at p9
    rw [z9]
    exact K1 q9 _ p9
  · have z9 : z94 = 0 := by rw [e94.1]; exact (b01_0 q9).symm
    have p9 := e94.2.1
    rw [if_neg q9] at p9
    rw [z9]
    refine v_iload2 d_M_aLine_31 ?_
    refine v_if_eq d_M_aLine_32 (by omega) (fun u32 => ?_) (fun u32 => by omega)
    refine v_drop2 ?_
    exact K2 q9 _ p9
theorem c_M_aLine_88W {T : vSh} {σ1 σ0 : vMem} {cx : vCx} {L l p : Int} {b B C : Int → Int} {fp : FP} (hp : 0 ≤ p ∧ p ≤ 500) (hl : 0 ≤ l ∧ l ≤ 500) (hM : vM cx 0 0 none (rP (S0 ++ T) (fun _ σ2 => ((lnF b p l fp C).1 = 1 ∧ PS σ0 σ2 b L B (l + 1) (lnF b p l fp C).2.1 (lnF b p l fp C).2.2.1 (lnF b p l fp C).2.2.2) ∨ ((lnF b p l fp C).1 ≠ 1 ∧ PX σ0 σ2 B (whF b (lnF b p l fp C).2.1))))) {k w : Int} (hk : 0 ≤ k ∧ k ≤ 500) (hW : PW σ0 σ1 B w) (hr : (lnF b p l fp C).1 ≠ 1 ∧ whF b (lnF b p l fp C).2.1 = w) : vV cx y_M_aLine.cls prog_14_method_58_code 5 7 0 0 0 0 88 [some (.ref 55), some (.int (iI k)), some (.int (iI 1)), none, none] [] (S0 ++ T) σ1 := by
  refine v_iinc1 d_M_aLine_88 (by decide) rfl ?_
  refine v_aload0 d_M_aLine_91 ?_
  refine v_bipush d_M_aLine_92 rfl ?_
  refine v_gVZ1 d_M_aLine_94 l_M_201 k_M_takes (c_M_takesW hW.1) (sh_55 T) rfl (by decide) (by decide) (Nat.le_of_ble_eq_true rfl) (Nat.zero_le _) (Nat.zero_le _) (fun z94 s94 g94 e94 => ?_)
  refine v_istore2 d_M_aLine_97 (by decide) rfl ?_
  refine v_goto d_M_aLine_98 ?_
  rw [e94.1]
  obtain ⟨-, rfl⟩ := e94
  refine v_iload2 d_M_aLine_31 ?_
  refine v_if_eq d_M_aLine_32 (by omega) (fun u32 => ?_) (fun u32 => by omega)
  refine v_drop2 ?_
  exact c_M_aLine_101W hp hl hM hW hr
theorem c_M_aLine_49 {T : vSh} {σ1 σ0 : vMem} {cx : vCx} {L l p : Int} {b B C : Int → Int} {fp : FP} (hp : 0 ≤ p ∧ p ≤ 500) (hl : 0 ≤ l ∧ l ≤ 500) (hM : vM cx 0 0 none (rP (S0 ++ T) (fun _ σ2 => ((lnF b p l fp C).1 = 1 ∧ PS σ0 σ2 b L B (l + 1) (lnF b p l fp C).2.1 (lnF b p l fp C).2.2.1 (lnF b p l fp C).2.2.2) ∨ ((lnF b p l fp C).1 ≠ 1 ∧ PX σ0 σ2 B (whF b (lnF b p l fp C).2.1))))) (h0 : tkF b p = 0) {m : Nat} {q k : Int} {gp : FP} {D : Int → Int} (hq : 0 ≤ q ∧ q ≤ 500) (hk : 0 ≤ k ∧ k ≤ q) (hT : tsR b p l fp C = tsL b l (m + 1) q k gp D) (hQ : PS σ0 σ1 b L B l q (teP b q k gp) D) (K : tOk b q → tkF b (tEn b q) = 1 → tsR b p l fp C = tsL b l m (nxF b (tEn b q)) (k + 1) (teP b q k gp) (teC b l q k D) → ∀ σ2, PS σ0 σ2 b L B l (nxF b (tEn b q)) (teP b q k gp) (teC b l q k D) → vV cx y_M_aLine.cls prog_14_method_58_code 5 7 0 0 0 0 31 [some (.ref 55), some (.int (iI (k + 1))), some (.int (iI 1)), none, none] [] (S0 ++ T) σ2) : vV cx y_M_aLine.cls prog_14_method_58_code 5 7 0 0 0 0 49 [some (.ref 55), some (.int (iI k)), some (.int (iI 1)), none, none] [] (S0 ++ T) σ1 := by
  have hte := tEn_rng hQ.1.2.1 hq
  refine v_aload0 d_M_aLine_49 ?_
  refine v_gVV0 d_M_aLine_50 l_M_214 k_M_aTest (c_M_aTestP hQ hq hl) (sh_55 T) rfl (by decide) (by decide) (Nat.le_of_ble_eq_true rfl) (Nat.zero_le _) (Nat.zero_le _) (fun z50 s50 e50 => ?_)
  rcases e50 with ⟨y1, y2, y3, y4, y5, y6⟩ | ⟨y1, y2⟩
  · refine c_M_aLine_53 hp hl hM (by omega) (by omega) y2 y3 y4 y5 y6 (fun σ2 h9 => c_M_aLine_88 hp hl hM (by omega) (by omega) h9 (fun q9 σ3 h8 => K y1 q9 (by rw [hT, tsL, if_pos y1, if_pos q9]) σ3 h8) (fun q9 σ3 h8 => c_M_aLine_101 hp hl hM (by omega) (by have := hte.2.2 y1; omega) h0 (by rw [hT, tsL, if_pos y1, if_neg q9]) h8))
  · exact c_M_aLine_53W hp hl hM (by omega) y2 (fun σ2 h9 => c_M_aLine_88W hp hl hM (by omega) h9 (by rw [lnF_h (hdF_3 h0 (by rw [hT, tsL, if_neg y1]))]; exact ⟨z1n, rfl⟩))
theorem c_M_aLine_31 {T : vSh} {σ0 : vMem} {cx : vCx} {L l p : Int} {b B C : Int → Int} {fp : FP} (hp : 0 ≤ p ∧ p ≤ 500) (hl : 0 ≤ l ∧ l ≤ 500) (hM : vM cx 0 0 none (rP (S0 ++ T) (fun _ σ2 => ((lnF b p l fp C).1 = 1 ∧ PS σ0 σ2 b L B (l + 1) (lnF b p l fp C).2.1 (lnF b p l fp C).2.2.1 (lnF b p l fp C).2.2.2) ∨ ((lnF b p l fp C).1 ≠ 1 ∧ PX σ0 σ2 B (whF b (lnF b p l fp C).2.1))))) (h0 : tkF b p = 0) : ∀ (m : Nat) (q k : Int) (gp : FP) (D : Int → Int) (σ1 : vMem), 500 - q < (m : Int) → (0 ≤ q ∧ q ≤ 500) → (0 ≤ k ∧ k ≤ q) → tsR b p l fp C = tsL b l m q k gp D → PS σ0 σ1 b L B l q gp D → vV cx y_M_aLine.cls prog_14_method_58_code 5 7 0 0 0 0 31 [some (.ref 55), some (.int (iI k)), some (.int (iI 1)), none, none] [] (S0 ++ T) σ1 := by
  intro m
  induction m with
  | zero => intro q k gp D σ1 hn hq; omega
  | succ m ih =>
    intro q k gp D σ1 hn hq hk hT hQ
    have hK : tOk b q → tkF b (tEn b q) = 1 → tsR b p l fp C = tsL b l m (nxF b (tEn b q)) (k + 1) (teP b q k gp) (teC b l q k D) → ∀ σ2, PS σ0 σ2 b L B l (nxF b (tEn b q)) (teP b q k gp) (teC b l q k D) → vV cx y_M_aLine.cls prog_14_method_58_code 5 7 0 0 0 0 31 [some (.ref 55), some (.int (iI (k + 1))), some (.int (iI 1)), none, none] [] (S0 ++ T) σ2 := fun y1 q9 hT2 σ2 h9 => by
      have hte := tEn_rng hQ.1.2.1 hq
      have h8 := hte.2.2 y1
      have hnx := nxF_rng hQ.1.2.1 (p := tEn b q) (by omega)
      exact ih _ _ _ _ σ2 (by omega) (by omega) (by omega) hT2 h9
    have hwq := whF_rng b hq.2
    refine v_iload2 d_M_aLine_31 ?_
    refine v_if_eq d_M_aLine_32 (by omega) (fun u32 => ?_) (fun u32 => ?_)
    · omega
    · refine v_iload1 d_M_aLine_35 ?_
      refine v_iconst d_M_aLine_36 ?_
      refine v_icmp_le d_M_aLine_37 (by omega) (by omega) (fun u37 => ?_) (fun u37 => ?_)
      · exact c_M_aLine_49 hp hl hM h0 hq hk hT (by rw [teP, if_neg (by omega)]; exact hQ) hK
      · refine v_aload0 d_M_aLine_40 ?_
        refine v_iconst d_M_aLine_41 ?_
        refine v_aload0 d_M_aLine_42 ?_
        refine v_getJ (ji := 5) d_M_aLine_43 f_M_164 (sh_55 T) rfl rfl (fun g43 => ?_)
        rw [hQ.2.2.2.1.2.1] at g43 ⊢
        refine v_gVV2 d_M_aLine_46 l_M_210 k_M_also (c_M_alsoP hQ hq (by omega) (by omega)) (sh_55 T) rfl (by decide) (by decide) (Nat.le_of_ble_eq_true rfl) (Nat.zero_le _) (Nat.zero_le _) (fun z46 s46 e46 => ?_)
        exact c_M_aLine_49 hp hl hM h0 hq hk hT (by rw [teP, if_pos (by omega)]; exact e46.1) hK

theorem c_M_aLine_18 {T : vSh} {σ1 σ0 : vMem} {cx : vCx} {L l p : Int} {b B C : Int → Int} {fp : FP} (hp : 0 ≤ p ∧ p ≤ 500) (hl : 0 ≤ l ∧ l ≤ 500) (hM : vM cx 0 0 none (rP (S0 ++ T) (fun _ σ2 => ((lnF b p l fp C).1 = 1 ∧ PS σ0 σ2 b L B (l + 1) (lnF b p l fp C).2.1 (lnF b p l fp C).2.2.1 (lnF b p l fp C).2.2.2) ∨ ((lnF b p l fp C).1 ≠ 1 ∧ PX σ0 σ2 B (whF b (lnF b p l fp C).2.1))))) (hQ : PS σ0 σ1 b L B l p (liP b p l fp) C) : vV cx y_M_aLine.cls prog_14_method_58_code 5 7 0 0 0 0 18 [some (.ref 55), none, none, none, none] [] (S0 ++ T) σ1 := by
  obtain ⟨a1, a2, a3, ⟨a41, a42, a43⟩, a5, a6, a7, a8⟩ := id hQ
  have hnx := nxF_rng a1.2.1 hp
  have hbr := b01_rng (p := tkF b p = 0)
  refine v_iconst d_M_aLine_18 ?_
  refine v_istore1 d_M_aLine_19 (by decide) rfl ?_
  refine v_aload0 d_M_aLine_20 ?_
  refine v_bipush d_M_aLine_21 rfl ?_
  refine v_gVZ1 d_M_aLine_23 l_M_201 k_M_takes (c_M_takesP (t := 0) hQ hp rfl (by omega)) (sh_55 T) rfl (by decide) (by decide) (Nat.le_of_ble_eq_true rfl) (Nat.zero_le _) (Nat.zero_le _) (fun z23 s23 g23 e23 => ?_)
  refine v_if_eq d_M_aLine_26 (by omega) (fun u26 => ?_) (fun u26 => ?_)
  · have q9 : ¬ tkF b p = 0 := fun z => by have := e23.1.trans (b01_1 z).symm; omega
    have p9 := e23.2.1
    rw [if_neg q9] at p9
    exact c_M_aLine_107 hp hl hM hp (by omega) (hdF_no q9) p9
  · refine v_iconst d_M_aLine_29 ?_
    refine v_istore2 d_M_aLine_30 (by decide) rfl ?_
    have q9 : tkF b p = 0 := by_contra9 (fun z => by have := e23.1.trans (b01_0 z).symm; omega)
    have p9 := e23.2.1
    rw [if_pos q9] at p9
    exact c_M_aLine_31 hp hl hM q9 501 _ _ _ _ _ (by omega) (by omega) (by omega) rfl p9

theorem c_M_aLineP {T : vSh} {σ : vMem} {σ0 : vMem} {L l p : Int} {b B C : Int → Int} {fp : FP} (hP : PS σ0 σ b L B l p fp C) (hp : 0 ≤ p ∧ p ≤ 500) (hl : 0 ≤ l ∧ l ≤ 500) : mt_M_aLine [.ref 55] (S0 ++ T) σ (rP (S0 ++ T) (fun _ σ2 => ((lnF b p l fp C).1 = 1 ∧ PS σ0 σ2 b L B (l + 1) (lnF b p l fp C).2.1 (lnF b p l fp C).2.2.1 (lnF b p l fp C).2.2.2) ∨ ((lnF b p l fp C).1 ≠ 1 ∧ PX σ0 σ2 B (whF b (lnF b p l fp C).2.1)))) := by
  refine vMet.intro 4 (by decide +kernel) (Nat.le_of_ble_eq_true rfl) rfl (fun cx hM _ => ?_)
  obtain ⟨a1, a2, a3, ⟨a41, a42, a43⟩, a5, a6, a7, a8⟩ := id hP
  have hnx := nxF_rng a1.2.1 hp
  have hwh := whF_rng b hp.2
  have htk := tkF_rng b p
  unfold TKr at a43
  refine v_aload0 d_M_aLine_0 ?_
  refine v_getJ (ji := 11) d_M_aLine_1 f_M_207 (sh_55 T) rfl rfl (fun g1 => ?_)
  refine v_bipush d_M_aLine_4 rfl ?_
  refine v_icmp_lt d_M_aLine_6 (by omega) (by omega) (fun u6 => ?_) (fun u6 => ?_)
  · exact c_M_aLine_18 hp hl hM (by rw [liP, if_neg (by omega)]; exact hP)
  · refine v_aload0 d_M_aLine_9 ?_
    refine v_iconst d_M_aLine_10 ?_
    refine v_aload0 d_M_aLine_11 ?_
    refine v_getJ (ji := 5) d_M_aLine_12 f_M_164 (sh_55 T) rfl rfl (fun g12 => ?_)
    rw [a42] at g12 ⊢
    refine v_gVV2 d_M_aLine_15 l_M_210 k_M_also (c_M_alsoP hP hp (by omega) (by omega)) (sh_55 T) rfl (by decide) (by decide) (Nat.le_of_ble_eq_true rfl) (Nat.zero_le _) (Nat.zero_le _) (fun z15 s15 e15 => ?_)
    exact c_M_aLine_18 hp hl hM (by rw [liP, if_pos (by omega)]; exact e15.1)

