/-! ===== a reign ===== -/
def rzA (A : Int → Int) : Int → Int := upF A 7 0
abbrev canR (A : Int → Int) (dd : Int) : Prop := A 3 < 4 ∧ (0 ≤ dd ∧ dd < 1200) ∧ (A 3 = 0 ∨ A (10 + 2 * A 3 - 2) < dd)
def rgR (A C : Int → Int) : RdT := rgF (tbF A (A 7)) 501 0 0 (0, -1) C
def cpC (X : Int → Int) (a : Int) (C : Int → Int) (j : Int) : Int → Int := fun i => if a ≤ i ∧ i < a + j then C (i - a) else X i
def reA (X : Int → Int) (dd n : Int) (C : Int → Int) : Int → Int := upF (upF (upF (cpC X (1430 + 320 * X 3) C 320) (10 + 2 * X 3) dd) (10 + 2 * X 3 + 1) n) 3 (X 3 + 1)
def wRe (A C : Int → Int) (dd : Int) : WrT := if canR A dd then (if (rgR A C).1 = 1 then (if (rgR A C).2.2.2.1.1 = 0 then (reA (fpA (rzA A) (rgR A C).2.2.2.1) dd (rgR A C).2.2.1 (rgR A C).2.2.2.2, (rgR A C).2.2.1) else (fpA (rzA A) (rgR A C).2.2.2.1, -1)) else (fpA (rzA A) (1, whF (tbF A (A 7)) (rgR A C).2.1), -1)) else (fpA (rzA A) (0, -1), -2)
theorem rgF_rng {b : Int → Int} {L : Int} (hb : okB b L) : ∀ (m : Nat) {p l : Int} {fp : FP} {C : Int → Int}, (0 ≤ p ∧ p ≤ 500) → (0 ≤ l ∧ l ≤ p) → 500 - p < m → 0 ≤ (rgF b m p l fp C).2.2.1 ∧ (rgF b m p l fp C).2.2.1 ≤ 501 ∧ 0 ≤ (rgF b m p l fp C).2.1 ∧ (rgF b m p l fp C).2.1 ≤ 500
  | 0, p, l, fp, C, h1, h2, h3 => by omega
  | m + 1, p, l, fp, C, h1, h2, h3 => by
    have h4 := lnF_rng hb (l := l) (fp := fp) (C := C) h1
    rw [rgF]
    split
    · dsimp only; omega
    · split
      · have h5 := h4.2.2 (by assumption)
        exact rgF_rng hb m (by omega) (by omega) (by omega)
      · dsimp only; omega

def FM (σ σ2 : vMem) : Prop := ∀ k, k ≠ 55 ∧ k ≠ 56 ∧ k ≠ 59 ∧ k ≠ 60 → σ2 k = σ k
theorem fpA_in {A : Int → Int} (fp : FP) {i : Int} (h : i ≠ 7 ∧ i ≠ 8 ∧ i ≠ 9) : fpA (rzA A) fp i = A i := by rw [fpA_n _ _ h.2, rzA, upF_n h.1]

theorem c_M_reign_126W {T : vSh} {σ σ0 σ1 : vMem} {cx : vCx} (h00 : ∀ k, k ≠ 55 → σ0 k = σ k) {A C : Int → Int} {dd : Int} (hO : okA A) (hcan : canR A dd) (hM : vM cx 0 0 (some .int) (rP (S0 ++ T) (fun z σ2 => z = (wRe A C dd).2 ∧ FM σ σ2 ∧ σ2 56 = (wRe A C dd).1))) {w : Int} (hX : PX σ0 σ1 (rzA A) w) (hr : (rgR A C).1 ≠ 1 ∧ whF (tbF A (A 7)) (rgR A C).2.1 = w) : vV cx y_M_reign.cls prog_14_method_59_code 3 8 0 0 0 0 126 [some (.ref 55), some (.int (iI dd)), none] [] (S0 ++ T) σ1 := by
  refine v_aload0 d_M_reign_126 ?_
  refine v_getR d_M_reign_127 f_M_7 (sh_55 T) rfl ?_
  refine v_bipush d_M_reign_130 rfl ?_
  refine v_ialoadE hX.2.1 d_M_reign_132 (sh_56 T) (by omega) (fun g132 => ?_)
  rw [fpA_8] at g132 ⊢
  refine v_if_eq d_M_reign_133 (by omega) (fun u133 => ?_) (fun u133 => ?_)
  · omega
  · refine v_iconst d_M_reign_136 ?_
    exact v_ireturn hM d_M_reign_137 (by omega) ⟨rfl, by rw [wRe, if_pos hcan, if_neg hr.1], fun k hk => by rw [hX.2.2.1 k hk, h00 k hk.1], by rw [wRe, if_pos hcan, if_neg hr.1, hr.2]; exact hX.2.1⟩

theorem cpC_s (X : Int → Int) (a : Int) (C : Int → Int) (j : Nat) : cpC X a C ((j + 1 : Nat) : Int) = upF (cpC X a C (j : Int)) (a + (j : Int)) (C (j : Int)) := by
  funext i
  simp only [cpC, upF]
  by_cases h : i = a + (j : Int)
  · rw [if_pos h, if_pos (by omega), show i - a = (j : Int) by omega]
  · rw [if_neg h]
    by_cases h2 : a ≤ i ∧ i < a + (j : Int)
    · rw [if_pos h2, if_pos (by omega)]
    · rw [if_neg h2, if_neg (by omega)]
theorem cpC_0 (X : Int → Int) (a : Int) (C : Int → Int) : cpC X a C 0 = X := by
  funext i
  exact if_neg (by omega)
theorem c_M_reign_140 {T : vSh} {σ : vMem} {cx : vCx} {A X D : Int → Int} {dd l : Int} (h3 : X 3 = A 3) (q3 : 0 ≤ A 3 ∧ A 3 < 4) (hdd : 0 ≤ dd ∧ dd < 1200) (hD : σ 59 = D) (hl : σ 55 11 = l) (hl2 : 0 ≤ l ∧ l ≤ 501) {RT : vRT} (hM : vM cx 0 0 (some .int) RT) (hR : ∀ σ2 : vMem, (∀ k, k ≠ 56 → σ2 k = σ k) → σ2 56 = reA X dd l D → RT l (S0 ++ T) σ2) : ∀ (n j : Nat) (i : Int) (σ1 : vMem), (j : Int) + n = 320 → i = j → (∀ k, k ≠ 56 → σ1 k = σ k) → σ1 56 = cpC X (1430 + 320 * A 3) D (j : Int) → vV cx y_M_reign.cls prog_14_method_59_code 3 8 0 0 0 0 140 [some (.ref 55), some (.int (iI dd)), some (.int (iI i))] [] (S0 ++ T) σ1 := by
  intro n
  induction n with
  | zero =>
    intro j i σ1 hj hi hσ hB
    have x3 : cpC X (1430 + 320 * A 3) D (j : Int) 3 = A 3 := by rw [cpC, if_neg (by omega)]; exact h3
    refine v_iload2 d_M_reign_140 ?_
    refine v_sipush d_M_reign_141 rfl ?_
    refine v_icmp_ge d_M_reign_144 (by omega) (by omega) (fun u144 => ?_) (fun u144 => ?_)
    · refine v_aload0 d_M_reign_180 ?_
      refine v_getR d_M_reign_181 f_M_7 (sh_55 T) rfl ?_
      refine v_bipush d_M_reign_184 rfl ?_
      refine v_iconst d_M_reign_186 ?_
      refine v_aload0 d_M_reign_187 ?_
      refine v_getR d_M_reign_188 f_M_7 (sh_55 T) rfl ?_
      refine v_iconst d_M_reign_191 ?_
      refine v_ialoadE hB d_M_reign_192 (sh_56 T) (by omega) (fun g192 => ?_)
      rw [x3] at g192 ⊢
      refine v_imul d_M_reign_193 ?_
      refine v_iadd d_M_reign_194 ?_
      refine v_iload1 d_M_reign_195 ?_
      refine v_iastoreE hB d_M_reign_196 (sh_56 T) (by omega) (by omega) (fun m196 f196 hA196 => ?_)
      refine v_aload0 d_M_reign_197 ?_
      refine v_getR d_M_reign_198 f_M_7 (sh_55 T) rfl ?_
      refine v_bipush d_M_reign_201 rfl ?_
      refine v_iconst d_M_reign_203 ?_
      refine v_aload0 d_M_reign_204 ?_
      refine v_getR d_M_reign_205 f_M_7 (sh_55 T) rfl ?_
      refine v_iconst d_M_reign_208 ?_
      refine v_ialoadE hA196 d_M_reign_209 (sh_56 T) (by omega) (fun g209 => ?_)
      rw [upF_n (by omega), x3] at g209 ⊢
      refine v_imul d_M_reign_210 ?_
      refine v_iadd d_M_reign_211 ?_
      refine v_iconst d_M_reign_212 ?_
      refine v_iadd d_M_reign_213 ?_
      refine v_aload0 d_M_reign_214 ?_
      refine v_getJ (ji := 11) d_M_reign_215 f_M_207 (sh_55 T) rfl rfl (fun g215 => ?_)
      rw [f196 55 (by decide), hσ 55 (by decide), hl] at g215 ⊢
      refine v_iastoreE hA196 d_M_reign_218 (sh_56 T) (by omega) (by omega) (fun m218 f218 hA218 => ?_)
      refine v_aload0 d_M_reign_219 ?_
      refine v_getR d_M_reign_220 f_M_7 (sh_55 T) rfl ?_
      refine v_iconst d_M_reign_223 ?_
      refine v_dup2 d_M_reign_224 rfl rfl ?_
      refine v_ialoadE hA218 d_M_reign_225 (sh_56 T) (by omega) (fun g225 => ?_)
      rw [upF_n (by omega), upF_n (by omega), x3] at g225 ⊢
      refine v_iconst d_M_reign_226 ?_
      refine v_iadd d_M_reign_227 ?_
      refine v_iastoreE hA218 d_M_reign_228 (sh_56 T) (by omega) (by omega) (fun m228 f228 hA228 => ?_)
      refine v_aload0 d_M_reign_229 ?_
      refine v_getJ (ji := 11) d_M_reign_230 f_M_207 (sh_55 T) rfl rfl (fun g230 => ?_)
      rw [f228 55 (by decide), f218 55 (by decide), f196 55 (by decide), hσ 55 (by decide), hl] at g230 ⊢
      exact v_ireturn hM d_M_reign_233 (by omega) (hR _ (fun k hk => by rw [f228 k hk, f218 k hk, f196 k hk]; exact hσ k hk) (by have e9 : (j : Int) = 320 := (by omega); rw [hA228, reA, h3, e9]))
    · omega
  | succ n ih =>
    intro j i σ1 hj hi hσ hB
    have x3 : cpC X (1430 + 320 * A 3) D (j : Int) 3 = A 3 := by rw [cpC, if_neg (by omega)]; exact h3
    refine v_iload2 d_M_reign_140 ?_
    refine v_sipush d_M_reign_141 rfl ?_
    refine v_icmp_ge d_M_reign_144 (by omega) (by omega) (fun u144 => ?_) (fun u144 => ?_)
    · omega
    · refine v_aload0 d_M_reign_147 ?_
      refine v_getR d_M_reign_148 f_M_7 (sh_55 T) rfl ?_
      refine v_sipush d_M_reign_151 rfl ?_
      refine v_sipush d_M_reign_154 rfl ?_
      refine v_aload0 d_M_reign_157 ?_
      refine v_getR d_M_reign_158 f_M_7 (sh_55 T) rfl ?_
      refine v_iconst d_M_reign_161 ?_
      refine v_ialoadE hB d_M_reign_162 (sh_56 T) (by omega) (fun g162 => ?_)
      rw [x3] at g162 ⊢
      refine v_imul d_M_reign_163 ?_
      refine v_iadd d_M_reign_164 ?_
      refine v_iload2 d_M_reign_165 ?_
      refine v_iadd d_M_reign_166 ?_
      refine v_aload0 d_M_reign_167 ?_
      refine v_getR d_M_reign_168 f_M_20 (sh_55 T) rfl ?_
      refine v_iload2 d_M_reign_171 ?_
      refine v_iaload d_M_reign_172 (sh_59 T) (by omega) (fun g172 => ?_)
      rw [hσ 59 (by decide), hD] at g172 ⊢
      refine v_iastoreE hB d_M_reign_173 (sh_56 T) (by omega) (by omega) (fun m173 f173 hA173 => ?_)
      refine v_iinc2 d_M_reign_174 (by decide) rfl ?_
      refine v_goto d_M_reign_177 ?_
      exact ih (j + 1) _ _ (by omega) (by omega) (fun k hk => by rw [f173 k hk]; exact hσ k hk) (by rw [hA173, hi, cpC_s])

theorem c_M_reign_126 {T : vSh} {σ σ0 σ1 : vMem} {cx : vCx} (h00 : ∀ k, k ≠ 55 → σ0 k = σ k) {A C : Int → Int} {dd : Int} (hO : okA A) (hcan : canR A dd) (hM : vM cx 0 0 (some .int) (rP (S0 ++ T) (fun z σ2 => z = (wRe A C dd).2 ∧ FM σ σ2 ∧ σ2 56 = (wRe A C dd).1))) {L l p : Int} {fp : FP} {D : Int → Int} (hl : 0 ≤ l ∧ l ≤ 501) (hQ : PS σ0 σ1 (tbF A (A 7)) L (rzA A) l p fp D) (hT : rgR A C = (1, p, l, fp, D)) : vV cx y_M_reign.cls prog_14_method_59_code 3 8 0 0 0 0 126 [some (.ref 55), some (.int (iI dd)), none] [] (S0 ++ T) σ1 := by
  obtain ⟨⟨q0, q1, q2, q3, q4, q5, q6, q7⟩, hVi, hWe, hCo, hOf, hBo, hWo, hMo, hRe, hLi, hTa⟩ := id hO
  have r1 : (rgR A C).1 = 1 := by rw [hT]
  refine v_aload0 d_M_reign_126 ?_
  refine v_getR d_M_reign_127 f_M_7 (sh_55 T) rfl ?_
  refine v_bipush d_M_reign_130 rfl ?_
  refine v_ialoadE hQ.2.2.2.2.1 d_M_reign_132 (sh_56 T) (by omega) (fun g132 => ?_)
  rw [fpA_8] at g132 ⊢
  refine v_if_eq d_M_reign_133 (by omega) (fun u133 => ?_) (fun u133 => ?_)
  · refine v_iconst d_M_reign_138 ?_
    refine v_istore2 d_M_reign_139 (by decide) rfl ?_
    exact c_M_reign_140 (A := A) (X := fpA (rzA A) fp) (fpA_in fp (by omega)) (by omega) (by omega) hQ.2.2.2.2.2.1 hQ.2.2.1 hl hM (fun σ2 h8 h9 => ⟨rfl, by rw [wRe, if_pos hcan, if_pos r1, hT, if_pos u133], fun k hk => by rw [h8 k hk.2.1, hQ.2.2.2.2.2.2.1 k hk, h00 k hk.1], by rw [wRe, if_pos hcan, if_pos r1, hT, if_pos u133]; exact h9⟩) 320 0 _ _ (by omega) rfl (fun k _ => rfl) (by rw [show ((0 : Nat) : Int) = 0 from rfl, cpC_0]; exact hQ.2.2.2.2.1)
  · refine v_iconst d_M_reign_136 ?_
    exact v_ireturn hM d_M_reign_137 (by omega) ⟨rfl, by rw [wRe, if_pos hcan, if_pos r1, hT, if_neg u133], fun k hk => by rw [hQ.2.2.2.2.2.2.1 k hk, h00 k hk.1], by rw [wRe, if_pos hcan, if_pos r1, hT, if_neg u133]; exact hQ.2.2.2.2.1⟩

theorem c_M_reign_105 {T : vSh} {σ σ0 : vMem} {cx : vCx} (h00 : ∀ k, k ≠ 55 → σ0 k = σ k) {A C : Int → Int} {dd : Int} (hO : okA A) (hcan : canR A dd) (hM : vM cx 0 0 (some .int) (rP (S0 ++ T) (fun z σ2 => z = (wRe A C dd).2 ∧ FM σ σ2 ∧ σ2 56 = (wRe A C dd).1))) : ∀ (m : Nat) (p l : Int) (fp : FP) (D : Int → Int) (σ1 : vMem), 500 - p < (m : Int) → (0 ≤ p ∧ p ≤ 500) → (0 ≤ l ∧ l ≤ p) → rgR A C = rgF (tbF A (A 7)) m p l fp D → PS σ0 σ1 (tbF A (A 7)) (A 7) (rzA A) l p fp D → vV cx y_M_reign.cls prog_14_method_59_code 3 8 0 0 0 0 105 [some (.ref 55), some (.int (iI dd)), none] [] (S0 ++ T) σ1 := by
  intro m
  induction m with
  | zero => intro p l fp D σ1 hn hp; omega
  | succ m ih =>
    intro p l fp D σ1 hn hp hl hT hP
    obtain ⟨a1, a2, a3, ⟨a41, a42, a43⟩, a5, a6, a7, a8⟩ := id hP
    have htk := tkF_rng (tbF A (A 7)) p
    unfold TKr at a43
    refine v_aload0 d_M_reign_105 ?_
    refine v_getJ (ji := 10) d_M_reign_106 f_M_191 (sh_55 T) rfl rfl (fun g106 => ?_)
    rw [a2]
    refine v_if_ne d_M_reign_109 (by omega) (fun u109 => ?_) (fun u109 => ?_)
    · first
      | (omega)
      | (exact c_M_reign_126 h00 hO hcan hM (by omega) hP (by rw [hT, rgF, if_pos (by omega)]))
    · refine v_aload0 d_M_reign_112 ?_
      refine v_getJ (ji := 6) d_M_reign_113 f_M_167 (sh_55 T) rfl rfl (fun g113 => ?_)
      refine v_if_eq d_M_reign_116 (by omega) (fun u116 => ?_) (fun u116 => ?_)
      · first
        | (omega)
        | (exact c_M_reign_126 h00 hO hcan hM (by omega) hP (by rw [hT, rgF, if_pos (by omega)]))
      · refine v_aload0 d_M_reign_119 ?_
        refine v_gVV0 d_M_reign_120 l_M_226 k_M_aLine (c_M_aLineP hP hp (by omega)) (sh_55 T) rfl (by decide) (by decide) (Nat.le_of_ble_eq_true rfl) (Nat.zero_le _) (Nat.zero_le _) (fun z120 s120 e120 => ?_)
        refine v_goto d_M_reign_123 ?_
        have h4 := lnF_rng a1.2.1 (l := l) (fp := fp) (C := D) hp
        rcases e120 with ⟨y1, y2⟩ | ⟨y1, y2⟩
        · have h5 := h4.2.2 y1
          exact ih _ _ _ _ _ (by omega) (by omega) (by omega) (by rw [hT, rgF, if_neg (by omega), if_pos y1]) y2
        · refine v_aload0 d_M_reign_105 ?_
          refine v_getJ (ji := 10) d_M_reign_106 f_M_191 (sh_55 T) rfl rfl (fun g106 => ?_)
          rw [y2.1] at g106 ⊢
          refine v_if_ne d_M_reign_109 (by omega) (fun u109 => ?_) (fun u109 => by omega)
          exact c_M_reign_126W h00 hO hcan hM y2 (by rw [hT, rgF, if_neg (by omega), if_neg y1]; exact ⟨z1n, rfl⟩)

theorem fpA_0 (A : Int → Int) : upF (upF (upF A 7 0) 8 0) 9 (-1) = fpA (rzA A) (0, -1) := rfl
theorem PS_0 {σ σ1 σ2 : vMem} {A C : Int → Int} (hR : RC σ1 (tbF A (A 7)) (A 7)) (h10 : σ1 55 10 = 0) (h11 : σ1 55 11 = 0) (h56 : σ1 56 = fpA (rzA A) (0, -1)) (h59 : σ1 59 = C) (hL : FL σ σ1) (hF : F55 σ1 σ2) (hr : RrP (tbF A (A 7)) 0 (σ2 55)) : PS σ σ2 (tbF A (A 7)) (A 7) (rzA A) 0 0 (0, -1) C :=
  ⟨hF.rc hR, by rw [hF.2 10 (by omega)]; exact h10, by rw [hF.2 11 (by omega)]; exact h11, hr, by rw [hF.1 56 (by decide)]; exact h56, by rw [hF.1 59 (by decide)]; exact h59, fun k hk => by rw [hF.1 k hk.1]; exact hL.1 k hk, fun i hi => by rw [hF.2 i (by omega)]; exact hL.2 i hi⟩
theorem c_M_reign {T : vSh} {σ : vMem} {A : Int → Int} (hA : σ 56 = A) (hO : okA A) {dd : Int} (h0 : vIn dd) {C : Int → Int} (h59 : σ 59 = C) : mt_M_reign [.ref 55, .int (iI dd)] (S0 ++ T) σ (rP (S0 ++ T) (fun z σ2 => z = (wRe A C dd).2 ∧ FM σ σ2 ∧ σ2 56 = (wRe A C dd).1)) := by
  refine vMet.intro 1 (by decide +kernel) (Nat.le_of_ble_eq_true rfl) rfl (fun cx hM _ => ?_)
  obtain ⟨⟨q0, q1, q2, q3, q4, q5, q6, q7⟩, hVi, hWe, hCo, hOf, hBo, hWo, hMo, hRe, hLi, hTa⟩ := id hO
  have hR4 : 0 < A 3 → vIn (A (10 + 2 * A 3 - 2)) := fun h => by have := hRe (A 3 - 1) (by omega) (by omega); rw [show 10 + 2 * (A 3 - 1) = 10 + 2 * A 3 - 2 by omega] at this; omega
  refine v_aload0 d_M_reign_0 ?_
  refine v_aload0 d_M_reign_1 ?_
  refine v_getR d_M_reign_2 f_M_7 (sh_55 T) rfl ?_
  refine v_bipush d_M_reign_5 rfl ?_
  refine v_ialoadE hA d_M_reign_7 (sh_56 T) (by omega) (fun g7 => ?_)
  refine v_putJ (ji := 3) d_M_reign_8 p_M_131 (sh_55 T) rfl rfl (by omega) ?_
  refine v_aload0 d_M_reign_11 ?_
  refine v_getR d_M_reign_12 f_M_7 (sh_55 T) rfl ?_
  refine v_bipush d_M_reign_15 rfl ?_
  refine v_iconst d_M_reign_17 ?_
  refine v_iastoreE (show vUp σ 55 3 (A 7) 56 = A by rw [vUp_ne (by decide)]; exact hA) d_M_reign_18 (sh_56 T) (by omega) (by omega) (fun m18 f18 hA18 => ?_)
  refine v_aload0 d_M_reign_19 ?_
  refine v_iconst d_M_reign_20 ?_
  refine v_putJ (ji := 4) d_M_reign_21 p_M_157 (sh_55 T) rfl rfl (by omega) ?_
  refine v_aload0 d_M_reign_24 ?_
  refine v_getR d_M_reign_25 f_M_7 (sh_55 T) rfl ?_
  refine v_bipush d_M_reign_28 rfl ?_
  refine v_iconst d_M_reign_30 ?_
  refine v_iastoreE (show vUp m18 55 4 0 56 = upF A 7 0 by rw [vUp_ne (by decide)]; exact hA18) d_M_reign_31 (sh_56 T) (by omega) (by omega) (fun m31 f31 hA31 => ?_)
  refine v_aload0 d_M_reign_32 ?_
  refine v_getR d_M_reign_33 f_M_7 (sh_55 T) rfl ?_
  refine v_bipush d_M_reign_36 rfl ?_
  refine v_iconst d_M_reign_38 ?_
  refine v_iastoreE hA31 d_M_reign_39 (sh_56 T) (by omega) (by omega) (fun m39 f39 hA39 => ?_)
  refine v_aload0 d_M_reign_40 ?_
  refine v_getR d_M_reign_41 f_M_7 (sh_55 T) rfl ?_
  refine v_iconst d_M_reign_44 ?_
  refine v_ialoadE hA39 d_M_reign_45 (sh_56 T) (by omega) (fun g45 => ?_)
  rw [upF_n (by omega), upF_n (by omega), upF_n (by omega)] at g45 ⊢
  refine v_iconst d_M_reign_46 ?_
  refine v_icmp_eq d_M_reign_47 (by omega) (by omega) (fun u47 => ?_) (fun u47 => ?_)
  · refine v_bipush d_M_reign_88 rfl ?_
    exact v_ireturn hM d_M_reign_90 (by omega) ⟨rfl, by rw [wRe, if_neg (fun z => by have := z.1; have := z.2.1; have := z.2.2; omega)], fun k hk => by rw [f39 k hk.2.1, f31 k hk.2.1, vUp_ne hk.1, f18 k hk.2.1, vUp_ne hk.1], by rw [wRe, if_neg (fun z => by have := z.1; have := z.2.1; have := z.2.2; omega), hA39, fpA_0]⟩
  · refine v_iload1 d_M_reign_50 ?_
    refine v_fSZ1 d_M_reign_51 l_M_101 k_M_isDay (c_M_isDay (by omega)) (by decide) (by decide) (Nat.le_of_ble_eq_true rfl) (Nat.zero_le _) (Nat.zero_le _) (fun g51 => ?_)
    refine v_ifb_eq d_M_reign_54 (fun u54 => ?_) (fun u54 => ?_)
    · refine v_bipush d_M_reign_88 rfl ?_
      exact v_ireturn hM d_M_reign_90 (by omega) ⟨rfl, by rw [wRe, if_neg (fun z => by have := z.1; have := z.2.1; have := z.2.2; omega)], fun k hk => by rw [f39 k hk.2.1, f31 k hk.2.1, vUp_ne hk.1, f18 k hk.2.1, vUp_ne hk.1], by rw [wRe, if_neg (fun z => by have := z.1; have := z.2.1; have := z.2.2; omega), hA39, fpA_0]⟩
    · refine v_aload0 d_M_reign_57 ?_
      refine v_getR d_M_reign_58 f_M_7 (sh_55 T) rfl ?_
      refine v_iconst d_M_reign_61 ?_
      refine v_ialoadE hA39 d_M_reign_62 (sh_56 T) (by omega) (fun g62 => ?_)
      rw [upF_n (by omega), upF_n (by omega), upF_n (by omega)] at g62 ⊢
      refine v_if_le d_M_reign_63 (by omega) (fun u63 => ?_) (fun u63 => ?_)
      · refine v_aload0 d_M_reign_91 ?_
        refine v_iconst d_M_reign_92 ?_
        refine v_putZJ (ji := 10) d_M_reign_93 p_M_191 (sh_55 T) rfl rfl (Or.inl rfl) ?_
        refine v_aload0 d_M_reign_96 ?_
        refine v_iconst d_M_reign_97 ?_
        refine v_putJ (ji := 11) d_M_reign_98 p_M_207 (sh_55 T) rfl rfl (by omega) ?_
        refine v_aload0 d_M_reign_101 ?_
        have h56 : vUp (vUp m39 55 10 0) 55 11 0 56 = fpA (rzA A) (0, -1) := by rw [vUp_ne (by decide), vUp_ne (by decide), hA39, fpA_0]
        have hR9 : RC (vUp (vUp m39 55 10 0) 55 11 0) (tbF A (A 7)) (A 7) := ⟨by rw [vUp_ix (by omega), vUp_ix (by omega), f39 55 (by decide), f31 55 (by decide), vUp_ix (by omega), f18 55 (by decide), vUp_same], okB_tb hO, fun i i1 i2 => by rw [h56, fpA_in _ (by omega), tbF, if_pos i2]⟩
        refine v_gVV0 d_M_reign_102 l_M_195 k_M_advance (c_M_advance (p := 0) hR9 (by omega) (by rw [vUp_ix (by omega), vUp_ix (by omega), f39 55 (by decide), f31 55 (by decide), vUp_same])) (sh_55 T) rfl (by decide) (by decide) (Nat.le_of_ble_eq_true rfl) (Nat.zero_le _) (Nat.zero_le _) (fun z102 s102 e102 => ?_)
        exact c_M_reign_105 (σ0 := vUp σ 55 3 (A 7)) (fun k hk => vUp_ne hk) hO ⟨by omega, by omega, by omega⟩ hM 501 0 0 (0, -1) C _ (by omega) (by omega) (by omega) rfl (PS_0 hR9 (by rw [vUp_ix (by omega), vUp_same]) (by rw [vUp_same]) h56 (by rw [vUp_ne (by decide), vUp_ne (by decide), f39 59 (by decide), f31 59 (by decide), vUp_ne (by decide), f18 59 (by decide), vUp_ne (by decide)]; exact h59) ⟨fun k hk => by rw [vUp_ne hk.1, vUp_ne hk.1, f39 k hk.2.1, f31 k hk.2.1, vUp_ne hk.1, f18 k hk.2.1], fun i hi => by rw [vUp_ix (by omega), vUp_ix (by omega), f39 55 (by decide), f31 55 (by decide), vUp_ix (by omega), f18 55 (by decide)]⟩ e102.1 e102.2)
      · refine v_iload1 d_M_reign_66 ?_
        refine v_aload0 d_M_reign_67 ?_
        refine v_getR d_M_reign_68 f_M_7 (sh_55 T) rfl ?_
        refine v_bipush d_M_reign_71 rfl ?_
        refine v_iconst d_M_reign_73 ?_
        refine v_aload0 d_M_reign_74 ?_
        refine v_getR d_M_reign_75 f_M_7 (sh_55 T) rfl ?_
        refine v_iconst d_M_reign_78 ?_
        refine v_ialoadE hA39 d_M_reign_79 (sh_56 T) (by omega) (fun g79 => ?_)
        rw [upF_n (by omega), upF_n (by omega), upF_n (by omega)] at g79 ⊢
        refine v_imul d_M_reign_80 ?_
        refine v_iadd d_M_reign_81 ?_
        refine v_iconst d_M_reign_82 ?_
        refine v_isub d_M_reign_83 ?_
        refine v_ialoadE hA39 d_M_reign_84 (sh_56 T) (by omega) (fun g84 => ?_)
        rw [upF_n (by omega), upF_n (by omega), upF_n (by omega)] at g84 ⊢
        refine v_icmp_gt d_M_reign_85 (by omega) (by omega) (fun u85 => ?_) (fun u85 => ?_)
        · refine v_aload0 d_M_reign_91 ?_
          refine v_iconst d_M_reign_92 ?_
          refine v_putZJ (ji := 10) d_M_reign_93 p_M_191 (sh_55 T) rfl rfl (Or.inl rfl) ?_
          refine v_aload0 d_M_reign_96 ?_
          refine v_iconst d_M_reign_97 ?_
          refine v_putJ (ji := 11) d_M_reign_98 p_M_207 (sh_55 T) rfl rfl (by omega) ?_
          refine v_aload0 d_M_reign_101 ?_
          have h56 : vUp (vUp m39 55 10 0) 55 11 0 56 = fpA (rzA A) (0, -1) := by rw [vUp_ne (by decide), vUp_ne (by decide), hA39, fpA_0]
          have hR9 : RC (vUp (vUp m39 55 10 0) 55 11 0) (tbF A (A 7)) (A 7) := ⟨by rw [vUp_ix (by omega), vUp_ix (by omega), f39 55 (by decide), f31 55 (by decide), vUp_ix (by omega), f18 55 (by decide), vUp_same], okB_tb hO, fun i i1 i2 => by rw [h56, fpA_in _ (by omega), tbF, if_pos i2]⟩
          refine v_gVV0 d_M_reign_102 l_M_195 k_M_advance (c_M_advance (p := 0) hR9 (by omega) (by rw [vUp_ix (by omega), vUp_ix (by omega), f39 55 (by decide), f31 55 (by decide), vUp_same])) (sh_55 T) rfl (by decide) (by decide) (Nat.le_of_ble_eq_true rfl) (Nat.zero_le _) (Nat.zero_le _) (fun z102 s102 e102 => ?_)
          exact c_M_reign_105 (σ0 := vUp σ 55 3 (A 7)) (fun k hk => vUp_ne hk) hO ⟨by omega, by omega, by omega⟩ hM 501 0 0 (0, -1) C _ (by omega) (by omega) (by omega) rfl (PS_0 hR9 (by rw [vUp_ix (by omega), vUp_same]) (by rw [vUp_same]) h56 (by rw [vUp_ne (by decide), vUp_ne (by decide), f39 59 (by decide), f31 59 (by decide), vUp_ne (by decide), f18 59 (by decide), vUp_ne (by decide)]; exact h59) ⟨fun k hk => by rw [vUp_ne hk.1, vUp_ne hk.1, f39 k hk.2.1, f31 k hk.2.1, vUp_ne hk.1, f18 k hk.2.1], fun i hi => by rw [vUp_ix (by omega), vUp_ix (by omega), f39 55 (by decide), f31 55 (by decide), vUp_ix (by omega), f18 55 (by decide)]⟩ e102.1 e102.2)
        · refine v_bipush d_M_reign_88 rfl ?_
          exact v_ireturn hM d_M_reign_90 (by omega) ⟨rfl, by rw [wRe, if_neg (fun z => by have := z.1; have := z.2.1; have := z.2.2; omega)], fun k hk => by rw [f39 k hk.2.1, f31 k hk.2.1, vUp_ne hk.1, f18 k hk.2.1, vUp_ne hk.1], by rw [wRe, if_neg (fun z => by have := z.1; have := z.2.1; have := z.2.2; omega), hA39, fpA_0]⟩

