/-! ===== the tape ===== -/
theorem bi2b {x : Int} (hx : vIn x) : (iI x).toInt8.toInt32 = iI ((x + 128) % 256 - 128) := by
  apply Int32.toInt_inj.mp
  rw [Int8.toInt_toInt32, Int32.toInt_toInt8, iI_toInt hx, iI_toInt (by omega)]
  show x.bmod 256 = _
  rw [Int.bmod_def]
  split <;> omega
def pbA (A : Int → Int) (x : Int) : Int → Int := upF (upF A (2710 + A 7) x) 7 (A 7 + 1)
theorem div_in {x p : Int} (hx : vIn x) (hp : 0 < p) : vIn (x / p) := by
  rcases Int.le_total 0 x with h | h
  · have a1 := Int.ediv_nonneg h (Int.le_of_lt hp)
    have a2 := Int.ediv_le_self p h
    omega
  · have a1 : x ≤ x / p := by
      rw [Int.le_ediv_iff_mul_le hp]
      have := Int.mul_le_mul_of_nonpos_left (a := x) h (show (1 : Int) ≤ p by omega)
      omega
    have a2 : x / p ≤ 0 := Int.ediv_nonpos_of_nonpos_of_neg h hp
    omega
theorem pb_e (A : Int → Int) {x : Int} (i : Int) (h : i ≠ 7 ∧ i ≠ 2710 + A 7) : pbA A x i = A i := by
  simp only [pbA, upF]
  rw [if_neg (by omega), if_neg (by omega)]

theorem ok_pb {A : Int → Int} (hO : okA A) {x : Int} (hn : A 7 < 500) (hx : 0 ≤ x ∧ x ≤ 255) : okA (pbA A x) := by
  obtain ⟨⟨q0, q1, q2, q3, q4, q5, q6, q7⟩, hVi, hWe, hCo, hOf, hBo, hWo, hMo, hRe, hLi, hTa⟩ := id hO
  have b7 : pbA A x 7 = A 7 + 1 := upF_s _ _ _
  refine ⟨⟨by rw [pb_e A _ (by omega)]; exact q0, by rw [pb_e A _ (by omega)]; exact q1, by rw [pb_e A _ (by omega)]; exact q2, by rw [pb_e A _ (by omega)]; exact q3, by rw [pb_e A _ (by omega)]; exact q4, by rw [pb_e A _ (by omega)]; exact q5, by rw [pb_e A _ (by omega)]; exact q6, by rw [b7]; omega⟩, okVi_c (pb_e A (x := x) _ (by omega)) (fun i _ _ => pb_e A (x := x) i (by omega)) hVi q0.2, okWe_c (fun i _ _ => pb_e A (x := x) i (by omega)) hWe, okCo_c (pb_e A (x := x) _ (by omega)) (fun i _ _ => pb_e A (x := x) i (by omega)) hCo q0.2, okOf_c (pb_e A (x := x) _ (by omega)) (Int.le_of_eq (pb_e A (x := x) _ (by omega)).symm) (fun i _ _ => pb_e A (x := x) i (by omega)) hOf q1.2, okBo_c (Int.le_of_eq (pb_e A (x := x) _ (by omega)).symm) (Int.le_of_eq (pb_e A (x := x) _ (by omega)).symm) (pb_e A (x := x) _ (by omega)) (Int.le_of_eq (pb_e A (x := x) _ (by omega)).symm) (fun i _ _ => pb_e A (x := x) i (by omega)) hBo q2.2, okWo_c (Int.le_of_eq (pb_e A (x := x) _ (by omega)).symm) (pb_e A (x := x) _ (by omega)) (Int.le_of_eq (pb_e A (x := x) _ (by omega)).symm) (fun i _ _ => pb_e A (x := x) i (by omega)) hWo q6.2, okMo_c (Int.le_of_eq (pb_e A (x := x) _ (by omega)).symm) (Int.le_of_eq (pb_e A (x := x) _ (by omega)).symm) (pb_e A (x := x) _ (by omega)) (fun i _ _ => pb_e A (x := x) i (by omega)) hMo q5.2, okRe_c (pb_e A (x := x) _ (by omega)) (fun i _ _ => pb_e A (x := x) i (by omega)) hRe q3.2, okLi_c (pb_e A (x := x) _ (by omega)) (fun i _ _ => pb_e A (x := x) i (by omega)) (fun i _ _ => pb_e A (x := x) i (by omega)) hLi hRe q3.2, ?_⟩
  · intro i i1 i2
    rw [b7] at i2
    by_cases q : i = A 7
    · rw [q, show pbA A x (2710 + A 7) = x by rw [pbA, upF_n (by omega), upF_s]]
      exact hx
    · rw [pb_e A (2710 + i) (by omega)]
      exact hTa i i1 (by omega)
theorem CR_pb {σ σ' : vMem} {A : Int → Int} (hC : CR σ A) (hO : okA A) {x : Int} {y : Int} (hn : A 7 < 500) (hx : 0 ≤ x ∧ x ≤ 255) (hr : -128 ≤ y ∧ y ≤ 127) (hy : (y < 0 → x = y + 256) ∧ (0 ≤ y → x = y)) (f : ∀ k : Nat, k ≠ 30 ∧ k ≠ 31 → σ' k = σ k) (h1 : σ' 30 1 = A 7 + 1) (h2 : σ' 30 2 = σ 30 2) (h3 : σ' 30 3 = σ 30 3) (h31 : σ' 31 = upF (σ 31) (A 7) y) : CR σ' (pbA A x) := by
  obtain ⟨⟨q0, q1, q2, q3, q4, q5, q6, q7⟩, hVi, hWe, hCo, hOf, hBo, hWo, hMo, hRe, hLi, hTa⟩ := id hO
  obtain ⟨cL, cB, cW, cT, cN, cM⟩ := id hC
  refine ⟨by rw [f 2 (by omega), f 3 (by omega), f 4 (by omega), f 5 (by omega), f 6 (by omega), f 7 (by omega), f 8 (by omega), f 9 (by omega)]; exact LandR_c (pb_e A _ (by omega)) (pb_e A _ (by omega)) (fun i _ _ => pb_e A i (by omega)) q0.2 cL, by rw [f 10 (by omega), f 11 (by omega), f 12 (by omega), f 13 (by omega), f 14 (by omega), f 15 (by omega), f 16 (by omega), f 17 (by omega), f 18 (by omega), f 19 (by omega)]; exact BookR_c (pb_e A _ (by omega)) (pb_e A _ (by omega)) (fun i _ _ => pb_e A i (by omega)) (fun i _ _ => pb_e A i (by omega)) ⟨q1.2, q2.2⟩ cB, by rw [f 20 (by omega), f 21 (by omega), f 22 (by omega), f 23 (by omega), f 24 (by omega), f 25 (by omega), f 26 (by omega), f 27 (by omega), f 28 (by omega), f 29 (by omega)]; exact LawsR_c (pb_e A _ (by omega)) (fun i _ _ => pb_e A i (by omega)) (fun i _ _ => pb_e A i (by omega)) q3.2 hRe hLi cW, ?_, by rw [f 32 (by omega), f 33 (by omega), f 34 (by omega), f 35 (by omega), f 36 (by omega), f 37 (by omega)]; exact NewsR_c (pb_e A _ (by omega)) (fun i _ _ => pb_e A i (by omega)) q6.2 cN, by rw [f 38 (by omega), f 39 (by omega), f 40 (by omega)]; exact MovesR_c (pb_e A _ (by omega)) (fun i _ _ => pb_e A i (by omega)) q5.2 cM⟩
  obtain ⟨t0, t1, t2, tR, tB⟩ := cT
  have b7 : pbA A x 7 = A 7 + 1 := upF_s _ _ _
  refine ⟨by rw [b7]; exact h1, by rw [pb_e A _ (by omega), h2]; exact t1, by rw [pb_e A _ (by omega), h3]; exact t2, fun i i1 i2 => ?_, fun i i1 i2 => ?_⟩
  · rw [h31]
    by_cases q : i = A 7
    · rw [q, upF_s]; omega
    · rw [upF_n q]; exact tR i i1 i2
  · rw [b7] at i2
    rw [h31]
    by_cases q : i = A 7
    · rw [q, upF_s, show pbA A x (2710 + A 7) = x by rw [pbA, upF_n (by omega), upF_s]]; exact hy
    · rw [upF_n q, pb_e A (2710 + i) (by omega)]; exact tB i i1 (by omega)
def fdA (A : Int → Int) (f : Int → Int) : Nat → Int → Int
  | 0 => A
  | j + 1 => pbA (fdA A f j) (f (j : Int))
theorem fdA_7 (A f : Int → Int) : ∀ j : Nat, fdA A f j 7 = A 7 + j
  | 0 => by rw [fdA]; omega
  | j + 1 => by
    have h := fdA_7 A f j
    rw [fdA, pbA, upF_s]
    omega
theorem fdA_off (A f : Int → Int) (h7 : 0 ≤ A 7) {i : Int} : ∀ j : Nat, i ≠ 7 ∧ (i < 2710 ∨ 2710 + A 7 + j ≤ i) → fdA A f j i = A i
  | 0, _ => rfl
  | j + 1, h => by
    have h9 := fdA_7 A f j
    rw [fdA, pb_e _ i (by omega)]
    exact fdA_off A f h7 j (by omega)
theorem ok_fdA {A : Int → Int} (hO : okA A) {f : Int → Int} (hf : ∀ i, 0 ≤ f i ∧ f i ≤ 255) : ∀ j : Nat, A 7 + j ≤ 500 → okA (fdA A f j)
  | 0, _ => hO
  | j + 1, h => by
    have h9 := fdA_7 A f j
    exact ok_pb (ok_fdA hO hf j (by omega)) (by omega) (hf _)
def fW (a b c d e j : Int) : Int := if j < 4 then a else if j < 8 then b else if j < 12 then c else if j < 16 then d else e
def fB (a b c d e j : Int) : Int := fW a b c d e j / pw (24 - 8 * (j % 4)) % 256
theorem fB_rng (a b c d e j : Int) : 0 ≤ fB a b c d e j ∧ fB a b c d e j ≤ 255 := by
  unfold fB
  omega
def wFe (A : Int → Int) (a b c d e : Int) : WrT := if A 7 + 20 ≤ 500 then (fdA A (fB a b c d e) 20, A 7 + 20) else (A, -1)
def pnA (A : Int → Int) (n : Int) : Nat → Int → Int
  | 0 => A
  | j + 1 => pbA (pnA A n j) (n / pw (24 - 8 * (j : Int)) % 256)
theorem pnA_7 (A : Int → Int) (n : Int) : ∀ j : Nat, pnA A n j 7 = A 7 + j
  | 0 => by rw [pnA]; omega
  | j + 1 => by
    have h := pnA_7 A n j
    rw [pnA, pbA, upF_s]
    omega
theorem ok_pnA {A : Int → Int} (hO : okA A) {n : Int} : ∀ j : Nat, A 7 + j ≤ 500 → okA (pnA A n j)
  | 0, _ => hO
  | j + 1, h => by
    have h9 := pnA_7 A n j
    exact ok_pb (ok_pnA hO j (by omega)) (by omega) (by omega)
theorem fdA_4 (A f : Int → Int) (n : Int) (k : Nat) (h0 : f (k : Int) = n / pw 24 % 256) (h1 : f ((k : Int) + 1) = n / pw 16 % 256) (h2 : f ((k : Int) + 2) = n / pw 8 % 256) (h3 : f ((k : Int) + 3) = n / pw 0 % 256) : fdA A f (k + 4) = pnA (fdA A f k) n 4 := by
  show pbA (pbA (pbA (pbA (fdA A f k) (f (k : Int))) (f ((k + 1 : Nat) : Int))) (f ((k + 2 : Nat) : Int))) (f ((k + 3 : Nat) : Int)) = _
  rw [show ((k + 1 : Nat) : Int) = (k : Int) + 1 by omega, show ((k + 2 : Nat) : Int) = (k : Int) + 2 by omega, show ((k + 3 : Nat) : Int) = (k : Int) + 3 by omega, h0, h1, h2, h3]
  rfl
theorem fdA_20 (A : Int → Int) (a b c d e : Int) : fdA A (fB a b c d e) 20 = pnA (pnA (pnA (pnA (pnA A a 4) b 4) c 4) d 4) e 4 := by
  rw [fdA_4 A (fB a b c d e) e 16 rfl rfl rfl rfl, fdA_4 A (fB a b c d e) d 12 rfl rfl rfl rfl, fdA_4 A (fB a b c d e) c 8 rfl rfl rfl rfl, fdA_4 A (fB a b c d e) b 4 rfl rfl rfl rfl, fdA_4 A (fB a b c d e) a 0 rfl rfl rfl rfl]
  rfl

theorem c_M_feed_21 {T : vSh} {σ : vMem} {cx : vCx} {A : Int → Int} (hA : σ 56 = A) (hO : okA A) {a b c d e : Int} (h0 : vIn a) (h1 : vIn b) (h2 : vIn c) (h3 : vIn d) (h4 : vIn e) (h7 : A 7 + 20 ≤ 500) (hM : vM cx 0 0 (some .int) (rP (S0 ++ T) (fun z σ2 => z = (wFe A a b c d e).2 ∧ (∀ k, k ≠ 56 → σ2 k = σ k) ∧ σ2 56 = (wFe A a b c d e).1))) : ∀ (n j : Nat) (i : Int) (σ1 : vMem), (j : Int) + n = 20 → i = j → (∀ k, k ≠ 56 → σ1 k = σ k) → σ1 56 = fdA A (fB a b c d e) j → vV cx y_M_feed.cls prog_14_method_39_code 8 0 0 0 0 0 21 [some (.ref 55), some (.int (iI a)), some (.int (iI b)), some (.int (iI c)), some (.int (iI d)), some (.int (iI e)), some (.int (iI i)), none] [] (S0 ++ T) σ1 := by
  intro n
  induction n with
  | zero =>
    intro j i σ1 hj hi hσ hB
    obtain ⟨⟨q0, q1, q2, q3, q4, q5, q6, q7⟩, hVi, hWe, hCo, hOf, hBo, hWo, hMo, hRe, hLi, hTa⟩ := id hO
    have d7 := fdA_7 A (fB a b c d e) j
    refine v_iload6 d_M_feed_21 ?_
    refine v_bipush d_M_feed_23 rfl ?_
    refine v_icmp_ge d_M_feed_25 (by omega) (by omega) (fun u25 => ?_) (fun u25 => ?_)
    · refine v_aload0 d_M_feed_126 ?_
      refine v_getR d_M_feed_127 f_M_7 (sh_55 T) rfl ?_
      refine v_bipush d_M_feed_130 rfl ?_
      refine v_ialoadE hB d_M_feed_132 (sh_56 T) (by omega) (fun g132 => ?_)
      exact v_ireturn hM d_M_feed_133 (by omega) ⟨rfl, by rw [wFe, if_pos h7]; dsimp only; omega, hσ, by rw [wFe, if_pos h7, hB, show j = 20 by omega]⟩
    · omega
  | succ n ih =>
    intro j i σ1 hj hi hσ hB
    obtain ⟨⟨q0, q1, q2, q3, q4, q5, q6, q7⟩, hVi, hWe, hCo, hOf, hBo, hWo, hMo, hRe, hLi, hTa⟩ := id hO
    have d7 := fdA_7 A (fB a b c d e) j
    refine v_iload6 d_M_feed_21 ?_
    refine v_bipush d_M_feed_23 rfl ?_
    refine v_icmp_ge d_M_feed_25 (by omega) (by omega) (fun u25 => ?_) (fun u25 => ?_)
    · omega
    · refine v_iload6 d_M_feed_28 ?_
      refine v_iconst d_M_feed_30 ?_
      refine v_icmp_ge d_M_feed_31 (by omega) (by omega) (fun u31 => ?_) (fun u31 => ?_)
      · refine v_iload6 d_M_feed_38 ?_
        refine v_bipush d_M_feed_40 rfl ?_
        refine v_icmp_ge d_M_feed_42 (by omega) (by omega) (fun u42 => ?_) (fun u42 => ?_)
        · refine v_iload6 d_M_feed_49 ?_
          refine v_bipush d_M_feed_51 rfl ?_
          refine v_icmp_ge d_M_feed_53 (by omega) (by omega) (fun u53 => ?_) (fun u53 => ?_)
          · refine v_iload6 d_M_feed_60 ?_
            refine v_bipush d_M_feed_62 rfl ?_
            refine v_icmp_ge d_M_feed_64 (by omega) (by omega) (fun u64 => ?_) (fun u64 => ?_)
            · refine v_iload5 d_M_feed_72 ?_
              refine v_istore7 d_M_feed_74 (by decide) rfl ?_
              refine v_aload0 d_M_feed_76 ?_
              refine v_getR d_M_feed_77 f_M_7 (sh_55 T) rfl ?_
              refine v_sipush d_M_feed_80 rfl ?_
              refine v_aload0 d_M_feed_83 ?_
              refine v_getR d_M_feed_84 f_M_7 (sh_55 T) rfl ?_
              refine v_bipush d_M_feed_87 rfl ?_
              refine v_ialoadE hB d_M_feed_89 (sh_56 T) (by omega) (fun g89 => ?_)
              refine v_iadd d_M_feed_90 ?_
              refine v_iload7 d_M_feed_91 ?_
              refine v_bipush d_M_feed_93 rfl ?_
              refine v_bipush d_M_feed_95 rfl ?_
              refine v_iload6 d_M_feed_97 ?_
              refine v_iconst d_M_feed_99 ?_
              refine v_iremN d_M_feed_100 (by omega) (by omega) ?_
              refine v_imul d_M_feed_101 ?_
              refine v_isub d_M_feed_102 ?_
              refine v_ishr d_M_feed_103 (bshr (by omega) (by omega)) ?_
              refine v_sipush d_M_feed_104 rfl ?_
              refine v_iand d_M_feed_107 (band255 _) ?_
              refine v_iastoreE hB d_M_feed_108 (sh_56 T) (by omega) (by omega) (fun m108 f108 hA108 => ?_)
              refine v_aload0 d_M_feed_109 ?_
              refine v_getR d_M_feed_110 f_M_7 (sh_55 T) rfl ?_
              refine v_bipush d_M_feed_113 rfl ?_
              refine v_dup2 d_M_feed_115 rfl rfl ?_
              refine v_ialoadE hA108 d_M_feed_116 (sh_56 T) (by omega) (fun g116 => ?_)
              rw [upF_n (by omega)] at g116
              rw [upF_n (by omega)]
              refine v_iconst d_M_feed_117 ?_
              refine v_iadd d_M_feed_118 ?_
              refine v_iastoreE hA108 d_M_feed_119 (sh_56 T) (by omega) (by omega) (fun m119 f119 hA119 => ?_)
              refine v_iinc6 d_M_feed_120 (by decide) rfl ?_
              refine v_goto d_M_feed_123 ?_
              refine v_drop7 ?_
              exact ih (j + 1) _ _ (by omega) (by omega) (fun k hk => by rw [f119 k hk, f108 k hk]; exact hσ k hk) (by rw [hA119, fdA, pbA, ← hi, fB, show fW a b c d e i = e by simp only [fW]; rw [if_neg (by omega), if_neg (by omega), if_neg (by omega), if_neg (by omega)]])
            · refine v_iload4 d_M_feed_67 ?_
              refine v_goto d_M_feed_69 ?_
              refine v_istore7 d_M_feed_74 (by decide) rfl ?_
              refine v_aload0 d_M_feed_76 ?_
              refine v_getR d_M_feed_77 f_M_7 (sh_55 T) rfl ?_
              refine v_sipush d_M_feed_80 rfl ?_
              refine v_aload0 d_M_feed_83 ?_
              refine v_getR d_M_feed_84 f_M_7 (sh_55 T) rfl ?_
              refine v_bipush d_M_feed_87 rfl ?_
              refine v_ialoadE hB d_M_feed_89 (sh_56 T) (by omega) (fun g89 => ?_)
              refine v_iadd d_M_feed_90 ?_
              refine v_iload7 d_M_feed_91 ?_
              refine v_bipush d_M_feed_93 rfl ?_
              refine v_bipush d_M_feed_95 rfl ?_
              refine v_iload6 d_M_feed_97 ?_
              refine v_iconst d_M_feed_99 ?_
              refine v_iremN d_M_feed_100 (by omega) (by omega) ?_
              refine v_imul d_M_feed_101 ?_
              refine v_isub d_M_feed_102 ?_
              refine v_ishr d_M_feed_103 (bshr (by omega) (by omega)) ?_
              refine v_sipush d_M_feed_104 rfl ?_
              refine v_iand d_M_feed_107 (band255 _) ?_
              refine v_iastoreE hB d_M_feed_108 (sh_56 T) (by omega) (by omega) (fun m108 f108 hA108 => ?_)
              refine v_aload0 d_M_feed_109 ?_
              refine v_getR d_M_feed_110 f_M_7 (sh_55 T) rfl ?_
              refine v_bipush d_M_feed_113 rfl ?_
              refine v_dup2 d_M_feed_115 rfl rfl ?_
              refine v_ialoadE hA108 d_M_feed_116 (sh_56 T) (by omega) (fun g116 => ?_)
              rw [upF_n (by omega)] at g116
              rw [upF_n (by omega)]
              refine v_iconst d_M_feed_117 ?_
              refine v_iadd d_M_feed_118 ?_
              refine v_iastoreE hA108 d_M_feed_119 (sh_56 T) (by omega) (by omega) (fun m119 f119 hA119 => ?_)
              refine v_iinc6 d_M_feed_120 (by decide) rfl ?_
              refine v_goto d_M_feed_123 ?_
              refine v_drop7 ?_
              exact ih (j + 1) _ _ (by omega) (by omega) (fun k hk => by rw [f119 k hk, f108 k hk]; exact hσ k hk) (by rw [hA119, fdA, pbA, ← hi, fB, show fW a b c d e i = d by simp only [fW]; rw [if_neg (by omega), if_neg (by omega), if_neg (by omega), if_pos (by omega)]])
          · refine v_iload3 d_M_feed_56 ?_
            refine v_goto d_M_feed_57 ?_
            refine v_istore7 d_M_feed_74 (by decide) rfl ?_
            refine v_aload0 d_M_feed_76 ?_
            refine v_getR d_M_feed_77 f_M_7 (sh_55 T) rfl ?_
            refine v_sipush d_M_feed_80 rfl ?_
            refine v_aload0 d_M_feed_83 ?_
            refine v_getR d_M_feed_84 f_M_7 (sh_55 T) rfl ?_
            refine v_bipush d_M_feed_87 rfl ?_
            refine v_ialoadE hB d_M_feed_89 (sh_56 T) (by omega) (fun g89 => ?_)
            refine v_iadd d_M_feed_90 ?_
            refine v_iload7 d_M_feed_91 ?_
            refine v_bipush d_M_feed_93 rfl ?_
            refine v_bipush d_M_feed_95 rfl ?_
            refine v_iload6 d_M_feed_97 ?_
            refine v_iconst d_M_feed_99 ?_
            refine v_iremN d_M_feed_100 (by omega) (by omega) ?_
            refine v_imul d_M_feed_101 ?_
            refine v_isub d_M_feed_102 ?_
            refine v_ishr d_M_feed_103 (bshr (by omega) (by omega)) ?_
            refine v_sipush d_M_feed_104 rfl ?_
            refine v_iand d_M_feed_107 (band255 _) ?_
            refine v_iastoreE hB d_M_feed_108 (sh_56 T) (by omega) (by omega) (fun m108 f108 hA108 => ?_)
            refine v_aload0 d_M_feed_109 ?_
            refine v_getR d_M_feed_110 f_M_7 (sh_55 T) rfl ?_
            refine v_bipush d_M_feed_113 rfl ?_
            refine v_dup2 d_M_feed_115 rfl rfl ?_
            refine v_ialoadE hA108 d_M_feed_116 (sh_56 T) (by omega) (fun g116 => ?_)
            rw [upF_n (by omega)] at g116
            rw [upF_n (by omega)]
            refine v_iconst d_M_feed_117 ?_
            refine v_iadd d_M_feed_118 ?_
            refine v_iastoreE hA108 d_M_feed_119 (sh_56 T) (by omega) (by omega) (fun m119 f119 hA119 => ?_)
            refine v_iinc6 d_M_feed_120 (by decide) rfl ?_
            refine v_goto d_M_feed_123 ?_
            refine v_drop7 ?_
            exact ih (j + 1) _ _ (by omega) (by omega) (fun k hk => by rw [f119 k hk, f108 k hk]; exact hσ k hk) (by rw [hA119, fdA, pbA, ← hi, fB, show fW a b c d e i = c by simp only [fW]; rw [if_neg (by omega), if_neg (by omega), if_pos (by omega)]])
        · refine v_iload2 d_M_feed_45 ?_
          refine v_goto d_M_feed_46 ?_
          refine v_istore7 d_M_feed_74 (by decide) rfl ?_
          refine v_aload0 d_M_feed_76 ?_
          refine v_getR d_M_feed_77 f_M_7 (sh_55 T) rfl ?_
          refine v_sipush d_M_feed_80 rfl ?_
          refine v_aload0 d_M_feed_83 ?_
          refine v_getR d_M_feed_84 f_M_7 (sh_55 T) rfl ?_
          refine v_bipush d_M_feed_87 rfl ?_
          refine v_ialoadE hB d_M_feed_89 (sh_56 T) (by omega) (fun g89 => ?_)
          refine v_iadd d_M_feed_90 ?_
          refine v_iload7 d_M_feed_91 ?_
          refine v_bipush d_M_feed_93 rfl ?_
          refine v_bipush d_M_feed_95 rfl ?_
          refine v_iload6 d_M_feed_97 ?_
          refine v_iconst d_M_feed_99 ?_
          refine v_iremN d_M_feed_100 (by omega) (by omega) ?_
          refine v_imul d_M_feed_101 ?_
          refine v_isub d_M_feed_102 ?_
          refine v_ishr d_M_feed_103 (bshr (by omega) (by omega)) ?_
          refine v_sipush d_M_feed_104 rfl ?_
          refine v_iand d_M_feed_107 (band255 _) ?_
          refine v_iastoreE hB d_M_feed_108 (sh_56 T) (by omega) (by omega) (fun m108 f108 hA108 => ?_)
          refine v_aload0 d_M_feed_109 ?_
          refine v_getR d_M_feed_110 f_M_7 (sh_55 T) rfl ?_
          refine v_bipush d_M_feed_113 rfl ?_
          refine v_dup2 d_M_feed_115 rfl rfl ?_
          refine v_ialoadE hA108 d_M_feed_116 (sh_56 T) (by omega) (fun g116 => ?_)
          rw [upF_n (by omega)] at g116
          rw [upF_n (by omega)]
          refine v_iconst d_M_feed_117 ?_
          refine v_iadd d_M_feed_118 ?_
          refine v_iastoreE hA108 d_M_feed_119 (sh_56 T) (by omega) (by omega) (fun m119 f119 hA119 => ?_)
          refine v_iinc6 d_M_feed_120 (by decide) rfl ?_
          refine v_goto d_M_feed_123 ?_
          refine v_drop7 ?_
          exact ih (j + 1) _ _ (by omega) (by omega) (fun k hk => by rw [f119 k hk, f108 k hk]; exact hσ k hk) (by rw [hA119, fdA, pbA, ← hi, fB, show fW a b c d e i = b by simp only [fW]; rw [if_neg (by omega), if_pos (by omega)]])
      · refine v_iload1 d_M_feed_34 ?_
        refine v_goto d_M_feed_35 ?_
        refine v_istore7 d_M_feed_74 (by decide) rfl ?_
        refine v_aload0 d_M_feed_76 ?_
        refine v_getR d_M_feed_77 f_M_7 (sh_55 T) rfl ?_
        refine v_sipush d_M_feed_80 rfl ?_
        refine v_aload0 d_M_feed_83 ?_
        refine v_getR d_M_feed_84 f_M_7 (sh_55 T) rfl ?_
        refine v_bipush d_M_feed_87 rfl ?_
        refine v_ialoadE hB d_M_feed_89 (sh_56 T) (by omega) (fun g89 => ?_)
        refine v_iadd d_M_feed_90 ?_
        refine v_iload7 d_M_feed_91 ?_
        refine v_bipush d_M_feed_93 rfl ?_
        refine v_bipush d_M_feed_95 rfl ?_
        refine v_iload6 d_M_feed_97 ?_
        refine v_iconst d_M_feed_99 ?_
        refine v_iremN d_M_feed_100 (by omega) (by omega) ?_
        refine v_imul d_M_feed_101 ?_
        refine v_isub d_M_feed_102 ?_
        refine v_ishr d_M_feed_103 (bshr (by omega) (by omega)) ?_
        refine v_sipush d_M_feed_104 rfl ?_
        refine v_iand d_M_feed_107 (band255 _) ?_
        refine v_iastoreE hB d_M_feed_108 (sh_56 T) (by omega) (by omega) (fun m108 f108 hA108 => ?_)
        refine v_aload0 d_M_feed_109 ?_
        refine v_getR d_M_feed_110 f_M_7 (sh_55 T) rfl ?_
        refine v_bipush d_M_feed_113 rfl ?_
        refine v_dup2 d_M_feed_115 rfl rfl ?_
        refine v_ialoadE hA108 d_M_feed_116 (sh_56 T) (by omega) (fun g116 => ?_)
        rw [upF_n (by omega)] at g116
        rw [upF_n (by omega)]
        refine v_iconst d_M_feed_117 ?_
        refine v_iadd d_M_feed_118 ?_
        refine v_iastoreE hA108 d_M_feed_119 (sh_56 T) (by omega) (by omega) (fun m119 f119 hA119 => ?_)
        refine v_iinc6 d_M_feed_120 (by decide) rfl ?_
        refine v_goto d_M_feed_123 ?_
        refine v_drop7 ?_
        exact ih (j + 1) _ _ (by omega) (by omega) (fun k hk => by rw [f119 k hk, f108 k hk]; exact hσ k hk) (by rw [hA119, fdA, pbA, ← hi, fB, show fW a b c d e i = a by simp only [fW]; rw [if_pos (by omega)]])

theorem c_M_feed {T : vSh} {σ : vMem} {A : Int → Int} (hA : σ 56 = A) (hO : okA A) {a b c d e : Int} (h0 : vIn a) (h1 : vIn b) (h2 : vIn c) (h3 : vIn d) (h4 : vIn e) : mt_M_feed [.ref 55, .int (iI a), .int (iI b), .int (iI c), .int (iI d), .int (iI e)] (S0 ++ T) σ (rP (S0 ++ T) (fun z σ2 => z = (wFe A a b c d e).2 ∧ (∀ k, k ≠ 56 → σ2 k = σ k) ∧ σ2 56 = (wFe A a b c d e).1)) := by
  refine vMet.intro 2 (by decide +kernel) (Nat.le_of_ble_eq_true rfl) rfl (fun cx hM _ => ?_)
  obtain ⟨⟨q0, q1, q2, q3, q4, q5, q6, q7⟩, hVi, hWe, hCo, hOf, hBo, hWo, hMo, hRe, hLi, hTa⟩ := id hO
  refine v_aload0 d_M_feed_0 ?_
  refine v_getR d_M_feed_1 f_M_7 (sh_55 T) rfl ?_
  refine v_bipush d_M_feed_4 rfl ?_
  refine v_ialoadE hA d_M_feed_6 (sh_56 T) (by omega) (fun g6 => ?_)
  refine v_bipush d_M_feed_7 rfl ?_
  refine v_iadd d_M_feed_9 ?_
  refine v_sipush d_M_feed_10 rfl ?_
  refine v_icmp_le d_M_feed_13 (by omega) (by omega) (fun u13 => ?_) (fun u13 => ?_)
  · refine v_iconst d_M_feed_18 ?_
    refine v_istore6 d_M_feed_19 (by decide) rfl ?_
    exact c_M_feed_21 hA hO h0 h1 h2 h3 h4 (by omega) hM 20 0 _ _ (by omega) rfl (fun k _ => rfl) hA
  · refine v_iconst d_M_feed_16 ?_
    exact v_ireturn hM d_M_feed_17 (by omega) ⟨rfl, by rw [wFe, if_neg (by omega)], fun k _ => rfl, by rw [wFe, if_neg (by omega)]; exact hA⟩

theorem c_Ta_putNumber_3 {T : vSh} {σ : vMem} {cx : vCx} {A : Int → Int} (hC : CR σ A) (hO : okA A) {nn : Int} (h0 : vIn nn) (h7 : A 7 + 4 ≤ 500) (hM : vM cx 0 0 none (rP (S0 ++ T) (fun _ σ2 => CW σ σ2 ∧ CR σ2 (pnA A nn 4)))) : ∀ (n j : Nat) (s : Int) (σ1 : vMem), (j : Int) + n = 4 → s = 24 - 8 * (j : Int) → CW σ σ1 → CR σ1 (pnA A nn j) → vV cx y_Ta_putNumber.cls prog_12_method_2_code 3 0 0 0 0 0 3 [some (.ref 30), some (.int (iI nn)), some (.int (iI s))] [] (S0 ++ T) σ1 := by
  intro n
  induction n with
  | zero =>
    intro j s σ1 hj hi hσ hC1
    obtain ⟨⟨q0, q1, q2, q3, q4, q5, q6, q7⟩, hVi, hWe, hCo, hOf, hBo, hWo, hMo, hRe, hLi, hTa⟩ := id hO
    have d7 := pnA_7 A nn j
    have oE := ok_pnA hO (n := nn) j (by omega)
    obtain ⟨⟨l0, l1, lV, lC, lZ, lS⟩, ⟨b0, b1, bO, bB⟩, ⟨w0, wR, wL⟩, ⟨t0, t1, t2, tR, tB⟩, ⟨n9, nW⟩, m0, mM⟩ := id hC1
    refine v_iload2 d_Ta_putNumber_3 ?_
    refine v_if_lt d_Ta_putNumber_4 (by omega) (fun u4 => ?_) (fun u4 => ?_)
    · exact v_return hM d_Ta_putNumber_46 ⟨rfl, hσ, by rw [show (4 : Nat) = j by omega]; exact hC1⟩
    · omega
  | succ n ih =>
    intro j s σ1 hj hi hσ hC1
    obtain ⟨⟨q0, q1, q2, q3, q4, q5, q6, q7⟩, hVi, hWe, hCo, hOf, hBo, hWo, hMo, hRe, hLi, hTa⟩ := id hO
    have d7 := pnA_7 A nn j
    have oE := ok_pnA hO (n := nn) j (by omega)
    obtain ⟨⟨l0, l1, lV, lC, lZ, lS⟩, ⟨b0, b1, bO, bB⟩, ⟨w0, wR, wL⟩, ⟨t0, t1, t2, tR, tB⟩, ⟨n9, nW⟩, m0, mM⟩ := id hC1
    refine v_iload2 d_Ta_putNumber_3 ?_
    refine v_if_lt d_Ta_putNumber_4 (by omega) (fun u4 => ?_) (fun u4 => ?_)
    · omega
    · refine v_aload0 d_Ta_putNumber_7 ?_
      refine v_getJ (ji := 1) d_Ta_putNumber_8 f_Ta_19 (sh_30 T) rfl rfl (fun g8 => ?_)
      refine v_sipush d_Ta_putNumber_11 rfl ?_
      refine v_icmp_ge d_Ta_putNumber_14 (by omega) (by omega) (fun u14 => ?_) (fun u14 => ?_)
      · omega
      · refine v_aload0 d_Ta_putNumber_17 ?_
        refine v_getR d_Ta_putNumber_18 f_Ta_9 (sh_30 T) rfl ?_
        refine v_aload0 d_Ta_putNumber_21 ?_
        refine v_getJ (ji := 1) d_Ta_putNumber_22 f_Ta_19 (sh_30 T) rfl rfl (fun g22 => ?_)
        refine v_iload1 d_Ta_putNumber_25 ?_
        refine v_iload2 d_Ta_putNumber_26 ?_
        refine v_ishr d_Ta_putNumber_27 (bshr (by omega) (by omega)) ?_
        have hq : vIn (nn / pw s) := div_in h0 (pw_pos s)
        refine v_i2b d_Ta_putNumber_28 (bi2b (by omega)) ?_
        refine v_bastore d_Ta_putNumber_29 (sh_31 T) (by omega) (by omega) ?_
        refine v_aload0 d_Ta_putNumber_30 ?_
        refine v_dup d_Ta_putNumber_31 rfl ?_
        refine v_getJ (ji := 1) d_Ta_putNumber_32 f_Ta_19 (sh_30 T) rfl rfl (fun g32 => ?_)
        refine v_iconst d_Ta_putNumber_35 ?_
        refine v_iadd d_Ta_putNumber_36 ?_
        refine v_putJ (ji := 1) d_Ta_putNumber_37 p_Ta_19 (sh_30 T) rfl rfl (by rw [vUp_ne (by decide)]; omega) ?_
        refine v_iinc2 d_Ta_putNumber_40 (by decide) rfl ?_
        refine v_goto d_Ta_putNumber_43 ?_
        refine ih (j + 1) _ _ (by omega) (by omega) (hσ.trans' (fun k hk => by rw [vUp_ne (by omega), vUp_ne (by omega)])) ?_
        rw [pnA, ← hi]
        refine CR_pb (y := (nn / pw s + 128) % 256 - 128) hC1 oE (by omega) (by omega) (by omega) (by omega) (fun k hk => by rw [vUp_ne (by omega), vUp_ne (by omega)]) ?_ ?_ ?_ ?_
        · rw [vUp_same, vUp_ne (by decide), t0]
        · rw [vUp_ix (by decide), vUp_ne (by decide)]
        · rw [vUp_ix (by decide), vUp_ne (by decide)]
        · rw [vUp_ne (by decide), vUp_fn, t0]

theorem c_Ta_putNumber {T : vSh} {σ : vMem} {A : Int → Int} (hC : CR σ A) (hO : okA A) {nn : Int} (h0 : vIn nn) (h7 : A 7 + 4 ≤ 500) : mt_Ta_putNumber [.ref 30, .int (iI nn)] (S0 ++ T) σ (rP (S0 ++ T) (fun _ σ2 => CW σ σ2 ∧ CR σ2 (pnA A nn 4))) := by
  refine vMet.intro 1 (by decide +kernel) (Nat.le_of_ble_eq_true rfl) rfl (fun cx hM _ => ?_)
  obtain ⟨⟨q0, q1, q2, q3, q4, q5, q6, q7⟩, hVi, hWe, hCo, hOf, hBo, hWo, hMo, hRe, hLi, hTa⟩ := id hO
  refine v_bipush d_Ta_putNumber_0 rfl ?_
  refine v_istore2 d_Ta_putNumber_2 (by decide) rfl ?_
  exact c_Ta_putNumber_3 hC hO h0 h7 hM 4 0 _ _ (by omega) (by omega) CW.rfl' hC

theorem c_V_feed {T : vSh} {σ : vMem} {A : Int → Int} (hC : CR σ A) (hO : okA A) {a b c d e : Int} (h0 : vIn a) (h1 : vIn b) (h2 : vIn c) (h3 : vIn d) (h4 : vIn e) : mt_V_feed [.ref 0, .int (iI a), .int (iI b), .int (iI c), .int (iI d), .int (iI e)] (S0 ++ T) σ (rP (S0 ++ T) (fun z σ2 => z = (wFe A a b c d e).2 ∧ CW σ σ2 ∧ CR σ2 (wFe A a b c d e).1)) := by
  refine vMet.intro 0 (by decide +kernel) (Nat.le_of_ble_eq_true rfl) rfl (fun cx hM _ => ?_)
  obtain ⟨⟨q0, q1, q2, q3, q4, q5, q6, q7⟩, hVi, hWe, hCo, hOf, hBo, hWo, hMo, hRe, hLi, hTa⟩ := id hO
  obtain ⟨⟨l0, l1, lV, lC, lZ, lS⟩, ⟨b0, b1, bO, bB⟩, ⟨w0, wR, wL⟩, ⟨t0, t1, t2, tR, tB⟩, ⟨n9, nW⟩, m0, mM⟩ := id hC
  have k0 := pnA_7 A a 4
  have k1 := pnA_7 (pnA A a 4) b 4
  have k2 := pnA_7 (pnA (pnA A a 4) b 4) c 4
  have k3 := pnA_7 (pnA (pnA (pnA A a 4) b 4) c 4) d 4
  have k4 := pnA_7 (pnA (pnA (pnA (pnA A a 4) b 4) c 4) d 4) e 4
  refine v_aload0 d_V_feed_0 ?_
  refine v_getR d_V_feed_1 f_V_10 (sh_0 T) rfl ?_
  refine v_getR d_V_feed_4 f_V_22 (sh_1 T) rfl ?_
  refine v_getJ (ji := 1) d_V_feed_7 f_V_197 (sh_30 T) rfl rfl (fun g7 => ?_)
  refine v_bipush d_V_feed_10 rfl ?_
  refine v_iadd d_V_feed_12 ?_
  refine v_sipush d_V_feed_13 rfl ?_
  refine v_icmp_le d_V_feed_16 (by omega) (by omega) (fun u16 => ?_) (fun u16 => ?_)
  · refine v_aload0 d_V_feed_21 ?_
    refine v_getR d_V_feed_22 f_V_10 (sh_0 T) rfl ?_
    refine v_getR d_V_feed_25 f_V_22 (sh_1 T) rfl ?_
    refine v_iload1 d_V_feed_28 ?_
    refine v_gVV1 d_V_feed_29 l_V_202 k_Ta_putNumber (c_Ta_putNumber hC hO (by omega) (by omega)) (sh_30 T) rfl (by decide) (by decide) (Nat.le_of_ble_eq_true rfl) (Nat.zero_le _) (Nat.zero_le _) (fun z29 s29 e29 => ?_)
    refine v_aload0 d_V_feed_32 ?_
    refine v_getR d_V_feed_33 f_V_10 (sh_0 T) rfl ?_
    refine v_getR d_V_feed_36 f_V_22 (sh_1 T) rfl ?_
    refine v_iload2 d_V_feed_39 ?_
    refine v_gVV1 d_V_feed_40 l_V_202 k_Ta_putNumber (c_Ta_putNumber e29.2 (ok_pnA hO 4 (by omega)) (by omega) (by omega)) (sh_30 T) rfl (by decide) (by decide) (Nat.le_of_ble_eq_true rfl) (Nat.zero_le _) (Nat.zero_le _) (fun z40 s40 e40 => ?_)
    refine v_aload0 d_V_feed_43 ?_
    refine v_getR d_V_feed_44 f_V_10 (sh_0 T) rfl ?_
    refine v_getR d_V_feed_47 f_V_22 (sh_1 T) rfl ?_
    refine v_iload3 d_V_feed_50 ?_
    refine v_gVV1 d_V_feed_51 l_V_202 k_Ta_putNumber (c_Ta_putNumber e40.2 (ok_pnA (ok_pnA hO 4 (by omega)) 4 (by omega)) (by omega) (by omega)) (sh_30 T) rfl (by decide) (by decide) (Nat.le_of_ble_eq_true rfl) (Nat.zero_le _) (Nat.zero_le _) (fun z51 s51 e51 => ?_)
    refine v_aload0 d_V_feed_54 ?_
    refine v_getR d_V_feed_55 f_V_10 (sh_0 T) rfl ?_
    refine v_getR d_V_feed_58 f_V_22 (sh_1 T) rfl ?_
    refine v_iload4 d_V_feed_61 ?_
    refine v_gVV1 d_V_feed_63 l_V_202 k_Ta_putNumber (c_Ta_putNumber e51.2 (ok_pnA (ok_pnA (ok_pnA hO 4 (by omega)) 4 (by omega)) 4 (by omega)) (by omega) (by omega)) (sh_30 T) rfl (by decide) (by decide) (Nat.le_of_ble_eq_true rfl) (Nat.zero_le _) (Nat.zero_le _) (fun z63 s63 e63 => ?_)
    refine v_aload0 d_V_feed_66 ?_
    refine v_getR d_V_feed_67 f_V_10 (sh_0 T) rfl ?_
    refine v_getR d_V_feed_70 f_V_22 (sh_1 T) rfl ?_
    refine v_iload5 d_V_feed_73 ?_
    refine v_gVV1 d_V_feed_75 l_V_202 k_Ta_putNumber (c_Ta_putNumber e63.2 (ok_pnA (ok_pnA (ok_pnA (ok_pnA hO 4 (by omega)) 4 (by omega)) 4 (by omega)) 4 (by omega)) (by omega) (by omega)) (sh_30 T) rfl (by decide) (by decide) (Nat.le_of_ble_eq_true rfl) (Nat.zero_le _) (Nat.zero_le _) (fun z75 s75 e75 => ?_)
    refine v_aload0 d_V_feed_78 ?_
    refine v_getR d_V_feed_79 f_V_10 (sh_0 T) rfl ?_
    refine v_getR d_V_feed_82 f_V_22 (sh_1 T) rfl ?_
    have e9 := e75.2.2.2.2.1.1
    refine v_getJ (ji := 1) d_V_feed_85 f_V_197 (sh_30 T) rfl rfl (fun g85 => ?_)
    first
    | (exact v_ireturn hM d_V_feed_88 (by omega) ⟨rfl, by rw [wFe, if_pos (by omega)]; dsimp only; omega, (((e29.1.trans' e40.1).trans' e51.1).trans' e63.1).trans' e75.1, by rw [wFe, if_pos (by omega), fdA_20]; exact e75.2⟩)
    | (exact v_ireturn hM d_V_feed_88 (by omega) ⟨rfl, by rw [wFe, if_neg (by omega)], CW.rfl', by rw [wFe, if_neg (by omega)]; exact hC⟩)
  · refine v_iconst d_V_feed_19 ?_
    first
    | (exact v_ireturn hM d_V_feed_20 (by omega) ⟨rfl, by rw [wFe, if_pos (by omega)]; dsimp only; omega, (((e29.1.trans' e40.1).trans' e51.1).trans' e63.1).trans' e75.1, by rw [wFe, if_pos (by omega), fdA_20]; exact e75.2⟩)
    | (exact v_ireturn hM d_V_feed_20 (by omega) ⟨rfl, by rw [wFe, if_neg (by omega)], CW.rfl', by rw [wFe, if_neg (by omega)]; exact hC⟩)

