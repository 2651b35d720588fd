theorem bitS_congr {q q' : Int → Int} (h : ∀ v, q v = q' v) (n : Nat) : bitS q n = bitS q' n := by rw [show q = q' from funext h]
theorem c_M_hadOf_147 {T : vSh} {σ : vMem} {cx : vCx} {A : Int → Int} (hA : σ 56 = A) (hO : okA A) {oo s k : Int} (h0 : 0 ≤ oo ∧ oo < A 1) (h1 : 0 ≤ s ∧ s < 20) (h2 : vIn k) (hM : vM cx 0 0 (some .int) (rP (S0 ++ T) (fun z σ2 => z = hadF A oo s k ∧ MF σ σ2))) {cr b : Int} (hcr0 : cr = crnF A oo s k) : ∀ (n j : Nat) (sum v : Int) (σ1 : vMem), (j : Int) + n = A 0 → v = j → (∀ k, k ≠ 58 → k ≠ 61 → σ1 k = σ k) → (∀ x, 0 ≤ x → x < A 0 → σ1 58 x = dhF A oo x s k 60) → sum = hadS A oo s k j → vV cx y_M_hadOf.cls prog_14_method_36_code 9 7 0 0 0 0 147 [some (.ref 55), some (.int (iI oo)), some (.int (iI s)), some (.int (iI k)), some (.int (iI cr)), some (.int (iI b)), some (.int (iI sum)), some (.int (iI v)), none] [] (S0 ++ T) σ1 := by
  intro n
  induction n with
  | zero =>
    intro j sum v σ1 hj hi hσ hm hs
    obtain ⟨⟨q0, q1, q2, q3, q4, q5, q6, q7⟩, hVi, hWe, hCo, hOf, hBo, hWo, hMo, hRe, hLi, hTa⟩ := id hO
    have hA1 : σ1 56 = A := by rw [hσ 56 (by decide) (by decide)]; exact hA
    have hcr := crnF_rng hO oo s k
    have hsr := hadS_rng hO oo k h1 j (by omega)
    refine v_iload7 d_M_hadOf_147 ?_
    refine v_aload0 d_M_hadOf_149 ?_
    refine v_getR d_M_hadOf_150 f_M_7 (sh_55 T) rfl ?_
    refine v_iconst d_M_hadOf_153 ?_
    refine v_ialoadE hA1 d_M_hadOf_154 (sh_56 T) (by omega) (fun g154 => ?_)
    refine v_icmp_ge d_M_hadOf_155 (by omega) (by omega) (fun u155 => ?_) (fun u155 => ?_)
    · refine v_iload6 d_M_hadOf_200 ?_
      exact v_ireturn hM d_M_hadOf_202 (by omega) ⟨rfl, by rw [hs]; congr 1; omega, fun k hk => hσ k (by omega) (by omega)⟩
    · omega
  | succ n ih =>
    intro j sum v σ1 hj hi hσ hm hs
    obtain ⟨⟨q0, q1, q2, q3, q4, q5, q6, q7⟩, hVi, hWe, hCo, hOf, hBo, hWo, hMo, hRe, hLi, hTa⟩ := id hO
    have hA1 : σ1 56 = A := by rw [hσ 56 (by decide) (by decide)]; exact hA
    have hcr := crnF_rng hO oo s k
    have hsr := hadS_rng hO oo k h1 j (by omega)
    refine v_iload7 d_M_hadOf_147 ?_
    refine v_aload0 d_M_hadOf_149 ?_
    refine v_getR d_M_hadOf_150 f_M_7 (sh_55 T) rfl ?_
    refine v_iconst d_M_hadOf_153 ?_
    refine v_ialoadE hA1 d_M_hadOf_154 (sh_56 T) (by omega) (fun g154 => ?_)
    refine v_icmp_ge d_M_hadOf_155 (by omega) (by omega) (fun u155 => ?_) (fun u155 => ?_)
    · omega
    · refine v_aload0 d_M_hadOf_158 ?_
      refine v_iload7 d_M_hadOf_159 ?_
      refine v_iload2 d_M_hadOf_161 ?_
      refine v_fVI2 d_M_hadOf_162 l_M_80 k_M_comeOf (c_M_comeOf hA1 (by omega)) (sh_55 T) rfl (by decide) (by decide) (Nat.le_of_ble_eq_true rfl) (Nat.zero_le _) (Nat.zero_le _) (fun g162 => ?_)
      have hco := hCo v s (by omega) (by omega) (by omega) (by omega)
      have hdh := dhF_rng A oo v s k 60
      have hon := had_one hco hcr (n := dhF A oo v s k 60) (by omega)
      rw [← hcr0] at hon
      have hmv := hm v (by omega) (by omega)
      refine v_istore8 d_M_hadOf_165 (by decide) rfl ?_
      refine v_iload6 d_M_hadOf_167 ?_
      refine v_iload8 d_M_hadOf_169 ?_
      refine v_iload8 d_M_hadOf_171 ?_
      refine v_iload4 d_M_hadOf_173 ?_
      refine v_imul d_M_hadOf_175 ?_
      refine v_bipush d_M_hadOf_176 rfl ?_
      refine v_idiv d_M_hadOf_178 (by omega) (by omega) ?_
      refine v_isub d_M_hadOf_179 ?_
      refine v_aload0 d_M_hadOf_180 ?_
      refine v_getR d_M_hadOf_181 f_M_17 (sh_55 T) rfl ?_
      refine v_iload7 d_M_hadOf_184 ?_
      refine v_iaload d_M_hadOf_186 (sh_58 T) (by omega) (fun g186 => ?_)
      refine v_imul d_M_hadOf_187 ?_
      refine v_bipush d_M_hadOf_188 rfl ?_
      refine v_idiv d_M_hadOf_190 (by rw [hmv]; omega) (by omega) ?_
      refine v_iadd d_M_hadOf_191 ?_
      refine v_istore6 d_M_hadOf_192 (by decide) rfl ?_
      refine v_iinc7 d_M_hadOf_194 (by decide) rfl ?_
      refine v_goto d_M_hadOf_197 ?_
      refine v_drop8 ?_
      exact ih (j + 1) _ _ _ (by omega) (by omega) hσ hm (by rw [hadS, ← hs, ← hi, ← hcr0, hm v (by omega) (by omega)])

theorem c_M_hadOf_101 {T : vSh} {σ : vMem} {cx : vCx} {A : Int → Int} (hA : σ 56 = A) (hO : okA A) {oo s k : Int} (h0 : 0 ≤ oo ∧ oo < A 1) (h1 : 0 ≤ s ∧ s < 20) (h2 : vIn k) {cr bits dd : Int} {nd : Nat} (hnd : dd = 60 * s + nd) (hnd2 : nd < 60) (hbits : bits = bitS (fun v => b01 (heldF A v dd k = oo)) (A 0).toNat) (K : ∀ σ2 : vMem, (∀ k, k ≠ 58 → k ≠ 61 → σ2 k = σ k) → (∀ x, 0 ≤ x → x < A 0 → σ2 58 x = dhF A oo x s k (nd + 1)) → vV cx y_M_hadOf.cls prog_14_method_36_code 9 7 0 0 0 0 135 [some (.ref 55), some (.int (iI oo)), some (.int (iI s)), some (.int (iI k)), some (.int (iI cr)), some (.int (iI bits)), some (.int (iI dd)), none, none] [] (S0 ++ T) σ2) : ∀ (n j : Nat) (v : Int) (σ1 : vMem), (j : Int) + n = A 0 → v = j → (∀ k, k ≠ 58 → k ≠ 61 → σ1 k = σ k) → (∀ x, 0 ≤ x → x < A 0 → σ1 58 x = dhF A oo x s k (if x < (j : Int) then nd + 1 else nd)) → vV cx y_M_hadOf.cls prog_14_method_36_code 9 7 0 0 0 0 101 [some (.ref 55), some (.int (iI oo)), some (.int (iI s)), some (.int (iI k)), some (.int (iI cr)), some (.int (iI bits)), some (.int (iI dd)), some (.int (iI v)), none] [] (S0 ++ T) σ1 := by
  intro n
  induction n with
  | zero =>
    intro j v σ1 hj hi hσ hm
    obtain ⟨⟨q0, q1, q2, q3, q4, q5, q6, q7⟩, hVi, hWe, hCo, hOf, hBo, hWo, hMo, hRe, hLi, hTa⟩ := id hO
    have hA1 : σ1 56 = A := by rw [hσ 56 (by decide) (by decide)]; exact hA
    have hbr := bitS_rng (fun v => b01 (heldF A v dd k = oo)) (fun v => b01_or) (A 0).toNat
    have hpl := pw_le (v := ((A 0).toNat : Int)) (by omega)
    rw [← hbits] at hbr
    refine v_iload7 d_M_hadOf_101 ?_
    refine v_aload0 d_M_hadOf_103 ?_
    refine v_getR d_M_hadOf_104 f_M_7 (sh_55 T) rfl ?_
    refine v_iconst d_M_hadOf_107 ?_
    refine v_ialoadE hA1 d_M_hadOf_108 (sh_56 T) (by omega) (fun g108 => ?_)
    refine v_icmp_ge d_M_hadOf_109 (by omega) (by omega) (fun u109 => ?_) (fun u109 => ?_)
    · refine v_drop7 ?_
      exact K σ1 hσ (fun x y1 y2 => by rw [hm x y1 y2, if_pos (by omega)])
    · omega
  | succ n ih =>
    intro j v σ1 hj hi hσ hm
    obtain ⟨⟨q0, q1, q2, q3, q4, q5, q6, q7⟩, hVi, hWe, hCo, hOf, hBo, hWo, hMo, hRe, hLi, hTa⟩ := id hO
    have hA1 : σ1 56 = A := by rw [hσ 56 (by decide) (by decide)]; exact hA
    have hbr := bitS_rng (fun v => b01 (heldF A v dd k = oo)) (fun v => b01_or) (A 0).toNat
    have hpl := pw_le (v := ((A 0).toNat : Int)) (by omega)
    rw [← hbits] at hbr
    refine v_iload7 d_M_hadOf_101 ?_
    refine v_aload0 d_M_hadOf_103 ?_
    refine v_getR d_M_hadOf_104 f_M_7 (sh_55 T) rfl ?_
    refine v_iconst d_M_hadOf_107 ?_
    refine v_ialoadE hA1 d_M_hadOf_108 (sh_56 T) (by omega) (fun g108 => ?_)
    refine v_icmp_ge d_M_hadOf_109 (by omega) (by omega) (fun u109 => ?_) (fun u109 => ?_)
    · omega
    · have hmv := hm v (by omega) (by omega)
      have hbit := bitS_get (fun v => b01 (heldF A v dd k = oo)) (fun v => b01_or) (A 0).toNat v (by omega) (by omega)
      rw [← hbits] at hbit
      have hb2 := b01_rng (p := heldF A v dd k = oo)
      have hdr := dhF_rng A oo v s k nd
      rw [if_neg (by omega)] at hmv
      refine v_aload0 d_M_hadOf_112 ?_
      refine v_getR d_M_hadOf_113 f_M_17 (sh_55 T) rfl ?_
      refine v_iload7 d_M_hadOf_116 ?_
      refine v_dup2 d_M_hadOf_118 rfl rfl ?_
      refine v_iaload d_M_hadOf_119 (sh_58 T) (by omega) (fun g119 => ?_)
      refine v_iload5 d_M_hadOf_120 ?_
      refine v_iload7 d_M_hadOf_122 ?_
      refine v_ishr d_M_hadOf_124 (bshr (by omega) (by omega)) ?_
      refine v_iconst d_M_hadOf_125 ?_
      refine v_iand d_M_hadOf_126 (band1 _) ?_
      refine v_iadd d_M_hadOf_127 ?_
      refine v_iastore d_M_hadOf_128 (sh_58 T) (by omega) (by omega) ?_
      refine v_iinc7 d_M_hadOf_129 (by decide) rfl ?_
      refine v_goto d_M_hadOf_132 ?_
      exact ih (j + 1) _ _ (by omega) (by omega) (fun k y1 y2 => by rw [vUp_ne y1]; exact hσ k y1 y2) (fun x y1 y2 => by
        by_cases q : x = v
        · subst q
          rw [vUp_same, if_pos (by omega), dhF, hmv, hbit, hnd]
        · rw [vUp_ix q, hm x y1 y2]
          congr 1
          by_cases q2 : x < (j : Int)
          · rw [if_pos q2, if_pos (by omega)]
          · rw [if_neg q2, if_neg (by omega)])

theorem c_M_hadOf_66 {T : vSh} {σ : vMem} {cx : vCx} {A : Int → Int} (hA : σ 56 = A) (hO : okA A) {oo s k : Int} (h0 : 0 ≤ oo ∧ oo < A 1) (h1 : 0 ≤ s ∧ s < 20) (h2 : vIn k) (hM : vM cx 0 0 (some .int) (rP (S0 ++ T) (fun z σ2 => z = hadF A oo s k ∧ MF σ σ2))) {cr : Int} (hcr0 : cr = crnF A oo s k) : ∀ (n j : Nat) (bits dd : Int) (σ1 : vMem), (j : Int) + n = 60 → dd = 60 * s + j → (∀ k, k ≠ 58 → k ≠ 61 → σ1 k = σ k) → (∀ x, 0 ≤ x → x < A 0 → σ1 58 x = dhF A oo x s k j) → ((j : Int) ≠ 0 → bits = bitS (fun v => b01 (heldF A v (dd - 1) k = oo)) (A 0).toNat) → vV cx y_M_hadOf.cls prog_14_method_36_code 9 7 0 0 0 0 66 [some (.ref 55), some (.int (iI oo)), some (.int (iI s)), some (.int (iI k)), some (.int (iI cr)), some (.int (iI bits)), some (.int (iI dd)), none, none] [] (S0 ++ T) σ1 := by
  intro n
  induction n with
  | zero =>
    intro j bits dd σ1 hj hi hσ hm hb
    obtain ⟨⟨q0, q1, q2, q3, q4, q5, q6, q7⟩, hVi, hWe, hCo, hOf, hBo, hWo, hMo, hRe, hLi, hTa⟩ := id hO
    have hA1 : σ1 56 = A := by rw [hσ 56 (by decide) (by decide)]; exact hA
    refine v_iload6 d_M_hadOf_66 ?_
    refine v_bipush d_M_hadOf_68 rfl ?_
    refine v_iload2 d_M_hadOf_70 ?_
    refine v_imul d_M_hadOf_71 ?_
    refine v_bipush d_M_hadOf_72 rfl ?_
    refine v_iadd d_M_hadOf_74 ?_
    refine v_icmp_ge d_M_hadOf_75 (by omega) (by omega) (fun u75 => ?_) (fun u75 => ?_)
    · refine v_iconst d_M_hadOf_141 ?_
      refine v_istore6 d_M_hadOf_142 (by decide) rfl ?_
      refine v_iconst d_M_hadOf_144 ?_
      refine v_istore7 d_M_hadOf_145 (by decide) rfl ?_
      exact c_M_hadOf_147 hA hO h0 h1 h2 hM hcr0 (A 0).toNat 0 _ _ _ (by omega) rfl hσ (fun x y1 y2 => by rw [hm x y1 y2]; congr 1; omega) rfl
    · omega
  | succ n ih =>
    intro j bits dd σ1 hj hi hσ hm hb
    obtain ⟨⟨q0, q1, q2, q3, q4, q5, q6, q7⟩, hVi, hWe, hCo, hOf, hBo, hWo, hMo, hRe, hLi, hTa⟩ := id hO
    have hA1 : σ1 56 = A := by rw [hσ 56 (by decide) (by decide)]; exact hA
    refine v_iload6 d_M_hadOf_66 ?_
    refine v_bipush d_M_hadOf_68 rfl ?_
    refine v_iload2 d_M_hadOf_70 ?_
    refine v_imul d_M_hadOf_71 ?_
    refine v_bipush d_M_hadOf_72 rfl ?_
    refine v_iadd d_M_hadOf_74 ?_
    refine v_icmp_ge d_M_hadOf_75 (by omega) (by omega) (fun u75 => ?_) (fun u75 => ?_)
    · omega
    · refine v_aload0 d_M_hadOf_78 ?_
      refine v_iload1 d_M_hadOf_79 ?_
      refine v_iload6 d_M_hadOf_80 ?_
      refine v_gVZ2 d_M_hadOf_82 l_M_122 k_M_changes (c_M_changes hA1 hO (by omega) (by omega)) (sh_55 T) rfl (by decide) (by decide) (Nat.le_of_ble_eq_true rfl) (Nat.zero_le _) (Nat.zero_le _) (fun z82 s82 g82 e82 => ?_)
      obtain ⟨rfl, -⟩ := id e82
      refine v_if_eq d_M_hadOf_85 (by omega) (fun u85 => ?_) (fun u85 => ?_)
      · refine v_iconst d_M_hadOf_98 ?_
        refine v_istore7 d_M_hadOf_99 (by decide) rfl ?_
        have hbn : bits = bitS (fun v => b01 (heldF A v dd k = oo)) (A 0).toNat := (by
          have hnc := e82.2.2.1 u85
          have hj0 : (j : Int) ≠ 0 := fun q => by have := e82.2.2.2 (by omega); omega
          rw [hb (by omega)]
          exact bitS_congr (fun v => b01_congr (noChg_held hO (by omega) hnc v k).symm) _)
        exact c_M_hadOf_101 hA hO h0 h1 h2 hi (by omega) hbn (fun σ2 hσ2 hm2 => by
          refine v_iinc6 d_M_hadOf_135 (by decide) rfl ?_
          refine v_goto d_M_hadOf_138 ?_
          exact ih (j + 1) _ _ _ (by omega) (by omega) hσ2 hm2 (fun _ => by rw [show dd + 1 - 1 = dd by omega]; exact hbn)) (A 0).toNat 0 _ _ (by omega) rfl hσ (fun x y1 y2 => by rw [if_neg (by omega)]; exact hm x y1 y2)
      · refine v_aload0 d_M_hadOf_88 ?_
        refine v_iload1 d_M_hadOf_89 ?_
        refine v_iload6 d_M_hadOf_90 ?_
        refine v_iload3 d_M_hadOf_92 ?_
        refine v_fVI3 d_M_hadOf_93 l_M_125 k_M_bitsOf (c_M_bitsOf hA1 hO (by omega) (by omega) (by omega)) (sh_55 T) rfl (by decide) (by decide) (Nat.le_of_ble_eq_true rfl) (Nat.zero_le _) (Nat.zero_le _) (fun g93 => ?_)
        refine v_istore5 d_M_hadOf_96 (by decide) rfl ?_
        refine v_iconst d_M_hadOf_98 ?_
        refine v_istore7 d_M_hadOf_99 (by decide) rfl ?_
        exact c_M_hadOf_101 hA hO h0 h1 h2 hi (by omega) rfl (fun σ2 hσ2 hm2 => by
          refine v_iinc6 d_M_hadOf_135 (by decide) rfl ?_
          refine v_goto d_M_hadOf_138 ?_
          exact ih (j + 1) _ _ _ (by omega) (by omega) hσ2 hm2 (fun _ => by rw [show dd + 1 - 1 = dd by omega])) (A 0).toNat 0 _ _ (by omega) rfl hσ (fun x y1 y2 => by rw [if_neg (by omega)]; exact hm x y1 y2)

theorem c_M_hadOf_36 {T : vSh} {σ : vMem} {cx : vCx} {A : Int → Int} (hA : σ 56 = A) (hO : okA A) {oo s k : Int} (h0 : 0 ≤ oo ∧ oo < A 1) (h1 : 0 ≤ s ∧ s < 20) (h2 : vIn k) (hM : vM cx 0 0 (some .int) (rP (S0 ++ T) (fun z σ2 => z = hadF A oo s k ∧ MF σ σ2))) {cr : Int} (hcr0 : cr = crnF A oo s k) : ∀ (n j : Nat) (v : Int) (σ1 : vMem), (j : Int) + n = 12 → v = j → (∀ k, k ≠ 58 → k ≠ 61 → σ1 k = σ k) → (∀ x, 0 ≤ x → x < (j : Int) → σ1 58 x = 0) → vV cx y_M_hadOf.cls prog_14_method_36_code 9 7 0 0 0 0 36 [some (.ref 55), some (.int (iI oo)), some (.int (iI s)), some (.int (iI k)), some (.int (iI cr)), some (.int (iI v)), none, none, none] [] (S0 ++ T) σ1 := by
  intro n
  induction n with
  | zero =>
    intro j v σ1 hj hi hσ hm
    obtain ⟨⟨q0, q1, q2, q3, q4, q5, q6, q7⟩, hVi, hWe, hCo, hOf, hBo, hWo, hMo, hRe, hLi, hTa⟩ := id hO
    refine v_iload5 d_M_hadOf_36 ?_
    refine v_bipush d_M_hadOf_38 rfl ?_
    refine v_icmp_ge d_M_hadOf_40 (by omega) (by omega) (fun u40 => ?_) (fun u40 => ?_)
    · refine v_iconst d_M_hadOf_57 ?_
      refine v_istore5 d_M_hadOf_58 (by decide) rfl ?_
      refine v_bipush d_M_hadOf_60 rfl ?_
      refine v_iload2 d_M_hadOf_62 ?_
      refine v_imul d_M_hadOf_63 ?_
      refine v_istore6 d_M_hadOf_64 (by decide) rfl ?_
      exact c_M_hadOf_66 hA hO h0 h1 h2 hM hcr0 60 0 _ _ _ (by omega) (by omega) hσ (fun x y1 y2 => by rw [hm x y1 (by omega)]; rfl) (fun h => absurd rfl h)
    · omega
  | succ n ih =>
    intro j v σ1 hj hi hσ hm
    obtain ⟨⟨q0, q1, q2, q3, q4, q5, q6, q7⟩, hVi, hWe, hCo, hOf, hBo, hWo, hMo, hRe, hLi, hTa⟩ := id hO
    refine v_iload5 d_M_hadOf_36 ?_
    refine v_bipush d_M_hadOf_38 rfl ?_
    refine v_icmp_ge d_M_hadOf_40 (by omega) (by omega) (fun u40 => ?_) (fun u40 => ?_)
    · omega
    · refine v_aload0 d_M_hadOf_43 ?_
      refine v_getR d_M_hadOf_44 f_M_17 (sh_55 T) rfl ?_
      refine v_iload5 d_M_hadOf_47 ?_
      refine v_iconst d_M_hadOf_49 ?_
      refine v_iastore d_M_hadOf_50 (sh_58 T) (by omega) (by omega) ?_
      refine v_iinc5 d_M_hadOf_51 (by decide) rfl ?_
      refine v_goto d_M_hadOf_54 ?_
      exact ih (j + 1) _ _ (by omega) (by omega) (fun k y1 y2 => by rw [vUp_ne y1]; exact hσ k y1 y2) (fun x y1 y2 => by
        by_cases q : x = v
        · subst q; exact vUp_same _ _ _ _
        · rw [vUp_ix q]; exact hm x y1 (by omega))

theorem c_M_hadOf {T : vSh} {σ : vMem} {A : Int → Int} (hA : σ 56 = A) (hO : okA A) {oo s k : Int} (h0 : 0 ≤ oo ∧ oo < A 1) (h1 : 0 ≤ s ∧ s < 20) (h2 : vIn k) : mt_M_hadOf [.ref 55, .int (iI oo), .int (iI s), .int (iI k)] (S0 ++ T) σ (rP (S0 ++ T) (fun z σ2 => z = hadF A oo s k ∧ MF σ σ2)) := by
  refine vMet.intro 5 (by decide +kernel) (Nat.le_of_ble_eq_true rfl) rfl (fun cx hM _ => ?_)
  obtain ⟨⟨q0, q1, q2, q3, q4, q5, q6, q7⟩, hVi, hWe, hCo, hOf, hBo, hWo, hMo, hRe, hLi, hTa⟩ := id hO
  refine v_iconst d_M_hadOf_0 ?_
  refine v_istore4 d_M_hadOf_1 (by decide) rfl ?_
  refine v_aload0 d_M_hadOf_3 ?_
  refine v_iload1 d_M_hadOf_4 ?_
  refine v_bipush d_M_hadOf_5 rfl ?_
  refine v_iload2 d_M_hadOf_7 ?_
  refine v_imul d_M_hadOf_8 ?_
  refine v_fVZ2 d_M_hadOf_9 l_M_113 k_M_serves (c_M_serves hA (by omega) (by omega)) (sh_55 T) rfl (by decide) (by decide) (Nat.le_of_ble_eq_true rfl) (Nat.zero_le _) (Nat.zero_le _) (fun g9 => ?_)
  refine v_ifb_eq d_M_hadOf_12 (fun u12 => ?_) (fun u12 => ?_)
  · refine v_iconst d_M_hadOf_33 ?_
    refine v_istore5 d_M_hadOf_34 (by decide) rfl ?_
    exact c_M_hadOf_36 hA hO h0 h1 h2 hM (by rw [crnF, if_neg u12]) 12 0 _ _ (by omega) rfl (fun k _ _ => rfl) (fun x y1 y2 => by omega)
  · refine v_aload0 d_M_hadOf_15 ?_
    refine v_iload1 d_M_hadOf_16 ?_
    refine v_bipush d_M_hadOf_17 rfl ?_
    refine v_iload2 d_M_hadOf_19 ?_
    refine v_imul d_M_hadOf_20 ?_
    refine v_iload3 d_M_hadOf_21 ?_
    refine v_gVV3 d_M_hadOf_22 l_M_94 k_M_scales (c_M_scales hA hO (by omega) (by omega) (by omega) (by omega)) (sh_55 T) rfl (by decide) (by decide) (Nat.le_of_ble_eq_true rfl) (Nat.zero_le _) (Nat.zero_le _) (fun z22 s22 e22 => ?_)
    refine v_aload0 d_M_hadOf_25 ?_
    refine v_getR d_M_hadOf_26 f_M_26 (sh_55 T) rfl ?_
    refine v_iconst d_M_hadOf_29 ?_
    refine v_iaload d_M_hadOf_30 (sh_61 T) (by omega) (fun g30 => ?_)
    refine v_istore4 d_M_hadOf_31 (by decide) rfl ?_
    refine v_iconst d_M_hadOf_33 ?_
    refine v_istore5 d_M_hadOf_34 (by decide) rfl ?_
    exact c_M_hadOf_36 hA hO h0 h1 h2 hM (by rw [crnF, if_pos u12]; exact e22.2.1.2.2.1) 12 0 _ _ (by omega) rfl (fun k _ y => e22.1 k y) (fun x y1 y2 => by omega)

