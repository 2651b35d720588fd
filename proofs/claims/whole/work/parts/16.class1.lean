/-! ===== how the class's cells hold it ===== -/
def LandR (L w e n h p c s A : Int → Int) : Prop := L 0 = A 4 ∧ L 1 = A 0 ∧ (∀ v, 0 ≤ v → v < A 0 → w v = A (40 + 6 * v + 0) ∧ e v = A (40 + 6 * v + 1) ∧ n v = A (40 + 6 * v + 2) ∧ h v = A (40 + 6 * v + 3) ∧ p v = A (40 + 6 * v + 4)) ∧ (∀ v t, 0 ≤ v → v < A 0 → 0 ≤ t → t < 20 → c (v * 20 + t) = A (120 + 20 * v + t)) ∧ (∀ v t, A 0 ≤ v → v < 12 → 0 ≤ t → t < 20 → c (v * 20 + t) = 0) ∧ ∀ t, 0 ≤ t → t < 20 → s t = A (20 + t)
def BookR (B fr ki ca de kd th wh fm wr A : Int → Int) : Prop := B 0 = A 1 ∧ B 5 = A 2 ∧ (∀ i, 0 ≤ i → i < A 1 → fr i = A (360 + 4 * i + 0) ∧ ki i = A (360 + 4 * i + 1) ∧ ca i = A (360 + 4 * i + 2) ∧ (A (360 + 4 * i + 3) < 0 → de i = 1200) ∧ (0 ≤ A (360 + 4 * i + 3) → de i = A (360 + 4 * i + 3))) ∧ ∀ i, 0 ≤ i → i < A 2 → kd i = A (430 + 5 * i + 0) ∧ th i = A (430 + 5 * i + 1) ∧ wh i = A (430 + 5 * i + 2) ∧ fm i = A (430 + 5 * i + 3) ∧ wr i = A (430 + 5 * i + 4)
def LawsR (W be li de am te su si lm ne A : Int → Int) : Prop := W 0 = A 3 ∧ (∀ r, 0 ≤ r → r < A 3 → be r = A (10 + 2 * r) ∧ li r = A (10 + 2 * r + 1)) ∧ ∀ r l, 0 ≤ r → r < A 3 → 0 ≤ l → l < A (10 + 2 * r + 1) → de (r * 16 + l) = A (1430 + 320 * r + 20 * l + 17) - 17 ∧ (A (1430 + 320 * r + 20 * l + 17) ≠ 25 → am (r * 16 + l) = A (1430 + 320 * r + 20 * l + 18)) ∧ te (r * 16 + l) = A (1430 + 320 * r + 20 * l) ∧ ∀ t, 0 ≤ t → t < A (1430 + 320 * r + 20 * l) → su ((r * 16 + l) * 4 + t) = A (1430 + 320 * r + 20 * l + 1 + 4 * t + 1) + 8 ∧ si ((r * 16 + l) * 4 + t) = A (1430 + 320 * r + 20 * l + 1 + 4 * t + 2) ∧ ne ((r * 16 + l) * 4 + t) = A (1430 + 320 * r + 20 * l + 1 + 4 * t) ∧ (A (1430 + 320 * r + 20 * l + 1 + 4 * t + 1) ≠ 1 → lm ((r * 16 + l) * 4 + t) = A (1430 + 320 * r + 20 * l + 1 + 4 * t + 3))
def TapeR (P by' A : Int → Int) : Prop := P 1 = A 7 ∧ P 2 = A 8 ∧ P 3 = A 9 ∧ (∀ i, 0 ≤ i → i < 500 → -128 ≤ by' i ∧ by' i ≤ 127) ∧ ∀ i, 0 ≤ i → i < A 7 → (by' i < 0 → A (2710 + i) = by' i + 256) ∧ (0 ≤ by' i → A (2710 + i) = by' i)
def NewsR (N wr vi se co sa A : Int → Int) : Prop := N 1 = A 6 ∧ ∀ i, 0 ≤ i → i < A 6 → wr i = A (930 + 5 * i + 0) ∧ vi i = A (930 + 5 * i + 1) ∧ se i = A (930 + 5 * i + 2) ∧ co i = A (930 + 5 * i + 3) ∧ sa i = A (930 + 5 * i + 4)
def MovesR (M mo go A : Int → Int) : Prop := M 0 = A 5 ∧ ∀ i, 0 ≤ i → i < A 5 → mo i = A (400 + 2 * i) ∧ go i = A (400 + 2 * i + 1)
def CR (σ : vMem) (A : Int → Int) : Prop := LandR (σ 2) (σ 3) (σ 4) (σ 5) (σ 6) (σ 7) (σ 8) (σ 9) A ∧ BookR (σ 10) (σ 11) (σ 12) (σ 13) (σ 14) (σ 15) (σ 16) (σ 17) (σ 18) (σ 19) A ∧ LawsR (σ 20) (σ 21) (σ 22) (σ 23) (σ 24) (σ 25) (σ 26) (σ 27) (σ 28) (σ 29) A ∧ TapeR (σ 30) (σ 31) A ∧ NewsR (σ 32) (σ 33) (σ 34) (σ 35) (σ 36) (σ 37) A ∧ MovesR (σ 38) (σ 39) (σ 40) A
theorem CR_off {σ σ' : vMem} {A : Int → Int} (h : ∀ k, k < 41 → k ≠ 38 → σ' k = σ k) (h38 : σ' 38 0 = σ 38 0) (hC : CR σ A) : CR σ' A := by
  unfold CR MovesR at *
  rw [h 2 (by decide) (by decide), h 3 (by decide) (by decide), h 4 (by decide) (by decide), h 5 (by decide) (by decide), h 6 (by decide) (by decide), h 7 (by decide) (by decide), h 8 (by decide) (by decide), h 9 (by decide) (by decide), h 10 (by decide) (by decide), h 11 (by decide) (by decide), h 12 (by decide) (by decide), h 13 (by decide) (by decide), h 14 (by decide) (by decide), h 15 (by decide) (by decide), h 16 (by decide) (by decide), h 17 (by decide) (by decide), h 18 (by decide) (by decide), h 19 (by decide) (by decide), h 20 (by decide) (by decide), h 21 (by decide) (by decide), h 22 (by decide) (by decide), h 23 (by decide) (by decide), h 24 (by decide) (by decide), h 25 (by decide) (by decide), h 26 (by decide) (by decide), h 27 (by decide) (by decide), h 28 (by decide) (by decide), h 29 (by decide) (by decide), h 30 (by decide) (by decide), h 31 (by decide) (by decide), h 32 (by decide) (by decide), h 33 (by decide) (by decide), h 34 (by decide) (by decide), h 35 (by decide) (by decide), h 36 (by decide) (by decide), h 37 (by decide) (by decide), h 39 (by decide) (by decide), h 40 (by decide) (by decide), h38]
  exact hC

theorem c_Bo_serves {T : vSh} {σ : vMem} {A : Int → Int} (hC : CR σ A) (hO : okA A) {oo dd : Int} (h0 : 0 ≤ oo ∧ oo < A 1) (h1 : 0 ≤ dd ∧ dd < 1200) : mt_Bo_serves [.ref 10, .int (iI oo), .int (iI dd)] (S0 ++ T) σ (rF (S0 ++ T) σ (b01 (srvF A oo dd))) := by
  refine vMet.intro 0 (by decide +kernel) (Nat.le_of_ble_eq_true rfl) rfl (fun cx hM _ => ?_)
  obtain ⟨⟨q0, q1, q2, q3, q4, q5, q6, q7⟩, hVi, hWe, hCo, hOf, hBo, hWo, hMo, hRe, hLi, hTa⟩ := id hO
  obtain ⟨⟨l0, l1, lV, lC, lZ, lS⟩, ⟨b0, b1, bO, bB⟩, ⟨w0, wR, wL⟩, ⟨t0, t1, t2, tR, tB⟩, ⟨n9, nW⟩, m0, mM⟩ := id hC
  have hb := bO oo (by omega) (by omega)
  refine v_aload0 d_Bo_serves_0 ?_
  refine v_getR d_Bo_serves_1 f_Bo_18 (sh_10 T) rfl ?_
  refine v_iload1 d_Bo_serves_4 ?_
  refine v_iaload d_Bo_serves_5 (sh_13 T) (by omega) (fun g5 => ?_)
  refine v_iload2 d_Bo_serves_6 ?_
  refine v_icmp_gt d_Bo_serves_7 (by omega) (by omega) (fun u7 => ?_) (fun u7 => ?_)
  · refine v_iconst d_Bo_serves_24 ?_
    first | exact v_zreturn hM d_Bo_serves_25 (Or.inr rfl) ⟨rfl, rfl, b01_1 (by omega)⟩ | exact v_zreturn hM d_Bo_serves_25 (Or.inl rfl) ⟨rfl, rfl, b01_0 (by omega)⟩ | exact v_zreturn hM d_Bo_serves_25 b01_or ⟨rfl, rfl, rfl⟩
  · refine v_iload2 d_Bo_serves_10 ?_
    refine v_aload0 d_Bo_serves_11 ?_
    refine v_getR d_Bo_serves_12 f_Bo_21 (sh_10 T) rfl ?_
    refine v_iload1 d_Bo_serves_15 ?_
    refine v_iaload d_Bo_serves_16 (sh_14 T) (by omega) (fun g16 => ?_)
    refine v_icmp_ge d_Bo_serves_17 (by omega) (by omega) (fun u17 => ?_) (fun u17 => ?_)
    · refine v_iconst d_Bo_serves_24 ?_
      first | exact v_zreturn hM d_Bo_serves_25 (Or.inr rfl) ⟨rfl, rfl, b01_1 (by omega)⟩ | exact v_zreturn hM d_Bo_serves_25 (Or.inl rfl) ⟨rfl, rfl, b01_0 (by omega)⟩ | exact v_zreturn hM d_Bo_serves_25 b01_or ⟨rfl, rfl, rfl⟩
    · refine v_iconst d_Bo_serves_20 ?_
      refine v_goto d_Bo_serves_21 ?_
      first | exact v_zreturn hM d_Bo_serves_25 (Or.inr rfl) ⟨rfl, rfl, b01_1 (by omega)⟩ | exact v_zreturn hM d_Bo_serves_25 (Or.inl rfl) ⟨rfl, rfl, b01_0 (by omega)⟩ | exact v_zreturn hM d_Bo_serves_25 b01_or ⟨rfl, rfl, rfl⟩

theorem c_Bo_latestOrder_6 {T : vSh} {σ : vMem} {cx : vCx} {A : Int → Int} (hC : CR σ A) (hO : okA A) {kind whose dd k : Int} (h0 : kind = 0 ∨ kind = 1) (h1 : vIn whose) (h2 : vIn dd) (h3 : vIn k) (hM : vM cx 0 0 (some .int) (rF (S0 ++ T) σ (latF A kind whose dd k (A 2).toNat))) : ∀ (n j : Nat) (best i : Int), (j : Int) + n = A 2 → i = j → best = latF A kind whose dd k j → vV cx y_Bo_latestOrder.cls prog_3_method_7_code 8 0 0 0 0 0 6 [some (.ref 10), some (.int (iI kind)), some (.int (iI whose)), some (.int (iI dd)), some (.int (iI k)), some (.int (iI best)), some (.int (iI i)), none] [] (S0 ++ T) σ := by
  intro n
  induction n with
  | zero =>
    intro j best i hj hi hb
    obtain ⟨⟨q0, q1, q2, q3, q4, q5, q6, q7⟩, hVi, hWe, hCo, hOf, hBo, hWo, hMo, hRe, hLi, hTa⟩ := id hO
    obtain ⟨⟨l0, l1, lV, lC, lZ, lS⟩, ⟨b0, b1, bO, bB⟩, ⟨w0, wR, wL⟩, ⟨t0, t1, t2, tR, tB⟩, ⟨n9, nW⟩, m0, mM⟩ := id hC
    have hr := latF_rng A kind whose dd k j
    refine v_iload6 d_Bo_latestOrder_6 ?_
    refine v_aload0 d_Bo_latestOrder_8 ?_
    refine v_getJ (ji := 5) d_Bo_latestOrder_9 f_Bo_43 (sh_10 T) rfl rfl (fun g9 => ?_)
    refine v_icmp_ge d_Bo_latestOrder_12 (by omega) (by omega) (fun u12 => ?_) (fun u12 => ?_)
    · refine v_iload5 d_Bo_latestOrder_114 ?_
      exact v_ireturn hM d_Bo_latestOrder_116 (by omega) ⟨rfl, rfl, by rw [hb]; congr 1; omega⟩
    · omega
  | succ n ih =>
    intro j best i hj hi hb
    obtain ⟨⟨q0, q1, q2, q3, q4, q5, q6, q7⟩, hVi, hWe, hCo, hOf, hBo, hWo, hMo, hRe, hLi, hTa⟩ := id hO
    obtain ⟨⟨l0, l1, lV, lC, lZ, lS⟩, ⟨b0, b1, bO, bB⟩, ⟨w0, wR, wL⟩, ⟨t0, t1, t2, tR, tB⟩, ⟨n9, nW⟩, m0, mM⟩ := id hC
    have hr := latF_rng A kind whose dd k j
    rw [← hb] at hr
    have hi2 := bB i (by omega) (by omega)
    have ek0 : kind = 0 → A (430 + 5 * i + (1 + kind)) = A (430 + 5 * i + 1) := fun h => by subst h; rfl
    have ek1 : kind = 1 → A (430 + 5 * i + (1 + kind)) = A (430 + 5 * i + 2) := fun h => by subst h; rfl
    refine v_iload6 d_Bo_latestOrder_6 ?_
    refine v_aload0 d_Bo_latestOrder_8 ?_
    refine v_getJ (ji := 5) d_Bo_latestOrder_9 f_Bo_43 (sh_10 T) rfl rfl (fun g9 => ?_)
    refine v_icmp_ge d_Bo_latestOrder_12 (by omega) (by omega) (fun u12 => ?_) (fun u12 => ?_)
    · omega
    · refine v_aload0 d_Bo_latestOrder_15 ?_
      refine v_getR d_Bo_latestOrder_16 f_Bo_24 (sh_10 T) rfl ?_
      refine v_iload6 d_Bo_latestOrder_19 ?_
      refine v_iaload d_Bo_latestOrder_21 (sh_15 T) (by omega) (fun g21 => ?_)
      refine v_iload1 d_Bo_latestOrder_22 ?_
      refine v_icmp_ne d_Bo_latestOrder_23 (by omega) (by omega) (fun u23 => ?_) (fun u23 => ?_)
      · refine v_iinc6 d_Bo_latestOrder_108 (by decide) rfl ?_
        refine v_goto d_Bo_latestOrder_111 ?_
        exact ih (j + 1) _ _ (by omega) (by omega) (by rw [latF, ← hb, ← hi]; split <;> omega)
      · refine v_aload0 d_Bo_latestOrder_26 ?_
        refine v_getR d_Bo_latestOrder_27 f_Bo_33 (sh_10 T) rfl ?_
        refine v_iload6 d_Bo_latestOrder_30 ?_
        refine v_iaload d_Bo_latestOrder_32 (sh_18 T) (by omega) (fun g32 => ?_)
        refine v_iload3 d_Bo_latestOrder_33 ?_
        refine v_icmp_gt d_Bo_latestOrder_34 (by omega) (by omega) (fun u34 => ?_) (fun u34 => ?_)
        · refine v_iinc6 d_Bo_latestOrder_108 (by decide) rfl ?_
          refine v_goto d_Bo_latestOrder_111 ?_
          exact ih (j + 1) _ _ (by omega) (by omega) (by rw [latF, ← hb, ← hi]; split <;> omega)
        · refine v_aload0 d_Bo_latestOrder_37 ?_
          refine v_getR d_Bo_latestOrder_38 f_Bo_36 (sh_10 T) rfl ?_
          refine v_iload6 d_Bo_latestOrder_41 ?_
          refine v_iaload d_Bo_latestOrder_43 (sh_19 T) (by omega) (fun g43 => ?_)
          refine v_iload4 d_Bo_latestOrder_44 ?_
          refine v_icmp_le d_Bo_latestOrder_46 (by omega) (by omega) (fun u46 => ?_) (fun u46 => ?_)
          · refine v_iload1 d_Bo_latestOrder_52 ?_
            refine v_if_ne d_Bo_latestOrder_53 (by omega) (fun u53 => ?_) (fun u53 => ?_)
            · refine v_aload0 d_Bo_latestOrder_66 ?_
              refine v_getR d_Bo_latestOrder_67 f_Bo_30 (sh_10 T) rfl ?_
              refine v_iload6 d_Bo_latestOrder_70 ?_
              refine v_iaload d_Bo_latestOrder_72 (sh_17 T) (by omega) (fun g72 => ?_)
              refine v_istore7 d_Bo_latestOrder_73 (by decide) rfl ?_
              refine v_iload7 d_Bo_latestOrder_75 ?_
              refine v_iload2 d_Bo_latestOrder_77 ?_
              refine v_icmp_ne d_Bo_latestOrder_78 (by omega) (by omega) (fun u78 => ?_) (fun u78 => ?_)
              · refine v_iinc6 d_Bo_latestOrder_108 (by decide) rfl ?_
                refine v_goto d_Bo_latestOrder_111 ?_
                refine v_drop7 ?_
                exact ih (j + 1) _ _ (by omega) (by omega) (by rw [latF, ← hb, ← hi]; split <;> omega)
              · refine v_iload5 d_Bo_latestOrder_81 ?_
                refine v_iconst d_Bo_latestOrder_83 ?_
                refine v_icmp_eq d_Bo_latestOrder_84 (by omega) (by omega) (fun u84 => ?_) (fun u84 => ?_)
                · refine v_iload6 d_Bo_latestOrder_104 ?_
                  refine v_istore5 d_Bo_latestOrder_106 (by decide) rfl ?_
                  refine v_iinc6 d_Bo_latestOrder_108 (by decide) rfl ?_
                  refine v_goto d_Bo_latestOrder_111 ?_
                  refine v_drop7 ?_
                  exact ih (j + 1) _ _ (by omega) (by omega) (by rw [latF, ← hb, ← hi]; split <;> omega)
                · have hi3 := bB best (by omega) (by omega)
                  refine v_aload0 d_Bo_latestOrder_87 ?_
                  refine v_getR d_Bo_latestOrder_88 f_Bo_33 (sh_10 T) rfl ?_
                  refine v_iload6 d_Bo_latestOrder_91 ?_
                  refine v_iaload d_Bo_latestOrder_93 (sh_18 T) (by omega) (fun g93 => ?_)
                  refine v_aload0 d_Bo_latestOrder_94 ?_
                  refine v_getR d_Bo_latestOrder_95 f_Bo_33 (sh_10 T) rfl ?_
                  refine v_iload5 d_Bo_latestOrder_98 ?_
                  refine v_iaload d_Bo_latestOrder_100 (sh_18 T) (by omega) (fun g100 => ?_)
                  refine v_icmp_lt d_Bo_latestOrder_101 (by omega) (by omega) (fun u101 => ?_) (fun u101 => ?_)
                  · refine v_iinc6 d_Bo_latestOrder_108 (by decide) rfl ?_
                    refine v_goto d_Bo_latestOrder_111 ?_
                    refine v_drop7 ?_
                    exact ih (j + 1) _ _ (by omega) (by omega) (by rw [latF, ← hb, ← hi]; split <;> omega)
                  · refine v_iload6 d_Bo_latestOrder_104 ?_
                    refine v_istore5 d_Bo_latestOrder_106 (by decide) rfl ?_
                    refine v_iinc6 d_Bo_latestOrder_108 (by decide) rfl ?_
                    refine v_goto d_Bo_latestOrder_111 ?_
                    refine v_drop7 ?_
                    exact ih (j + 1) _ _ (by omega) (by omega) (by rw [latF, ← hb, ← hi]; split <;> omega)
            · refine v_aload0 d_Bo_latestOrder_56 ?_
              refine v_getR d_Bo_latestOrder_57 f_Bo_27 (sh_10 T) rfl ?_
              refine v_iload6 d_Bo_latestOrder_60 ?_
              refine v_iaload d_Bo_latestOrder_62 (sh_16 T) (by omega) (fun g62 => ?_)
              refine v_goto d_Bo_latestOrder_63 ?_
              refine v_istore7 d_Bo_latestOrder_73 (by decide) rfl ?_
              refine v_iload7 d_Bo_latestOrder_75 ?_
              refine v_iload2 d_Bo_latestOrder_77 ?_
              refine v_icmp_ne d_Bo_latestOrder_78 (by omega) (by omega) (fun u78 => ?_) (fun u78 => ?_)
              · refine v_iinc6 d_Bo_latestOrder_108 (by decide) rfl ?_
                refine v_goto d_Bo_latestOrder_111 ?_
                refine v_drop7 ?_
                exact ih (j + 1) _ _ (by omega) (by omega) (by rw [latF, ← hb, ← hi]; split <;> omega)
              · refine v_iload5 d_Bo_latestOrder_81 ?_
                refine v_iconst d_Bo_latestOrder_83 ?_
                refine v_icmp_eq d_Bo_latestOrder_84 (by omega) (by omega) (fun u84 => ?_) (fun u84 => ?_)
                · refine v_iload6 d_Bo_latestOrder_104 ?_
                  refine v_istore5 d_Bo_latestOrder_106 (by decide) rfl ?_
                  refine v_iinc6 d_Bo_latestOrder_108 (by decide) rfl ?_
                  refine v_goto d_Bo_latestOrder_111 ?_
                  refine v_drop7 ?_
                  exact ih (j + 1) _ _ (by omega) (by omega) (by rw [latF, ← hb, ← hi]; split <;> omega)
                · have hi3 := bB best (by omega) (by omega)
                  refine v_aload0 d_Bo_latestOrder_87 ?_
                  refine v_getR d_Bo_latestOrder_88 f_Bo_33 (sh_10 T) rfl ?_
                  refine v_iload6 d_Bo_latestOrder_91 ?_
                  refine v_iaload d_Bo_latestOrder_93 (sh_18 T) (by omega) (fun g93 => ?_)
                  refine v_aload0 d_Bo_latestOrder_94 ?_
                  refine v_getR d_Bo_latestOrder_95 f_Bo_33 (sh_10 T) rfl ?_
                  refine v_iload5 d_Bo_latestOrder_98 ?_
                  refine v_iaload d_Bo_latestOrder_100 (sh_18 T) (by omega) (fun g100 => ?_)
                  refine v_icmp_lt d_Bo_latestOrder_101 (by omega) (by omega) (fun u101 => ?_) (fun u101 => ?_)
                  · refine v_iinc6 d_Bo_latestOrder_108 (by decide) rfl ?_
                    refine v_goto d_Bo_latestOrder_111 ?_
                    refine v_drop7 ?_
                    exact ih (j + 1) _ _ (by omega) (by omega) (by rw [latF, ← hb, ← hi]; split <;> omega)
                  · refine v_iload6 d_Bo_latestOrder_104 ?_
                    refine v_istore5 d_Bo_latestOrder_106 (by decide) rfl ?_
                    refine v_iinc6 d_Bo_latestOrder_108 (by decide) rfl ?_
                    refine v_goto d_Bo_latestOrder_111 ?_
                    refine v_drop7 ?_
                    exact ih (j + 1) _ _ (by omega) (by omega) (by rw [latF, ← hb, ← hi]; split <;> omega)
          · refine v_goto d_Bo_latestOrder_49 ?_
            refine v_iinc6 d_Bo_latestOrder_108 (by decide) rfl ?_
            refine v_goto d_Bo_latestOrder_111 ?_
            exact ih (j + 1) _ _ (by omega) (by omega) (by rw [latF, ← hb, ← hi]; split <;> omega)

theorem c_Bo_latestOrder {T : vSh} {σ : vMem} {A : Int → Int} (hC : CR σ A) (hO : okA A) {kind whose dd k : Int} (h0 : kind = 0 ∨ kind = 1) (h1 : vIn whose) (h2 : vIn dd) (h3 : vIn k) : mt_Bo_latestOrder [.ref 10, .int (iI kind), .int (iI whose), .int (iI dd), .int (iI k)] (S0 ++ T) σ (rF (S0 ++ T) σ (latF A kind whose dd k (A 2).toNat)) := by
  refine vMet.intro 3 (by decide +kernel) (Nat.le_of_ble_eq_true rfl) rfl (fun cx hM _ => ?_)
  have q2 := hO.1.2.2.1
  refine v_iconst d_Bo_latestOrder_0 ?_
  refine v_istore5 d_Bo_latestOrder_1 (by decide) rfl ?_
  refine v_iconst d_Bo_latestOrder_3 ?_
  refine v_istore6 d_Bo_latestOrder_4 (by decide) rfl ?_
  exact c_Bo_latestOrder_6 hC hO h0 h1 h2 h3 hM (A 2).toNat 0 _ _ (by omega) rfl rfl

theorem c_Bo_holderOn_29 {T : vSh} {σ : vMem} {cx : vCx} {A : Int → Int} (hC : CR σ A) (hO : okA A) {v dd k : Int} (h0 : vIn v) (h1 : 0 ≤ dd ∧ dd < 1200) (h2 : vIn k) (hM : vM cx 0 0 (some .int) (rF (S0 ++ T) σ (heldF A v dd k))) {i x : Int} (ex : x = ordH A v dd k) : vV cx y_Bo_holderOn.cls prog_3_method_5_code 6 1 0 0 0 0 29 [some (.ref 10), some (.int (iI v)), some (.int (iI dd)), some (.int (iI k)), some (.int (iI i)), some (.int (iI x))] [] (S0 ++ T) σ := by
  obtain ⟨⟨q0, q1, q2, q3, q4, q5, q6, q7⟩, hVi, hWe, hCo, hOf, hBo, hWo, hMo, hRe, hLi, hTa⟩ := id hO
  have hr := ordH_rng hO v dd k
  rw [← ex] at hr
  refine v_iload5 d_Bo_holderOn_29 ?_
  refine v_iconst d_Bo_holderOn_31 ?_
  refine v_icmp_eq d_Bo_holderOn_32 (by omega) (by omega) (fun u32 => ?_) (fun u32 => ?_)
  · refine v_iconst d_Bo_holderOn_50 ?_
    exact v_ireturn hM d_Bo_holderOn_51 (by omega) ⟨rfl, rfl, by unfold heldF; rw [← ex]; split <;> omega⟩
  · refine v_aload0 d_Bo_holderOn_35 ?_
    refine v_iload5 d_Bo_holderOn_36 ?_
    refine v_iload2 d_Bo_holderOn_38 ?_
    refine v_fVZ2 d_Bo_holderOn_39 l_Bo_50 k_Bo_serves (c_Bo_serves hC hO (by omega) (by omega)) (sh_10 T) rfl (by decide) (by decide) (Nat.le_of_ble_eq_true rfl) (Nat.zero_le _) (Nat.zero_le _) (fun g39 => ?_)
    refine v_ifb_eq d_Bo_holderOn_42 (fun u42 => ?_) (fun u42 => ?_)
    · refine v_iconst d_Bo_holderOn_50 ?_
      exact v_ireturn hM d_Bo_holderOn_51 (by omega) ⟨rfl, rfl, by unfold heldF; rw [← ex]; split <;> omega⟩
    · refine v_iload5 d_Bo_holderOn_45 ?_
      refine v_goto d_Bo_holderOn_47 ?_
      exact v_ireturn hM d_Bo_holderOn_51 (by omega) ⟨rfl, rfl, by unfold heldF; rw [← ex]; split <;> omega⟩

theorem c_Bo_holderOn {T : vSh} {σ : vMem} {A : Int → Int} (hC : CR σ A) (hO : okA A) {v dd k : Int} (h0 : vIn v) (h1 : 0 ≤ dd ∧ dd < 1200) (h2 : vIn k) : mt_Bo_holderOn [.ref 10, .int (iI v), .int (iI dd), .int (iI k)] (S0 ++ T) σ (rF (S0 ++ T) σ (heldF A v dd k)) := by
  refine vMet.intro 2 (by decide +kernel) (Nat.le_of_ble_eq_true rfl) rfl (fun cx hM _ => ?_)
  obtain ⟨⟨q0, q1, q2, q3, q4, q5, q6, q7⟩, hVi, hWe, hCo, hOf, hBo, hWo, hMo, hRe, hLi, hTa⟩ := id hO
  obtain ⟨⟨l0, l1, lV, lC, lZ, lS⟩, ⟨b0, b1, bO, bB⟩, ⟨w0, wR, wL⟩, ⟨t0, t1, t2, tR, tB⟩, ⟨n9, nW⟩, m0, mM⟩ := id hC
  refine v_aload0 d_Bo_holderOn_0 ?_
  refine v_iconst d_Bo_holderOn_1 ?_
  refine v_iload1 d_Bo_holderOn_2 ?_
  refine v_iload2 d_Bo_holderOn_3 ?_
  refine v_iload3 d_Bo_holderOn_4 ?_
  refine v_fVI4 d_Bo_holderOn_5 l_Bo_46 k_Bo_latestOrder (c_Bo_latestOrder hC hO (by omega) (by omega) (by omega) (by omega)) (sh_10 T) rfl (by decide) (by decide) (Nat.le_of_ble_eq_true rfl) (Nat.zero_le _) (Nat.zero_le _) (fun g5 => ?_)
  have hr := latF_rng A 0 v dd k (A 2).toNat
  refine v_istore4 d_Bo_holderOn_8 (by decide) rfl ?_
  refine v_iload4 d_Bo_holderOn_10 ?_
  refine v_iconst d_Bo_holderOn_12 ?_
  refine v_icmp_ne d_Bo_holderOn_13 (by omega) (by omega) (fun u13 => ?_) (fun u13 => ?_)
  · refine v_aload0 d_Bo_holderOn_20 ?_
    refine v_getR d_Bo_holderOn_21 f_Bo_30 (sh_10 T) rfl ?_
    refine v_iload4 d_Bo_holderOn_24 ?_
    refine v_iaload d_Bo_holderOn_26 (sh_17 T) (by omega) (fun g26 => ?_)
    refine v_istore5 d_Bo_holderOn_27 (by decide) rfl ?_
    exact c_Bo_holderOn_29 hC hO h0 h1 h2 hM (by unfold ordH; rw [if_neg (by omega)]; have := bB (latF A 0 v dd k (A 2).toNat) (by omega) (by omega); omega)
  · refine v_iconst d_Bo_holderOn_16 ?_
    refine v_goto d_Bo_holderOn_17 ?_
    refine v_istore5 d_Bo_holderOn_27 (by decide) rfl ?_
    exact c_Bo_holderOn_29 hC hO h0 h1 h2 hM (by unfold ordH; rw [if_pos (by omega)])

theorem c_Bo_rankOn {T : vSh} {σ : vMem} {A : Int → Int} (hC : CR σ A) (hO : okA A) {oo dd k : Int} (h0 : 0 ≤ oo ∧ oo < A 1) (h1 : vIn dd) (h2 : vIn k) : mt_Bo_rankOn [.ref 10, .int (iI oo), .int (iI dd), .int (iI k)] (S0 ++ T) σ (rF (S0 ++ T) σ (rankF A oo dd k)) := by
  refine vMet.intro 1 (by decide +kernel) (Nat.le_of_ble_eq_true rfl) rfl (fun cx hM _ => ?_)
  obtain ⟨⟨q0, q1, q2, q3, q4, q5, q6, q7⟩, hVi, hWe, hCo, hOf, hBo, hWo, hMo, hRe, hLi, hTa⟩ := id hO
  obtain ⟨⟨l0, l1, lV, lC, lZ, lS⟩, ⟨b0, b1, bO, bB⟩, ⟨w0, wR, wL⟩, ⟨t0, t1, t2, tR, tB⟩, ⟨n9, nW⟩, m0, mM⟩ := id hC
  refine v_aload0 d_Bo_rankOn_0 ?_
  refine v_iconst d_Bo_rankOn_1 ?_
  refine v_iload1 d_Bo_rankOn_2 ?_
  refine v_iload2 d_Bo_rankOn_3 ?_
  refine v_iload3 d_Bo_rankOn_4 ?_
  refine v_fVI4 d_Bo_rankOn_5 l_Bo_46 k_Bo_latestOrder (c_Bo_latestOrder hC hO (by omega) (by omega) (by omega) (by omega)) (sh_10 T) rfl (by decide) (by decide) (Nat.le_of_ble_eq_true rfl) (Nat.zero_le _) (Nat.zero_le _) (fun g5 => ?_)
  have hr := latF_rng A 1 oo dd k (A 2).toNat
  refine v_istore4 d_Bo_rankOn_8 (by decide) rfl ?_
  refine v_iload4 d_Bo_rankOn_10 ?_
  refine v_iconst d_Bo_rankOn_12 ?_
  refine v_icmp_ne d_Bo_rankOn_13 (by omega) (by omega) (fun u13 => ?_) (fun u13 => ?_)
  · refine v_aload0 d_Bo_rankOn_25 ?_
    refine v_getR d_Bo_rankOn_26 f_Bo_27 (sh_10 T) rfl ?_
    refine v_iload4 d_Bo_rankOn_29 ?_
    refine v_iaload d_Bo_rankOn_31 (sh_16 T) (by omega) (fun g31 => ?_)
    exact v_ireturn hM d_Bo_rankOn_32 (by omega) ⟨rfl, rfl, by unfold rankF; rw [if_neg (by omega)]; have := bB (latF A 1 oo dd k (A 2).toNat) (by omega) (by omega); omega⟩
  · refine v_aload0 d_Bo_rankOn_16 ?_
    refine v_getR d_Bo_rankOn_17 f_Bo_9 (sh_10 T) rfl ?_
    refine v_iload1 d_Bo_rankOn_20 ?_
    refine v_iaload d_Bo_rankOn_21 (sh_11 T) (by omega) (fun g21 => ?_)
    refine v_goto d_Bo_rankOn_22 ?_
    exact v_ireturn hM d_Bo_rankOn_32 (by omega) ⟨rfl, rfl, by unfold rankF; rw [if_pos (by omega)]; have := bO oo (by omega) (by omega); omega⟩

theorem c_St_holderToday {T : vSh} {σ : vMem} {A : Int → Int} (hC : CR σ A) (hO : okA A) {v : Int} (h0 : vIn v) : mt_St_holderToday [.ref 1, .int (iI v)] (S0 ++ T) σ (rF (S0 ++ T) σ (heldF A v (A 4) (A 4))) := by
  refine vMet.intro 0 (by decide +kernel) (Nat.le_of_ble_eq_true rfl) rfl (fun cx hM _ => ?_)
  obtain ⟨⟨q0, q1, q2, q3, q4, q5, q6, q7⟩, hVi, hWe, hCo, hOf, hBo, hWo, hMo, hRe, hLi, hTa⟩ := id hO
  obtain ⟨⟨l0, l1, lV, lC, lZ, lS⟩, ⟨b0, b1, bO, bB⟩, ⟨w0, wR, wL⟩, ⟨t0, t1, t2, tR, tB⟩, ⟨n9, nW⟩, m0, mM⟩ := id hC
  refine v_aload0 d_St_holderToday_0 ?_
  refine v_getR d_St_holderToday_1 f_St_19 (sh_1 T) rfl ?_
  refine v_iload1 d_St_holderToday_4 ?_
  refine v_aload0 d_St_holderToday_5 ?_
  refine v_getR d_St_holderToday_6 f_St_10 (sh_1 T) rfl ?_
  refine v_getJ (ji := 0) d_St_holderToday_9 f_St_53 (sh_2 T) rfl rfl (fun g9 => ?_)
  refine v_aload0 d_St_holderToday_12 ?_
  refine v_getR d_St_holderToday_13 f_St_10 (sh_1 T) rfl ?_
  refine v_getJ (ji := 0) d_St_holderToday_16 f_St_53 (sh_2 T) rfl rfl (fun g16 => ?_)
  refine v_fVI3 d_St_holderToday_19 l_St_57 k_Bo_holderOn (c_Bo_holderOn hC hO (by omega) (by omega) (by omega)) (sh_10 T) rfl (by decide) (by decide) (Nat.le_of_ble_eq_true rfl) (Nat.zero_le _) (Nat.zero_le _) (fun g19 => ?_)
  exact v_ireturn hM d_St_holderToday_22 (by omega) ⟨rfl, rfl, by rw [l0]⟩

theorem c_Ne_lastWord_6 {T : vSh} {σ : vMem} {cx : vCx} {A : Int → Int} (hC : CR σ A) (hO : okA A) {w v s k : Int} (h0 : vIn w) (h1 : vIn v) (h2 : vIn s) (h3 : vIn k) (hM : vM cx 0 0 (some .int) (rF (S0 ++ T) σ (lastW A w v s k))) : ∀ (n j : Nat) (best i : Int), (j : Int) + n = A 6 → i = j → best = lastF A w v s k j → vV cx y_Ne_lastWord.cls prog_8_method_6_code 8 0 0 0 0 0 6 [some (.ref 32), some (.int (iI w)), some (.int (iI v)), some (.int (iI s)), some (.int (iI k)), some (.int (iI best)), some (.int (iI i)), none] [] (S0 ++ T) σ := by
  intro n
  induction n with
  | zero =>
    intro j best i hj hi hb
    obtain ⟨⟨q0, q1, q2, q3, q4, q5, q6, q7⟩, hVi, hWe, hCo, hOf, hBo, hWo, hMo, hRe, hLi, hTa⟩ := id hO
    obtain ⟨⟨l0, l1, lV, lC, lZ, lS⟩, ⟨b0, b1, bO, bB⟩, ⟨w0, wR, wL⟩, ⟨t0, t1, t2, tR, tB⟩, ⟨n9, nW⟩, m0, mM⟩ := id hC
    have hr := lastF_rng A w v s k j
    refine v_iload6 d_Ne_lastWord_6 ?_
    refine v_aload0 d_Ne_lastWord_8 ?_
    refine v_getJ (ji := 1) d_Ne_lastWord_9 f_Ne_31 (sh_32 T) rfl rfl (fun g9 => ?_)
    refine v_icmp_ge d_Ne_lastWord_12 (by omega) (by omega) (fun u12 => ?_) (fun u12 => ?_)
    · refine v_iload5 d_Ne_lastWord_82 ?_
      exact v_ireturn hM d_Ne_lastWord_84 (by omega) ⟨rfl, rfl, by rw [hb, lastW]; congr 1; omega⟩
    · omega
  | succ n ih =>
    intro j best i hj hi hb
    obtain ⟨⟨q0, q1, q2, q3, q4, q5, q6, q7⟩, hVi, hWe, hCo, hOf, hBo, hWo, hMo, hRe, hLi, hTa⟩ := id hO
    obtain ⟨⟨l0, l1, lV, lC, lZ, lS⟩, ⟨b0, b1, bO, bB⟩, ⟨w0, wR, wL⟩, ⟨t0, t1, t2, tR, tB⟩, ⟨n9, nW⟩, m0, mM⟩ := id hC
    have hi2 := nW i (by omega) (by omega)
    refine v_iload6 d_Ne_lastWord_6 ?_
    refine v_aload0 d_Ne_lastWord_8 ?_
    refine v_getJ (ji := 1) d_Ne_lastWord_9 f_Ne_31 (sh_32 T) rfl rfl (fun g9 => ?_)
    refine v_icmp_ge d_Ne_lastWord_12 (by omega) (by omega) (fun u12 => ?_) (fun u12 => ?_)
    · omega
    · refine v_aload0 d_Ne_lastWord_15 ?_
      refine v_getR d_Ne_lastWord_16 f_Ne_9 (sh_32 T) rfl ?_
      refine v_iload6 d_Ne_lastWord_19 ?_
      refine v_iaload d_Ne_lastWord_21 (sh_33 T) (by omega) (fun g21 => ?_)
      refine v_iload1 d_Ne_lastWord_22 ?_
      refine v_icmp_ne d_Ne_lastWord_23 (by omega) (by omega) (fun u23 => ?_) (fun u23 => ?_)
      · refine v_iconst d_Ne_lastWord_52 ?_
        refine v_istore7 d_Ne_lastWord_53 (by decide) rfl ?_
        refine v_iload7 d_Ne_lastWord_55 ?_
        refine v_if_eq d_Ne_lastWord_57 (by omega) (fun u57 => ?_) (fun u57 => ?_)
        · refine v_iinc6 d_Ne_lastWord_76 (by decide) rfl ?_
          refine v_goto d_Ne_lastWord_79 ?_
          refine v_drop7 ?_
          exact ih (j + 1) _ _ (by omega) (by omega) (by rw [lastF, ← hb, ← hi]; split <;> omega)
        · refine v_aload0 d_Ne_lastWord_60 ?_
          refine v_getR d_Ne_lastWord_61 f_Ne_24 (sh_32 T) rfl ?_
          refine v_iload6 d_Ne_lastWord_64 ?_
          refine v_iaload d_Ne_lastWord_66 (sh_37 T) (by omega) (fun g66 => ?_)
          refine v_iload4 d_Ne_lastWord_67 ?_
          refine v_icmp_gt d_Ne_lastWord_69 (by omega) (by omega) (fun u69 => ?_) (fun u69 => ?_)
          · refine v_iinc6 d_Ne_lastWord_76 (by decide) rfl ?_
            refine v_goto d_Ne_lastWord_79 ?_
            refine v_drop7 ?_
            exact ih (j + 1) _ _ (by omega) (by omega) (by rw [lastF, ← hb, ← hi]; split <;> omega)
          · refine v_iload6 d_Ne_lastWord_72 ?_
            refine v_istore5 d_Ne_lastWord_74 (by decide) rfl ?_
            refine v_iinc6 d_Ne_lastWord_76 (by decide) rfl ?_
            refine v_goto d_Ne_lastWord_79 ?_
            refine v_drop7 ?_
            exact ih (j + 1) _ _ (by omega) (by omega) (by rw [lastF, ← hb, ← hi]; split <;> omega)
      · refine v_aload0 d_Ne_lastWord_26 ?_
        refine v_getR d_Ne_lastWord_27 f_Ne_15 (sh_32 T) rfl ?_
        refine v_iload6 d_Ne_lastWord_30 ?_
        refine v_iaload d_Ne_lastWord_32 (sh_34 T) (by omega) (fun g32 => ?_)
        refine v_iload2 d_Ne_lastWord_33 ?_
        refine v_icmp_ne d_Ne_lastWord_34 (by omega) (by omega) (fun u34 => ?_) (fun u34 => ?_)
        · refine v_iconst d_Ne_lastWord_52 ?_
          refine v_istore7 d_Ne_lastWord_53 (by decide) rfl ?_
          refine v_iload7 d_Ne_lastWord_55 ?_
          refine v_if_eq d_Ne_lastWord_57 (by omega) (fun u57 => ?_) (fun u57 => ?_)
          · refine v_iinc6 d_Ne_lastWord_76 (by decide) rfl ?_
            refine v_goto d_Ne_lastWord_79 ?_
            refine v_drop7 ?_
            exact ih (j + 1) _ _ (by omega) (by omega) (by rw [lastF, ← hb, ← hi]; split <;> omega)
          · refine v_aload0 d_Ne_lastWord_60 ?_
            refine v_getR d_Ne_lastWord_61 f_Ne_24 (sh_32 T) rfl ?_
            refine v_iload6 d_Ne_lastWord_64 ?_
            refine v_iaload d_Ne_lastWord_66 (sh_37 T) (by omega) (fun g66 => ?_)
            refine v_iload4 d_Ne_lastWord_67 ?_
            refine v_icmp_gt d_Ne_lastWord_69 (by omega) (by omega) (fun u69 => ?_) (fun u69 => ?_)
            · refine v_iinc6 d_Ne_lastWord_76 (by decide) rfl ?_
              refine v_goto d_Ne_lastWord_79 ?_
              refine v_drop7 ?_
              exact ih (j + 1) _ _ (by omega) (by omega) (by rw [lastF, ← hb, ← hi]; split <;> omega)
            · refine v_iload6 d_Ne_lastWord_72 ?_
              refine v_istore5 d_Ne_lastWord_74 (by decide) rfl ?_
              refine v_iinc6 d_Ne_lastWord_76 (by decide) rfl ?_
              refine v_goto d_Ne_lastWord_79 ?_
              refine v_drop7 ?_
              exact ih (j + 1) _ _ (by omega) (by omega) (by rw [lastF, ← hb, ← hi]; split <;> omega)
        · refine v_aload0 d_Ne_lastWord_37 ?_
          refine v_getR d_Ne_lastWord_38 f_Ne_18 (sh_32 T) rfl ?_
          refine v_iload6 d_Ne_lastWord_41 ?_
          refine v_iaload d_Ne_lastWord_43 (sh_35 T) (by omega) (fun g43 => ?_)
          refine v_iload3 d_Ne_lastWord_44 ?_
          refine v_icmp_ne d_Ne_lastWord_45 (by omega) (by omega) (fun u45 => ?_) (fun u45 => ?_)
          · refine v_iconst d_Ne_lastWord_52 ?_
            refine v_istore7 d_Ne_lastWord_53 (by decide) rfl ?_
            refine v_iload7 d_Ne_lastWord_55 ?_
            refine v_if_eq d_Ne_lastWord_57 (by omega) (fun u57 => ?_) (fun u57 => ?_)
            · refine v_iinc6 d_Ne_lastWord_76 (by decide) rfl ?_
              refine v_goto d_Ne_lastWord_79 ?_
              refine v_drop7 ?_
              exact ih (j + 1) _ _ (by omega) (by omega) (by rw [lastF, ← hb, ← hi]; split <;> omega)
            · refine v_aload0 d_Ne_lastWord_60 ?_
              refine v_getR d_Ne_lastWord_61 f_Ne_24 (sh_32 T) rfl ?_
              refine v_iload6 d_Ne_lastWord_64 ?_
              refine v_iaload d_Ne_lastWord_66 (sh_37 T) (by omega) (fun g66 => ?_)
              refine v_iload4 d_Ne_lastWord_67 ?_
              refine v_icmp_gt d_Ne_lastWord_69 (by omega) (by omega) (fun u69 => ?_) (fun u69 => ?_)
              · refine v_iinc6 d_Ne_lastWord_76 (by decide) rfl ?_
                refine v_goto d_Ne_lastWord_79 ?_
                refine v_drop7 ?_
                exact ih (j + 1) _ _ (by omega) (by omega) (by rw [lastF, ← hb, ← hi]; split <;> omega)
              · refine v_iload6 d_Ne_lastWord_72 ?_
                refine v_istore5 d_Ne_lastWord_74 (by decide) rfl ?_
                refine v_iinc6 d_Ne_lastWord_76 (by decide) rfl ?_
                refine v_goto d_Ne_lastWord_79 ?_
                refine v_drop7 ?_
                exact ih (j + 1) _ _ (by omega) (by omega) (by rw [lastF, ← hb, ← hi]; split <;> omega)
          · refine v_iconst d_Ne_lastWord_48 ?_
            refine v_goto d_Ne_lastWord_49 ?_
            refine v_istore7 d_Ne_lastWord_53 (by decide) rfl ?_
            refine v_iload7 d_Ne_lastWord_55 ?_
            refine v_if_eq d_Ne_lastWord_57 (by omega) (fun u57 => ?_) (fun u57 => ?_)
            · refine v_iinc6 d_Ne_lastWord_76 (by decide) rfl ?_
              refine v_goto d_Ne_lastWord_79 ?_
              refine v_drop7 ?_
              exact ih (j + 1) _ _ (by omega) (by omega) (by rw [lastF, ← hb, ← hi]; split <;> omega)
            · refine v_aload0 d_Ne_lastWord_60 ?_
              refine v_getR d_Ne_lastWord_61 f_Ne_24 (sh_32 T) rfl ?_
              refine v_iload6 d_Ne_lastWord_64 ?_
              refine v_iaload d_Ne_lastWord_66 (sh_37 T) (by omega) (fun g66 => ?_)
              refine v_iload4 d_Ne_lastWord_67 ?_
              refine v_icmp_gt d_Ne_lastWord_69 (by omega) (by omega) (fun u69 => ?_) (fun u69 => ?_)
              · refine v_iinc6 d_Ne_lastWord_76 (by decide) rfl ?_
                refine v_goto d_Ne_lastWord_79 ?_
                refine v_drop7 ?_
                exact ih (j + 1) _ _ (by omega) (by omega) (by rw [lastF, ← hb, ← hi]; split <;> omega)
              · refine v_iload6 d_Ne_lastWord_72 ?_
                refine v_istore5 d_Ne_lastWord_74 (by decide) rfl ?_
                refine v_iinc6 d_Ne_lastWord_76 (by decide) rfl ?_
                refine v_goto d_Ne_lastWord_79 ?_
                refine v_drop7 ?_
                exact ih (j + 1) _ _ (by omega) (by omega) (by rw [lastF, ← hb, ← hi]; split <;> omega)

theorem c_Ne_lastWord {T : vSh} {σ : vMem} {A : Int → Int} (hC : CR σ A) (hO : okA A) {w v s k : Int} (h0 : vIn w) (h1 : vIn v) (h2 : vIn s) (h3 : vIn k) : mt_Ne_lastWord [.ref 32, .int (iI w), .int (iI v), .int (iI s), .int (iI k)] (S0 ++ T) σ (rF (S0 ++ T) σ (lastW A w v s k)) := by
  refine vMet.intro 3 (by decide +kernel) (Nat.le_of_ble_eq_true rfl) rfl (fun cx hM _ => ?_)
  have q2 := hO.1.2.2.2.2.2.2.1
  refine v_iconst d_Ne_lastWord_0 ?_
  refine v_istore5 d_Ne_lastWord_1 (by decide) rfl ?_
  refine v_iconst d_Ne_lastWord_3 ?_
  refine v_istore6 d_Ne_lastWord_4 (by decide) rfl ?_
  exact c_Ne_lastWord_6 hC hO h0 h1 h2 h3 hM (A 6).toNat 0 _ _ (by omega) rfl rfl

theorem c_Ne_isProven_6 {T : vSh} {σ : vMem} {cx : vCx} {A : Int → Int} (hC : CR σ A) (hO : okA A) {v s k : Int} (h0 : 0 ≤ v ∧ v < A 0) (h1 : vIn s) (h2 : vIn k) (hM : vM cx 0 0 (some .boolean) (rF (S0 ++ T) σ (b01 (famP A v s k)))) : ∀ (n j : Nat) (n0 i : Int), (j : Int) + n = 5 → i = j → n0 = famN A v s k j → vV cx y_Ne_isProven.cls prog_8_method_7_code 7 1 0 0 0 0 6 [some (.ref 32), some (.int (iI v)), some (.int (iI s)), some (.int (iI k)), some (.int (iI n0)), some (.int (iI i)), none] [] (S0 ++ T) σ := by
  intro n
  induction n with
  | zero =>
    intro j n0 i hj hi hn0
    obtain ⟨⟨q0, q1, q2, q3, q4, q5, q6, q7⟩, hVi, hWe, hCo, hOf, hBo, hWo, hMo, hRe, hLi, hTa⟩ := id hO
    obtain ⟨⟨l0, l1, lV, lC, lZ, lS⟩, ⟨b0, b1, bO, bB⟩, ⟨w0, wR, wL⟩, ⟨t0, t1, t2, tR, tB⟩, ⟨n9, nW⟩, m0, mM⟩ := id hC
    have hr := famN_rng A v s k j
    obtain rfl : j = 5 := by omega
    refine v_iload5 d_Ne_isProven_6 ?_
    refine v_iconst d_Ne_isProven_8 ?_
    refine v_icmp_ge d_Ne_isProven_9 (by omega) (by omega) (fun u9 => ?_) (fun u9 => ?_)
    · refine v_iload4 d_Ne_isProven_59 ?_
      refine v_iconst d_Ne_isProven_61 ?_
      refine v_icmp_lt d_Ne_isProven_62 (by omega) (by omega) (fun u62 => ?_) (fun u62 => ?_)
      · refine v_iconst d_Ne_isProven_69 ?_
        first | exact v_zreturn hM d_Ne_isProven_70 (Or.inr rfl) ⟨rfl, rfl, b01_1 (by omega)⟩ | exact v_zreturn hM d_Ne_isProven_70 (Or.inl rfl) ⟨rfl, rfl, b01_0 (by omega)⟩
      · refine v_iconst d_Ne_isProven_65 ?_
        refine v_goto d_Ne_isProven_66 ?_
        first | exact v_zreturn hM d_Ne_isProven_70 (Or.inr rfl) ⟨rfl, rfl, b01_1 (by omega)⟩ | exact v_zreturn hM d_Ne_isProven_70 (Or.inl rfl) ⟨rfl, rfl, b01_0 (by omega)⟩
    · omega
  | succ n ih =>
    intro j n0 i hj hi hn0
    obtain ⟨⟨q0, q1, q2, q3, q4, q5, q6, q7⟩, hVi, hWe, hCo, hOf, hBo, hWo, hMo, hRe, hLi, hTa⟩ := id hO
    obtain ⟨⟨l0, l1, lV, lC, lZ, lS⟩, ⟨b0, b1, bO, bB⟩, ⟨w0, wR, wL⟩, ⟨t0, t1, t2, tR, tB⟩, ⟨n9, nW⟩, m0, mM⟩ := id hC
    have hr := famN_rng A v s k j
    have hv := lV v (by omega) (by omega)
    refine v_iload5 d_Ne_isProven_6 ?_
    refine v_iconst d_Ne_isProven_8 ?_
    refine v_icmp_ge d_Ne_isProven_9 (by omega) (by omega) (fun u9 => ?_) (fun u9 => ?_)
    · omega
    · refine v_aload0 d_Ne_isProven_12 ?_
      refine v_iload5 d_Ne_isProven_13 ?_
      refine v_iload1 d_Ne_isProven_15 ?_
      refine v_iload2 d_Ne_isProven_16 ?_
      refine v_iload3 d_Ne_isProven_17 ?_
      refine v_fVI4 d_Ne_isProven_18 l_Ne_51 k_Ne_lastWord (c_Ne_lastWord hC hO (by omega) (by omega) (by omega) (by omega)) (sh_32 T) rfl (by decide) (by decide) (Nat.le_of_ble_eq_true rfl) (Nat.zero_le _) (Nat.zero_le _) (fun g18 => ?_)
      have hr2 := lastW_rng A i v s k (by omega)
      refine v_istore6 d_Ne_isProven_21 (by decide) rfl ?_
      refine v_iload6 d_Ne_isProven_23 ?_
      refine v_iconst d_Ne_isProven_25 ?_
      refine v_icmp_eq d_Ne_isProven_26 (by omega) (by omega) (fun u26 => ?_) (fun u26 => ?_)
      · refine v_iinc5 d_Ne_isProven_53 (by decide) rfl ?_
        refine v_goto d_Ne_isProven_56 ?_
        refine v_drop6 ?_
        first | exact ih (j + 1) _ _ (by omega) (by omega) (by rw [famN, ← hn0, ← hi]; have e := b01_0 (p := 0 ≤ lastW A i v s k ∧ 4 * A (930 + 5 * lastW A i v s k + 3) < A (40 + 6 * v + 0)) (by omega); omega) | exact ih (j + 1) _ _ (by omega) (by omega) (by rw [famN, ← hn0, ← hi]; have e := b01_1 (p := 0 ≤ lastW A i v s k ∧ 4 * A (930 + 5 * lastW A i v s k + 3) < A (40 + 6 * v + 0)) (by omega); omega)
      · have hw := hWo (lastW A i v s k) (by omega) (by omega)
        have hw2 := nW (lastW A i v s k) (by omega) (by omega)
        refine v_iconst d_Ne_isProven_29 ?_
        refine v_aload0 d_Ne_isProven_30 ?_
        refine v_getR d_Ne_isProven_31 f_Ne_21 (sh_32 T) rfl ?_
        refine v_iload6 d_Ne_isProven_34 ?_
        refine v_iaload d_Ne_isProven_36 (sh_36 T) (by omega) (fun g36 => ?_)
        refine v_imul d_Ne_isProven_37 ?_
        refine v_aload0 d_Ne_isProven_38 ?_
        refine v_getR d_Ne_isProven_39 f_Ne_27 (sh_32 T) rfl ?_
        refine v_getR d_Ne_isProven_42 f_Ne_58 (sh_2 T) rfl ?_
        refine v_iload1 d_Ne_isProven_45 ?_
        refine v_iaload d_Ne_isProven_46 (sh_3 T) (by omega) (fun g46 => ?_)
        refine v_icmp_ge d_Ne_isProven_47 (by omega) (by omega) (fun u47 => ?_) (fun u47 => ?_)
        · refine v_iinc5 d_Ne_isProven_53 (by decide) rfl ?_
          refine v_goto d_Ne_isProven_56 ?_
          refine v_drop6 ?_
          first | exact ih (j + 1) _ _ (by omega) (by omega) (by rw [famN, ← hn0, ← hi]; have e := b01_0 (p := 0 ≤ lastW A i v s k ∧ 4 * A (930 + 5 * lastW A i v s k + 3) < A (40 + 6 * v + 0)) (by omega); omega) | exact ih (j + 1) _ _ (by omega) (by omega) (by rw [famN, ← hn0, ← hi]; have e := b01_1 (p := 0 ≤ lastW A i v s k ∧ 4 * A (930 + 5 * lastW A i v s k + 3) < A (40 + 6 * v + 0)) (by omega); omega)
        · refine v_iinc4 d_Ne_isProven_50 (by decide) rfl ?_
          refine v_iinc5 d_Ne_isProven_53 (by decide) rfl ?_
          refine v_goto d_Ne_isProven_56 ?_
          refine v_drop6 ?_
          first | exact ih (j + 1) _ _ (by omega) (by omega) (by rw [famN, ← hn0, ← hi]; have e := b01_0 (p := 0 ≤ lastW A i v s k ∧ 4 * A (930 + 5 * lastW A i v s k + 3) < A (40 + 6 * v + 0)) (by omega); omega) | exact ih (j + 1) _ _ (by omega) (by omega) (by rw [famN, ← hn0, ← hi]; have e := b01_1 (p := 0 ≤ lastW A i v s k ∧ 4 * A (930 + 5 * lastW A i v s k + 3) < A (40 + 6 * v + 0)) (by omega); omega)

theorem c_Ne_isProven {T : vSh} {σ : vMem} {A : Int → Int} (hC : CR σ A) (hO : okA A) {v s k : Int} (h0 : 0 ≤ v ∧ v < A 0) (h1 : vIn s) (h2 : vIn k) : mt_Ne_isProven [.ref 32, .int (iI v), .int (iI s), .int (iI k)] (S0 ++ T) σ (rF (S0 ++ T) σ (b01 (famP A v s k))) := by
  refine vMet.intro 3 (by decide +kernel) (Nat.le_of_ble_eq_true rfl) rfl (fun cx hM _ => ?_)
  refine v_iconst d_Ne_isProven_0 ?_
  refine v_istore4 d_Ne_isProven_1 (by decide) rfl ?_
  refine v_iconst d_Ne_isProven_3 ?_
  refine v_istore5 d_Ne_isProven_4 (by decide) rfl ?_
  exact c_Ne_isProven_6 hC hO h0 h1 h2 hM 5 0 _ _ (by omega) rfl rfl

theorem c_Lw_reignOn_4 {T : vSh} {σ : vMem} {cx : vCx} {A : Int → Int} (hC : CR σ A) (hO : okA A) {dd : Int} (h1 : vIn dd) (hM : vM cx 0 0 (some .int) (rF (S0 ++ T) σ (reF A dd (A 3).toNat))) : ∀ (n j : Nat) (r i : Int), (j : Int) + n = A 3 → i = j → r = reF A dd j → vV cx y_Lw_reignOn.cls prog_6_method_3_code 4 0 0 0 0 0 4 [some (.ref 20), some (.int (iI dd)), some (.int (iI r)), some (.int (iI i))] [] (S0 ++ T) σ := by
  intro n
  induction n with
  | zero =>
    intro j r i hj hi hr
    obtain ⟨⟨q0, q1, q2, q3, q4, q5, q6, q7⟩, hVi, hWe, hCo, hOf, hBo, hWo, hMo, hRe, hLi, hTa⟩ := id hO
    obtain ⟨⟨l0, l1, lV, lC, lZ, lS⟩, ⟨b0, b1, bO, bB⟩, ⟨w0, wR, wL⟩, ⟨t0, t1, t2, tR, tB⟩, ⟨n9, nW⟩, m0, mM⟩ := id hC
    have hrr := reF_rng A dd j
    refine v_iload3 d_Lw_reignOn_4 ?_
    refine v_aload0 d_Lw_reignOn_5 ?_
    refine v_getJ (ji := 0) d_Lw_reignOn_6 f_Lw_40 (sh_20 T) rfl rfl (fun g6 => ?_)
    refine v_icmp_ge d_Lw_reignOn_9 (by omega) (by omega) (fun u9 => ?_) (fun u9 => ?_)
    · refine v_iload2 d_Lw_reignOn_30 ?_
      exact v_ireturn hM d_Lw_reignOn_31 (by omega) ⟨rfl, rfl, by rw [hr]; congr 1; omega⟩
    · omega
  | succ n ih =>
    intro j r i hj hi hr
    obtain ⟨⟨q0, q1, q2, q3, q4, q5, q6, q7⟩, hVi, hWe, hCo, hOf, hBo, hWo, hMo, hRe, hLi, hTa⟩ := id hO
    obtain ⟨⟨l0, l1, lV, lC, lZ, lS⟩, ⟨b0, b1, bO, bB⟩, ⟨w0, wR, wL⟩, ⟨t0, t1, t2, tR, tB⟩, ⟨n9, nW⟩, m0, mM⟩ := id hC
    have hi2 := wR i (by omega) (by omega)
    refine v_iload3 d_Lw_reignOn_4 ?_
    refine v_aload0 d_Lw_reignOn_5 ?_
    refine v_getJ (ji := 0) d_Lw_reignOn_6 f_Lw_40 (sh_20 T) rfl rfl (fun g6 => ?_)
    refine v_icmp_ge d_Lw_reignOn_9 (by omega) (by omega) (fun u9 => ?_) (fun u9 => ?_)
    · omega
    · refine v_aload0 d_Lw_reignOn_12 ?_
      refine v_getR d_Lw_reignOn_13 f_Lw_9 (sh_20 T) rfl ?_
      refine v_iload3 d_Lw_reignOn_16 ?_
      refine v_iaload d_Lw_reignOn_17 (sh_21 T) (by omega) (fun g17 => ?_)
      refine v_iload1 d_Lw_reignOn_18 ?_
      refine v_icmp_gt d_Lw_reignOn_19 (by omega) (by omega) (fun u19 => ?_) (fun u19 => ?_)
      · refine v_iinc3 d_Lw_reignOn_24 (by decide) rfl ?_
        refine v_goto d_Lw_reignOn_27 ?_
        exact ih (j + 1) _ _ (by omega) (by omega) (by rw [reF, ← hr, ← hi]; split <;> omega)
      · refine v_iload3 d_Lw_reignOn_22 ?_
        refine v_istore2 d_Lw_reignOn_23 (by decide) rfl ?_
        refine v_iinc3 d_Lw_reignOn_24 (by decide) rfl ?_
        refine v_goto d_Lw_reignOn_27 ?_
        exact ih (j + 1) _ _ (by omega) (by omega) (by rw [reF, ← hr, ← hi]; split <;> omega)

theorem c_Lw_reignOn {T : vSh} {σ : vMem} {A : Int → Int} (hC : CR σ A) (hO : okA A) {dd : Int} (h1 : vIn dd) : mt_Lw_reignOn [.ref 20, .int (iI dd)] (S0 ++ T) σ (rF (S0 ++ T) σ (reF A dd (A 3).toNat)) := by
  refine vMet.intro 2 (by decide +kernel) (Nat.le_of_ble_eq_true rfl) rfl (fun cx hM _ => ?_)
  have q2 := hO.1.2.2.2.1
  refine v_iconst d_Lw_reignOn_0 ?_
  refine v_istore2 d_Lw_reignOn_1 (by decide) rfl ?_
  refine v_iconst d_Lw_reignOn_2 ?_
  refine v_istore3 d_Lw_reignOn_3 (by decide) rfl ?_
  exact c_Lw_reignOn_4 hC hO h1 hM (A 3).toNat 0 _ _ (by omega) rfl rfl

