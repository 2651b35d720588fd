theorem ordH_rng {A : Int → Int} (hO : okA A) (v dd k : Int) : -1 ≤ ordH A v dd k ∧ ordH A v dd k < A 1 := by
  obtain ⟨⟨q0, q1, q2, q3, q4, q5, q6, q7⟩, hVi, hWe, hCo, hOf, hBo, hWo, hMo, hRe, hLi, hTa⟩ := id hO
  have h1 := latF_rng A 0 v dd k (A 2).toNat
  unfold ordH
  split
  · omega
  · have h2 := latF_ok A 0 v dd k (A 2).toNat (by omega)
    have h3 := hBo (latF A 0 v dd k (A 2).toNat) (by omega) (by omega)
    omega
theorem heldF_rng {A : Int → Int} (hO : okA A) (v dd k : Int) : -1 ≤ heldF A v dd k ∧ heldF A v dd k < A 1 := by
  have h1 := ordH_rng hO v dd k
  have h2 := hO.1.2.1
  unfold heldF
  split <;> omega
theorem rankF_rng {A : Int → Int} (hO : okA A) {oo : Int} (ho : 0 ≤ oo ∧ oo < A 1) (dd k : Int) : 0 ≤ rankF A oo dd k ∧ rankF A oo dd k ≤ 9 := by
  obtain ⟨⟨q0, q1, q2, q3, q4, q5, q6, q7⟩, hVi, hWe, hCo, hOf, hBo, hWo, hMo, hRe, hLi, hTa⟩ := id hO
  have h1 := latF_rng A 1 oo dd k (A 2).toNat
  have h2 := hOf oo ho.1 ho.2
  unfold rankF
  split
  · omega
  · have h2 := latF_ok A 1 oo dd k (A 2).toNat (by omega)
    have h3 := hBo (latF A 1 oo dd k (A 2).toNat) (by omega) (by omega)
    omega

theorem c_M_latest_6 {T : vSh} {σ : vMem} {cx : vCx} {A : Int → Int} (hA : σ 56 = A) {kind whose dd k : Int} (h0 : kind = 0 ∨ kind = 1) (h1 : vIn whose) (h2 : vIn dd) (h3 : vIn k) (hn : 0 ≤ A 2 ∧ A 2 ≤ 100) (hM : vM cx 0 0 (some .int) (rF (S0 ++ T) σ (latF A kind whose dd k (A 2).toNat))) : ∀ (n j : Nat) (best i : Int), (j : Int) + n = A 2 → i = j → best = latF A kind whose dd k j → vV cx y_M_latest.cls prog_14_method_30_code 7 1 0 0 0 0 6 [some (.ref 55), some (.int (iI kind)), some (.int (iI whose)), some (.int (iI dd)), some (.int (iI k)), some (.int (iI best)), some (.int (iI i))] [] (S0 ++ T) σ := by
  intro n
  induction n with
  | zero =>
    intro j best i hj hi hb
    have hr := latF_rng A kind whose dd k j
    refine v_iload6 d_M_latest_6 ?_
    refine v_aload0 d_M_latest_8 ?_
    refine v_getR d_M_latest_9 f_M_7 (sh_55 T) rfl ?_
    refine v_iconst d_M_latest_12 ?_
    refine v_ialoadE hA d_M_latest_13 (sh_56 T) (by omega) (fun g13 => ?_)
    refine v_icmp_ge d_M_latest_14 (by omega) (by omega) (fun u14 => ?_) (fun u14 => ?_)
    · refine v_iload5 d_M_latest_99 ?_
      exact v_ireturn hM d_M_latest_101 (by omega) ⟨rfl, rfl, by rw [hb]; congr 1; omega⟩
    · omega
  | succ n ih =>
    intro j best i hj hi hb
    have hr := latF_rng A kind whose dd k j
    rw [← hb] at hr
    refine v_iload6 d_M_latest_6 ?_
    refine v_aload0 d_M_latest_8 ?_
    refine v_getR d_M_latest_9 f_M_7 (sh_55 T) rfl ?_
    refine v_iconst d_M_latest_12 ?_
    refine v_ialoadE hA d_M_latest_13 (sh_56 T) (by omega) (fun g13 => ?_)
    refine v_icmp_ge d_M_latest_14 (by omega) (by omega) (fun u14 => ?_) (fun u14 => ?_)
    · omega
    · refine v_aload0 d_M_latest_17 ?_
      refine v_iload6 d_M_latest_18 ?_
      refine v_iconst d_M_latest_20 ?_
      refine v_fVI2 d_M_latest_21 l_M_107 k_M_written (c_M_written hA (by omega)) (sh_55 T) rfl (by decide) (by decide) (Nat.le_of_ble_eq_true rfl) (Nat.zero_le _) (Nat.zero_le _) (fun g21 => ?_)
      refine v_iload1 d_M_latest_24 ?_
      refine v_icmp_ne d_M_latest_25 (by omega) (by omega) (fun u25 => ?_) (fun u25 => ?_)
      · refine v_iinc6 d_M_latest_93 (by decide) rfl ?_
        refine v_goto d_M_latest_96 ?_
        exact ih (j + 1) _ _ (by omega) (by omega) (by rw [latF, ← hb, ← hi]; split <;> omega)
      · refine v_aload0 d_M_latest_28 ?_
        refine v_iload6 d_M_latest_29 ?_
        refine v_iconst d_M_latest_31 ?_
        refine v_iload1 d_M_latest_32 ?_
        refine v_iadd d_M_latest_33 ?_
        refine v_fVI2 d_M_latest_34 l_M_107 k_M_written (c_M_written hA (by omega)) (sh_55 T) rfl (by decide) (by decide) (Nat.le_of_ble_eq_true rfl) (Nat.zero_le _) (Nat.zero_le _) (fun g34 => ?_)
        refine v_iload2 d_M_latest_37 ?_
        refine v_icmp_ne d_M_latest_38 (by omega) (by omega) (fun u38 => ?_) (fun u38 => ?_)
        · refine v_iinc6 d_M_latest_93 (by decide) rfl ?_
          refine v_goto d_M_latest_96 ?_
          exact ih (j + 1) _ _ (by omega) (by omega) (by rw [latF, ← hb, ← hi]; split <;> omega)
        · refine v_aload0 d_M_latest_41 ?_
          refine v_iload6 d_M_latest_42 ?_
          refine v_iconst d_M_latest_44 ?_
          refine v_fVI2 d_M_latest_45 l_M_107 k_M_written (c_M_written hA (by omega)) (sh_55 T) rfl (by decide) (by decide) (Nat.le_of_ble_eq_true rfl) (Nat.zero_le _) (Nat.zero_le _) (fun g45 => ?_)
          refine v_iload3 d_M_latest_48 ?_
          refine v_icmp_gt d_M_latest_49 (by omega) (by omega) (fun u49 => ?_) (fun u49 => ?_)
          · refine v_iinc6 d_M_latest_93 (by decide) rfl ?_
            refine v_goto d_M_latest_96 ?_
            exact ih (j + 1) _ _ (by omega) (by omega) (by rw [latF, ← hb, ← hi]; split <;> omega)
          · refine v_aload0 d_M_latest_52 ?_
            refine v_iload6 d_M_latest_53 ?_
            refine v_iconst d_M_latest_55 ?_
            refine v_fVI2 d_M_latest_56 l_M_107 k_M_written (c_M_written hA (by omega)) (sh_55 T) rfl (by decide) (by decide) (Nat.le_of_ble_eq_true rfl) (Nat.zero_le _) (Nat.zero_le _) (fun g56 => ?_)
            refine v_iload4 d_M_latest_59 ?_
            refine v_icmp_le d_M_latest_61 (by omega) (by omega) (fun u61 => ?_) (fun u61 => ?_)
            · refine v_iload5 d_M_latest_67 ?_
              refine v_if_lt d_M_latest_69 (by omega) (fun u69 => ?_) (fun u69 => ?_)
              · refine v_iload6 d_M_latest_89 ?_
                refine v_istore5 d_M_latest_91 (by decide) rfl ?_
                refine v_iinc6 d_M_latest_93 (by decide) rfl ?_
                refine v_goto d_M_latest_96 ?_
                exact ih (j + 1) _ _ (by omega) (by omega) (by rw [latF, ← hb, ← hi]; split <;> omega)
              · refine v_aload0 d_M_latest_72 ?_
                refine v_iload6 d_M_latest_73 ?_
                refine v_iconst d_M_latest_75 ?_
                refine v_fVI2 d_M_latest_76 l_M_107 k_M_written (c_M_written hA (by omega)) (sh_55 T) rfl (by decide) (by decide) (Nat.le_of_ble_eq_true rfl) (Nat.zero_le _) (Nat.zero_le _) (fun g76 => ?_)
                refine v_aload0 d_M_latest_79 ?_
                refine v_iload5 d_M_latest_80 ?_
                refine v_iconst d_M_latest_82 ?_
                refine v_fVI2 d_M_latest_83 l_M_107 k_M_written (c_M_written hA (by omega)) (sh_55 T) rfl (by decide) (by decide) (Nat.le_of_ble_eq_true rfl) (Nat.zero_le _) (Nat.zero_le _) (fun g83 => ?_)
                refine v_icmp_lt d_M_latest_86 (by omega) (by omega) (fun u86 => ?_) (fun u86 => ?_)
                · refine v_iinc6 d_M_latest_93 (by decide) rfl ?_
                  refine v_goto d_M_latest_96 ?_
                  exact ih (j + 1) _ _ (by omega) (by omega) (by rw [latF, ← hb, ← hi]; split <;> omega)
                · refine v_iload6 d_M_latest_89 ?_
                  refine v_istore5 d_M_latest_91 (by decide) rfl ?_
                  refine v_iinc6 d_M_latest_93 (by decide) rfl ?_
                  refine v_goto d_M_latest_96 ?_
                  exact ih (j + 1) _ _ (by omega) (by omega) (by rw [latF, ← hb, ← hi]; split <;> omega)
            · refine v_goto d_M_latest_64 ?_
              refine v_iinc6 d_M_latest_93 (by decide) rfl ?_
              refine v_goto d_M_latest_96 ?_
              exact ih (j + 1) _ _ (by omega) (by omega) (by rw [latF, ← hb, ← hi]; split <;> omega)

theorem c_M_latest {T : vSh} {σ : vMem} {A : Int → Int} (hA : σ 56 = A) {kind whose dd k : Int} (h0 : kind = 0 ∨ kind = 1) (h1 : vIn whose) (h2 : vIn dd) (h3 : vIn k) (hn : 0 ≤ A 2 ∧ A 2 ≤ 100) : mt_M_latest [.ref 55, .int (iI kind), .int (iI whose), .int (iI dd), .int (iI k)] (S0 ++ T) σ (rF (S0 ++ T) σ (latF A kind whose dd k (A 2).toNat)) := by
  refine vMet.intro 2 (by decide +kernel) (Nat.le_of_ble_eq_true rfl) rfl (fun cx hM _ => ?_)
  refine v_iconst d_M_latest_0 ?_
  refine v_istore5 d_M_latest_1 (by decide) rfl ?_
  refine v_iconst d_M_latest_3 ?_
  refine v_istore6 d_M_latest_4 (by decide) rfl ?_
  exact c_M_latest_6 hA h0 h1 h2 h3 hn hM (A 2).toNat 0 _ _ (by omega) rfl rfl

theorem c_M_serves {T : vSh} {σ : vMem} {A : Int → Int} (hA : σ 56 = A) {oo dd : Int} (h0 : 0 ≤ oo ∧ oo < 10) (h1 : vIn dd) : mt_M_serves [.ref 55, .int (iI oo), .int (iI dd)] (S0 ++ T) σ (rF (S0 ++ T) σ (b01 (srvF A oo dd))) := by
  refine vMet.intro 0 (by decide +kernel) (Nat.le_of_ble_eq_true rfl) rfl (fun cx hM _ => ?_)
  refine v_aload0 d_M_serves_0 ?_
  refine v_iload1 d_M_serves_1 ?_
  refine v_iconst d_M_serves_2 ?_
  refine v_fVI2 d_M_serves_3 l_M_98 k_M_officer0 (c_M_officer0 hA (by omega)) (sh_55 T) rfl (by decide) (by decide) (Nat.le_of_ble_eq_true rfl) (Nat.zero_le _) (Nat.zero_le _) (fun g3 => ?_)
  refine v_iload2 d_M_serves_6 ?_
  refine v_icmp_gt d_M_serves_7 (by omega) (by omega) (fun u7 => ?_) (fun u7 => ?_)
  · refine v_iconst d_M_serves_33 ?_
    first | exact v_zreturn hM d_M_serves_34 (Or.inr rfl) ⟨rfl, rfl, b01_1 (by omega)⟩ | exact v_zreturn hM d_M_serves_34 (Or.inl rfl) ⟨rfl, rfl, b01_0 (by omega)⟩ | exact v_zreturn hM d_M_serves_34 b01_or ⟨rfl, rfl, rfl⟩
  · refine v_aload0 d_M_serves_10 ?_
    refine v_iload1 d_M_serves_11 ?_
    refine v_iconst d_M_serves_12 ?_
    refine v_fVI2 d_M_serves_13 l_M_98 k_M_officer0 (c_M_officer0 hA (by omega)) (sh_55 T) rfl (by decide) (by decide) (Nat.le_of_ble_eq_true rfl) (Nat.zero_le _) (Nat.zero_le _) (fun g13 => ?_)
    refine v_if_lt d_M_serves_16 (by omega) (fun u16 => ?_) (fun u16 => ?_)
    · refine v_iconst d_M_serves_29 ?_
      refine v_goto d_M_serves_30 ?_
      first | exact v_zreturn hM d_M_serves_34 (Or.inr rfl) ⟨rfl, rfl, b01_1 (by omega)⟩ | exact v_zreturn hM d_M_serves_34 (Or.inl rfl) ⟨rfl, rfl, b01_0 (by omega)⟩ | exact v_zreturn hM d_M_serves_34 b01_or ⟨rfl, rfl, rfl⟩
    · refine v_iload2 d_M_serves_19 ?_
      refine v_aload0 d_M_serves_20 ?_
      refine v_iload1 d_M_serves_21 ?_
      refine v_iconst d_M_serves_22 ?_
      refine v_fVI2 d_M_serves_23 l_M_98 k_M_officer0 (c_M_officer0 hA (by omega)) (sh_55 T) rfl (by decide) (by decide) (Nat.le_of_ble_eq_true rfl) (Nat.zero_le _) (Nat.zero_le _) (fun g23 => ?_)
      refine v_icmp_ge d_M_serves_26 (by omega) (by omega) (fun u26 => ?_) (fun u26 => ?_)
      · refine v_iconst d_M_serves_33 ?_
        first | exact v_zreturn hM d_M_serves_34 (Or.inr rfl) ⟨rfl, rfl, b01_1 (by omega)⟩ | exact v_zreturn hM d_M_serves_34 (Or.inl rfl) ⟨rfl, rfl, b01_0 (by omega)⟩ | exact v_zreturn hM d_M_serves_34 b01_or ⟨rfl, rfl, rfl⟩
      · refine v_iconst d_M_serves_29 ?_
        refine v_goto d_M_serves_30 ?_
        first | exact v_zreturn hM d_M_serves_34 (Or.inr rfl) ⟨rfl, rfl, b01_1 (by omega)⟩ | exact v_zreturn hM d_M_serves_34 (Or.inl rfl) ⟨rfl, rfl, b01_0 (by omega)⟩ | exact v_zreturn hM d_M_serves_34 b01_or ⟨rfl, rfl, rfl⟩

theorem c_M_held_28 {T : vSh} {σ : vMem} {cx : vCx} {A : Int → Int} (hA : σ 56 = A) (hO : okA A) {v dd k : Int} (h0 : vIn v) (h1 : vIn dd) (h2 : vIn k) (hM : vM cx 0 0 (some .int) (rF (S0 ++ T) σ (heldF A v dd k))) {i x : Int} (ex : x = ordH A v dd k) : vV cx y_M_held.cls prog_14_method_31_code 6 2 0 0 0 0 28 [some (.ref 55), some (.int (iI v)), some (.int (iI dd)), some (.int (iI k)), some (.int (iI i)), some (.int (iI x))] [] (S0 ++ T) σ := by
  obtain ⟨⟨q0, q1, q2, q3, q4, q5, q6, q7⟩, hVi, hWe, hCo, hOf, hBo, hWo, hMo, hRe, hLi, hTa⟩ := id hO
  have hr := ordH_rng hO v dd k
  rw [← ex] at hr
  refine v_iload5 d_M_held_28 ?_
  refine v_if_lt d_M_held_30 (by omega) (fun u30 => ?_) (fun u30 => ?_)
  · refine v_iconst d_M_held_48 ?_
    exact v_ireturn hM d_M_held_49 (by omega) ⟨rfl, rfl, by unfold heldF; rw [← ex]; split <;> omega⟩
  · refine v_aload0 d_M_held_33 ?_
    refine v_iload5 d_M_held_34 ?_
    refine v_iload2 d_M_held_36 ?_
    refine v_fVZ2 d_M_held_37 l_M_113 k_M_serves (c_M_serves hA (by omega) (by omega)) (sh_55 T) rfl (by decide) (by decide) (Nat.le_of_ble_eq_true rfl) (Nat.zero_le _) (Nat.zero_le _) (fun g37 => ?_)
    refine v_ifb_eq d_M_held_40 (fun u40 => ?_) (fun u40 => ?_)
    · refine v_iconst d_M_held_48 ?_
      exact v_ireturn hM d_M_held_49 (by omega) ⟨rfl, rfl, by unfold heldF; rw [← ex]; split <;> omega⟩
    · refine v_iload5 d_M_held_43 ?_
      refine v_goto d_M_held_45 ?_
      exact v_ireturn hM d_M_held_49 (by omega) ⟨rfl, rfl, by unfold heldF; rw [← ex]; split <;> omega⟩

theorem c_M_held {T : vSh} {σ : vMem} {A : Int → Int} (hA : σ 56 = A) (hO : okA A) {v dd k : Int} (h0 : vIn v) (h1 : vIn dd) (h2 : vIn k) : mt_M_held [.ref 55, .int (iI v), .int (iI dd), .int (iI k)] (S0 ++ T) σ (rF (S0 ++ T) σ (heldF A v dd k)) := by
  refine vMet.intro 2 (by decide +kernel) (Nat.le_of_ble_eq_true rfl) rfl (fun cx hM _ => ?_)
  obtain ⟨⟨q0, q1, q2, q3, q4, q5, q6, q7⟩, hVi, hWe, hCo, hOf, hBo, hWo, hMo, hRe, hLi, hTa⟩ := id hO
  refine v_aload0 d_M_held_0 ?_
  refine v_iconst d_M_held_1 ?_
  refine v_iload1 d_M_held_2 ?_
  refine v_iload2 d_M_held_3 ?_
  refine v_iload3 d_M_held_4 ?_
  refine v_fVI4 d_M_held_5 l_M_110 k_M_latest (c_M_latest hA (by omega) (by omega) (by omega) (by omega) (by omega)) (sh_55 T) rfl (by decide) (by decide) (Nat.le_of_ble_eq_true rfl) (Nat.zero_le _) (Nat.zero_le _) (fun g5 => ?_)
  have hr := latF_rng A 0 v dd k (A 2).toNat
  refine v_istore4 d_M_held_8 (by decide) rfl ?_
  refine v_iload4 d_M_held_10 ?_
  refine v_if_ge d_M_held_12 (by omega) (fun u12 => ?_) (fun u12 => ?_)
  · refine v_aload0 d_M_held_19 ?_
    refine v_iload4 d_M_held_20 ?_
    refine v_iconst d_M_held_22 ?_
    refine v_fVI2 d_M_held_23 l_M_107 k_M_written (c_M_written hA (by omega)) (sh_55 T) rfl (by decide) (by decide) (Nat.le_of_ble_eq_true rfl) (Nat.zero_le _) (Nat.zero_le _) (fun g23 => ?_)
    refine v_istore5 d_M_held_26 (by decide) rfl ?_
    exact c_M_held_28 hA hO h0 h1 h2 hM (by unfold ordH; rw [if_neg (by omega)])
  · refine v_iconst d_M_held_15 ?_
    refine v_goto d_M_held_16 ?_
    refine v_istore5 d_M_held_26 (by decide) rfl ?_
    exact c_M_held_28 hA hO h0 h1 h2 hM (by unfold ordH; rw [if_pos (by omega)])

theorem c_M_rankOf {T : vSh} {σ : vMem} {A : Int → Int} (hA : σ 56 = A) (hO : okA A) {oo dd k : Int} (h0 : 0 ≤ oo ∧ oo < A 1) (h1 : vIn dd) (h2 : vIn k) : mt_M_rankOf [.ref 55, .int (iI oo), .int (iI dd), .int (iI k)] (S0 ++ T) σ (rF (S0 ++ T) σ (rankF A oo dd k)) := by
  refine vMet.intro 1 (by decide +kernel) (Nat.le_of_ble_eq_true rfl) rfl (fun cx hM _ => ?_)
  obtain ⟨⟨q0, q1, q2, q3, q4, q5, q6, q7⟩, hVi, hWe, hCo, hOf, hBo, hWo, hMo, hRe, hLi, hTa⟩ := id hO
  refine v_aload0 d_M_rankOf_0 ?_
  refine v_iconst d_M_rankOf_1 ?_
  refine v_iload1 d_M_rankOf_2 ?_
  refine v_iload2 d_M_rankOf_3 ?_
  refine v_iload3 d_M_rankOf_4 ?_
  refine v_fVI4 d_M_rankOf_5 l_M_110 k_M_latest (c_M_latest hA (by omega) (by omega) (by omega) (by omega) (by omega)) (sh_55 T) rfl (by decide) (by decide) (Nat.le_of_ble_eq_true rfl) (Nat.zero_le _) (Nat.zero_le _) (fun g5 => ?_)
  have hr := latF_rng A 1 oo dd k (A 2).toNat
  refine v_istore4 d_M_rankOf_8 (by decide) rfl ?_
  refine v_iload4 d_M_rankOf_10 ?_
  refine v_if_ge d_M_rankOf_12 (by omega) (fun u12 => ?_) (fun u12 => ?_)
  · refine v_aload0 d_M_rankOf_24 ?_
    refine v_iload4 d_M_rankOf_25 ?_
    refine v_iconst d_M_rankOf_27 ?_
    refine v_fVI2 d_M_rankOf_28 l_M_107 k_M_written (c_M_written hA (by omega)) (sh_55 T) rfl (by decide) (by decide) (Nat.le_of_ble_eq_true rfl) (Nat.zero_le _) (Nat.zero_le _) (fun g28 => ?_)
    exact v_ireturn hM d_M_rankOf_31 (by omega) ⟨rfl, rfl, by unfold rankF; split <;> first | rfl | omega⟩
  · refine v_aload0 d_M_rankOf_15 ?_
    refine v_iload1 d_M_rankOf_16 ?_
    refine v_iconst d_M_rankOf_17 ?_
    refine v_fVI2 d_M_rankOf_18 l_M_98 k_M_officer0 (c_M_officer0 hA (by omega)) (sh_55 T) rfl (by decide) (by decide) (Nat.le_of_ble_eq_true rfl) (Nat.zero_le _) (Nat.zero_le _) (fun g18 => ?_)
    refine v_goto d_M_rankOf_21 ?_
    exact v_ireturn hM d_M_rankOf_31 (by omega) ⟨rfl, rfl, by unfold rankF; split <;> first | rfl | omega⟩

theorem c_M_last_6 {T : vSh} {σ : vMem} {cx : vCx} {A : Int → Int} (hA : σ 56 = A) {w v s k : Int} (h0 : vIn w) (h1 : vIn v) (h2 : vIn s) (h3 : vIn k) (hn : 0 ≤ A 6 ∧ A 6 ≤ 100) (hM : vM cx 0 0 (some .int) (rF (S0 ++ T) σ (lastW A w v s k))) : ∀ (n j : Nat) (best i : Int), (j : Int) + n = A 6 → i = j → best = lastF A w v s k j → vV cx y_M_last.cls prog_14_method_97_code 7 1 0 0 0 0 6 [some (.ref 55), some (.int (iI w)), some (.int (iI v)), some (.int (iI s)), some (.int (iI k)), some (.int (iI best)), some (.int (iI i))] [] (S0 ++ T) σ := by
  intro n
  induction n with
  | zero =>
    intro j best i hj hi hb
    have hr := lastF_rng A w v s k j
    refine v_iload6 d_M_last_6 ?_
    refine v_aload0 d_M_last_8 ?_
    refine v_getR d_M_last_9 f_M_7 (sh_55 T) rfl ?_
    refine v_bipush d_M_last_12 rfl ?_
    refine v_ialoadE hA d_M_last_14 (sh_56 T) (by omega) (fun g14 => ?_)
    refine v_icmp_ge d_M_last_15 (by omega) (by omega) (fun u15 => ?_) (fun u15 => ?_)
    · refine v_iload5 d_M_last_73 ?_
      exact v_ireturn hM d_M_last_75 (by omega) ⟨rfl, rfl, by rw [hb, lastW]; congr 1; omega⟩
    · omega
  | succ n ih =>
    intro j best i hj hi hb
    refine v_iload6 d_M_last_6 ?_
    refine v_aload0 d_M_last_8 ?_
    refine v_getR d_M_last_9 f_M_7 (sh_55 T) rfl ?_
    refine v_bipush d_M_last_12 rfl ?_
    refine v_ialoadE hA d_M_last_14 (sh_56 T) (by omega) (fun g14 => ?_)
    refine v_icmp_ge d_M_last_15 (by omega) (by omega) (fun u15 => ?_) (fun u15 => ?_)
    · omega
    · refine v_aload0 d_M_last_18 ?_
      refine v_iload6 d_M_last_19 ?_
      refine v_iconst d_M_last_21 ?_
      refine v_fVI2 d_M_last_22 l_M_311 k_M_said (c_M_said hA (by omega)) (sh_55 T) rfl (by decide) (by decide) (Nat.le_of_ble_eq_true rfl) (Nat.zero_le _) (Nat.zero_le _) (fun g22 => ?_)
      refine v_iload1 d_M_last_25 ?_
      refine v_icmp_ne d_M_last_26 (by omega) (by omega) (fun u26 => ?_) (fun u26 => ?_)
      · refine v_iinc6 d_M_last_67 (by decide) rfl ?_
        refine v_goto d_M_last_70 ?_
        exact ih (j + 1) _ _ (by omega) (by omega) (by rw [lastF, ← hb, ← hi]; split <;> omega)
      · refine v_aload0 d_M_last_29 ?_
        refine v_iload6 d_M_last_30 ?_
        refine v_iconst d_M_last_32 ?_
        refine v_fVI2 d_M_last_33 l_M_311 k_M_said (c_M_said hA (by omega)) (sh_55 T) rfl (by decide) (by decide) (Nat.le_of_ble_eq_true rfl) (Nat.zero_le _) (Nat.zero_le _) (fun g33 => ?_)
        refine v_iload2 d_M_last_36 ?_
        refine v_icmp_ne d_M_last_37 (by omega) (by omega) (fun u37 => ?_) (fun u37 => ?_)
        · refine v_iinc6 d_M_last_67 (by decide) rfl ?_
          refine v_goto d_M_last_70 ?_
          exact ih (j + 1) _ _ (by omega) (by omega) (by rw [lastF, ← hb, ← hi]; split <;> omega)
        · refine v_aload0 d_M_last_40 ?_
          refine v_iload6 d_M_last_41 ?_
          refine v_iconst d_M_last_43 ?_
          refine v_fVI2 d_M_last_44 l_M_311 k_M_said (c_M_said hA (by omega)) (sh_55 T) rfl (by decide) (by decide) (Nat.le_of_ble_eq_true rfl) (Nat.zero_le _) (Nat.zero_le _) (fun g44 => ?_)
          refine v_iload3 d_M_last_47 ?_
          refine v_icmp_ne d_M_last_48 (by omega) (by omega) (fun u48 => ?_) (fun u48 => ?_)
          · refine v_iinc6 d_M_last_67 (by decide) rfl ?_
            refine v_goto d_M_last_70 ?_
            exact ih (j + 1) _ _ (by omega) (by omega) (by rw [lastF, ← hb, ← hi]; split <;> omega)
          · refine v_aload0 d_M_last_51 ?_
            refine v_iload6 d_M_last_52 ?_
            refine v_iconst d_M_last_54 ?_
            refine v_fVI2 d_M_last_55 l_M_311 k_M_said (c_M_said hA (by omega)) (sh_55 T) rfl (by decide) (by decide) (Nat.le_of_ble_eq_true rfl) (Nat.zero_le _) (Nat.zero_le _) (fun g55 => ?_)
            refine v_iload4 d_M_last_58 ?_
            refine v_icmp_gt d_M_last_60 (by omega) (by omega) (fun u60 => ?_) (fun u60 => ?_)
            · refine v_iinc6 d_M_last_67 (by decide) rfl ?_
              refine v_goto d_M_last_70 ?_
              exact ih (j + 1) _ _ (by omega) (by omega) (by rw [lastF, ← hb, ← hi]; split <;> omega)
            · refine v_iload6 d_M_last_63 ?_
              refine v_istore5 d_M_last_65 (by decide) rfl ?_
              refine v_iinc6 d_M_last_67 (by decide) rfl ?_
              refine v_goto d_M_last_70 ?_
              exact ih (j + 1) _ _ (by omega) (by omega) (by rw [lastF, ← hb, ← hi]; split <;> omega)

theorem c_M_last {T : vSh} {σ : vMem} {A : Int → Int} (hA : σ 56 = A) {w v s k : Int} (h0 : vIn w) (h1 : vIn v) (h2 : vIn s) (h3 : vIn k) (hn : 0 ≤ A 6 ∧ A 6 ≤ 100) : mt_M_last [.ref 55, .int (iI w), .int (iI v), .int (iI s), .int (iI k)] (S0 ++ T) σ (rF (S0 ++ T) σ (lastW A w v s k)) := by
  refine vMet.intro 2 (by decide +kernel) (Nat.le_of_ble_eq_true rfl) rfl (fun cx hM _ => ?_)
  refine v_iconst d_M_last_0 ?_
  refine v_istore5 d_M_last_1 (by decide) rfl ?_
  refine v_iconst d_M_last_3 ?_
  refine v_istore6 d_M_last_4 (by decide) rfl ?_
  exact c_M_last_6 hA h0 h1 h2 h3 hn hM (A 6).toNat 0 _ _ (by omega) rfl rfl

theorem c_M_isFamine_6 {T : vSh} {σ : vMem} {cx : vCx} {A : Int → Int} (hA : σ 56 = A) (hO : okA A) {v s k : Int} (h0 : 0 ≤ v ∧ v < A 0) (h1 : vIn s) (h2 : vIn k) (hM : vM cx 0 0 (some .boolean) (rF (S0 ++ T) σ (b01 (famP A v s k)))) : ∀ (n j : Nat) (n0 i : Int), (j : Int) + n = 5 → i = j → n0 = famN A v s k j → vV cx y_M_isFamine.cls prog_14_method_100_code 7 2 0 0 0 0 6 [some (.ref 55), some (.int (iI v)), some (.int (iI s)), some (.int (iI k)), some (.int (iI n0)), some (.int (iI i)), none] [] (S0 ++ T) σ := by
  intro n
  induction n with
  | zero =>
    intro j n0 i hj hi hn0
    obtain ⟨⟨q0, q1, q2, q3, q4, q5, q6, q7⟩, hVi, hWe, hCo, hOf, hBo, hWo, hMo, hRe, hLi, hTa⟩ := id hO
    have hr := famN_rng A v s k j
    obtain rfl : j = 5 := by omega
    refine v_iload5 d_M_isFamine_6 ?_
    refine v_iconst d_M_isFamine_8 ?_
    refine v_icmp_ge d_M_isFamine_9 (by omega) (by omega) (fun u9 => ?_) (fun u9 => ?_)
    · refine v_iload4 d_M_isFamine_62 ?_
      refine v_iconst d_M_isFamine_64 ?_
      refine v_icmp_lt d_M_isFamine_65 (by omega) (by omega) (fun u65 => ?_) (fun u65 => ?_)
      · refine v_iconst d_M_isFamine_72 ?_
        first | exact v_zreturn hM d_M_isFamine_73 (Or.inr rfl) ⟨rfl, rfl, b01_1 (by omega)⟩ | exact v_zreturn hM d_M_isFamine_73 (Or.inl rfl) ⟨rfl, rfl, b01_0 (by omega)⟩
      · refine v_iconst d_M_isFamine_68 ?_
        refine v_goto d_M_isFamine_69 ?_
        first | exact v_zreturn hM d_M_isFamine_73 (Or.inr rfl) ⟨rfl, rfl, b01_1 (by omega)⟩ | exact v_zreturn hM d_M_isFamine_73 (Or.inl rfl) ⟨rfl, rfl, b01_0 (by omega)⟩
    · omega
  | succ n ih =>
    intro j n0 i hj hi hn0
    obtain ⟨⟨q0, q1, q2, q3, q4, q5, q6, q7⟩, hVi, hWe, hCo, hOf, hBo, hWo, hMo, hRe, hLi, hTa⟩ := id hO
    have hr := famN_rng A v s k j
    refine v_iload5 d_M_isFamine_6 ?_
    refine v_iconst d_M_isFamine_8 ?_
    refine v_icmp_ge d_M_isFamine_9 (by omega) (by omega) (fun u9 => ?_) (fun u9 => ?_)
    · omega
    · refine v_aload0 d_M_isFamine_12 ?_
      refine v_iload5 d_M_isFamine_13 ?_
      refine v_iload1 d_M_isFamine_15 ?_
      refine v_iload2 d_M_isFamine_16 ?_
      refine v_iload3 d_M_isFamine_17 ?_
      refine v_fVI4 d_M_isFamine_18 l_M_323 k_M_last (c_M_last hA (by omega) (by omega) (by omega) (by omega) (by omega)) (sh_55 T) rfl (by decide) (by decide) (Nat.le_of_ble_eq_true rfl) (Nat.zero_le _) (Nat.zero_le _) (fun g18 => ?_)
      have hr2 := lastW_rng A i v s k (by omega)
      refine v_istore6 d_M_isFamine_21 (by decide) rfl ?_
      refine v_iload4 d_M_isFamine_23 ?_
      refine v_iload6 d_M_isFamine_25 ?_
      refine v_if_lt d_M_isFamine_27 (by omega) (fun u27 => ?_) (fun u27 => ?_)
      · refine v_iconst d_M_isFamine_52 ?_
        refine v_iadd d_M_isFamine_53 ?_
        refine v_istore4 d_M_isFamine_54 (by decide) rfl ?_
        refine v_iinc5 d_M_isFamine_56 (by decide) rfl ?_
        refine v_goto d_M_isFamine_59 ?_
        refine v_drop6 ?_
        exact ih (j + 1) _ _ (by omega) (by omega) (by rw [famN, ← hn0, ← hi]; congr 1; first | exact b01_1 (by omega) | exact b01_0 (by omega))
      · refine v_iconst d_M_isFamine_30 ?_
        refine v_aload0 d_M_isFamine_31 ?_
        refine v_iload6 d_M_isFamine_32 ?_
        refine v_iconst d_M_isFamine_34 ?_
        refine v_fVI2 d_M_isFamine_35 l_M_311 k_M_said (c_M_said hA (by omega)) (sh_55 T) rfl (by decide) (by decide) (Nat.le_of_ble_eq_true rfl) (Nat.zero_le _) (Nat.zero_le _) (fun g35 => ?_)
        have hw := hWo (lastW A i v s k) (by omega) (by omega)
        refine v_imul d_M_isFamine_38 ?_
        refine v_aload0 d_M_isFamine_39 ?_
        refine v_iload1 d_M_isFamine_40 ?_
        refine v_iconst d_M_isFamine_41 ?_
        refine v_fVI2 d_M_isFamine_42 l_M_83 k_M_its (c_M_its hA (by omega)) (sh_55 T) rfl (by decide) (by decide) (Nat.le_of_ble_eq_true rfl) (Nat.zero_le _) (Nat.zero_le _) (fun g42 => ?_)
        refine v_icmp_ge d_M_isFamine_45 (by omega) (by omega) (fun u45 => ?_) (fun u45 => ?_)
        · refine v_iconst d_M_isFamine_52 ?_
          refine v_iadd d_M_isFamine_53 ?_
          refine v_istore4 d_M_isFamine_54 (by decide) rfl ?_
          refine v_iinc5 d_M_isFamine_56 (by decide) rfl ?_
          refine v_goto d_M_isFamine_59 ?_
          refine v_drop6 ?_
          exact ih (j + 1) _ _ (by omega) (by omega) (by rw [famN, ← hn0, ← hi]; congr 1; first | exact b01_1 (by omega) | exact b01_0 (by omega))
        · refine v_iconst d_M_isFamine_48 ?_
          refine v_goto d_M_isFamine_49 ?_
          refine v_iadd d_M_isFamine_53 ?_
          refine v_istore4 d_M_isFamine_54 (by decide) rfl ?_
          refine v_iinc5 d_M_isFamine_56 (by decide) rfl ?_
          refine v_goto d_M_isFamine_59 ?_
          refine v_drop6 ?_
          exact ih (j + 1) _ _ (by omega) (by omega) (by rw [famN, ← hn0, ← hi]; congr 1; first | exact b01_1 (by omega) | exact b01_0 (by omega))

theorem c_M_isFamine {T : vSh} {σ : vMem} {A : Int → Int} (hA : σ 56 = A) (hO : okA A) {v s k : Int} (h0 : 0 ≤ v ∧ v < A 0) (h1 : vIn s) (h2 : vIn k) : mt_M_isFamine [.ref 55, .int (iI v), .int (iI s), .int (iI k)] (S0 ++ T) σ (rF (S0 ++ T) σ (b01 (famP A v s k))) := by
  refine vMet.intro 3 (by decide +kernel) (Nat.le_of_ble_eq_true rfl) rfl (fun cx hM _ => ?_)
  refine v_iconst d_M_isFamine_0 ?_
  refine v_istore4 d_M_isFamine_1 (by decide) rfl ?_
  refine v_iconst d_M_isFamine_3 ?_
  refine v_istore5 d_M_isFamine_4 (by decide) rfl ?_
  exact c_M_isFamine_6 hA hO h0 h1 h2 hM 5 0 _ _ (by omega) rfl rfl

theorem c_M_isFamished_6 {T : vSh} {σ : vMem} {cx : vCx} {A : Int → Int} (hA : σ 56 = A) (hO : okA A) {oo dd k : Int} (h0 : vIn oo) (h1 : 0 ≤ dd ∧ dd < 1200) (h2 : vIn k) (hM : vM cx 0 0 (some .boolean) (rF (S0 ++ T) σ (famZ A oo dd k (A 0).toNat))) : ∀ (n j : Nat) (f i : Int), (j : Int) + n = A 0 → i = j → f = famZ A oo dd k j → vV cx y_M_isFamished.cls prog_14_method_61_code 6 3 0 0 0 0 6 [some (.ref 55), some (.int (iI oo)), some (.int (iI dd)), some (.int (iI k)), some (.int (iI f)), some (.int (iI i))] [] (S0 ++ T) σ := by
  intro n
  induction n with
  | zero =>
    intro j f i hj hi hf
    obtain ⟨⟨q0, q1, q2, q3, q4, q5, q6, q7⟩, hVi, hWe, hCo, hOf, hBo, hWo, hMo, hRe, hLi, hTa⟩ := id hO
    have hr := famZ_rng A oo dd k j
    refine v_iload5 d_M_isFamished_6 ?_
    refine v_aload0 d_M_isFamished_8 ?_
    refine v_getR d_M_isFamished_9 f_M_7 (sh_55 T) rfl ?_
    refine v_iconst d_M_isFamished_12 ?_
    refine v_ialoadE hA d_M_isFamished_13 (sh_56 T) (by omega) (fun g13 => ?_)
    refine v_icmp_ge d_M_isFamished_14 (by omega) (by omega) (fun u14 => ?_) (fun u14 => ?_)
    · refine v_iload4 d_M_isFamished_61 ?_
      exact v_zreturn hM d_M_isFamished_63 (by omega) ⟨rfl, rfl, by rw [hf]; congr 1; omega⟩
    · omega
  | succ n ih =>
    intro j f i hj hi hf
    obtain ⟨⟨q0, q1, q2, q3, q4, q5, q6, q7⟩, hVi, hWe, hCo, hOf, hBo, hWo, hMo, hRe, hLi, hTa⟩ := id hO
    have hr := famZ_rng A oo dd k j
    refine v_iload5 d_M_isFamished_6 ?_
    refine v_aload0 d_M_isFamished_8 ?_
    refine v_getR d_M_isFamished_9 f_M_7 (sh_55 T) rfl ?_
    refine v_iconst d_M_isFamished_12 ?_
    refine v_ialoadE hA d_M_isFamished_13 (sh_56 T) (by omega) (fun g13 => ?_)
    refine v_icmp_ge d_M_isFamished_14 (by omega) (by omega) (fun u14 => ?_) (fun u14 => ?_)
    · omega
    · refine v_iload4 d_M_isFamished_17 ?_
      refine v_if_ne d_M_isFamished_19 (by omega) (fun u19 => ?_) (fun u19 => ?_)
      · refine v_iconst d_M_isFamished_48 ?_
        refine v_goto d_M_isFamished_49 ?_
        refine v_istore4 d_M_isFamished_53 (by decide) rfl ?_
        refine v_iinc5 d_M_isFamished_55 (by decide) rfl ?_
        refine v_goto d_M_isFamished_58 ?_
        exact ih (j + 1) _ _ (by omega) (by omega) (by rw [famZ, ← hf, ← hi]; first | exact b01_1 (by omega) | exact b01_0 (by omega))
      · refine v_aload0 d_M_isFamished_22 ?_
        refine v_iload5 d_M_isFamished_23 ?_
        refine v_iload2 d_M_isFamished_25 ?_
        refine v_iload3 d_M_isFamished_26 ?_
        refine v_fVI3 d_M_isFamished_27 l_M_86 k_M_held (c_M_held hA hO (by omega) (by omega) (by omega)) (sh_55 T) rfl (by decide) (by decide) (Nat.le_of_ble_eq_true rfl) (Nat.zero_le _) (Nat.zero_le _) (fun g27 => ?_)
        refine v_iload1 d_M_isFamished_30 ?_
        refine v_icmp_ne d_M_isFamished_31 (by omega) (by omega) (fun u31 => ?_) (fun u31 => ?_)
        · refine v_iconst d_M_isFamished_52 ?_
          refine v_istore4 d_M_isFamished_53 (by decide) rfl ?_
          refine v_iinc5 d_M_isFamished_55 (by decide) rfl ?_
          refine v_goto d_M_isFamished_58 ?_
          exact ih (j + 1) _ _ (by omega) (by omega) (by rw [famZ, ← hf, ← hi]; first | exact b01_1 (by omega) | exact b01_0 (by omega))
        · refine v_aload0 d_M_isFamished_34 ?_
          refine v_iload5 d_M_isFamished_35 ?_
          refine v_iload2 d_M_isFamished_37 ?_
          refine v_bipush d_M_isFamished_38 rfl ?_
          refine v_idiv d_M_isFamished_40 (by omega) (by omega) ?_
          refine v_iload3 d_M_isFamished_41 ?_
          refine v_fVZ3 d_M_isFamished_42 l_M_229 k_M_isFamine (c_M_isFamine hA hO (by omega) (by omega) (by omega)) (sh_55 T) rfl (by decide) (by decide) (Nat.le_of_ble_eq_true rfl) (Nat.zero_le _) (Nat.zero_le _) (fun g42 => ?_)
          refine v_ifb_eq d_M_isFamished_45 (fun u45 => ?_) (fun u45 => ?_)
          · refine v_iconst d_M_isFamished_52 ?_
            refine v_istore4 d_M_isFamished_53 (by decide) rfl ?_
            refine v_iinc5 d_M_isFamished_55 (by decide) rfl ?_
            refine v_goto d_M_isFamished_58 ?_
            exact ih (j + 1) _ _ (by omega) (by omega) (by rw [famZ, ← hf, ← hi]; first | exact b01_1 (by omega) | exact b01_0 (by omega))
          · refine v_iconst d_M_isFamished_48 ?_
            refine v_goto d_M_isFamished_49 ?_
            refine v_istore4 d_M_isFamished_53 (by decide) rfl ?_
            refine v_iinc5 d_M_isFamished_55 (by decide) rfl ?_
            refine v_goto d_M_isFamished_58 ?_
            exact ih (j + 1) _ _ (by omega) (by omega) (by rw [famZ, ← hf, ← hi]; first | exact b01_1 (by omega) | exact b01_0 (by omega))

theorem c_M_isFamished {T : vSh} {σ : vMem} {A : Int → Int} (hA : σ 56 = A) (hO : okA A) {oo dd k : Int} (h0 : vIn oo) (h1 : 0 ≤ dd ∧ dd < 1200) (h2 : vIn k) : mt_M_isFamished [.ref 55, .int (iI oo), .int (iI dd), .int (iI k)] (S0 ++ T) σ (rF (S0 ++ T) σ (famZ A oo dd k (A 0).toNat)) := by
  refine vMet.intro 2 (by decide +kernel) (Nat.le_of_ble_eq_true rfl) rfl (fun cx hM _ => ?_)
  obtain ⟨⟨q0, q1, q2, q3, q4, q5, q6, q7⟩, hVi, hWe, hCo, hOf, hBo, hWo, hMo, hRe, hLi, hTa⟩ := id hO
  refine v_iconst d_M_isFamished_0 ?_
  refine v_istore4 d_M_isFamished_1 (by decide) rfl ?_
  refine v_iconst d_M_isFamished_3 ?_
  refine v_istore5 d_M_isFamished_4 (by decide) rfl ?_
  exact c_M_isFamished_6 hA hO h0 h1 h2 hM (A 0).toNat 0 _ _ (by omega) rfl rfl

