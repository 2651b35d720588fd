theorem c_M_latest_6 {T : vSh} {σ : vMem} {cx : vCx} {kind whose dd k : Int} (h0 : kind = 0 ∨ kind = 1) (h1 : vIn whose) (h2 : vIn dd) (h3 : vIn k) (hn : 0 ≤ σ 56 2 ∧ σ 56 2 ≤ 100) (hM : vM cx 0 0 (some .int) (rF (S0 ++ T) σ (latF (σ 56) kind whose dd k (σ 56 2).toNat))) : ∀ (n j : Nat) (best i : Int), (j : Int) + n = σ 56 2 → i = j → best = latF (σ 56) kind whose dd k j → vV cx y_M_latest.cls prog_14_method_30_code 7 1 0 0 0 0 6 [some (.ref 55), some (.int (iI kind)), some (.int (iI whose)), some (.int (iI dd)), some (.int (iI k)), some (.int (iI best)), some (.int (iI i))] [] (S0 ++ T) σ := by
  intro n
  induction n with
  | zero =>
    intro j best i hj hi hb
    refine v_iload6 d_M_latest_6 ?_
    refine v_aload0 d_M_latest_8 ?_
    refine v_getR d_M_latest_9 f_M_7 (sh_55 T) rfl ?_
    refine v_iconst d_M_latest_12 ?_
    refine v_iaload d_M_latest_13 (sh_56 T) (by omega) (fun g13 => ?_)
    have hr := latF_rng (σ 56) kind whose dd k j
    refine v_icmp_ge d_M_latest_14 (by omega) (by omega) (fun h14 => ?_) (fun h14 => ?_)
    · refine v_iload5 d_M_latest_99 ?_
      exact v_ireturn hM d_M_latest_101 (by omega) ⟨rfl, rfl, by rw [hb]; congr 1; omega⟩
    · omega
  | succ n ih =>
    intro j best i hj hi hb
    have hr := latF_rng (σ 56) kind whose dd k j
    rw [← hb] at hr
    refine v_iload6 d_M_latest_6 ?_
    refine v_aload0 d_M_latest_8 ?_
    refine v_getR d_M_latest_9 f_M_7 (sh_55 T) rfl ?_
    refine v_iconst d_M_latest_12 ?_
    refine v_iaload d_M_latest_13 (sh_56 T) (by omega) (fun g13 => ?_)
    refine v_icmp_ge d_M_latest_14 (by omega) (by omega) (fun h14 => ?_) (fun h14 => ?_)
    · omega
    · refine v_aload0 d_M_latest_17 ?_
      refine v_iload6 d_M_latest_18 ?_
      refine v_iconst d_M_latest_20 ?_
      refine v_fVI2 d_M_latest_21 l_M_107 k_M_written (c_M_written (by omega)) (sh_55 T) rfl (by decide) (by decide) (Nat.le_of_ble_eq_true rfl) (Nat.zero_le _) (Nat.zero_le _) (fun g21 => ?_)
      refine v_iload1 d_M_latest_24 ?_
      refine v_icmp_ne d_M_latest_25 (by omega) (by omega) (fun h25 => ?_) (fun h25 => ?_)
      · refine v_iinc6 d_M_latest_93 (by decide) rfl ?_
        refine v_goto d_M_latest_96 ?_
        exact ih (j + 1) _ _ (by omega) (by omega) (by rw [latF, ← hb, ← hi]; split <;> omega)
      · refine v_aload0 d_M_latest_28 ?_
        refine v_iload6 d_M_latest_29 ?_
        refine v_iconst d_M_latest_31 ?_
        refine v_iload1 d_M_latest_32 ?_
        refine v_iadd d_M_latest_33 ?_
        refine v_fVI2 d_M_latest_34 l_M_107 k_M_written (c_M_written (by omega)) (sh_55 T) rfl (by decide) (by decide) (Nat.le_of_ble_eq_true rfl) (Nat.zero_le _) (Nat.zero_le _) (fun g34 => ?_)
        refine v_iload2 d_M_latest_37 ?_
        refine v_icmp_ne d_M_latest_38 (by omega) (by omega) (fun h38 => ?_) (fun h38 => ?_)
        · refine v_iinc6 d_M_latest_93 (by decide) rfl ?_
          refine v_goto d_M_latest_96 ?_
          exact ih (j + 1) _ _ (by omega) (by omega) (by rw [latF, ← hb, ← hi]; split <;> omega)
        · refine v_aload0 d_M_latest_41 ?_
          refine v_iload6 d_M_latest_42 ?_
          refine v_iconst d_M_latest_44 ?_
          refine v_fVI2 d_M_latest_45 l_M_107 k_M_written (c_M_written (by omega)) (sh_55 T) rfl (by decide) (by decide) (Nat.le_of_ble_eq_true rfl) (Nat.zero_le _) (Nat.zero_le _) (fun g45 => ?_)
          refine v_iload3 d_M_latest_48 ?_
          refine v_icmp_gt d_M_latest_49 (by omega) (by omega) (fun h49 => ?_) (fun h49 => ?_)
          · refine v_iinc6 d_M_latest_93 (by decide) rfl ?_
            refine v_goto d_M_latest_96 ?_
            exact ih (j + 1) _ _ (by omega) (by omega) (by rw [latF, ← hb, ← hi]; split <;> omega)
          · refine v_aload0 d_M_latest_52 ?_
            refine v_iload6 d_M_latest_53 ?_
            refine v_iconst d_M_latest_55 ?_
            refine v_fVI2 d_M_latest_56 l_M_107 k_M_written (c_M_written (by omega)) (sh_55 T) rfl (by decide) (by decide) (Nat.le_of_ble_eq_true rfl) (Nat.zero_le _) (Nat.zero_le _) (fun g56 => ?_)
            refine v_iload4 d_M_latest_59 ?_
            refine v_icmp_le d_M_latest_61 (by omega) (by omega) (fun h61 => ?_) (fun h61 => ?_)
            · refine v_iload5 d_M_latest_67 ?_
              refine v_if_lt d_M_latest_69 (by omega) (fun h69 => ?_) (fun h69 => ?_)
              · refine v_iload6 d_M_latest_89 ?_
                refine v_istore5 d_M_latest_91 (by decide) rfl ?_
                refine v_iinc6 d_M_latest_93 (by decide) rfl ?_
                refine v_goto d_M_latest_96 ?_
                exact ih (j + 1) _ _ (by omega) (by omega) (by rw [latF, ← hb, ← hi]; split <;> omega)
              · refine v_aload0 d_M_latest_72 ?_
                refine v_iload6 d_M_latest_73 ?_
                refine v_iconst d_M_latest_75 ?_
                refine v_fVI2 d_M_latest_76 l_M_107 k_M_written (c_M_written (by omega)) (sh_55 T) rfl (by decide) (by decide) (Nat.le_of_ble_eq_true rfl) (Nat.zero_le _) (Nat.zero_le _) (fun g76 => ?_)
                refine v_aload0 d_M_latest_79 ?_
                refine v_iload5 d_M_latest_80 ?_
                refine v_iconst d_M_latest_82 ?_
                refine v_fVI2 d_M_latest_83 l_M_107 k_M_written (c_M_written (by omega)) (sh_55 T) rfl (by decide) (by decide) (Nat.le_of_ble_eq_true rfl) (Nat.zero_le _) (Nat.zero_le _) (fun g83 => ?_)
                refine v_icmp_lt d_M_latest_86 (by omega) (by omega) (fun h86 => ?_) (fun h86 => ?_)
                · refine v_iinc6 d_M_latest_93 (by decide) rfl ?_
                  refine v_goto d_M_latest_96 ?_
                  exact ih (j + 1) _ _ (by omega) (by omega) (by rw [latF, ← hb, ← hi]; split <;> omega)
                · refine v_iload6 d_M_latest_89 ?_
                  refine v_istore5 d_M_latest_91 (by decide) rfl ?_
                  refine v_iinc6 d_M_latest_93 (by decide) rfl ?_
                  refine v_goto d_M_latest_96 ?_
                  exact ih (j + 1) _ _ (by omega) (by omega) (by rw [latF, ← hb, ← hi]; split <;> omega)
            · refine v_goto d_M_latest_64 ?_
              refine v_iinc6 d_M_latest_93 (by decide) rfl ?_
              refine v_goto d_M_latest_96 ?_
              exact ih (j + 1) _ _ (by omega) (by omega) (by rw [latF, ← hb, ← hi]; split <;> omega)

theorem c_M_latest {T : vSh} {σ : vMem} {kind whose dd k : Int} (h0 : kind = 0 ∨ kind = 1) (h1 : vIn whose) (h2 : vIn dd) (h3 : vIn k) (hn : 0 ≤ σ 56 2 ∧ σ 56 2 ≤ 100) : mt_M_latest [.ref 55, .int (iI kind), .int (iI whose), .int (iI dd), .int (iI k)] (S0 ++ T) σ (rF (S0 ++ T) σ (latF (σ 56) kind whose dd k (σ 56 2).toNat)) := by
  refine vMet.intro 2 (by decide +kernel) (Nat.le_of_ble_eq_true rfl) rfl (fun cx hM _ => ?_)
  refine v_iconst d_M_latest_0 ?_
  refine v_istore5 d_M_latest_1 (by decide) rfl ?_
  refine v_iconst d_M_latest_3 ?_
  refine v_istore6 d_M_latest_4 (by decide) rfl ?_
  exact c_M_latest_6 h0 h1 h2 h3 hn hM (σ 56 2).toNat 0 _ _ (by omega) rfl rfl

