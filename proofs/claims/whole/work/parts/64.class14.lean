/-! ===== the class's reader: tokens ===== -/
def RK (σ : vMem) (b : Int → Int) (L : Int) : Prop := σ 30 1 = L ∧ okB b L ∧ ∀ i, 0 ≤ i → i < L → (-128 ≤ σ 31 i ∧ σ 31 i ≤ 127) ∧ (σ 31 i < 0 → b i = σ 31 i + 256) ∧ (0 ≤ σ 31 i → b i = σ 31 i)
def F45 (σ σ2 : vMem) : Prop := (∀ k, k ≠ 45 → σ2 k = σ k) ∧ ∀ i, i < 2 ∨ 5 < i → σ2 45 i = σ 45 i
theorem F45.rfl' {σ : vMem} : F45 σ σ := ⟨fun _ _ => rfl, fun _ _ => rfl⟩
theorem F45.trans' {a b c : vMem} (h1 : F45 a b) (h2 : F45 b c) : F45 a c := ⟨fun k hk => (h2.1 k hk).trans (h1.1 k hk), fun i hi => (h2.2 i hi).trans (h1.2 i hi)⟩
theorem F45.up {σ σ2 : vMem} (h : F45 σ σ2) {i v : Int} (hi : 2 ≤ i ∧ i ≤ 5) : F45 σ (vUp σ2 45 i v) := ⟨fun k hk => by rw [vUp_ne hk]; exact h.1 k hk, fun j hj => by rw [vUp_ix (by omega)]; exact h.2 j hj⟩
theorem F45.rk {σ σ2 : vMem} (h : F45 σ σ2) {b : Int → Int} {L : Int} (hC : RK σ b L) : RK σ2 b L := by
  unfold RK
  rw [h.1 30 (by decide), h.1 31 (by decide)]
  exact hC
def RkP (b : Int → Int) (p : Int) (F : Int → Int) : Prop := F 2 = nxF b p ∧ F 3 = tkF b p ∧ F 4 = whF b p ∧ (tkF b p = 102 → F 5 = nmF b p)
theorem RkP_word {b F : Int → Int} {p : Int} (c0 : ¬ b (whF b p) < 0) (hc : qL (b (whF b p))) (h2 : F 2 = weF b p) (h4 : F 4 = whF b p) (h3 : F 3 = if 6 < weF b p - whF b p then 101 else clF (wvF b (whF b p) (weF b p - whF b p).toNat)) : RkP b p F := by
  have e : tkF b p = if 6 < weF b p - whF b p then 101 else clF (wvF b (whF b p) (weF b p - whF b p).toNat) := by rw [tkF, if_neg c0, if_pos hc]
  refine ⟨by rw [h2, nxF, if_neg c0, if_pos hc], by rw [h3, e], h4, fun h => ?_⟩
  have h9 := clF_rng (wvF b (whF b p) (weF b p - whF b p).toNat)
  rw [e] at h
  split at h <;> omega
theorem RkP_num {b F : Int → Int} {p : Int} (c0 : ¬ b (whF b p) < 0) (c1 : ¬ qL (b (whF b p))) (hc : qD (b (whF b p))) (h2 : F 2 = deF b p) (h4 : F 4 = whF b p) (h5 : F 5 = nmF b p) (h : (4 < deF b p - whF b p ∧ F 3 = 101) ∨ (deF b p - whF b p ≤ 4 ∧ F 3 = 102)) : RkP b p F := by
  refine ⟨by rw [h2, nxF, if_neg c0, if_neg c1, if_pos hc], ?_, h4, fun _ => h5⟩
  rw [tkF, if_neg c0, if_neg c1, if_pos hc]
  rcases h with h | h
  · rw [if_pos h.1]; exact h.2
  · rw [if_neg (by omega)]; exact h.2
theorem RkP_sign {b F : Int → Int} {p : Int} (c0 : ¬ b (whF b p) < 0) (c1 : ¬ qL (b (whF b p))) (c2 : ¬ qD (b (whF b p))) (h2 : F 2 = whF b p + 1) (h4 : F 4 = whF b p) (h : ((58 ≤ b (whF b p) ∧ b (whF b p) ≤ 62) ∧ F 3 = b (whF b p)) ∨ (¬ (58 ≤ b (whF b p) ∧ b (whF b p) ≤ 62) ∧ F 3 = 101)) : RkP b p F := by
  have e : tkF b p = if 58 ≤ b (whF b p) ∧ b (whF b p) ≤ 62 then b (whF b p) else 101 := by rw [tkF, if_neg c0, if_neg c1, if_neg c2]
  refine ⟨by rw [h2, nxF, if_neg c0, if_neg c1, if_neg c2], ?_, h4, fun h9 => ?_⟩
  · rw [e]
    rcases h with h | h
    · rw [if_pos h.1]; exact h.2
    · rw [if_neg h.1]; exact h.2
  · rw [e] at h9
    split at h9 <;> omega
theorem RkP_end {b F : Int → Int} {p : Int} (c0 : b (whF b p) < 0) (h2 : F 2 = whF b p) (h4 : F 4 = whF b p) (h3 : F 3 = 100) : RkP b p F := by
  have e : tkF b p = 100 := by rw [tkF, if_pos c0]
  exact ⟨by rw [h2, nxF, if_pos c0], by rw [h3, e], h4, fun h => by omega⟩

theorem c_Re_readNumber_5 {T : vSh} {σ : vMem} {cx : vCx} {p L : Int} {b : Int → Int} (hR : RK σ b L) (hp : 0 ≤ p ∧ p ≤ 500) (hM : vM cx 0 0 none (rP (S0 ++ T) (fun _ σ2 => F45 σ σ2 ∧ RkP b p (σ2 45)))) (c1 : ¬ qL (b (whF b p))) (hq : qD (b (whF b p))) : ∀ (n : Nat) (e : Int) (σ1 : vMem), 500 - e < (n : Int) → (whF b p ≤ e ∧ e ≤ 500) → (rn b qD e = deF b p) → σ1 45 2 = e → σ1 45 4 = whF b p → σ1 45 5 = dgF b (whF b p) (e - whF b p).toNat → F45 σ σ1 → vV cx y_Re_readNumber.cls prog_9_method_11_code 1 0 0 0 0 0 5 [some (.ref 45)] [] (S0 ++ T) σ1 := by
  intro n
  induction n with
  | zero =>
    intro e σ1 hn h1 hwe h4 h5 hv hF
    omega
  | succ n ih =>
    intro e σ1 hn h1 hwe h4 h5 hv hF
    have hR1 := hF.rk hR
    have bL := hR.2.1.1
    have t0 := hR1.1
    have hw := whF_rng b hp.2
    have hbe : -1 ≤ b e ∧ b e ≤ 255 := okB_rng hR.2.1 (by omega)
    have hlt : e < L → _ := fun h => hR1.2.2 e (by omega) h
    have hge : L ≤ e → b e = -1 := hR.2.1.2.2 e
    have hwv := dgF_rng (b := b) (s := whF b p) (e - whF b p).toNat (fun i i1 i2 => rn_all b qD (p := whF b p) (by omega) (by have h9 := rn_ge b qD (p := e) h1.2; have h8 : rn b qD (whF b p) = deF b p := rfl; omega))
    rw [← hv] at hwv
    refine v_aload0 d_Re_readNumber_5 ?_
    refine v_getJ (ji := 2) d_Re_readNumber_6 f_Re_25 (sh_45 T) rfl rfl (fun g6 => ?_)
    rw [h4]
    refine v_aload0 d_Re_readNumber_9 ?_
    refine v_getR d_Re_readNumber_10 f_Re_9 (sh_45 T) rfl ?_
    refine v_getJ (ji := 1) d_Re_readNumber_13 f_Re_113 (sh_30 T) rfl rfl (fun g13 => ?_)
    refine v_icmp_ge d_Re_readNumber_16 (by omega) (by omega) (fun u16 => ?_) (fun u16 => ?_)
    · have he : e = deF b p := by rw [← hwe, rn_stop (fun z : qD (b e) => by have := z.1; have := z.2; omega)]
      refine v_aload0 d_Re_readNumber_106 ?_
      refine v_aload0 d_Re_readNumber_107 ?_
      refine v_getJ (ji := 2) d_Re_readNumber_108 f_Re_25 (sh_45 T) rfl rfl (fun g108 => ?_)
      refine v_aload0 d_Re_readNumber_111 ?_
      refine v_getJ (ji := 4) d_Re_readNumber_112 f_Re_60 (sh_45 T) rfl rfl (fun g112 => ?_)
      refine v_isub d_Re_readNumber_115 ?_
      refine v_iconst d_Re_readNumber_116 ?_
      refine v_icmp_gt d_Re_readNumber_117 (by omega) (by omega) (fun u117 => ?_) (fun u117 => ?_)
      · refine v_bipush d_Re_readNumber_125 rfl ?_
        refine v_putJ (ji := 3) d_Re_readNumber_127 p_Re_34 (sh_45 T) rfl rfl (by omega) ?_
        first
        | (exact v_return hM d_Re_readNumber_130 ⟨rfl, F45.up hF (by omega), RkP_num (by omega) c1 hq (by rw [vUp_ix (by decide), h4, he]) (by rw [vUp_ix (by decide), h5]) (by rw [vUp_ix (by decide), hv, he]; rfl) (Or.inr ⟨by omega, by rw [vUp_same]⟩)⟩)
        | (exact v_return hM d_Re_readNumber_130 ⟨rfl, F45.up hF (by omega), RkP_num (by omega) c1 hq (by rw [vUp_ix (by decide), h4, he]) (by rw [vUp_ix (by decide), h5]) (by rw [vUp_ix (by decide), hv, he]; rfl) (Or.inl ⟨by omega, by rw [vUp_same]⟩)⟩)
      · refine v_bipush d_Re_readNumber_120 rfl ?_
        refine v_goto d_Re_readNumber_122 ?_
        refine v_putJ (ji := 3) d_Re_readNumber_127 p_Re_34 (sh_45 T) rfl rfl (by omega) ?_
        first
        | (exact v_return hM d_Re_readNumber_130 ⟨rfl, F45.up hF (by omega), RkP_num (by omega) c1 hq (by rw [vUp_ix (by decide), h4, he]) (by rw [vUp_ix (by decide), h5]) (by rw [vUp_ix (by decide), hv, he]; rfl) (Or.inr ⟨by omega, by rw [vUp_same]⟩)⟩)
        | (exact v_return hM d_Re_readNumber_130 ⟨rfl, F45.up hF (by omega), RkP_num (by omega) c1 hq (by rw [vUp_ix (by decide), h4, he]) (by rw [vUp_ix (by decide), h5]) (by rw [vUp_ix (by decide), hv, he]; rfl) (Or.inl ⟨by omega, by rw [vUp_same]⟩)⟩)
    · refine v_aload0 d_Re_readNumber_19 ?_
      refine v_getR d_Re_readNumber_20 f_Re_9 (sh_45 T) rfl ?_
      refine v_getR d_Re_readNumber_23 f_Re_116 (sh_30 T) rfl ?_
      refine v_aload0 d_Re_readNumber_26 ?_
      refine v_getJ (ji := 2) d_Re_readNumber_27 f_Re_25 (sh_45 T) rfl rfl (fun g27 => ?_)
      rw [h4]
      refine v_baload d_Re_readNumber_30 (sh_31 T) (by omega) (fun g30 => ?_)
      refine v_bipush d_Re_readNumber_31 rfl ?_
      refine v_icmp_lt d_Re_readNumber_33 (by omega) (by omega) (fun u33 => ?_) (fun u33 => ?_)
      · have he : e = deF b p := by rw [← hwe, rn_stop (fun z : qD (b e) => by have := z.1; have := z.2; omega)]
        refine v_aload0 d_Re_readNumber_106 ?_
        refine v_aload0 d_Re_readNumber_107 ?_
        refine v_getJ (ji := 2) d_Re_readNumber_108 f_Re_25 (sh_45 T) rfl rfl (fun g108 => ?_)
        refine v_aload0 d_Re_readNumber_111 ?_
        refine v_getJ (ji := 4) d_Re_readNumber_112 f_Re_60 (sh_45 T) rfl rfl (fun g112 => ?_)
        refine v_isub d_Re_readNumber_115 ?_
        refine v_iconst d_Re_readNumber_116 ?_
        refine v_icmp_gt d_Re_readNumber_117 (by omega) (by omega) (fun u117 => ?_) (fun u117 => ?_)
        · refine v_bipush d_Re_readNumber_125 rfl ?_
          refine v_putJ (ji := 3) d_Re_readNumber_127 p_Re_34 (sh_45 T) rfl rfl (by omega) ?_
          first
          | (exact v_return hM d_Re_readNumber_130 ⟨rfl, F45.up hF (by omega), RkP_num (by omega) c1 hq (by rw [vUp_ix (by decide), h4, he]) (by rw [vUp_ix (by decide), h5]) (by rw [vUp_ix (by decide), hv, he]; rfl) (Or.inr ⟨by omega, by rw [vUp_same]⟩)⟩)
          | (exact v_return hM d_Re_readNumber_130 ⟨rfl, F45.up hF (by omega), RkP_num (by omega) c1 hq (by rw [vUp_ix (by decide), h4, he]) (by rw [vUp_ix (by decide), h5]) (by rw [vUp_ix (by decide), hv, he]; rfl) (Or.inl ⟨by omega, by rw [vUp_same]⟩)⟩)
        · refine v_bipush d_Re_readNumber_120 rfl ?_
          refine v_goto d_Re_readNumber_122 ?_
          refine v_putJ (ji := 3) d_Re_readNumber_127 p_Re_34 (sh_45 T) rfl rfl (by omega) ?_
          first
          | (exact v_return hM d_Re_readNumber_130 ⟨rfl, F45.up hF (by omega), RkP_num (by omega) c1 hq (by rw [vUp_ix (by decide), h4, he]) (by rw [vUp_ix (by decide), h5]) (by rw [vUp_ix (by decide), hv, he]; rfl) (Or.inr ⟨by omega, by rw [vUp_same]⟩)⟩)
          | (exact v_return hM d_Re_readNumber_130 ⟨rfl, F45.up hF (by omega), RkP_num (by omega) c1 hq (by rw [vUp_ix (by decide), h4, he]) (by rw [vUp_ix (by decide), h5]) (by rw [vUp_ix (by decide), hv, he]; rfl) (Or.inl ⟨by omega, by rw [vUp_same]⟩)⟩)
      · refine v_aload0 d_Re_readNumber_36 ?_
        refine v_getR d_Re_readNumber_37 f_Re_9 (sh_45 T) rfl ?_
        refine v_getR d_Re_readNumber_40 f_Re_116 (sh_30 T) rfl ?_
        refine v_aload0 d_Re_readNumber_43 ?_
        refine v_getJ (ji := 2) d_Re_readNumber_44 f_Re_25 (sh_45 T) rfl rfl (fun g44 => ?_)
        rw [h4]
        refine v_baload d_Re_readNumber_47 (sh_31 T) (by omega) (fun g47 => ?_)
        refine v_bipush d_Re_readNumber_48 rfl ?_
        refine v_icmp_gt d_Re_readNumber_50 (by omega) (by omega) (fun u50 => ?_) (fun u50 => ?_)
        · have he : e = deF b p := by rw [← hwe, rn_stop (fun z : qD (b e) => by have := z.1; have := z.2; omega)]
          refine v_aload0 d_Re_readNumber_106 ?_
          refine v_aload0 d_Re_readNumber_107 ?_
          refine v_getJ (ji := 2) d_Re_readNumber_108 f_Re_25 (sh_45 T) rfl rfl (fun g108 => ?_)
          refine v_aload0 d_Re_readNumber_111 ?_
          refine v_getJ (ji := 4) d_Re_readNumber_112 f_Re_60 (sh_45 T) rfl rfl (fun g112 => ?_)
          refine v_isub d_Re_readNumber_115 ?_
          refine v_iconst d_Re_readNumber_116 ?_
          refine v_icmp_gt d_Re_readNumber_117 (by omega) (by omega) (fun u117 => ?_) (fun u117 => ?_)
          · refine v_bipush d_Re_readNumber_125 rfl ?_
            refine v_putJ (ji := 3) d_Re_readNumber_127 p_Re_34 (sh_45 T) rfl rfl (by omega) ?_
            first
            | (exact v_return hM d_Re_readNumber_130 ⟨rfl, F45.up hF (by omega), RkP_num (by omega) c1 hq (by rw [vUp_ix (by decide), h4, he]) (by rw [vUp_ix (by decide), h5]) (by rw [vUp_ix (by decide), hv, he]; rfl) (Or.inr ⟨by omega, by rw [vUp_same]⟩)⟩)
            | (exact v_return hM d_Re_readNumber_130 ⟨rfl, F45.up hF (by omega), RkP_num (by omega) c1 hq (by rw [vUp_ix (by decide), h4, he]) (by rw [vUp_ix (by decide), h5]) (by rw [vUp_ix (by decide), hv, he]; rfl) (Or.inl ⟨by omega, by rw [vUp_same]⟩)⟩)
          · refine v_bipush d_Re_readNumber_120 rfl ?_
            refine v_goto d_Re_readNumber_122 ?_
            refine v_putJ (ji := 3) d_Re_readNumber_127 p_Re_34 (sh_45 T) rfl rfl (by omega) ?_
            first
            | (exact v_return hM d_Re_readNumber_130 ⟨rfl, F45.up hF (by omega), RkP_num (by omega) c1 hq (by rw [vUp_ix (by decide), h4, he]) (by rw [vUp_ix (by decide), h5]) (by rw [vUp_ix (by decide), hv, he]; rfl) (Or.inr ⟨by omega, by rw [vUp_same]⟩)⟩)
            | (exact v_return hM d_Re_readNumber_130 ⟨rfl, F45.up hF (by omega), RkP_num (by omega) c1 hq (by rw [vUp_ix (by decide), h4, he]) (by rw [vUp_ix (by decide), h5]) (by rw [vUp_ix (by decide), hv, he]; rfl) (Or.inl ⟨by omega, by rw [vUp_same]⟩)⟩)
        · refine v_aload0 d_Re_readNumber_53 ?_
          refine v_getJ (ji := 2) d_Re_readNumber_54 f_Re_25 (sh_45 T) rfl rfl (fun g54 => ?_)
          rw [h4]
          refine v_aload0 d_Re_readNumber_57 ?_
          refine v_getJ (ji := 4) d_Re_readNumber_58 f_Re_60 (sh_45 T) rfl rfl (fun g58 => ?_)
          refine v_isub d_Re_readNumber_61 ?_
          refine v_iconst d_Re_readNumber_62 ?_
          refine v_icmp_ge d_Re_readNumber_63 (by omega) (by omega) (fun u63 => ?_) (fun u63 => ?_)
          · refine v_aload0 d_Re_readNumber_93 ?_
            refine v_dup d_Re_readNumber_94 rfl ?_
            refine v_getJ (ji := 2) d_Re_readNumber_95 f_Re_25 (sh_45 T) rfl rfl (fun g95 => ?_)
            try rw [vUp_ix (by decide)]
            rw [h4]
            refine v_iconst d_Re_readNumber_98 ?_
            refine v_iadd d_Re_readNumber_99 ?_
            refine v_putJ (ji := 2) d_Re_readNumber_100 p_Re_25 (sh_45 T) rfl rfl (by omega) ?_
            refine v_goto d_Re_readNumber_103 ?_
            have hq9 : qD (b e) := ⟨by omega, by omega⟩
            refine ih (e + 1) _ (by omega) (by omega) (by rw [← rn_step (by omega) hq9]; exact hwe) (by rw [vUp_same]) (by rw [vUp_ix (by decide)]; exact h5) ?_ (F45.up hF (by omega))
            rw [show (e + 1 - whF b p).toNat = (e - whF b p).toNat + 1 by omega, dgF, if_neg (by omega), vUp_ix (by decide), hv]
          · refine v_aload0 d_Re_readNumber_66 ?_
            refine v_aload0 d_Re_readNumber_67 ?_
            refine v_getJ (ji := 5) d_Re_readNumber_68 f_Re_101 (sh_45 T) rfl rfl (fun g68 => ?_)
            refine v_bipush d_Re_readNumber_71 rfl ?_
            refine v_imul d_Re_readNumber_73 ?_
            refine v_aload0 d_Re_readNumber_74 ?_
            refine v_getR d_Re_readNumber_75 f_Re_9 (sh_45 T) rfl ?_
            refine v_getR d_Re_readNumber_78 f_Re_116 (sh_30 T) rfl ?_
            refine v_aload0 d_Re_readNumber_81 ?_
            refine v_getJ (ji := 2) d_Re_readNumber_82 f_Re_25 (sh_45 T) rfl rfl (fun g82 => ?_)
            rw [h4]
            refine v_baload d_Re_readNumber_85 (sh_31 T) (by omega) (fun g85 => ?_)
            refine v_iadd d_Re_readNumber_86 ?_
            refine v_bipush d_Re_readNumber_87 rfl ?_
            refine v_isub d_Re_readNumber_89 ?_
            refine v_putJ (ji := 5) d_Re_readNumber_90 p_Re_101 (sh_45 T) rfl rfl (by omega) ?_
            refine v_aload0 d_Re_readNumber_93 ?_
            refine v_dup d_Re_readNumber_94 rfl ?_
            refine v_getJ (ji := 2) d_Re_readNumber_95 f_Re_25 (sh_45 T) rfl rfl (fun g95 => ?_)
            try rw [vUp_ix (by decide)]
            rw [h4]
            refine v_iconst d_Re_readNumber_98 ?_
            refine v_iadd d_Re_readNumber_99 ?_
            refine v_putJ (ji := 2) d_Re_readNumber_100 p_Re_25 (sh_45 T) rfl rfl (by omega) ?_
            refine v_goto d_Re_readNumber_103 ?_
            have hq9 : qD (b e) := ⟨by omega, by omega⟩
            refine ih (e + 1) _ (by omega) (by omega) (by rw [← rn_step (by omega) hq9]; exact hwe) (by rw [vUp_same]) (by rw [vUp_ix (by decide), vUp_ix (by decide)]; exact h5) ?_ (F45.up (F45.up hF (by omega)) (by omega))
            rw [show (e + 1 - whF b p).toNat = (e - whF b p).toNat + 1 by omega, dgF, if_pos (by omega), vUp_ix (by decide), vUp_same, hv, show whF b p + ((e - whF b p).toNat : Int) = e by omega]
            omega

theorem c_Re_readNumber {T : vSh} {σ : vMem} {p L : Int} {b : Int → Int} (hR : RK σ b L) (hp : 0 ≤ p ∧ p ≤ 500) (c1 : ¬ qL (b (whF b p))) (hq : qD (b (whF b p))) (h2 : σ 45 2 = whF b p) (h4 : σ 45 4 = whF b p) : mt_Re_readNumber [.ref 45] (S0 ++ T) σ (rP (S0 ++ T) (fun _ σ2 => F45 σ σ2 ∧ RkP b p (σ2 45))) := by
  refine vMet.intro 0 (by decide +kernel) (Nat.le_of_ble_eq_true rfl) rfl (fun cx hM _ => ?_)
  have hw := whF_rng b hp.2
  refine v_aload0 d_Re_readNumber_0 ?_
  refine v_iconst d_Re_readNumber_1 ?_
  refine v_putJ (ji := 5) d_Re_readNumber_2 p_Re_101 (sh_45 T) rfl rfl (by omega) ?_
  exact c_Re_readNumber_5 hR hp hM c1 hq 501 (whF b p) _ (by omega) (by omega) rfl (by rw [vUp_ix (by decide), h2]) (by rw [vUp_ix (by decide), h4]) (by rw [vUp_same, Int.sub_self]; rfl) (F45.up F45.rfl' (by omega))

theorem WL_len : WL.length = 77 := by decide
theorem WL_drop {i : Int} (h : 0 ≤ i ∧ i < 77) : WL.drop i.toNat = WL.getD i.toNat 0 :: WL.drop (i + 1).toNat := by
  have h1 : i.toNat < WL.length := by rw [WL_len]; omega
  rw [List.drop_eq_getElem_cons h1, show (i + 1).toNat = i.toNat + 1 by omega, List.getD_eq_getElem?_getD, List.getElem?_eq_getElem h1]
  rfl
theorem WL_rng : ∀ i : Nat, i < 77 → 32 ≤ WL.getD i 0 ∧ WL.getD i 0 ≤ 122 := by decide +kernel
theorem c_Re_readWord_87x {T : vSh} {σ σ1 : vMem} {cx : vCx} {p L : Int} {b : Int → Int} (hR : RK σ b L) (hp : 0 ≤ p ∧ p ≤ 500) (hM : vM cx 0 0 none (rP (S0 ++ T) (fun _ σ2 => F45 σ σ2 ∧ RkP b p (σ2 45)))) (hq : qL (b (whF b p))) (hfin : (if 6 < weF b p - whF b p then 101 else clF (wvF b (whF b p) (weF b p - whF b p).toNat)) = (wsF (weF b p - whF b p) (fun x => b (whF b p + x)) WL 0 0 0)) {z w k l i : Int} (hi : 0 ≤ i ∧ i ≤ 77) (h2 : σ1 45 2 = weF b p) (h4 : σ1 45 4 = whF b p) (h3 : σ1 45 3 = (wsF (weF b p - whF b p) (fun x => b (whF b p + x)) WL 0 0 0)) (hn : (wsF (weF b p - whF b p) (fun x => b (whF b p + x)) WL 0 0 0) ≠ 101) (hF : F45 σ σ1) : vV cx y_Re_readWord.cls prog_9_method_12_code 7 4 0 0 0 0 87 [some (.ref 45), some (.int (iI z)), some (.int (iI w)), some (.int (iI k)), some (.int (iI l)), some (.int (iI i)), none] [] (S0 ++ T) σ1 := by
  refine v_iload5 d_Re_readWord_87 ?_
  refine v_strlen d_Re_readWord_89 d_Re_readWord_91 (by decide) (Nat.le_of_ble_eq_true rfl) ?_
  refine v_icmp_ge d_Re_readWord_94 (by omega) (by omega) (fun u94 => ?_) (fun u94 => ?_)
  · exact v_return hM d_Re_readWord_187 ⟨rfl, hF, RkP_word (by have := hq.1; omega) hq h2 h4 (by rw [hfin]; exact h3)⟩
  · refine v_aload0 d_Re_readWord_97 ?_
    refine v_getJ (ji := 3) d_Re_readWord_98 f_Re_34 (sh_45 T) rfl rfl (fun g98 => ?_)
    rw [h3] at g98 ⊢
    refine v_bipush d_Re_readWord_101 rfl ?_
    refine v_icmp_ne d_Re_readWord_103 (by omega) (by omega) (fun u103 => ?_) (fun u103 => ?_)
    · exact v_return hM d_Re_readWord_187 ⟨rfl, hF, RkP_word (by have := hq.1; omega) hq h2 h4 (by rw [hfin]; exact h3)⟩
    · omega

theorem c_Re_readWord_87 {T : vSh} {σ : vMem} {cx : vCx} {p L : Int} {b : Int → Int} (hR : RK σ b L) (hp : 0 ≤ p ∧ p ≤ 500) (hM : vM cx 0 0 none (rP (S0 ++ T) (fun _ σ2 => F45 σ σ2 ∧ RkP b p (σ2 45)))) (hq : qL (b (whF b p))) (hfin : (if 6 < weF b p - whF b p then 101 else clF (wvF b (whF b p) (weF b p - whF b p).toNat)) = (wsF (weF b p - whF b p) (fun x => b (whF b p + x)) WL 0 0 0)) {z : Int} (hz : z = weF b p - whF b p) : ∀ (n : Nat) (i w k l : Int) (σ1 : vMem), 77 - i < (n : Int) → (0 ≤ i ∧ i ≤ 77) → (0 ≤ w ∧ w ≤ i) → (0 ≤ k ∧ k ≤ i) → (0 ≤ l ∧ l ≤ i) → σ1 45 2 = weF b p → σ1 45 4 = whF b p → σ1 45 3 = 101 → (wsF (weF b p - whF b p) (fun x => b (whF b p + x)) WL 0 0 0) = wsF (weF b p - whF b p) (fun x => b (whF b p + x)) (WL.drop i.toNat) w k l → F45 σ σ1 → vV cx y_Re_readWord.cls prog_9_method_12_code 7 4 0 0 0 0 87 [some (.ref 45), some (.int (iI z)), some (.int (iI w)), some (.int (iI k)), some (.int (iI l)), some (.int (iI i)), none] [] (S0 ++ T) σ1 := by
  intro n
  induction n with
  | zero =>
    intro i w k l σ1 hn hi hw9 hk9 hl9 h2 h4 h3 hT hF
    omega
  | succ n ih =>
    intro i w k l σ1 hn hi hw9 hk9 hl9 h2 h4 h3 hT hF
    have hR1 := hF.rk hR
    have bL := hR.2.1.1
    have hw := whF_rng b hp.2
    have hwe := rn_ge b qL hw.2
    have hwe2 : weF b p = rn b qL (whF b p) := rfl
    have hci : i < 77 → _ := fun h => WL_rng i.toNat (by omega)
    have hun : i < 77 → _ := fun h => WL_drop ⟨hi.1, h⟩
    have hby : 0 ≤ l → l < weF b p - whF b p → (σ1 31 (whF b p + l) = b (whF b p + l) ∧ whF b p + l < 500) := fun y1 y2 => by
      have h9 : qL (b (whF b p + l)) := rn_all b qL (p := whF b p) (by omega) (by omega)
      have h8 := okB_lt hR.2.1 (e := whF b p + l) (by have := h9.1; omega)
      have h7 := hR1.2.2 (whF b p + l) (by omega) h8
      have := h9.1; have := h9.2
      omega
    refine v_iload5 d_Re_readWord_87 ?_
    refine v_strlen d_Re_readWord_89 d_Re_readWord_91 (by decide) (Nat.le_of_ble_eq_true rfl) ?_
    refine v_icmp_ge d_Re_readWord_94 (by omega) (by omega) (fun u94 => ?_) (fun u94 => ?_)
    · first
      | (omega)
      | ((have hi9 : i = 77 := (by omega)); subst hi9; exact v_return hM d_Re_readWord_187 ⟨rfl, hF, RkP_word (by have := hq.1; omega) hq h2 h4 (by rw [hfin]; exact (by rw [h3, hT]; rfl))⟩)
    · refine v_aload0 d_Re_readWord_97 ?_
      refine v_getJ (ji := 3) d_Re_readWord_98 f_Re_34 (sh_45 T) rfl rfl (fun g98 => ?_)
      rw [h3] at g98 ⊢
      refine v_bipush d_Re_readWord_101 rfl ?_
      refine v_icmp_ne d_Re_readWord_103 (by omega) (by omega) (fun u103 => ?_) (fun u103 => ?_)
      · omega
      · refine v_strchar5 d_Re_readWord_106 d_Re_readWord_108 d_Re_readWord_110 (by omega) (by decide) (Nat.le_of_ble_eq_true rfl) ?_
        have hc9 := hci (by omega)
        refine v_istore6 d_Re_readWord_113 (by decide) rfl ?_
        refine v_iload6 d_Re_readWord_115 ?_
        refine v_bipush d_Re_readWord_117 rfl ?_
        refine v_icmp_eq d_Re_readWord_119 (by omega) (by omega) (fun u119 => ?_) (fun u119 => ?_)
        · refine v_iload4 d_Re_readWord_157 ?_
          refine v_iload1 d_Re_readWord_159 ?_
          refine v_icmp_ne d_Re_readWord_160 (by omega) (by omega) (fun u160 => ?_) (fun u160 => ?_)
          · refine v_iinc2 d_Re_readWord_173 (by decide) rfl ?_
            refine v_iconst d_Re_readWord_176 ?_
            refine v_istore3 d_Re_readWord_177 (by decide) rfl ?_
            refine v_iconst d_Re_readWord_178 ?_
            refine v_istore4 d_Re_readWord_179 (by decide) rfl ?_
            refine v_iinc5 d_Re_readWord_181 (by decide) rfl ?_
            refine v_goto d_Re_readWord_184 ?_
            refine v_drop6 ?_
            refine ih (i + 1) _ _ _ _ (by omega) (by omega) (by omega) (by omega) (by omega) h2 h4 h3 ?_ hF
            rw [hT, hun (by omega), wsF, if_pos (by omega), if_neg (by omega)]
          · refine v_iload3 d_Re_readWord_163 ?_
            refine v_iload1 d_Re_readWord_164 ?_
            refine v_icmp_ne d_Re_readWord_165 (by omega) (by omega) (fun u165 => ?_) (fun u165 => ?_)
            · refine v_iinc2 d_Re_readWord_173 (by decide) rfl ?_
              refine v_iconst d_Re_readWord_176 ?_
              refine v_istore3 d_Re_readWord_177 (by decide) rfl ?_
              refine v_iconst d_Re_readWord_178 ?_
              refine v_istore4 d_Re_readWord_179 (by decide) rfl ?_
              refine v_iinc5 d_Re_readWord_181 (by decide) rfl ?_
              refine v_goto d_Re_readWord_184 ?_
              refine v_drop6 ?_
              refine ih (i + 1) _ _ _ _ (by omega) (by omega) (by omega) (by omega) (by omega) h2 h4 h3 ?_ hF
              rw [hT, hun (by omega), wsF, if_pos (by omega), if_neg (by omega)]
            · refine v_aload0 d_Re_readWord_168 ?_
              refine v_iload2 d_Re_readWord_169 ?_
              refine v_putJ (ji := 3) d_Re_readWord_170 p_Re_34 (sh_45 T) rfl rfl (by omega) ?_
              refine v_iinc2 d_Re_readWord_173 (by decide) rfl ?_
              refine v_iconst d_Re_readWord_176 ?_
              refine v_istore3 d_Re_readWord_177 (by decide) rfl ?_
              refine v_iconst d_Re_readWord_178 ?_
              refine v_istore4 d_Re_readWord_179 (by decide) rfl ?_
              refine v_iinc5 d_Re_readWord_181 (by decide) rfl ?_
              refine v_goto d_Re_readWord_184 ?_
              refine v_drop6 ?_
              have hT9 : (wsF (weF b p - whF b p) (fun x => b (whF b p + x)) WL 0 0 0) = w := by rw [hT, hun (by omega), wsF, if_pos (by omega), if_pos (by omega)]
              exact c_Re_readWord_87x hR hp hM hq hfin (by omega) (by rw [vUp_ix (by decide)]; exact h2) (by rw [vUp_ix (by decide)]; exact h4) (by rw [vUp_same, hT9]) (by omega) (F45.up hF (by omega))
        · refine v_iload4 d_Re_readWord_122 ?_
          refine v_iload1 d_Re_readWord_124 ?_
          refine v_icmp_ge d_Re_readWord_125 (by omega) (by omega) (fun u125 => ?_) (fun u125 => ?_)
          · refine v_iinc4 d_Re_readWord_151 (by decide) rfl ?_
            refine v_goto d_Re_readWord_154 ?_
            refine v_iinc5 d_Re_readWord_181 (by decide) rfl ?_
            refine v_goto d_Re_readWord_184 ?_
            refine v_drop6 ?_
            refine ih (i + 1) _ _ _ _ (by omega) (by omega) (by omega) (by omega) (by omega) h2 h4 h3 ?_ hF
            rw [hT, hun (by omega), wsF, if_neg (by omega), if_neg (by omega)]
          · refine v_aload0 d_Re_readWord_128 ?_
            refine v_getR d_Re_readWord_129 f_Re_9 (sh_45 T) rfl ?_
            refine v_getR d_Re_readWord_132 f_Re_116 (sh_30 T) rfl ?_
            refine v_aload0 d_Re_readWord_135 ?_
            refine v_getJ (ji := 4) d_Re_readWord_136 f_Re_60 (sh_45 T) rfl rfl (fun g136 => ?_)
            rw [h4] at g136 ⊢
            refine v_iload4 d_Re_readWord_139 ?_
            refine v_iadd d_Re_readWord_141 ?_
            have hb9 := hby (by omega) (by omega)
            refine v_baload d_Re_readWord_142 (sh_31 T) (by omega) (fun g142 => ?_)
            rw [hb9.1] at g142 ⊢
            refine v_iload6 d_Re_readWord_143 ?_
            refine v_icmp_ne d_Re_readWord_145 (by omega) (by omega) (fun u145 => ?_) (fun u145 => ?_)
            · refine v_iinc4 d_Re_readWord_151 (by decide) rfl ?_
              refine v_goto d_Re_readWord_154 ?_
              refine v_iinc5 d_Re_readWord_181 (by decide) rfl ?_
              refine v_goto d_Re_readWord_184 ?_
              refine v_drop6 ?_
              refine ih (i + 1) _ _ _ _ (by omega) (by omega) (by omega) (by omega) (by omega) h2 h4 h3 ?_ hF
              rw [hT, hun (by omega), wsF, if_neg (by omega), if_neg (by omega)]
            · refine v_iinc3 d_Re_readWord_148 (by decide) rfl ?_
              refine v_iinc4 d_Re_readWord_151 (by decide) rfl ?_
              refine v_goto d_Re_readWord_154 ?_
              refine v_iinc5 d_Re_readWord_181 (by decide) rfl ?_
              refine v_goto d_Re_readWord_184 ?_
              refine v_drop6 ?_
              refine ih (i + 1) _ _ _ _ (by omega) (by omega) (by omega) (by omega) (by omega) h2 h4 h3 ?_ hF
              rw [hT, hun (by omega), wsF, if_neg (by omega), if_pos (by omega)]

theorem wsF_fin {b : Int → Int} {L p : Int} (hb : okB b L) (hp : 0 ≤ p ∧ p ≤ 500) (hq : qL (b (whF b p))) : (if 6 < weF b p - whF b p then 101 else clF (wvF b (whF b p) (weF b p - whF b p).toNat)) = wsF (weF b p - whF b p) (fun x => b (whF b p + x)) WL 0 0 0 := by
  have hw := whF_rng b hp.2
  have h0 := hb.1
  have h6 := okB_lt hb (e := whF b p) (by have := hq.1; omega)
  have h7 := rn_step (b := b) (q := qL) (p := whF b p) (by omega) hq
  have h8 := rn_ge b qL (p := whF b p + 1) (by omega)
  have h9 : weF b p = rn b qL (whF b p) := rfl
  by_cases c : 6 < weF b p - whF b p
  · rw [if_pos c, wsF_long c]
  · rw [if_neg c, wvF_vN _ _ _ (by omega)]
    have e9 : weF b p - whF b p = (((weF b p - whF b p).toNat : Nat) : Int) := by omega
    have := wsF_all (m := fun x => b (whF b p + x)) (n := (weF b p - whF b p).toNat) (by omega) (by omega) (fun i i1 i2 => rn_all b qL (p := whF b p) (by omega) (by omega))
    rw [← e9] at this
    exact this.symm
theorem c_Re_readWord_0 {T : vSh} {σ : vMem} {cx : vCx} {p L : Int} {b : Int → Int} (hR : RK σ b L) (hp : 0 ≤ p ∧ p ≤ 500) (hM : vM cx 0 0 none (rP (S0 ++ T) (fun _ σ2 => F45 σ σ2 ∧ RkP b p (σ2 45)))) (hq : qL (b (whF b p))) : ∀ (n : Nat) (e : Int) (σ1 : vMem), 500 - e < (n : Int) → (whF b p ≤ e ∧ e ≤ 500) → (rn b qL e = weF b p) → σ1 45 2 = e → σ1 45 4 = whF b p → F45 σ σ1 → vV cx y_Re_readWord.cls prog_9_method_12_code 7 4 0 0 0 0 0 [some (.ref 45), none, none, none, none, none, none] [] (S0 ++ T) σ1 := by
  intro n
  induction n with
  | zero =>
    intro e σ1 hn h1 hwe h4 h5 hF
    omega
  | succ n ih =>
    intro e σ1 hn h1 hwe h4 h5 hF
    have hR1 := hF.rk hR
    have bL := hR.2.1.1
    have t0 := hR1.1
    have hw := whF_rng b hp.2
    have hbe : -1 ≤ b e ∧ b e ≤ 255 := okB_rng hR.2.1 (by omega)
    have hlt : e < L → _ := fun h => hR1.2.2 e (by omega) h
    have hge : L ≤ e → b e = -1 := hR.2.1.2.2 e
    refine v_aload0 d_Re_readWord_0 ?_
    refine v_getJ (ji := 2) d_Re_readWord_1 f_Re_25 (sh_45 T) rfl rfl (fun g1 => ?_)
    rw [h4]
    refine v_aload0 d_Re_readWord_4 ?_
    refine v_getR d_Re_readWord_5 f_Re_9 (sh_45 T) rfl ?_
    refine v_getJ (ji := 1) d_Re_readWord_8 f_Re_113 (sh_30 T) rfl rfl (fun g8 => ?_)
    refine v_icmp_ge d_Re_readWord_11 (by omega) (by omega) (fun u11 => ?_) (fun u11 => ?_)
    · have he : e = weF b p := by rw [← hwe, rn_stop (fun z : qL (b e) => by have := z.1; have := z.2; omega)]
      refine v_aload0 d_Re_readWord_61 ?_
      refine v_getJ (ji := 2) d_Re_readWord_62 f_Re_25 (sh_45 T) rfl rfl (fun g62 => ?_)
      refine v_aload0 d_Re_readWord_65 ?_
      refine v_getJ (ji := 4) d_Re_readWord_66 f_Re_60 (sh_45 T) rfl rfl (fun g66 => ?_)
      refine v_isub d_Re_readWord_69 ?_
      refine v_istore1 d_Re_readWord_70 (by decide) rfl ?_
      refine v_iconst d_Re_readWord_71 ?_
      refine v_istore2 d_Re_readWord_72 (by decide) rfl ?_
      refine v_iconst d_Re_readWord_73 ?_
      refine v_istore3 d_Re_readWord_74 (by decide) rfl ?_
      refine v_iconst d_Re_readWord_75 ?_
      refine v_istore4 d_Re_readWord_76 (by decide) rfl ?_
      refine v_aload0 d_Re_readWord_78 ?_
      refine v_bipush d_Re_readWord_79 rfl ?_
      refine v_putJ (ji := 3) d_Re_readWord_81 p_Re_34 (sh_45 T) rfl rfl (by omega) ?_
      refine v_iconst d_Re_readWord_84 ?_
      refine v_istore5 d_Re_readWord_85 (by decide) rfl ?_
      have hf := wsF_fin hR.2.1 hp hq
      exact c_Re_readWord_87 hR hp hM hq hf (by omega) 78 0 _ _ _ _ (by omega) (by omega) (by omega) (by omega) (by omega) (by rw [vUp_ix (by decide), h4, he]) (by rw [vUp_ix (by decide), h5]) (by rw [vUp_same]) rfl (F45.up hF (by omega))
    · refine v_aload0 d_Re_readWord_14 ?_
      refine v_getR d_Re_readWord_15 f_Re_9 (sh_45 T) rfl ?_
      refine v_getR d_Re_readWord_18 f_Re_116 (sh_30 T) rfl ?_
      refine v_aload0 d_Re_readWord_21 ?_
      refine v_getJ (ji := 2) d_Re_readWord_22 f_Re_25 (sh_45 T) rfl rfl (fun g22 => ?_)
      rw [h4]
      refine v_baload d_Re_readWord_25 (sh_31 T) (by omega) (fun g25 => ?_)
      refine v_bipush d_Re_readWord_26 rfl ?_
      refine v_icmp_lt d_Re_readWord_28 (by omega) (by omega) (fun u28 => ?_) (fun u28 => ?_)
      · have he : e = weF b p := by rw [← hwe, rn_stop (fun z : qL (b e) => by have := z.1; have := z.2; omega)]
        refine v_aload0 d_Re_readWord_61 ?_
        refine v_getJ (ji := 2) d_Re_readWord_62 f_Re_25 (sh_45 T) rfl rfl (fun g62 => ?_)
        refine v_aload0 d_Re_readWord_65 ?_
        refine v_getJ (ji := 4) d_Re_readWord_66 f_Re_60 (sh_45 T) rfl rfl (fun g66 => ?_)
        refine v_isub d_Re_readWord_69 ?_
        refine v_istore1 d_Re_readWord_70 (by decide) rfl ?_
        refine v_iconst d_Re_readWord_71 ?_
        refine v_istore2 d_Re_readWord_72 (by decide) rfl ?_
        refine v_iconst d_Re_readWord_73 ?_
        refine v_istore3 d_Re_readWord_74 (by decide) rfl ?_
        refine v_iconst d_Re_readWord_75 ?_
        refine v_istore4 d_Re_readWord_76 (by decide) rfl ?_
        refine v_aload0 d_Re_readWord_78 ?_
        refine v_bipush d_Re_readWord_79 rfl ?_
        refine v_putJ (ji := 3) d_Re_readWord_81 p_Re_34 (sh_45 T) rfl rfl (by omega) ?_
        refine v_iconst d_Re_readWord_84 ?_
        refine v_istore5 d_Re_readWord_85 (by decide) rfl ?_
        have hf := wsF_fin hR.2.1 hp hq
        exact c_Re_readWord_87 hR hp hM hq hf (by omega) 78 0 _ _ _ _ (by omega) (by omega) (by omega) (by omega) (by omega) (by rw [vUp_ix (by decide), h4, he]) (by rw [vUp_ix (by decide), h5]) (by rw [vUp_same]) rfl (F45.up hF (by omega))
      · refine v_aload0 d_Re_readWord_31 ?_
        refine v_getR d_Re_readWord_32 f_Re_9 (sh_45 T) rfl ?_
        refine v_getR d_Re_readWord_35 f_Re_116 (sh_30 T) rfl ?_
        refine v_aload0 d_Re_readWord_38 ?_
        refine v_getJ (ji := 2) d_Re_readWord_39 f_Re_25 (sh_45 T) rfl rfl (fun g39 => ?_)
        rw [h4]
        refine v_baload d_Re_readWord_42 (sh_31 T) (by omega) (fun g42 => ?_)
        refine v_bipush d_Re_readWord_43 rfl ?_
        refine v_icmp_gt d_Re_readWord_45 (by omega) (by omega) (fun u45 => ?_) (fun u45 => ?_)
        · have he : e = weF b p := by rw [← hwe, rn_stop (fun z : qL (b e) => by have := z.1; have := z.2; omega)]
          refine v_aload0 d_Re_readWord_61 ?_
          refine v_getJ (ji := 2) d_Re_readWord_62 f_Re_25 (sh_45 T) rfl rfl (fun g62 => ?_)
          refine v_aload0 d_Re_readWord_65 ?_
          refine v_getJ (ji := 4) d_Re_readWord_66 f_Re_60 (sh_45 T) rfl rfl (fun g66 => ?_)
          refine v_isub d_Re_readWord_69 ?_
          refine v_istore1 d_Re_readWord_70 (by decide) rfl ?_
          refine v_iconst d_Re_readWord_71 ?_
          refine v_istore2 d_Re_readWord_72 (by decide) rfl ?_
          refine v_iconst d_Re_readWord_73 ?_
          refine v_istore3 d_Re_readWord_74 (by decide) rfl ?_
          refine v_iconst d_Re_readWord_75 ?_
          refine v_istore4 d_Re_readWord_76 (by decide) rfl ?_
          refine v_aload0 d_Re_readWord_78 ?_
          refine v_bipush d_Re_readWord_79 rfl ?_
          refine v_putJ (ji := 3) d_Re_readWord_81 p_Re_34 (sh_45 T) rfl rfl (by omega) ?_
          refine v_iconst d_Re_readWord_84 ?_
          refine v_istore5 d_Re_readWord_85 (by decide) rfl ?_
          have hf := wsF_fin hR.2.1 hp hq
          exact c_Re_readWord_87 hR hp hM hq hf (by omega) 78 0 _ _ _ _ (by omega) (by omega) (by omega) (by omega) (by omega) (by rw [vUp_ix (by decide), h4, he]) (by rw [vUp_ix (by decide), h5]) (by rw [vUp_same]) rfl (F45.up hF (by omega))
        · refine v_aload0 d_Re_readWord_48 ?_
          refine v_dup d_Re_readWord_49 rfl ?_
          refine v_getJ (ji := 2) d_Re_readWord_50 f_Re_25 (sh_45 T) rfl rfl (fun g50 => ?_)
          rw [h4]
          refine v_iconst d_Re_readWord_53 ?_
          refine v_iadd d_Re_readWord_54 ?_
          refine v_putJ (ji := 2) d_Re_readWord_55 p_Re_25 (sh_45 T) rfl rfl (by omega) ?_
          refine v_goto d_Re_readWord_58 ?_
          have hq9 : qL (b e) := ⟨by omega, by omega⟩
          exact ih (e + 1) _ (by omega) (by omega) (by rw [← rn_step (by omega) hq9]; exact hwe) (by rw [vUp_same]) (by rw [vUp_ix (by decide)]; exact h5) (F45.up hF (by omega))

theorem c_Re_readWord {T : vSh} {σ : vMem} {p L : Int} {b : Int → Int} (hR : RK σ b L) (hp : 0 ≤ p ∧ p ≤ 500) (hq : qL (b (whF b p))) (h2 : σ 45 2 = whF b p) (h4 : σ 45 4 = whF b p) : mt_Re_readWord [.ref 45] (S0 ++ T) σ (rP (S0 ++ T) (fun _ σ2 => F45 σ σ2 ∧ RkP b p (σ2 45))) := by
  refine vMet.intro 6 (by decide +kernel) (Nat.le_of_ble_eq_true rfl) rfl (fun cx hM _ => ?_)
  have hw := whF_rng b hp.2
  exact c_Re_readWord_0 hR hp hM hq 501 (whF b p) σ (by omega) (by omega) rfl h2 h4 F45.rfl'

theorem c_Re_readToken_61 {T : vSh} {σ σ1 : vMem} {cx : vCx} {p L : Int} {b : Int → Int} (hR : RK σ b L) (hp : 0 ≤ p ∧ p ≤ 500) (hM : vM cx 0 0 none (rP (S0 ++ T) (fun _ σ2 => F45 σ σ2 ∧ RkP b p (σ2 45)))) (h4 : σ1 45 2 = whF b p) (hF : F45 σ σ1) : vV cx y_Re_readToken.cls prog_9_method_10_code 3 5 0 0 0 0 61 [some (.ref 45), none, none] [] (S0 ++ T) σ1 := by
  have bL := hR.2.1.1
  have hw := whF_rng b hp.2
  have hbe : -1 ≤ b (whF b p) ∧ b (whF b p) ≤ 255 := okB_rng hR.2.1 (by omega)
  have hF1 : F45 σ (vUp σ1 45 4 (whF b p)) := F45.up hF (by omega)
  have hR1 := hF1.rk hR
  have t0 := (hF.rk hR).1
  have hlt : whF b p < L → _ := fun h => hR1.2.2 (whF b p) (by omega) h
  have hge : L ≤ whF b p → b (whF b p) = -1 := hR.2.1.2.2 (whF b p)
  have e31 : vUp σ1 45 4 (whF b p) 31 = σ1 31 := vUp_ne (by decide)
  rw [e31] at hlt
  refine v_aload0 d_Re_readToken_61 ?_
  refine v_aload0 d_Re_readToken_62 ?_
  refine v_getJ (ji := 2) d_Re_readToken_63 f_Re_25 (sh_45 T) rfl rfl (fun g63 => ?_)
  rw [h4]
  refine v_putJ (ji := 4) d_Re_readToken_66 p_Re_60 (sh_45 T) rfl rfl (by omega) ?_
  refine v_aload0 d_Re_readToken_69 ?_
  refine v_getJ (ji := 2) d_Re_readToken_70 f_Re_25 (sh_45 T) rfl rfl (fun g70 => ?_)
  rw [vUp_ix (by decide), h4]
  refine v_aload0 d_Re_readToken_73 ?_
  refine v_getR d_Re_readToken_74 f_Re_9 (sh_45 T) rfl ?_
  refine v_getJ (ji := 1) d_Re_readToken_77 f_Re_113 (sh_30 T) rfl rfl (fun g77 => ?_)
  rw [vUp_ne (by decide), t0] at g77 ⊢
  refine v_icmp_lt d_Re_readToken_80 (by omega) (by omega) (fun u80 => ?_) (fun u80 => ?_)
  · refine v_aload0 d_Re_readToken_90 ?_
    refine v_getR d_Re_readToken_91 f_Re_9 (sh_45 T) rfl ?_
    refine v_getR d_Re_readToken_94 f_Re_116 (sh_30 T) rfl ?_
    refine v_aload0 d_Re_readToken_97 ?_
    refine v_getJ (ji := 2) d_Re_readToken_98 f_Re_25 (sh_45 T) rfl rfl (fun g98 => ?_)
    rw [vUp_ix (by decide), h4]
    refine v_baload d_Re_readToken_101 (sh_31 T) (by omega) (fun g101 => ?_)
    rw [vUp_ne (by decide)] at g101 ⊢
    refine v_istore1 d_Re_readToken_102 (by decide) rfl ?_
    refine v_iload1 d_Re_readToken_103 ?_
    refine v_bipush d_Re_readToken_104 rfl ?_
    refine v_icmp_lt d_Re_readToken_106 (by omega) (by omega) (fun u106 => ?_) (fun u106 => ?_)
    · refine v_iload1 d_Re_readToken_122 ?_
      refine v_bipush d_Re_readToken_123 rfl ?_
      refine v_icmp_lt d_Re_readToken_125 (by omega) (by omega) (fun u125 => ?_) (fun u125 => ?_)
      · refine v_iload1 d_Re_readToken_141 ?_
        refine v_bipush d_Re_readToken_142 rfl ?_
        refine v_icmp_eq d_Re_readToken_144 (by omega) (by omega) (fun u144 => ?_) (fun u144 => ?_)
        · refine v_iconst d_Re_readToken_171 ?_
          refine v_goto d_Re_readToken_172 ?_
          refine v_istore2 d_Re_readToken_176 (by decide) rfl ?_
          refine v_aload0 d_Re_readToken_177 ?_
          refine v_iload2 d_Re_readToken_178 ?_
          refine v_if_eq d_Re_readToken_179 (by omega) (fun u179 => ?_) (fun u179 => ?_)
          · omega
          · refine v_iload1 d_Re_readToken_182 ?_
            refine v_goto d_Re_readToken_183 ?_
            refine v_putJ (ji := 3) d_Re_readToken_188 p_Re_34 (sh_45 T) rfl rfl (by omega) ?_
            refine v_aload0 d_Re_readToken_191 ?_
            refine v_dup d_Re_readToken_192 rfl ?_
            refine v_getJ (ji := 2) d_Re_readToken_193 f_Re_25 (sh_45 T) rfl rfl (fun g193 => ?_)
            rw [vUp_ix (by decide), vUp_ix (by decide), h4]
            refine v_iconst d_Re_readToken_196 ?_
            refine v_iadd d_Re_readToken_197 ?_
            refine v_putJ (ji := 2) d_Re_readToken_198 p_Re_25 (sh_45 T) rfl rfl (by omega) ?_
            first
            | (exact v_return hM d_Re_readToken_201 ⟨rfl, F45.up hF1 (by omega), RkP_end (by omega) (by rw [vUp_ix (by decide), vUp_ix (by decide), h4]) (by rw [vUp_ix (by decide), vUp_same]) (by rw [vUp_same])⟩)
            | (exact v_return hM d_Re_readToken_201 ⟨rfl, hF1.trans' e116.1, e116.2⟩)
            | (exact v_return hM d_Re_readToken_201 ⟨rfl, hF1.trans' e135.1, e135.2⟩)
            | (exact v_return hM d_Re_readToken_201 ⟨rfl, F45.up (F45.up hF1 (by omega)) (by omega), RkP_sign (by omega) (fun z => by have := z.1; have := z.2; omega) (fun z => by have := z.1; have := z.2; omega) (by rw [vUp_same]) (by rw [vUp_ix (by decide), vUp_ix (by decide), vUp_same]) (Or.inl ⟨by omega, by rw [vUp_ix (by decide), vUp_same]; omega⟩)⟩)
            | (exact v_return hM d_Re_readToken_201 ⟨rfl, F45.up (F45.up hF1 (by omega)) (by omega), RkP_sign (by omega) (fun z => by have := z.1; have := z.2; omega) (fun z => by have := z.1; have := z.2; omega) (by rw [vUp_same]) (by rw [vUp_ix (by decide), vUp_ix (by decide), vUp_same]) (Or.inr ⟨by omega, by rw [vUp_ix (by decide), vUp_same]⟩)⟩)
            | (omega)
        · refine v_iload1 d_Re_readToken_147 ?_
          refine v_bipush d_Re_readToken_148 rfl ?_
          refine v_icmp_eq d_Re_readToken_150 (by omega) (by omega) (fun u150 => ?_) (fun u150 => ?_)
          · refine v_iconst d_Re_readToken_171 ?_
            refine v_goto d_Re_readToken_172 ?_
            refine v_istore2 d_Re_readToken_176 (by decide) rfl ?_
            refine v_aload0 d_Re_readToken_177 ?_
            refine v_iload2 d_Re_readToken_178 ?_
            refine v_if_eq d_Re_readToken_179 (by omega) (fun u179 => ?_) (fun u179 => ?_)
            · omega
            · refine v_iload1 d_Re_readToken_182 ?_
              refine v_goto d_Re_readToken_183 ?_
              refine v_putJ (ji := 3) d_Re_readToken_188 p_Re_34 (sh_45 T) rfl rfl (by omega) ?_
              refine v_aload0 d_Re_readToken_191 ?_
              refine v_dup d_Re_readToken_192 rfl ?_
              refine v_getJ (ji := 2) d_Re_readToken_193 f_Re_25 (sh_45 T) rfl rfl (fun g193 => ?_)
              rw [vUp_ix (by decide), vUp_ix (by decide), h4]
              refine v_iconst d_Re_readToken_196 ?_
              refine v_iadd d_Re_readToken_197 ?_
              refine v_putJ (ji := 2) d_Re_readToken_198 p_Re_25 (sh_45 T) rfl rfl (by omega) ?_
              first
              | (exact v_return hM d_Re_readToken_201 ⟨rfl, F45.up hF1 (by omega), RkP_end (by omega) (by rw [vUp_ix (by decide), vUp_ix (by decide), h4]) (by rw [vUp_ix (by decide), vUp_same]) (by rw [vUp_same])⟩)
              | (exact v_return hM d_Re_readToken_201 ⟨rfl, hF1.trans' e116.1, e116.2⟩)
              | (exact v_return hM d_Re_readToken_201 ⟨rfl, hF1.trans' e135.1, e135.2⟩)
              | (exact v_return hM d_Re_readToken_201 ⟨rfl, F45.up (F45.up hF1 (by omega)) (by omega), RkP_sign (by omega) (fun z => by have := z.1; have := z.2; omega) (fun z => by have := z.1; have := z.2; omega) (by rw [vUp_same]) (by rw [vUp_ix (by decide), vUp_ix (by decide), vUp_same]) (Or.inl ⟨by omega, by rw [vUp_ix (by decide), vUp_same]; omega⟩)⟩)
              | (exact v_return hM d_Re_readToken_201 ⟨rfl, F45.up (F45.up hF1 (by omega)) (by omega), RkP_sign (by omega) (fun z => by have := z.1; have := z.2; omega) (fun z => by have := z.1; have := z.2; omega) (by rw [vUp_same]) (by rw [vUp_ix (by decide), vUp_ix (by decide), vUp_same]) (Or.inr ⟨by omega, by rw [vUp_ix (by decide), vUp_same]⟩)⟩)
              | (omega)
          · refine v_iload1 d_Re_readToken_153 ?_
            refine v_bipush d_Re_readToken_154 rfl ?_
            refine v_icmp_eq d_Re_readToken_156 (by omega) (by omega) (fun u156 => ?_) (fun u156 => ?_)
            · refine v_iconst d_Re_readToken_171 ?_
              refine v_goto d_Re_readToken_172 ?_
              refine v_istore2 d_Re_readToken_176 (by decide) rfl ?_
              refine v_aload0 d_Re_readToken_177 ?_
              refine v_iload2 d_Re_readToken_178 ?_
              refine v_if_eq d_Re_readToken_179 (by omega) (fun u179 => ?_) (fun u179 => ?_)
              · omega
              · refine v_iload1 d_Re_readToken_182 ?_
                refine v_goto d_Re_readToken_183 ?_
                refine v_putJ (ji := 3) d_Re_readToken_188 p_Re_34 (sh_45 T) rfl rfl (by omega) ?_
                refine v_aload0 d_Re_readToken_191 ?_
                refine v_dup d_Re_readToken_192 rfl ?_
                refine v_getJ (ji := 2) d_Re_readToken_193 f_Re_25 (sh_45 T) rfl rfl (fun g193 => ?_)
                rw [vUp_ix (by decide), vUp_ix (by decide), h4]
                refine v_iconst d_Re_readToken_196 ?_
                refine v_iadd d_Re_readToken_197 ?_
                refine v_putJ (ji := 2) d_Re_readToken_198 p_Re_25 (sh_45 T) rfl rfl (by omega) ?_
                first
                | (exact v_return hM d_Re_readToken_201 ⟨rfl, F45.up hF1 (by omega), RkP_end (by omega) (by rw [vUp_ix (by decide), vUp_ix (by decide), h4]) (by rw [vUp_ix (by decide), vUp_same]) (by rw [vUp_same])⟩)
                | (exact v_return hM d_Re_readToken_201 ⟨rfl, hF1.trans' e116.1, e116.2⟩)
                | (exact v_return hM d_Re_readToken_201 ⟨rfl, hF1.trans' e135.1, e135.2⟩)
                | (exact v_return hM d_Re_readToken_201 ⟨rfl, F45.up (F45.up hF1 (by omega)) (by omega), RkP_sign (by omega) (fun z => by have := z.1; have := z.2; omega) (fun z => by have := z.1; have := z.2; omega) (by rw [vUp_same]) (by rw [vUp_ix (by decide), vUp_ix (by decide), vUp_same]) (Or.inl ⟨by omega, by rw [vUp_ix (by decide), vUp_same]; omega⟩)⟩)
                | (exact v_return hM d_Re_readToken_201 ⟨rfl, F45.up (F45.up hF1 (by omega)) (by omega), RkP_sign (by omega) (fun z => by have := z.1; have := z.2; omega) (fun z => by have := z.1; have := z.2; omega) (by rw [vUp_same]) (by rw [vUp_ix (by decide), vUp_ix (by decide), vUp_same]) (Or.inr ⟨by omega, by rw [vUp_ix (by decide), vUp_same]⟩)⟩)
                | (omega)
            · refine v_iload1 d_Re_readToken_159 ?_
              refine v_bipush d_Re_readToken_160 rfl ?_
              refine v_icmp_eq d_Re_readToken_162 (by omega) (by omega) (fun u162 => ?_) (fun u162 => ?_)
              · refine v_iconst d_Re_readToken_171 ?_
                refine v_goto d_Re_readToken_172 ?_
                refine v_istore2 d_Re_readToken_176 (by decide) rfl ?_
                refine v_aload0 d_Re_readToken_177 ?_
                refine v_iload2 d_Re_readToken_178 ?_
                refine v_if_eq d_Re_readToken_179 (by omega) (fun u179 => ?_) (fun u179 => ?_)
                · omega
                · refine v_iload1 d_Re_readToken_182 ?_
                  refine v_goto d_Re_readToken_183 ?_
                  refine v_putJ (ji := 3) d_Re_readToken_188 p_Re_34 (sh_45 T) rfl rfl (by omega) ?_
                  refine v_aload0 d_Re_readToken_191 ?_
                  refine v_dup d_Re_readToken_192 rfl ?_
                  refine v_getJ (ji := 2) d_Re_readToken_193 f_Re_25 (sh_45 T) rfl rfl (fun g193 => ?_)
                  rw [vUp_ix (by decide), vUp_ix (by decide), h4]
                  refine v_iconst d_Re_readToken_196 ?_
                  refine v_iadd d_Re_readToken_197 ?_
                  refine v_putJ (ji := 2) d_Re_readToken_198 p_Re_25 (sh_45 T) rfl rfl (by omega) ?_
                  first
                  | (exact v_return hM d_Re_readToken_201 ⟨rfl, F45.up hF1 (by omega), RkP_end (by omega) (by rw [vUp_ix (by decide), vUp_ix (by decide), h4]) (by rw [vUp_ix (by decide), vUp_same]) (by rw [vUp_same])⟩)
                  | (exact v_return hM d_Re_readToken_201 ⟨rfl, hF1.trans' e116.1, e116.2⟩)
                  | (exact v_return hM d_Re_readToken_201 ⟨rfl, hF1.trans' e135.1, e135.2⟩)
                  | (exact v_return hM d_Re_readToken_201 ⟨rfl, F45.up (F45.up hF1 (by omega)) (by omega), RkP_sign (by omega) (fun z => by have := z.1; have := z.2; omega) (fun z => by have := z.1; have := z.2; omega) (by rw [vUp_same]) (by rw [vUp_ix (by decide), vUp_ix (by decide), vUp_same]) (Or.inl ⟨by omega, by rw [vUp_ix (by decide), vUp_same]; omega⟩)⟩)
                  | (exact v_return hM d_Re_readToken_201 ⟨rfl, F45.up (F45.up hF1 (by omega)) (by omega), RkP_sign (by omega) (fun z => by have := z.1; have := z.2; omega) (fun z => by have := z.1; have := z.2; omega) (by rw [vUp_same]) (by rw [vUp_ix (by decide), vUp_ix (by decide), vUp_same]) (Or.inr ⟨by omega, by rw [vUp_ix (by decide), vUp_same]⟩)⟩)
                  | (omega)
              · refine v_iload1 d_Re_readToken_165 ?_
                refine v_bipush d_Re_readToken_166 rfl ?_
                refine v_icmp_ne d_Re_readToken_168 (by omega) (by omega) (fun u168 => ?_) (fun u168 => ?_)
                · refine v_iconst d_Re_readToken_175 ?_
                  refine v_istore2 d_Re_readToken_176 (by decide) rfl ?_
                  refine v_aload0 d_Re_readToken_177 ?_
                  refine v_iload2 d_Re_readToken_178 ?_
                  refine v_if_eq d_Re_readToken_179 (by omega) (fun u179 => ?_) (fun u179 => ?_)
                  · refine v_bipush d_Re_readToken_186 rfl ?_
                    refine v_putJ (ji := 3) d_Re_readToken_188 p_Re_34 (sh_45 T) rfl rfl (by omega) ?_
                    refine v_aload0 d_Re_readToken_191 ?_
                    refine v_dup d_Re_readToken_192 rfl ?_
                    refine v_getJ (ji := 2) d_Re_readToken_193 f_Re_25 (sh_45 T) rfl rfl (fun g193 => ?_)
                    rw [vUp_ix (by decide), vUp_ix (by decide), h4]
                    refine v_iconst d_Re_readToken_196 ?_
                    refine v_iadd d_Re_readToken_197 ?_
                    refine v_putJ (ji := 2) d_Re_readToken_198 p_Re_25 (sh_45 T) rfl rfl (by omega) ?_
                    first
                    | (exact v_return hM d_Re_readToken_201 ⟨rfl, F45.up hF1 (by omega), RkP_end (by omega) (by rw [vUp_ix (by decide), vUp_ix (by decide), h4]) (by rw [vUp_ix (by decide), vUp_same]) (by rw [vUp_same])⟩)
                    | (exact v_return hM d_Re_readToken_201 ⟨rfl, hF1.trans' e116.1, e116.2⟩)
                    | (exact v_return hM d_Re_readToken_201 ⟨rfl, hF1.trans' e135.1, e135.2⟩)
                    | (exact v_return hM d_Re_readToken_201 ⟨rfl, F45.up (F45.up hF1 (by omega)) (by omega), RkP_sign (by omega) (fun z => by have := z.1; have := z.2; omega) (fun z => by have := z.1; have := z.2; omega) (by rw [vUp_same]) (by rw [vUp_ix (by decide), vUp_ix (by decide), vUp_same]) (Or.inl ⟨by omega, by rw [vUp_ix (by decide), vUp_same]; omega⟩)⟩)
                    | (exact v_return hM d_Re_readToken_201 ⟨rfl, F45.up (F45.up hF1 (by omega)) (by omega), RkP_sign (by omega) (fun z => by have := z.1; have := z.2; omega) (fun z => by have := z.1; have := z.2; omega) (by rw [vUp_same]) (by rw [vUp_ix (by decide), vUp_ix (by decide), vUp_same]) (Or.inr ⟨by omega, by rw [vUp_ix (by decide), vUp_same]⟩)⟩)
                    | (omega)
                  · omega
                · refine v_iconst d_Re_readToken_171 ?_
                  refine v_goto d_Re_readToken_172 ?_
                  refine v_istore2 d_Re_readToken_176 (by decide) rfl ?_
                  refine v_aload0 d_Re_readToken_177 ?_
                  refine v_iload2 d_Re_readToken_178 ?_
                  refine v_if_eq d_Re_readToken_179 (by omega) (fun u179 => ?_) (fun u179 => ?_)
                  · omega
                  · refine v_iload1 d_Re_readToken_182 ?_
                    refine v_goto d_Re_readToken_183 ?_
                    refine v_putJ (ji := 3) d_Re_readToken_188 p_Re_34 (sh_45 T) rfl rfl (by omega) ?_
                    refine v_aload0 d_Re_readToken_191 ?_
                    refine v_dup d_Re_readToken_192 rfl ?_
                    refine v_getJ (ji := 2) d_Re_readToken_193 f_Re_25 (sh_45 T) rfl rfl (fun g193 => ?_)
                    rw [vUp_ix (by decide), vUp_ix (by decide), h4]
                    refine v_iconst d_Re_readToken_196 ?_
                    refine v_iadd d_Re_readToken_197 ?_
                    refine v_putJ (ji := 2) d_Re_readToken_198 p_Re_25 (sh_45 T) rfl rfl (by omega) ?_
                    first
                    | (exact v_return hM d_Re_readToken_201 ⟨rfl, F45.up hF1 (by omega), RkP_end (by omega) (by rw [vUp_ix (by decide), vUp_ix (by decide), h4]) (by rw [vUp_ix (by decide), vUp_same]) (by rw [vUp_same])⟩)
                    | (exact v_return hM d_Re_readToken_201 ⟨rfl, hF1.trans' e116.1, e116.2⟩)
                    | (exact v_return hM d_Re_readToken_201 ⟨rfl, hF1.trans' e135.1, e135.2⟩)
                    | (exact v_return hM d_Re_readToken_201 ⟨rfl, F45.up (F45.up hF1 (by omega)) (by omega), RkP_sign (by omega) (fun z => by have := z.1; have := z.2; omega) (fun z => by have := z.1; have := z.2; omega) (by rw [vUp_same]) (by rw [vUp_ix (by decide), vUp_ix (by decide), vUp_same]) (Or.inl ⟨by omega, by rw [vUp_ix (by decide), vUp_same]; omega⟩)⟩)
                    | (exact v_return hM d_Re_readToken_201 ⟨rfl, F45.up (F45.up hF1 (by omega)) (by omega), RkP_sign (by omega) (fun z => by have := z.1; have := z.2; omega) (fun z => by have := z.1; have := z.2; omega) (by rw [vUp_same]) (by rw [vUp_ix (by decide), vUp_ix (by decide), vUp_same]) (Or.inr ⟨by omega, by rw [vUp_ix (by decide), vUp_same]⟩)⟩)
                    | (omega)
      · refine v_iload1 d_Re_readToken_128 ?_
        refine v_bipush d_Re_readToken_129 rfl ?_
        refine v_icmp_gt d_Re_readToken_131 (by omega) (by omega) (fun u131 => ?_) (fun u131 => ?_)
        · refine v_iload1 d_Re_readToken_141 ?_
          refine v_bipush d_Re_readToken_142 rfl ?_
          refine v_icmp_eq d_Re_readToken_144 (by omega) (by omega) (fun u144 => ?_) (fun u144 => ?_)
          · refine v_iconst d_Re_readToken_171 ?_
            refine v_goto d_Re_readToken_172 ?_
            refine v_istore2 d_Re_readToken_176 (by decide) rfl ?_
            refine v_aload0 d_Re_readToken_177 ?_
            refine v_iload2 d_Re_readToken_178 ?_
            refine v_if_eq d_Re_readToken_179 (by omega) (fun u179 => ?_) (fun u179 => ?_)
            · omega
            · refine v_iload1 d_Re_readToken_182 ?_
              refine v_goto d_Re_readToken_183 ?_
              refine v_putJ (ji := 3) d_Re_readToken_188 p_Re_34 (sh_45 T) rfl rfl (by omega) ?_
              refine v_aload0 d_Re_readToken_191 ?_
              refine v_dup d_Re_readToken_192 rfl ?_
              refine v_getJ (ji := 2) d_Re_readToken_193 f_Re_25 (sh_45 T) rfl rfl (fun g193 => ?_)
              rw [vUp_ix (by decide), vUp_ix (by decide), h4]
              refine v_iconst d_Re_readToken_196 ?_
              refine v_iadd d_Re_readToken_197 ?_
              refine v_putJ (ji := 2) d_Re_readToken_198 p_Re_25 (sh_45 T) rfl rfl (by omega) ?_
              first
              | (exact v_return hM d_Re_readToken_201 ⟨rfl, F45.up hF1 (by omega), RkP_end (by omega) (by rw [vUp_ix (by decide), vUp_ix (by decide), h4]) (by rw [vUp_ix (by decide), vUp_same]) (by rw [vUp_same])⟩)
              | (exact v_return hM d_Re_readToken_201 ⟨rfl, hF1.trans' e116.1, e116.2⟩)
              | (exact v_return hM d_Re_readToken_201 ⟨rfl, hF1.trans' e135.1, e135.2⟩)
              | (exact v_return hM d_Re_readToken_201 ⟨rfl, F45.up (F45.up hF1 (by omega)) (by omega), RkP_sign (by omega) (fun z => by have := z.1; have := z.2; omega) (fun z => by have := z.1; have := z.2; omega) (by rw [vUp_same]) (by rw [vUp_ix (by decide), vUp_ix (by decide), vUp_same]) (Or.inl ⟨by omega, by rw [vUp_ix (by decide), vUp_same]; omega⟩)⟩)
              | (exact v_return hM d_Re_readToken_201 ⟨rfl, F45.up (F45.up hF1 (by omega)) (by omega), RkP_sign (by omega) (fun z => by have := z.1; have := z.2; omega) (fun z => by have := z.1; have := z.2; omega) (by rw [vUp_same]) (by rw [vUp_ix (by decide), vUp_ix (by decide), vUp_same]) (Or.inr ⟨by omega, by rw [vUp_ix (by decide), vUp_same]⟩)⟩)
              | (omega)
          · refine v_iload1 d_Re_readToken_147 ?_
            refine v_bipush d_Re_readToken_148 rfl ?_
            refine v_icmp_eq d_Re_readToken_150 (by omega) (by omega) (fun u150 => ?_) (fun u150 => ?_)
            · refine v_iconst d_Re_readToken_171 ?_
              refine v_goto d_Re_readToken_172 ?_
              refine v_istore2 d_Re_readToken_176 (by decide) rfl ?_
              refine v_aload0 d_Re_readToken_177 ?_
              refine v_iload2 d_Re_readToken_178 ?_
              refine v_if_eq d_Re_readToken_179 (by omega) (fun u179 => ?_) (fun u179 => ?_)
              · omega
              · refine v_iload1 d_Re_readToken_182 ?_
                refine v_goto d_Re_readToken_183 ?_
                refine v_putJ (ji := 3) d_Re_readToken_188 p_Re_34 (sh_45 T) rfl rfl (by omega) ?_
                refine v_aload0 d_Re_readToken_191 ?_
                refine v_dup d_Re_readToken_192 rfl ?_
                refine v_getJ (ji := 2) d_Re_readToken_193 f_Re_25 (sh_45 T) rfl rfl (fun g193 => ?_)
                rw [vUp_ix (by decide), vUp_ix (by decide), h4]
                refine v_iconst d_Re_readToken_196 ?_
                refine v_iadd d_Re_readToken_197 ?_
                refine v_putJ (ji := 2) d_Re_readToken_198 p_Re_25 (sh_45 T) rfl rfl (by omega) ?_
                first
                | (exact v_return hM d_Re_readToken_201 ⟨rfl, F45.up hF1 (by omega), RkP_end (by omega) (by rw [vUp_ix (by decide), vUp_ix (by decide), h4]) (by rw [vUp_ix (by decide), vUp_same]) (by rw [vUp_same])⟩)
                | (exact v_return hM d_Re_readToken_201 ⟨rfl, hF1.trans' e116.1, e116.2⟩)
                | (exact v_return hM d_Re_readToken_201 ⟨rfl, hF1.trans' e135.1, e135.2⟩)
                | (exact v_return hM d_Re_readToken_201 ⟨rfl, F45.up (F45.up hF1 (by omega)) (by omega), RkP_sign (by omega) (fun z => by have := z.1; have := z.2; omega) (fun z => by have := z.1; have := z.2; omega) (by rw [vUp_same]) (by rw [vUp_ix (by decide), vUp_ix (by decide), vUp_same]) (Or.inl ⟨by omega, by rw [vUp_ix (by decide), vUp_same]; omega⟩)⟩)
                | (exact v_return hM d_Re_readToken_201 ⟨rfl, F45.up (F45.up hF1 (by omega)) (by omega), RkP_sign (by omega) (fun z => by have := z.1; have := z.2; omega) (fun z => by have := z.1; have := z.2; omega) (by rw [vUp_same]) (by rw [vUp_ix (by decide), vUp_ix (by decide), vUp_same]) (Or.inr ⟨by omega, by rw [vUp_ix (by decide), vUp_same]⟩)⟩)
                | (omega)
            · refine v_iload1 d_Re_readToken_153 ?_
              refine v_bipush d_Re_readToken_154 rfl ?_
              refine v_icmp_eq d_Re_readToken_156 (by omega) (by omega) (fun u156 => ?_) (fun u156 => ?_)
              · refine v_iconst d_Re_readToken_171 ?_
                refine v_goto d_Re_readToken_172 ?_
                refine v_istore2 d_Re_readToken_176 (by decide) rfl ?_
                refine v_aload0 d_Re_readToken_177 ?_
                refine v_iload2 d_Re_readToken_178 ?_
                refine v_if_eq d_Re_readToken_179 (by omega) (fun u179 => ?_) (fun u179 => ?_)
                · omega
                · refine v_iload1 d_Re_readToken_182 ?_
                  refine v_goto d_Re_readToken_183 ?_
                  refine v_putJ (ji := 3) d_Re_readToken_188 p_Re_34 (sh_45 T) rfl rfl (by omega) ?_
                  refine v_aload0 d_Re_readToken_191 ?_
                  refine v_dup d_Re_readToken_192 rfl ?_
                  refine v_getJ (ji := 2) d_Re_readToken_193 f_Re_25 (sh_45 T) rfl rfl (fun g193 => ?_)
                  rw [vUp_ix (by decide), vUp_ix (by decide), h4]
                  refine v_iconst d_Re_readToken_196 ?_
                  refine v_iadd d_Re_readToken_197 ?_
                  refine v_putJ (ji := 2) d_Re_readToken_198 p_Re_25 (sh_45 T) rfl rfl (by omega) ?_
                  first
                  | (exact v_return hM d_Re_readToken_201 ⟨rfl, F45.up hF1 (by omega), RkP_end (by omega) (by rw [vUp_ix (by decide), vUp_ix (by decide), h4]) (by rw [vUp_ix (by decide), vUp_same]) (by rw [vUp_same])⟩)
                  | (exact v_return hM d_Re_readToken_201 ⟨rfl, hF1.trans' e116.1, e116.2⟩)
                  | (exact v_return hM d_Re_readToken_201 ⟨rfl, hF1.trans' e135.1, e135.2⟩)
                  | (exact v_return hM d_Re_readToken_201 ⟨rfl, F45.up (F45.up hF1 (by omega)) (by omega), RkP_sign (by omega) (fun z => by have := z.1; have := z.2; omega) (fun z => by have := z.1; have := z.2; omega) (by rw [vUp_same]) (by rw [vUp_ix (by decide), vUp_ix (by decide), vUp_same]) (Or.inl ⟨by omega, by rw [vUp_ix (by decide), vUp_same]; omega⟩)⟩)
                  | (exact v_return hM d_Re_readToken_201 ⟨rfl, F45.up (F45.up hF1 (by omega)) (by omega), RkP_sign (by omega) (fun z => by have := z.1; have := z.2; omega) (fun z => by have := z.1; have := z.2; omega) (by rw [vUp_same]) (by rw [vUp_ix (by decide), vUp_ix (by decide), vUp_same]) (Or.inr ⟨by omega, by rw [vUp_ix (by decide), vUp_same]⟩)⟩)
                  | (omega)
              · refine v_iload1 d_Re_readToken_159 ?_
                refine v_bipush d_Re_readToken_160 rfl ?_
                refine v_icmp_eq d_Re_readToken_162 (by omega) (by omega) (fun u162 => ?_) (fun u162 => ?_)
                · refine v_iconst d_Re_readToken_171 ?_
                  refine v_goto d_Re_readToken_172 ?_
                  refine v_istore2 d_Re_readToken_176 (by decide) rfl ?_
                  refine v_aload0 d_Re_readToken_177 ?_
                  refine v_iload2 d_Re_readToken_178 ?_
                  refine v_if_eq d_Re_readToken_179 (by omega) (fun u179 => ?_) (fun u179 => ?_)
                  · omega
                  · refine v_iload1 d_Re_readToken_182 ?_
                    refine v_goto d_Re_readToken_183 ?_
                    refine v_putJ (ji := 3) d_Re_readToken_188 p_Re_34 (sh_45 T) rfl rfl (by omega) ?_
                    refine v_aload0 d_Re_readToken_191 ?_
                    refine v_dup d_Re_readToken_192 rfl ?_
                    refine v_getJ (ji := 2) d_Re_readToken_193 f_Re_25 (sh_45 T) rfl rfl (fun g193 => ?_)
                    rw [vUp_ix (by decide), vUp_ix (by decide), h4]
                    refine v_iconst d_Re_readToken_196 ?_
                    refine v_iadd d_Re_readToken_197 ?_
                    refine v_putJ (ji := 2) d_Re_readToken_198 p_Re_25 (sh_45 T) rfl rfl (by omega) ?_
                    first
                    | (exact v_return hM d_Re_readToken_201 ⟨rfl, F45.up hF1 (by omega), RkP_end (by omega) (by rw [vUp_ix (by decide), vUp_ix (by decide), h4]) (by rw [vUp_ix (by decide), vUp_same]) (by rw [vUp_same])⟩)
                    | (exact v_return hM d_Re_readToken_201 ⟨rfl, hF1.trans' e116.1, e116.2⟩)
                    | (exact v_return hM d_Re_readToken_201 ⟨rfl, hF1.trans' e135.1, e135.2⟩)
                    | (exact v_return hM d_Re_readToken_201 ⟨rfl, F45.up (F45.up hF1 (by omega)) (by omega), RkP_sign (by omega) (fun z => by have := z.1; have := z.2; omega) (fun z => by have := z.1; have := z.2; omega) (by rw [vUp_same]) (by rw [vUp_ix (by decide), vUp_ix (by decide), vUp_same]) (Or.inl ⟨by omega, by rw [vUp_ix (by decide), vUp_same]; omega⟩)⟩)
                    | (exact v_return hM d_Re_readToken_201 ⟨rfl, F45.up (F45.up hF1 (by omega)) (by omega), RkP_sign (by omega) (fun z => by have := z.1; have := z.2; omega) (fun z => by have := z.1; have := z.2; omega) (by rw [vUp_same]) (by rw [vUp_ix (by decide), vUp_ix (by decide), vUp_same]) (Or.inr ⟨by omega, by rw [vUp_ix (by decide), vUp_same]⟩)⟩)
                    | (omega)
                · refine v_iload1 d_Re_readToken_165 ?_
                  refine v_bipush d_Re_readToken_166 rfl ?_
                  refine v_icmp_ne d_Re_readToken_168 (by omega) (by omega) (fun u168 => ?_) (fun u168 => ?_)
                  · refine v_iconst d_Re_readToken_175 ?_
                    refine v_istore2 d_Re_readToken_176 (by decide) rfl ?_
                    refine v_aload0 d_Re_readToken_177 ?_
                    refine v_iload2 d_Re_readToken_178 ?_
                    refine v_if_eq d_Re_readToken_179 (by omega) (fun u179 => ?_) (fun u179 => ?_)
                    · refine v_bipush d_Re_readToken_186 rfl ?_
                      refine v_putJ (ji := 3) d_Re_readToken_188 p_Re_34 (sh_45 T) rfl rfl (by omega) ?_
                      refine v_aload0 d_Re_readToken_191 ?_
                      refine v_dup d_Re_readToken_192 rfl ?_
                      refine v_getJ (ji := 2) d_Re_readToken_193 f_Re_25 (sh_45 T) rfl rfl (fun g193 => ?_)
                      rw [vUp_ix (by decide), vUp_ix (by decide), h4]
                      refine v_iconst d_Re_readToken_196 ?_
                      refine v_iadd d_Re_readToken_197 ?_
                      refine v_putJ (ji := 2) d_Re_readToken_198 p_Re_25 (sh_45 T) rfl rfl (by omega) ?_
                      first
                      | (exact v_return hM d_Re_readToken_201 ⟨rfl, F45.up hF1 (by omega), RkP_end (by omega) (by rw [vUp_ix (by decide), vUp_ix (by decide), h4]) (by rw [vUp_ix (by decide), vUp_same]) (by rw [vUp_same])⟩)
                      | (exact v_return hM d_Re_readToken_201 ⟨rfl, hF1.trans' e116.1, e116.2⟩)
                      | (exact v_return hM d_Re_readToken_201 ⟨rfl, hF1.trans' e135.1, e135.2⟩)
                      | (exact v_return hM d_Re_readToken_201 ⟨rfl, F45.up (F45.up hF1 (by omega)) (by omega), RkP_sign (by omega) (fun z => by have := z.1; have := z.2; omega) (fun z => by have := z.1; have := z.2; omega) (by rw [vUp_same]) (by rw [vUp_ix (by decide), vUp_ix (by decide), vUp_same]) (Or.inl ⟨by omega, by rw [vUp_ix (by decide), vUp_same]; omega⟩)⟩)
                      | (exact v_return hM d_Re_readToken_201 ⟨rfl, F45.up (F45.up hF1 (by omega)) (by omega), RkP_sign (by omega) (fun z => by have := z.1; have := z.2; omega) (fun z => by have := z.1; have := z.2; omega) (by rw [vUp_same]) (by rw [vUp_ix (by decide), vUp_ix (by decide), vUp_same]) (Or.inr ⟨by omega, by rw [vUp_ix (by decide), vUp_same]⟩)⟩)
                      | (omega)
                    · omega
                  · refine v_iconst d_Re_readToken_171 ?_
                    refine v_goto d_Re_readToken_172 ?_
                    refine v_istore2 d_Re_readToken_176 (by decide) rfl ?_
                    refine v_aload0 d_Re_readToken_177 ?_
                    refine v_iload2 d_Re_readToken_178 ?_
                    refine v_if_eq d_Re_readToken_179 (by omega) (fun u179 => ?_) (fun u179 => ?_)
                    · omega
                    · refine v_iload1 d_Re_readToken_182 ?_
                      refine v_goto d_Re_readToken_183 ?_
                      refine v_putJ (ji := 3) d_Re_readToken_188 p_Re_34 (sh_45 T) rfl rfl (by omega) ?_
                      refine v_aload0 d_Re_readToken_191 ?_
                      refine v_dup d_Re_readToken_192 rfl ?_
                      refine v_getJ (ji := 2) d_Re_readToken_193 f_Re_25 (sh_45 T) rfl rfl (fun g193 => ?_)
                      rw [vUp_ix (by decide), vUp_ix (by decide), h4]
                      refine v_iconst d_Re_readToken_196 ?_
                      refine v_iadd d_Re_readToken_197 ?_
                      refine v_putJ (ji := 2) d_Re_readToken_198 p_Re_25 (sh_45 T) rfl rfl (by omega) ?_
                      first
                      | (exact v_return hM d_Re_readToken_201 ⟨rfl, F45.up hF1 (by omega), RkP_end (by omega) (by rw [vUp_ix (by decide), vUp_ix (by decide), h4]) (by rw [vUp_ix (by decide), vUp_same]) (by rw [vUp_same])⟩)
                      | (exact v_return hM d_Re_readToken_201 ⟨rfl, hF1.trans' e116.1, e116.2⟩)
                      | (exact v_return hM d_Re_readToken_201 ⟨rfl, hF1.trans' e135.1, e135.2⟩)
                      | (exact v_return hM d_Re_readToken_201 ⟨rfl, F45.up (F45.up hF1 (by omega)) (by omega), RkP_sign (by omega) (fun z => by have := z.1; have := z.2; omega) (fun z => by have := z.1; have := z.2; omega) (by rw [vUp_same]) (by rw [vUp_ix (by decide), vUp_ix (by decide), vUp_same]) (Or.inl ⟨by omega, by rw [vUp_ix (by decide), vUp_same]; omega⟩)⟩)
                      | (exact v_return hM d_Re_readToken_201 ⟨rfl, F45.up (F45.up hF1 (by omega)) (by omega), RkP_sign (by omega) (fun z => by have := z.1; have := z.2; omega) (fun z => by have := z.1; have := z.2; omega) (by rw [vUp_same]) (by rw [vUp_ix (by decide), vUp_ix (by decide), vUp_same]) (Or.inr ⟨by omega, by rw [vUp_ix (by decide), vUp_same]⟩)⟩)
                      | (omega)
        · refine v_aload0 d_Re_readToken_134 ?_
          refine v_gVV0 d_Re_readToken_135 l_Re_123 k_Re_readNumber (c_Re_readNumber hR1 hp (fun z => by have := z.1; have := z.2; omega) ⟨by omega, by omega⟩ (by rw [vUp_ix (by decide), h4]) (by rw [vUp_same])) (sh_45 T) rfl (by decide) (by decide) (Nat.le_of_ble_eq_true rfl) (Nat.zero_le _) (Nat.zero_le _) (fun z135 s135 e135 => ?_)
          refine v_goto d_Re_readToken_138 ?_
          first
          | (exact v_return hM d_Re_readToken_201 ⟨rfl, F45.up hF1 (by omega), RkP_end (by omega) (by rw [vUp_ix (by decide), vUp_ix (by decide), h4]) (by rw [vUp_ix (by decide), vUp_same]) (by rw [vUp_same])⟩)
          | (exact v_return hM d_Re_readToken_201 ⟨rfl, hF1.trans' e116.1, e116.2⟩)
          | (exact v_return hM d_Re_readToken_201 ⟨rfl, hF1.trans' e135.1, e135.2⟩)
          | (exact v_return hM d_Re_readToken_201 ⟨rfl, F45.up (F45.up hF1 (by omega)) (by omega), RkP_sign (by omega) (fun z => by have := z.1; have := z.2; omega) (fun z => by have := z.1; have := z.2; omega) (by rw [vUp_same]) (by rw [vUp_ix (by decide), vUp_ix (by decide), vUp_same]) (Or.inl ⟨by omega, by rw [vUp_ix (by decide), vUp_same]; omega⟩)⟩)
          | (exact v_return hM d_Re_readToken_201 ⟨rfl, F45.up (F45.up hF1 (by omega)) (by omega), RkP_sign (by omega) (fun z => by have := z.1; have := z.2; omega) (fun z => by have := z.1; have := z.2; omega) (by rw [vUp_same]) (by rw [vUp_ix (by decide), vUp_ix (by decide), vUp_same]) (Or.inr ⟨by omega, by rw [vUp_ix (by decide), vUp_same]⟩)⟩)
          | (omega)
    · refine v_iload1 d_Re_readToken_109 ?_
      refine v_bipush d_Re_readToken_110 rfl ?_
      refine v_icmp_gt d_Re_readToken_112 (by omega) (by omega) (fun u112 => ?_) (fun u112 => ?_)
      · refine v_iload1 d_Re_readToken_122 ?_
        refine v_bipush d_Re_readToken_123 rfl ?_
        refine v_icmp_lt d_Re_readToken_125 (by omega) (by omega) (fun u125 => ?_) (fun u125 => ?_)
        · refine v_iload1 d_Re_readToken_141 ?_
          refine v_bipush d_Re_readToken_142 rfl ?_
          refine v_icmp_eq d_Re_readToken_144 (by omega) (by omega) (fun u144 => ?_) (fun u144 => ?_)
          · refine v_iconst d_Re_readToken_171 ?_
            refine v_goto d_Re_readToken_172 ?_
            refine v_istore2 d_Re_readToken_176 (by decide) rfl ?_
            refine v_aload0 d_Re_readToken_177 ?_
            refine v_iload2 d_Re_readToken_178 ?_
            refine v_if_eq d_Re_readToken_179 (by omega) (fun u179 => ?_) (fun u179 => ?_)
            · omega
            · refine v_iload1 d_Re_readToken_182 ?_
              refine v_goto d_Re_readToken_183 ?_
              refine v_putJ (ji := 3) d_Re_readToken_188 p_Re_34 (sh_45 T) rfl rfl (by omega) ?_
              refine v_aload0 d_Re_readToken_191 ?_
              refine v_dup d_Re_readToken_192 rfl ?_
              refine v_getJ (ji := 2) d_Re_readToken_193 f_Re_25 (sh_45 T) rfl rfl (fun g193 => ?_)
              rw [vUp_ix (by decide), vUp_ix (by decide), h4]
              refine v_iconst d_Re_readToken_196 ?_
              refine v_iadd d_Re_readToken_197 ?_
              refine v_putJ (ji := 2) d_Re_readToken_198 p_Re_25 (sh_45 T) rfl rfl (by omega) ?_
              first
              | (exact v_return hM d_Re_readToken_201 ⟨rfl, F45.up hF1 (by omega), RkP_end (by omega) (by rw [vUp_ix (by decide), vUp_ix (by decide), h4]) (by rw [vUp_ix (by decide), vUp_same]) (by rw [vUp_same])⟩)
              | (exact v_return hM d_Re_readToken_201 ⟨rfl, hF1.trans' e116.1, e116.2⟩)
              | (exact v_return hM d_Re_readToken_201 ⟨rfl, hF1.trans' e135.1, e135.2⟩)
              | (exact v_return hM d_Re_readToken_201 ⟨rfl, F45.up (F45.up hF1 (by omega)) (by omega), RkP_sign (by omega) (fun z => by have := z.1; have := z.2; omega) (fun z => by have := z.1; have := z.2; omega) (by rw [vUp_same]) (by rw [vUp_ix (by decide), vUp_ix (by decide), vUp_same]) (Or.inl ⟨by omega, by rw [vUp_ix (by decide), vUp_same]; omega⟩)⟩)
              | (exact v_return hM d_Re_readToken_201 ⟨rfl, F45.up (F45.up hF1 (by omega)) (by omega), RkP_sign (by omega) (fun z => by have := z.1; have := z.2; omega) (fun z => by have := z.1; have := z.2; omega) (by rw [vUp_same]) (by rw [vUp_ix (by decide), vUp_ix (by decide), vUp_same]) (Or.inr ⟨by omega, by rw [vUp_ix (by decide), vUp_same]⟩)⟩)
              | (omega)
          · refine v_iload1 d_Re_readToken_147 ?_
            refine v_bipush d_Re_readToken_148 rfl ?_
            refine v_icmp_eq d_Re_readToken_150 (by omega) (by omega) (fun u150 => ?_) (fun u150 => ?_)
            · refine v_iconst d_Re_readToken_171 ?_
              refine v_goto d_Re_readToken_172 ?_
              refine v_istore2 d_Re_readToken_176 (by decide) rfl ?_
              refine v_aload0 d_Re_readToken_177 ?_
              refine v_iload2 d_Re_readToken_178 ?_
              refine v_if_eq d_Re_readToken_179 (by omega) (fun u179 => ?_) (fun u179 => ?_)
              · omega
              · refine v_iload1 d_Re_readToken_182 ?_
                refine v_goto d_Re_readToken_183 ?_
                refine v_putJ (ji := 3) d_Re_readToken_188 p_Re_34 (sh_45 T) rfl rfl (by omega) ?_
                refine v_aload0 d_Re_readToken_191 ?_
                refine v_dup d_Re_readToken_192 rfl ?_
                refine v_getJ (ji := 2) d_Re_readToken_193 f_Re_25 (sh_45 T) rfl rfl (fun g193 => ?_)
                rw [vUp_ix (by decide), vUp_ix (by decide), h4]
                refine v_iconst d_Re_readToken_196 ?_
                refine v_iadd d_Re_readToken_197 ?_
                refine v_putJ (ji := 2) d_Re_readToken_198 p_Re_25 (sh_45 T) rfl rfl (by omega) ?_
                first
                | (exact v_return hM d_Re_readToken_201 ⟨rfl, F45.up hF1 (by omega), RkP_end (by omega) (by rw [vUp_ix (by decide), vUp_ix (by decide), h4]) (by rw [vUp_ix (by decide), vUp_same]) (by rw [vUp_same])⟩)
                | (exact v_return hM d_Re_readToken_201 ⟨rfl, hF1.trans' e116.1, e116.2⟩)
                | (exact v_return hM d_Re_readToken_201 ⟨rfl, hF1.trans' e135.1, e135.2⟩)
                | (exact v_return hM d_Re_readToken_201 ⟨rfl, F45.up (F45.up hF1 (by omega)) (by omega), RkP_sign (by omega) (fun z => by have := z.1; have := z.2; omega) (fun z => by have := z.1; have := z.2; omega) (by rw [vUp_same]) (by rw [vUp_ix (by decide), vUp_ix (by decide), vUp_same]) (Or.inl ⟨by omega, by rw [vUp_ix (by decide), vUp_same]; omega⟩)⟩)
                | (exact v_return hM d_Re_readToken_201 ⟨rfl, F45.up (F45.up hF1 (by omega)) (by omega), RkP_sign (by omega) (fun z => by have := z.1; have := z.2; omega) (fun z => by have := z.1; have := z.2; omega) (by rw [vUp_same]) (by rw [vUp_ix (by decide), vUp_ix (by decide), vUp_same]) (Or.inr ⟨by omega, by rw [vUp_ix (by decide), vUp_same]⟩)⟩)
                | (omega)
            · refine v_iload1 d_Re_readToken_153 ?_
              refine v_bipush d_Re_readToken_154 rfl ?_
              refine v_icmp_eq d_Re_readToken_156 (by omega) (by omega) (fun u156 => ?_) (fun u156 => ?_)
              · refine v_iconst d_Re_readToken_171 ?_
                refine v_goto d_Re_readToken_172 ?_
                refine v_istore2 d_Re_readToken_176 (by decide) rfl ?_
                refine v_aload0 d_Re_readToken_177 ?_
                refine v_iload2 d_Re_readToken_178 ?_
                refine v_if_eq d_Re_readToken_179 (by omega) (fun u179 => ?_) (fun u179 => ?_)
                · omega
                · refine v_iload1 d_Re_readToken_182 ?_
                  refine v_goto d_Re_readToken_183 ?_
                  refine v_putJ (ji := 3) d_Re_readToken_188 p_Re_34 (sh_45 T) rfl rfl (by omega) ?_
                  refine v_aload0 d_Re_readToken_191 ?_
                  refine v_dup d_Re_readToken_192 rfl ?_
                  refine v_getJ (ji := 2) d_Re_readToken_193 f_Re_25 (sh_45 T) rfl rfl (fun g193 => ?_)
                  rw [vUp_ix (by decide), vUp_ix (by decide), h4]
                  refine v_iconst d_Re_readToken_196 ?_
                  refine v_iadd d_Re_readToken_197 ?_
                  refine v_putJ (ji := 2) d_Re_readToken_198 p_Re_25 (sh_45 T) rfl rfl (by omega) ?_
                  first
                  | (exact v_return hM d_Re_readToken_201 ⟨rfl, F45.up hF1 (by omega), RkP_end (by omega) (by rw [vUp_ix (by decide), vUp_ix (by decide), h4]) (by rw [vUp_ix (by decide), vUp_same]) (by rw [vUp_same])⟩)
                  | (exact v_return hM d_Re_readToken_201 ⟨rfl, hF1.trans' e116.1, e116.2⟩)
                  | (exact v_return hM d_Re_readToken_201 ⟨rfl, hF1.trans' e135.1, e135.2⟩)
                  | (exact v_return hM d_Re_readToken_201 ⟨rfl, F45.up (F45.up hF1 (by omega)) (by omega), RkP_sign (by omega) (fun z => by have := z.1; have := z.2; omega) (fun z => by have := z.1; have := z.2; omega) (by rw [vUp_same]) (by rw [vUp_ix (by decide), vUp_ix (by decide), vUp_same]) (Or.inl ⟨by omega, by rw [vUp_ix (by decide), vUp_same]; omega⟩)⟩)
                  | (exact v_return hM d_Re_readToken_201 ⟨rfl, F45.up (F45.up hF1 (by omega)) (by omega), RkP_sign (by omega) (fun z => by have := z.1; have := z.2; omega) (fun z => by have := z.1; have := z.2; omega) (by rw [vUp_same]) (by rw [vUp_ix (by decide), vUp_ix (by decide), vUp_same]) (Or.inr ⟨by omega, by rw [vUp_ix (by decide), vUp_same]⟩)⟩)
                  | (omega)
              · refine v_iload1 d_Re_readToken_159 ?_
                refine v_bipush d_Re_readToken_160 rfl ?_
                refine v_icmp_eq d_Re_readToken_162 (by omega) (by omega) (fun u162 => ?_) (fun u162 => ?_)
                · refine v_iconst d_Re_readToken_171 ?_
                  refine v_goto d_Re_readToken_172 ?_
                  refine v_istore2 d_Re_readToken_176 (by decide) rfl ?_
                  refine v_aload0 d_Re_readToken_177 ?_
                  refine v_iload2 d_Re_readToken_178 ?_
                  refine v_if_eq d_Re_readToken_179 (by omega) (fun u179 => ?_) (fun u179 => ?_)
                  · omega
                  · refine v_iload1 d_Re_readToken_182 ?_
                    refine v_goto d_Re_readToken_183 ?_
                    refine v_putJ (ji := 3) d_Re_readToken_188 p_Re_34 (sh_45 T) rfl rfl (by omega) ?_
                    refine v_aload0 d_Re_readToken_191 ?_
                    refine v_dup d_Re_readToken_192 rfl ?_
                    refine v_getJ (ji := 2) d_Re_readToken_193 f_Re_25 (sh_45 T) rfl rfl (fun g193 => ?_)
                    rw [vUp_ix (by decide), vUp_ix (by decide), h4]
                    refine v_iconst d_Re_readToken_196 ?_
                    refine v_iadd d_Re_readToken_197 ?_
                    refine v_putJ (ji := 2) d_Re_readToken_198 p_Re_25 (sh_45 T) rfl rfl (by omega) ?_
                    first
                    | (exact v_return hM d_Re_readToken_201 ⟨rfl, F45.up hF1 (by omega), RkP_end (by omega) (by rw [vUp_ix (by decide), vUp_ix (by decide), h4]) (by rw [vUp_ix (by decide), vUp_same]) (by rw [vUp_same])⟩)
                    | (exact v_return hM d_Re_readToken_201 ⟨rfl, hF1.trans' e116.1, e116.2⟩)
                    | (exact v_return hM d_Re_readToken_201 ⟨rfl, hF1.trans' e135.1, e135.2⟩)
                    | (exact v_return hM d_Re_readToken_201 ⟨rfl, F45.up (F45.up hF1 (by omega)) (by omega), RkP_sign (by omega) (fun z => by have := z.1; have := z.2; omega) (fun z => by have := z.1; have := z.2; omega) (by rw [vUp_same]) (by rw [vUp_ix (by decide), vUp_ix (by decide), vUp_same]) (Or.inl ⟨by omega, by rw [vUp_ix (by decide), vUp_same]; omega⟩)⟩)
                    | (exact v_return hM d_Re_readToken_201 ⟨rfl, F45.up (F45.up hF1 (by omega)) (by omega), RkP_sign (by omega) (fun z => by have := z.1; have := z.2; omega) (fun z => by have := z.1; have := z.2; omega) (by rw [vUp_same]) (by rw [vUp_ix (by decide), vUp_ix (by decide), vUp_same]) (Or.inr ⟨by omega, by rw [vUp_ix (by decide), vUp_same]⟩)⟩)
                    | (omega)
                · refine v_iload1 d_Re_readToken_165 ?_
                  refine v_bipush d_Re_readToken_166 rfl ?_
                  refine v_icmp_ne d_Re_readToken_168 (by omega) (by omega) (fun u168 => ?_) (fun u168 => ?_)
                  · refine v_iconst d_Re_readToken_175 ?_
                    refine v_istore2 d_Re_readToken_176 (by decide) rfl ?_
                    refine v_aload0 d_Re_readToken_177 ?_
                    refine v_iload2 d_Re_readToken_178 ?_
                    refine v_if_eq d_Re_readToken_179 (by omega) (fun u179 => ?_) (fun u179 => ?_)
                    · refine v_bipush d_Re_readToken_186 rfl ?_
                      refine v_putJ (ji := 3) d_Re_readToken_188 p_Re_34 (sh_45 T) rfl rfl (by omega) ?_
                      refine v_aload0 d_Re_readToken_191 ?_
                      refine v_dup d_Re_readToken_192 rfl ?_
                      refine v_getJ (ji := 2) d_Re_readToken_193 f_Re_25 (sh_45 T) rfl rfl (fun g193 => ?_)
                      rw [vUp_ix (by decide), vUp_ix (by decide), h4]
                      refine v_iconst d_Re_readToken_196 ?_
                      refine v_iadd d_Re_readToken_197 ?_
                      refine v_putJ (ji := 2) d_Re_readToken_198 p_Re_25 (sh_45 T) rfl rfl (by omega) ?_
                      first
                      | (exact v_return hM d_Re_readToken_201 ⟨rfl, F45.up hF1 (by omega), RkP_end (by omega) (by rw [vUp_ix (by decide), vUp_ix (by decide), h4]) (by rw [vUp_ix (by decide), vUp_same]) (by rw [vUp_same])⟩)
                      | (exact v_return hM d_Re_readToken_201 ⟨rfl, hF1.trans' e116.1, e116.2⟩)
                      | (exact v_return hM d_Re_readToken_201 ⟨rfl, hF1.trans' e135.1, e135.2⟩)
                      | (exact v_return hM d_Re_readToken_201 ⟨rfl, F45.up (F45.up hF1 (by omega)) (by omega), RkP_sign (by omega) (fun z => by have := z.1; have := z.2; omega) (fun z => by have := z.1; have := z.2; omega) (by rw [vUp_same]) (by rw [vUp_ix (by decide), vUp_ix (by decide), vUp_same]) (Or.inl ⟨by omega, by rw [vUp_ix (by decide), vUp_same]; omega⟩)⟩)
                      | (exact v_return hM d_Re_readToken_201 ⟨rfl, F45.up (F45.up hF1 (by omega)) (by omega), RkP_sign (by omega) (fun z => by have := z.1; have := z.2; omega) (fun z => by have := z.1; have := z.2; omega) (by rw [vUp_same]) (by rw [vUp_ix (by decide), vUp_ix (by decide), vUp_same]) (Or.inr ⟨by omega, by rw [vUp_ix (by decide), vUp_same]⟩)⟩)
                      | (omega)
                    · omega
                  · refine v_iconst d_Re_readToken_171 ?_
                    refine v_goto d_Re_readToken_172 ?_
                    refine v_istore2 d_Re_readToken_176 (by decide) rfl ?_
                    refine v_aload0 d_Re_readToken_177 ?_
                    refine v_iload2 d_Re_readToken_178 ?_
                    refine v_if_eq d_Re_readToken_179 (by omega) (fun u179 => ?_) (fun u179 => ?_)
                    · omega
                    · refine v_iload1 d_Re_readToken_182 ?_
                      refine v_goto d_Re_readToken_183 ?_
                      refine v_putJ (ji := 3) d_Re_readToken_188 p_Re_34 (sh_45 T) rfl rfl (by omega) ?_
                      refine v_aload0 d_Re_readToken_191 ?_
                      refine v_dup d_Re_readToken_192 rfl ?_
                      refine v_getJ (ji := 2) d_Re_readToken_193 f_Re_25 (sh_45 T) rfl rfl (fun g193 => ?_)
                      rw [vUp_ix (by decide), vUp_ix (by decide), h4]
                      refine v_iconst d_Re_readToken_196 ?_
                      refine v_iadd d_Re_readToken_197 ?_
                      refine v_putJ (ji := 2) d_Re_readToken_198 p_Re_25 (sh_45 T) rfl rfl (by omega) ?_
                      first
                      | (exact v_return hM d_Re_readToken_201 ⟨rfl, F45.up hF1 (by omega), RkP_end (by omega) (by rw [vUp_ix (by decide), vUp_ix (by decide), h4]) (by rw [vUp_ix (by decide), vUp_same]) (by rw [vUp_same])⟩)
                      | (exact v_return hM d_Re_readToken_201 ⟨rfl, hF1.trans' e116.1, e116.2⟩)
                      | (exact v_return hM d_Re_readToken_201 ⟨rfl, hF1.trans' e135.1, e135.2⟩)
                      | (exact v_return hM d_Re_readToken_201 ⟨rfl, F45.up (F45.up hF1 (by omega)) (by omega), RkP_sign (by omega) (fun z => by have := z.1; have := z.2; omega) (fun z => by have := z.1; have := z.2; omega) (by rw [vUp_same]) (by rw [vUp_ix (by decide), vUp_ix (by decide), vUp_same]) (Or.inl ⟨by omega, by rw [vUp_ix (by decide), vUp_same]; omega⟩)⟩)
                      | (exact v_return hM d_Re_readToken_201 ⟨rfl, F45.up (F45.up hF1 (by omega)) (by omega), RkP_sign (by omega) (fun z => by have := z.1; have := z.2; omega) (fun z => by have := z.1; have := z.2; omega) (by rw [vUp_same]) (by rw [vUp_ix (by decide), vUp_ix (by decide), vUp_same]) (Or.inr ⟨by omega, by rw [vUp_ix (by decide), vUp_same]⟩)⟩)
                      | (omega)
        · refine v_iload1 d_Re_readToken_128 ?_
          refine v_bipush d_Re_readToken_129 rfl ?_
          refine v_icmp_gt d_Re_readToken_131 (by omega) (by omega) (fun u131 => ?_) (fun u131 => ?_)
          · refine v_iload1 d_Re_readToken_141 ?_
            refine v_bipush d_Re_readToken_142 rfl ?_
            refine v_icmp_eq d_Re_readToken_144 (by omega) (by omega) (fun u144 => ?_) (fun u144 => ?_)
            · refine v_iconst d_Re_readToken_171 ?_
              refine v_goto d_Re_readToken_172 ?_
              refine v_istore2 d_Re_readToken_176 (by decide) rfl ?_
              refine v_aload0 d_Re_readToken_177 ?_
              refine v_iload2 d_Re_readToken_178 ?_
              refine v_if_eq d_Re_readToken_179 (by omega) (fun u179 => ?_) (fun u179 => ?_)
              · omega
              · refine v_iload1 d_Re_readToken_182 ?_
                refine v_goto d_Re_readToken_183 ?_
                refine v_putJ (ji := 3) d_Re_readToken_188 p_Re_34 (sh_45 T) rfl rfl (by omega) ?_
                refine v_aload0 d_Re_readToken_191 ?_
                refine v_dup d_Re_readToken_192 rfl ?_
                refine v_getJ (ji := 2) d_Re_readToken_193 f_Re_25 (sh_45 T) rfl rfl (fun g193 => ?_)
                rw [vUp_ix (by decide), vUp_ix (by decide), h4]
                refine v_iconst d_Re_readToken_196 ?_
                refine v_iadd d_Re_readToken_197 ?_
                refine v_putJ (ji := 2) d_Re_readToken_198 p_Re_25 (sh_45 T) rfl rfl (by omega) ?_
                first
                | (exact v_return hM d_Re_readToken_201 ⟨rfl, F45.up hF1 (by omega), RkP_end (by omega) (by rw [vUp_ix (by decide), vUp_ix (by decide), h4]) (by rw [vUp_ix (by decide), vUp_same]) (by rw [vUp_same])⟩)
                | (exact v_return hM d_Re_readToken_201 ⟨rfl, hF1.trans' e116.1, e116.2⟩)
                | (exact v_return hM d_Re_readToken_201 ⟨rfl, hF1.trans' e135.1, e135.2⟩)
                | (exact v_return hM d_Re_readToken_201 ⟨rfl, F45.up (F45.up hF1 (by omega)) (by omega), RkP_sign (by omega) (fun z => by have := z.1; have := z.2; omega) (fun z => by have := z.1; have := z.2; omega) (by rw [vUp_same]) (by rw [vUp_ix (by decide), vUp_ix (by decide), vUp_same]) (Or.inl ⟨by omega, by rw [vUp_ix (by decide), vUp_same]; omega⟩)⟩)
                | (exact v_return hM d_Re_readToken_201 ⟨rfl, F45.up (F45.up hF1 (by omega)) (by omega), RkP_sign (by omega) (fun z => by have := z.1; have := z.2; omega) (fun z => by have := z.1; have := z.2; omega) (by rw [vUp_same]) (by rw [vUp_ix (by decide), vUp_ix (by decide), vUp_same]) (Or.inr ⟨by omega, by rw [vUp_ix (by decide), vUp_same]⟩)⟩)
                | (omega)
            · refine v_iload1 d_Re_readToken_147 ?_
              refine v_bipush d_Re_readToken_148 rfl ?_
              refine v_icmp_eq d_Re_readToken_150 (by omega) (by omega) (fun u150 => ?_) (fun u150 => ?_)
              · refine v_iconst d_Re_readToken_171 ?_
                refine v_goto d_Re_readToken_172 ?_
                refine v_istore2 d_Re_readToken_176 (by decide) rfl ?_
                refine v_aload0 d_Re_readToken_177 ?_
                refine v_iload2 d_Re_readToken_178 ?_
                refine v_if_eq d_Re_readToken_179 (by omega) (fun u179 => ?_) (fun u179 => ?_)
                · omega
                · refine v_iload1 d_Re_readToken_182 ?_
                  refine v_goto d_Re_readToken_183 ?_
                  refine v_putJ (ji := 3) d_Re_readToken_188 p_Re_34 (sh_45 T) rfl rfl (by omega) ?_
                  refine v_aload0 d_Re_readToken_191 ?_
                  refine v_dup d_Re_readToken_192 rfl ?_
                  refine v_getJ (ji := 2) d_Re_readToken_193 f_Re_25 (sh_45 T) rfl rfl (fun g193 => ?_)
                  rw [vUp_ix (by decide), vUp_ix (by decide), h4]
                  refine v_iconst d_Re_readToken_196 ?_
                  refine v_iadd d_Re_readToken_197 ?_
                  refine v_putJ (ji := 2) d_Re_readToken_198 p_Re_25 (sh_45 T) rfl rfl (by omega) ?_
                  first
                  | (exact v_return hM d_Re_readToken_201 ⟨rfl, F45.up hF1 (by omega), RkP_end (by omega) (by rw [vUp_ix (by decide), vUp_ix (by decide), h4]) (by rw [vUp_ix (by decide), vUp_same]) (by rw [vUp_same])⟩)
                  | (exact v_return hM d_Re_readToken_201 ⟨rfl, hF1.trans' e116.1, e116.2⟩)
                  | (exact v_return hM d_Re_readToken_201 ⟨rfl, hF1.trans' e135.1, e135.2⟩)
                  | (exact v_return hM d_Re_readToken_201 ⟨rfl, F45.up (F45.up hF1 (by omega)) (by omega), RkP_sign (by omega) (fun z => by have := z.1; have := z.2; omega) (fun z => by have := z.1; have := z.2; omega) (by rw [vUp_same]) (by rw [vUp_ix (by decide), vUp_ix (by decide), vUp_same]) (Or.inl ⟨by omega, by rw [vUp_ix (by decide), vUp_same]; omega⟩)⟩)
                  | (exact v_return hM d_Re_readToken_201 ⟨rfl, F45.up (F45.up hF1 (by omega)) (by omega), RkP_sign (by omega) (fun z => by have := z.1; have := z.2; omega) (fun z => by have := z.1; have := z.2; omega) (by rw [vUp_same]) (by rw [vUp_ix (by decide), vUp_ix (by decide), vUp_same]) (Or.inr ⟨by omega, by rw [vUp_ix (by decide), vUp_same]⟩)⟩)
                  | (omega)
              · refine v_iload1 d_Re_readToken_153 ?_
                refine v_bipush d_Re_readToken_154 rfl ?_
                refine v_icmp_eq d_Re_readToken_156 (by omega) (by omega) (fun u156 => ?_) (fun u156 => ?_)
                · refine v_iconst d_Re_readToken_171 ?_
                  refine v_goto d_Re_readToken_172 ?_
                  refine v_istore2 d_Re_readToken_176 (by decide) rfl ?_
                  refine v_aload0 d_Re_readToken_177 ?_
                  refine v_iload2 d_Re_readToken_178 ?_
                  refine v_if_eq d_Re_readToken_179 (by omega) (fun u179 => ?_) (fun u179 => ?_)
                  · omega
                  · refine v_iload1 d_Re_readToken_182 ?_
                    refine v_goto d_Re_readToken_183 ?_
                    refine v_putJ (ji := 3) d_Re_readToken_188 p_Re_34 (sh_45 T) rfl rfl (by omega) ?_
                    refine v_aload0 d_Re_readToken_191 ?_
                    refine v_dup d_Re_readToken_192 rfl ?_
                    refine v_getJ (ji := 2) d_Re_readToken_193 f_Re_25 (sh_45 T) rfl rfl (fun g193 => ?_)
                    rw [vUp_ix (by decide), vUp_ix (by decide), h4]
                    refine v_iconst d_Re_readToken_196 ?_
                    refine v_iadd d_Re_readToken_197 ?_
                    refine v_putJ (ji := 2) d_Re_readToken_198 p_Re_25 (sh_45 T) rfl rfl (by omega) ?_
                    first
                    | (exact v_return hM d_Re_readToken_201 ⟨rfl, F45.up hF1 (by omega), RkP_end (by omega) (by rw [vUp_ix (by decide), vUp_ix (by decide), h4]) (by rw [vUp_ix (by decide), vUp_same]) (by rw [vUp_same])⟩)
                    | (exact v_return hM d_Re_readToken_201 ⟨rfl, hF1.trans' e116.1, e116.2⟩)
                    | (exact v_return hM d_Re_readToken_201 ⟨rfl, hF1.trans' e135.1, e135.2⟩)
                    | (exact v_return hM d_Re_readToken_201 ⟨rfl, F45.up (F45.up hF1 (by omega)) (by omega), RkP_sign (by omega) (fun z => by have := z.1; have := z.2; omega) (fun z => by have := z.1; have := z.2; omega) (by rw [vUp_same]) (by rw [vUp_ix (by decide), vUp_ix (by decide), vUp_same]) (Or.inl ⟨by omega, by rw [vUp_ix (by decide), vUp_same]; omega⟩)⟩)
                    | (exact v_return hM d_Re_readToken_201 ⟨rfl, F45.up (F45.up hF1 (by omega)) (by omega), RkP_sign (by omega) (fun z => by have := z.1; have := z.2; omega) (fun z => by have := z.1; have := z.2; omega) (by rw [vUp_same]) (by rw [vUp_ix (by decide), vUp_ix (by decide), vUp_same]) (Or.inr ⟨by omega, by rw [vUp_ix (by decide), vUp_same]⟩)⟩)
                    | (omega)
                · refine v_iload1 d_Re_readToken_159 ?_
                  refine v_bipush d_Re_readToken_160 rfl ?_
                  refine v_icmp_eq d_Re_readToken_162 (by omega) (by omega) (fun u162 => ?_) (fun u162 => ?_)
                  · refine v_iconst d_Re_readToken_171 ?_
                    refine v_goto d_Re_readToken_172 ?_
                    refine v_istore2 d_Re_readToken_176 (by decide) rfl ?_
                    refine v_aload0 d_Re_readToken_177 ?_
                    refine v_iload2 d_Re_readToken_178 ?_
                    refine v_if_eq d_Re_readToken_179 (by omega) (fun u179 => ?_) (fun u179 => ?_)
                    · omega
                    · refine v_iload1 d_Re_readToken_182 ?_
                      refine v_goto d_Re_readToken_183 ?_
                      refine v_putJ (ji := 3) d_Re_readToken_188 p_Re_34 (sh_45 T) rfl rfl (by omega) ?_
                      refine v_aload0 d_Re_readToken_191 ?_
                      refine v_dup d_Re_readToken_192 rfl ?_
                      refine v_getJ (ji := 2) d_Re_readToken_193 f_Re_25 (sh_45 T) rfl rfl (fun g193 => ?_)
                      rw [vUp_ix (by decide), vUp_ix (by decide), h4]
                      refine v_iconst d_Re_readToken_196 ?_
                      refine v_iadd d_Re_readToken_197 ?_
                      refine v_putJ (ji := 2) d_Re_readToken_198 p_Re_25 (sh_45 T) rfl rfl (by omega) ?_
                      first
                      | (exact v_return hM d_Re_readToken_201 ⟨rfl, F45.up hF1 (by omega), RkP_end (by omega) (by rw [vUp_ix (by decide), vUp_ix (by decide), h4]) (by rw [vUp_ix (by decide), vUp_same]) (by rw [vUp_same])⟩)
                      | (exact v_return hM d_Re_readToken_201 ⟨rfl, hF1.trans' e116.1, e116.2⟩)
                      | (exact v_return hM d_Re_readToken_201 ⟨rfl, hF1.trans' e135.1, e135.2⟩)
                      | (exact v_return hM d_Re_readToken_201 ⟨rfl, F45.up (F45.up hF1 (by omega)) (by omega), RkP_sign (by omega) (fun z => by have := z.1; have := z.2; omega) (fun z => by have := z.1; have := z.2; omega) (by rw [vUp_same]) (by rw [vUp_ix (by decide), vUp_ix (by decide), vUp_same]) (Or.inl ⟨by omega, by rw [vUp_ix (by decide), vUp_same]; omega⟩)⟩)
                      | (exact v_return hM d_Re_readToken_201 ⟨rfl, F45.up (F45.up hF1 (by omega)) (by omega), RkP_sign (by omega) (fun z => by have := z.1; have := z.2; omega) (fun z => by have := z.1; have := z.2; omega) (by rw [vUp_same]) (by rw [vUp_ix (by decide), vUp_ix (by decide), vUp_same]) (Or.inr ⟨by omega, by rw [vUp_ix (by decide), vUp_same]⟩)⟩)
                      | (omega)
                  · refine v_iload1 d_Re_readToken_165 ?_
                    refine v_bipush d_Re_readToken_166 rfl ?_
                    refine v_icmp_ne d_Re_readToken_168 (by omega) (by omega) (fun u168 => ?_) (fun u168 => ?_)
                    · refine v_iconst d_Re_readToken_175 ?_
                      refine v_istore2 d_Re_readToken_176 (by decide) rfl ?_
                      refine v_aload0 d_Re_readToken_177 ?_
                      refine v_iload2 d_Re_readToken_178 ?_
                      refine v_if_eq d_Re_readToken_179 (by omega) (fun u179 => ?_) (fun u179 => ?_)
                      · refine v_bipush d_Re_readToken_186 rfl ?_
                        refine v_putJ (ji := 3) d_Re_readToken_188 p_Re_34 (sh_45 T) rfl rfl (by omega) ?_
                        refine v_aload0 d_Re_readToken_191 ?_
                        refine v_dup d_Re_readToken_192 rfl ?_
                        refine v_getJ (ji := 2) d_Re_readToken_193 f_Re_25 (sh_45 T) rfl rfl (fun g193 => ?_)
                        rw [vUp_ix (by decide), vUp_ix (by decide), h4]
                        refine v_iconst d_Re_readToken_196 ?_
                        refine v_iadd d_Re_readToken_197 ?_
                        refine v_putJ (ji := 2) d_Re_readToken_198 p_Re_25 (sh_45 T) rfl rfl (by omega) ?_
                        first
                        | (exact v_return hM d_Re_readToken_201 ⟨rfl, F45.up hF1 (by omega), RkP_end (by omega) (by rw [vUp_ix (by decide), vUp_ix (by decide), h4]) (by rw [vUp_ix (by decide), vUp_same]) (by rw [vUp_same])⟩)
                        | (exact v_return hM d_Re_readToken_201 ⟨rfl, hF1.trans' e116.1, e116.2⟩)
                        | (exact v_return hM d_Re_readToken_201 ⟨rfl, hF1.trans' e135.1, e135.2⟩)
                        | (exact v_return hM d_Re_readToken_201 ⟨rfl, F45.up (F45.up hF1 (by omega)) (by omega), RkP_sign (by omega) (fun z => by have := z.1; have := z.2; omega) (fun z => by have := z.1; have := z.2; omega) (by rw [vUp_same]) (by rw [vUp_ix (by decide), vUp_ix (by decide), vUp_same]) (Or.inl ⟨by omega, by rw [vUp_ix (by decide), vUp_same]; omega⟩)⟩)
                        | (exact v_return hM d_Re_readToken_201 ⟨rfl, F45.up (F45.up hF1 (by omega)) (by omega), RkP_sign (by omega) (fun z => by have := z.1; have := z.2; omega) (fun z => by have := z.1; have := z.2; omega) (by rw [vUp_same]) (by rw [vUp_ix (by decide), vUp_ix (by decide), vUp_same]) (Or.inr ⟨by omega, by rw [vUp_ix (by decide), vUp_same]⟩)⟩)
                        | (omega)
                      · omega
                    · refine v_iconst d_Re_readToken_171 ?_
                      refine v_goto d_Re_readToken_172 ?_
                      refine v_istore2 d_Re_readToken_176 (by decide) rfl ?_
                      refine v_aload0 d_Re_readToken_177 ?_
                      refine v_iload2 d_Re_readToken_178 ?_
                      refine v_if_eq d_Re_readToken_179 (by omega) (fun u179 => ?_) (fun u179 => ?_)
                      · omega
                      · refine v_iload1 d_Re_readToken_182 ?_
                        refine v_goto d_Re_readToken_183 ?_
                        refine v_putJ (ji := 3) d_Re_readToken_188 p_Re_34 (sh_45 T) rfl rfl (by omega) ?_
                        refine v_aload0 d_Re_readToken_191 ?_
                        refine v_dup d_Re_readToken_192 rfl ?_
                        refine v_getJ (ji := 2) d_Re_readToken_193 f_Re_25 (sh_45 T) rfl rfl (fun g193 => ?_)
                        rw [vUp_ix (by decide), vUp_ix (by decide), h4]
                        refine v_iconst d_Re_readToken_196 ?_
                        refine v_iadd d_Re_readToken_197 ?_
                        refine v_putJ (ji := 2) d_Re_readToken_198 p_Re_25 (sh_45 T) rfl rfl (by omega) ?_
                        first
                        | (exact v_return hM d_Re_readToken_201 ⟨rfl, F45.up hF1 (by omega), RkP_end (by omega) (by rw [vUp_ix (by decide), vUp_ix (by decide), h4]) (by rw [vUp_ix (by decide), vUp_same]) (by rw [vUp_same])⟩)
                        | (exact v_return hM d_Re_readToken_201 ⟨rfl, hF1.trans' e116.1, e116.2⟩)
                        | (exact v_return hM d_Re_readToken_201 ⟨rfl, hF1.trans' e135.1, e135.2⟩)
                        | (exact v_return hM d_Re_readToken_201 ⟨rfl, F45.up (F45.up hF1 (by omega)) (by omega), RkP_sign (by omega) (fun z => by have := z.1; have := z.2; omega) (fun z => by have := z.1; have := z.2; omega) (by rw [vUp_same]) (by rw [vUp_ix (by decide), vUp_ix (by decide), vUp_same]) (Or.inl ⟨by omega, by rw [vUp_ix (by decide), vUp_same]; omega⟩)⟩)
                        | (exact v_return hM d_Re_readToken_201 ⟨rfl, F45.up (F45.up hF1 (by omega)) (by omega), RkP_sign (by omega) (fun z => by have := z.1; have := z.2; omega) (fun z => by have := z.1; have := z.2; omega) (by rw [vUp_same]) (by rw [vUp_ix (by decide), vUp_ix (by decide), vUp_same]) (Or.inr ⟨by omega, by rw [vUp_ix (by decide), vUp_same]⟩)⟩)
                        | (omega)
          · refine v_aload0 d_Re_readToken_134 ?_
            refine v_gVV0 d_Re_readToken_135 l_Re_123 k_Re_readNumber (c_Re_readNumber hR1 hp (fun z => by have := z.1; have := z.2; omega) ⟨by omega, by omega⟩ (by rw [vUp_ix (by decide), h4]) (by rw [vUp_same])) (sh_45 T) rfl (by decide) (by decide) (Nat.le_of_ble_eq_true rfl) (Nat.zero_le _) (Nat.zero_le _) (fun z135 s135 e135 => ?_)
            refine v_goto d_Re_readToken_138 ?_
            first
            | (exact v_return hM d_Re_readToken_201 ⟨rfl, F45.up hF1 (by omega), RkP_end (by omega) (by rw [vUp_ix (by decide), vUp_ix (by decide), h4]) (by rw [vUp_ix (by decide), vUp_same]) (by rw [vUp_same])⟩)
            | (exact v_return hM d_Re_readToken_201 ⟨rfl, hF1.trans' e116.1, e116.2⟩)
            | (exact v_return hM d_Re_readToken_201 ⟨rfl, hF1.trans' e135.1, e135.2⟩)
            | (exact v_return hM d_Re_readToken_201 ⟨rfl, F45.up (F45.up hF1 (by omega)) (by omega), RkP_sign (by omega) (fun z => by have := z.1; have := z.2; omega) (fun z => by have := z.1; have := z.2; omega) (by rw [vUp_same]) (by rw [vUp_ix (by decide), vUp_ix (by decide), vUp_same]) (Or.inl ⟨by omega, by rw [vUp_ix (by decide), vUp_same]; omega⟩)⟩)
            | (exact v_return hM d_Re_readToken_201 ⟨rfl, F45.up (F45.up hF1 (by omega)) (by omega), RkP_sign (by omega) (fun z => by have := z.1; have := z.2; omega) (fun z => by have := z.1; have := z.2; omega) (by rw [vUp_same]) (by rw [vUp_ix (by decide), vUp_ix (by decide), vUp_same]) (Or.inr ⟨by omega, by rw [vUp_ix (by decide), vUp_same]⟩)⟩)
            | (omega)
      · refine v_aload0 d_Re_readToken_115 ?_
        refine v_gVV0 d_Re_readToken_116 l_Re_120 k_Re_readWord (c_Re_readWord hR1 hp ⟨by omega, by omega⟩ (by rw [vUp_ix (by decide), h4]) (by rw [vUp_same])) (sh_45 T) rfl (by decide) (by decide) (Nat.le_of_ble_eq_true rfl) (Nat.zero_le _) (Nat.zero_le _) (fun z116 s116 e116 => ?_)
        refine v_goto d_Re_readToken_119 ?_
        first
        | (exact v_return hM d_Re_readToken_201 ⟨rfl, F45.up hF1 (by omega), RkP_end (by omega) (by rw [vUp_ix (by decide), vUp_ix (by decide), h4]) (by rw [vUp_ix (by decide), vUp_same]) (by rw [vUp_same])⟩)
        | (exact v_return hM d_Re_readToken_201 ⟨rfl, hF1.trans' e116.1, e116.2⟩)
        | (exact v_return hM d_Re_readToken_201 ⟨rfl, hF1.trans' e135.1, e135.2⟩)
        | (exact v_return hM d_Re_readToken_201 ⟨rfl, F45.up (F45.up hF1 (by omega)) (by omega), RkP_sign (by omega) (fun z => by have := z.1; have := z.2; omega) (fun z => by have := z.1; have := z.2; omega) (by rw [vUp_same]) (by rw [vUp_ix (by decide), vUp_ix (by decide), vUp_same]) (Or.inl ⟨by omega, by rw [vUp_ix (by decide), vUp_same]; omega⟩)⟩)
        | (exact v_return hM d_Re_readToken_201 ⟨rfl, F45.up (F45.up hF1 (by omega)) (by omega), RkP_sign (by omega) (fun z => by have := z.1; have := z.2; omega) (fun z => by have := z.1; have := z.2; omega) (by rw [vUp_same]) (by rw [vUp_ix (by decide), vUp_ix (by decide), vUp_same]) (Or.inr ⟨by omega, by rw [vUp_ix (by decide), vUp_same]⟩)⟩)
        | (omega)
  · refine v_aload0 d_Re_readToken_83 ?_
    refine v_bipush d_Re_readToken_84 rfl ?_
    refine v_putJ (ji := 3) d_Re_readToken_86 p_Re_34 (sh_45 T) rfl rfl (by omega) ?_
    first
    | (exact v_return hM d_Re_readToken_89 ⟨rfl, F45.up hF1 (by omega), RkP_end (by omega) (by rw [vUp_ix (by decide), vUp_ix (by decide), h4]) (by rw [vUp_ix (by decide), vUp_same]) (by rw [vUp_same])⟩)
    | (exact v_return hM d_Re_readToken_89 ⟨rfl, hF1.trans' e116.1, e116.2⟩)
    | (exact v_return hM d_Re_readToken_89 ⟨rfl, hF1.trans' e135.1, e135.2⟩)
    | (exact v_return hM d_Re_readToken_89 ⟨rfl, F45.up (F45.up hF1 (by omega)) (by omega), RkP_sign (by omega) (fun z => by have := z.1; have := z.2; omega) (fun z => by have := z.1; have := z.2; omega) (by rw [vUp_same]) (by rw [vUp_ix (by decide), vUp_ix (by decide), vUp_same]) (Or.inl ⟨by omega, by rw [vUp_ix (by decide), vUp_same]; omega⟩)⟩)
    | (exact v_return hM d_Re_readToken_89 ⟨rfl, F45.up (F45.up hF1 (by omega)) (by omega), RkP_sign (by omega) (fun z => by have := z.1; have := z.2; omega) (fun z => by have := z.1; have := z.2; omega) (by rw [vUp_same]) (by rw [vUp_ix (by decide), vUp_ix (by decide), vUp_same]) (Or.inr ⟨by omega, by rw [vUp_ix (by decide), vUp_same]⟩)⟩)
    | (omega)

theorem c_Re_readToken_0 {T : vSh} {σ : vMem} {cx : vCx} {p L : Int} {b : Int → Int} (hR : RK σ b L) (hp : 0 ≤ p ∧ p ≤ 500) (hM : vM cx 0 0 none (rP (S0 ++ T) (fun _ σ2 => F45 σ σ2 ∧ RkP b p (σ2 45)))) : ∀ (n : Nat) (e : Int) (σ1 : vMem), 500 - e < (n : Int) → (0 ≤ e ∧ e ≤ 500) → (rn b qB e = whF b p) → σ1 45 2 = e → F45 σ σ1 → vV cx y_Re_readToken.cls prog_9_method_10_code 3 5 0 0 0 0 0 [some (.ref 45), none, none] [] (S0 ++ T) σ1 := by
  intro n
  induction n with
  | zero =>
    intro e σ1 hn h1 hwe h4 hF
    omega
  | succ n ih =>
    intro e σ1 hn h1 hwe h4 hF
    have hR1 := hF.rk hR
    have bL := hR.2.1.1
    have t0 := hR1.1
    have hw := whF_rng b hp.2
    have hbe : -1 ≤ b e ∧ b e ≤ 255 := okB_rng hR.2.1 (by omega)
    have hlt : e < L → _ := fun h => hR1.2.2 e (by omega) h
    have hge : L ≤ e → b e = -1 := hR.2.1.2.2 e
    refine v_aload0 d_Re_readToken_0 ?_
    refine v_getJ (ji := 2) d_Re_readToken_1 f_Re_25 (sh_45 T) rfl rfl (fun g1 => ?_)
    rw [h4]
    refine v_aload0 d_Re_readToken_4 ?_
    refine v_getR d_Re_readToken_5 f_Re_9 (sh_45 T) rfl ?_
    refine v_getJ (ji := 1) d_Re_readToken_8 f_Re_113 (sh_30 T) rfl rfl (fun g8 => ?_)
    refine v_icmp_ge d_Re_readToken_11 (by omega) (by omega) (fun u11 => ?_) (fun u11 => ?_)
    · exact c_Re_readToken_61 hR hp hM (by rw [h4, ← hwe, rn_stop (fun z : qB (b e) => by omega)]) hF
    · refine v_aload0 d_Re_readToken_14 ?_
      refine v_getR d_Re_readToken_15 f_Re_9 (sh_45 T) rfl ?_
      refine v_getR d_Re_readToken_18 f_Re_116 (sh_30 T) rfl ?_
      refine v_aload0 d_Re_readToken_21 ?_
      refine v_getJ (ji := 2) d_Re_readToken_22 f_Re_25 (sh_45 T) rfl rfl (fun g22 => ?_)
      rw [h4]
      refine v_baload d_Re_readToken_25 (sh_31 T) (by omega) (fun g25 => ?_)
      refine v_bipush d_Re_readToken_26 rfl ?_
      refine v_icmp_eq d_Re_readToken_28 (by omega) (by omega) (fun u28 => ?_) (fun u28 => ?_)
      · refine v_aload0 d_Re_readToken_48 ?_
        refine v_dup d_Re_readToken_49 rfl ?_
        refine v_getJ (ji := 2) d_Re_readToken_50 f_Re_25 (sh_45 T) rfl rfl (fun g50 => ?_)
        rw [h4]
        refine v_iconst d_Re_readToken_53 ?_
        refine v_iadd d_Re_readToken_54 ?_
        refine v_putJ (ji := 2) d_Re_readToken_55 p_Re_25 (sh_45 T) rfl rfl (by omega) ?_
        refine v_goto d_Re_readToken_58 ?_
        exact ih (e + 1) _ (by omega) (by omega) (by rw [← rn_step (q := qB) (by omega) (Or.inl (by omega))]; exact hwe) (by rw [vUp_same]) (F45.up hF (by omega))
      · refine v_aload0 d_Re_readToken_31 ?_
        refine v_getR d_Re_readToken_32 f_Re_9 (sh_45 T) rfl ?_
        refine v_getR d_Re_readToken_35 f_Re_116 (sh_30 T) rfl ?_
        refine v_aload0 d_Re_readToken_38 ?_
        refine v_getJ (ji := 2) d_Re_readToken_39 f_Re_25 (sh_45 T) rfl rfl (fun g39 => ?_)
        rw [h4]
        refine v_baload d_Re_readToken_42 (sh_31 T) (by omega) (fun g42 => ?_)
        refine v_bipush d_Re_readToken_43 rfl ?_
        refine v_icmp_ne d_Re_readToken_45 (by omega) (by omega) (fun u45 => ?_) (fun u45 => ?_)
        · exact c_Re_readToken_61 hR hp hM (by rw [h4, ← hwe, rn_stop (fun z : qB (b e) => by omega)]) hF
        · refine v_aload0 d_Re_readToken_48 ?_
          refine v_dup d_Re_readToken_49 rfl ?_
          refine v_getJ (ji := 2) d_Re_readToken_50 f_Re_25 (sh_45 T) rfl rfl (fun g50 => ?_)
          rw [h4]
          refine v_iconst d_Re_readToken_53 ?_
          refine v_iadd d_Re_readToken_54 ?_
          refine v_putJ (ji := 2) d_Re_readToken_55 p_Re_25 (sh_45 T) rfl rfl (by omega) ?_
          refine v_goto d_Re_readToken_58 ?_
          exact ih (e + 1) _ (by omega) (by omega) (by rw [← rn_step (q := qB) (by omega) (Or.inr (by omega))]; exact hwe) (by rw [vUp_same]) (F45.up hF (by omega))

theorem c_Re_readToken {T : vSh} {σ : vMem} {p L : Int} {b : Int → Int} (hR : RK σ b L) (hp : 0 ≤ p ∧ p ≤ 500) (h4 : σ 45 2 = p) : mt_Re_readToken [.ref 45] (S0 ++ T) σ (rP (S0 ++ T) (fun _ σ2 => F45 σ σ2 ∧ RkP b p (σ2 45))) := by
  refine vMet.intro 2 (by decide +kernel) (Nat.le_of_ble_eq_true rfl) rfl (fun cx hM _ => ?_)
  exact c_Re_readToken_0 hR hp hM 501 p σ (by omega) hp rfl h4 F45.rfl'

