theorem c_V_fault {T : vSh} {σ : vMem} {A : Int → Int} (hC : CR σ A) (hO : okA A) {w : Int} (h0 : vIn w) : mt_V_fault [.ref 0, .int (iI w)] (S0 ++ T) σ (rF (S0 ++ T) σ (rFault A w)) := by
  refine vMet.intro 0 (by decide +kernel) (Nat.le_of_ble_eq_true rfl) rfl (fun cx hM _ => ?_)
  obtain ⟨⟨q0, q1, q2, q3, q4, q5, q6, q7⟩, hVi, hWe, hCo, hOf, hBo, hWo, hMo, hRe, hLi, hTa⟩ := id hO
  obtain ⟨⟨l0, l1, lV, lC, lZ, lS⟩, ⟨b0, b1, bO, bB⟩, ⟨w0, wR, wL⟩, ⟨t0, t1, t2, tR, tB⟩, ⟨n9, nW⟩, m0, mM⟩ := id hC
  refine v_iload1 d_V_fault_0 ?_
  rcases (show (w ≠ 0 ∧ w ≠ 1) ∨ w = 0 ∨ w = 1 by omega) with hs | hs | hs
  · refine v_lookup d_V_fault_1 (by omega) rfl (off := 49) (tgt := 50) (by simp [Op.lookupswitch.offset, Ne.symm hs.1, Ne.symm hs.2]) rfl ?_
    refine v_iconst d_V_fault_50 ?_
    first
    | (exact v_ireturn hM d_V_fault_51 (by omega) ⟨rfl, rfl, by rw [rFault, if_pos (by omega)]; omega⟩)
    | (exact v_ireturn hM d_V_fault_51 (by omega) ⟨rfl, rfl, by rw [rFault, if_neg (by omega), if_pos (by omega)]; omega⟩)
    | (exact v_ireturn hM d_V_fault_51 (by omega) ⟨rfl, rfl, by rw [rFault, if_neg (by omega), if_neg (by omega)]⟩)
  · refine v_lookup d_V_fault_1 (by omega) rfl (off := 27) (tgt := 28) (by rw [hs]; rfl) rfl ?_
    refine v_aload0 d_V_fault_28 ?_
    refine v_getR d_V_fault_29 f_V_10 (sh_0 T) rfl ?_
    refine v_getR d_V_fault_32 f_V_22 (sh_1 T) rfl ?_
    refine v_getJ (ji := 2) d_V_fault_35 f_V_216 (sh_30 T) rfl rfl (fun g35 => ?_)
    first
    | (exact v_ireturn hM d_V_fault_38 (by omega) ⟨rfl, rfl, by rw [rFault, if_pos (by omega)]; omega⟩)
    | (exact v_ireturn hM d_V_fault_38 (by omega) ⟨rfl, rfl, by rw [rFault, if_neg (by omega), if_pos (by omega)]; omega⟩)
    | (exact v_ireturn hM d_V_fault_38 (by omega) ⟨rfl, rfl, by rw [rFault, if_neg (by omega), if_neg (by omega)]⟩)
  · refine v_lookup d_V_fault_1 (by omega) rfl (off := 38) (tgt := 39) (by rw [hs]; rfl) rfl ?_
    refine v_aload0 d_V_fault_39 ?_
    refine v_getR d_V_fault_40 f_V_10 (sh_0 T) rfl ?_
    refine v_getR d_V_fault_43 f_V_22 (sh_1 T) rfl ?_
    refine v_getJ (ji := 3) d_V_fault_46 f_V_219 (sh_30 T) rfl rfl (fun g46 => ?_)
    first
    | (exact v_ireturn hM d_V_fault_49 (by omega) ⟨rfl, rfl, by rw [rFault, if_pos (by omega)]; omega⟩)
    | (exact v_ireturn hM d_V_fault_49 (by omega) ⟨rfl, rfl, by rw [rFault, if_neg (by omega), if_pos (by omega)]; omega⟩)
    | (exact v_ireturn hM d_V_fault_49 (by omega) ⟨rfl, rfl, by rw [rFault, if_neg (by omega), if_neg (by omega)]⟩)

theorem c_La_crop {T : vSh} {σ : vMem} {paper h c p : Int} (h0 : 0 ≤ paper ∧ paper ≤ 9999) (h1 : 0 ≤ h ∧ h ≤ 100) (h2 : 0 ≤ c ∧ c ≤ 200) (h3 : 0 ≤ p ∧ p ≤ 150) : mt_La_crop [.int (iI paper), .int (iI h), .int (iI c), .int (iI p)] (S0 ++ T) σ (rF (S0 ++ T) σ (cropF paper h c p)) := by
  refine vMet.intro 0 (by decide +kernel) (Nat.le_of_ble_eq_true rfl) rfl (fun cx hM _ => ?_)
  have hcr := crop_rng h0 h1 h2 h3
  refine v_iload0 d_La_crop_0 ?_
  refine v_iload1 d_La_crop_1 ?_
  refine v_imul d_La_crop_2 ?_
  refine v_bipush d_La_crop_3 rfl ?_
  refine v_idiv d_La_crop_5 (by omega) (by omega) ?_
  refine v_iload2 d_La_crop_6 ?_
  refine v_imul d_La_crop_7 ?_
  refine v_bipush d_La_crop_8 rfl ?_
  refine v_idiv d_La_crop_10 (by omega) (by omega) ?_
  refine v_iload3 d_La_crop_11 ?_
  refine v_imul d_La_crop_12 ?_
  refine v_bipush d_La_crop_13 rfl ?_
  refine v_idiv d_La_crop_15 (by omega) (by omega) ?_
  refine v_iconst d_La_crop_16 ?_
  refine v_idiv d_La_crop_17 (by omega) (by omega) ?_
  exact v_ireturn hM d_La_crop_18 (by omega) ⟨rfl, rfl, rfl⟩

theorem c_La_healthAfter {T : vSh} {σ : vMem} {h p : Int} (h1 : 0 ≤ h ∧ h ≤ 100) (h3 : 0 ≤ p ∧ p ≤ 150) : mt_La_healthAfter [.int (iI h), .int (iI p)] (S0 ++ T) σ (rF (S0 ++ T) σ (hlF h p)) := by
  refine vMet.intro 1 (by decide +kernel) (Nat.le_of_ble_eq_true rfl) rfl (fun cx hM _ => ?_)
  refine v_iload1 d_La_healthAfter_0 ?_
  refine v_bipush d_La_healthAfter_1 rfl ?_
  refine v_icmp_le d_La_healthAfter_3 (by omega) (by omega) (fun u3 => ?_) (fun u3 => ?_)
  · refine v_iload0 d_La_healthAfter_17 ?_
    refine v_iconst d_La_healthAfter_18 ?_
    refine v_iadd d_La_healthAfter_19 ?_
    refine v_istore2 d_La_healthAfter_20 (by decide) rfl ?_
    refine v_iconst d_La_healthAfter_21 ?_
    refine v_bipush d_La_healthAfter_22 rfl ?_
    refine v_iload2 d_La_healthAfter_24 ?_
    refine v_min d_La_healthAfter_25 lx_La_58 cw_mins cw_mi cw_minc (by omega) (by omega) (by decide) (Nat.le_of_ble_eq_true rfl) ?_
    refine v_max d_La_healthAfter_28 lx_La_63 cw_maxs cw_mi cw_maxc (by omega) (by unfold vMn; split <;> omega) (by decide) (Nat.le_of_ble_eq_true rfl) ?_
    first
    | (have hq : vMx 0 (vMn 100 (h - (p - 100) / 5)) = hlF h p := by
         unfold hlF
         simp only [if_pos (show 100 < p by omega)]
         unfold vMx vMn
         split <;> split <;> (try split) <;> (try split) <;> omega
       rw [hq]
       have hr := hlF_rng h p
       exact v_ireturn hM d_La_healthAfter_31 (by omega) ⟨rfl, rfl, rfl⟩)
    | (have hq : vMx 0 (vMn 100 (h + 3)) = hlF h p := by
         unfold hlF
         simp only [if_neg (show ¬ (100 < p) by omega)]
         unfold vMx vMn
         split <;> split <;> (try split) <;> (try split) <;> omega
       rw [hq]
       have hr := hlF_rng h p
       exact v_ireturn hM d_La_healthAfter_31 (by omega) ⟨rfl, rfl, rfl⟩)
  · refine v_iload0 d_La_healthAfter_6 ?_
    refine v_iload1 d_La_healthAfter_7 ?_
    refine v_bipush d_La_healthAfter_8 rfl ?_
    refine v_isub d_La_healthAfter_10 ?_
    refine v_iconst d_La_healthAfter_11 ?_
    refine v_idiv d_La_healthAfter_12 (by omega) (by omega) ?_
    refine v_isub d_La_healthAfter_13 ?_
    refine v_goto d_La_healthAfter_14 ?_
    refine v_istore2 d_La_healthAfter_20 (by decide) rfl ?_
    refine v_iconst d_La_healthAfter_21 ?_
    refine v_bipush d_La_healthAfter_22 rfl ?_
    refine v_iload2 d_La_healthAfter_24 ?_
    refine v_min d_La_healthAfter_25 lx_La_58 cw_mins cw_mi cw_minc (by omega) (by omega) (by decide) (Nat.le_of_ble_eq_true rfl) ?_
    refine v_max d_La_healthAfter_28 lx_La_63 cw_maxs cw_mi cw_maxc (by omega) (by unfold vMn; split <;> omega) (by decide) (Nat.le_of_ble_eq_true rfl) ?_
    first
    | (have hq : vMx 0 (vMn 100 (h - (p - 100) / 5)) = hlF h p := by
         unfold hlF
         simp only [if_pos (show 100 < p by omega)]
         unfold vMx vMn
         split <;> split <;> (try split) <;> (try split) <;> omega
       rw [hq]
       have hr := hlF_rng h p
       exact v_ireturn hM d_La_healthAfter_31 (by omega) ⟨rfl, rfl, rfl⟩)
    | (have hq : vMx 0 (vMn 100 (h + 3)) = hlF h p := by
         unfold hlF
         simp only [if_neg (show ¬ (100 < p) by omega)]
         unfold vMx vMn
         split <;> split <;> (try split) <;> (try split) <;> omega
       rw [hq]
       have hr := hlF_rng h p
       exact v_ireturn hM d_La_healthAfter_31 (by omega) ⟨rfl, rfl, rfl⟩)

theorem c_La_paperOf_4 {T : vSh} {σ : vMem} {cx : vCx} {A : Int → Int} (hC : CR σ A) (hO : okA A) {set : Int} (h0 : vIn set) (hM : vM cx 0 0 (some .int) (rF (S0 ++ T) σ (papF A set))) : ∀ (n j : Nat) (sum i : Int), (j : Int) + n = A 0 → i = j → sum = papS A set j → vV cx y_La_paperOf.cls prog_5_method_7_code 4 0 0 0 0 0 4 [some (.ref 2), some (.int (iI set)), some (.int (iI sum)), some (.int (iI i))] [] (S0 ++ T) σ := by
  intro n
  induction n with
  | zero =>
    intro j sum i hj hi hs
    obtain ⟨⟨q0, q1, q2, q3, q4, q5, q6, q7⟩, hVi, hWe, hCo, hOf, hBo, hWo, hMo, hRe, hLi, hTa⟩ := id hO
    obtain ⟨⟨l0, l1, lV, lC, lZ, lS⟩, ⟨b0, b1, bO, bB⟩, ⟨w0, wR, wL⟩, ⟨t0, t1, t2, tR, tB⟩, ⟨n9, nW⟩, m0, mM⟩ := id hC
    have hpr := papS_rng hO set j (by omega)
    refine v_iload3 d_La_paperOf_4 ?_
    refine v_aload0 d_La_paperOf_5 ?_
    refine v_getJ (ji := 1) d_La_paperOf_6 f_La_39 (sh_2 T) rfl rfl (fun g6 => ?_)
    refine v_icmp_ge d_La_paperOf_9 (by omega) (by omega) (fun u9 => ?_) (fun u9 => ?_)
    · refine v_iload2 d_La_paperOf_35 ?_
      exact v_ireturn hM d_La_paperOf_36 (by omega) ⟨rfl, rfl, by rw [hs]; congr 1; omega⟩
    · omega
  | succ n ih =>
    intro j sum i hj hi hs
    obtain ⟨⟨q0, q1, q2, q3, q4, q5, q6, q7⟩, hVi, hWe, hCo, hOf, hBo, hWo, hMo, hRe, hLi, hTa⟩ := id hO
    obtain ⟨⟨l0, l1, lV, lC, lZ, lS⟩, ⟨b0, b1, bO, bB⟩, ⟨w0, wR, wL⟩, ⟨t0, t1, t2, tR, tB⟩, ⟨n9, nW⟩, m0, mM⟩ := id hC
    have hpr := papS_rng hO set j (by omega)
    have hlv := lV i (by omega) (by omega)
    have hvi := hVi i (by omega) (by omega)
    have hp2 : papS A set (j + 1) = sum + bt set i * A (40 + 6 * i + 0) := by rw [hs, hi]; rfl
    refine v_iload3 d_La_paperOf_4 ?_
    refine v_aload0 d_La_paperOf_5 ?_
    refine v_getJ (ji := 1) d_La_paperOf_6 f_La_39 (sh_2 T) rfl rfl (fun g6 => ?_)
    refine v_icmp_ge d_La_paperOf_9 (by omega) (by omega) (fun u9 => ?_) (fun u9 => ?_)
    · omega
    · refine v_iload1 d_La_paperOf_12 ?_
      refine v_iload3 d_La_paperOf_13 ?_
      refine v_ishr d_La_paperOf_14 (bshr h0 (by omega)) ?_
      refine v_iconst d_La_paperOf_15 ?_
      refine v_iand d_La_paperOf_16 (band1 _) ?_
      refine v_if_eq d_La_paperOf_17 (by omega) (fun u17 => ?_) (fun u17 => ?_)
      · refine v_iinc3 d_La_paperOf_29 (by decide) rfl ?_
        refine v_goto d_La_paperOf_32 ?_
        first
        | (have hb : bt set i = 0 := u17
           exact ih (j + 1) _ _ (by omega) (by omega) (by rw [hp2, hb]; omega))
        | (have hb : bt set i = 1 := by have := bt_rng set i; unfold bt at this ⊢; omega
           exact ih (j + 1) _ _ (by omega) (by omega) (by rw [hp2, hb]; omega))
      · refine v_iload2 d_La_paperOf_20 ?_
        refine v_aload0 d_La_paperOf_21 ?_
        refine v_getR d_La_paperOf_22 f_La_9 (sh_2 T) rfl ?_
        refine v_iload3 d_La_paperOf_25 ?_
        refine v_iaload d_La_paperOf_26 (sh_3 T) (by omega) (fun g26 => ?_)
        refine v_iadd d_La_paperOf_27 ?_
        refine v_istore2 d_La_paperOf_28 (by decide) rfl ?_
        refine v_iinc3 d_La_paperOf_29 (by decide) rfl ?_
        refine v_goto d_La_paperOf_32 ?_
        first
        | (have hb : bt set i = 0 := u17
           exact ih (j + 1) _ _ (by omega) (by omega) (by rw [hp2, hb]; omega))
        | (have hb : bt set i = 1 := by have := bt_rng set i; unfold bt at this ⊢; omega
           exact ih (j + 1) _ _ (by omega) (by omega) (by rw [hp2, hb]; omega))

theorem c_La_paperOf {T : vSh} {σ : vMem} {A : Int → Int} (hC : CR σ A) (hO : okA A) {set : Int} (h0 : vIn set) : mt_La_paperOf [.ref 2, .int (iI set)] (S0 ++ T) σ (rF (S0 ++ T) σ (papF A set)) := by
  refine vMet.intro 2 (by decide +kernel) (Nat.le_of_ble_eq_true rfl) rfl (fun cx hM _ => ?_)
  obtain ⟨⟨q0, q1, q2, q3, q4, q5, q6, q7⟩, hVi, hWe, hCo, hOf, hBo, hWo, hMo, hRe, hLi, hTa⟩ := id hO
  obtain ⟨⟨l0, l1, lV, lC, lZ, lS⟩, ⟨b0, b1, bO, bB⟩, ⟨w0, wR, wL⟩, ⟨t0, t1, t2, tR, tB⟩, ⟨n9, nW⟩, m0, mM⟩ := id hC
  refine v_iconst d_La_paperOf_0 ?_
  refine v_istore2 d_La_paperOf_1 (by decide) rfl ?_
  refine v_iconst d_La_paperOf_2 ?_
  refine v_istore3 d_La_paperOf_3 (by decide) rfl ?_
  exact c_La_paperOf_4 hC hO h0 hM (A 0).toNat 0 _ _ (by omega) rfl rfl

theorem c_La_nearOf_28 {T : vSh} {σ : vMem} {cx : vCx} {A : Int → Int} (hC : CR σ A) (hO : okA A) {set : Int} (h0 : vIn set) (hM : vM cx 0 0 (some .int) (rF (S0 ++ T) σ (nearF A set))) {aa base : Int} {ja : Nat} (hja : aa = ja) (haa : (ja : Int) < A 0) (hba : bt set aa = 1) (hbase : base = nearC A set (A 0).toNat ja) (K : ∀ sum : Int, sum = nearC A set (A 0).toNat (ja + 1) → vV cx y_La_nearOf.cls prog_5_method_8_code 5 1 0 0 0 0 90 [some (.ref 2), some (.int (iI set)), some (.int (iI sum)), some (.int (iI aa)), none] [] (S0 ++ T) σ) : ∀ (n j : Nat) (sum i : Int), (j : Int) + n = A 0 → i = j → aa < (j : Int) → sum = base + sm (fun b => if aa < b then pairF A set aa b else 0) j → vV cx y_La_nearOf.cls prog_5_method_8_code 5 1 0 0 0 0 28 [some (.ref 2), some (.int (iI set)), some (.int (iI sum)), some (.int (iI aa)), some (.int (iI i))] [] (S0 ++ T) σ := by
  intro n
  induction n with
  | zero =>
    intro j sum i hj hi hj2 hs
    obtain ⟨⟨q0, q1, q2, q3, q4, q5, q6, q7⟩, hVi, hWe, hCo, hOf, hBo, hWo, hMo, hRe, hLi, hTa⟩ := id hO
    obtain ⟨⟨l0, l1, lV, lC, lZ, lS⟩, ⟨b0, b1, bO, bB⟩, ⟨w0, wR, wL⟩, ⟨t0, t1, t2, tR, tB⟩, ⟨n9, nW⟩, m0, mM⟩ := id hC
    have hp1 := sm_rng (f := (fun b => if aa < b then pairF A set aa b else 0)) (m := 100) j (fun b y1 y2 => by have := pairF_rng hO set (a := aa) (b := b) (by omega) (by omega); split <;> omega)
    have hnr := nearC_rng hO set ja (by omega)
    have hva := hVi aa (by omega) (by omega)
    have hla := lV aa (by omega) (by omega)
    refine v_iload4 d_La_nearOf_28 ?_
    refine v_aload0 d_La_nearOf_30 ?_
    refine v_getJ (ji := 1) d_La_nearOf_31 f_La_39 (sh_2 T) rfl rfl (fun g31 => ?_)
    refine v_icmp_ge d_La_nearOf_34 (by omega) (by omega) (fun u34 => ?_) (fun u34 => ?_)
    · refine v_drop4 ?_
      exact K sum (by rw [hs, hbase]; show _ = nearC A set (A 0).toNat ja + sm (fun b => if (ja : Int) < b then pairF A set (ja : Int) b else 0) (A 0).toNat; rw [← hja, show j = (A 0).toNat by omega])
    · omega
  | succ n ih =>
    intro j sum i hj hi hj2 hs
    obtain ⟨⟨q0, q1, q2, q3, q4, q5, q6, q7⟩, hVi, hWe, hCo, hOf, hBo, hWo, hMo, hRe, hLi, hTa⟩ := id hO
    obtain ⟨⟨l0, l1, lV, lC, lZ, lS⟩, ⟨b0, b1, bO, bB⟩, ⟨w0, wR, wL⟩, ⟨t0, t1, t2, tR, tB⟩, ⟨n9, nW⟩, m0, mM⟩ := id hC
    have hp1 := sm_rng (f := (fun b => if aa < b then pairF A set aa b else 0)) (m := 100) j (fun b y1 y2 => by have := pairF_rng hO set (a := aa) (b := b) (by omega) (by omega); split <;> omega)
    have hnr := nearC_rng hO set ja (by omega)
    have hva := hVi aa (by omega) (by omega)
    have hla := lV aa (by omega) (by omega)
    have hvb := hVi i (by omega) (by omega)
    have hlb := lV i (by omega) (by omega)
    refine v_iload4 d_La_nearOf_28 ?_
    refine v_aload0 d_La_nearOf_30 ?_
    refine v_getJ (ji := 1) d_La_nearOf_31 f_La_39 (sh_2 T) rfl rfl (fun g31 => ?_)
    refine v_icmp_ge d_La_nearOf_34 (by omega) (by omega) (fun u34 => ?_) (fun u34 => ?_)
    · omega
    · refine v_iload1 d_La_nearOf_37 ?_
      refine v_iload4 d_La_nearOf_38 ?_
      refine v_ishr d_La_nearOf_40 (bshr h0 (by omega)) ?_
      refine v_iconst d_La_nearOf_41 ?_
      refine v_iand d_La_nearOf_42 (band1 _) ?_
      refine v_if_eq d_La_nearOf_43 (by omega) (fun u43 => ?_) (fun u43 => ?_)
      · refine v_iinc4 d_La_nearOf_84 (by decide) rfl ?_
        refine v_goto d_La_nearOf_87 ?_
        have e9 : sm (fun b => if aa < b then pairF A set aa b else 0) (j + 1) = sm (fun b => if aa < b then pairF A set aa b else 0) j + pairF A set aa i := by
          rw [sm]
          simp only [if_pos hj2]
          rw [hi]
        have hba' := hba
        unfold bt at hba'
        exact ih (j + 1) _ _ (by omega) (by omega) (by omega) (by rw [hs, e9]; unfold pairF bt; first | (rw [if_pos (by omega)]; omega) | (rw [if_neg (by omega)]; omega))
      · refine v_iload2 d_La_nearOf_46 ?_
        refine v_aload0 d_La_nearOf_47 ?_
        refine v_getR d_La_nearOf_48 f_La_15 (sh_2 T) rfl ?_
        refine v_iload3 d_La_nearOf_51 ?_
        refine v_iaload d_La_nearOf_52 (sh_4 T) (by omega) (fun g52 => ?_)
        refine v_aload0 d_La_nearOf_53 ?_
        refine v_getR d_La_nearOf_54 f_La_15 (sh_2 T) rfl ?_
        refine v_iload4 d_La_nearOf_57 ?_
        refine v_iaload d_La_nearOf_59 (sh_4 T) (by omega) (fun g59 => ?_)
        refine v_isub d_La_nearOf_60 ?_
        have ha1 : vAb (σ 4 aa - σ 4 i) = farI (A (40 + 6 * aa + 1)) (A (40 + 6 * i + 1)) := by unfold vAb farI; split <;> split <;> omega
        have hf1 := farI_rng (a := A (40 + 6 * aa + 1)) (b := A (40 + 6 * i + 1)) (m := 50) (by omega) (by omega)
        refine v_abs d_La_nearOf_61 lx_La_66 cw_abss cw_mi cw_absc (by omega) (by decide) (Nat.le_of_ble_eq_true rfl) ?_
        refine v_aload0 d_La_nearOf_64 ?_
        refine v_getR d_La_nearOf_65 f_La_18 (sh_2 T) rfl ?_
        refine v_iload3 d_La_nearOf_68 ?_
        refine v_iaload d_La_nearOf_69 (sh_5 T) (by omega) (fun g69 => ?_)
        refine v_aload0 d_La_nearOf_70 ?_
        refine v_getR d_La_nearOf_71 f_La_18 (sh_2 T) rfl ?_
        refine v_iload4 d_La_nearOf_74 ?_
        refine v_iaload d_La_nearOf_76 (sh_5 T) (by omega) (fun g76 => ?_)
        refine v_isub d_La_nearOf_77 ?_
        have ha2 : vAb (σ 5 aa - σ 5 i) = farI (A (40 + 6 * aa + 2)) (A (40 + 6 * i + 2)) := by unfold vAb farI; split <;> split <;> omega
        have hf2 := farI_rng (a := A (40 + 6 * aa + 2)) (b := A (40 + 6 * i + 2)) (m := 50) (by omega) (by omega)
        refine v_abs d_La_nearOf_78 lx_La_66 cw_abss cw_mi cw_absc (by omega) (by decide) (Nat.le_of_ble_eq_true rfl) ?_
        refine v_iadd d_La_nearOf_81 ?_
        refine v_iadd d_La_nearOf_82 ?_
        refine v_istore2 d_La_nearOf_83 (by decide) rfl ?_
        refine v_iinc4 d_La_nearOf_84 (by decide) rfl ?_
        refine v_goto d_La_nearOf_87 ?_
        have e9 : sm (fun b => if aa < b then pairF A set aa b else 0) (j + 1) = sm (fun b => if aa < b then pairF A set aa b else 0) j + pairF A set aa i := by
          rw [sm]
          simp only [if_pos hj2]
          rw [hi]
        have hba' := hba
        unfold bt at hba'
        exact ih (j + 1) _ _ (by omega) (by omega) (by omega) (by rw [hs, e9]; unfold pairF bt; first | (rw [if_pos (by omega)]; omega) | (rw [if_neg (by omega)]; omega))

theorem c_La_nearOf_4 {T : vSh} {σ : vMem} {cx : vCx} {A : Int → Int} (hC : CR σ A) (hO : okA A) {set : Int} (h0 : vIn set) (hM : vM cx 0 0 (some .int) (rF (S0 ++ T) σ (nearF A set))) : ∀ (n j : Nat) (sum i : Int), (j : Int) + n = A 0 → i = j → sum = nearC A set (A 0).toNat j → vV cx y_La_nearOf.cls prog_5_method_8_code 5 1 0 0 0 0 4 [some (.ref 2), some (.int (iI set)), some (.int (iI sum)), some (.int (iI i)), none] [] (S0 ++ T) σ := by
  intro n
  induction n with
  | zero =>
    intro j sum i hj hi hs
    obtain ⟨⟨q0, q1, q2, q3, q4, q5, q6, q7⟩, hVi, hWe, hCo, hOf, hBo, hWo, hMo, hRe, hLi, hTa⟩ := id hO
    obtain ⟨⟨l0, l1, lV, lC, lZ, lS⟩, ⟨b0, b1, bO, bB⟩, ⟨w0, wR, wL⟩, ⟨t0, t1, t2, tR, tB⟩, ⟨n9, nW⟩, m0, mM⟩ := id hC
    have hnr := nearC_rng hO set j (by omega)
    refine v_iload3 d_La_nearOf_4 ?_
    refine v_aload0 d_La_nearOf_5 ?_
    refine v_getJ (ji := 1) d_La_nearOf_6 f_La_39 (sh_2 T) rfl rfl (fun g6 => ?_)
    refine v_icmp_ge d_La_nearOf_9 (by omega) (by omega) (fun u9 => ?_) (fun u9 => ?_)
    · refine v_iload2 d_La_nearOf_96 ?_
      exact v_ireturn hM d_La_nearOf_97 (by omega) ⟨rfl, rfl, by rw [hs, show j = (A 0).toNat by omega, near_eq]⟩
    · omega
  | succ n ih =>
    intro j sum i hj hi hs
    obtain ⟨⟨q0, q1, q2, q3, q4, q5, q6, q7⟩, hVi, hWe, hCo, hOf, hBo, hWo, hMo, hRe, hLi, hTa⟩ := id hO
    obtain ⟨⟨l0, l1, lV, lC, lZ, lS⟩, ⟨b0, b1, bO, bB⟩, ⟨w0, wR, wL⟩, ⟨t0, t1, t2, tR, tB⟩, ⟨n9, nW⟩, m0, mM⟩ := id hC
    have hnr := nearC_rng hO set j (by omega)
    refine v_iload3 d_La_nearOf_4 ?_
    refine v_aload0 d_La_nearOf_5 ?_
    refine v_getJ (ji := 1) d_La_nearOf_6 f_La_39 (sh_2 T) rfl rfl (fun g6 => ?_)
    refine v_icmp_ge d_La_nearOf_9 (by omega) (by omega) (fun u9 => ?_) (fun u9 => ?_)
    · omega
    · refine v_iload1 d_La_nearOf_12 ?_
      refine v_iload3 d_La_nearOf_13 ?_
      refine v_ishr d_La_nearOf_14 (bshr h0 (by omega)) ?_
      refine v_iconst d_La_nearOf_15 ?_
      refine v_iand d_La_nearOf_16 (band1 _) ?_
      refine v_if_ne d_La_nearOf_17 (by omega) (fun u17 => ?_) (fun u17 => ?_)
      · refine v_iload3 d_La_nearOf_23 ?_
        refine v_iconst d_La_nearOf_24 ?_
        refine v_iadd d_La_nearOf_25 ?_
        refine v_istore4 d_La_nearOf_26 (by decide) rfl ?_
        have hb1 : bt set i = 1 := by have := bt_rng set i; unfold bt at this ⊢; omega
        exact c_La_nearOf_28 hC hO h0 hM hi (by omega) hb1 hs (fun sum2 hs2 => by
          refine v_iinc3 d_La_nearOf_90 (by decide) rfl ?_
          refine v_goto d_La_nearOf_93 ?_
          exact ih (j + 1) _ _ (by omega) (by omega) hs2) (A 0 - i - 1).toNat (j + 1) _ _ (by omega) (by omega) (by omega) (by rw [sm_zero (j + 1) (fun x y1 y2 => if_neg (by omega))]; omega)
      · refine v_goto d_La_nearOf_20 ?_
        refine v_iinc3 d_La_nearOf_90 (by decide) rfl ?_
        refine v_goto d_La_nearOf_93 ?_
        exact ih (j + 1) _ _ (by omega) (by omega) (by
          rw [hs]
          show _ = nearC A set (A 0).toNat j + sm (fun b => if (j : Int) < b then pairF A set (j : Int) b else 0) (A 0).toNat
          rw [sm_zero (A 0).toNat (fun x y1 y2 => by
            have hb0 : bt set i = 0 := u17
            rw [hi] at hb0
            unfold pairF
            rw [hb0]
            split <;> rfl)]
          omega)

theorem c_La_nearOf {T : vSh} {σ : vMem} {A : Int → Int} (hC : CR σ A) (hO : okA A) {set : Int} (h0 : vIn set) : mt_La_nearOf [.ref 2, .int (iI set)] (S0 ++ T) σ (rF (S0 ++ T) σ (nearF A set)) := by
  refine vMet.intro 3 (by decide +kernel) (Nat.le_of_ble_eq_true rfl) rfl (fun cx hM _ => ?_)
  obtain ⟨⟨q0, q1, q2, q3, q4, q5, q6, q7⟩, hVi, hWe, hCo, hOf, hBo, hWo, hMo, hRe, hLi, hTa⟩ := id hO
  obtain ⟨⟨l0, l1, lV, lC, lZ, lS⟩, ⟨b0, b1, bO, bB⟩, ⟨w0, wR, wL⟩, ⟨t0, t1, t2, tR, tB⟩, ⟨n9, nW⟩, m0, mM⟩ := id hC
  refine v_iconst d_La_nearOf_0 ?_
  refine v_istore2 d_La_nearOf_1 (by decide) rfl ?_
  refine v_iconst d_La_nearOf_2 ?_
  refine v_istore3 d_La_nearOf_3 (by decide) rfl ?_
  exact c_La_nearOf_4 hC hO h0 hM (A 0).toNat 0 _ _ (by omega) rfl rfl

theorem c_V_near {T : vSh} {σ : vMem} {A : Int → Int} (hC : CR σ A) (hO : okA A) {set : Int} (h0 : vIn set) : mt_V_near [.ref 0, .int (iI set)] (S0 ++ T) σ (rF (S0 ++ T) σ (nearF A set)) := by
  refine vMet.intro 0 (by decide +kernel) (Nat.le_of_ble_eq_true rfl) rfl (fun cx hM _ => ?_)
  obtain ⟨⟨q0, q1, q2, q3, q4, q5, q6, q7⟩, hVi, hWe, hCo, hOf, hBo, hWo, hMo, hRe, hLi, hTa⟩ := id hO
  obtain ⟨⟨l0, l1, lV, lC, lZ, lS⟩, ⟨b0, b1, bO, bB⟩, ⟨w0, wR, wL⟩, ⟨t0, t1, t2, tR, tB⟩, ⟨n9, nW⟩, m0, mM⟩ := id hC
  refine v_aload0 d_V_near_0 ?_
  refine v_getR d_V_near_1 f_V_66 (sh_0 T) rfl ?_
  refine v_iload1 d_V_near_4 ?_
  refine v_fVI1 d_V_near_5 l_V_256 k_La_nearOf (c_La_nearOf hC hO (by omega)) (sh_2 T) rfl (by decide) (by decide) (Nat.le_of_ble_eq_true rfl) (Nat.zero_le _) (Nat.zero_le _) (fun g5 => ?_)
  exact v_ireturn hM d_V_near_8 g5 ⟨rfl, rfl, rfl⟩

