theorem law_stop {sb Ln : Nat} {xs : Nat → Int32} {cx : vCx} (hX : vSc sb Ln xs cx) (hLn : Ln ≤ 3072) (hE : ∀ (kc ks : Nat) (S : vSh) (σ : vMem) (L : List (Option Value)), vU sb cx "VillagePayLaw" code 4 14 406970 7881340 kc ks 1524 L [.int (iI 1)] S σ) {kc ks : Nat} {S : vSh} {σ : vMem} {L : List (Option Value)} : vU sb cx "VillagePayLaw" code 4 14 406970 7881340 kc ks 1523 L [] S σ := by
  refine u_iconst d_L_1523 ?_
  exact hE kc ks S σ L
set_option maxRecDepth 100000 in
theorem law_loop {sb Ln : Nat} {xs : Nat → Int32} {cx : vCx} (hX : vSc sb Ln xs cx) (hLn : Ln ≤ 3072) (hE : ∀ (kc ks : Nat) (S : vSh) (σ : vMem) (L : List (Option Value)), vU sb cx "VillagePayLaw" code 4 14 406970 7881340 kc ks 1524 L [.int (iI 1)] S σ) : ∀ (n : Nat) (i : Int) (T : vSh) (σ : vMem) (kc ks : Nat), 0 ≤ i → (Ln : Int) < i + 6 * n → i ≤ Ln + 6 → WI T σ → kc + 43 * n ≤ 406970 → ks + 3199 * n ≤ 7881340 → vU sb cx "VillagePayLaw" code 4 14 406970 7881340 kc ks 18 [none, some (.ref 0), some (.ref 55), some (.int (iI i))] [] (S0 ++ T) σ := by
  intro n
  induction n with
  | zero =>
    intro i T σ kc ks h0 h1 h2 hW hkc hks
    refine u_iload_n (j := 3) d_L_18 rfl ?_
    refine u_slen d_L_19 d_L_20 hX ?_
    refine u_bipush d_L_21 rfl ?_
    refine u_isub d_L_23 ?_
    refine u_icmp_gt d_L_24 (by omega) (by omega) (fun u24 => ?_) (fun u24 => by omega)
    exact law_stop hX hLn hE
  | succ n ih =>
    intro i T σ kc ks h0 h1 h2 hW hkc hks
    refine u_iload_n (j := 3) d_L_18 rfl ?_
    refine u_slen d_L_19 d_L_20 hX ?_
    refine u_bipush d_L_21 rfl ?_
    refine u_isub d_L_23 ?_
    refine u_icmp_gt d_L_24 (by omega) (by omega) (fun u24 => law_stop hX hLn hE) (fun u24 => ?_)
    refine u_sld d_L_27 d_L_28 d_L_29 hX rfl (by omega) (by omega) ?_
    refine u_bipush d_L_30 rfl ?_
    refine u_iand d_L_32 (band63 _) ?_
    have K : ∀ (T' : vSh) (σ' : vMem) (kc' ks' : Nat), WI T' σ' → kc' ≤ kc + 43 → ks' ≤ ks + 3199 → vU sb cx "VillagePayLaw" code 4 14 406970 7881340 kc' ks' 1517 [none, some (.ref 0), some (.ref 55), some (.int (iI i))] [] (S0 ++ T') σ' := fun T' σ' kc' ks' w k1 k2 => by
      refine u_iinc d_L_1517 (by decide) (by decide) rfl rfl rfl ?_
      refine u_goto d_L_1520 ?_
      exact ih (i + 6) T' σ' kc' ks' (by omega) (by omega) (by omega) w (by omega) (by omega)
    have hk1 : kc + 43 ≤ 406970 := by omega
    have hk2 : ks + 3199 ≤ 7881340 := by omega
    have hk3 : kc ≤ kc + 43 := by omega
    have hk4 : ks ≤ ks + 3199 := by omega
    have hi6 : 0 ≤ i ∧ i + 6 ≤ (Ln : Int) := by omega
    rcases (show (vx xs i % 64 < 0 ∨ 36 < vx xs i % 64) ∨ vx xs i % 64 = 0 ∨ vx xs i % 64 = 1 ∨ vx xs i % 64 = 2 ∨ vx xs i % 64 = 3 ∨ vx xs i % 64 = 4 ∨ vx xs i % 64 = 5 ∨ vx xs i % 64 = 6 ∨ vx xs i % 64 = 7 ∨ vx xs i % 64 = 8 ∨ vx xs i % 64 = 9 ∨ vx xs i % 64 = 10 ∨ vx xs i % 64 = 11 ∨ vx xs i % 64 = 12 ∨ vx xs i % 64 = 13 ∨ vx xs i % 64 = 14 ∨ vx xs i % 64 = 15 ∨ vx xs i % 64 = 16 ∨ vx xs i % 64 = 17 ∨ vx xs i % 64 = 18 ∨ vx xs i % 64 = 19 ∨ vx xs i % 64 = 20 ∨ vx xs i % 64 = 21 ∨ vx xs i % 64 = 22 ∨ vx xs i % 64 = 23 ∨ vx xs i % 64 = 24 ∨ vx xs i % 64 = 25 ∨ vx xs i % 64 = 26 ∨ vx xs i % 64 = 27 ∨ vx xs i % 64 = 28 ∨ vx xs i % 64 = 29 ∨ vx xs i % 64 = 30 ∨ vx xs i % 64 = 31 ∨ vx xs i % 64 = 32 ∨ vx xs i % 64 = 33 ∨ vx xs i % 64 = 34 ∨ vx xs i % 64 = 35 ∨ vx xs i % 64 = 36 by omega) with hs | hs | hs | hs | hs | hs | hs | hs | hs | hs | hs | hs | hs | hs | hs | hs | hs | hs | hs | hs | hs | hs | hs | hs | hs | hs | hs | hs | hs | hs | hs | hs | hs | hs | hs | hs | hs | hs
    · refine u_tableOut d_L_33 (by omega) hs (tgt := 1517) rfl ?_
      exact K T σ kc ks hW hk3 hk4
    · refine u_table d_L_33 (by omega) (by omega) (by omega) (off := 163) (tgt := 196) (by rw [hs]; rfl) rfl ?_
      exact law_village hX hLn hi6 hW hk1 hk2 K
    · refine u_table d_L_33 (by omega) (by omega) (by omega) (off := 206) (tgt := 239) (by rw [hs]; rfl) rfl ?_
      exact law_weather hX hLn hi6 hW hk1 hk2 K
    · refine u_table d_L_33 (by omega) (by omega) (by omega) (off := 239) (tgt := 272) (by rw [hs]; rfl) rfl ?_
      exact law_squeeze hX hLn hi6 hW hk1 hk2 K
    · refine u_table d_L_33 (by omega) (by omega) (by omega) (off := 272) (tgt := 305) (by rw [hs]; rfl) rfl ?_
      exact law_days hX hLn hi6 hW hk1 hk2 K
    · refine u_table d_L_33 (by omega) (by omega) (by omega) (off := 295) (tgt := 328) (by rw [hs]; rfl) rfl ?_
      exact law_come hX hLn hi6 hW hk1 hk2 K
    · refine u_table d_L_33 (by omega) (by omega) (by omega) (off := 328) (tgt := 361) (by rw [hs]; rfl) rfl ?_
      exact law_about hX hLn hi6 hW hk1 hk2 K
    · refine u_table d_L_33 (by omega) (by omega) (by omega) (off := 361) (tgt := 394) (by rw [hs]; rfl) rfl ?_
      exact law_officer hX hLn hi6 hW hk1 hk2 K
    · refine u_table d_L_33 (by omega) (by omega) (by omega) (off := 394) (tgt := 427) (by rw [hs]; rfl) rfl ?_
      exact law_dies hX hLn hi6 hW hk1 hk2 K
    · refine u_table d_L_33 (by omega) (by omega) (by omega) (off := 417) (tgt := 450) (by rw [hs]; rfl) rfl ?_
      exact law_give hX hLn hi6 hW hk1 hk2 K
    · refine u_table d_L_33 (by omega) (by omega) (by omega) (off := 460) (tgt := 493) (by rw [hs]; rfl) rfl ?_
      exact law_raise hX hLn hi6 hW hk1 hk2 K
    · refine u_table d_L_33 (by omega) (by omega) (by omega) (off := 503) (tgt := 536) (by rw [hs]; rfl) rfl ?_
      exact law_order hX hLn hi6 hW hk1 hk2 K
    · refine u_table d_L_33 (by omega) (by omega) (by omega) (off := 536) (tgt := 569) (by rw [hs]; rfl) rfl ?_
      exact law_holder hX hLn hi6 hW hk1 hk2 K
    · refine u_table d_L_33 (by omega) (by omega) (by omega) (off := 579) (tgt := 612) (by rw [hs]; rfl) rfl ?_
      exact law_rank hX hLn hi6 hW hk1 hk2 K
    · refine u_table d_L_33 (by omega) (by omega) (by omega) (off := 622) (tgt := 655) (by rw [hs]; rfl) rfl ?_
      exact law_had hX hLn hi6 hW hk1 hk2 K
    · refine u_table d_L_33 (by omega) (by omega) (by omega) (off := 665) (tgt := 698) (by rw [hs]; rfl) rfl ?_
      exact law_feed hX hLn hi6 hW hk1 hk2 K
    · refine u_table d_L_33 (by omega) (by omega) (by omega) (off := 728) (tgt := 761) (by rw [hs]; rfl) rfl ?_
      exact law_end hX hLn hi6 hW hk1 hk2 K
    · refine u_table d_L_33 (by omega) (by omega) (by omega) (off := 751) (tgt := 784) (by rw [hs]; rfl) rfl ?_
      exact law_reign hX hLn hi6 hW hk1 hk2 K
    · refine u_table d_L_33 (by omega) (by omega) (by omega) (off := 774) (tgt := 807) (by rw [hs]; rfl) rfl ?_
      exact law_fault hX hLn hi6 hW hk1 hk2 K
    · refine u_table d_L_33 (by omega) (by omega) (by omega) (off := 797) (tgt := 830) (by rw [hs]; rfl) rfl ?_
      exact law_scale hX hLn hi6 hW hk1 hk2 K
    · refine u_table d_L_33 (by omega) (by omega) (by omega) (off := 850) (tgt := 883) (by rw [hs]; rfl) rfl ?_
      exact law_due hX hLn hi6 hW hk1 hk2 K
    · refine u_table d_L_33 (by omega) (by omega) (by omega) (off := 893) (tgt := 926) (by rw [hs]; rfl) rfl ?_
      exact law_balance hX hLn hi6 hW hk1 hk2 K
    · refine u_table d_L_33 (by omega) (by omega) (by omega) (off := 936) (tgt := 969) (by rw [hs]; rfl) rfl ?_
      exact law_fit hX hLn hi6 hW hk1 hk2 K
    · refine u_table d_L_33 (by omega) (by omega) (by omega) (off := 969) (tgt := 1002) (by rw [hs]; rfl) rfl ?_
      exact law_near hX hLn hi6 hW hk1 hk2 K
    · refine u_table d_L_33 (by omega) (by omega) (by omega) (off := 992) (tgt := 1025) (by rw [hs]; rfl) rfl ?_
      exact law_deal hX hLn hi6 hW hk1 hk2 K
    · refine u_table d_L_33 (by omega) (by omega) (by omega) (off := 1041) (tgt := 1074) (by rw [hs]; rfl) rfl ?_
      exact law_dealt hX hLn hi6 hW hk1 hk2 K
    · refine u_table d_L_33 (by omega) (by omega) (by omega) (off := 1100) (tgt := 1133) (by rw [hs]; rfl) rfl ?_
      exact law_move hX hLn hi6 hW hk1 hk2 K
    · refine u_table d_L_33 (by omega) (by omega) (by omega) (off := 1133) (tgt := 1166) (by rw [hs]; rfl) rfl ?_
      exact law_stay hX hLn hi6 hW hk1 hk2 K
    · refine u_table d_L_33 (by omega) (by omega) (by omega) (off := 1144) (tgt := 1177) (by rw [hs]; rfl) rfl ?_
      exact law_idle hX hLn hi6 hW hk1 hk2 K
    · refine u_table d_L_33 (by omega) (by omega) (by omega) (off := 1157) (tgt := 1190) (by rw [hs]; rfl) rfl ?_
      exact law_moved hX hLn hi6 hW hk1 hk2 K
    · refine u_table d_L_33 (by omega) (by omega) (by omega) (off := 1180) (tgt := 1213) (by rw [hs]; rfl) rfl ?_
      exact law_say hX hLn hi6 hW hk1 hk2 K
    · refine u_table d_L_33 (by omega) (by omega) (by omega) (off := 1233) (tgt := 1266) (by rw [hs]; rfl) rfl ?_
      exact law_trust hX hLn hi6 hW hk1 hk2 K
    · refine u_table d_L_33 (by omega) (by omega) (by omega) (off := 1266) (tgt := 1299) (by rw [hs]; rfl) rfl ?_
      exact law_weighed hX hLn hi6 hW hk1 hk2 K
    · refine u_table d_L_33 (by omega) (by omega) (by omega) (off := 1309) (tgt := 1342) (by rw [hs]; rfl) rfl ?_
      exact law_famine hX hLn hi6 hW hk1 hk2 K
    · refine u_table d_L_33 (by omega) (by omega) (by omega) (off := 1352) (tgt := 1385) (by rw [hs]; rfl) rfl ?_
      exact law_tried hX hLn hi6 hW hk1 hk2 K
    · refine u_table d_L_33 (by omega) (by omega) (by omega) (off := 1415) (tgt := 1448) (by rw [hs]; rfl) rfl ?_
      exact law_count hX hLn hi6 hW hk1 hk2 K
    · refine u_table d_L_33 (by omega) (by omega) (by omega) (off := 1438) (tgt := 1471) (by rw [hs]; rfl) rfl ?_
      exact law_image hX hLn hi6 hW hk1 hk2 K
    · refine u_table d_L_33 (by omega) (by omega) (by omega) (off := 1461) (tgt := 1494) (by rw [hs]; rfl) rfl ?_
      exact law_again hX hLn hi6 hW hk1 hk2 K
theorem law_body {sb Ln : Nat} {xs : Nat → Int32} {cx : vCx} (hX : vSc sb Ln xs cx) (hLn : Ln ≤ 3072) (hE : ∀ (kc ks : Nat) (S : vSh) (σ : vMem) (L : List (Option Value)), vU sb cx "VillagePayLaw" code 4 14 406970 7881340 kc ks 1524 L [.int (iI 1)] S σ) : vU sb cx "VillagePayLaw" code 4 14 406970 7881340 0 0 0 [none, none, none, none] [] [] (fun _ _ => 0) := by
  refine u_new d_L_0 nw_L_7 (Nat.le_of_ble_eq_true rfl) (Nat.le_of_ble_eq_true rfl) ?_
  refine u_dup d_L_3 rfl ?_
  refine u_callI (as := []) d_L_4 l_L_9 k_V_init (c_V_init (P := []) (B := 0) rfl) rfl (by decide) (by decide) (Nat.le_of_ble_eq_true rfl) (Nat.le_of_ble_eq_true rfl) (Nat.le_of_ble_eq_true rfl) (fun z4 S4 s4 e4 => ?_)
  obtain ⟨rfl, e4⟩ := e4
  refine u_astore_n (j := 1) d_L_7 (by decide) (by decide) rfl rfl ?_
  refine u_new d_L_8 nw_L_10 (Nat.le_of_ble_eq_true rfl) (Nat.le_of_ble_eq_true rfl) ?_
  refine u_dup d_L_11 rfl ?_
  refine u_callI (as := []) d_L_12 l_L_12 k_M_init (c_M_init (P := [] ++ vS9 0) (B := 55) rfl) rfl (by decide) (by decide) (Nat.le_of_ble_eq_true rfl) (Nat.le_of_ble_eq_true rfl) (Nat.le_of_ble_eq_true rfl) (fun z12 S12 s12 e12 => ?_)
  obtain ⟨rfl, e12⟩ := e12
  rw [S0_eq, ← List.append_nil S0]
  refine u_astore_n (j := 2) d_L_15 (by decide) (by decide) rfl rfl ?_
  refine u_iconst d_L_16 ?_
  refine u_istore_n (j := 3) d_L_17 (by decide) (by decide) rfl rfl ?_
  have fr : ∀ k, k < 55 → s12 k = s4 k := fun k hk => (e12.1 k hk).trans (vZ_ne (by show k ≠ 55; omega))
  obtain ⟨-, z2, z8, z9, z10, z20, z30, z33, z31, z32, z38, z44⟩ := e4
  refine law_loop hX hLn hE 513 0 [] s12 _ _ (by omega) (by omega) (by omega) (WI_0 e12.2.1 (CR_A0 ?_ ?_ ?_ ?_ ?_ ?_ ?_ ?_ ?_ ?_) ?_ e12.2.2) (Nat.le_of_ble_eq_true rfl) (Nat.le_of_ble_eq_true rfl)
  · intro i; rw [fr 2 (by decide)]; exact z2 i
  · intro i; rw [fr 8 (by decide)]; exact z8 i
  · intro i i1 i2; rw [fr 9 (by decide)]; exact z9 i i1 i2
  · intro i; rw [fr 10 (by decide)]; exact z10 i
  · intro i; rw [fr 20 (by decide)]; exact z20 i
  · intro i hi; rw [fr 30 (by decide)]; exact z30 i hi
  · rw [fr 30 (by decide)]; exact z33
  · intro i; rw [fr 31 (by decide)]; exact z31 i
  · intro i; rw [fr 32 (by decide)]; exact z32 i
  · intro i; rw [fr 38 (by decide)]; exact z38 i
  · intro i; rw [fr 44 (by decide)]; exact z44 i

