theorem c_JArr_fill_5 {cx : vCx} {S : vSh} {σ : vMem} {a n : Nat} {v : Int} (ha : S[a]? = some (.inl (0, n))) (hn : n < 1000) (hv : vIn v) (hM : vM cx 0 0 none (rP S (fun _ σ2 => (∀ k, k ≠ a → σ2 k = σ k) ∧ ∀ i, σ2 a i = if 0 ≤ i ∧ i < (n : Int) then v else σ a i))) : ∀ (m j : Nat) (i : Int) (σ1 : vMem), (j : Int) + m = n → i = j → (∀ k, k ≠ a → σ1 k = σ k) → (∀ i, σ1 a i = if 0 ≤ i ∧ i < (j : Int) then v else σ a i) → vV cx y_JArr_fill.cls prog_20_method_103_code 4 0 0 0 0 0 5 [some (.ref a), some (.int (iI v)), some (.int (iI i)), some (.int (iI (n : Int)))] [] S σ1 := by
  intro m
  induction m with
  | zero =>
    intro j i σ1 hj hi hσ hl
    refine v_iload2 d_JArr_fill_5 ?_
    refine v_iload3 d_JArr_fill_6 ?_
    refine v_icmp_ge d_JArr_fill_7 (by omega) (by omega) (fun u7 => ?_) (fun u7 => ?_)
    · exact v_return hM d_JArr_fill_20 ⟨rfl, hσ, fun x => by rw [hl x, show (j : Int) = n by omega]⟩
    · omega
  | succ m ih =>
    intro j i σ1 hj hi hσ hl
    refine v_iload2 d_JArr_fill_5 ?_
    refine v_iload3 d_JArr_fill_6 ?_
    refine v_icmp_ge d_JArr_fill_7 (by omega) (by omega) (fun u7 => ?_) (fun u7 => ?_)
    · omega
    · refine v_aload0 d_JArr_fill_10 ?_
      refine v_iload2 d_JArr_fill_11 ?_
      refine v_iload1 d_JArr_fill_12 ?_
      refine v_iastore d_JArr_fill_13 ha (by omega) (by omega) ?_
      refine v_iinc2 d_JArr_fill_14 (by decide) rfl ?_
      refine v_goto d_JArr_fill_17 ?_
      exact ih (j + 1) _ _ (by omega) (by omega) (fun k hk => by rw [vUp_ne hk]; exact hσ k hk) (fun x => by
        by_cases q : x = i
        · rw [q, vUp_same, if_pos (by omega)]
        · rw [vUp_ix q, hl x]
          by_cases q2 : 0 ≤ x ∧ x < (j : Int)
          · rw [if_pos q2, if_pos (by omega)]
          · rw [if_neg q2, if_neg (by omega)])

theorem c_JArr_fill {S : vSh} {σ : vMem} {a n : Nat} {v : Int} (ha : S[a]? = some (.inl (0, n))) (hn : n < 1000) (hv : vIn v) : mt_JArr_fill [.ref a, .int (iI v)] S σ (rP S (fun _ σ2 => (∀ k, k ≠ a → σ2 k = σ k) ∧ ∀ i, σ2 a i = if 0 ≤ i ∧ i < (n : Int) then v else σ a i)) := by
  refine vMet.intro 2 (by decide +kernel) (Nat.le_of_ble_eq_true rfl) rfl (fun cx hM _ => ?_)
  refine v_iconst d_JArr_fill_0 ?_
  refine v_istore2 d_JArr_fill_1 (by decide) rfl ?_
  refine v_aload0 d_JArr_fill_2 ?_
  refine v_arraylength d_JArr_fill_3 ha rfl ?_
  refine v_istore3 d_JArr_fill_4 (by decide) rfl ?_
  exact c_JArr_fill_5 ha hn hv hM n 0 _ _ (by omega) rfl (fun k _ => rfl) (fun x => by rw [if_neg (by omega)])

theorem ushr_eq {x : Int} (hx : vIn x) : ((iI x).toUInt32 >>> ((iI 10).toUInt32 &&& Int32.toUInt32 31)).toInt32 = iI (x % 4294967296 / 1024) := by
  apply iI_ext
  have e : ((iI 10).toUInt32 &&& Int32.toUInt32 31) = 10 := by decide +kernel
  rw [e]
  show ((iI x).toBitVec >>> ((10 : UInt32).toBitVec % 32#32)).toNat = _
  rw [show ((10 : UInt32).toBitVec % 32#32) = 10#32 from by decide +kernel, BitVec.ushiftRight_eq', BitVec.toNat_ushiftRight, iI_bvNat, iI_bvNat]
  have h1 := Int.emod_nonneg x (show (4294967296 : Int) ≠ 0 by decide)
  have h2 := Int.emod_lt_of_pos x (show (0 : Int) < 4294967296 by decide)
  rw [show (10#32 : BitVec 32).toNat = 10 from rfl, Nat.shiftRight_eq_div_pow, show 2 ^ 10 = 1024 from rfl]
  omega
theorem pw_mono2 {a b : Int} (ha : 0 ≤ a) (h : a ≤ b) : pw a ≤ pw b := by
  unfold pw
  have e := Nat.pow_le_pow_right (n := 2) (by decide) (show a.toNat ≤ b.toNat by omega)
  have e2 : ((2 ^ a.toNat : Nat) : Int) ≤ ((2 ^ b.toNat : Nat) : Int) := by omega
  rw [Int.natCast_pow, Int.natCast_pow] at e2
  exact e2
theorem bt_hi {set o n : Int} (h0 : 0 ≤ set) (h1 : set < pw n) (hn : 0 ≤ n) (ho : n ≤ o) : bt set o = 0 := by
  have := pw_mono2 hn ho
  unfold bt
  rw [Int.ediv_eq_zero_of_lt h0 (by omega)]
  rfl
theorem set_lo {set : Int} (h0 : 0 ≤ set) {n : Nat} : ∀ m : Nat, set < pw ((n + m : Nat) : Int) → (∀ o : Int, (n : Int) ≤ o → o < ((n + m : Nat) : Int) → bt set o = 0) → set < pw (n : Int)
  | 0, h, _ => h
  | m + 1, h, hb => by
    refine set_lo h0 m ?_ (fun o o1 o2 => hb o o1 (by omega))
    have e : pw ((n + (m + 1) : Nat) : Int) = 2 * pw ((n + m : Nat) : Int) := pw_succ (v := ((n + m : Nat) : Int)) (by omega)
    have hp := pw_pos ((n + m : Nat) : Int)
    have hb0 := hb ((n + m : Nat) : Int) (by omega) (by omega)
    have hd : set / pw ((n + m : Nat) : Int) < 2 := Int.ediv_lt_of_lt_mul hp (by omega)
    have hd0 : 0 ≤ set / pw ((n + m : Nat) : Int) := Int.ediv_nonneg h0 (by omega)
    unfold bt at hb0
    have hz : set / pw ((n + m : Nat) : Int) = 0 := by omega
    have := Int.lt_ediv_add_one_mul_self set hp
    rw [hz] at this
    omega
theorem pcn_hi {set : Int} {n : Nat} : ∀ m : Nat, (∀ o : Int, (n : Int) ≤ o → o < ((n + m : Nat) : Int) → bt set o = 0) → pcn set (n + m) = pcn set n
  | 0, _ => rfl
  | m + 1, h => by
    have e : pcn set (n + (m + 1)) = pcn set (n + m) + bt set ((n + m : Nat) : Int) := rfl
    rw [e, pcn_hi m (fun o o1 o2 => h o o1 (by omega)), h _ (by omega) (by omega)]
    omega
theorem can_ok {A : Int → Int} (hO : okA A) {set : Int} (h0 : 0 ≤ set ∧ set < 1024) (hs : ∀ o : Int, 0 ≤ o → o < 10 → bt set o = 1 → (0 ≤ o ∧ o < A 1) ∧ srvF A o (A 4)) : (1 ≤ pcn set 10 ∧ pcn set 10 ≤ 3) ↔ dlP A set := by
  have q1 := hO.1.2.1
  have hz : ∀ o : Int, A 1 ≤ o → o < 10 → bt set o = 0 := fun o o1 o2 => by
    have hb := bt_rng set o
    by_cases z : bt set o = 1
    · have := (hs o (by omega) o2 z).1; omega
    · omega
  have eN : (A 1).toNat + (10 - (A 1).toNat) = 10 := by omega
  have hlt : set < pw (((A 1).toNat : Nat) : Int) := set_lo h0.1 (10 - (A 1).toNat) (by rw [eN]; exact h0.2) (fun o o1 o2 => hz o (by omega) (by omega))
  have hpc : pcn set 10 = pcn set (A 1).toNat := by
    have := pcn_hi (set := set) (n := (A 1).toNat) (10 - (A 1).toNat) (fun o o1 o2 => hz o (by omega) (by omega))
    rw [eN] at this
    exact this
  rw [show (((A 1).toNat : Nat) : Int) = A 1 by omega] at hlt
  have hok := okN_iff A set (A 1).toNat
  constructor
  · intro h
    refine ⟨⟨?_, hlt⟩, hok.mpr ⟨fun i i1 i2 i3 => (hs i i1 (by omega) i3).2, by omega⟩⟩
    by_cases z : set = 0
    · exfalso
      have : pcn set 10 = 0 := by rw [z]; rfl
      omega
    · omega
  · intro h
    have a : 0 < pcn set (A 1).toNat ∧ pcn set (A 1).toNat ≤ 3 := dP_rng hO h
    omega
theorem c_V_canBeDealtTo_13 {T : vSh} {σ : vMem} {cx : vCx} {A : Int → Int} (hC : CR σ A) (hO : okA A) {set : Int} (h0 : vIn set) (h1 : 0 ≤ set ∧ set < 1024) (hM : vM cx 0 0 (some .boolean) (rF (S0 ++ T) σ (b01 (dlP A set)))) : ∀ (n j : Nat) (m i : Int), (j : Int) + n = 10 → i = j → m = pcn set j → (∀ o : Int, 0 ≤ o → o < ((j : Nat) : Int) → bt set o = 1 → (0 ≤ o ∧ o < A 1) ∧ srvF A o (A 4)) → vV cx y_V_canBeDealtTo.cls prog_1_method_48_code 4 3 0 0 0 0 13 [some (.ref 0), some (.int (iI set)), some (.int (iI m)), some (.int (iI i))] [] (S0 ++ T) σ := by
  intro n
  induction n with
  | zero =>
    intro j m i hj hi hm hs
    obtain ⟨⟨q0, q1, q2, q3, q4, q5, q6, q7⟩, hVi, hWe, hCo, hOf, hBo, hWo, hMo, hRe, hLi, hTa⟩ := id hO
    obtain ⟨⟨l0, l1, lV, lC, lZ, lS⟩, ⟨b0, b1, bO, bB⟩, ⟨w0, wR, wL⟩, ⟨t0, t1, t2, tR, tB⟩, ⟨n9, nW⟩, m0, mM⟩ := id hC
    have hpr := pcn_rng set j
    refine v_iload3 d_V_canBeDealtTo_13 ?_
    refine v_bipush d_V_canBeDealtTo_14 rfl ?_
    refine v_icmp_ge d_V_canBeDealtTo_16 (by omega) (by omega) (fun u16 => ?_) (fun u16 => ?_)
    · refine v_iload2 d_V_canBeDealtTo_46 ?_
      refine v_iconst d_V_canBeDealtTo_47 ?_
      refine v_iconst d_V_canBeDealtTo_48 ?_
      refine v_fSZ3 d_V_canBeDealtTo_49 l_V_82 k_V_isWithin (c_V_isWithin (by omega) (by omega) (by omega)) (by decide) (by decide) (Nat.le_of_ble_eq_true rfl) (Nat.zero_le _) (Nat.zero_le _) (fun g49 => ?_)
      exact v_zreturn hM d_V_canBeDealtTo_52 b01_or ⟨rfl, rfl, b01_congr (by rw [hm, show j = 10 by omega]; exact can_ok hO h1 (fun o o1 o2 => hs o o1 (by omega)))⟩
    · omega
  | succ n ih =>
    intro j m i hj hi hm hs
    obtain ⟨⟨q0, q1, q2, q3, q4, q5, q6, q7⟩, hVi, hWe, hCo, hOf, hBo, hWo, hMo, hRe, hLi, hTa⟩ := id hO
    obtain ⟨⟨l0, l1, lV, lC, lZ, lS⟩, ⟨b0, b1, bO, bB⟩, ⟨w0, wR, wL⟩, ⟨t0, t1, t2, tR, tB⟩, ⟨n9, nW⟩, m0, mM⟩ := id hC
    have hpr := pcn_rng set j
    refine v_iload3 d_V_canBeDealtTo_13 ?_
    refine v_bipush d_V_canBeDealtTo_14 rfl ?_
    refine v_icmp_ge d_V_canBeDealtTo_16 (by omega) (by omega) (fun u16 => ?_) (fun u16 => ?_)
    · omega
    · refine v_iload1 d_V_canBeDealtTo_19 ?_
      refine v_iload3 d_V_canBeDealtTo_20 ?_
      refine v_ishr d_V_canBeDealtTo_21 (bshr h0 (by omega)) ?_
      refine v_iconst d_V_canBeDealtTo_22 ?_
      refine v_iand d_V_canBeDealtTo_23 (band1 _) ?_
      refine v_if_eq d_V_canBeDealtTo_24 (by omega) (fun u24 => ?_) (fun u24 => ?_)
      · refine v_iinc3 d_V_canBeDealtTo_40 (by decide) rfl ?_
        refine v_goto d_V_canBeDealtTo_43 ?_
        have hb0 : bt set (j : Int) = 0 := by rw [← hi]; exact u24
        exact ih (j + 1) _ _ (by omega) (by omega) (by rw [pcn_succ, hb0, ← hm]; omega) (fun o o1 o2 o3 => by
          rcases (show o < (j : Int) ∨ o = j by omega) with z | z
          · exact hs o o1 z o3
          · rw [z] at o3; omega)
      · refine v_aload0 d_V_canBeDealtTo_27 ?_
        refine v_iload3 d_V_canBeDealtTo_28 ?_
        refine v_fVZ1 d_V_canBeDealtTo_29 l_V_249 k_V_servesToday (c_V_servesToday hC hO (by omega)) (sh_0 T) rfl (by decide) (by decide) (Nat.le_of_ble_eq_true rfl) (Nat.zero_le _) (Nat.zero_le _) (fun g29 => ?_)
        refine v_ifb_ne d_V_canBeDealtTo_32 (fun u32 => ?_) (fun u32 => ?_)
        · refine v_iinc2 d_V_canBeDealtTo_37 (by decide) rfl ?_
          refine v_iinc3 d_V_canBeDealtTo_40 (by decide) rfl ?_
          refine v_goto d_V_canBeDealtTo_43 ?_
          have hb1 : bt set (j : Int) = 1 := by have := bt_rng set (j : Int); rw [hi] at u24; unfold bt at this ⊢; omega
          exact ih (j + 1) _ _ (by omega) (by omega) (by rw [pcn_succ, hb1, ← hm]) (fun o o1 o2 o3 => by
            rcases (show o < (j : Int) ∨ o = i by omega) with z | z
            · exact hs o o1 z o3
            · rw [z]; exact u32)
        · refine v_iconst d_V_canBeDealtTo_35 ?_
          have hb1 : bt set i = 1 := by have := bt_rng set i; unfold bt at this ⊢; omega
          exact v_zreturn hM d_V_canBeDealtTo_36 (Or.inl rfl) ⟨rfl, rfl, b01_0 (fun z => by
            by_cases w : i < A 1
            · exact u32 ⟨by omega, ((okN_iff A set (A 1).toNat).mp z.2).1 i (by omega) (by omega) hb1⟩
            · have := bt_hi (o := i) h1.1 z.1.2 (by omega) (by omega); omega)⟩

theorem c_V_canBeDealtTo {T : vSh} {σ : vMem} {A : Int → Int} (hC : CR σ A) (hO : okA A) {set : Int} (h0 : vIn set) : mt_V_canBeDealtTo [.ref 0, .int (iI set)] (S0 ++ T) σ (rF (S0 ++ T) σ (b01 (dlP A set))) := by
  refine vMet.intro 2 (by decide +kernel) (Nat.le_of_ble_eq_true rfl) rfl (fun cx hM _ => ?_)
  obtain ⟨⟨q0, q1, q2, q3, q4, q5, q6, q7⟩, hVi, hWe, hCo, hOf, hBo, hWo, hMo, hRe, hLi, hTa⟩ := id hO
  obtain ⟨⟨l0, l1, lV, lC, lZ, lS⟩, ⟨b0, b1, bO, bB⟩, ⟨w0, wR, wL⟩, ⟨t0, t1, t2, tR, tB⟩, ⟨n9, nW⟩, m0, mM⟩ := id hC
  refine v_iload1 d_V_canBeDealtTo_0 ?_
  refine v_bipush d_V_canBeDealtTo_1 rfl ?_
  refine v_iushr d_V_canBeDealtTo_3 (ushr_eq h0) ?_
  refine v_if_eq d_V_canBeDealtTo_4 (by omega) (fun u4 => ?_) (fun u4 => ?_)
  · refine v_iconst d_V_canBeDealtTo_9 ?_
    refine v_istore2 d_V_canBeDealtTo_10 (by decide) rfl ?_
    refine v_iconst d_V_canBeDealtTo_11 ?_
    refine v_istore3 d_V_canBeDealtTo_12 (by decide) rfl ?_
    exact c_V_canBeDealtTo_13 hC hO h0 (by omega) hM 10 0 _ _ (by omega) rfl rfl (fun o o1 o2 => by omega)
  · refine v_iconst d_V_canBeDealtTo_7 ?_
    exact v_zreturn hM d_V_canBeDealtTo_8 (Or.inl rfl) ⟨rfl, rfl, b01_0 (fun z => by have a := pw_mono2 (a := A 1) (b := 10) (by omega) (by omega); have b : pw 10 = 1024 := rfl; have := z.1; omega)⟩

