theorem or_tab : ∀ a : Fin 128, ∀ v : Fin 7, iI (a.val : Int) ||| iI (pw (v.val : Int)) = iI ((a.val ||| 2 ^ v.val : Nat) : Int) := by decide +kernel
theorem or_bits : ∀ a : Fin 128, ∀ v : Fin 7, ∀ k : Fin 7, (a.val ||| 2 ^ v.val) / 2 ^ k.val % 2 = if k = v then 1 else a.val / 2 ^ k.val % 2 := by decide +kernel
theorem or_lt : ∀ a : Fin 128, ∀ v : Fin 7, (a.val ||| 2 ^ v.val) < 128 := by decide +kernel
def orI (a v : Int) : Int := ((a.toNat ||| 2 ^ v.toNat : Nat) : Int)
theorem orI_eq {a v : Int} (ha : 0 ≤ a ∧ a < 128) (hv : 0 ≤ v ∧ v < 7) : iI a ||| iI (pw v) = iI (orI a v) := by
  have h := or_tab ⟨a.toNat, by omega⟩ ⟨v.toNat, by omega⟩
  dsimp only at h
  rw [show ((a.toNat : Nat) : Int) = a by omega, show ((v.toNat : Nat) : Int) = v by omega] at h
  exact h
theorem orI_rng {a v : Int} (ha : 0 ≤ a ∧ a < 128) (hv : 0 ≤ v ∧ v < 7) : 0 ≤ orI a v ∧ orI a v < 128 := by
  have h := or_lt ⟨a.toNat, by omega⟩ ⟨v.toNat, by omega⟩
  dsimp only at h
  unfold orI
  omega
theorem bt_nat {a k : Int} (ha : 0 ≤ a) (hk : 0 ≤ k) : bt a k = ((a.toNat / 2 ^ k.toNat % 2 : Nat) : Int) := by
  unfold bt pw
  rw [Int.natCast_emod, Int.natCast_ediv, Int.natCast_pow, Int.toNat_of_nonneg ha]
  rfl
theorem orI_bt {a v k : Int} (ha : 0 ≤ a ∧ a < 128) (hv : 0 ≤ v ∧ v < 7) (hk : 0 ≤ k ∧ k < 7) : bt (orI a v) k = if k = v then 1 else bt a k := by
  have h := or_bits ⟨a.toNat, by omega⟩ ⟨v.toNat, by omega⟩ ⟨k.toNat, by omega⟩
  have hr := orI_rng ha hv
  rw [bt_nat hr.1 hk.1, bt_nat ha.1 hk.1]
  unfold orI
  rw [Int.toNat_natCast]
  dsimp only at h
  rw [h]
  by_cases q : k = v
  · subst q; simp
  · rw [if_neg q, if_neg (fun z => q (by have := congrArg Fin.val z; dsimp only at this; omega))]
theorem pcn_zero : ∀ (n : Nat) (set : Int), 0 ≤ set → set < pw (n : Int) → pcn set n = 0 → set = 0
  | 0, set, h1, h2, _ => by have e : pw ((0 : Nat) : Int) = 1 := rfl; omega
  | n + 1, set, h1, h2, h3 => by
    have hc := pcn_rng set n
    have hb := bt_rng set n
    rw [pcn_succ] at h3
    have e : pw ((n + 1 : Nat) : Int) = 2 * pw (n : Int) := pw_succ (v := (n : Int)) (by omega)
    have hp := pw_pos (n : Int)
    have hd : set / pw (n : Int) < 2 := Int.ediv_lt_of_lt_mul hp (by omega)
    have hd0 : 0 ≤ set / pw (n : Int) := Int.ediv_nonneg h1 (by omega)
    have hb0 : set / pw (n : Int) % 2 = 0 := by unfold bt at hb h3; omega
    have hz : set / pw (n : Int) = 0 := by omega
    have hlt : set < pw (n : Int) := by
      have := Int.lt_ediv_add_one_mul_self set hp
      rw [hz] at this
      omega
    exact pcn_zero n set h1 hlt (by omega)
theorem dP_rng {A : Int → Int} (hO : okA A) {set : Int} (h : dlP A set) : 0 < dP A set ∧ dP A set ≤ 3 := by
  have h1 := hO.1.2.1
  have h2 := ((okN_iff A set (A 1).toNat).mp h.2).2
  have h3 := pcn_rng set (A 1).toNat
  have h4 := pcn_zero (A 1).toNat set (by omega) (by rw [show (((A 1).toNat : Nat) : Int) = A 1 by omega]; exact h.1.2)
  refine ⟨?_, h2⟩
  by_cases q : pcn set (A 1).toNat = 0
  · have := h4 q; have := h.1; omega
  · show 0 < pcn set (A 1).toNat; omega
theorem dL_rng (A : Int → Int) : 0 ≤ dL A ∧ dL A ≤ 7 := by have := ltN_rng A (A 0).toNat; exact ⟨this.1, this.2.1⟩
abbrev bstF (A : Int → Int) (set : Int) (ch : Int → Int) (k : Int) : Int := if ch k = -1 ∨ ch k = dP A set then 10 else dWho A set (ch k)
def DeM (σ : vMem) (A : Int → Int) (set : Int) (ch : Int → Int) : Prop := σ 55 21 = dL A ∧ ∀ k, 0 ≤ k → k < dL A → σ 62 k = dLot A k ∧ σ 67 k = bstF A set ch k
def RuM (σ : vMem) (A : Int → Int) (set : Int) (st : RuT) (dn : Int) : Prop := (σ 55 21 = dL A ∧ σ 55 22 = dP A set) ∧ (∀ i, 0 ≤ i → i < dP A set → σ 63 i = dWho A set i ∧ σ 64 i = dDue A set i ∧ σ 65 i = dDue A set i - st.2 i) ∧ (∀ k, 0 ≤ k → k < dL A → σ 62 k = dLot A k ∧ σ 67 k = bstF A set st.1 k) ∧ (0 ≤ dn ∧ dn < 128) ∧ ∀ k, 0 ≤ k → k < dL A → bt dn k = b01 (st.1 k ≠ -1)
theorem far_lk (a b : Int) : farI (a - b) a = vAb b := by unfold farI vAb; split <;> split <;> omega
theorem Ru_bits {A : Int → Int} {ch : Int → Int} {dn nx v : Int} (hd : 0 ≤ dn ∧ dn < 128) (rb : ∀ k, 0 ≤ k → k < dL A → bt dn k = b01 (ch k ≠ -1)) (hn : 0 ≤ nx ∧ nx < dL A) (hv : v ≠ -1) : ∀ k, 0 ≤ k → k < dL A → bt (orI dn nx) k = b01 (upF ch nx v k ≠ -1) := by
  have hL := dL_rng A
  intro k k1 k2
  rw [orI_bt hd (by omega) (by omega)]
  unfold upF
  by_cases q : k = nx
  · rw [if_pos q]
    exact b01_1 (by rw [if_pos q]; exact hv)
  · rw [if_neg q, rb k k1 k2]
    exact b01_congr (by rw [if_neg q])
theorem RuM_none {σ : vMem} {A : Int → Int} {set : Int} (hP : 0 < dP A set ∧ dP A set ≤ 3) {st : RuT} {dn nx : Int} (hR : RuM σ A set st dn) (hn : 0 ≤ nx ∧ nx < dL A) (hc : st.1 nx = -1) : RuM σ A set (upF st.1 nx (dP A set), st.2) (orI dn nx) := by
  have hL := dL_rng A
  obtain ⟨r1, rP, rK, rd, rb⟩ := hR
  refine ⟨r1, rP, fun k k1 k2 => ⟨(rK k k1 k2).1, ?_⟩, orI_rng rd (by omega), Ru_bits rd rb hn (by omega)⟩
  rw [(rK k k1 k2).2]
  unfold bstF upF
  by_cases q : k = nx
  · subst q
    rw [if_pos (Or.inl hc)]
    simp
  · simp only [if_neg q]
theorem RuM_give {σ : vMem} {A : Int → Int} {set : Int} {st : RuT} {dn nx who x pa : Int} (hR : RuM σ A set st dn) (hn : 0 ≤ nx ∧ nx < dL A) (hw : 0 ≤ who ∧ who < dP A set) (hx : x = dWho A set who) : RuM (vUp (vUp σ 65 who (σ 65 who + pa)) 67 nx x) A set (upF st.1 nx who, upF st.2 who (st.2 who - pa)) (orI dn nx) := by
  have hL := dL_rng A
  obtain ⟨r1, rP, rK, rd, rb⟩ := hR
  refine ⟨⟨by rw [vUp_ne (by decide), vUp_ne (by decide)]; exact r1.1, by rw [vUp_ne (by decide), vUp_ne (by decide)]; exact r1.2⟩, fun i i1 i2 => ?_, fun k k1 k2 => ?_, orI_rng rd (by omega), Ru_bits rd rb hn (by omega)⟩
  · have a := rP i i1 i2
    refine ⟨by rw [vUp_ne (by decide), vUp_ne (by decide)]; exact a.1, by rw [vUp_ne (by decide), vUp_ne (by decide)]; exact a.2.1, ?_⟩
    rw [vUp_ne (by decide)]
    unfold upF
    by_cases q : i = who
    · subst q
      rw [vUp_same]
      simp only [if_pos]
      omega
    · rw [vUp_ix q]
      simp only [if_neg q]
      exact a.2.2
  · have a := rK k k1 k2
    refine ⟨by rw [vUp_ne (by decide), vUp_ne (by decide)]; exact a.1, ?_⟩
    unfold bstF upF
    by_cases q : k = nx
    · subst q
      rw [vUp_same]
      simp only [if_true]
      rw [if_neg (by omega), hx]
    · rw [vUp_ix q, vUp_ne (by decide)]
      simp only [if_neg q]
      exact a.2
