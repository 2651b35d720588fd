/-! ===== subsets ===== -/
theorem bv_sub (a b : BitVec 32) : a &&& (b ^^^ BitVec.allOnes 32) = 0#32 ↔ a &&& b = a := by
  rw [BitVec.xor_allOnes]
  constructor
  · intro h
    apply BitVec.eq_of_getLsbD_eq
    intro i hi
    have h2 := congrArg (fun z => z.getLsbD i) h
    simp [hi] at h2 ⊢
    exact h2
  · intro h
    apply BitVec.eq_of_getLsbD_eq
    intro i hi
    have h2 := congrArg (fun z => z.getLsbD i) h
    simp [hi] at h2 ⊢
    exact h2
def xorI (a b : Int) : Int := (iI a ^^^ iI b).toInt
theorem xorI_eq (a b : Int) : iI a ^^^ iI b = iI (xorI a b) := (iI_back _).symm
theorem xorI_in (a b : Int) : vIn (xorI a b) := toInt_in _
theorem and_xor {a b : Int} (ha : vIn a) : andI a (xorI b (-1)) = 0 ↔ andI a b = a := by
  have e1 : iI (xorI b (-1)) = iI b ^^^ iI (-1) := (xorI_eq b (-1)).symm
  have key : (iI a &&& (iI b ^^^ iI (-1))) = 0 ↔ (iI a &&& iI b) = iI a := by
    rw [← Int32.toBitVec_inj, ← Int32.toBitVec_inj]
    exact bv_sub (iI a).toBitVec (iI b).toBitVec
  unfold andI
  rw [e1]
  constructor
  · intro h
    have h2 : (iI a &&& (iI b ^^^ iI (-1))) = 0 := by rw [← iI_back (iI a &&& (iI b ^^^ iI (-1))), h]; rfl
    rw [key.mp h2, iI_toInt ha]
  · intro h
    have h2 : (iI a &&& iI b) = iI a := by rw [← iI_back (iI a &&& iI b), h]
    rw [key.mpr h2]
    rfl
theorem andI_le {a b : Int} (ha : 0 ≤ a ∧ a ≤ 2147483647) (hb : 0 ≤ b ∧ b ≤ 2147483647) (h : andI a b = a) : a ≤ b := by
  have h2 : (iI a &&& iI b) = iI a := by rw [← iI_back (iI a &&& iI b)]; exact congrArg iI h
  have h3 : (iI a).toBitVec.toNat &&& (iI b).toBitVec.toNat = (iI a).toBitVec.toNat := by rw [← BitVec.toNat_and, ← Int32.toBitVec_and, h2]
  have h4 : (iI a).toBitVec.toNat ≤ (iI b).toBitVec.toNat := by rw [← h3]; exact Nat.and_le_right
  rw [iI_bvNat, iI_bvNat, Int.emod_eq_of_lt (by omega) (by omega), Int.emod_eq_of_lt (by omega) (by omega)] at h4
  omega
theorem fitS_rest (A : Int → Int) {may : Int} (due e : Int) (hm : 0 ≤ may ∧ may ≤ 4096) {m : Nat} (h : (m : Int) = may) : ∀ n : Nat, m ≤ n → n < 5000 → fitS A may due e n = fitS A may due e m := by
  intro n hn h5
  induction n with
  | zero => rw [show m = 0 by omega]
  | succ n ih =>
    by_cases q : m = n + 1
    · rw [← q]
    · rw [fitS, if_neg (fun z => by have := andI_le (a := (n : Int) + 1) (b := may) (by omega) (by omega) z.1; omega)]
      exact ih (by omega) (by omega)
