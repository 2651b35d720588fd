/-! ===== bits of Int32s by Ints ===== -/
def pw (v : Int) : Int := (2 : Int) ^ v.toNat
theorem pw_pos (v : Int) : 0 < pw v := Int.pow_pos (by decide)
theorem pw_n (n : Nat) : pw (n : Int) = ((2 ^ n : Nat) : Int) := by simp [pw]
theorem pw_succ {v : Int} (h : 0 ≤ v) : pw (v + 1) = 2 * pw v := by
  unfold pw
  rw [show (v + 1).toNat = v.toNat + 1 by omega, Int.pow_succ, Int.mul_comm]
theorem bt_cnt : ∀ n : Nat, n < 32 → ((iI (n : Int) &&& 31).toBitVec.smod 32).toNat = n := by decide +kernel
theorem iI_bv (x : Int) : (iI x).toBitVec = BitVec.ofInt 32 x := rfl
theorem iI_bvNat (x : Int) : (iI x).toBitVec.toNat = (x % 4294967296).toNat := by
  rw [iI_bv, BitVec.toNat_ofInt]
  rfl
theorem iI_ext {a b : Int32} (h : a.toBitVec.toNat = b.toBitVec.toNat) : a = b := Int32.toBitVec_inj.mp (BitVec.eq_of_toNat_eq h)
theorem bshr {x v : Int} (hx : vIn x) (hv : 0 ≤ v ∧ v < 32) : iI x >>> (iI v &&& 31) = iI (x / pw v) := by
  obtain ⟨n, rfl⟩ : ∃ n : Nat, v = (n : Int) := ⟨v.toNat, by omega⟩
  apply Int32.toBitVec_inj.mp
  show BitVec.sshiftRight' (iI x).toBitVec ((iI (n : Int) &&& 31).toBitVec.smod 32) = _
  unfold BitVec.sshiftRight'
  rw [bt_cnt n (by omega), BitVec.sshiftRight_eq]
  have e : (iI x).toBitVec.toInt = x := iI_toInt hx
  rw [e, Int.shiftRight_eq_div_pow, pw_n]
  rfl
theorem band {x : Int} (k : Nat) {m p : Int} (hk : k < 32) (hm : m = p - 1) (hp : p = ((2 ^ k : Nat) : Int)) : iI x &&& iI m = iI (x % p) := by
  subst hm
  subst hp
  apply iI_ext
  rw [Int32.toBitVec_and, BitVec.toNat_and, iI_bvNat, iI_bvNat, iI_bvNat]
  have hpos : 0 < 2 ^ k := Nat.pow_pos (by decide)
  have hle : 2 ^ k ≤ 2 ^ 31 := Nat.pow_le_pow_right (by decide) (by omega)
  have e1 : ((((2 ^ k : Nat) : Int) - 1) % 4294967296).toNat = 2 ^ k - 1 := by
    rw [Int.emod_eq_of_lt (by omega) (by omega)]
    omega
  rw [e1, Nat.and_two_pow_sub_one_eq_mod]
  have h1 := Int.emod_nonneg x (show ((2 ^ k : Nat) : Int) ≠ 0 by omega)
  have h2 := Int.emod_lt_of_pos x (show 0 < ((2 ^ k : Nat) : Int) by omega)
  rw [Int.emod_eq_of_lt (a := x % ((2 ^ k : Nat) : Int)) h1 (by omega)]
  have hd : ((2 ^ k : Nat) : Int) ∣ 4294967296 := by
    have h9 : (2 ^ k : Nat) ∣ 2 ^ 32 := Nat.pow_dvd_pow 2 (by omega)
    rw [show (2 : Nat) ^ 32 = 4294967296 from rfl] at h9
    exact Int.natCast_dvd_natCast.mpr h9
  have h3 : x % 4294967296 % ((2 ^ k : Nat) : Int) = x % ((2 ^ k : Nat) : Int) := Int.emod_emod_of_dvd x hd
  have h4 := Int.emod_nonneg x (show (4294967296 : Int) ≠ 0 by decide)
  have h5 : (((x % 4294967296).toNat % 2 ^ k : Nat) : Int) = x % 4294967296 % ((2 ^ k : Nat) : Int) := by
    rw [Int.natCast_emod, Int.toNat_of_nonneg h4]
  omega
theorem band1 (x : Int) : iI x &&& iI 1 = iI (x % 2) := band 1 (by decide) rfl rfl
theorem band255 (x : Int) : iI x &&& iI 255 = iI (x % 256) := band 8 (by decide) rfl rfl
theorem band63 (x : Int) : iI x &&& iI 63 = iI (x % 64) := band 6 (by decide) rfl rfl
theorem bshl_all : ∀ n : Nat, n < 31 → iI 1 <<< (iI (n : Int) &&& 31) = iI (pw (n : Int)) := by decide +kernel
theorem bshl {v : Int} (hv : 0 ≤ v ∧ v < 31) : iI 1 <<< (iI v &&& 31) = iI (pw v) := by
  obtain ⟨n, rfl⟩ : ∃ n : Nat, v = (n : Int) := ⟨v.toNat, by omega⟩
  exact bshl_all n (by omega)
theorem bor {a v : Int} (hv : 0 ≤ v ∧ v < 30) (ha : 0 ≤ a ∧ a < pw v) : iI a ||| iI (pw v) = iI (a + pw v) := by
  obtain ⟨n, rfl⟩ : ∃ n : Nat, v = (n : Int) := ⟨v.toNat, by omega⟩
  have hle : 2 ^ n ≤ 2 ^ 30 := Nat.pow_le_pow_right (by decide) (by omega)
  rw [pw_n] at ha ⊢
  apply iI_ext
  rw [Int32.toBitVec_or, BitVec.toNat_or, iI_bvNat, iI_bvNat, iI_bvNat, Int.emod_eq_of_lt (by omega) (by omega), Int.emod_eq_of_lt (by omega) (by omega), Int.emod_eq_of_lt (by omega) (by omega)]
  have e := Nat.two_pow_add_eq_or_of_lt (i := n) (a := 1) (b := a.toNat) (by omega)
  rw [Nat.mul_one] at e
  rw [Nat.or_comm, show ((2 ^ n : Nat) : Int).toNat = 2 ^ n by omega, ← e]
  omega
theorem pw_lt : ∀ n : Nat, n < 31 → pw (n : Int) ≤ 1073741824 := by decide +kernel
theorem pw_le {v : Int} (hv : 0 ≤ v ∧ v < 31) : 1 ≤ pw v ∧ pw v ≤ 1073741824 := by
  obtain ⟨n, rfl⟩ : ∃ n : Nat, v = (n : Int) := ⟨v.toNat, by omega⟩
  have := pw_pos (n : Int)
  exact ⟨by omega, pw_lt n (by omega)⟩
/-- numbers by bits: the sum of 2^v for those v < n with q v -/
def bitS (q : Int → Int) : Nat → Int
  | 0 => 0
  | n + 1 => bitS q n + q (n : Int) * pw (n : Int)
theorem bitS_rng (q : Int → Int) (hq : ∀ v, q v = 0 ∨ q v = 1) : ∀ n : Nat, 0 ≤ bitS q n ∧ bitS q n < pw (n : Int)
  | 0 => by simp [bitS, pw]
  | n + 1 => by
    have ih := bitS_rng q hq n
    have e : pw ((n + 1 : Nat) : Int) = 2 * pw (n : Int) := by rw [Int.natCast_add]; exact pw_succ (by omega)
    unfold bitS
    rw [e]
    rcases hq n with h | h <;> rw [h] <;> omega
theorem bitS_get (q : Int → Int) (hq : ∀ v, q v = 0 ∨ q v = 1) : ∀ (n : Nat) (v : Int), 0 ≤ v → v < n → bitS q n / pw v % 2 = q v
  | 0, v, h0, h1 => by omega
  | n + 1, v, h0, h1 => by
    have ih := bitS_get q hq n
    have hr := bitS_rng q hq n
    have hp := pw_pos (n : Int)
    unfold bitS
    by_cases hv : v = n
    · subst hv
      rw [Int.add_mul_ediv_right _ _ (by omega), Int.ediv_eq_zero_of_lt hr.1 hr.2]
      rcases hq n with h | h <;> rw [h] <;> rfl
    · have hlt : v < n := by omega
      obtain ⟨m, hm⟩ : ∃ m : Int, pw (n : Int) = m * 2 * pw v := by
        obtain ⟨k, rfl⟩ : ∃ k : Nat, v = (k : Int) := ⟨v.toNat, by omega⟩
        refine ⟨((2 ^ (n - k - 1) : Nat) : Int), ?_⟩
        rw [pw_n, pw_n]
        have : (2 : Nat) ^ n = 2 ^ (n - k - 1) * 2 * 2 ^ k := by
          rw [← Nat.pow_succ, ← Nat.pow_add]
          congr 1
          omega
        rw [this]
        simp
      have hpv := pw_pos v
      rw [hm, show bitS q n + q (n : Int) * (m * 2 * pw v) = bitS q n + (q (n : Int) * m * 2) * pw v by
        rw [← Int.mul_assoc, ← Int.mul_assoc], Int.add_mul_ediv_right _ _ (by omega), ← ih v h0 hlt, Int.add_mul_emod_self_right]
