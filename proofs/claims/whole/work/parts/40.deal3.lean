/-! ===== the best of all ways ===== -/
def lkB (A : Int → Int) (set : Int) (ch : Int → Int) (i : Int) : Int := dDue A set i - sm (fun k => if ch k = i then dPa A k else 0) (dL A).toNat
def gpB (A : Int → Int) (set : Int) (ch : Int → Int) : Int := gapF A set (fun i => lkB A set ch i) (dP A set).toNat
theorem lkB_sm {A : Int → Int} (hO : okA A) (ch : Int → Int) (i : Int) (n : Nat) (hn : (n : Int) ≤ dL A) : 0 ≤ sm (fun k => if ch k = i then dPa A k else 0) n ∧ sm (fun k => if ch k = i then dPa A k else 0) n ≤ 9999 * n := sm_rng n (fun k k1 k2 => by
  have := dPa_rng hO (k := k) (by omega)
  split <;> omega)
theorem lkB_rng {A : Int → Int} (hO : okA A) (set : Int) (ch : Int → Int) (i : Int) : -69993 ≤ lkB A set ch i ∧ lkB A set ch i ≤ 159984 := by
  have hL := dL_rng A
  have h1 := lkB_sm hO ch i (dL A).toNat (by omega)
  have h2 := dDue_rng hO set i
  unfold lkB
  omega
theorem vAb_rng {x m : Int} (h : -m ≤ x ∧ x ≤ m) : 0 ≤ vAb x ∧ vAb x ≤ m := by unfold vAb; split <;> omega
theorem gapF_rng {A : Int → Int} {set : Int} {lk : Int → Int} (n : Nat) (h : ∀ i : Int, 0 ≤ i → i < n → -160000 ≤ lk i ∧ lk i ≤ 160000) : 0 ≤ gapF A set lk n ∧ gapF A set lk n ≤ 160000 * n := sm_rng n (fun i i1 i2 => vAb_rng (by have := h i i1 i2; omega))
theorem gpB_rng {A : Int → Int} (hO : okA A) {set : Int} (h1 : dlP A set) (ch : Int → Int) : 0 ≤ gpB A set ch ∧ gpB A set ch ≤ 480000 := by
  have hP := dP_rng hO h1
  have := gapF_rng (A := A) (set := set) (lk := fun i => lkB A set ch i) (dP A set).toNat (fun i _ _ => by have := lkB_rng hO set ch i; omega)
  unfold gpB
  omega
theorem lkB_up {A : Int → Int} (set : Int) {ch : Int → Int} {k x : Int} (hk : 0 ≤ k ∧ k < dL A) (i : Int) : lkB A set (upF ch k x) i = lkB A set ch i + (if ch k = i then dPa A k else 0) - (if x = i then dPa A k else 0) := by
  unfold lkB
  have e : sm (fun j => if upF ch k x j = i then dPa A j else 0) (dL A).toNat = sm (upF (fun j => if ch j = i then dPa A j else 0) k (if x = i then dPa A k else 0)) (dL A).toNat := sm_congr _ (fun j _ _ => by
    unfold upF
    by_cases q : j = k
    · subst q; simp
    · simp only [if_neg q])
  rw [e, sm_up hk.1, if_pos (by omega)]
  omega
theorem lkB_congr {A : Int → Int} (set : Int) {c d : Int → Int} (h : ∀ k, 0 ≤ k → k < dL A → c k = d k) (i : Int) : lkB A set c i = lkB A set d i := by
  unfold lkB
  rw [sm_congr (g := fun k => if d k = i then dPa A k else 0) _ (fun k k1 k2 => by rw [h k k1 (by omega)])]
def odF (P : Int) : Nat → (Int → Int) → (Int → Int) × Int
  | 0, ch => (ch, 0)
  | n + 1, ch => if ch (n : Int) < P then (upF ch (n : Int) (ch (n : Int) + 1), 1) else odF P n (upF ch (n : Int) 0)
def vlF (P : Int) (ch : Int → Int) : Nat → Int
  | 0 => 0
  | n + 1 => vlF P ch n * (P + 1) + ch (n : Int)
def twF (P : Int) : Nat → Int
  | 0 => 1
  | n + 1 => twF P n * (P + 1)
theorem twF_pos {P : Int} (hP : 0 ≤ P) : ∀ n : Nat, 1 ≤ twF P n
  | 0 => Int.le_refl 1
  | n + 1 => by
    have h := twF_pos hP n
    unfold twF
    have := Int.mul_le_mul h (show 1 ≤ P + 1 by omega) (by decide) (by omega)
    omega
theorem vlF_congr {P : Int} {c d : Int → Int} : ∀ n : Nat, (∀ k : Int, 0 ≤ k → k < n → c k = d k) → vlF P c n = vlF P d n
  | 0, _ => rfl
  | n + 1, h => by rw [vlF, vlF, vlF_congr n (fun k h1 h2 => h k h1 (by omega)), h n (by omega) (by omega)]
theorem odF_off (P : Int) : ∀ (n : Nat) (ch : Int → Int) (k : Int), (n : Int) ≤ k → (odF P n ch).1 k = ch k
  | 0, _, _, _ => rfl
  | n + 1, ch, k, h => by
    unfold odF
    split
    · exact upF_n (by omega)
    · rw [odF_off P n _ k (by omega), upF_n (by omega)]
theorem odF_rng (P : Int) (hP : 0 ≤ P) : ∀ (n : Nat) (ch : Int → Int), (∀ k : Int, 0 ≤ k → k < n → 0 ≤ ch k ∧ ch k ≤ P) → (∀ k : Int, 0 ≤ k → k < n → 0 ≤ (odF P n ch).1 k ∧ (odF P n ch).1 k ≤ P) ∧ ((odF P n ch).2 = 0 ∨ (odF P n ch).2 = 1)
  | 0, _, h => ⟨h, Or.inl rfl⟩
  | n + 1, ch, h => by
    unfold odF
    have hn := h n (by omega) (by omega)
    by_cases q : ch (n : Int) < P
    · rw [if_pos q]
      refine ⟨fun k k1 k2 => ?_, Or.inr rfl⟩
      dsimp only
      unfold upF
      split
      · omega
      · exact h k k1 k2
    · rw [if_neg q]
      have ih := odF_rng P hP n (upF ch (n : Int) 0) (fun k k1 k2 => by rw [upF_n (by omega)]; exact h k k1 (by omega))
      refine ⟨fun k k1 k2 => ?_, ih.2⟩
      by_cases z : k < (n : Int)
      · exact ih.1 k k1 z
      · rw [odF_off P n _ k (by omega), show k = (n : Int) by omega, upF_s]; omega
theorem vlF_rng {P : Int} (hP : 0 ≤ P) : ∀ (n : Nat) (ch : Int → Int), (∀ k : Int, 0 ≤ k → k < n → 0 ≤ ch k ∧ ch k ≤ P) → 0 ≤ vlF P ch n ∧ vlF P ch n < twF P n
  | 0, _, _ => by simp [vlF, twF]
  | n + 1, ch, h => by
    have ih := vlF_rng hP n ch (fun k k1 k2 => h k k1 (by omega))
    have hn := h n (by omega) (by omega)
    unfold vlF twF
    have h1 : 0 ≤ vlF P ch n * (P + 1) := Int.mul_nonneg ih.1 (by omega)
    have h2 : (vlF P ch n + 1) * (P + 1) ≤ twF P n * (P + 1) := Int.mul_le_mul_of_nonneg_right (by omega) (by omega)
    rw [Int.add_mul] at h2
    omega
theorem odF_val {P : Int} (hP : 0 ≤ P) : ∀ (n : Nat) (ch : Int → Int), (∀ k : Int, 0 ≤ k → k < n → 0 ≤ ch k ∧ ch k ≤ P) → ((odF P n ch).2 = 1 → vlF P (odF P n ch).1 n = vlF P ch n + 1) ∧ ((odF P n ch).2 = 0 → vlF P ch n + 1 = twF P n)
  | 0, _, _ => ⟨fun h => by simp [odF] at h, fun _ => rfl⟩
  | n + 1, ch, h => by
    have hn := h n (by omega) (by omega)
    unfold odF
    by_cases q : ch (n : Int) < P
    · rw [if_pos q]
      refine ⟨fun _ => ?_, fun z => by simp at z⟩
      dsimp only
      rw [vlF, vlF, upF_s, vlF_congr (d := ch) n (fun k k1 k2 => upF_n (by omega))]
      omega
    · rw [if_neg q]
      have ih := odF_val hP n (upF ch (n : Int) 0) (fun k k1 k2 => by rw [upF_n (by omega)]; exact h k k1 (by omega))
      have ev : vlF P (upF ch (n : Int) 0) n = vlF P ch n := vlF_congr n (fun k k1 k2 => upF_n (by omega))
      rw [ev] at ih
      refine ⟨fun z => ?_, fun z => ?_⟩
      · rw [vlF, vlF, ih.1 z, odF_off P n _ n (by omega), upF_s, Int.add_mul]
        omega
      · rw [vlF, twF, ← ih.2 z, Int.add_mul]
        omega
theorem twF_le {P : Int} (hP : 0 ≤ P ∧ P ≤ 3) : ∀ n : Nat, twF P n ≤ twF 3 n
  | 0 => Int.le_refl 1
  | n + 1 => by
    have ih := twF_le hP n
    unfold twF
    exact Int.mul_le_mul ih (by omega) (by omega) (by have := twF_pos (P := 3) (by decide) n; omega)
theorem twF_3 : ∀ n : Nat, n ≤ 7 → twF 3 n ≤ 16384 := by decide +kernel
theorem twF_most {A : Int → Int} (hO : okA A) {set : Int} (h1 : dlP A set) : twF (dP A set) (dL A).toNat ≤ 16384 := by
  have hP := dP_rng hO h1
  have hL := dL_rng A
  have a := twF_le (P := dP A set) (by omega) (dL A).toNat
  have b := twF_3 (dL A).toNat (by omega)
  omega
/-- the least gap, the way of it -/
abbrev BsT : Type := Int × (Int → Int)
def bsK (A : Int → Int) (set : Int) (ch : Int → Int) (b : BsT) : BsT := if b.1 < 0 ∨ gpB A set ch < b.1 then (gpB A set ch, ch) else b
def bsR (A : Int → Int) (set : Int) : Nat → (Int → Int) → BsT → BsT
  | 0, _, b => b
  | f + 1, ch, b => if (odF (dP A set) (dL A).toNat ch).2 = 1 then bsR A set f (odF (dP A set) (dL A).toNat ch).1 (bsK A set ch b) else bsK A set ch b
def bsE (A : Int → Int) (set : Int) : BsT := bsR A set 16384 (fun _ => 0) (-1, fun _ => 0)
def okBs (A : Int → Int) (set : Int) (b : BsT) : Prop := (-1 ≤ b.1 ∧ b.1 ≤ 480000) ∧ ∀ k, 0 ≤ k → k < dL A → 0 ≤ b.2 k ∧ b.2 k ≤ dP A set
theorem bsK_ok {A : Int → Int} (hO : okA A) {set : Int} (h1 : dlP A set) {ch : Int → Int} {b : BsT} (hc : ∀ k, 0 ≤ k → k < dL A → 0 ≤ ch k ∧ ch k ≤ dP A set) (hb : okBs A set b) : okBs A set (bsK A set ch b) ∧ 0 ≤ (bsK A set ch b).1 := by
  have hg := gpB_rng hO h1 ch
  unfold bsK
  split
  · exact ⟨⟨by dsimp only; omega, hc⟩, hg.1⟩
  · exact ⟨hb, by omega⟩
/-- the gap that is answered, whom each lot goes to -/
def dlE (A : Int → Int) (set best : Int) : BsT := if best = 0 then (gapF A set (ruR A set (dL A).toNat).2 (dP A set).toNat, (ruR A set (dL A).toNat).1) else bsE A set
def rDeal (A : Int → Int) (set best : Int) : Int := if dlP A set then (dlE A set best).1 else -1
def dlR (A : Int → Int) (set v : Int) (ch : Int → Int) : Int := if fst (fun k => dLot A k = v ∧ ch k < dP A set) (dL A).toNat < 0 then -1 else dWho A set (ch (fst (fun k => dLot A k = v ∧ ch k < dP A set) (dL A).toNat))
def rDealt (A : Int → Int) (set best v : Int) : Int := if dlP A set then dlR A set v (dlE A set best).2 else -1
theorem ru_all {A : Int → Int} (hO : okA A) {set : Int} (h1 : dlP A set) : ∀ k, 0 ≤ k → k < dL A → 0 ≤ (ruR A set (dL A).toNat).1 k ∧ (ruR A set (dL A).toNat).1 k ≤ dP A set := by
  have hP := dP_rng hO h1
  have hL := dL_rng A
  have hok := ruR_ok hO (set := set) hP.1 (dL A).toNat (by omega)
  intro k k1 k2
  have h2 := hok.2.1 k k1 k2
  refine ⟨?_, h2.2⟩
  by_cases q : (ruR A set (dL A).toNat).1 k = -1
  · exfalso
    have e := ruU_up (v := 0) (n := (dL A).toNat) (i := k) (by omega) q (by decide)
    have e2 : 0 ≤ ruU (upF (ruR A set (dL A).toNat).1 k 0) (dL A).toNat := (smb_rng (fun j => upF (ruR A set (dL A).toNat).1 k 0 j = -1) (dL A).toNat).1
    have e3 := hok.1
    omega
  · omega
theorem odF_congr (P : Int) : ∀ (n : Nat) (c d : Int → Int), (∀ k : Int, 0 ≤ k → k < n → c k = d k) → (odF P n c).2 = (odF P n d).2 ∧ ∀ k : Int, 0 ≤ k → k < n → (odF P n c).1 k = (odF P n d).1 k
  | 0, _, _, h => ⟨rfl, h⟩
  | n + 1, c, d, h => by
    have hn := h n (by omega) (by omega)
    unfold odF
    rw [hn]
    by_cases q : d (n : Int) < P
    · rw [if_pos q, if_pos q]
      refine ⟨rfl, fun k k1 k2 => ?_⟩
      dsimp only
      unfold upF
      split
      · rfl
      · exact h k k1 k2
    · rw [if_neg q, if_neg q]
      have ih := odF_congr P n (upF c (n : Int) 0) (upF d (n : Int) 0) (fun k k1 k2 => by rw [upF_n (by omega), upF_n (by omega)]; exact h k k1 (by omega))
      refine ⟨ih.1, fun k k1 k2 => ?_⟩
      by_cases z : k < (n : Int)
      · exact ih.2 k k1 z
      · rw [odF_off P n _ k (by omega), odF_off P n _ k (by omega), show k = (n : Int) by omega, upF_s, upF_s]
theorem bsR_ok {A : Int → Int} (hO : okA A) {set : Int} (h1 : dlP A set) : ∀ (n : Nat) (ch : Int → Int) (b : BsT), (∀ k, 0 ≤ k → k < dL A → 0 ≤ ch k ∧ ch k ≤ dP A set) → okBs A set b → okBs A set (bsR A set n ch b)
  | 0, _, _, _, hb => hb
  | n + 1, ch, b, hc, hb => by
    have hP := dP_rng hO h1
    have hL := dL_rng A
    have hk := (bsK_ok hO h1 hc hb).1
    unfold bsR
    split
    · have hog := odF_rng (dP A set) (by omega) (dL A).toNat ch (fun k k1 k2 => hc k k1 (by omega))
      exact bsR_ok hO h1 n _ _ (fun k k1 k2 => hog.1 k k1 (by omega)) hk
    · exact hk
