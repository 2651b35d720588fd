/-! ===== trust, weighing, trials, counting ===== -/
def valF (told came : Int) : Int := if came = 0 then (if told = 0 then 100 else 0) else if 5 ≤ 10 * farI told came / came then 0 else 100 - 20 * (10 * farI told came / came)
theorem div_bnd {a b m : Int} (ha : 0 ≤ a ∧ a ≤ m) (hb : 1 ≤ b) : 0 ≤ a / b ∧ a / b ≤ m := by
  have h1 := Int.ediv_nonneg ha.1 (show 0 ≤ b by omega)
  have h2 := Int.ediv_le_self b ha.1
  omega
theorem valF_rng {told came : Int} (h1 : 0 ≤ told ∧ told ≤ 15000) (h2 : 0 ≤ came ∧ came ≤ 15000) : 0 ≤ valF told came ∧ valF told came ≤ 100 := by
  unfold valF
  have h3 := farI_rng h1 h2
  split
  · split <;> omega
  · have h4 := div_bnd (a := 10 * farI told came) (b := came) (m := 150000) (by omega) (by omega)
    split <;> omega
abbrev trP (A : Int → Int) (w k i : Int) : Prop := A (930 + 5 * i + 0) = w ∧ A (930 + 5 * i + 4) ≤ k ∧ 60 * (A (930 + 5 * i + 2) + 1) ≤ k
abbrev valW (A : Int → Int) (i : Int) : Int := valF (A (930 + 5 * i + 3)) (A (120 + 20 * A (930 + 5 * i + 1) + A (930 + 5 * i + 2)))
def trS (A : Int → Int) (w k : Int) : Nat → Int × Int
  | 0 => (0, 0)
  | n + 1 => if trP A w k (n : Int) then ((trS A w k n).1 + valW A (n : Int), (trS A w k n).2 + 1) else trS A w k n
theorem valW_rng {A : Int → Int} (hO : okA A) {i : Int} (h : 0 ≤ i ∧ i < A 6) : 0 ≤ valW A i ∧ valW A i ≤ 100 := by
  have h1 := hO.2.2.2.2.2.2.1 i h.1 h.2
  have h2 := hO.2.2.2.1 (A (930 + 5 * i + 1)) (A (930 + 5 * i + 2)) (by omega) (by omega) (by omega) (by omega)
  exact valF_rng (by omega) h2
theorem trS_rng {A : Int → Int} (hO : okA A) (w k : Int) : ∀ n : Nat, (n : Int) ≤ A 6 → (0 ≤ (trS A w k n).2 ∧ (trS A w k n).2 ≤ n) ∧ (0 ≤ (trS A w k n).1 ∧ (trS A w k n).1 ≤ 100 * (trS A w k n).2)
  | 0, _ => by simp [trS]
  | n + 1, hn => by
    have ih := trS_rng hO w k n (by omega)
    have h := valW_rng hO (i := n) (by omega)
    unfold trS
    split
    · dsimp only; omega
    · omega
def trF (A : Int → Int) (w k : Int) : Int := if (trS A w k (A 6).toNat).2 = 0 then 50 else (trS A w k (A 6).toNat).1 / (trS A w k (A 6).toNat).2
theorem div_hund {a b : Int} (hb : 1 ≤ b) (ha : 0 ≤ a ∧ a ≤ 100 * b) : 0 ≤ a / b ∧ a / b ≤ 100 := by
  have h1 := Int.ediv_nonneg ha.1 (show 0 ≤ b by omega)
  have h2 := Int.ediv_le_of_le_mul (b := 100) (show 0 < b by omega) ha.2
  omega
theorem trF_rng {A : Int → Int} (hO : okA A) (w k : Int) : 0 ≤ trF A w k ∧ trF A w k ≤ 100 := by
  have h6 := hO.1.2.2.2.2.2.2.1
  have h := trS_rng hO w k (A 6).toNat (by omega)
  unfold trF
  split
  · omega
  · exact div_hund (by omega) h.2
def wgS (A : Int → Int) (v s k : Int) : Nat → Int × Int
  | 0 => (0, 0)
  | n + 1 => if lastW A (n : Int) v s k < 0 then wgS A v s k n else ((wgS A v s k n).1 + A (930 + 5 * lastW A (n : Int) v s k + 3) * trF A (n : Int) k, (wgS A v s k n).2 + trF A (n : Int) k)
theorem wg_one {A : Int → Int} (hO : okA A) (v s k w : Int) (h : 0 ≤ lastW A w v s k) : (0 ≤ A (930 + 5 * lastW A w v s k + 3) ∧ A (930 + 5 * lastW A w v s k + 3) ≤ 9999) ∧ 0 ≤ A (930 + 5 * lastW A w v s k + 3) * trF A w k ∧ A (930 + 5 * lastW A w v s k + 3) * trF A w k ≤ 999900 := by
  have h6 := hO.1.2.2.2.2.2.2.1
  have h1 := lastW_rng A w v s k h6.1
  have h2 := hO.2.2.2.2.2.2.1 _ h h1.2
  have h3 := trF_rng hO w k
  have h4 := mul_rng (a := A (930 + 5 * lastW A w v s k + 3)) (b := trF A w k) (m := 9999) (n := 100) (by omega) h3
  omega
theorem wgS_rng {A : Int → Int} (hO : okA A) (v s k : Int) : ∀ n : Nat, n ≤ 5 → (0 ≤ (wgS A v s k n).1 ∧ (wgS A v s k n).1 ≤ 999900 * n) ∧ (0 ≤ (wgS A v s k n).2 ∧ (wgS A v s k n).2 ≤ 100 * n)
  | 0, _ => by simp [wgS]
  | n + 1, hn => by
    have ih := wgS_rng hO v s k n (by omega)
    have h3 := trF_rng hO (n : Int) k
    unfold wgS
    split
    · omega
    · have h4 := wg_one hO v s k (n : Int) (by omega)
      dsimp only
      omega
def rWeigh (A : Int → Int) (v s k : Int) : Int := if (0 ≤ v ∧ v < A 0) ∧ (0 ≤ s ∧ s < 20) ∧ 0 ≤ k ∧ k ≤ A 4 then (if (wgS A v s k 5).2 = 0 then -1 else (wgS A v s k 5).1 / (wgS A v s k 5).2) else -1
def rTrust (A : Int → Int) (w k : Int) : Int := if (0 ≤ w ∧ w ≤ 4) ∧ 0 ≤ k ∧ k ≤ A 4 then trF A w k else -1
abbrev askP (A : Int → Int) (v s k : Int) : Prop := (0 ≤ v ∧ v < A 0) ∧ (0 ≤ s ∧ s < 20) ∧ 0 ≤ k ∧ k ≤ A 4
def cropF (paper health pct press : Int) : Int := paper * health / 100 * pct / 100 * press / 100 / 2
theorem crop_rng {paper health pct press : Int} (h1 : 0 ≤ paper ∧ paper ≤ 9999) (h2 : 0 ≤ health ∧ health ≤ 100) (h3 : 0 ≤ pct ∧ pct ≤ 200) (h4 : 0 ≤ press ∧ press ≤ 150) : (0 ≤ paper * health ∧ paper * health ≤ 999900) ∧ (0 ≤ paper * health / 100 * pct ∧ paper * health / 100 * pct ≤ 1999800) ∧ (0 ≤ paper * health / 100 * pct / 100 * press ∧ paper * health / 100 * pct / 100 * press ≤ 2999700) ∧ (0 ≤ cropF paper health pct press ∧ cropF paper health pct press ≤ 15000) := by
  have a1 := mul_rng h1 h2
  have a2 := mul_rng (a := paper * health / 100) (b := pct) (m := 9999) (n := 200) (by omega) h3
  have a3 := mul_rng (a := paper * health / 100 * pct / 100) (b := press) (m := 19998) (n := 150) (by omega) h4
  unfold cropF
  omega
def hlF (h p : Int) : Int := if (if 100 < p then h - (p - 100) / 5 else h + 3) < 0 then 0 else if 100 < (if 100 < p then h - (p - 100) / 5 else h + 3) then 100 else (if 100 < p then h - (p - 100) / 5 else h + 3)
theorem hlF_rng (h p : Int) : 0 ≤ hlF h p ∧ hlF h p ≤ 100 := by
  unfold hlF
  generalize (if 100 < p then h - (p - 100) / 5 else h + 3) = x
  split
  · omega
  · split <;> omega
abbrev sqF (t s i : Int) : Int := if 0 < t ∧ i % t = t - 1 then s else 100
abbrev shF (t got most : Int) : Int := if 0 < t ∨ got < most then got else most
/-- health, paid, crown -/
def triS (A : Int → Int) (paper t s : Int) : Nat → Int × Int × Int
  | 0 => (100, 0, 0)
  | n + 1 => (hlF (triS A paper t s n).1 (sqF t s (n : Int)),
      (triS A paper t s n).2.1 + shF t (cropF paper (triS A paper t s n).1 (A (20 + (n : Int))) (sqF t s (n : Int))) (paper * s / 200),
      (triS A paper t s n).2.2 + (cropF paper (triS A paper t s n).1 (A (20 + (n : Int))) (sqF t s (n : Int)) - shF t (cropF paper (triS A paper t s n).1 (A (20 + (n : Int))) (sqF t s (n : Int))) (paper * s / 200)))
theorem tri_one {A : Int → Int} (hO : okA A) {paper t s h i : Int} (h1 : 1 ≤ paper ∧ paper ≤ 9999) (h2 : 50 ≤ s ∧ s ≤ 150) (h3 : 0 ≤ h ∧ h ≤ 100) (hi : 0 ≤ i ∧ i < 20) : (0 ≤ cropF paper h (A (20 + i)) (sqF t s i) ∧ cropF paper h (A (20 + i)) (sqF t s i) ≤ 15000) ∧ (0 ≤ paper * s ∧ paper * s ≤ 1499850) ∧ (0 ≤ shF t (cropF paper h (A (20 + i)) (sqF t s i)) (paper * s / 200) ∧ shF t (cropF paper h (A (20 + i)) (sqF t s i)) (paper * s / 200) ≤ cropF paper h (A (20 + i)) (sqF t s i)) := by
  have a1 := hO.2.2.1 i hi.1 hi.2
  have a2 : 0 ≤ sqF t s i ∧ sqF t s i ≤ 150 := by unfold sqF; split <;> omega
  have a3 := (crop_rng (paper := paper) (health := h) (by omega) h3 a1 a2).2.2.2
  have a4 := mul_rng (a := paper) (b := s) (m := 9999) (n := 150) (by omega) (by omega)
  refine ⟨a3, by omega, ?_⟩
  unfold shF
  split <;> omega
theorem triS_rng {A : Int → Int} (hO : okA A) {paper t s : Int} (h1 : 1 ≤ paper ∧ paper ≤ 9999) (h2 : 50 ≤ s ∧ s ≤ 150) : ∀ n : Nat, n ≤ 20 → (0 ≤ (triS A paper t s n).1 ∧ (triS A paper t s n).1 ≤ 100) ∧ (0 ≤ (triS A paper t s n).2.1 ∧ (triS A paper t s n).2.1 ≤ 15000 * n) ∧ (0 ≤ (triS A paper t s n).2.2 ∧ (triS A paper t s n).2.2 ≤ 15000 * n)
  | 0, _ => by simp [triS]
  | n + 1, hn => by
    have ih := triS_rng hO (t := t) h1 h2 n (by omega)
    have h := tri_one hO (t := t) (i := (n : Int)) h1 h2 ih.1 (by omega)
    have h9 := hlF_rng (triS A paper t s n).1 (sqF t s (n : Int))
    unfold triS
    dsimp only
    omega
def rTried (A : Int → Int) (paper n t s w : Int) : Int := if (1 ≤ paper ∧ paper ≤ 9999) ∧ (1 ≤ n ∧ n ≤ 20) ∧ (0 ≤ t ∧ t ≤ 20) ∧ (50 ≤ s ∧ s ≤ 150) ∧ 0 ≤ w ∧ w ≤ 2 then (if w = 0 then (triS A paper t s n.toNat).2.1 else if w = 1 then (triS A paper t s n.toNat).1 else (triS A paper t s n.toNat).2.2) else -1
abbrev cS (A : Int → Int) (n : Nat) : Int := sm (fun i => b01 (srvF A i (A 4))) n
abbrev cC (A : Int → Int) (n : Nat) : Int := sm (fun v => b01 (crwP A v)) n
abbrev cO (A : Int → Int) (n : Nat) : Int := sm (fun v => b01 (overP A v)) n
def rCount (A : Int → Int) (w : Int) : Int := if 0 ≤ w ∧ w ≤ 4 then A w else if w = 5 then A 4 / 60 else if w = 6 then A 5 else if w = 7 then A 6 else if w = 8 then cS A (A 1).toNat else if w = 9 then cC A (A 0).toNat else if w = 10 then cO A (A 0).toNat else -1
theorem smb_rng (p : Int → Prop) [∀ i, Decidable (p i)] (n : Nat) : 0 ≤ sm (fun i => b01 (p i)) n ∧ sm (fun i => b01 (p i)) n ≤ n := by
  have h := sm_rng (f := fun i => b01 (p i)) (m := 1) n (fun i _ _ => b01_rng)
  omega
