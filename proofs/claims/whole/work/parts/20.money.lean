/-! ===== days on which nothing changes; HAD and DUE ===== -/
def noChg (A : Int → Int) (oo d : Int) : Prop := d % 60 ≠ 0 ∧ (d - A (360 + 4 * oo + 2)) % 120 ≠ 0 ∧ (∀ i, 0 ≤ i → i < A 2 → A (430 + 5 * i + 3) ≠ d) ∧ (∀ r, 0 ≤ r → r < A 3 → A (10 + 2 * r) ≠ d) ∧ A (360 + 4 * oo + 3) ≠ d
theorem tmod120 {x : Int} (h : x.tmod 120 ≠ 0) : x % 120 ≠ 0 := fun q => h (Int.tmod_eq_zero_of_dvd (Int.dvd_of_emod_eq_zero q))
theorem latF_prev {A : Int → Int} {d : Int} (h : ∀ i, 0 ≤ i → i < A 2 → A (430 + 5 * i + 3) ≠ d) (kind whose k : Int) : ∀ n : Nat, (n : Int) ≤ A 2 → latF A kind whose d k n = latF A kind whose (d - 1) k n
  | 0, _ => rfl
  | n + 1, hn => by
    have ih := latF_prev h kind whose k n (by omega)
    have h1 := h n (by omega) (by omega)
    unfold latF
    rw [ih]
    have e : ∀ X : Prop, (okO A kind whose d k (n : Int) ∧ X) ↔ (okO A kind whose (d - 1) k (n : Int) ∧ X) := fun X => ⟨fun z => ⟨⟨z.1.1, z.1.2.1, by have := z.1.2.2.1; omega, z.1.2.2.2⟩, z.2⟩, fun z => ⟨⟨z.1.1, z.1.2.1, by have := z.1.2.2.1; omega, z.1.2.2.2⟩, z.2⟩⟩
    by_cases q : okO A kind whose (d - 1) k (n : Int) ∧ (latF A kind whose (d - 1) k n < 0 ∨ A (430 + 5 * latF A kind whose (d - 1) k n + 3) ≤ A (430 + 5 * (n : Int) + 3))
    · rw [if_pos ((e _).mpr q), if_pos q]
    · rw [if_neg (fun z => q ((e _).mp z)), if_neg q]
theorem heldF_iff {A : Int → Int} {oo : Int} (ho : 0 ≤ oo) (v d k : Int) : heldF A v d k = oo ↔ ordH A v d k = oo ∧ srvF A oo d := by
  unfold heldF
  constructor
  · intro h
    split at h
    · rename_i q; subst h; exact ⟨rfl, q.2⟩
    · omega
  · rintro ⟨h1, h2⟩
    rw [h1, if_pos ⟨ho, h2⟩]
theorem noChg_held {A : Int → Int} (hO : okA A) {oo d : Int} (ho : 0 ≤ oo) (h : noChg A oo d) (v k : Int) : heldF A v d k = oo ↔ heldF A v (d - 1) k = oo := by
  obtain ⟨h1, h2, h3, h4, h5⟩ := h
  have q2 := hO.1.2.2.1
  rw [heldF_iff ho, heldF_iff ho]
  unfold ordH
  rw [latF_prev h3 0 v k _ (by omega)]
  have e : srvF A oo d ↔ srvF A oo (d - 1) := by omega
  rw [e]
theorem noChg_cnt {A : Int → Int} (hO : okA A) {oo d : Int} (ho : 0 ≤ oo) (h : noChg A oo d) (k : Int) : ∀ n : Nat, cntF A oo d k n = cntF A oo (d - 1) k n
  | 0 => rfl
  | n + 1 => by rw [cntF, cntF, noChg_cnt hO ho h k n, b01_congr (noChg_held hO ho h n k)]
theorem noChg_fam {A : Int → Int} (hO : okA A) {oo d : Int} (ho : 0 ≤ oo) (h : noChg A oo d) (k : Int) : ∀ n : Nat, famZ A oo d k n = famZ A oo (d - 1) k n
  | 0 => rfl
  | n + 1 => by
    have e : d / 60 = (d - 1) / 60 := by have := h.1; omega
    rw [famZ, famZ, noChg_fam hO ho h k n, e]
    exact b01_congr (by rw [noChg_held hO ho h n k])
theorem noChg_ask {A : Int → Int} (hO : okA A) {oo d : Int} (ho : 0 ≤ oo) (h : noChg A oo d) (what k : Int) : askF A what oo d k = askF A what oo (d - 1) k := by
  have q2 := hO.1.2.2.1
  obtain ⟨h1, h2, h3, h4, h5⟩ := id h
  unfold askF rankF
  rw [noChg_fam hO ho h, noChg_cnt hO ho h, latF_prev h3 1 oo k _ (by omega), show (d - A (360 + 4 * oo + 2)) / 120 = (d - 1 - A (360 + 4 * oo + 2)) / 120 by omega, show d / 60 = (d - 1) / 60 by omega]
theorem noChg_hold {A : Int → Int} (hO : okA A) {oo d : Int} (ho : 0 ≤ oo) (h : noChg A oo d) (row k : Int) : ∀ n : Nat, holdF A row oo d k n = holdF A row oo (d - 1) k n
  | 0 => rfl
  | n + 1 => by
    rw [holdF, holdF, noChg_hold hO ho h row k n]
    split
    · rfl
    · exact b01_congr (by rw [tstP, tstP, noChg_ask hO ho h])
theorem noChg_re {A : Int → Int} {d : Int} (h : ∀ r, 0 ≤ r → r < A 3 → A (10 + 2 * r) ≠ d) : ∀ n : Nat, (n : Int) ≤ A 3 → reF A d n = reF A (d - 1) n
  | 0, _ => rfl
  | n + 1, hn => by
    have h1 := h n (by omega) (by omega)
    rw [reF, reF, noChg_re h n (by omega)]
    by_cases q : A (10 + 2 * (n : Int)) ≤ d
    · rw [if_pos q, if_pos (by omega)]
    · rw [if_neg q, if_neg (by omega)]
theorem noChg_scS {A : Int → Int} (hO : okA A) {oo d : Int} (ho : 0 ≤ oo) (h : noChg A oo d) (k r : Int) : ∀ n : Nat, scS A oo d k r n = scS A oo (d - 1) k r n
  | 0 => rfl
  | n + 1 => by rw [scS, scS, noChg_scS hO ho h k r n, noChg_hold hO ho h]
theorem noChg_sc {A : Int → Int} (hO : okA A) {oo d : Int} (ho : 0 ≤ oo) (h : noChg A oo d) (k : Int) : scF A oo d k = scF A oo (d - 1) k := by
  have q3 := hO.1.2.2.2.1
  unfold scF
  rw [noChg_re h.2.2.2.1 _ (by omega), noChg_scS hO ho h]
theorem noChg_due {A : Int → Int} (hO : okA A) {oo d : Int} (ho : 0 ≤ oo) (h : noChg A oo d) (k : Int) : dueY A oo d k = dueY A oo (d - 1) k := by
  unfold dueY
  rw [noChg_sc hO ho h]
theorem noChg_srv {A : Int → Int} {oo d : Int} (h : noChg A oo d) : srvF A oo d ↔ srvF A oo (d - 1) := by
  obtain ⟨h1, h2, h3, h4, h5⟩ := h
  omega
/-- the days of a season on which the officer held the village, of the first n -/
def dhF (A : Int → Int) (oo v s k : Int) : Nat → Int
  | 0 => 0
  | n + 1 => dhF A oo v s k n + b01 (heldF A v (60 * s + (n : Int)) k = oo)
theorem dhF_rng (A : Int → Int) (oo v s k : Int) : ∀ n : Nat, 0 ≤ dhF A oo v s k n ∧ dhF A oo v s k n ≤ n
  | 0 => by simp [dhF]
  | n + 1 => by
    have h := dhF_rng A oo v s k n
    have h2 := b01_rng (p := heldF A v (60 * s + (n : Int)) k = oo)
    unfold dhF
    omega
def crnF (A : Int → Int) (oo s k : Int) : Int := if srvF A oo (60 * s) then (scF A oo (60 * s) k).2.2.1 else 0
theorem crnF_rng {A : Int → Int} (hO : okA A) (oo s k : Int) : 0 ≤ crnF A oo s k ∧ crnF A oo s k ≤ 100 := by
  have h := scF_rng hO oo (60 * s) k
  unfold crnF
  split <;> omega
def hadS (A : Int → Int) (oo s k : Int) : Nat → Int
  | 0 => 0
  | v + 1 => hadS A oo s k v + (A (120 + 20 * (v : Int) + s) - A (120 + 20 * (v : Int) + s) * crnF A oo s k / 100) * dhF A oo (v : Int) s k 60 / 60
theorem had_one {c p n : Int} (hc : 0 ≤ c ∧ c ≤ 15000) (hp : 0 ≤ p ∧ p ≤ 100) (hn : 0 ≤ n ∧ n ≤ 60) : (0 ≤ c * p ∧ c * p ≤ 1500000) ∧ (0 ≤ c - c * p / 100 ∧ c - c * p / 100 ≤ 15000) ∧ (0 ≤ (c - c * p / 100) * n ∧ (c - c * p / 100) * n ≤ 900000) ∧ (0 ≤ (c - c * p / 100) * n / 60 ∧ (c - c * p / 100) * n / 60 ≤ 15000) := by
  have h1 := mul_rng (m := 15000) (n := 100) hc hp
  have h2 : c * p ≤ c * 100 := Int.mul_le_mul_of_nonneg_left hp.2 hc.1
  have h3 := mul_rng (a := c - c * p / 100) (b := n) (m := 15000) (n := 60) (by omega) hn
  omega
theorem hadS_rng {A : Int → Int} (hO : okA A) (oo k : Int) {s : Int} (hs : 0 ≤ s ∧ s < 20) : ∀ n : Nat, (n : Int) ≤ A 0 → 0 ≤ hadS A oo s k n ∧ hadS A oo s k n ≤ 15000 * n
  | 0, _ => by simp [hadS]
  | n + 1, hn => by
    have ih := hadS_rng hO oo k hs n (by omega)
    have h1 := hO.2.2.2.1 n s (by omega) (by omega) hs.1 hs.2
    have h2 := dhF_rng A oo (n : Int) s k 60
    have h3 := had_one h1 (crnF_rng hO oo s k) (n := dhF A oo (n : Int) s k 60) (by omega)
    unfold hadS
    omega
abbrev hadF (A : Int → Int) (oo s k : Int) : Int := hadS A oo s k (A 0).toNat
def dueD (A : Int → Int) (oo d k : Int) : Int := if srvF A oo d then dueY A oo d k else 0
theorem dueD_rng {A : Int → Int} (hO : okA A) (oo d k : Int) : 0 ≤ dueD A oo d k ∧ dueD A oo d k ≤ 159984 := by
  have := dueY_rng hO oo d k
  unfold dueD
  split <;> omega
theorem noChg_dueD {A : Int → Int} (hO : okA A) {oo d : Int} (ho : 0 ≤ oo) (h : noChg A oo d) (k : Int) : dueD A oo d k = dueD A oo (d - 1) k := by
  unfold dueD
  rw [noChg_due hO ho h]
  by_cases q : srvF A oo d
  · rw [if_pos q, if_pos ((noChg_srv h).mp q)]
  · rw [if_neg q, if_neg (fun z => q ((noChg_srv h).mpr z))]
def dueS (A : Int → Int) (oo s k : Int) : Nat → Int
  | 0 => 0
  | n + 1 => dueS A oo s k n + dueD A oo (60 * s + (n : Int)) k
theorem dueS_rng {A : Int → Int} (hO : okA A) (oo s k : Int) : ∀ n : Nat, 0 ≤ dueS A oo s k n ∧ dueS A oo s k n ≤ 159984 * n
  | 0 => by simp [dueS]
  | n + 1 => by
    have ih := dueS_rng hO oo s k n
    have h := dueD_rng hO oo (60 * s + (n : Int)) k
    unfold dueS
    omega
def dueF (A : Int → Int) (oo s k : Int) : Int := dueS A oo s k 60 / 120
def balS (A : Int → Int) (oo k : Int) : Nat → Int
  | 0 => 0
  | s + 1 => balS A oo k s + (hadF A oo (s : Int) k - dueF A oo (s : Int) k)
theorem balS_rng {A : Int → Int} (hO : okA A) (oo k : Int) : ∀ n : Nat, n ≤ 20 → -80000 * n ≤ balS A oo k n ∧ balS A oo k n ≤ 180000 * n
  | 0, _ => by simp [balS]
  | n + 1, hn => by
    have ih := balS_rng hO oo k n (by omega)
    have h1 := hadS_rng hO oo k (s := n) (by omega) (A 0).toNat (by have := hO.1.1; omega)
    have h2 := dueS_rng hO oo (n : Int) k 60
    have h3 := hO.1.1
    unfold balS hadF dueF
    omega
/-- only the reference's scratch has changed -/
def MF (σ σ' : vMem) : Prop := ∀ k, k < 55 ∨ k = 56 ∨ k = 57 ∨ 71 ≤ k → σ' k = σ k
theorem MF.rfl' {σ : vMem} : MF σ σ := fun _ _ => rfl
theorem MF.trans' {a b c : vMem} (h1 : MF a b) (h2 : MF b c) : MF a c := fun k hk => (h2 k hk).trans (h1 k hk)
theorem MF_61 {σ σ' : vMem} (h : ∀ k, k ≠ 61 → σ' k = σ k) : MF σ σ' := fun k hk => h k (by omega)
theorem MF_up {σ : vMem} {k : Nat} {i v : Int} (h : 55 ≤ k ∧ k ≠ 56 ∧ k ≠ 57 ∧ k < 71) : MF σ (vUp σ k i v) := fun j hj => vUp_ne (by omega)
/-- only the class's scratch has changed -/
def CF (σ σ' : vMem) : Prop := (∀ k, (k < 41 ∧ k ≠ 38) ∨ k = 44 ∨ 55 ≤ k → σ' k = σ k) ∧ σ' 38 0 = σ 38 0
theorem CF.rfl' {σ : vMem} : CF σ σ := ⟨fun _ _ => rfl, rfl⟩
theorem CF.trans' {a b c : vMem} (h1 : CF a b) (h2 : CF b c) : CF a c := ⟨fun k hk => (h2.1 k hk).trans (h1.1 k hk), h2.2.trans h1.2⟩
theorem CF_46 {σ σ' : vMem} (h : ∀ k, k ≠ 46 → σ' k = σ k) : CF σ σ' := ⟨fun k hk => h k (by omega), by rw [h 38 (by decide)]⟩
theorem CF.cr {σ σ' : vMem} {A : Int → Int} (h : CF σ σ') (hC : CR σ A) : CR σ' A := CR_off (fun k h1 h2 => h.1 k (by omega)) h.2 hC
theorem CF_up {σ : vMem} {k : Nat} {i v : Int} (h : (40 < k ∧ k ≠ 44 ∧ k < 55) ∨ (k = 38 ∧ i ≠ 0)) : CF σ (vUp σ k i v) := by
  refine ⟨fun j hj => vUp_ne (by omega), ?_⟩
  rcases h with h | ⟨rfl, h⟩
  · rw [vUp_ne (by omega)]
  · exact vUp_ix (fun q => h q.symm)
