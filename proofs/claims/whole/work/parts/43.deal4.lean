theorem pcn_mono (set : Int) {m : Nat} : ∀ n : Nat, m ≤ n → pcn set m ≤ pcn set n := by
  intro n hn
  induction n with
  | zero => rw [show m = 0 by omega]; exact Int.le_refl _
  | succ n ih =>
    by_cases q : m = n + 1
    · rw [q]; exact Int.le_refl _
    · have := ih (by omega)
      have hb := bt_rng set n
      rw [pcn_succ]
      omega
theorem ppl_same (set : Int) {m : Nat} : ∀ n : Nat, m ≤ n → pcn set n = pcn set m → ppl set n = ppl set m := by
  intro n hn
  induction n with
  | zero => intro _; rw [show m = 0 by omega]
  | succ n ih =>
    intro h
    by_cases q : m = n + 1
    · rw [q]
    · have h1 := pcn_mono set (m := m) n (by omega)
      have hb := bt_rng set n
      rw [pcn_succ] at h
      rw [ppl, if_neg (by omega)]
      exact ih (by omega) (by omega)
theorem pcn_ten {A : Int → Int} (hO : okA A) {set : Int} (h : dlP A set) : pcn set 10 = dP A set ∧ ppl set 10 = ppl set (A 1).toNat := by
  have q1 := hO.1.2.1
  have eN : (A 1).toNat + (10 - (A 1).toNat) = 10 := by omega
  have hpc := pcn_hi (set := set) (n := (A 1).toNat) (10 - (A 1).toNat) (fun o o1 o2 => bt_hi (n := A 1) (by have := h.1; omega) h.1.2 (by omega) (by omega))
  rw [eN] at hpc
  exact ⟨hpc, ppl_same set 10 (by omega) hpc⟩
theorem grF_congr (A : Int → Int) {c d : Int → Int} : ∀ n : Nat, (∀ k : Int, 0 ≤ k → k < n → c k = d k) → grF A c n = grF A d n
  | 0, _ => rfl
  | n + 1, h => by rw [grF, grF, grF_congr A n (fun k k1 k2 => h k k1 (by omega)), h n (by omega) (by omega)]
theorem neF_congr {c d : Int → Int} : ∀ n : Nat, (∀ k : Int, 0 ≤ k → (k < n ∨ k = 0) → c k = d k) → neF c n = neF d n
  | 0, _ => rfl
  | n + 1, h => by
    have e := neF_congr n (fun k k1 k2 => h k k1 (by omega))
    have hr := neF_rng d n
    rw [neF, neF, e, h n (by omega) (by omega), h (neF d n) hr.1 (by omega)]
def PpC (σ : vMem) (A : Int → Int) (set : Int) (n : Nat) : Prop := σ 49 4 = pcn set n ∧ ∀ i, 0 ≤ i → i < pcn set n → σ 50 i = ppl set n i ∧ σ 51 i = dueY A (ppl set n i) (A 4) (A 4)
def LtC (σ : vMem) (A : Int → Int) (n : Nat) : Prop := σ 49 8 = ltN A n ∧ ∀ k, 0 ≤ k → k < ltN A n → σ 52 k = ltF A n k
/-- people and lots are gathered -/
def GaC (σ : vMem) (A : Int → Int) (set : Int) : Prop := (σ 49 4 = dP A set ∧ σ 49 8 = dL A) ∧ (∀ i, 0 ≤ i → i < dP A set → σ 50 i = dWho A set i) ∧ ∀ k, 0 ≤ k → k < dL A → σ 52 k = dLot A k
theorem GaC_off {σ σ' : vMem} {A : Int → Int} {set : Int} (h4 : σ' 49 4 = σ 49 4) (h8 : σ' 49 8 = σ 49 8) (h0 : σ' 50 = σ 50) (h2 : σ' 52 = σ 52) (h : GaC σ A set) : GaC σ' A set := by
  unfold GaC
  rw [h4, h8, h0, h2]
  exact h
def RuC (σ : vMem) (A : Int → Int) (set : Int) (st : RuT) : Prop := GaC σ A set ∧ (∀ i, 0 ≤ i → i < dP A set → σ 51 i = st.2 i) ∧ ∀ k, 0 ≤ k → k < dL A → σ 53 k = st.1 k
def lgF (b : Int) : Int := if b < 0 then 1000000000 else b
def BsC (σ : vMem) (A : Int → Int) (set : Int) (ch : Int → Int) (b : BsT) : Prop := GaC σ A set ∧ (∀ i, 0 ≤ i → i < dP A set → σ 51 i = lkB A set ch i) ∧ (∀ k, 0 ≤ k → k < dL A → σ 53 k = ch k) ∧ σ 49 9 = lgF b.1 ∧ (0 ≤ b.1 → ∀ k, 0 ≤ k → k < dL A → σ 54 k = b.2 k)
def ShC (σ : vMem) (A : Int → Int) (set : Int) (b : BsT) : Prop := GaC σ A set ∧ σ 49 9 = b.1 ∧ ∀ k, 0 ≤ k → k < dL A → σ 54 k = b.2 k
