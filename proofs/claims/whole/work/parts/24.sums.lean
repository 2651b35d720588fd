/-! ===== sums, bits of a set, what two villages lie apart ===== -/
def sm (f : Int → Int) : Nat → Int
  | 0 => 0
  | n + 1 => sm f n + f (n : Int)
theorem sm_congr {f g : Int → Int} : ∀ n : Nat, (∀ i : Int, 0 ≤ i → i < n → f i = g i) → sm f n = sm g n
  | 0, _ => rfl
  | n + 1, h => by rw [sm, sm, sm_congr n (fun i h1 h2 => h i h1 (by omega)), h n (by omega) (by omega)]
theorem sm_add {f g : Int → Int} : ∀ n : Nat, sm (fun i => f i + g i) n = sm f n + sm g n
  | 0 => rfl
  | n + 1 => by rw [sm, sm, sm, sm_add n]; omega
theorem sm_rng {f : Int → Int} {m : Int} : ∀ n : Nat, (∀ i : Int, 0 ≤ i → i < n → 0 ≤ f i ∧ f i ≤ m) → 0 ≤ sm f n ∧ sm f n ≤ m * n
  | 0, _ => by simp [sm]
  | n + 1, h => by
    have h1 := sm_rng n (fun i y1 y2 => h i y1 (by omega))
    have h2 := h n (by omega) (by omega)
    have e : m * ((n + 1 : Nat) : Int) = m * n + m := by rw [Int.natCast_add, Int.mul_add]; omega
    rw [sm, e]
    omega
theorem sm_zero {f : Int → Int} (n : Nat) (h : ∀ i : Int, 0 ≤ i → i < n → f i = 0) : sm f n = 0 := by
  induction n with
  | zero => rfl
  | succ n ih => rw [sm, ih (fun i y1 y2 => h i y1 (by omega)), h n (by omega) (by omega)]; rfl
abbrev bt (x v : Int) : Int := x / pw v % 2
theorem bt_rng (x v : Int) : 0 ≤ bt x v ∧ bt x v ≤ 1 := by unfold bt; omega
def farI (a b : Int) : Int := if b < a then a - b else b - a
theorem farI_sym (a b : Int) : farI a b = farI b a := by unfold farI; split <;> split <;> omega
theorem farI_rng {a b m : Int} (ha : 0 ≤ a ∧ a ≤ m) (hb : 0 ≤ b ∧ b ≤ m) : 0 ≤ farI a b ∧ farI a b ≤ m := by unfold farI; split <;> omega
def pairF (A : Int → Int) (set a b : Int) : Int := if bt set a = 1 ∧ bt set b = 1 then farI (A (40 + 6 * a + 1)) (A (40 + 6 * b + 1)) + farI (A (40 + 6 * a + 2)) (A (40 + 6 * b + 2)) else 0
theorem pairF_sym (A : Int → Int) (set a b : Int) : pairF A set a b = pairF A set b a := by
  unfold pairF
  rw [farI_sym (A (40 + 6 * a + 1)), farI_sym (A (40 + 6 * a + 2))]
  by_cases h : bt set a = 1 ∧ bt set b = 1
  · rw [if_pos h, if_pos ⟨h.2, h.1⟩]
  · rw [if_neg h, if_neg (fun z => h ⟨z.2, z.1⟩)]
theorem pairF_rng {A : Int → Int} (hO : okA A) (set : Int) {a b : Int} (ha : 0 ≤ a ∧ a < A 0) (hb : 0 ≤ b ∧ b < A 0) : 0 ≤ pairF A set a b ∧ pairF A set a b ≤ 100 := by
  have h1 := hO.2.1 a ha.1 ha.2
  have h2 := hO.2.1 b hb.1 hb.2
  have h3 := farI_rng (m := 50) h1.2.1 h2.2.1
  have h4 := farI_rng (m := 50) h1.2.2.1 h2.2.2.1
  unfold pairF
  split <;> omega
/-- pairs counted by the later one -/
def nearR (A : Int → Int) (set : Int) (n : Nat) : Int := sm (fun a => sm (fun b => pairF A set a b) a.toNat) n
/-- pairs counted by the earlier one -/
def nearC (A : Int → Int) (set : Int) (m n : Nat) : Int := sm (fun a => sm (fun b => if a < b then pairF A set a b else 0) m) n
theorem near_eq (A : Int → Int) (set : Int) : ∀ n : Nat, nearC A set n n = nearR A set n
  | 0 => rfl
  | n + 1 => by
    have ih := near_eq A set n
    unfold nearC nearR at ih ⊢
    show sm (fun a => sm (fun b => if a < b then pairF A set a b else 0) (n + 1)) n + sm (fun b => if (n : Int) < b then pairF A set (n : Int) b else 0) (n + 1) = sm (fun a => sm (fun b => pairF A set a b) a.toNat) n + sm (fun b => pairF A set (n : Int) b) (n : Int).toNat
    rw [← ih, Int.toNat_natCast]
    have e0 : sm (fun b => if (n : Int) < b then pairF A set (n : Int) b else 0) (n + 1) = 0 := sm_zero _ (fun i h1 h2 => if_neg (by omega))
    have e1 : sm (fun a => sm (fun b => if a < b then pairF A set a b else 0) (n + 1)) n = sm (fun a => sm (fun b => if a < b then pairF A set a b else 0) n + pairF A set (n : Int) a) n := sm_congr n (fun i h1 h2 => by rw [sm, if_pos h2, pairF_sym A set i n])
    rw [e0, e1, sm_add, Int.add_zero]
theorem nearR_rng {A : Int → Int} (hO : okA A) (set : Int) (n : Nat) (hn : (n : Int) ≤ A 0) : 0 ≤ nearR A set n ∧ nearR A set n ≤ 1200 * n := by
  have h0 := hO.1.1
  refine sm_rng n (fun a h1 h2 => ?_)
  have := sm_rng (f := fun b => pairF A set a b) (m := 100) a.toNat (fun b y1 y2 => pairF_rng hO set (by omega) (by omega))
  omega
theorem nearC_rng {A : Int → Int} (hO : okA A) (set : Int) (n : Nat) (hn : (n : Int) ≤ A 0) : 0 ≤ nearC A set (A 0).toNat n ∧ nearC A set (A 0).toNat n ≤ 1200 * n := by
  have h0 := hO.1.1
  refine sm_rng n (fun a h1 h2 => ?_)
  have := sm_rng (f := fun b => if a < b then pairF A set a b else 0) (m := 100) (A 0).toNat (fun b y1 y2 => by
    have := pairF_rng hO set (a := a) (b := b) (by omega) (by omega)
    split <;> omega)
  omega
abbrev nearF (A : Int → Int) (set : Int) : Int := nearR A set (A 0).toNat
def papS (A : Int → Int) (set : Int) (n : Nat) : Int := sm (fun v => bt set v * A (40 + 6 * v + 0)) n
theorem papS_one {A : Int → Int} (hO : okA A) (set : Int) {v : Int} (hv : 0 ≤ v ∧ v < A 0) : 0 ≤ bt set v * A (40 + 6 * v + 0) ∧ bt set v * A (40 + 6 * v + 0) ≤ 9999 := by
  have h1 := hO.2.1 v hv.1 hv.2
  rcases (show bt set v = 0 ∨ bt set v = 1 by have := bt_rng set v; omega) with q | q <;> rw [q] <;> omega
theorem papS_rng {A : Int → Int} (hO : okA A) (set : Int) (n : Nat) (hn : (n : Int) ≤ A 0) : 0 ≤ papS A set n ∧ papS A set n ≤ 9999 * n := sm_rng n (fun v h1 h2 => papS_one hO set (by omega))
abbrev papF (A : Int → Int) (set : Int) : Int := papS A set (A 0).toNat
/-- had ever by an officer of the kin, of the first n orders -/
def kinF (A : Int → Int) (v kin : Int) : Nat → Int
  | 0 => 0
  | n + 1 => b01 (kinF A v kin n ≠ 0 ∨ (A (430 + 5 * (n : Int) + 0) = 0 ∧ A (430 + 5 * (n : Int) + 1) = v ∧ 0 ≤ A (430 + 5 * (n : Int) + 2) ∧ A (360 + 4 * A (430 + 5 * (n : Int) + 2) + 1) = kin))
theorem kinF_rng (A : Int → Int) (v kin : Int) : ∀ n : Nat, kinF A v kin n = 0 ∨ kinF A v kin n = 1
  | 0 => Or.inl rfl
  | n + 1 => b01_or
theorem kinF_stay (A : Int → Int) (v kin : Int) {m : Nat} (h : kinF A v kin m = 1) : ∀ n : Nat, m ≤ n → kinF A v kin n = 1 := by
  intro n hn
  induction n with
  | zero => rw [show m = 0 by omega] at h; exact h
  | succ n ih =>
    by_cases q : m = n + 1
    · rw [← q]; exact h
    · exact (b01_1 (Or.inl (by rw [ih (by omega)]; decide))).symm
abbrev crwP (A : Int → Int) (v : Int) : Prop := heldF A v (A 4) (A 4) < 0
abbrev mayQ (A : Int → Int) (oo v : Int) : Int := b01 (crwP A v ∧ kinF A v (A (360 + 4 * oo + 1)) (A 2).toNat = 0)
def andI (a b : Int) : Int := (iI a &&& iI b).toInt
theorem iI_back (a : Int32) : iI a.toInt = a := Int32.ofInt_toInt a
theorem andI_eq (a b : Int) : iI a &&& iI b = iI (andI a b) := (iI_back _).symm
theorem toInt_in (a : Int32) : vIn a.toInt := ⟨Int32.le_toInt a, by have := Int32.toInt_lt a; omega⟩
theorem andI_in (a b : Int) : vIn (andI a b) := toInt_in _
theorem c_M_farI {T : vSh} {σ : vMem} {a b : Int} (ha : vIn a) (hb : vIn b) (hab : vIn (a - b)) (hba : vIn (b - a)) : mt_M_far [.int (iI a), .int (iI b)] (S0 ++ T) σ (rF (S0 ++ T) σ (farI a b)) := c_M_far ha hb hab hba
/-- the best of the first n sets: its number, how far its paper is from the due -/
def fitS (A : Int → Int) (may due e : Int) : Nat → Int × Int
  | 0 => (-1, e)
  | n + 1 => if andI ((n : Int) + 1) may = (n : Int) + 1 ∧ farI (papF A ((n : Int) + 1)) due ≤ (fitS A may due e n).2 ∧ ¬ (0 ≤ (fitS A may due e n).1 ∧ farI (papF A ((n : Int) + 1)) due = (fitS A may due e n).2 ∧ nearF A (fitS A may due e n).1 ≤ nearF A ((n : Int) + 1)) then ((n : Int) + 1, farI (papF A ((n : Int) + 1)) due) else fitS A may due e n
theorem farI_nn (a b : Int) : 0 ≤ farI a b := by unfold farI; split <;> omega
theorem fitS_rng (A : Int → Int) (may due : Int) {e : Int} (he : 0 ≤ e) : ∀ n : Nat, (-1 ≤ (fitS A may due e n).1 ∧ (fitS A may due e n).1 ≤ n) ∧ (0 ≤ (fitS A may due e n).2 ∧ (fitS A may due e n).2 ≤ e)
  | 0 => by simp [fitS, he]
  | n + 1 => by
    have ih := fitS_rng A may due he n
    have h := farI_nn (papF A ((n : Int) + 1)) due
    unfold fitS
    split
    · dsimp only; omega
    · omega
def mayF (A : Int → Int) (oo : Int) : Int := bitS (mayQ A oo) (A 0).toNat
def rFit (A : Int → Int) (oo e : Int) : Int := if (0 ≤ oo ∧ oo < A 1) ∧ srvF A oo (A 4) ∧ 0 ≤ e ∧ e ≤ 9999 then (fitS A (mayF A oo) (dueY A oo (A 4) (A 4)) e (pw (A 0) - 1).toNat).1 else -1
theorem pw_mono : ∀ n : Nat, n ≤ 12 → pw (n : Int) ≤ 4096 := by decide +kernel
theorem pw12 {v : Int} (h : 0 ≤ v ∧ v ≤ 12) : 1 ≤ pw v ∧ pw v ≤ 4096 := by
  have h1 := pw_pos v
  have h2 := pw_mono v.toNat (by omega)
  rw [show ((v.toNat : Nat) : Int) = v by omega] at h2
  omega
def rHolder (A : Int → Int) (v d k : Int) : Int := if (0 ≤ v ∧ v < A 0) ∧ (0 ≤ d ∧ d < 1200) ∧ 0 ≤ k ∧ k ≤ A 4 then heldF A v d k else -2
def rRank (A : Int → Int) (oo d k : Int) : Int := if (0 ≤ oo ∧ oo < A 1) ∧ (0 ≤ d ∧ d < 1200) ∧ (0 ≤ k ∧ k ≤ A 4) ∧ srvF A oo d then rankF A oo d k else -1
def rOrder (A : Int → Int) (i w : Int) : Int := if (0 ≤ i ∧ i < A 2) ∧ 0 ≤ w ∧ w ≤ 4 then A (430 + 5 * i + w) else -2
def rFault (A : Int → Int) (w : Int) : Int := if w = 0 then A 8 else if w = 1 then A 9 else -1
