/-! ===== dealing villages out ===== -/
abbrev pcn (set : Int) (n : Nat) : Int := sm (fun i => bt set i) n
theorem pcn_rng (set : Int) (n : Nat) : 0 ≤ pcn set n ∧ pcn set n ≤ n := by
  have h := sm_rng (f := fun i => bt set i) (m := 1) n (fun i _ _ => bt_rng set i)
  unfold pcn
  omega
theorem pcn_succ (set : Int) (n : Nat) : pcn set (n + 1) = pcn set n + bt set (n : Int) := rfl
def ppl (set : Int) : Nat → Int → Int
  | 0 => fun _ => 0
  | n + 1 => if bt set (n : Int) = 1 then upF (ppl set n) (pcn set n) (n : Int) else ppl set n
theorem ppl_rng (set : Int) : ∀ (n : Nat) (i : Int), 0 ≤ i → i < pcn set n → 0 ≤ ppl set n i ∧ ppl set n i < n
  | 0, i, h1, h2 => by simp [pcn, sm] at h2; omega
  | n + 1, i, h1, h2 => by
    have ih := ppl_rng set n i h1
    rw [pcn_succ] at h2
    have hb := bt_rng set n
    unfold ppl
    by_cases q : bt set (n : Int) = 1
    · rw [if_pos q]
      by_cases q2 : i = pcn set n
      · rw [q2, upF_s]; omega
      · rw [upF_n q2]
        have := ih (by omega)
        omega
    · rw [if_neg q]
      have := ih (by omega)
      omega
def okN (A : Int → Int) (set : Int) : Nat → Int
  | 0 => 1
  | n + 1 => if okN A set n = 0 then 0 else if bt set (n : Int) = 0 then 1 else b01 (pcn set n ≠ 3 ∧ srvF A (n : Int) (A 4))
theorem okN_rng (A : Int → Int) (set : Int) : ∀ n : Nat, okN A set n = 0 ∨ okN A set n = 1
  | 0 => Or.inr rfl
  | n + 1 => by
    unfold okN
    split
    · exact Or.inl rfl
    · split
      · exact Or.inr rfl
      · exact b01_or
theorem okN_stop (A : Int → Int) (set : Int) {m : Nat} (h : okN A set m = 0) : ∀ n : Nat, m ≤ n → okN A set n = 0 := by
  intro n hn
  induction n with
  | zero => rw [show m = 0 by omega] at h; exact h
  | succ n ih =>
    by_cases q : m = n + 1
    · rw [← q]; exact h
    · rw [okN, if_pos (ih (by omega))]
theorem b01_e1 {p : Prop} [Decidable p] : b01 p = 1 ↔ p := by
  by_cases q : p
  · exact ⟨fun _ => q, fun _ => (b01_1 q).symm⟩
  · refine ⟨fun h => ?_, fun z => absurd z q⟩
    rw [← b01_0 q] at h
    omega
theorem okN_iff (A : Int → Int) (set : Int) : ∀ n : Nat, okN A set n = 1 ↔ (∀ i : Int, 0 ≤ i → i < n → bt set i = 1 → srvF A i (A 4)) ∧ pcn set n ≤ 3
  | 0 => ⟨fun _ => ⟨fun i h1 h2 => by omega, by simp [pcn, sm]⟩, fun _ => rfl⟩
  | n + 1 => by
    have ih := okN_iff A set n
    have hr := okN_rng A set n
    have hb := bt_rng set n
    have hc := pcn_rng set n
    rw [pcn_succ, okN]
    constructor
    · intro h
      by_cases q0 : okN A set n = 0
      · rw [if_pos q0] at h; omega
      · rw [if_neg q0] at h
        obtain ⟨i1, i2⟩ := ih.mp (by omega)
        by_cases q1 : bt set (n : Int) = 0
        · refine ⟨fun i h1 h2 h3 => ?_, by omega⟩
          rcases (show i < (n : Int) ∨ i = n by omega) with z | z
          · exact i1 i h1 z h3
          · rw [z] at h3; omega
        · rw [if_neg q1, b01_e1] at h
          refine ⟨fun i h1 h2 h3 => ?_, by omega⟩
          rcases (show i < (n : Int) ∨ i = n by omega) with z | z
          · exact i1 i h1 z h3
          · rw [z]; exact h.2
    · rintro ⟨h1, h2⟩
      have i1 := ih.mpr ⟨fun i y1 y2 y3 => h1 i y1 (by omega) y3, by omega⟩
      rw [i1, if_neg (by decide)]
      by_cases q1 : bt set (n : Int) = 0
      · rw [if_pos q1]
      · rw [if_neg q1, b01_e1]
        exact ⟨by omega, h1 n (by omega) (by omega) (by omega)⟩
abbrev dlP (A : Int → Int) (set : Int) : Prop := (0 < set ∧ set < pw (A 1)) ∧ okN A set (A 1).toNat = 1
def ltN (A : Int → Int) : Nat → Int
  | 0 => 0
  | n + 1 => if ltN A n < 7 ∧ crwP A (n : Int) then ltN A n + 1 else ltN A n
theorem ltN_rng (A : Int → Int) : ∀ n : Nat, 0 ≤ ltN A n ∧ ltN A n ≤ 7 ∧ ltN A n ≤ n
  | 0 => by simp [ltN]
  | n + 1 => by
    have ih := ltN_rng A n
    unfold ltN
    split <;> omega
def ltF (A : Int → Int) : Nat → Int → Int
  | 0 => fun _ => 0
  | n + 1 => if ltN A n < 7 ∧ crwP A (n : Int) then upF (ltF A n) (ltN A n) (n : Int) else ltF A n
theorem lt_stop (A : Int → Int) {m : Nat} (h : ¬ ltN A m < 7) : ∀ n : Nat, m ≤ n → ltN A n = ltN A m ∧ ltF A n = ltF A m := by
  intro n hn
  induction n with
  | zero => rw [show m = 0 by omega]; exact ⟨rfl, rfl⟩
  | succ n ih =>
    by_cases q : m = n + 1
    · rw [← q]; exact ⟨rfl, rfl⟩
    · obtain ⟨e1, e2⟩ := ih (by omega)
      rw [ltN, ltF, if_neg (by rw [e1]; omega), if_neg (by rw [e1]; omega)]
      exact ⟨e1, e2⟩
theorem ltF_rng (A : Int → Int) : ∀ (n : Nat) (i : Int), 0 ≤ i → i < ltN A n → 0 ≤ ltF A n i ∧ ltF A n i < n
  | 0, i, h1, h2 => by simp [ltN] at h2; omega
  | n + 1, i, h1, h2 => by
    have ih := ltF_rng A n i h1
    unfold ltN at h2
    unfold ltF
    by_cases q : ltN A n < 7 ∧ crwP A (n : Int)
    · rw [if_pos q] at h2 ⊢
      by_cases q2 : i = ltN A n
      · rw [q2, upF_s]; omega
      · rw [upF_n q2]
        have := ih (by omega)
        omega
    · rw [if_neg q] at h2 ⊢
      have := ih (by omega)
      omega
abbrev dP (A : Int → Int) (set : Int) : Int := pcn set (A 1).toNat
abbrev dWho (A : Int → Int) (set i : Int) : Int := ppl set (A 1).toNat i
abbrev dDue (A : Int → Int) (set i : Int) : Int := dueY A (dWho A set i) (A 4) (A 4)
abbrev dL (A : Int → Int) : Int := ltN A (A 0).toNat
abbrev dLot (A : Int → Int) (k : Int) : Int := ltF A (A 0).toNat k
abbrev dPa (A : Int → Int) (k : Int) : Int := A (40 + 6 * dLot A k + 0)
theorem dLot_rng {A : Int → Int} (hO : okA A) {k : Int} (h : 0 ≤ k ∧ k < dL A) : 0 ≤ dLot A k ∧ dLot A k < A 0 := by
  have h0 := hO.1.1
  have : 0 ≤ dLot A k ∧ dLot A k < (A 0).toNat := ltF_rng A (A 0).toNat k h.1 h.2
  omega
theorem dPa_rng {A : Int → Int} (hO : okA A) {k : Int} (h : 0 ≤ k ∧ k < dL A) : 1 ≤ dPa A k ∧ dPa A k ≤ 9999 := by
  have h1 := dLot_rng hO h
  exact (hO.2.1 _ h1.1 h1.2).1
theorem dWho_rng {A : Int → Int} (hO : okA A) {set i : Int} (h : 0 ≤ i ∧ i < dP A set) : 0 ≤ dWho A set i ∧ dWho A set i < A 1 := by
  have h0 := hO.1.2.1
  have : 0 ≤ dWho A set i ∧ dWho A set i < (A 1).toNat := ppl_rng set (A 1).toNat i h.1 h.2
  omega
theorem dDue_rng {A : Int → Int} (hO : okA A) (set i : Int) : 0 ≤ dDue A set i ∧ dDue A set i ≤ 159984 := dueY_rng hO _ _ _
/-! by the rule: whom each lot goes to (-1: not yet, the number of people: to nobody), what each lacks -/
def grF (A ch : Int → Int) : Nat → Int
  | 0 => -1
  | k + 1 => if ch (k : Int) = -1 ∧ (grF A ch k < 0 ∨ dPa A (grF A ch k) < dPa A (k : Int)) then (k : Int) else grF A ch k
theorem grF_rng (A ch : Int → Int) : ∀ n : Nat, -1 ≤ grF A ch n ∧ grF A ch n < n
  | 0 => by simp [grF]
  | n + 1 => by
    have := grF_rng A ch n
    unfold grF
    split <;> omega
theorem grF_ok (A ch : Int → Int) : ∀ n : Nat, 0 ≤ grF A ch n → ch (grF A ch n) = -1
  | 0 => fun h => by simp [grF] at h
  | n + 1 => fun h => by
    have ih := grF_ok A ch n
    unfold grF at h ⊢
    split
    · rename_i q; exact q.1
    · rename_i q
      rw [if_neg q] at h
      exact ih h
theorem grF_has (A ch : Int → Int) {k : Int} (hk : 0 ≤ k) (hc : ch k = -1) : ∀ n : Nat, k < n → 0 ≤ grF A ch n
  | 0, h => by omega
  | n + 1, h => by
    have ih := grF_has A ch hk hc n
    unfold grF
    split
    · omega
    · rename_i q
      by_cases z : k < (n : Int)
      · exact ih z
      · rw [show k = (n : Int) by omega] at hc
        by_cases w : 0 ≤ grF A ch n
        · exact w
        · exact absurd ⟨hc, Or.inl (by omega)⟩ q
def neF (lk : Int → Int) : Nat → Int
  | 0 => 0
  | i + 1 => if lk (neF lk i) < lk (i : Int) then (i : Int) else neF lk i
theorem neF_rng (lk : Int → Int) : ∀ n : Nat, 0 ≤ neF lk n ∧ (neF lk n < n ∨ neF lk n = 0)
  | 0 => by simp [neF]
  | n + 1 => by
    have := neF_rng lk n
    unfold neF
    split <;> omega
abbrev RuT : Type := (Int → Int) × (Int → Int)
def ruS (A : Int → Int) (set : Int) (st : RuT) : RuT :=
  if 2 * st.2 (neF st.2 (dP A set).toNat) < dPa A (grF A st.1 (dL A).toNat) then (upF st.1 (grF A st.1 (dL A).toNat) (dP A set), st.2)
  else (upF st.1 (grF A st.1 (dL A).toNat) (neF st.2 (dP A set).toNat), upF st.2 (neF st.2 (dP A set).toNat) (st.2 (neF st.2 (dP A set).toNat) - dPa A (grF A st.1 (dL A).toNat)))
def ruR (A : Int → Int) (set : Int) : Nat → RuT
  | 0 => (fun _ => -1, fun i => dDue A set i)
  | n + 1 => ruS A set (ruR A set n)
/-- how many lots are not dealt yet -/
def ruU (ch : Int → Int) (n : Nat) : Int := sm (fun k => b01 (ch k = -1)) n
theorem ruU_up {ch : Int → Int} {i v : Int} {n : Nat} (h1 : 0 ≤ i ∧ i < n) (h2 : ch i = -1) (h3 : v ≠ -1) : ruU (upF ch i v) n = ruU ch n - 1 := by
  unfold ruU
  have e : sm (fun k => b01 (upF ch i v k = -1)) n = sm (upF (fun k => b01 (ch k = -1)) i 0) n := sm_congr n (fun k _ _ => by
    unfold upF
    split
    · exact (b01_0 h3).symm
    · rfl)
  rw [e, sm_up h1.1, if_pos h1.2, ← b01_1 h2]
  omega
theorem ruU_has {ch : Int → Int} {n : Nat} (h : 0 < ruU ch n) : ∃ k : Int, 0 ≤ k ∧ k < n ∧ ch k = -1 := by
  induction n with
  | zero => simp [ruU, sm] at h
  | succ n ih =>
    by_cases q : ch (n : Int) = -1
    · exact ⟨n, by omega, by omega, q⟩
    · have e : ruU ch (n + 1) = ruU ch n + b01 (ch (n : Int) = -1) := rfl
      rw [e, ← b01_0 q] at h
      obtain ⟨k, k1, k2, k3⟩ := ih (by omega)
      exact ⟨k, k1, by omega, k3⟩
def okRu (A : Int → Int) (set : Int) (n : Nat) (st : RuT) : Prop := ruU st.1 (dL A).toNat = dL A - n ∧ (∀ k, 0 ≤ k → k < dL A → -1 ≤ st.1 k ∧ st.1 k ≤ dP A set) ∧ ∀ i, 0 ≤ i → i < dP A set → -9999 * (n : Int) ≤ st.2 i ∧ st.2 i ≤ 159984
theorem gr_has {A : Int → Int} {set : Int} {n : Nat} {st : RuT} (h : okRu A set n st) (hn : (n : Int) < dL A) : 0 ≤ grF A st.1 (dL A).toNat ∧ grF A st.1 (dL A).toNat < dL A := by
  have hL : 0 ≤ dL A ∧ dL A ≤ 7 ∧ dL A ≤ (A 0).toNat := ltN_rng A (A 0).toNat
  obtain ⟨k, k1, k2, k3⟩ := ruU_has (ch := st.1) (n := (dL A).toNat) (by have := h.1; omega)
  have h1 := grF_has A st.1 k1 k3 (dL A).toNat k2
  have h2 := grF_rng A st.1 (dL A).toNat
  omega
theorem ruS_ok {A : Int → Int} (hO : okA A) {set : Int} {n : Nat} {st : RuT} (hP : 0 < dP A set) (h : okRu A set n st) (hn : (n : Int) < dL A) : okRu A set (n + 1) (ruS A set st) := by
  have hg := gr_has h hn
  have hgo := grF_ok A st.1 (dL A).toNat hg.1
  have hpa : 1 ≤ dPa A (grF A st.1 (dL A).toNat) ∧ dPa A (grF A st.1 (dL A).toNat) ≤ 9999 := dPa_rng hO hg
  have hne := neF_rng st.2 (dP A set).toNat
  obtain ⟨a1, a2, a3⟩ := h
  have hw := a3 (neF st.2 (dP A set).toNat) (by omega) (by omega)
  unfold ruS
  by_cases q : 2 * st.2 (neF st.2 (dP A set).toNat) < dPa A (grF A st.1 (dL A).toNat)
  · rw [if_pos q]
    refine ⟨?_, ?_, ?_⟩
    · dsimp only; rw [ruU_up (by omega) hgo (by omega)]; omega
    · intro k k1 k2
      dsimp only
      unfold upF
      split
      · omega
      · exact a2 k k1 k2
    · intro i i1 i2
      have := a3 i i1 i2
      dsimp only
      omega
  · rw [if_neg q]
    refine ⟨?_, ?_, ?_⟩
    · dsimp only; rw [ruU_up (by omega) hgo (by omega)]; omega
    · intro k k1 k2
      dsimp only
      unfold upF
      split
      · omega
      · exact a2 k k1 k2
    · intro i i1 i2
      have := a3 i i1 i2
      dsimp only
      unfold upF
      split <;> omega
theorem ru0_ok {A : Int → Int} (hO : okA A) (set : Int) : okRu A set 0 (ruR A set 0) := by
  have hL : 0 ≤ dL A ∧ dL A ≤ 7 ∧ dL A ≤ (A 0).toNat := ltN_rng A (A 0).toNat
  have hP : 0 ≤ dP A set ∧ dP A set ≤ (A 1).toNat := pcn_rng set (A 1).toNat
  refine ⟨?_, fun k _ _ => ⟨by show (-1 : Int) ≤ -1; decide, by show (-1 : Int) ≤ dP A set; omega⟩, fun i _ _ => ?_⟩
  · have e : ruU (ruR A set 0).1 (dL A).toNat = ((dL A).toNat : Int) := sm_all _ (fun i _ _ => (b01_1 rfl).symm)
    rw [e]; omega
  · have h := dDue_rng hO set i
    show -9999 * ((0 : Nat) : Int) ≤ dDue A set i ∧ dDue A set i ≤ 159984
    omega
theorem ruR_ok {A : Int → Int} (hO : okA A) {set : Int} (hP : 0 < dP A set) : ∀ n : Nat, (n : Int) ≤ dL A → okRu A set n (ruR A set n)
  | 0, _ => ru0_ok hO set
  | n + 1, h => ruS_ok hO hP (ruR_ok hO hP n (by omega)) (by omega)
def gapF (A : Int → Int) (set : Int) (lk : Int → Int) (n : Nat) : Int := sm (fun i => vAb (lk i)) n
