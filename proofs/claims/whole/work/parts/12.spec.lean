/-! ===== the mathematical picture: A is the row of all that is told ===== -/
abbrev okO (A : Int → Int) (kind whose dd k i : Int) : Prop := A (430 + 5 * i + 0) = kind ∧ A (430 + 5 * i + (1 + kind)) = whose ∧ A (430 + 5 * i + 3) ≤ dd ∧ A (430 + 5 * i + 4) ≤ k
/-- the latest of the first n orders that count -/
def latF (A : Int → Int) (kind whose dd k : Int) : Nat → Int
  | 0 => -1
  | n + 1 => if okO A kind whose dd k (n : Int) ∧ (latF A kind whose dd k n < 0 ∨ A (430 + 5 * latF A kind whose dd k n + 3) ≤ A (430 + 5 * (n : Int) + 3)) then (n : Int) else latF A kind whose dd k n
theorem latF_rng (A : Int → Int) (kind whose dd k : Int) : ∀ n : Nat, -1 ≤ latF A kind whose dd k n ∧ latF A kind whose dd k n < n
  | 0 => by simp [latF]
  | n + 1 => by
    have h := latF_rng A kind whose dd k n
    unfold latF
    split <;> omega
theorem latF_ok (A : Int → Int) (kind whose dd k : Int) : ∀ n : Nat, 0 ≤ latF A kind whose dd k n → okO A kind whose dd k (latF A kind whose dd k n)
  | 0 => fun h => by simp [latF] at h
  | n + 1 => fun h => by
    have ih := latF_ok A kind whose dd k n
    unfold latF at h ⊢
    split
    · rename_i q; exact q.1
    · rename_i q
      rw [if_neg q] at h
      exact ih h
abbrev srvF (A : Int → Int) (o dd : Int) : Prop := A (360 + 4 * o + 2) ≤ dd ∧ (A (360 + 4 * o + 3) < 0 ∨ dd < A (360 + 4 * o + 3))
def ordH (A : Int → Int) (v dd k : Int) : Int := if latF A 0 v dd k (A 2).toNat < 0 then -1 else A (430 + 5 * latF A 0 v dd k (A 2).toNat + 2)
def heldF (A : Int → Int) (v dd k : Int) : Int := if 0 ≤ ordH A v dd k ∧ srvF A (ordH A v dd k) dd then ordH A v dd k else -1
def rankF (A : Int → Int) (o dd k : Int) : Int := if latF A 1 o dd k (A 2).toNat < 0 then A (360 + 4 * o + 0) else A (430 + 5 * latF A 1 o dd k (A 2).toNat + 1)
/-- the last word that a writer said of a village and season -/
def lastF (A : Int → Int) (w v s k : Int) : Nat → Int
  | 0 => -1
  | n + 1 => if A (930 + 5 * (n : Int) + 0) = w ∧ A (930 + 5 * (n : Int) + 1) = v ∧ A (930 + 5 * (n : Int) + 2) = s ∧ A (930 + 5 * (n : Int) + 4) ≤ k then (n : Int) else lastF A w v s k n
theorem lastF_rng (A : Int → Int) (w v s k : Int) : ∀ n : Nat, -1 ≤ lastF A w v s k n ∧ lastF A w v s k n < n
  | 0 => by simp [lastF]
  | n + 1 => by
    have h := lastF_rng A w v s k n
    unfold lastF
    split <;> omega
def lastW (A : Int → Int) (w v s k : Int) : Int := lastF A w v s k (A 6).toNat
theorem lastW_rng (A : Int → Int) (w v s k : Int) (h : 0 ≤ A 6) : -1 ≤ lastW A w v s k ∧ lastW A w v s k < A 6 := by
  have := lastF_rng A w v s k (A 6).toNat
  unfold lastW
  omega
def famN (A : Int → Int) (v s k : Int) : Nat → Int
  | 0 => 0
  | n + 1 => famN A v s k n + b01 (0 ≤ lastW A (n : Int) v s k ∧ 4 * A (930 + 5 * lastW A (n : Int) v s k + 3) < A (40 + 6 * v + 0))
theorem b01_rng {p : Prop} [Decidable p] : 0 ≤ b01 p ∧ b01 p ≤ 1 := by
  by_cases q : p <;> simp [b01, q]
theorem famN_rng (A : Int → Int) (v s k : Int) : ∀ n : Nat, 0 ≤ famN A v s k n ∧ famN A v s k n ≤ n
  | 0 => by simp [famN]
  | n + 1 => by
    have h := famN_rng A v s k n
    have h2 := b01_rng (p := 0 ≤ lastW A (n : Int) v s k ∧ 4 * A (930 + 5 * lastW A (n : Int) v s k + 3) < A (40 + 6 * v + 0))
    unfold famN
    omega
abbrev famP (A : Int → Int) (v s k : Int) : Prop := 2 ≤ famN A v s k 5
def famZ (A : Int → Int) (oo dd k : Int) : Nat → Int
  | 0 => 0
  | n + 1 => b01 (famZ A oo dd k n ≠ 0 ∨ (heldF A (n : Int) dd k = oo ∧ famP A (n : Int) (dd / 60) k))
theorem famZ_rng (A : Int → Int) (oo dd k : Int) : ∀ n : Nat, famZ A oo dd k n = 0 ∨ famZ A oo dd k n = 1
  | 0 => Or.inl rfl
  | n + 1 => b01_or
def cntF (A : Int → Int) (oo dd k : Int) : Nat → Int
  | 0 => 0
  | n + 1 => cntF A oo dd k n + b01 (heldF A (n : Int) dd k = oo)
theorem cntF_rng (A : Int → Int) (oo dd k : Int) : ∀ n : Nat, 0 ≤ cntF A oo dd k n ∧ cntF A oo dd k n ≤ n
  | 0 => by simp [cntF]
  | n + 1 => by
    have h := cntF_rng A oo dd k n
    have h2 := b01_rng (p := heldF A (n : Int) dd k = oo)
    unfold cntF
    omega
def askF (A : Int → Int) (what oo dd k : Int) : Int :=
  if what = 1 then famZ A oo dd k (A 0).toNat else if what = 2 then rankF A oo dd k else if what = 3 then (dd - A (360 + 4 * oo + 2)) / 120 else if what = 4 then A (360 + 4 * oo + 1) else if what = 5 then dd / 60 % 2 else cntF A oo dd k (A 0).toNat
abbrev cmpP (sg v n : Int) : Prop := (sg = 60 ∧ v < n) ∨ (sg ≠ 60 ∧ sg = 62 ∧ n < v) ∨ (sg ≠ 60 ∧ sg ≠ 62 ∧ v = n)
/-- the test t of the line at row holds -/
abbrev tstP (A : Int → Int) (row t oo dd k : Int) : Prop := ¬ (b01 (cmpP (A (row + 1 + 4 * t + 2)) (askF A (A (row + 1 + 4 * t + 1)) oo dd k) (A (row + 1 + 4 * t + 3))) = b01 (A (row + 1 + 4 * t) = 1))
def holdF (A : Int → Int) (row oo dd k : Int) : Nat → Int
  | 0 => 1
  | t + 1 => if holdF A row oo dd k t = 0 then 0 else b01 (tstP A row (t : Int) oo dd k)
theorem holdF_step (A : Int → Int) (row oo dd k : Int) {j : Nat} {i so v n : Int} (hi : i = j) (hz : holdF A row oo dd k j = 1) (e2 : v = askF A (A (row + 1 + 4 * i + 1)) oo dd k) (e3 : n = A (row + 1 + 4 * i + 3)) (e4 : so = b01 (cmpP (A (row + 1 + 4 * i + 2)) v n)) : holdF A row oo dd k (j + 1) = b01 (¬ (so = b01 (A (row + 1 + 4 * i) = 1))) := by
  subst hi; subst e2; subst e3; subst e4
  rw [holdF, hz, if_neg (by decide)]
theorem holdF_rng (A : Int → Int) (row oo dd k : Int) : ∀ n : Nat, holdF A row oo dd k n = 0 ∨ holdF A row oo dd k n = 1
  | 0 => Or.inr rfl
  | n + 1 => by
    unfold holdF
    split
    · exact Or.inl rfl
    · exact b01_or
theorem holdF_stop (A : Int → Int) (row oo dd k : Int) {t : Nat} (h : holdF A row oo dd k t = 0) : ∀ n : Nat, t ≤ n → holdF A row oo dd k n = 0 := by
  intro n hn
  induction n with
  | zero => rw [show t = 0 by omega] at h; exact h
  | succ n ih =>
    by_cases q : t = n + 1
    · rw [← q]; exact h
    · rw [holdF, if_pos (ih (by omega))]
def reF (A : Int → Int) (dd : Int) : Nat → Int
  | 0 => -1
  | n + 1 => if A (10 + 2 * (n : Int)) ≤ dd then (n : Int) else reF A dd n
theorem reF_rng (A : Int → Int) (dd : Int) : ∀ n : Nat, -1 ≤ reF A dd n ∧ reF A dd n < n
  | 0 => by simp [reF]
  | n + 1 => by
    have h := reF_rng A dd n
    unfold reF
    split <;> omega
/-! ===== what holds always ===== -/
def okHd (A : Int → Int) : Prop := (0 ≤ A 0 ∧ A 0 ≤ 12) ∧ (0 ≤ A 1 ∧ A 1 ≤ 10) ∧ (0 ≤ A 2 ∧ A 2 ≤ 100) ∧ (0 ≤ A 3 ∧ A 3 ≤ 4) ∧ (0 ≤ A 4 ∧ A 4 ≤ 1199) ∧ (0 ≤ A 5 ∧ A 5 ≤ 12) ∧ (0 ≤ A 6 ∧ A 6 ≤ 100) ∧ (0 ≤ A 7 ∧ A 7 ≤ 500)
def okVi (A : Int → Int) : Prop := ∀ v, 0 ≤ v → v < A 0 → (1 ≤ A (40 + 6 * v + 0) ∧ A (40 + 6 * v + 0) ≤ 9999) ∧ (0 ≤ A (40 + 6 * v + 1) ∧ A (40 + 6 * v + 1) ≤ 50) ∧ (0 ≤ A (40 + 6 * v + 2) ∧ A (40 + 6 * v + 2) ≤ 50) ∧ (0 ≤ A (40 + 6 * v + 3) ∧ A (40 + 6 * v + 3) ≤ 100) ∧ (50 ≤ A (40 + 6 * v + 4) ∧ A (40 + 6 * v + 4) ≤ 150)
def okWe (A : Int → Int) : Prop := ∀ s, 0 ≤ s → s < 20 → 0 ≤ A (20 + s) ∧ A (20 + s) ≤ 200
def okCo (A : Int → Int) : Prop := ∀ v s, 0 ≤ v → v < A 0 → 0 ≤ s → s < 20 → 0 ≤ A (120 + 20 * v + s) ∧ A (120 + 20 * v + s) ≤ 15000
def okOf (A : Int → Int) : Prop := ∀ i, 0 ≤ i → i < A 1 → (0 ≤ A (360 + 4 * i + 0) ∧ A (360 + 4 * i + 0) ≤ 9) ∧ (0 ≤ A (360 + 4 * i + 1) ∧ A (360 + 4 * i + 1) ≤ 9) ∧ (0 ≤ A (360 + 4 * i + 2) ∧ A (360 + 4 * i + 2) ≤ A 4) ∧ (-1 ≤ A (360 + 4 * i + 3) ∧ A (360 + 4 * i + 3) ≤ A 4)
def okBo (A : Int → Int) : Prop := ∀ i, 0 ≤ i → i < A 2 → ((A (430 + 5 * i + 0) = 0 ∧ 0 ≤ A (430 + 5 * i + 1) ∧ A (430 + 5 * i + 1) < A 0 ∧ -1 ≤ A (430 + 5 * i + 2) ∧ A (430 + 5 * i + 2) < A 1) ∨ (A (430 + 5 * i + 0) = 1 ∧ 0 ≤ A (430 + 5 * i + 1) ∧ A (430 + 5 * i + 1) ≤ 9 ∧ 0 ≤ A (430 + 5 * i + 2) ∧ A (430 + 5 * i + 2) < A 1)) ∧ (0 ≤ A (430 + 5 * i + 3) ∧ A (430 + 5 * i + 3) ≤ 1199) ∧ (0 ≤ A (430 + 5 * i + 4) ∧ A (430 + 5 * i + 4) ≤ A 4)
def okWo (A : Int → Int) : Prop := ∀ i, 0 ≤ i → i < A 6 → (0 ≤ A (930 + 5 * i + 0) ∧ A (930 + 5 * i + 0) ≤ 4) ∧ (0 ≤ A (930 + 5 * i + 1) ∧ A (930 + 5 * i + 1) < A 0) ∧ (0 ≤ A (930 + 5 * i + 2) ∧ A (930 + 5 * i + 2) ≤ 19) ∧ (0 ≤ A (930 + 5 * i + 3) ∧ A (930 + 5 * i + 3) ≤ 9999) ∧ (0 ≤ A (930 + 5 * i + 4) ∧ A (930 + 5 * i + 4) ≤ A 4)
def okMo (A : Int → Int) : Prop := ∀ i, 0 ≤ i → i < A 5 → (0 ≤ A (400 + 2 * i) ∧ A (400 + 2 * i) < A 1) ∧ (0 ≤ A (400 + 2 * i + 1) ∧ A (400 + 2 * i + 1) < A 0)
def okRe (A : Int → Int) : Prop := ∀ r, 0 ≤ r → r < A 3 → (0 ≤ A (10 + 2 * r) ∧ A (10 + 2 * r) ≤ 1199) ∧ (0 ≤ A (10 + 2 * r + 1) ∧ A (10 + 2 * r + 1) ≤ 16)
/-- what a line holds: its tests, its deed -/
def okLn (A : Int → Int) (row : Int) : Prop := (0 ≤ A row ∧ A row ≤ 4) ∧ (∀ t, 0 ≤ t → t < A row → (A (row + 1 + 4 * t) = 0 ∨ A (row + 1 + 4 * t) = 1) ∧ (1 ≤ A (row + 1 + 4 * t + 1) ∧ A (row + 1 + 4 * t + 1) ≤ 6) ∧ (60 ≤ A (row + 1 + 4 * t + 2) ∧ A (row + 1 + 4 * t + 2) ≤ 62) ∧ (0 ≤ A (row + 1 + 4 * t + 3) ∧ A (row + 1 + 4 * t + 3) ≤ 9999) ∧ (A (row + 1 + 4 * t + 1) = 1 → A (row + 1 + 4 * t + 2) = 61 ∧ A (row + 1 + 4 * t + 3) = 1)) ∧ (20 ≤ A (row + 17) ∧ A (row + 17) ≤ 25) ∧ (0 ≤ A (row + 18) ∧ A (row + 18) ≤ 9999) ∧ (A (row + 17) = 21 ∨ A (row + 17) = 23 → A (row + 18) ≤ 100) ∧ (A (row + 17) = 22 → 1 ≤ A (row + 18) ∧ A (row + 18) ≤ 12) ∧ (A (row + 17) = 24 → 50 ≤ A (row + 18) ∧ A (row + 18) ≤ 150)
def okLi (A : Int → Int) : Prop := ∀ r l, 0 ≤ r → r < A 3 → 0 ≤ l → l < A (10 + 2 * r + 1) → okLn A (1430 + 320 * r + 20 * l)
def okTa (A : Int → Int) : Prop := ∀ i, 0 ≤ i → i < A 7 → 0 ≤ A (2710 + i) ∧ A (2710 + i) ≤ 255
def okA (A : Int → Int) : Prop := okHd A ∧ okVi A ∧ okWe A ∧ okCo A ∧ okOf A ∧ okBo A ∧ okWo A ∧ okMo A ∧ okRe A ∧ okLi A ∧ okTa A
/-! the scale: pay, months, crown, take, and 1 while it goes on -/
abbrev Sc5 : Type := Int × Int × Int × Int × Int
def scA (p : Sc5) (a n : Int) : Sc5 :=
  if a = 20 then (p.1 + n, p.2.1, p.2.2.1, p.2.2.2.1, 1) else if a = 21 then (p.1 - p.1 * n / 100, p.2.1, p.2.2.1, p.2.2.2.1, 1) else if a = 22 then (p.1, n, p.2.2.1, p.2.2.2.1, 1) else if a = 23 then (p.1, p.2.1, n, p.2.2.2.1, 1) else if a = 24 then (p.1, p.2.1, p.2.2.1, n, 1) else (p.1, p.2.1, p.2.2.1, p.2.2.2.1, 0)
def scS (A : Int → Int) (oo dd k r : Int) : Nat → Sc5
  | 0 => (0, 12, 0, 150, 1)
  | l + 1 => if (scS A oo dd k r l).2.2.2.2 = 0 then scS A oo dd k r l else if holdF A (1430 + 320 * r + 20 * (l : Int)) oo dd k (A (1430 + 320 * r + 20 * (l : Int))).toNat = 0 then scS A oo dd k r l else scA (scS A oo dd k r l) (A (1430 + 320 * r + 20 * (l : Int) + 17)) (A (1430 + 320 * r + 20 * (l : Int) + 18))
theorem scS_stop (A : Int → Int) (oo dd k r : Int) {t : Nat} (h : (scS A oo dd k r t).2.2.2.2 = 0) : ∀ n : Nat, t ≤ n → scS A oo dd k r n = scS A oo dd k r t := by
  intro n hn
  induction n with
  | zero => rw [show t = 0 by omega]
  | succ n ih =>
    by_cases q : t = n + 1
    · rw [← q]
    · have e := ih (by omega)
      rw [scS, e, if_pos h]
theorem scA_rng {p : Sc5} {a n : Int} {b : Int} (h : (0 ≤ p.1 ∧ p.1 ≤ b) ∧ (1 ≤ p.2.1 ∧ p.2.1 ≤ 12) ∧ (0 ≤ p.2.2.1 ∧ p.2.2.1 ≤ 100) ∧ (50 ≤ p.2.2.2.1 ∧ p.2.2.2.1 ≤ 150) ∧ (p.2.2.2.2 = 0 ∨ p.2.2.2.2 = 1)) (h1 : 20 ≤ a ∧ a ≤ 25) (h2 : 0 ≤ n ∧ n ≤ 9999) (h3 : a = 21 ∨ a = 23 → n ≤ 100) (h4 : a = 22 → 1 ≤ n ∧ n ≤ 12) (h5 : a = 24 → 50 ≤ n ∧ n ≤ 150) :
    (0 ≤ (scA p a n).1 ∧ (scA p a n).1 ≤ b + 9999) ∧ (1 ≤ (scA p a n).2.1 ∧ (scA p a n).2.1 ≤ 12) ∧ (0 ≤ (scA p a n).2.2.1 ∧ (scA p a n).2.2.1 ≤ 100) ∧ (50 ≤ (scA p a n).2.2.2.1 ∧ (scA p a n).2.2.2.1 ≤ 150) ∧ ((scA p a n).2.2.2.2 = 0 ∨ (scA p a n).2.2.2.2 = 1) := by
  have hm : a = 21 → 0 ≤ p.1 * n ∧ p.1 * n ≤ 100 * p.1 := by
    intro q
    have q2 := h3 (Or.inl q)
    refine ⟨Int.mul_nonneg h.1.1 h2.1, ?_⟩
    rw [Int.mul_comm 100 p.1]
    exact Int.mul_le_mul_of_nonneg_left q2 h.1.1
  unfold scA
  repeat' split
  all_goals (dsimp only; refine ⟨?_, ?_, ?_, ?_, ?_⟩ <;> first | omega | simp)
theorem scS_rng (A : Int → Int) (oo dd k r : Int) : ∀ l : Nat, (∀ l' : Int, 0 ≤ l' → l' < l → okLn A (1430 + 320 * r + 20 * l')) → (0 ≤ (scS A oo dd k r l).1 ∧ (scS A oo dd k r l).1 ≤ 9999 * l) ∧ (1 ≤ (scS A oo dd k r l).2.1 ∧ (scS A oo dd k r l).2.1 ≤ 12) ∧ (0 ≤ (scS A oo dd k r l).2.2.1 ∧ (scS A oo dd k r l).2.2.1 ≤ 100) ∧ (50 ≤ (scS A oo dd k r l).2.2.2.1 ∧ (scS A oo dd k r l).2.2.2.1 ≤ 150) ∧ ((scS A oo dd k r l).2.2.2.2 = 0 ∨ (scS A oo dd k r l).2.2.2.2 = 1)
  | 0, _ => by simp [scS]
  | l + 1, hl => by
    have ih := scS_rng A oo dd k r l (fun l' h1 h2 => hl l' h1 (by omega))
    obtain ⟨-, -, h3, h4, h5, h6, h7⟩ := hl l (by omega) (by omega)
    unfold scS
    split
    · omega
    · split
      · omega
      · have := scA_rng ih h3 h4 h5 h6 h7
        omega
def scF (A : Int → Int) (oo dd k : Int) : Sc5 := if reF A dd (A 3).toNat < 0 then (0, 12, 0, 150, 0) else scS A oo dd k (reF A dd (A 3).toNat) (A (10 + 2 * reF A dd (A 3).toNat + 1)).toNat
theorem scF_rng {A : Int → Int} (hO : okA A) (oo dd k : Int) : (0 ≤ (scF A oo dd k).1 ∧ (scF A oo dd k).1 ≤ 159984) ∧ (1 ≤ (scF A oo dd k).2.1 ∧ (scF A oo dd k).2.1 ≤ 12) ∧ (0 ≤ (scF A oo dd k).2.2.1 ∧ (scF A oo dd k).2.2.1 ≤ 100) ∧ (50 ≤ (scF A oo dd k).2.2.2.1 ∧ (scF A oo dd k).2.2.2.1 ≤ 150) := by
  obtain ⟨⟨q0, q1, q2, q3, q4, q5, q6, q7⟩, hVi, hWe, hCo, hOf, hBo, hWo, hMo, hRe, hLi, hTa⟩ := id hO
  have hr := reF_rng A dd (A 3).toNat
  unfold scF
  split
  · simp
  · have h1 := hRe (reF A dd (A 3).toNat) (by omega) (by omega)
    have h2 := scS_rng A oo dd k (reF A dd (A 3).toNat) (A (10 + 2 * reF A dd (A 3).toNat + 1)).toNat (fun l' g1 g2 => hLi _ l' (by omega) (by omega) g1 (by omega))
    omega
def dueY (A : Int → Int) (oo dd k : Int) : Int := (scF A oo dd k).1 * (scF A oo dd k).2.1 / 12
theorem dueY_rng {A : Int → Int} (hO : okA A) (oo dd k : Int) : 0 ≤ dueY A oo dd k ∧ dueY A oo dd k ≤ 159984 := by
  have h := scF_rng hO oo dd k
  have h1 : 0 ≤ (scF A oo dd k).1 * (scF A oo dd k).2.1 := Int.mul_nonneg (by omega) (by omega)
  have h2 : (scF A oo dd k).1 * (scF A oo dd k).2.1 ≤ 159984 * 12 := Int.mul_le_mul (by omega) (by omega) (by omega) (by omega)
  unfold dueY
  omega

