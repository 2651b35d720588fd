/-! ===== the row of moves ===== -/
def fst (p : Int → Prop) [DecidablePred p] : Nat → Int
  | 0 => -1
  | n + 1 => if 0 ≤ fst p n then fst p n else if p (n : Int) then (n : Int) else -1
theorem fst_rng (p : Int → Prop) [DecidablePred p] : ∀ n : Nat, -1 ≤ fst p n ∧ fst p n < n
  | 0 => by simp [fst]
  | n + 1 => by
    have h := fst_rng p n
    unfold fst
    split
    · omega
    · split <;> omega
theorem fst_ok (p : Int → Prop) [DecidablePred p] : ∀ n : Nat, 0 ≤ fst p n → p (fst p n)
  | 0 => fun h => by simp [fst] at h
  | n + 1 => fun h => by
    have ih := fst_ok p n
    unfold fst at h ⊢
    by_cases q : 0 ≤ fst p n
    · rw [if_pos q]; exact ih q
    · rw [if_neg q] at h ⊢
      by_cases q2 : p (n : Int)
      · rw [if_pos q2]; exact q2
      · rw [if_neg q2] at h; omega
theorem fst_stay (p : Int → Prop) [DecidablePred p] {m : Nat} (h : 0 ≤ fst p m) : ∀ n : Nat, m ≤ n → fst p n = fst p m := by
  intro n hn
  induction n with
  | zero => rw [show m = 0 by omega]
  | succ n ih =>
    by_cases q : m = n + 1
    · rw [← q]
    · have e := ih (by omega)
      rw [fst, e, if_pos h]
theorem fst_at (p : Int → Prop) [DecidablePred p] {m : Nat} (h : fst p m < 0) (hp : p (m : Int)) : fst p (m + 1) = (m : Int) := by
  rw [fst, if_neg (by omega), if_pos hp]
theorem fst_no (p : Int → Prop) [DecidablePred p] {m : Nat} (h : fst p m < 0) (hp : ¬ p (m : Int)) : fst p (m + 1) < 0 := by
  rw [fst, if_neg (by omega), if_neg hp]; decide
theorem fst_has (p : Int → Prop) [DecidablePred p] {m : Int} (hp : p m) (hm : 0 ≤ m) : ∀ n : Nat, m < n → 0 ≤ fst p n := by
  intro n hn
  induction n with
  | zero => omega
  | succ n ih =>
    unfold fst
    split
    · assumption
    · split
      · omega
      · rename_i q1 q2
        have hmn : m = (n : Int) := by
          have := fun z => q1 (ih z)
          omega
        rw [hmn] at hp
        exact absurd hp q2
theorem fst_congr {p q : Int → Prop} [DecidablePred p] [DecidablePred q] : ∀ n : Nat, (∀ m : Int, 0 ≤ m → m < n → (p m ↔ q m)) → fst p n = fst q n
  | 0, _ => rfl
  | n + 1, h => by
    have e := fst_congr n (fun m h1 h2 => h m h1 (by omega))
    have h9 := h (n : Int) (by omega) (by omega)
    rw [fst, fst, e]
    by_cases z : q (n : Int)
    · rw [if_pos z, if_pos (h9.mpr z)]
    · rw [if_neg z, if_neg (fun w => z (h9.mp w))]
def upF (f : Int → Int) (i v : Int) : Int → Int := fun x => if x = i then v else f x
theorem upF_s (f : Int → Int) (i v : Int) : upF f i v i = v := if_pos rfl
theorem upF_n {f : Int → Int} {i v x : Int} (h : x ≠ i) : upF f i v x = f x := if_neg h
theorem sm_up {f : Int → Int} {i : Int} {v : Int} (hi : 0 ≤ i) : ∀ n : Nat, sm (upF f i v) n = sm f n + (if i < n then v - f i else 0)
  | 0 => by rw [if_neg (by omega)]; rfl
  | n + 1 => by
    rw [sm, sm, sm_up hi n]
    by_cases q : i = (n : Int)
    · rw [if_neg (by omega), if_pos (by omega), q, upF_s]; omega
    · rw [upF_n (by omega)]
      by_cases q2 : i < (n : Int)
      · rw [if_pos q2, if_pos (by omega)]; omega
      · rw [if_neg q2, if_neg (by omega)]; omega
theorem sm_all {f : Int → Int} : ∀ n : Nat, (∀ i : Int, 0 ≤ i → i < n → f i = 1) → sm f n = n
  | 0, _ => rfl
  | n + 1, h => by rw [sm, sm_all n (fun i h1 h2 => h i h1 (by omega)), h n (by omega) (by omega)]; omega
abbrev mvP (A hd dn : Int → Int) (m : Int) : Prop := dn m = 0 ∧ (hd (A (400 + 2 * m + 1)) < 0 ∨ hd (A (400 + 2 * m + 1)) = A (400 + 2 * m))
abbrev mvQ (dn : Int → Int) (m : Int) : Prop := dn m = 0
def loseF (A hd : Int → Int) (oo : Int) : Int → Int := fun v => if (0 ≤ v ∧ v < A 0) ∧ hd v = oo then -1 else hd v
/-- holders, done, row, how many are done, idlers -/
abbrev MvT : Type := (Int → Int) × (Int → Int) × (Int → Int) × Int × Int
abbrev mvA (A : Int → Int) (st : MvT) : Int := fst (mvP A st.1 st.2.1) (A 5).toNat
abbrev mvB (A : Int → Int) (st : MvT) : Int := fst (mvQ st.2.1) (A 5).toNat
def mvS (A : Int → Int) (st : MvT) : MvT :=
  if mvA A st < 0 then (loseF A st.1 (st.1 (A (400 + 2 * mvB A st + 1))), st.2.1, st.2.2.1, st.2.2.2.1, st.2.2.2.2 + 1)
  else (upF (loseF A st.1 (A (400 + 2 * mvA A st))) (A (400 + 2 * mvA A st + 1)) (A (400 + 2 * mvA A st)), upF st.2.1 (mvA A st) 1, upF st.2.2.1 st.2.2.2.1 (mvA A st), st.2.2.2.1 + 1, st.2.2.2.2)
def mvR (A : Int → Int) : Nat → MvT → MvT
  | 0, st => st
  | f + 1, st => if st.2.2.2.1 < A 5 then mvR A f (mvS A st) else st
def mvM (A : Int → Int) (st : MvT) : Int := 2 * (A 5 - st.2.2.2.1) - (if 0 ≤ mvA A st then 1 else 0)
def okMv (A : Int → Int) (st : MvT) : Prop := (∀ m, 0 ≤ m → m < A 5 → st.2.1 m = 0 ∨ st.2.1 m = 1) ∧ sm st.2.1 (A 5).toNat = st.2.2.2.1 ∧ (0 ≤ st.2.2.2.1 ∧ st.2.2.2.1 ≤ A 5) ∧ (0 ≤ st.2.2.2.2 ∧ st.2.2.2.2 + mvM A st ≤ 24) ∧ (∀ v, 0 ≤ v → v < A 0 → -1 ≤ st.1 v ∧ st.1 v < A 1) ∧ ∀ i, 0 ≤ i → i < st.2.2.2.1 → 0 ≤ st.2.2.1 i ∧ st.2.2.1 i < A 5
theorem mvB_has {A : Int → Int} (hO : okA A) {st : MvT} (h : okMv A st) (hn : st.2.2.2.1 < A 5) : 0 ≤ mvB A st := by
  have h5 := hO.1.2.2.2.2.2.1
  obtain ⟨a1, a2, a3, a4, a5, a6⟩ := h
  by_cases q : 0 ≤ mvB A st
  · exact q
  · exfalso
    have e : sm st.2.1 (A 5).toNat = ((A 5).toNat : Int) := sm_all _ (fun i h1 h2 => by
      rcases a1 i h1 (by omega) with z | z
      · exact absurd (fst_has (mvQ st.2.1) z h1 (A 5).toNat h2) q
      · exact z)
    omega
theorem loseF_rng {A hd : Int → Int} {oo v : Int} (h : -1 ≤ hd v ∧ hd v < A 1) (h1 : 0 ≤ A 1) : -1 ≤ loseF A hd oo v ∧ loseF A hd oo v < A 1 := by
  unfold loseF
  split <;> omega
theorem mvS_ok {A : Int → Int} (hO : okA A) {st : MvT} (h : okMv A st) (hn : st.2.2.2.1 < A 5) : okMv A (mvS A st) ∧ mvM A (mvS A st) + 1 ≤ mvM A st := by
  have h5 := hO.1.2.2.2.2.2.1
  have h1' := hO.1.2.1
  have hMo := hO.2.2.2.2.2.2.2.1
  have hB := mvB_has hO h hn
  have hBr : -1 ≤ mvB A st ∧ mvB A st < (A 5).toNat := fst_rng (mvQ st.2.1) (A 5).toNat
  have hBo : mvQ st.2.1 (mvB A st) := fst_ok (mvQ st.2.1) (A 5).toNat hB
  have hAr : -1 ≤ mvA A st ∧ mvA A st < (A 5).toNat := fst_rng (mvP A st.1 st.2.1) (A 5).toNat
  obtain ⟨a1, a2, a3, a4, a5, a6⟩ := h
  by_cases q : mvA A st < 0
  · have e : mvS A st = (loseF A st.1 (st.1 (A (400 + 2 * mvB A st + 1))), st.2.1, st.2.2.1, st.2.2.2.1, st.2.2.2.2 + 1) := if_pos q
    have hg := hMo (mvB A st) hB (by omega)
    have hz : loseF A st.1 (st.1 (A (400 + 2 * mvB A st + 1))) (A (400 + 2 * mvB A st + 1)) = -1 := if_pos ⟨hg.2, rfl⟩
    have hA2 : 0 ≤ mvA A (mvS A st) := by
      rw [e]
      exact fst_has _ (m := mvB A st) ⟨hBo, Or.inl (by dsimp only; rw [hz]; decide)⟩ hB _ (by omega)
    have m1 : mvM A st = 2 * (A 5 - st.2.2.2.1) := by unfold mvM; rw [if_neg (by omega)]; omega
    have m2 : mvM A (mvS A st) = 2 * (A 5 - st.2.2.2.1) - 1 := by unfold mvM; rw [if_pos hA2, e]
    refine ⟨⟨?_, ?_, ?_, ?_, ?_, ?_⟩, by omega⟩
    · rw [e]; exact a1
    · rw [e]; exact a2
    · rw [e]; exact a3
    · rw [m2, e]; dsimp only; omega
    · rw [e]; exact fun v v1 v2 => loseF_rng (a5 v v1 v2) (by omega)
    · rw [e]; exact a6
  · have e : mvS A st = (upF (loseF A st.1 (A (400 + 2 * mvA A st))) (A (400 + 2 * mvA A st + 1)) (A (400 + 2 * mvA A st)), upF st.2.1 (mvA A st) 1, upF st.2.2.1 st.2.2.2.1 (mvA A st), st.2.2.2.1 + 1, st.2.2.2.2) := if_neg q
    have hAo : mvP A st.1 st.2.1 (mvA A st) := fst_ok (mvP A st.1 st.2.1) (A 5).toNat (show 0 ≤ mvA A st by omega)
    have hg := hMo (mvA A st) (by omega) (by omega)
    have m1 : mvM A st = 2 * (A 5 - st.2.2.2.1) - 1 := by unfold mvM; rw [if_pos (by omega)]
    have m2 : mvM A (mvS A st) ≤ 2 * (A 5 - (st.2.2.2.1 + 1)) := by
      unfold mvM
      rw [show (mvS A st).2.2.2.1 = st.2.2.2.1 + 1 by rw [e]]
      split <;> omega
    refine ⟨⟨?_, ?_, ?_, ?_, ?_, ?_⟩, by omega⟩
    · rw [e]
      intro m y1 y2
      dsimp only
      unfold upF
      split
      · exact Or.inr rfl
      · exact a1 m y1 y2
    · rw [e]
      dsimp only
      rw [sm_up (by omega), if_pos (by omega), a2, hAo.1]
      omega
    · rw [e]; dsimp only; omega
    · rw [show (mvS A st).2.2.2.2 = st.2.2.2.2 by rw [e]]; omega
    · rw [e]
      intro v y1 y2
      dsimp only
      unfold upF
      split
      · omega
      · exact loseF_rng (a5 v y1 y2) (by omega)
    · rw [e]
      intro i y1 y2
      dsimp only at y2 ⊢
      unfold upF
      split
      · omega
      · exact a6 i y1 (by omega)
def mv0 (A : Int → Int) : MvT := (fun v => heldF A v (A 4) (A 4), fun _ => 0, fun _ => 0, 0, 0)
theorem mv0_ok {A : Int → Int} (hO : okA A) : okMv A (mv0 A) ∧ mvM A (mv0 A) ≤ 24 := by
  have h5 := hO.1.2.2.2.2.2.1
  have hm : mvM A (mv0 A) ≤ 24 := by unfold mvM mv0; dsimp only; split <;> omega
  refine ⟨⟨fun _ _ _ => Or.inl rfl, sm_zero _ (fun _ _ _ => rfl), ⟨Int.le_refl 0, h5.1⟩, ⟨Int.le_refl 0, by show 0 + mvM A (mv0 A) ≤ 24; omega⟩, fun v _ _ => heldF_rng hO v (A 4) (A 4), fun i y1 y2 => by exfalso; simp [mv0] at y2; omega⟩, hm⟩
def mvE (A : Int → Int) : MvT := mvR A 24 (mv0 A)
def rMoved (A : Int → Int) (p : Int) : Int := if 0 ≤ p ∧ p < A 5 then (mvE A).2.2.1 p else -1
theorem mvR_ok {A : Int → Int} (hO : okA A) : ∀ (f : Nat) (st : MvT), okMv A st → mvM A st ≤ f → okMv A (mvR A f st) ∧ (mvR A f st).2.2.2.1 = A 5
  | 0, st, h, hm => by
    refine ⟨h, ?_⟩
    have h3 := h.2.2.1
    have : 2 * (A 5 - st.2.2.2.1) - 1 ≤ mvM A st := by unfold mvM; split <;> omega
    show st.2.2.2.1 = A 5
    omega
  | f + 1, st, h, hm => by
    unfold mvR
    split
    · rename_i q
      have hs := mvS_ok hO h q
      exact mvR_ok hO f _ hs.1 (by omega)
    · have h3 := h.2.2.1
      exact ⟨h, by omega⟩
/-- three rows hold a state of the moves -/
def mvAg (A : Int → Int) (h dn r : Int → Int) (st : MvT) : Prop := (∀ v, 0 ≤ v → v < A 0 → h v = st.1 v) ∧ (∀ m, 0 ≤ m → m < A 5 → dn m = st.2.1 m) ∧ ∀ i, 0 ≤ i → i < st.2.2.2.1 → r i = st.2.2.1 i
abbrev mvF (A hd dn : Int → Int) (may m : Int) : Prop := dn m = 0 ∧ (may = 0 ∨ hd (A (400 + 2 * m + 1)) < 0 ∨ hd (A (400 + 2 * m + 1)) = A (400 + 2 * m))
theorem mvF_A {A : Int → Int} (hO : okA A) {h dn r : Int → Int} {st : MvT} (hg : mvAg A h dn r st) : fst (mvF A h dn 1) (A 5).toNat = mvA A st := by
  have hMo := hO.2.2.2.2.2.2.2.1
  refine fst_congr _ (fun m h1 h2 => ?_)
  have a1 := hMo m h1 (by omega)
  have a2 := hg.1 (A (400 + 2 * m + 1)) a1.2.1 a1.2.2
  have a3 := hg.2.1 m h1 (by omega)
  unfold mvF mvP
  rw [a2, a3]
  omega
theorem mvF_B {A : Int → Int} {h dn r : Int → Int} {st : MvT} (hg : mvAg A h dn r st) : fst (mvF A h dn 0) (A 5).toNat = mvB A st := by
  refine fst_congr _ (fun m h1 h2 => ?_)
  have a3 := hg.2.1 m h1 (by omega)
  unfold mvF mvQ
  rw [a3]
  omega
theorem mvAg_idle {A : Int → Int} (hO : okA A) {h dn r h' : Int → Int} {st : MvT} (hg : mvAg A h dn r st) (hk : okMv A st) (hn : st.2.2.2.1 < A 5) (hq : mvA A st < 0) (hl : ∀ v, h' v = loseF A h (h (A (400 + 2 * mvB A st + 1))) v) : mvAg A h' dn r (mvS A st) := by
  have hMo := hO.2.2.2.2.2.2.2.1
  have hB := mvB_has hO hk hn
  have hBr : -1 ≤ mvB A st ∧ mvB A st < (A 5).toNat := fst_rng (mvQ st.2.1) (A 5).toNat
  have a1 := hMo (mvB A st) hB (by omega)
  have e : mvS A st = (loseF A st.1 (st.1 (A (400 + 2 * mvB A st + 1))), st.2.1, st.2.2.1, st.2.2.2.1, st.2.2.2.2 + 1) := if_pos hq
  rw [e]
  refine ⟨fun v v1 v2 => ?_, hg.2.1, hg.2.2⟩
  rw [hl v]
  unfold loseF
  dsimp only
  rw [hg.1 v v1 v2, hg.1 _ a1.2.1 a1.2.2]
theorem mvAg_do {A : Int → Int} (hO : okA A) {h dn r h' dn' r' : Int → Int} {st : MvT} (hg : mvAg A h dn r st) (hn : st.2.2.2.1 < A 5) (hq : ¬ mvA A st < 0) (hl : ∀ v, h' v = upF (loseF A h (A (400 + 2 * mvA A st))) (A (400 + 2 * mvA A st + 1)) (A (400 + 2 * mvA A st)) v) (hd : ∀ m, dn' m = upF dn (mvA A st) 1 m) (hr : ∀ i, r' i = upF r st.2.2.2.1 (mvA A st) i) : mvAg A h' dn' r' (mvS A st) := by
  have e : mvS A st = (upF (loseF A st.1 (A (400 + 2 * mvA A st))) (A (400 + 2 * mvA A st + 1)) (A (400 + 2 * mvA A st)), upF st.2.1 (mvA A st) 1, upF st.2.2.1 st.2.2.2.1 (mvA A st), st.2.2.2.1 + 1, st.2.2.2.2) := if_neg hq
  rw [e]
  refine ⟨fun v v1 v2 => ?_, fun m v1 v2 => ?_, fun i v1 v2 => ?_⟩
  · rw [hl v]
    unfold upF loseF
    dsimp only
    rw [hg.1 v v1 v2]
  · rw [hd m]
    unfold upF
    dsimp only
    rw [hg.2.1 m v1 v2]
  · rw [hr i]
    unfold upF
    dsimp only at v2 ⊢
    split
    · rfl
    · exact hg.2.2 i v1 (by omega)
