/-! ===== what a write keeps ===== -/
theorem okVi_c {A B : Int → Int} (h0 : B 0 = A 0) (e : ∀ i, 40 ≤ i → i < 120 → B i = A i) (h : okVi A) (hn : A 0 ≤ 12) : okVi B := by
  intro v v1 v2
  rw [h0] at v2
  have := h v v1 v2
  rw [e _ (by omega) (by omega), e _ (by omega) (by omega), e _ (by omega) (by omega), e _ (by omega) (by omega), e _ (by omega) (by omega)]
  exact this
theorem okWe_c {A B : Int → Int} (e : ∀ i, 20 ≤ i → i < 40 → B i = A i) (h : okWe A) : okWe B := by
  intro s s1 s2
  rw [e _ (by omega) (by omega)]
  exact h s s1 s2
theorem okCo_c {A B : Int → Int} (h0 : B 0 = A 0) (e : ∀ i, 120 ≤ i → i < 360 → B i = A i) (h : okCo A) (hn : A 0 ≤ 12) : okCo B := by
  intro v s v1 v2 s1 s2
  rw [h0] at v2
  rw [e _ (by omega) (by omega)]
  exact h v s v1 v2 s1 s2
theorem okOf_c {A B : Int → Int} (h1 : B 1 = A 1) (h4 : A 4 ≤ B 4) (e : ∀ i, 360 ≤ i → i < 400 → B i = A i) (h : okOf A) (hn : A 1 ≤ 10) : okOf B := by
  intro i i1 i2
  rw [h1] at i2
  have := h i i1 i2
  rw [e (360 + 4 * i + 0) (by omega) (by omega), e (360 + 4 * i + 1) (by omega) (by omega), e (360 + 4 * i + 2) (by omega) (by omega), e (360 + 4 * i + 3) (by omega) (by omega)]
  omega
theorem okBo_c {A B : Int → Int} (h0 : A 0 ≤ B 0) (h1 : A 1 ≤ B 1) (h2 : B 2 = A 2) (h4 : A 4 ≤ B 4) (e : ∀ i, 430 ≤ i → i < 930 → B i = A i) (h : okBo A) (hn : A 2 ≤ 100) : okBo B := by
  intro i i1 i2
  rw [h2] at i2
  have := h i i1 i2
  rw [e (430 + 5 * i + 0) (by omega) (by omega), e (430 + 5 * i + 1) (by omega) (by omega), e (430 + 5 * i + 2) (by omega) (by omega), e (430 + 5 * i + 3) (by omega) (by omega), e (430 + 5 * i + 4) (by omega) (by omega)]
  omega
theorem okWo_c {A B : Int → Int} (h0 : A 0 ≤ B 0) (h6 : B 6 = A 6) (h4 : A 4 ≤ B 4) (e : ∀ i, 930 ≤ i → i < 1430 → B i = A i) (h : okWo A) (hn : A 6 ≤ 100) : okWo B := by
  intro i i1 i2
  rw [h6] at i2
  have := h i i1 i2
  rw [e (930 + 5 * i + 0) (by omega) (by omega), e (930 + 5 * i + 1) (by omega) (by omega), e (930 + 5 * i + 2) (by omega) (by omega), e (930 + 5 * i + 3) (by omega) (by omega), e (930 + 5 * i + 4) (by omega) (by omega)]
  omega
theorem okMo_c {A B : Int → Int} (h0 : A 0 ≤ B 0) (h1 : A 1 ≤ B 1) (h5 : B 5 = A 5) (e : ∀ i, 400 ≤ i → i < 430 → B i = A i) (h : okMo A) (hn : A 5 ≤ 12) : okMo B := by
  intro i i1 i2
  rw [h5] at i2
  have := h i i1 i2
  rw [e (400 + 2 * i) (by omega) (by omega), e (400 + 2 * i + 1) (by omega) (by omega)]
  omega
theorem okRe_c {A B : Int → Int} (h3 : B 3 = A 3) (e : ∀ i, 10 ≤ i → i < 20 → B i = A i) (h : okRe A) (hn : A 3 ≤ 4) : okRe B := by
  intro r r1 r2
  rw [h3] at r2
  rw [e _ (by omega) (by omega), e _ (by omega) (by omega)]
  exact h r r1 r2
theorem okLn_c {A B : Int → Int} {row : Int} (hr : 1430 ≤ row ∧ row + 20 ≤ 2710) (e : ∀ i, 1430 ≤ i → i < 2710 → B i = A i) (h : okLn A row) : okLn B row := by
  unfold okLn at h ⊢
  obtain ⟨a1, a2, a3⟩ := h
  rw [e row (by omega) (by omega), e _ (by omega) (by omega), e _ (by omega) (by omega)]
  refine ⟨a1, fun t t1 t2 => ?_, a3⟩
  rw [e _ (by omega) (by omega), e _ (by omega) (by omega), e _ (by omega) (by omega), e _ (by omega) (by omega)]
  exact a2 t t1 t2
theorem okLi_c {A B : Int → Int} (h3 : B 3 = A 3) (e1 : ∀ i, 10 ≤ i → i < 20 → B i = A i) (e : ∀ i, 1430 ≤ i → i < 2710 → B i = A i) (h : okLi A) (hR : okRe A) (hn : A 3 ≤ 4) : okLi B := by
  intro r l r1 r2 l1 l2
  rw [h3] at r2
  rw [e1 _ (by omega) (by omega)] at l2
  have := hR r r1 r2
  exact okLn_c (by omega) e (h r l r1 r2 l1 l2)
theorem okTa_c {A B : Int → Int} (h7 : B 7 = A 7) (e : ∀ i, 2710 ≤ i → i < 3210 → B i = A i) (h : okTa A) (hn : A 7 ≤ 500) : okTa B := by
  intro i i1 i2
  rw [h7] at i2
  rw [e _ (by omega) (by omega)]
  exact h i i1 i2
theorem LandR_c {L w x n h p c s A B : Int → Int} (h4 : B 4 = A 4) (h0 : B 0 = A 0) (e : ∀ i, 20 ≤ i → i < 360 → B i = A i) (hn : A 0 ≤ 12) (hR : LandR L w x n h p c s A) : LandR L w x n h p c s B := by
  obtain ⟨a0, a1, aV, aC, aZ, aS⟩ := hR
  refine ⟨by rw [h4]; exact a0, by rw [h0]; exact a1, fun v v1 v2 => ?_, fun v t v1 v2 t1 t2 => ?_, fun v t v1 v2 t1 t2 => aZ v t (by omega) v2 t1 t2, fun t t1 t2 => by rw [e _ (by omega) (by omega)]; exact aS t t1 t2⟩
  · rw [h0] at v2
    rw [e _ (by omega) (by omega), e _ (by omega) (by omega), e _ (by omega) (by omega), e _ (by omega) (by omega), e _ (by omega) (by omega)]
    exact aV v v1 v2
  · rw [h0] at v2
    rw [e _ (by omega) (by omega)]
    exact aC v t v1 v2 t1 t2
theorem BookR_c {B0 fr ki ca de kd th wh fm wr A B : Int → Int} (h1 : B 1 = A 1) (h2 : B 2 = A 2) (e : ∀ i, 360 ≤ i → i < 400 → B i = A i) (e2 : ∀ i, 430 ≤ i → i < 930 → B i = A i) (hn : A 1 ≤ 10 ∧ A 2 ≤ 100) (hR : BookR B0 fr ki ca de kd th wh fm wr A) : BookR B0 fr ki ca de kd th wh fm wr B := by
  obtain ⟨a0, a1, aO, aB⟩ := hR
  refine ⟨by rw [h1]; exact a0, by rw [h2]; exact a1, fun i i1 i2 => ?_, fun i i1 i2 => ?_⟩
  · rw [h1] at i2
    rw [e _ (by omega) (by omega), e _ (by omega) (by omega), e _ (by omega) (by omega), e _ (by omega) (by omega)]
    exact aO i i1 i2
  · rw [h2] at i2
    rw [e2 _ (by omega) (by omega), e2 _ (by omega) (by omega), e2 _ (by omega) (by omega), e2 _ (by omega) (by omega), e2 _ (by omega) (by omega)]
    exact aB i i1 i2
theorem LawsR_c {W be li de am te su si lm ne A B : Int → Int} (h3 : B 3 = A 3) (e : ∀ i, 10 ≤ i → i < 20 → B i = A i) (e2 : ∀ i, 1430 ≤ i → i < 2710 → B i = A i) (hn : A 3 ≤ 4) (hRe : okRe A) (hLi : okLi A) (hR : LawsR W be li de am te su si lm ne A) : LawsR W be li de am te su si lm ne B := by
  obtain ⟨a0, a1, a2⟩ := hR
  refine ⟨by rw [h3]; exact a0, fun r r1 r2 => ?_, fun r l r1 r2 l1 l2 => ?_⟩
  · rw [h3] at r2
    rw [e _ (by omega) (by omega), e _ (by omega) (by omega)]
    exact a1 r r1 r2
  · rw [h3] at r2
    rw [e _ (by omega) (by omega)] at l2
    have hr := hRe r r1 r2
    have hl := (hLi r l r1 r2 l1 l2).1
    rw [e2 _ (by omega) (by omega), e2 _ (by omega) (by omega), e2 (1430 + 320 * r + 20 * l) (by omega) (by omega)]
    obtain ⟨b1, b2, b3, b4⟩ := a2 r l r1 r2 l1 l2
    refine ⟨b1, b2, b3, fun t t1 t2 => ?_⟩
    rw [e2 _ (by omega) (by omega), e2 _ (by omega) (by omega), e2 _ (by omega) (by omega), e2 _ (by omega) (by omega)]
    exact b4 t t1 t2
theorem TapeR_c {P by' A B : Int → Int} (h7 : B 7 = A 7) (h8 : B 8 = A 8) (h9 : B 9 = A 9) (e : ∀ i, 2710 ≤ i → i < 3210 → B i = A i) (hn : A 7 ≤ 500) (hR : TapeR P by' A) : TapeR P by' B := by
  obtain ⟨a0, a1, a2, a3, a4⟩ := hR
  refine ⟨by rw [h7]; exact a0, by rw [h8]; exact a1, by rw [h9]; exact a2, a3, fun i i1 i2 => ?_⟩
  rw [h7] at i2
  rw [e _ (by omega) (by omega)]
  exact a4 i i1 i2
theorem NewsR_c {N wr vi se co sa A B : Int → Int} (h6 : B 6 = A 6) (e : ∀ i, 930 ≤ i → i < 1430 → B i = A i) (hn : A 6 ≤ 100) (hR : NewsR N wr vi se co sa A) : NewsR N wr vi se co sa B := by
  obtain ⟨a0, a1⟩ := hR
  refine ⟨by rw [h6]; exact a0, fun i i1 i2 => ?_⟩
  rw [h6] at i2
  rw [e _ (by omega) (by omega), e _ (by omega) (by omega), e _ (by omega) (by omega), e _ (by omega) (by omega), e _ (by omega) (by omega)]
  exact a1 i i1 i2
theorem MovesR_c {M mo go A B : Int → Int} (h5 : B 5 = A 5) (e : ∀ i, 400 ≤ i → i < 430 → B i = A i) (hn : A 5 ≤ 12) (hR : MovesR M mo go A) : MovesR M mo go B := by
  obtain ⟨a0, a1⟩ := hR
  refine ⟨by rw [h5]; exact a0, fun i i1 i2 => ?_⟩
  rw [h5] at i2
  rw [e _ (by omega) (by omega), e _ (by omega) (by omega)]
  exact a1 i i1 i2
/-! the writes themselves -/
def weA (A : Int → Int) (s p : Int) : Int → Int := upF A (20 + s) p
def sqA (A : Int → Int) (v p : Int) : Int → Int := upF A (40 + 6 * v + 4) p
def ofA (A : Int → Int) (rank kin : Int) : Int → Int := upF (upF (upF (upF (upF A (360 + 4 * A 1) rank) (360 + 4 * A 1 + 1) kin) (360 + 4 * A 1 + 2) (A 4)) (360 + 4 * A 1 + 3) (-1)) 1 (A 1 + 1)
def diA (A : Int → Int) (oo : Int) : Int → Int := upF A (360 + 4 * oo + 3) (A 4)
def orA (A : Int → Int) (kind what oo from' : Int) : Int → Int := upF (upF (upF (upF (upF (upF A (430 + 5 * A 2) kind) (430 + 5 * A 2 + 1) what) (430 + 5 * A 2 + 2) oo) (430 + 5 * A 2 + 3) from') (430 + 5 * A 2 + 4) (A 4)) 2 (A 2 + 1)
def enA (A : Int → Int) (n : Int) : Int → Int := upF A 7 n
def stA (A : Int → Int) : Int → Int := upF A 5 0
def moA (A : Int → Int) (oo v : Int) : Int → Int := upF (upF (upF A (400 + 2 * A 5) oo) (400 + 2 * A 5 + 1) v) 5 (A 5 + 1)
def saA (A : Int → Int) (w v s c : Int) : Int → Int := upF (upF (upF (upF (upF (upF A (930 + 5 * A 6) w) (930 + 5 * A 6 + 1) v) (930 + 5 * A 6 + 2) s) (930 + 5 * A 6 + 3) c) (930 + 5 * A 6 + 4) (A 4)) 6 (A 6 + 1)
def viA (A : Int → Int) (p x y : Int) : Int → Int := fun i => if i = 0 then A 0 + 1 else if 120 + 20 * A 0 ≤ i ∧ i < 140 + 20 * A 0 then 0 else if i = 40 + 6 * A 0 + 0 then p else if i = 40 + 6 * A 0 + 1 then x else if i = 40 + 6 * A 0 + 2 then y else if i = 40 + 6 * A 0 + 3 then 100 else if i = 40 + 6 * A 0 + 4 then 100 else A i
/-- unchanged but for one place in a region -/
theorem ok_we {A : Int → Int} (hO : okA A) {s p : Int} (hs : 0 ≤ s ∧ s < 20) (hp : 0 ≤ p ∧ p ≤ 200) : okA (weA A s p) := by
  obtain ⟨⟨q0, q1, q2, q3, q4, q5, q6, q7⟩, hVi, hWe, hCo, hOf, hBo, hWo, hMo, hRe, hLi, hTa⟩ := id hO
  have e : ∀ i, i ≠ 20 + s → weA A s p i = A i := fun i h => upF_n h
  refine ⟨⟨by rw [e _ (by omega)]; exact q0, by rw [e _ (by omega)]; exact q1, by rw [e _ (by omega)]; exact q2, by rw [e _ (by omega)]; exact q3, by rw [e _ (by omega)]; exact q4, by rw [e _ (by omega)]; exact q5, by rw [e _ (by omega)]; exact q6, by rw [e _ (by omega)]; exact q7⟩, okVi_c (e _ (by omega)) (fun i _ _ => e i (by omega)) hVi q0.2, ?_, okCo_c (e _ (by omega)) (fun i _ _ => e i (by omega)) hCo q0.2, okOf_c (e _ (by omega)) (by rw [e _ (by omega)]; exact Int.le_refl _) (fun i _ _ => e i (by omega)) hOf q1.2, okBo_c (by rw [e _ (by omega)]; exact Int.le_refl _) (by rw [e _ (by omega)]; exact Int.le_refl _) (e _ (by omega)) (by rw [e _ (by omega)]; exact Int.le_refl _) (fun i _ _ => e i (by omega)) hBo q2.2, okWo_c (by rw [e _ (by omega)]; exact Int.le_refl _) (e _ (by omega)) (by rw [e _ (by omega)]; exact Int.le_refl _) (fun i _ _ => e i (by omega)) hWo q6.2, okMo_c (by rw [e _ (by omega)]; exact Int.le_refl _) (by rw [e _ (by omega)]; exact Int.le_refl _) (e _ (by omega)) (fun i _ _ => e i (by omega)) hMo q5.2, okRe_c (e _ (by omega)) (fun i _ _ => e i (by omega)) hRe q3.2, okLi_c (e _ (by omega)) (fun i _ _ => e i (by omega)) (fun i _ _ => e i (by omega)) hLi hRe q3.2, okTa_c (e _ (by omega)) (fun i _ _ => e i (by omega)) hTa q7.2⟩
  intro t t1 t2
  by_cases q : t = s
  · rw [q, weA, upF_s]; exact hp
  · rw [e _ (by omega)]; exact hWe t t1 t2
