def esS (A : Int → Int) (v s c g : Int) : Int → Int := upF (upF A (120 + 20 * v + s) c) (40 + 6 * v + 3) g
def dyA (A : Int → Int) (x : Int) : Int → Int := upF A 4 x
theorem es_e (A : Int → Int) {v s c g : Int} (i : Int) (h : i ≠ 120 + 20 * v + s ∧ i ≠ 40 + 6 * v + 3) : esS A v s c g i = A i := by
  simp only [esS, upF]
  rw [if_neg (by omega), if_neg (by omega)]

theorem ok_es {A : Int → Int} (hO : okA A) {v s c g : Int} (hv : 0 ≤ v ∧ v < A 0) (hs : 0 ≤ s ∧ s < 20) (hc : 0 ≤ c ∧ c ≤ 15000) (hh : 0 ≤ g ∧ g ≤ 100) : okA (esS A v s c g) := by
  obtain ⟨⟨q0, q1, q2, q3, q4, q5, q6, q7⟩, hVi, hWe, hCo, hOf, hBo, hWo, hMo, hRe, hLi, hTa⟩ := id hO
  refine ⟨⟨by rw [es_e A _ (by omega)]; exact q0, by rw [es_e A _ (by omega)]; exact q1, by rw [es_e A _ (by omega)]; exact q2, by rw [es_e A _ (by omega)]; exact q3, by rw [es_e A _ (by omega)]; exact q4, by rw [es_e A _ (by omega)]; exact q5, by rw [es_e A _ (by omega)]; exact q6, by rw [es_e A _ (by omega)]; exact q7⟩, ?_, okWe_c (fun i _ _ => es_e A (v := v) (s := s) (c := c) (g := g) i (by omega)) hWe, ?_, okOf_c (es_e A (v := v) (s := s) (c := c) (g := g) _ (by omega)) (Int.le_of_eq (es_e A (v := v) (s := s) (c := c) (g := g) _ (by omega)).symm) (fun i _ _ => es_e A (v := v) (s := s) (c := c) (g := g) i (by omega)) hOf q1.2, okBo_c (Int.le_of_eq (es_e A (v := v) (s := s) (c := c) (g := g) _ (by omega)).symm) (Int.le_of_eq (es_e A (v := v) (s := s) (c := c) (g := g) _ (by omega)).symm) (es_e A (v := v) (s := s) (c := c) (g := g) _ (by omega)) (Int.le_of_eq (es_e A (v := v) (s := s) (c := c) (g := g) _ (by omega)).symm) (fun i _ _ => es_e A (v := v) (s := s) (c := c) (g := g) i (by omega)) hBo q2.2, okWo_c (Int.le_of_eq (es_e A (v := v) (s := s) (c := c) (g := g) _ (by omega)).symm) (es_e A (v := v) (s := s) (c := c) (g := g) _ (by omega)) (Int.le_of_eq (es_e A (v := v) (s := s) (c := c) (g := g) _ (by omega)).symm) (fun i _ _ => es_e A (v := v) (s := s) (c := c) (g := g) i (by omega)) hWo q6.2, okMo_c (Int.le_of_eq (es_e A (v := v) (s := s) (c := c) (g := g) _ (by omega)).symm) (Int.le_of_eq (es_e A (v := v) (s := s) (c := c) (g := g) _ (by omega)).symm) (es_e A (v := v) (s := s) (c := c) (g := g) _ (by omega)) (fun i _ _ => es_e A (v := v) (s := s) (c := c) (g := g) i (by omega)) hMo q5.2, okRe_c (es_e A (v := v) (s := s) (c := c) (g := g) _ (by omega)) (fun i _ _ => es_e A (v := v) (s := s) (c := c) (g := g) i (by omega)) hRe q3.2, okLi_c (es_e A (v := v) (s := s) (c := c) (g := g) _ (by omega)) (fun i _ _ => es_e A (v := v) (s := s) (c := c) (g := g) i (by omega)) (fun i _ _ => es_e A (v := v) (s := s) (c := c) (g := g) i (by omega)) hLi hRe q3.2, okTa_c (es_e A (v := v) (s := s) (c := c) (g := g) _ (by omega)) (fun i _ _ => es_e A (v := v) (s := s) (c := c) (g := g) i (by omega)) hTa q7.2⟩
  · intro u u1 u2
    rw [es_e A 0 (by omega)] at u2
    have h9 := hVi u u1 u2
    rw [es_e A (40 + 6 * u + 0) (by omega), es_e A (40 + 6 * u + 1) (by omega), es_e A (40 + 6 * u + 2) (by omega), es_e A (40 + 6 * u + 4) (by omega)]
    by_cases q : u = v
    · rw [q] at h9 ⊢
      rw [show esS A v s c g (40 + 6 * v + 3) = g from upF_s _ _ _]
      exact ⟨h9.1, h9.2.1, h9.2.2.1, hh, h9.2.2.2.2⟩
    · rw [es_e A (40 + 6 * u + 3) (by omega)]
      exact h9
  · intro u t u1 u2 t1 t2
    rw [es_e A 0 (by omega)] at u2
    by_cases q : u = v ∧ t = s
    · rw [q.1, q.2, show esS A v s c g (120 + 20 * v + s) = c by rw [esS, upF_n (by omega), upF_s]]
      exact hc
    · rw [es_e A (120 + 20 * u + t) (by omega)]
      exact hCo u t u1 u2 t1 t2
theorem dy_e (A : Int → Int) {x : Int} (i : Int) (h : i ≠ 4) : dyA A x i = A i := by
  simp only [dyA, upF]
  rw [if_neg (by omega)]

theorem ok_dy {A : Int → Int} (hO : okA A) {x : Int} (hx : A 4 ≤ x ∧ x ≤ 1199) : okA (dyA A x) := by
  obtain ⟨⟨q0, q1, q2, q3, q4, q5, q6, q7⟩, hVi, hWe, hCo, hOf, hBo, hWo, hMo, hRe, hLi, hTa⟩ := id hO
  have b4 : dyA A x 4 = x := upF_s _ _ _
  refine ⟨⟨by rw [dy_e A _ (by omega)]; exact q0, by rw [dy_e A _ (by omega)]; exact q1, by rw [dy_e A _ (by omega)]; exact q2, by rw [dy_e A _ (by omega)]; exact q3, by rw [b4]; omega, by rw [dy_e A _ (by omega)]; exact q5, by rw [dy_e A _ (by omega)]; exact q6, by rw [dy_e A _ (by omega)]; exact q7⟩, okVi_c (dy_e A (x := x) _ (by omega)) (fun i _ _ => dy_e A (x := x) i (by omega)) hVi q0.2, okWe_c (fun i _ _ => dy_e A (x := x) i (by omega)) hWe, okCo_c (dy_e A (x := x) _ (by omega)) (fun i _ _ => dy_e A (x := x) i (by omega)) hCo q0.2, okOf_c (dy_e A (x := x) _ (by omega)) (by rw [b4]; omega) (fun i _ _ => dy_e A (x := x) i (by omega)) hOf q1.2, okBo_c (Int.le_of_eq (dy_e A (x := x) _ (by omega)).symm) (Int.le_of_eq (dy_e A (x := x) _ (by omega)).symm) (dy_e A (x := x) _ (by omega)) (by rw [b4]; omega) (fun i _ _ => dy_e A (x := x) i (by omega)) hBo q2.2, okWo_c (Int.le_of_eq (dy_e A (x := x) _ (by omega)).symm) (dy_e A (x := x) _ (by omega)) (by rw [b4]; omega) (fun i _ _ => dy_e A (x := x) i (by omega)) hWo q6.2, okMo_c (Int.le_of_eq (dy_e A (x := x) _ (by omega)).symm) (Int.le_of_eq (dy_e A (x := x) _ (by omega)).symm) (dy_e A (x := x) _ (by omega)) (fun i _ _ => dy_e A (x := x) i (by omega)) hMo q5.2, okRe_c (dy_e A (x := x) _ (by omega)) (fun i _ _ => dy_e A (x := x) i (by omega)) hRe q3.2, okLi_c (dy_e A (x := x) _ (by omega)) (fun i _ _ => dy_e A (x := x) i (by omega)) (fun i _ _ => dy_e A (x := x) i (by omega)) hLi hRe q3.2, okTa_c (dy_e A (x := x) _ (by omega)) (fun i _ _ => dy_e A (x := x) i (by omega)) hTa q7.2⟩
theorem CR_es {σ σ' : vMem} {A : Int → Int} (hC : CR σ A) (hO : okA A) {v s c g : Int} (hv : 0 ≤ v ∧ v < A 0) (hs : 0 ≤ s ∧ s < 20) (f : ∀ k : Nat, k ≠ 6 ∧ k ≠ 8 → σ' k = σ k) (h6 : σ' 6 = upF (σ 6) v g) (h8 : σ' 8 = upF (σ 8) (v * 20 + s) c) : CR σ' (esS A v s c g) := by
  obtain ⟨⟨q0, q1, q2, q3, q4, q5, q6, q7⟩, hVi, hWe, hCo, hOf, hBo, hWo, hMo, hRe, hLi, hTa⟩ := id hO
  obtain ⟨cL, cB, cW, cT, cN, cM⟩ := id hC
  refine ⟨?_, by rw [f 10 (by omega), f 11 (by omega), f 12 (by omega), f 13 (by omega), f 14 (by omega), f 15 (by omega), f 16 (by omega), f 17 (by omega), f 18 (by omega), f 19 (by omega)]; exact BookR_c (es_e A _ (by omega)) (es_e A _ (by omega)) (fun i _ _ => es_e A i (by omega)) (fun i _ _ => es_e A i (by omega)) ⟨q1.2, q2.2⟩ cB, by rw [f 20 (by omega), f 21 (by omega), f 22 (by omega), f 23 (by omega), f 24 (by omega), f 25 (by omega), f 26 (by omega), f 27 (by omega), f 28 (by omega), f 29 (by omega)]; exact LawsR_c (es_e A _ (by omega)) (fun i _ _ => es_e A i (by omega)) (fun i _ _ => es_e A i (by omega)) q3.2 hRe hLi cW, by rw [f 30 (by omega), f 31 (by omega)]; exact TapeR_c (es_e A _ (by omega)) (es_e A _ (by omega)) (es_e A _ (by omega)) (fun i _ _ => es_e A i (by omega)) q7.2 cT, by rw [f 32 (by omega), f 33 (by omega), f 34 (by omega), f 35 (by omega), f 36 (by omega), f 37 (by omega)]; exact NewsR_c (es_e A _ (by omega)) (fun i _ _ => es_e A i (by omega)) q6.2 cN, by rw [f 38 (by omega), f 39 (by omega), f 40 (by omega)]; exact MovesR_c (es_e A _ (by omega)) (fun i _ _ => es_e A i (by omega)) q5.2 cM⟩
  obtain ⟨l0, l1, lV, lC, lZ, lS⟩ := cL
  rw [f 2 (by omega), f 3 (by omega), f 4 (by omega), f 5 (by omega), f 7 (by omega), f 9 (by omega)]
  refine ⟨by rw [es_e A _ (by omega)]; exact l0, by rw [es_e A _ (by omega)]; exact l1, fun u u1 u2 => ?_, fun u t u1 u2 t1 t2 => ?_, fun u t u1 u2 t1 t2 => ?_, fun t t1 t2 => by rw [es_e A _ (by omega)]; exact lS t t1 t2⟩
  · rw [es_e A 0 (by omega)] at u2
    have h9 := lV u u1 u2
    rw [h6, es_e A (40 + 6 * u + 0) (by omega), es_e A (40 + 6 * u + 1) (by omega), es_e A (40 + 6 * u + 2) (by omega), es_e A (40 + 6 * u + 4) (by omega)]
    by_cases q : u = v
    · rw [q] at h9 ⊢
      rw [upF_s, show esS A v s c g (40 + 6 * v + 3) = g from upF_s _ _ _]
      exact ⟨h9.1, h9.2.1, h9.2.2.1, rfl, h9.2.2.2.2⟩
    · rw [upF_n q, es_e A (40 + 6 * u + 3) (by omega)]
      exact h9
  · rw [es_e A 0 (by omega)] at u2
    rw [h8]
    by_cases q : u = v ∧ t = s
    · rw [q.1, q.2, upF_s, show esS A v s c g (120 + 20 * v + s) = c by rw [esS, upF_n (by omega), upF_s]]
    · rw [upF_n (by omega), es_e A (120 + 20 * u + t) (by omega)]
      exact lC u t u1 u2 t1 t2
  · rw [es_e A 0 (by omega)] at u1
    rw [h8, upF_n (by omega)]
    exact lZ u t u1 u2 t1 t2
theorem CR_dy {σ σ' : vMem} {A : Int → Int} (hC : CR σ A) (hO : okA A) {x : Int} (hx : A 4 ≤ x) (f : ∀ k : Nat, k ≠ 2 → σ' k = σ k) (g0 : σ' 2 0 = x) (g1 : σ' 2 1 = σ 2 1) : CR σ' (dyA A x) := by
  obtain ⟨⟨q0, q1, q2, q3, q4, q5, q6, q7⟩, hVi, hWe, hCo, hOf, hBo, hWo, hMo, hRe, hLi, hTa⟩ := id hO
  obtain ⟨cL, cB, cW, cT, cN, cM⟩ := id hC
  refine ⟨?_, by rw [f 10 (by omega), f 11 (by omega), f 12 (by omega), f 13 (by omega), f 14 (by omega), f 15 (by omega), f 16 (by omega), f 17 (by omega), f 18 (by omega), f 19 (by omega)]; exact BookR_c (dy_e A _ (by omega)) (dy_e A _ (by omega)) (fun i _ _ => dy_e A i (by omega)) (fun i _ _ => dy_e A i (by omega)) ⟨q1.2, q2.2⟩ cB, by rw [f 20 (by omega), f 21 (by omega), f 22 (by omega), f 23 (by omega), f 24 (by omega), f 25 (by omega), f 26 (by omega), f 27 (by omega), f 28 (by omega), f 29 (by omega)]; exact LawsR_c (dy_e A _ (by omega)) (fun i _ _ => dy_e A i (by omega)) (fun i _ _ => dy_e A i (by omega)) q3.2 hRe hLi cW, by rw [f 30 (by omega), f 31 (by omega)]; exact TapeR_c (dy_e A _ (by omega)) (dy_e A _ (by omega)) (dy_e A _ (by omega)) (fun i _ _ => dy_e A i (by omega)) q7.2 cT, by rw [f 32 (by omega), f 33 (by omega), f 34 (by omega), f 35 (by omega), f 36 (by omega), f 37 (by omega)]; exact NewsR_c (dy_e A _ (by omega)) (fun i _ _ => dy_e A i (by omega)) q6.2 cN, by rw [f 38 (by omega), f 39 (by omega), f 40 (by omega)]; exact MovesR_c (dy_e A _ (by omega)) (fun i _ _ => dy_e A i (by omega)) q5.2 cM⟩
  obtain ⟨l0, l1, lV, lC, lZ, lS⟩ := cL
  rw [f 3 (by omega), f 4 (by omega), f 5 (by omega), f 6 (by omega), f 7 (by omega), f 8 (by omega), f 9 (by omega)]
  refine ⟨by rw [show dyA A x 4 = x from upF_s _ _ _]; exact g0, by rw [dy_e A _ (by omega), g1]; exact l1, fun u u1 u2 => ?_, fun u t u1 u2 t1 t2 => ?_, fun u t u1 => lZ u t (by rw [dy_e A _ (by omega)] at u1; exact u1), fun t t1 t2 => by rw [dy_e A _ (by omega)]; exact lS t t1 t2⟩
  · rw [dy_e A 0 (by omega)] at u2
    rw [dy_e A (40 + 6 * u + 0) (by omega), dy_e A (40 + 6 * u + 1) (by omega), dy_e A (40 + 6 * u + 2) (by omega), dy_e A (40 + 6 * u + 3) (by omega), dy_e A (40 + 6 * u + 4) (by omega)]
    exact lV u u1 u2
  · rw [dy_e A 0 (by omega)] at u2
    rw [dy_e A (120 + 20 * u + t) (by omega)]
    exact lC u t u1 u2 t1 t2
theorem upF_comm (f : Int → Int) {i j : Int} (h : i ≠ j) (a b : Int) : upF (upF f i a) j b = upF (upF f j b) i a := by
  funext k
  simp only [upF]
  by_cases q : k = i
  · subst q; rw [if_neg h]
    simp
  · simp [q]
theorem upF_twice (f : Int → Int) (i a b : Int) : upF (upF f i a) i b = upF f i b := by
  funext k
  simp only [upF]
  by_cases q : k = i
  · simp [q]
  · simp [q]
theorem upF_id (f : Int → Int) (i : Int) : upF f i (f i) = f := by
  funext k
  simp only [upF]
  by_cases q : k = i
  · simp [q]
  · simp [q]
theorem esA_dy (A : Int → Int) {s : Int} (hs : 0 ≤ s ∧ s < 20) (x : Int) : ∀ n : Nat, esA (dyA A x) s n = dyA (esA A s n) x
  | 0 => rfl
  | n + 1 => by
    rw [esA, esA, esA_dy A hs x n, dy_e A (40 + 6 * (n : Int) + 0) (by omega), dy_e A (40 + 6 * (n : Int) + 3) (by omega), dy_e A (20 + s) (by omega), dy_e A (40 + 6 * (n : Int) + 4) (by omega)]
    rw [dyA, dyA, upF_comm _ (show (4 : Int) ≠ 120 + 20 * (n : Int) + s by omega), upF_comm _ (show (4 : Int) ≠ 40 + 6 * (n : Int) + 3 by omega)]
/-- one village more: what stands before it is as at the start -/
theorem esA_step (A : Int → Int) {s : Int} (hs : 0 ≤ s ∧ s < 20) (n : Nat) (hn : n < 12) : esA A s (n + 1) = esS (esA A s n) (n : Int) s (cropF (esA A s n (40 + 6 * (n : Int) + 0)) (esA A s n (40 + 6 * (n : Int) + 3)) (esA A s n (20 + s)) (esA A s n (40 + 6 * (n : Int) + 4))) (hlF (esA A s n (40 + 6 * (n : Int) + 3)) (esA A s n (40 + 6 * (n : Int) + 4))) := by
  rw [esA, esS, esA_off A s n (i := 40 + 6 * (n : Int) + 0) (fun v _ _ => by omega), esA_off A s n (i := 40 + 6 * (n : Int) + 3) (fun v _ _ => by omega), esA_off A s n (i := 40 + 6 * (n : Int) + 4) (fun v _ _ => by omega), esA_off A s n (i := 20 + s) (fun v _ _ => by omega)]
theorem ok_esA {A : Int → Int} (hO : okA A) {s : Int} (hs : 0 ≤ s ∧ s < 20) : ∀ n : Nat, (n : Int) ≤ A 0 → okA (esA A s n)
  | 0, _ => hO
  | n + 1, hn => by
    have q := hO.1.1
    have ih := ok_esA hO hs n (by omega)
    have e0 : esA A s n 0 = A 0 := esA_off A s n (fun v _ _ => by omega)
    have hv := ih.2.1 n (by omega) (by omega)
    have hw := ih.2.2.1 s hs.1 hs.2
    rw [esA_step A hs n (by omega)]
    refine ok_es ih (by omega) hs ?_ (hlF_rng _ _)
    exact (crop_rng (by omega) (by omega) (by omega) (by omega)).2.2.2
/-- m seasons from s on -/
def ssA (A : Int → Int) (s : Int) : Nat → Int → Int
  | 0 => A
  | m + 1 => esA (ssA A s m) (s + m) (A 0).toNat
theorem ssA_off (A : Int → Int) {s i : Int} (h0 : 0 ≤ s) (hn : 0 ≤ A 0 ∧ A 0 ≤ 12) (hi : i < 40 ∨ 360 ≤ i) : ∀ m : Nat, s + m ≤ 20 → ssA A s m i = A i
  | 0, _ => rfl
  | m + 1, h => by
    rw [ssA, esA_off _ _ _ (fun v _ _ => by omega)]
    exact ssA_off A h0 hn hi m (by omega)
theorem ok_ssA {A : Int → Int} (hO : okA A) {s : Int} (h0 : 0 ≤ s) : ∀ m : Nat, s + m ≤ 20 → okA (ssA A s m)
  | 0, _ => hO
  | m + 1, h => by
    have e0 := ssA_off A (i := 0) h0 hO.1.1 (by omega) m (by omega)
    have q := hO.1.1
    rw [ssA]
    exact ok_esA (ok_ssA hO h0 m (by omega)) (by omega) _ (by omega)
theorem ssA_dy (A : Int → Int) {s : Int} (h0 : 0 ≤ s) (x : Int) : ∀ m : Nat, s + m ≤ 20 → ssA (dyA A x) s m = dyA (ssA A s m) x
  | 0, _ => rfl
  | m + 1, h => by
    rw [ssA, ssA, ssA_dy A h0 x m (by omega), esA_dy _ (by omega), dy_e A 0 (by omega)]
/-- n days more -/
def daA (A : Int → Int) (n : Int) : Int → Int := dyA (ssA A (A 4 / 60) ((A 4 + n) / 60 - A 4 / 60).toNat) (A 4 + n)
def wDa (A : Int → Int) (n : Int) : WrT := if (1 ≤ n ∧ n ≤ 200) ∧ A 4 + n < 1200 then (daA A n, A 4 + n) else (A, -1)
theorem ok_da {A : Int → Int} (hO : okA A) {n : Int} (h : 0 ≤ n ∧ A 4 + n < 1200) : okA (daA A n) := by
  have q := hO.1.2.2.2.2.1
  refine ok_dy (ok_ssA hO (by omega) _ (by omega)) ?_
  rw [ssA_off A (by omega) hO.1.1 (by omega) _ (by omega)]
  omega
theorem da_e {A : Int → Int} (hO : okA A) {n i : Int} (h : 0 ≤ n ∧ A 4 + n < 1200) (hi : 360 ≤ i) : daA A n i = A i := by
  have q := hO.1.2.2.2.2.1
  rw [daA, dy_e _ i (by omega), ssA_off A (by omega) hO.1.1 (by omega) _ (by omega)]
theorem daA_0 (A : Int → Int) : daA A 0 = A := by
  rw [daA, show ((A 4 + 0) / 60 - A 4 / 60).toNat = 0 by omega, ssA, dyA, Int.add_zero, upF_id]
theorem daA_1 {A : Int → Int} (hO : okA A) {j : Int} (h : 0 ≤ j ∧ A 4 + j + 1 < 1200) (hm : ¬ (A 4 + j + 1) % 60 = 0) : daA A (j + 1) = upF (daA A j) 4 (A 4 + j + 1) := by
  have q := hO.1.2.2.2.2.1
  rw [daA, daA, dyA, dyA, upF_twice, show A 4 + (j + 1) = A 4 + j + 1 by omega, show ((A 4 + j + 1) / 60 - A 4 / 60).toNat = ((A 4 + j) / 60 - A 4 / 60).toNat by omega]
theorem daA_2 {A : Int → Int} (hO : okA A) {j : Int} (h : 0 ≤ j ∧ A 4 + j + 1 < 1200) (hm : (A 4 + j + 1) % 60 = 0) : daA A (j + 1) = esA (upF (daA A j) 4 (A 4 + j + 1)) ((A 4 + j + 1) / 60 - 1) (A 0).toNat := by
  have q := hO.1.2.2.2.2.1
  have e : upF (daA A j) 4 (A 4 + j + 1) = dyA (ssA A (A 4 / 60) ((A 4 + j) / 60 - A 4 / 60).toNat) (A 4 + j + 1) := by
    rw [daA, dyA, upF_twice]; rfl
  rw [e, esA_dy _ (by omega), daA, show A 4 + (j + 1) = A 4 + j + 1 by omega, show ((A 4 + j + 1) / 60 - A 4 / 60).toNat = ((A 4 + j) / 60 - A 4 / 60).toNat + 1 by omega, ssA]
  congr 2
  omega

theorem c_M_days_29 {T : vSh} {σ : vMem} {cx : vCx} {A : Int → Int} (hA : σ 56 = A) (hO : okA A) {nn : Int} (h0 : 1 ≤ nn ∧ nn ≤ 200) (h1 : A 4 + nn < 1200) (hM : vM cx 0 0 (some .int) (rP (S0 ++ T) (fun z σ2 => z = (wDa A nn).2 ∧ (∀ k, k ≠ 56 → σ2 k = σ k) ∧ σ2 56 = (wDa A nn).1))) : ∀ (n j : Nat) (i : Int) (σ1 : vMem), (j : Int) + n = nn → i = j → (∀ k, k ≠ 56 → σ1 k = σ k) → σ1 56 = daA A i → vV cx y_M_days.cls prog_14_method_16_code 3 2 0 0 0 0 29 [some (.ref 55), some (.int (iI nn)), some (.int (iI i))] [] (S0 ++ T) σ1 := by
  intro n
  induction n with
  | zero =>
    intro j i σ1 hj hi hσ hB
    obtain ⟨⟨q0, q1, q2, q3, q4, q5, q6, q7⟩, hVi, hWe, hCo, hOf, hBo, hWo, hMo, hRe, hLi, hTa⟩ := id hO
    have d4 : daA A i 4 = A 4 + i := by rw [daA, dyA, upF_s]
    have d0 : daA A i 0 = A 0 := by rw [daA, dy_e _ 0 (by omega), ssA_off A (by omega) q0 (by omega) _ (by omega)]
    have oD : okA (daA A i) := ok_da hO (by omega)
    refine v_iload2 d_M_days_29 ?_
    refine v_iload1 d_M_days_30 ?_
    refine v_icmp_ge d_M_days_31 (by omega) (by omega) (fun u31 => ?_) (fun u31 => ?_)
    · refine v_aload0 d_M_days_77 ?_
      refine v_getR d_M_days_78 f_M_7 (sh_55 T) rfl ?_
      refine v_iconst d_M_days_81 ?_
      refine v_ialoadE hB d_M_days_82 (sh_56 T) (by omega) (fun g82 => ?_)
      rw [d4] at g82
      rw [d4]
      exact v_ireturn hM d_M_days_83 (by omega) ⟨rfl, by rw [wDa, if_pos (by omega)]; dsimp only; omega, hσ, by rw [wDa, if_pos (by omega), hB, show i = nn by omega]⟩
    · omega
  | succ n ih =>
    intro j i σ1 hj hi hσ hB
    obtain ⟨⟨q0, q1, q2, q3, q4, q5, q6, q7⟩, hVi, hWe, hCo, hOf, hBo, hWo, hMo, hRe, hLi, hTa⟩ := id hO
    have d4 : daA A i 4 = A 4 + i := by rw [daA, dyA, upF_s]
    have d0 : daA A i 0 = A 0 := by rw [daA, dy_e _ 0 (by omega), ssA_off A (by omega) q0 (by omega) _ (by omega)]
    have oD : okA (daA A i) := ok_da hO (by omega)
    refine v_iload2 d_M_days_29 ?_
    refine v_iload1 d_M_days_30 ?_
    refine v_icmp_ge d_M_days_31 (by omega) (by omega) (fun u31 => ?_) (fun u31 => ?_)
    · omega
    · refine v_aload0 d_M_days_34 ?_
      refine v_getR d_M_days_35 f_M_7 (sh_55 T) rfl ?_
      refine v_iconst d_M_days_38 ?_
      refine v_dup2 d_M_days_39 rfl rfl ?_
      refine v_ialoadE hB d_M_days_40 (sh_56 T) (by omega) (fun g40 => ?_)
      refine v_iconst d_M_days_41 ?_
      refine v_iadd d_M_days_42 ?_
      refine v_iastoreE hB d_M_days_43 (sh_56 T) (by omega) (by omega) (fun m43 f43 hA43 => ?_)
      refine v_aload0 d_M_days_44 ?_
      refine v_getR d_M_days_45 f_M_7 (sh_55 T) rfl ?_
      refine v_iconst d_M_days_48 ?_
      refine v_ialoadE hA43 d_M_days_49 (sh_56 T) (by omega) (fun g49 => ?_)
      rw [upF_s] at g49
      rw [upF_s]
      refine v_bipush d_M_days_50 rfl ?_
      refine v_iremN d_M_days_52 (by omega) (by omega) ?_
      refine v_if_ne d_M_days_53 (by omega) (fun u53 => ?_) (fun u53 => ?_)
      · refine v_iinc2 d_M_days_71 (by decide) rfl ?_
        refine v_goto d_M_days_74 ?_
        exact ih (j + 1) _ _ (by omega) (by omega) (fun k hk => by rw [f43 k hk]; exact hσ k hk) (by rw [hA43, d4, daA_1 hO (by omega) (by omega)])
      · refine v_aload0 d_M_days_56 ?_
        refine v_aload0 d_M_days_57 ?_
        refine v_getR d_M_days_58 f_M_7 (sh_55 T) rfl ?_
        refine v_iconst d_M_days_61 ?_
        refine v_ialoadE hA43 d_M_days_62 (sh_56 T) (by omega) (fun g62 => ?_)
        rw [upF_s] at g62
        rw [upF_s]
        refine v_bipush d_M_days_63 rfl ?_
        refine v_idiv d_M_days_65 (by omega) (by omega) ?_
        refine v_iconst d_M_days_66 ?_
        refine v_isub d_M_days_67 ?_
        have ok9 : okA (upF (daA A i) 4 (daA A i 4 + 1)) := ok_dy oD (by omega)
        have dy0 : (upF (daA A i) 4 (daA A i 4 + 1)) 0 = A 0 := by rw [upF_n (by decide), d0]
        refine v_gVV1 d_M_days_68 l_M_76 k_M_ends (c_M_ends (A := upF (daA A i) 4 (daA A i 4 + 1)) hA43 ok9 (by omega)) (sh_55 T) rfl (by decide) (by decide) (Nat.le_of_ble_eq_true rfl) (Nat.zero_le _) (Nat.zero_le _) (fun z68 s68 e68 => ?_)
        refine v_iinc2 d_M_days_71 (by decide) rfl ?_
        refine v_goto d_M_days_74 ?_
        exact ih (j + 1) _ _ (by omega) (by omega) (fun k hk => by rw [e68.1 k hk, f43 k hk]; exact hσ k hk) (by rw [e68.2, daA_2 hO (by omega) (by omega), ← d4, dy0])

theorem c_M_days {T : vSh} {σ : vMem} {A : Int → Int} (hA : σ 56 = A) (hO : okA A) {nn : Int} (h0 : vIn nn) : mt_M_days [.ref 55, .int (iI nn)] (S0 ++ T) σ (rP (S0 ++ T) (fun z σ2 => z = (wDa A nn).2 ∧ (∀ k, k ≠ 56 → σ2 k = σ k) ∧ σ2 56 = (wDa A nn).1)) := by
  refine vMet.intro 1 (by decide +kernel) (Nat.le_of_ble_eq_true rfl) rfl (fun cx hM _ => ?_)
  obtain ⟨⟨q0, q1, q2, q3, q4, q5, q6, q7⟩, hVi, hWe, hCo, hOf, hBo, hWo, hMo, hRe, hLi, hTa⟩ := id hO
  refine v_iload1 d_M_days_0 ?_
  refine v_iconst d_M_days_1 ?_
  refine v_sipush d_M_days_2 rfl ?_
  refine v_fSZ3 d_M_days_5 l_M_56 k_M_isIn (c_M_isIn (by omega) (by omega) (by omega)) (by decide) (by decide) (Nat.le_of_ble_eq_true rfl) (Nat.zero_le _) (Nat.zero_le _) (fun g5 => ?_)
  refine v_ifb_eq d_M_days_8 (fun u8 => ?_) (fun u8 => ?_)
  · refine v_iconst d_M_days_25 ?_
    exact v_ireturn hM d_M_days_26 (by omega) ⟨rfl, by rw [wDa, if_neg (by omega)], fun k _ => rfl, by rw [wDa, if_neg (by omega)]; exact hA⟩
  · refine v_aload0 d_M_days_11 ?_
    refine v_getR d_M_days_12 f_M_7 (sh_55 T) rfl ?_
    refine v_iconst d_M_days_15 ?_
    refine v_ialoadE hA d_M_days_16 (sh_56 T) (by omega) (fun g16 => ?_)
    refine v_iload1 d_M_days_17 ?_
    refine v_iadd d_M_days_18 ?_
    refine v_sipush d_M_days_19 rfl ?_
    refine v_icmp_lt d_M_days_22 (by omega) (by omega) (fun u22 => ?_) (fun u22 => ?_)
    · refine v_iconst d_M_days_27 ?_
      refine v_istore2 d_M_days_28 (by decide) rfl ?_
      exact c_M_days_29 hA hO (by omega) (by omega) hM nn.toNat 0 _ _ (by omega) rfl (fun k _ => rfl) (by rw [daA_0]; exact hA)
    · refine v_iconst d_M_days_25 ?_
      exact v_ireturn hM d_M_days_26 (by omega) ⟨rfl, by rw [wDa, if_neg (by omega)], fun k _ => rfl, by rw [wDa, if_neg (by omega)]; exact hA⟩

theorem c_La_endSeason_2 {T : vSh} {σ : vMem} {cx : vCx} {A : Int → Int} (hC : CR σ A) (hO : okA A) {s : Int} (h0 : 0 ≤ s ∧ s < 20) (hM : vM cx 0 0 none (rP (S0 ++ T) (fun _ σ2 => CW σ σ2 ∧ CR σ2 (esA A s (A 0).toNat)))) : ∀ (n j : Nat) (i : Int) (σ1 : vMem), (j : Int) + n = A 0 → i = j → CW σ σ1 → CR σ1 (esA A s j) → vV cx y_La_endSeason.cls prog_5_method_4_code 3 2 0 0 0 0 2 [some (.ref 2), some (.int (iI s)), some (.int (iI i))] [] (S0 ++ T) σ1 := by
  intro n
  induction n with
  | zero =>
    intro j i σ1 hj hi hσ hC1
    obtain ⟨⟨q0, q1, q2, q3, q4, q5, q6, q7⟩, hVi, hWe, hCo, hOf, hBo, hWo, hMo, hRe, hLi, hTa⟩ := id hO
    have e0 : esA A s j 0 = A 0 := esA_off A s j (fun v _ _ => by omega)
    have oE := ok_esA hO h0 j (by omega)
    obtain ⟨-, hVi, hWe, -⟩ := id oE
    obtain ⟨⟨l0, l1, lV, lC, lZ, lS⟩, ⟨b0, b1, bO, bB⟩, ⟨w0, wR, wL⟩, ⟨t0, t1, t2, tR, tB⟩, ⟨n9, nW⟩, m0, mM⟩ := id hC1
    refine v_iload2 d_La_endSeason_2 ?_
    refine v_aload0 d_La_endSeason_3 ?_
    refine v_getJ (ji := 1) d_La_endSeason_4 f_La_39 (sh_2 T) rfl rfl (fun g4 => ?_)
    refine v_icmp_ge d_La_endSeason_7 (by omega) (by omega) (fun u7 => ?_) (fun u7 => ?_)
    · exact v_return hM d_La_endSeason_75 ⟨rfl, hσ, by rw [show (A 0).toNat = j by omega]; exact hC1⟩
    · omega
  | succ n ih =>
    intro j i σ1 hj hi hσ hC1
    obtain ⟨⟨q0, q1, q2, q3, q4, q5, q6, q7⟩, hVi, hWe, hCo, hOf, hBo, hWo, hMo, hRe, hLi, hTa⟩ := id hO
    have e0 : esA A s j 0 = A 0 := esA_off A s j (fun v _ _ => by omega)
    have oE := ok_esA hO h0 j (by omega)
    obtain ⟨-, hVi, hWe, -⟩ := id oE
    obtain ⟨⟨l0, l1, lV, lC, lZ, lS⟩, ⟨b0, b1, bO, bB⟩, ⟨w0, wR, wL⟩, ⟨t0, t1, t2, tR, tB⟩, ⟨n9, nW⟩, m0, mM⟩ := id hC1
    have hvi := hVi i (by omega) (by omega)
    have hcv := lV i (by omega) (by omega)
    have hwe := hWe s (by omega) (by omega)
    have hcs := lS s (by omega) (by omega)
    refine v_iload2 d_La_endSeason_2 ?_
    refine v_aload0 d_La_endSeason_3 ?_
    refine v_getJ (ji := 1) d_La_endSeason_4 f_La_39 (sh_2 T) rfl rfl (fun g4 => ?_)
    refine v_icmp_ge d_La_endSeason_7 (by omega) (by omega) (fun u7 => ?_) (fun u7 => ?_)
    · omega
    · refine v_aload0 d_La_endSeason_10 ?_
      refine v_getR d_La_endSeason_11 f_La_27 (sh_2 T) rfl ?_
      refine v_iload2 d_La_endSeason_14 ?_
      refine v_bipush d_La_endSeason_15 rfl ?_
      refine v_imul d_La_endSeason_17 ?_
      refine v_iload1 d_La_endSeason_18 ?_
      refine v_iadd d_La_endSeason_19 ?_
      refine v_aload0 d_La_endSeason_20 ?_
      refine v_getR d_La_endSeason_21 f_La_9 (sh_2 T) rfl ?_
      refine v_iload2 d_La_endSeason_24 ?_
      refine v_iaload d_La_endSeason_25 (sh_3 T) (by omega) (fun g25 => ?_)
      refine v_aload0 d_La_endSeason_26 ?_
      refine v_getR d_La_endSeason_27 f_La_21 (sh_2 T) rfl ?_
      refine v_iload2 d_La_endSeason_30 ?_
      refine v_iaload d_La_endSeason_31 (sh_6 T) (by omega) (fun g31 => ?_)
      refine v_aload0 d_La_endSeason_32 ?_
      refine v_getR d_La_endSeason_33 f_La_30 (sh_2 T) rfl ?_
      refine v_iload1 d_La_endSeason_36 ?_
      refine v_iaload d_La_endSeason_37 (sh_9 T) (by omega) (fun g37 => ?_)
      refine v_aload0 d_La_endSeason_38 ?_
      refine v_getR d_La_endSeason_39 f_La_24 (sh_2 T) rfl ?_
      refine v_iload2 d_La_endSeason_42 ?_
      refine v_iaload d_La_endSeason_43 (sh_7 T) (by omega) (fun g43 => ?_)
      refine v_fSI4 d_La_endSeason_44 l_La_50 k_La_crop (c_La_crop (by omega) (by omega) (by omega) (by omega)) (by decide) (by decide) (Nat.le_of_ble_eq_true rfl) (Nat.zero_le _) (Nat.zero_le _) (fun g44 => ?_)
      have hcr := (crop_rng (paper := σ1 3 i) (health := σ1 6 i) (pct := σ1 9 s) (press := σ1 7 i) (by omega) (by omega) (by omega) (by omega)).2.2.2
      refine v_iastore d_La_endSeason_47 (sh_8 T) (by omega) (by omega) ?_
      refine v_aload0 d_La_endSeason_48 ?_
      refine v_getR d_La_endSeason_49 f_La_21 (sh_2 T) rfl ?_
      refine v_iload2 d_La_endSeason_52 ?_
      refine v_aload0 d_La_endSeason_53 ?_
      refine v_getR d_La_endSeason_54 f_La_21 (sh_2 T) rfl ?_
      refine v_iload2 d_La_endSeason_57 ?_
      refine v_iaload d_La_endSeason_58 (sh_6 T) (by omega) (fun g58 => ?_)
      rw [vUp_ne (by decide)] at g58
      rw [vUp_ne (by decide)]
      refine v_aload0 d_La_endSeason_59 ?_
      refine v_getR d_La_endSeason_60 f_La_24 (sh_2 T) rfl ?_
      refine v_iload2 d_La_endSeason_63 ?_
      refine v_iaload d_La_endSeason_64 (sh_7 T) (by omega) (fun g64 => ?_)
      rw [vUp_ne (by decide)] at g64
      rw [vUp_ne (by decide)]
      refine v_fSI2 d_La_endSeason_65 l_La_54 k_La_healthAfter (c_La_healthAfter (by omega) (by omega)) (by decide) (by decide) (Nat.le_of_ble_eq_true rfl) (Nat.zero_le _) (Nat.zero_le _) (fun g65 => ?_)
      have hhl := hlF_rng (σ1 6 i) (σ1 7 i)
      refine v_iastore d_La_endSeason_68 (sh_6 T) (by omega) (by omega) ?_
      refine v_iinc2 d_La_endSeason_69 (by decide) rfl ?_
      refine v_goto d_La_endSeason_72 ?_
      refine ih (j + 1) _ _ (by omega) (by omega) (hσ.trans' (fun k hk => by rw [vUp_ne (by omega), vUp_ne (by omega)])) ?_
      rw [esA_step A h0 j (by omega), ← hi]
      refine CR_es hC1 oE (by omega) h0 (fun k hk => by rw [vUp_ne (by omega), vUp_ne (by omega)]) ?_ ?_
      · rw [vUp_fn, vUp_ne (by decide), hcv.2.2.2.1, hcv.2.2.2.2]
      · rw [vUp_ne (by decide), vUp_fn, hcv.1, hcv.2.2.2.1, hcv.2.2.2.2, hcs]

theorem c_La_endSeason {T : vSh} {σ : vMem} {A : Int → Int} (hC : CR σ A) (hO : okA A) {s : Int} (h0 : 0 ≤ s ∧ s < 20) : mt_La_endSeason [.ref 2, .int (iI s)] (S0 ++ T) σ (rP (S0 ++ T) (fun _ σ2 => CW σ σ2 ∧ CR σ2 (esA A s (A 0).toNat))) := by
  refine vMet.intro 1 (by decide +kernel) (Nat.le_of_ble_eq_true rfl) rfl (fun cx hM _ => ?_)
  obtain ⟨⟨q0, q1, q2, q3, q4, q5, q6, q7⟩, hVi, hWe, hCo, hOf, hBo, hWo, hMo, hRe, hLi, hTa⟩ := id hO
  refine v_iconst d_La_endSeason_0 ?_
  refine v_istore2 d_La_endSeason_1 (by decide) rfl ?_
  exact c_La_endSeason_2 hC hO h0 hM (A 0).toNat 0 _ _ (by omega) rfl CW.rfl' hC

theorem c_La_passDays_18 {T : vSh} {σ : vMem} {cx : vCx} {A : Int → Int} (hC : CR σ A) (hO : okA A) {nn : Int} (h0 : 0 ≤ nn ∧ A 4 + nn < 1200) (hM : vM cx 0 0 none (rP (S0 ++ T) (fun _ σ2 => CW σ σ2 ∧ CR σ2 (daA A nn)))) : ∀ (n j : Nat) (i : Int) (σ1 : vMem), (j : Int) + n = (A 4 + nn) / 60 - A 4 / 60 → i = A 4 / 60 + j → CW σ σ1 → CR σ1 (dyA (ssA A (A 4 / 60) j) (A 4 + nn)) → vV cx y_La_passDays.cls prog_5_method_3_code 3 3 0 0 0 0 18 [some (.ref 2), some (.int (iI nn)), some (.int (iI i))] [] (S0 ++ T) σ1 := by
  intro n
  induction n with
  | zero =>
    intro j i σ1 hj hi hσ hC1
    obtain ⟨⟨q0, q1, q2, q3, q4, q5, q6, q7⟩, hVi, hWe, hCo, hOf, hBo, hWo, hMo, hRe, hLi, hTa⟩ := id hO
    have oE : okA (dyA (ssA A (A 4 / 60) j) (A 4 + nn)) := ok_dy (ok_ssA hO (by omega) _ (by omega)) (by rw [ssA_off A (by omega) q0 (by omega) _ (by omega)]; omega)
    have e4 : dyA (ssA A (A 4 / 60) j) (A 4 + nn) 4 = A 4 + nn := by rw [dyA, upF_s]
    have e0 : dyA (ssA A (A 4 / 60) j) (A 4 + nn) 0 = A 0 := by rw [dy_e _ 0 (by omega), ssA_off A (by omega) q0 (by omega) _ (by omega)]
    obtain ⟨⟨l0, l1, lV, lC, lZ, lS⟩, ⟨b0, b1, bO, bB⟩, ⟨w0, wR, wL⟩, ⟨t0, t1, t2, tR, tB⟩, ⟨n9, nW⟩, m0, mM⟩ := id hC1
    refine v_iload2 d_La_passDays_18 ?_
    refine v_aload0 d_La_passDays_19 ?_
    refine v_getJ (ji := 0) d_La_passDays_20 f_La_43 (sh_2 T) rfl rfl (fun g20 => ?_)
    refine v_bipush d_La_passDays_23 rfl ?_
    refine v_idiv d_La_passDays_25 (by omega) (by omega) ?_
    refine v_icmp_ge d_La_passDays_26 (by omega) (by omega) (fun u26 => ?_) (fun u26 => ?_)
    · exact v_return hM d_La_passDays_40 ⟨rfl, hσ, by rw [daA, show ((A 4 + nn) / 60 - A 4 / 60).toNat = j by omega]; exact hC1⟩
    · omega
  | succ n ih =>
    intro j i σ1 hj hi hσ hC1
    obtain ⟨⟨q0, q1, q2, q3, q4, q5, q6, q7⟩, hVi, hWe, hCo, hOf, hBo, hWo, hMo, hRe, hLi, hTa⟩ := id hO
    have oE : okA (dyA (ssA A (A 4 / 60) j) (A 4 + nn)) := ok_dy (ok_ssA hO (by omega) _ (by omega)) (by rw [ssA_off A (by omega) q0 (by omega) _ (by omega)]; omega)
    have e4 : dyA (ssA A (A 4 / 60) j) (A 4 + nn) 4 = A 4 + nn := by rw [dyA, upF_s]
    have e0 : dyA (ssA A (A 4 / 60) j) (A 4 + nn) 0 = A 0 := by rw [dy_e _ 0 (by omega), ssA_off A (by omega) q0 (by omega) _ (by omega)]
    obtain ⟨⟨l0, l1, lV, lC, lZ, lS⟩, ⟨b0, b1, bO, bB⟩, ⟨w0, wR, wL⟩, ⟨t0, t1, t2, tR, tB⟩, ⟨n9, nW⟩, m0, mM⟩ := id hC1
    refine v_iload2 d_La_passDays_18 ?_
    refine v_aload0 d_La_passDays_19 ?_
    refine v_getJ (ji := 0) d_La_passDays_20 f_La_43 (sh_2 T) rfl rfl (fun g20 => ?_)
    refine v_bipush d_La_passDays_23 rfl ?_
    refine v_idiv d_La_passDays_25 (by omega) (by omega) ?_
    refine v_icmp_ge d_La_passDays_26 (by omega) (by omega) (fun u26 => ?_) (fun u26 => ?_)
    · omega
    · refine v_aload0 d_La_passDays_29 ?_
      refine v_iload2 d_La_passDays_30 ?_
      refine v_gVV1 d_La_passDays_31 l_La_46 k_La_endSeason (c_La_endSeason hC1 oE (by omega)) (sh_2 T) rfl (by decide) (by decide) (Nat.le_of_ble_eq_true rfl) (Nat.zero_le _) (Nat.zero_le _) (fun z31 s31 e31 => ?_)
      refine v_iinc2 d_La_passDays_34 (by decide) rfl ?_
      refine v_goto d_La_passDays_37 ?_
      exact ih (j + 1) _ _ (by omega) (by omega) (hσ.trans' e31.1) (by have h9 := e31.2; rw [e0, esA_dy _ (by omega)] at h9; rw [ssA, ← hi]; exact h9)

theorem c_La_passDays {T : vSh} {σ : vMem} {A : Int → Int} (hC : CR σ A) (hO : okA A) {nn : Int} (h0 : 0 ≤ nn ∧ A 4 + nn < 1200) : mt_La_passDays [.ref 2, .int (iI nn)] (S0 ++ T) σ (rP (S0 ++ T) (fun _ σ2 => CW σ σ2 ∧ CR σ2 (daA A nn))) := by
  refine vMet.intro 1 (by decide +kernel) (Nat.le_of_ble_eq_true rfl) rfl (fun cx hM _ => ?_)
  obtain ⟨⟨q0, q1, q2, q3, q4, q5, q6, q7⟩, hVi, hWe, hCo, hOf, hBo, hWo, hMo, hRe, hLi, hTa⟩ := id hO
  obtain ⟨⟨l0, l1, lV, lC, lZ, lS⟩, ⟨b0, b1, bO, bB⟩, ⟨w0, wR, wL⟩, ⟨t0, t1, t2, tR, tB⟩, ⟨n9, nW⟩, m0, mM⟩ := id hC
  refine v_aload0 d_La_passDays_0 ?_
  refine v_getJ (ji := 0) d_La_passDays_1 f_La_43 (sh_2 T) rfl rfl (fun g1 => ?_)
  refine v_bipush d_La_passDays_4 rfl ?_
  refine v_idiv d_La_passDays_6 (by omega) (by omega) ?_
  refine v_istore2 d_La_passDays_7 (by decide) rfl ?_
  refine v_aload0 d_La_passDays_8 ?_
  refine v_dup d_La_passDays_9 rfl ?_
  refine v_getJ (ji := 0) d_La_passDays_10 f_La_43 (sh_2 T) rfl rfl (fun g10 => ?_)
  refine v_iload1 d_La_passDays_13 ?_
  refine v_iadd d_La_passDays_14 ?_
  refine v_putJ (ji := 0) d_La_passDays_15 p_La_43 (sh_2 T) rfl rfl (by omega) ?_
  exact c_La_passDays_18 hC hO h0 hM ((A 4 + nn) / 60 - A 4 / 60).toNat 0 _ _ (by omega) (by omega) (fun k hk => vUp_ne (by omega)) (CR_dy hC hO (by omega) (fun k hk => vUp_ne hk) (by rw [vUp_same, l0]) (by rw [vUp_ix (by decide)]))

theorem c_V_days {T : vSh} {σ : vMem} {A : Int → Int} (hC : CR σ A) (hO : okA A) {nn : Int} (h0 : vIn nn) : mt_V_days [.ref 0, .int (iI nn)] (S0 ++ T) σ (rP (S0 ++ T) (fun z σ2 => z = (wDa A nn).2 ∧ CW σ σ2 ∧ CR σ2 (wDa A nn).1)) := by
  refine vMet.intro 0 (by decide +kernel) (Nat.le_of_ble_eq_true rfl) rfl (fun cx hM _ => ?_)
  obtain ⟨⟨q0, q1, q2, q3, q4, q5, q6, q7⟩, hVi, hWe, hCo, hOf, hBo, hWo, hMo, hRe, hLi, hTa⟩ := id hO
  obtain ⟨⟨l0, l1, lV, lC, lZ, lS⟩, ⟨b0, b1, bO, bB⟩, ⟨w0, wR, wL⟩, ⟨t0, t1, t2, tR, tB⟩, ⟨n9, nW⟩, m0, mM⟩ := id hC
  refine v_iload1 d_V_days_0 ?_
  refine v_iconst d_V_days_1 ?_
  refine v_sipush d_V_days_2 rfl ?_
  refine v_fSZ3 d_V_days_5 l_V_82 k_V_isWithin (c_V_isWithin (by omega) (by omega) (by omega)) (by decide) (by decide) (Nat.le_of_ble_eq_true rfl) (Nat.zero_le _) (Nat.zero_le _) (fun g5 => ?_)
  refine v_ifb_eq d_V_days_8 (fun u8 => ?_) (fun u8 => ?_)
  · refine v_iconst d_V_days_26 ?_
    first
    | (exact v_ireturn hM d_V_days_27 (by omega) ⟨rfl, by rw [wDa, if_pos (by omega)]; exact e9, e33.1, by rw [wDa, if_pos (by omega)]; exact e33.2⟩)
    | (exact v_ireturn hM d_V_days_27 (by omega) ⟨rfl, by rw [wDa, if_neg (by omega)], CW.rfl', by rw [wDa, if_neg (by omega)]; exact hC⟩)
  · refine v_aload0 d_V_days_11 ?_
    refine v_getR d_V_days_12 f_V_66 (sh_0 T) rfl ?_
    refine v_getJ (ji := 0) d_V_days_15 f_V_113 (sh_2 T) rfl rfl (fun g15 => ?_)
    refine v_iload1 d_V_days_18 ?_
    refine v_iadd d_V_days_19 ?_
    refine v_sipush d_V_days_20 rfl ?_
    refine v_icmp_lt d_V_days_23 (by omega) (by omega) (fun u23 => ?_) (fun u23 => ?_)
    · refine v_aload0 d_V_days_28 ?_
      refine v_getR d_V_days_29 f_V_66 (sh_0 T) rfl ?_
      refine v_iload1 d_V_days_32 ?_
      refine v_gVV1 d_V_days_33 l_V_116 k_La_passDays (c_La_passDays hC hO (by omega)) (sh_2 T) rfl (by decide) (by decide) (Nat.le_of_ble_eq_true rfl) (Nat.zero_le _) (Nat.zero_le _) (fun z33 s33 e33 => ?_)
      have e9 : s33 2 0 = A 4 + nn := by rw [e33.2.1.1, daA, dyA, upF_s]
      refine v_aload0 d_V_days_36 ?_
      refine v_getR d_V_days_37 f_V_66 (sh_0 T) rfl ?_
      refine v_getJ (ji := 0) d_V_days_40 f_V_113 (sh_2 T) rfl rfl (fun g40 => ?_)
      first
      | (exact v_ireturn hM d_V_days_43 (by omega) ⟨rfl, by rw [wDa, if_pos (by omega)]; exact e9, e33.1, by rw [wDa, if_pos (by omega)]; exact e33.2⟩)
      | (exact v_ireturn hM d_V_days_43 (by omega) ⟨rfl, by rw [wDa, if_neg (by omega)], CW.rfl', by rw [wDa, if_neg (by omega)]; exact hC⟩)
    · refine v_iconst d_V_days_26 ?_
      first
      | (exact v_ireturn hM d_V_days_27 (by omega) ⟨rfl, by rw [wDa, if_pos (by omega)]; exact e9, e33.1, by rw [wDa, if_pos (by omega)]; exact e33.2⟩)
      | (exact v_ireturn hM d_V_days_27 (by omega) ⟨rfl, by rw [wDa, if_neg (by omega)], CW.rfl', by rw [wDa, if_neg (by omega)]; exact hC⟩)

