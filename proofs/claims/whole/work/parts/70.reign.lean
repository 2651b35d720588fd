/-! ===== a reign: the class holds what the reference holds ===== -/
theorem CR_re {σ σ2 : vMem} {A B : Int → Int} (hC : CR σ A) (hO : okA A) (f : ∀ k, k < 20 ∨ (30 < k ∧ k ≠ 45) → σ2 k = σ k) (e : ∀ i, i ≠ 3 ∧ i ≠ 7 ∧ i ≠ 8 ∧ i ≠ 9 ∧ ¬ (10 ≤ i ∧ i < 20) ∧ ¬ (1430 ≤ i ∧ i < 2710) → B i = A i) (h7 : B 7 = 0) (h1 : σ2 30 1 = 0) (hf : FPt σ2 (B 8, B 9)) (hW : LawsR (σ2 20) (σ2 21) (σ2 22) (σ2 23) (σ2 24) (σ2 25) (σ2 26) (σ2 27) (σ2 28) (σ2 29) B) : CR σ2 B := by
  obtain ⟨⟨q0, q1, q2, q3, q4, q5, q6, q7⟩, hVi, hWe, hCo, hOf, hBo, hWo, hMo, hRe, hLi, hTa⟩ := id hO
  obtain ⟨cL, cB, cW, cT, cN, cM⟩ := id hC
  refine ⟨by rw [f 2 (by omega), f 3 (by omega), f 4 (by omega), f 5 (by omega), f 6 (by omega), f 7 (by omega), f 8 (by omega), f 9 (by omega)]; exact LandR_c (e _ (by omega)) (e _ (by omega)) (fun i _ _ => e i (by omega)) q0.2 cL, by rw [f 10 (by omega), f 11 (by omega), f 12 (by omega), f 13 (by omega), f 14 (by omega), f 15 (by omega), f 16 (by omega), f 17 (by omega), f 18 (by omega), f 19 (by omega)]; exact BookR_c (e _ (by omega)) (e _ (by omega)) (fun i _ _ => e i (by omega)) (fun i _ _ => e i (by omega)) ⟨q1.2, q2.2⟩ cB, hW, ?_, by rw [f 32 (by omega), f 33 (by omega), f 34 (by omega), f 35 (by omega), f 36 (by omega), f 37 (by omega)]; exact NewsR_c (e _ (by omega)) (fun i _ _ => e i (by omega)) q6.2 cN, by rw [f 38 (by omega), f 39 (by omega), f 40 (by omega)]; exact MovesR_c (e _ (by omega)) (fun i _ _ => e i (by omega)) q5.2 cM⟩
  obtain ⟨t0, t1, t2, tR, tB⟩ := cT
  refine ⟨by rw [h7]; exact h1, hf.1, hf.2, by rw [f 31 (by omega)]; exact tR, fun i i1 i2 => by omega⟩
/-- the laws of the reigns before stay -/
theorem LawsR_old {σ σ2 : vMem} {A B : Int → Int} (hO : okA A) (cW : LawsR (σ 20) (σ 21) (σ 22) (σ 23) (σ 24) (σ 25) (σ 26) (σ 27) (σ 28) (σ 29) A) (hG : AG σ σ2 (A 3 * 16)) (h20 : σ2 20 0 = B 3) (be : ∀ r, 0 ≤ r → r < A 3 → σ2 21 r = σ 21 r ∧ σ2 22 r = σ 22 r) (e1 : ∀ r, 0 ≤ r → r < A 3 → B (10 + 2 * r) = A (10 + 2 * r) ∧ B (10 + 2 * r + 1) = A (10 + 2 * r + 1)) (e2 : ∀ r j, 0 ≤ r → r < A 3 → 0 ≤ j → j < 320 → B (1430 + 320 * r + j) = A (1430 + 320 * r + j)) (hnew : B 3 = A 3 ∨ (B 3 = A 3 + 1 ∧ σ2 21 (A 3) = B (10 + 2 * A 3) ∧ σ2 22 (A 3) = B (10 + 2 * A 3 + 1) ∧ ∀ l, 0 ≤ l → l < B (10 + 2 * A 3 + 1) → LnR σ2 (A 3 * 16 + l) B (1430 + 320 * A 3 + 20 * l))) : LawsR (σ2 20) (σ2 21) (σ2 22) (σ2 23) (σ2 24) (σ2 25) (σ2 26) (σ2 27) (σ2 28) (σ2 29) B := by
  obtain ⟨⟨q0, q1, q2, q3, q4, q5, q6, q7⟩, hVi, hWe, hCo, hOf, hBo, hWo, hMo, hRe, hLi, hTa⟩ := id hO
  obtain ⟨w0, wR, wL⟩ := cW
  refine ⟨h20, fun r r1 r2 => ?_, fun r l r1 r2 l1 l2 => ?_⟩
  · by_cases q : r < A 3
    · rw [(be r r1 q).1, (be r r1 q).2, (e1 r r1 q).1, (e1 r r1 q).2]
      exact wR r r1 q
    · rcases hnew with h | ⟨h, h21, h22, -⟩
      · omega
      · rw [show r = A 3 by omega]
        exact ⟨h21, h22⟩
  · by_cases q : r < A 3
    · rw [(e1 r r1 q).2] at l2
      have hr9 := hRe r r1 q
      have hn9 := (hLi r l r1 q l1 l2).1
      have h9 := wL r l r1 q l1 l2
      have ej : ∀ j, 0 ≤ j → j < 20 → B (1430 + 320 * r + 20 * l + j) = A (1430 + 320 * r + 20 * l + j) := fun j j1 j2 => by
        have := e2 r (20 * l + j) r1 q (by omega) (by omega)
        rw [show 1430 + 320 * r + (20 * l + j) = 1430 + 320 * r + 20 * l + j by omega] at this
        exact this
      have e0 := ej 0 (by omega) (by omega)
      rw [Int.add_zero] at e0
      rw [hG.1 23 (by omega) _ (by omega), hG.1 24 (by omega) _ (by omega), hG.1 25 (by omega) _ (by omega), ej 17 (by omega) (by omega), ej 18 (by omega) (by omega), e0]
      refine ⟨h9.1, h9.2.1, h9.2.2.1, fun t t1 t2 => ?_⟩
      have h8 := h9.2.2.2 t t1 t2
      rw [hG.2 26 (by omega) _ (by omega), hG.2 27 (by omega) _ (by omega), hG.2 28 (by omega) _ (by omega), hG.2 29 (by omega) _ (by omega), show 1430 + 320 * r + 20 * l + 1 + 4 * t = 1430 + 320 * r + 20 * l + (1 + 4 * t) by omega, ej (1 + 4 * t) (by omega) (by omega), show 1430 + 320 * r + 20 * l + (1 + 4 * t) + 1 = 1430 + 320 * r + 20 * l + (1 + 4 * t + 1) by omega, ej (1 + 4 * t + 1) (by omega) (by omega), show 1430 + 320 * r + 20 * l + (1 + 4 * t) + 2 = 1430 + 320 * r + 20 * l + (1 + 4 * t + 2) by omega, ej (1 + 4 * t + 2) (by omega) (by omega), show 1430 + 320 * r + 20 * l + (1 + 4 * t) + 3 = 1430 + 320 * r + 20 * l + (1 + 4 * t + 3) by omega, ej (1 + 4 * t + 3) (by omega) (by omega)]
      rw [show 1430 + 320 * r + 20 * l + 1 + 4 * t = 1430 + 320 * r + 20 * l + (1 + 4 * t) by omega, show 1430 + 320 * r + 20 * l + (1 + 4 * t) + 1 = 1430 + 320 * r + 20 * l + (1 + 4 * t + 1) by omega, show 1430 + 320 * r + 20 * l + (1 + 4 * t) + 2 = 1430 + 320 * r + 20 * l + (1 + 4 * t + 2) by omega, show 1430 + 320 * r + 20 * l + (1 + 4 * t) + 3 = 1430 + 320 * r + 20 * l + (1 + 4 * t + 3) by omega] at h8
      exact h8
    · rcases hnew with h | ⟨h, -, -, hN⟩
      · omega
      · have hr3 : r = A 3 := by omega
        subst hr3
        obtain ⟨n1, n2, n3, n4, n5⟩ := hN l l1 l2
        exact ⟨n1, n2, n3, n5⟩
theorem reA_3 (X : Int → Int) (dd n : Int) (C : Int → Int) : reA X dd n C 3 = X 3 + 1 := upF_s _ _ _
theorem reA_d (X : Int → Int) (dd n : Int) (C : Int → Int) (h : 0 ≤ X 3) : reA X dd n C (10 + 2 * X 3) = dd := by rw [reA, upF_n (by omega), upF_n (by omega), upF_s]
theorem reA_n (X : Int → Int) (dd n : Int) (C : Int → Int) (h : 0 ≤ X 3) : reA X dd n C (10 + 2 * X 3 + 1) = n := by rw [reA, upF_n (by omega), upF_s]
theorem reA_C (X : Int → Int) (dd n : Int) (C : Int → Int) (h : 0 ≤ X 3 ∧ X 3 < 4) {j : Int} (hj : 0 ≤ j ∧ j < 320) : reA X dd n C (1430 + 320 * X 3 + j) = C j := by
  rw [reA, upF_n (by omega), upF_n (by omega), upF_n (by omega), cpC, if_pos (by omega)]
  congr 1
  omega
theorem reA_e (X : Int → Int) (dd n : Int) (C : Int → Int) {i : Int} (h : i ≠ 3 ∧ i ≠ 10 + 2 * X 3 ∧ i ≠ 10 + 2 * X 3 + 1 ∧ ¬ (1430 + 320 * X 3 ≤ i ∧ i < 1430 + 320 * X 3 + 320)) : reA X dd n C i = X i := by
  rw [reA, upF_n (by omega), upF_n (by omega), upF_n (by omega), cpC, if_neg (by omega)]
theorem LnR_c {σ : vMem} {x row row' : Int} {C D : Int → Int} (h : LnR σ x C row) (e : ∀ j, 0 ≤ j → j < 20 → D (row' + j) = C (row + j)) : LnR σ x D row' := by
  have e0 := e 0 (by omega) (by omega)
  rw [Int.add_zero, Int.add_zero] at e0
  obtain ⟨a1, a2, a3, a4, a5⟩ := h
  unfold LnR
  rw [e0, e 17 (by omega) (by omega), e 18 (by omega) (by omega)]
  refine ⟨a1, a2, a3, a4, fun t t1 t2 => ?_⟩
  have h9 := a5 t t1 t2
  rw [show row' + 1 + 4 * t = row' + (1 + 4 * t) by omega, e (1 + 4 * t) (by omega) (by omega), show row' + (1 + 4 * t) + 1 = row' + (1 + 4 * t + 1) by omega, e (1 + 4 * t + 1) (by omega) (by omega), show row' + (1 + 4 * t) + 2 = row' + (1 + 4 * t + 2) by omega, e (1 + 4 * t + 2) (by omega) (by omega), show row' + (1 + 4 * t) + 3 = row' + (1 + 4 * t + 3) by omega, e (1 + 4 * t + 3) (by omega) (by omega)]
  rw [show row + 1 + 4 * t = row + (1 + 4 * t) by omega, show row + (1 + 4 * t) + 1 = row + (1 + 4 * t + 1) by omega, show row + (1 + 4 * t) + 2 = row + (1 + 4 * t + 2) by omega, show row + (1 + 4 * t) + 3 = row + (1 + 4 * t + 3) by omega] at h9
  exact h9
theorem CR_re0 {σ σ2 : vMem} {A : Int → Int} (hC : CR σ A) (hO : okA A) (fp : FP) (f : ∀ k, k < 20 ∨ (30 < k ∧ k ≠ 45) → σ2 k = σ k) (hG : AG σ σ2 (A 3 * 16)) (f2 : ∀ k : Nat, 20 ≤ k ∧ k ≤ 22 → σ2 k = σ k) (h1 : σ2 30 1 = 0) (hf : FPt σ2 fp) : CR σ2 (fpA (rzA A) fp) := by
  obtain ⟨⟨q0, q1, q2, q3, q4, q5, q6, q7⟩, hVi, hWe, hCo, hOf, hBo, hWo, hMo, hRe, hLi, hTa⟩ := id hO
  refine CR_re hC hO f (fun i hi => fpA_in fp (by omega)) (by rw [fpA_n _ _ (by decide), rzA, upF_s]) h1 (by rw [fpA_8, fpA_9]; exact hf) ?_
  refine LawsR_old hO hC.2.2.1 hG ?_ (fun r r1 r2 => by rw [f2 21 (by omega), f2 22 (by omega)]; exact ⟨rfl, rfl⟩) (fun r r1 r2 => by rw [fpA_in fp (by omega), fpA_in fp (by omega)]; exact ⟨rfl, rfl⟩) (fun r j r1 r2 j1 j2 => fpA_in fp (by omega)) (Or.inl (fpA_in fp (by omega)))
  rw [f2 20 (by omega), fpA_in fp (by omega)]
  exact hC.2.2.1.1
theorem CR_re1 {σ σ2 : vMem} {A C : Int → Int} {dd n : Int} (hC : CR σ A) (hO : okA A) (h3 : A 3 < 4) (hn : 0 ≤ n ∧ n ≤ 16) (fp : FP) (f : ∀ k, k < 20 ∨ (30 < k ∧ k ≠ 45) → σ2 k = σ k) (hG : AG σ σ2 (A 3 * 16)) (g0 : σ2 20 0 = A 3 + 1) (g1 : σ2 21 = upF (σ 21) (A 3) dd) (g2 : σ2 22 = upF (σ 22) (A 3) n) (h1 : σ2 30 1 = 0) (hf : FPt σ2 fp) (hL : ∀ k, 0 ≤ k → k < n → LnR σ2 (A 3 * 16 + k) C (20 * k)) : CR σ2 (reA (fpA (rzA A) fp) dd n C) := by
  obtain ⟨⟨q0, q1, q2, q3, q4, q5, q6, q7⟩, hVi, hWe, hCo, hOf, hBo, hWo, hMo, hRe, hLi, hTa⟩ := id hO
  have x3 : fpA (rzA A) fp 3 = A 3 := fpA_in fp (by omega)
  have eo : ∀ i, i ≠ 3 ∧ i ≠ 7 ∧ i ≠ 8 ∧ i ≠ 9 ∧ i ≠ 10 + 2 * A 3 ∧ i ≠ 10 + 2 * A 3 + 1 ∧ ¬ (1430 + 320 * A 3 ≤ i ∧ i < 1430 + 320 * A 3 + 320) → reA (fpA (rzA A) fp) dd n C i = A i := fun i hi => by rw [reA_e _ _ _ _ (by rw [x3]; omega), fpA_in fp (by omega)]
  have e3 := reA_3 (fpA (rzA A) fp) dd n C
  have ed := reA_d (fpA (rzA A) fp) dd n C (by omega)
  have en := reA_n (fpA (rzA A) fp) dd n C (by omega)
  rw [x3] at e3 ed en
  refine CR_re hC hO f (fun i hi => eo i (by omega)) ?_ h1 ?_ ?_
  · rw [reA_e _ _ _ _ (by rw [x3]; omega), fpA_n _ _ (by decide), rzA, upF_s]
  · rw [reA_e _ _ _ _ (by rw [x3]; omega), reA_e _ _ _ _ (by rw [x3]; omega), fpA_8, fpA_9]; exact hf
  · refine LawsR_old hO hC.2.2.1 hG (by rw [g0, e3]) (fun r r1 r2 => by rw [g1, g2, upF_n (by omega), upF_n (by omega)]; exact ⟨rfl, rfl⟩) (fun r r1 r2 => ⟨eo _ (by omega), eo _ (by omega)⟩) (fun r j r1 r2 j1 j2 => eo _ (by omega)) (Or.inr ⟨e3, by rw [g1, ed, upF_s], by rw [g2, en, upF_s], fun l l1 l2 => ?_⟩)
    rw [en] at l2
    refine LnR_c (hL l l1 l2) (fun j j1 j2 => ?_)
    have := reA_C (fpA (rzA A) fp) dd n C (by rw [x3]; omega) (j := 20 * l + j) (by omega)
    rw [x3] at this
    rw [show 1430 + 320 * A 3 + 20 * l + j = 1430 + 320 * A 3 + (20 * l + j) by omega]
    exact this

theorem ok_re0 {A : Int → Int} (hO : okA A) (fp : FP) : okA (fpA (rzA A) fp) := by
  obtain ⟨⟨q0, q1, q2, q3, q4, q5, q6, q7⟩, hVi, hWe, hCo, hOf, hBo, hWo, hMo, hRe, hLi, hTa⟩ := id hO
  have e : ∀ i, i ≠ 7 ∧ i ≠ 8 ∧ i ≠ 9 → fpA (rzA A) fp i = A i := fun i hi => fpA_in fp hi
  have e7 : fpA (rzA A) fp 7 = 0 := by rw [fpA_n _ _ (by decide), rzA, upF_s]
  refine ⟨⟨by rw [e _ (by omega)]; exact q0, by rw [e _ (by omega)]; exact q1, by rw [e _ (by omega)]; exact q2, by rw [e _ (by omega)]; exact q3, by rw [e _ (by omega)]; exact q4, by rw [e _ (by omega)]; exact q5, by rw [e _ (by omega)]; exact q6, by rw [e7]; omega⟩, okVi_c (e _ (by omega)) (fun i _ _ => e i (by omega)) hVi q0.2, okWe_c (fun i _ _ => e i (by omega)) hWe, okCo_c (e _ (by omega)) (fun i _ _ => e i (by omega)) hCo q0.2, okOf_c (e _ (by omega)) (Int.le_of_eq (e _ (by omega)).symm) (fun i _ _ => e i (by omega)) hOf q1.2, okBo_c (Int.le_of_eq (e _ (by omega)).symm) (Int.le_of_eq (e _ (by omega)).symm) (e _ (by omega)) (Int.le_of_eq (e _ (by omega)).symm) (fun i _ _ => e i (by omega)) hBo q2.2, okWo_c (Int.le_of_eq (e _ (by omega)).symm) (e _ (by omega)) (Int.le_of_eq (e _ (by omega)).symm) (fun i _ _ => e i (by omega)) hWo q6.2, okMo_c (Int.le_of_eq (e _ (by omega)).symm) (Int.le_of_eq (e _ (by omega)).symm) (e _ (by omega)) (fun i _ _ => e i (by omega)) hMo q5.2, okRe_c (e _ (by omega)) (fun i _ _ => e i (by omega)) hRe q3.2, okLi_c (e _ (by omega)) (fun i _ _ => e i (by omega)) (fun i _ _ => e i (by omega)) hLi hRe q3.2, fun i i1 i2 => by omega⟩
theorem ok_re1 {X C : Int → Int} {dd n : Int} (hO : okA X) (h3 : X 3 < 4) (hdd : 0 ≤ dd ∧ dd < 1200) (hn : 0 ≤ n ∧ n ≤ 16) (hL : ∀ k, 0 ≤ k → k < n → okLn C (20 * k)) : okA (reA X dd n C) := by
  obtain ⟨⟨q0, q1, q2, q3, q4, q5, q6, q7⟩, hVi, hWe, hCo, hOf, hBo, hWo, hMo, hRe, hLi, hTa⟩ := id hO
  have e : ∀ i, i ≠ 3 ∧ i ≠ 10 + 2 * X 3 ∧ i ≠ 10 + 2 * X 3 + 1 ∧ ¬ (1430 + 320 * X 3 ≤ i ∧ i < 1430 + 320 * X 3 + 320) → reA X dd n C i = X i := fun i hi => reA_e X dd n C hi
  have e3 := reA_3 X dd n C
  have ed := reA_d X dd n C q3.1
  have en := reA_n X dd n C q3.1
  refine ⟨⟨by rw [e _ (by omega)]; exact q0, by rw [e _ (by omega)]; exact q1, by rw [e _ (by omega)]; exact q2, by rw [e3]; omega, by rw [e _ (by omega)]; exact q4, by rw [e _ (by omega)]; exact q5, by rw [e _ (by omega)]; exact q6, by rw [e _ (by omega)]; exact q7⟩, okVi_c (e _ (by omega)) (fun i _ _ => e i (by omega)) hVi q0.2, okWe_c (fun i _ _ => e i (by omega)) hWe, okCo_c (e _ (by omega)) (fun i _ _ => e i (by omega)) hCo q0.2, okOf_c (e _ (by omega)) (Int.le_of_eq (e _ (by omega)).symm) (fun i _ _ => e i (by omega)) hOf q1.2, okBo_c (Int.le_of_eq (e _ (by omega)).symm) (Int.le_of_eq (e _ (by omega)).symm) (e _ (by omega)) (Int.le_of_eq (e _ (by omega)).symm) (fun i _ _ => e i (by omega)) hBo q2.2, okWo_c (Int.le_of_eq (e _ (by omega)).symm) (e _ (by omega)) (Int.le_of_eq (e _ (by omega)).symm) (fun i _ _ => e i (by omega)) hWo q6.2, okMo_c (Int.le_of_eq (e _ (by omega)).symm) (Int.le_of_eq (e _ (by omega)).symm) (e _ (by omega)) (fun i _ _ => e i (by omega)) hMo q5.2, fun r r1 r2 => ?_, fun r l r1 r2 l1 l2 => ?_, okTa_c (e _ (by omega)) (fun i _ _ => e i (by omega)) hTa q7.2⟩
  · rw [e3] at r2
    by_cases q : r = X 3
    · rw [q, ed, en]; omega
    · rw [e _ (by omega), e _ (by omega)]
      exact hRe r r1 (by omega)
  · rw [e3] at r2
    by_cases q : r = X 3
    · rw [q] at l2 ⊢
      rw [en] at l2
      refine okLn_d (hL l l1 l2) (fun j j1 j2 => ?_)
      rw [show 1430 + 320 * X 3 + 20 * l + j = 1430 + 320 * X 3 + (20 * l + j) by omega]
      exact reA_C X dd n C ⟨q3.1, h3⟩ (by omega)
    · rw [e (10 + 2 * r + 1) (by omega)] at l2
      have hr9 := hRe r r1 (by omega)
      exact okLn_d (hLi r l r1 (by omega) l1 l2) (fun j j1 j2 => e _ (by omega))
theorem rgR_ok (A C : Int → Int) (h1 : (rgR A C).1 = 1) (h2 : (rgR A C).2.2.2.1.1 = 0) : (0 ≤ (rgR A C).2.2.1 ∧ (rgR A C).2.2.1 ≤ 16) ∧ ∀ k, 0 ≤ k → k < (rgR A C).2.2.1 → okLn (rgR A C).2.2.2.2 (20 * k) := rgF_ok 501 (by omega) (fun _ => ⟨by omega, fun k k1 k2 => by omega⟩) h1 h2
theorem ok_re {A : Int → Int} (hO : okA A) (C : Int → Int) (dd : Int) : okA (wRe A C dd).1 := by
  unfold wRe
  split
  · rename_i hcan
    split
    · split
      · have h9 := rgR_ok A C (by assumption) (by assumption)
        exact ok_re1 (ok_re0 hO _) (by rw [fpA_in _ (by omega)]; exact hcan.1) hcan.2.1 h9.1 h9.2
      · exact ok_re0 hO _
    · exact ok_re0 hO _
  · exact ok_re0 hO _
theorem re_e {A : Int → Int} (hO : okA A) (C : Int → Int) (dd : Int) {i : Int} (hi : 3210 ≤ i) : (wRe A C dd).1 i = A i := by
  have q3 := hO.1.2.2.2.1
  unfold wRe
  split
  · split
    · split
      · dsimp only
        rw [reA_e _ _ _ _ (by rw [fpA_in _ (by omega)]; omega), fpA_in _ (by omega)]
      · exact fpA_in _ (by omega)
    · exact fpA_in _ (by omega)
  · exact fpA_in _ (by omega)

theorem FPt.up1 {σ : vMem} {fp : FP} (h : FPt σ fp) {v : Int} : FPt (vUp σ 30 1 v) fp := ⟨by rw [vUp_ix (by decide)]; exact h.1, by rw [vUp_ix (by decide)]; exact h.2⟩
theorem RK_of {σ : vMem} {A : Int → Int} (hC : CR σ A) (hO : okA A) : RK σ (tbF A (A 7)) (A 7) := by
  obtain ⟨t0, t1, t2, tR, tB⟩ := hC.2.2.2.1
  have q7 := hO.1.2.2.2.2.2.2.2
  refine ⟨t0, okB_tb hO, fun i i1 i2 => ⟨tR i i1 (by omega), ?_⟩⟩
  rw [tbF, if_pos i2]
  exact tB i i1 i2
theorem c_Lw_canBegin9 {T : vSh} {σ : vMem} {σ9 : vMem} {A : Int → Int} (hC9 : CR σ9 A) (hO : okA A) (hfr : ∀ k, k ≠ 30 → σ k = σ9 k) {dd : Int} (h0 : vIn dd) : mt_Lw_canBegin [.ref 20, .int (iI dd)] (S0 ++ T) σ (rF (S0 ++ T) σ (b01 (A 3 < 4 ∧ (A 3 = 0 ∨ A (10 + 2 * A 3 - 2) < dd)))) := by
  refine vMet.intro 0 (by decide +kernel) (Nat.le_of_ble_eq_true rfl) rfl (fun cx hM _ => ?_)
  obtain ⟨⟨q0, q1, q2, q3, q4, q5, q6, q7⟩, hVi, hWe, hCo, hOf, hBo, hWo, hMo, hRe, hLi, hTa⟩ := id hO
  obtain ⟨⟨l0, l1, lV, lC, lZ, lS⟩, ⟨b0, b1, bO, bB⟩, ⟨w0, wR, wL⟩, ⟨t0, t1, t2, tR, tB⟩, ⟨n9, nW⟩, m0, mM⟩ := id hC9
  rw [← hfr 20 (by decide)] at w0
  refine v_aload0 d_Lw_canBegin_0 ?_
  refine v_getJ (ji := 0) d_Lw_canBegin_1 f_Lw_40 (sh_20 T) rfl rfl (fun g1 => ?_)
  refine v_iconst d_Lw_canBegin_4 ?_
  refine v_icmp_ge d_Lw_canBegin_5 (by omega) (by omega) (fun u5 => ?_) (fun u5 => ?_)
  · refine v_iconst d_Lw_canBegin_34 ?_
    first | exact v_zreturn hM d_Lw_canBegin_35 (Or.inr rfl) ⟨rfl, rfl, b01_1 (by omega)⟩ | exact v_zreturn hM d_Lw_canBegin_35 (Or.inl rfl) ⟨rfl, rfl, b01_0 (by omega)⟩ | exact v_zreturn hM d_Lw_canBegin_35 b01_or ⟨rfl, rfl, rfl⟩
  · refine v_aload0 d_Lw_canBegin_8 ?_
    refine v_getJ (ji := 0) d_Lw_canBegin_9 f_Lw_40 (sh_20 T) rfl rfl (fun g9 => ?_)
    refine v_if_eq d_Lw_canBegin_12 (by omega) (fun u12 => ?_) (fun u12 => ?_)
    · refine v_iconst d_Lw_canBegin_30 ?_
      refine v_goto d_Lw_canBegin_31 ?_
      first | exact v_zreturn hM d_Lw_canBegin_35 (Or.inr rfl) ⟨rfl, rfl, b01_1 (by omega)⟩ | exact v_zreturn hM d_Lw_canBegin_35 (Or.inl rfl) ⟨rfl, rfl, b01_0 (by omega)⟩ | exact v_zreturn hM d_Lw_canBegin_35 b01_or ⟨rfl, rfl, rfl⟩
    · refine v_iload1 d_Lw_canBegin_15 ?_
      refine v_aload0 d_Lw_canBegin_16 ?_
      refine v_getR d_Lw_canBegin_17 f_Lw_9 (sh_20 T) rfl ?_
      refine v_aload0 d_Lw_canBegin_20 ?_
      refine v_getJ (ji := 0) d_Lw_canBegin_21 f_Lw_40 (sh_20 T) rfl rfl (fun g21 => ?_)
      refine v_iconst d_Lw_canBegin_24 ?_
      refine v_isub d_Lw_canBegin_25 ?_
      refine v_iaload d_Lw_canBegin_26 (sh_21 T) (by omega) (fun g26 => ?_)
      have hb9 := (wR (A 3 - 1) (by omega) (by omega)).1
      have hr9 := (hRe (A 3 - 1) (by omega) (by omega)).1
      rw [show 10 + 2 * (A 3 - 1) = 10 + 2 * A 3 - 2 by omega, ← hfr 21 (by decide)] at hb9
      rw [show 10 + 2 * (A 3 - 1) = 10 + 2 * A 3 - 2 by omega] at hr9
      rw [show σ 20 0 - 1 = A 3 - 1 by omega, hb9] at g26 ⊢
      refine v_icmp_le d_Lw_canBegin_27 (by omega) (by omega) (fun u27 => ?_) (fun u27 => ?_)
      · refine v_iconst d_Lw_canBegin_34 ?_
        first | exact v_zreturn hM d_Lw_canBegin_35 (Or.inr rfl) ⟨rfl, rfl, b01_1 (by omega)⟩ | exact v_zreturn hM d_Lw_canBegin_35 (Or.inl rfl) ⟨rfl, rfl, b01_0 (by omega)⟩ | exact v_zreturn hM d_Lw_canBegin_35 b01_or ⟨rfl, rfl, rfl⟩
      · refine v_iconst d_Lw_canBegin_30 ?_
        refine v_goto d_Lw_canBegin_31 ?_
        first | exact v_zreturn hM d_Lw_canBegin_35 (Or.inr rfl) ⟨rfl, rfl, b01_1 (by omega)⟩ | exact v_zreturn hM d_Lw_canBegin_35 (Or.inl rfl) ⟨rfl, rfl, b01_0 (by omega)⟩ | exact v_zreturn hM d_Lw_canBegin_35 b01_or ⟨rfl, rfl, rfl⟩

theorem c_V_reign {T : vSh} {σ : vMem} {A : Int → Int} (hC : CR σ A) (hO : okA A) {dd : Int} (h0 : vIn dd) {C : Int → Int} : mt_V_reign [.ref 0, .int (iI dd)] (S0 ++ T) σ (rP (S0 ++ T) (fun z σ2 => z = (wRe A C dd).2 ∧ CW σ σ2 ∧ CR σ2 (wRe A C dd).1)) := by
  refine vMet.intro 1 (by decide +kernel) (Nat.le_of_ble_eq_true rfl) rfl (fun cx hM _ => ?_)
  obtain ⟨⟨q0, q1, q2, q3, q4, q5, q6, q7⟩, hVi, hWe, hCo, hOf, hBo, hWo, hMo, hRe, hLi, hTa⟩ := id hO
  obtain ⟨⟨l0, l1, lV, lC, lZ, lS⟩, ⟨b0, b1, bO, bB⟩, ⟨w0, wR, wL⟩, ⟨t0, t1, t2, tR, tB⟩, ⟨n9, nW⟩, m0, mM⟩ := id hC
  refine v_bipush d_V_reign_0 rfl ?_
  refine v_istore2 d_V_reign_2 (by decide) rfl ?_
  refine v_aload0 d_V_reign_3 ?_
  refine v_getR d_V_reign_4 f_V_10 (sh_0 T) rfl ?_
  refine v_getR d_V_reign_7 f_V_22 (sh_1 T) rfl ?_
  refine v_gVV0 d_V_reign_10 l_V_205 k_Ta_clearFault c_Ta_clearFault (sh_30 T) rfl (by decide) (by decide) (Nat.le_of_ble_eq_true rfl) (Nat.zero_le _) (Nat.zero_le _) (fun z10 s10 e10 => ?_)
  refine v_iload1 d_V_reign_13 ?_
  refine v_fSZ1 d_V_reign_14 l_V_156 k_V_isDay (c_V_isDay (by omega)) (by decide) (by decide) (Nat.le_of_ble_eq_true rfl) (Nat.zero_le _) (Nat.zero_le _) (fun g14 => ?_)
  refine v_ifb_eq d_V_reign_17 (fun u17 => ?_) (fun u17 => ?_)
  · refine v_aload0 d_V_reign_43 ?_
    refine v_getR d_V_reign_44 f_V_10 (sh_0 T) rfl ?_
    refine v_getR d_V_reign_47 f_V_22 (sh_1 T) rfl ?_
    refine v_iconst d_V_reign_50 ?_
    refine v_putJ (ji := 1) d_V_reign_51 p_V_197 (sh_30 T) rfl rfl (by omega) ?_
    refine v_iload2 d_V_reign_54 ?_
    exact v_ireturn hM d_V_reign_55 (by omega) ⟨rfl, by rw [wRe, if_neg (fun z => u17 ⟨z.2.1.1, by have := z.2.1.2; omega⟩)], fun k hk => by rw [vUp_ne (by omega), e10.1 k (by omega)], by rw [wRe, if_neg (fun z => u17 ⟨z.2.1.1, by have := z.2.1.2; omega⟩)]; exact CR_re0 hC hO _ (fun k hk => by rw [vUp_ne (by omega), e10.1 k (by omega)]) (AG.of (fun k hk => by rw [vUp_ne (by omega), e10.1 k (by omega)])) (fun k hk => by rw [vUp_ne (by omega), e10.1 k (by omega)]) (by rw [vUp_same]) (FPt.up1 e10.2.2)⟩
  · refine v_aload0 d_V_reign_20 ?_
    refine v_getR d_V_reign_21 f_V_10 (sh_0 T) rfl ?_
    refine v_getR d_V_reign_24 f_V_26 (sh_1 T) rfl ?_
    refine v_iload1 d_V_reign_27 ?_
    refine v_fVZ1 d_V_reign_28 l_V_208 k_Lw_canBegin (c_Lw_canBegin9 hC hO e10.1 (by omega)) (sh_20 T) rfl (by decide) (by decide) (Nat.le_of_ble_eq_true rfl) (Nat.zero_le _) (Nat.zero_le _) (fun g28 => ?_)
    refine v_ifb_eq d_V_reign_31 (fun u31 => ?_) (fun u31 => ?_)
    · refine v_aload0 d_V_reign_43 ?_
      refine v_getR d_V_reign_44 f_V_10 (sh_0 T) rfl ?_
      refine v_getR d_V_reign_47 f_V_22 (sh_1 T) rfl ?_
      refine v_iconst d_V_reign_50 ?_
      refine v_putJ (ji := 1) d_V_reign_51 p_V_197 (sh_30 T) rfl rfl (by omega) ?_
      refine v_iload2 d_V_reign_54 ?_
      exact v_ireturn hM d_V_reign_55 (by omega) ⟨rfl, by rw [wRe, if_neg (fun z => u31 ⟨z.1, z.2.2⟩)], fun k hk => by rw [vUp_ne (by omega), e10.1 k (by omega)], by rw [wRe, if_neg (fun z => u31 ⟨z.1, z.2.2⟩)]; exact CR_re0 hC hO _ (fun k hk => by rw [vUp_ne (by omega), e10.1 k (by omega)]) (AG.of (fun k hk => by rw [vUp_ne (by omega), e10.1 k (by omega)])) (fun k hk => by rw [vUp_ne (by omega), e10.1 k (by omega)]) (by rw [vUp_same]) (FPt.up1 e10.2.2)⟩
    · refine v_aload0 d_V_reign_34 ?_
      refine v_getR d_V_reign_35 f_V_33 (sh_0 T) rfl ?_
      refine v_iload1 d_V_reign_38 ?_
      refine v_gVI1 d_V_reign_39 l_V_213 k_Re_readReign (c_Re_readReign (C := C) (b := tbF A (A 7)) (L := A 7) (r := A 3) (by have h9 := RK_of hC hO; unfold RK; rw [e10.2.1, e10.1 31 (by decide)]; exact h9) (by omega) (by omega) (by rw [e10.1 20 (by decide)]; exact w0) e10.2.2) (sh_45 T) rfl (by decide) (by decide) (Nat.le_of_ble_eq_true rfl) (Nat.zero_le _) (Nat.zero_le _) (fun z39 s39 g39 e39 => ?_)
      refine v_istore2 d_V_reign_42 (by decide) rfl ?_
      refine v_aload0 d_V_reign_43 ?_
      refine v_getR d_V_reign_44 f_V_10 (sh_0 T) rfl ?_
      refine v_getR d_V_reign_47 f_V_22 (sh_1 T) rfl ?_
      refine v_iconst d_V_reign_50 ?_
      refine v_putJ (ji := 1) d_V_reign_51 p_V_197 (sh_30 T) rfl rfl (by omega) ?_
      refine v_iload2 d_V_reign_54 ?_
      have hcan : canR A dd := ⟨u31.1, by omega, u31.2⟩
      have fr : ∀ k, k < 20 ∨ (30 < k ∧ k ≠ 45) → vUp s39 30 1 0 k = σ k := fun k hk => by rw [vUp_ne (by omega), e39.2.1 k hk, e10.1 k (by omega)]
      have hG : AG σ (vUp s39 30 1 0) (A 3 * 16) := ((AG.of (fun k hk => e10.1 k (by omega))).trans' e39.1).trans' (AG.of (fun k hk => vUp_ne (by omega)))
      have hcw : CW σ (vUp s39 30 1 0) := fun k hk => fr k (by omega)
      rcases e39.2.2 with ⟨h9, hz, h20⟩ | ⟨h9, hz, g0, g1, g2, gL⟩
      · have f2 : ∀ k : Nat, 20 ≤ k ∧ k ≤ 22 → vUp s39 30 1 0 k = σ k := fun k hk => by rw [vUp_ne (by omega), h20 k hk, e10.1 k (by omega)]
        rcases h9 with ⟨y1, y2⟩ | ⟨y1, y2, y3⟩
        · have ew : wRe A C dd = (fpA (rzA A) (1, whF (tbF A (A 7)) (rgR A C).2.1), -1) := by rw [wRe, if_pos hcan, if_neg (show ¬ (rgR A C).1 = 1 from y1)]
          exact v_ireturn hM d_V_reign_55 (by omega) ⟨rfl, by rw [ew]; exact hz, hcw, by rw [ew]; exact CR_re0 hC hO _ fr hG f2 (by rw [vUp_same]) (FPt.up1 y2)⟩
        · have ew : wRe A C dd = (fpA (rzA A) (rgR A C).2.2.2.1, -1) := by rw [wRe, if_pos hcan, if_pos (show (rgR A C).1 = 1 from y1), if_neg (show ¬ (rgR A C).2.2.2.1.1 = 0 from y2)]
          exact v_ireturn hM d_V_reign_55 (by omega) ⟨rfl, by rw [ew]; exact hz, hcw, by rw [ew]; exact CR_re0 hC hO _ fr hG f2 (by rw [vUp_same]) (FPt.up1 y3)⟩
      · have hk9 := rgR_ok A C h9.1 h9.2.1
        have ew : wRe A C dd = (reA (fpA (rzA A) (rgR A C).2.2.2.1) dd (rgR A C).2.2.1 (rgR A C).2.2.2.2, (rgR A C).2.2.1) := by rw [wRe, if_pos hcan, if_pos (show (rgR A C).1 = 1 from h9.1), if_pos (show (rgR A C).2.2.2.1.1 = 0 from h9.2.1)]
        exact v_ireturn hM d_V_reign_55 g39 ⟨rfl, by rw [ew]; exact hz, hcw, by rw [ew]; exact CR_re1 hC hO u31.1 hk9.1 _ fr hG (by rw [vUp_ne (by decide)]; exact g0) (by rw [vUp_ne (by decide), g1, e10.1 21 (by decide)]) (by rw [vUp_ne (by decide), g2, e10.1 22 (by decide)]; rfl) (by rw [vUp_same]) (FPt.up1 h9.2.2) (fun k k1 k2 => LnR_keep (y := A 3 * 16 + k + 1) (gL k k1 k2) (AG.of (fun i hi => vUp_ne (by omega))) (by omega) (fun i _ _ => rfl))⟩

