theorem sq_e (A : Int → Int) {v p : Int} (i : Int) (h : i ≠ 40 + 6 * v + 4) : sqA A v p i = A i := by
  simp only [sqA, upF]
  rw [if_neg (by omega)]

theorem ok_sq {A : Int → Int} (hO : okA A) {v p : Int} (hv : 0 ≤ v ∧ v < A 0) (hp : 50 ≤ p ∧ p ≤ 150) : okA (sqA A v p) := by
  obtain ⟨⟨q0, q1, q2, q3, q4, q5, q6, q7⟩, hVi, hWe, hCo, hOf, hBo, hWo, hMo, hRe, hLi, hTa⟩ := id hO
  refine ⟨⟨by rw [sq_e A _ (by omega)]; exact q0, by rw [sq_e A _ (by omega)]; exact q1, by rw [sq_e A _ (by omega)]; exact q2, by rw [sq_e A _ (by omega)]; exact q3, by rw [sq_e A _ (by omega)]; exact q4, by rw [sq_e A _ (by omega)]; exact q5, by rw [sq_e A _ (by omega)]; exact q6, by rw [sq_e A _ (by omega)]; exact q7⟩, ?_, okWe_c (fun i _ _ => sq_e A (v := v) (p := p) i (by omega)) hWe, okCo_c (sq_e A (v := v) (p := p) _ (by omega)) (fun i _ _ => sq_e A (v := v) (p := p) i (by omega)) hCo q0.2, okOf_c (sq_e A (v := v) (p := p) _ (by omega)) (Int.le_of_eq (sq_e A (v := v) (p := p) _ (by omega)).symm) (fun i _ _ => sq_e A (v := v) (p := p) i (by omega)) hOf q1.2, okBo_c (Int.le_of_eq (sq_e A (v := v) (p := p) _ (by omega)).symm) (Int.le_of_eq (sq_e A (v := v) (p := p) _ (by omega)).symm) (sq_e A (v := v) (p := p) _ (by omega)) (Int.le_of_eq (sq_e A (v := v) (p := p) _ (by omega)).symm) (fun i _ _ => sq_e A (v := v) (p := p) i (by omega)) hBo q2.2, okWo_c (Int.le_of_eq (sq_e A (v := v) (p := p) _ (by omega)).symm) (sq_e A (v := v) (p := p) _ (by omega)) (Int.le_of_eq (sq_e A (v := v) (p := p) _ (by omega)).symm) (fun i _ _ => sq_e A (v := v) (p := p) i (by omega)) hWo q6.2, okMo_c (Int.le_of_eq (sq_e A (v := v) (p := p) _ (by omega)).symm) (Int.le_of_eq (sq_e A (v := v) (p := p) _ (by omega)).symm) (sq_e A (v := v) (p := p) _ (by omega)) (fun i _ _ => sq_e A (v := v) (p := p) i (by omega)) hMo q5.2, okRe_c (sq_e A (v := v) (p := p) _ (by omega)) (fun i _ _ => sq_e A (v := v) (p := p) i (by omega)) hRe q3.2, okLi_c (sq_e A (v := v) (p := p) _ (by omega)) (fun i _ _ => sq_e A (v := v) (p := p) i (by omega)) (fun i _ _ => sq_e A (v := v) (p := p) i (by omega)) hLi hRe q3.2, okTa_c (sq_e A (v := v) (p := p) _ (by omega)) (fun i _ _ => sq_e A (v := v) (p := p) i (by omega)) hTa q7.2⟩
  · intro u u1 u2
    rw [sq_e A 0 (by omega)] at u2
    have h := hVi u u1 u2
    rw [sq_e A (40 + 6 * u + 0) (by omega), sq_e A (40 + 6 * u + 1) (by omega), sq_e A (40 + 6 * u + 2) (by omega), sq_e A (40 + 6 * u + 3) (by omega)]
    by_cases q : u = v
    · rw [q] at h ⊢
      rw [show sqA A v p (40 + 6 * v + 4) = p from upF_s _ _ _]
      exact ⟨h.1, h.2.1, h.2.2.1, h.2.2.2.1, hp⟩
    · rw [sq_e A (40 + 6 * u + 4) (by omega)]
      exact h
theorem of_e (A : Int → Int) {rank kin : Int} (i : Int) (h : i ≠ 1 ∧ ¬ (360 + 4 * A 1 ≤ i ∧ i ≤ 360 + 4 * A 1 + 3)) : ofA A rank kin i = A i := by
  simp only [ofA, upF]
  rw [if_neg (by omega), if_neg (by omega), if_neg (by omega), if_neg (by omega), if_neg (by omega)]

theorem ok_of {A : Int → Int} (hO : okA A) {rank kin : Int} (hr : 0 ≤ rank ∧ rank ≤ 9) (hk : 0 ≤ kin ∧ kin ≤ 9) (hn : A 1 < 10) : okA (ofA A rank kin) := by
  obtain ⟨⟨q0, q1, q2, q3, q4, q5, q6, q7⟩, hVi, hWe, hCo, hOf, hBo, hWo, hMo, hRe, hLi, hTa⟩ := id hO
  have b1 : ofA A rank kin 1 = A 1 + 1 := upF_s _ _ _
  refine ⟨⟨by rw [of_e A _ (by omega)]; exact q0, by rw [b1]; omega, by rw [of_e A _ (by omega)]; exact q2, by rw [of_e A _ (by omega)]; exact q3, by rw [of_e A _ (by omega)]; exact q4, by rw [of_e A _ (by omega)]; exact q5, by rw [of_e A _ (by omega)]; exact q6, by rw [of_e A _ (by omega)]; exact q7⟩, okVi_c (of_e A (rank := rank) (kin := kin) _ (by omega)) (fun i _ _ => of_e A (rank := rank) (kin := kin) i (by omega)) hVi q0.2, okWe_c (fun i _ _ => of_e A (rank := rank) (kin := kin) i (by omega)) hWe, okCo_c (of_e A (rank := rank) (kin := kin) _ (by omega)) (fun i _ _ => of_e A (rank := rank) (kin := kin) i (by omega)) hCo q0.2, ?_, okBo_c (Int.le_of_eq (of_e A (rank := rank) (kin := kin) _ (by omega)).symm) (by rw [b1]; omega) (of_e A (rank := rank) (kin := kin) _ (by omega)) (Int.le_of_eq (of_e A (rank := rank) (kin := kin) _ (by omega)).symm) (fun i _ _ => of_e A (rank := rank) (kin := kin) i (by omega)) hBo q2.2, okWo_c (Int.le_of_eq (of_e A (rank := rank) (kin := kin) _ (by omega)).symm) (of_e A (rank := rank) (kin := kin) _ (by omega)) (Int.le_of_eq (of_e A (rank := rank) (kin := kin) _ (by omega)).symm) (fun i _ _ => of_e A (rank := rank) (kin := kin) i (by omega)) hWo q6.2, okMo_c (Int.le_of_eq (of_e A (rank := rank) (kin := kin) _ (by omega)).symm) (by rw [b1]; omega) (of_e A (rank := rank) (kin := kin) _ (by omega)) (fun i _ _ => of_e A (rank := rank) (kin := kin) i (by omega)) hMo q5.2, okRe_c (of_e A (rank := rank) (kin := kin) _ (by omega)) (fun i _ _ => of_e A (rank := rank) (kin := kin) i (by omega)) hRe q3.2, okLi_c (of_e A (rank := rank) (kin := kin) _ (by omega)) (fun i _ _ => of_e A (rank := rank) (kin := kin) i (by omega)) (fun i _ _ => of_e A (rank := rank) (kin := kin) i (by omega)) hLi hRe q3.2, okTa_c (of_e A (rank := rank) (kin := kin) _ (by omega)) (fun i _ _ => of_e A (rank := rank) (kin := kin) i (by omega)) hTa q7.2⟩
  · intro i i1 i2
    rw [b1] at i2
    rw [of_e A 4 (by omega)]
    by_cases q : i = A 1
    · subst q
      have v0 : ofA A rank kin (360 + 4 * A 1 + 0) = rank := by simp only [ofA, upF]; rw [if_neg (by omega), if_neg (by omega), if_neg (by omega), if_neg (by omega)]; first | rw [if_pos trivial] | rw [if_pos (by omega)]
      have v1 : ofA A rank kin (360 + 4 * A 1 + 1) = kin := by simp only [ofA, upF]; rw [if_neg (by omega), if_neg (by omega), if_neg (by omega)]; first | rw [if_pos trivial] | rw [if_pos (by omega)]
      have v2 : ofA A rank kin (360 + 4 * A 1 + 2) = A 4 := by simp only [ofA, upF]; rw [if_neg (by omega), if_neg (by omega)]; first | rw [if_pos trivial] | rw [if_pos (by omega)]
      have v3 : ofA A rank kin (360 + 4 * A 1 + 3) = -1 := by simp only [ofA, upF]; rw [if_neg (by omega)]; first | rw [if_pos trivial] | rw [if_pos (by omega)]
      rw [v0, v1, v2, v3]
      omega
    · have h := hOf i i1 (by omega)
      rw [of_e A (360 + 4 * i + 0) (by omega), of_e A (360 + 4 * i + 1) (by omega), of_e A (360 + 4 * i + 2) (by omega), of_e A (360 + 4 * i + 3) (by omega)]
      exact h
theorem di_e (A : Int → Int) {oo : Int} (i : Int) (h : i ≠ 360 + 4 * oo + 3) : diA A oo i = A i := by
  simp only [diA, upF]
  rw [if_neg (by omega)]

theorem ok_di {A : Int → Int} (hO : okA A) {oo : Int} (ho : 0 ≤ oo ∧ oo < A 1) : okA (diA A oo) := by
  obtain ⟨⟨q0, q1, q2, q3, q4, q5, q6, q7⟩, hVi, hWe, hCo, hOf, hBo, hWo, hMo, hRe, hLi, hTa⟩ := id hO
  refine ⟨⟨by rw [di_e A _ (by omega)]; exact q0, by rw [di_e A _ (by omega)]; exact q1, by rw [di_e A _ (by omega)]; exact q2, by rw [di_e A _ (by omega)]; exact q3, by rw [di_e A _ (by omega)]; exact q4, by rw [di_e A _ (by omega)]; exact q5, by rw [di_e A _ (by omega)]; exact q6, by rw [di_e A _ (by omega)]; exact q7⟩, okVi_c (di_e A (oo := oo) _ (by omega)) (fun i _ _ => di_e A (oo := oo) i (by omega)) hVi q0.2, okWe_c (fun i _ _ => di_e A (oo := oo) i (by omega)) hWe, okCo_c (di_e A (oo := oo) _ (by omega)) (fun i _ _ => di_e A (oo := oo) i (by omega)) hCo q0.2, ?_, okBo_c (Int.le_of_eq (di_e A (oo := oo) _ (by omega)).symm) (Int.le_of_eq (di_e A (oo := oo) _ (by omega)).symm) (di_e A (oo := oo) _ (by omega)) (Int.le_of_eq (di_e A (oo := oo) _ (by omega)).symm) (fun i _ _ => di_e A (oo := oo) i (by omega)) hBo q2.2, okWo_c (Int.le_of_eq (di_e A (oo := oo) _ (by omega)).symm) (di_e A (oo := oo) _ (by omega)) (Int.le_of_eq (di_e A (oo := oo) _ (by omega)).symm) (fun i _ _ => di_e A (oo := oo) i (by omega)) hWo q6.2, okMo_c (Int.le_of_eq (di_e A (oo := oo) _ (by omega)).symm) (Int.le_of_eq (di_e A (oo := oo) _ (by omega)).symm) (di_e A (oo := oo) _ (by omega)) (fun i _ _ => di_e A (oo := oo) i (by omega)) hMo q5.2, okRe_c (di_e A (oo := oo) _ (by omega)) (fun i _ _ => di_e A (oo := oo) i (by omega)) hRe q3.2, okLi_c (di_e A (oo := oo) _ (by omega)) (fun i _ _ => di_e A (oo := oo) i (by omega)) (fun i _ _ => di_e A (oo := oo) i (by omega)) hLi hRe q3.2, okTa_c (di_e A (oo := oo) _ (by omega)) (fun i _ _ => di_e A (oo := oo) i (by omega)) hTa q7.2⟩
  · intro i i1 i2
    rw [di_e A 1 (by omega)] at i2
    have h := hOf i i1 i2
    rw [di_e A (360 + 4 * i + 0) (by omega), di_e A (360 + 4 * i + 1) (by omega), di_e A (360 + 4 * i + 2) (by omega), di_e A 4 (by omega)]
    by_cases q : i = oo
    · rw [q] at h ⊢
      rw [show diA A oo (360 + 4 * oo + 3) = A 4 from upF_s _ _ _]
      omega
    · rw [di_e A (360 + 4 * i + 3) (by omega)]
      exact h
theorem or_e (A : Int → Int) {kind what oo from' : Int} (i : Int) (h : i ≠ 2 ∧ ¬ (430 + 5 * A 2 ≤ i ∧ i ≤ 430 + 5 * A 2 + 4)) : orA A kind what oo from' i = A i := by
  simp only [orA, upF]
  rw [if_neg (by omega), if_neg (by omega), if_neg (by omega), if_neg (by omega), if_neg (by omega), if_neg (by omega)]

theorem ok_or {A : Int → Int} (hO : okA A) {kind what oo from' : Int} (hk : (kind = 0 ∧ 0 ≤ what ∧ what < A 0 ∧ -1 ≤ oo ∧ oo < A 1) ∨ (kind = 1 ∧ 0 ≤ what ∧ what ≤ 9 ∧ 0 ≤ oo ∧ oo < A 1)) (hd : 0 ≤ from' ∧ from' < 1200) (hn : A 2 < 100) : okA (orA A kind what oo from') := by
  obtain ⟨⟨q0, q1, q2, q3, q4, q5, q6, q7⟩, hVi, hWe, hCo, hOf, hBo, hWo, hMo, hRe, hLi, hTa⟩ := id hO
  have b1 : orA A kind what oo from' 2 = A 2 + 1 := upF_s _ _ _
  refine ⟨⟨by rw [or_e A _ (by omega)]; exact q0, by rw [or_e A _ (by omega)]; exact q1, by rw [b1]; omega, by rw [or_e A _ (by omega)]; exact q3, by rw [or_e A _ (by omega)]; exact q4, by rw [or_e A _ (by omega)]; exact q5, by rw [or_e A _ (by omega)]; exact q6, by rw [or_e A _ (by omega)]; exact q7⟩, okVi_c (or_e A (kind := kind) (what := what) (oo := oo) (from' := from') _ (by omega)) (fun i _ _ => or_e A (kind := kind) (what := what) (oo := oo) (from' := from') i (by omega)) hVi q0.2, okWe_c (fun i _ _ => or_e A (kind := kind) (what := what) (oo := oo) (from' := from') i (by omega)) hWe, okCo_c (or_e A (kind := kind) (what := what) (oo := oo) (from' := from') _ (by omega)) (fun i _ _ => or_e A (kind := kind) (what := what) (oo := oo) (from' := from') i (by omega)) hCo q0.2, okOf_c (or_e A (kind := kind) (what := what) (oo := oo) (from' := from') _ (by omega)) (Int.le_of_eq (or_e A (kind := kind) (what := what) (oo := oo) (from' := from') _ (by omega)).symm) (fun i _ _ => or_e A (kind := kind) (what := what) (oo := oo) (from' := from') i (by omega)) hOf q1.2, ?_, okWo_c (Int.le_of_eq (or_e A (kind := kind) (what := what) (oo := oo) (from' := from') _ (by omega)).symm) (or_e A (kind := kind) (what := what) (oo := oo) (from' := from') _ (by omega)) (Int.le_of_eq (or_e A (kind := kind) (what := what) (oo := oo) (from' := from') _ (by omega)).symm) (fun i _ _ => or_e A (kind := kind) (what := what) (oo := oo) (from' := from') i (by omega)) hWo q6.2, okMo_c (Int.le_of_eq (or_e A (kind := kind) (what := what) (oo := oo) (from' := from') _ (by omega)).symm) (Int.le_of_eq (or_e A (kind := kind) (what := what) (oo := oo) (from' := from') _ (by omega)).symm) (or_e A (kind := kind) (what := what) (oo := oo) (from' := from') _ (by omega)) (fun i _ _ => or_e A (kind := kind) (what := what) (oo := oo) (from' := from') i (by omega)) hMo q5.2, okRe_c (or_e A (kind := kind) (what := what) (oo := oo) (from' := from') _ (by omega)) (fun i _ _ => or_e A (kind := kind) (what := what) (oo := oo) (from' := from') i (by omega)) hRe q3.2, okLi_c (or_e A (kind := kind) (what := what) (oo := oo) (from' := from') _ (by omega)) (fun i _ _ => or_e A (kind := kind) (what := what) (oo := oo) (from' := from') i (by omega)) (fun i _ _ => or_e A (kind := kind) (what := what) (oo := oo) (from' := from') i (by omega)) hLi hRe q3.2, okTa_c (or_e A (kind := kind) (what := what) (oo := oo) (from' := from') _ (by omega)) (fun i _ _ => or_e A (kind := kind) (what := what) (oo := oo) (from' := from') i (by omega)) hTa q7.2⟩
  · intro i i1 i2
    rw [b1] at i2
    rw [or_e A 0 (by omega), or_e A 1 (by omega), or_e A 4 (by omega)]
    by_cases q : i = A 2
    · subst q
      have v0 : orA A kind what oo from' (430 + 5 * A 2 + 0) = kind := by simp only [orA, upF]; rw [if_neg (by omega), if_neg (by omega), if_neg (by omega), if_neg (by omega), if_neg (by omega)]; first | rw [if_pos trivial] | rw [if_pos (by omega)]
      have v1 : orA A kind what oo from' (430 + 5 * A 2 + 1) = what := by simp only [orA, upF]; rw [if_neg (by omega), if_neg (by omega), if_neg (by omega), if_neg (by omega)]; first | rw [if_pos trivial] | rw [if_pos (by omega)]
      have v2 : orA A kind what oo from' (430 + 5 * A 2 + 2) = oo := by simp only [orA, upF]; rw [if_neg (by omega), if_neg (by omega), if_neg (by omega)]; first | rw [if_pos trivial] | rw [if_pos (by omega)]
      have v3 : orA A kind what oo from' (430 + 5 * A 2 + 3) = from' := by simp only [orA, upF]; rw [if_neg (by omega), if_neg (by omega)]; first | rw [if_pos trivial] | rw [if_pos (by omega)]
      have v4 : orA A kind what oo from' (430 + 5 * A 2 + 4) = A 4 := by simp only [orA, upF]; rw [if_neg (by omega)]; first | rw [if_pos trivial] | rw [if_pos (by omega)]
      rw [v0, v1, v2, v3, v4]
      omega
    · have h := hBo i i1 (by omega)
      rw [or_e A (430 + 5 * i + 0) (by omega), or_e A (430 + 5 * i + 1) (by omega), or_e A (430 + 5 * i + 2) (by omega), or_e A (430 + 5 * i + 3) (by omega), or_e A (430 + 5 * i + 4) (by omega)]
      exact h
theorem en_e (A : Int → Int) {n : Int} (i : Int) (h : i ≠ 7) : enA A n i = A i := by
  simp only [enA, upF]
  rw [if_neg (by omega)]

theorem ok_en {A : Int → Int} (hO : okA A) {n : Int} (hn : 0 ≤ n ∧ n ≤ A 7) : okA (enA A n) := by
  obtain ⟨⟨q0, q1, q2, q3, q4, q5, q6, q7⟩, hVi, hWe, hCo, hOf, hBo, hWo, hMo, hRe, hLi, hTa⟩ := id hO
  have b7 : enA A n 7 = n := upF_s _ _ _
  refine ⟨⟨by rw [en_e A _ (by omega)]; exact q0, by rw [en_e A _ (by omega)]; exact q1, by rw [en_e A _ (by omega)]; exact q2, by rw [en_e A _ (by omega)]; exact q3, by rw [en_e A _ (by omega)]; exact q4, by rw [en_e A _ (by omega)]; exact q5, by rw [en_e A _ (by omega)]; exact q6, by rw [b7]; omega⟩, okVi_c (en_e A (n := n) _ (by omega)) (fun i _ _ => en_e A (n := n) i (by omega)) hVi q0.2, okWe_c (fun i _ _ => en_e A (n := n) i (by omega)) hWe, okCo_c (en_e A (n := n) _ (by omega)) (fun i _ _ => en_e A (n := n) i (by omega)) hCo q0.2, okOf_c (en_e A (n := n) _ (by omega)) (Int.le_of_eq (en_e A (n := n) _ (by omega)).symm) (fun i _ _ => en_e A (n := n) i (by omega)) hOf q1.2, okBo_c (Int.le_of_eq (en_e A (n := n) _ (by omega)).symm) (Int.le_of_eq (en_e A (n := n) _ (by omega)).symm) (en_e A (n := n) _ (by omega)) (Int.le_of_eq (en_e A (n := n) _ (by omega)).symm) (fun i _ _ => en_e A (n := n) i (by omega)) hBo q2.2, okWo_c (Int.le_of_eq (en_e A (n := n) _ (by omega)).symm) (en_e A (n := n) _ (by omega)) (Int.le_of_eq (en_e A (n := n) _ (by omega)).symm) (fun i _ _ => en_e A (n := n) i (by omega)) hWo q6.2, okMo_c (Int.le_of_eq (en_e A (n := n) _ (by omega)).symm) (Int.le_of_eq (en_e A (n := n) _ (by omega)).symm) (en_e A (n := n) _ (by omega)) (fun i _ _ => en_e A (n := n) i (by omega)) hMo q5.2, okRe_c (en_e A (n := n) _ (by omega)) (fun i _ _ => en_e A (n := n) i (by omega)) hRe q3.2, okLi_c (en_e A (n := n) _ (by omega)) (fun i _ _ => en_e A (n := n) i (by omega)) (fun i _ _ => en_e A (n := n) i (by omega)) hLi hRe q3.2, ?_⟩
  · intro i i1 i2
    rw [b7] at i2
    rw [en_e A _ (by omega)]
    exact hTa i i1 (by omega)
theorem st_e (A : Int → Int)  (i : Int) (h : i ≠ 5) : stA A i = A i := by
  simp only [stA, upF]
  rw [if_neg (by omega)]

theorem ok_st {A : Int → Int} (hO : okA A)  : okA (stA A) := by
  obtain ⟨⟨q0, q1, q2, q3, q4, q5, q6, q7⟩, hVi, hWe, hCo, hOf, hBo, hWo, hMo, hRe, hLi, hTa⟩ := id hO
  have b5 : stA A 5 = 0 := upF_s _ _ _
  refine ⟨⟨by rw [st_e A _ (by omega)]; exact q0, by rw [st_e A _ (by omega)]; exact q1, by rw [st_e A _ (by omega)]; exact q2, by rw [st_e A _ (by omega)]; exact q3, by rw [st_e A _ (by omega)]; exact q4, by rw [b5]; omega, by rw [st_e A _ (by omega)]; exact q6, by rw [st_e A _ (by omega)]; exact q7⟩, okVi_c (st_e A  _ (by omega)) (fun i _ _ => st_e A  i (by omega)) hVi q0.2, okWe_c (fun i _ _ => st_e A  i (by omega)) hWe, okCo_c (st_e A  _ (by omega)) (fun i _ _ => st_e A  i (by omega)) hCo q0.2, okOf_c (st_e A  _ (by omega)) (Int.le_of_eq (st_e A  _ (by omega)).symm) (fun i _ _ => st_e A  i (by omega)) hOf q1.2, okBo_c (Int.le_of_eq (st_e A  _ (by omega)).symm) (Int.le_of_eq (st_e A  _ (by omega)).symm) (st_e A  _ (by omega)) (Int.le_of_eq (st_e A  _ (by omega)).symm) (fun i _ _ => st_e A  i (by omega)) hBo q2.2, okWo_c (Int.le_of_eq (st_e A  _ (by omega)).symm) (st_e A  _ (by omega)) (Int.le_of_eq (st_e A  _ (by omega)).symm) (fun i _ _ => st_e A  i (by omega)) hWo q6.2, ?_, okRe_c (st_e A  _ (by omega)) (fun i _ _ => st_e A  i (by omega)) hRe q3.2, okLi_c (st_e A  _ (by omega)) (fun i _ _ => st_e A  i (by omega)) (fun i _ _ => st_e A  i (by omega)) hLi hRe q3.2, okTa_c (st_e A  _ (by omega)) (fun i _ _ => st_e A  i (by omega)) hTa q7.2⟩
  · intro i i1 i2
    rw [b5] at i2
    omega
theorem mo_e (A : Int → Int) {oo v : Int} (i : Int) (h : i ≠ 5 ∧ ¬ (400 + 2 * A 5 ≤ i ∧ i ≤ 400 + 2 * A 5 + 1)) : moA A oo v i = A i := by
  simp only [moA, upF]
  rw [if_neg (by omega), if_neg (by omega), if_neg (by omega)]

theorem ok_mo {A : Int → Int} (hO : okA A) {oo v : Int} (ho : 0 ≤ oo ∧ oo < A 1) (hv : 0 ≤ v ∧ v < A 0) (hn : A 5 < 12) : okA (moA A oo v) := by
  obtain ⟨⟨q0, q1, q2, q3, q4, q5, q6, q7⟩, hVi, hWe, hCo, hOf, hBo, hWo, hMo, hRe, hLi, hTa⟩ := id hO
  have b5 : moA A oo v 5 = A 5 + 1 := upF_s _ _ _
  refine ⟨⟨by rw [mo_e A _ (by omega)]; exact q0, by rw [mo_e A _ (by omega)]; exact q1, by rw [mo_e A _ (by omega)]; exact q2, by rw [mo_e A _ (by omega)]; exact q3, by rw [mo_e A _ (by omega)]; exact q4, by rw [b5]; omega, by rw [mo_e A _ (by omega)]; exact q6, by rw [mo_e A _ (by omega)]; exact q7⟩, okVi_c (mo_e A (oo := oo) (v := v) _ (by omega)) (fun i _ _ => mo_e A (oo := oo) (v := v) i (by omega)) hVi q0.2, okWe_c (fun i _ _ => mo_e A (oo := oo) (v := v) i (by omega)) hWe, okCo_c (mo_e A (oo := oo) (v := v) _ (by omega)) (fun i _ _ => mo_e A (oo := oo) (v := v) i (by omega)) hCo q0.2, okOf_c (mo_e A (oo := oo) (v := v) _ (by omega)) (Int.le_of_eq (mo_e A (oo := oo) (v := v) _ (by omega)).symm) (fun i _ _ => mo_e A (oo := oo) (v := v) i (by omega)) hOf q1.2, okBo_c (Int.le_of_eq (mo_e A (oo := oo) (v := v) _ (by omega)).symm) (Int.le_of_eq (mo_e A (oo := oo) (v := v) _ (by omega)).symm) (mo_e A (oo := oo) (v := v) _ (by omega)) (Int.le_of_eq (mo_e A (oo := oo) (v := v) _ (by omega)).symm) (fun i _ _ => mo_e A (oo := oo) (v := v) i (by omega)) hBo q2.2, okWo_c (Int.le_of_eq (mo_e A (oo := oo) (v := v) _ (by omega)).symm) (mo_e A (oo := oo) (v := v) _ (by omega)) (Int.le_of_eq (mo_e A (oo := oo) (v := v) _ (by omega)).symm) (fun i _ _ => mo_e A (oo := oo) (v := v) i (by omega)) hWo q6.2, ?_, okRe_c (mo_e A (oo := oo) (v := v) _ (by omega)) (fun i _ _ => mo_e A (oo := oo) (v := v) i (by omega)) hRe q3.2, okLi_c (mo_e A (oo := oo) (v := v) _ (by omega)) (fun i _ _ => mo_e A (oo := oo) (v := v) i (by omega)) (fun i _ _ => mo_e A (oo := oo) (v := v) i (by omega)) hLi hRe q3.2, okTa_c (mo_e A (oo := oo) (v := v) _ (by omega)) (fun i _ _ => mo_e A (oo := oo) (v := v) i (by omega)) hTa q7.2⟩
  · intro i i1 i2
    rw [b5] at i2
    rw [mo_e A 0 (by omega), mo_e A 1 (by omega)]
    by_cases q : i = A 5
    · subst q
      have v0 : moA A oo v (400 + 2 * A 5) = oo := by simp only [moA, upF]; rw [if_neg (by omega), if_neg (by omega)]; first | rw [if_pos trivial] | rw [if_pos (by omega)]
      have v1 : moA A oo v (400 + 2 * A 5 + 1) = v := by simp only [moA, upF]; rw [if_neg (by omega)]; first | rw [if_pos trivial] | rw [if_pos (by omega)]
      rw [v0, v1]
      omega
    · have h := hMo i i1 (by omega)
      rw [mo_e A (400 + 2 * i) (by omega), mo_e A (400 + 2 * i + 1) (by omega)]
      exact h
theorem sa_e (A : Int → Int) {w v s c : Int} (i : Int) (h : i ≠ 6 ∧ ¬ (930 + 5 * A 6 ≤ i ∧ i ≤ 930 + 5 * A 6 + 4)) : saA A w v s c i = A i := by
  simp only [saA, upF]
  rw [if_neg (by omega), if_neg (by omega), if_neg (by omega), if_neg (by omega), if_neg (by omega), if_neg (by omega)]

theorem ok_sa {A : Int → Int} (hO : okA A) {w v s c : Int} (hw : 0 ≤ w ∧ w ≤ 4) (hv : 0 ≤ v ∧ v < A 0) (hs : 0 ≤ s ∧ s < 20) (hc : 0 ≤ c ∧ c ≤ 9999) (hn : A 6 < 100) : okA (saA A w v s c) := by
  obtain ⟨⟨q0, q1, q2, q3, q4, q5, q6, q7⟩, hVi, hWe, hCo, hOf, hBo, hWo, hMo, hRe, hLi, hTa⟩ := id hO
  have b6 : saA A w v s c 6 = A 6 + 1 := upF_s _ _ _
  refine ⟨⟨by rw [sa_e A _ (by omega)]; exact q0, by rw [sa_e A _ (by omega)]; exact q1, by rw [sa_e A _ (by omega)]; exact q2, by rw [sa_e A _ (by omega)]; exact q3, by rw [sa_e A _ (by omega)]; exact q4, by rw [sa_e A _ (by omega)]; exact q5, by rw [b6]; omega, by rw [sa_e A _ (by omega)]; exact q7⟩, okVi_c (sa_e A (w := w) (v := v) (s := s) (c := c) _ (by omega)) (fun i _ _ => sa_e A (w := w) (v := v) (s := s) (c := c) i (by omega)) hVi q0.2, okWe_c (fun i _ _ => sa_e A (w := w) (v := v) (s := s) (c := c) i (by omega)) hWe, okCo_c (sa_e A (w := w) (v := v) (s := s) (c := c) _ (by omega)) (fun i _ _ => sa_e A (w := w) (v := v) (s := s) (c := c) i (by omega)) hCo q0.2, okOf_c (sa_e A (w := w) (v := v) (s := s) (c := c) _ (by omega)) (Int.le_of_eq (sa_e A (w := w) (v := v) (s := s) (c := c) _ (by omega)).symm) (fun i _ _ => sa_e A (w := w) (v := v) (s := s) (c := c) i (by omega)) hOf q1.2, okBo_c (Int.le_of_eq (sa_e A (w := w) (v := v) (s := s) (c := c) _ (by omega)).symm) (Int.le_of_eq (sa_e A (w := w) (v := v) (s := s) (c := c) _ (by omega)).symm) (sa_e A (w := w) (v := v) (s := s) (c := c) _ (by omega)) (Int.le_of_eq (sa_e A (w := w) (v := v) (s := s) (c := c) _ (by omega)).symm) (fun i _ _ => sa_e A (w := w) (v := v) (s := s) (c := c) i (by omega)) hBo q2.2, ?_, okMo_c (Int.le_of_eq (sa_e A (w := w) (v := v) (s := s) (c := c) _ (by omega)).symm) (Int.le_of_eq (sa_e A (w := w) (v := v) (s := s) (c := c) _ (by omega)).symm) (sa_e A (w := w) (v := v) (s := s) (c := c) _ (by omega)) (fun i _ _ => sa_e A (w := w) (v := v) (s := s) (c := c) i (by omega)) hMo q5.2, okRe_c (sa_e A (w := w) (v := v) (s := s) (c := c) _ (by omega)) (fun i _ _ => sa_e A (w := w) (v := v) (s := s) (c := c) i (by omega)) hRe q3.2, okLi_c (sa_e A (w := w) (v := v) (s := s) (c := c) _ (by omega)) (fun i _ _ => sa_e A (w := w) (v := v) (s := s) (c := c) i (by omega)) (fun i _ _ => sa_e A (w := w) (v := v) (s := s) (c := c) i (by omega)) hLi hRe q3.2, okTa_c (sa_e A (w := w) (v := v) (s := s) (c := c) _ (by omega)) (fun i _ _ => sa_e A (w := w) (v := v) (s := s) (c := c) i (by omega)) hTa q7.2⟩
  · intro i i1 i2
    rw [b6] at i2
    rw [sa_e A 0 (by omega), sa_e A 4 (by omega)]
    by_cases q : i = A 6
    · subst q
      have v0 : saA A w v s c (930 + 5 * A 6 + 0) = w := by simp only [saA, upF]; rw [if_neg (by omega), if_neg (by omega), if_neg (by omega), if_neg (by omega), if_neg (by omega)]; first | rw [if_pos trivial] | rw [if_pos (by omega)]
      have v1 : saA A w v s c (930 + 5 * A 6 + 1) = v := by simp only [saA, upF]; rw [if_neg (by omega), if_neg (by omega), if_neg (by omega), if_neg (by omega)]; first | rw [if_pos trivial] | rw [if_pos (by omega)]
      have v2 : saA A w v s c (930 + 5 * A 6 + 2) = s := by simp only [saA, upF]; rw [if_neg (by omega), if_neg (by omega), if_neg (by omega)]; first | rw [if_pos trivial] | rw [if_pos (by omega)]
      have v3 : saA A w v s c (930 + 5 * A 6 + 3) = c := by simp only [saA, upF]; rw [if_neg (by omega), if_neg (by omega)]; first | rw [if_pos trivial] | rw [if_pos (by omega)]
      have v4 : saA A w v s c (930 + 5 * A 6 + 4) = A 4 := by simp only [saA, upF]; rw [if_neg (by omega)]; first | rw [if_pos trivial] | rw [if_pos (by omega)]
      rw [v0, v1, v2, v3, v4]
      omega
    · have h := hWo i i1 (by omega)
      rw [sa_e A (930 + 5 * i + 0) (by omega), sa_e A (930 + 5 * i + 1) (by omega), sa_e A (930 + 5 * i + 2) (by omega), sa_e A (930 + 5 * i + 3) (by omega), sa_e A (930 + 5 * i + 4) (by omega)]
      exact h
theorem vi_e (A : Int → Int) {p x y : Int} (i : Int) (h : i ≠ 0 ∧ ¬ (120 + 20 * A 0 ≤ i ∧ i < 140 + 20 * A 0) ∧ ¬ (40 + 6 * A 0 ≤ i ∧ i ≤ 40 + 6 * A 0 + 4)) : viA A p x y i = A i := by
  simp only [viA, upF]
  rw [if_neg (by omega), if_neg (by omega), if_neg (by omega), if_neg (by omega), if_neg (by omega), if_neg (by omega), if_neg (by omega)]

theorem ok_vi {A : Int → Int} (hO : okA A) {p x y : Int} (hp : 1 ≤ p ∧ p ≤ 9999) (hx : 0 ≤ x ∧ x ≤ 50) (hy : 0 ≤ y ∧ y ≤ 50) (hn : A 0 < 12) : okA (viA A p x y) := by
  obtain ⟨⟨q0, q1, q2, q3, q4, q5, q6, q7⟩, hVi, hWe, hCo, hOf, hBo, hWo, hMo, hRe, hLi, hTa⟩ := id hO
  have b0 : viA A p x y 0 = A 0 + 1 := if_pos rfl
  refine ⟨⟨by rw [b0]; omega, by rw [vi_e A _ (by omega)]; exact q1, by rw [vi_e A _ (by omega)]; exact q2, by rw [vi_e A _ (by omega)]; exact q3, by rw [vi_e A _ (by omega)]; exact q4, by rw [vi_e A _ (by omega)]; exact q5, by rw [vi_e A _ (by omega)]; exact q6, by rw [vi_e A _ (by omega)]; exact q7⟩, ?_, okWe_c (fun i _ _ => vi_e A (p := p) (x := x) (y := y) i (by omega)) hWe, ?_, okOf_c (vi_e A (p := p) (x := x) (y := y) _ (by omega)) (Int.le_of_eq (vi_e A (p := p) (x := x) (y := y) _ (by omega)).symm) (fun i _ _ => vi_e A (p := p) (x := x) (y := y) i (by omega)) hOf q1.2, okBo_c (by rw [b0]; omega) (Int.le_of_eq (vi_e A (p := p) (x := x) (y := y) _ (by omega)).symm) (vi_e A (p := p) (x := x) (y := y) _ (by omega)) (Int.le_of_eq (vi_e A (p := p) (x := x) (y := y) _ (by omega)).symm) (fun i _ _ => vi_e A (p := p) (x := x) (y := y) i (by omega)) hBo q2.2, okWo_c (by rw [b0]; omega) (vi_e A (p := p) (x := x) (y := y) _ (by omega)) (Int.le_of_eq (vi_e A (p := p) (x := x) (y := y) _ (by omega)).symm) (fun i _ _ => vi_e A (p := p) (x := x) (y := y) i (by omega)) hWo q6.2, okMo_c (by rw [b0]; omega) (Int.le_of_eq (vi_e A (p := p) (x := x) (y := y) _ (by omega)).symm) (vi_e A (p := p) (x := x) (y := y) _ (by omega)) (fun i _ _ => vi_e A (p := p) (x := x) (y := y) i (by omega)) hMo q5.2, okRe_c (vi_e A (p := p) (x := x) (y := y) _ (by omega)) (fun i _ _ => vi_e A (p := p) (x := x) (y := y) i (by omega)) hRe q3.2, okLi_c (vi_e A (p := p) (x := x) (y := y) _ (by omega)) (fun i _ _ => vi_e A (p := p) (x := x) (y := y) i (by omega)) (fun i _ _ => vi_e A (p := p) (x := x) (y := y) i (by omega)) hLi hRe q3.2, okTa_c (vi_e A (p := p) (x := x) (y := y) _ (by omega)) (fun i _ _ => vi_e A (p := p) (x := x) (y := y) i (by omega)) hTa q7.2⟩
  · intro i i1 i2
    rw [b0] at i2
    by_cases q : i = A 0
    · subst q
      have v0 : viA A p x y (40 + 6 * A 0 + 0) = p := by simp only [viA]; rw [if_neg (by omega), if_neg (by omega)]; first | rw [if_pos trivial] | rw [if_pos (by omega)]
      have v1 : viA A p x y (40 + 6 * A 0 + 1) = x := by simp only [viA]; rw [if_neg (by omega), if_neg (by omega), if_neg (by omega)]; first | rw [if_pos trivial] | rw [if_pos (by omega)]
      have v2 : viA A p x y (40 + 6 * A 0 + 2) = y := by simp only [viA]; rw [if_neg (by omega), if_neg (by omega), if_neg (by omega), if_neg (by omega)]; first | rw [if_pos trivial] | rw [if_pos (by omega)]
      have v3 : viA A p x y (40 + 6 * A 0 + 3) = 100 := by simp only [viA]; rw [if_neg (by omega), if_neg (by omega), if_neg (by omega), if_neg (by omega), if_neg (by omega)]; first | rw [if_pos trivial] | rw [if_pos (by omega)]
      have v4 : viA A p x y (40 + 6 * A 0 + 4) = 100 := by simp only [viA]; rw [if_neg (by omega), if_neg (by omega), if_neg (by omega), if_neg (by omega), if_neg (by omega), if_neg (by omega)]; first | rw [if_pos trivial] | rw [if_pos (by omega)]
      rw [v0, v1, v2, v3, v4]
      omega
    · have h := hVi i i1 (by omega)
      rw [vi_e A (40 + 6 * i + 0) (by omega), vi_e A (40 + 6 * i + 1) (by omega), vi_e A (40 + 6 * i + 2) (by omega), vi_e A (40 + 6 * i + 3) (by omega), vi_e A (40 + 6 * i + 4) (by omega)]
      exact h
  · intro v s v1 v2 s1 s2
    rw [b0] at v2
    by_cases q : v = A 0
    · subst q
      have e9 : viA A p x y (120 + 20 * A 0 + s) = 0 := by simp only [viA]; rw [if_neg (by omega), if_pos (by omega)]
      rw [e9]
      omega
    · rw [vi_e A (120 + 20 * v + s) (by omega)]
      exact hCo v s v1 (by omega) s1 s2
