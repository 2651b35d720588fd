theorem we_e (A : Int → Int) {s p : Int} (i : Int) (h : i ≠ 20 + s) : weA A s p i = A i := upF_n h
theorem CR_we {σ σ' : vMem} {A : Int → Int} (hC : CR σ A) (hO : okA A) {s p : Int} (hs : 0 ≤ s ∧ s < 20) (f : ∀ k : Nat, k ≠ 9 → σ' k = σ k) (h9 : σ' 9 = upF (σ 9) s p) : CR σ' (weA A s p) := by
  obtain ⟨⟨q0, q1, q2, q3, q4, q5, q6, q7⟩, hVi, hWe, hCo, hOf, hBo, hWo, hMo, hRe, hLi, hTa⟩ := id hO
  obtain ⟨cL, cB, cW, cT, cN, cM⟩ := id hC
  refine ⟨?_, by rw [f 10 (by omega), f 11 (by omega), f 12 (by omega), f 13 (by omega), f 14 (by omega), f 15 (by omega), f 16 (by omega), f 17 (by omega), f 18 (by omega), f 19 (by omega)]; exact BookR_c (we_e A _ (by omega)) (we_e A _ (by omega)) (fun i _ _ => we_e A i (by omega)) (fun i _ _ => we_e A i (by omega)) ⟨q1.2, q2.2⟩ cB, by rw [f 20 (by omega), f 21 (by omega), f 22 (by omega), f 23 (by omega), f 24 (by omega), f 25 (by omega), f 26 (by omega), f 27 (by omega), f 28 (by omega), f 29 (by omega)]; exact LawsR_c (we_e A _ (by omega)) (fun i _ _ => we_e A i (by omega)) (fun i _ _ => we_e A i (by omega)) q3.2 hRe hLi cW, by rw [f 30 (by omega), f 31 (by omega)]; exact TapeR_c (we_e A _ (by omega)) (we_e A _ (by omega)) (we_e A _ (by omega)) (fun i _ _ => we_e A i (by omega)) q7.2 cT, by rw [f 32 (by omega), f 33 (by omega), f 34 (by omega), f 35 (by omega), f 36 (by omega), f 37 (by omega)]; exact NewsR_c (we_e A _ (by omega)) (fun i _ _ => we_e A i (by omega)) q6.2 cN, by rw [f 38 (by omega), f 39 (by omega), f 40 (by omega)]; exact MovesR_c (we_e A _ (by omega)) (fun i _ _ => we_e A i (by omega)) q5.2 cM⟩
  obtain ⟨l0, l1, lV, lC, lZ, lS⟩ := cL
  rw [f 2 (by omega), f 3 (by omega), f 4 (by omega), f 5 (by omega), f 6 (by omega), f 7 (by omega), f 8 (by omega)]
  refine ⟨by rw [we_e A _ (by omega)]; exact l0, by rw [we_e A _ (by omega)]; exact l1, fun v v1 v2 => ?_, fun v t v1 v2 t1 t2 => ?_, fun v t v1 => lZ v t (by rw [we_e A _ (by omega)] at v1; exact v1), fun t t1 t2 => ?_⟩
  · rw [we_e A 0 (by omega)] at v2
    rw [we_e A (40 + 6 * v + 0) (by omega), we_e A (40 + 6 * v + 1) (by omega), we_e A (40 + 6 * v + 2) (by omega), we_e A (40 + 6 * v + 3) (by omega), we_e A (40 + 6 * v + 4) (by omega)]
    exact lV v v1 v2
  · rw [we_e A 0 (by omega)] at v2
    rw [we_e A (120 + 20 * v + t) (by omega)]
    exact lC v t v1 v2 t1 t2
  · rw [h9]
    by_cases q : t = s
    · rw [q, upF_s]; exact (upF_s _ _ _).symm
    · rw [upF_n q, we_e A _ (by omega)]; exact lS t t1 t2
theorem CR_sq {σ σ' : vMem} {A : Int → Int} (hC : CR σ A) (hO : okA A) {v p : Int} (hv : 0 ≤ v ∧ v < A 0) (f : ∀ k : Nat, k ≠ 7 → σ' k = σ k) (h7 : σ' 7 = upF (σ 7) v p) : CR σ' (sqA A v p) := by
  obtain ⟨⟨q0, q1, q2, q3, q4, q5, q6, q7⟩, hVi, hWe, hCo, hOf, hBo, hWo, hMo, hRe, hLi, hTa⟩ := id hO
  obtain ⟨cL, cB, cW, cT, cN, cM⟩ := id hC
  refine ⟨?_, by rw [f 10 (by omega), f 11 (by omega), f 12 (by omega), f 13 (by omega), f 14 (by omega), f 15 (by omega), f 16 (by omega), f 17 (by omega), f 18 (by omega), f 19 (by omega)]; exact BookR_c (sq_e A _ (by omega)) (sq_e A _ (by omega)) (fun i _ _ => sq_e A i (by omega)) (fun i _ _ => sq_e A i (by omega)) ⟨q1.2, q2.2⟩ cB, by rw [f 20 (by omega), f 21 (by omega), f 22 (by omega), f 23 (by omega), f 24 (by omega), f 25 (by omega), f 26 (by omega), f 27 (by omega), f 28 (by omega), f 29 (by omega)]; exact LawsR_c (sq_e A _ (by omega)) (fun i _ _ => sq_e A i (by omega)) (fun i _ _ => sq_e A i (by omega)) q3.2 hRe hLi cW, by rw [f 30 (by omega), f 31 (by omega)]; exact TapeR_c (sq_e A _ (by omega)) (sq_e A _ (by omega)) (sq_e A _ (by omega)) (fun i _ _ => sq_e A i (by omega)) q7.2 cT, by rw [f 32 (by omega), f 33 (by omega), f 34 (by omega), f 35 (by omega), f 36 (by omega), f 37 (by omega)]; exact NewsR_c (sq_e A _ (by omega)) (fun i _ _ => sq_e A i (by omega)) q6.2 cN, by rw [f 38 (by omega), f 39 (by omega), f 40 (by omega)]; exact MovesR_c (sq_e A _ (by omega)) (fun i _ _ => sq_e A i (by omega)) q5.2 cM⟩
  obtain ⟨l0, l1, lV, lC, lZ, lS⟩ := cL
  rw [f 2 (by omega), f 3 (by omega), f 4 (by omega), f 5 (by omega), f 6 (by omega), f 8 (by omega), f 9 (by omega)]
  refine ⟨by rw [sq_e A _ (by omega)]; exact l0, by rw [sq_e A _ (by omega)]; exact l1, fun u u1 u2 => ?_, fun u t u1 u2 t1 t2 => ?_, fun u t u1 => lZ u t (by rw [sq_e A _ (by omega)] at u1; exact u1), fun t t1 t2 => by rw [sq_e A _ (by omega)]; exact lS t t1 t2⟩
  · rw [sq_e A 0 (by omega)] at u2
    rw [sq_e A (40 + 6 * u + 0) (by omega), sq_e A (40 + 6 * u + 1) (by omega), sq_e A (40 + 6 * u + 2) (by omega), sq_e A (40 + 6 * u + 3) (by omega), h7]
    have h := lV u u1 u2
    by_cases q : u = v
    · rw [q] at h ⊢
      rw [upF_s]
      exact ⟨h.1, h.2.1, h.2.2.1, h.2.2.2.1, (upF_s _ _ _).symm⟩
    · rw [upF_n q, sq_e A (40 + 6 * u + 4) (by omega)]
      exact h
  · rw [sq_e A 0 (by omega)] at u2
    rw [sq_e A (120 + 20 * u + t) (by omega)]
    exact lC u t u1 u2 t1 t2
theorem CR_of {σ σ' : vMem} {A : Int → Int} (hC : CR σ A) (hO : okA A) {rank kin : Int} (hn : A 1 < 10) (f : ∀ k : Nat, k ≠ 10 ∧ k ≠ 11 ∧ k ≠ 12 ∧ k ≠ 13 ∧ k ≠ 14 → σ' k = σ k) (h0 : σ' 10 0 = A 1 + 1) (h5 : σ' 10 5 = σ 10 5) (h11 : σ' 11 = upF (σ 11) (A 1) rank) (h12 : σ' 12 = upF (σ 12) (A 1) kin) (h13 : σ' 13 = upF (σ 13) (A 1) (A 4)) (h14 : σ' 14 = upF (σ 14) (A 1) 1200) : CR σ' (ofA A rank kin) := by
  obtain ⟨⟨q0, q1, q2, q3, q4, q5, q6, q7⟩, hVi, hWe, hCo, hOf, hBo, hWo, hMo, hRe, hLi, hTa⟩ := id hO
  obtain ⟨cL, cB, cW, cT, cN, cM⟩ := id hC
  refine ⟨by rw [f 2 (by omega), f 3 (by omega), f 4 (by omega), f 5 (by omega), f 6 (by omega), f 7 (by omega), f 8 (by omega), f 9 (by omega)]; exact LandR_c (of_e A _ (by omega)) (of_e A _ (by omega)) (fun i _ _ => of_e A i (by omega)) q0.2 cL, ?_, by rw [f 20 (by omega), f 21 (by omega), f 22 (by omega), f 23 (by omega), f 24 (by omega), f 25 (by omega), f 26 (by omega), f 27 (by omega), f 28 (by omega), f 29 (by omega)]; exact LawsR_c (of_e A _ (by omega)) (fun i _ _ => of_e A i (by omega)) (fun i _ _ => of_e A i (by omega)) q3.2 hRe hLi cW, by rw [f 30 (by omega), f 31 (by omega)]; exact TapeR_c (of_e A _ (by omega)) (of_e A _ (by omega)) (of_e A _ (by omega)) (fun i _ _ => of_e A i (by omega)) q7.2 cT, by rw [f 32 (by omega), f 33 (by omega), f 34 (by omega), f 35 (by omega), f 36 (by omega), f 37 (by omega)]; exact NewsR_c (of_e A _ (by omega)) (fun i _ _ => of_e A i (by omega)) q6.2 cN, by rw [f 38 (by omega), f 39 (by omega), f 40 (by omega)]; exact MovesR_c (of_e A _ (by omega)) (fun i _ _ => of_e A i (by omega)) q5.2 cM⟩
  obtain ⟨b0, b1, bO, bB⟩ := cB
  rw [f 15 (by omega), f 16 (by omega), f 17 (by omega), f 18 (by omega), f 19 (by omega)]
  have b9 : ofA A rank kin 1 = A 1 + 1 := upF_s _ _ _
  refine ⟨by rw [b9]; exact h0, by rw [of_e A _ (by omega), h5]; exact b1, fun i i1 i2 => ?_, fun i i1 i2 => ?_⟩
  · rw [b9] at i2
    rw [h11, h12, h13, h14]
    by_cases q : i = A 1
    · subst q
      have v0 : ofA A rank kin (360 + 4 * A 1 + 0) = rank := by simp only [ofA, upF]; rw [if_neg (by omega), if_neg (by omega), if_neg (by omega), if_neg (by omega)]; first | rw [if_pos trivial] | rw [if_pos (by omega)]
      have v1 : ofA A rank kin (360 + 4 * A 1 + 1) = kin := by simp only [ofA, upF]; rw [if_neg (by omega), if_neg (by omega), if_neg (by omega)]; first | rw [if_pos trivial] | rw [if_pos (by omega)]
      have v2 : ofA A rank kin (360 + 4 * A 1 + 2) = A 4 := by simp only [ofA, upF]; rw [if_neg (by omega), if_neg (by omega)]; first | rw [if_pos trivial] | rw [if_pos (by omega)]
      have v3 : ofA A rank kin (360 + 4 * A 1 + 3) = -1 := by simp only [ofA, upF]; rw [if_neg (by omega)]; first | rw [if_pos trivial] | rw [if_pos (by omega)]
      rw [upF_s, upF_s, upF_s, upF_s, v0, v1, v2, v3]
      exact ⟨rfl, rfl, rfl, fun _ => rfl, fun z => by omega⟩
    · rw [upF_n q, upF_n q, upF_n q, upF_n q, of_e A (360 + 4 * i + 0) (by omega), of_e A (360 + 4 * i + 1) (by omega), of_e A (360 + 4 * i + 2) (by omega), of_e A (360 + 4 * i + 3) (by omega)]
      exact bO i i1 (by omega)
  · rw [of_e A 2 (by omega)] at i2
    rw [of_e A (430 + 5 * i + 0) (by omega), of_e A (430 + 5 * i + 1) (by omega), of_e A (430 + 5 * i + 2) (by omega), of_e A (430 + 5 * i + 3) (by omega), of_e A (430 + 5 * i + 4) (by omega)]
    exact bB i i1 i2
theorem CR_di {σ σ' : vMem} {A : Int → Int} (hC : CR σ A) (hO : okA A) {oo : Int} (ho : 0 ≤ oo ∧ oo < A 1) (f : ∀ k : Nat, k ≠ 14 → σ' k = σ k) (h14 : σ' 14 = upF (σ 14) oo (A 4)) : CR σ' (diA A oo) := by
  obtain ⟨⟨q0, q1, q2, q3, q4, q5, q6, q7⟩, hVi, hWe, hCo, hOf, hBo, hWo, hMo, hRe, hLi, hTa⟩ := id hO
  obtain ⟨cL, cB, cW, cT, cN, cM⟩ := id hC
  refine ⟨by rw [f 2 (by omega), f 3 (by omega), f 4 (by omega), f 5 (by omega), f 6 (by omega), f 7 (by omega), f 8 (by omega), f 9 (by omega)]; exact LandR_c (di_e A _ (by omega)) (di_e A _ (by omega)) (fun i _ _ => di_e A i (by omega)) q0.2 cL, ?_, by rw [f 20 (by omega), f 21 (by omega), f 22 (by omega), f 23 (by omega), f 24 (by omega), f 25 (by omega), f 26 (by omega), f 27 (by omega), f 28 (by omega), f 29 (by omega)]; exact LawsR_c (di_e A _ (by omega)) (fun i _ _ => di_e A i (by omega)) (fun i _ _ => di_e A i (by omega)) q3.2 hRe hLi cW, by rw [f 30 (by omega), f 31 (by omega)]; exact TapeR_c (di_e A _ (by omega)) (di_e A _ (by omega)) (di_e A _ (by omega)) (fun i _ _ => di_e A i (by omega)) q7.2 cT, by rw [f 32 (by omega), f 33 (by omega), f 34 (by omega), f 35 (by omega), f 36 (by omega), f 37 (by omega)]; exact NewsR_c (di_e A _ (by omega)) (fun i _ _ => di_e A i (by omega)) q6.2 cN, by rw [f 38 (by omega), f 39 (by omega), f 40 (by omega)]; exact MovesR_c (di_e A _ (by omega)) (fun i _ _ => di_e A i (by omega)) q5.2 cM⟩
  obtain ⟨b0, b1, bO, bB⟩ := cB
  rw [f 10 (by omega), f 11 (by omega), f 12 (by omega), f 13 (by omega), f 15 (by omega), f 16 (by omega), f 17 (by omega), f 18 (by omega), f 19 (by omega)]
  refine ⟨by rw [di_e A _ (by omega)]; exact b0, by rw [di_e A _ (by omega)]; exact b1, fun i i1 i2 => ?_, fun i i1 i2 => ?_⟩
  · rw [di_e A 1 (by omega)] at i2
    have h := bO i i1 i2
    rw [h14, di_e A (360 + 4 * i + 0) (by omega), di_e A (360 + 4 * i + 1) (by omega), di_e A (360 + 4 * i + 2) (by omega)]
    by_cases q : i = oo
    · rw [q] at h ⊢
      rw [upF_s, show diA A oo (360 + 4 * oo + 3) = A 4 from upF_s _ _ _]
      exact ⟨h.1, h.2.1, h.2.2.1, fun z => by omega, fun _ => rfl⟩
    · rw [upF_n q, di_e A (360 + 4 * i + 3) (by omega)]
      exact h
  · rw [di_e A 2 (by omega)] at i2
    rw [di_e A (430 + 5 * i + 0) (by omega), di_e A (430 + 5 * i + 1) (by omega), di_e A (430 + 5 * i + 2) (by omega), di_e A (430 + 5 * i + 3) (by omega), di_e A (430 + 5 * i + 4) (by omega)]
    exact bB i i1 i2
theorem CR_or {σ σ' : vMem} {A : Int → Int} (hC : CR σ A) (hO : okA A) {kind what oo from' : Int} (hn : A 2 < 100) (f : ∀ k : Nat, k ≠ 10 ∧ k ≠ 15 ∧ k ≠ 16 ∧ k ≠ 17 ∧ k ≠ 18 ∧ k ≠ 19 → σ' k = σ k) (h0 : σ' 10 0 = σ 10 0) (h5 : σ' 10 5 = A 2 + 1) (h15 : σ' 15 = upF (σ 15) (A 2) kind) (h16 : σ' 16 = upF (σ 16) (A 2) what) (h17 : σ' 17 = upF (σ 17) (A 2) oo) (h18 : σ' 18 = upF (σ 18) (A 2) from') (h19 : σ' 19 = upF (σ 19) (A 2) (A 4)) : CR σ' (orA A kind what oo from') := by
  obtain ⟨⟨q0, q1, q2, q3, q4, q5, q6, q7⟩, hVi, hWe, hCo, hOf, hBo, hWo, hMo, hRe, hLi, hTa⟩ := id hO
  obtain ⟨cL, cB, cW, cT, cN, cM⟩ := id hC
  refine ⟨by rw [f 2 (by omega), f 3 (by omega), f 4 (by omega), f 5 (by omega), f 6 (by omega), f 7 (by omega), f 8 (by omega), f 9 (by omega)]; exact LandR_c (or_e A _ (by omega)) (or_e A _ (by omega)) (fun i _ _ => or_e A i (by omega)) q0.2 cL, ?_, by rw [f 20 (by omega), f 21 (by omega), f 22 (by omega), f 23 (by omega), f 24 (by omega), f 25 (by omega), f 26 (by omega), f 27 (by omega), f 28 (by omega), f 29 (by omega)]; exact LawsR_c (or_e A _ (by omega)) (fun i _ _ => or_e A i (by omega)) (fun i _ _ => or_e A i (by omega)) q3.2 hRe hLi cW, by rw [f 30 (by omega), f 31 (by omega)]; exact TapeR_c (or_e A _ (by omega)) (or_e A _ (by omega)) (or_e A _ (by omega)) (fun i _ _ => or_e A i (by omega)) q7.2 cT, by rw [f 32 (by omega), f 33 (by omega), f 34 (by omega), f 35 (by omega), f 36 (by omega), f 37 (by omega)]; exact NewsR_c (or_e A _ (by omega)) (fun i _ _ => or_e A i (by omega)) q6.2 cN, by rw [f 38 (by omega), f 39 (by omega), f 40 (by omega)]; exact MovesR_c (or_e A _ (by omega)) (fun i _ _ => or_e A i (by omega)) q5.2 cM⟩
  obtain ⟨b0, b1, bO, bB⟩ := cB
  rw [f 11 (by omega), f 12 (by omega), f 13 (by omega), f 14 (by omega)]
  have b9 : orA A kind what oo from' 2 = A 2 + 1 := upF_s _ _ _
  refine ⟨by rw [or_e A _ (by omega), h0]; exact b0, by rw [b9]; exact h5, fun i i1 i2 => ?_, fun i i1 i2 => ?_⟩
  · rw [or_e A 1 (by omega)] at i2
    rw [or_e A (360 + 4 * i + 0) (by omega), or_e A (360 + 4 * i + 1) (by omega), or_e A (360 + 4 * i + 2) (by omega), or_e A (360 + 4 * i + 3) (by omega)]
    exact bO i i1 i2
  · rw [b9] at i2
    rw [h15, h16, h17, h18, h19]
    by_cases q : i = A 2
    · subst q
      have v0 : orA A kind what oo from' (430 + 5 * A 2 + 0) = kind := by simp only [orA, upF]; rw [if_neg (by omega), if_neg (by omega), if_neg (by omega), if_neg (by omega), if_neg (by omega)]; first | rw [if_pos trivial] | rw [if_pos (by omega)]
      have v1 : orA A kind what oo from' (430 + 5 * A 2 + 1) = what := by simp only [orA, upF]; rw [if_neg (by omega), if_neg (by omega), if_neg (by omega), if_neg (by omega)]; first | rw [if_pos trivial] | rw [if_pos (by omega)]
      have v2 : orA A kind what oo from' (430 + 5 * A 2 + 2) = oo := by simp only [orA, upF]; rw [if_neg (by omega), if_neg (by omega), if_neg (by omega)]; first | rw [if_pos trivial] | rw [if_pos (by omega)]
      have v3 : orA A kind what oo from' (430 + 5 * A 2 + 3) = from' := by simp only [orA, upF]; rw [if_neg (by omega), if_neg (by omega)]; first | rw [if_pos trivial] | rw [if_pos (by omega)]
      have v4 : orA A kind what oo from' (430 + 5 * A 2 + 4) = A 4 := by simp only [orA, upF]; rw [if_neg (by omega)]; first | rw [if_pos trivial] | rw [if_pos (by omega)]
      rw [upF_s, upF_s, upF_s, upF_s, upF_s, v0, v1, v2, v3, v4]
      exact ⟨rfl, rfl, rfl, rfl, rfl⟩
    · rw [upF_n q, upF_n q, upF_n q, upF_n q, upF_n q, or_e A (430 + 5 * i + 0) (by omega), or_e A (430 + 5 * i + 1) (by omega), or_e A (430 + 5 * i + 2) (by omega), or_e A (430 + 5 * i + 3) (by omega), or_e A (430 + 5 * i + 4) (by omega)]
      exact bB i i1 (by omega)
theorem CR_en {σ σ' : vMem} {A : Int → Int} (hC : CR σ A) (hO : okA A) {n : Int} (hn : 0 ≤ n ∧ n ≤ A 7) (f : ∀ k : Nat, k ≠ 30 → σ' k = σ k) (h1 : σ' 30 1 = n) (h2 : σ' 30 2 = σ 30 2) (h3 : σ' 30 3 = σ 30 3) : CR σ' (enA A n) := by
  obtain ⟨⟨q0, q1, q2, q3, q4, q5, q6, q7⟩, hVi, hWe, hCo, hOf, hBo, hWo, hMo, hRe, hLi, hTa⟩ := id hO
  obtain ⟨cL, cB, cW, cT, cN, cM⟩ := id hC
  refine ⟨by rw [f 2 (by omega), f 3 (by omega), f 4 (by omega), f 5 (by omega), f 6 (by omega), f 7 (by omega), f 8 (by omega), f 9 (by omega)]; exact LandR_c (en_e A _ (by omega)) (en_e A _ (by omega)) (fun i _ _ => en_e A i (by omega)) q0.2 cL, by rw [f 10 (by omega), f 11 (by omega), f 12 (by omega), f 13 (by omega), f 14 (by omega), f 15 (by omega), f 16 (by omega), f 17 (by omega), f 18 (by omega), f 19 (by omega)]; exact BookR_c (en_e A _ (by omega)) (en_e A _ (by omega)) (fun i _ _ => en_e A i (by omega)) (fun i _ _ => en_e A i (by omega)) ⟨q1.2, q2.2⟩ cB, by rw [f 20 (by omega), f 21 (by omega), f 22 (by omega), f 23 (by omega), f 24 (by omega), f 25 (by omega), f 26 (by omega), f 27 (by omega), f 28 (by omega), f 29 (by omega)]; exact LawsR_c (en_e A _ (by omega)) (fun i _ _ => en_e A i (by omega)) (fun i _ _ => en_e A i (by omega)) q3.2 hRe hLi cW, ?_, by rw [f 32 (by omega), f 33 (by omega), f 34 (by omega), f 35 (by omega), f 36 (by omega), f 37 (by omega)]; exact NewsR_c (en_e A _ (by omega)) (fun i _ _ => en_e A i (by omega)) q6.2 cN, by rw [f 38 (by omega), f 39 (by omega), f 40 (by omega)]; exact MovesR_c (en_e A _ (by omega)) (fun i _ _ => en_e A i (by omega)) q5.2 cM⟩
  obtain ⟨t0, t1, t2, tR, tB⟩ := cT
  rw [f 31 (by omega)]
  have b7 : enA A n 7 = n := upF_s _ _ _
  refine ⟨by rw [b7]; exact h1, by rw [en_e A _ (by omega), h2]; exact t1, by rw [en_e A _ (by omega), h3]; exact t2, tR, fun i i1 i2 => ?_⟩
  rw [b7] at i2
  rw [en_e A _ (by omega)]
  exact tB i i1 (by omega)
theorem CR_st {σ σ' : vMem} {A : Int → Int} (hC : CR σ A) (hO : okA A)  (f : ∀ k : Nat, k ≠ 38 → σ' k = σ k) (h0 : σ' 38 0 = 0) : CR σ' (stA A) := by
  obtain ⟨⟨q0, q1, q2, q3, q4, q5, q6, q7⟩, hVi, hWe, hCo, hOf, hBo, hWo, hMo, hRe, hLi, hTa⟩ := id hO
  obtain ⟨cL, cB, cW, cT, cN, cM⟩ := id hC
  refine ⟨by rw [f 2 (by omega), f 3 (by omega), f 4 (by omega), f 5 (by omega), f 6 (by omega), f 7 (by omega), f 8 (by omega), f 9 (by omega)]; exact LandR_c (st_e A _ (by omega)) (st_e A _ (by omega)) (fun i _ _ => st_e A i (by omega)) q0.2 cL, by rw [f 10 (by omega), f 11 (by omega), f 12 (by omega), f 13 (by omega), f 14 (by omega), f 15 (by omega), f 16 (by omega), f 17 (by omega), f 18 (by omega), f 19 (by omega)]; exact BookR_c (st_e A _ (by omega)) (st_e A _ (by omega)) (fun i _ _ => st_e A i (by omega)) (fun i _ _ => st_e A i (by omega)) ⟨q1.2, q2.2⟩ cB, by rw [f 20 (by omega), f 21 (by omega), f 22 (by omega), f 23 (by omega), f 24 (by omega), f 25 (by omega), f 26 (by omega), f 27 (by omega), f 28 (by omega), f 29 (by omega)]; exact LawsR_c (st_e A _ (by omega)) (fun i _ _ => st_e A i (by omega)) (fun i _ _ => st_e A i (by omega)) q3.2 hRe hLi cW, by rw [f 30 (by omega), f 31 (by omega)]; exact TapeR_c (st_e A _ (by omega)) (st_e A _ (by omega)) (st_e A _ (by omega)) (fun i _ _ => st_e A i (by omega)) q7.2 cT, by rw [f 32 (by omega), f 33 (by omega), f 34 (by omega), f 35 (by omega), f 36 (by omega), f 37 (by omega)]; exact NewsR_c (st_e A _ (by omega)) (fun i _ _ => st_e A i (by omega)) q6.2 cN, ?_⟩
  rw [f 39 (by omega), f 40 (by omega)]
  have b5 : stA A 5 = 0 := upF_s _ _ _
  refine ⟨by rw [b5]; exact h0, fun i i1 i2 => ?_⟩
  rw [b5] at i2
  omega
theorem CR_mo {σ σ' : vMem} {A : Int → Int} (hC : CR σ A) (hO : okA A) {oo v : Int} (hn : A 5 < 12) (f : ∀ k : Nat, k ≠ 38 ∧ k ≠ 39 ∧ k ≠ 40 → σ' k = σ k) (h0 : σ' 38 0 = A 5 + 1) (h39 : σ' 39 = upF (σ 39) (A 5) oo) (h40 : σ' 40 = upF (σ 40) (A 5) v) : CR σ' (moA A oo v) := by
  obtain ⟨⟨q0, q1, q2, q3, q4, q5, q6, q7⟩, hVi, hWe, hCo, hOf, hBo, hWo, hMo, hRe, hLi, hTa⟩ := id hO
  obtain ⟨cL, cB, cW, cT, cN, cM⟩ := id hC
  refine ⟨by rw [f 2 (by omega), f 3 (by omega), f 4 (by omega), f 5 (by omega), f 6 (by omega), f 7 (by omega), f 8 (by omega), f 9 (by omega)]; exact LandR_c (mo_e A _ (by omega)) (mo_e A _ (by omega)) (fun i _ _ => mo_e A i (by omega)) q0.2 cL, by rw [f 10 (by omega), f 11 (by omega), f 12 (by omega), f 13 (by omega), f 14 (by omega), f 15 (by omega), f 16 (by omega), f 17 (by omega), f 18 (by omega), f 19 (by omega)]; exact BookR_c (mo_e A _ (by omega)) (mo_e A _ (by omega)) (fun i _ _ => mo_e A i (by omega)) (fun i _ _ => mo_e A i (by omega)) ⟨q1.2, q2.2⟩ cB, by rw [f 20 (by omega), f 21 (by omega), f 22 (by omega), f 23 (by omega), f 24 (by omega), f 25 (by omega), f 26 (by omega), f 27 (by omega), f 28 (by omega), f 29 (by omega)]; exact LawsR_c (mo_e A _ (by omega)) (fun i _ _ => mo_e A i (by omega)) (fun i _ _ => mo_e A i (by omega)) q3.2 hRe hLi cW, by rw [f 30 (by omega), f 31 (by omega)]; exact TapeR_c (mo_e A _ (by omega)) (mo_e A _ (by omega)) (mo_e A _ (by omega)) (fun i _ _ => mo_e A i (by omega)) q7.2 cT, by rw [f 32 (by omega), f 33 (by omega), f 34 (by omega), f 35 (by omega), f 36 (by omega), f 37 (by omega)]; exact NewsR_c (mo_e A _ (by omega)) (fun i _ _ => mo_e A i (by omega)) q6.2 cN, ?_⟩
  obtain ⟨m0, mM⟩ := cM
  have b5 : moA A oo v 5 = A 5 + 1 := upF_s _ _ _
  refine ⟨by rw [b5]; exact h0, fun i i1 i2 => ?_⟩
  rw [b5] at i2
  rw [h39, h40]
  by_cases q : i = A 5
  · subst q
    have v0 : moA A oo v (400 + 2 * A 5) = oo := by simp only [moA, upF]; rw [if_neg (by omega), if_neg (by omega)]; first | rw [if_pos trivial] | rw [if_pos (by omega)]
    have v1 : moA A oo v (400 + 2 * A 5 + 1) = v := by simp only [moA, upF]; rw [if_neg (by omega)]; first | rw [if_pos trivial] | rw [if_pos (by omega)]
    rw [upF_s, upF_s, v0, v1]
    exact ⟨rfl, rfl⟩
  · rw [upF_n q, upF_n q, mo_e A (400 + 2 * i) (by omega), mo_e A (400 + 2 * i + 1) (by omega)]
    exact mM i i1 (by omega)
theorem CR_sa {σ σ' : vMem} {A : Int → Int} (hC : CR σ A) (hO : okA A) {w v s c : Int} (hn : A 6 < 100) (f : ∀ k : Nat, k ≠ 32 ∧ k ≠ 33 ∧ k ≠ 34 ∧ k ≠ 35 ∧ k ≠ 36 ∧ k ≠ 37 → σ' k = σ k) (h0 : σ' 32 1 = A 6 + 1) (h33 : σ' 33 = upF (σ 33) (A 6) w) (h34 : σ' 34 = upF (σ 34) (A 6) v) (h35 : σ' 35 = upF (σ 35) (A 6) s) (h36 : σ' 36 = upF (σ 36) (A 6) c) (h37 : σ' 37 = upF (σ 37) (A 6) (A 4)) : CR σ' (saA A w v s c) := by
  obtain ⟨⟨q0, q1, q2, q3, q4, q5, q6, q7⟩, hVi, hWe, hCo, hOf, hBo, hWo, hMo, hRe, hLi, hTa⟩ := id hO
  obtain ⟨cL, cB, cW, cT, cN, cM⟩ := id hC
  refine ⟨by rw [f 2 (by omega), f 3 (by omega), f 4 (by omega), f 5 (by omega), f 6 (by omega), f 7 (by omega), f 8 (by omega), f 9 (by omega)]; exact LandR_c (sa_e A _ (by omega)) (sa_e A _ (by omega)) (fun i _ _ => sa_e A i (by omega)) q0.2 cL, by rw [f 10 (by omega), f 11 (by omega), f 12 (by omega), f 13 (by omega), f 14 (by omega), f 15 (by omega), f 16 (by omega), f 17 (by omega), f 18 (by omega), f 19 (by omega)]; exact BookR_c (sa_e A _ (by omega)) (sa_e A _ (by omega)) (fun i _ _ => sa_e A i (by omega)) (fun i _ _ => sa_e A i (by omega)) ⟨q1.2, q2.2⟩ cB, by rw [f 20 (by omega), f 21 (by omega), f 22 (by omega), f 23 (by omega), f 24 (by omega), f 25 (by omega), f 26 (by omega), f 27 (by omega), f 28 (by omega), f 29 (by omega)]; exact LawsR_c (sa_e A _ (by omega)) (fun i _ _ => sa_e A i (by omega)) (fun i _ _ => sa_e A i (by omega)) q3.2 hRe hLi cW, by rw [f 30 (by omega), f 31 (by omega)]; exact TapeR_c (sa_e A _ (by omega)) (sa_e A _ (by omega)) (sa_e A _ (by omega)) (fun i _ _ => sa_e A i (by omega)) q7.2 cT, ?_, by rw [f 38 (by omega), f 39 (by omega), f 40 (by omega)]; exact MovesR_c (sa_e A _ (by omega)) (fun i _ _ => sa_e A i (by omega)) q5.2 cM⟩
  obtain ⟨n9, nW⟩ := cN
  have b6 : saA A w v s c 6 = A 6 + 1 := upF_s _ _ _
  refine ⟨by rw [b6]; exact h0, fun i i1 i2 => ?_⟩
  rw [b6] at i2
  rw [h33, h34, h35, h36, h37]
  by_cases q : i = A 6
  · subst q
    have v0 : saA A w v s c (930 + 5 * A 6 + 0) = w := by simp only [saA, upF]; rw [if_neg (by omega), if_neg (by omega), if_neg (by omega), if_neg (by omega), if_neg (by omega)]; first | rw [if_pos trivial] | rw [if_pos (by omega)]
    have v1 : saA A w v s c (930 + 5 * A 6 + 1) = v := by simp only [saA, upF]; rw [if_neg (by omega), if_neg (by omega), if_neg (by omega), if_neg (by omega)]; first | rw [if_pos trivial] | rw [if_pos (by omega)]
    have v2 : saA A w v s c (930 + 5 * A 6 + 2) = s := by simp only [saA, upF]; rw [if_neg (by omega), if_neg (by omega), if_neg (by omega)]; first | rw [if_pos trivial] | rw [if_pos (by omega)]
    have v3 : saA A w v s c (930 + 5 * A 6 + 3) = c := by simp only [saA, upF]; rw [if_neg (by omega), if_neg (by omega)]; first | rw [if_pos trivial] | rw [if_pos (by omega)]
    have v4 : saA A w v s c (930 + 5 * A 6 + 4) = A 4 := by simp only [saA, upF]; rw [if_neg (by omega)]; first | rw [if_pos trivial] | rw [if_pos (by omega)]
    rw [upF_s, upF_s, upF_s, upF_s, upF_s, v0, v1, v2, v3, v4]
    exact ⟨rfl, rfl, rfl, rfl, rfl⟩
  · rw [upF_n q, upF_n q, upF_n q, upF_n q, upF_n q, sa_e A (930 + 5 * i + 0) (by omega), sa_e A (930 + 5 * i + 1) (by omega), sa_e A (930 + 5 * i + 2) (by omega), sa_e A (930 + 5 * i + 3) (by omega), sa_e A (930 + 5 * i + 4) (by omega)]
    exact nW i i1 (by omega)
theorem CR_vi {σ σ' : vMem} {A : Int → Int} (hC : CR σ A) (hO : okA A) {p x y : Int} (hn : A 0 < 12) (f : ∀ k : Nat, k ≠ 2 ∧ k ≠ 3 ∧ k ≠ 4 ∧ k ≠ 5 ∧ k ≠ 6 ∧ k ≠ 7 → σ' k = σ k) (g0 : σ' 2 0 = σ 2 0) (g1 : σ' 2 1 = A 0 + 1) (h3 : σ' 3 = upF (σ 3) (A 0) p) (h4 : σ' 4 = upF (σ 4) (A 0) x) (h5 : σ' 5 = upF (σ 5) (A 0) y) (h6 : σ' 6 = upF (σ 6) (A 0) 100) (h7 : σ' 7 = upF (σ 7) (A 0) 100) : CR σ' (viA A p x y) := by
  obtain ⟨⟨q0, q1, q2, q3, q4, q5, q6, q7⟩, hVi, hWe, hCo, hOf, hBo, hWo, hMo, hRe, hLi, hTa⟩ := id hO
  obtain ⟨cL, cB, cW, cT, cN, cM⟩ := id hC
  refine ⟨?_, by rw [f 10 (by omega), f 11 (by omega), f 12 (by omega), f 13 (by omega), f 14 (by omega), f 15 (by omega), f 16 (by omega), f 17 (by omega), f 18 (by omega), f 19 (by omega)]; exact BookR_c (vi_e A _ (by omega)) (vi_e A _ (by omega)) (fun i _ _ => vi_e A i (by omega)) (fun i _ _ => vi_e A i (by omega)) ⟨q1.2, q2.2⟩ cB, by rw [f 20 (by omega), f 21 (by omega), f 22 (by omega), f 23 (by omega), f 24 (by omega), f 25 (by omega), f 26 (by omega), f 27 (by omega), f 28 (by omega), f 29 (by omega)]; exact LawsR_c (vi_e A _ (by omega)) (fun i _ _ => vi_e A i (by omega)) (fun i _ _ => vi_e A i (by omega)) q3.2 hRe hLi cW, by rw [f 30 (by omega), f 31 (by omega)]; exact TapeR_c (vi_e A _ (by omega)) (vi_e A _ (by omega)) (vi_e A _ (by omega)) (fun i _ _ => vi_e A i (by omega)) q7.2 cT, by rw [f 32 (by omega), f 33 (by omega), f 34 (by omega), f 35 (by omega), f 36 (by omega), f 37 (by omega)]; exact NewsR_c (vi_e A _ (by omega)) (fun i _ _ => vi_e A i (by omega)) q6.2 cN, by rw [f 38 (by omega), f 39 (by omega), f 40 (by omega)]; exact MovesR_c (vi_e A _ (by omega)) (fun i _ _ => vi_e A i (by omega)) q5.2 cM⟩
  obtain ⟨l0, l1, lV, lC, lZ, lS⟩ := cL
  rw [f 8 (by omega), f 9 (by omega)]
  have b0 : viA A p x y 0 = A 0 + 1 := if_pos rfl
  refine ⟨by rw [vi_e A _ (by omega), g0]; exact l0, by rw [b0]; exact g1, fun i i1 i2 => ?_, fun v t v1 v2 t1 t2 => ?_, fun v t v1 v2 t1 t2 => lZ v t (by rw [b0] at v1; omega) v2 t1 t2, fun t t1 t2 => by rw [vi_e A _ (by omega)]; exact lS t t1 t2⟩
  · rw [b0] at i2
    rw [h3, h4, h5, h6, h7]
    by_cases q : i = A 0
    · subst q
      have v0 : viA A p x y (40 + 6 * A 0 + 0) = p := by simp only [viA]; rw [if_neg (by omega), if_neg (by omega)]; first | rw [if_pos trivial] | rw [if_pos (by omega)]
      have v1 : viA A p x y (40 + 6 * A 0 + 1) = x := by simp only [viA]; rw [if_neg (by omega), if_neg (by omega), if_neg (by omega)]; first | rw [if_pos trivial] | rw [if_pos (by omega)]
      have v2 : viA A p x y (40 + 6 * A 0 + 2) = y := by simp only [viA]; rw [if_neg (by omega), if_neg (by omega), if_neg (by omega), if_neg (by omega)]; first | rw [if_pos trivial] | rw [if_pos (by omega)]
      have v3 : viA A p x y (40 + 6 * A 0 + 3) = 100 := by simp only [viA]; rw [if_neg (by omega), if_neg (by omega), if_neg (by omega), if_neg (by omega), if_neg (by omega)]; first | rw [if_pos trivial] | rw [if_pos (by omega)]
      have v4 : viA A p x y (40 + 6 * A 0 + 4) = 100 := by simp only [viA]; rw [if_neg (by omega), if_neg (by omega), if_neg (by omega), if_neg (by omega), if_neg (by omega), if_neg (by omega)]; first | rw [if_pos trivial] | rw [if_pos (by omega)]
      rw [upF_s, upF_s, upF_s, upF_s, upF_s, v0, v1, v2, v3, v4]
      exact ⟨rfl, rfl, rfl, rfl, rfl⟩
    · rw [upF_n q, upF_n q, upF_n q, upF_n q, upF_n q, vi_e A (40 + 6 * i + 0) (by omega), vi_e A (40 + 6 * i + 1) (by omega), vi_e A (40 + 6 * i + 2) (by omega), vi_e A (40 + 6 * i + 3) (by omega), vi_e A (40 + 6 * i + 4) (by omega)]
      exact lV i i1 (by omega)
  · rw [b0] at v2
    by_cases q : v = A 0
    · subst q
      have e9 : viA A p x y (120 + 20 * A 0 + t) = 0 := by simp only [viA]; rw [if_neg (by omega), if_pos (by omega)]
      rw [e9]
      exact lZ (A 0) t (by omega) (by omega) t1 t2
    · rw [vi_e A (120 + 20 * v + t) (by omega)]
      exact lC v t v1 (by omega) t1 t2
