/-! ===== what a reign's reading leaves is sound ===== -/
def okT (C : Int → Int) (row t : Int) : Prop := (C (row + 1 + 4 * t) = 0 ∨ C (row + 1 + 4 * t) = 1) ∧ (1 ≤ C (row + 1 + 4 * t + 1) ∧ C (row + 1 + 4 * t + 1) ≤ 6) ∧ (60 ≤ C (row + 1 + 4 * t + 2) ∧ C (row + 1 + 4 * t + 2) ≤ 62) ∧ (0 ≤ C (row + 1 + 4 * t + 3) ∧ C (row + 1 + 4 * t + 3) ≤ 9999) ∧ (C (row + 1 + 4 * t + 1) = 1 → C (row + 1 + 4 * t + 2) = 61 ∧ C (row + 1 + 4 * t + 3) = 1)
theorem okT_c {C D : Int → Int} {row t : Int} (h : okT C row t) (e : ∀ i, row + 1 + 4 * t ≤ i → i < row + 1 + 4 * t + 4 → D i = C i) : okT D row t := by
  unfold okT
  rw [e (row + 1 + 4 * t) (by omega) (by omega), e (row + 1 + 4 * t + 1) (by omega) (by omega), e (row + 1 + 4 * t + 2) (by omega) (by omega), e (row + 1 + 4 * t + 3) (by omega) (by omega)]
  exact h
theorem put4_ok {C b : Int → Int} {row n q : Int} (hok : tOk b q) : okT (put4 C (row + 1 + 4 * n) b q) row n := by
  have v0 : put4 C (row + 1 + 4 * n) b q (row + 1 + 4 * n) = tNg b q := by rw [put4, upF_n (by omega), upF_n (by omega), upF_n (by omega), upF_s]
  have v1 : put4 C (row + 1 + 4 * n) b q (row + 1 + 4 * n + 1) = tSb b q := by rw [put4, upF_n (by omega), upF_n (by omega), upF_s]
  have v2 : put4 C (row + 1 + 4 * n) b q (row + 1 + 4 * n + 2) = tSg b q := by rw [put4, upF_n (by omega), upF_s]
  have v3 : put4 C (row + 1 + 4 * n) b q (row + 1 + 4 * n + 3) = tLm b q := by rw [put4, upF_s]
  unfold okT
  rw [v0, v1, v2, v3]
  have h1 := nmF_rng b (tsF b q)
  have h2 : tNg b q = 0 ∨ tNg b q = 1 := by unfold tNg; split <;> omega
  have h3 : tSb b q = tkF b (tqF b q) - 8 := rfl
  by_cases c : tkF b (tqF b q) = 9
  · rw [tSg, if_pos c, tLm, if_pos c]
    omega
  · rw [tSg, if_neg c, tLm, if_neg c]
    omega
theorem tsL_ok {b : Int → Int} {l : Int} : ∀ (m : Nat) {p n : Int} {fp : FP} {C : Int → Int}, 0 ≤ n → (fp.1 = 0 → l < 16 ∧ n ≤ 4 ∧ ∀ t, 0 ≤ t → t < n → okT C (20 * l) t) → (tsL b l m p n fp C).1 = 1 → (tsL b l m p n fp C).2.2.2.1.1 = 0 → l < 16 ∧ (0 ≤ (tsL b l m p n fp C).2.2.1 ∧ (tsL b l m p n fp C).2.2.1 ≤ 4) ∧ ∀ t, 0 ≤ t → t < (tsL b l m p n fp C).2.2.1 → okT (tsL b l m p n fp C).2.2.2.2 (20 * l) t
  | 0, p, n, fp, C, hn, hI, h1, h2 => absurd h1 z1n
  | m + 1, p, n, fp, C, hn, hI, h1, h2 => by
    have step : tOk b p → (teP b p n fp).1 = 0 → l < 16 ∧ n + 1 ≤ 4 ∧ ∀ t, 0 ≤ t → t < n + 1 → okT (teC b l p n C) (20 * l) t := fun ok z => by
      have h0 := teP_0 z
      have h9 := hI h0.2
      refine ⟨h9.1, by omega, fun t t1 t2 => ?_⟩
      rw [teC, if_pos ⟨h9.1, h0.1⟩]
      by_cases e : t = n
      · rw [e]; exact put4_ok ok
      · refine okT_c (h9.2.2 t t1 (by omega)) (fun i i1 i2 => put4_C (by omega))
    rw [tsL] at h1 h2 ⊢
    by_cases ok : tOk b p
    · rw [if_pos ok] at h1 h2 ⊢
      by_cases c : tkF b (tEn b p) = 1
      · rw [if_pos c] at h1 h2 ⊢
        exact tsL_ok m (by omega) (step ok) h1 h2
      · rw [if_neg c] at h2 ⊢
        have h9 := step ok h2
        exact ⟨h9.1, ⟨show 0 ≤ n + 1 by omega, h9.2.1⟩, h9.2.2⟩
    · rw [if_neg ok] at h1
      exact absurd h1 z1n
theorem hdF_ok {b : Int → Int} {p l : Int} {fp : FP} {C : Int → Int} (h1 : (hdF b p l fp C).1 = 1) (h2 : (hdF b p l fp C).2.2.2.1.1 = 0) : l < 16 ∧ (0 ≤ (hdF b p l fp C).2.2.1 ∧ (hdF b p l fp C).2.2.1 ≤ 4) ∧ ∀ t, 0 ≤ t → t < (hdF b p l fp C).2.2.1 → okT (hdF b p l fp C).2.2.2.2 (20 * l) t := by
  have hm := hdF_m h2
  by_cases c : tkF b p = 0
  · have hT := tsL_ok (b := b) (l := l) 501 (p := nxF b p) (n := 0) (fp := liP b p l fp) (C := C) (by omega) (fun z => ⟨(liP_0 z).1, by omega, fun t t1 t2 => by omega⟩)
    unfold hdF tsR at h1 h2 ⊢
    rw [if_pos c] at h1 h2 ⊢
    by_cases c1 : (tsL b l 501 (nxF b p) 0 (liP b p l fp) C).1 = 1
    · rw [if_pos c1] at h1 h2 ⊢
      by_cases c2 : tkF b (tsL b l 501 (nxF b p) 0 (liP b p l fp) C).2.1 = 58
      · rw [if_pos c2] at h1 h2 ⊢
        exact hT c1 h2
      · rw [if_neg c2] at h1
        exact absurd h1 z1n
    · rw [if_neg c1] at h1
      exact absurd h1 z1n
  · rw [hdF_no c]
    exact ⟨hm.2, ⟨by dsimp only; omega, by dsimp only; omega⟩, fun t t1 t2 => absurd t2 (by dsimp only; omega)⟩
theorem okLn_d {C D : Int → Int} {row row' : Int} (h : okLn C row) (e : ∀ j, 0 ≤ j → j < 20 → D (row' + j) = C (row + j)) : okLn D row' := by
  have e0 := e 0 (by omega) (by omega)
  rw [Int.add_zero, Int.add_zero] at e0
  unfold okLn at h ⊢
  obtain ⟨a1, a2, a3⟩ := h
  rw [e0, e 17 (by omega) (by omega), e 18 (by omega) (by omega)]
  refine ⟨a1, fun t t1 t2 => ?_, a3⟩
  have h9 := a2 t t1 t2
  rw [show row' + 1 + 4 * t = row' + (1 + 4 * t) by omega, e (1 + 4 * t) (by omega) (by omega), show row' + (1 + 4 * t) + 1 = row' + (1 + 4 * t + 1) by omega, e (1 + 4 * t + 1) (by omega) (by omega), show row' + (1 + 4 * t) + 2 = row' + (1 + 4 * t + 2) by omega, e (1 + 4 * t + 2) (by omega) (by omega), show row' + (1 + 4 * t) + 3 = row' + (1 + 4 * t + 3) by omega, e (1 + 4 * t + 3) (by omega) (by omega)]
  rw [show row + 1 + 4 * t = row + (1 + 4 * t) by omega, show row + (1 + 4 * t) + 1 = row + (1 + 4 * t + 1) by omega, show row + (1 + 4 * t) + 2 = row + (1 + 4 * t + 2) by omega, show row + (1 + 4 * t) + 3 = row + (1 + 4 * t + 3) by omega] at h9
  exact h9
theorem lnF_ok {b : Int → Int} {p l : Int} {fp : FP} {C : Int → Int} (h1 : (lnF b p l fp C).1 = 1) (h2 : (lnF b p l fp C).2.2.1.1 = 0) : l < 16 ∧ okLn (lnF b p l fp C).2.2.2 (20 * l) := by
  unfold lnF at h1 h2 ⊢
  by_cases c1 : (hdF b p l fp C).1 = 1
  · rw [if_pos c1] at h1 h2 ⊢
    by_cases c2 : dOk b (hdF b p l fp C).2.1
    · rw [if_pos c2] at h2 ⊢
      have h3 := dFp_0 h2
      have hH := hdF_ok c1 h3.1
      generalize (hdF b p l fp C).2.1 = d at *
      generalize (hdF b p l fp C).2.2.1 = n at *
      generalize (hdF b p l fp C).2.2.2.2 = D at *
      have e17 : dC b d l n D (20 * l + 17) = tkF b d + 17 := by rw [dC, if_pos hH.1, upF_n (by omega), upF_s]
      have e18 : dC b d l n D (20 * l + 18) = dNm b d := by rw [dC, if_pos hH.1, upF_s]
      have e0 : dC b d l n D (20 * l) = n := by rw [dC, if_pos hH.1, upF_n (by omega), upF_n (by omega), Int.add_zero, upF_s]
      have ei : ∀ i, 20 * l < i → i < 20 * l + 17 → dC b d l n D i = D i := fun i i1 i2 => by rw [dC, if_pos hH.1, upF_n (by omega), upF_n (by omega), upF_n (by omega)]
      refine ⟨hH.1, ?_⟩
      show okLn (dC b d l n D) (20 * l)
      have hnm := nmF_rng b (nxF b d)
      have hdn : dNm b d = if tkF b d = 8 then 0 else nmF b (nxF b d) := rfl
      have htd := c2.1.1
      unfold okLn
      rw [e17, e18, e0]
      refine ⟨hH.2.1, fun t t1 t2 => okT_c (hH.2.2 t t1 t2) (fun i i1 i2 => ei i (by omega) (by omega)), by omega, ?_⟩
      by_cases c8 : tkF b d = 8
      · rw [hdn, if_pos c8]; omega
      · rw [hdn, if_neg c8]
        obtain ⟨f1, f2, f3⟩ := h3.2 c8
        refine ⟨hnm, fun z => f1 (by omega), fun z => f2 (by omega), fun z => f3 (by omega)⟩
    · rw [if_neg c2] at h1
      exact absurd h1 z1n
  · rw [if_neg c1] at h1
    exact absurd h1 z1n
theorem rgF_ok {b : Int → Int} : ∀ (m : Nat) {p l : Int} {fp : FP} {C : Int → Int}, 0 ≤ l → (fp.1 = 0 → l ≤ 16 ∧ ∀ k, 0 ≤ k → k < l → okLn C (20 * k)) → (rgF b m p l fp C).1 = 1 → (rgF b m p l fp C).2.2.2.1.1 = 0 → (0 ≤ (rgF b m p l fp C).2.2.1 ∧ (rgF b m p l fp C).2.2.1 ≤ 16) ∧ ∀ k, 0 ≤ k → k < (rgF b m p l fp C).2.2.1 → okLn (rgF b m p l fp C).2.2.2.2 (20 * k)
  | 0, p, l, fp, C, hl, hI, h1, h2 => absurd h1 z1n
  | m + 1, p, l, fp, C, hl, hI, h1, h2 => by
    rw [rgF] at h1 h2 ⊢
    by_cases c : tkF b p = 100
    · rw [if_pos c] at h2 ⊢
      exact ⟨⟨hl, (hI h2).1⟩, (hI h2).2⟩
    · rw [if_neg c] at h1 h2 ⊢
      by_cases c1 : (lnF b p l fp C).1 = 1
      · rw [if_pos c1] at h1 h2 ⊢
        refine rgF_ok m (by omega) (fun z => ?_) h1 h2
        have h8 := lnF_ok c1 z
        have h9 := hI (lnF_m z).1
        refine ⟨by omega, fun k k1 k2 => ?_⟩
        by_cases e : k = l
        · rw [e]; exact h8.2
        · exact okLn_d (h9.2 k k1 (by omega)) (fun j j1 j2 => lnF_C (by omega))
      · rw [if_neg c1] at h1
        exact absurd h1 z1n
