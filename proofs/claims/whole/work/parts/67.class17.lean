/-! ===== the class's reader: a line and a reign ===== -/
theorem put4_C {C b : Int → Int} {a p i : Int} (h : i < a) : put4 C a b p i = C i := by
  rw [put4, upF_n (by omega), upF_n (by omega), upF_n (by omega), upF_n (by omega)]
theorem tsL_C {b : Int → Int} {l i : Int} (hi : i < 20 * l + 1) : ∀ (m : Nat) {p n : Int} {fp : FP} {C : Int → Int}, 0 ≤ n → (tsL b l m p n fp C).2.2.2.2 i = C i
  | 0, p, n, fp, C, _ => rfl
  | m + 1, p, n, fp, C, hn => by
    have e : teC b l p n C i = C i := by
      unfold teC
      split
      · exact put4_C (by omega)
      · rfl
    rw [tsL]
    split
    · split
      · rw [tsL_C hi m (by omega)]; exact e
      · exact e
    · rfl
theorem tsL_m {b : Int → Int} {l : Int} : ∀ (m : Nat) {p n : Int} {fp : FP} {C : Int → Int}, (tsL b l m p n fp C).2.2.2.1.1 = 0 → fp.1 = 0
  | 0, p, n, fp, C, h => h
  | m + 1, p, n, fp, C, h => by
    rw [tsL] at h
    split at h
    · split at h
      · exact (teP_0 (tsL_m m h)).2
      · exact (teP_0 h).2
    · exact (teP_0 h).2
theorem hdF_C {b : Int → Int} {p l i : Int} {fp : FP} {C : Int → Int} (hi : i < 20 * l + 1) : (hdF b p l fp C).2.2.2.2 i = C i := by
  have h : (tsR b p l fp C).2.2.2.2 i = C i := tsL_C hi 501 (by omega)
  unfold hdF
  split
  · split
    · split
      · exact h
      · exact h
    · exact h
  · rfl
theorem hdF_m {b : Int → Int} {p l : Int} {fp : FP} {C : Int → Int} (h : (hdF b p l fp C).2.2.2.1.1 = 0) : fp.1 = 0 ∧ l < 16 := by
  have h2 : (tsR b p l fp C).2.2.2.1.1 = 0 → (liP b p l fp).1 = 0 := fun z => tsL_m 501 z
  have h3 : (liP b p l fp).1 = 0 := by
    unfold hdF at h
    split at h
    · split at h
      · split at h
        · exact h2 h
        · exact h2 h
      · exact h2 h
    · exact h
  exact ⟨(liP_0 h3).2, (liP_0 h3).1⟩
theorem lnF_C {b : Int → Int} {p l i : Int} {fp : FP} {C : Int → Int} (hi : i < 20 * l) : (lnF b p l fp C).2.2.2 i = C i := by
  have h : (hdF b p l fp C).2.2.2.2 i = C i := hdF_C (by omega)
  unfold lnF
  split
  · split
    · dsimp only
      unfold dC
      split
      · rw [upF_n (by omega), upF_n (by omega), upF_n (by omega)]; exact h
      · exact h
    · exact h
  · exact h
theorem lnF_m {b : Int → Int} {p l : Int} {fp : FP} {C : Int → Int} (h : (lnF b p l fp C).2.2.1.1 = 0) : fp.1 = 0 ∧ l < 16 := by
  unfold lnF at h
  split at h
  · split at h
    · exact hdF_m (dFp_0 h).1
    · exact hdF_m h
  · exact hdF_m h
def LnR (σ : vMem) (x : Int) (C : Int → Int) (row : Int) : Prop := σ 23 x = C (row + 17) - 17 ∧ (C (row + 17) ≠ 25 → σ 24 x = C (row + 18)) ∧ σ 25 x = C row ∧ (0 ≤ C row ∧ C row ≤ 4) ∧ TR σ x C row (C row)
theorem LnR_keep {σ σ2 : vMem} {x y row : Int} {C D : Int → Int} (h : LnR σ x C row) (hA : AG σ σ2 y) (hx : x < y) (hC : ∀ i, row ≤ i → i < row + 20 → D i = C i) : LnR σ2 x D row := by
  obtain ⟨h1, h2, h3, h4, h5⟩ := h
  unfold LnR
  rw [hA.1 23 (by omega) x hx, hA.1 24 (by omega) x hx, hA.1 25 (by omega) x hx, hC (row + 17) (by omega) (by omega), hC (row + 18) (by omega) (by omega), hC row (by omega) (by omega)]
  refine ⟨h1, h2, h3, h4, fun t t1 t2 => ?_⟩
  have h9 := h5 t t1 t2
  rw [hA.2 26 (by omega) _ (by omega), hA.2 27 (by omega) _ (by omega), hA.2 28 (by omega) _ (by omega), hA.2 29 (by omega) _ (by omega), hC (row + 1 + 4 * t + 1) (by omega) (by omega), hC (row + 1 + 4 * t + 2) (by omega) (by omega), hC (row + 1 + 4 * t) (by omega) (by omega), hC (row + 1 + 4 * t + 3) (by omega) (by omega)]
  exact h9
theorem LnR_fin {σ : vMem} {x l n d : Int} {b D : Int → Int} (hl : l < 16) (hn : 0 ≤ n ∧ n ≤ 4) (h25 : σ 25 x = n) (hT : TR σ x D (20 * l) n) (h23 : σ 23 x = tkF b d) (h24 : tkF b d ≠ 8 → σ 24 x = dNm b d) : LnR σ x (dC b d l n D) (20 * l) := by
  have e17 : dC b d l n D (20 * l + 17) = tkF b d + 17 := by rw [dC, if_pos hl, upF_n (by omega), upF_s]
  have e18 : dC b d l n D (20 * l + 18) = dNm b d := by rw [dC, if_pos hl, upF_s]
  have e0 : dC b d l n D (20 * l) = n := by rw [dC, if_pos hl, upF_n (by omega), upF_n (by omega), Int.add_zero, upF_s]
  have ei : ∀ i, 20 * l < i → i < 20 * l + 17 → dC b d l n D i = D i := fun i i1 i2 => by rw [dC, if_pos hl, upF_n (by omega), upF_n (by omega), upF_n (by omega)]
  unfold LnR
  rw [e17, e18, e0]
  refine ⟨by omega, fun z => h24 (by omega), h25, hn, fun t t1 t2 => ?_⟩
  rw [ei _ (by omega) (by omega), ei _ (by omega) (by omega), ei _ (by omega) (by omega), ei _ (by omega) (by omega)]
  exact hT t t1 t2

theorem c_Re_readLine_66 {T : vSh} {σ σ1 : vMem} {cx : vCx} {L p l x : Int} {b C : Int → Int} {fp : FP} (hR : RK σ b L) (hp : 0 ≤ p ∧ p ≤ 500) (hl : 0 ≤ l ∧ l ≤ 500) (hx : 0 ≤ x ∧ x ≤ 600 ∧ (l < 16 → x < 64)) (hM : vM cx 0 0 (some .boolean) (rP (S0 ++ T) (fun z σ2 => z = b01 ((lnF b p l fp C).1 = 1) ∧ RkP b (lnF b p l fp C).2.1 (σ2 45) ∧ σ2 45 6 = l + 1 ∧ FK σ σ2 ∧ AG σ σ2 x ∧ ((lnF b p l fp C).1 = 1 → FPt σ2 (lnF b p l fp C).2.2.1 ∧ ((lnF b p l fp C).2.2.1.1 = 0 → l < 16 ∧ LnR σ2 x (lnF b p l fp C).2.2.2 (20 * l)))))) {kp : Int} (hkp : kp = b01 (l < 16)) (hF : FK σ σ1) (hG : AG σ σ1 x) (h6 : σ1 45 6 = l + 1) {d n : Int} {gp : FP} {D : Int → Int} (hd : 0 ≤ d ∧ d ≤ 500) (hH : hdF b p l fp C = (1, d, n, gp, D)) (hQ : RkP b d (σ1 45)) (hf : FPt σ1 gp) (hc : gp.1 = 0 → l < 16 ∧ 0 ≤ n ∧ n ≤ 4 ∧ σ1 25 x = n ∧ TR σ1 x D (20 * l) n) : vV cx y_Re_readLine.cls prog_9_method_4_code 3 8 0 0 0 0 66 [some (.ref 45), some (.int (iI x)), some (.int (iI kp))] [] (S0 ++ T) σ1 := by
  have hkl : kp = 0 ∨ kp = 1 := by rw [hkp]; exact b01_or
  have hk16 : kp = 1 → l < 16 := fun y => by_contra9 (fun z => by have := hkp.trans (b01_0 z).symm; omega)
  have hk17 : kp = 0 → ¬ l < 16 := fun y z => by have := hkp.trans (b01_1 z).symm; omega
  have hxx : 0 ≤ x ∧ x < 64 ∨ kp = 0 := by
    rcases hkl with h | h
    · exact Or.inr h
    · exact Or.inl ⟨hx.1, hx.2.2 (hk16 h)⟩
  have hnx := nxF_rng hR.2.1 hd
  have hn2 := nxF_rng hR.2.1 (p := nxF b d) (by omega)
  have hdf : 0 ≤ dF b d ∧ dF b d ≤ 500 := by unfold dF; split <;> omega
  refine v_aload0 d_Re_readLine_66 ?_
  refine v_iload1 d_Re_readLine_67 ?_
  refine v_iload2 d_Re_readLine_68 ?_
  refine v_gVZ2 d_Re_readLine_69 l_Re_73 k_Re_readDeed (c_Re_readDeed (hF.rk hR) hd hxx hkl hQ hf) (sh_45 T) rfl (by decide) (by decide) (Nat.le_of_ble_eq_true rfl) (Nat.zero_le _) (Nat.zero_le _) (fun z69 s69 g69 e69 => ?_)
  refine v_if_eq d_Re_readLine_72 (by omega) (fun u72 => ?_) (fun u72 => ?_)
  · refine v_iconst d_Re_readLine_88 ?_
    have hn9 : ¬ dHas b d := fun y => by have := e69.1.trans (b01_1 y).symm; omega
    exact v_zreturn hM d_Re_readLine_89 (Or.inl rfl) ⟨rfl, by rw [lnF_0 hH (fun y => hn9 y.1)]; exact b01_0 z1n, by rw [lnF_0 hH (fun y => hn9 y.1)]; exact e69.2.2.1 hn9, by rw [e69.2.2.2.1]; exact h6, hF.trans' e69.2.2.2.2.1, hG.trans' e69.2.2.2.2.2.1, fun y => by rw [lnF_0 hH (fun y => hn9 y.1)] at y; exact absurd y z1n⟩
  · have hh9 : dHas b d := by_contra9 (fun y => by have := e69.1.trans (b01_0 y).symm; omega)
    refine v_aload0 d_Re_readLine_75 ?_
    refine v_bipush d_Re_readLine_76 rfl ?_
    refine v_gVZ1 d_Re_readLine_78 l_Re_76 k_Re_pass (c_Re_pass ((hF.trans' e69.2.2.2.2.1).rk hR) hdf (e69.2.1 hh9) (by omega)) (sh_45 T) rfl (by decide) (by decide) (Nat.le_of_ble_eq_true rfl) (Nat.zero_le _) (Nat.zero_le _) (fun z78 s78 g78 e78 => ?_)
    refine v_if_eq d_Re_readLine_81 (by omega) (fun u81 => ?_) (fun u81 => ?_)
    · refine v_iconst d_Re_readLine_88 ?_
      have hn8 : ¬ tkF b (dF b d) = 59 := fun y => by have := e78.1.trans (b01_1 y).symm; omega
      exact v_zreturn hM d_Re_readLine_89 (Or.inl rfl) ⟨rfl, by rw [lnF_0 hH (fun y => hn8 y.2)]; exact b01_0 z1n, by rw [lnF_0 hH (fun y => hn8 y.2)]; exact (by rw [dEn, if_neg (fun z => z hh9.1), if_neg (fun z => z hh9.2), if_neg hn8]; have h9 := e78.2.2; rw [if_neg hn8] at h9; exact h9), by rw [e78.2.1.2 6 (by omega), e69.2.2.2.1]; exact h6, (hF.trans' e69.2.2.2.2.1).trans' e78.2.1.fk, (hG.trans' e69.2.2.2.2.2.1).trans' e78.2.1.ag, fun y => by rw [lnF_0 hH (fun y => hn8 y.2)] at y; exact absurd y z1n⟩
    · refine v_iconst d_Re_readLine_84 ?_
      refine v_goto d_Re_readLine_85 ?_
      have hy8 : tkF b (dF b d) = 59 := by_contra9 (fun y => by have := e78.1.trans (b01_0 y).symm; omega)
      have hln := lnF_1 hH ⟨hh9, hy8⟩
      have h9 := e78.2.2
      rw [if_pos hy8] at h9
      exact v_zreturn hM d_Re_readLine_89 (Or.inr rfl) ⟨rfl, by rw [hln]; exact b01_1 rfl, by rw [hln]; dsimp only; rw [dEn, if_neg (fun z => z hh9.1), if_neg (fun z => z hh9.2), if_pos hy8]; exact h9, by rw [e78.2.1.2 6 (by omega), e69.2.2.2.1]; exact h6, (hF.trans' e69.2.2.2.2.1).trans' e78.2.1.fk, (hG.trans' e69.2.2.2.2.2.1).trans' e78.2.1.ag, fun _ => by
        rw [hln]
        refine ⟨FPt.of45 (e69.2.2.2.2.2.2.2.1 hh9) e78.2.1, fun z => ?_⟩
        have hc9 := hc (dFp_0 z).1
        have hw9 := e69.2.2.2.2.2.2.2.2 hh9 (by rw [hkp]; exact (b01_1 hc9.1).symm)
        refine ⟨hc9.1, LnR_fin hc9.1 ⟨hc9.2.1, hc9.2.2.1⟩ ?_ (TR_off (fun k hk => by rw [e78.2.1.1 k (by omega), e69.2.2.2.2.2.2.1 k (by omega)]) hc9.2.2.2.2) ?_ ?_⟩
        · rw [e78.2.1.1 25 (by decide), e69.2.2.2.2.2.2.1 25 (by omega)]; exact hc9.2.2.2.1
        · rw [e78.2.1.1 23 (by decide)]; exact hw9.1
        · rw [e78.2.1.1 24 (by decide)]; exact hw9.2⟩

theorem c_Re_readLine_48 {T : vSh} {σ σ1 : vMem} {cx : vCx} {L p l x : Int} {b C : Int → Int} {fp : FP} (hR : RK σ b L) (hp : 0 ≤ p ∧ p ≤ 500) (hl : 0 ≤ l ∧ l ≤ 500) (hx : 0 ≤ x ∧ x ≤ 600 ∧ (l < 16 → x < 64)) (hM : vM cx 0 0 (some .boolean) (rP (S0 ++ T) (fun z σ2 => z = b01 ((lnF b p l fp C).1 = 1) ∧ RkP b (lnF b p l fp C).2.1 (σ2 45) ∧ σ2 45 6 = l + 1 ∧ FK σ σ2 ∧ AG σ σ2 x ∧ ((lnF b p l fp C).1 = 1 → FPt σ2 (lnF b p l fp C).2.2.1 ∧ ((lnF b p l fp C).2.2.1.1 = 0 → l < 16 ∧ LnR σ2 x (lnF b p l fp C).2.2.2 (20 * l)))))) {kp : Int} (hkp : kp = b01 (l < 16)) (hF : FK σ σ1) (hG : AG σ σ1 x) (h6 : σ1 45 6 = l + 1) (hK : RkP b p (σ1 45)) (hf : FPt σ1 (liP b p l fp)) (h25 : kp = 1 → σ1 25 x = 0) : vV cx y_Re_readLine.cls prog_9_method_4_code 3 8 0 0 0 0 48 [some (.ref 45), some (.int (iI x)), some (.int (iI kp))] [] (S0 ++ T) σ1 := by
  have hkl : kp = 0 ∨ kp = 1 := by rw [hkp]; exact b01_or
  have hk16 : kp = 1 → l < 16 := fun y => by_contra9 (fun z => by have := hkp.trans (b01_0 z).symm; omega)
  have hk17 : kp = 0 → ¬ l < 16 := fun y z => by have := hkp.trans (b01_1 z).symm; omega
  have hnx := nxF_rng hR.2.1 hp
  have htk := tkF_rng b p
  refine v_aload0 d_Re_readLine_48 ?_
  refine v_getJ (ji := 3) d_Re_readLine_49 f_Re_34 (sh_45 T) rfl rfl (fun g49 => ?_)
  rw [hK.2.1] at g49 ⊢
  refine v_if_ne d_Re_readLine_52 (by omega) (fun u52 => ?_) (fun u52 => ?_)
  · exact c_Re_readLine_66 hR hp hl hx hM hkp hF hG h6 hp (hdF_no (by omega)) hK hf (fun z => ⟨(liP_0 z).1, by omega, by omega, h25 (by rw [hkp]; exact (b01_1 (liP_0 z).1).symm), fun t t1 t2 => by omega⟩)
  · refine v_aload0 d_Re_readLine_55 ?_
    refine v_iload1 d_Re_readLine_56 ?_
    refine v_iload2 d_Re_readLine_57 ?_
    refine v_gVZ2 d_Re_readLine_58 l_Re_69 k_Re_readTests (c_Re_readTests (C := C) (hF.rk hR) hp hl hx hkp hK hf (fun z => (liP_0 z).1)) (sh_45 T) rfl (by decide) (by decide) (Nat.le_of_ble_eq_true rfl) (Nat.zero_le _) (Nat.zero_le _) (fun z58 s58 g58 e58 => ?_)
    refine v_if_ne d_Re_readLine_61 (by omega) (fun u61 => ?_) (fun u61 => ?_)
    · have h09 : tkF b p = 0 := by omega
      have ok9 : (tsL b l 501 (nxF b p) 0 (liP b p l fp) C).1 = 1 ∧ tkF b (tsL b l 501 (nxF b p) 0 (liP b p l fp) C).2.1 = 58 := by_contra9 (fun y => by have := e58.1.trans (b01_0 y).symm; omega)
      have hQ9 := e58.2.1
      rw [if_pos ok9] at hQ9
      have hc9 := e58.2.2.2.2.2.2.2 ok9.1
      have hrg := tsL_rng hR.2.1 l 501 (p := nxF b p) (n := 0) (fp := liP b p l fp) (C := C) (by omega) (by omega)
      have hn9 := nxF_rng hR.2.1 (p := (tsL b l 501 (nxF b p) 0 (liP b p l fp) C).2.1) (by omega)
      exact c_Re_readLine_66 hR hp hl hx hM hkp (hF.trans' e58.2.2.2.1) (hG.trans' e58.2.2.2.2.1) (by rw [e58.2.2.1]; exact h6) (by omega) (hdF_1 (n := (tsL b l 501 (nxF b p) 0 (liP b p l fp) C).2.2.1) (gp := (tsL b l 501 (nxF b p) 0 (liP b p l fp) C).2.2.2.1) (D := (tsL b l 501 (nxF b p) 0 (liP b p l fp) C).2.2.2.2) h09 (show tsR b p l fp C = _ by rw [show (1 : Int) = (tsL b l 501 (nxF b p) 0 (liP b p l fp) C).1 from ok9.1.symm]; rfl) ok9.2) hQ9 hc9.1 (fun z => ⟨(hc9.2 z).1, hrg.2.2.1, (hc9.2 z).2.1, (hc9.2 z).2.2.1, (hc9.2 z).2.2.2⟩)
    · refine v_iconst d_Re_readLine_64 ?_
      have h09 : tkF b p = 0 := by omega
      have no9 : ¬ ((tsL b l 501 (nxF b p) 0 (liP b p l fp) C).1 = 1 ∧ tkF b (tsL b l 501 (nxF b p) 0 (liP b p l fp) C).2.1 = 58) := fun y => by have := e58.1.trans (b01_1 y).symm; omega
      have hQ9 := e58.2.1
      rw [if_neg no9] at hQ9
      have hH : hdF b p l fp C = (0, (tsL b l 501 (nxF b p) 0 (liP b p l fp) C).2) := by
        by_cases c9 : (tsL b l 501 (nxF b p) 0 (liP b p l fp) C).1 = 1
        · exact hdF_2 h09 (show tsR b p l fp C = _ by rw [show (1 : Int) = (tsL b l 501 (nxF b p) 0 (liP b p l fp) C).1 from c9.symm]; rfl) (fun y => no9 ⟨c9, y⟩)
        · unfold hdF tsR; rw [if_pos h09, if_neg c9]
      have hln := lnF_h (d := (tsL b l 501 (nxF b p) 0 (liP b p l fp) C).2.1) (n := (tsL b l 501 (nxF b p) 0 (liP b p l fp) C).2.2.1) (gp := (tsL b l 501 (nxF b p) 0 (liP b p l fp) C).2.2.2.1) (D := (tsL b l 501 (nxF b p) 0 (liP b p l fp) C).2.2.2.2) hH
      exact v_zreturn hM d_Re_readLine_65 (Or.inl rfl) ⟨rfl, by rw [hln]; exact b01_0 z1n, by rw [hln]; exact hQ9, by rw [e58.2.2.1]; exact h6, hF.trans' e58.2.2.2.1, hG.trans' e58.2.2.2.2.1, fun y => by rw [hln] at y; exact absurd y z1n⟩

theorem RkP.ln {b : Int → Int} {p : Int} {σ : vMem} (h : RkP b p (σ 45)) {v : Int} : RkP b p (vUp σ 45 6 v 45) := by
  obtain ⟨a, c, d, e⟩ := h
  exact ⟨by rw [vUp_ix (by decide)]; exact a, by rw [vUp_ix (by decide)]; exact c, by rw [vUp_ix (by decide)]; exact d, fun z => by rw [vUp_ix (by decide)]; exact e z⟩
theorem c_Re_readLine_24 {T : vSh} {σ σ1 : vMem} {cx : vCx} {L p l x : Int} {b C : Int → Int} {fp : FP} (hR : RK σ b L) (hp : 0 ≤ p ∧ p ≤ 500) (hl : 0 ≤ l ∧ l ≤ 500) (hx : 0 ≤ x ∧ x ≤ 600 ∧ (l < 16 → x < 64)) (hM : vM cx 0 0 (some .boolean) (rP (S0 ++ T) (fun z σ2 => z = b01 ((lnF b p l fp C).1 = 1) ∧ RkP b (lnF b p l fp C).2.1 (σ2 45) ∧ σ2 45 6 = l + 1 ∧ FK σ σ2 ∧ AG σ σ2 x ∧ ((lnF b p l fp C).1 = 1 → FPt σ2 (lnF b p l fp C).2.2.1 ∧ ((lnF b p l fp C).2.2.1.1 = 0 → l < 16 ∧ LnR σ2 x (lnF b p l fp C).2.2.2 (20 * l)))))) {kp : Int} (hkp : kp = b01 (l < 16)) (hF : FK σ σ1) (hG : AG σ σ1 x) (h6 : σ1 45 6 = l) (hK : RkP b p (σ1 45)) (hf : FPt σ1 (liP b p l fp)) : vV cx y_Re_readLine.cls prog_9_method_4_code 3 8 0 0 0 0 24 [some (.ref 45), some (.int (iI x)), some (.int (iI kp))] [] (S0 ++ T) σ1 := by
  have hkl : kp = 0 ∨ kp = 1 := by rw [hkp]; exact b01_or
  have hk16 : kp = 1 → l < 16 := fun y => by_contra9 (fun z => by have := hkp.trans (b01_0 z).symm; omega)
  have hk17 : kp = 0 → ¬ l < 16 := fun y z => by have := hkp.trans (b01_1 z).symm; omega
  refine v_aload0 d_Re_readLine_24 ?_
  refine v_dup d_Re_readLine_25 rfl ?_
  refine v_getJ (ji := 6) d_Re_readLine_26 f_Re_28 (sh_45 T) rfl rfl (fun g26 => ?_)
  rw [h6] at g26 ⊢
  refine v_iconst d_Re_readLine_29 ?_
  refine v_iadd d_Re_readLine_30 ?_
  refine v_putJ (ji := 6) d_Re_readLine_31 p_Re_28 (sh_45 T) rfl rfl (by omega) ?_
  refine v_iload2 d_Re_readLine_34 ?_
  refine v_if_eq d_Re_readLine_35 (by omega) (fun u35 => ?_) (fun u35 => ?_)
  · exact c_Re_readLine_48 hR hp hl hx hM hkp (hF.trans' ⟨fun k hk => vUp_ne (by omega), by rw [vUp_ne (by decide)]⟩) (hG.trans' (AG.of (fun k hk => vUp_ne (by omega)))) (by rw [vUp_same]) hK.ln (FPt.of hf (vUp_ne (by decide))) (fun y => by omega)
  · have hx9 := hx.2.2 (hk16 (by omega))
    refine v_aload0 d_Re_readLine_38 ?_
    refine v_getR d_Re_readLine_39 f_Re_15 (sh_45 T) rfl ?_
    refine v_getR d_Re_readLine_42 f_Re_66 (sh_20 T) rfl ?_
    refine v_iload1 d_Re_readLine_45 ?_
    refine v_iconst d_Re_readLine_46 ?_
    refine v_iastore d_Re_readLine_47 (sh_25 T) (by omega) (by omega) ?_
    exact c_Re_readLine_48 hR hp hl hx hM hkp (hF.trans' ⟨fun k hk => by rw [vUp_ne (by omega), vUp_ne (by omega)], by rw [vUp_ne (by decide), vUp_ne (by decide)]⟩) ((hG.trans' (AG.of (fun k hk => vUp_ne (by omega)))).trans' (AG.up (by omega))) (by rw [vUp_ne (by decide), vUp_same]) (by rw [vUp_ne (by decide)]; exact hK.ln) (FPt.of hf (by rw [vUp_ne (by decide), vUp_ne (by decide)])) (fun y => by rw [vUp_same])

theorem c_Re_readLine {T : vSh} {σ : vMem} {L p l x : Int} {b C : Int → Int} {fp : FP} (hR : RK σ b L) (hp : 0 ≤ p ∧ p ≤ 500) (hl : 0 ≤ l ∧ l ≤ 500) (hx : 0 ≤ x ∧ x ≤ 600 ∧ (l < 16 → x < 64)) (h6 : σ 45 6 = l) (hK : RkP b p (σ 45)) (hf : FPt σ fp) : mt_Re_readLine [.ref 45, .int (iI x)] (S0 ++ T) σ (rP (S0 ++ T) (fun z σ2 => z = b01 ((lnF b p l fp C).1 = 1) ∧ RkP b (lnF b p l fp C).2.1 (σ2 45) ∧ σ2 45 6 = l + 1 ∧ FK σ σ2 ∧ AG σ σ2 x ∧ ((lnF b p l fp C).1 = 1 → FPt σ2 (lnF b p l fp C).2.2.1 ∧ ((lnF b p l fp C).2.2.1.1 = 0 → l < 16 ∧ LnR σ2 x (lnF b p l fp C).2.2.2 (20 * l))))) := by
  refine vMet.intro 1 (by decide +kernel) (Nat.le_of_ble_eq_true rfl) rfl (fun cx hM _ => ?_)
  refine v_aload0 d_Re_readLine_0 ?_
  refine v_getJ (ji := 6) d_Re_readLine_1 f_Re_28 (sh_45 T) rfl rfl (fun g1 => ?_)
  rw [h6] at g1 ⊢
  refine v_bipush d_Re_readLine_4 rfl ?_
  refine v_icmp_ge d_Re_readLine_6 (by omega) (by omega) (fun u6 => ?_) (fun u6 => ?_)
  · refine v_iconst d_Re_readLine_13 ?_
    refine v_istore2 d_Re_readLine_14 (by decide) rfl ?_
    refine v_iload2 d_Re_readLine_15 ?_
    refine v_if_ne d_Re_readLine_16 (by omega) (fun u16 => ?_) (fun u16 => ?_)
    · omega
    · refine v_aload0 d_Re_readLine_19 ?_
      refine v_iconst d_Re_readLine_20 ?_
      refine v_gVV1 d_Re_readLine_21 l_Re_46 k_Re_remark (c_Re_remark (by omega) hf) (sh_45 T) rfl (by decide) (by decide) (Nat.le_of_ble_eq_true rfl) (Nat.zero_le _) (Nat.zero_le _) (fun z21 s21 e21 => ?_)
      exact c_Re_readLine_24 hR hp hl hx hM (b01_0 (by omega)) ⟨fun k hk => e21.1 k (by omega), e21.2.1⟩ (AG.of (fun k hk => e21.1 k (by omega))) (by rw [e21.1 45 (by decide)]; exact h6) (by rw [e21.1 45 (by decide)]; exact hK) (by rw [liP, if_pos (by omega), ← hK.2.2.1]; exact e21.2.2)
  · refine v_iconst d_Re_readLine_9 ?_
    refine v_goto d_Re_readLine_10 ?_
    refine v_istore2 d_Re_readLine_14 (by decide) rfl ?_
    refine v_iload2 d_Re_readLine_15 ?_
    refine v_if_ne d_Re_readLine_16 (by omega) (fun u16 => ?_) (fun u16 => ?_)
    · exact c_Re_readLine_24 hR hp hl hx hM (b01_1 (by omega)) FK.rfl' AG.rfl' h6 hK (by rw [liP, if_neg (by omega)]; exact hf)
    · omega

