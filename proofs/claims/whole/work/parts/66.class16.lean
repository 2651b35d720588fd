/-! ===== the class's reader: a line ===== -/
theorem z3n : ¬ (3 : Int) = 0 := by decide
theorem z2n : ¬ (2 : Int) = 0 := by decide
theorem AG.up {σ : vMem} {c : Nat} {x v : Int} (hc : 23 ≤ c ∧ c ≤ 25) : AG σ (vUp σ c x v) x := by
  refine ⟨fun k hk i hi => ?_, fun k hk i hi => by rw [vUp_ne (by omega)]⟩
  by_cases q : k = c
  · subst q; rw [vUp_ix (by omega)]
  · rw [vUp_ne q]
theorem AG.d {σ σ1 : vMem} {x : Int} (f1 : ∀ k : Nat, k ≠ 23 ∧ k ≠ 45 ∧ k ≠ 30 → σ1 k = σ k) (f2 : ∀ i, i < x → σ1 23 i = σ 23 i) : AG σ σ1 x := by
  refine ⟨fun k hk i hi => ?_, fun k hk i hi => by rw [f1 k (by omega)]⟩
  by_cases q : k = 23
  · subst q; exact f2 i hi
  · rw [f1 k (by omega)]
theorem teP_0 {b : Int → Int} {q n : Int} {gp : FP} (h : (teP b q n gp).1 = 0) : n < 4 ∧ gp.1 = 0 := by
  unfold teP adF at h
  split at h
  · split at h
    · exact absurd h z3n
    · exact absurd h (by assumption)
  · exact ⟨by omega, h⟩
theorem liP_0 {b : Int → Int} {q l : Int} {fp : FP} (h : (liP b q l fp).1 = 0) : l < 16 ∧ fp.1 = 0 := by
  unfold liP adF at h
  split at h
  · split at h
    · exact absurd h z3n
    · exact absurd h (by assumption)
  · exact ⟨by omega, h⟩
theorem dFp_0 {b : Int → Int} {d : Int} {gp : FP} (h : (dFp b d gp).1 = 0) : gp.1 = 0 ∧ (tkF b d ≠ 8 → fitP (tkF b d) (nmF b (nxF b d))) := by
  unfold dFp adF at h
  split at h
  · split at h
    · exact absurd h z2n
    · exact absurd h (by assumption)
  · rename_i h9
    exact ⟨h, fun z => by_contra9 (fun y => h9 ⟨z, y⟩)⟩
def QI (σ σ1 : vMem) (b : Int → Int) (l x p n : Int) (gp : FP) (D : Int → Int) : Prop := RkP b p (σ1 45) ∧ FPt σ1 gp ∧ (gp.1 = 0 → l < 16 ∧ n ≤ 4 ∧ TR σ1 x D (20 * l) n) ∧ FK σ σ1 ∧ AG σ σ1 x ∧ σ1 23 = σ 23 ∧ σ1 24 = σ 24 ∧ σ1 45 6 = σ 45 6
theorem TR_off {σ σ2 : vMem} {x row n : Int} {D : Int → Int} (h : ∀ k : Nat, 26 ≤ k ∧ k ≤ 29 → σ2 k = σ k) (hT : TR σ x D row n) : TR σ2 x D row n := by
  unfold TR
  rw [h 26 (by omega), h 27 (by omega), h 28 (by omega), h 29 (by omega)]
  exact hT
theorem QI.tok {σ σ1 σ2 : vMem} {b : Int → Int} {l x p n : Int} {gp : FP} {D : Int → Int} (h : QI σ σ1 b l x p n gp D) {q : Int} (hF : F45 σ1 σ2) (hr : RkP b q (σ2 45)) : QI σ σ2 b l x q n gp D := by
  obtain ⟨a1, a2, a3, a4, a5, a6, a7, a8⟩ := h
  exact ⟨hr, a2.of45 hF, fun z => ⟨(a3 z).1, (a3 z).2.1, TR_off (fun k hk => hF.1 k (by omega)) (a3 z).2.2⟩, a4.trans' hF.fk, a5.trans' hF.ag, by rw [hF.1 23 (by decide)]; exact a6, by rw [hF.1 24 (by decide)]; exact a7, by rw [hF.2 6 (by omega)]; exact a8⟩
theorem QI.mark {σ σ1 σ2 : vMem} {b : Int → Int} {l x p n : Int} {gp : FP} {D : Int → Int} (h : QI σ σ1 b l x p n gp D) (hn : 4 ≤ n) (f1 : ∀ i, i ≠ 30 → σ2 i = σ1 i) (f2 : σ2 30 1 = σ1 30 1) (f3 : FPt σ2 (adF gp 3 (σ1 45 4))) : QI σ σ2 b l x p n (teP b p n gp) D := by
  obtain ⟨a1, a2, a3, a4, a5, a6, a7, a8⟩ := h
  refine ⟨by rw [f1 45 (by decide)]; exact a1, by rw [teP, if_pos hn, ← a1.2.2.1]; exact f3, fun z => by have := (teP_0 z).1; omega, a4.trans' ⟨fun k hk => f1 k (by omega), f2⟩, a5.trans' (AG.of (fun k hk => f1 k (by omega))), by rw [f1 23 (by decide)]; exact a6, by rw [f1 24 (by decide)]; exact a7, by rw [f1 45 (by decide)]; exact a8⟩
theorem QI.test {σ σ1 σ2 : vMem} {b : Int → Int} {l x q n kq : Int} {gp : FP} {D : Int → Int} (h : QI σ σ1 b l x q n (teP b q n gp) D) (hn : 0 ≤ n) (hkq : kq = b01 (l < 16 ∧ n < 4)) (ok : tOk b q) (e1 : RkP b (tEn b q) (σ2 45)) (e2 : σ2 45 6 = σ1 45 6) (e3 : ∀ k, k ≠ 45 ∧ (k < 26 ∨ 29 < k) → σ2 k = σ1 k) (e4 : ¬ (kq = 1 ∧ tOk b q) → ∀ k, k ≠ 45 → σ2 k = σ1 k) (e5 : (kq = 1 ∧ tOk b q) → TW σ1 σ2 (x * 4 + n) b q) : QI σ σ2 b l x (tEn b q) (n + 1) (teP b q n gp) (teC b l q n D) := by
  obtain ⟨a1, a2, a3, a4, a5, a6, a7, a8⟩ := h
  refine ⟨e1, ?_, fun z => ?_, a4.trans' ⟨fun k hk => e3 k (by omega), by rw [e3 30 (by omega)]⟩, a5.trans' ⟨fun k hk i hi => by rw [e3 k (by omega)], fun k hk i hi => ?_⟩, by rw [e3 23 (by omega)]; exact a6, by rw [e3 24 (by omega)]; exact a7, by rw [e2]; exact a8⟩
  · unfold FPt
    rw [e3 30 (by omega)]
    exact a2
  · have h0 := teP_0 z
    have h1 := a3 z
    have hk : kq = 1 := by rw [hkq]; exact (b01_1 ⟨h1.1, h0.1⟩).symm
    refine ⟨h1.1, by omega, ?_⟩
    rw [teC, if_pos ⟨h1.1, h0.1⟩]
    exact TR_step hn h1.2.2 (e5 ⟨hk, ok⟩)
  · by_cases hk : kq = 1
    · obtain ⟨w6, w7, w9, nn, w8, -⟩ := e5 ⟨hk, ok⟩
      rcases (show k = 26 ∨ k = 27 ∨ k = 28 ∨ k = 29 by omega) with rfl | rfl | rfl | rfl
      · rw [w6, upF_n (by omega)]
      · rw [w7, upF_n (by omega)]
      · rw [w8, upF_n (by omega)]
      · rw [w9, upF_n (by omega)]
    · rw [e4 (fun z => hk z.1) k (by omega)]

theorem c_Re_readTests_74 {T : vSh} {σ : vMem} {cx : vCx} {L p l x kp : Int} {b C : Int → Int} {gp : FP} (hR : RK σ b L) (hp : 0 ≤ p ∧ p ≤ 500) (hl : 0 ≤ l ∧ l ≤ 500) (hx : 0 ≤ x ∧ x ≤ 600 ∧ (l < 16 → x < 64)) (hkp : kp = b01 (l < 16)) (hM : vM cx 0 0 (some .boolean) (rP (S0 ++ T) (fun z σ2 => z = b01 ((tsL b l 501 (nxF b p) 0 gp C).1 = 1 ∧ tkF b (tsL b l 501 (nxF b p) 0 gp C).2.1 = 58) ∧ RkP b (if (tsL b l 501 (nxF b p) 0 gp C).1 = 1 ∧ tkF b (tsL b l 501 (nxF b p) 0 gp C).2.1 = 58 then nxF b (tsL b l 501 (nxF b p) 0 gp C).2.1 else (tsL b l 501 (nxF b p) 0 gp C).2.1) (σ2 45) ∧ σ2 45 6 = σ 45 6 ∧ FK σ σ2 ∧ AG σ σ2 x ∧ σ2 23 = σ 23 ∧ σ2 24 = σ 24 ∧ ((tsL b l 501 (nxF b p) 0 gp C).1 = 1 → FPt σ2 (tsL b l 501 (nxF b p) 0 gp C).2.2.2.1 ∧ ((tsL b l 501 (nxF b p) 0 gp C).2.2.2.1.1 = 0 → l < 16 ∧ (tsL b l 501 (nxF b p) 0 gp C).2.2.1 ≤ 4 ∧ σ2 25 x = (tsL b l 501 (nxF b p) 0 gp C).2.2.1 ∧ TR σ2 x (tsL b l 501 (nxF b p) 0 gp C).2.2.2.2 (20 * l) (tsL b l 501 (nxF b p) 0 gp C).2.2.1))))) {e n : Int} {hp' : FP} {D : Int → Int} {σ1 : vMem} (he : 0 ≤ e ∧ e ≤ 500) (hn : 0 ≤ n ∧ n ≤ 501) (hT : (tsL b l 501 (nxF b p) 0 gp C) = (1, e, n, hp', D)) (hQ : QI σ σ1 b l x e n hp' D) : vV cx y_Re_readTests.cls prog_9_method_5_code 5 7 0 0 0 0 74 [some (.ref 45), some (.int (iI x)), some (.int (iI kp)), some (.int (iI n)), none] [] (S0 ++ T) σ1 := by
  obtain ⟨a1, a2, a3, a4, a5, a6, a7, a8⟩ := id hQ
  have hkl : kp = 0 ∨ kp = 1 := by rw [hkp]; exact b01_or
  refine v_iload2 d_Re_readTests_74 ?_
  refine v_if_eq d_Re_readTests_75 (by omega) (fun u75 => ?_) (fun u75 => ?_)
  · refine v_aload0 d_Re_readTests_92 ?_
    refine v_bipush d_Re_readTests_93 rfl ?_
    refine v_gVZ1 d_Re_readTests_95 l_Re_76 k_Re_pass (c_Re_pass (p := e) (b := b) (L := L) (by first | exact a4.rk hR | exact (a4.trans' ⟨fun k hk => vUp_ne (by omega), by rw [vUp_ne (by decide)]⟩).rk hR) he (by first | exact a1 | (rw [vUp_ne (by decide)]; exact a1)) (by omega)) (sh_45 T) rfl (by decide) (by decide) (Nat.le_of_ble_eq_true rfl) (Nat.zero_le _) (Nat.zero_le _) (fun z95 s95 g95 e95 => ?_)
    have hz := e95.1
    have r1 : (tsL b l 501 (nxF b p) 0 gp C).1 = 1 := by rw [hT]
    have r2 : (tsL b l 501 (nxF b p) 0 gp C).2 = (e, n, hp', D) := by rw [hT]
    refine v_zreturn hM d_Re_readTests_98 (by rw [hz]; exact b01_or) ⟨rfl, ?_, ?_, ?_, ?_, ?_, ?_, ?_, fun _ => ⟨?_, fun z => ?_⟩⟩
    · rw [hz, r1, r2]; exact b01_congr ⟨fun y => ⟨rfl, y⟩, fun y => y.2⟩
    · rw [r1, r2]
      have h9 := e95.2.2
      by_cases c9 : tkF b e = 58
      · rw [if_pos c9] at h9; rw [if_pos ⟨rfl, c9⟩]; exact h9
      · rw [if_neg c9] at h9; rw [if_neg (fun y => c9 y.2)]; exact h9
    · rw [e95.2.1.2 6 (by omega)]; exact a8
    · exact (a4.trans' FK.rfl').trans' e95.2.1.fk
    · exact (a5.trans' AG.rfl').trans' e95.2.1.ag
    · rw [e95.2.1.1 23 (by decide)]; exact a6
    · rw [e95.2.1.1 24 (by decide)]; exact a7
    · rw [r2]; exact FPt.of45 a2 e95.2.1
    · rw [r2] at z ⊢
      have h9 := a3 z
      refine ⟨h9.1, h9.2.1, ?_, TR_off (fun k hk => by rw [e95.2.1.1 k (by omega)]) h9.2.2⟩
      have h8 := h9.1; rw [hkp] at u75; exact absurd (u75.symm.trans (b01_1 h8).symm) (by decide)
  · refine v_aload0 d_Re_readTests_78 ?_
    refine v_getR d_Re_readTests_79 f_Re_15 (sh_45 T) rfl ?_
    refine v_getR d_Re_readTests_82 f_Re_66 (sh_20 T) rfl ?_
    refine v_iload1 d_Re_readTests_85 ?_
    refine v_iload3 d_Re_readTests_86 ?_
    refine v_iconst d_Re_readTests_87 ?_
    refine v_min d_Re_readTests_88 lx_Re_82 cw_mins cw_mi cw_minc (by omega) (by omega) (by decide) (Nat.le_of_ble_eq_true rfl) ?_
    have hx9 := hx.2.2 (by have := b01_rng (p := l < 16); exact by_contra9 (fun y => u75 (by rw [hkp]; exact (b01_0 y).symm)))
    have hmn : vIn (vMn n 4) := by unfold vMn; split <;> omega
    refine v_iastore d_Re_readTests_91 (sh_25 T) (by omega) (by omega) ?_
    refine v_aload0 d_Re_readTests_92 ?_
    refine v_bipush d_Re_readTests_93 rfl ?_
    refine v_gVZ1 d_Re_readTests_95 l_Re_76 k_Re_pass (c_Re_pass (p := e) (b := b) (L := L) (by first | exact a4.rk hR | exact (a4.trans' ⟨fun k hk => vUp_ne (by omega), by rw [vUp_ne (by decide)]⟩).rk hR) he (by first | exact a1 | (rw [vUp_ne (by decide)]; exact a1)) (by omega)) (sh_45 T) rfl (by decide) (by decide) (Nat.le_of_ble_eq_true rfl) (Nat.zero_le _) (Nat.zero_le _) (fun z95 s95 g95 e95 => ?_)
    have hz := e95.1
    have r1 : (tsL b l 501 (nxF b p) 0 gp C).1 = 1 := by rw [hT]
    have r2 : (tsL b l 501 (nxF b p) 0 gp C).2 = (e, n, hp', D) := by rw [hT]
    refine v_zreturn hM d_Re_readTests_98 (by rw [hz]; exact b01_or) ⟨rfl, ?_, ?_, ?_, ?_, ?_, ?_, ?_, fun _ => ⟨?_, fun z => ?_⟩⟩
    · rw [hz, r1, r2]; exact b01_congr ⟨fun y => ⟨rfl, y⟩, fun y => y.2⟩
    · rw [r1, r2]
      have h9 := e95.2.2
      by_cases c9 : tkF b e = 58
      · rw [if_pos c9] at h9; rw [if_pos ⟨rfl, c9⟩]; exact h9
      · rw [if_neg c9] at h9; rw [if_neg (fun y => c9 y.2)]; exact h9
    · rw [e95.2.1.2 6 (by omega), vUp_ne (by decide)]; exact a8
    · exact (a4.trans' ⟨fun k hk => vUp_ne (by omega), by rw [vUp_ne (by decide)]⟩).trans' e95.2.1.fk
    · exact (a5.trans' (AG.up (by omega))).trans' e95.2.1.ag
    · rw [e95.2.1.1 23 (by decide), vUp_ne (by decide)]; exact a6
    · rw [e95.2.1.1 24 (by decide), vUp_ne (by decide)]; exact a7
    · rw [r2]; exact FPt.of45 (show FPt (vUp σ1 25 x (vMn n 4)) hp' by unfold FPt; rw [vUp_ne (by decide)]; exact a2) e95.2.1
    · rw [r2] at z ⊢
      have h9 := a3 z
      refine ⟨h9.1, h9.2.1, ?_, TR_off (fun k hk => by rw [e95.2.1.1 k (by omega), vUp_ne (by omega)]) h9.2.2⟩
      rw [e95.2.1.1 25 (by decide), vUp_same, vMn]; dsimp only; split <;> omega

theorem c_Re_readTests_48 {T : vSh} {σ : vMem} {cx : vCx} {L p l x kp : Int} {b C : Int → Int} {gp : FP} (hR : RK σ b L) (hp : 0 ≤ p ∧ p ≤ 500) (hl : 0 ≤ l ∧ l ≤ 500) (hx : 0 ≤ x ∧ x ≤ 600 ∧ (l < 16 → x < 64)) (hkp : kp = b01 (l < 16)) (hM : vM cx 0 0 (some .boolean) (rP (S0 ++ T) (fun z σ2 => z = b01 ((tsL b l 501 (nxF b p) 0 gp C).1 = 1 ∧ tkF b (tsL b l 501 (nxF b p) 0 gp C).2.1 = 58) ∧ RkP b (if (tsL b l 501 (nxF b p) 0 gp C).1 = 1 ∧ tkF b (tsL b l 501 (nxF b p) 0 gp C).2.1 = 58 then nxF b (tsL b l 501 (nxF b p) 0 gp C).2.1 else (tsL b l 501 (nxF b p) 0 gp C).2.1) (σ2 45) ∧ σ2 45 6 = σ 45 6 ∧ FK σ σ2 ∧ AG σ σ2 x ∧ σ2 23 = σ 23 ∧ σ2 24 = σ 24 ∧ ((tsL b l 501 (nxF b p) 0 gp C).1 = 1 → FPt σ2 (tsL b l 501 (nxF b p) 0 gp C).2.2.2.1 ∧ ((tsL b l 501 (nxF b p) 0 gp C).2.2.2.1.1 = 0 → l < 16 ∧ (tsL b l 501 (nxF b p) 0 gp C).2.2.1 ≤ 4 ∧ σ2 25 x = (tsL b l 501 (nxF b p) 0 gp C).2.2.1 ∧ TR σ2 x (tsL b l 501 (nxF b p) 0 gp C).2.2.2.2 (20 * l) (tsL b l 501 (nxF b p) 0 gp C).2.2.1))))) {q n kq rm : Int} {hp' : FP} {D : Int → Int} {σ1 : vMem} {m : Nat} (hq : 0 ≤ q ∧ q ≤ 500) (hn : 0 ≤ n ∧ n ≤ q) (hkq : kq = b01 (l < 16 ∧ n < 4)) (hT : (tsL b l 501 (nxF b p) 0 gp C) = tsL b l (m + 1) q n hp' D) (hQ : QI σ σ1 b l x q n (teP b q n hp') D) (K : tOk b q → tkF b (tEn b q) = 1 → ∀ σ2, QI σ σ2 b l x (tEn b q) (n + 1) (teP b q n hp') (teC b l q n D) → vV cx y_Re_readTests.cls prog_9_method_5_code 5 7 0 0 0 0 2 [some (.ref 45), some (.int (iI x)), some (.int (iI kp)), some (.int (iI (n + 1))), none] [] (S0 ++ T) σ2) : vV cx y_Re_readTests.cls prog_9_method_5_code 5 7 0 0 0 0 48 [some (.ref 45), some (.int (iI x)), some (.int (iI kp)), some (.int (iI n)), some (.int (iI rm))] [.int (iI kq), .int (iI (x * 4 + n)), .ref 45] (S0 ++ T) σ1 := by
  obtain ⟨a1, a2, a3, a4, a5, a6, a7, a8⟩ := id hQ
  have hte := tEn_rng hR.2.1 hq
  have hxx : (0 ≤ x * 4 + n ∧ x * 4 + n < 256) ∨ kq = 0 := by
    by_cases c9 : l < 16 ∧ n < 4
    · have := hx.2.2 c9.1; omega
    · exact Or.inr (by rw [hkq]; exact (b01_0 c9).symm)
  refine v_gVZ2 d_Re_readTests_48 l_Re_79 k_Re_readTest (c_Re_readTest (a4.rk hR) hq a1 (x := x * 4 + n) (kp := kq) hxx (by rw [hkq]; exact b01_or)) (sh_45 T) rfl (by decide) (by decide) (Nat.le_of_ble_eq_true rfl) (Nat.zero_le _) (Nat.zero_le _) (fun z48 s48 g48 e48 => ?_)
  have z48e := e48.1
  have hb9 := b01_rng (p := tOk b q)
  refine v_if_ne d_Re_readTests_51 (by omega) (fun u51 => ?_) (fun u51 => ?_)
  · have ok9 : tOk b q := by_contra9 (fun y => by have := z48e.trans (b01_0 y).symm; omega)
    have hen := hte.2.2 ok9
    refine v_iinc3 d_Re_readTests_56 (by decide) rfl ?_
    refine v_aload0 d_Re_readTests_59 ?_
    refine v_getJ (ji := 3) d_Re_readTests_60 f_Re_34 (sh_45 T) rfl rfl (fun g60 => ?_)
    rw [e48.2.1.2.1] at g60 ⊢
    refine v_iconst d_Re_readTests_63 ?_
    refine v_icmp_ne d_Re_readTests_64 (by omega) (by omega) (fun u64 => ?_) (fun u64 => ?_)
    · refine v_drop4 ?_
      exact c_Re_readTests_74 hR hp hl hx hkp hM (e := tEn b q) (by omega) (by omega) (by rw [hT, tsL, if_pos ok9, if_neg (by omega)]) (hQ.test (by omega) hkq ok9 e48.2.1 e48.2.2.1 e48.2.2.2.1 e48.2.2.2.2.1 e48.2.2.2.2.2)
    · refine v_iload3 d_Re_readTests_67 ?_
      refine v_sipush d_Re_readTests_68 rfl ?_
      refine v_icmp_le d_Re_readTests_71 (by omega) (by omega) (fun u71 => ?_) (fun u71 => ?_)
      · refine v_drop4 ?_
        exact K ok9 (by omega) _ (hQ.test (by omega) hkq ok9 e48.2.1 e48.2.2.1 e48.2.2.2.1 e48.2.2.2.2.1 e48.2.2.2.2.2)
      · refine v_drop4 ?_
        omega
  · refine v_iconst d_Re_readTests_54 ?_
    have r1 : (tsL b l 501 (nxF b p) 0 gp C).1 = 0 := by rw [hT, tsL, if_neg (fun y => by have := z48e.trans (b01_1 y).symm; omega)]
    have r2 : (tsL b l 501 (nxF b p) 0 gp C).2.1 = tEn b q := by rw [hT, tsL, if_neg (fun y => by have := z48e.trans (b01_1 y).symm; omega)]
    have hno : ¬ tOk b q := fun y => by have := z48e.trans (b01_1 y).symm; omega
    have fr := e48.2.2.2.2.1 (fun y => hno y.2)
    exact v_zreturn hM d_Re_readTests_55 (Or.inl rfl) ⟨rfl, b01_0 (by rw [r1]; exact fun y => z1n y.1), by rw [if_neg (by rw [r1]; exact fun y => z1n y.1), r2]; exact e48.2.1, by rw [e48.2.2.1]; exact a8, a4.trans' ⟨fun k hk => fr k (by omega), by rw [fr 30 (by decide)]⟩, a5.trans' (AG.of (fun k hk => fr k (by omega))), by rw [fr 23 (by decide)]; exact a6, by rw [fr 24 (by decide)]; exact a7, fun y => by rw [r1] at y; exact absurd y z1n⟩

theorem c_Re_readTests_28 {T : vSh} {σ : vMem} {cx : vCx} {L p l x kp : Int} {b C : Int → Int} {gp : FP} (hR : RK σ b L) (hp : 0 ≤ p ∧ p ≤ 500) (hl : 0 ≤ l ∧ l ≤ 500) (hx : 0 ≤ x ∧ x ≤ 600 ∧ (l < 16 → x < 64)) (hkp : kp = b01 (l < 16)) (hM : vM cx 0 0 (some .boolean) (rP (S0 ++ T) (fun z σ2 => z = b01 ((tsL b l 501 (nxF b p) 0 gp C).1 = 1 ∧ tkF b (tsL b l 501 (nxF b p) 0 gp C).2.1 = 58) ∧ RkP b (if (tsL b l 501 (nxF b p) 0 gp C).1 = 1 ∧ tkF b (tsL b l 501 (nxF b p) 0 gp C).2.1 = 58 then nxF b (tsL b l 501 (nxF b p) 0 gp C).2.1 else (tsL b l 501 (nxF b p) 0 gp C).2.1) (σ2 45) ∧ σ2 45 6 = σ 45 6 ∧ FK σ σ2 ∧ AG σ σ2 x ∧ σ2 23 = σ 23 ∧ σ2 24 = σ 24 ∧ ((tsL b l 501 (nxF b p) 0 gp C).1 = 1 → FPt σ2 (tsL b l 501 (nxF b p) 0 gp C).2.2.2.1 ∧ ((tsL b l 501 (nxF b p) 0 gp C).2.2.2.1.1 = 0 → l < 16 ∧ (tsL b l 501 (nxF b p) 0 gp C).2.2.1 ≤ 4 ∧ σ2 25 x = (tsL b l 501 (nxF b p) 0 gp C).2.2.1 ∧ TR σ2 x (tsL b l 501 (nxF b p) 0 gp C).2.2.2.2 (20 * l) (tsL b l 501 (nxF b p) 0 gp C).2.2.1))))) {q n rm : Int} {hp' : FP} {D : Int → Int} {σ1 : vMem} {m : Nat} (hq : 0 ≤ q ∧ q ≤ 500) (hn : 0 ≤ n ∧ n ≤ q) (hrm : (n < 4 ∧ rm = 1) ∨ (4 ≤ n ∧ rm = 0)) (hT : (tsL b l 501 (nxF b p) 0 gp C) = tsL b l (m + 1) q n hp' D) (hQ : QI σ σ1 b l x q n (teP b q n hp') D) (K : tOk b q → tkF b (tEn b q) = 1 → ∀ σ2, QI σ σ2 b l x (tEn b q) (n + 1) (teP b q n hp') (teC b l q n D) → vV cx y_Re_readTests.cls prog_9_method_5_code 5 7 0 0 0 0 2 [some (.ref 45), some (.int (iI x)), some (.int (iI kp)), some (.int (iI (n + 1))), none] [] (S0 ++ T) σ2) : vV cx y_Re_readTests.cls prog_9_method_5_code 5 7 0 0 0 0 28 [some (.ref 45), some (.int (iI x)), some (.int (iI kp)), some (.int (iI n)), some (.int (iI rm))] [] (S0 ++ T) σ1 := by
  have hkl : kp = 0 ∨ kp = 1 := by rw [hkp]; exact b01_or
  have hk16 : kp = 1 → l < 16 := fun y => by_contra9 (fun z => by have := hkp.trans (b01_0 z).symm; omega)
  have hk17 : kp = 0 → ¬ l < 16 := fun y z => by have := hkp.trans (b01_1 z).symm; omega
  refine v_aload0 d_Re_readTests_28 ?_
  refine v_iload1 d_Re_readTests_29 ?_
  refine v_iconst d_Re_readTests_30 ?_
  refine v_imul d_Re_readTests_31 ?_
  refine v_iload3 d_Re_readTests_32 ?_
  refine v_iadd d_Re_readTests_33 ?_
  refine v_iload2 d_Re_readTests_34 ?_
  refine v_if_eq d_Re_readTests_35 (by omega) (fun u35 => ?_) (fun u35 => ?_)
  · refine v_iconst d_Re_readTests_47 ?_
    exact c_Re_readTests_48 hR hp hl hx hkp hM hq hn (b01_0 (fun y => hk17 (by omega) y.1)) hT hQ K
  · refine v_iload4 d_Re_readTests_38 ?_
    refine v_if_eq d_Re_readTests_40 (by omega) (fun u40 => ?_) (fun u40 => ?_)
    · refine v_iconst d_Re_readTests_47 ?_
      exact c_Re_readTests_48 hR hp hl hx hkp hM hq hn (b01_0 (fun y => by omega)) hT hQ K
    · refine v_iconst d_Re_readTests_43 ?_
      refine v_goto d_Re_readTests_44 ?_
      exact c_Re_readTests_48 hR hp hl hx hkp hM hq hn (b01_1 ⟨hk16 (by omega), by omega⟩) hT hQ K

theorem c_Re_readTests_2 {T : vSh} {σ : vMem} {cx : vCx} {L p l x kp : Int} {b C : Int → Int} {gp : FP} (hR : RK σ b L) (hp : 0 ≤ p ∧ p ≤ 500) (hl : 0 ≤ l ∧ l ≤ 500) (hx : 0 ≤ x ∧ x ≤ 600 ∧ (l < 16 → x < 64)) (hkp : kp = b01 (l < 16)) (hM : vM cx 0 0 (some .boolean) (rP (S0 ++ T) (fun z σ2 => z = b01 ((tsL b l 501 (nxF b p) 0 gp C).1 = 1 ∧ tkF b (tsL b l 501 (nxF b p) 0 gp C).2.1 = 58) ∧ RkP b (if (tsL b l 501 (nxF b p) 0 gp C).1 = 1 ∧ tkF b (tsL b l 501 (nxF b p) 0 gp C).2.1 = 58 then nxF b (tsL b l 501 (nxF b p) 0 gp C).2.1 else (tsL b l 501 (nxF b p) 0 gp C).2.1) (σ2 45) ∧ σ2 45 6 = σ 45 6 ∧ FK σ σ2 ∧ AG σ σ2 x ∧ σ2 23 = σ 23 ∧ σ2 24 = σ 24 ∧ ((tsL b l 501 (nxF b p) 0 gp C).1 = 1 → FPt σ2 (tsL b l 501 (nxF b p) 0 gp C).2.2.2.1 ∧ ((tsL b l 501 (nxF b p) 0 gp C).2.2.2.1.1 = 0 → l < 16 ∧ (tsL b l 501 (nxF b p) 0 gp C).2.2.1 ≤ 4 ∧ σ2 25 x = (tsL b l 501 (nxF b p) 0 gp C).2.2.1 ∧ TR σ2 x (tsL b l 501 (nxF b p) 0 gp C).2.2.2.2 (20 * l) (tsL b l 501 (nxF b p) 0 gp C).2.2.1))))) : ∀ (m : Nat) (p' n : Int) (hp' : FP) (D : Int → Int) (σ1 : vMem), 500 - nxF b p' < (m : Int) → (0 ≤ p' ∧ p' ≤ 500) → (0 ≤ n ∧ n ≤ p') → (tsL b l 501 (nxF b p) 0 gp C) = tsL b l m (nxF b p') n hp' D → QI σ σ1 b l x p' n hp' D → vV cx y_Re_readTests.cls prog_9_method_5_code 5 7 0 0 0 0 2 [some (.ref 45), some (.int (iI x)), some (.int (iI kp)), some (.int (iI n)), none] [] (S0 ++ T) σ1 := by
  intro m
  induction m with
  | zero =>
    intro p' n hp' D σ1 hn hq
    have := nxF_rng hR.2.1 hq
    omega
  | succ m ih =>
    intro p' n hp' D σ1 hn hq hk hT hQ
    have hnx := nxF_rng hR.2.1 hq
    have hK : tOk b (nxF b p') → tkF b (tEn b (nxF b p')) = 1 → ∀ σ2, QI σ σ2 b l x (tEn b (nxF b p')) (n + 1) (teP b (nxF b p') n hp') (teC b l (nxF b p') n D) → vV cx y_Re_readTests.cls prog_9_method_5_code 5 7 0 0 0 0 2 [some (.ref 45), some (.int (iI x)), some (.int (iI kp)), some (.int (iI (n + 1))), none] [] (S0 ++ T) σ2 := fun y1 q9 σ2 h9 => by
      have hte := tEn_rng hR.2.1 (p := nxF b p') (by omega)
      have h8 := hte.2.2 y1
      have hn2 := nxF_rng hR.2.1 (p := tEn b (nxF b p')) (by omega)
      exact ih _ _ _ _ σ2 (by omega) (by omega) (by omega) (by rw [hT, tsL, if_pos y1, if_pos q9]) h9
    refine v_aload0 d_Re_readTests_2 ?_
    refine v_gVV0 d_Re_readTests_3 l_Re_31 k_Re_readToken (c_Re_readToken (hQ.2.2.2.1.rk hR) (by omega) hQ.1.1) (sh_45 T) rfl (by decide) (by decide) (Nat.le_of_ble_eq_true rfl) (Nat.zero_le _) (Nat.zero_le _) (fun z3 s3 e3 => ?_)
    have hQ2 := hQ.tok e3.1 e3.2
    refine v_iload3 d_Re_readTests_6 ?_
    refine v_iconst d_Re_readTests_7 ?_
    refine v_icmp_ge d_Re_readTests_8 (by omega) (by omega) (fun u8 => ?_) (fun u8 => ?_)
    · refine v_iconst d_Re_readTests_15 ?_
      refine v_istore4 d_Re_readTests_16 (by decide) rfl ?_
      refine v_iload4 d_Re_readTests_18 ?_
      refine v_if_ne d_Re_readTests_20 (by omega) (fun u20 => ?_) (fun u20 => ?_)
      · omega
      · refine v_aload0 d_Re_readTests_23 ?_
        refine v_iconst d_Re_readTests_24 ?_
        refine v_gVV1 d_Re_readTests_25 l_Re_46 k_Re_remark (c_Re_remark (by omega) hQ2.2.1) (sh_45 T) rfl (by decide) (by decide) (Nat.le_of_ble_eq_true rfl) (Nat.zero_le _) (Nat.zero_le _) (fun z25 s25 e25 => ?_)
        first
        | (exact c_Re_readTests_28 hR hp hl hx hkp hM (by omega) (by omega) (by omega) hT (by rw [teP, if_neg (by omega)]; exact hQ2) hK)
        | (exact c_Re_readTests_28 hR hp hl hx hkp hM (by omega) (by omega) (by omega) hT (hQ2.mark (by omega) e25.1 e25.2.1 e25.2.2) hK)
        | (omega)
    · refine v_iconst d_Re_readTests_11 ?_
      refine v_goto d_Re_readTests_12 ?_
      refine v_istore4 d_Re_readTests_16 (by decide) rfl ?_
      refine v_iload4 d_Re_readTests_18 ?_
      refine v_if_ne d_Re_readTests_20 (by omega) (fun u20 => ?_) (fun u20 => ?_)
      · first
        | (exact c_Re_readTests_28 hR hp hl hx hkp hM (by omega) (by omega) (by omega) hT (by rw [teP, if_neg (by omega)]; exact hQ2) hK)
        | (exact c_Re_readTests_28 hR hp hl hx hkp hM (by omega) (by omega) (by omega) hT (hQ2.mark (by omega) e25.1 e25.2.1 e25.2.2) hK)
        | (omega)
      · omega

theorem c_Re_readTests {T : vSh} {σ : vMem} {L p l x kp : Int} {b C : Int → Int} {gp : FP} (hR : RK σ b L) (hp : 0 ≤ p ∧ p ≤ 500) (hl : 0 ≤ l ∧ l ≤ 500) (hx : 0 ≤ x ∧ x ≤ 600 ∧ (l < 16 → x < 64)) (hkp : kp = b01 (l < 16)) (hK : RkP b p (σ 45)) (hf : FPt σ gp) (hg : gp.1 = 0 → l < 16) : mt_Re_readTests [.ref 45, .int (iI x), .int (iI kp)] (S0 ++ T) σ (rP (S0 ++ T) (fun z σ2 => z = b01 ((tsL b l 501 (nxF b p) 0 gp C).1 = 1 ∧ tkF b (tsL b l 501 (nxF b p) 0 gp C).2.1 = 58) ∧ RkP b (if (tsL b l 501 (nxF b p) 0 gp C).1 = 1 ∧ tkF b (tsL b l 501 (nxF b p) 0 gp C).2.1 = 58 then nxF b (tsL b l 501 (nxF b p) 0 gp C).2.1 else (tsL b l 501 (nxF b p) 0 gp C).2.1) (σ2 45) ∧ σ2 45 6 = σ 45 6 ∧ FK σ σ2 ∧ AG σ σ2 x ∧ σ2 23 = σ 23 ∧ σ2 24 = σ 24 ∧ ((tsL b l 501 (nxF b p) 0 gp C).1 = 1 → FPt σ2 (tsL b l 501 (nxF b p) 0 gp C).2.2.2.1 ∧ ((tsL b l 501 (nxF b p) 0 gp C).2.2.2.1.1 = 0 → l < 16 ∧ (tsL b l 501 (nxF b p) 0 gp C).2.2.1 ≤ 4 ∧ σ2 25 x = (tsL b l 501 (nxF b p) 0 gp C).2.2.1 ∧ TR σ2 x (tsL b l 501 (nxF b p) 0 gp C).2.2.2.2 (20 * l) (tsL b l 501 (nxF b p) 0 gp C).2.2.1)))) := by
  refine vMet.intro 2 (by decide +kernel) (Nat.le_of_ble_eq_true rfl) rfl (fun cx hM _ => ?_)
  refine v_iconst d_Re_readTests_0 ?_
  refine v_istore3 d_Re_readTests_1 (by decide) rfl ?_
  exact c_Re_readTests_2 hR hp hl hx hkp hM 501 p 0 gp C σ (by have := nxF_rng hR.2.1 hp; omega) hp (by omega) rfl ⟨hK, hf, fun z => ⟨hg z, by omega, fun t t1 t2 => by omega⟩, FK.rfl', AG.rfl', rfl, rfl, rfl⟩

theorem FPt.of {σ σ2 : vMem} {fp : FP} (h : FPt σ fp) (e : σ2 30 = σ 30) : FPt σ2 fp := by
  unfold FPt
  rw [e]
  exact h
theorem c_Re_readDeed_68 {T : vSh} {σ σ1 : vMem} {cx : vCx} {L d x kp : Int} {b : Int → Int} {gp : FP} (hR : RK σ b L) (hp : 0 ≤ d ∧ d ≤ 500) (hx : 0 ≤ x ∧ x < 64 ∨ kp = 0) (hkp : kp = 0 ∨ kp = 1) (hK : RkP b d (σ 45)) (hf : FPt σ gp) (hM : vM cx 0 0 (some .boolean) (rP (S0 ++ T) (fun z σ2 => z = b01 (dHas b d) ∧ (dHas b d → RkP b (dF b d) (σ2 45)) ∧ (¬ dHas b d → RkP b (dEn b d) (σ2 45)) ∧ σ2 45 6 = σ 45 6 ∧ FK σ σ2 ∧ AG σ σ2 x ∧ (∀ k : Nat, 25 ≤ k ∧ k ≤ 29 → σ2 k = σ k) ∧ (dHas b d → FPt σ2 (dFp b d gp)) ∧ (dHas b d → kp = 1 → σ2 23 x = tkF b d ∧ (tkF b d ≠ 8 → σ2 24 x = dNm b d))))) (h38 : 3 ≤ tkF b d ∧ tkF b d ≤ 8) (hQ : RkP b (nxF b d) (σ1 45)) (h6 : σ1 45 6 = σ 45 6) (f1 : ∀ k : Nat, k ≠ 23 ∧ k ≠ 45 ∧ k ≠ 30 → σ1 k = σ k) (f30 : σ1 30 1 = σ 30 1) (hfp : FPt σ1 (dFp b d gp)) (h8 : tkF b d ≠ 8) (h102 : tkF b (nxF b d) = 102) (f2 : ∀ i, i < x → σ1 23 i = σ 23 i) (f3 : kp = 1 → σ1 23 x = tkF b d) {dd : Int} : vV cx y_Re_readDeed.cls prog_9_method_7_code 4 6 0 0 0 0 68 [some (.ref 45), some (.int (iI x)), some (.int (iI kp)), some (.int (iI dd))] [] (S0 ++ T) σ1 := by
  obtain ⟨k2, k3, k4, k5⟩ := id hK
  have hnx := nxF_rng hR.2.1 hp
  have hn2 := nxF_rng hR.2.1 (p := nxF b d) (by omega)
  have htk := tkF_rng b d
  have htk2 := tkF_rng b (nxF b d)
  refine v_iload2 d_Re_readDeed_68 ?_
  refine v_if_eq d_Re_readDeed_69 (by omega) (fun u69 => ?_) (fun u69 => ?_)
  · refine v_aload0 d_Re_readDeed_85 ?_
    refine v_gVV0 d_Re_readDeed_86 l_Re_31 k_Re_readToken (c_Re_readToken (b := b) (L := L) (by first | exact FK.rk ⟨fun k hk => by rw [f1 k (by omega)], f30⟩ hR | exact FK.rk ⟨fun k hk => by rw [vUp_ne (by omega), f1 k (by omega)], by rw [vUp_ne (by decide)]; exact f30⟩ hR) (p := nxF b (nxF b d)) (by omega) (by first | exact hQ.1 | (rw [vUp_ne (by decide)]; exact hQ.1))) (sh_45 T) rfl (by decide) (by decide) (Nat.le_of_ble_eq_true rfl) (Nat.zero_le _) (Nat.zero_le _) (fun z86 s86 e86 => ?_)
    refine v_iconst d_Re_readDeed_89 ?_
    exact v_zreturn hM d_Re_readDeed_90 (Or.inr rfl) ⟨rfl, b01_1 ⟨h38, Or.inr h102⟩, fun _ => by rw [dF, if_neg h8]; exact e86.2, fun z => absurd ⟨h38, Or.inr h102⟩ z, by rw [e86.1.2 6 (by omega)]; exact h6, FK.trans' ⟨fun k hk => by rw [f1 k (by omega)], f30⟩ e86.1.fk, AG.trans' (AG.d (fun k hk => f1 k (by omega)) f2) e86.1.ag, fun k hk => by rw [e86.1.1 k (by omega), f1 k (by omega)], fun _ => FPt.of hfp (by rw [e86.1.1 30 (by decide)]), fun _ y => ⟨by rw [e86.1.1 23 (by decide)]; exact f3 y, fun _ => by omega⟩⟩
  · refine v_aload0 d_Re_readDeed_72 ?_
    refine v_getR d_Re_readDeed_73 f_Re_15 (sh_45 T) rfl ?_
    refine v_getR d_Re_readDeed_76 f_Re_110 (sh_20 T) rfl ?_
    refine v_iload1 d_Re_readDeed_79 ?_
    refine v_aload0 d_Re_readDeed_80 ?_
    refine v_getJ (ji := 5) d_Re_readDeed_81 f_Re_101 (sh_45 T) rfl rfl (fun g81 => ?_)
    refine v_iastore d_Re_readDeed_84 (sh_24 T) (by omega) (by omega) ?_
    refine v_aload0 d_Re_readDeed_85 ?_
    refine v_gVV0 d_Re_readDeed_86 l_Re_31 k_Re_readToken (c_Re_readToken (b := b) (L := L) (by first | exact FK.rk ⟨fun k hk => by rw [f1 k (by omega)], f30⟩ hR | exact FK.rk ⟨fun k hk => by rw [vUp_ne (by omega), f1 k (by omega)], by rw [vUp_ne (by decide)]; exact f30⟩ hR) (p := nxF b (nxF b d)) (by omega) (by first | exact hQ.1 | (rw [vUp_ne (by decide)]; exact hQ.1))) (sh_45 T) rfl (by decide) (by decide) (Nat.le_of_ble_eq_true rfl) (Nat.zero_le _) (Nat.zero_le _) (fun z86 s86 e86 => ?_)
    refine v_iconst d_Re_readDeed_89 ?_
    exact v_zreturn hM d_Re_readDeed_90 (Or.inr rfl) ⟨rfl, b01_1 ⟨h38, Or.inr h102⟩, fun _ => by rw [dF, if_neg h8]; exact e86.2, fun z => absurd ⟨h38, Or.inr h102⟩ z, by rw [e86.1.2 6 (by omega), vUp_ne (by decide)]; exact h6, FK.trans' ⟨fun k hk => by rw [vUp_ne (by omega), f1 k (by omega)], by rw [vUp_ne (by decide)]; exact f30⟩ e86.1.fk, AG.trans' (AG.trans' (AG.d f1 f2) (AG.up (by omega))) e86.1.ag, fun k hk => by rw [e86.1.1 k (by omega), vUp_ne (by omega), f1 k (by omega)], fun _ => FPt.of hfp (by rw [e86.1.1 30 (by decide), vUp_ne (by decide)]), fun _ y => ⟨by rw [e86.1.1 23 (by decide), vUp_ne (by decide)]; exact f3 y, fun _ => by rw [e86.1.1 24 (by decide), vUp_same, dNm, if_neg h8]; exact hQ.2.2.2 h102⟩⟩

theorem c_Re_readDeed_36 {T : vSh} {σ σ1 : vMem} {cx : vCx} {L d x kp : Int} {b : Int → Int} {gp : FP} (hR : RK σ b L) (hp : 0 ≤ d ∧ d ≤ 500) (hx : 0 ≤ x ∧ x < 64 ∨ kp = 0) (hkp : kp = 0 ∨ kp = 1) (hK : RkP b d (σ 45)) (hf : FPt σ gp) (hM : vM cx 0 0 (some .boolean) (rP (S0 ++ T) (fun z σ2 => z = b01 (dHas b d) ∧ (dHas b d → RkP b (dF b d) (σ2 45)) ∧ (¬ dHas b d → RkP b (dEn b d) (σ2 45)) ∧ σ2 45 6 = σ 45 6 ∧ FK σ σ2 ∧ AG σ σ2 x ∧ (∀ k : Nat, 25 ≤ k ∧ k ≤ 29 → σ2 k = σ k) ∧ (dHas b d → FPt σ2 (dFp b d gp)) ∧ (dHas b d → kp = 1 → σ2 23 x = tkF b d ∧ (tkF b d ≠ 8 → σ2 24 x = dNm b d))))) (h38 : 3 ≤ tkF b d ∧ tkF b d ≤ 8) (hQ : RkP b (nxF b d) (σ1 45)) (h6 : σ1 45 6 = σ 45 6) (f1 : ∀ k : Nat, k ≠ 23 ∧ k ≠ 45 → σ1 k = σ k) (f2 : ∀ i, i < x → σ1 23 i = σ 23 i) (f3 : kp = 1 → σ1 23 x = tkF b d) : vV cx y_Re_readDeed.cls prog_9_method_7_code 4 6 0 0 0 0 36 [some (.ref 45), some (.int (iI x)), some (.int (iI kp)), some (.int (iI (tkF b d)))] [] (S0 ++ T) σ1 := by
  obtain ⟨k2, k3, k4, k5⟩ := id hK
  have hnx := nxF_rng hR.2.1 hp
  have hn2 := nxF_rng hR.2.1 (p := nxF b d) (by omega)
  have htk := tkF_rng b d
  have htk2 := tkF_rng b (nxF b d)
  refine v_iload3 d_Re_readDeed_36 ?_
  refine v_bipush d_Re_readDeed_37 rfl ?_
  refine v_icmp_ne d_Re_readDeed_39 (by omega) (by omega) (fun u39 => ?_) (fun u39 => ?_)
  · refine v_aload0 d_Re_readDeed_44 ?_
    refine v_getJ (ji := 3) d_Re_readDeed_45 f_Re_34 (sh_45 T) rfl rfl (fun g45 => ?_)
    rw [hQ.2.1] at g45 ⊢
    refine v_bipush d_Re_readDeed_48 rfl ?_
    refine v_icmp_eq d_Re_readDeed_50 (by omega) (by omega) (fun u50 => ?_) (fun u50 => ?_)
    · refine v_aload0 d_Re_readDeed_55 ?_
      refine v_iload3 d_Re_readDeed_56 ?_
      refine v_fVZ1 d_Re_readDeed_57 l_Re_107 k_Re_isFitNumber (c_Re_isFitNumber (by omega) (hQ.2.2.2 (by omega))) (sh_45 T) rfl (by decide) (by decide) (Nat.le_of_ble_eq_true rfl) (Nat.zero_le _) (Nat.zero_le _) (fun g57 => ?_)
      refine v_ifb_ne d_Re_readDeed_60 (fun u60 => ?_) (fun u60 => ?_)
      · exact c_Re_readDeed_68 hR hp hx hkp hK hf hM h38 hQ h6 (fun k hk => f1 k (by omega)) (by rw [f1 30 (by decide)]) (by rw [dFp, if_neg (fun z => z.2 u60)]; exact FPt.of hf (f1 30 (by decide))) (by omega) (by omega) f2 f3
      · refine v_aload0 d_Re_readDeed_63 ?_
        refine v_iconst d_Re_readDeed_64 ?_
        refine v_gVV1 d_Re_readDeed_65 l_Re_46 k_Re_remark (c_Re_remark (by omega) (FPt.of hf (f1 30 (by decide)))) (sh_45 T) rfl (by decide) (by decide) (Nat.le_of_ble_eq_true rfl) (Nat.zero_le _) (Nat.zero_le _) (fun z65 s65 e65 => ?_)
        exact c_Re_readDeed_68 hR hp hx hkp hK hf hM h38 (by rw [e65.1 45 (by decide)]; exact hQ) (by rw [e65.1 45 (by decide)]; exact h6) (fun k hk => by rw [e65.1 k (by omega)]; exact f1 k (by omega)) (by rw [e65.2.1, f1 30 (by decide)]) (by rw [dFp, if_pos ⟨by omega, u60⟩]; have h9 := e65.2.2; rw [hQ.2.2.1] at h9; exact h9) (by omega) (by omega) (fun i hi => by rw [e65.1 23 (by decide)]; exact f2 i hi) (fun y => by rw [e65.1 23 (by decide)]; exact f3 y)
    · refine v_iconst d_Re_readDeed_53 ?_
      first
      | (exact v_zreturn hM d_Re_readDeed_54 (Or.inr rfl) ⟨rfl, b01_1 ⟨h38, Or.inl (by omega)⟩, fun _ => by rw [dF, if_pos (by omega)]; exact hQ, fun z => absurd ⟨h38, Or.inl (by omega)⟩ z, h6, ⟨fun k hk => by rw [f1 k (by omega)], by rw [f1 30 (by decide)]⟩, (AG.d (fun k hk => f1 k (by omega)) f2), fun k hk => f1 k (by omega), fun _ => by rw [dFp, if_neg (by omega)]; exact FPt.of hf (f1 30 (by decide)), fun _ y => ⟨f3 y, fun z => by omega⟩⟩)
      | (exact v_zreturn hM d_Re_readDeed_54 (Or.inl rfl) ⟨rfl, b01_0 (by omega), fun z => absurd z (by omega), fun z => by rw [dEn, if_neg (by omega), if_pos (by omega)]; exact hQ, h6, ⟨fun k hk => by rw [f1 k (by omega)], by rw [f1 30 (by decide)]⟩, (AG.d (fun k hk => f1 k (by omega)) f2), fun k hk => f1 k (by omega), fun z => absurd z (by omega), fun z => absurd z (by omega)⟩)
  · refine v_iconst d_Re_readDeed_42 ?_
    first
    | (exact v_zreturn hM d_Re_readDeed_43 (Or.inr rfl) ⟨rfl, b01_1 ⟨h38, Or.inl (by omega)⟩, fun _ => by rw [dF, if_pos (by omega)]; exact hQ, fun z => absurd ⟨h38, Or.inl (by omega)⟩ z, h6, ⟨fun k hk => by rw [f1 k (by omega)], by rw [f1 30 (by decide)]⟩, (AG.d (fun k hk => f1 k (by omega)) f2), fun k hk => f1 k (by omega), fun _ => by rw [dFp, if_neg (by omega)]; exact FPt.of hf (f1 30 (by decide)), fun _ y => ⟨f3 y, fun z => by omega⟩⟩)
    | (exact v_zreturn hM d_Re_readDeed_43 (Or.inl rfl) ⟨rfl, b01_0 (by omega), fun z => absurd z (by omega), fun z => by rw [dEn, if_neg (by omega), if_pos (by omega)]; exact hQ, h6, ⟨fun k hk => by rw [f1 k (by omega)], by rw [f1 30 (by decide)]⟩, (AG.d (fun k hk => f1 k (by omega)) f2), fun k hk => f1 k (by omega), fun z => absurd z (by omega), fun z => absurd z (by omega)⟩)

theorem c_Re_readDeed {T : vSh} {σ : vMem} {L d x kp : Int} {b : Int → Int} {gp : FP} (hR : RK σ b L) (hp : 0 ≤ d ∧ d ≤ 500) (hx : 0 ≤ x ∧ x < 64 ∨ kp = 0) (hkp : kp = 0 ∨ kp = 1) (hK : RkP b d (σ 45)) (hf : FPt σ gp) : mt_Re_readDeed [.ref 45, .int (iI x), .int (iI kp)] (S0 ++ T) σ (rP (S0 ++ T) (fun z σ2 => z = b01 (dHas b d) ∧ (dHas b d → RkP b (dF b d) (σ2 45)) ∧ (¬ dHas b d → RkP b (dEn b d) (σ2 45)) ∧ σ2 45 6 = σ 45 6 ∧ FK σ σ2 ∧ AG σ σ2 x ∧ (∀ k : Nat, 25 ≤ k ∧ k ≤ 29 → σ2 k = σ k) ∧ (dHas b d → FPt σ2 (dFp b d gp)) ∧ (dHas b d → kp = 1 → σ2 23 x = tkF b d ∧ (tkF b d ≠ 8 → σ2 24 x = dNm b d)))) := by
  refine vMet.intro 1 (by decide +kernel) (Nat.le_of_ble_eq_true rfl) rfl (fun cx hM _ => ?_)
  obtain ⟨k2, k3, k4, k5⟩ := id hK
  have hnx := nxF_rng hR.2.1 hp
  have hn2 := nxF_rng hR.2.1 (p := nxF b d) (by omega)
  have htk := tkF_rng b d
  have htk2 := tkF_rng b (nxF b d)
  refine v_aload0 d_Re_readDeed_0 ?_
  refine v_getJ (ji := 3) d_Re_readDeed_1 f_Re_34 (sh_45 T) rfl rfl (fun g1 => ?_)
  rw [k3] at g1 ⊢
  refine v_istore3 d_Re_readDeed_4 (by decide) rfl ?_
  refine v_iload3 d_Re_readDeed_5 ?_
  refine v_iconst d_Re_readDeed_6 ?_
  refine v_icmp_lt d_Re_readDeed_7 (by omega) (by omega) (fun u7 => ?_) (fun u7 => ?_)
  · refine v_iconst d_Re_readDeed_16 ?_
    exact v_zreturn hM d_Re_readDeed_17 (Or.inl rfl) ⟨rfl, b01_0 (by omega), fun z => absurd z (by omega), fun z => by rw [dEn, if_pos (by omega)]; exact hK, rfl, FK.rfl', AG.rfl', fun k hk => rfl, fun z => absurd z (by omega), fun z => absurd z (by omega)⟩
  · refine v_iload3 d_Re_readDeed_10 ?_
    refine v_bipush d_Re_readDeed_11 rfl ?_
    refine v_icmp_le d_Re_readDeed_13 (by omega) (by omega) (fun u13 => ?_) (fun u13 => ?_)
    · refine v_aload0 d_Re_readDeed_18 ?_
      refine v_gVV0 d_Re_readDeed_19 l_Re_31 k_Re_readToken (c_Re_readToken hR (by omega) k2) (sh_45 T) rfl (by decide) (by decide) (Nat.le_of_ble_eq_true rfl) (Nat.zero_le _) (Nat.zero_le _) (fun z19 s19 e19 => ?_)
      refine v_iload2 d_Re_readDeed_22 ?_
      refine v_if_eq d_Re_readDeed_23 (by omega) (fun u23 => ?_) (fun u23 => ?_)
      · exact c_Re_readDeed_36 hR hp hx hkp hK hf hM (by omega) e19.2 (e19.1.2 6 (by omega)) (fun k hk => e19.1.1 k hk.2) (fun i hi => by rw [e19.1.1 23 (by decide)]) (fun y => by omega)
      · refine v_aload0 d_Re_readDeed_26 ?_
        refine v_getR d_Re_readDeed_27 f_Re_15 (sh_45 T) rfl ?_
        refine v_getR d_Re_readDeed_30 f_Re_104 (sh_20 T) rfl ?_
        refine v_iload1 d_Re_readDeed_33 ?_
        refine v_iload3 d_Re_readDeed_34 ?_
        refine v_iastore d_Re_readDeed_35 (sh_23 T) (by omega) (by omega) ?_
        exact c_Re_readDeed_36 hR hp hx hkp hK hf hM (by omega) (by rw [vUp_ne (by decide)]; exact e19.2) (by rw [vUp_ne (by decide)]; exact e19.1.2 6 (by omega)) (fun k hk => by rw [vUp_ne hk.1]; exact e19.1.1 k hk.2) (fun i hi => by rw [vUp_ix (by omega), e19.1.1 23 (by decide)]) (fun y => by rw [vUp_same])
    · refine v_iconst d_Re_readDeed_16 ?_
      exact v_zreturn hM d_Re_readDeed_17 (Or.inl rfl) ⟨rfl, b01_0 (by omega), fun z => absurd z (by omega), fun z => by rw [dEn, if_pos (by omega)]; exact hK, rfl, FK.rfl', AG.rfl', fun k hk => rfl, fun z => absurd z (by omega), fun z => absurd z (by omega)⟩

