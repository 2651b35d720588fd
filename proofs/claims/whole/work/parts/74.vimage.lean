/-! ===== image and again of the class ===== -/
theorem IM_app {S X : vSh} {B : Nat} (h : IM S B) : IM (S ++ X) B := by
  intro j hj
  have h1 := h j hj
  have h2 : B + j < S.length := by
    have h3 : (imS B)[j]? = some ((imS B)[j]'(by rw [imS_len]; exact hj)) := List.getElem?_eq_getElem _
    rw [h3] at h1
    exact (List.getElem?_eq_some_iff.mp h1).1
  rw [List.getElem?_append_left h2]
  exact h1
theorem IM_new (S : vSh) : IM (S ++ imS S.length) S.length := by
  intro j hj
  rw [List.getElem?_append_right (by omega), show S.length + j - S.length = j by omega]
def okI (T : vSh) (σ : vMem) : Prop := ∀ k, 0 ≤ k → k ≤ 2 → σ 44 k ≠ 0 → IM (S0 ++ T) (σ 44 k).toNat ∧ 71 ≤ (σ 44 k).toNat
def rIm (T : vSh) (σ : vMem) (A : Int → Int) (k : Int) : vRT := fun z S2 σ2 => (¬ (0 ≤ k ∧ k ≤ 2) ∧ z = 0 ∧ S2 = S0 ++ T ∧ σ2 = σ) ∨ ((0 ≤ k ∧ k ≤ 2) ∧ z = 1 ∧ ((σ 44 k ≠ 0 ∧ S2 = S0 ++ T ∧ (∀ x, x < (σ 44 k).toNat + 1 ∨ (σ 44 k).toNat + 40 ≤ x → σ2 x = σ x) ∧ CRB σ2 (σ 44 k).toNat A) ∨ (σ 44 k = 0 ∧ S2 = (S0 ++ T) ++ imS (S0 ++ T).length ∧ σ2 44 = upF (σ 44) k ((S0 ++ T).length : Int) ∧ (∀ x, x < (S0 ++ T).length → x ≠ 44 → σ2 x = σ x) ∧ CRB σ2 (S0 ++ T).length A)))
theorem c_V_image {T : vSh} {σ : vMem} {A : Int → Int} (hC : CR σ A) (hO : okA A) {k : Int} (h0 : vIn k) (hT : T.length ≤ 129) (hI : okI T σ) : vMet 3 43 3199 y_V_image prog_1_method_37_code 2 (some .boolean) [.ref 0, .int (iI k)] (S0 ++ T) σ (rIm T σ A k) := by
  refine vMet.intro 0 (by decide +kernel) (Nat.le_of_ble_eq_true rfl) rfl (fun cx hM _ => ?_)
  have hlen : (S0 ++ T).length = 71 + T.length := by rw [List.length_append]; rfl
  refine v_iload1 d_V_image_0 ?_
  refine v_iconst d_V_image_1 ?_
  refine v_iconst d_V_image_2 ?_
  refine v_fSZ3 d_V_image_3 l_V_82 k_V_isWithin (c_V_isWithin (by omega) (by omega) (by omega)) (by decide) (by decide) (Nat.le_of_ble_eq_true rfl) (Nat.zero_le _) (Nat.zero_le _) (fun g3 => ?_)
  refine v_ifb_ne d_V_image_6 (fun u6 => ?_) (fun u6 => ?_)
  · refine v_aload0 d_V_image_11 ?_
    refine v_getR d_V_image_12 f_V_16 (sh_0 T) rfl ?_
    refine v_iload1 d_V_image_15 ?_
    refine v_aaload d_V_image_16 (sh_44 T) (by omega) (fun z16 => ?_) (fun z16 => ?_)
    · refine v_ifnonnullN d_V_image_17 ?_
      refine v_aload0 d_V_image_20 ?_
      refine v_getR d_V_image_21 f_V_16 (sh_0 T) rfl ?_
      refine v_iload1 d_V_image_24 ?_
      refine v_new d_V_image_25 nw_V_7 (Nat.le_of_ble_eq_true rfl) (Nat.le_of_ble_eq_true rfl) ?_
      refine v_dup d_V_image_28 rfl ?_
      refine v_callN (as := []) d_V_image_29 l_V_9 k_St_init (c_St_init (P := S0 ++ T) (B := (S0 ++ T).length) rfl) rfl (by decide) (by decide) (Nat.le_of_ble_eq_true rfl) (Nat.le_of_ble_eq_true rfl) (Nat.le_of_ble_eq_true rfl) (fun z29 S29 s29 e29 => ?_)
      obtain ⟨rfl, e29⟩ := e29
      rw [imS_eq]
      have fr29 : ∀ x, x < (S0 ++ T).length → s29 x = σ x := fun x hx => by rw [e29.1 x hx, vZ_ne (by omega)]
      have hIn := IM_new (S0 ++ T)
      have hI1 : IM ((S0 ++ T) ++ imS (S0 ++ T).length) 1 := IM_app (IM_1 T)
      have h44 : ((S0 ++ T) ++ imS (S0 ++ T).length)[44]? = some (.inl (3, 3)) := by rw [List.getElem?_append_left (by omega)]; exact sh_44 T
      have h00 : ((S0 ++ T) ++ imS (S0 ++ T).length)[0]? = (S0 ++ T)[0]? := by rw [List.getElem?_append_left (by omega)]
      refine v_aastore d_V_image_32 h44 (by omega) (im_0 hIn) (by omega) ?_
      refine v_aload0 d_V_image_33 ?_
      refine v_getR d_V_image_34 f_V_16 (h00.trans (sh_0 T)) rfl ?_
      refine v_iload1 d_V_image_37 ?_
      have v44 : vUp s29 44 k ((S0 ++ T).length : Int) 44 k = ((S0 ++ T).length : Int) := vUp_same _ _ _ _
      refine v_aaload d_V_image_38 h44 (by omega) (fun z38 => by omega) (fun z38 => ?_)
      rw [v44, Int.toNat_natCast]
      refine v_aload0 d_V_image_39 ?_
      refine v_getR d_V_image_40 f_V_10 (h00.trans (sh_0 T)) rfl ?_
      have hC9 : CRB (vUp s29 44 k ((S0 ++ T).length : Int)) 1 A := by
        refine (CRB_1 _ A).mpr (CR_off (fun x hx _ => ?_) ?_ hC)
        · rw [vUp_ne (by omega), fr29 x (by omega)]
        · rw [vUp_ne (by decide), fr29 38 (by omega)]
      refine v_gVV1 d_V_image_43 l_V_326 k_St_copyFrom (c_St_copyFrom (a := (S0 ++ T).length) (b := 1) hIn hI1 (by omega) hO hC9) (im_0 hIn) rfl (by decide) (by decide) (Nat.le_of_ble_eq_true rfl) (Nat.le_of_ble_eq_true rfl) (Nat.le_of_ble_eq_true rfl) (fun z43 s43 e43 => ?_)
      refine v_iconst d_V_image_46 ?_
      exact v_zreturn hM d_V_image_47 (Or.inr rfl) (Or.inr ⟨by omega, rfl, Or.inr ⟨z16, rfl, by rw [e43.1 44 (by omega), vUp_fn, fr29 44 (by omega)], fun x x1 x2 => by rw [e43.1 x (by omega), vUp_ne x2, fr29 x x1], e43.2⟩⟩)
    · have h9 := hI k (by omega) (by omega) z16
      refine v_ifnonnull d_V_image_17 ?_
      refine v_aload0 d_V_image_33 ?_
      refine v_getR d_V_image_34 f_V_16 (sh_0 T) rfl ?_
      refine v_iload1 d_V_image_37 ?_
      refine v_aaload d_V_image_38 (sh_44 T) (by omega) (fun z38 => by omega) (fun z38 => ?_)
      refine v_aload0 d_V_image_39 ?_
      refine v_getR d_V_image_40 f_V_10 (sh_0 T) rfl ?_
      refine v_gVV1 d_V_image_43 l_V_326 k_St_copyFrom (c_St_copyFrom (a := (σ 44 k).toNat) (b := 1) h9.1 (IM_1 T) (by omega) hO ((CRB_1 σ A).mpr hC)) (im_0 h9.1) rfl (by decide) (by decide) (Nat.le_of_ble_eq_true rfl) (Nat.le_of_ble_eq_true rfl) (Nat.le_of_ble_eq_true rfl) (fun z43 s43 e43 => ?_)
      refine v_iconst d_V_image_46 ?_
      exact v_zreturn hM d_V_image_47 (Or.inr rfl) (Or.inr ⟨by omega, rfl, Or.inl ⟨z16, rfl, e43.1, e43.2⟩⟩)
  · refine v_iconst d_V_image_9 ?_
    exact v_zreturn hM d_V_image_10 (Or.inl rfl) (Or.inl ⟨by omega, rfl, rfl, rfl⟩)
theorem c_V_again {T : vSh} {σ : vMem} {k : Int} (h0 : vIn k) (hI : okI T σ) {A : Int → Int} (hO : okA A) (hA : (0 ≤ k ∧ k ≤ 2) ∧ σ 44 k ≠ 0 → CRB σ (σ 44 k).toNat A) : mt_V_again [.ref 0, .int (iI k)] (S0 ++ T) σ (rP (S0 ++ T) (fun z σ2 => (((0 ≤ k ∧ k ≤ 2) ∧ σ 44 k ≠ 0) ∧ z = 1 ∧ (∀ x, x < 2 ∨ 41 ≤ x → σ2 x = σ x) ∧ CR σ2 A) ∨ (¬ ((0 ≤ k ∧ k ≤ 2) ∧ σ 44 k ≠ 0) ∧ z = 0 ∧ σ2 = σ))) := by
  refine vMet.intro 0 (by decide +kernel) (Nat.le_of_ble_eq_true rfl) rfl (fun cx hM _ => ?_)
  refine v_iload1 d_V_again_0 ?_
  refine v_iconst d_V_again_1 ?_
  refine v_iconst d_V_again_2 ?_
  refine v_fSZ3 d_V_again_3 l_V_82 k_V_isWithin (c_V_isWithin (by omega) (by omega) (by omega)) (by decide) (by decide) (Nat.le_of_ble_eq_true rfl) (Nat.zero_le _) (Nat.zero_le _) (fun g3 => ?_)
  refine v_ifb_eq d_V_again_6 (fun u6 => ?_) (fun u6 => ?_)
  · refine v_iconst d_V_again_18 ?_
    exact v_zreturn hM d_V_again_19 (Or.inl rfl) ⟨rfl, Or.inr ⟨fun z => u6 z.1, rfl, rfl⟩⟩
  · refine v_aload0 d_V_again_9 ?_
    refine v_getR d_V_again_10 f_V_16 (sh_0 T) rfl ?_
    refine v_iload1 d_V_again_13 ?_
    refine v_aaload d_V_again_14 (sh_44 T) (by omega) (fun z14 => ?_) (fun z14 => ?_)
    · refine v_ifnonnullN d_V_again_15 ?_
      refine v_iconst d_V_again_18 ?_
      exact v_zreturn hM d_V_again_19 (Or.inl rfl) ⟨rfl, Or.inr ⟨fun z => z.2 z14, rfl, rfl⟩⟩
    · have h9 := hI k (by omega) (by omega) z14
      refine v_ifnonnull d_V_again_15 ?_
      refine v_aload0 d_V_again_20 ?_
      refine v_getR d_V_again_21 f_V_10 (sh_0 T) rfl ?_
      refine v_aload0 d_V_again_24 ?_
      refine v_getR d_V_again_25 f_V_16 (sh_0 T) rfl ?_
      refine v_iload1 d_V_again_28 ?_
      refine v_aaload d_V_again_29 (sh_44 T) (by omega) (fun z29 => by omega) (fun z29 => ?_)
      refine v_gVV1 d_V_again_30 l_V_326 k_St_copyFrom (c_St_copyFrom (a := 1) (b := (σ 44 k).toNat) (IM_1 T) h9.1 (by omega) hO (hA ⟨by omega, z14⟩)) (sh_1 T) rfl (by decide) (by decide) (Nat.le_of_ble_eq_true rfl) (Nat.le_of_ble_eq_true rfl) (Nat.le_of_ble_eq_true rfl) (fun z30 s30 e30 => ?_)
      refine v_iconst d_V_again_33 ?_
      exact v_zreturn hM d_V_again_34 (Or.inr rfl) ⟨rfl, Or.inl ⟨⟨by omega, z14⟩, rfl, fun x hx => e30.1 x (by omega), (CRB_1 _ A).mp e30.2⟩⟩

