/-! ===== constructors ===== -/
theorem n_len {P X : vSh} {B n : Nat} (hP : P.length = B) (hX : X.length = n) : (P ++ X).length = B + n := by rw [List.length_append, hP, hX]
theorem n_get {P X : vSh} {B j : Nat} {c : vSC} (hP : P.length = B) (h : X[j]? = some c) : (P ++ X)[B + j]? = some c := by
  rw [List.getElem?_append_right (by omega), show B + j - P.length = j by omega]
  exact h
theorem n_set {P X : vSh} {B j : Nat} {c : vSC} (hP : P.length = B) : (P ++ X).set (B + j) c = P ++ X.set j c := by
  rw [List.set_append_right _ _ (by omega), show B + j - P.length = j by omega]
theorem vZ_same {σ : vMem} {k : Nat} {i : Int} : vZ σ k k i = 0 := by simp [vZ]
section
variable {cx : vCx} {own : String} {cc : ByteArray} {nL d MC MS kc ks pc pc' idx ci N : Nat} {L : List (Option Value)} {st : List Value} {σ : vMem} {P X : vSh} {B n : Nat}
theorem nv_new {fs : List vFD} (hP : P.length = B) (hX : X.length = n) (hd : vD cc pc (.new idx) 3 pc') (hw : vNw own idx ci N fs) (hkc' : kc + 1 ≤ MC) (hks' : ks + N ≤ MS) (k : vV cx own cc nL d MC MS (kc + 1) (ks + N) pc' L (.ref (B + n) :: st) (P ++ (X ++ [.inr (ci, fs)])) (vZ σ (B + n))) : vV cx own cc nL d MC MS kc ks pc L st (P ++ X) σ := by
  refine v_new hd hw hkc' hks' ?_
  rw [n_len hP hX, List.append_assoc]
  exact k
theorem nv_newarray {t m : Nat} {ty : FieldType} {at' : ArrayType} {z : Int} (hP : P.length = B) (hX : X.length = n) (hd : vD cc pc (.newarray at') 2 pc') (hty : newarray.typeOf at' = ty) (htt : (t, ty) ∈ [(0, FieldType.int), (1, FieldType.byte), (2, FieldType.boolean)]) (hw : Cond.arrayClass ty ∈ wt) (hz : z = (m : Int)) (hn0 : m ≤ 100000) (hkc' : kc + 1 ≤ MC) (hks' : ks + m ≤ MS) (k : vV cx own cc nL d MC MS (kc + 1) (ks + m) pc' L (.ref (B + n) :: st) (P ++ (X ++ [.inl (t, m)])) (vZ σ (B + n))) : vV cx own cc nL d MC MS kc ks pc L (.int (iI z) :: st) (P ++ X) σ := by
  refine v_newarray (t := t) hd hty htt hw hz hn0 hkc' hks' ?_
  rw [n_len hP hX, List.append_assoc]
  exact k
theorem nv_anewarray {m : Nat} {z : Int} (hP : P.length = B) (hX : X.length = n) (hd : vD cc pc (.anewarray idx) 3 pc') (hw : Cond.classLink own idx "VillagePay$State" ∈ wt) (hz : z = (m : Int)) (hn0 : m ≤ 100000) (hkc' : kc + 1 ≤ MC) (hks' : ks + m ≤ MS) (k : vV cx own cc nL d MC MS (kc + 1) (ks + m) pc' L (.ref (B + n) :: st) (P ++ (X ++ [.inl (3, m)])) (vZ σ (B + n))) : vV cx own cc nL d MC MS kc ks pc L (.int (iI z) :: st) (P ++ X) σ := by
  refine v_anewarray hd hw hz hn0 hkc' hks' ?_
  rw [n_len hP hX, List.append_assoc]
  exact k
theorem nv_putR {j fi q : Nat} {fs : List vFD} {ty : FieldType} {x : Option Nat} (hP : P.length = B) (hd : vD cc pc (.putfield idx) 3 pc') (hm : cx.2.2.2.2.2.2.2.2.1.name = "<init>") (hf : vPt own idx ci fi true ty) (hty : ∀ a, narrow ty (.ref a) = .ref a ∧ fits ty (.ref a) = true) (hr : X[j]? = some (.inr (ci, fs))) (hj : fs[fi]? = some (some x)) (k : vV cx own cc nL d MC MS kc ks pc' L st (P ++ X.set j (.inr (ci, fs.set fi (some (some q))))) σ) : vV cx own cc nL d MC MS kc ks pc L (.ref q :: .ref (B + j) :: st) (P ++ X) σ := by
  refine v_putR hd hm hf hty (n_get hP hr) hj ?_
  rw [n_set hP]
  exact k
end
def laS9 (B : Nat)  : vSh := [.inr (2, [none, none, some (some (B + 1)), some (some (B + 2)), some (some (B + 3)), some (some (B + 4)), some (some (B + 5)), some (some (B + 6)), some (some (B + 7))]), .inl (0, 12), .inl (0, 12), .inl (0, 12), .inl (0, 12), .inl (0, 12), .inl (0, 240), .inl (0, 20)]
theorem c_La_init {σ : vMem} {P : vSh} {B : Nat}  (hP : P.length = B) : vMet 1 7 320 y_La_init prog_5_method_1_code 1 (none) [.ref B] (P ++ [.inr (2, [none, none, some none, some none, some none, some none, some none, some none, some none])]) σ (fun _ S2 σ2 => S2 = P ++ laS9 B  ∧ (∀ k, k < B → σ2 k = σ k) ∧ σ2 B = σ B ∧ (∀ i, σ2 (B + 6) i = 0) ∧ (∀ i, 0 ≤ i → i < 20 → σ2 (B + 7) i = 100)) := by
  refine vMet.intro 0 (by decide +kernel) (Nat.le_of_ble_eq_true rfl) rfl (fun cx hM hn9 => ?_)
  have hm : cx.2.2.2.2.2.2.2.2.1.name = "<init>" := hn9.trans rfl
  refine v_aload0 d_La_init_0 ?_
  refine v_objInit d_La_init_1 lo_La_3 cw_oi cw_oc (by decide) (Nat.le_of_ble_eq_true rfl) ?_
  refine v_aload0 d_La_init_4 ?_
  refine v_bipush d_La_init_5 rfl ?_
  refine nv_newarray (n := 1) (m := 12) (t := 0) hP rfl d_La_init_7 rfl (by decide) cw_aint rfl (by decide) (Nat.le_of_ble_eq_true rfl) (Nat.le_of_ble_eq_true rfl) ?_
  show vV _ _ _ _ _ _ _ _ _ _ _ _ (P ++ [.inr (2, [none, none, some none, some none, some none, some none, some none, some none, some none]), .inl (0, 12)]) _
  refine nv_putR (j := 0) (fs := [none, none, some none, some none, some none, some none, some none, some none, some none]) hP d_La_init_9 hm p_La_9 (fun _ => ⟨rfl, rfl⟩) rfl rfl ?_
  show vV _ _ _ _ _ _ _ _ _ _ _ _ (P ++ [.inr (2, [none, none, some (some (B + 1)), some none, some none, some none, some none, some none, some none]), .inl (0, 12)]) _
  refine v_aload0 d_La_init_12 ?_
  refine v_bipush d_La_init_13 rfl ?_
  refine nv_newarray (n := 2) (m := 12) (t := 0) hP rfl d_La_init_15 rfl (by decide) cw_aint rfl (by decide) (Nat.le_of_ble_eq_true rfl) (Nat.le_of_ble_eq_true rfl) ?_
  show vV _ _ _ _ _ _ _ _ _ _ _ _ (P ++ [.inr (2, [none, none, some (some (B + 1)), some none, some none, some none, some none, some none, some none]), .inl (0, 12), .inl (0, 12)]) _
  refine nv_putR (j := 0) (fs := [none, none, some (some (B + 1)), some none, some none, some none, some none, some none, some none]) hP d_La_init_17 hm p_La_15 (fun _ => ⟨rfl, rfl⟩) rfl rfl ?_
  show vV _ _ _ _ _ _ _ _ _ _ _ _ (P ++ [.inr (2, [none, none, some (some (B + 1)), some (some (B + 2)), some none, some none, some none, some none, some none]), .inl (0, 12), .inl (0, 12)]) _
  refine v_aload0 d_La_init_20 ?_
  refine v_bipush d_La_init_21 rfl ?_
  refine nv_newarray (n := 3) (m := 12) (t := 0) hP rfl d_La_init_23 rfl (by decide) cw_aint rfl (by decide) (Nat.le_of_ble_eq_true rfl) (Nat.le_of_ble_eq_true rfl) ?_
  show vV _ _ _ _ _ _ _ _ _ _ _ _ (P ++ [.inr (2, [none, none, some (some (B + 1)), some (some (B + 2)), some none, some none, some none, some none, some none]), .inl (0, 12), .inl (0, 12), .inl (0, 12)]) _
  refine nv_putR (j := 0) (fs := [none, none, some (some (B + 1)), some (some (B + 2)), some none, some none, some none, some none, some none]) hP d_La_init_25 hm p_La_18 (fun _ => ⟨rfl, rfl⟩) rfl rfl ?_
  show vV _ _ _ _ _ _ _ _ _ _ _ _ (P ++ [.inr (2, [none, none, some (some (B + 1)), some (some (B + 2)), some (some (B + 3)), some none, some none, some none, some none]), .inl (0, 12), .inl (0, 12), .inl (0, 12)]) _
  refine v_aload0 d_La_init_28 ?_
  refine v_bipush d_La_init_29 rfl ?_
  refine nv_newarray (n := 4) (m := 12) (t := 0) hP rfl d_La_init_31 rfl (by decide) cw_aint rfl (by decide) (Nat.le_of_ble_eq_true rfl) (Nat.le_of_ble_eq_true rfl) ?_
  show vV _ _ _ _ _ _ _ _ _ _ _ _ (P ++ [.inr (2, [none, none, some (some (B + 1)), some (some (B + 2)), some (some (B + 3)), some none, some none, some none, some none]), .inl (0, 12), .inl (0, 12), .inl (0, 12), .inl (0, 12)]) _
  refine nv_putR (j := 0) (fs := [none, none, some (some (B + 1)), some (some (B + 2)), some (some (B + 3)), some none, some none, some none, some none]) hP d_La_init_33 hm p_La_21 (fun _ => ⟨rfl, rfl⟩) rfl rfl ?_
  show vV _ _ _ _ _ _ _ _ _ _ _ _ (P ++ [.inr (2, [none, none, some (some (B + 1)), some (some (B + 2)), some (some (B + 3)), some (some (B + 4)), some none, some none, some none]), .inl (0, 12), .inl (0, 12), .inl (0, 12), .inl (0, 12)]) _
  refine v_aload0 d_La_init_36 ?_
  refine v_bipush d_La_init_37 rfl ?_
  refine nv_newarray (n := 5) (m := 12) (t := 0) hP rfl d_La_init_39 rfl (by decide) cw_aint rfl (by decide) (Nat.le_of_ble_eq_true rfl) (Nat.le_of_ble_eq_true rfl) ?_
  show vV _ _ _ _ _ _ _ _ _ _ _ _ (P ++ [.inr (2, [none, none, some (some (B + 1)), some (some (B + 2)), some (some (B + 3)), some (some (B + 4)), some none, some none, some none]), .inl (0, 12), .inl (0, 12), .inl (0, 12), .inl (0, 12), .inl (0, 12)]) _
  refine nv_putR (j := 0) (fs := [none, none, some (some (B + 1)), some (some (B + 2)), some (some (B + 3)), some (some (B + 4)), some none, some none, some none]) hP d_La_init_41 hm p_La_24 (fun _ => ⟨rfl, rfl⟩) rfl rfl ?_
  show vV _ _ _ _ _ _ _ _ _ _ _ _ (P ++ [.inr (2, [none, none, some (some (B + 1)), some (some (B + 2)), some (some (B + 3)), some (some (B + 4)), some (some (B + 5)), some none, some none]), .inl (0, 12), .inl (0, 12), .inl (0, 12), .inl (0, 12), .inl (0, 12)]) _
  refine v_aload0 d_La_init_44 ?_
  refine v_sipush d_La_init_45 rfl ?_
  refine nv_newarray (n := 6) (m := 240) (t := 0) hP rfl d_La_init_48 rfl (by decide) cw_aint rfl (by decide) (Nat.le_of_ble_eq_true rfl) (Nat.le_of_ble_eq_true rfl) ?_
  show vV _ _ _ _ _ _ _ _ _ _ _ _ (P ++ [.inr (2, [none, none, some (some (B + 1)), some (some (B + 2)), some (some (B + 3)), some (some (B + 4)), some (some (B + 5)), some none, some none]), .inl (0, 12), .inl (0, 12), .inl (0, 12), .inl (0, 12), .inl (0, 12), .inl (0, 240)]) _
  refine nv_putR (j := 0) (fs := [none, none, some (some (B + 1)), some (some (B + 2)), some (some (B + 3)), some (some (B + 4)), some (some (B + 5)), some none, some none]) hP d_La_init_50 hm p_La_27 (fun _ => ⟨rfl, rfl⟩) rfl rfl ?_
  show vV _ _ _ _ _ _ _ _ _ _ _ _ (P ++ [.inr (2, [none, none, some (some (B + 1)), some (some (B + 2)), some (some (B + 3)), some (some (B + 4)), some (some (B + 5)), some (some (B + 6)), some none]), .inl (0, 12), .inl (0, 12), .inl (0, 12), .inl (0, 12), .inl (0, 12), .inl (0, 240)]) _
  refine v_aload0 d_La_init_53 ?_
  refine v_bipush d_La_init_54 rfl ?_
  refine nv_newarray (n := 7) (m := 20) (t := 0) hP rfl d_La_init_56 rfl (by decide) cw_aint rfl (by decide) (Nat.le_of_ble_eq_true rfl) (Nat.le_of_ble_eq_true rfl) ?_
  show vV _ _ _ _ _ _ _ _ _ _ _ _ (P ++ [.inr (2, [none, none, some (some (B + 1)), some (some (B + 2)), some (some (B + 3)), some (some (B + 4)), some (some (B + 5)), some (some (B + 6)), some none]), .inl (0, 12), .inl (0, 12), .inl (0, 12), .inl (0, 12), .inl (0, 12), .inl (0, 240), .inl (0, 20)]) _
  refine nv_putR (j := 0) (fs := [none, none, some (some (B + 1)), some (some (B + 2)), some (some (B + 3)), some (some (B + 4)), some (some (B + 5)), some (some (B + 6)), some none]) hP d_La_init_58 hm p_La_30 (fun _ => ⟨rfl, rfl⟩) rfl rfl ?_
  show vV _ _ _ _ _ _ _ _ _ _ _ _ (P ++ [.inr (2, [none, none, some (some (B + 1)), some (some (B + 2)), some (some (B + 3)), some (some (B + 4)), some (some (B + 5)), some (some (B + 6)), some (some (B + 7))]), .inl (0, 12), .inl (0, 12), .inl (0, 12), .inl (0, 12), .inl (0, 12), .inl (0, 240), .inl (0, 20)]) _
  refine v_aload0 d_La_init_61 ?_
  refine v_getR d_La_init_62 f_La_30 (n_get (j := 0) (c := .inr (2, [none, none, some (some (B + 1)), some (some (B + 2)), some (some (B + 3)), some (some (B + 4)), some (some (B + 5)), some (some (B + 6)), some (some (B + 7))])) hP rfl) rfl ?_
  refine v_bipush d_La_init_65 rfl ?_
  refine v_gSV2 d_La_init_67 l_La_33 k_JArr_fill (c_JArr_fill (n_get (j := 7) (c := .inl (0, 20)) hP rfl) (by decide) (by decide)) (by decide) (by decide) (Nat.le_of_ble_eq_true rfl) (Nat.le_of_ble_eq_true rfl) (Nat.le_of_ble_eq_true rfl) (fun z67 s67 e67 => ?_)
  exact v_return hM d_La_init_70 ⟨rfl, fun k hk => by (repeat (first | rw [vZ_ne (by omega)] | rw [vUp_ne (by omega)] | rw [e67.1 _ (by omega)])), by (repeat (first | rw [vZ_ne (by omega)] | rw [vUp_ne (by omega)] | rw [e67.1 _ (by omega)])), fun i => by rw [e67.1 _ (by omega), vZ_ne (by omega), vZ_same], fun i i1 i2 => by rw [e67.2 i, if_pos ⟨i1, i2⟩]⟩

def boS9 (B : Nat)  : vSh := [.inr (3, [none, some (some (B + 1)), some (some (B + 2)), some (some (B + 3)), some (some (B + 4)), none, some (some (B + 5)), some (some (B + 6)), some (some (B + 7)), some (some (B + 8)), some (some (B + 9))]), .inl (0, 10), .inl (0, 10), .inl (0, 10), .inl (0, 10), .inl (0, 100), .inl (0, 100), .inl (0, 100), .inl (0, 100), .inl (0, 100)]
theorem c_Bo_init {σ : vMem} {P : vSh} {B : Nat}  (hP : P.length = B) : vMet 1 9 540 y_Bo_init prog_3_method_1_code 1 (none) [.ref B] (P ++ [.inr (3, [none, some none, some none, some none, some none, none, some none, some none, some none, some none, some none])]) σ (fun _ S2 σ2 => S2 = P ++ boS9 B  ∧ (∀ k, k < B → σ2 k = σ k) ∧ σ2 B = σ B) := by
  refine vMet.intro 0 (by decide +kernel) (Nat.le_of_ble_eq_true rfl) rfl (fun cx hM hn9 => ?_)
  have hm : cx.2.2.2.2.2.2.2.2.1.name = "<init>" := hn9.trans rfl
  refine v_aload0 d_Bo_init_0 ?_
  refine v_objInit d_Bo_init_1 lo_Bo_3 cw_oi cw_oc (by decide) (Nat.le_of_ble_eq_true rfl) ?_
  refine v_aload0 d_Bo_init_4 ?_
  refine v_bipush d_Bo_init_5 rfl ?_
  refine nv_newarray (n := 1) (m := 10) (t := 0) hP rfl d_Bo_init_7 rfl (by decide) cw_aint rfl (by decide) (Nat.le_of_ble_eq_true rfl) (Nat.le_of_ble_eq_true rfl) ?_
  show vV _ _ _ _ _ _ _ _ _ _ _ _ (P ++ [.inr (3, [none, some none, some none, some none, some none, none, some none, some none, some none, some none, some none]), .inl (0, 10)]) _
  refine nv_putR (j := 0) (fs := [none, some none, some none, some none, some none, none, some none, some none, some none, some none, some none]) hP d_Bo_init_9 hm p_Bo_9 (fun _ => ⟨rfl, rfl⟩) rfl rfl ?_
  show vV _ _ _ _ _ _ _ _ _ _ _ _ (P ++ [.inr (3, [none, some (some (B + 1)), some none, some none, some none, none, some none, some none, some none, some none, some none]), .inl (0, 10)]) _
  refine v_aload0 d_Bo_init_12 ?_
  refine v_bipush d_Bo_init_13 rfl ?_
  refine nv_newarray (n := 2) (m := 10) (t := 0) hP rfl d_Bo_init_15 rfl (by decide) cw_aint rfl (by decide) (Nat.le_of_ble_eq_true rfl) (Nat.le_of_ble_eq_true rfl) ?_
  show vV _ _ _ _ _ _ _ _ _ _ _ _ (P ++ [.inr (3, [none, some (some (B + 1)), some none, some none, some none, none, some none, some none, some none, some none, some none]), .inl (0, 10), .inl (0, 10)]) _
  refine nv_putR (j := 0) (fs := [none, some (some (B + 1)), some none, some none, some none, none, some none, some none, some none, some none, some none]) hP d_Bo_init_17 hm p_Bo_15 (fun _ => ⟨rfl, rfl⟩) rfl rfl ?_
  show vV _ _ _ _ _ _ _ _ _ _ _ _ (P ++ [.inr (3, [none, some (some (B + 1)), some (some (B + 2)), some none, some none, none, some none, some none, some none, some none, some none]), .inl (0, 10), .inl (0, 10)]) _
  refine v_aload0 d_Bo_init_20 ?_
  refine v_bipush d_Bo_init_21 rfl ?_
  refine nv_newarray (n := 3) (m := 10) (t := 0) hP rfl d_Bo_init_23 rfl (by decide) cw_aint rfl (by decide) (Nat.le_of_ble_eq_true rfl) (Nat.le_of_ble_eq_true rfl) ?_
  show vV _ _ _ _ _ _ _ _ _ _ _ _ (P ++ [.inr (3, [none, some (some (B + 1)), some (some (B + 2)), some none, some none, none, some none, some none, some none, some none, some none]), .inl (0, 10), .inl (0, 10), .inl (0, 10)]) _
  refine nv_putR (j := 0) (fs := [none, some (some (B + 1)), some (some (B + 2)), some none, some none, none, some none, some none, some none, some none, some none]) hP d_Bo_init_25 hm p_Bo_18 (fun _ => ⟨rfl, rfl⟩) rfl rfl ?_
  show vV _ _ _ _ _ _ _ _ _ _ _ _ (P ++ [.inr (3, [none, some (some (B + 1)), some (some (B + 2)), some (some (B + 3)), some none, none, some none, some none, some none, some none, some none]), .inl (0, 10), .inl (0, 10), .inl (0, 10)]) _
  refine v_aload0 d_Bo_init_28 ?_
  refine v_bipush d_Bo_init_29 rfl ?_
  refine nv_newarray (n := 4) (m := 10) (t := 0) hP rfl d_Bo_init_31 rfl (by decide) cw_aint rfl (by decide) (Nat.le_of_ble_eq_true rfl) (Nat.le_of_ble_eq_true rfl) ?_
  show vV _ _ _ _ _ _ _ _ _ _ _ _ (P ++ [.inr (3, [none, some (some (B + 1)), some (some (B + 2)), some (some (B + 3)), some none, none, some none, some none, some none, some none, some none]), .inl (0, 10), .inl (0, 10), .inl (0, 10), .inl (0, 10)]) _
  refine nv_putR (j := 0) (fs := [none, some (some (B + 1)), some (some (B + 2)), some (some (B + 3)), some none, none, some none, some none, some none, some none, some none]) hP d_Bo_init_33 hm p_Bo_21 (fun _ => ⟨rfl, rfl⟩) rfl rfl ?_
  show vV _ _ _ _ _ _ _ _ _ _ _ _ (P ++ [.inr (3, [none, some (some (B + 1)), some (some (B + 2)), some (some (B + 3)), some (some (B + 4)), none, some none, some none, some none, some none, some none]), .inl (0, 10), .inl (0, 10), .inl (0, 10), .inl (0, 10)]) _
  refine v_aload0 d_Bo_init_36 ?_
  refine v_bipush d_Bo_init_37 rfl ?_
  refine nv_newarray (n := 5) (m := 100) (t := 0) hP rfl d_Bo_init_39 rfl (by decide) cw_aint rfl (by decide) (Nat.le_of_ble_eq_true rfl) (Nat.le_of_ble_eq_true rfl) ?_
  show vV _ _ _ _ _ _ _ _ _ _ _ _ (P ++ [.inr (3, [none, some (some (B + 1)), some (some (B + 2)), some (some (B + 3)), some (some (B + 4)), none, some none, some none, some none, some none, some none]), .inl (0, 10), .inl (0, 10), .inl (0, 10), .inl (0, 10), .inl (0, 100)]) _
  refine nv_putR (j := 0) (fs := [none, some (some (B + 1)), some (some (B + 2)), some (some (B + 3)), some (some (B + 4)), none, some none, some none, some none, some none, some none]) hP d_Bo_init_41 hm p_Bo_24 (fun _ => ⟨rfl, rfl⟩) rfl rfl ?_
  show vV _ _ _ _ _ _ _ _ _ _ _ _ (P ++ [.inr (3, [none, some (some (B + 1)), some (some (B + 2)), some (some (B + 3)), some (some (B + 4)), none, some (some (B + 5)), some none, some none, some none, some none]), .inl (0, 10), .inl (0, 10), .inl (0, 10), .inl (0, 10), .inl (0, 100)]) _
  refine v_aload0 d_Bo_init_44 ?_
  refine v_bipush d_Bo_init_45 rfl ?_
  refine nv_newarray (n := 6) (m := 100) (t := 0) hP rfl d_Bo_init_47 rfl (by decide) cw_aint rfl (by decide) (Nat.le_of_ble_eq_true rfl) (Nat.le_of_ble_eq_true rfl) ?_
  show vV _ _ _ _ _ _ _ _ _ _ _ _ (P ++ [.inr (3, [none, some (some (B + 1)), some (some (B + 2)), some (some (B + 3)), some (some (B + 4)), none, some (some (B + 5)), some none, some none, some none, some none]), .inl (0, 10), .inl (0, 10), .inl (0, 10), .inl (0, 10), .inl (0, 100), .inl (0, 100)]) _
  refine nv_putR (j := 0) (fs := [none, some (some (B + 1)), some (some (B + 2)), some (some (B + 3)), some (some (B + 4)), none, some (some (B + 5)), some none, some none, some none, some none]) hP d_Bo_init_49 hm p_Bo_27 (fun _ => ⟨rfl, rfl⟩) rfl rfl ?_
  show vV _ _ _ _ _ _ _ _ _ _ _ _ (P ++ [.inr (3, [none, some (some (B + 1)), some (some (B + 2)), some (some (B + 3)), some (some (B + 4)), none, some (some (B + 5)), some (some (B + 6)), some none, some none, some none]), .inl (0, 10), .inl (0, 10), .inl (0, 10), .inl (0, 10), .inl (0, 100), .inl (0, 100)]) _
  refine v_aload0 d_Bo_init_52 ?_
  refine v_bipush d_Bo_init_53 rfl ?_
  refine nv_newarray (n := 7) (m := 100) (t := 0) hP rfl d_Bo_init_55 rfl (by decide) cw_aint rfl (by decide) (Nat.le_of_ble_eq_true rfl) (Nat.le_of_ble_eq_true rfl) ?_
  show vV _ _ _ _ _ _ _ _ _ _ _ _ (P ++ [.inr (3, [none, some (some (B + 1)), some (some (B + 2)), some (some (B + 3)), some (some (B + 4)), none, some (some (B + 5)), some (some (B + 6)), some none, some none, some none]), .inl (0, 10), .inl (0, 10), .inl (0, 10), .inl (0, 10), .inl (0, 100), .inl (0, 100), .inl (0, 100)]) _
  refine nv_putR (j := 0) (fs := [none, some (some (B + 1)), some (some (B + 2)), some (some (B + 3)), some (some (B + 4)), none, some (some (B + 5)), some (some (B + 6)), some none, some none, some none]) hP d_Bo_init_57 hm p_Bo_30 (fun _ => ⟨rfl, rfl⟩) rfl rfl ?_
  show vV _ _ _ _ _ _ _ _ _ _ _ _ (P ++ [.inr (3, [none, some (some (B + 1)), some (some (B + 2)), some (some (B + 3)), some (some (B + 4)), none, some (some (B + 5)), some (some (B + 6)), some (some (B + 7)), some none, some none]), .inl (0, 10), .inl (0, 10), .inl (0, 10), .inl (0, 10), .inl (0, 100), .inl (0, 100), .inl (0, 100)]) _
  refine v_aload0 d_Bo_init_60 ?_
  refine v_bipush d_Bo_init_61 rfl ?_
  refine nv_newarray (n := 8) (m := 100) (t := 0) hP rfl d_Bo_init_63 rfl (by decide) cw_aint rfl (by decide) (Nat.le_of_ble_eq_true rfl) (Nat.le_of_ble_eq_true rfl) ?_
  show vV _ _ _ _ _ _ _ _ _ _ _ _ (P ++ [.inr (3, [none, some (some (B + 1)), some (some (B + 2)), some (some (B + 3)), some (some (B + 4)), none, some (some (B + 5)), some (some (B + 6)), some (some (B + 7)), some none, some none]), .inl (0, 10), .inl (0, 10), .inl (0, 10), .inl (0, 10), .inl (0, 100), .inl (0, 100), .inl (0, 100), .inl (0, 100)]) _
  refine nv_putR (j := 0) (fs := [none, some (some (B + 1)), some (some (B + 2)), some (some (B + 3)), some (some (B + 4)), none, some (some (B + 5)), some (some (B + 6)), some (some (B + 7)), some none, some none]) hP d_Bo_init_65 hm p_Bo_33 (fun _ => ⟨rfl, rfl⟩) rfl rfl ?_
  show vV _ _ _ _ _ _ _ _ _ _ _ _ (P ++ [.inr (3, [none, some (some (B + 1)), some (some (B + 2)), some (some (B + 3)), some (some (B + 4)), none, some (some (B + 5)), some (some (B + 6)), some (some (B + 7)), some (some (B + 8)), some none]), .inl (0, 10), .inl (0, 10), .inl (0, 10), .inl (0, 10), .inl (0, 100), .inl (0, 100), .inl (0, 100), .inl (0, 100)]) _
  refine v_aload0 d_Bo_init_68 ?_
  refine v_bipush d_Bo_init_69 rfl ?_
  refine nv_newarray (n := 9) (m := 100) (t := 0) hP rfl d_Bo_init_71 rfl (by decide) cw_aint rfl (by decide) (Nat.le_of_ble_eq_true rfl) (Nat.le_of_ble_eq_true rfl) ?_
  show vV _ _ _ _ _ _ _ _ _ _ _ _ (P ++ [.inr (3, [none, some (some (B + 1)), some (some (B + 2)), some (some (B + 3)), some (some (B + 4)), none, some (some (B + 5)), some (some (B + 6)), some (some (B + 7)), some (some (B + 8)), some none]), .inl (0, 10), .inl (0, 10), .inl (0, 10), .inl (0, 10), .inl (0, 100), .inl (0, 100), .inl (0, 100), .inl (0, 100), .inl (0, 100)]) _
  refine nv_putR (j := 0) (fs := [none, some (some (B + 1)), some (some (B + 2)), some (some (B + 3)), some (some (B + 4)), none, some (some (B + 5)), some (some (B + 6)), some (some (B + 7)), some (some (B + 8)), some none]) hP d_Bo_init_73 hm p_Bo_36 (fun _ => ⟨rfl, rfl⟩) rfl rfl ?_
  show vV _ _ _ _ _ _ _ _ _ _ _ _ (P ++ [.inr (3, [none, some (some (B + 1)), some (some (B + 2)), some (some (B + 3)), some (some (B + 4)), none, some (some (B + 5)), some (some (B + 6)), some (some (B + 7)), some (some (B + 8)), some (some (B + 9))]), .inl (0, 10), .inl (0, 10), .inl (0, 10), .inl (0, 10), .inl (0, 100), .inl (0, 100), .inl (0, 100), .inl (0, 100), .inl (0, 100)]) _
  exact v_return hM d_Bo_init_76 ⟨rfl, fun k hk => by (repeat (first | rw [vZ_ne (by omega)] | rw [vUp_ne (by omega)])), by (repeat (first | rw [vZ_ne (by omega)] | rw [vUp_ne (by omega)]))⟩

def lwS9 (B : Nat)  : vSh := [.inr (4, [none, some (some (B + 1)), some (some (B + 2)), some (some (B + 3)), some (some (B + 4)), some (some (B + 5)), some (some (B + 6)), some (some (B + 7)), some (some (B + 8)), some (some (B + 9))]), .inl (0, 4), .inl (0, 4), .inl (0, 64), .inl (0, 64), .inl (0, 64), .inl (0, 256), .inl (0, 256), .inl (0, 256), .inl (2, 256)]
theorem c_Lw_init {σ : vMem} {P : vSh} {B : Nat}  (hP : P.length = B) : vMet 1 9 1224 y_Lw_init prog_6_method_1_code 1 (none) [.ref B] (P ++ [.inr (4, [none, some none, some none, some none, some none, some none, some none, some none, some none, some none])]) σ (fun _ S2 σ2 => S2 = P ++ lwS9 B  ∧ (∀ k, k < B → σ2 k = σ k) ∧ σ2 B = σ B) := by
  refine vMet.intro 0 (by decide +kernel) (Nat.le_of_ble_eq_true rfl) rfl (fun cx hM hn9 => ?_)
  have hm : cx.2.2.2.2.2.2.2.2.1.name = "<init>" := hn9.trans rfl
  refine v_aload0 d_Lw_init_0 ?_
  refine v_objInit d_Lw_init_1 lo_Lw_3 cw_oi cw_oc (by decide) (Nat.le_of_ble_eq_true rfl) ?_
  refine v_aload0 d_Lw_init_4 ?_
  refine v_iconst d_Lw_init_5 ?_
  refine nv_newarray (n := 1) (m := 4) (t := 0) hP rfl d_Lw_init_6 rfl (by decide) cw_aint rfl (by decide) (Nat.le_of_ble_eq_true rfl) (Nat.le_of_ble_eq_true rfl) ?_
  show vV _ _ _ _ _ _ _ _ _ _ _ _ (P ++ [.inr (4, [none, some none, some none, some none, some none, some none, some none, some none, some none, some none]), .inl (0, 4)]) _
  refine nv_putR (j := 0) (fs := [none, some none, some none, some none, some none, some none, some none, some none, some none, some none]) hP d_Lw_init_8 hm p_Lw_9 (fun _ => ⟨rfl, rfl⟩) rfl rfl ?_
  show vV _ _ _ _ _ _ _ _ _ _ _ _ (P ++ [.inr (4, [none, some (some (B + 1)), some none, some none, some none, some none, some none, some none, some none, some none]), .inl (0, 4)]) _
  refine v_aload0 d_Lw_init_11 ?_
  refine v_iconst d_Lw_init_12 ?_
  refine nv_newarray (n := 2) (m := 4) (t := 0) hP rfl d_Lw_init_13 rfl (by decide) cw_aint rfl (by decide) (Nat.le_of_ble_eq_true rfl) (Nat.le_of_ble_eq_true rfl) ?_
  show vV _ _ _ _ _ _ _ _ _ _ _ _ (P ++ [.inr (4, [none, some (some (B + 1)), some none, some none, some none, some none, some none, some none, some none, some none]), .inl (0, 4), .inl (0, 4)]) _
  refine nv_putR (j := 0) (fs := [none, some (some (B + 1)), some none, some none, some none, some none, some none, some none, some none, some none]) hP d_Lw_init_15 hm p_Lw_15 (fun _ => ⟨rfl, rfl⟩) rfl rfl ?_
  show vV _ _ _ _ _ _ _ _ _ _ _ _ (P ++ [.inr (4, [none, some (some (B + 1)), some (some (B + 2)), some none, some none, some none, some none, some none, some none, some none]), .inl (0, 4), .inl (0, 4)]) _
  refine v_aload0 d_Lw_init_18 ?_
  refine v_bipush d_Lw_init_19 rfl ?_
  refine nv_newarray (n := 3) (m := 64) (t := 0) hP rfl d_Lw_init_21 rfl (by decide) cw_aint rfl (by decide) (Nat.le_of_ble_eq_true rfl) (Nat.le_of_ble_eq_true rfl) ?_
  show vV _ _ _ _ _ _ _ _ _ _ _ _ (P ++ [.inr (4, [none, some (some (B + 1)), some (some (B + 2)), some none, some none, some none, some none, some none, some none, some none]), .inl (0, 4), .inl (0, 4), .inl (0, 64)]) _
  refine nv_putR (j := 0) (fs := [none, some (some (B + 1)), some (some (B + 2)), some none, some none, some none, some none, some none, some none, some none]) hP d_Lw_init_23 hm p_Lw_18 (fun _ => ⟨rfl, rfl⟩) rfl rfl ?_
  show vV _ _ _ _ _ _ _ _ _ _ _ _ (P ++ [.inr (4, [none, some (some (B + 1)), some (some (B + 2)), some (some (B + 3)), some none, some none, some none, some none, some none, some none]), .inl (0, 4), .inl (0, 4), .inl (0, 64)]) _
  refine v_aload0 d_Lw_init_26 ?_
  refine v_bipush d_Lw_init_27 rfl ?_
  refine nv_newarray (n := 4) (m := 64) (t := 0) hP rfl d_Lw_init_29 rfl (by decide) cw_aint rfl (by decide) (Nat.le_of_ble_eq_true rfl) (Nat.le_of_ble_eq_true rfl) ?_
  show vV _ _ _ _ _ _ _ _ _ _ _ _ (P ++ [.inr (4, [none, some (some (B + 1)), some (some (B + 2)), some (some (B + 3)), some none, some none, some none, some none, some none, some none]), .inl (0, 4), .inl (0, 4), .inl (0, 64), .inl (0, 64)]) _
  refine nv_putR (j := 0) (fs := [none, some (some (B + 1)), some (some (B + 2)), some (some (B + 3)), some none, some none, some none, some none, some none, some none]) hP d_Lw_init_31 hm p_Lw_21 (fun _ => ⟨rfl, rfl⟩) rfl rfl ?_
  show vV _ _ _ _ _ _ _ _ _ _ _ _ (P ++ [.inr (4, [none, some (some (B + 1)), some (some (B + 2)), some (some (B + 3)), some (some (B + 4)), some none, some none, some none, some none, some none]), .inl (0, 4), .inl (0, 4), .inl (0, 64), .inl (0, 64)]) _
  refine v_aload0 d_Lw_init_34 ?_
  refine v_bipush d_Lw_init_35 rfl ?_
  refine nv_newarray (n := 5) (m := 64) (t := 0) hP rfl d_Lw_init_37 rfl (by decide) cw_aint rfl (by decide) (Nat.le_of_ble_eq_true rfl) (Nat.le_of_ble_eq_true rfl) ?_
  show vV _ _ _ _ _ _ _ _ _ _ _ _ (P ++ [.inr (4, [none, some (some (B + 1)), some (some (B + 2)), some (some (B + 3)), some (some (B + 4)), some none, some none, some none, some none, some none]), .inl (0, 4), .inl (0, 4), .inl (0, 64), .inl (0, 64), .inl (0, 64)]) _
  refine nv_putR (j := 0) (fs := [none, some (some (B + 1)), some (some (B + 2)), some (some (B + 3)), some (some (B + 4)), some none, some none, some none, some none, some none]) hP d_Lw_init_39 hm p_Lw_24 (fun _ => ⟨rfl, rfl⟩) rfl rfl ?_
  show vV _ _ _ _ _ _ _ _ _ _ _ _ (P ++ [.inr (4, [none, some (some (B + 1)), some (some (B + 2)), some (some (B + 3)), some (some (B + 4)), some (some (B + 5)), some none, some none, some none, some none]), .inl (0, 4), .inl (0, 4), .inl (0, 64), .inl (0, 64), .inl (0, 64)]) _
  refine v_aload0 d_Lw_init_42 ?_
  refine v_sipush d_Lw_init_43 rfl ?_
  refine nv_newarray (n := 6) (m := 256) (t := 0) hP rfl d_Lw_init_46 rfl (by decide) cw_aint rfl (by decide) (Nat.le_of_ble_eq_true rfl) (Nat.le_of_ble_eq_true rfl) ?_
  show vV _ _ _ _ _ _ _ _ _ _ _ _ (P ++ [.inr (4, [none, some (some (B + 1)), some (some (B + 2)), some (some (B + 3)), some (some (B + 4)), some (some (B + 5)), some none, some none, some none, some none]), .inl (0, 4), .inl (0, 4), .inl (0, 64), .inl (0, 64), .inl (0, 64), .inl (0, 256)]) _
  refine nv_putR (j := 0) (fs := [none, some (some (B + 1)), some (some (B + 2)), some (some (B + 3)), some (some (B + 4)), some (some (B + 5)), some none, some none, some none, some none]) hP d_Lw_init_48 hm p_Lw_27 (fun _ => ⟨rfl, rfl⟩) rfl rfl ?_
  show vV _ _ _ _ _ _ _ _ _ _ _ _ (P ++ [.inr (4, [none, some (some (B + 1)), some (some (B + 2)), some (some (B + 3)), some (some (B + 4)), some (some (B + 5)), some (some (B + 6)), some none, some none, some none]), .inl (0, 4), .inl (0, 4), .inl (0, 64), .inl (0, 64), .inl (0, 64), .inl (0, 256)]) _
  refine v_aload0 d_Lw_init_51 ?_
  refine v_sipush d_Lw_init_52 rfl ?_
  refine nv_newarray (n := 7) (m := 256) (t := 0) hP rfl d_Lw_init_55 rfl (by decide) cw_aint rfl (by decide) (Nat.le_of_ble_eq_true rfl) (Nat.le_of_ble_eq_true rfl) ?_
  show vV _ _ _ _ _ _ _ _ _ _ _ _ (P ++ [.inr (4, [none, some (some (B + 1)), some (some (B + 2)), some (some (B + 3)), some (some (B + 4)), some (some (B + 5)), some (some (B + 6)), some none, some none, some none]), .inl (0, 4), .inl (0, 4), .inl (0, 64), .inl (0, 64), .inl (0, 64), .inl (0, 256), .inl (0, 256)]) _
  refine nv_putR (j := 0) (fs := [none, some (some (B + 1)), some (some (B + 2)), some (some (B + 3)), some (some (B + 4)), some (some (B + 5)), some (some (B + 6)), some none, some none, some none]) hP d_Lw_init_57 hm p_Lw_30 (fun _ => ⟨rfl, rfl⟩) rfl rfl ?_
  show vV _ _ _ _ _ _ _ _ _ _ _ _ (P ++ [.inr (4, [none, some (some (B + 1)), some (some (B + 2)), some (some (B + 3)), some (some (B + 4)), some (some (B + 5)), some (some (B + 6)), some (some (B + 7)), some none, some none]), .inl (0, 4), .inl (0, 4), .inl (0, 64), .inl (0, 64), .inl (0, 64), .inl (0, 256), .inl (0, 256)]) _
  refine v_aload0 d_Lw_init_60 ?_
  refine v_sipush d_Lw_init_61 rfl ?_
  refine nv_newarray (n := 8) (m := 256) (t := 0) hP rfl d_Lw_init_64 rfl (by decide) cw_aint rfl (by decide) (Nat.le_of_ble_eq_true rfl) (Nat.le_of_ble_eq_true rfl) ?_
  show vV _ _ _ _ _ _ _ _ _ _ _ _ (P ++ [.inr (4, [none, some (some (B + 1)), some (some (B + 2)), some (some (B + 3)), some (some (B + 4)), some (some (B + 5)), some (some (B + 6)), some (some (B + 7)), some none, some none]), .inl (0, 4), .inl (0, 4), .inl (0, 64), .inl (0, 64), .inl (0, 64), .inl (0, 256), .inl (0, 256), .inl (0, 256)]) _
  refine nv_putR (j := 0) (fs := [none, some (some (B + 1)), some (some (B + 2)), some (some (B + 3)), some (some (B + 4)), some (some (B + 5)), some (some (B + 6)), some (some (B + 7)), some none, some none]) hP d_Lw_init_66 hm p_Lw_33 (fun _ => ⟨rfl, rfl⟩) rfl rfl ?_
  show vV _ _ _ _ _ _ _ _ _ _ _ _ (P ++ [.inr (4, [none, some (some (B + 1)), some (some (B + 2)), some (some (B + 3)), some (some (B + 4)), some (some (B + 5)), some (some (B + 6)), some (some (B + 7)), some (some (B + 8)), some none]), .inl (0, 4), .inl (0, 4), .inl (0, 64), .inl (0, 64), .inl (0, 64), .inl (0, 256), .inl (0, 256), .inl (0, 256)]) _
  refine v_aload0 d_Lw_init_69 ?_
  refine v_sipush d_Lw_init_70 rfl ?_
  refine nv_newarray (n := 9) (m := 256) (t := 2) hP rfl d_Lw_init_73 rfl (by decide) cw_aboolean rfl (by decide) (Nat.le_of_ble_eq_true rfl) (Nat.le_of_ble_eq_true rfl) ?_
  show vV _ _ _ _ _ _ _ _ _ _ _ _ (P ++ [.inr (4, [none, some (some (B + 1)), some (some (B + 2)), some (some (B + 3)), some (some (B + 4)), some (some (B + 5)), some (some (B + 6)), some (some (B + 7)), some (some (B + 8)), some none]), .inl (0, 4), .inl (0, 4), .inl (0, 64), .inl (0, 64), .inl (0, 64), .inl (0, 256), .inl (0, 256), .inl (0, 256), .inl (2, 256)]) _
  refine nv_putR (j := 0) (fs := [none, some (some (B + 1)), some (some (B + 2)), some (some (B + 3)), some (some (B + 4)), some (some (B + 5)), some (some (B + 6)), some (some (B + 7)), some (some (B + 8)), some none]) hP d_Lw_init_75 hm p_Lw_36 (fun _ => ⟨rfl, rfl⟩) rfl rfl ?_
  show vV _ _ _ _ _ _ _ _ _ _ _ _ (P ++ [.inr (4, [none, some (some (B + 1)), some (some (B + 2)), some (some (B + 3)), some (some (B + 4)), some (some (B + 5)), some (some (B + 6)), some (some (B + 7)), some (some (B + 8)), some (some (B + 9))]), .inl (0, 4), .inl (0, 4), .inl (0, 64), .inl (0, 64), .inl (0, 64), .inl (0, 256), .inl (0, 256), .inl (0, 256), .inl (2, 256)]) _
  exact v_return hM d_Lw_init_78 ⟨rfl, fun k hk => by (repeat (first | rw [vZ_ne (by omega)] | rw [vUp_ne (by omega)])), by (repeat (first | rw [vZ_ne (by omega)] | rw [vUp_ne (by omega)]))⟩

def moS9 (B : Nat)  : vSh := [.inr (7, [none, some (some (B + 1)), some (some (B + 2)), none, some (some (B + 3)), none, some (some (B + 4)), some (some (B + 5))]), .inl (0, 12), .inl (0, 12), .inl (0, 12), .inl (0, 12), .inl (2, 12)]
theorem c_Mo_init {σ : vMem} {P : vSh} {B : Nat}  (hP : P.length = B) : vMet 1 5 60 y_Mo_init prog_7_method_1_code 1 (none) [.ref B] (P ++ [.inr (7, [none, some none, some none, none, some none, none, some none, some none])]) σ (fun _ S2 σ2 => S2 = P ++ moS9 B  ∧ (∀ k, k < B → σ2 k = σ k) ∧ σ2 B = σ B) := by
  refine vMet.intro 0 (by decide +kernel) (Nat.le_of_ble_eq_true rfl) rfl (fun cx hM hn9 => ?_)
  have hm : cx.2.2.2.2.2.2.2.2.1.name = "<init>" := hn9.trans rfl
  refine v_aload0 d_Mo_init_0 ?_
  refine v_objInit d_Mo_init_1 lo_Mo_3 cw_oi cw_oc (by decide) (Nat.le_of_ble_eq_true rfl) ?_
  refine v_aload0 d_Mo_init_4 ?_
  refine v_bipush d_Mo_init_5 rfl ?_
  refine nv_newarray (n := 1) (m := 12) (t := 0) hP rfl d_Mo_init_7 rfl (by decide) cw_aint rfl (by decide) (Nat.le_of_ble_eq_true rfl) (Nat.le_of_ble_eq_true rfl) ?_
  show vV _ _ _ _ _ _ _ _ _ _ _ _ (P ++ [.inr (7, [none, some none, some none, none, some none, none, some none, some none]), .inl (0, 12)]) _
  refine nv_putR (j := 0) (fs := [none, some none, some none, none, some none, none, some none, some none]) hP d_Mo_init_9 hm p_Mo_9 (fun _ => ⟨rfl, rfl⟩) rfl rfl ?_
  show vV _ _ _ _ _ _ _ _ _ _ _ _ (P ++ [.inr (7, [none, some (some (B + 1)), some none, none, some none, none, some none, some none]), .inl (0, 12)]) _
  refine v_aload0 d_Mo_init_12 ?_
  refine v_bipush d_Mo_init_13 rfl ?_
  refine nv_newarray (n := 2) (m := 12) (t := 0) hP rfl d_Mo_init_15 rfl (by decide) cw_aint rfl (by decide) (Nat.le_of_ble_eq_true rfl) (Nat.le_of_ble_eq_true rfl) ?_
  show vV _ _ _ _ _ _ _ _ _ _ _ _ (P ++ [.inr (7, [none, some (some (B + 1)), some none, none, some none, none, some none, some none]), .inl (0, 12), .inl (0, 12)]) _
  refine nv_putR (j := 0) (fs := [none, some (some (B + 1)), some none, none, some none, none, some none, some none]) hP d_Mo_init_17 hm p_Mo_15 (fun _ => ⟨rfl, rfl⟩) rfl rfl ?_
  show vV _ _ _ _ _ _ _ _ _ _ _ _ (P ++ [.inr (7, [none, some (some (B + 1)), some (some (B + 2)), none, some none, none, some none, some none]), .inl (0, 12), .inl (0, 12)]) _
  refine v_aload0 d_Mo_init_20 ?_
  refine v_bipush d_Mo_init_21 rfl ?_
  refine nv_newarray (n := 3) (m := 12) (t := 0) hP rfl d_Mo_init_23 rfl (by decide) cw_aint rfl (by decide) (Nat.le_of_ble_eq_true rfl) (Nat.le_of_ble_eq_true rfl) ?_
  show vV _ _ _ _ _ _ _ _ _ _ _ _ (P ++ [.inr (7, [none, some (some (B + 1)), some (some (B + 2)), none, some none, none, some none, some none]), .inl (0, 12), .inl (0, 12), .inl (0, 12)]) _
  refine nv_putR (j := 0) (fs := [none, some (some (B + 1)), some (some (B + 2)), none, some none, none, some none, some none]) hP d_Mo_init_25 hm p_Mo_18 (fun _ => ⟨rfl, rfl⟩) rfl rfl ?_
  show vV _ _ _ _ _ _ _ _ _ _ _ _ (P ++ [.inr (7, [none, some (some (B + 1)), some (some (B + 2)), none, some (some (B + 3)), none, some none, some none]), .inl (0, 12), .inl (0, 12), .inl (0, 12)]) _
  refine v_aload0 d_Mo_init_28 ?_
  refine v_bipush d_Mo_init_29 rfl ?_
  refine nv_newarray (n := 4) (m := 12) (t := 0) hP rfl d_Mo_init_31 rfl (by decide) cw_aint rfl (by decide) (Nat.le_of_ble_eq_true rfl) (Nat.le_of_ble_eq_true rfl) ?_
  show vV _ _ _ _ _ _ _ _ _ _ _ _ (P ++ [.inr (7, [none, some (some (B + 1)), some (some (B + 2)), none, some (some (B + 3)), none, some none, some none]), .inl (0, 12), .inl (0, 12), .inl (0, 12), .inl (0, 12)]) _
  refine nv_putR (j := 0) (fs := [none, some (some (B + 1)), some (some (B + 2)), none, some (some (B + 3)), none, some none, some none]) hP d_Mo_init_33 hm p_Mo_21 (fun _ => ⟨rfl, rfl⟩) rfl rfl ?_
  show vV _ _ _ _ _ _ _ _ _ _ _ _ (P ++ [.inr (7, [none, some (some (B + 1)), some (some (B + 2)), none, some (some (B + 3)), none, some (some (B + 4)), some none]), .inl (0, 12), .inl (0, 12), .inl (0, 12), .inl (0, 12)]) _
  refine v_aload0 d_Mo_init_36 ?_
  refine v_bipush d_Mo_init_37 rfl ?_
  refine nv_newarray (n := 5) (m := 12) (t := 2) hP rfl d_Mo_init_39 rfl (by decide) cw_aboolean rfl (by decide) (Nat.le_of_ble_eq_true rfl) (Nat.le_of_ble_eq_true rfl) ?_
  show vV _ _ _ _ _ _ _ _ _ _ _ _ (P ++ [.inr (7, [none, some (some (B + 1)), some (some (B + 2)), none, some (some (B + 3)), none, some (some (B + 4)), some none]), .inl (0, 12), .inl (0, 12), .inl (0, 12), .inl (0, 12), .inl (2, 12)]) _
  refine nv_putR (j := 0) (fs := [none, some (some (B + 1)), some (some (B + 2)), none, some (some (B + 3)), none, some (some (B + 4)), some none]) hP d_Mo_init_41 hm p_Mo_24 (fun _ => ⟨rfl, rfl⟩) rfl rfl ?_
  show vV _ _ _ _ _ _ _ _ _ _ _ _ (P ++ [.inr (7, [none, some (some (B + 1)), some (some (B + 2)), none, some (some (B + 3)), none, some (some (B + 4)), some (some (B + 5))]), .inl (0, 12), .inl (0, 12), .inl (0, 12), .inl (0, 12), .inl (2, 12)]) _
  exact v_return hM d_Mo_init_44 ⟨rfl, fun k hk => by (repeat (first | rw [vZ_ne (by omega)] | rw [vUp_ne (by omega)])), by (repeat (first | rw [vZ_ne (by omega)] | rw [vUp_ne (by omega)]))⟩

def taS9 (B : Nat)  : vSh := [.inr (5, [some (some (B + 1)), none, none, none]), .inl (1, 500)]
theorem c_Ta_init {σ : vMem} {P : vSh} {B : Nat}  (hP : P.length = B) : vMet 1 1 500 y_Ta_init prog_12_method_1_code 1 (none) [.ref B] (P ++ [.inr (5, [some none, none, none, none])]) σ (fun _ S2 σ2 => S2 = P ++ taS9 B  ∧ (∀ k, k < B → σ2 k = σ k) ∧ σ2 B = upF (σ B) 3 (-1) ∧ (∀ i, σ2 (B + 1) i = 0)) := by
  refine vMet.intro 0 (by decide +kernel) (Nat.le_of_ble_eq_true rfl) rfl (fun cx hM hn9 => ?_)
  have hm : cx.2.2.2.2.2.2.2.2.1.name = "<init>" := hn9.trans rfl
  refine v_aload0 d_Ta_init_0 ?_
  refine v_objInit d_Ta_init_1 lo_Ta_3 cw_oi cw_oc (by decide) (Nat.le_of_ble_eq_true rfl) ?_
  refine v_aload0 d_Ta_init_4 ?_
  refine v_sipush d_Ta_init_5 rfl ?_
  refine nv_newarray (n := 1) (m := 500) (t := 1) hP rfl d_Ta_init_8 rfl (by decide) cw_abyte rfl (by decide) (Nat.le_of_ble_eq_true rfl) (Nat.le_of_ble_eq_true rfl) ?_
  show vV _ _ _ _ _ _ _ _ _ _ _ _ (P ++ [.inr (5, [some none, none, none, none]), .inl (1, 500)]) _
  refine nv_putR (j := 0) (fs := [some none, none, none, none]) hP d_Ta_init_10 hm p_Ta_9 (fun _ => ⟨rfl, rfl⟩) rfl rfl ?_
  show vV _ _ _ _ _ _ _ _ _ _ _ _ (P ++ [.inr (5, [some (some (B + 1)), none, none, none]), .inl (1, 500)]) _
  refine v_aload0 d_Ta_init_13 ?_
  refine v_iconst d_Ta_init_14 ?_
  refine v_putJ (ji := 3) d_Ta_init_15 p_Ta_15 (n_get (j := 0) (c := .inr (5, [some (some (B + 1)), none, none, none])) hP rfl) rfl rfl (by decide) ?_
  exact v_return hM d_Ta_init_18 ⟨rfl, fun k hk => by (repeat (first | rw [vZ_ne (by omega)] | rw [vUp_ne (by omega)])), by rw [vUp_fn, vZ_ne (by omega)], fun i => by rw [vUp_ne (by omega), vZ_same]⟩

def neS9 (B : Nat) (q1 : Nat) : vSh := [.inr (6, [some (some q1), none, some (some (B + 1)), some (some (B + 2)), some (some (B + 3)), some (some (B + 4)), some (some (B + 5))]), .inl (0, 100), .inl (0, 100), .inl (0, 100), .inl (0, 100), .inl (0, 100)]
theorem c_Ne_init {σ : vMem} {P : vSh} {B : Nat} (q1 : Nat) (hP : P.length = B) : vMet 1 5 500 y_Ne_init prog_8_method_1_code 2 (none) [.ref B, .ref q1] (P ++ [.inr (6, [some none, none, some none, some none, some none, some none, some none])]) σ (fun _ S2 σ2 => S2 = P ++ neS9 B q1 ∧ (∀ k, k < B → σ2 k = σ k) ∧ σ2 B = σ B) := by
  refine vMet.intro 0 (by decide +kernel) (Nat.le_of_ble_eq_true rfl) rfl (fun cx hM hn9 => ?_)
  have hm : cx.2.2.2.2.2.2.2.2.1.name = "<init>" := hn9.trans rfl
  refine v_aload0 d_Ne_init_0 ?_
  refine v_objInit d_Ne_init_1 lo_Ne_3 cw_oi cw_oc (by decide) (Nat.le_of_ble_eq_true rfl) ?_
  refine v_aload0 d_Ne_init_4 ?_
  refine v_bipush d_Ne_init_5 rfl ?_
  refine nv_newarray (n := 1) (m := 100) (t := 0) hP rfl d_Ne_init_7 rfl (by decide) cw_aint rfl (by decide) (Nat.le_of_ble_eq_true rfl) (Nat.le_of_ble_eq_true rfl) ?_
  show vV _ _ _ _ _ _ _ _ _ _ _ _ (P ++ [.inr (6, [some none, none, some none, some none, some none, some none, some none]), .inl (0, 100)]) _
  refine nv_putR (j := 0) (fs := [some none, none, some none, some none, some none, some none, some none]) hP d_Ne_init_9 hm p_Ne_9 (fun _ => ⟨rfl, rfl⟩) rfl rfl ?_
  show vV _ _ _ _ _ _ _ _ _ _ _ _ (P ++ [.inr (6, [some none, none, some (some (B + 1)), some none, some none, some none, some none]), .inl (0, 100)]) _
  refine v_aload0 d_Ne_init_12 ?_
  refine v_bipush d_Ne_init_13 rfl ?_
  refine nv_newarray (n := 2) (m := 100) (t := 0) hP rfl d_Ne_init_15 rfl (by decide) cw_aint rfl (by decide) (Nat.le_of_ble_eq_true rfl) (Nat.le_of_ble_eq_true rfl) ?_
  show vV _ _ _ _ _ _ _ _ _ _ _ _ (P ++ [.inr (6, [some none, none, some (some (B + 1)), some none, some none, some none, some none]), .inl (0, 100), .inl (0, 100)]) _
  refine nv_putR (j := 0) (fs := [some none, none, some (some (B + 1)), some none, some none, some none, some none]) hP d_Ne_init_17 hm p_Ne_15 (fun _ => ⟨rfl, rfl⟩) rfl rfl ?_
  show vV _ _ _ _ _ _ _ _ _ _ _ _ (P ++ [.inr (6, [some none, none, some (some (B + 1)), some (some (B + 2)), some none, some none, some none]), .inl (0, 100), .inl (0, 100)]) _
  refine v_aload0 d_Ne_init_20 ?_
  refine v_bipush d_Ne_init_21 rfl ?_
  refine nv_newarray (n := 3) (m := 100) (t := 0) hP rfl d_Ne_init_23 rfl (by decide) cw_aint rfl (by decide) (Nat.le_of_ble_eq_true rfl) (Nat.le_of_ble_eq_true rfl) ?_
  show vV _ _ _ _ _ _ _ _ _ _ _ _ (P ++ [.inr (6, [some none, none, some (some (B + 1)), some (some (B + 2)), some none, some none, some none]), .inl (0, 100), .inl (0, 100), .inl (0, 100)]) _
  refine nv_putR (j := 0) (fs := [some none, none, some (some (B + 1)), some (some (B + 2)), some none, some none, some none]) hP d_Ne_init_25 hm p_Ne_18 (fun _ => ⟨rfl, rfl⟩) rfl rfl ?_
  show vV _ _ _ _ _ _ _ _ _ _ _ _ (P ++ [.inr (6, [some none, none, some (some (B + 1)), some (some (B + 2)), some (some (B + 3)), some none, some none]), .inl (0, 100), .inl (0, 100), .inl (0, 100)]) _
  refine v_aload0 d_Ne_init_28 ?_
  refine v_bipush d_Ne_init_29 rfl ?_
  refine nv_newarray (n := 4) (m := 100) (t := 0) hP rfl d_Ne_init_31 rfl (by decide) cw_aint rfl (by decide) (Nat.le_of_ble_eq_true rfl) (Nat.le_of_ble_eq_true rfl) ?_
  show vV _ _ _ _ _ _ _ _ _ _ _ _ (P ++ [.inr (6, [some none, none, some (some (B + 1)), some (some (B + 2)), some (some (B + 3)), some none, some none]), .inl (0, 100), .inl (0, 100), .inl (0, 100), .inl (0, 100)]) _
  refine nv_putR (j := 0) (fs := [some none, none, some (some (B + 1)), some (some (B + 2)), some (some (B + 3)), some none, some none]) hP d_Ne_init_33 hm p_Ne_21 (fun _ => ⟨rfl, rfl⟩) rfl rfl ?_
  show vV _ _ _ _ _ _ _ _ _ _ _ _ (P ++ [.inr (6, [some none, none, some (some (B + 1)), some (some (B + 2)), some (some (B + 3)), some (some (B + 4)), some none]), .inl (0, 100), .inl (0, 100), .inl (0, 100), .inl (0, 100)]) _
  refine v_aload0 d_Ne_init_36 ?_
  refine v_bipush d_Ne_init_37 rfl ?_
  refine nv_newarray (n := 5) (m := 100) (t := 0) hP rfl d_Ne_init_39 rfl (by decide) cw_aint rfl (by decide) (Nat.le_of_ble_eq_true rfl) (Nat.le_of_ble_eq_true rfl) ?_
  show vV _ _ _ _ _ _ _ _ _ _ _ _ (P ++ [.inr (6, [some none, none, some (some (B + 1)), some (some (B + 2)), some (some (B + 3)), some (some (B + 4)), some none]), .inl (0, 100), .inl (0, 100), .inl (0, 100), .inl (0, 100), .inl (0, 100)]) _
  refine nv_putR (j := 0) (fs := [some none, none, some (some (B + 1)), some (some (B + 2)), some (some (B + 3)), some (some (B + 4)), some none]) hP d_Ne_init_41 hm p_Ne_24 (fun _ => ⟨rfl, rfl⟩) rfl rfl ?_
  show vV _ _ _ _ _ _ _ _ _ _ _ _ (P ++ [.inr (6, [some none, none, some (some (B + 1)), some (some (B + 2)), some (some (B + 3)), some (some (B + 4)), some (some (B + 5))]), .inl (0, 100), .inl (0, 100), .inl (0, 100), .inl (0, 100), .inl (0, 100)]) _
  refine v_aload0 d_Ne_init_44 ?_
  refine v_aload1 d_Ne_init_45 ?_
  refine nv_putR (j := 0) (fs := [some none, none, some (some (B + 1)), some (some (B + 2)), some (some (B + 3)), some (some (B + 4)), some (some (B + 5))]) hP d_Ne_init_46 hm p_Ne_27 (fun _ => ⟨rfl, rfl⟩) rfl rfl ?_
  show vV _ _ _ _ _ _ _ _ _ _ _ _ (P ++ [.inr (6, [some (some q1), none, some (some (B + 1)), some (some (B + 2)), some (some (B + 3)), some (some (B + 4)), some (some (B + 5))]), .inl (0, 100), .inl (0, 100), .inl (0, 100), .inl (0, 100), .inl (0, 100)]) _
  exact v_return hM d_Ne_init_49 ⟨rfl, fun k hk => by (repeat (first | rw [vZ_ne (by omega)] | rw [vUp_ne (by omega)])), by (repeat (first | rw [vZ_ne (by omega)] | rw [vUp_ne (by omega)]))⟩

def stS9 (B : Nat)  : vSh := [.inr (1, [some (some (B + 1)), some (some (B + 9)), some (some (B + 19)), some (some (B + 29)), some (some (B + 31)), some (some (B + 37))]), .inr (2, [none, none, some (some (B + 2)), some (some (B + 3)), some (some (B + 4)), some (some (B + 5)), some (some (B + 6)), some (some (B + 7)), some (some (B + 8))]), .inl (0, 12), .inl (0, 12), .inl (0, 12), .inl (0, 12), .inl (0, 12), .inl (0, 240), .inl (0, 20), .inr (3, [none, some (some (B + 10)), some (some (B + 11)), some (some (B + 12)), some (some (B + 13)), none, some (some (B + 14)), some (some (B + 15)), some (some (B + 16)), some (some (B + 17)), some (some (B + 18))]), .inl (0, 10), .inl (0, 10), .inl (0, 10), .inl (0, 10), .inl (0, 100), .inl (0, 100), .inl (0, 100), .inl (0, 100), .inl (0, 100), .inr (4, [none, some (some (B + 20)), some (some (B + 21)), some (some (B + 22)), some (some (B + 23)), some (some (B + 24)), some (some (B + 25)), some (some (B + 26)), some (some (B + 27)), some (some (B + 28))]), .inl (0, 4), .inl (0, 4), .inl (0, 64), .inl (0, 64), .inl (0, 64), .inl (0, 256), .inl (0, 256), .inl (0, 256), .inl (2, 256), .inr (5, [some (some (B + 30)), none, none, none]), .inl (1, 500), .inr (6, [some (some (B + 1)), none, some (some (B + 32)), some (some (B + 33)), some (some (B + 34)), some (some (B + 35)), some (some (B + 36))]), .inl (0, 100), .inl (0, 100), .inl (0, 100), .inl (0, 100), .inl (0, 100), .inr (7, [none, some (some (B + 38)), some (some (B + 39)), none, some (some (B + 40)), none, some (some (B + 41)), some (some (B + 42))]), .inl (0, 12), .inl (0, 12), .inl (0, 12), .inl (0, 12), .inl (2, 12)]
theorem c_St_init {σ : vMem} {P : vSh} {B : Nat}  (hP : P.length = B) : vMet 2 42 3193 y_St_init prog_11_method_1_code 1 (none) [.ref B] (P ++ [.inr (1, [some none, some none, some none, some none, some none, some none])]) σ (fun _ S2 σ2 => S2 = P ++ stS9 B  ∧ (∀ k, k < B → σ2 k = σ k) ∧ (∀ i, σ2 (B + 1) i = 0) ∧ (∀ i, σ2 (B + 7) i = 0) ∧ (∀ i, 0 ≤ i → i < 20 → σ2 (B + 8) i = 100) ∧ (∀ i, σ2 (B + 9) i = 0) ∧ (∀ i, σ2 (B + 19) i = 0) ∧ (∀ i, i ≠ 3 → σ2 (B + 29) i = 0) ∧ σ2 (B + 29) 3 = -1 ∧ (∀ i, σ2 (B + 30) i = 0) ∧ (∀ i, σ2 (B + 31) i = 0) ∧ (∀ i, σ2 (B + 37) i = 0)) := by
  refine vMet.intro 0 (by decide +kernel) (Nat.le_of_ble_eq_true rfl) rfl (fun cx hM hn9 => ?_)
  have hm : cx.2.2.2.2.2.2.2.2.1.name = "<init>" := hn9.trans rfl
  refine v_aload0 d_St_init_0 ?_
  refine v_objInit d_St_init_1 lo_St_1 cw_oi cw_oc (by decide) (Nat.le_of_ble_eq_true rfl) ?_
  refine v_aload0 d_St_init_4 ?_
  refine nv_new (n := 1) hP rfl d_St_init_5 nw_St_7 (Nat.le_of_ble_eq_true rfl) (Nat.le_of_ble_eq_true rfl) ?_
  show vV _ _ _ _ _ _ _ _ _ _ _ _ (P ++ [.inr (1, [some none, some none, some none, some none, some none, some none]), .inr (2, [none, none, some none, some none, some none, some none, some none, some none, some none])]) _
  refine v_dup d_St_init_8 rfl ?_
  show vV _ _ _ _ _ _ _ _ _ _ _ _ (P ++ ([.inr (1, [some none, some none, some none, some none, some none, some none])] ++ [.inr (2, [none, none, some none, some none, some none, some none, some none, some none, some none])])) _
  rw [← List.append_assoc P]
  refine v_callI (as := []) d_St_init_9 l_St_9 k_La_init (c_La_init (B := B + 1)  (n_len hP rfl)) rfl (by decide) (by decide) (Nat.le_of_ble_eq_true rfl) (Nat.le_of_ble_eq_true rfl) (Nat.le_of_ble_eq_true rfl) (fun z9 S9 s9 e9 => ?_)
  obtain ⟨rfl, e9⟩ := e9
  rw [List.append_assoc]
  show vV _ _ _ _ _ _ _ _ _ _ _ _ (P ++ [.inr (1, [some none, some none, some none, some none, some none, some none]), .inr (2, [none, none, some (some (B + 2)), some (some (B + 3)), some (some (B + 4)), some (some (B + 5)), some (some (B + 6)), some (some (B + 7)), some (some (B + 8))]), .inl (0, 12), .inl (0, 12), .inl (0, 12), .inl (0, 12), .inl (0, 12), .inl (0, 240), .inl (0, 20)]) _
  refine nv_putR (j := 0) (fs := [some none, some none, some none, some none, some none, some none]) hP d_St_init_12 hm p_St_10 (fun _ => ⟨rfl, rfl⟩) rfl rfl ?_
  show vV _ _ _ _ _ _ _ _ _ _ _ _ (P ++ [.inr (1, [some (some (B + 1)), some none, some none, some none, some none, some none]), .inr (2, [none, none, some (some (B + 2)), some (some (B + 3)), some (some (B + 4)), some (some (B + 5)), some (some (B + 6)), some (some (B + 7)), some (some (B + 8))]), .inl (0, 12), .inl (0, 12), .inl (0, 12), .inl (0, 12), .inl (0, 12), .inl (0, 240), .inl (0, 20)]) _
  refine v_aload0 d_St_init_15 ?_
  refine nv_new (n := 9) hP rfl d_St_init_16 nw_St_16 (Nat.le_of_ble_eq_true rfl) (Nat.le_of_ble_eq_true rfl) ?_
  show vV _ _ _ _ _ _ _ _ _ _ _ _ (P ++ [.inr (1, [some (some (B + 1)), some none, some none, some none, some none, some none]), .inr (2, [none, none, some (some (B + 2)), some (some (B + 3)), some (some (B + 4)), some (some (B + 5)), some (some (B + 6)), some (some (B + 7)), some (some (B + 8))]), .inl (0, 12), .inl (0, 12), .inl (0, 12), .inl (0, 12), .inl (0, 12), .inl (0, 240), .inl (0, 20), .inr (3, [none, some none, some none, some none, some none, none, some none, some none, some none, some none, some none])]) _
  refine v_dup d_St_init_19 rfl ?_
  show vV _ _ _ _ _ _ _ _ _ _ _ _ (P ++ ([.inr (1, [some (some (B + 1)), some none, some none, some none, some none, some none]), .inr (2, [none, none, some (some (B + 2)), some (some (B + 3)), some (some (B + 4)), some (some (B + 5)), some (some (B + 6)), some (some (B + 7)), some (some (B + 8))]), .inl (0, 12), .inl (0, 12), .inl (0, 12), .inl (0, 12), .inl (0, 12), .inl (0, 240), .inl (0, 20)] ++ [.inr (3, [none, some none, some none, some none, some none, none, some none, some none, some none, some none, some none])])) _
  rw [← List.append_assoc P]
  refine v_callN (as := []) d_St_init_20 l_St_18 k_Bo_init (c_Bo_init (B := B + 9)  (n_len hP rfl)) rfl (by decide) (by decide) (Nat.le_of_ble_eq_true rfl) (Nat.le_of_ble_eq_true rfl) (Nat.le_of_ble_eq_true rfl) (fun z20 S20 s20 e20 => ?_)
  obtain ⟨rfl, e20⟩ := e20
  rw [List.append_assoc]
  show vV _ _ _ _ _ _ _ _ _ _ _ _ (P ++ [.inr (1, [some (some (B + 1)), some none, some none, some none, some none, some none]), .inr (2, [none, none, some (some (B + 2)), some (some (B + 3)), some (some (B + 4)), some (some (B + 5)), some (some (B + 6)), some (some (B + 7)), some (some (B + 8))]), .inl (0, 12), .inl (0, 12), .inl (0, 12), .inl (0, 12), .inl (0, 12), .inl (0, 240), .inl (0, 20), .inr (3, [none, some (some (B + 10)), some (some (B + 11)), some (some (B + 12)), some (some (B + 13)), none, some (some (B + 14)), some (some (B + 15)), some (some (B + 16)), some (some (B + 17)), some (some (B + 18))]), .inl (0, 10), .inl (0, 10), .inl (0, 10), .inl (0, 10), .inl (0, 100), .inl (0, 100), .inl (0, 100), .inl (0, 100), .inl (0, 100)]) _
  refine nv_putR (j := 0) (fs := [some (some (B + 1)), some none, some none, some none, some none, some none]) hP d_St_init_23 hm p_St_19 (fun _ => ⟨rfl, rfl⟩) rfl rfl ?_
  show vV _ _ _ _ _ _ _ _ _ _ _ _ (P ++ [.inr (1, [some (some (B + 1)), some (some (B + 9)), some none, some none, some none, some none]), .inr (2, [none, none, some (some (B + 2)), some (some (B + 3)), some (some (B + 4)), some (some (B + 5)), some (some (B + 6)), some (some (B + 7)), some (some (B + 8))]), .inl (0, 12), .inl (0, 12), .inl (0, 12), .inl (0, 12), .inl (0, 12), .inl (0, 240), .inl (0, 20), .inr (3, [none, some (some (B + 10)), some (some (B + 11)), some (some (B + 12)), some (some (B + 13)), none, some (some (B + 14)), some (some (B + 15)), some (some (B + 16)), some (some (B + 17)), some (some (B + 18))]), .inl (0, 10), .inl (0, 10), .inl (0, 10), .inl (0, 10), .inl (0, 100), .inl (0, 100), .inl (0, 100), .inl (0, 100), .inl (0, 100)]) _
  refine v_aload0 d_St_init_26 ?_
  refine nv_new (n := 19) hP rfl d_St_init_27 nw_St_23 (Nat.le_of_ble_eq_true rfl) (Nat.le_of_ble_eq_true rfl) ?_
  show vV _ _ _ _ _ _ _ _ _ _ _ _ (P ++ [.inr (1, [some (some (B + 1)), some (some (B + 9)), some none, some none, some none, some none]), .inr (2, [none, none, some (some (B + 2)), some (some (B + 3)), some (some (B + 4)), some (some (B + 5)), some (some (B + 6)), some (some (B + 7)), some (some (B + 8))]), .inl (0, 12), .inl (0, 12), .inl (0, 12), .inl (0, 12), .inl (0, 12), .inl (0, 240), .inl (0, 20), .inr (3, [none, some (some (B + 10)), some (some (B + 11)), some (some (B + 12)), some (some (B + 13)), none, some (some (B + 14)), some (some (B + 15)), some (some (B + 16)), some (some (B + 17)), some (some (B + 18))]), .inl (0, 10), .inl (0, 10), .inl (0, 10), .inl (0, 10), .inl (0, 100), .inl (0, 100), .inl (0, 100), .inl (0, 100), .inl (0, 100), .inr (4, [none, some none, some none, some none, some none, some none, some none, some none, some none, some none])]) _
  refine v_dup d_St_init_30 rfl ?_
  show vV _ _ _ _ _ _ _ _ _ _ _ _ (P ++ ([.inr (1, [some (some (B + 1)), some (some (B + 9)), some none, some none, some none, some none]), .inr (2, [none, none, some (some (B + 2)), some (some (B + 3)), some (some (B + 4)), some (some (B + 5)), some (some (B + 6)), some (some (B + 7)), some (some (B + 8))]), .inl (0, 12), .inl (0, 12), .inl (0, 12), .inl (0, 12), .inl (0, 12), .inl (0, 240), .inl (0, 20), .inr (3, [none, some (some (B + 10)), some (some (B + 11)), some (some (B + 12)), some (some (B + 13)), none, some (some (B + 14)), some (some (B + 15)), some (some (B + 16)), some (some (B + 17)), some (some (B + 18))]), .inl (0, 10), .inl (0, 10), .inl (0, 10), .inl (0, 10), .inl (0, 100), .inl (0, 100), .inl (0, 100), .inl (0, 100), .inl (0, 100)] ++ [.inr (4, [none, some none, some none, some none, some none, some none, some none, some none, some none, some none])])) _
  rw [← List.append_assoc P]
  refine v_callN (as := []) d_St_init_31 l_St_25 k_Lw_init (c_Lw_init (B := B + 19)  (n_len hP rfl)) rfl (by decide) (by decide) (Nat.le_of_ble_eq_true rfl) (Nat.le_of_ble_eq_true rfl) (Nat.le_of_ble_eq_true rfl) (fun z31 S31 s31 e31 => ?_)
  obtain ⟨rfl, e31⟩ := e31
  rw [List.append_assoc]
  show vV _ _ _ _ _ _ _ _ _ _ _ _ (P ++ [.inr (1, [some (some (B + 1)), some (some (B + 9)), some none, some none, some none, some none]), .inr (2, [none, none, some (some (B + 2)), some (some (B + 3)), some (some (B + 4)), some (some (B + 5)), some (some (B + 6)), some (some (B + 7)), some (some (B + 8))]), .inl (0, 12), .inl (0, 12), .inl (0, 12), .inl (0, 12), .inl (0, 12), .inl (0, 240), .inl (0, 20), .inr (3, [none, some (some (B + 10)), some (some (B + 11)), some (some (B + 12)), some (some (B + 13)), none, some (some (B + 14)), some (some (B + 15)), some (some (B + 16)), some (some (B + 17)), some (some (B + 18))]), .inl (0, 10), .inl (0, 10), .inl (0, 10), .inl (0, 10), .inl (0, 100), .inl (0, 100), .inl (0, 100), .inl (0, 100), .inl (0, 100), .inr (4, [none, some (some (B + 20)), some (some (B + 21)), some (some (B + 22)), some (some (B + 23)), some (some (B + 24)), some (some (B + 25)), some (some (B + 26)), some (some (B + 27)), some (some (B + 28))]), .inl (0, 4), .inl (0, 4), .inl (0, 64), .inl (0, 64), .inl (0, 64), .inl (0, 256), .inl (0, 256), .inl (0, 256), .inl (2, 256)]) _
  refine nv_putR (j := 0) (fs := [some (some (B + 1)), some (some (B + 9)), some none, some none, some none, some none]) hP d_St_init_34 hm p_St_26 (fun _ => ⟨rfl, rfl⟩) rfl rfl ?_
  show vV _ _ _ _ _ _ _ _ _ _ _ _ (P ++ [.inr (1, [some (some (B + 1)), some (some (B + 9)), some (some (B + 19)), some none, some none, some none]), .inr (2, [none, none, some (some (B + 2)), some (some (B + 3)), some (some (B + 4)), some (some (B + 5)), some (some (B + 6)), some (some (B + 7)), some (some (B + 8))]), .inl (0, 12), .inl (0, 12), .inl (0, 12), .inl (0, 12), .inl (0, 12), .inl (0, 240), .inl (0, 20), .inr (3, [none, some (some (B + 10)), some (some (B + 11)), some (some (B + 12)), some (some (B + 13)), none, some (some (B + 14)), some (some (B + 15)), some (some (B + 16)), some (some (B + 17)), some (some (B + 18))]), .inl (0, 10), .inl (0, 10), .inl (0, 10), .inl (0, 10), .inl (0, 100), .inl (0, 100), .inl (0, 100), .inl (0, 100), .inl (0, 100), .inr (4, [none, some (some (B + 20)), some (some (B + 21)), some (some (B + 22)), some (some (B + 23)), some (some (B + 24)), some (some (B + 25)), some (some (B + 26)), some (some (B + 27)), some (some (B + 28))]), .inl (0, 4), .inl (0, 4), .inl (0, 64), .inl (0, 64), .inl (0, 64), .inl (0, 256), .inl (0, 256), .inl (0, 256), .inl (2, 256)]) _
  refine v_aload0 d_St_init_37 ?_
  refine nv_new (n := 29) hP rfl d_St_init_38 nw_St_30 (Nat.le_of_ble_eq_true rfl) (Nat.le_of_ble_eq_true rfl) ?_
  show vV _ _ _ _ _ _ _ _ _ _ _ _ (P ++ [.inr (1, [some (some (B + 1)), some (some (B + 9)), some (some (B + 19)), some none, some none, some none]), .inr (2, [none, none, some (some (B + 2)), some (some (B + 3)), some (some (B + 4)), some (some (B + 5)), some (some (B + 6)), some (some (B + 7)), some (some (B + 8))]), .inl (0, 12), .inl (0, 12), .inl (0, 12), .inl (0, 12), .inl (0, 12), .inl (0, 240), .inl (0, 20), .inr (3, [none, some (some (B + 10)), some (some (B + 11)), some (some (B + 12)), some (some (B + 13)), none, some (some (B + 14)), some (some (B + 15)), some (some (B + 16)), some (some (B + 17)), some (some (B + 18))]), .inl (0, 10), .inl (0, 10), .inl (0, 10), .inl (0, 10), .inl (0, 100), .inl (0, 100), .inl (0, 100), .inl (0, 100), .inl (0, 100), .inr (4, [none, some (some (B + 20)), some (some (B + 21)), some (some (B + 22)), some (some (B + 23)), some (some (B + 24)), some (some (B + 25)), some (some (B + 26)), some (some (B + 27)), some (some (B + 28))]), .inl (0, 4), .inl (0, 4), .inl (0, 64), .inl (0, 64), .inl (0, 64), .inl (0, 256), .inl (0, 256), .inl (0, 256), .inl (2, 256), .inr (5, [some none, none, none, none])]) _
  refine v_dup d_St_init_41 rfl ?_
  show vV _ _ _ _ _ _ _ _ _ _ _ _ (P ++ ([.inr (1, [some (some (B + 1)), some (some (B + 9)), some (some (B + 19)), some none, some none, some none]), .inr (2, [none, none, some (some (B + 2)), some (some (B + 3)), some (some (B + 4)), some (some (B + 5)), some (some (B + 6)), some (some (B + 7)), some (some (B + 8))]), .inl (0, 12), .inl (0, 12), .inl (0, 12), .inl (0, 12), .inl (0, 12), .inl (0, 240), .inl (0, 20), .inr (3, [none, some (some (B + 10)), some (some (B + 11)), some (some (B + 12)), some (some (B + 13)), none, some (some (B + 14)), some (some (B + 15)), some (some (B + 16)), some (some (B + 17)), some (some (B + 18))]), .inl (0, 10), .inl (0, 10), .inl (0, 10), .inl (0, 10), .inl (0, 100), .inl (0, 100), .inl (0, 100), .inl (0, 100), .inl (0, 100), .inr (4, [none, some (some (B + 20)), some (some (B + 21)), some (some (B + 22)), some (some (B + 23)), some (some (B + 24)), some (some (B + 25)), some (some (B + 26)), some (some (B + 27)), some (some (B + 28))]), .inl (0, 4), .inl (0, 4), .inl (0, 64), .inl (0, 64), .inl (0, 64), .inl (0, 256), .inl (0, 256), .inl (0, 256), .inl (2, 256)] ++ [.inr (5, [some none, none, none, none])])) _
  rw [← List.append_assoc P]
  refine v_callN (as := []) d_St_init_42 l_St_32 k_Ta_init (c_Ta_init (B := B + 29)  (n_len hP rfl)) rfl (by decide) (by decide) (Nat.le_of_ble_eq_true rfl) (Nat.le_of_ble_eq_true rfl) (Nat.le_of_ble_eq_true rfl) (fun z42 S42 s42 e42 => ?_)
  obtain ⟨rfl, e42⟩ := e42
  rw [List.append_assoc]
  show vV _ _ _ _ _ _ _ _ _ _ _ _ (P ++ [.inr (1, [some (some (B + 1)), some (some (B + 9)), some (some (B + 19)), some none, some none, some none]), .inr (2, [none, none, some (some (B + 2)), some (some (B + 3)), some (some (B + 4)), some (some (B + 5)), some (some (B + 6)), some (some (B + 7)), some (some (B + 8))]), .inl (0, 12), .inl (0, 12), .inl (0, 12), .inl (0, 12), .inl (0, 12), .inl (0, 240), .inl (0, 20), .inr (3, [none, some (some (B + 10)), some (some (B + 11)), some (some (B + 12)), some (some (B + 13)), none, some (some (B + 14)), some (some (B + 15)), some (some (B + 16)), some (some (B + 17)), some (some (B + 18))]), .inl (0, 10), .inl (0, 10), .inl (0, 10), .inl (0, 10), .inl (0, 100), .inl (0, 100), .inl (0, 100), .inl (0, 100), .inl (0, 100), .inr (4, [none, some (some (B + 20)), some (some (B + 21)), some (some (B + 22)), some (some (B + 23)), some (some (B + 24)), some (some (B + 25)), some (some (B + 26)), some (some (B + 27)), some (some (B + 28))]), .inl (0, 4), .inl (0, 4), .inl (0, 64), .inl (0, 64), .inl (0, 64), .inl (0, 256), .inl (0, 256), .inl (0, 256), .inl (2, 256), .inr (5, [some (some (B + 30)), none, none, none]), .inl (1, 500)]) _
  refine nv_putR (j := 0) (fs := [some (some (B + 1)), some (some (B + 9)), some (some (B + 19)), some none, some none, some none]) hP d_St_init_45 hm p_St_33 (fun _ => ⟨rfl, rfl⟩) rfl rfl ?_
  show vV _ _ _ _ _ _ _ _ _ _ _ _ (P ++ [.inr (1, [some (some (B + 1)), some (some (B + 9)), some (some (B + 19)), some (some (B + 29)), some none, some none]), .inr (2, [none, none, some (some (B + 2)), some (some (B + 3)), some (some (B + 4)), some (some (B + 5)), some (some (B + 6)), some (some (B + 7)), some (some (B + 8))]), .inl (0, 12), .inl (0, 12), .inl (0, 12), .inl (0, 12), .inl (0, 12), .inl (0, 240), .inl (0, 20), .inr (3, [none, some (some (B + 10)), some (some (B + 11)), some (some (B + 12)), some (some (B + 13)), none, some (some (B + 14)), some (some (B + 15)), some (some (B + 16)), some (some (B + 17)), some (some (B + 18))]), .inl (0, 10), .inl (0, 10), .inl (0, 10), .inl (0, 10), .inl (0, 100), .inl (0, 100), .inl (0, 100), .inl (0, 100), .inl (0, 100), .inr (4, [none, some (some (B + 20)), some (some (B + 21)), some (some (B + 22)), some (some (B + 23)), some (some (B + 24)), some (some (B + 25)), some (some (B + 26)), some (some (B + 27)), some (some (B + 28))]), .inl (0, 4), .inl (0, 4), .inl (0, 64), .inl (0, 64), .inl (0, 64), .inl (0, 256), .inl (0, 256), .inl (0, 256), .inl (2, 256), .inr (5, [some (some (B + 30)), none, none, none]), .inl (1, 500)]) _
  refine v_aload0 d_St_init_48 ?_
  refine nv_new (n := 31) hP rfl d_St_init_49 nw_St_37 (Nat.le_of_ble_eq_true rfl) (Nat.le_of_ble_eq_true rfl) ?_
  show vV _ _ _ _ _ _ _ _ _ _ _ _ (P ++ [.inr (1, [some (some (B + 1)), some (some (B + 9)), some (some (B + 19)), some (some (B + 29)), some none, some none]), .inr (2, [none, none, some (some (B + 2)), some (some (B + 3)), some (some (B + 4)), some (some (B + 5)), some (some (B + 6)), some (some (B + 7)), some (some (B + 8))]), .inl (0, 12), .inl (0, 12), .inl (0, 12), .inl (0, 12), .inl (0, 12), .inl (0, 240), .inl (0, 20), .inr (3, [none, some (some (B + 10)), some (some (B + 11)), some (some (B + 12)), some (some (B + 13)), none, some (some (B + 14)), some (some (B + 15)), some (some (B + 16)), some (some (B + 17)), some (some (B + 18))]), .inl (0, 10), .inl (0, 10), .inl (0, 10), .inl (0, 10), .inl (0, 100), .inl (0, 100), .inl (0, 100), .inl (0, 100), .inl (0, 100), .inr (4, [none, some (some (B + 20)), some (some (B + 21)), some (some (B + 22)), some (some (B + 23)), some (some (B + 24)), some (some (B + 25)), some (some (B + 26)), some (some (B + 27)), some (some (B + 28))]), .inl (0, 4), .inl (0, 4), .inl (0, 64), .inl (0, 64), .inl (0, 64), .inl (0, 256), .inl (0, 256), .inl (0, 256), .inl (2, 256), .inr (5, [some (some (B + 30)), none, none, none]), .inl (1, 500), .inr (6, [some none, none, some none, some none, some none, some none, some none])]) _
  refine v_dup d_St_init_52 rfl ?_
  refine v_aload0 d_St_init_53 ?_
  refine v_getR d_St_init_54 f_St_10 (n_get (j := 0) (c := .inr (1, [some (some (B + 1)), some (some (B + 9)), some (some (B + 19)), some (some (B + 29)), some none, some none])) hP rfl) rfl ?_
  show vV _ _ _ _ _ _ _ _ _ _ _ _ (P ++ ([.inr (1, [some (some (B + 1)), some (some (B + 9)), some (some (B + 19)), some (some (B + 29)), some none, some none]), .inr (2, [none, none, some (some (B + 2)), some (some (B + 3)), some (some (B + 4)), some (some (B + 5)), some (some (B + 6)), some (some (B + 7)), some (some (B + 8))]), .inl (0, 12), .inl (0, 12), .inl (0, 12), .inl (0, 12), .inl (0, 12), .inl (0, 240), .inl (0, 20), .inr (3, [none, some (some (B + 10)), some (some (B + 11)), some (some (B + 12)), some (some (B + 13)), none, some (some (B + 14)), some (some (B + 15)), some (some (B + 16)), some (some (B + 17)), some (some (B + 18))]), .inl (0, 10), .inl (0, 10), .inl (0, 10), .inl (0, 10), .inl (0, 100), .inl (0, 100), .inl (0, 100), .inl (0, 100), .inl (0, 100), .inr (4, [none, some (some (B + 20)), some (some (B + 21)), some (some (B + 22)), some (some (B + 23)), some (some (B + 24)), some (some (B + 25)), some (some (B + 26)), some (some (B + 27)), some (some (B + 28))]), .inl (0, 4), .inl (0, 4), .inl (0, 64), .inl (0, 64), .inl (0, 64), .inl (0, 256), .inl (0, 256), .inl (0, 256), .inl (2, 256), .inr (5, [some (some (B + 30)), none, none, none]), .inl (1, 500)] ++ [.inr (6, [some none, none, some none, some none, some none, some none, some none])])) _
  rw [← List.append_assoc P]
  refine v_callI (as := [.ref (B + 1)]) d_St_init_57 l_St_39 k_Ne_init (c_Ne_init (B := B + 31) (B + 1) (n_len hP rfl)) rfl (by decide) (by decide) (Nat.le_of_ble_eq_true rfl) (Nat.le_of_ble_eq_true rfl) (Nat.le_of_ble_eq_true rfl) (fun z57 S57 s57 e57 => ?_)
  obtain ⟨rfl, e57⟩ := e57
  rw [List.append_assoc]
  show vV _ _ _ _ _ _ _ _ _ _ _ _ (P ++ [.inr (1, [some (some (B + 1)), some (some (B + 9)), some (some (B + 19)), some (some (B + 29)), some none, some none]), .inr (2, [none, none, some (some (B + 2)), some (some (B + 3)), some (some (B + 4)), some (some (B + 5)), some (some (B + 6)), some (some (B + 7)), some (some (B + 8))]), .inl (0, 12), .inl (0, 12), .inl (0, 12), .inl (0, 12), .inl (0, 12), .inl (0, 240), .inl (0, 20), .inr (3, [none, some (some (B + 10)), some (some (B + 11)), some (some (B + 12)), some (some (B + 13)), none, some (some (B + 14)), some (some (B + 15)), some (some (B + 16)), some (some (B + 17)), some (some (B + 18))]), .inl (0, 10), .inl (0, 10), .inl (0, 10), .inl (0, 10), .inl (0, 100), .inl (0, 100), .inl (0, 100), .inl (0, 100), .inl (0, 100), .inr (4, [none, some (some (B + 20)), some (some (B + 21)), some (some (B + 22)), some (some (B + 23)), some (some (B + 24)), some (some (B + 25)), some (some (B + 26)), some (some (B + 27)), some (some (B + 28))]), .inl (0, 4), .inl (0, 4), .inl (0, 64), .inl (0, 64), .inl (0, 64), .inl (0, 256), .inl (0, 256), .inl (0, 256), .inl (2, 256), .inr (5, [some (some (B + 30)), none, none, none]), .inl (1, 500), .inr (6, [some (some (B + 1)), none, some (some (B + 32)), some (some (B + 33)), some (some (B + 34)), some (some (B + 35)), some (some (B + 36))]), .inl (0, 100), .inl (0, 100), .inl (0, 100), .inl (0, 100), .inl (0, 100)]) _
  refine nv_putR (j := 0) (fs := [some (some (B + 1)), some (some (B + 9)), some (some (B + 19)), some (some (B + 29)), some none, some none]) hP d_St_init_60 hm p_St_42 (fun _ => ⟨rfl, rfl⟩) rfl rfl ?_
  show vV _ _ _ _ _ _ _ _ _ _ _ _ (P ++ [.inr (1, [some (some (B + 1)), some (some (B + 9)), some (some (B + 19)), some (some (B + 29)), some (some (B + 31)), some none]), .inr (2, [none, none, some (some (B + 2)), some (some (B + 3)), some (some (B + 4)), some (some (B + 5)), some (some (B + 6)), some (some (B + 7)), some (some (B + 8))]), .inl (0, 12), .inl (0, 12), .inl (0, 12), .inl (0, 12), .inl (0, 12), .inl (0, 240), .inl (0, 20), .inr (3, [none, some (some (B + 10)), some (some (B + 11)), some (some (B + 12)), some (some (B + 13)), none, some (some (B + 14)), some (some (B + 15)), some (some (B + 16)), some (some (B + 17)), some (some (B + 18))]), .inl (0, 10), .inl (0, 10), .inl (0, 10), .inl (0, 10), .inl (0, 100), .inl (0, 100), .inl (0, 100), .inl (0, 100), .inl (0, 100), .inr (4, [none, some (some (B + 20)), some (some (B + 21)), some (some (B + 22)), some (some (B + 23)), some (some (B + 24)), some (some (B + 25)), some (some (B + 26)), some (some (B + 27)), some (some (B + 28))]), .inl (0, 4), .inl (0, 4), .inl (0, 64), .inl (0, 64), .inl (0, 64), .inl (0, 256), .inl (0, 256), .inl (0, 256), .inl (2, 256), .inr (5, [some (some (B + 30)), none, none, none]), .inl (1, 500), .inr (6, [some (some (B + 1)), none, some (some (B + 32)), some (some (B + 33)), some (some (B + 34)), some (some (B + 35)), some (some (B + 36))]), .inl (0, 100), .inl (0, 100), .inl (0, 100), .inl (0, 100), .inl (0, 100)]) _
  refine v_aload0 d_St_init_63 ?_
  refine nv_new (n := 37) hP rfl d_St_init_64 nw_St_46 (Nat.le_of_ble_eq_true rfl) (Nat.le_of_ble_eq_true rfl) ?_
  show vV _ _ _ _ _ _ _ _ _ _ _ _ (P ++ [.inr (1, [some (some (B + 1)), some (some (B + 9)), some (some (B + 19)), some (some (B + 29)), some (some (B + 31)), some none]), .inr (2, [none, none, some (some (B + 2)), some (some (B + 3)), some (some (B + 4)), some (some (B + 5)), some (some (B + 6)), some (some (B + 7)), some (some (B + 8))]), .inl (0, 12), .inl (0, 12), .inl (0, 12), .inl (0, 12), .inl (0, 12), .inl (0, 240), .inl (0, 20), .inr (3, [none, some (some (B + 10)), some (some (B + 11)), some (some (B + 12)), some (some (B + 13)), none, some (some (B + 14)), some (some (B + 15)), some (some (B + 16)), some (some (B + 17)), some (some (B + 18))]), .inl (0, 10), .inl (0, 10), .inl (0, 10), .inl (0, 10), .inl (0, 100), .inl (0, 100), .inl (0, 100), .inl (0, 100), .inl (0, 100), .inr (4, [none, some (some (B + 20)), some (some (B + 21)), some (some (B + 22)), some (some (B + 23)), some (some (B + 24)), some (some (B + 25)), some (some (B + 26)), some (some (B + 27)), some (some (B + 28))]), .inl (0, 4), .inl (0, 4), .inl (0, 64), .inl (0, 64), .inl (0, 64), .inl (0, 256), .inl (0, 256), .inl (0, 256), .inl (2, 256), .inr (5, [some (some (B + 30)), none, none, none]), .inl (1, 500), .inr (6, [some (some (B + 1)), none, some (some (B + 32)), some (some (B + 33)), some (some (B + 34)), some (some (B + 35)), some (some (B + 36))]), .inl (0, 100), .inl (0, 100), .inl (0, 100), .inl (0, 100), .inl (0, 100), .inr (7, [none, some none, some none, none, some none, none, some none, some none])]) _
  refine v_dup d_St_init_67 rfl ?_
  show vV _ _ _ _ _ _ _ _ _ _ _ _ (P ++ ([.inr (1, [some (some (B + 1)), some (some (B + 9)), some (some (B + 19)), some (some (B + 29)), some (some (B + 31)), some none]), .inr (2, [none, none, some (some (B + 2)), some (some (B + 3)), some (some (B + 4)), some (some (B + 5)), some (some (B + 6)), some (some (B + 7)), some (some (B + 8))]), .inl (0, 12), .inl (0, 12), .inl (0, 12), .inl (0, 12), .inl (0, 12), .inl (0, 240), .inl (0, 20), .inr (3, [none, some (some (B + 10)), some (some (B + 11)), some (some (B + 12)), some (some (B + 13)), none, some (some (B + 14)), some (some (B + 15)), some (some (B + 16)), some (some (B + 17)), some (some (B + 18))]), .inl (0, 10), .inl (0, 10), .inl (0, 10), .inl (0, 10), .inl (0, 100), .inl (0, 100), .inl (0, 100), .inl (0, 100), .inl (0, 100), .inr (4, [none, some (some (B + 20)), some (some (B + 21)), some (some (B + 22)), some (some (B + 23)), some (some (B + 24)), some (some (B + 25)), some (some (B + 26)), some (some (B + 27)), some (some (B + 28))]), .inl (0, 4), .inl (0, 4), .inl (0, 64), .inl (0, 64), .inl (0, 64), .inl (0, 256), .inl (0, 256), .inl (0, 256), .inl (2, 256), .inr (5, [some (some (B + 30)), none, none, none]), .inl (1, 500), .inr (6, [some (some (B + 1)), none, some (some (B + 32)), some (some (B + 33)), some (some (B + 34)), some (some (B + 35)), some (some (B + 36))]), .inl (0, 100), .inl (0, 100), .inl (0, 100), .inl (0, 100), .inl (0, 100)] ++ [.inr (7, [none, some none, some none, none, some none, none, some none, some none])])) _
  rw [← List.append_assoc P]
  refine v_callN (as := []) d_St_init_68 l_St_48 k_Mo_init (c_Mo_init (B := B + 37)  (n_len hP rfl)) rfl (by decide) (by decide) (Nat.le_of_ble_eq_true rfl) (Nat.le_of_ble_eq_true rfl) (Nat.le_of_ble_eq_true rfl) (fun z68 S68 s68 e68 => ?_)
  obtain ⟨rfl, e68⟩ := e68
  rw [List.append_assoc]
  show vV _ _ _ _ _ _ _ _ _ _ _ _ (P ++ [.inr (1, [some (some (B + 1)), some (some (B + 9)), some (some (B + 19)), some (some (B + 29)), some (some (B + 31)), some none]), .inr (2, [none, none, some (some (B + 2)), some (some (B + 3)), some (some (B + 4)), some (some (B + 5)), some (some (B + 6)), some (some (B + 7)), some (some (B + 8))]), .inl (0, 12), .inl (0, 12), .inl (0, 12), .inl (0, 12), .inl (0, 12), .inl (0, 240), .inl (0, 20), .inr (3, [none, some (some (B + 10)), some (some (B + 11)), some (some (B + 12)), some (some (B + 13)), none, some (some (B + 14)), some (some (B + 15)), some (some (B + 16)), some (some (B + 17)), some (some (B + 18))]), .inl (0, 10), .inl (0, 10), .inl (0, 10), .inl (0, 10), .inl (0, 100), .inl (0, 100), .inl (0, 100), .inl (0, 100), .inl (0, 100), .inr (4, [none, some (some (B + 20)), some (some (B + 21)), some (some (B + 22)), some (some (B + 23)), some (some (B + 24)), some (some (B + 25)), some (some (B + 26)), some (some (B + 27)), some (some (B + 28))]), .inl (0, 4), .inl (0, 4), .inl (0, 64), .inl (0, 64), .inl (0, 64), .inl (0, 256), .inl (0, 256), .inl (0, 256), .inl (2, 256), .inr (5, [some (some (B + 30)), none, none, none]), .inl (1, 500), .inr (6, [some (some (B + 1)), none, some (some (B + 32)), some (some (B + 33)), some (some (B + 34)), some (some (B + 35)), some (some (B + 36))]), .inl (0, 100), .inl (0, 100), .inl (0, 100), .inl (0, 100), .inl (0, 100), .inr (7, [none, some (some (B + 38)), some (some (B + 39)), none, some (some (B + 40)), none, some (some (B + 41)), some (some (B + 42))]), .inl (0, 12), .inl (0, 12), .inl (0, 12), .inl (0, 12), .inl (2, 12)]) _
  refine nv_putR (j := 0) (fs := [some (some (B + 1)), some (some (B + 9)), some (some (B + 19)), some (some (B + 29)), some (some (B + 31)), some none]) hP d_St_init_71 hm p_St_49 (fun _ => ⟨rfl, rfl⟩) rfl rfl ?_
  show vV _ _ _ _ _ _ _ _ _ _ _ _ (P ++ [.inr (1, [some (some (B + 1)), some (some (B + 9)), some (some (B + 19)), some (some (B + 29)), some (some (B + 31)), some (some (B + 37))]), .inr (2, [none, none, some (some (B + 2)), some (some (B + 3)), some (some (B + 4)), some (some (B + 5)), some (some (B + 6)), some (some (B + 7)), some (some (B + 8))]), .inl (0, 12), .inl (0, 12), .inl (0, 12), .inl (0, 12), .inl (0, 12), .inl (0, 240), .inl (0, 20), .inr (3, [none, some (some (B + 10)), some (some (B + 11)), some (some (B + 12)), some (some (B + 13)), none, some (some (B + 14)), some (some (B + 15)), some (some (B + 16)), some (some (B + 17)), some (some (B + 18))]), .inl (0, 10), .inl (0, 10), .inl (0, 10), .inl (0, 10), .inl (0, 100), .inl (0, 100), .inl (0, 100), .inl (0, 100), .inl (0, 100), .inr (4, [none, some (some (B + 20)), some (some (B + 21)), some (some (B + 22)), some (some (B + 23)), some (some (B + 24)), some (some (B + 25)), some (some (B + 26)), some (some (B + 27)), some (some (B + 28))]), .inl (0, 4), .inl (0, 4), .inl (0, 64), .inl (0, 64), .inl (0, 64), .inl (0, 256), .inl (0, 256), .inl (0, 256), .inl (2, 256), .inr (5, [some (some (B + 30)), none, none, none]), .inl (1, 500), .inr (6, [some (some (B + 1)), none, some (some (B + 32)), some (some (B + 33)), some (some (B + 34)), some (some (B + 35)), some (some (B + 36))]), .inl (0, 100), .inl (0, 100), .inl (0, 100), .inl (0, 100), .inl (0, 100), .inr (7, [none, some (some (B + 38)), some (some (B + 39)), none, some (some (B + 40)), none, some (some (B + 41)), some (some (B + 42))]), .inl (0, 12), .inl (0, 12), .inl (0, 12), .inl (0, 12), .inl (2, 12)]) _
  exact v_return hM d_St_init_74 ⟨rfl, fun k hk => by (repeat (first | rw [vZ_ne (by omega)] | rw [vUp_ne (by omega)] | rw [e68.1 _ (by omega)] | rw [e68 _ (by omega)] | rw [e57.1 _ (by omega)] | rw [e57 _ (by omega)] | rw [e42.1 _ (by omega)] | rw [e42 _ (by omega)] | rw [e31.1 _ (by omega)] | rw [e31 _ (by omega)] | rw [e20.1 _ (by omega)] | rw [e20 _ (by omega)] | rw [e9.1 _ (by omega)] | rw [e9 _ (by omega)])), fun i => by (repeat (first | rw [vZ_ne (by omega)] | rw [vUp_ne (by omega)] | rw [e68.1 _ (by omega)] | rw [e68 _ (by omega)] | rw [e57.1 _ (by omega)] | rw [e57 _ (by omega)] | rw [e42.1 _ (by omega)] | rw [e42 _ (by omega)] | rw [e31.1 _ (by omega)] | rw [e31 _ (by omega)] | rw [e20.1 _ (by omega)] | rw [e20 _ (by omega)] | rw [e9.1 _ (by omega)] | rw [e9 _ (by omega)])); rw [e9.2.1]; exact vZ_same, fun i => by (repeat (first | rw [vZ_ne (by omega)] | rw [vUp_ne (by omega)] | rw [e68.1 _ (by omega)] | rw [e68 _ (by omega)] | rw [e57.1 _ (by omega)] | rw [e57 _ (by omega)] | rw [e42.1 _ (by omega)] | rw [e42 _ (by omega)] | rw [e31.1 _ (by omega)] | rw [e31 _ (by omega)] | rw [e20.1 _ (by omega)] | rw [e20 _ (by omega)] | rw [e9.1 _ (by omega)] | rw [e9 _ (by omega)])); exact e9.2.2.1 i, fun i i1 i2 => by (repeat (first | rw [vZ_ne (by omega)] | rw [vUp_ne (by omega)] | rw [e68.1 _ (by omega)] | rw [e68 _ (by omega)] | rw [e57.1 _ (by omega)] | rw [e57 _ (by omega)] | rw [e42.1 _ (by omega)] | rw [e42 _ (by omega)] | rw [e31.1 _ (by omega)] | rw [e31 _ (by omega)] | rw [e20.1 _ (by omega)] | rw [e20 _ (by omega)] | rw [e9.1 _ (by omega)] | rw [e9 _ (by omega)])); exact e9.2.2.2 i i1 i2, fun i => by (repeat (first | rw [vZ_ne (by omega)] | rw [vUp_ne (by omega)] | rw [e68.1 _ (by omega)] | rw [e68 _ (by omega)] | rw [e57.1 _ (by omega)] | rw [e57 _ (by omega)] | rw [e42.1 _ (by omega)] | rw [e42 _ (by omega)] | rw [e31.1 _ (by omega)] | rw [e31 _ (by omega)] | rw [e20.1 _ (by omega)] | rw [e20 _ (by omega)] | rw [e9.1 _ (by omega)] | rw [e9 _ (by omega)])); rw [e20.2]; exact vZ_same, fun i => by (repeat (first | rw [vZ_ne (by omega)] | rw [vUp_ne (by omega)] | rw [e68.1 _ (by omega)] | rw [e68 _ (by omega)] | rw [e57.1 _ (by omega)] | rw [e57 _ (by omega)] | rw [e42.1 _ (by omega)] | rw [e42 _ (by omega)] | rw [e31.1 _ (by omega)] | rw [e31 _ (by omega)] | rw [e20.1 _ (by omega)] | rw [e20 _ (by omega)] | rw [e9.1 _ (by omega)] | rw [e9 _ (by omega)])); rw [e31.2]; exact vZ_same, fun i hi => by (repeat (first | rw [vZ_ne (by omega)] | rw [vUp_ne (by omega)] | rw [e68.1 _ (by omega)] | rw [e68 _ (by omega)] | rw [e57.1 _ (by omega)] | rw [e57 _ (by omega)] | rw [e42.1 _ (by omega)] | rw [e42 _ (by omega)] | rw [e31.1 _ (by omega)] | rw [e31 _ (by omega)] | rw [e20.1 _ (by omega)] | rw [e20 _ (by omega)] | rw [e9.1 _ (by omega)] | rw [e9 _ (by omega)])); rw [e42.2.1, upF_n hi]; exact vZ_same, by (repeat (first | rw [vZ_ne (by omega)] | rw [vUp_ne (by omega)] | rw [e68.1 _ (by omega)] | rw [e68 _ (by omega)] | rw [e57.1 _ (by omega)] | rw [e57 _ (by omega)] | rw [e42.1 _ (by omega)] | rw [e42 _ (by omega)] | rw [e31.1 _ (by omega)] | rw [e31 _ (by omega)] | rw [e20.1 _ (by omega)] | rw [e20 _ (by omega)] | rw [e9.1 _ (by omega)] | rw [e9 _ (by omega)])); rw [e42.2.1, upF_s], fun i => by (repeat (first | rw [vZ_ne (by omega)] | rw [vUp_ne (by omega)] | rw [e68.1 _ (by omega)] | rw [e68 _ (by omega)] | rw [e57.1 _ (by omega)] | rw [e57 _ (by omega)] | rw [e42.1 _ (by omega)] | rw [e42 _ (by omega)] | rw [e31.1 _ (by omega)] | rw [e31 _ (by omega)] | rw [e20.1 _ (by omega)] | rw [e20 _ (by omega)] | rw [e9.1 _ (by omega)] | rw [e9 _ (by omega)])); exact e42.2.2 i, fun i => by (repeat (first | rw [vZ_ne (by omega)] | rw [vUp_ne (by omega)] | rw [e68.1 _ (by omega)] | rw [e68 _ (by omega)] | rw [e57.1 _ (by omega)] | rw [e57 _ (by omega)] | rw [e42.1 _ (by omega)] | rw [e42 _ (by omega)] | rw [e31.1 _ (by omega)] | rw [e31 _ (by omega)] | rw [e20.1 _ (by omega)] | rw [e20 _ (by omega)] | rw [e9.1 _ (by omega)] | rw [e9 _ (by omega)])); rw [e57.2]; exact vZ_same, fun i => by (repeat (first | rw [vZ_ne (by omega)] | rw [vUp_ne (by omega)] | rw [e68.1 _ (by omega)] | rw [e68 _ (by omega)] | rw [e57.1 _ (by omega)] | rw [e57 _ (by omega)] | rw [e42.1 _ (by omega)] | rw [e42 _ (by omega)] | rw [e31.1 _ (by omega)] | rw [e31 _ (by omega)] | rw [e20.1 _ (by omega)] | rw [e20 _ (by omega)] | rw [e9.1 _ (by omega)] | rw [e9 _ (by omega)])); rw [e68.2]; exact vZ_same⟩

def reS9 (B : Nat) (q1 : Nat) (q2 : Nat) : vSh := [.inr (8, [some (some q1), some (some q2), none, none, none, none, none])]
theorem c_Re_init {σ : vMem} {P : vSh} {B : Nat} (q1 : Nat) (q2 : Nat) (hP : P.length = B) : vMet 1 0 0 y_Re_init prog_9_method_1_code 3 (none) [.ref B, .ref q1, .ref q2] (P ++ [.inr (8, [some none, some none, none, none, none, none, none])]) σ (fun _ S2 σ2 => S2 = P ++ reS9 B q1 q2 ∧ (∀ k, k < B → σ2 k = σ k)) := by
  refine vMet.intro 0 (by decide +kernel) (Nat.le_of_ble_eq_true rfl) rfl (fun cx hM hn9 => ?_)
  have hm : cx.2.2.2.2.2.2.2.2.1.name = "<init>" := hn9.trans rfl
  refine v_aload0 d_Re_init_0 ?_
  refine v_objInit d_Re_init_1 lo_Re_3 cw_oi cw_oc (by decide) (Nat.le_of_ble_eq_true rfl) ?_
  refine v_aload0 d_Re_init_4 ?_
  refine v_aload1 d_Re_init_5 ?_
  refine nv_putR (j := 0) (fs := [some none, some none, none, none, none, none, none]) hP d_Re_init_6 hm p_Re_9 (fun _ => ⟨rfl, rfl⟩) rfl rfl ?_
  show vV _ _ _ _ _ _ _ _ _ _ _ _ (P ++ [.inr (8, [some (some q1), some none, none, none, none, none, none])]) _
  refine v_aload0 d_Re_init_9 ?_
  refine v_aload2 d_Re_init_10 ?_
  refine nv_putR (j := 0) (fs := [some (some q1), some none, none, none, none, none, none]) hP d_Re_init_11 hm p_Re_15 (fun _ => ⟨rfl, rfl⟩) rfl rfl ?_
  show vV _ _ _ _ _ _ _ _ _ _ _ _ (P ++ [.inr (8, [some (some q1), some (some q2), none, none, none, none, none])]) _
  exact v_return hM d_Re_init_14 ⟨rfl, fun k hk => rfl⟩

def scS9 (B : Nat) (q1 : Nat) : vSh := [.inr (9, [some (some q1), none, none, none, none, none, none, none, none, none, none])]
theorem c_Sc_init {σ : vMem} {P : vSh} {B : Nat} (q1 : Nat) (hP : P.length = B) : vMet 1 0 0 y_Sc_init prog_10_method_1_code 2 (none) [.ref B, .ref q1] (P ++ [.inr (9, [some none, none, none, none, none, none, none, none, none, none, none])]) σ (fun _ S2 σ2 => S2 = P ++ scS9 B q1 ∧ (∀ k, k < B → σ2 k = σ k)) := by
  refine vMet.intro 0 (by decide +kernel) (Nat.le_of_ble_eq_true rfl) rfl (fun cx hM hn9 => ?_)
  have hm : cx.2.2.2.2.2.2.2.2.1.name = "<init>" := hn9.trans rfl
  refine v_aload0 d_Sc_init_0 ?_
  refine v_objInit d_Sc_init_1 lo_Sc_3 cw_oi cw_oc (by decide) (Nat.le_of_ble_eq_true rfl) ?_
  refine v_aload0 d_Sc_init_4 ?_
  refine v_aload1 d_Sc_init_5 ?_
  refine nv_putR (j := 0) (fs := [some none, none, none, none, none, none, none, none, none, none, none]) hP d_Sc_init_6 hm p_Sc_9 (fun _ => ⟨rfl, rfl⟩) rfl rfl ?_
  show vV _ _ _ _ _ _ _ _ _ _ _ _ (P ++ [.inr (9, [some (some q1), none, none, none, none, none, none, none, none, none, none])]) _
  exact v_return hM d_Sc_init_9 ⟨rfl, fun k hk => rfl⟩

def acS9 (B : Nat) (q1 : Nat) (q2 : Nat) : vSh := [.inr (10, [some (some q1), some (some q2), some (some (B + 1))]), .inl (2, 60)]
theorem c_Ac_init {σ : vMem} {P : vSh} {B : Nat} (q1 : Nat) (q2 : Nat) (hP : P.length = B) : vMet 1 1 60 y_Ac_init prog_2_method_1_code 3 (none) [.ref B, .ref q1, .ref q2] (P ++ [.inr (10, [some none, some none, some none])]) σ (fun _ S2 σ2 => S2 = P ++ acS9 B q1 q2 ∧ (∀ k, k < B → σ2 k = σ k)) := by
  refine vMet.intro 0 (by decide +kernel) (Nat.le_of_ble_eq_true rfl) rfl (fun cx hM hn9 => ?_)
  have hm : cx.2.2.2.2.2.2.2.2.1.name = "<init>" := hn9.trans rfl
  refine v_aload0 d_Ac_init_0 ?_
  refine v_objInit d_Ac_init_1 lo_Ac_3 cw_oi cw_oc (by decide) (Nat.le_of_ble_eq_true rfl) ?_
  refine v_aload0 d_Ac_init_4 ?_
  refine v_bipush d_Ac_init_5 rfl ?_
  refine nv_newarray (n := 1) (m := 60) (t := 2) hP rfl d_Ac_init_7 rfl (by decide) cw_aboolean rfl (by decide) (Nat.le_of_ble_eq_true rfl) (Nat.le_of_ble_eq_true rfl) ?_
  show vV _ _ _ _ _ _ _ _ _ _ _ _ (P ++ [.inr (10, [some none, some none, some none]), .inl (2, 60)]) _
  refine nv_putR (j := 0) (fs := [some none, some none, some none]) hP d_Ac_init_9 hm p_Ac_9 (fun _ => ⟨rfl, rfl⟩) rfl rfl ?_
  show vV _ _ _ _ _ _ _ _ _ _ _ _ (P ++ [.inr (10, [some none, some none, some (some (B + 1))]), .inl (2, 60)]) _
  refine v_aload0 d_Ac_init_12 ?_
  refine v_aload1 d_Ac_init_13 ?_
  refine nv_putR (j := 0) (fs := [some none, some none, some (some (B + 1))]) hP d_Ac_init_14 hm p_Ac_15 (fun _ => ⟨rfl, rfl⟩) rfl rfl ?_
  show vV _ _ _ _ _ _ _ _ _ _ _ _ (P ++ [.inr (10, [some (some q1), some none, some (some (B + 1))]), .inl (2, 60)]) _
  refine v_aload0 d_Ac_init_17 ?_
  refine v_aload2 d_Ac_init_18 ?_
  refine nv_putR (j := 0) (fs := [some (some q1), some none, some (some (B + 1))]) hP d_Ac_init_19 hm p_Ac_19 (fun _ => ⟨rfl, rfl⟩) rfl rfl ?_
  show vV _ _ _ _ _ _ _ _ _ _ _ _ (P ++ [.inr (10, [some (some q1), some (some q2), some (some (B + 1))]), .inl (2, 60)]) _
  exact v_return hM d_Ac_init_22 ⟨rfl, fun k hk => by (repeat (first | rw [vZ_ne (by omega)] | rw [vUp_ne (by omega)]))⟩

def deS9 (B : Nat) (q1 : Nat) (q2 : Nat) : vSh := [.inr (11, [some (some q1), some (some q2), some (some (B + 1)), some (some (B + 2)), none, some (some (B + 3)), some (some (B + 4)), some (some (B + 5)), none, none]), .inl (0, 3), .inl (0, 3), .inl (0, 7), .inl (0, 7), .inl (0, 7)]
theorem c_De_init {σ : vMem} {P : vSh} {B : Nat} (q1 : Nat) (q2 : Nat) (hP : P.length = B) : vMet 1 5 27 y_De_init prog_4_method_1_code 3 (none) [.ref B, .ref q1, .ref q2] (P ++ [.inr (11, [some none, some none, some none, some none, none, some none, some none, some none, none, none])]) σ (fun _ S2 σ2 => S2 = P ++ deS9 B q1 q2 ∧ (∀ k, k < B → σ2 k = σ k)) := by
  refine vMet.intro 0 (by decide +kernel) (Nat.le_of_ble_eq_true rfl) rfl (fun cx hM hn9 => ?_)
  have hm : cx.2.2.2.2.2.2.2.2.1.name = "<init>" := hn9.trans rfl
  refine v_aload0 d_De_init_0 ?_
  refine v_objInit d_De_init_1 lo_De_3 cw_oi cw_oc (by decide) (Nat.le_of_ble_eq_true rfl) ?_
  refine v_aload0 d_De_init_4 ?_
  refine v_iconst d_De_init_5 ?_
  refine nv_newarray (n := 1) (m := 3) (t := 0) hP rfl d_De_init_6 rfl (by decide) cw_aint rfl (by decide) (Nat.le_of_ble_eq_true rfl) (Nat.le_of_ble_eq_true rfl) ?_
  show vV _ _ _ _ _ _ _ _ _ _ _ _ (P ++ [.inr (11, [some none, some none, some none, some none, none, some none, some none, some none, none, none]), .inl (0, 3)]) _
  refine nv_putR (j := 0) (fs := [some none, some none, some none, some none, none, some none, some none, some none, none, none]) hP d_De_init_8 hm p_De_9 (fun _ => ⟨rfl, rfl⟩) rfl rfl ?_
  show vV _ _ _ _ _ _ _ _ _ _ _ _ (P ++ [.inr (11, [some none, some none, some (some (B + 1)), some none, none, some none, some none, some none, none, none]), .inl (0, 3)]) _
  refine v_aload0 d_De_init_11 ?_
  refine v_iconst d_De_init_12 ?_
  refine nv_newarray (n := 2) (m := 3) (t := 0) hP rfl d_De_init_13 rfl (by decide) cw_aint rfl (by decide) (Nat.le_of_ble_eq_true rfl) (Nat.le_of_ble_eq_true rfl) ?_
  show vV _ _ _ _ _ _ _ _ _ _ _ _ (P ++ [.inr (11, [some none, some none, some (some (B + 1)), some none, none, some none, some none, some none, none, none]), .inl (0, 3), .inl (0, 3)]) _
  refine nv_putR (j := 0) (fs := [some none, some none, some (some (B + 1)), some none, none, some none, some none, some none, none, none]) hP d_De_init_15 hm p_De_15 (fun _ => ⟨rfl, rfl⟩) rfl rfl ?_
  show vV _ _ _ _ _ _ _ _ _ _ _ _ (P ++ [.inr (11, [some none, some none, some (some (B + 1)), some (some (B + 2)), none, some none, some none, some none, none, none]), .inl (0, 3), .inl (0, 3)]) _
  refine v_aload0 d_De_init_18 ?_
  refine v_bipush d_De_init_19 rfl ?_
  refine nv_newarray (n := 3) (m := 7) (t := 0) hP rfl d_De_init_21 rfl (by decide) cw_aint rfl (by decide) (Nat.le_of_ble_eq_true rfl) (Nat.le_of_ble_eq_true rfl) ?_
  show vV _ _ _ _ _ _ _ _ _ _ _ _ (P ++ [.inr (11, [some none, some none, some (some (B + 1)), some (some (B + 2)), none, some none, some none, some none, none, none]), .inl (0, 3), .inl (0, 3), .inl (0, 7)]) _
  refine nv_putR (j := 0) (fs := [some none, some none, some (some (B + 1)), some (some (B + 2)), none, some none, some none, some none, none, none]) hP d_De_init_23 hm p_De_18 (fun _ => ⟨rfl, rfl⟩) rfl rfl ?_
  show vV _ _ _ _ _ _ _ _ _ _ _ _ (P ++ [.inr (11, [some none, some none, some (some (B + 1)), some (some (B + 2)), none, some (some (B + 3)), some none, some none, none, none]), .inl (0, 3), .inl (0, 3), .inl (0, 7)]) _
  refine v_aload0 d_De_init_26 ?_
  refine v_bipush d_De_init_27 rfl ?_
  refine nv_newarray (n := 4) (m := 7) (t := 0) hP rfl d_De_init_29 rfl (by decide) cw_aint rfl (by decide) (Nat.le_of_ble_eq_true rfl) (Nat.le_of_ble_eq_true rfl) ?_
  show vV _ _ _ _ _ _ _ _ _ _ _ _ (P ++ [.inr (11, [some none, some none, some (some (B + 1)), some (some (B + 2)), none, some (some (B + 3)), some none, some none, none, none]), .inl (0, 3), .inl (0, 3), .inl (0, 7), .inl (0, 7)]) _
  refine nv_putR (j := 0) (fs := [some none, some none, some (some (B + 1)), some (some (B + 2)), none, some (some (B + 3)), some none, some none, none, none]) hP d_De_init_31 hm p_De_21 (fun _ => ⟨rfl, rfl⟩) rfl rfl ?_
  show vV _ _ _ _ _ _ _ _ _ _ _ _ (P ++ [.inr (11, [some none, some none, some (some (B + 1)), some (some (B + 2)), none, some (some (B + 3)), some (some (B + 4)), some none, none, none]), .inl (0, 3), .inl (0, 3), .inl (0, 7), .inl (0, 7)]) _
  refine v_aload0 d_De_init_34 ?_
  refine v_bipush d_De_init_35 rfl ?_
  refine nv_newarray (n := 5) (m := 7) (t := 0) hP rfl d_De_init_37 rfl (by decide) cw_aint rfl (by decide) (Nat.le_of_ble_eq_true rfl) (Nat.le_of_ble_eq_true rfl) ?_
  show vV _ _ _ _ _ _ _ _ _ _ _ _ (P ++ [.inr (11, [some none, some none, some (some (B + 1)), some (some (B + 2)), none, some (some (B + 3)), some (some (B + 4)), some none, none, none]), .inl (0, 3), .inl (0, 3), .inl (0, 7), .inl (0, 7), .inl (0, 7)]) _
  refine nv_putR (j := 0) (fs := [some none, some none, some (some (B + 1)), some (some (B + 2)), none, some (some (B + 3)), some (some (B + 4)), some none, none, none]) hP d_De_init_39 hm p_De_24 (fun _ => ⟨rfl, rfl⟩) rfl rfl ?_
  show vV _ _ _ _ _ _ _ _ _ _ _ _ (P ++ [.inr (11, [some none, some none, some (some (B + 1)), some (some (B + 2)), none, some (some (B + 3)), some (some (B + 4)), some (some (B + 5)), none, none]), .inl (0, 3), .inl (0, 3), .inl (0, 7), .inl (0, 7), .inl (0, 7)]) _
  refine v_aload0 d_De_init_42 ?_
  refine v_aload1 d_De_init_43 ?_
  refine nv_putR (j := 0) (fs := [some none, some none, some (some (B + 1)), some (some (B + 2)), none, some (some (B + 3)), some (some (B + 4)), some (some (B + 5)), none, none]) hP d_De_init_44 hm p_De_27 (fun _ => ⟨rfl, rfl⟩) rfl rfl ?_
  show vV _ _ _ _ _ _ _ _ _ _ _ _ (P ++ [.inr (11, [some (some q1), some none, some (some (B + 1)), some (some (B + 2)), none, some (some (B + 3)), some (some (B + 4)), some (some (B + 5)), none, none]), .inl (0, 3), .inl (0, 3), .inl (0, 7), .inl (0, 7), .inl (0, 7)]) _
  refine v_aload0 d_De_init_47 ?_
  refine v_aload2 d_De_init_48 ?_
  refine nv_putR (j := 0) (fs := [some (some q1), some none, some (some (B + 1)), some (some (B + 2)), none, some (some (B + 3)), some (some (B + 4)), some (some (B + 5)), none, none]) hP d_De_init_49 hm p_De_31 (fun _ => ⟨rfl, rfl⟩) rfl rfl ?_
  show vV _ _ _ _ _ _ _ _ _ _ _ _ (P ++ [.inr (11, [some (some q1), some (some q2), some (some (B + 1)), some (some (B + 2)), none, some (some (B + 3)), some (some (B + 4)), some (some (B + 5)), none, none]), .inl (0, 3), .inl (0, 3), .inl (0, 7), .inl (0, 7), .inl (0, 7)]) _
  exact v_return hM d_De_init_52 ⟨rfl, fun k hk => by (repeat (first | rw [vZ_ne (by omega)] | rw [vUp_ne (by omega)]))⟩

