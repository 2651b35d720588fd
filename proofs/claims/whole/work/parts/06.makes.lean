def vZ (σ : vMem) (k : Nat) : vMem := fun k' i => if k' = k then 0 else σ k' i
theorem vZ_ne {σ : vMem} {k k' : Nat} (h : k' ≠ k) : vZ σ k k' = σ k' := by funext i; simp [vZ, h]
theorem vWs_z {cA : Nat → ClassId} {ad : Nat → Nat} {S : vSh} {σ : vMem} {n : Nat} (h : S.length ≤ n) : vWs cA ad S (vZ σ n) = vWs cA ad S σ := by
  apply List.ext_getElem?
  intro j
  rw [vWs_get, vWs_get]
  cases hj : S[j]? with
  | none => rfl
  | some c =>
    have := (List.getElem?_eq_some_iff.mp hj).1
    rw [vZ_ne (by omega)]
theorem vWf_z {S : vSh} {σ : vMem} (h : vWf S σ) {c : vSC} (hc1 : ∀ ci fs, c = .inr (ci, fs) → ∀ (j r : Nat), fs[j]? ≠ some (some (some r))) (hc2 : ∀ t n, c = .inl (t, n) → n < 2147483648) : vWf (S ++ [c]) (vZ σ S.length) := by
  have key : ∀ (k : Nat) (x : vSC), (S ++ [c])[k]? = some x → (S[k]? = some x ∧ k < S.length) ∨ (k = S.length ∧ x = c) := by
    intro k x hk
    by_cases hl : k < S.length
    · rw [List.getElem?_append_left hl] at hk
      exact Or.inl ⟨hk, hl⟩
    · rw [List.getElem?_append_right (by omega)] at hk
      have hz : k - S.length < 1 := (List.getElem?_eq_some_iff.mp hk).1
      rw [show k - S.length = 0 by omega] at hk
      cases hk
      exact Or.inr ⟨by omega, rfl⟩
  refine ⟨fun k ci fs hk j r hr => ?_, fun k n hk j => ?_, fun k j => ?_, fun k t n hk => ?_⟩
  · rcases key k _ hk with ⟨h1, h2⟩ | ⟨h1, h2⟩
    · have := h.1 k ci fs h1 j r hr
      simp; omega
    · exact absurd hr (hc1 ci fs h2.symm j r)
  · rcases key k _ hk with ⟨h1, h2⟩ | ⟨h1, h2⟩
    · have := h.2.1 k n h1 j
      rw [vZ_ne (by omega)]
      simp; omega
    · simp [vZ, h1]
  · unfold vZ
    split
    · decide
    · exact h.2.2.1 k j
  · rcases key k _ hk with ⟨h1, h2⟩ | ⟨h1, h2⟩
    · exact h.2.2.2 k t n h1
    · exact hc2 t n h2.symm
def vNw (own : String) (idx ci N : Nat) (fs : List vFD) : Prop := ∃ (C : String) (T : u_T) (ty : Nat → FieldType), vcl[ci]? = some (C, T, N) ∧ (∀ w ∈ u_ws C T N, w ∈ wt) ∧ (∀ k, k < N → parseFieldDescriptor (T k).2.2.1 = some (ty k)) ∧ Cond.classLink own idx C ∈ wt ∧ Cond.instantiable C N ∈ wt ∧ Cond.initialized C ∈ wt ∧ (∀ j, j < N → defaultValue (ty j) = vp_V (fs.map (fun d => match d with | none => .int 0 | some _ => .null)) j) ∧ ∀ d ∈ fs, d = none ∨ d = some none
theorem vCell_new {cA : Nat → ClassId} {ad : Nat → Nat} {ci : Nat} {fs : List vFD} (h : ∀ d ∈ fs, d = none ∨ d = some none) : vCell cA ad (fun _ => 0) (.inr (ci, fs)) = .inr (ci, fs.map (fun d => match d with | none => .int 0 | some _ => .null)) := by
  simp only [vCell]
  congr 2
  apply List.ext_getElem?
  intro j
  rw [List.getElem?_mapIdx, List.getElem?_map]
  cases hj : fs[j]? with
  | none => rfl
  | some d =>
    rcases h d (List.mem_of_getElem? hj) with rfl | rfl <;> rfl
section
variable {cx : vCx} {own : String} {cc : ByteArray} {nL d MC MS kc ks pc pc' idx ci N : Nat} {L : List (Option Value)} {st : List Value} {S : vSh} {σ : vMem}
theorem v_after_new {p : Program} {l : Launch} {e : Env} {R : Room} {s : State} {m : MethodId} {args : Array Value} {below : List Frame} {meth : Method} {c : Code} {Q : State → Prop} {D : va_G} {cA : Nat → ClassId} {A : Nat → Prop} {ad0 : Nat → Nat} {n0 : Nat} {ad : Nat → Nat} {H1 : Heap} {locs : List Loc} {ls : Array Slot} {q : Nat} {cell : vSC} {kc' ks' pc1 : Nat}
    (C : vOk (p, l, e, R, s, m, args, below, meth, c, Q, D, cA, A, ad0, n0) own cc nL d MC MS) (hW : vWf S σ) (hl : vLoc ad nL L ls) (hL : ∀ (i : Nat) (v : Value), L[i]? = some (some v) → vWfV S.length v) (hst : ∀ v ∈ st, vWfV S.length v) (hz : ∀ k, k < n0 → ad k = ad0 k) (hn : n0 ≤ S.length) (hkc : kc' ≤ MC) (hks : ks' ≤ MS)
    (hc1 : ∀ ci fs, cell = .inr (ci, fs) → ∀ (j r : Nat), fs[j]? ≠ some (some (some r))) (hc2 : ∀ t n, cell = .inl (t, n) → n < 2147483648)
    (hP1 : va_P D vcl (vWs cA ad S σ ++ [(q, vCell cA (fun k => if k = S.length then q else ad k) (fun _ => 0) cell)]) H1) (hD1 : va_D A (vWs cA ad S σ ++ [(q, vCell cA (fun k => if k = S.length then q else ad k) (fun _ => 0) cell)])) (hS1 : va_S A s.heap H1 locs)
    (k : vV (p, l, e, R, s, m, args, below, meth, c, Q, D, cA, A, ad0, n0) own cc nL d MC MS kc' ks' pc1 L (.ref S.length :: st) (S ++ [cell]) (vZ σ S.length)) : W p l e R s m args below meth c H1 locs kc' ks' Q (F0 m pc1 ls (.ref q :: st.map (vcv ad))) := by
  have had : ∀ k, k < S.length → (fun k => if k = S.length then q else ad k) k = ad k := fun k hk => by
    show (if k = S.length then q else ad k) = ad k
    rw [if_neg (by omega)]
  have e1 : vWs cA (fun k => if k = S.length then q else ad k) (S ++ [cell]) (vZ σ S.length) = vWs cA ad S σ ++ [(q, vCell cA (fun k => if k = S.length then q else ad k) (fun _ => 0) cell)] := by
    have hWz : vWf S (vZ σ S.length) := ⟨hW.1, fun k n hk j => by
      have := (List.getElem?_eq_some_iff.mp hk).1
      rw [vZ_ne (by omega)]; exact hW.2.1 k n hk j, fun k j => by
      unfold vZ
      split
      · decide
      · exact hW.2.2.1 k j, hW.2.2.2⟩
    rw [vWs_push hWz had, vWs_z (Nat.le_refl _)]
    have e2 : vZ σ S.length S.length = fun _ => 0 := by funext i; simp [vZ]
    rw [e2]
    simp
  have hkk := k C (fun k => if k = S.length then q else ad k) H1 locs ls (by rw [e1]; exact hP1) (by rw [e1]; exact hD1) hS1 (vWf_z hW hc1 hc2) (vLoc_eq had hL hl) (fun i v hi => vWfV_mono (by simp) (hL i v hi)) (vSt_cons (fun r hr => by cases hr; simp) (fun v hv => vWfV_mono (by simp) (hst v hv))) hkc hks (fun k hk => (had k (Nat.lt_of_lt_of_le hk hn)).trans (hz k hk)) (by simp; omega)
  have e3 : (Value.ref S.length :: st).map (vcv (fun k => if k = S.length then q else ad k)) = .ref q :: st.map (vcv ad) := by
    rw [List.map_cons, vMap_eq had hst]
    simp [vcv]
  rw [e3] at hkk
  exact hkk
theorem v_new {fs : List vFD} (hd : vD cc pc (.new idx) 3 pc') (hw : vNw own idx ci N fs) (hkc' : kc + 1 ≤ MC) (hks' : ks + N ≤ MS) (k : vV cx own cc nL d MC MS (kc + 1) (ks + N) pc' L (.ref S.length :: st) (S ++ [.inr (ci, fs)]) (vZ σ S.length)) : vV cx own cc nL d MC MS kc ks pc L st S σ := by
  obtain ⟨p, l, e, R, s, m, args, below, meth, c, Q, D, cA, A, ad0, n0⟩ := cx
  obtain ⟨hd, hpc⟩ := hd
  subst hpc
  intro C ad H locs ls hP hD hS hW hl hL hst hkc hks hz7 hn7
  obtain ⟨C1, T, ty, h1, h2, h3, h4, h5, h6, h7, h8⟩ := hw
  have hts := C.2.2.2.2.1
  obtain ⟨r1, r2, r3, r4⟩ := C.2.2.2.2.2.2.2.2.1
  refine va_new C.1 C.2.1 hts h2 ty h3 C.2.2.2.1 (hts _ h4) (hts _ h5) (hts _ h6) C.2.2.2.2.2.1 hP hD hS C.2.2.2.2.2.2.1 h1 h7 (by omega) (by omega) hd (fun q H1 hP1 hD1 hS1 => ?_)
  rw [← vCell_new (cA := cA) (ad := fun k => if k = S.length then q else ad k) h8] at hP1 hD1
  exact v_after_new C hW hl hL hst hz7 hn7 hkc' hks' (fun ci' fs' e j r hj => by
    cases e
    rcases h8 _ (List.mem_of_getElem? hj) with h | h <;> cases h) (fun t n e => by cases e) hP1 hD1 hS1 k
theorem v_newarray {t n : Nat} {ty : FieldType} {at' : ArrayType} {z : Int} (hd : vD cc pc (.newarray at') 2 pc') (hty : newarray.typeOf at' = ty) (htt : (t, ty) ∈ [(0, FieldType.int), (1, FieldType.byte), (2, FieldType.boolean)]) (hw : Cond.arrayClass ty ∈ wt) (hz : z = (n : Int)) (hn0 : n ≤ 100000) (hkc' : kc + 1 ≤ MC) (hks' : ks + n ≤ MS) (k : vV cx own cc nL d MC MS (kc + 1) (ks + n) pc' L (.ref S.length :: st) (S ++ [.inl (t, n)]) (vZ σ S.length)) : vV cx own cc nL d MC MS kc ks pc L (.int (iI z) :: st) S σ := by
  obtain ⟨p, l, e, R, s, m, args, below, meth, c, Q, D, cA, A, ad0, n0⟩ := cx
  obtain ⟨hd, hpc⟩ := hd
  subst hpc
  intro C ad H locs ls hP hD hS hW hl hL hst hkc hks hz7 hn7
  have hts := C.2.2.2.2.1
  obtain ⟨r1, r2, r3, r4⟩ := C.2.2.2.2.2.2.2.2.1
  have hcl : (iI z).toNatClampNeg = n := by rw [hz, iI_clamp (by omega) (by omega)]; omega
  have hng : ¬ iI z < 0 := by
    rw [hz]
    intro q
    have := (iI_lt (a := (n : Int)) (b := 0) (by omega) (by omega)).mp q
    omega
  have hbytes : componentBytes ty ≤ 8 := by
    simp only [List.mem_cons, Prod.mk.injEq, List.not_mem_nil, or_false] at htt
    rcases htt with ⟨-, rfl⟩ | ⟨-, rfl⟩ | ⟨-, rfl⟩ <;> decide
  have hbb : n * componentBytes ty ≤ 536870912 := Nat.le_trans (Nat.mul_le_mul hn0 hbytes) (by decide)
  have ht3 : ¬ t = 3 := by
    simp only [List.mem_cons, Prod.mk.injEq, List.not_mem_nil, or_false] at htt
    omega
  have hdef : defaultValue ty = .int 0 := by
    simp only [List.mem_cons, Prod.mk.injEq, List.not_mem_nil, or_false] at htt
    rcases htt with ⟨-, rfl⟩ | ⟨-, rfl⟩ | ⟨-, rfl⟩ <;> rfl
  refine va_newa (a0 := (n, .inl (fun _ => 0))) C.1 C.2.1 (by rw [hty]; exact hts _ hw) hty C.2.2.2.2.2.1 hP hD hS C.2.2.2.2.2.2.1 (fun cA' => by rw [hdef]; rfl) hng hcl hbb (by omega) (by omega) hd (fun q cA' H1 hK1 hP1 hD1 hS1 => ?_)
  have hca : cA' = cA t := by
    have hA := (hK1.2 4 (cA', ty) rfl).2
    have hB : va_RA s (cA t) ty := by
      simp only [List.mem_cons, Prod.mk.injEq, List.not_mem_nil, or_false] at htt
      rcases htt with ⟨rfl, rfl⟩ | ⟨rfl, rfl⟩ | ⟨rfl, rfl⟩
      · exact (C.2.2.2.2.2.1.2 0 (cA 0, .int) rfl).2
      · exact (C.2.2.2.2.2.1.2 1 (cA 1, .byte) rfl).2
      · exact (C.2.2.2.2.2.1.2 2 (cA 2, .boolean) rfl).2
    simp only [List.mem_cons, Prod.mk.injEq, List.not_mem_nil, or_false] at htt
    rcases htt with ⟨-, rfl⟩ | ⟨-, rfl⟩ | ⟨-, rfl⟩ <;> exact Option.some.inj (hA.symm.trans hB)
  subst hca
  have e0 : vCell cA (fun k => if k = S.length then q else ad k) (fun _ => 0) (.inl (t, n)) = .inl (cA t, n, .inl (fun _ => 0)) := by
    simp only [vCell, vArr, if_neg ht3]
    rfl
  rw [← e0] at hP1 hD1
  exact v_after_new C hW hl hL (vSt_tl hst) hz7 hn7 hkc' hks' (fun ci' fs' e j r hj => by cases e) (fun t n e => by cases e; omega) hP1 hD1 hS1 k
theorem v_anewarray {n : Nat} {z : Int} (hd : vD cc pc (.anewarray idx) 3 pc') (hw : Cond.classLink own idx "VillagePay$State" ∈ wt) (hz : z = (n : Int)) (hn0 : n ≤ 100000) (hkc' : kc + 1 ≤ MC) (hks' : ks + n ≤ MS) (k : vV cx own cc nL d MC MS (kc + 1) (ks + n) pc' L (.ref S.length :: st) (S ++ [.inl (3, n)]) (vZ σ S.length)) : vV cx own cc nL d MC MS kc ks pc L (.int (iI z) :: st) S σ := by
  obtain ⟨p, l, e, R, s, m, args, below, meth, c, Q, D, cA, A, ad0, n0⟩ := cx
  obtain ⟨hd, hpc⟩ := hd
  subst hpc
  intro C ad H locs ls hP hD hS hW hl hL hst hkc hks hz7 hn7
  have hts := C.2.2.2.2.1
  obtain ⟨r1, r2, r3, r4⟩ := C.2.2.2.2.2.2.2.2.1
  have hcl : (iI z).toNatClampNeg = n := by rw [hz, iI_clamp (by omega) (by omega)]; omega
  have hng : ¬ iI z < 0 := by
    rw [hz]
    intro q
    have := (iI_lt (a := (n : Int)) (b := 0) (by omega) (by omega)).mp q
    omega
  refine va_newq C.1 C.2.1 C.2.2.2.1 (hts _ hw) C.2.2.2.2.2.2.2.2.2.1 C.2.2.2.2.2.1 hP hD hS C.2.2.2.2.2.2.1 hng hcl (by omega) (by omega) (by omega) hd (fun q cA' H1 hK1 hP1 hD1 hS1 => ?_)
  have hca : cA' = cA 3 := by
    obtain ⟨-, -, -, -, -, hA⟩ := (hK1.2 4 (cA', .object "VillagePay$State") rfl).2
    obtain ⟨-, -, -, -, -, hB⟩ := (C.2.2.2.2.2.1.2 3 (cA 3, .object "VillagePay$State") rfl).2
    exact Option.some.inj (hA.symm.trans hB)
  subst hca
  have e0 : vCell cA (fun k => if k = S.length then q else ad k) (fun _ => 0) (.inl (3, n)) = .inl (cA 3, n, .inr (.inr (.inr (.inr (fun _ => none))))) := by
    simp [vCell, vArr, vR]
  rw [← e0] at hP1 hD1
  exact v_after_new C hW hl hL (vSt_tl hst) hz7 hn7 hkc' hks' (fun ci' fs' e j r hj => by cases e) (fun t n e => by cases e; omega) hP1 hD1 hS1 k
theorem v_objInit {r : Nat} (hd : vD cc pc (.invokespecial idx) 3 pc') (hw : Cond.methodLink own idx Lib.objectInit ∈ wt) (hw2 : Cond.instanceMethod Lib.objectInit ∈ wt) (hw3 : Cond.code Lib.objectInit ⟨#[0xb1]⟩ 1 none ∈ wt) (h1 : 1 ≤ d) (hrm : (st.map fun v => v.category).sum ≤ 8) (k : vV cx own cc nL d MC MS kc ks pc' L st S σ) : vV cx own cc nL d MC MS kc ks pc L (.ref r :: st) S σ := by
  obtain ⟨p, l, e, R, s, m, args, below, meth, c, Q, D, cA, A, ad0, n0⟩ := cx
  obtain ⟨hd, hpc⟩ := hd
  subst hpc
  intro C ad H locs ls hP hD hS hW hl hL hst hkc hks hz7 hn7
  have hts := C.2.2.2.2.1
  obtain ⟨r1, r2, r3, r4⟩ := C.2.2.2.2.2.2.2.2.1
  refine W.objInit C.1 C.2.1 C.2.2.2.1 (hts _ hw) (hts _ hw2) (hts _ hw3) rfl (hl.1.trans C.2.2.1.symm) (rest := st.map (vcv ad)) rfl hd (by omega) ?_ (k C ad H locs ls hP hD hS hW hl hL (vSt_tl hst) hkc hks hz7 hn7)
  rw [← vCat_sum ad] at hrm
  have := lv_room (m := m) (pc := pc) (ls := ls) (rest := (Value.ref r :: st).map (vcv ad)) hrm
  omega
end
