section
variable {cx : vCx} {own : String} {cc : ByteArray} {nL d MC MS kc ks pc pc' idx ci N : Nat} {L : List (Option Value)} {st : List Value} {S : vSh} {σ : vMem}
def vMx (a b : Int) : Int := if a < b then b else a
def vMn (a b : Int) : Int := if b < a then b else a
def vAb (a : Int) : Int := if 0 ≤ a then a else -a
theorem vMath_room {st : List Value} (ad : Nat → Nat) {R : Room} {d : Nat} (h2 : 32 * d ≤ R.locals) (h1 : 1 ≤ d) (hrm : (st.map fun v => v.category).sum ≤ 8) : ((st.map (vcv ad)).map fun v => v.category).sum + 13 ≤ R.locals := by
  rw [vCat_sum]
  omega
theorem v_max {a b : Int} (hd : vD cc pc (.invokestatic idx) 3 pc') (hw : Cond.methodLink own idx Lib.Math.max.name ∈ wt) (hw1 : Cond.static Lib.Math.max.name ∈ wt) (hw2 : Cond.initialized "java/lang/Math" ∈ wt) (hw3 : Cond.code Lib.Math.max.name Lib.Math.max.code 2 (some .int) ∈ wt) (ha : vIn a) (hb : vIn b) (h1 : 1 ≤ d) (hrm : (st.map fun v => v.category).sum ≤ 8) (k : vV cx own cc nL d MC MS kc ks pc' L (.int (iI (vMx a b)) :: st) S σ) : vV cx own cc nL d MC MS kc ks pc L (.int (iI b) :: .int (iI a) :: st) S σ := by
  obtain ⟨p, l, e, R, s, m, args, below, meth, c, Q, D, cA, A, ad0, n0⟩ := cx
  obtain ⟨hd, hpc⟩ := hd
  subst hpc
  intro C ad H locs ls hP hD hS hW hl hL hst hkc hks hz7 hn7
  have hts := C.2.2.2.2.1
  obtain ⟨r1, r2, r3, r4⟩ := C.2.2.2.2.2.2.2.2.1
  refine va_mmax C.1 C.2.1 (C.2.2.1.trans hl.1.symm) C.2.2.2.1 (hts _ hw) (hts _ hw1) (hts _ hw2) (hts _ hw3) (by omega) (vMath_room ad r2 h1 hrm) (by omega) (by omega) hd ?_
  have e : (if iI a < iI b then iI b else iI a) = iI (vMx a b) := by
    unfold vMx
    by_cases q : a < b
    · rw [if_pos q, if_pos ((iI_lt ha hb).mpr q)]
    · rw [if_neg q, if_neg (fun z => q ((iI_lt ha hb).mp z))]
  rw [e]
  exact k C ad H locs ls hP hD hS hW hl hL (vSt_int (vSt_tl (vSt_tl hst))) hkc hks hz7 hn7
theorem v_min {a b : Int} (hd : vD cc pc (.invokestatic idx) 3 pc') (hw : Cond.methodLink own idx Lib.Math.min.name ∈ wt) (hw1 : Cond.static Lib.Math.min.name ∈ wt) (hw2 : Cond.initialized "java/lang/Math" ∈ wt) (hw3 : Cond.code Lib.Math.min.name Lib.Math.min.code 2 (some .int) ∈ wt) (ha : vIn a) (hb : vIn b) (h1 : 1 ≤ d) (hrm : (st.map fun v => v.category).sum ≤ 8) (k : vV cx own cc nL d MC MS kc ks pc' L (.int (iI (vMn a b)) :: st) S σ) : vV cx own cc nL d MC MS kc ks pc L (.int (iI b) :: .int (iI a) :: st) S σ := by
  obtain ⟨p, l, e, R, s, m, args, below, meth, c, Q, D, cA, A, ad0, n0⟩ := cx
  obtain ⟨hd, hpc⟩ := hd
  subst hpc
  intro C ad H locs ls hP hD hS hW hl hL hst hkc hks hz7 hn7
  have hts := C.2.2.2.2.1
  obtain ⟨r1, r2, r3, r4⟩ := C.2.2.2.2.2.2.2.2.1
  refine va_mmin C.1 C.2.1 (C.2.2.1.trans hl.1.symm) C.2.2.2.1 (hts _ hw) (hts _ hw1) (hts _ hw2) (hts _ hw3) (by omega) (vMath_room ad r2 h1 hrm) (by omega) (by omega) hd ?_
  have e : (if iI b < iI a then iI b else iI a) = iI (vMn a b) := by
    unfold vMn
    by_cases q : b < a
    · rw [if_pos q, if_pos ((iI_lt hb ha).mpr q)]
    · rw [if_neg q, if_neg (fun z => q ((iI_lt hb ha).mp z))]
  rw [e]
  exact k C ad H locs ls hP hD hS hW hl hL (vSt_int (vSt_tl (vSt_tl hst))) hkc hks hz7 hn7
theorem v_abs {a : Int} (hd : vD cc pc (.invokestatic idx) 3 pc') (hw : Cond.methodLink own idx Lib.Math.abs.name ∈ wt) (hw1 : Cond.static Lib.Math.abs.name ∈ wt) (hw2 : Cond.initialized "java/lang/Math" ∈ wt) (hw3 : Cond.code Lib.Math.abs.name Lib.Math.abs.code 1 (some .int) ∈ wt) (ha : vIn a) (h1 : 1 ≤ d) (hrm : (st.map fun v => v.category).sum ≤ 8) (k : vV cx own cc nL d MC MS kc ks pc' L (.int (iI (vAb a)) :: st) S σ) : vV cx own cc nL d MC MS kc ks pc L (.int (iI a) :: st) S σ := by
  obtain ⟨p, l, e, R, s, m, args, below, meth, c, Q, D, cA, A, ad0, n0⟩ := cx
  obtain ⟨hd, hpc⟩ := hd
  subst hpc
  intro C ad H locs ls hP hD hS hW hl hL hst hkc hks hz7 hn7
  have hts := C.2.2.2.2.1
  obtain ⟨r1, r2, r3, r4⟩ := C.2.2.2.2.2.2.2.2.1
  refine va_mabs C.1 C.2.1 (C.2.2.1.trans hl.1.symm) C.2.2.2.1 (hts _ hw) (hts _ hw1) (hts _ hw2) (hts _ hw3) (by omega) (vMath_room ad r2 h1 hrm) (by omega) (by omega) hd ?_
  have e : (if 0 ≤ iI a then iI a else 0 - iI a) = iI (vAb a) := by
    have h0 : (0 : Int32) ≤ iI a ↔ 0 ≤ a := iI_le (a := 0) (b := a) (by omega) ha
    unfold vAb
    by_cases q : 0 ≤ a
    · rw [if_pos q, if_pos (h0.mpr q)]
    · rw [if_neg q, if_neg (fun z => q (h0.mp z))]
      show iI 0 - iI a = _
      rw [iI_sub]
      congr 1
      omega
  rw [e]
  exact k C ad H locs ls hP hD hS hW hl hL (vSt_int (vSt_tl hst)) hkc hks hz7 hn7
def vCp (σ : vMem) (a b : Nat) (n : Int) : vMem := fun k i => if k = b then (if 0 ≤ i ∧ i < n then σ a i else σ b i) else σ k i
theorem vCp_ne {σ : vMem} {a b k : Nat} {n : Int} (h : k ≠ b) : vCp σ a b n k = σ k := by funext i; simp [vCp, h]
/-- System.arraycopy(a, 0, b, 0, n) of two rows of ints or bytes -/
theorem v_arraycopy {a b na nb t : Nat} {n : Int} {ty : FieldType} (hd : vD cc pc (.invokestatic idx) 3 pc') (hw : Cond.methodLink own idx arraycopyName ∈ wt) (hw0 : Cond.native arraycopyName ∈ wt) (hw1 : Cond.static arraycopyName ∈ wt) (hw2 : Cond.initialized "java/lang/System" ∈ wt) (htt : (t, ty) ∈ [(0, FieldType.int), (1, FieldType.byte)]) (ha : S[a]? = some (.inl (t, na))) (hb : S[b]? = some (.inl (t, nb))) (hn : 0 ≤ n ∧ n ≤ na ∧ n ≤ nb) (hfit : t = 1 → ∀ i, 0 ≤ i ∧ i < n → -128 ≤ σ a i ∧ σ a i ≤ 127) (h1 : 1 ≤ d) (hrm : (st.map fun v => v.category).sum ≤ 8) (k : vV cx own cc nL d MC MS kc ks pc' L st S (vCp σ a b n)) : vV cx own cc nL d MC MS kc ks pc L (.int (iI n) :: .int (iI 0) :: .ref b :: .int (iI 0) :: .ref a :: st) S σ := by
  obtain ⟨p, l, e, R, s, m, args, below, meth, c, Q, D, cA, A, ad0, n0⟩ := cx
  obtain ⟨hd, hpc⟩ := hd
  subst hpc
  intro C ad H locs ls hP hD hS hW hl hL hst hkc hks hz7 hn7
  have hts := C.2.2.2.2.1
  obtain ⟨r1, r2, r3, r4⟩ := C.2.2.2.2.2.2.2.2.1
  have hna := hW.2.2.2 a t na ha
  have hnb := hW.2.2.2 b t nb hb
  have ht3 : ¬ t = 3 := by
    simp only [List.mem_cons, Prod.mk.injEq, List.not_mem_nil, or_false] at htt
    omega
  have e0 : (iI 0).toNatClampNeg = 0 := rfl
  have en : (iI n).toNatClampNeg = n.toNat := iI_clamp hn.1 (by omega)
  have hA0 : (vWs cA ad S σ)[a]? = some (ad a, .inl (cA t, na, .inl (fun j : Nat => iI (σ a (j : Int))))) := by
    rw [vWs_at ha]
    simp only [vCell, vArr, if_neg ht3]
  have hB0 : (vWs cA ad S σ)[b]? = some (ad b, .inl (cA t, nb, .inl (fun j : Nat => iI (σ b (j : Int))))) := by
    rw [vWs_at hb]
    simp only [vCell, vArr, if_neg ht3]
  have htys : (vtys cA)[t]? = some (cA t, ty) ∧ refKind ty = false := by
    simp only [List.mem_cons, Prod.mk.injEq, List.not_mem_nil, or_false] at htt
    rcases htt with ⟨rfl, rfl⟩ | ⟨rfl, rfl⟩
    · exact ⟨rfl, rfl⟩
    · exact ⟨rfl, rfl⟩
  refine va_copyi C.1 C.2.1 (C.2.2.1.trans hl.1.symm) C.2.2.2.1 (hts _ hw) (hts _ hw0) (hts _ hw1) (hts _ hw2) C.2.2.2.2.2.1 hP hD hS a b t t hA0 hB0 htys.1 htys.1 htys.2 (sp := iI 0) (dp := iI 0) (n := iI n) (by decide) (by decide) ?_ (by rw [e0, en]; omega) (by rw [e0, en]; omega) ?_ (by omega) ?_ hd (fun H1 locs1 hP1 hD1 hS1 => ?_)
  · intro q
    have := (iI_lt (a := n) (b := 0) (by omega) (by omega)).mp q
    omega
  · intro i hi
    rw [en] at hi
    rw [e0, Nat.zero_add]
    simp only [List.mem_cons, Prod.mk.injEq, List.not_mem_nil, or_false] at htt
    rcases htt with ⟨rfl, rfl⟩ | ⟨rfl, rfl⟩
    · rfl
    · have h9 := hfit rfl (i : Int) (by omega)
      have h8 : (iI (σ a (i : Int))).toInt8.toInt32 = iI (σ a (i : Int)) := by
        apply Int32.toInt_inj.mp
        rw [Int8.toInt_toInt32, iI_toInt (by omega), Int32.toInt_toInt8, iI_toInt (by omega)]
        exact Int.bmod_eq_of_le (by omega) (by omega)
      have g1 : iI (-128) ≤ iI (σ a (i : Int)) := (iI_le (by decide) (by omega)).mpr h9.1
      have g2 : iI (σ a (i : Int)) ≤ iI 127 := (iI_le (by omega) (by decide)).mpr h9.2
      simp [fits]
      exact ⟨g1, g2⟩
  · rw [vCat_sum]
    have : nativeFrameWords "java/lang/System" "arraycopy" 5 ≤ 12 := by decide
    omega
  · have e1 : (vWs cA ad S σ).set b (ad b, .inl (cA t, nb, .inl (va_cpy (fun j : Nat => iI (σ a (j : Int))) (fun j : Nat => iI (σ b (j : Int))) (iI 0).toNatClampNeg (iI 0).toNatClampNeg (iI n).toNatClampNeg))) = vWs cA ad S (vCp σ a b n) := by
      refine vWs_set hb ?_ (fun j hj => vCp_ne hj)
      simp only [vCell, vArr, if_neg ht3]
      congr 4
      funext j
      rw [e0, en]
      simp only [va_cpy, vCp, if_true]
      by_cases q : j < n.toNat
      · rw [if_pos (by omega), if_pos (by omega)]
        simp
      · rw [if_neg (by omega), if_neg (by omega)]
    refine k C ad H1 locs1 ls (e1 ▸ hP1) (e1 ▸ hD1) hS1 ⟨hW.1, fun k' n' hk' j => ?_, fun k' j => ?_, hW.2.2.2⟩ hl hL (vSt_tl (vSt_tl (vSt_tl (vSt_tl (vSt_tl hst))))) hkc hks hz7 hn7
    · have hkb : k' ≠ b := by
        rintro rfl
        rw [hb] at hk'
        cases hk'
        exact ht3 rfl
      rw [vCp_ne hkb]
      exact hW.2.1 k' n' hk' j
    · unfold vCp
      split
      · split <;> exact hW.2.2.1 _ _
      · exact hW.2.2.1 _ _
end
