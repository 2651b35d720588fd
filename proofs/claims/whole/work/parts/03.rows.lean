abbrev vD (cc : ByteArray) (pc : Nat) (i : Instr) (n pc' : Nat) : Prop := decode cc pc = .ok (i, n) ∧ pc + n = pc'
theorem vWfV_int {n : Nat} {x : Int32} : vWfV n (.int x) := fun _ h => by cases h
theorem vWfV_long {n : Nat} {x : Int64} : vWfV n (.long x) := fun _ h => by cases h
theorem vWfV_null {n : Nat} : vWfV n .null := fun _ h => by cases h
theorem vSt_int {n : Nat} {x : Int32} {st : List Value} (h : ∀ v ∈ st, vWfV n v) : ∀ v ∈ Value.int x :: st, vWfV n v := List.forall_mem_cons.mpr ⟨vWfV_int, h⟩
theorem vSt_long {n : Nat} {x : Int64} {st : List Value} (h : ∀ v ∈ st, vWfV n v) : ∀ v ∈ Value.long x :: st, vWfV n v := List.forall_mem_cons.mpr ⟨vWfV_long, h⟩
theorem vSt_cons {n : Nat} {x : Value} {st : List Value} (hx : vWfV n x) (h : ∀ v ∈ st, vWfV n v) : ∀ v ∈ x :: st, vWfV n v := List.forall_mem_cons.mpr ⟨hx, h⟩
theorem vSt_tl {n : Nat} {x : Value} {st : List Value} (h : ∀ v ∈ x :: st, vWfV n v) : ∀ v ∈ st, vWfV n v := (List.forall_mem_cons.mp h).2
theorem vSt_hd {n : Nat} {x : Value} {st : List Value} (h : ∀ v ∈ x :: st, vWfV n v) : vWfV n x := (List.forall_mem_cons.mp h).1
theorem vcv_cat (ad : Nat → Nat) (v : Value) : (vcv ad v).category = v.category := by cases v <;> rfl
theorem vLoc_get {ad : Nat → Nat} {nL : Nat} {L : List (Option Value)} {ls : Array Slot} (h : vLoc ad nL L ls) {i : Nat} {v : Value} (hi : L[i]? = some (some v)) : ls[i]? = some (.val (vcv ad v)) := h.2.2 i v hi
def vLv (ad : Nat → Nat) (L : List (Option Value)) : List (Nat × Value) := (List.range L.length).filterMap (fun j => match L[j]? with | some (some w) => some (j, vcv ad w) | _ => none)
theorem vLoc_lv {ad : Nat → Nat} {nL : Nat} {L : List (Option Value)} {ls : Array Slot} (h : vLoc ad nL L ls) : lv_has ls nL (vLv ad L) := by
  obtain ⟨h1, h2, h3⟩ := h
  refine ⟨h1, h2, fun q hq => ?_⟩
  obtain ⟨j, hj, hq⟩ := List.mem_filterMap.mp hq
  split at hq
  · rename_i w hw
    cases hq
    exact h3 j w hw
  · cases hq
theorem vLv_mem {ad : Nat → Nat} {L : List (Option Value)} {j : Nat} {w : Value} (hj : L[j]? = some (some w)) : (j, vcv ad w) ∈ vLv ad L := List.mem_filterMap.mpr ⟨j, List.mem_range.mpr (List.getElem?_eq_some_iff.mp hj).1, by rw [hj]⟩
def vLong (L : List (Option Value)) (i : Nat) : Bool := match i with
  | 0 => false
  | i + 1 => match L[i]? with
    | some (some (.long _)) => true
    | some (some (.double _)) => true
    | _ => false
theorem vLong_of {L : List (Option Value)} {i j : Nat} {w : Value} (h : vLong L i = false) (hj : L[j]? = some (some w)) (hji : j + 1 = i) : ¬ w.category = 2 := by
  subst hji
  intro hc
  simp only [vLong, hj] at h
  cases w <;> simp_all [Value.category]
theorem vLoc_of1 {ad : Nat → Nat} {nL : Nat} {L L' : List (Option Value)} {ls : Array Slot} {i : Nat} {v : Value} {X : List (Nat × Value)} (hX : ∀ q ∈ vLv ad L, q ∈ X) (h : lv_has ls nL ((i, vcv ad v) :: X.filter (fun q => !(q.1 == i) && !(q.1 + 1 == i && q.2.category == 2)))) (hL : vLong L i = false) (hs : L.set i (some v) = L') : vLoc ad nL L' ls := by
  obtain ⟨q1, q2, q3⟩ := h
  subst hs
  refine ⟨q1, q2, fun j w hj => ?_⟩
  rw [List.getElem?_set] at hj
  by_cases hij : i = j
  · subst hij
    rw [if_pos rfl] at hj
    split at hj
    · cases hj
      exact q3 (i, vcv ad v) List.mem_cons_self
    · cases hj
  · rw [if_neg hij] at hj
    refine q3 (j, vcv ad w) (List.mem_cons_of_mem _ (List.mem_filter.mpr ⟨hX _ (vLv_mem hj), ?_⟩))
    simp only [Bool.and_eq_true, Bool.not_eq_true', beq_eq_false_iff_ne, ne_eq, Bool.and_eq_false_iff]
    refine ⟨fun q => hij q.symm, ?_⟩
    by_cases g : j + 1 = i
    · exact Or.inr (fun z => vLong_of hL hj g (by rw [vcv_cat] at z; exact z))
    · exact Or.inl g
theorem vLoc_of2 {ad : Nat → Nat} {nL : Nat} {L L' : List (Option Value)} {ls : Array Slot} {i : Nat} {v : Value} {X : List (Nat × Value)} (hX : ∀ q ∈ vLv ad L, q ∈ X) (h : lv_has ls nL ((i, vcv ad v) :: X.filter (fun q => !(q.1 == i) && (!(q.1 == i + 1) && !(q.1 + 1 == i && q.2.category == 2))))) (hL : vLong L i = false) (hs : (L.set i (some v)).set (i + 1) none = L') : vLoc ad nL L' ls := by
  obtain ⟨q1, q2, q3⟩ := h
  subst hs
  refine ⟨q1, q2, fun j w hj => ?_⟩
  rw [List.getElem?_set, List.getElem?_set] at hj
  by_cases hij1 : i + 1 = j
  · rw [if_pos hij1] at hj
    split at hj <;> cases hj
  rw [if_neg hij1] at hj
  by_cases hij : i = j
  · subst hij
    rw [if_pos rfl] at hj
    split at hj
    · cases hj
      exact q3 (i, vcv ad v) List.mem_cons_self
    · cases hj
  · rw [if_neg hij] at hj
    refine q3 (j, vcv ad w) (List.mem_cons_of_mem _ (List.mem_filter.mpr ⟨hX _ (vLv_mem hj), ?_⟩))
    simp only [Bool.and_eq_true, Bool.not_eq_true', beq_eq_false_iff_ne, ne_eq, Bool.and_eq_false_iff]
    refine ⟨fun q => hij q.symm, fun q => hij1 q.symm, ?_⟩
    by_cases g : j + 1 = i
    · exact Or.inr (fun z => vLong_of hL hj g (by rw [vcv_cat] at z; exact z))
    · exact Or.inl g
theorem vWfL_set {n : Nat} {L L' : List (Option Value)} {i : Nat} {v : Option Value} (h : ∀ (i : Nat) (v : Value), L[i]? = some (some v) → vWfV n v) (hv : ∀ w, v = some w → vWfV n w) (hs : L.set i v = L') : ∀ (i : Nat) (v : Value), L'[i]? = some (some v) → vWfV n v := by
  subst hs
  intro j w hj
  rw [List.getElem?_set] at hj
  split at hj
  · split at hj
    · exact hv w (Option.some.inj hj)
    · cases hj
  · exact h j w hj
theorem vWfS_int {n : Nat} {x : Int32} : ∀ w, some (Value.int x) = some w → vWfV n w := fun w h => by cases h; exact vWfV_int
theorem vWfS_long {n : Nat} {x : Int64} : ∀ w, some (Value.long x) = some w → vWfV n w := fun w h => by cases h; exact vWfV_long

theorem iI_remJ {a b : Int} (ha : vIn a) (h1 : 0 < b) (hb : b ≤ 2147483647) : iI a - iI a / iI b * iI b = iI (a.tmod b) := by
  have hd : vIn (a.tdiv b) := by
    have e1 : (a.tdiv b).natAbs ≤ a.natAbs := by rw [Int.natAbs_tdiv]; exact Nat.div_le_self _ _
    rcases Int.le_total 0 a with h0 | h0
    · have := Int.tdiv_nonneg h0 (Int.le_of_lt h1)
      omega
    · have := Int.tdiv_nonneg (show 0 ≤ -a by omega) (Int.le_of_lt h1)
      rw [Int.neg_tdiv] at this
      omega
  have e : iI a / iI b = iI (a.tdiv b) := by
    apply Int32.toInt_inj.mp
    rw [Int32.toInt_div_of_ne_right _ _ (fun h => by
      have := congrArg Int32.toInt h
      rw [iI_toInt (by omega)] at this
      have h2 : (-1 : Int32).toInt = -1 := rfl
      omega), iI_toInt ha, iI_toInt (by omega), iI_toInt hd]
  rw [e, iI_mul, iI_sub, Int.tmod_def, Int.mul_comm]
section
variable {cx : vCx} {own : String} {cc : ByteArray} {nL d MC MS kc ks pc pc' : Nat} {L : List (Option Value)} {st : List Value} {S : vSh} {σ : vMem}
theorem v_iconst {n : Int} (hd : vD cc pc (.iconst n) 1 pc') (k : vV cx own cc nL d MC MS kc ks pc' L (.int (iI n) :: st) S σ) : vV cx own cc nL d MC MS kc ks pc L st S σ := by
  obtain ⟨p, l, e, R, s, m, args, below, meth, c, Q, D, cA, A, ad0, n0⟩ := cx
  obtain ⟨hd, hpc⟩ := hd
  subst hpc
  intro C ad H locs ls hP hD hS hW hl hL hst hkc hks hz7 hn7
  exact lv_iconst C.1 C.2.1 hd rfl (k C ad H locs ls hP hD hS hW hl hL (vSt_int hst) hkc hks hz7 hn7)
theorem v_bipush {n : Int} (hd : vD cc pc (.bipush n) 2 pc') (hv : (Int8.ofInt n).toInt32 = iI n) (k : vV cx own cc nL d MC MS kc ks pc' L (.int (iI n) :: st) S σ) : vV cx own cc nL d MC MS kc ks pc L st S σ := by
  obtain ⟨p, l, e, R, s, m, args, below, meth, c, Q, D, cA, A, ad0, n0⟩ := cx
  obtain ⟨hd, hpc⟩ := hd
  subst hpc
  intro C ad H locs ls hP hD hS hW hl hL hst hkc hks hz7 hn7
  exact lv_bipush C.1 C.2.1 hd hv (k C ad H locs ls hP hD hS hW hl hL (vSt_int hst) hkc hks hz7 hn7)
theorem v_sipush {n : Int} (hd : vD cc pc (.sipush n) 3 pc') (hv : (Int16.ofInt n).toInt32 = iI n) (k : vV cx own cc nL d MC MS kc ks pc' L (.int (iI n) :: st) S σ) : vV cx own cc nL d MC MS kc ks pc L st S σ := by
  obtain ⟨p, l, e, R, s, m, args, below, meth, c, Q, D, cA, A, ad0, n0⟩ := cx
  obtain ⟨hd, hpc⟩ := hd
  subst hpc
  intro C ad H locs ls hP hD hS hW hl hL hst hkc hks hz7 hn7
  exact lv_sipush C.1 C.2.1 hd hv (k C ad H locs ls hP hD hS hW hl hL (vSt_int hst) hkc hks hz7 hn7)
theorem v_ldc {n : Nat} {z : Int} (hd : vD cc pc (.ldc n) 2 pc') (hw : Cond.constant own n (iI z) ∈ wt) (k : vV cx own cc nL d MC MS kc ks pc' L (.int (iI z) :: st) S σ) : vV cx own cc nL d MC MS kc ks pc L st S σ := by
  obtain ⟨p, l, e, R, s, m, args, below, meth, c, Q, D, cA, A, ad0, n0⟩ := cx
  obtain ⟨hd, hpc⟩ := hd
  subst hpc
  intro C ad H locs ls hP hD hS hW hl hL hst hkc hks hz7 hn7
  exact lv_ldc C.1 C.2.1 C.2.2.2.1 (C.2.2.2.2.1 _ hw) hd (k C ad H locs ls hP hD hS hW hl hL (vSt_int hst) hkc hks hz7 hn7)
theorem v_ldc2 {n : Nat} {z : Int} (hd : vD cc pc (.ldc2_w n) 3 pc') (hw : Cond.constantLong own n (lI z) ∈ wt) (k : vV cx own cc nL d MC MS kc ks pc' L (.long (lI z) :: st) S σ) : vV cx own cc nL d MC MS kc ks pc L st S σ := by
  obtain ⟨p, l, e, R, s, m, args, below, meth, c, Q, D, cA, A, ad0, n0⟩ := cx
  obtain ⟨hd, hpc⟩ := hd
  subst hpc
  intro C ad H locs ls hP hD hS hW hl hL hst hkc hks hz7 hn7
  exact lv_ldc2 C.1 C.2.1 C.2.2.2.1 (C.2.2.2.2.1 _ hw) hd (k C ad H locs ls hP hD hS hW hl hL (vSt_long hst) hkc hks hz7 hn7)
theorem v_lconst {n : Fin 2} {z : Int} (hd : vD cc pc (.lconst n) 1 pc') (hv : Int64.ofNat (n : Nat) = lI z) (k : vV cx own cc nL d MC MS kc ks pc' L (.long (lI z) :: st) S σ) : vV cx own cc nL d MC MS kc ks pc L st S σ := by
  obtain ⟨p, l, e, R, s, m, args, below, meth, c, Q, D, cA, A, ad0, n0⟩ := cx
  obtain ⟨hd, hpc⟩ := hd
  subst hpc
  intro C ad H locs ls hP hD hS hW hl hL hst hkc hks hz7 hn7
  exact lv_lconst C.1 C.2.1 hd hv (k C ad H locs ls hP hD hS hW hl hL (vSt_long hst) hkc hks hz7 hn7)
theorem v_iload_n {j : Fin 4} {x : Int32} (hd : vD cc pc (.iload_n j) 1 pc') (hi : L[(j : Nat)]? = some (some (.int x))) (k : vV cx own cc nL d MC MS kc ks pc' L (.int x :: st) S σ) : vV cx own cc nL d MC MS kc ks pc L st S σ := by
  obtain ⟨p, l, e, R, s, m, args, below, meth, c, Q, D, cA, A, ad0, n0⟩ := cx
  obtain ⟨hd, hpc⟩ := hd
  subst hpc
  intro C ad H locs ls hP hD hS hW hl hL hst hkc hks hz7 hn7
  exact lv_iload_n C.1 C.2.1 hd rfl (vLoc_get hl hi) (k C ad H locs ls hP hD hS hW hl hL (vSt_int hst) hkc hks hz7 hn7)
theorem v_iload {i : Nat} {x : Int32} (hd : vD cc pc (.iload i) 2 pc') (hi : L[i]? = some (some (.int x))) (k : vV cx own cc nL d MC MS kc ks pc' L (.int x :: st) S σ) : vV cx own cc nL d MC MS kc ks pc L st S σ := by
  obtain ⟨p, l, e, R, s, m, args, below, meth, c, Q, D, cA, A, ad0, n0⟩ := cx
  obtain ⟨hd, hpc⟩ := hd
  subst hpc
  intro C ad H locs ls hP hD hS hW hl hL hst hkc hks hz7 hn7
  exact lv_iload C.1 C.2.1 hd (vLoc_get hl hi) (k C ad H locs ls hP hD hS hW hl hL (vSt_int hst) hkc hks hz7 hn7)
theorem v_lload_n {j : Fin 4} {x : Int64} (hd : vD cc pc (.lload_n j) 1 pc') (hi : L[(j : Nat)]? = some (some (.long x))) (k : vV cx own cc nL d MC MS kc ks pc' L (.long x :: st) S σ) : vV cx own cc nL d MC MS kc ks pc L st S σ := by
  obtain ⟨p, l, e, R, s, m, args, below, meth, c, Q, D, cA, A, ad0, n0⟩ := cx
  obtain ⟨hd, hpc⟩ := hd
  subst hpc
  intro C ad H locs ls hP hD hS hW hl hL hst hkc hks hz7 hn7
  exact lv_lload_n C.1 C.2.1 hd rfl (vLoc_get hl hi) (k C ad H locs ls hP hD hS hW hl hL (vSt_long hst) hkc hks hz7 hn7)
theorem v_lload {i : Nat} {x : Int64} (hd : vD cc pc (.lload i) 2 pc') (hi : L[i]? = some (some (.long x))) (k : vV cx own cc nL d MC MS kc ks pc' L (.long x :: st) S σ) : vV cx own cc nL d MC MS kc ks pc L st S σ := by
  obtain ⟨p, l, e, R, s, m, args, below, meth, c, Q, D, cA, A, ad0, n0⟩ := cx
  obtain ⟨hd, hpc⟩ := hd
  subst hpc
  intro C ad H locs ls hP hD hS hW hl hL hst hkc hks hz7 hn7
  exact lv_lload C.1 C.2.1 hd (vLoc_get hl hi) (k C ad H locs ls hP hD hS hW hl hL (vSt_long hst) hkc hks hz7 hn7)
theorem v_aload_n {j : Fin 4} {x : Nat} (hd : vD cc pc (.aload_n j) 1 pc') (hi : L[(j : Nat)]? = some (some (.ref x))) (k : vV cx own cc nL d MC MS kc ks pc' L (.ref x :: st) S σ) : vV cx own cc nL d MC MS kc ks pc L st S σ := by
  obtain ⟨p, l, e, R, s, m, args, below, meth, c, Q, D, cA, A, ad0, n0⟩ := cx
  obtain ⟨hd, hpc⟩ := hd
  subst hpc
  intro C ad H locs ls hP hD hS hW hl hL hst hkc hks hz7 hn7
  exact lv_aload_n C.1 C.2.1 hd rfl (vLoc_get hl hi) (k C ad H locs ls hP hD hS hW hl hL (vSt_cons (hL _ _ hi) hst) hkc hks hz7 hn7)
theorem v_aload {i : Nat} {x : Nat} (hd : vD cc pc (.aload i) 2 pc') (hi : L[i]? = some (some (.ref x))) (k : vV cx own cc nL d MC MS kc ks pc' L (.ref x :: st) S σ) : vV cx own cc nL d MC MS kc ks pc L st S σ := by
  obtain ⟨p, l, e, R, s, m, args, below, meth, c, Q, D, cA, A, ad0, n0⟩ := cx
  obtain ⟨hd, hpc⟩ := hd
  subst hpc
  intro C ad H locs ls hP hD hS hW hl hL hst hkc hks hz7 hn7
  exact lv_aload C.1 C.2.1 hd (vLoc_get hl hi) (k C ad H locs ls hP hD hS hW hl hL (vSt_cons (hL _ _ hi) hst) hkc hks hz7 hn7)
theorem v_istore_n {j : Fin 4} {x : Int32} {L' : List (Option Value)} (hd : vD cc pc (.istore_n j) 1 pc') (hi : (j : Nat) < nL) (hL1 : vLong L (j : Nat) = false) (hs : L.set (j : Nat) (some (.int x)) = L') (k : vV cx own cc nL d MC MS kc ks pc' L' st S σ) : vV cx own cc nL d MC MS kc ks pc L (.int x :: st) S σ := by
  obtain ⟨p, l, e, R, s, m, args, below, meth, c, Q, D, cA, A, ad0, n0⟩ := cx
  obtain ⟨hd, hpc⟩ := hd
  subst hpc
  intro C ad H locs ls hP hD hS hW hl hL hst hkc hks hz7 hn7
  refine lv_istore_n C.1 C.2.1 hd rfl (vLoc_lv hl) hi rfl (fun ls9 hl9 => ?_)
  exact k C ad H locs ls9 hP hD hS hW (vLoc_of1 (v := .int x) (fun _ h => h) hl9 hL1 hs) (vWfL_set hL vWfS_int hs) (vSt_tl hst) hkc hks hz7 hn7
theorem v_istore {i : Nat} {x : Int32} {L' : List (Option Value)} (hd : vD cc pc (.istore i) 2 pc') (hi : i < nL) (hL1 : vLong L i = false) (hs : L.set i (some (.int x)) = L') (k : vV cx own cc nL d MC MS kc ks pc' L' st S σ) : vV cx own cc nL d MC MS kc ks pc L (.int x :: st) S σ := by
  obtain ⟨p, l, e, R, s, m, args, below, meth, c, Q, D, cA, A, ad0, n0⟩ := cx
  obtain ⟨hd, hpc⟩ := hd
  subst hpc
  intro C ad H locs ls hP hD hS hW hl hL hst hkc hks hz7 hn7
  refine lv_istore C.1 C.2.1 hd (vLoc_lv hl) hi rfl (fun ls9 hl9 => ?_)
  exact k C ad H locs ls9 hP hD hS hW (vLoc_of1 (v := .int x) (fun _ h => h) hl9 hL1 hs) (vWfL_set hL vWfS_int hs) (vSt_tl hst) hkc hks hz7 hn7
theorem v_astore_n {j : Fin 4} {x : Nat} {L' : List (Option Value)} (hd : vD cc pc (.astore_n j) 1 pc') (hi : (j : Nat) < nL) (hL1 : vLong L (j : Nat) = false) (hs : L.set (j : Nat) (some (.ref x)) = L') (k : vV cx own cc nL d MC MS kc ks pc' L' st S σ) : vV cx own cc nL d MC MS kc ks pc L (.ref x :: st) S σ := by
  obtain ⟨p, l, e, R, s, m, args, below, meth, c, Q, D, cA, A, ad0, n0⟩ := cx
  obtain ⟨hd, hpc⟩ := hd
  subst hpc
  intro C ad H locs ls hP hD hS hW hl hL hst hkc hks hz7 hn7
  refine lv_astore_n C.1 C.2.1 hd rfl (vLoc_lv hl) hi rfl (fun ls9 hl9 => ?_)
  exact k C ad H locs ls9 hP hD hS hW (vLoc_of1 (v := .ref x) (fun _ h => h) hl9 hL1 hs) (vWfL_set hL (fun w h => by cases h; exact vSt_hd hst) hs) (vSt_tl hst) hkc hks hz7 hn7
theorem v_astore {i : Nat} {x : Nat} {L' : List (Option Value)} (hd : vD cc pc (.astore i) 2 pc') (hi : i < nL) (hL1 : vLong L i = false) (hs : L.set i (some (.ref x)) = L') (k : vV cx own cc nL d MC MS kc ks pc' L' st S σ) : vV cx own cc nL d MC MS kc ks pc L (.ref x :: st) S σ := by
  obtain ⟨p, l, e, R, s, m, args, below, meth, c, Q, D, cA, A, ad0, n0⟩ := cx
  obtain ⟨hd, hpc⟩ := hd
  subst hpc
  intro C ad H locs ls hP hD hS hW hl hL hst hkc hks hz7 hn7
  refine lv_astore C.1 C.2.1 hd (vLoc_lv hl) hi rfl (fun ls9 hl9 => ?_)
  exact k C ad H locs ls9 hP hD hS hW (vLoc_of1 (v := .ref x) (fun _ h => h) hl9 hL1 hs) (vWfL_set hL (fun w h => by cases h; exact vSt_hd hst) hs) (vSt_tl hst) hkc hks hz7 hn7
theorem v_lstore_n {j : Fin 4} {x : Int64} {L' : List (Option Value)} (hd : vD cc pc (.lstore_n j) 1 pc') (hi : (j : Nat) + 1 < nL) (hL1 : vLong L (j : Nat) = false) (hs : (L.set (j : Nat) (some (.long x))).set ((j : Nat) + 1) none = L') (k : vV cx own cc nL d MC MS kc ks pc' L' st S σ) : vV cx own cc nL d MC MS kc ks pc L (.long x :: st) S σ := by
  obtain ⟨p, l, e, R, s, m, args, below, meth, c, Q, D, cA, A, ad0, n0⟩ := cx
  obtain ⟨hd, hpc⟩ := hd
  subst hpc
  intro C ad H locs ls hP hD hS hW hl hL hst hkc hks hz7 hn7
  refine lv_lstore_n C.1 C.2.1 hd rfl (vLoc_lv hl) hi rfl (fun ls9 hl9 => ?_)
  exact k C ad H locs ls9 hP hD hS hW (vLoc_of2 (v := .long x) (fun _ h => h) hl9 hL1 hs) (vWfL_set (vWfL_set hL vWfS_long rfl) (fun w h => by cases h) hs) (vSt_tl hst) hkc hks hz7 hn7
theorem v_iinc {i : Nat} {n x : Int} {L' : List (Option Value)} (hd : vD cc pc (.iinc i n) 3 pc') (hi : i < nL) (hx : L[i]? = some (some (.int (iI x)))) (hL1 : vLong L i = false) (hs : L.set i (some (.int (iI (x + n)))) = L') (k : vV cx own cc nL d MC MS kc ks pc' L' st S σ) : vV cx own cc nL d MC MS kc ks pc L st S σ := by
  obtain ⟨p, l, e, R, s, m, args, below, meth, c, Q, D, cA, A, ad0, n0⟩ := cx
  obtain ⟨hd, hpc⟩ := hd
  subst hpc
  intro C ad H locs ls hP hD hS hW hl hL hst hkc hks hz7 hn7
  have hh := vLoc_lv hl
  refine lv_iinc (v := iI (x + n)) (k := 0) C.1 C.2.1 hd (lv := (i, .int (iI x)) :: vLv ad L) ⟨hh.1, hh.2.1, List.forall_mem_cons.mpr ⟨vLoc_get hl hx, hh.2.2⟩⟩ rfl (iI_add x n) hi rfl (fun ls9 hl9 => ?_)
  exact k C ad H locs ls9 hP hD hS hW (vLoc_of1 (v := .int (iI (x + n))) (fun _ h => List.mem_cons_of_mem _ h) hl9 hL1 hs) (vWfL_set hL vWfS_int hs) hst hkc hks hz7 hn7
theorem v_iadd {a b : Int} (hd : vD cc pc (.iadd) 1 pc') (k : vV cx own cc nL d MC MS kc ks pc' L (.int (iI (a + b)) :: st) S σ) : vV cx own cc nL d MC MS kc ks pc L (.int (iI b) :: .int (iI a) :: st) S σ := by
  obtain ⟨p, l, e, R, s, m, args, below, meth, c, Q, D, cA, A, ad0, n0⟩ := cx
  obtain ⟨hd, hpc⟩ := hd
  subst hpc
  intro C ad H locs ls hP hD hS hW hl hL hst hkc hks hz7 hn7
  refine lv_iadd C.1 C.2.1 hd ?_
  rw [iI_add]
  exact k C ad H locs ls hP hD hS hW hl hL (vSt_int (vSt_tl (vSt_tl hst))) hkc hks hz7 hn7
theorem v_isub {a b : Int} (hd : vD cc pc (.isub) 1 pc') (k : vV cx own cc nL d MC MS kc ks pc' L (.int (iI (a - b)) :: st) S σ) : vV cx own cc nL d MC MS kc ks pc L (.int (iI b) :: .int (iI a) :: st) S σ := by
  obtain ⟨p, l, e, R, s, m, args, below, meth, c, Q, D, cA, A, ad0, n0⟩ := cx
  obtain ⟨hd, hpc⟩ := hd
  subst hpc
  intro C ad H locs ls hP hD hS hW hl hL hst hkc hks hz7 hn7
  refine lv_isub C.1 C.2.1 hd ?_
  rw [iI_sub]
  exact k C ad H locs ls hP hD hS hW hl hL (vSt_int (vSt_tl (vSt_tl hst))) hkc hks hz7 hn7
theorem v_imul {a b : Int} (hd : vD cc pc (.imul) 1 pc') (k : vV cx own cc nL d MC MS kc ks pc' L (.int (iI (a * b)) :: st) S σ) : vV cx own cc nL d MC MS kc ks pc L (.int (iI b) :: .int (iI a) :: st) S σ := by
  obtain ⟨p, l, e, R, s, m, args, below, meth, c, Q, D, cA, A, ad0, n0⟩ := cx
  obtain ⟨hd, hpc⟩ := hd
  subst hpc
  intro C ad H locs ls hP hD hS hW hl hL hst hkc hks hz7 hn7
  refine lv_imul C.1 C.2.1 hd ?_
  rw [iI_mul]
  exact k C ad H locs ls hP hD hS hW hl hL (vSt_int (vSt_tl (vSt_tl hst))) hkc hks hz7 hn7
theorem v_ladd {a b : Int} (hd : vD cc pc (.ladd) 1 pc') (k : vV cx own cc nL d MC MS kc ks pc' L (.long (lI (a + b)) :: st) S σ) : vV cx own cc nL d MC MS kc ks pc L (.long (lI b) :: .long (lI a) :: st) S σ := by
  obtain ⟨p, l, e, R, s, m, args, below, meth, c, Q, D, cA, A, ad0, n0⟩ := cx
  obtain ⟨hd, hpc⟩ := hd
  subst hpc
  intro C ad H locs ls hP hD hS hW hl hL hst hkc hks hz7 hn7
  refine lv_ladd C.1 C.2.1 hd ?_
  rw [lI_add]
  exact k C ad H locs ls hP hD hS hW hl hL (vSt_long (vSt_tl (vSt_tl hst))) hkc hks hz7 hn7
theorem v_lsub {a b : Int} (hd : vD cc pc (.lsub) 1 pc') (k : vV cx own cc nL d MC MS kc ks pc' L (.long (lI (a - b)) :: st) S σ) : vV cx own cc nL d MC MS kc ks pc L (.long (lI b) :: .long (lI a) :: st) S σ := by
  obtain ⟨p, l, e, R, s, m, args, below, meth, c, Q, D, cA, A, ad0, n0⟩ := cx
  obtain ⟨hd, hpc⟩ := hd
  subst hpc
  intro C ad H locs ls hP hD hS hW hl hL hst hkc hks hz7 hn7
  refine lv_lsub C.1 C.2.1 hd ?_
  rw [lI_sub]
  exact k C ad H locs ls hP hD hS hW hl hL (vSt_long (vSt_tl (vSt_tl hst))) hkc hks hz7 hn7
theorem v_lmul {a b : Int} (hd : vD cc pc (.lmul) 1 pc') (k : vV cx own cc nL d MC MS kc ks pc' L (.long (lI (a * b)) :: st) S σ) : vV cx own cc nL d MC MS kc ks pc L (.long (lI b) :: .long (lI a) :: st) S σ := by
  obtain ⟨p, l, e, R, s, m, args, below, meth, c, Q, D, cA, A, ad0, n0⟩ := cx
  obtain ⟨hd, hpc⟩ := hd
  subst hpc
  intro C ad H locs ls hP hD hS hW hl hL hst hkc hks hz7 hn7
  refine lv_lmul C.1 C.2.1 hd ?_
  rw [lI_mul]
  exact k C ad H locs ls hP hD hS hW hl hL (vSt_long (vSt_tl (vSt_tl hst))) hkc hks hz7 hn7
theorem v_idiv {a b : Int} (hd : vD cc pc (.idiv) 1 pc') (ha : 0 ≤ a ∧ a ≤ 2147483647) (hb : 0 < b ∧ b ≤ 2147483647) (k : vV cx own cc nL d MC MS kc ks pc' L (.int (iI (a / b)) :: st) S σ) : vV cx own cc nL d MC MS kc ks pc L (.int (iI b) :: .int (iI a) :: st) S σ := by
  obtain ⟨p, l, e, R, s, m, args, below, meth, c, Q, D, cA, A, ad0, n0⟩ := cx
  obtain ⟨hd, hpc⟩ := hd
  subst hpc
  intro C ad H locs ls hP hD hS hW hl hL hst hkc hks hz7 hn7
  refine lv_idiv C.1 C.2.1 hd (fun h => ?_) ?_
  · have := (iI_eq (a := b) (b := 0) (by omega) (by omega)).mp h
    omega
  · rw [iI_div (by omega) (by omega) ha.1 hb.1]
    exact k C ad H locs ls hP hD hS hW hl hL (vSt_int (vSt_tl (vSt_tl hst))) hkc hks hz7 hn7
theorem v_irem {a b : Int} (hd : vD cc pc (.irem) 1 pc') (ha : vIn a) (hb : 0 < b ∧ b ≤ 2147483647) (k : vV cx own cc nL d MC MS kc ks pc' L (.int (iI (a.tmod b)) :: st) S σ) : vV cx own cc nL d MC MS kc ks pc L (.int (iI b) :: .int (iI a) :: st) S σ := by
  obtain ⟨p, l, e, R, s, m, args, below, meth, c, Q, D, cA, A, ad0, n0⟩ := cx
  obtain ⟨hd, hpc⟩ := hd
  subst hpc
  intro C ad H locs ls hP hD hS hW hl hL hst hkc hks hz7 hn7
  refine lv_irem C.1 C.2.1 hd (fun h => by have := (iI_eq (a := b) (b := 0) (by omega) (by omega)).mp h; omega) ?_
  rw [iI_remJ ha hb.1 hb.2]
  exact k C ad H locs ls hP hD hS hW hl hL (vSt_int (vSt_tl (vSt_tl hst))) hkc hks hz7 hn7
theorem v_iand {x y : Int32} {z : Int} (hd : vD cc pc (.iand) 1 pc') (hz : x &&& y = iI z) (k : vV cx own cc nL d MC MS kc ks pc' L (.int (iI z) :: st) S σ) : vV cx own cc nL d MC MS kc ks pc L (.int y :: .int x :: st) S σ := by
  obtain ⟨p, l, e, R, s, m, args, below, meth, c, Q, D, cA, A, ad0, n0⟩ := cx
  obtain ⟨hd, hpc⟩ := hd
  subst hpc
  intro C ad H locs ls hP hD hS hW hl hL hst hkc hks hz7 hn7
  refine lv_iand C.1 C.2.1 hd ?_
  rw [hz]
  exact k C ad H locs ls hP hD hS hW hl hL (vSt_int (vSt_tl (vSt_tl hst))) hkc hks hz7 hn7
theorem v_ior {x y : Int32} {z : Int} (hd : vD cc pc (.ior) 1 pc') (hz : x ||| y = iI z) (k : vV cx own cc nL d MC MS kc ks pc' L (.int (iI z) :: st) S σ) : vV cx own cc nL d MC MS kc ks pc L (.int y :: .int x :: st) S σ := by
  obtain ⟨p, l, e, R, s, m, args, below, meth, c, Q, D, cA, A, ad0, n0⟩ := cx
  obtain ⟨hd, hpc⟩ := hd
  subst hpc
  intro C ad H locs ls hP hD hS hW hl hL hst hkc hks hz7 hn7
  refine lv_ior C.1 C.2.1 hd ?_
  rw [hz]
  exact k C ad H locs ls hP hD hS hW hl hL (vSt_int (vSt_tl (vSt_tl hst))) hkc hks hz7 hn7
theorem v_ixor {x y : Int32} {z : Int} (hd : vD cc pc (.ixor) 1 pc') (hz : x ^^^ y = iI z) (k : vV cx own cc nL d MC MS kc ks pc' L (.int (iI z) :: st) S σ) : vV cx own cc nL d MC MS kc ks pc L (.int y :: .int x :: st) S σ := by
  obtain ⟨p, l, e, R, s, m, args, below, meth, c, Q, D, cA, A, ad0, n0⟩ := cx
  obtain ⟨hd, hpc⟩ := hd
  subst hpc
  intro C ad H locs ls hP hD hS hW hl hL hst hkc hks hz7 hn7
  refine lv_ixor C.1 C.2.1 hd ?_
  rw [hz]
  exact k C ad H locs ls hP hD hS hW hl hL (vSt_int (vSt_tl (vSt_tl hst))) hkc hks hz7 hn7
theorem v_ishl {x y : Int32} {z : Int} (hd : vD cc pc (.ishl) 1 pc') (hz : x <<< (y &&& 31) = iI z) (k : vV cx own cc nL d MC MS kc ks pc' L (.int (iI z) :: st) S σ) : vV cx own cc nL d MC MS kc ks pc L (.int y :: .int x :: st) S σ := by
  obtain ⟨p, l, e, R, s, m, args, below, meth, c, Q, D, cA, A, ad0, n0⟩ := cx
  obtain ⟨hd, hpc⟩ := hd
  subst hpc
  intro C ad H locs ls hP hD hS hW hl hL hst hkc hks hz7 hn7
  refine lv_ishl C.1 C.2.1 hd ?_
  rw [hz]
  exact k C ad H locs ls hP hD hS hW hl hL (vSt_int (vSt_tl (vSt_tl hst))) hkc hks hz7 hn7
theorem v_ishr {x y : Int32} {z : Int} (hd : vD cc pc (.ishr) 1 pc') (hz : x >>> (y &&& 31) = iI z) (k : vV cx own cc nL d MC MS kc ks pc' L (.int (iI z) :: st) S σ) : vV cx own cc nL d MC MS kc ks pc L (.int y :: .int x :: st) S σ := by
  obtain ⟨p, l, e, R, s, m, args, below, meth, c, Q, D, cA, A, ad0, n0⟩ := cx
  obtain ⟨hd, hpc⟩ := hd
  subst hpc
  intro C ad H locs ls hP hD hS hW hl hL hst hkc hks hz7 hn7
  refine lv_ishr C.1 C.2.1 hd ?_
  rw [hz]
  exact k C ad H locs ls hP hD hS hW hl hL (vSt_int (vSt_tl (vSt_tl hst))) hkc hks hz7 hn7
theorem v_iushr {x y : Int32} {z : Int} (hd : vD cc pc (.iushr) 1 pc') (hz : (x.toUInt32 >>> (y.toUInt32 &&& Int32.toUInt32 31)).toInt32 = iI z) (k : vV cx own cc nL d MC MS kc ks pc' L (.int (iI z) :: st) S σ) : vV cx own cc nL d MC MS kc ks pc L (.int y :: .int x :: st) S σ := by
  obtain ⟨p, l, e, R, s, m, args, below, meth, c, Q, D, cA, A, ad0, n0⟩ := cx
  obtain ⟨hd, hpc⟩ := hd
  subst hpc
  intro C ad H locs ls hP hD hS hW hl hL hst hkc hks hz7 hn7
  exact lv_iushr C.1 C.2.1 hd hz (k C ad H locs ls hP hD hS hW hl hL (vSt_int (vSt_tl (vSt_tl hst))) hkc hks hz7 hn7)
theorem v_i2l {a : Int} (hd : vD cc pc (.i2l) 1 pc') (ha : vIn a) (k : vV cx own cc nL d MC MS kc ks pc' L (.long (lI a) :: st) S σ) : vV cx own cc nL d MC MS kc ks pc L (.int (iI a) :: st) S σ := by
  obtain ⟨p, l, e, R, s, m, args, below, meth, c, Q, D, cA, A, ad0, n0⟩ := cx
  obtain ⟨hd, hpc⟩ := hd
  subst hpc
  intro C ad H locs ls hP hD hS hW hl hL hst hkc hks hz7 hn7
  refine lv_i2l C.1 C.2.1 hd (v := lI a) ?_ (k C ad H locs ls hP hD hS hW hl hL (vSt_long (vSt_tl hst)) hkc hks hz7 hn7)
  apply Int64.toInt_inj.mp
  rw [Int32.toInt_toInt64, iI_toInt ha, lI_toInt (by omega)]
theorem v_i2b {x : Int32} {z : Int} (hd : vD cc pc (.i2b) 1 pc') (hz : x.toInt8.toInt32 = iI z) (k : vV cx own cc nL d MC MS kc ks pc' L (.int (iI z) :: st) S σ) : vV cx own cc nL d MC MS kc ks pc L (.int x :: st) S σ := by
  obtain ⟨p, l, e, R, s, m, args, below, meth, c, Q, D, cA, A, ad0, n0⟩ := cx
  obtain ⟨hd, hpc⟩ := hd
  subst hpc
  intro C ad H locs ls hP hD hS hW hl hL hst hkc hks hz7 hn7
  exact lv_i2b C.1 C.2.1 hd hz (k C ad H locs ls hP hD hS hW hl hL (vSt_int (vSt_tl hst)) hkc hks hz7 hn7)
theorem v_dup {v : Value} (hd : vD cc pc (.dup) 1 pc') (hv : v.category = 1) (k : vV cx own cc nL d MC MS kc ks pc' L (v :: v :: st) S σ) : vV cx own cc nL d MC MS kc ks pc L (v :: st) S σ := by
  obtain ⟨p, l, e, R, s, m, args, below, meth, c, Q, D, cA, A, ad0, n0⟩ := cx
  obtain ⟨hd, hpc⟩ := hd
  subst hpc
  intro C ad H locs ls hP hD hS hW hl hL hst hkc hks hz7 hn7
  exact lv_dup C.1 C.2.1 hd (by rw [vcv_cat]; exact hv) (k C ad H locs ls hP hD hS hW hl hL (vSt_cons (vSt_hd hst) hst) hkc hks hz7 hn7)
theorem v_dup2 {v w : Value} (hd : vD cc pc (.dup2) 1 pc') (hv : v.category = 1) (hw : w.category = 1) (k : vV cx own cc nL d MC MS kc ks pc' L (v :: w :: v :: w :: st) S σ) : vV cx own cc nL d MC MS kc ks pc L (v :: w :: st) S σ := by
  obtain ⟨p, l, e, R, s, m, args, below, meth, c, Q, D, cA, A, ad0, n0⟩ := cx
  obtain ⟨hd, hpc⟩ := hd
  subst hpc
  intro C ad H locs ls hP hD hS hW hl hL hst hkc hks hz7 hn7
  exact lv_dup2_11 C.1 C.2.1 hd (by rw [vcv_cat]; exact hv) (by rw [vcv_cat]; exact hw) (k C ad H locs ls hP hD hS hW hl hL (vSt_cons (vSt_hd hst) (vSt_cons (vSt_hd (vSt_tl hst)) hst)) hkc hks hz7 hn7)
abbrev vJ (cc : ByteArray) (pc : Nat) (i : Instr) (pc' : Nat) (off : Int) (tgt : Nat) : Prop := decode cc pc = .ok (i, 3) ∧ pc + 3 = pc' ∧ (pc : Int) + off = (tgt : Int)
theorem v_icmp_eq {a b : Int} {off : Int} {tgt : Nat} (hd : vJ cc pc (.if_icmp .eq off) pc' off tgt) (ha : vIn a) (hb : vIn b) (kt : a = b → vV cx own cc nL d MC MS kc ks tgt L st S σ) (kf : a ≠ b → vV cx own cc nL d MC MS kc ks pc' L st S σ) : vV cx own cc nL d MC MS kc ks pc L (.int (iI b) :: .int (iI a) :: st) S σ := by
  obtain ⟨p, l, e, R, s, m, args, below, meth, c, Q, D, cA, A, ad0, n0⟩ := cx
  obtain ⟨hd, hpc, ht⟩ := hd
  subst hpc
  intro C ad H locs ls hP hD hS hW hl hL hst hkc hks hz7 hn7
  refine lv_icmp_eq C.1 C.2.1 hd ht (fun h => ?_) (fun h => ?_)
  · have h' : a = b := by first | exact (iI_eq ha hb).mp h | (intro q; exact h (by rw [q]))
    exact kt h' C ad H locs ls hP hD hS hW hl hL (vSt_tl (vSt_tl hst)) hkc hks hz7 hn7
  · have h' : a ≠ b := by
      by_cases q : a = b
      · first | exact absurd ((iI_eq ha hb).mpr q) h | exact absurd ((iI_eq ha hb).mp h) q
      · first | exact q | omega
    exact kf h' C ad H locs ls hP hD hS hW hl hL (vSt_tl (vSt_tl hst)) hkc hks hz7 hn7
theorem v_if_eq {a : Int} {off : Int} {tgt : Nat} (hd : vJ cc pc (.ifCond .eq off) pc' off tgt) (ha : vIn a) (kt : a = 0 → vV cx own cc nL d MC MS kc ks tgt L st S σ) (kf : a ≠ 0 → vV cx own cc nL d MC MS kc ks pc' L st S σ) : vV cx own cc nL d MC MS kc ks pc L (.int (iI a) :: st) S σ := by
  obtain ⟨p, l, e, R, s, m, args, below, meth, c, Q, D, cA, A, ad0, n0⟩ := cx
  obtain ⟨hd, hpc, ht⟩ := hd
  subst hpc
  intro C ad H locs ls hP hD hS hW hl hL hst hkc hks hz7 hn7
  have hb : vIn 0 := by decide
  refine lv_if_eq C.1 C.2.1 hd ht (fun h => ?_) (fun h => ?_)
  · have h' : a = 0 := by first | exact (iI_eq ha hb).mp h | (intro q; exact h (by rw [q]; rfl))
    exact kt h' C ad H locs ls hP hD hS hW hl hL (vSt_tl hst) hkc hks hz7 hn7
  · have h' : a ≠ 0 := by
      by_cases q : a = 0
      · first | exact absurd ((iI_eq ha hb).mpr q) h | exact absurd ((iI_eq ha hb).mp h) q
      · first | exact q | omega
    exact kf h' C ad H locs ls hP hD hS hW hl hL (vSt_tl hst) hkc hks hz7 hn7
theorem v_icmp_ne {a b : Int} {off : Int} {tgt : Nat} (hd : vJ cc pc (.if_icmp .ne off) pc' off tgt) (ha : vIn a) (hb : vIn b) (kt : a ≠ b → vV cx own cc nL d MC MS kc ks tgt L st S σ) (kf : a = b → vV cx own cc nL d MC MS kc ks pc' L st S σ) : vV cx own cc nL d MC MS kc ks pc L (.int (iI b) :: .int (iI a) :: st) S σ := by
  obtain ⟨p, l, e, R, s, m, args, below, meth, c, Q, D, cA, A, ad0, n0⟩ := cx
  obtain ⟨hd, hpc, ht⟩ := hd
  subst hpc
  intro C ad H locs ls hP hD hS hW hl hL hst hkc hks hz7 hn7
  refine lv_icmp_ne C.1 C.2.1 hd ht (fun h => ?_) (fun h => ?_)
  · have h' : a ≠ b := by first | exact (not_congr (iI_eq ha hb)).mp h | (intro q; exact h (by rw [q]))
    exact kt h' C ad H locs ls hP hD hS hW hl hL (vSt_tl (vSt_tl hst)) hkc hks hz7 hn7
  · have h' : a = b := by
      by_cases q : a ≠ b
      · first | exact absurd ((not_congr (iI_eq ha hb)).mpr q) h | exact absurd ((iI_eq ha hb).mp h) q
      · first | exact q | omega
    exact kf h' C ad H locs ls hP hD hS hW hl hL (vSt_tl (vSt_tl hst)) hkc hks hz7 hn7
theorem v_if_ne {a : Int} {off : Int} {tgt : Nat} (hd : vJ cc pc (.ifCond .ne off) pc' off tgt) (ha : vIn a) (kt : a ≠ 0 → vV cx own cc nL d MC MS kc ks tgt L st S σ) (kf : a = 0 → vV cx own cc nL d MC MS kc ks pc' L st S σ) : vV cx own cc nL d MC MS kc ks pc L (.int (iI a) :: st) S σ := by
  obtain ⟨p, l, e, R, s, m, args, below, meth, c, Q, D, cA, A, ad0, n0⟩ := cx
  obtain ⟨hd, hpc, ht⟩ := hd
  subst hpc
  intro C ad H locs ls hP hD hS hW hl hL hst hkc hks hz7 hn7
  have hb : vIn 0 := by decide
  refine lv_if_ne C.1 C.2.1 hd ht (fun h => ?_) (fun h => ?_)
  · have h' : a ≠ 0 := by first | exact (not_congr (iI_eq ha hb)).mp h | (intro q; exact h (by rw [q]; rfl))
    exact kt h' C ad H locs ls hP hD hS hW hl hL (vSt_tl hst) hkc hks hz7 hn7
  · have h' : a = 0 := by
      by_cases q : a ≠ 0
      · first | exact absurd ((not_congr (iI_eq ha hb)).mpr q) h | exact absurd ((iI_eq ha hb).mp h) q
      · first | exact q | omega
    exact kf h' C ad H locs ls hP hD hS hW hl hL (vSt_tl hst) hkc hks hz7 hn7
theorem v_icmp_lt {a b : Int} {off : Int} {tgt : Nat} (hd : vJ cc pc (.if_icmp .lt off) pc' off tgt) (ha : vIn a) (hb : vIn b) (kt : a < b → vV cx own cc nL d MC MS kc ks tgt L st S σ) (kf : b ≤ a → vV cx own cc nL d MC MS kc ks pc' L st S σ) : vV cx own cc nL d MC MS kc ks pc L (.int (iI b) :: .int (iI a) :: st) S σ := by
  obtain ⟨p, l, e, R, s, m, args, below, meth, c, Q, D, cA, A, ad0, n0⟩ := cx
  obtain ⟨hd, hpc, ht⟩ := hd
  subst hpc
  intro C ad H locs ls hP hD hS hW hl hL hst hkc hks hz7 hn7
  refine lv_icmp_lt C.1 C.2.1 hd ht (fun h => ?_) (fun h => ?_)
  · have h' : a < b := by first | exact (iI_lt ha hb).mp h | (intro q; exact h (by rw [q]))
    exact kt h' C ad H locs ls hP hD hS hW hl hL (vSt_tl (vSt_tl hst)) hkc hks hz7 hn7
  · have h' : b ≤ a := by
      by_cases q : a < b
      · first | exact absurd ((iI_lt ha hb).mpr q) h | exact absurd ((iI_eq ha hb).mp h) q
      · first | exact q | omega
    exact kf h' C ad H locs ls hP hD hS hW hl hL (vSt_tl (vSt_tl hst)) hkc hks hz7 hn7
theorem v_if_lt {a : Int} {off : Int} {tgt : Nat} (hd : vJ cc pc (.ifCond .lt off) pc' off tgt) (ha : vIn a) (kt : a < 0 → vV cx own cc nL d MC MS kc ks tgt L st S σ) (kf : 0 ≤ a → vV cx own cc nL d MC MS kc ks pc' L st S σ) : vV cx own cc nL d MC MS kc ks pc L (.int (iI a) :: st) S σ := by
  obtain ⟨p, l, e, R, s, m, args, below, meth, c, Q, D, cA, A, ad0, n0⟩ := cx
  obtain ⟨hd, hpc, ht⟩ := hd
  subst hpc
  intro C ad H locs ls hP hD hS hW hl hL hst hkc hks hz7 hn7
  have hb : vIn 0 := by decide
  refine lv_if_lt C.1 C.2.1 hd ht (fun h => ?_) (fun h => ?_)
  · have h' : a < 0 := by first | exact (iI_lt ha hb).mp h | (intro q; exact h (by rw [q]; rfl))
    exact kt h' C ad H locs ls hP hD hS hW hl hL (vSt_tl hst) hkc hks hz7 hn7
  · have h' : 0 ≤ a := by
      by_cases q : a < 0
      · first | exact absurd ((iI_lt ha hb).mpr q) h | exact absurd ((iI_eq ha hb).mp h) q
      · first | exact q | omega
    exact kf h' C ad H locs ls hP hD hS hW hl hL (vSt_tl hst) hkc hks hz7 hn7
theorem v_icmp_ge {a b : Int} {off : Int} {tgt : Nat} (hd : vJ cc pc (.if_icmp .ge off) pc' off tgt) (ha : vIn a) (hb : vIn b) (kt : b ≤ a → vV cx own cc nL d MC MS kc ks tgt L st S σ) (kf : a < b → vV cx own cc nL d MC MS kc ks pc' L st S σ) : vV cx own cc nL d MC MS kc ks pc L (.int (iI b) :: .int (iI a) :: st) S σ := by
  obtain ⟨p, l, e, R, s, m, args, below, meth, c, Q, D, cA, A, ad0, n0⟩ := cx
  obtain ⟨hd, hpc, ht⟩ := hd
  subst hpc
  intro C ad H locs ls hP hD hS hW hl hL hst hkc hks hz7 hn7
  refine lv_icmp_ge C.1 C.2.1 hd ht (fun h => ?_) (fun h => ?_)
  · have h' : b ≤ a := by first | exact (iI_le hb ha).mp h | (intro q; exact h (by rw [q]))
    exact kt h' C ad H locs ls hP hD hS hW hl hL (vSt_tl (vSt_tl hst)) hkc hks hz7 hn7
  · have h' : a < b := by
      by_cases q : b ≤ a
      · first | exact absurd ((iI_le hb ha).mpr q) h | exact absurd ((iI_eq ha hb).mp h) q
      · first | exact q | omega
    exact kf h' C ad H locs ls hP hD hS hW hl hL (vSt_tl (vSt_tl hst)) hkc hks hz7 hn7
theorem v_if_ge {a : Int} {off : Int} {tgt : Nat} (hd : vJ cc pc (.ifCond .ge off) pc' off tgt) (ha : vIn a) (kt : 0 ≤ a → vV cx own cc nL d MC MS kc ks tgt L st S σ) (kf : a < 0 → vV cx own cc nL d MC MS kc ks pc' L st S σ) : vV cx own cc nL d MC MS kc ks pc L (.int (iI a) :: st) S σ := by
  obtain ⟨p, l, e, R, s, m, args, below, meth, c, Q, D, cA, A, ad0, n0⟩ := cx
  obtain ⟨hd, hpc, ht⟩ := hd
  subst hpc
  intro C ad H locs ls hP hD hS hW hl hL hst hkc hks hz7 hn7
  have hb : vIn 0 := by decide
  refine lv_if_ge C.1 C.2.1 hd ht (fun h => ?_) (fun h => ?_)
  · have h' : 0 ≤ a := by first | exact (iI_le hb ha).mp h | (intro q; exact h (by rw [q]; rfl))
    exact kt h' C ad H locs ls hP hD hS hW hl hL (vSt_tl hst) hkc hks hz7 hn7
  · have h' : a < 0 := by
      by_cases q : 0 ≤ a
      · first | exact absurd ((iI_le hb ha).mpr q) h | exact absurd ((iI_eq ha hb).mp h) q
      · first | exact q | omega
    exact kf h' C ad H locs ls hP hD hS hW hl hL (vSt_tl hst) hkc hks hz7 hn7
theorem v_icmp_gt {a b : Int} {off : Int} {tgt : Nat} (hd : vJ cc pc (.if_icmp .gt off) pc' off tgt) (ha : vIn a) (hb : vIn b) (kt : b < a → vV cx own cc nL d MC MS kc ks tgt L st S σ) (kf : a ≤ b → vV cx own cc nL d MC MS kc ks pc' L st S σ) : vV cx own cc nL d MC MS kc ks pc L (.int (iI b) :: .int (iI a) :: st) S σ := by
  obtain ⟨p, l, e, R, s, m, args, below, meth, c, Q, D, cA, A, ad0, n0⟩ := cx
  obtain ⟨hd, hpc, ht⟩ := hd
  subst hpc
  intro C ad H locs ls hP hD hS hW hl hL hst hkc hks hz7 hn7
  refine lv_icmp_gt C.1 C.2.1 hd ht (fun h => ?_) (fun h => ?_)
  · have h' : b < a := by first | exact (iI_lt hb ha).mp h | (intro q; exact h (by rw [q]))
    exact kt h' C ad H locs ls hP hD hS hW hl hL (vSt_tl (vSt_tl hst)) hkc hks hz7 hn7
  · have h' : a ≤ b := by
      by_cases q : b < a
      · first | exact absurd ((iI_lt hb ha).mpr q) h | exact absurd ((iI_eq ha hb).mp h) q
      · first | exact q | omega
    exact kf h' C ad H locs ls hP hD hS hW hl hL (vSt_tl (vSt_tl hst)) hkc hks hz7 hn7
theorem v_if_gt {a : Int} {off : Int} {tgt : Nat} (hd : vJ cc pc (.ifCond .gt off) pc' off tgt) (ha : vIn a) (kt : 0 < a → vV cx own cc nL d MC MS kc ks tgt L st S σ) (kf : a ≤ 0 → vV cx own cc nL d MC MS kc ks pc' L st S σ) : vV cx own cc nL d MC MS kc ks pc L (.int (iI a) :: st) S σ := by
  obtain ⟨p, l, e, R, s, m, args, below, meth, c, Q, D, cA, A, ad0, n0⟩ := cx
  obtain ⟨hd, hpc, ht⟩ := hd
  subst hpc
  intro C ad H locs ls hP hD hS hW hl hL hst hkc hks hz7 hn7
  have hb : vIn 0 := by decide
  refine lv_if_gt C.1 C.2.1 hd ht (fun h => ?_) (fun h => ?_)
  · have h' : 0 < a := by first | exact (iI_lt hb ha).mp h | (intro q; exact h (by rw [q]; rfl))
    exact kt h' C ad H locs ls hP hD hS hW hl hL (vSt_tl hst) hkc hks hz7 hn7
  · have h' : a ≤ 0 := by
      by_cases q : 0 < a
      · first | exact absurd ((iI_lt hb ha).mpr q) h | exact absurd ((iI_eq ha hb).mp h) q
      · first | exact q | omega
    exact kf h' C ad H locs ls hP hD hS hW hl hL (vSt_tl hst) hkc hks hz7 hn7
theorem v_icmp_le {a b : Int} {off : Int} {tgt : Nat} (hd : vJ cc pc (.if_icmp .le off) pc' off tgt) (ha : vIn a) (hb : vIn b) (kt : a ≤ b → vV cx own cc nL d MC MS kc ks tgt L st S σ) (kf : b < a → vV cx own cc nL d MC MS kc ks pc' L st S σ) : vV cx own cc nL d MC MS kc ks pc L (.int (iI b) :: .int (iI a) :: st) S σ := by
  obtain ⟨p, l, e, R, s, m, args, below, meth, c, Q, D, cA, A, ad0, n0⟩ := cx
  obtain ⟨hd, hpc, ht⟩ := hd
  subst hpc
  intro C ad H locs ls hP hD hS hW hl hL hst hkc hks hz7 hn7
  refine lv_icmp_le C.1 C.2.1 hd ht (fun h => ?_) (fun h => ?_)
  · have h' : a ≤ b := by first | exact (iI_le ha hb).mp h | (intro q; exact h (by rw [q]))
    exact kt h' C ad H locs ls hP hD hS hW hl hL (vSt_tl (vSt_tl hst)) hkc hks hz7 hn7
  · have h' : b < a := by
      by_cases q : a ≤ b
      · first | exact absurd ((iI_le ha hb).mpr q) h | exact absurd ((iI_eq ha hb).mp h) q
      · first | exact q | omega
    exact kf h' C ad H locs ls hP hD hS hW hl hL (vSt_tl (vSt_tl hst)) hkc hks hz7 hn7
theorem v_if_le {a : Int} {off : Int} {tgt : Nat} (hd : vJ cc pc (.ifCond .le off) pc' off tgt) (ha : vIn a) (kt : a ≤ 0 → vV cx own cc nL d MC MS kc ks tgt L st S σ) (kf : 0 < a → vV cx own cc nL d MC MS kc ks pc' L st S σ) : vV cx own cc nL d MC MS kc ks pc L (.int (iI a) :: st) S σ := by
  obtain ⟨p, l, e, R, s, m, args, below, meth, c, Q, D, cA, A, ad0, n0⟩ := cx
  obtain ⟨hd, hpc, ht⟩ := hd
  subst hpc
  intro C ad H locs ls hP hD hS hW hl hL hst hkc hks hz7 hn7
  have hb : vIn 0 := by decide
  refine lv_if_le C.1 C.2.1 hd ht (fun h => ?_) (fun h => ?_)
  · have h' : a ≤ 0 := by first | exact (iI_le ha hb).mp h | (intro q; exact h (by rw [q]; rfl))
    exact kt h' C ad H locs ls hP hD hS hW hl hL (vSt_tl hst) hkc hks hz7 hn7
  · have h' : 0 < a := by
      by_cases q : a ≤ 0
      · first | exact absurd ((iI_le ha hb).mpr q) h | exact absurd ((iI_eq ha hb).mp h) q
      · first | exact q | omega
    exact kf h' C ad H locs ls hP hD hS hW hl hL (vSt_tl hst) hkc hks hz7 hn7
theorem v_goto {off : Int} {tgt : Nat} (hd : vJ cc pc (.goto off) pc' off tgt) (k : vV cx own cc nL d MC MS kc ks tgt L st S σ) : vV cx own cc nL d MC MS kc ks pc L st S σ := by
  obtain ⟨p, l, e, R, s, m, args, below, meth, c, Q, D, cA, A, ad0, n0⟩ := cx
  obtain ⟨hd, hpc, ht⟩ := hd
  subst hpc
  intro C ad H locs ls hP hD hS hW hl hL hst hkc hks hz7 hn7
  exact lv_goto C.1 C.2.1 hd ht (k C ad H locs ls hP hD hS hW hl hL hst hkc hks hz7 hn7)
theorem v_ifnonnull {off : Int} {tgt x : Nat} (hd : vJ cc pc (.ifnonnull off) pc' off tgt) (k : vV cx own cc nL d MC MS kc ks tgt L st S σ) : vV cx own cc nL d MC MS kc ks pc L (.ref x :: st) S σ := by
  obtain ⟨p, l, e, R, s, m, args, below, meth, c, Q, D, cA, A, ad0, n0⟩ := cx
  obtain ⟨hd, hpc, ht⟩ := hd
  subst hpc
  intro C ad H locs ls hP hD hS hW hl hL hst hkc hks hz7 hn7
  exact lv_ifnonnull C.1 C.2.1 hd ht (k C ad H locs ls hP hD hS hW hl hL (vSt_tl hst) hkc hks hz7 hn7)
theorem v_ifnonnullN {off : Int} {tgt : Nat} (hd : vJ cc pc (.ifnonnull off) pc' off tgt) (k : vV cx own cc nL d MC MS kc ks pc' L st S σ) : vV cx own cc nL d MC MS kc ks pc L (.null :: st) S σ := by
  obtain ⟨p, l, e, R, s, m, args, below, meth, c, Q, D, cA, A, ad0, n0⟩ := cx
  obtain ⟨hd, hpc, ht⟩ := hd
  subst hpc
  intro C ad H locs ls hP hD hS hW hl hL hst hkc hks hz7 hn7
  exact lv_ifnonnullN C.1 C.2.1 hd (k C ad H locs ls hP hD hS hW hl hL (vSt_tl hst) hkc hks hz7 hn7)
def vCmp (a b : Int) : Int := if b < a then 1 else if a = b then 0 else -1
theorem v_lcmp {a b : Int} (hd : vD cc pc (.lcmp) 1 pc') (ha : vInL a) (hb : vInL b) (k : vV cx own cc nL d MC MS kc ks pc' L (.int (iI (vCmp a b)) :: st) S σ) : vV cx own cc nL d MC MS kc ks pc L (.long (lI b) :: .long (lI a) :: st) S σ := by
  obtain ⟨p, l, e, R, s, m, args, below, meth, c, Q, D, cA, A, ad0, n0⟩ := cx
  obtain ⟨hd, hpc⟩ := hd
  subst hpc
  intro C ad H locs ls hP hD hS hW hl hL hst hkc hks hz7 hn7
  refine W.lcmp C.1 C.2.1 hd ?_
  have e1 : lg_cmp (lI a) (lI b) = iI (vCmp a b) := by
    have g1 : lI b < lI a ↔ b < a := by rw [Int64.lt_iff_toInt_lt, lI_toInt ha, lI_toInt hb]
    have g2 : lI a = lI b ↔ a = b := by rw [← Int64.toInt_inj, lI_toInt ha, lI_toInt hb]
    unfold lg_cmp vCmp
    by_cases q1 : b < a
    · rw [if_pos q1]; simp [g1, q1]; rfl
    · rw [if_neg q1]
      by_cases q2 : a = b
      · simp [q2]; rfl
      · have : ¬ lI b < lI a := fun z => q1 (g1.mp z)
        simp [this, g2, q2]; rfl
  rw [e1]
  exact k C ad H locs ls hP hD hS hW hl hL (vSt_int (vSt_tl (vSt_tl hst))) hkc hks hz7 hn7
theorem v_table {dflt lo hi off : Int} {offs : Array Int} {len tgt : Nat} {a : Int} (hd : decode cc pc = .ok (.tableswitch dflt lo hi offs, len)) (ha : vIn a) (h1 : lo ≤ a) (h2 : a ≤ hi) (ho : offs[(a - lo).toNat]? = some off) (ht : (pc : Int) + off = (tgt : Int)) (k : vV cx own cc nL d MC MS kc ks tgt L st S σ) : vV cx own cc nL d MC MS kc ks pc L (.int (iI a) :: st) S σ := by
  obtain ⟨p, l, e, R, s, m, args, below, meth, c, Q, D, cA, A, ad0, n0⟩ := cx
  intro C ad H locs ls hP hD hS hW hl hL hst hkc hks hz7 hn7
  exact lv_tableIn C.1 C.2.1 hd (by rw [iI_toInt ha]; omega) (by rw [iI_toInt ha]; omega) (by rw [iI_toInt ha]; exact ho) ht (k C ad H locs ls hP hD hS hW hl hL (vSt_tl hst) hkc hks hz7 hn7)
theorem v_tableOut {dflt lo hi : Int} {offs : Array Int} {len tgt : Nat} {a : Int} (hd : decode cc pc = .ok (.tableswitch dflt lo hi offs, len)) (ha : vIn a) (h1 : a < lo ∨ hi < a) (ht : (pc : Int) + dflt = (tgt : Int)) (k : vV cx own cc nL d MC MS kc ks tgt L st S σ) : vV cx own cc nL d MC MS kc ks pc L (.int (iI a) :: st) S σ := by
  obtain ⟨p, l, e, R, s, m, args, below, meth, c, Q, D, cA, A, ad0, n0⟩ := cx
  intro C ad H locs ls hP hD hS hW hl hL hst hkc hks hz7 hn7
  exact lv_tableOut C.1 C.2.1 hd (by rw [iI_toInt ha]; exact h1) ht (k C ad H locs ls hP hD hS hW hl hL (vSt_tl hst) hkc hks hz7 hn7)
theorem v_lookup {dflt off : Int} {ps : Array (Int × Int)} {len tgt : Nat} {a : Int} (hd : decode cc pc = .ok (.lookupswitch dflt ps, len)) (ha : vIn a) (hp : (ps.toList.zip (ps.toList.drop 1)).all (fun (a, next) => a.1 < next.1) = true) (ho : Op.lookupswitch.offset ps.toList dflt a = off) (ht : (pc : Int) + off = (tgt : Int)) (k : vV cx own cc nL d MC MS kc ks tgt L st S σ) : vV cx own cc nL d MC MS kc ks pc L (.int (iI a) :: st) S σ := by
  obtain ⟨p, l, e, R, s, m, args, below, meth, c, Q, D, cA, A, ad0, n0⟩ := cx
  intro C ad H locs ls hP hD hS hW hl hL hst hkc hks hz7 hn7
  exact lv_lookup C.1 C.2.1 hd hp (by rw [iI_toInt ha]; exact ho) ht (k C ad H locs ls hP hD hS hW hl hL (vSt_tl hst) hkc hks hz7 hn7)
theorem vIn_ix {i : Int} {n : Nat} (h : 0 ≤ i ∧ i < n) (hn : n < 2147483648) : vp_in (iI i) n := by
  rintro (q | q)
  · have := (iI_lt (a := i) (b := 0) (by omega) (by omega)).mp q
    omega
  · rw [iI_clamp h.1 (by omega)] at q
    omega
theorem vIx {i : Int} {n : Nat} (h : 0 ≤ i ∧ i < n) (hn : n < 2147483648) : (((iI i).toNatClampNeg : Nat) : Int) = i := by
  rw [iI_clamp h.1 (by omega)]
  omega
theorem v_iaload {r n : Nat} {i : Int} (hd : vD cc pc (.iaload) 1 pc') (hr : S[r]? = some (.inl (0, n))) (hi : 0 ≤ i ∧ i < n) (k : vIn (σ r i) → vV cx own cc nL d MC MS kc ks pc' L (.int (iI (σ r i)) :: st) S σ) : vV cx own cc nL d MC MS kc ks pc L (.int (iI i) :: .ref r :: st) S σ := by
  obtain ⟨p, l, e, R, s, m, args, below, meth, c, Q, D, cA, A, ad0, n0⟩ := cx
  obtain ⟨hd, hpc⟩ := hd
  subst hpc
  intro C ad H locs ls hP hD hS hW hl hL hst hkc hks hz7 hn7
  have hnn := hW.2.2.2 r 0 n hr
  refine va_iald C.1 C.2.1 C.2.2.2.2.2.1 hP r 0 (vWs_at hr) rfl (vIn_ix hi hnn) hd ?_
  rw [vIx hi hnn]
  exact k (hW.2.2.1 r i) C ad H locs ls hP hD hS hW hl hL (vSt_int (vSt_tl (vSt_tl hst))) hkc hks hz7 hn7
theorem v_baload {r n : Nat} {i : Int} (hd : vD cc pc (.baload) 1 pc') (hr : S[r]? = some (.inl (1, n))) (hi : 0 ≤ i ∧ i < n) (k : vIn (σ r i) → vV cx own cc nL d MC MS kc ks pc' L (.int (iI (σ r i)) :: st) S σ) : vV cx own cc nL d MC MS kc ks pc L (.int (iI i) :: .ref r :: st) S σ := by
  obtain ⟨p, l, e, R, s, m, args, below, meth, c, Q, D, cA, A, ad0, n0⟩ := cx
  obtain ⟨hd, hpc⟩ := hd
  subst hpc
  intro C ad H locs ls hP hD hS hW hl hL hst hkc hks hz7 hn7
  have hnn := hW.2.2.2 r 1 n hr
  refine va_bald C.1 C.2.1 C.2.2.2.2.2.1 hP r 1 (vWs_at hr) rfl (vIn_ix hi hnn) hd ?_
  rw [vIx hi hnn]
  exact k (hW.2.2.1 r i) C ad H locs ls hP hD hS hW hl hL (vSt_int (vSt_tl (vSt_tl hst))) hkc hks hz7 hn7
theorem v_zaload {r n : Nat} {i : Int} (hd : vD cc pc (.baload) 1 pc') (hr : S[r]? = some (.inl (2, n))) (hi : 0 ≤ i ∧ i < n) (k : vIn (σ r i) → vV cx own cc nL d MC MS kc ks pc' L (.int (iI (σ r i)) :: st) S σ) : vV cx own cc nL d MC MS kc ks pc L (.int (iI i) :: .ref r :: st) S σ := by
  obtain ⟨p, l, e, R, s, m, args, below, meth, c, Q, D, cA, A, ad0, n0⟩ := cx
  obtain ⟨hd, hpc⟩ := hd
  subst hpc
  intro C ad H locs ls hP hD hS hW hl hL hst hkc hks hz7 hn7
  have hnn := hW.2.2.2 r 2 n hr
  refine va_zald C.1 C.2.1 C.2.2.2.2.2.1 hP r 2 (vWs_at hr) rfl (vIn_ix hi hnn) hd ?_
  rw [vIx hi hnn]
  exact k (hW.2.2.1 r i) C ad H locs ls hP hD hS hW hl hL (vSt_int (vSt_tl (vSt_tl hst))) hkc hks hz7 hn7
theorem v_iastore {r n : Nat} {i v : Int} (hd : vD cc pc (.iastore) 1 pc') (hr : S[r]? = some (.inl (0, n))) (hi : 0 ≤ i ∧ i < n) (hv : vIn v) (k : vV cx own cc nL d MC MS kc ks pc' L st S (vUp σ r i v)) : vV cx own cc nL d MC MS kc ks pc L (.int (iI v) :: .int (iI i) :: .ref r :: st) S σ := by
  obtain ⟨p, l, e, R, s, m, args, below, meth, c, Q, D, cA, A, ad0, n0⟩ := cx
  obtain ⟨hd, hpc⟩ := hd
  subst hpc
  intro C ad H locs ls hP hD hS hW hl hL hst hkc hks hz7 hn7
  have hnn := hW.2.2.2 r 0 n hr
  refine va_iast C.1 C.2.1 C.2.2.2.2.2.1 hP hD hS r 0 (vWs_at hr) rfl (vIn_ix hi hnn) hd (fun H1 locs1 hP1 hD1 hS1 => ?_)
  have e : (vWs cA ad S σ).set r (ad r, .inl (cA 0, n, .inl (upd (fun j : Nat => iI (σ r (j : Int))) (iI i).toNatClampNeg (iI v)))) = vWs cA ad S (vUp σ r i v) := by
    refine vWs_set hr ?_ (fun j hj => vUp_ne hj)
    
    simp only [vCell, vArr, Nat.reduceEqDiff, if_false]
    congr 4
    funext j
    simp only [upd, vUp, if_true]
    have h9 := vIx hi hnn
    by_cases q : j = (iI i).toNatClampNeg
    · rw [if_pos q, if_pos (by omega)]
    · rw [if_neg q, if_neg (by omega)]
  exact k C ad H1 locs1 ls (e ▸ hP1) (e ▸ hD1) hS1 (vWf_up hW (fun n q => by rw [hr] at q; cases q) (by omega)) hl hL (vSt_tl (vSt_tl (vSt_tl hst))) hkc hks hz7 hn7
theorem v_bastore {r n : Nat} {i v : Int} (hd : vD cc pc (.bastore) 1 pc') (hr : S[r]? = some (.inl (1, n))) (hi : 0 ≤ i ∧ i < n) (hv : -128 ≤ v ∧ v ≤ 127) (k : vV cx own cc nL d MC MS kc ks pc' L st S (vUp σ r i v)) : vV cx own cc nL d MC MS kc ks pc L (.int (iI v) :: .int (iI i) :: .ref r :: st) S σ := by
  obtain ⟨p, l, e, R, s, m, args, below, meth, c, Q, D, cA, A, ad0, n0⟩ := cx
  obtain ⟨hd, hpc⟩ := hd
  subst hpc
  intro C ad H locs ls hP hD hS hW hl hL hst hkc hks hz7 hn7
  have hnn := hW.2.2.2 r 1 n hr
  have hx : vp_nar .byte (iI v) = iI v := by
    have h8 : (iI v).toInt8.toInt32 = iI v := by
      apply Int32.toInt_inj.mp
      rw [Int8.toInt_toInt32, iI_toInt (by omega), Int32.toInt_toInt8, iI_toInt (by omega)]
      exact Int.bmod_eq_of_le (by omega) (by omega)
    simp [vp_nar, narrow, h8]
  refine va_bast C.1 C.2.1 C.2.2.2.2.2.1 hP hD hS r 1 (vWs_at hr) rfl (vIn_ix hi hnn) hd (fun H1 locs1 hP1 hD1 hS1 => ?_)
  have e : (vWs cA ad S σ).set r (ad r, .inl (cA 1, n, .inl (upd (fun j : Nat => iI (σ r (j : Int))) (iI i).toNatClampNeg (vp_nar .byte (iI v))))) = vWs cA ad S (vUp σ r i v) := by
    refine vWs_set hr ?_ (fun j hj => vUp_ne hj)
    rw [hx]
    simp only [vCell, vArr, Nat.reduceEqDiff, if_false]
    congr 4
    funext j
    simp only [upd, vUp, if_true]
    have h9 := vIx hi hnn
    by_cases q : j = (iI i).toNatClampNeg
    · rw [if_pos q, if_pos (by omega)]
    · rw [if_neg q, if_neg (by omega)]
  exact k C ad H1 locs1 ls (e ▸ hP1) (e ▸ hD1) hS1 (vWf_up hW (fun n q => by rw [hr] at q; cases q) (by omega)) hl hL (vSt_tl (vSt_tl (vSt_tl hst))) hkc hks hz7 hn7
theorem v_zastore {r n : Nat} {i v : Int} (hd : vD cc pc (.bastore) 1 pc') (hr : S[r]? = some (.inl (2, n))) (hi : 0 ≤ i ∧ i < n) (hv : v = 0 ∨ v = 1) (k : vV cx own cc nL d MC MS kc ks pc' L st S (vUp σ r i v)) : vV cx own cc nL d MC MS kc ks pc L (.int (iI v) :: .int (iI i) :: .ref r :: st) S σ := by
  obtain ⟨p, l, e, R, s, m, args, below, meth, c, Q, D, cA, A, ad0, n0⟩ := cx
  obtain ⟨hd, hpc⟩ := hd
  subst hpc
  intro C ad H locs ls hP hD hS hW hl hL hst hkc hks hz7 hn7
  have hnn := hW.2.2.2 r 2 n hr
  have hx : vp_nar .boolean (iI v) = iI v := by rcases hv with rfl | rfl <;> decide
  refine va_zast C.1 C.2.1 C.2.2.2.2.2.1 hP hD hS r 2 (vWs_at hr) rfl (vIn_ix hi hnn) hd (fun H1 locs1 hP1 hD1 hS1 => ?_)
  have e : (vWs cA ad S σ).set r (ad r, .inl (cA 2, n, .inl (upd (fun j : Nat => iI (σ r (j : Int))) (iI i).toNatClampNeg (vp_nar .boolean (iI v))))) = vWs cA ad S (vUp σ r i v) := by
    refine vWs_set hr ?_ (fun j hj => vUp_ne hj)
    rw [hx]
    simp only [vCell, vArr, Nat.reduceEqDiff, if_false]
    congr 4
    funext j
    simp only [upd, vUp, if_true]
    have h9 := vIx hi hnn
    by_cases q : j = (iI i).toNatClampNeg
    · rw [if_pos q, if_pos (by omega)]
    · rw [if_neg q, if_neg (by omega)]
  exact k C ad H1 locs1 ls (e ▸ hP1) (e ▸ hD1) hS1 (vWf_up hW (fun n q => by rw [hr] at q; cases q) (by omega)) hl hL (vSt_tl (vSt_tl (vSt_tl hst))) hkc hks hz7 hn7
theorem v_arraylength {r t n : Nat} {ty : FieldType} (hd : vD cc pc (.arraylength) 1 pc') (hr : S[r]? = some (.inl (t, n))) (ht : (vtys (fun k => k))[t]? = some (t, ty)) (k : vV cx own cc nL d MC MS kc ks pc' L (.int (iI n) :: st) S σ) : vV cx own cc nL d MC MS kc ks pc L (.ref r :: st) S σ := by
  obtain ⟨p, l, e, R, s, m, args, below, meth, c, Q, D, cA, A, ad0, n0⟩ := cx
  obtain ⟨hd, hpc⟩ := hd
  subst hpc
  intro C ad H locs ls hP hD hS hW hl hL hst hkc hks hz7 hn7
  have ht' : (vtys cA)[t]? = some (cA t, ty) := by
    match t, ht with
    | 0, h => cases h; rfl
    | 1, h => cases h; rfl
    | 2, h => cases h; rfl
    | 3, h => cases h; rfl
    | t + 4, h => simp [vtys] at h
  exact va_alen C.1 C.2.1 C.2.2.2.2.2.1 hP r t (vWs_at hr) ht' (iI_n n).symm hd (k C ad H locs ls hP hD hS hW hl hL (vSt_int (vSt_tl hst)) hkc hks hz7 hn7)
theorem v_aaload {r n : Nat} {i : Int} (hd : vD cc pc (.aaload) 1 pc') (hr : S[r]? = some (.inl (3, n))) (hi : 0 ≤ i ∧ i < n) (k0 : σ r i = 0 → vV cx own cc nL d MC MS kc ks pc' L (.null :: st) S σ) (k : σ r i ≠ 0 → vV cx own cc nL d MC MS kc ks pc' L (.ref (σ r i).toNat :: st) S σ) : vV cx own cc nL d MC MS kc ks pc L (.int (iI i) :: .ref r :: st) S σ := by
  obtain ⟨p, l, e, R, s, m, args, below, meth, c, Q, D, cA, A, ad0, n0⟩ := cx
  obtain ⟨hd, hpc⟩ := hd
  subst hpc
  intro C ad H locs ls hP hD hS hW hl hL hst hkc hks hz7 hn7
  have hnn := hW.2.2.2 r 3 n hr
  refine va_aldq C.1 C.2.1 C.2.2.2.2.2.1 hP r 3 (vWs_at hr) rfl (vIn_ix hi hnn) hd ?_
  simp only [vR]
  rw [vIx hi hnn]
  by_cases h0 : σ r i = 0
  · rw [if_pos h0]
    exact k0 h0 C ad H locs ls hP hD hS hW hl hL (vSt_cons vWfV_null (vSt_tl (vSt_tl hst))) hkc hks hz7 hn7
  · rw [if_neg h0]
    exact k h0 C ad H locs ls hP hD hS hW hl hL (vSt_cons (fun q hq => by cases hq; exact hW.2.1 r n hr i) (vSt_tl (vSt_tl hst))) hkc hks hz7 hn7
theorem v_aastore {r n v : Nat} {i : Int} {fs : List vFD} (hd : vD cc pc (.aastore) 1 pc') (hr : S[r]? = some (.inl (3, n))) (hi : 0 ≤ i ∧ i < n) (hv : S[v]? = some (.inr (1, fs))) (hv0 : 0 < v ∧ v < 2147483648) (k : vV cx own cc nL d MC MS kc ks pc' L st S (vUp σ r i (v : Int))) : vV cx own cc nL d MC MS kc ks pc L (.ref v :: .int (iI i) :: .ref r :: st) S σ := by
  obtain ⟨p, l, e, R, s, m, args, below, meth, c, Q, D, cA, A, ad0, n0⟩ := cx
  obtain ⟨hd, hpc⟩ := hd
  subst hpc
  intro C ad H locs ls hP hD hS hW hl hL hst hkc hks hz7 hn7
  have hnn := hW.2.2.2 r 3 n hr
  refine va_astq (ci := 1) C.1 C.2.1 C.2.2.2.2.2.1 hP hD hS r 3 v (vWs_at hr) (r := (vC1, vT1, 6)) rfl (vWs_at hv) rfl (vIn_ix hi hnn) hd (fun H1 locs1 hP1 hD1 hS1 => ?_)
  have hvl : v < S.length := (List.getElem?_eq_some_iff.mp hv).1
  have e : (vWs cA ad S σ).set r (ad r, .inl (cA 3, n, .inr (.inr (.inr (.inr (va_up (fun j : Nat => vR ad (σ r (j : Int))) (iI i).toNatClampNeg (some (ad v)))))))) = vWs cA ad S (vUp σ r i (v : Int)) := by
    refine vWs_set hr ?_ (fun j hj => vUp_ne hj)
    simp only [vCell, vArr, if_true]
    congr 7
    funext j
    simp only [va_up, vUp, if_true]
    have h9 := vIx hi hnn
    by_cases q : j = (iI i).toNatClampNeg
    · rw [if_pos q, if_pos (by omega)]
      simp only [vR]
      rw [if_neg (by omega)]
      rfl
    · rw [if_neg q, if_neg (by omega)]
  refine k C ad H1 locs1 ls (e ▸ hP1) (e ▸ hD1) hS1 ⟨hW.1, fun k' n' hk' j => ?_, fun k' j => ?_, hW.2.2.2⟩ hl hL (vSt_tl (vSt_tl (vSt_tl hst))) hkc hks hz7 hn7
  · unfold vUp
    split
    · split
      · simpa using hvl
      · exact hW.2.1 k' n' hk' j
    · exact hW.2.1 k' n' hk' j
  · unfold vUp
    split
    · split
      · omega
      · exact hW.2.2.1 k' j
    · exact hW.2.2.1 k' j
/-- the link idx of class own is the field k of the class ci -/
def vFl (own : String) (idx ci k : Nat) : Prop := ∃ (C : String) (T : u_T) (N : Nat), vcl[ci]? = some (C, T, N) ∧ k < N ∧ (∀ w ∈ u_ws C T N, w ∈ wt) ∧ Cond.fieldLink own idx (T k).1 (T k).2.1 (T k).2.2.1 ∈ wt
def vPt (own : String) (idx ci k : Nat) (fin : Bool) (ty : FieldType) : Prop := ∃ (C : String) (T : u_T) (N : Nat) (ty0 : Nat → FieldType), vcl[ci]? = some (C, T, N) ∧ k < N ∧ (∀ w ∈ u_ws C T N, w ∈ wt) ∧ Cond.fieldLink own idx (T k).1 (T k).2.1 (T k).2.2.1 ∈ wt ∧ (∀ k, k < N → parseFieldDescriptor (T k).2.2.1 = some (ty0 k)) ∧ (∀ a, a < N → ∀ b, b < N → a ≠ b → (T a).2.1 ≠ (T b).2.1) ∧ (T k).2.2.2 = fin ∧ parseFieldDescriptor (T k).2.2.1 = some ty ∧ (fin = true → (T k).1 = own)
theorem v_getI {idx r ci j : Nat} {fs : List vFD} (hd : vD cc pc (.getfield idx) 3 pc') (hf : vFl own idx ci j) (hr : S[r]? = some (.inr (ci, fs))) (hj : fs[j]? = some none) (k : vIn (σ r (j : Int)) → vV cx own cc nL d MC MS kc ks pc' L (.int (iI (σ r (j : Int))) :: st) S σ) : vV cx own cc nL d MC MS kc ks pc L (.ref r :: st) S σ := by
  obtain ⟨p, l, e, R, s, m, args, below, meth, c, Q, D, cA, A, ad0, n0⟩ := cx
  obtain ⟨hd, hpc⟩ := hd
  subst hpc
  intro C ad H locs ls hP hD hS hW hl hL hst hkc hks hz7 hn7
  obtain ⟨C1, T, N, h1, h2, h3, h4⟩ := hf
  refine va_get (v := .int (iI (σ r (j : Int)))) C.1 C.2.1 C.2.2.2.2.1 h3 C.2.2.2.1 C.2.2.2.2.2.1 hP r (vWs_at hr) h1 j h2 (C.2.2.2.2.1 _ h4) (fun _ h => h) (by rw [List.getElem?_mapIdx, hj]; rfl) hd ?_
  exact k (hW.2.2.1 r _) C ad H locs ls hP hD hS hW hl hL (vSt_int (vSt_tl hst)) hkc hks hz7 hn7
theorem v_getR {idx r ci j q : Nat} {fs : List vFD} (hd : vD cc pc (.getfield idx) 3 pc') (hf : vFl own idx ci j) (hr : S[r]? = some (.inr (ci, fs))) (hj : fs[j]? = some (some (some q))) (k : vV cx own cc nL d MC MS kc ks pc' L (.ref q :: st) S σ) : vV cx own cc nL d MC MS kc ks pc L (.ref r :: st) S σ := by
  obtain ⟨p, l, e, R, s, m, args, below, meth, c, Q, D, cA, A, ad0, n0⟩ := cx
  obtain ⟨hd, hpc⟩ := hd
  subst hpc
  intro C ad H locs ls hP hD hS hW hl hL hst hkc hks hz7 hn7
  obtain ⟨C1, T, N, h1, h2, h3, h4⟩ := hf
  refine va_get (v := .ref (ad q)) C.1 C.2.1 C.2.2.2.2.1 h3 C.2.2.2.1 C.2.2.2.2.2.1 hP r (vWs_at hr) h1 j h2 (C.2.2.2.2.1 _ h4) (fun _ h => h) (by rw [List.getElem?_mapIdx, hj]; rfl) hd ?_
  exact k C ad H locs ls hP hD hS hW hl hL (vSt_cons (fun z hz => by cases hz; exact hW.1 r ci fs hr j q hj) (vSt_tl hst)) hkc hks hz7 hn7
theorem v_putI {idx r ci j : Nat} {fs : List vFD} {v : Int} (hd : vD cc pc (.putfield idx) 3 pc') (hf : vPt own idx ci j false .int) (hr : S[r]? = some (.inr (ci, fs))) (hj : fs[j]? = some none) (hv : vIn v) (k : vV cx own cc nL d MC MS kc ks pc' L st S (vUp σ r (j : Int) v)) : vV cx own cc nL d MC MS kc ks pc L (.int (iI v) :: .ref r :: st) S σ := by
  obtain ⟨p, l, e, R, s, m, args, below, meth, c, Q, D, cA, A, ad0, n0⟩ := cx
  obtain ⟨hd, hpc⟩ := hd
  subst hpc
  intro C ad H locs ls hP hD hS hW hl hL hst hkc hks hz7 hn7
  obtain ⟨C1, T, N, ty0, h1, h2, h3, h4, h5, h6, h7, h8, -⟩ := hf
  refine va_put (v := .int (iI v)) C.1 C.2.1 C.2.2.2.2.1 h3 ty0 h5 h6 C.2.2.2.1 C.2.2.2.2.2.1 hP hD hS r (vWs_at hr) h1 j h2 (C.2.2.2.2.1 _ h4) (fun _ h => h) h7 h8 (rfl) (rfl) (by rw [List.length_mapIdx]; exact (List.getElem?_eq_some_iff.mp hj).1) hd (fun H1 locs1 hP1 hD1 hS1 => ?_)
  have e : (vWs cA ad S σ).set r (ad r, .inr (ci, (fs.mapIdx (fun j d => vFV ad (σ r (j : Int)) d)).set j (.int (iI v)))) = vWs cA ad S (vUp σ r (j : Int) v) := by
    refine vWs_set hr ?_ (fun q hq => vUp_ne hq)
    simp only [vCell]
    congr 2
    apply List.ext_getElem?
    intro q
    rw [List.getElem?_set, List.getElem?_mapIdx, List.getElem?_mapIdx, List.length_mapIdx]
    by_cases hq : j = q
    · subst hq
      rw [if_pos rfl, if_pos (List.getElem?_eq_some_iff.mp hj).1, hj]
      simp [vFV, vUp]
    · rw [if_neg hq]
      cases hfq : fs[q]? with
      | none => rfl
      | some d => 
        simp only [Option.map_some]
        rw [show vUp σ r (j : Int) v r (q : Int) = σ r (q : Int) from vUp_ix (by omega)]
  exact k C ad H1 locs1 ls (e ▸ hP1) (e ▸ hD1) hS1 (vWf_up hW (fun n q => by rw [hr] at q; cases q) (by omega)) hl hL (vSt_tl (vSt_tl hst)) hkc hks hz7 hn7
theorem v_putZ {idx r ci j : Nat} {fs : List vFD} {v : Int} (hd : vD cc pc (.putfield idx) 3 pc') (hf : vPt own idx ci j false .boolean) (hr : S[r]? = some (.inr (ci, fs))) (hj : fs[j]? = some none) (hv : v = 0 ∨ v = 1) (k : vV cx own cc nL d MC MS kc ks pc' L st S (vUp σ r (j : Int) v)) : vV cx own cc nL d MC MS kc ks pc L (.int (iI v) :: .ref r :: st) S σ := by
  obtain ⟨p, l, e, R, s, m, args, below, meth, c, Q, D, cA, A, ad0, n0⟩ := cx
  obtain ⟨hd, hpc⟩ := hd
  subst hpc
  intro C ad H locs ls hP hD hS hW hl hL hst hkc hks hz7 hn7
  obtain ⟨C1, T, N, ty0, h1, h2, h3, h4, h5, h6, h7, h8, -⟩ := hf
  refine va_put (v := .int (iI v)) C.1 C.2.1 C.2.2.2.2.1 h3 ty0 h5 h6 C.2.2.2.1 C.2.2.2.2.2.1 hP hD hS r (vWs_at hr) h1 j h2 (C.2.2.2.2.1 _ h4) (fun _ h => h) h7 h8 (by rcases hv with rfl | rfl <;> decide) (by rcases hv with rfl | rfl <;> decide) (by rw [List.length_mapIdx]; exact (List.getElem?_eq_some_iff.mp hj).1) hd (fun H1 locs1 hP1 hD1 hS1 => ?_)
  have e : (vWs cA ad S σ).set r (ad r, .inr (ci, (fs.mapIdx (fun j d => vFV ad (σ r (j : Int)) d)).set j (.int (iI v)))) = vWs cA ad S (vUp σ r (j : Int) v) := by
    refine vWs_set hr ?_ (fun q hq => vUp_ne hq)
    simp only [vCell]
    congr 2
    apply List.ext_getElem?
    intro q
    rw [List.getElem?_set, List.getElem?_mapIdx, List.getElem?_mapIdx, List.length_mapIdx]
    by_cases hq : j = q
    · subst hq
      rw [if_pos rfl, if_pos (List.getElem?_eq_some_iff.mp hj).1, hj]
      simp [vFV, vUp]
    · rw [if_neg hq]
      cases hfq : fs[q]? with
      | none => rfl
      | some d => 
        simp only [Option.map_some]
        rw [show vUp σ r (j : Int) v r (q : Int) = σ r (q : Int) from vUp_ix (by omega)]
  exact k C ad H1 locs1 ls (e ▸ hP1) (e ▸ hD1) hS1 (vWf_up hW (fun n q => by rw [hr] at q; cases q) (by omega)) hl hL (vSt_tl (vSt_tl hst)) hkc hks hz7 hn7
theorem v_putR {idx r ci j q : Nat} {fs : List vFD} {ty : FieldType} {x : Option Nat} (hd : vD cc pc (.putfield idx) 3 pc') (hm : cx.2.2.2.2.2.2.2.2.1.name = "<init>") (hf : vPt own idx ci j true ty) (hty : ∀ a, narrow ty (.ref a) = .ref a ∧ fits ty (.ref a) = true) (hr : S[r]? = some (.inr (ci, fs))) (hj : fs[j]? = some (some x)) (k : vV cx own cc nL d MC MS kc ks pc' L st (S.set r (.inr (ci, fs.set j (some (some q))))) σ) : vV cx own cc nL d MC MS kc ks pc L (.ref q :: .ref r :: st) S σ := by
  obtain ⟨p, l, e, R, s, m, args, below, meth, c, Q, D, cA, A, ad0, n0⟩ := cx
  obtain ⟨hd, hpc⟩ := hd
  subst hpc
  intro C ad H locs ls hP hD hS hW hl hL hst hkc hks hz7 hn7
  obtain ⟨C1, T, N, ty0, h1, h2, h3, h4, h5, h6, h7, h8, h9⟩ := hf
  have hjl := (List.getElem?_eq_some_iff.mp hj).1
  refine va_putF (v := .ref (ad q)) C.1 C.2.1 C.2.2.2.2.1 h3 ty0 h5 h6 C.2.2.2.1 C.2.2.2.2.2.1 hP hD hS r (vWs_at hr) h1 j h2 (C.2.2.2.2.1 _ h4) (fun _ h => h) h7 hm (h9 rfl) h8 (hty _).1 (hty _).2 (by rw [List.length_mapIdx]; exact hjl) hd (fun H1 locs1 hP1 hD1 hS1 => ?_)
  have e : (vWs cA ad S σ).set r (ad r, .inr (ci, (fs.mapIdx (fun j d => vFV ad (σ r (j : Int)) d)).set j (.ref (ad q)))) = vWs cA ad (S.set r (.inr (ci, fs.set j (some (some q))))) σ := by
    refine vWs_shape hr ?_
    simp only [vCell]
    congr 2
    apply List.ext_getElem?
    intro z
    rw [List.getElem?_set, List.getElem?_mapIdx, List.getElem?_mapIdx, List.length_mapIdx, List.getElem?_set]
    by_cases hq : j = z
    · subst hq
      rw [if_pos rfl, if_pos hjl, if_pos rfl, if_pos hjl]
      rfl
    · rw [if_neg hq, if_neg hq]
  have hql : q < S.length := vSt_hd hst q rfl
  refine k C ad H1 locs1 ls (e ▸ hP1) (e ▸ hD1) hS1 ⟨fun k' ci' fs' hk' j' r' hr' => ?_, fun k' n' hk' j' => ?_, hW.2.2.1, fun k' t' n' hk' => ?_⟩ hl (by rw [List.length_set]; exact hL) (by rw [List.length_set]; exact vSt_tl (vSt_tl hst)) hkc hks hz7 (by rw [List.length_set]; exact hn7)
  · rw [List.length_set]
    rw [List.getElem?_set] at hk'
    split at hk'
    · split at hk'
      · cases hk'
        rw [List.getElem?_set] at hr'
        split at hr'
        · first | (cases hr'; exact hql) | (split at hr' <;> cases hr' <;> exact hql)
        · exact hW.1 r ci fs hr j' r' hr'
      · cases hk'
    · exact hW.1 k' ci' fs' hk' j' r' hr'
  · rw [List.length_set]
    rw [List.getElem?_set] at hk'
    split at hk'
    · split at hk' <;> cases hk'
    · exact hW.2.1 k' n' hk' j'
  · rw [List.getElem?_set] at hk'
    split at hk'
    · split at hk' <;> cases hk'
    · exact hW.2.2.2 k' t' n' hk' 
end
