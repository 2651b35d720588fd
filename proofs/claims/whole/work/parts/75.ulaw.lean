/-! ===== the law's own judgement: its first local is the script, a row outside of the system ===== -/
def vU (sb : Nat) (cx : vCx) (own : String) (cc : ByteArray) (nL d MC MS kc ks pc : Nat) (L : List (Option Value)) (st : List Value) (S : vSh) (σ : vMem) : Prop := match cx with
  | (p, l, e, R, s, m, args, below, meth, c, Q, D, cA, A, ad0, n0) =>
    vOk (p, l, e, R, s, m, args, below, meth, c, Q, D, cA, A, ad0, n0) own cc nL d MC MS → ∀ (ad : Nat → Nat) (H : Heap) (locs : List Loc) (ls : Array Slot),
      va_P D vcl (vWs cA ad S σ) H → va_D A (vWs cA ad S σ) → va_S A s.heap H locs → vWf S σ → vLoc ad nL L ls → ls[0]? = some (.val (.ref sb)) → (∀ (i : Nat) (v : Value), L[i]? = some (some v) → vWfV S.length v) → (∀ v ∈ st, vWfV S.length v) → kc ≤ MC → ks ≤ MS → (∀ k, k < n0 → ad k = ad0 k) → n0 ≤ S.length →
      W p l e R s m args below meth c H locs kc ks Q (F0 m pc ls (st.map (vcv ad)))
theorem vU_lv {sb : Nat} {ad : Nat → Nat} {nL : Nat} {L : List (Option Value)} {ls : Array Slot} (h : vLoc ad nL L ls) (h0 : ls[0]? = some (.val (.ref sb))) : lv_has ls nL ((0, .ref sb) :: vLv ad L) := by
  obtain ⟨q1, q2, q3⟩ := vLoc_lv h
  refine ⟨q1, q2, fun q hq => ?_⟩
  rcases List.mem_cons.mp hq with rfl | hq
  · exact h0
  · exact q3 q hq
theorem vU_of {sb : Nat} {nL i : Nat} {w : Value} {X : List (Nat × Value)} {ls : Array Slot} (h : lv_has ls nL ((i, w) :: ((0, Value.ref sb) :: X).filter (fun q => !(q.1 == i) && !(q.1 + 1 == i && q.2.category == 2)))) (hi : i ≠ 0) : ls[0]? = some (.val (.ref sb)) := by
  refine h.2.2 (0, .ref sb) (List.mem_cons_of_mem _ (List.mem_filter.mpr ⟨List.mem_cons_self, ?_⟩))
  have h1 : ((0 : Nat) == i) = false := by simp; omega
  simp [h1, Value.category]
section
variable {sb : Nat} {cx : vCx} {own : String} {cc : ByteArray} {nL d MC MS kc ks pc pc' : Nat} {L : List (Option Value)} {st : List Value} {S : vSh} {σ : vMem}
theorem u_iconst {n : Int} (hd : vD cc pc (.iconst n) 1 pc') (k : vU sb cx own cc nL d MC MS kc ks pc' L (.int (iI n) :: st) S σ) : vU sb cx own cc nL d MC MS kc ks pc L st S σ := by
  obtain ⟨p, l, e, R, s, m, args, below, meth, c, Q, D, cA, A, ad0, n0⟩ := cx
  obtain ⟨hd, hpc⟩ := hd
  subst hpc
  intro C ad H locs ls hP hD hS hW hl h00 hL hst hkc hks hz7 hn7
  exact lv_iconst C.1 C.2.1 hd rfl (k C ad H locs ls hP hD hS hW hl h00 hL (vSt_int hst) hkc hks hz7 hn7)
theorem u_bipush {n : Int} (hd : vD cc pc (.bipush n) 2 pc') (hv : (Int8.ofInt n).toInt32 = iI n) (k : vU sb cx own cc nL d MC MS kc ks pc' L (.int (iI n) :: st) S σ) : vU sb cx own cc nL d MC MS kc ks pc L st S σ := by
  obtain ⟨p, l, e, R, s, m, args, below, meth, c, Q, D, cA, A, ad0, n0⟩ := cx
  obtain ⟨hd, hpc⟩ := hd
  subst hpc
  intro C ad H locs ls hP hD hS hW hl h00 hL hst hkc hks hz7 hn7
  exact lv_bipush C.1 C.2.1 hd hv (k C ad H locs ls hP hD hS hW hl h00 hL (vSt_int hst) hkc hks hz7 hn7)
theorem u_sipush {n : Int} (hd : vD cc pc (.sipush n) 3 pc') (hv : (Int16.ofInt n).toInt32 = iI n) (k : vU sb cx own cc nL d MC MS kc ks pc' L (.int (iI n) :: st) S σ) : vU sb cx own cc nL d MC MS kc ks pc L st S σ := by
  obtain ⟨p, l, e, R, s, m, args, below, meth, c, Q, D, cA, A, ad0, n0⟩ := cx
  obtain ⟨hd, hpc⟩ := hd
  subst hpc
  intro C ad H locs ls hP hD hS hW hl h00 hL hst hkc hks hz7 hn7
  exact lv_sipush C.1 C.2.1 hd hv (k C ad H locs ls hP hD hS hW hl h00 hL (vSt_int hst) hkc hks hz7 hn7)
theorem u_iload_n {j : Fin 4} {x : Int32} (hd : vD cc pc (.iload_n j) 1 pc') (hi : L[(j : Nat)]? = some (some (.int x))) (k : vU sb cx own cc nL d MC MS kc ks pc' L (.int x :: st) S σ) : vU sb cx own cc nL d MC MS kc ks pc L st S σ := by
  obtain ⟨p, l, e, R, s, m, args, below, meth, c, Q, D, cA, A, ad0, n0⟩ := cx
  obtain ⟨hd, hpc⟩ := hd
  subst hpc
  intro C ad H locs ls hP hD hS hW hl h00 hL hst hkc hks hz7 hn7
  exact lv_iload_n C.1 C.2.1 hd rfl (vLoc_get hl hi) (k C ad H locs ls hP hD hS hW hl h00 hL (vSt_int hst) hkc hks hz7 hn7)
theorem u_aload_n {j : Fin 4} {x : Nat} (hd : vD cc pc (.aload_n j) 1 pc') (hi : L[(j : Nat)]? = some (some (.ref x))) (k : vU sb cx own cc nL d MC MS kc ks pc' L (.ref x :: st) S σ) : vU sb cx own cc nL d MC MS kc ks pc L st S σ := by
  obtain ⟨p, l, e, R, s, m, args, below, meth, c, Q, D, cA, A, ad0, n0⟩ := cx
  obtain ⟨hd, hpc⟩ := hd
  subst hpc
  intro C ad H locs ls hP hD hS hW hl h00 hL hst hkc hks hz7 hn7
  exact lv_aload_n C.1 C.2.1 hd rfl (vLoc_get hl hi) (k C ad H locs ls hP hD hS hW hl h00 hL (vSt_cons (hL _ _ hi) hst) hkc hks hz7 hn7)
theorem u_iadd {a b : Int} (hd : vD cc pc (.iadd) 1 pc') (k : vU sb cx own cc nL d MC MS kc ks pc' L (.int (iI (a + b)) :: st) S σ) : vU sb cx own cc nL d MC MS kc ks pc L (.int (iI b) :: .int (iI a) :: st) S σ := by
  obtain ⟨p, l, e, R, s, m, args, below, meth, c, Q, D, cA, A, ad0, n0⟩ := cx
  obtain ⟨hd, hpc⟩ := hd
  subst hpc
  intro C ad H locs ls hP hD hS hW hl h00 hL hst hkc hks hz7 hn7
  refine lv_iadd C.1 C.2.1 hd ?_
  rw [iI_add]
  exact k C ad H locs ls hP hD hS hW hl h00 hL (vSt_int (vSt_tl (vSt_tl hst))) hkc hks hz7 hn7
theorem u_isub {a b : Int} (hd : vD cc pc (.isub) 1 pc') (k : vU sb cx own cc nL d MC MS kc ks pc' L (.int (iI (a - b)) :: st) S σ) : vU sb cx own cc nL d MC MS kc ks pc L (.int (iI b) :: .int (iI a) :: st) S σ := by
  obtain ⟨p, l, e, R, s, m, args, below, meth, c, Q, D, cA, A, ad0, n0⟩ := cx
  obtain ⟨hd, hpc⟩ := hd
  subst hpc
  intro C ad H locs ls hP hD hS hW hl h00 hL hst hkc hks hz7 hn7
  refine lv_isub C.1 C.2.1 hd ?_
  rw [iI_sub]
  exact k C ad H locs ls hP hD hS hW hl h00 hL (vSt_int (vSt_tl (vSt_tl hst))) hkc hks hz7 hn7
theorem u_iand {x y : Int32} {z : Int} (hd : vD cc pc (.iand) 1 pc') (hz : x &&& y = iI z) (k : vU sb cx own cc nL d MC MS kc ks pc' L (.int (iI z) :: st) S σ) : vU sb cx own cc nL d MC MS kc ks pc L (.int y :: .int x :: st) S σ := by
  obtain ⟨p, l, e, R, s, m, args, below, meth, c, Q, D, cA, A, ad0, n0⟩ := cx
  obtain ⟨hd, hpc⟩ := hd
  subst hpc
  intro C ad H locs ls hP hD hS hW hl h00 hL hst hkc hks hz7 hn7
  refine lv_iand C.1 C.2.1 hd ?_
  rw [hz]
  exact k C ad H locs ls hP hD hS hW hl h00 hL (vSt_int (vSt_tl (vSt_tl hst))) hkc hks hz7 hn7
theorem u_dup {v : Value} (hd : vD cc pc (.dup) 1 pc') (hv : v.category = 1) (k : vU sb cx own cc nL d MC MS kc ks pc' L (v :: v :: st) S σ) : vU sb cx own cc nL d MC MS kc ks pc L (v :: st) S σ := by
  obtain ⟨p, l, e, R, s, m, args, below, meth, c, Q, D, cA, A, ad0, n0⟩ := cx
  obtain ⟨hd, hpc⟩ := hd
  subst hpc
  intro C ad H locs ls hP hD hS hW hl h00 hL hst hkc hks hz7 hn7
  exact lv_dup C.1 C.2.1 hd (by rw [vcv_cat]; exact hv) (k C ad H locs ls hP hD hS hW hl h00 hL (vSt_cons (vSt_hd hst) hst) hkc hks hz7 hn7)
theorem u_icmp_eq {a b : Int} {off : Int} {tgt : Nat} (hd : vJ cc pc (.if_icmp .eq off) pc' off tgt) (ha : vIn a) (hb : vIn b) (kt : a = b → vU sb cx own cc nL d MC MS kc ks tgt L st S σ) (kf : a ≠ b → vU sb cx own cc nL d MC MS kc ks pc' L st S σ) : vU sb cx own cc nL d MC MS kc ks pc L (.int (iI b) :: .int (iI a) :: st) S σ := by
  obtain ⟨p, l, e, R, s, m, args, below, meth, c, Q, D, cA, A, ad0, n0⟩ := cx
  obtain ⟨hd, hpc, ht⟩ := hd
  subst hpc
  intro C ad H locs ls hP hD hS hW hl h00 hL hst hkc hks hz7 hn7
  refine lv_icmp_eq C.1 C.2.1 hd ht (fun h => ?_) (fun h => ?_)
  · have h' : a = b := by first | exact (iI_eq ha hb).mp h | (intro q; exact h (by rw [q]))
    exact kt h' C ad H locs ls hP hD hS hW hl h00 hL (vSt_tl (vSt_tl hst)) hkc hks hz7 hn7
  · have h' : a ≠ b := by
      by_cases q : a = b
      · first | exact absurd ((iI_eq ha hb).mpr q) h | exact absurd ((iI_eq ha hb).mp h) q
      · first | exact q | omega
    exact kf h' C ad H locs ls hP hD hS hW hl h00 hL (vSt_tl (vSt_tl hst)) hkc hks hz7 hn7
theorem u_icmp_gt {a b : Int} {off : Int} {tgt : Nat} (hd : vJ cc pc (.if_icmp .gt off) pc' off tgt) (ha : vIn a) (hb : vIn b) (kt : b < a → vU sb cx own cc nL d MC MS kc ks tgt L st S σ) (kf : a ≤ b → vU sb cx own cc nL d MC MS kc ks pc' L st S σ) : vU sb cx own cc nL d MC MS kc ks pc L (.int (iI b) :: .int (iI a) :: st) S σ := by
  obtain ⟨p, l, e, R, s, m, args, below, meth, c, Q, D, cA, A, ad0, n0⟩ := cx
  obtain ⟨hd, hpc, ht⟩ := hd
  subst hpc
  intro C ad H locs ls hP hD hS hW hl h00 hL hst hkc hks hz7 hn7
  refine lv_icmp_gt C.1 C.2.1 hd ht (fun h => ?_) (fun h => ?_)
  · have h' : b < a := by first | exact (iI_lt hb ha).mp h | (intro q; exact h (by rw [q]))
    exact kt h' C ad H locs ls hP hD hS hW hl h00 hL (vSt_tl (vSt_tl hst)) hkc hks hz7 hn7
  · have h' : a ≤ b := by
      by_cases q : b < a
      · first | exact absurd ((iI_lt hb ha).mpr q) h | exact absurd ((iI_eq ha hb).mp h) q
      · first | exact q | omega
    exact kf h' C ad H locs ls hP hD hS hW hl h00 hL (vSt_tl (vSt_tl hst)) hkc hks hz7 hn7
theorem u_icmp_ne {a b : Int} {off : Int} {tgt : Nat} (hd : vJ cc pc (.if_icmp .ne off) pc' off tgt) (ha : vIn a) (hb : vIn b) (kt : a ≠ b → vU sb cx own cc nL d MC MS kc ks tgt L st S σ) (kf : a = b → vU sb cx own cc nL d MC MS kc ks pc' L st S σ) : vU sb cx own cc nL d MC MS kc ks pc L (.int (iI b) :: .int (iI a) :: st) S σ := by
  obtain ⟨p, l, e, R, s, m, args, below, meth, c, Q, D, cA, A, ad0, n0⟩ := cx
  obtain ⟨hd, hpc, ht⟩ := hd
  subst hpc
  intro C ad H locs ls hP hD hS hW hl h00 hL hst hkc hks hz7 hn7
  refine lv_icmp_ne C.1 C.2.1 hd ht (fun h => ?_) (fun h => ?_)
  · have h' : a ≠ b := by first | exact (not_congr (iI_eq ha hb)).mp h | (intro q; exact h (by rw [q]))
    exact kt h' C ad H locs ls hP hD hS hW hl h00 hL (vSt_tl (vSt_tl hst)) hkc hks hz7 hn7
  · have h' : a = b := by
      by_cases q : a ≠ b
      · first | exact absurd ((not_congr (iI_eq ha hb)).mpr q) h | exact absurd ((iI_eq ha hb).mp h) q
      · first | exact q | omega
    exact kf h' C ad H locs ls hP hD hS hW hl h00 hL (vSt_tl (vSt_tl hst)) hkc hks hz7 hn7
theorem u_if_ne {a : Int} {off : Int} {tgt : Nat} (hd : vJ cc pc (.ifCond .ne off) pc' off tgt) (ha : vIn a) (kt : a ≠ 0 → vU sb cx own cc nL d MC MS kc ks tgt L st S σ) (kf : a = 0 → vU sb cx own cc nL d MC MS kc ks pc' L st S σ) : vU sb cx own cc nL d MC MS kc ks pc L (.int (iI a) :: st) S σ := by
  obtain ⟨p, l, e, R, s, m, args, below, meth, c, Q, D, cA, A, ad0, n0⟩ := cx
  obtain ⟨hd, hpc, ht⟩ := hd
  subst hpc
  intro C ad H locs ls hP hD hS hW hl h00 hL hst hkc hks hz7 hn7
  have hb : vIn 0 := by decide
  refine lv_if_ne C.1 C.2.1 hd ht (fun h => ?_) (fun h => ?_)
  · have h' : a ≠ 0 := by first | exact (not_congr (iI_eq ha hb)).mp h | (intro q; exact h (by rw [q]; rfl))
    exact kt h' C ad H locs ls hP hD hS hW hl h00 hL (vSt_tl hst) hkc hks hz7 hn7
  · have h' : a = 0 := by
      by_cases q : a ≠ 0
      · first | exact absurd ((not_congr (iI_eq ha hb)).mpr q) h | exact absurd ((iI_eq ha hb).mp h) q
      · first | exact q | omega
    exact kf h' C ad H locs ls hP hD hS hW hl h00 hL (vSt_tl hst) hkc hks hz7 hn7
theorem u_if_eq {a : Int} {off : Int} {tgt : Nat} (hd : vJ cc pc (.ifCond .eq off) pc' off tgt) (ha : vIn a) (kt : a = 0 → vU sb cx own cc nL d MC MS kc ks tgt L st S σ) (kf : a ≠ 0 → vU sb cx own cc nL d MC MS kc ks pc' L st S σ) : vU sb cx own cc nL d MC MS kc ks pc L (.int (iI a) :: st) S σ := by
  obtain ⟨p, l, e, R, s, m, args, below, meth, c, Q, D, cA, A, ad0, n0⟩ := cx
  obtain ⟨hd, hpc, ht⟩ := hd
  subst hpc
  intro C ad H locs ls hP hD hS hW hl h00 hL hst hkc hks hz7 hn7
  have hb : vIn 0 := by decide
  refine lv_if_eq C.1 C.2.1 hd ht (fun h => ?_) (fun h => ?_)
  · have h' : a = 0 := by first | exact (iI_eq ha hb).mp h | (intro q; exact h (by rw [q]; rfl))
    exact kt h' C ad H locs ls hP hD hS hW hl h00 hL (vSt_tl hst) hkc hks hz7 hn7
  · have h' : a ≠ 0 := by
      by_cases q : a = 0
      · first | exact absurd ((iI_eq ha hb).mpr q) h | exact absurd ((iI_eq ha hb).mp h) q
      · first | exact q | omega
    exact kf h' C ad H locs ls hP hD hS hW hl h00 hL (vSt_tl hst) hkc hks hz7 hn7
theorem u_goto {off : Int} {tgt : Nat} (hd : vJ cc pc (.goto off) pc' off tgt) (k : vU sb cx own cc nL d MC MS kc ks tgt L st S σ) : vU sb cx own cc nL d MC MS kc ks pc L st S σ := by
  obtain ⟨p, l, e, R, s, m, args, below, meth, c, Q, D, cA, A, ad0, n0⟩ := cx
  obtain ⟨hd, hpc, ht⟩ := hd
  subst hpc
  intro C ad H locs ls hP hD hS hW hl h00 hL hst hkc hks hz7 hn7
  exact lv_goto C.1 C.2.1 hd ht (k C ad H locs ls hP hD hS hW hl h00 hL hst hkc hks hz7 hn7)
theorem u_table {dflt lo hi off : Int} {offs : Array Int} {len tgt : Nat} {a : Int} (hd : decode cc pc = .ok (.tableswitch dflt lo hi offs, len)) (ha : vIn a) (h1 : lo ≤ a) (h2 : a ≤ hi) (ho : offs[(a - lo).toNat]? = some off) (ht : (pc : Int) + off = (tgt : Int)) (k : vU sb cx own cc nL d MC MS kc ks tgt L st S σ) : vU sb cx own cc nL d MC MS kc ks pc L (.int (iI a) :: st) S σ := by
  obtain ⟨p, l, e, R, s, m, args, below, meth, c, Q, D, cA, A, ad0, n0⟩ := cx
  intro C ad H locs ls hP hD hS hW hl h00 hL hst hkc hks hz7 hn7
  exact lv_tableIn C.1 C.2.1 hd (by rw [iI_toInt ha]; omega) (by rw [iI_toInt ha]; omega) (by rw [iI_toInt ha]; exact ho) ht (k C ad H locs ls hP hD hS hW hl h00 hL (vSt_tl hst) hkc hks hz7 hn7)
theorem u_tableOut {dflt lo hi : Int} {offs : Array Int} {len tgt : Nat} {a : Int} (hd : decode cc pc = .ok (.tableswitch dflt lo hi offs, len)) (ha : vIn a) (h1 : a < lo ∨ hi < a) (ht : (pc : Int) + dflt = (tgt : Int)) (k : vU sb cx own cc nL d MC MS kc ks tgt L st S σ) : vU sb cx own cc nL d MC MS kc ks pc L (.int (iI a) :: st) S σ := by
  obtain ⟨p, l, e, R, s, m, args, below, meth, c, Q, D, cA, A, ad0, n0⟩ := cx
  intro C ad H locs ls hP hD hS hW hl h00 hL hst hkc hks hz7 hn7
  exact lv_tableOut C.1 C.2.1 hd (by rw [iI_toInt ha]; exact h1) ht (k C ad H locs ls hP hD hS hW hl h00 hL (vSt_tl hst) hkc hks hz7 hn7)
theorem u_istore_n {j : Fin 4} {x : Int32} {L' : List (Option Value)} (hd : vD cc pc (.istore_n j) 1 pc') (hi : (j : Nat) < nL) (hi0 : (j : Nat) ≠ 0) (hL1 : vLong L (j : Nat) = false) (hs : L.set (j : Nat) (some (.int x)) = L') (k : vU sb cx own cc nL d MC MS kc ks pc' L' st S σ) : vU sb cx own cc nL d MC MS kc ks pc L (.int x :: st) S σ := by
  obtain ⟨p, l, e, R, s, m, args, below, meth, c, Q, D, cA, A, ad0, n0⟩ := cx
  obtain ⟨hd, hpc⟩ := hd
  subst hpc
  intro C ad H locs ls hP hD hS hW hl h00 hL hst hkc hks hz7 hn7
  refine lv_istore_n C.1 C.2.1 hd rfl (vU_lv hl h00) hi rfl (fun ls9 hl9 => ?_)
  exact k C ad H locs ls9 hP hD hS hW (vLoc_of1 (v := .int x) (fun _ h => List.mem_cons_of_mem _ h) hl9 hL1 hs) (vU_of hl9 hi0) (vWfL_set hL vWfS_int hs) (vSt_tl hst) hkc hks hz7 hn7
theorem u_astore_n {j : Fin 4} {x : Nat} {L' : List (Option Value)} (hd : vD cc pc (.astore_n j) 1 pc') (hi : (j : Nat) < nL) (hi0 : (j : Nat) ≠ 0) (hL1 : vLong L (j : Nat) = false) (hs : L.set (j : Nat) (some (.ref x)) = L') (k : vU sb cx own cc nL d MC MS kc ks pc' L' st S σ) : vU sb cx own cc nL d MC MS kc ks pc L (.ref x :: st) S σ := by
  obtain ⟨p, l, e, R, s, m, args, below, meth, c, Q, D, cA, A, ad0, n0⟩ := cx
  obtain ⟨hd, hpc⟩ := hd
  subst hpc
  intro C ad H locs ls hP hD hS hW hl h00 hL hst hkc hks hz7 hn7
  refine lv_astore_n C.1 C.2.1 hd rfl (vU_lv hl h00) hi rfl (fun ls9 hl9 => ?_)
  exact k C ad H locs ls9 hP hD hS hW (vLoc_of1 (v := .ref x) (fun _ h => List.mem_cons_of_mem _ h) hl9 hL1 hs) (vU_of hl9 hi0) (vWfL_set hL (fun w h => by cases h; exact vSt_hd hst) hs) (vSt_tl hst) hkc hks hz7 hn7
theorem u_iinc {i : Nat} {n x : Int} {L' : List (Option Value)} (hd : vD cc pc (.iinc i n) 3 pc') (hi : i < nL) (hi0 : i ≠ 0) (hx : L[i]? = some (some (.int (iI x)))) (hL1 : vLong L i = false) (hs : L.set i (some (.int (iI (x + n)))) = L') (k : vU sb cx own cc nL d MC MS kc ks pc' L' st S σ) : vU sb cx own cc nL d MC MS kc ks pc L st S σ := by
  obtain ⟨p, l, e, R, s, m, args, below, meth, c, Q, D, cA, A, ad0, n0⟩ := cx
  obtain ⟨hd, hpc⟩ := hd
  subst hpc
  intro C ad H locs ls hP hD hS hW hl h00 hL hst hkc hks hz7 hn7
  have hh := vU_lv hl h00
  refine lv_iinc (v := iI (x + n)) (k := 1) C.1 C.2.1 hd (lv := (0, Value.ref sb) :: (i, .int (iI x)) :: vLv ad L) ⟨hh.1, hh.2.1, List.forall_mem_cons.mpr ⟨h00, List.forall_mem_cons.mpr ⟨vLoc_get hl hx, (vLoc_lv hl).2.2⟩⟩⟩ rfl (iI_add x n) hi rfl (fun ls9 hl9 => ?_)
  exact k C ad H locs ls9 hP hD hS hW (vLoc_of1 (v := .int (iI (x + n))) (fun _ h => List.mem_cons_of_mem _ (List.mem_cons_of_mem _ h)) hl9 hL1 hs) (vU_of hl9 hi0) (vWfL_set hL vWfS_int hs) hst hkc hks hz7 hn7
theorem u_drop {L L' : List (Option Value)} (h : ∀ (i : Nat) (v : Value), L'[i]? = some (some v) → L[i]? = some (some v)) (k : vU sb cx own cc nL d MC MS kc ks pc L' st S σ) : vU sb cx own cc nL d MC MS kc ks pc L st S σ := by
  obtain ⟨p, l, e, R, s, m, args, below, meth, c, Q, D, cA, A, ad0, n0⟩ := cx
  intro C ad H locs ls hP hD hS hW hl h00 hL hst hkc hks hz7 hn7
  exact k C ad H locs ls hP hD hS hW ⟨hl.1, hl.2.1, fun i v hi => hl.2.2 i v (h i v hi)⟩ h00 (fun i v hi => hL i v (h i v hi)) hst hkc hks hz7 hn7
def vSc (sb Ln : Nat) (xs : Nat → Int32) (cx : vCx) : Prop := match cx with
  | (_p, _l, _e, _R, s, _m, _args, _below, _meth, _c, _Q, _D, _cA, A, _ad0, _n0) => va_X sb Ln xs s s.heap ∧ sb < s.heap.size ∧ ¬ A sb
def vx (xs : Nat → Int32) (i : Int) : Int := (xs i.toNat).toInt
theorem vx_in (xs : Nat → Int32) (i : Int) : vIn (vx xs i) := by
  have h1 := Int32.le_toInt (xs i.toNat)
  have h2 := Int32.toInt_lt (xs i.toNat)
  unfold vx
  omega
theorem vx_iI (xs : Nat → Int32) (i : Int) : iI (vx xs i) = xs i.toNat := by
  apply Int32.toInt_inj.mp
  rw [iI_toInt (vx_in xs i)]
  rfl
variable {Ln : Nat} {xs : Nat → Int32} {pc1 pc2 pc3 pc4 pc5 : Nat}
theorem u_slen (hd0 : vD cc pc (.aload_n 0) 1 pc1) (hd1 : vD cc pc1 (.arraylength) 1 pc2) (hX : vSc sb Ln xs cx) (k : vU sb cx own cc nL d MC MS kc ks pc2 L (.int (iI Ln) :: st) S σ) : vU sb cx own cc nL d MC MS kc ks pc L st S σ := by
  obtain ⟨p, l, e, R, s, m, args, below, meth, c, Q, D, cA, A, ad0, n0⟩ := cx
  obtain ⟨hd0, rfl⟩ := hd0
  obtain ⟨hd1, rfl⟩ := hd1
  intro C ad H locs ls hP hD hS hW hl h00 hL hst hkc hks hz7 hn7
  refine lv_aload_n C.1 C.2.1 hd0 rfl h00 ?_
  refine va_slen C.1 C.2.1 hX.1 hX.2.1 hX.2.2 hS hd1 ?_
  exact k C ad H locs ls hP hD hS hW hl h00 hL (vSt_int hst) hkc hks hz7 hn7
theorem u_sld {i : Int} (hd0 : vD cc pc (.aload_n 0) 1 pc1) (hd1 : vD cc pc1 (.iload_n 3) 1 pc2) (hd4 : vD cc pc2 (.iaload) 1 pc5) (hX : vSc sb Ln xs cx) (h3 : L[3]? = some (some (.int (iI i)))) (hi : 0 ≤ i ∧ i < Ln) (hLn : Ln < 2147483648) (k : vU sb cx own cc nL d MC MS kc ks pc5 L (.int (iI (vx xs i)) :: st) S σ) : vU sb cx own cc nL d MC MS kc ks pc L st S σ := by
  obtain ⟨p, l, e, R, s, m, args, below, meth, c, Q, D, cA, A, ad0, n0⟩ := cx
  obtain ⟨hd0, rfl⟩ := hd0
  obtain ⟨hd1, rfl⟩ := hd1
  obtain ⟨hd4, rfl⟩ := hd4
  intro C ad H locs ls hP hD hS hW hl h00 hL hst hkc hks hz7 hn7
  refine lv_aload_n C.1 C.2.1 hd0 rfl h00 ?_
  refine lv_iload_n C.1 C.2.1 hd1 rfl (vLoc_get hl h3) ?_
  refine va_sld C.1 C.2.1 hX.1 hX.2.1 hX.2.2 hS (vIn_ix hi hLn) hd4 ?_
  rw [iI_clamp hi.1 (by omega), ← vx_iI xs]
  exact k C ad H locs ls hP hD hS hW hl h00 hL (vSt_int hst) hkc hks hz7 hn7
theorem u_sldk {i j : Int} (hd0 : vD cc pc (.aload_n 0) 1 pc1) (hd1 : vD cc pc1 (.iload_n 3) 1 pc2) (hd2 : vD cc pc2 (.iconst j) 1 pc3) (hd3 : vD cc pc3 (.iadd) 1 pc4) (hd4 : vD cc pc4 (.iaload) 1 pc5) (hX : vSc sb Ln xs cx) (h3 : L[3]? = some (some (.int (iI i)))) (hi : 0 ≤ i + j ∧ i + j < Ln) (hLn : Ln < 2147483648) (k : vU sb cx own cc nL d MC MS kc ks pc5 L (.int (iI (vx xs (i + j))) :: st) S σ) : vU sb cx own cc nL d MC MS kc ks pc L st S σ := by
  obtain ⟨p, l, e, R, s, m, args, below, meth, c, Q, D, cA, A, ad0, n0⟩ := cx
  obtain ⟨hd0, rfl⟩ := hd0
  obtain ⟨hd1, rfl⟩ := hd1
  obtain ⟨hd2, rfl⟩ := hd2
  obtain ⟨hd3, rfl⟩ := hd3
  obtain ⟨hd4, rfl⟩ := hd4
  intro C ad H locs ls hP hD hS hW hl h00 hL hst hkc hks hz7 hn7
  refine lv_aload_n C.1 C.2.1 hd0 rfl h00 ?_
  refine lv_iload_n C.1 C.2.1 hd1 rfl (vLoc_get hl h3) ?_
  refine lv_iconst C.1 C.2.1 hd2 rfl ?_
  refine lv_iadd C.1 C.2.1 hd3 ?_
  rw [show iI i + Int32.ofInt j = iI (i + j) from iI_add i j]
  refine va_sld C.1 C.2.1 hX.1 hX.2.1 hX.2.2 hS (vIn_ix hi hLn) hd4 ?_
  rw [iI_clamp hi.1 (by omega), ← vx_iI xs]
  exact k C ad H locs ls hP hD hS hW hl h00 hL (vSt_int hst) hkc hks hz7 hn7
end
section
variable {sb : Nat} {cx : vCx} {own : String} {cc ccy : ByteArray} {nL nLy d dy MC MS kc ks mc ms pc pc' idx n ci N : Nat} {L : List (Option Value)} {st as : List Value} {S : vSh} {σ : vMem} {RT : vRT} {y : MethodName} {ret : Option FieldType}
set_option maxHeartbeats 1000000 in
/-- behind a call -/
theorem u_run {p : Program} {l : Launch} {e : Env} {R : Room} {s : State} {m : MethodId} {args : Array Value} {below : List Frame} {meth : Method} {c : Code} {Q : State → Prop} {D : va_G} {cA : Nat → ClassId} {A : Nat → Prop} {ad0 : Nat → Nat} {n0 : Nat} {ad : Nat → Nat} {H : Heap} {locs : List Loc} {ls : Array Slot} {a : Array Value} {st0 : List Value}
    (C : vOk (p, l, e, R, s, m, args, below, meth, c, Q, D, cA, A, ad0, n0) own cc nL d MC MS) (hD : va_D A (vWs cA ad S σ)) (hS : va_S A s.heap H locs) (hl : vLoc ad nL L ls) (h00 : ls[0]? = some (.val (.ref sb))) (hL : ∀ (i : Nat) (v : Value), L[i]? = some (some v) → vWfV S.length v) (hst : ∀ v ∈ st, vWfV S.length v) (hz : ∀ k, k < n0 → ad k = ad0 k) (hn : n0 ≤ S.length) (hkc : kc + mc ≤ MC) (hks : ks + ms ≤ MS)
    (hr : va_Run p l e R s m args below meth c H locs kc ks mc ms (F0 m pc ls st0) (st.map (vcv ad)) (vQc D cA ad S σ H.size ret RT a) (va_A (vWs cA ad S σ) H.size))
    (k : ∀ z S' σ', vRng ret z → RT z S' σ' → vU sb (p, l, e, R, s, m, args, below, meth, c, Q, D, cA, A, ad0, n0) own cc nL d MC MS (kc + mc) (ks + ms) (pc + 3) L ((vRet ret z).toList ++ st) S' σ') : W p l e R s m args below meth c H locs kc ks Q (F0 m pc ls st0) := by
  intro T hT X
  obtain ⟨v, st₀, t, T', L', h0, X', hL', e1, e2, ⟨⟨z, S', σ', ad', hv, hrg, hRT, had, hlen, hP', hD', hW'⟩, hF1, hF2⟩, stp⟩ := hr T hT X
  cases hv
  have hfree : ∀ q, va_A (vWs cA ad S σ) H.size q → A q := by
    rintro q (⟨k2, e3, h3⟩ | h3)
    · exact hD.2 k2 (q, e3) h3
    · exact C.2.2.2.2.2.2.1 q (Nat.le_trans hS.1 h3)
  rw [h0] at hF1 hF2
  have hkk := k z S' σ' hrg hRT C ad' T'.heap (locs ++ L') ls (by rw [e1]; exact hP') (hD'.weaken (fun _ q _ h => hfree q.1 h))
    ⟨Nat.le_trans hS.1 (by rw [e1]; exact hF1), fun q h1 h2 => by rw [e1, hF2 q (Nat.lt_of_lt_of_le h1 hS.1) (fun z => h2 (hfree q z))]; exact hS.2.1 q h1 h2, fun q hq => by
      rcases List.mem_append.mp hq with h | h
      · exact hS.2.2 q h
      · exact hfree _ (hL' q h)⟩ hW' (vLoc_eq had hL hl) h00 (fun i v hi => vWfV_mono hlen (hL i v hi)) (fun v hv => by
      rcases List.mem_append.mp hv with h | h
      · exact vRet_wf ret z v h
      · exact vWfV_mono hlen (hst v h)) hkc hks (fun k hk => by rw [had k (Nat.lt_of_lt_of_le hk hn)]; exact hz k hk) (Nat.le_trans hn hlen)
  rw [List.map_append, vRet_map, vMap_eq had hst] at hkk
  obtain ⟨t2, a1, b1⟩ := hkk T' rfl X'
  exact ⟨t2, stp t2 a1, b1⟩
set_option maxHeartbeats 1000000 in
theorem u_callV {r : Nat} {fs : List vFD} {T : u_T} {N : Nat} (hd : vD cc pc (.invokevirtual idx) 3 pc') (hl : vMl own idx y n) (hc : Cond.code y ccy nLy ret ∈ wt) (hM : vMet dy mc ms y ccy nLy ret (.ref r :: as) S σ RT) (hr : S[r]? = some (.inr (ci, fs))) (hci : vcl[ci]? = some (y.cls, T, N)) (hn : as.length = n) (hdp : dy + 1 ≤ d) (hnl : nLy ≤ 13) (hrm : (st.map fun v => v.category).sum ≤ 8) (hkc' : kc + mc ≤ MC) (hks' : ks + ms ≤ MS)
    (k : ∀ z S' σ', vRng ret z → RT z S' σ' → vU sb cx own cc nL d MC MS (kc + mc) (ks + ms) pc' L ((vRet ret z).toList ++ st) S' σ') : vU sb cx own cc nL d MC MS kc ks pc L (as.reverse ++ .ref r :: st) S σ := by
  obtain ⟨p, l, e, R, s, m, args, below, meth, c, Q, D, cA, A, ad0, n0⟩ := cx
  obtain ⟨hd, hpc⟩ := hd
  subst hpc
  intro C ad H locs ls hP hD hS hW hlo h00 hL hst hkc hks hz7 hn7
  have hst1 : ∀ v ∈ st, vWfV S.length v := fun v hv => hst v (List.mem_append_right _ (List.mem_cons_of_mem _ hv))
  have has : ∀ v ∈ Value.ref r :: as, vWfV S.length v := vSt_cons (hst _ (List.mem_append_right _ List.mem_cons_self)) (fun v hv => hst v (List.mem_append_left _ (List.mem_reverse.mpr hv)))
  obtain ⟨l1, l2, l3, l4, l5, l6, l7⟩ := hl
  have hts := C.2.2.2.2.1
  obtain ⟨r1, r2, r3, r4⟩ := C.2.2.2.2.2.2.2.2.1
  refine u_run C hD hS hlo h00 hL hst1 hz7 hn7 hkc' hks' (va_runV (As := as.map (vcv ad)) (b := ad r) (C := y.cls) (n := n) (bytes := ccy) (maxL := nLy) (ret := ret) ⟨C.1, C.2.1, C.2.2.1, C.2.2.2.1, hts⟩ (hM l D cA ad H.size) ⟨⟨rfl, rfl, (show dy + 1 ≤ R.frames by omega), (show 8 + (nLy + 11) + 32 * dy ≤ R.locals by omega), wt_pay hts hc, List.mem_cons_self, hts _ hc, hts _ l4, ⟨l5, l6⟩, vDesc l7, hts _ l1⟩, hts _ l2, hts _ l3⟩ ⟨vBlind, ?_, fun U hU hWm => vPre C hP hD hS hW has U hU hWm⟩ rfl (by rw [List.length_map]; exact hn) hlo.1 ?_ ?_ hd ⟨by omega, by omega⟩) k
  · exact va_recv C.2.2.2.2.2.1 hP hci (vWs_at hr)
  · show ((as.reverse ++ .ref r :: st).map (vcv ad)) = _
    rw [List.map_append, List.map_reverse, List.map_cons]
    rfl
  · rw [← vCat_sum ad] at hrm
    exact lv_room hrm
set_option maxHeartbeats 1000000 in
theorem u_callI {r : Nat} (hd : vD cc pc (.invokespecial idx) 3 pc') (hl : vIl own idx y n) (hc : Cond.code y ccy nLy none ∈ wt) (hM : vMet dy mc ms y ccy nLy none (.ref r :: as) S σ RT) (hn : as.length = n) (hdp : dy + 1 ≤ d) (hnl : nLy ≤ 13) (hrm : (st.map fun v => v.category).sum ≤ 8) (hkc' : kc + mc ≤ MC) (hks' : ks + ms ≤ MS)
    (k : ∀ z S' σ', RT z S' σ' → vU sb cx own cc nL d MC MS (kc + mc) (ks + ms) pc' L st S' σ') : vU sb cx own cc nL d MC MS kc ks pc L (as.reverse ++ .ref r :: st) S σ := by
  obtain ⟨p, l, e, R, s, m, args, below, meth, c, Q, D, cA, A, ad0, n0⟩ := cx
  obtain ⟨hd, hpc⟩ := hd
  subst hpc
  intro C ad H locs ls hP hD hS hW hlo h00 hL hst hkc hks hz7 hn7
  have hst1 : ∀ v ∈ st, vWfV S.length v := fun v hv => hst v (List.mem_append_right _ (List.mem_cons_of_mem _ hv))
  have has : ∀ v ∈ Value.ref r :: as, vWfV S.length v := vSt_cons (hst _ (List.mem_append_right _ List.mem_cons_self)) (fun v hv => hst v (List.mem_append_left _ (List.mem_reverse.mpr hv)))
  obtain ⟨l1, l2, l4, l3, l5, l6, l7⟩ := hl
  have hts := C.2.2.2.2.1
  obtain ⟨r1, r2, r3, r4⟩ := C.2.2.2.2.2.2.2.2.1
  refine u_run C hD hS hlo h00 hL hst1 hz7 hn7 hkc' hks' (va_runI (As := as.map (vcv ad)) (b := ad r) (n := n) (bytes := ccy) (maxL := nLy) ⟨C.1, C.2.1, C.2.2.1, C.2.2.2.1, hts⟩ (hM l D cA ad H.size) ⟨⟨rfl, rfl, (show dy + 1 ≤ R.frames by omega), (show 8 + (nLy + 11) + 32 * dy ≤ R.locals by omega), wt_pay hts hc, List.mem_cons_self, hts _ hc, hts _ l4, ⟨l5, l6⟩, vDesc l7, hts _ l1⟩, l3, hts _ l2⟩ ⟨vBlind, fun U hU hWm => vPre C hP hD hS hW has U hU hWm⟩ rfl (by rw [List.length_map]; exact hn) hlo.1 ?_ ?_ hd ⟨by omega, by omega⟩) (fun z S' σ' _ h => k z S' σ' h)
  · show ((as.reverse ++ .ref r :: st).map (vcv ad)) = _
    rw [List.map_append, List.map_reverse, List.map_cons]
    rfl
  · rw [← vCat_sum ad] at hrm
    exact lv_room hrm
theorem u_after_new {p : Program} {l : Launch} {e : Env} {R : Room} {s : State} {m : MethodId} {args : Array Value} {below : List Frame} {meth : Method} {c : Code} {Q : State → Prop} {D : va_G} {cA : Nat → ClassId} {A : Nat → Prop} {ad0 : Nat → Nat} {n0 : Nat} {ad : Nat → Nat} {H1 : Heap} {locs : List Loc} {ls : Array Slot} {q : Nat} {cell : vSC} {kc' ks' pc1 : Nat}
    (C : vOk (p, l, e, R, s, m, args, below, meth, c, Q, D, cA, A, ad0, n0) own cc nL d MC MS) (hW : vWf S σ) (hl : vLoc ad nL L ls) (h00 : ls[0]? = some (.val (.ref sb))) (hL : ∀ (i : Nat) (v : Value), L[i]? = some (some v) → vWfV S.length v) (hst : ∀ v ∈ st, vWfV S.length v) (hz : ∀ k, k < n0 → ad k = ad0 k) (hn : n0 ≤ S.length) (hkc : kc' ≤ MC) (hks : ks' ≤ MS)
    (hc1 : ∀ ci fs, cell = .inr (ci, fs) → ∀ (j r : Nat), fs[j]? ≠ some (some (some r))) (hc2 : ∀ t n, cell = .inl (t, n) → n < 2147483648)
    (hP1 : va_P D vcl (vWs cA ad S σ ++ [(q, vCell cA (fun k => if k = S.length then q else ad k) (fun _ => 0) cell)]) H1) (hD1 : va_D A (vWs cA ad S σ ++ [(q, vCell cA (fun k => if k = S.length then q else ad k) (fun _ => 0) cell)])) (hS1 : va_S A s.heap H1 locs)
    (k : vU sb (p, l, e, R, s, m, args, below, meth, c, Q, D, cA, A, ad0, n0) own cc nL d MC MS kc' ks' pc1 L (.ref S.length :: st) (S ++ [cell]) (vZ σ S.length)) : W p l e R s m args below meth c H1 locs kc' ks' Q (F0 m pc1 ls (.ref q :: st.map (vcv ad))) := by
  have had : ∀ k, k < S.length → (fun k => if k = S.length then q else ad k) k = ad k := fun k hk => by
    show (if k = S.length then q else ad k) = ad k
    rw [if_neg (by omega)]
  have e1 : vWs cA (fun k => if k = S.length then q else ad k) (S ++ [cell]) (vZ σ S.length) = vWs cA ad S σ ++ [(q, vCell cA (fun k => if k = S.length then q else ad k) (fun _ => 0) cell)] := by
    have hWz : vWf S (vZ σ S.length) := ⟨hW.1, fun k n hk j => by
      have := (List.getElem?_eq_some_iff.mp hk).1
      rw [vZ_ne (by omega)]; exact hW.2.1 k n hk j, fun k j => by
      unfold vZ
      split
      · decide
      · exact hW.2.2.1 k j, hW.2.2.2⟩
    rw [vWs_push hWz had, vWs_z (Nat.le_refl _)]
    have e2 : vZ σ S.length S.length = fun _ => 0 := by funext i; simp [vZ]
    rw [e2]
    simp
  have hkk := k C (fun k => if k = S.length then q else ad k) H1 locs ls (by rw [e1]; exact hP1) (by rw [e1]; exact hD1) hS1 (vWf_z hW hc1 hc2) (vLoc_eq had hL hl) h00 (fun i v hi => vWfV_mono (by simp) (hL i v hi)) (vSt_cons (fun r hr => by cases hr; simp) (fun v hv => vWfV_mono (by simp) (hst v hv))) hkc hks (fun k hk => (had k (Nat.lt_of_lt_of_le hk hn)).trans (hz k hk)) (by simp; omega)
  have e3 : (Value.ref S.length :: st).map (vcv (fun k => if k = S.length then q else ad k)) = .ref q :: st.map (vcv ad) := by
    rw [List.map_cons, vMap_eq had hst]
    simp [vcv]
  rw [e3] at hkk
  exact hkk
theorem u_new {fs : List vFD} (hd : vD cc pc (.new idx) 3 pc') (hw : vNw own idx ci N fs) (hkc' : kc + 1 ≤ MC) (hks' : ks + N ≤ MS) (k : vU sb cx own cc nL d MC MS (kc + 1) (ks + N) pc' L (.ref S.length :: st) (S ++ [.inr (ci, fs)]) (vZ σ S.length)) : vU sb cx own cc nL d MC MS kc ks pc L st S σ := by
  obtain ⟨p, l, e, R, s, m, args, below, meth, c, Q, D, cA, A, ad0, n0⟩ := cx
  obtain ⟨hd, hpc⟩ := hd
  subst hpc
  intro C ad H locs ls hP hD hS hW hl h00 hL hst hkc hks hz7 hn7
  obtain ⟨C1, T, ty, h1, h2, h3, h4, h5, h6, h7, h8⟩ := hw
  have hts := C.2.2.2.2.1
  obtain ⟨r1, r2, r3, r4⟩ := C.2.2.2.2.2.2.2.2.1
  refine va_new C.1 C.2.1 hts h2 ty h3 C.2.2.2.1 (hts _ h4) (hts _ h5) (hts _ h6) C.2.2.2.2.2.1 hP hD hS C.2.2.2.2.2.2.1 h1 h7 (by omega) (by omega) hd (fun q H1 hP1 hD1 hS1 => ?_)
  rw [← vCell_new (cA := cA) (ad := fun k => if k = S.length then q else ad k) h8] at hP1 hD1
  exact u_after_new C hW hl h00 hL hst hz7 hn7 hkc' hks' (fun ci' fs' e j r hj => by
    cases e
    rcases h8 _ (List.mem_of_getElem? hj) with h | h <;> cases h) (fun t n e => by cases e) hP1 hD1 hS1 k
end
