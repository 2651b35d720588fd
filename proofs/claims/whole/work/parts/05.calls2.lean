theorem vLoc_eq {ad ad' : Nat → Nat} {n nL : Nat} {L : List (Option Value)} {ls : Array Slot} (h : ∀ k, k < n → ad' k = ad k) (hL : ∀ (i : Nat) (v : Value), L[i]? = some (some v) → vWfV n v) (hl : vLoc ad nL L ls) : vLoc ad' nL L ls :=
  ⟨hl.1, hl.2.1, fun i v hi => by rw [vcv_eq h (hL i v hi)]; exact hl.2.2 i v hi⟩
theorem vWfV_mono {n n' : Nat} {v : Value} (h : n ≤ n') (hv : vWfV n v) : vWfV n' v := fun r hr => Nat.lt_of_lt_of_le (hv r hr) h
theorem vMap_eq {ad ad' : Nat → Nat} {n : Nat} {st : List Value} (h : ∀ k, k < n → ad' k = ad k) (hst : ∀ v ∈ st, vWfV n v) : st.map (vcv ad') = st.map (vcv ad) := List.map_congr_left (fun v hv => vcv_eq h (hst v hv))
theorem vRet_map (ad : Nat → Nat) (ret : Option FieldType) (z : Int) : (vRet ret z).toList.map (vcv ad) = (vRet ret z).toList := by
  unfold vRet
  split <;> rfl
theorem vRet_wf {n : Nat} (ret : Option FieldType) (z : Int) : ∀ v ∈ (vRet ret z).toList, vWfV n v := by
  unfold vRet
  split
  · intro v hv; cases hv
  · intro v hv; simp at hv; subst hv; exact vWfV_long
  · intro v hv; simp at hv; subst hv; exact vWfV_int
theorem vCat_sum (ad : Nat → Nat) (st : List Value) : ((st.map (vcv ad)).map fun v => v.category).sum = (st.map fun v => v.category).sum := by
  rw [List.map_map]
  congr 1
  exact List.map_congr_left (fun v _ => vcv_cat ad v)
def vMl (own : String) (idx : Nat) (y : MethodName) (n : Nat) : Prop := Cond.methodLink own idx y ∈ wt ∧ Cond.instanceMethod y ∈ wt ∧ Cond.selects y.cls y y ∈ wt ∧ Cond.initialized y.cls ∈ wt ∧ (y.cls ≠ "java/lang/invoke/MethodHandle" ∧ y.cls ≠ "java/lang/invoke/VarHandle" ∧ (parseMethodDescriptor y.desc).map (fun d => d.parameters.length) = some n)
def vSl (own : String) (idx : Nat) (y : MethodName) (n : Nat) : Prop := Cond.methodLink own idx y ∈ wt ∧ Cond.static y ∈ wt ∧ Cond.initialized y.cls ∈ wt ∧ (y.cls ≠ "java/lang/invoke/MethodHandle" ∧ y.cls ≠ "java/lang/invoke/VarHandle" ∧ (parseMethodDescriptor y.desc).map (fun d => d.parameters.length) = some n)
def vIl (own : String) (idx : Nat) (y : MethodName) (n : Nat) : Prop := Cond.methodLink own idx y ∈ wt ∧ Cond.instanceMethod y ∈ wt ∧ Cond.initialized y.cls ∈ wt ∧ y.name = "<init>" ∧ (y.cls ≠ "java/lang/invoke/MethodHandle" ∧ y.cls ≠ "java/lang/invoke/VarHandle" ∧ (parseMethodDescriptor y.desc).map (fun d => d.parameters.length) = some n)
def vNl (own : String) (idx : Nat) (y : MethodName) (n : Nat) : Prop := Cond.methodLinkNest own idx y "VillagePay" ∈ vNest ∧ Cond.instanceMethod y ∈ wt ∧ Cond.initialized y.cls ∈ wt ∧ y.name = "<init>" ∧ (y.cls ≠ "java/lang/invoke/MethodHandle" ∧ y.cls ≠ "java/lang/invoke/VarHandle" ∧ (parseMethodDescriptor y.desc).map (fun d => d.parameters.length) = some n)
theorem vDesc {y : MethodName} {n : Nat} (h : (parseMethodDescriptor y.desc).map (fun d => d.parameters.length) = some n) : ∀ sig, parseMethodDescriptor y.desc = some sig → n = sig.parameters.length := by
  intro sig hs
  rw [hs] at h
  exact (Option.some.inj h).symm
section
variable {cx : vCx} {own : String} {cc ccy : ByteArray} {nL nLy d dy MC MS kc ks mc ms pc pc' idx n ci : Nat} {L : List (Option Value)} {st as : List Value} {S : vSh} {σ : vMem} {RT : vRT} {y : MethodName} {ret : Option FieldType}
set_option maxHeartbeats 1000000 in
/-- behind a call -/
theorem v_run {p : Program} {l : Launch} {e : Env} {R : Room} {s : State} {m : MethodId} {args : Array Value} {below : List Frame} {meth : Method} {c : Code} {Q : State → Prop} {D : va_G} {cA : Nat → ClassId} {A : Nat → Prop} {ad0 : Nat → Nat} {n0 : Nat} {ad : Nat → Nat} {H : Heap} {locs : List Loc} {ls : Array Slot} {a : Array Value} {st0 : List Value}
    (C : vOk (p, l, e, R, s, m, args, below, meth, c, Q, D, cA, A, ad0, n0) own cc nL d MC MS) (hD : va_D A (vWs cA ad S σ)) (hS : va_S A s.heap H locs) (hl : vLoc ad nL L ls) (hL : ∀ (i : Nat) (v : Value), L[i]? = some (some v) → vWfV S.length v) (hst : ∀ v ∈ st, vWfV S.length v) (hz : ∀ k, k < n0 → ad k = ad0 k) (hn : n0 ≤ S.length) (hkc : kc + mc ≤ MC) (hks : ks + ms ≤ MS)
    (hr : va_Run p l e R s m args below meth c H locs kc ks mc ms (F0 m pc ls st0) (st.map (vcv ad)) (vQc D cA ad S σ H.size ret RT a) (va_A (vWs cA ad S σ) H.size))
    (k : ∀ z S' σ', vRng ret z → RT z S' σ' → vV (p, l, e, R, s, m, args, below, meth, c, Q, D, cA, A, ad0, n0) own cc nL d MC MS (kc + mc) (ks + ms) (pc + 3) L ((vRet ret z).toList ++ st) S' σ') : W p l e R s m args below meth c H locs kc ks Q (F0 m pc ls st0) := by
  intro T hT X
  obtain ⟨v, st₀, t, T', L', h0, X', hL', e1, e2, ⟨⟨z, S', σ', ad', hv, hrg, hRT, had, hlen, hP', hD', hW'⟩, hF1, hF2⟩, stp⟩ := hr T hT X
  cases hv
  have hfree : ∀ q, va_A (vWs cA ad S σ) H.size q → A q := by
    rintro q (⟨k2, e3, h3⟩ | h3)
    · exact hD.2 k2 (q, e3) h3
    · exact C.2.2.2.2.2.2.1 q (Nat.le_trans hS.1 h3)
  rw [h0] at hF1 hF2
  have hkk := k z S' σ' hrg hRT C ad' T'.heap (locs ++ L') ls (by rw [e1]; exact hP') (hD'.weaken (fun _ q _ h => hfree q.1 h))
    ⟨Nat.le_trans hS.1 (by rw [e1]; exact hF1), fun q h1 h2 => by rw [e1, hF2 q (Nat.lt_of_lt_of_le h1 hS.1) (fun z => h2 (hfree q z))]; exact hS.2.1 q h1 h2, fun q hq => by
      rcases List.mem_append.mp hq with h | h
      · exact hS.2.2 q h
      · exact hfree _ (hL' q h)⟩ hW' (vLoc_eq had hL hl) (fun i v hi => vWfV_mono hlen (hL i v hi)) (fun v hv => by
      rcases List.mem_append.mp hv with h | h
      · exact vRet_wf ret z v h
      · exact vWfV_mono hlen (hst v h)) hkc hks (fun k hk => by rw [had k (Nat.lt_of_lt_of_le hk hn)]; exact hz k hk) (Nat.le_trans hn hlen)
  rw [List.map_append, vRet_map, vMap_eq had hst] at hkk
  obtain ⟨t2, a1, b1⟩ := hkk T' rfl X'
  exact ⟨t2, stp t2 a1, b1⟩
theorem vPre {p : Program} {l : Launch} {e : Env} {R : Room} {s : State} {m : MethodId} {args : Array Value} {below : List Frame} {meth : Method} {c : Code} {Q : State → Prop} {D : va_G} {cA : Nat → ClassId} {A : Nat → Prop} {ad0 : Nat → Nat} {n0 : Nat} {ad : Nat → Nat} {H : Heap} {locs : List Loc}
    (C : vOk (p, l, e, R, s, m, args, below, meth, c, Q, D, cA, A, ad0, n0) own cc nL d MC MS) (hP : va_P D vcl (vWs cA ad S σ) H) (hD : va_D A (vWs cA ad S σ)) (hS : va_S A s.heap H locs) (hW : vWf S σ) (has : ∀ v ∈ as, vWfV S.length v) : ∀ U : State, U.heap = H → s.WarmedH U.vm → vPc D cA ad as S σ H.size (as.map (vcv ad)).toArray U := by
  intro U hU hWm
  have hfree : ∀ q, va_A (vWs cA ad S σ) H.size q → A q := by
    rintro q (⟨k2, e3, h3⟩ | h3)
    · exact hD.2 k2 (q, e3) h3
    · exact C.2.2.2.2.2.2.1 q (Nat.le_trans hS.1 h3)
  exact ⟨rfl, by rw [hU], by rw [hU]; exact hP, va_K.moved hWm.alike C.2.2.2.2.2.1, hD.weaken (fun _ _ _ _ => trivial), hW, has, C.2.2.2.2.2.2.2.2.2.go hS hfree hWm hU⟩
set_option maxHeartbeats 1000000 in
theorem v_callV {r : Nat} {fs : List vFD} {T : u_T} {N : Nat} (hd : vD cc pc (.invokevirtual idx) 3 pc') (hl : vMl own idx y n) (hc : Cond.code y ccy nLy ret ∈ wt) (hM : vMet dy mc ms y ccy nLy ret (.ref r :: as) S σ RT) (hr : S[r]? = some (.inr (ci, fs))) (hci : vcl[ci]? = some (y.cls, T, N)) (hn : as.length = n) (hdp : dy + 1 ≤ d) (hnl : nLy ≤ 13) (hrm : (st.map fun v => v.category).sum ≤ 8) (hkc' : kc + mc ≤ MC) (hks' : ks + ms ≤ MS)
    (k : ∀ z S' σ', vRng ret z → RT z S' σ' → vV cx own cc nL d MC MS (kc + mc) (ks + ms) pc' L ((vRet ret z).toList ++ st) S' σ') : vV cx own cc nL d MC MS kc ks pc L (as.reverse ++ .ref r :: st) S σ := by
  obtain ⟨p, l, e, R, s, m, args, below, meth, c, Q, D, cA, A, ad0, n0⟩ := cx
  obtain ⟨hd, hpc⟩ := hd
  subst hpc
  intro C ad H locs ls hP hD hS hW hlo hL hst hkc hks hz7 hn7
  have hst1 : ∀ v ∈ st, vWfV S.length v := fun v hv => hst v (List.mem_append_right _ (List.mem_cons_of_mem _ hv))
  have has : ∀ v ∈ Value.ref r :: as, vWfV S.length v := vSt_cons (hst _ (List.mem_append_right _ List.mem_cons_self)) (fun v hv => hst v (List.mem_append_left _ (List.mem_reverse.mpr hv)))
  obtain ⟨l1, l2, l3, l4, l5, l6, l7⟩ := hl
  have hts := C.2.2.2.2.1
  obtain ⟨r1, r2, r3, r4⟩ := C.2.2.2.2.2.2.2.2.1
  refine v_run C hD hS hlo hL hst1 hz7 hn7 hkc' hks' (va_runV (As := as.map (vcv ad)) (b := ad r) (C := y.cls) (n := n) (bytes := ccy) (maxL := nLy) (ret := ret) ⟨C.1, C.2.1, C.2.2.1, C.2.2.2.1, hts⟩ (hM l D cA ad H.size) ⟨⟨rfl, rfl, (show dy + 1 ≤ R.frames by omega), (show 8 + (nLy + 11) + 32 * dy ≤ R.locals by omega), wt_pay hts hc, List.mem_cons_self, hts _ hc, hts _ l4, ⟨l5, l6⟩, vDesc l7, hts _ l1⟩, hts _ l2, hts _ l3⟩ ⟨vBlind, ?_, fun U hU hWm => vPre C hP hD hS hW has U hU hWm⟩ rfl (by rw [List.length_map]; exact hn) hlo.1 ?_ ?_ hd ⟨by omega, by omega⟩) k
  · exact va_recv C.2.2.2.2.2.1 hP hci (vWs_at hr)
  · show ((as.reverse ++ .ref r :: st).map (vcv ad)) = _
    rw [List.map_append, List.map_reverse, List.map_cons]
    rfl
  · rw [← vCat_sum ad] at hrm
    exact lv_room hrm
set_option maxHeartbeats 1000000 in
theorem v_callS (hd : vD cc pc (.invokestatic idx) 3 pc') (hl : vSl own idx y n) (hc : Cond.code y ccy nLy ret ∈ wt) (hM : vMet dy mc ms y ccy nLy ret as S σ RT) (hn : as.length = n) (hdp : dy + 1 ≤ d) (hnl : nLy ≤ 13) (hrm : (st.map fun v => v.category).sum ≤ 8) (hkc' : kc + mc ≤ MC) (hks' : ks + ms ≤ MS)
    (k : ∀ z S' σ', vRng ret z → RT z S' σ' → vV cx own cc nL d MC MS (kc + mc) (ks + ms) pc' L ((vRet ret z).toList ++ st) S' σ') : vV cx own cc nL d MC MS kc ks pc L (as.reverse ++ st) S σ := by
  obtain ⟨p, l, e, R, s, m, args, below, meth, c, Q, D, cA, A, ad0, n0⟩ := cx
  obtain ⟨hd, hpc⟩ := hd
  subst hpc
  intro C ad H locs ls hP hD hS hW hlo hL hst hkc hks hz7 hn7
  have hst1 : ∀ v ∈ st, vWfV S.length v := fun v hv => hst v (List.mem_append_right _ hv)
  have has : ∀ v ∈ as, vWfV S.length v := fun v hv => hst v (List.mem_append_left _ (List.mem_reverse.mpr hv))
  obtain ⟨l1, l2, l4, l5, l6, l7⟩ := hl
  have hts := C.2.2.2.2.1
  obtain ⟨r1, r2, r3, r4⟩ := C.2.2.2.2.2.2.2.2.1
  refine v_run C hD hS hlo hL hst1 hz7 hn7 hkc' hks' (va_runS (As := as.map (vcv ad)) (n := n) (bytes := ccy) (maxL := nLy) (ret := ret) ⟨C.1, C.2.1, C.2.2.1, C.2.2.2.1, hts⟩ (hM l D cA ad H.size) ⟨⟨rfl, rfl, (show dy + 1 ≤ R.frames by omega), (show 8 + (nLy + 11) + 32 * dy ≤ R.locals by omega), wt_pay hts hc, List.mem_cons_self, hts _ hc, hts _ l4, ⟨l5, l6⟩, vDesc l7, hts _ l1⟩, hts _ l2⟩ ⟨vBlind, fun U hU hWm => vPre C hP hD hS hW has U hU hWm⟩ rfl (by rw [List.length_map]; exact hn) hlo.1 ?_ ?_ hd ⟨by omega, by omega⟩) k
  · show ((as.reverse ++ st).map (vcv ad)) = _
    rw [List.map_append, List.map_reverse]
  · rw [← vCat_sum ad] at hrm
    exact lv_room hrm
set_option maxHeartbeats 1000000 in
theorem v_callI {r : Nat} (hd : vD cc pc (.invokespecial idx) 3 pc') (hl : vIl own idx y n) (hc : Cond.code y ccy nLy none ∈ wt) (hM : vMet dy mc ms y ccy nLy none (.ref r :: as) S σ RT) (hn : as.length = n) (hdp : dy + 1 ≤ d) (hnl : nLy ≤ 13) (hrm : (st.map fun v => v.category).sum ≤ 8) (hkc' : kc + mc ≤ MC) (hks' : ks + ms ≤ MS)
    (k : ∀ z S' σ', RT z S' σ' → vV cx own cc nL d MC MS (kc + mc) (ks + ms) pc' L st S' σ') : vV cx own cc nL d MC MS kc ks pc L (as.reverse ++ .ref r :: st) S σ := by
  obtain ⟨p, l, e, R, s, m, args, below, meth, c, Q, D, cA, A, ad0, n0⟩ := cx
  obtain ⟨hd, hpc⟩ := hd
  subst hpc
  intro C ad H locs ls hP hD hS hW hlo hL hst hkc hks hz7 hn7
  have hst1 : ∀ v ∈ st, vWfV S.length v := fun v hv => hst v (List.mem_append_right _ (List.mem_cons_of_mem _ hv))
  have has : ∀ v ∈ Value.ref r :: as, vWfV S.length v := vSt_cons (hst _ (List.mem_append_right _ List.mem_cons_self)) (fun v hv => hst v (List.mem_append_left _ (List.mem_reverse.mpr hv)))
  obtain ⟨l1, l2, l4, l3, l5, l6, l7⟩ := hl
  have hts := C.2.2.2.2.1
  obtain ⟨r1, r2, r3, r4⟩ := C.2.2.2.2.2.2.2.2.1
  refine v_run C hD hS hlo hL hst1 hz7 hn7 hkc' hks' (va_runI (As := as.map (vcv ad)) (b := ad r) (n := n) (bytes := ccy) (maxL := nLy) ⟨C.1, C.2.1, C.2.2.1, C.2.2.2.1, hts⟩ (hM l D cA ad H.size) ⟨⟨rfl, rfl, (show dy + 1 ≤ R.frames by omega), (show 8 + (nLy + 11) + 32 * dy ≤ R.locals by omega), wt_pay hts hc, List.mem_cons_self, hts _ hc, hts _ l4, ⟨l5, l6⟩, vDesc l7, hts _ l1⟩, l3, hts _ l2⟩ ⟨vBlind, fun U hU hWm => vPre C hP hD hS hW has U hU hWm⟩ rfl (by rw [List.length_map]; exact hn) hlo.1 ?_ ?_ hd ⟨by omega, by omega⟩) (fun z S' σ' _ h => k z S' σ' h)
  · show ((as.reverse ++ .ref r :: st).map (vcv ad)) = _
    rw [List.map_append, List.map_reverse, List.map_cons]
    rfl
  · rw [← vCat_sum ad] at hrm
    exact lv_room hrm
set_option maxHeartbeats 1000000 in
theorem v_callN {r : Nat} (hd : vD cc pc (.invokespecial idx) 3 pc') (hl : vNl own idx y n) (hc : Cond.code y ccy nLy none ∈ wt) (hM : vMet dy mc ms y ccy nLy none (.ref r :: as) S σ RT) (hn : as.length = n) (hdp : dy + 1 ≤ d) (hnl : nLy ≤ 13) (hrm : (st.map fun v => v.category).sum ≤ 8) (hkc' : kc + mc ≤ MC) (hks' : ks + ms ≤ MS)
    (k : ∀ z S' σ', RT z S' σ' → vV cx own cc nL d MC MS (kc + mc) (ks + ms) pc' L st S' σ') : vV cx own cc nL d MC MS kc ks pc L (as.reverse ++ .ref r :: st) S σ := by
  obtain ⟨p, l, e, R, s, m, args, below, meth, c, Q, D, cA, A, ad0, n0⟩ := cx
  obtain ⟨hd, hpc⟩ := hd
  subst hpc
  intro C ad H locs ls hP hD hS hW hlo hL hst hkc hks hz7 hn7
  have hst1 : ∀ v ∈ st, vWfV S.length v := fun v hv => hst v (List.mem_append_right _ (List.mem_cons_of_mem _ hv))
  have has : ∀ v ∈ Value.ref r :: as, vWfV S.length v := vSt_cons (hst _ (List.mem_append_right _ List.mem_cons_self)) (fun v hv => hst v (List.mem_append_left _ (List.mem_reverse.mpr hv)))
  obtain ⟨l1, l2, l4, l3, l5, l6, l7⟩ := hl
  have hts := C.2.2.2.2.1
  obtain ⟨r1, r2, r3, r4⟩ := C.2.2.2.2.2.2.2.2.1
  refine v_run C hD hS hlo hL hst1 hz7 hn7 hkc' hks' (va_runIN (As := as.map (vcv ad)) (b := ad r) (n := n) (bytes := ccy) (maxL := nLy) (host := "VillagePay") ⟨C.1, C.2.1, C.2.2.1, C.2.2.2.1, hts⟩ (hM l D cA ad H.size) ⟨⟨⟨rfl, rfl, (show dy + 1 ≤ R.frames by omega), (show 8 + (nLy + 11) + 32 * dy ≤ R.locals by omega), wt_pay hts hc, List.mem_cons_self⟩, hts _ hc, hts _ l4, ⟨l5, l6⟩, vDesc l7, va_Nw.use rfl (C.2.2.2.2.2.2.2.2.2.2.1 _ l1)⟩, l3, hts _ l2⟩ ⟨vBlind, fun U hU hWm => vPre C hP hD hS hW has U hU hWm⟩ rfl (by rw [List.length_map]; exact hn) hlo.1 ?_ ?_ hd ⟨by omega, by omega⟩) (fun z S' σ' _ h => k z S' σ' h)
  · show ((as.reverse ++ .ref r :: st).map (vcv ad)) = _
    rw [List.map_append, List.map_reverse, List.map_cons]
    rfl
  · rw [← vCat_sum ad] at hrm
    exact lv_room hrm

end
