def vWords (y : MethodName) (cc : ByteArray) (nL : Nat) (ret : Option FieldType) : List Cond := Cond.code y cc nL ret :: wt
def vRoom (d mc ms : Nat) : Room := { frames := d, cells := mc, slots := ms, locals := 32 * d }
def vRet (ret : Option FieldType) (z : Int) : Option Value := match ret with
  | none => none
  | some .long => some (.long (lI z))
  | some _ => some (.int (iI z))
def vRng (ret : Option FieldType) (z : Int) : Prop := match ret with
  | none => True
  | some .long => vInL z
  | some _ => vIn z
abbrev vRT : Type := Int → vSh → vMem → Prop
def vPc (D : va_G) (cA : Nat → ClassId) (ad : Nat → Nat) (as : List Value) (S : vSh) (σ : vMem) (sz : Nat) : Array Value → State → Prop :=
  va_Pc (as.map (vcv ad)) (fun U => U.heap.size = sz ∧ va_P D vcl (vWs cA ad S σ) U.heap ∧ va_K D vcl (vtys cA) U ∧ va_D (fun _ => True) (vWs cA ad S σ) ∧ vWf S σ ∧ (∀ v ∈ as, vWfV S.length v) ∧ vXt (va_A (vWs cA ad S σ) sz) U U.heap)
def vQc (D : va_G) (cA : Nat → ClassId) (ad : Nat → Nat) (S : vSh) (σ : vMem) (sz : Nat) (ret : Option FieldType) (RT : vRT) : Array Value → State → Outcome → State → Prop := fun _ s0 oc t =>
  (∃ (z : Int) (S' : vSh) (σ' : vMem) (ad' : Nat → Nat), oc = .returned (vRet ret z) ∧ vRng ret z ∧ RT z S' σ' ∧ (∀ k, k < S.length → ad' k = ad k) ∧ S.length ≤ S'.length ∧ va_P D vcl (vWs cA ad' S' σ') t.heap ∧ va_D (va_A (vWs cA ad S σ) sz) (vWs cA ad' S' σ') ∧ vWf S' σ') ∧ va_F (va_A (vWs cA ad S σ) sz) s0 t
/-- THE CONTRACT: with these values, in a heap of this shape and memory, the method returns, and RT tells what -/
def vMet (d mc ms : Nat) (y : MethodName) (cc : ByteArray) (nL : Nat) (ret : Option FieldType) (as : List Value) (S : vSh) (σ : vMem) (RT : vRT) : Prop :=
  ∀ (l : Launch) (D : va_G) (cA : Nat → ClassId) (ad : Nat → Nat) (sz : Nat), Met l y (vWords y cc nL ret) (vRoom d mc ms) (vPc D cA ad as S σ sz) (vQc D cA ad S σ sz ret RT) mc ms (va_A (vWs cA ad S σ) sz)
/-- what a method's own end wants -/
def vM (cx : vCx) (mc ms : Nat) (ret : Option FieldType) (RT : vRT) : Prop := match cx with
  | (_p, _l, _e, _R, s, _m, args, below, meth, _c, Q, D, cA, A, ad0, n0) => meth.sig.returnType = ret ∧ ∃ (S0 : vSh) (σ0 : vMem), n0 = S0.length ∧ A = va_A (vWs cA ad0 S0 σ0) s.heap.size ∧ Q = MQ below (vQc D cA ad0 S0 σ0 s.heap.size ret RT) args s mc ms (va_A (vWs cA ad0 S0 σ0) s.heap.size)
def vArgs : List Value → List (Option Value)
  | [] => []
  | v :: vs => if v.category = 2 then some v :: none :: vArgs vs else some v :: vArgs vs
theorem vArgs_mem (ad : Nat → Nat) : ∀ (as : List Value) (o i : Nat) (v : Value), (vArgs as)[i]? = some (some v) → (o + i, vcv ad v) ∈ lv_args o (as.map (vcv ad)) := by
  intro as
  induction as with
  | nil => intro o i v h; simp [vArgs] at h
  | cons w ws ih =>
    intro o i v h
    simp only [vArgs] at h
    simp only [List.map_cons, lv_args, vcv_cat]
    by_cases hc : w.category = 2
    · rw [if_pos hc] at h
      rw [if_pos hc]
      match i, h with
      | 0, h => cases h; exact List.mem_cons_self
      | 1, h => cases h
      | i + 2, h =>
        have := ih (o + 2) i v (by simpa using h)
        refine List.mem_cons_of_mem _ ?_
        rw [show o + (i + 2) = o + 2 + i by omega]
        exact this
    · rw [if_neg hc] at h
      rw [if_neg hc]
      match i, h with
      | 0, h => cases h; exact List.mem_cons_self
      | i + 1, h =>
        have := ih (o + 1) i v (by simpa using h)
        refine List.mem_cons_of_mem _ ?_
        rw [show o + (i + 1) = o + 1 + i by omega]
        exact this
theorem vArgs_wf {n : Nat} : ∀ (as : List Value), (∀ v ∈ as, vWfV n v) → ∀ (i : Nat) (v : Value), (vArgs as)[i]? = some (some v) → vWfV n v := by
  intro as
  induction as with
  | nil => intro _ i v h; simp [vArgs] at h
  | cons w ws ih =>
    intro hw i v h
    simp only [vArgs] at h
    by_cases hc : w.category = 2
    · rw [if_pos hc] at h
      match i, h with
      | 0, h => cases h; exact hw _ List.mem_cons_self
      | 1, h => cases h
      | i + 2, h => exact ih (vSt_tl hw) i v (by simpa using h)
    · rw [if_neg hc] at h
      match i, h with
      | 0, h => cases h; exact hw _ List.mem_cons_self
      | i + 1, h => exact ih (vSt_tl hw) i v (by simpa using h)
theorem vArgs_rep {as : List Value} {k i : Nat} {v : Value} (h : (vArgs as ++ List.replicate k none)[i]? = some (some v)) : (vArgs as)[i]? = some (some v) := by
  by_cases hi : i < (vArgs as).length
  · rwa [List.getElem?_append_left hi] at h
  · rw [List.getElem?_append_right (by omega), List.getElem?_replicate] at h
    split at h <;> cases h
theorem vBlind {D : va_G} {cA : Nat → ClassId} {ad : Nat → Nat} {as : List Value} {S : vSh} {σ : vMem} {sz : Nat} : FrameBlind (vPc D cA ad as S σ sz) := by
  intro a U g mk q
  obtain ⟨q0, q1, qP, qK, qD, qW, qA, qX⟩ := q
  exact ⟨q0, q1, qP, va_K.moved (u := U) (U := U.calling g mk a) (Vm.Alike.refl U.vm) qK, qD, qW, qA, qX.blind⟩
theorem wt_pay {s : State} {args : Array Value} {y : MethodName} {cc : ByteArray} {nL : Nat} {ret : Option FieldType} (hts : ∀ w ∈ wt, w.before args s = true) (hc : Cond.code y cc nL ret ∈ wt) : ∀ w ∈ vWords y cc nL ret, ∀ (a' : Array Value) (U : State), s.WarmedH U.vm → w.before a' U = true := by
  intro w hw a' U hW
  have hw' : w ∈ wt := by
    rcases List.mem_cons.mp hw with rfl | h
    · exact hc
    · exact h
  exact word_at hW (good_of_word (wt_good hw')) (hts w hw')
set_option maxHeartbeats 1000000 in
theorem vMet.intro {d mc ms nL : Nat} {y : MethodName} {cc : ByteArray} {ret : Option FieldType} {as : List Value} {S : vSh} {σ : vMem} {RT : vRT} (n : Nat) {L : List (Option Value)} (hy : plainName y.cls = true) (hn : (lg_sl as).length ≤ nL) (hL : vArgs as ++ List.replicate n none = L)
    (body : ∀ cx : vCx, vM cx mc ms ret RT → cx.2.2.2.2.2.2.2.2.1.name = y.name → vV cx y.cls cc nL d mc ms 0 0 0 L [] S σ) : vMet d mc ms y cc nL ret as S σ RT := by
  intro l D cA ad sz
  refine Met.ofW (cc := cc) (maxL := nL) (ret := ret) hy rfl ?_
  intro p e s m args below meth c s₁ B hml hv
  obtain ⟨rfl, hsz, hP, hK, hD0, hW, hA, hX⟩ := hv
  subst hsz
  have hts := atoms_spec (ws := vWords y cc nL ret) B.pre
  have hown : s.vm.findClass y.cls = some m.cls := findClass_of_methodNamed B.named
  have hin : meth.name = y.name := (name_of_methodNamed B.named B.method).1
  have hD := hD0.self (sz := s.heap.size)
  have hsl : (lg_sl (as.map (vcv ad))).length = (lg_sl as).length := by
    simp only [lg_sl, List.length_flatMap, List.map_map]
    congr 1
    apply List.map_congr_left
    intro v _
    simp only [Function.comp, vcv_cat]
    split <;> rfl
  have hl := lv_entry (as.map (vcv ad)) (n := nL) (by rw [hsl]; exact hn)
  rw [lg_entry_eq]
  generalize (lg_sl (as.map (vcv ad)) ++ List.replicate (nL - (lg_sl (as.map (vcv ad))).length) Slot.unset).toArray = ls at hl ⊢
  refine body (p, l, e, _, s, m, _, below, meth, c, _, D, cA, va_A (vWs cA ad S σ) s.heap.size, ad, S.length) ⟨B.returns, S, σ, rfl, rfl, rfl⟩ hin ?_ ad s.heap [] ls hP hD va_S.rf hW ⟨hl.1, hl.2.1, fun i v hi => ?_⟩ (fun i v hi => ?_) (fun v hv => by cases hv) (Nat.zero_le _) (Nat.zero_le _) (fun _ _ => rfl) (Nat.le_refl _)
  · exact ⟨B.exec, B.bytes, hml, hown, fun w hw => hts w (List.mem_cons_of_mem _ hw), hK, fun q h => Or.inr h, B.notSynchronized, ⟨Nat.le_refl _, Nat.le_refl _, Nat.le_refl _, Nat.le_refl _⟩, hX⟩
  · subst hL
    have := vArgs_mem ad as 0 i v (vArgs_rep hi)
    rw [Nat.zero_add] at this
    exact hl.2.2 _ this
  · subst hL
    exact vArgs_wf as hA i v (vArgs_rep hi)
section
variable {cx : vCx} {own : String} {cc : ByteArray} {nL d MC MS kc ks pc pc' : Nat} {L : List (Option Value)} {st : List Value} {S : vSh} {σ : vMem} {RT : vRT}
theorem v_ireturn {z : Int} (hM : vM cx MC MS (some .int) RT) (hd : vD cc pc (.ireturn) 1 pc') (hz0 : vIn z) (h : RT z S σ) : vV cx own cc nL d MC MS kc ks pc L [.int (iI z)] S σ := by
  obtain ⟨p, l, e, R, s, m, args, below, meth, c, Q, D, cA, A, ad0, n0⟩ := cx
  obtain ⟨hr, S0, σ0, rfl, rfl, rfl⟩ := hM
  intro C ad H locs ls hP hD hS hW hl hL hst hkc hks hz hn
  refine W.widen hkc hks ?_
  exact W.iret (hlocks := C.2.2.2.2.2.2.2.1) C.1 C.2.1 hr (fun t ht hWt => ⟨⟨z, S, σ, ad, rfl, hz0, h, hz, hn, by rw [ht]; exact hP, hD, hW⟩, hS.F ht⟩) hS.2.2 hd.1
theorem v_zreturn {z : Int} (hM : vM cx MC MS (some .boolean) RT) (hd : vD cc pc (.ireturn) 1 pc') (hz0 : z = 0 ∨ z = 1) (h : RT z S σ) : vV cx own cc nL d MC MS kc ks pc L [.int (iI z)] S σ := by
  obtain ⟨p, l, e, R, s, m, args, below, meth, c, Q, D, cA, A, ad0, n0⟩ := cx
  obtain ⟨hr, S0, σ0, rfl, rfl, rfl⟩ := hM
  intro C ad H locs ls hP hD hS hW hl hL hst hkc hks hz hn
  refine W.widen hkc hks ?_
  exact W.zret (hlocks := C.2.2.2.2.2.2.2.1) C.1 C.2.1 hr (by rcases hz0 with rfl | rfl <;> decide) (fun t ht hWt => ⟨⟨z, S, σ, ad, rfl, (show vIn z by omega), h, hz, hn, by rw [ht]; exact hP, hD, hW⟩, hS.F ht⟩) hS.2.2 hd.1
theorem v_lreturn {z : Int} (hM : vM cx MC MS (some .long) RT) (hd : vD cc pc (.lreturn) 1 pc') (hz0 : vInL z) (h : RT z S σ) : vV cx own cc nL d MC MS kc ks pc L [.long (lI z)] S σ := by
  obtain ⟨p, l, e, R, s, m, args, below, meth, c, Q, D, cA, A, ad0, n0⟩ := cx
  obtain ⟨hr, S0, σ0, rfl, rfl, rfl⟩ := hM
  intro C ad H locs ls hP hD hS hW hl hL hst hkc hks hz hn
  refine W.widen hkc hks ?_
  exact W.lret (hlocks := C.2.2.2.2.2.2.2.1) C.1 C.2.1 hr (fun t ht hWt => ⟨⟨z, S, σ, ad, rfl, hz0, h, hz, hn, by rw [ht]; exact hP, hD, hW⟩, hS.F ht⟩) hS.2.2 hd.1
theorem v_return (hM : vM cx MC MS none RT) (hd : vD cc pc (.return_) 1 pc') (h : RT 0 S σ) : vV cx own cc nL d MC MS kc ks pc L [] S σ := by
  obtain ⟨p, l, e, R, s, m, args, below, meth, c, Q, D, cA, A, ad0, n0⟩ := cx
  obtain ⟨hr, S0, σ0, rfl, rfl, rfl⟩ := hM
  intro C ad H locs ls hP hD hS hW hl hL hst hkc hks hz hn
  refine W.widen hkc hks ?_
  exact W.vret (hlocks := C.2.2.2.2.2.2.2.1) C.1 C.2.1 hr (fun t ht hWt => ⟨⟨0, S, σ, ad, rfl, trivial, h, hz, hn, by rw [ht]; exact hP, hD, hW⟩, hS.F ht⟩) hS.2.2 hd.1
end
