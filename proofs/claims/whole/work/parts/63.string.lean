abbrev yj_coder : MethodName := ⟨"java/lang/String", "coder", "()B"⟩
theorem kj_coder : Cond.code yj_coder prog_16_method_152_code 1 (some .byte) ∈ wt := wt_of (by decide +kernel) rfl
theorem ij_coder : Cond.initialized "java/lang/String" ∈ wt := wt_of (by decide +kernel) rfl
theorem mj_coder : Cond.instanceMethod yj_coder ∈ wt := wt_of (by decide +kernel) rfl
theorem sj_coder : Cond.selects "java/lang/String" yj_coder yj_coder ∈ wt := wt_of (by decide +kernel) rfl
abbrev yj_isLatin1 : MethodName := ⟨"java/lang/String", "isLatin1", "()Z"⟩
theorem kj_isLatin1 : Cond.code yj_isLatin1 prog_16_method_154_code 1 (some .boolean) ∈ wt := wt_of (by decide +kernel) rfl
theorem ij_isLatin1 : Cond.initialized "java/lang/String" ∈ wt := wt_of (by decide +kernel) rfl
theorem mj_isLatin1 : Cond.instanceMethod yj_isLatin1 ∈ wt := wt_of (by decide +kernel) rfl
theorem sj_isLatin1 : Cond.selects "java/lang/String" yj_isLatin1 yj_isLatin1 ∈ wt := wt_of (by decide +kernel) rfl
abbrev yj_length : MethodName := ⟨"java/lang/String", "length", "()I"⟩
theorem kj_length : Cond.code yj_length prog_16_method_54_code 1 (some .int) ∈ wt := wt_of (by decide +kernel) rfl
theorem ij_length : Cond.initialized "java/lang/String" ∈ wt := wt_of (by decide +kernel) rfl
theorem mj_length : Cond.instanceMethod yj_length ∈ wt := wt_of (by decide +kernel) rfl
theorem sj_length : Cond.selects "java/lang/String" yj_length yj_length ∈ wt := wt_of (by decide +kernel) rfl
abbrev yj_charAt : MethodName := ⟨"java/lang/String", "charAt", "(I)C"⟩
theorem kj_charAt : Cond.code yj_charAt prog_16_method_56_code 2 (some .char) ∈ wt := wt_of (by decide +kernel) rfl
theorem ij_charAt : Cond.initialized "java/lang/String" ∈ wt := wt_of (by decide +kernel) rfl
theorem mj_charAt : Cond.instanceMethod yj_charAt ∈ wt := wt_of (by decide +kernel) rfl
theorem sj_charAt : Cond.selects "java/lang/String" yj_charAt yj_charAt ∈ wt := wt_of (by decide +kernel) rfl
abbrev yj_chk : MethodName := ⟨"java/lang/String", "checkIndex", "(II)V"⟩
theorem kj_chk : Cond.code yj_chk prog_16_method_155_code 2 (none) ∈ wt := wt_of (by decide +kernel) rfl
theorem ij_chk : Cond.initialized "java/lang/String" ∈ wt := wt_of (by decide +kernel) rfl
theorem tj_chk : Cond.static yj_chk ∈ wt := wt_of (by decide +kernel) rfl
abbrev yj_lat : MethodName := ⟨"java/lang/StringLatin1", "charAt", "([BI)C"⟩
theorem kj_lat : Cond.code yj_lat prog_17_method_2_code 2 (some .char) ∈ wt := wt_of (by decide +kernel) rfl
theorem ij_lat : Cond.initialized "java/lang/StringLatin1" ∈ wt := wt_of (by decide +kernel) rfl
theorem tj_lat : Cond.static yj_lat ∈ wt := wt_of (by decide +kernel) rfl
abbrev yj_pre : MethodName := ⟨"jdk/internal/util/Preconditions", "checkIndex", "(IILjava/util/function/BiFunction;)I"⟩
theorem kj_pre : Cond.code yj_pre prog_21_method_11_code 3 (some .int) ∈ wt := wt_of (by decide +kernel) rfl
theorem ij_pre : Cond.initialized "jdk/internal/util/Preconditions" ∈ wt := wt_of (by decide +kernel) rfl
theorem tj_pre : Cond.static yj_pre ∈ wt := wt_of (by decide +kernel) rfl
theorem dj_coder_0 : decode prog_16_method_152_code 0 = .ok (.getstatic 38, 3) := by decide +kernel
theorem dj_coder_3 : decode prog_16_method_152_code 3 = .ok (.ifCond .eq 10, 3) := by decide +kernel
theorem dj_coder_6 : decode prog_16_method_152_code 6 = .ok (.aload_n 0, 1) := by decide +kernel
theorem dj_coder_7 : decode prog_16_method_152_code 7 = .ok (.getfield 15, 3) := by decide +kernel
theorem dj_coder_10 : decode prog_16_method_152_code 10 = .ok (.goto 4, 3) := by decide +kernel
theorem dj_coder_14 : decode prog_16_method_152_code 14 = .ok (.ireturn, 1) := by decide +kernel
theorem dj_isLatin1_0 : decode prog_16_method_154_code 0 = .ok (.getstatic 38, 3) := by decide +kernel
theorem dj_isLatin1_3 : decode prog_16_method_154_code 3 = .ok (.ifCond .eq 14, 3) := by decide +kernel
theorem dj_isLatin1_6 : decode prog_16_method_154_code 6 = .ok (.aload_n 0, 1) := by decide +kernel
theorem dj_isLatin1_7 : decode prog_16_method_154_code 7 = .ok (.getfield 15, 3) := by decide +kernel
theorem dj_isLatin1_10 : decode prog_16_method_154_code 10 = .ok (.ifCond .ne 7, 3) := by decide +kernel
theorem dj_isLatin1_13 : decode prog_16_method_154_code 13 = .ok (.iconst 1, 1) := by decide +kernel
theorem dj_isLatin1_14 : decode prog_16_method_154_code 14 = .ok (.goto 4, 3) := by decide +kernel
theorem dj_isLatin1_18 : decode prog_16_method_154_code 18 = .ok (.ireturn, 1) := by decide +kernel
theorem dj_length_0 : decode prog_16_method_54_code 0 = .ok (.aload_n 0, 1) := by decide +kernel
theorem dj_length_1 : decode prog_16_method_54_code 1 = .ok (.getfield 9, 3) := by decide +kernel
theorem dj_length_4 : decode prog_16_method_54_code 4 = .ok (.arraylength, 1) := by decide +kernel
theorem dj_length_5 : decode prog_16_method_54_code 5 = .ok (.aload_n 0, 1) := by decide +kernel
theorem dj_length_6 : decode prog_16_method_54_code 6 = .ok (.invokevirtual 335, 3) := by decide +kernel
theorem dj_length_9 : decode prog_16_method_54_code 9 = .ok (.ishr, 1) := by decide +kernel
theorem dj_length_10 : decode prog_16_method_54_code 10 = .ok (.ireturn, 1) := by decide +kernel
theorem dj_charAt_0 : decode prog_16_method_56_code 0 = .ok (.aload_n 0, 1) := by decide +kernel
theorem dj_charAt_1 : decode prog_16_method_56_code 1 = .ok (.invokevirtual 492, 3) := by decide +kernel
theorem dj_charAt_4 : decode prog_16_method_56_code 4 = .ok (.ifCond .eq 12, 3) := by decide +kernel
theorem dj_charAt_7 : decode prog_16_method_56_code 7 = .ok (.aload_n 0, 1) := by decide +kernel
theorem dj_charAt_8 : decode prog_16_method_56_code 8 = .ok (.getfield 9, 3) := by decide +kernel
theorem dj_charAt_11 : decode prog_16_method_56_code 11 = .ok (.iload_n 1, 1) := by decide +kernel
theorem dj_charAt_12 : decode prog_16_method_56_code 12 = .ok (.invokestatic 495, 3) := by decide +kernel
theorem dj_charAt_15 : decode prog_16_method_56_code 15 = .ok (.ireturn, 1) := by decide +kernel
theorem dj_chk_0 : decode prog_16_method_155_code 0 = .ok (.iload_n 0, 1) := by decide +kernel
theorem dj_chk_1 : decode prog_16_method_155_code 1 = .ok (.iload_n 1, 1) := by decide +kernel
theorem dj_chk_2 : decode prog_16_method_155_code 2 = .ok (.getstatic 1053, 3) := by decide +kernel
theorem dj_chk_5 : decode prog_16_method_155_code 5 = .ok (.invokestatic 1059, 3) := by decide +kernel
theorem dj_chk_8 : decode prog_16_method_155_code 8 = .ok (.pop, 1) := by decide +kernel
theorem dj_chk_9 : decode prog_16_method_155_code 9 = .ok (.return_, 1) := by decide +kernel
theorem dj_lat_0 : decode prog_17_method_2_code 0 = .ok (.iload_n 1, 1) := by decide +kernel
theorem dj_lat_1 : decode prog_17_method_2_code 1 = .ok (.aload_n 0, 1) := by decide +kernel
theorem dj_lat_2 : decode prog_17_method_2_code 2 = .ok (.arraylength, 1) := by decide +kernel
theorem dj_lat_3 : decode prog_17_method_2_code 3 = .ok (.invokestatic 9, 3) := by decide +kernel
theorem dj_lat_6 : decode prog_17_method_2_code 6 = .ok (.aload_n 0, 1) := by decide +kernel
theorem dj_lat_7 : decode prog_17_method_2_code 7 = .ok (.iload_n 1, 1) := by decide +kernel
theorem dj_lat_8 : decode prog_17_method_2_code 8 = .ok (.baload, 1) := by decide +kernel
theorem dj_lat_9 : decode prog_17_method_2_code 9 = .ok (.sipush 255, 3) := by decide +kernel
theorem dj_lat_12 : decode prog_17_method_2_code 12 = .ok (.iand, 1) := by decide +kernel
theorem dj_lat_13 : decode prog_17_method_2_code 13 = .ok (.i2c, 1) := by decide +kernel
theorem dj_lat_14 : decode prog_17_method_2_code 14 = .ok (.ireturn, 1) := by decide +kernel
theorem dj_pre_0 : decode prog_21_method_11_code 0 = .ok (.iload_n 0, 1) := by decide +kernel
theorem dj_pre_1 : decode prog_21_method_11_code 1 = .ok (.ifCond .lt 8, 3) := by decide +kernel
theorem dj_pre_4 : decode prog_21_method_11_code 4 = .ok (.iload_n 0, 1) := by decide +kernel
theorem dj_pre_5 : decode prog_21_method_11_code 5 = .ok (.iload_n 1, 1) := by decide +kernel
theorem dj_pre_6 : decode prog_21_method_11_code 6 = .ok (.if_icmp .lt 10, 3) := by decide +kernel
theorem dj_pre_16 : decode prog_21_method_11_code 16 = .ok (.iload_n 0, 1) := by decide +kernel
theorem dj_pre_17 : decode prog_21_method_11_code 17 = .ok (.ireturn, 1) := by decide +kernel
theorem fj_cs : Cond.fieldLink "java/lang/String" 38 "java/lang/String" "COMPACT_STRINGS" "Z" ∈ wt := wt_of (by decide +kernel) rfl
theorem fj_co : Cond.fieldLink "java/lang/String" 15 "java/lang/String" "coder" "B" ∈ wt := wt_of (by decide +kernel) rfl
theorem fj_va : Cond.fieldLink "java/lang/String" 9 "java/lang/String" "value" "[B" ∈ wt := wt_of (by decide +kernel) rfl
theorem fj_si : Cond.fieldLink "java/lang/String" 1053 "jdk/internal/util/Preconditions" "SIOOBE_FORMATTER" "Ljava/util/function/BiFunction;" ∈ wt := wt_of (by decide +kernel) rfl
theorem lj_coder : Cond.methodLink "java/lang/String" 335 yj_coder ∈ wt := wt_of (by decide +kernel) rfl
theorem lj_isLatin1 : Cond.methodLink "java/lang/String" 492 yj_isLatin1 ∈ wt := wt_of (by decide +kernel) rfl
theorem lj_lat : Cond.methodLink "java/lang/String" 495 yj_lat ∈ wt := wt_of (by decide +kernel) rfl
theorem lj_chk : Cond.methodLink "java/lang/StringLatin1" 9 yj_chk ∈ wt := wt_of (by decide +kernel) rfl
theorem lj_pre : Cond.methodLink "java/lang/String" 1059 yj_pre ∈ wt := wt_of (by decide +kernel) rfl
theorem lj_length : Cond.methodLink "VillagePay$Reader" 128 yj_length ∈ wt := wt_of (by decide +kernel) rfl
theorem lj_charAt : Cond.methodLink "VillagePay$Reader" 133 yj_charAt ∈ wt := wt_of (by decide +kernel) rfl
def jS (adK adV : Nat → Nat) (A : Nat → Prop) (U : State) (H : Heap) : Prop := vk_S 1 [77] [vTb] adK adV A U H ∧ va_Z "java/lang/String" "COMPACT_STRINGS" "Z" (.int 1) A U H ∧ va_Zq "jdk/internal/util/Preconditions" "SIOOBE_FORMATTER" "Ljava/util/function/BiFunction;" A U H
theorem jS.to {adK adV : Nat → Nat} {A : Nat → Prop} {s U : State} {H : Heap} {locs : List Loc} (h : jS adK adV A s s.heap) (hS : va_S A s.heap H locs) (hU : U.heap = H) (hW : s.WarmedH U.vm) : jS adK adV A U U.heap := by
  rw [hU]
  exact ⟨(h.1.kept hS.2.1).moved hW.alike, (h.2.1.kept hS.2.1).moved hW.alike, (h.2.2.kept hS.2.1).moved hW.alike⟩
def jPc (av : List Value) (adK adV : Nat → Nat) (A : Nat → Prop) : Array Value → State → Prop := va_Pc av (fun U => jS adK adV A U U.heap)
def jQc (r : Option Value) : Array Value → State → Outcome → State → Prop := fun _ s0 oc t => oc = .returned r ∧ t.heap = s0.heap
theorem jBlind {av : List Value} {adK adV : Nat → Nat} {A : Nat → Prop} : FrameBlind (jPc av adK adV A) := by
  intro a U g mk q
  obtain ⟨q0, q1, q2, q3⟩ := q
  exact ⟨q0, q1.moved (Vm.Alike.refl U.vm), q2.moved (Vm.Alike.refl U.vm), q3.moved (Vm.Alike.refl U.vm)⟩
abbrev jM (l : Launch) (y : MethodName) (cc : ByteArray) (nL : Nat) (ret : Option FieldType) (d : Nat) (av : List Value) (adK adV : Nat → Nat) (A : Nat → Prop) (r : Option Value) : Prop := Met l y (vWords y cc nL ret) (vRoom d 0 0) (jPc av adK adV A) (jQc r) 0 0 (fun _ => False)
section
variable {p : Program} {l : Launch} {e : Env} {R : Room} {s : State} {m : MethodId} {args : Array Value} {below : List Frame} {meth : Method} {c : Code} {H : Heap} {locs : List Loc} {kc ks : Nat} {Q : State → Prop} {cc ccy : ByteArray} {pc nL nLy dy idx n : Nat} {ls : Array Slot} {rest : List Value} {adK adV : Nat → Nat} {A : Nat → Prop} {own : String} {y : MethodName} {ret : Option FieldType} {r : Option Value} {As : List Value} {b : Nat}
theorem j_back {st0 : List Value} {a : Array Value} (hr : va_Run p l e R s m args below meth c H locs kc ks 0 0 (F0 m pc ls st0) rest (jQc r a) (fun _ => False)) (k : W p l e R s m args below meth c H locs kc ks Q (F0 m (pc + 3) ls (r.toList ++ rest))) : W p l e R s m args below meth c H locs kc ks Q (F0 m pc ls st0) := by
  intro T hT X
  obtain ⟨v, st₀, t, T', L', h0, X', hL', e1, e2, ⟨hv, hh⟩, stp⟩ := hr T hT X
  cases hv
  have hL0 : L' = [] := List.eq_nil_iff_forall_not_mem.mpr (fun q hq => hL' q hq)
  subst hL0
  rw [List.append_nil] at X'
  obtain ⟨t2, a1, b1⟩ := k T' (by rw [e1, hh, h0]) X'
  exact ⟨t2, stp t2 a1, b1⟩
theorem j_callV (hx : p.tables.exec = Jvm.exec) (hb : c.code = cc) (hml : c.maxLocals = nL) (hsz : ls.size = nL) (hown : s.vm.findClass own = some m.cls) (hwt : ∀ w ∈ wt, w.before args s = true) (hf : dy + 1 ≤ R.frames) (hlo : 8 + (nLy + 11) + 32 * dy ≤ R.locals) (hkc : kc ≤ R.cells ∧ ks ≤ R.slots) (hM : jM l y ccy nLy ret dy (.ref b :: As) adK adV A r) (h1 : Cond.methodLink own idx y ∈ wt) (h2 : Cond.instanceMethod y ∈ wt) (h3 : Cond.selects y.cls y y ∈ wt) (h4 : Cond.initialized y.cls ∈ wt) (hc : Cond.code y ccy nLy ret ∈ wt) (h5 : y.cls ≠ "java/lang/invoke/MethodHandle" ∧ y.cls ≠ "java/lang/invoke/VarHandle") (h7 : (parseMethodDescriptor y.desc).map (fun d => d.parameters.length) = some n) (hn : As.length = n) (hrc : ∃ cell : Cell, H[b]? = some cell ∧ cell.vm.isStatics = false ∧ s.vm.findClass y.cls = some cell.cls) (hJ : jS adK adV A s s.heap) (hS : va_S A s.heap H locs) (hrm : (rest.map fun v => v.category).sum ≤ 8) (hdg : decode cc pc = .ok (.invokevirtual idx, 3)) (k : W p l e R s m args below meth c H locs kc ks Q (F0 m (pc + 3) ls (r.toList ++ rest))) : W p l e R s m args below meth c H locs kc ks Q (F0 m pc ls (As.reverse ++ .ref b :: rest)) :=
  j_back (va_runV (As := As) (b := b) (C := y.cls) (n := n) (bytes := ccy) (maxL := nLy) (ret := ret) ⟨hx, hb, hml, hown, hwt⟩ hM ⟨⟨rfl, rfl, hf, hlo, wt_pay hwt hc, List.mem_cons_self, hwt _ hc, hwt _ h4, h5, vDesc h7, hwt _ h1⟩, hwt _ h2, hwt _ h3⟩ ⟨jBlind, hrc, fun U hU hWm => ⟨rfl, hJ.to hS hU hWm⟩⟩ rfl hn hsz rfl (lv_room hrm) hdg ⟨by omega, by omega⟩) k
theorem j_callS (hx : p.tables.exec = Jvm.exec) (hb : c.code = cc) (hml : c.maxLocals = nL) (hsz : ls.size = nL) (hown : s.vm.findClass own = some m.cls) (hwt : ∀ w ∈ wt, w.before args s = true) (hf : dy + 1 ≤ R.frames) (hlo : 8 + (nLy + 11) + 32 * dy ≤ R.locals) (hkc : kc ≤ R.cells ∧ ks ≤ R.slots) (hM : jM l y ccy nLy ret dy As adK adV A r) (h1 : Cond.methodLink own idx y ∈ wt) (h2 : Cond.static y ∈ wt) (h4 : Cond.initialized y.cls ∈ wt) (hc : Cond.code y ccy nLy ret ∈ wt) (h5 : y.cls ≠ "java/lang/invoke/MethodHandle" ∧ y.cls ≠ "java/lang/invoke/VarHandle") (h7 : (parseMethodDescriptor y.desc).map (fun d => d.parameters.length) = some n) (hn : As.length = n) (hJ : jS adK adV A s s.heap) (hS : va_S A s.heap H locs) (hrm : (rest.map fun v => v.category).sum ≤ 8) (hdg : decode cc pc = .ok (.invokestatic idx, 3)) (k : W p l e R s m args below meth c H locs kc ks Q (F0 m (pc + 3) ls (r.toList ++ rest))) : W p l e R s m args below meth c H locs kc ks Q (F0 m pc ls (As.reverse ++ rest)) :=
  j_back (va_runS (As := As) (n := n) (bytes := ccy) (maxL := nLy) (ret := ret) ⟨hx, hb, hml, hown, hwt⟩ hM ⟨⟨rfl, rfl, hf, hlo, wt_pay hwt hc, List.mem_cons_self, hwt _ hc, hwt _ h4, h5, vDesc h7, hwt _ h1⟩, hwt _ h2⟩ ⟨jBlind, fun U hU hWm => ⟨rfl, hJ.to hS hU hWm⟩⟩ rfl hn hsz rfl (lv_room hrm) hdg ⟨by omega, by omega⟩) k
end
theorem jm_coder {l : Launch} {adK adV : Nat → Nat} {A : Nat → Prop} : jM l yj_coder prog_16_method_152_code 1 (some .byte) 0 [.ref (adK 0)] adK adV A (some (.int 0)) := by
  refine Met.ofW (cc := prog_16_method_152_code) (maxL := 1) (ret := some .byte) (by decide +kernel) rfl ?_
  intro p e s m args below meth c s₁ B hml hv
  obtain ⟨rfl, hJ⟩ := hv
  have hts := atoms_spec (ws := vWords yj_coder prog_16_method_152_code 1 (some .byte)) B.pre
  have hwt : ∀ w ∈ wt, w.before _ s = true := fun w hw => hts w (List.mem_cons_of_mem _ hw)
  have hown : s.vm.findClass "java/lang/String" = some m.cls := findClass_of_methodNamed B.named
  have hl := lv_entry ([.ref (adK 0)] : List Value) (n := 1) (Nat.le_of_ble_eq_true rfl)
  rw [lg_entry_eq]
  generalize (lg_sl ([.ref (adK 0)] : List Value) ++ List.replicate (1 - (lg_sl ([.ref (adK 0)] : List Value)).length) Slot.unset).toArray = ls at hl ⊢
  have hl : lv_has ls 1 [(0, .ref (adK 0))] := hl
  have hS : va_S A s.heap s.heap [] := va_S.rf
  have hx := B.exec
  have hb := B.bytes
  obtain ⟨hO, hCo, hVa, hT⟩ := hJ.1.1 0 (by decide)
  refine va_gets hx hb hJ.2.1 hS hown (hwt _ fj_cs) (fun _ h => h) dj_coder_0 ?_
  refine lv_if_eq (tgt := 13) hx hb dj_coder_3 rfl (fun h => absurd h (by decide)) (fun _ => ?_)
  refine lv_aload_n hx hb dj_coder_6 rfl (lv_at hl 0 rfl) ?_
  refine vk_getf hx hb hCo hS hown (hwt _ fj_co) (fun _ h => h) dj_coder_7 ?_
  refine lv_goto (tgt := 14) hx hb dj_coder_10 rfl ?_
  exact W.zret (hlocks := B.notSynchronized) hx hb B.returns (by decide) (fun t ht _ => ⟨rfl, ht⟩) (fun q hq => by cases hq) dj_coder_14
theorem jm_isLatin1 {l : Launch} {adK adV : Nat → Nat} {A : Nat → Prop} : jM l yj_isLatin1 prog_16_method_154_code 1 (some .boolean) 0 [.ref (adK 0)] adK adV A (some (.int 1)) := by
  refine Met.ofW (cc := prog_16_method_154_code) (maxL := 1) (ret := some .boolean) (by decide +kernel) rfl ?_
  intro p e s m args below meth c s₁ B hml hv
  obtain ⟨rfl, hJ⟩ := hv
  have hts := atoms_spec (ws := vWords yj_isLatin1 prog_16_method_154_code 1 (some .boolean)) B.pre
  have hwt : ∀ w ∈ wt, w.before _ s = true := fun w hw => hts w (List.mem_cons_of_mem _ hw)
  have hown : s.vm.findClass "java/lang/String" = some m.cls := findClass_of_methodNamed B.named
  have hl := lv_entry ([.ref (adK 0)] : List Value) (n := 1) (Nat.le_of_ble_eq_true rfl)
  rw [lg_entry_eq]
  generalize (lg_sl ([.ref (adK 0)] : List Value) ++ List.replicate (1 - (lg_sl ([.ref (adK 0)] : List Value)).length) Slot.unset).toArray = ls at hl ⊢
  have hl : lv_has ls 1 [(0, .ref (adK 0))] := hl
  have hS : va_S A s.heap s.heap [] := va_S.rf
  have hx := B.exec
  have hb := B.bytes
  obtain ⟨hO, hCo, hVa, hT⟩ := hJ.1.1 0 (by decide)
  refine va_gets hx hb hJ.2.1 hS hown (hwt _ fj_cs) (fun _ h => h) dj_isLatin1_0 ?_
  refine lv_if_eq (tgt := 17) hx hb dj_isLatin1_3 rfl (fun h => absurd h (by decide)) (fun _ => ?_)
  refine lv_aload_n hx hb dj_isLatin1_6 rfl (lv_at hl 0 rfl) ?_
  refine vk_getf hx hb hCo hS hown (hwt _ fj_co) (fun _ h => h) dj_isLatin1_7 ?_
  refine lv_if_ne (tgt := 17) hx hb dj_isLatin1_10 rfl (fun h => absurd rfl h) (fun _ => ?_)
  refine lv_iconst (v := 1) hx hb dj_isLatin1_13 (by decide) ?_
  refine lv_goto (tgt := 18) hx hb dj_isLatin1_14 rfl ?_
  exact W.zret (hlocks := B.notSynchronized) hx hb B.returns (by decide) (fun t ht _ => ⟨rfl, ht⟩) (fun q hq => by cases hq) dj_isLatin1_18
theorem jm_length {l : Launch} {adK adV : Nat → Nat} {A : Nat → Prop} : jM l yj_length prog_16_method_54_code 1 (some .int) 1 [.ref (adK 0)] adK adV A (some (.int 77)) := by
  refine Met.ofW (cc := prog_16_method_54_code) (maxL := 1) (ret := some .int) (by decide +kernel) rfl ?_
  intro p e s m args below meth c s₁ B hml hv
  obtain ⟨rfl, hJ⟩ := hv
  have hts := atoms_spec (ws := vWords yj_length prog_16_method_54_code 1 (some .int)) B.pre
  have hwt : ∀ w ∈ wt, w.before _ s = true := fun w hw => hts w (List.mem_cons_of_mem _ hw)
  have hown : s.vm.findClass "java/lang/String" = some m.cls := findClass_of_methodNamed B.named
  have hl := lv_entry ([.ref (adK 0)] : List Value) (n := 1) (Nat.le_of_ble_eq_true rfl)
  rw [lg_entry_eq]
  generalize (lg_sl ([.ref (adK 0)] : List Value) ++ List.replicate (1 - (lg_sl ([.ref (adK 0)] : List Value)).length) Slot.unset).toArray = ls at hl ⊢
  have hl : lv_has ls 1 [(0, .ref (adK 0))] := hl
  have hS : va_S A s.heap s.heap [] := va_S.rf
  have hx := B.exec
  have hb := B.bytes
  obtain ⟨hO, hCo, hVa, hT⟩ := hJ.1.1 0 (by decide)
  refine lv_aload_n hx hb dj_length_0 rfl (lv_at hl 0 rfl) ?_
  refine vk_getf hx hb hVa hS hown (hwt _ fj_va) (fun _ h => h) dj_length_1 ?_
  refine va_tlen hx hb hT hS (v := 77) rfl dj_length_4 ?_
  refine lv_aload_n hx hb dj_length_5 rfl (lv_at hl 0 rfl) ?_
  refine j_callV (As := []) (nL := 1) hx hb hml hl.1 hown hwt (Nat.le_of_ble_eq_true rfl) (Nat.le_of_ble_eq_true rfl) ⟨(Nat.le_of_ble_eq_true rfl), (Nat.le_of_ble_eq_true rfl)⟩ jm_coder lj_coder mj_coder sj_coder ij_coder kj_coder (by decide) (by decide +kernel) rfl (vk_recv hJ.1 (by decide) hS) hJ hS (Nat.le_of_ble_eq_true rfl) dj_length_6 ?_
  refine lv_ishr hx hb dj_length_9 ?_
  rw [show (77 : Int32) >>> ((0 : Int32) &&& 31) = 77 by decide]
  exact W.iret (hlocks := B.notSynchronized) hx hb B.returns (fun t ht _ => ⟨rfl, ht⟩) (fun q hq => by cases hq) dj_length_10
theorem jm_pren {l : Launch} {adK adV : Nat → Nat} {A : Nat → Prop} {i n : Int32} (hi : ¬ i < 0) (hn : i < n) : jM l yj_pre prog_21_method_11_code 3 (some .int) 0 [.int i, .int n, .null] adK adV A (some (.int i)) := by
  refine Met.ofW (cc := prog_21_method_11_code) (maxL := 3) (ret := some .int) (by decide +kernel) rfl ?_
  intro p e s m args below meth c s₁ B hml hv
  obtain ⟨rfl, hJ⟩ := hv
  have hts := atoms_spec (ws := vWords yj_pre prog_21_method_11_code 3 (some .int)) B.pre
  have hwt : ∀ w ∈ wt, w.before _ s = true := fun w hw => hts w (List.mem_cons_of_mem _ hw)
  have hown : s.vm.findClass "jdk/internal/util/Preconditions" = some m.cls := findClass_of_methodNamed B.named
  have hl := lv_entry ([.int i, .int n, .null] : List Value) (n := 3) (Nat.le_of_ble_eq_true rfl)
  rw [lg_entry_eq]
  generalize (lg_sl ([.int i, .int n, .null] : List Value) ++ List.replicate (3 - (lg_sl ([.int i, .int n, .null] : List Value)).length) Slot.unset).toArray = ls at hl ⊢
  have hl : lv_has ls 3 [(0, .int i), (1, .int n), (2, .null)] := hl
  have hS : va_S A s.heap s.heap [] := va_S.rf
  have hx := B.exec
  have hb := B.bytes
  obtain ⟨hO, hCo, hVa, hT⟩ := hJ.1.1 0 (by decide)
  refine lv_iload_n hx hb dj_pre_0 rfl (lv_at hl 0 rfl) ?_
  refine lv_if_lt (tgt := 9) hx hb dj_pre_1 rfl (fun h => absurd h hi) (fun _ => ?_)
  refine lv_iload_n hx hb dj_pre_4 rfl (lv_at hl 0 rfl) ?_
  refine lv_iload_n hx hb dj_pre_5 rfl (lv_at hl 1 rfl) ?_
  refine lv_icmp_lt (tgt := 16) hx hb dj_pre_6 rfl (fun _ => ?_) (fun h => absurd hn h)
  refine lv_iload_n hx hb dj_pre_16 rfl (lv_at hl 0 rfl) ?_
  exact W.iret (hlocks := B.notSynchronized) hx hb B.returns (fun t ht _ => ⟨rfl, ht⟩) (fun q hq => by cases hq) dj_pre_17
theorem jm_prer {l : Launch} {adK adV : Nat → Nat} {A : Nat → Prop} {i n : Int32} {t : Nat} (hi : ¬ i < 0) (hn : i < n) : jM l yj_pre prog_21_method_11_code 3 (some .int) 0 [.int i, .int n, .ref t] adK adV A (some (.int i)) := by
  refine Met.ofW (cc := prog_21_method_11_code) (maxL := 3) (ret := some .int) (by decide +kernel) rfl ?_
  intro p e s m args below meth c s₁ B hml hv
  obtain ⟨rfl, hJ⟩ := hv
  have hts := atoms_spec (ws := vWords yj_pre prog_21_method_11_code 3 (some .int)) B.pre
  have hwt : ∀ w ∈ wt, w.before _ s = true := fun w hw => hts w (List.mem_cons_of_mem _ hw)
  have hown : s.vm.findClass "jdk/internal/util/Preconditions" = some m.cls := findClass_of_methodNamed B.named
  have hl := lv_entry ([.int i, .int n, .ref t] : List Value) (n := 3) (Nat.le_of_ble_eq_true rfl)
  rw [lg_entry_eq]
  generalize (lg_sl ([.int i, .int n, .ref t] : List Value) ++ List.replicate (3 - (lg_sl ([.int i, .int n, .ref t] : List Value)).length) Slot.unset).toArray = ls at hl ⊢
  have hl : lv_has ls 3 [(0, .int i), (1, .int n), (2, .ref t)] := hl
  have hS : va_S A s.heap s.heap [] := va_S.rf
  have hx := B.exec
  have hb := B.bytes
  obtain ⟨hO, hCo, hVa, hT⟩ := hJ.1.1 0 (by decide)
  refine lv_iload_n hx hb dj_pre_0 rfl (lv_at hl 0 rfl) ?_
  refine lv_if_lt (tgt := 9) hx hb dj_pre_1 rfl (fun h => absurd h hi) (fun _ => ?_)
  refine lv_iload_n hx hb dj_pre_4 rfl (lv_at hl 0 rfl) ?_
  refine lv_iload_n hx hb dj_pre_5 rfl (lv_at hl 1 rfl) ?_
  refine lv_icmp_lt (tgt := 16) hx hb dj_pre_6 rfl (fun _ => ?_) (fun h => absurd hn h)
  refine lv_iload_n hx hb dj_pre_16 rfl (lv_at hl 0 rfl) ?_
  exact W.iret (hlocks := B.notSynchronized) hx hb B.returns (fun t ht _ => ⟨rfl, ht⟩) (fun q hq => by cases hq) dj_pre_17
theorem jm_chk {l : Launch} {adK adV : Nat → Nat} {A : Nat → Prop} {i n : Int32} (hi : ¬ i < 0) (hn : i < n) : jM l yj_chk prog_16_method_155_code 2 (none) 1 [.int i, .int n] adK adV A (none) := by
  refine Met.ofW (cc := prog_16_method_155_code) (maxL := 2) (ret := none) (by decide +kernel) rfl ?_
  intro p e s m args below meth c s₁ B hml hv
  obtain ⟨rfl, hJ⟩ := hv
  have hts := atoms_spec (ws := vWords yj_chk prog_16_method_155_code 2 (none)) B.pre
  have hwt : ∀ w ∈ wt, w.before _ s = true := fun w hw => hts w (List.mem_cons_of_mem _ hw)
  have hown : s.vm.findClass "java/lang/String" = some m.cls := findClass_of_methodNamed B.named
  have hl := lv_entry ([.int i, .int n] : List Value) (n := 2) (Nat.le_of_ble_eq_true rfl)
  rw [lg_entry_eq]
  generalize (lg_sl ([.int i, .int n] : List Value) ++ List.replicate (2 - (lg_sl ([.int i, .int n] : List Value)).length) Slot.unset).toArray = ls at hl ⊢
  have hl : lv_has ls 2 [(0, .int i), (1, .int n)] := hl
  have hS : va_S A s.heap s.heap [] := va_S.rf
  have hx := B.exec
  have hb := B.bytes
  obtain ⟨hO, hCo, hVa, hT⟩ := hJ.1.1 0 (by decide)
  refine lv_iload_n hx hb dj_chk_0 rfl (lv_at hl 0 rfl) ?_
  refine lv_iload_n hx hb dj_chk_1 rfl (lv_at hl 1 rfl) ?_
  rcases hJ.2.2 with hz | ⟨t, hz⟩
  · refine va_gets hx hb hz hS hown (hwt _ fj_si) (fun _ h => h) dj_chk_2 ?_
    refine j_callS (As := [.int i, .int n, .null]) (n := 3) (nL := 2) hx hb hml hl.1 hown hwt (Nat.le_of_ble_eq_true rfl) (Nat.le_of_ble_eq_true rfl) ⟨(Nat.le_of_ble_eq_true rfl), (Nat.le_of_ble_eq_true rfl)⟩ (jm_pren hi hn) lj_pre tj_pre ij_pre kj_pre (by decide) (by decide +kernel) rfl hJ hS (Nat.le_of_ble_eq_true rfl) dj_chk_5 ?_
    refine lv_pop hx hb dj_chk_8 rfl ?_
    exact W.vret (hlocks := B.notSynchronized) hx hb B.returns (fun t ht _ => ⟨rfl, ht⟩) (fun q hq => by cases hq) dj_chk_9
  · refine va_gets hx hb hz hS hown (hwt _ fj_si) (fun _ h => h) dj_chk_2 ?_
    refine j_callS (As := [.int i, .int n, .ref t]) (n := 3) (nL := 2) hx hb hml hl.1 hown hwt (Nat.le_of_ble_eq_true rfl) (Nat.le_of_ble_eq_true rfl) ⟨(Nat.le_of_ble_eq_true rfl), (Nat.le_of_ble_eq_true rfl)⟩ (jm_prer hi hn) lj_pre tj_pre ij_pre kj_pre (by decide) (by decide +kernel) rfl hJ hS (Nat.le_of_ble_eq_true rfl) dj_chk_5 ?_
    refine lv_pop hx hb dj_chk_8 rfl ?_
    exact W.vret (hlocks := B.notSynchronized) hx hb B.returns (fun t ht _ => ⟨rfl, ht⟩) (fun q hq => by cases hq) dj_chk_9
theorem WL_c : ∀ k : Nat, k < 77 → ((vTb.getD k 0 &&& 255).toUInt32 % 65536).toInt32 = iI (WL.getD k 0) ∧ narrow .char (.int (iI (WL.getD k 0))) = .int (iI (WL.getD k 0)) := by decide +kernel
theorem jm_lat {l : Launch} {adK adV : Nat → Nat} {A : Nat → Prop} {i : Int} (hi : 0 ≤ i ∧ i < 77) : jM l yj_lat prog_17_method_2_code 2 (some .char) 2 [.ref (adV 0), .int (iI i)] adK adV A (some (.int (iI (WL.getD i.toNat 0)))) := by
  refine Met.ofW (cc := prog_17_method_2_code) (maxL := 2) (ret := some .char) (by decide +kernel) rfl ?_
  intro p e s m args below meth c s₁ B hml hv
  obtain ⟨rfl, hJ⟩ := hv
  have hts := atoms_spec (ws := vWords yj_lat prog_17_method_2_code 2 (some .char)) B.pre
  have hwt : ∀ w ∈ wt, w.before _ s = true := fun w hw => hts w (List.mem_cons_of_mem _ hw)
  have hown : s.vm.findClass "java/lang/StringLatin1" = some m.cls := findClass_of_methodNamed B.named
  have hl := lv_entry ([.ref (adV 0), .int (iI i)] : List Value) (n := 2) (Nat.le_of_ble_eq_true rfl)
  rw [lg_entry_eq]
  generalize (lg_sl ([.ref (adV 0), .int (iI i)] : List Value) ++ List.replicate (2 - (lg_sl ([.ref (adV 0), .int (iI i)] : List Value)).length) Slot.unset).toArray = ls at hl ⊢
  have hl : lv_has ls 2 [(0, .ref (adV 0)), (1, .int (iI i))] := hl
  have hS : va_S A s.heap s.heap [] := va_S.rf
  have hx := B.exec
  have hb := B.bytes
  obtain ⟨hO, hCo, hVa, hT⟩ := hJ.1.1 0 (by decide)
  have h0 : ¬ iI i < 0 := fun h => by have := (iI_lt (a := i) (b := 0) (by omega) (by omega)).mp h; omega
  have h77 : iI i < 77 := (iI_lt (a := i) (b := 77) (by omega) (by omega)).mpr (by omega)
  have hcl : (iI i).toNatClampNeg = i.toNat := iI_clamp (by omega) (by omega)
  have hin : vp_in (iI i) 77 := vIn_ix (n := 77) (by omega) (by decide)
  refine lv_iload_n hx hb dj_lat_0 rfl (lv_at hl 1 rfl) ?_
  refine lv_aload_n hx hb dj_lat_1 rfl (lv_at hl 0 rfl) ?_
  refine va_tlen hx hb hT hS (v := 77) rfl dj_lat_2 ?_
  refine j_callS (As := [.int (iI i), .int 77]) (n := 2) (nL := 2) hx hb hml hl.1 hown hwt (Nat.le_of_ble_eq_true rfl) (Nat.le_of_ble_eq_true rfl) ⟨(Nat.le_of_ble_eq_true rfl), (Nat.le_of_ble_eq_true rfl)⟩ (jm_chk h0 h77) lj_chk tj_chk ij_chk kj_chk (by decide) (by decide +kernel) rfl hJ hS (Nat.le_of_ble_eq_true rfl) dj_lat_3 ?_
  refine lv_aload_n hx hb dj_lat_6 rfl (lv_at hl 0 rfl) ?_
  refine lv_iload_n hx hb dj_lat_7 rfl (lv_at hl 1 rfl) ?_
  refine va_tb hx hb hT hS hin (v := .int (vTb.getD i.toNat 0)) (by rw [hcl]; rfl) dj_lat_8 ?_
  refine lv_sipush (v := 255) hx hb dj_lat_9 rfl ?_
  refine lv_iand hx hb dj_lat_12 ?_
  refine lv_i2c (v := iI (WL.getD i.toNat 0)) hx hb dj_lat_13 (WL_c i.toNat (by omega)).1 ?_
  exact W.zret (hlocks := B.notSynchronized) hx hb B.returns (WL_c i.toNat (by omega)).2 (fun t ht _ => ⟨rfl, ht⟩) (fun q hq => by cases hq) dj_lat_14
theorem jm_charAt {l : Launch} {adK adV : Nat → Nat} {A : Nat → Prop} {i : Int} (hi : 0 ≤ i ∧ i < 77) : jM l yj_charAt prog_16_method_56_code 2 (some .char) 3 [.ref (adK 0), .int (iI i)] adK adV A (some (.int (iI (WL.getD i.toNat 0)))) := by
  refine Met.ofW (cc := prog_16_method_56_code) (maxL := 2) (ret := some .char) (by decide +kernel) rfl ?_
  intro p e s m args below meth c s₁ B hml hv
  obtain ⟨rfl, hJ⟩ := hv
  have hts := atoms_spec (ws := vWords yj_charAt prog_16_method_56_code 2 (some .char)) B.pre
  have hwt : ∀ w ∈ wt, w.before _ s = true := fun w hw => hts w (List.mem_cons_of_mem _ hw)
  have hown : s.vm.findClass "java/lang/String" = some m.cls := findClass_of_methodNamed B.named
  have hl := lv_entry ([.ref (adK 0), .int (iI i)] : List Value) (n := 2) (Nat.le_of_ble_eq_true rfl)
  rw [lg_entry_eq]
  generalize (lg_sl ([.ref (adK 0), .int (iI i)] : List Value) ++ List.replicate (2 - (lg_sl ([.ref (adK 0), .int (iI i)] : List Value)).length) Slot.unset).toArray = ls at hl ⊢
  have hl : lv_has ls 2 [(0, .ref (adK 0)), (1, .int (iI i))] := hl
  have hS : va_S A s.heap s.heap [] := va_S.rf
  have hx := B.exec
  have hb := B.bytes
  obtain ⟨hO, hCo, hVa, hT⟩ := hJ.1.1 0 (by decide)
  refine lv_aload_n hx hb dj_charAt_0 rfl (lv_at hl 0 rfl) ?_
  refine j_callV (As := []) (nL := 2) hx hb hml hl.1 hown hwt (Nat.le_of_ble_eq_true rfl) (Nat.le_of_ble_eq_true rfl) ⟨(Nat.le_of_ble_eq_true rfl), (Nat.le_of_ble_eq_true rfl)⟩ jm_isLatin1 lj_isLatin1 mj_isLatin1 sj_isLatin1 ij_isLatin1 kj_isLatin1 (by decide) (by decide +kernel) rfl (vk_recv hJ.1 (by decide) hS) hJ hS (Nat.le_of_ble_eq_true rfl) dj_charAt_1 ?_
  refine lv_if_eq (tgt := 16) hx hb dj_charAt_4 rfl (fun h => absurd h (by decide)) (fun _ => ?_)
  refine lv_aload_n hx hb dj_charAt_7 rfl (lv_at hl 0 rfl) ?_
  refine vk_getf hx hb hVa hS hown (hwt _ fj_va) (fun _ h => h) dj_charAt_8 ?_
  refine lv_iload_n hx hb dj_charAt_11 rfl (lv_at hl 1 rfl) ?_
  refine j_callS (As := [.ref (adV 0), .int (iI i)]) (n := 2) (nL := 2) hx hb hml hl.1 hown hwt (Nat.le_of_ble_eq_true rfl) (Nat.le_of_ble_eq_true rfl) ⟨(Nat.le_of_ble_eq_true rfl), (Nat.le_of_ble_eq_true rfl)⟩ (jm_lat hi) lj_lat tj_lat ij_lat kj_lat (by decide) (by decide +kernel) rfl hJ hS (Nat.le_of_ble_eq_true rfl) dj_charAt_12 ?_
  exact W.zret (hlocks := B.notSynchronized) hx hb B.returns (WL_c i.toNat (by omega)).2 (fun t ht _ => ⟨rfl, ht⟩) (fun q hq => by cases hq) dj_charAt_15
section
variable {cx : vCx} {cc : ByteArray} {nL d MC MS kc ks pc pc1 pc2 pc3 idx : Nat} {L : List (Option Value)} {st : List Value} {S : vSh} {σ : vMem}
theorem v_strlen (hd : vD cc pc (.ldc 126) 2 pc1) (hd1 : vD cc pc1 (.invokevirtual 128) 3 pc2) (h1 : 2 ≤ d) (hrm : (st.map fun v => v.category).sum ≤ 6) (k : vV cx "VillagePay$Reader" cc nL d MC MS kc ks pc2 L (.int (iI 77) :: st) S σ) : vV cx "VillagePay$Reader" cc nL d MC MS kc ks pc L st S σ := by
  obtain ⟨p, l, e, R, s, m, args, below, meth, c, Q, D, cA, A, ad0, n0⟩ := cx
  obtain ⟨hd, rfl⟩ := hd
  obtain ⟨hd1, rfl⟩ := hd1
  intro C ad H locs ls hP hD hS hW hl hL hst hkc hks hz7 hn7
  have hts := C.2.2.2.2.1
  obtain ⟨r1, r2, r3, r4⟩ := C.2.2.2.2.2.2.2.2.1
  obtain ⟨-, -, ⟨adK, adV, hE, hZ⟩, hCS, hSI⟩ := C.2.2.2.2.2.2.2.2.2
  refine va_ldcS C.1 C.2.1 C.2.2.2.1 hZ hd ?_
  refine j_callV (As := []) (r := some (.int 77)) C.1 C.2.1 C.2.2.1 hl.1 C.2.2.2.1 hts (dy := 1) (by omega) (nLy := 1) (by omega) ⟨by omega, by omega⟩ (jm_length (adK := adK) (adV := adV) (A := A)) lj_length mj_length sj_length ij_length kj_length (by decide) (by decide +kernel) rfl (vk_recv hE (by decide) hS) ⟨hE, hCS, hSI⟩ hS (by rw [vCat_sum]; omega) hd1 ?_
  exact k C ad H locs ls hP hD hS hW hl hL (vSt_int hst) hkc hks hz7 hn7
theorem v_strchar5 {x0 x1 x2 x3 x4 : Option Value} {rest : List (Option Value)} {i : Int} (hd : vD cc pc (.ldc 126) 2 pc1) (hd1 : vD cc pc1 (.iload 5) 2 pc2) (hd2 : vD cc pc2 (.invokevirtual 133) 3 pc3) (hi : 0 ≤ i ∧ i < 77) (h1 : 4 ≤ d) (hrm : (st.map fun v => v.category).sum ≤ 6) (k : vV cx "VillagePay$Reader" cc nL d MC MS kc ks pc3 (x0 :: x1 :: x2 :: x3 :: x4 :: some (.int (iI i)) :: rest) (.int (iI (WL.getD i.toNat 0)) :: st) S σ) : vV cx "VillagePay$Reader" cc nL d MC MS kc ks pc (x0 :: x1 :: x2 :: x3 :: x4 :: some (.int (iI i)) :: rest) st S σ := by
  obtain ⟨p, l, e, R, s, m, args, below, meth, c, Q, D, cA, A, ad0, n0⟩ := cx
  obtain ⟨hd, rfl⟩ := hd
  obtain ⟨hd1, rfl⟩ := hd1
  obtain ⟨hd2, rfl⟩ := hd2
  intro C ad H locs ls hP hD hS hW hl hL hst hkc hks hz7 hn7
  have hts := C.2.2.2.2.1
  obtain ⟨r1, r2, r3, r4⟩ := C.2.2.2.2.2.2.2.2.1
  obtain ⟨-, -, ⟨adK, adV, hE, hZ⟩, hCS, hSI⟩ := C.2.2.2.2.2.2.2.2.2
  refine va_ldcS C.1 C.2.1 C.2.2.2.1 hZ hd ?_
  refine lv_iload C.1 C.2.1 hd1 (vLoc_get (i := 5) (v := .int (iI i)) hl rfl) ?_
  refine j_callV (As := [.int (iI i)]) (n := 1) (r := some (.int (iI (WL.getD i.toNat 0)))) C.1 C.2.1 C.2.2.1 hl.1 C.2.2.2.1 hts (dy := 3) (by omega) (nLy := 2) (by omega) ⟨by omega, by omega⟩ (jm_charAt (adK := adK) (adV := adV) (A := A) hi) lj_charAt mj_charAt sj_charAt ij_charAt kj_charAt (by decide) (by decide +kernel) rfl (vk_recv hE (by decide) hS) ⟨hE, hCS, hSI⟩ hS (by rw [vCat_sum]; omega) hd2 ?_
  exact k C ad H locs ls hP hD hS hW hl hL (vSt_int hst) hkc hks hz7 hn7
end
