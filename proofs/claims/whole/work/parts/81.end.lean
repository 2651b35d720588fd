/-! THE CLAIM OUT OF ONE WALK OF THE LAW'S BODY. Your part is whole_start (and what it stands on); all else here is the same for every law, but numbers. -/
def R_law : String := "VillagePayLaw"
def lw_P (b : Addr) (xs : List Int32) (args : Array Value) (s : State) : Prop := args = #[.ref b] ∧ s.IntsAt b xs ∧ xs.length ≤ 3072 ∧ (Jvm.Cond.and given_1 narrow_1).before args s = true
def lw_Q (_ : Array Value) (s : State) (o : Outcome) (t : State) : Prop := o = .returned (some (.int 1)) ∧ Framed s o t [] 406970 7881340
def lw_Z (below : List Frame) (a : Array Value) (s : State) : State → Prop := fun t => ∃ o, t.status = .running ∧ Ended t below o ∧ lw_Q a s o t
/-- the law's own end, with 1 on the stack, nothing written that was there before, its room as the claim has it -/
theorem lw_ret {p : Program} {l : Launch} {e : Env} {s : State} {m : MethodId} {below : List Frame} {meth : Method} {c : Code} {b : Nat} (hx : p.tables.exec = Jvm.exec) (hb : c.code = code) (hr : meth.sig.returnType = ret) (hlocks : meth.locks = false) {pc : Nat} {H : Heap} {ls : Array Slot} (hdg : decode code pc = .ok (.ireturn, 1)) : W p l e room_1 s m #[Value.ref b] below meth c H [] 406970 7881340 (lw_Z below #[Value.ref b] s) (F0 m pc ls [.int 1]) := by
  intro T hT X
  obtain ⟨fs, hret, hrun, hended, hW, hframe⟩ := X.leave (v := some (.int 1)) (hlocks := hlocks) (fun h => by rw [hr] at h; cases h)
  have hmeth' : T.vm.method? m = some meth := X.method'
  refine ⟨T.setFrames fs, ?_, .returned (some (.int 1)), hrun, hended, rfl, ⟨_, rfl⟩, hW, hframe⟩
  jvm_step X.here [X.here.top, hx, hb, hdg, hmeth', hr, ret, narrow_b1]
  (try refine ⟨rfl, ?_⟩); (try refine ⟨rfl, ?_⟩)
  first | (intro acts; rw [hret _ acts rfl rfl rfl]) | rw [hret _ _ rfl rfl rfl]
  exact Steps.refl _
/-- what holds at the law's entry: the machine, the code, the tables' words (any of lw_tbl by 'hts w (by decide +kernel)'), the script of L ints xs at the cell b, what the Statement gives of the start (any of its parts by flat_of_before) -/
def lw_At (p : Program) (s : State) (m : MethodId) (meth : Method) (c : Code) (b L : Nat) (xs : Nat → Int32) : Prop :=
  p.tables.exec = Jvm.exec ∧ c.code = code ∧ meth.sig.returnType = ret ∧ c.maxLocals = 4 ∧ s.vm.findClass R_law = some m.cls ∧ (∀ w ∈ lw_tbl, w.before #[Value.ref b] s = true) ∧ va_X b L xs s s.heap ∧ b < s.heap.size ∧ meth.locks = false ∧ (Jvm.Cond.and given_1 narrow_1).before #[Value.ref b] s = true

theorem arrT {s : State} {args : Array Value} {ty : FieldType} (h : (Cond.arrayClass ty).before args s = true) : ∃ cA : ClassId, ArrOfT s cA ty ∧ s.vm.findClass ("[" ++ ty.toString) = some cA := by
  obtain ⟨c, k, comp, h1, h2, h3⟩ := Cond.arrayClass_spec h
  exact ⟨c, fun n z => ⟨fun k h => (by cases h), k, h2, comp, h3⟩, h1⟩
theorem law_K {s : State} {args : Array Value} (hts : ∀ w ∈ lw_tbl, w.before args s = true) : ∃ (D : va_G) (cA : Nat → ClassId), va_K D vcl (vtys cA) s := by
  have hwt : ∀ w ∈ wt, w.before args s = true := fun w hw => hts w (wt_in hw)
  have h : ∀ k : Nat, ∃ r : ClassId × (Nat → Nat), ∀ q, vcl[k]? = some q → u_Kn s q.1 q.2.1 q.2.2 r.1 r.2 := by
    intro k
    match k with
    | 0 =>
      obtain ⟨c0, i0, h0⟩ := u_known (C := vC0) (T := vT0) (N := 10) (n := 10) hwt vI0 (hts (.instantiable vC0 10) (by decide +kernel))
      exact ⟨(c0, i0), fun q hq => by cases hq; exact h0⟩
    | 1 =>
      obtain ⟨c0, i0, h0⟩ := u_known (C := vC1) (T := vT1) (N := 6) (n := 6) hwt vI1 (hts (.instantiable vC1 6) (by decide +kernel))
      exact ⟨(c0, i0), fun q hq => by cases hq; exact h0⟩
    | 2 =>
      obtain ⟨c0, i0, h0⟩ := u_known (C := vC2) (T := vT2) (N := 9) (n := 9) hwt vI2 (hts (.instantiable vC2 9) (by decide +kernel))
      exact ⟨(c0, i0), fun q hq => by cases hq; exact h0⟩
    | 3 =>
      obtain ⟨c0, i0, h0⟩ := u_known (C := vC3) (T := vT3) (N := 11) (n := 11) hwt vI3 (hts (.instantiable vC3 11) (by decide +kernel))
      exact ⟨(c0, i0), fun q hq => by cases hq; exact h0⟩
    | 4 =>
      obtain ⟨c0, i0, h0⟩ := u_known (C := vC4) (T := vT4) (N := 10) (n := 10) hwt vI4 (hts (.instantiable vC4 10) (by decide +kernel))
      exact ⟨(c0, i0), fun q hq => by cases hq; exact h0⟩
    | 5 =>
      obtain ⟨c0, i0, h0⟩ := u_known (C := vC5) (T := vT5) (N := 4) (n := 4) hwt vI5 (hts (.instantiable vC5 4) (by decide +kernel))
      exact ⟨(c0, i0), fun q hq => by cases hq; exact h0⟩
    | 6 =>
      obtain ⟨c0, i0, h0⟩ := u_known (C := vC6) (T := vT6) (N := 7) (n := 7) hwt vI6 (hts (.instantiable vC6 7) (by decide +kernel))
      exact ⟨(c0, i0), fun q hq => by cases hq; exact h0⟩
    | 7 =>
      obtain ⟨c0, i0, h0⟩ := u_known (C := vC7) (T := vT7) (N := 8) (n := 8) hwt vI7 (hts (.instantiable vC7 8) (by decide +kernel))
      exact ⟨(c0, i0), fun q hq => by cases hq; exact h0⟩
    | 8 =>
      obtain ⟨c0, i0, h0⟩ := u_known (C := vC8) (T := vT8) (N := 7) (n := 7) hwt vI8 (hts (.instantiable vC8 7) (by decide +kernel))
      exact ⟨(c0, i0), fun q hq => by cases hq; exact h0⟩
    | 9 =>
      obtain ⟨c0, i0, h0⟩ := u_known (C := vC9) (T := vT9) (N := 11) (n := 11) hwt vI9 (hts (.instantiable vC9 11) (by decide +kernel))
      exact ⟨(c0, i0), fun q hq => by cases hq; exact h0⟩
    | 10 =>
      obtain ⟨c0, i0, h0⟩ := u_known (C := vC10) (T := vT10) (N := 3) (n := 3) hwt vI10 (hts (.instantiable vC10 3) (by decide +kernel))
      exact ⟨(c0, i0), fun q hq => by cases hq; exact h0⟩
    | 11 =>
      obtain ⟨c0, i0, h0⟩ := u_known (C := vC11) (T := vT11) (N := 10) (n := 10) hwt vI11 (hts (.instantiable vC11 10) (by decide +kernel))
      exact ⟨(c0, i0), fun q hq => by cases hq; exact h0⟩
    | 12 =>
      obtain ⟨c0, i0, h0⟩ := u_known (C := vC12) (T := vT12) (N := 26) (n := 26) hwt vI12 (hts (.instantiable vC12 26) (by decide +kernel))
      exact ⟨(c0, i0), fun q hq => by cases hq; exact h0⟩
    | k + 13 => exact ⟨(0, fun _ => 0), fun q hq => by simp [vcl] at hq⟩
  obtain ⟨r, hr⟩ := Classical.axiomOfChoice h
  obtain ⟨c0, a0, b0⟩ := arrT (ty := .int) (hwt _ cw_aint)
  obtain ⟨c1, a1, b1⟩ := arrT (ty := .byte) (hwt _ cw_abyte)
  obtain ⟨c2, a2, b2⟩ := arrT (ty := .boolean) (hwt _ cw_aboolean)
  obtain ⟨comp, c3, k3, f1, -, f2, f3, f4⟩ := Cond.arrayOver_spec (n := "VillagePay$State") (hts (.arrayOver (.object "VillagePay$State")) (by decide +kernel))
  refine ⟨(fun k => (r k).1, fun k => (r k).2), fun k => if k = 0 then c0 else if k = 1 then c1 else if k = 2 then c2 else c3, fun k q hq => hr k q hq, fun k q hq => ?_⟩
  match k, hq with
  | 0, hq => cases hq; exact ⟨a0, b0⟩
  | 1, hq => cases hq; exact ⟨a1, b1⟩
  | 2, hq => cases hq; exact ⟨a2, b2⟩
  | 3, hq => cases hq; exact ⟨fun n z => ⟨fun k h => (by cases h), k3, f2, comp, f3⟩, k3, comp, f2, f3, f1, f4⟩
  | k + 4, hq => simp at hq
theorem law_X {s : State} {args : Array Value} {A : Nat → Prop} (hts : ∀ w ∈ lw_tbl, w.before args s = true) (hgv : (Jvm.Cond.and given_1 narrow_1).before args s = true) (hA : ∀ a : Nat, a < s.heap.size → ¬ A a) : vXt A s s.heap := by
  have hs := flat_of_before _ hgv
  have hr : (Cond.stringRef "VillagePay$Reader" 126 vTx).before args s = true := hts _ (by decide +kernel)
  refine ⟨va_AO.of (A := args) (hts (.arrayOver (.object "VillagePay$State")) (by decide +kernel)), ?_, ?_, va_Zof (args := args) (hts _ (by decide +kernel)) (hts _ (by decide +kernel)) (va_eqt (hs (.eq (.static "java/lang/String" "COMPACT_STRINGS" "Z") (.int 1)) (by decide +kernel))) hA, va_Zqof (args := args) (hts _ (by decide +kernel)) (hts _ (by decide +kernel)) (hs (.isRef (.static "jdk/internal/util/Preconditions" "SIOOBE_FORMATTER" "Ljava/util/function/BiFunction;")) (by decide +kernel)) hA⟩
  · intro w hw
    have h9 : w ∈ lw_tbl := by
      have h8 : ∀ w ∈ vNest, w ∈ lw_tbl := by decide +kernel
      exact h8 w hw
    refine va_Nw.of ?_ (hts w h9)
    have h7 : ∀ w ∈ vNest, w.onTables = true := by decide +kernel
    exact h7 w hw
  · have h8 : ∀ j : Nat, j < 77 → (Cond.eq (.elem (.field (.string "VillagePay$Reader" 126) "java/lang/String" "value" "[B") (.int (Int32.ofNat j))) (.int (vTb.getD j 0))) ∈ flatC (Jvm.Cond.and given_1 narrow_1) := by decide +kernel
    obtain ⟨adK, adV, h1, h2⟩ := vk_Sof (args := args) (s := s) (N := 1) (tm := fun _ => .string "VillagePay$Reader" 126) (len := [77]) (byt := [vTb]) (A := A)
      (fun i hi => by rw [show i = 0 by omega]; decide) (fun i hi => hs _ (by decide +kernel)) (fun i hi => hs _ (by decide +kernel)) (fun i hi => hs _ (by decide +kernel)) (fun i hi => by rw [show i = 0 by omega]; exact hs _ (by decide +kernel)) (fun i hi j hj => by rw [show i = 0 by omega] at hj ⊢; exact hs _ (h8 j hj)) (fun i j hi hj hne => absurd (show i = j by omega) hne) hA
    exact ⟨adK, adV, h1, vk_R.of hr (h2 0 (by decide))⟩
theorem whole_start {p : Program} {e : Env} {s : State} {m : MethodId} {below : List Frame} {meth : Method} {c : Code} (l : Launch) {b L : Nat} {xs : Nat → Int32} (hL : L ≤ 3072) (C0 : lw_At p s m meth c b L xs) : W p l e room_1 s m #[Value.ref b] below meth c s.heap [] 0 0 (lw_Z below #[Value.ref b] s) (entryFrame m ([Value.ref b] : List Value).toArray 4) := by
  obtain ⟨hx, hb, hr, hml, hown, hts, hX, hbl, hlocks, hgv⟩ := id C0
  obtain ⟨D, cA, hK⟩ := law_K hts
  have hbA : ¬ (fun q : Nat => s.heap.size ≤ q) b := Nat.not_le.mpr hbl
  have hV := law_X (A := fun q : Nat => s.heap.size ≤ q) hts hgv (fun a h => Nat.not_le.mpr h)
  have hl := lv_entry ([.ref b]) (n := 4) (Nat.le_of_ble_eq_true rfl)
  rw [lg_entry_eq]
  generalize (lg_sl ([.ref b]) ++ List.replicate (4 - (lg_sl ([.ref b])).length) Slot.unset).toArray = ls at hl ⊢
  have hl : lv_has ls 4 [(0, .ref b)] := hl
  have h0 : ls[0]? = some (.val (.ref b)) := hl.2.2 (0, .ref b) List.mem_cons_self
  have hC : vOk (p, l, e, room_1, s, m, #[Value.ref b], below, meth, c, lw_Z below #[Value.ref b] s, D, cA, fun q : Nat => s.heap.size ≤ q, fun _ => 0, 0) "VillagePayLaw" code 4 14 406970 7881340 := ⟨hx, hb, hml, hown, fun w hw => hts w (wt_in hw), hK, fun _ h => h, hlocks, ⟨by decide, by decide, by decide, by decide⟩, hV⟩
  have hE : ∀ (kc ks : Nat) (S : vSh) (σ : vMem) (L' : List (Option Value)), vU b (p, l, e, room_1, s, m, #[Value.ref b], below, meth, c, lw_Z below #[Value.ref b] s, D, cA, fun q : Nat => s.heap.size ≤ q, fun _ => 0, 0) "VillagePayLaw" code 4 14 406970 7881340 kc ks 1524 L' [.int (iI 1)] S σ := by
    intro kc ks S σ L' C ad H locs ls hP hD hS hW hl h00 hL hst hkc hks hz7 hn7
    refine va_forget (fun q hq => hS.2.2 q hq) ?_
    refine W.widen hkc hks ?_
    exact lw_ret hx hb hr hlocks d_L_1524.1
  exact law_body (sb := b) (Ln := L) (xs := xs) (cx := (p, l, e, room_1, s, m, #[Value.ref b], below, meth, c, lw_Z below #[Value.ref b] s, D, cA, fun q : Nat => s.heap.size ≤ q, fun _ => 0, 0)) ⟨hX, hbl, hbA⟩ hL hE hC (fun _ => 0) s.heap [] ls (fun k q h => by simp [vWs] at h) ⟨fun i j p q h => by simp [vWs] at h, fun k q h => by simp [vWs] at h⟩ va_S.rf ⟨fun k ci fs h => by simp at h, fun k n h => by simp at h, fun k j => by show vIn 0; decide, fun k t n h => by simp at h⟩ ⟨hl.1, hl.2.1, fun i v hi => by
      match i, hi with
      | 0, hi => cases hi
      | 1, hi => cases hi
      | 2, hi => cases hi
      | 3, hi => cases hi
      | i + 4, hi => simp at hi⟩ h0 (fun i v hi => by
      match i, hi with
      | 0, hi => cases hi
      | 1, hi => cases hi
      | 2, hi => cases hi
      | 3, hi => cases hi
      | i + 4, hi => simp at hi) (fun v hv => by cases hv) (Nat.zero_le _) (Nat.zero_le _) (fun k hk => absurd hk (Nat.not_lt_zero k)) (Nat.le_refl _)
set_option maxHeartbeats 4000000 in
theorem lw_walk (l : Launch) (b : Addr) (xs : List Int32) : MetFree l x (headSpec (Jvm.Cond.code x code maxLocals ret :: tables_1) room_1) (lw_P b xs) (fun _ _ _ _ _ => True) lw_Q := by
  refine MetFree.of_bodyS (code := code) (maxLocals := maxLocals) (ret := ret) (by decide) ?_ ?_
  · intro args s m h hn
    obtain ⟨meth, c, h1, h2, h3, h4, h5, h6, -, -⟩ := Cond.code_spec hn (atoms_spec (ws := Jvm.Cond.code x code maxLocals ret :: tables_1) h _ List.mem_cons_self)
    exact ⟨meth, c, h1, h2, h3, h4, h5, h6⟩
  · intro p e s m args below meth c s₁ B hml0 hP _
    obtain ⟨rfl, hx, hbd, hgv⟩ := hP
    obtain ⟨scr, harrAt, hlist, hof, hsmall⟩ := hx
    obtain ⟨hcb, hkn, -, -⟩ := State.arrayAt?_spec harrAt
    have hown : s.vm.findClass R_law = some m.cls := findClass_of_methodNamed B.named
    have hts0 : ∀ c ∈ (Jvm.Cond.code x code maxLocals ret :: tables_1), c.before #[Value.ref b] s = true := atoms_spec (ws := Jvm.Cond.code x code maxLocals ret :: tables_1) B.pre
    have hts : ∀ w ∈ lw_tbl, w.before #[Value.ref b] s = true := k2_hts_sels lw_privs (fun w hw => hts0 w (List.mem_cons_of_mem _ hw)) lw_privs_ok
    have hml : c.maxLocals = 4 := B.maxLocals_eq (hts0 _ List.mem_cons_self)
    have X₀ : Stand p l e room_1 s m #[Value.ref b] below meth c s₁ [] 0 0 := Stand.of_body B
    have hh0 : s₁.heap = s.heap := by rw [B.state]; rfl
    have hsz : scr.slots.size = xs.length := by rw [← Array.length_toList, hlist, List.length_map]
    have hval : ∀ j : Nat, j < xs.length → scr.slots[j]? = some (.int (xs.getD j 0)) := fun j hj => by
      rw [← Array.getElem?_toList, hlist]
      simp [hj]
    have hbl : b < s.heap.size := (Array.getElem?_eq_some_iff.mp hcb).1
    have hX : va_X b xs.length (fun j => xs.getD j 0) s s.heap := ⟨scr, hcb, hof, hkn, hsz, hval⟩
    have K : W p l e room_1 s m #[Value.ref b] below meth c s₁.heap [] 0 0 (lw_Z below #[Value.ref b] s) (entryFrame m ([Value.ref b] : List Value).toArray 4) := by
      rw [hh0]
      exact whole_start l hbd ⟨B.exec, B.bytes, B.returns, hml, hown, hts, hX, hbl, B.notSynchronized, hgv⟩
    obtain ⟨t, a1, o, b1, b2, b3⟩ := K s₁ rfl X₀
    exact ⟨t, o, a1, b1, b2, b3⟩
theorem lw_pre_spec {args : Array Value} {s : State} (h : (Jvm.Cond.and given_1 narrow_1).before args s = true) (hr : rest_1_c.before args s = true) : ∃ (b : Addr) (xs : List Int32), lw_P b xs args s := by
  have hs := flat_of_before _ h
  have hq := flat_of_before _ hr
  have hc : (Cond.count 1).before args s = true := hs _ (by decide +kernel)
  have harr : (Cond.arrayOf (.arg 0) .int).before args s = true := hs _ (by decide +kernel)
  have hle : (Cond.le (.length (.arg 0)) (.int 3072)).before args s = true := hs _ (by decide +kernel)
  have hlen : (Cond.isInt (.length (.arg 0))).before args s = true := hq _ (by decide +kernel)
  have hall : (Cond.all (.arg 0) (.isInt (.elem (.arg 0) (.index 0)))).before args s = true := hq _ (by decide +kernel)
  obtain ⟨b, xs, hb, hx⟩ := State.ints_of_pre rfl harr hlen hall
  have hsm : xs.length < 2 ^ 31 := hx.choose_spec.2.2.2
  have hev : (Term.length (.arg 0)).eval args s none [] s = some (.int xs.length.toInt32) := hx.length_eval hb
  have hv := Cond.le_ints hev (show (Term.int 3072).eval args s none [] s = some (.int 3072) from rfl)
  have hd : xs.length.toInt32 ≤ 3072 := by
    simpa [Cond.before, Cond.holds, hv] using hle
  have hN : xs.length ≤ 3072 := (Int32.ofNat_le_ofNat hsm (by decide)).mp (show Int32.ofNat xs.length ≤ Int32.ofNat 3072 from hd)
  exact ⟨b, xs, Cond.one_arg hc (show args[0]? = some (.ref b) from hb), hx, hN, h⟩
theorem lw_comes (l : Launch) : Comes l x (Jvm.Cond.code x code maxLocals ret :: tables_1) room_1 (fun tb e args s => Calls_1 tb e args s ∧ rest_1 tb e args s ∧ Pre_1 tb e args s)
    (fun _ _ args s o t => lw_Q args s o t) := by
  intro p e ha hc hk s m args below hf hfit hheap happ hpre
  obtain ⟨b, xs, hP⟩ := lw_pre_spec hpre.2.2 hpre.2.1
  obtain ⟨k, o, h1, h2, h3, hQ⟩ := lw_walk l b xs p e ha hc hk s m args below hf ((Spec.applies_iff_loose hf).mp happ).1 hP trivial
  exact ⟨k, o, h1, h2, h3, hQ⟩
theorem lw_frame {s t : State} {o : Outcome} {args : Array Value} (h : Framed s o t [] 406970 7881340) :
    Framed s o t (fieldLocs frame_1_writes args s ++ arrayLocs frame_1_arrays args s ++ staticLocs frame_1_statics s) 406970 7881340 := h
theorem lw_limb (L : Cond) (hL : ∀ (args : Array Value) (s t : State), L.after args s (.returned (some (.int 1))) t = true) :
    ArmFor flags0 classFile x code maxLocals ret World_1 tables_1 room_1 Calls_1 rest_1 Pre_1
      (fun tb e a s o t => postC L tb e a s o t ∧ Framed s o t (fieldLocs frame_1_writes a s ++ arrayLocs frame_1_arrays a s ++ staticLocs frame_1_statics s) 406970 7881340) := by
  intro l _ _ _ p e ha hc hk s m args below hf hfit hheap happ hpre
  obtain ⟨k, o, h1, h2, h3, rfl, hF⟩ := lw_comes l p e ha hc hk s m args below hf hfit hheap happ hpre
  exact ⟨k, _, h1, h2, h3, hL args s _, lw_frame hF⟩
theorem i_vc : Claimed_1_1 ∧ Claimed_1_2 := ⟨lw_limb limb_1_1 (fun args s t => by simp [limb_1_1, Cond.after, Cond.holds, Cond.value]), lw_limb limb_1_2 (fun args s t => Cond.after_iff.mpr (by
  first | (rw [show limb_1_2 = Cond.eq .result (.int 1) from rfl, Cond.eq_ints (x := 1) (y := 1) rfl rfl]; simp; done) | (simp [limb_1_2, Cond.value, Term.eval]; done)))⟩
