/-! ===== numbers: an Int32 by an Int ===== -/
def iI (z : Int) : Int32 := Int32.ofInt z
def lI (z : Int) : Int64 := Int64.ofInt z
abbrev vIn (z : Int) : Prop := -2147483648 ≤ z ∧ z ≤ 2147483647
abbrev vInL (z : Int) : Prop := -9223372036854775808 ≤ z ∧ z ≤ 9223372036854775807
theorem iI_toInt {z : Int} (h : vIn z) : (iI z).toInt = z := Int32.toInt_ofInt_of_le (by omega) (by omega)
theorem lI_toInt {z : Int} (h : vInL z) : (lI z).toInt = z := Int64.toInt_ofInt_of_le (by omega) (by omega)
theorem iI_of (x : Int32) : iI x.toInt = x := Int32.ofInt_toInt x
theorem vIn_of (x : Int32) : vIn x.toInt := ⟨by have := x.le_toInt; omega, by have := x.toInt_lt; omega⟩
theorem iI_clamp {z : Int} (h0 : 0 ≤ z) (h : z ≤ 2147483647) : (iI z).toNatClampNeg = z.toNat := Int32.toNatClampNeg_ofInt_of_le (by omega) (by omega)
theorem iI_eq {a b : Int} (ha : vIn a) (hb : vIn b) : iI a = iI b ↔ a = b := by
  constructor
  · intro h
    have := congrArg Int32.toInt h
    rwa [iI_toInt ha, iI_toInt hb] at this
  · intro h; rw [h]
theorem iI_lt {a b : Int} (ha : vIn a) (hb : vIn b) : iI a < iI b ↔ a < b := by rw [Int32.lt_iff_toInt_lt, iI_toInt ha, iI_toInt hb]
theorem iI_le {a b : Int} (ha : vIn a) (hb : vIn b) : iI a ≤ iI b ↔ a ≤ b := by rw [Int32.le_iff_toInt_le, iI_toInt ha, iI_toInt hb]
theorem iI_0 : iI 0 = 0 := rfl
theorem iI_add (a b : Int) : iI a + iI b = iI (a + b) := (Int32.ofInt_add a b).symm
theorem iI_sub (a b : Int) : iI a - iI b = iI (a - b) := (Int32.ofInt_sub a b).symm
theorem iI_mul (a b : Int) : iI a * iI b = iI (a * b) := (Int32.ofInt_mul a b).symm
theorem lI_add (a b : Int) : lI a + lI b = lI (a + b) := (Int64.ofInt_add a b).symm
theorem lI_sub (a b : Int) : lI a - lI b = lI (a - b) := (Int64.ofInt_sub a b).symm
theorem lI_mul (a b : Int) : lI a * lI b = lI (a * b) := (Int64.ofInt_mul a b).symm
theorem iI_div {a b : Int} (ha : vIn a) (hb : vIn b) (h0 : 0 ≤ a) (h1 : 0 < b) : iI a / iI b = iI (a / b) := by
  apply Int32.toInt_inj.mp
  have hd : vIn (a / b) := by
    have e1 := Int.ediv_nonneg h0 (Int.le_of_lt h1)
    have e2 : a / b ≤ a := Int.ediv_le_self b h0
    omega
  rw [Int32.toInt_div_of_ne_right _ _ (fun h => by
    have := congrArg Int32.toInt h
    rw [iI_toInt hb] at this
    have h2 : (-1 : Int32).toInt = -1 := rfl
    omega), iI_toInt ha, iI_toInt hb, iI_toInt hd, Int.tdiv_eq_ediv_of_nonneg h0]
theorem iI_rem {a b : Int} (ha : vIn a) (hb : vIn b) : iI a % iI b = iI (a.tmod b) := by
  apply Int32.toInt_inj.mp
  have hd : vIn (a.tmod b) := by
    have h1 : (a.tmod b).natAbs = a.natAbs % b.natAbs := Int.natAbs_tmod a b
    have h2 : a.natAbs % b.natAbs ≤ a.natAbs := Nat.mod_le _ _
    rw [← h1] at h2
    rcases Int.le_total 0 a with h0 | h0
    · have := Int.tmod_nonneg b h0
      omega
    · have := Int.tmod_nonneg b (show 0 ≤ -a by omega)
      rw [Int.neg_tmod] at this
      omega
  rw [Int32.toInt_mod, iI_toInt ha, iI_toInt hb, iI_toInt hd]
theorem iI_n (n : Nat) : iI (n : Int) = Int32.ofNat n := Int32.ofInt_eq_ofNat
/-! ===== the small machine's heap: a shape and a memory ===== -/
abbrev vMem : Type := Nat → Int → Int
abbrev vFD : Type := Option (Option Nat)
abbrev vSC : Type := (Nat × Nat) ⊕ (Nat × List vFD)
abbrev vSh : Type := List vSC
def vR (ad : Nat → Nat) (z : Int) : Option Nat := if z = 0 then none else some (ad z.toNat)
def vFV (ad : Nat → Nat) (z : Int) : vFD → Value
  | none => .int (iI z)
  | some none => .null
  | some (some r) => .ref (ad r)
def vArr (ad : Nat → Nat) (f : Int → Int) (t n : Nat) : vp_A := (n, if t = 3 then .inr (.inr (.inr (.inr (fun j : Nat => vR ad (f (j : Int)))))) else .inl (fun j : Nat => iI (f (j : Int))))
def vCell (cA : Nat → ClassId) (ad : Nat → Nat) (f : Int → Int) : vSC → va_E
  | .inl (t, n) => .inl (cA t, vArr ad f t n)
  | .inr (ci, fs) => .inr (ci, fs.mapIdx (fun j d => vFV ad (f (j : Int)) d))
def vWs (cA : Nat → ClassId) (ad : Nat → Nat) (S : vSh) (σ : vMem) : va_W := S.mapIdx (fun k c => (ad k, vCell cA ad (σ k) c))
def vcv (ad : Nat → Nat) : Value → Value
  | .ref r => .ref (ad r)
  | v => v
def vUp (σ : vMem) (k : Nat) (i v : Int) : vMem := fun k' i' => if k' = k then (if i' = i then v else σ k' i') else σ k' i'
def vWfV (n : Nat) (v : Value) : Prop := ∀ r, v = .ref r → r < n
def vWf (S : vSh) (σ : vMem) : Prop := (∀ (k ci : Nat) (fs : List vFD), S[k]? = some (.inr (ci, fs)) → ∀ (j r : Nat), fs[j]? = some (some (some r)) → r < S.length) ∧ (∀ (k n : Nat), S[k]? = some (.inl (3, n)) → ∀ j : Int, (σ k j).toNat < S.length) ∧ (∀ (k : Nat) (j : Int), vIn (σ k j)) ∧ ∀ (k t n : Nat), S[k]? = some (.inl (t, n)) → n < 2147483648
theorem vUp_same (σ : vMem) (k : Nat) (i v : Int) : vUp σ k i v k i = v := by simp [vUp]
theorem vUp_ne {σ : vMem} {k k' : Nat} {i v : Int} (h : k' ≠ k) : vUp σ k i v k' = σ k' := by funext j; simp [vUp, h]
theorem vUp_ix {σ : vMem} {k : Nat} {i i' v : Int} (h : i' ≠ i) : vUp σ k i v k i' = σ k i' := by simp [vUp, h]
theorem vWs_get (cA : Nat → ClassId) (ad : Nat → Nat) (S : vSh) (σ : vMem) (k : Nat) : (vWs cA ad S σ)[k]? = S[k]?.map (fun c => (ad k, vCell cA ad (σ k) c)) := by
  simp [vWs, List.getElem?_mapIdx]
theorem vWs_at {cA : Nat → ClassId} {ad : Nat → Nat} {S : vSh} {σ : vMem} {k : Nat} {c : vSC} (h : S[k]? = some c) : (vWs cA ad S σ)[k]? = some (ad k, vCell cA ad (σ k) c) := by
  rw [vWs_get, h]; rfl
theorem vWs_set {cA : Nat → ClassId} {ad : Nat → Nat} {S : vSh} {σ σ' : vMem} {k : Nat} {c : vSC} {e : va_E} (h : S[k]? = some c) (he : e = vCell cA ad (σ' k) c) (ho : ∀ j, j ≠ k → σ' j = σ j) : (vWs cA ad S σ).set k (ad k, e) = vWs cA ad S σ' := by
  apply List.ext_getElem?
  intro j
  rw [List.getElem?_set, vWs_get, vWs_get]
  by_cases hj : k = j
  · subst hj
    have hl : k < (vWs cA ad S σ).length := by simp [vWs]; exact (List.getElem?_eq_some_iff.mp h).1
    rw [if_pos rfl, if_pos hl, h, he]; rfl
  · rw [if_neg hj, ho j (fun q => hj q.symm)]
theorem vWs_shape {cA : Nat → ClassId} {ad : Nat → Nat} {S : vSh} {σ : vMem} {k : Nat} {c c' : vSC} {e : va_E} (h : S[k]? = some c) (he : e = vCell cA ad (σ k) c') : (vWs cA ad S σ).set k (ad k, e) = vWs cA ad (S.set k c') σ := by
  apply List.ext_getElem?
  intro j
  rw [List.getElem?_set, vWs_get, vWs_get, List.getElem?_set]
  by_cases hj : k = j
  · subst hj
    have hl : k < S.length := (List.getElem?_eq_some_iff.mp h).1
    have hl' : k < (vWs cA ad S σ).length := by simp [vWs]; exact hl
    rw [if_pos rfl, if_pos hl', if_pos rfl, if_pos hl, he]; rfl
  · rw [if_neg hj, if_neg hj]
theorem vWf_up {S : vSh} {σ : vMem} {k : Nat} {i v : Int} (h : vWf S σ) (hk : ∀ n, S[k]? ≠ some (.inl (3, n))) (hv : vIn v) : vWf S (vUp σ k i v) := by
  refine ⟨h.1, fun k' n hk' j => ?_, fun k' j => ?_, h.2.2.2⟩
  · have : k' ≠ k := fun q => hk n (q ▸ hk')
    rw [vUp_ne this]
    exact h.2.1 k' n hk' j
  · unfold vUp
    split
    · split
      · exact hv
      · exact h.2.2.1 k' j
    · exact h.2.2.1 k' j
theorem vcv_eq {ad ad' : Nat → Nat} {n : Nat} {v : Value} (h : ∀ k, k < n → ad' k = ad k) (hv : vWfV n v) : vcv ad' v = vcv ad v := by
  cases v <;> simp only [vcv]
  rename_i r
  rw [h r (hv r rfl)]
theorem vCell_eq {cA : Nat → ClassId} {ad ad' : Nat → Nat} {S : vSh} {σ : vMem} {k : Nat} {c : vSC} (hw : vWf S σ) (hk : S[k]? = some c) (h : ∀ k, k < S.length → ad' k = ad k) : vCell cA ad' (σ k) c = vCell cA ad (σ k) c := by
  cases c with
  | inl a =>
    obtain ⟨t, n⟩ := a
    simp only [vCell, vArr]
    by_cases ht : t = 3
    · subst ht
      simp only [if_true]
      congr 7
      funext j
      unfold vR
      split
      · rfl
      · rw [h _ (hw.2.1 k n hk _)]
    · simp only [ht, if_false]
  | inr o =>
    obtain ⟨ci, fs⟩ := o
    simp only [vCell]
    congr 2
    apply List.ext_getElem?
    intro j
    simp only [List.getElem?_mapIdx]
    cases hj : fs[j]? with
    | none => rfl
    | some d =>
      simp only [Option.map_some]
      congr 1
      cases d with
      | none => rfl
      | some r =>
        cases r with
        | none => rfl
        | some r => simp only [vFV]; rw [h r (hw.1 k ci fs hk j r hj)]
theorem vWs_eq {cA : Nat → ClassId} {ad ad' : Nat → Nat} {S : vSh} {σ : vMem} (hw : vWf S σ) (h : ∀ k, k < S.length → ad' k = ad k) : vWs cA ad' S σ = vWs cA ad S σ := by
  apply List.ext_getElem?
  intro j
  rw [vWs_get, vWs_get]
  cases hj : S[j]? with
  | none => rfl
  | some c =>
    simp only [Option.map_some]
    rw [vCell_eq hw hj h, h j (List.getElem?_eq_some_iff.mp hj).1]
theorem vWs_push {cA : Nat → ClassId} {ad ad' : Nat → Nat} {S : vSh} {σ : vMem} {c : vSC} (hw : vWf S σ) (h : ∀ k, k < S.length → ad' k = ad k) : vWs cA ad' (S ++ [c]) σ = vWs cA ad S σ ++ [(ad' S.length, vCell cA ad' (σ S.length) c)] := by
  rw [← vWs_eq (cA := cA) hw h]
  simp [vWs, List.mapIdx_append]
/-! ===== what a method stands in, and the judgement ===== -/
abbrev vCx : Type := Program × Launch × Env × Room × State × MethodId × Array Value × List Frame × Method × Code × (State → Prop) × va_G × (Nat → ClassId) × (Nat → Prop) × (Nat → Nat) × Nat
abbrev vtys (cA : Nat → ClassId) : List (ClassId × FieldType) := [(cA 0, .int), (cA 1, .byte), (cA 2, .boolean), (cA 3, .object "VillagePay$State")]
abbrev vNest : List Cond := [.methodLinkNest "VillagePay" 9 ⟨"VillagePay$State", "<init>", "()V"⟩ "VillagePay", .methodLinkNest "VillagePay$State" 18 ⟨"VillagePay$Book", "<init>", "()V"⟩ "VillagePay", .methodLinkNest "VillagePay$State" 25 ⟨"VillagePay$Laws", "<init>", "()V"⟩ "VillagePay", .methodLinkNest "VillagePay$State" 32 ⟨"VillagePay$Tape", "<init>", "()V"⟩ "VillagePay", .methodLinkNest "VillagePay$State" 48 ⟨"VillagePay$Moves", "<init>", "()V"⟩ "VillagePay"]
abbrev vTx : String := "if and not pay less months crown take stop famine rank served kin season had "
abbrev vTb : List Int32 := [105, 102, 32, 97, 110, 100, 32, 110, 111, 116, 32, 112, 97, 121, 32, 108, 101, 115, 115, 32, 109, 111, 110, 116, 104, 115, 32, 99, 114, 111, 119, 110, 32, 116, 97, 107, 101, 32, 115, 116, 111, 112, 32, 102, 97, 109, 105, 110, 101, 32, 114, 97, 110, 107, 32, 115, 101, 114, 118, 101, 100, 32, 107, 105, 110, 32, 115, 101, 97, 115, 111, 110, 32, 104, 97, 100, 32]
/-- what the tables and the heap outside the system's cells say: arrays of State, links between nest mates, the one String constant, two statics -/
def vXt (A : Nat → Prop) (U : State) (H : Heap) : Prop := va_AO "VillagePay$State" U ∧ (∀ w ∈ vNest, va_Nw w U) ∧ (∃ adK adV : Nat → Nat, vk_S 1 [77] [vTb] adK adV A U H ∧ vk_R "VillagePay$Reader" 126 vTx (adK 0) U) ∧ va_Z "java/lang/String" "COMPACT_STRINGS" "Z" (.int 1) A U H ∧ va_Zq "jdk/internal/util/Preconditions" "SIOOBE_FORMATTER" "Ljava/util/function/BiFunction;" A U H
theorem vXt.go {A A1 : Nat → Prop} {s U : State} {H : Heap} {locs : List Loc} (h : vXt A s s.heap) (hS : va_S A s.heap H locs) (hA : ∀ q, A1 q → A q) (hW : s.WarmedH U.vm) (hU : U.heap = H) : vXt A1 U U.heap := by
  obtain ⟨h1, h2, ⟨a, b, h3, h4⟩, h5, h6⟩ := h
  rw [hU]
  refine ⟨va_AO.moved hW.alike h1, fun w hw => ?_, ⟨a, b, ((h3.kept hS.2.1).narrow hA).moved hW.alike, h4.warm hW⟩, ((h5.kept hS.2.1).narrow hA).moved hW.alike, ?_⟩
  · have := h2 w hw
    simp only [vNest, List.mem_cons, List.not_mem_nil, or_false] at hw
    rcases hw with rfl | rfl | rfl | rfl | rfl <;> exact va_Nw.warmM hW this
  · rcases h6 with h6 | ⟨t, h6⟩
    · exact Or.inl (((h6.kept hS.2.1).narrow hA).moved hW.alike)
    · exact Or.inr ⟨t, ((h6.kept hS.2.1).narrow hA).moved hW.alike⟩
theorem vXt.blind {A : Nat → Prop} {U : State} {H : Heap} (h : vXt A U H) {g : JFrame} {mk : MethodId} {a : Array Value} : vXt A (U.calling g mk a) H := by
  obtain ⟨h1, h2, ⟨k, b, h3, h4⟩, h5, h6⟩ := h
  refine ⟨va_AO.moved (Vm.Alike.refl U.vm) h1, fun w hw => ?_, ⟨k, b, h3.moved (Vm.Alike.refl U.vm), h4.same rfl⟩, h5.moved (Vm.Alike.refl U.vm), ?_⟩
  · have := h2 w hw
    simp only [vNest, List.mem_cons, List.not_mem_nil, or_false] at hw
    rcases hw with rfl | rfl | rfl | rfl | rfl <;> exact va_Nw.same rfl rfl this
  · rcases h6 with h6 | ⟨t, h6⟩
    · exact Or.inl (h6.moved (Vm.Alike.refl U.vm))
    · exact Or.inr ⟨t, h6.moved (Vm.Alike.refl U.vm)⟩
def vOk (cx : vCx) (own : String) (cc : ByteArray) (nL d MC MS : Nat) : Prop := match cx with
  | (p, _l, _e, R, s, m, args, _below, meth, c, _Q, D, cA, A, _ad0, _n0) =>
    p.tables.exec = Jvm.exec ∧ c.code = cc ∧ c.maxLocals = nL ∧ s.vm.findClass own = some m.cls ∧ (∀ w ∈ wt, w.before args s = true) ∧ va_K D vcl (vtys cA) s ∧ (∀ q, s.heap.size ≤ q → A q) ∧ meth.locks = false ∧ (d ≤ R.frames ∧ 32 * d ≤ R.locals ∧ MC ≤ R.cells ∧ MS ≤ R.slots) ∧ vXt A s s.heap
def vLoc (ad : Nat → Nat) (nL : Nat) (L : List (Option Value)) (ls : Array Slot) : Prop := ls.size = nL ∧ lv_wf ls ∧ ∀ (i : Nat) (v : Value), L[i]? = some (some v) → ls[i]? = some (.val (vcv ad v))
def vV (cx : vCx) (own : String) (cc : ByteArray) (nL d MC MS kc ks pc : Nat) (L : List (Option Value)) (st : List Value) (S : vSh) (σ : vMem) : Prop := match cx with
  | (p, l, e, R, s, m, args, below, meth, c, Q, D, cA, A, ad0, n0) =>
    vOk (p, l, e, R, s, m, args, below, meth, c, Q, D, cA, A, ad0, n0) own cc nL d MC MS → ∀ (ad : Nat → Nat) (H : Heap) (locs : List Loc) (ls : Array Slot),
      va_P D vcl (vWs cA ad S σ) H → va_D A (vWs cA ad S σ) → va_S A s.heap H locs → vWf S σ → vLoc ad nL L ls → (∀ (i : Nat) (v : Value), L[i]? = some (some v) → vWfV S.length v) → (∀ v ∈ st, vWfV S.length v) → kc ≤ MC → ks ≤ MS → (∀ k, k < n0 → ad k = ad0 k) → n0 ≤ S.length →
      W p l e R s m args below meth c H locs kc ks Q (F0 m pc ls (st.map (vcv ad)))
