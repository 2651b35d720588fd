/-! ===== images ===== -/
def imS (B : Nat) : vSh := [.inr (1, [some (some (B + 1)), some (some (B + 9)), some (some (B + 19)), some (some (B + 29)), some (some (B + 31)), some (some (B + 37))]), .inr (2, [none, none, some (some (B + 2)), some (some (B + 3)), some (some (B + 4)), some (some (B + 5)), some (some (B + 6)), some (some (B + 7)), some (some (B + 8))]), .inl (0, 12), .inl (0, 12), .inl (0, 12), .inl (0, 12), .inl (0, 12), .inl (0, 240), .inl (0, 20), .inr (3, [none, some (some (B + 10)), some (some (B + 11)), some (some (B + 12)), some (some (B + 13)), none, some (some (B + 14)), some (some (B + 15)), some (some (B + 16)), some (some (B + 17)), some (some (B + 18))]), .inl (0, 10), .inl (0, 10), .inl (0, 10), .inl (0, 10), .inl (0, 100), .inl (0, 100), .inl (0, 100), .inl (0, 100), .inl (0, 100), .inr (4, [none, some (some (B + 20)), some (some (B + 21)), some (some (B + 22)), some (some (B + 23)), some (some (B + 24)), some (some (B + 25)), some (some (B + 26)), some (some (B + 27)), some (some (B + 28))]), .inl (0, 4), .inl (0, 4), .inl (0, 64), .inl (0, 64), .inl (0, 64), .inl (0, 256), .inl (0, 256), .inl (0, 256), .inl (2, 256), .inr (5, [some (some (B + 30)), none, none, none]), .inl (1, 500), .inr (6, [some (some (B + 1)), none, some (some (B + 32)), some (some (B + 33)), some (some (B + 34)), some (some (B + 35)), some (some (B + 36))]), .inl (0, 100), .inl (0, 100), .inl (0, 100), .inl (0, 100), .inl (0, 100), .inr (7, [none, some (some (B + 38)), some (some (B + 39)), none, some (some (B + 40)), none, some (some (B + 41)), some (some (B + 42))]), .inl (0, 12), .inl (0, 12), .inl (0, 12), .inl (0, 12), .inl (2, 12)]
theorem imS_len (B : Nat) : (imS B).length = 43 := rfl
def IM (S : vSh) (B : Nat) : Prop := ∀ j, j < 43 → S[B + j]? = (imS B)[j]?
theorem im_0 {S : vSh} {B : Nat} (h : IM S B) : S[B + 0]? = some (.inr (1, [some (some (B + 1)), some (some (B + 9)), some (some (B + 19)), some (some (B + 29)), some (some (B + 31)), some (some (B + 37))])) := (h 0 (by decide)).trans rfl
theorem im_1 {S : vSh} {B : Nat} (h : IM S B) : S[B + 1]? = some (.inr (2, [none, none, some (some (B + 2)), some (some (B + 3)), some (some (B + 4)), some (some (B + 5)), some (some (B + 6)), some (some (B + 7)), some (some (B + 8))])) := (h 1 (by decide)).trans rfl
theorem im_2 {S : vSh} {B : Nat} (h : IM S B) : S[B + 2]? = some (.inl (0, 12)) := (h 2 (by decide)).trans rfl
theorem im_3 {S : vSh} {B : Nat} (h : IM S B) : S[B + 3]? = some (.inl (0, 12)) := (h 3 (by decide)).trans rfl
theorem im_4 {S : vSh} {B : Nat} (h : IM S B) : S[B + 4]? = some (.inl (0, 12)) := (h 4 (by decide)).trans rfl
theorem im_5 {S : vSh} {B : Nat} (h : IM S B) : S[B + 5]? = some (.inl (0, 12)) := (h 5 (by decide)).trans rfl
theorem im_6 {S : vSh} {B : Nat} (h : IM S B) : S[B + 6]? = some (.inl (0, 12)) := (h 6 (by decide)).trans rfl
theorem im_7 {S : vSh} {B : Nat} (h : IM S B) : S[B + 7]? = some (.inl (0, 240)) := (h 7 (by decide)).trans rfl
theorem im_8 {S : vSh} {B : Nat} (h : IM S B) : S[B + 8]? = some (.inl (0, 20)) := (h 8 (by decide)).trans rfl
theorem im_9 {S : vSh} {B : Nat} (h : IM S B) : S[B + 9]? = some (.inr (3, [none, some (some (B + 10)), some (some (B + 11)), some (some (B + 12)), some (some (B + 13)), none, some (some (B + 14)), some (some (B + 15)), some (some (B + 16)), some (some (B + 17)), some (some (B + 18))])) := (h 9 (by decide)).trans rfl
theorem im_10 {S : vSh} {B : Nat} (h : IM S B) : S[B + 10]? = some (.inl (0, 10)) := (h 10 (by decide)).trans rfl
theorem im_11 {S : vSh} {B : Nat} (h : IM S B) : S[B + 11]? = some (.inl (0, 10)) := (h 11 (by decide)).trans rfl
theorem im_12 {S : vSh} {B : Nat} (h : IM S B) : S[B + 12]? = some (.inl (0, 10)) := (h 12 (by decide)).trans rfl
theorem im_13 {S : vSh} {B : Nat} (h : IM S B) : S[B + 13]? = some (.inl (0, 10)) := (h 13 (by decide)).trans rfl
theorem im_14 {S : vSh} {B : Nat} (h : IM S B) : S[B + 14]? = some (.inl (0, 100)) := (h 14 (by decide)).trans rfl
theorem im_15 {S : vSh} {B : Nat} (h : IM S B) : S[B + 15]? = some (.inl (0, 100)) := (h 15 (by decide)).trans rfl
theorem im_16 {S : vSh} {B : Nat} (h : IM S B) : S[B + 16]? = some (.inl (0, 100)) := (h 16 (by decide)).trans rfl
theorem im_17 {S : vSh} {B : Nat} (h : IM S B) : S[B + 17]? = some (.inl (0, 100)) := (h 17 (by decide)).trans rfl
theorem im_18 {S : vSh} {B : Nat} (h : IM S B) : S[B + 18]? = some (.inl (0, 100)) := (h 18 (by decide)).trans rfl
theorem im_19 {S : vSh} {B : Nat} (h : IM S B) : S[B + 19]? = some (.inr (4, [none, some (some (B + 20)), some (some (B + 21)), some (some (B + 22)), some (some (B + 23)), some (some (B + 24)), some (some (B + 25)), some (some (B + 26)), some (some (B + 27)), some (some (B + 28))])) := (h 19 (by decide)).trans rfl
theorem im_20 {S : vSh} {B : Nat} (h : IM S B) : S[B + 20]? = some (.inl (0, 4)) := (h 20 (by decide)).trans rfl
theorem im_21 {S : vSh} {B : Nat} (h : IM S B) : S[B + 21]? = some (.inl (0, 4)) := (h 21 (by decide)).trans rfl
theorem im_22 {S : vSh} {B : Nat} (h : IM S B) : S[B + 22]? = some (.inl (0, 64)) := (h 22 (by decide)).trans rfl
theorem im_23 {S : vSh} {B : Nat} (h : IM S B) : S[B + 23]? = some (.inl (0, 64)) := (h 23 (by decide)).trans rfl
theorem im_24 {S : vSh} {B : Nat} (h : IM S B) : S[B + 24]? = some (.inl (0, 64)) := (h 24 (by decide)).trans rfl
theorem im_25 {S : vSh} {B : Nat} (h : IM S B) : S[B + 25]? = some (.inl (0, 256)) := (h 25 (by decide)).trans rfl
theorem im_26 {S : vSh} {B : Nat} (h : IM S B) : S[B + 26]? = some (.inl (0, 256)) := (h 26 (by decide)).trans rfl
theorem im_27 {S : vSh} {B : Nat} (h : IM S B) : S[B + 27]? = some (.inl (0, 256)) := (h 27 (by decide)).trans rfl
theorem im_28 {S : vSh} {B : Nat} (h : IM S B) : S[B + 28]? = some (.inl (2, 256)) := (h 28 (by decide)).trans rfl
theorem im_29 {S : vSh} {B : Nat} (h : IM S B) : S[B + 29]? = some (.inr (5, [some (some (B + 30)), none, none, none])) := (h 29 (by decide)).trans rfl
theorem im_30 {S : vSh} {B : Nat} (h : IM S B) : S[B + 30]? = some (.inl (1, 500)) := (h 30 (by decide)).trans rfl
theorem im_31 {S : vSh} {B : Nat} (h : IM S B) : S[B + 31]? = some (.inr (6, [some (some (B + 1)), none, some (some (B + 32)), some (some (B + 33)), some (some (B + 34)), some (some (B + 35)), some (some (B + 36))])) := (h 31 (by decide)).trans rfl
theorem im_32 {S : vSh} {B : Nat} (h : IM S B) : S[B + 32]? = some (.inl (0, 100)) := (h 32 (by decide)).trans rfl
theorem im_33 {S : vSh} {B : Nat} (h : IM S B) : S[B + 33]? = some (.inl (0, 100)) := (h 33 (by decide)).trans rfl
theorem im_34 {S : vSh} {B : Nat} (h : IM S B) : S[B + 34]? = some (.inl (0, 100)) := (h 34 (by decide)).trans rfl
theorem im_35 {S : vSh} {B : Nat} (h : IM S B) : S[B + 35]? = some (.inl (0, 100)) := (h 35 (by decide)).trans rfl
theorem im_36 {S : vSh} {B : Nat} (h : IM S B) : S[B + 36]? = some (.inl (0, 100)) := (h 36 (by decide)).trans rfl
theorem im_37 {S : vSh} {B : Nat} (h : IM S B) : S[B + 37]? = some (.inr (7, [none, some (some (B + 38)), some (some (B + 39)), none, some (some (B + 40)), none, some (some (B + 41)), some (some (B + 42))])) := (h 37 (by decide)).trans rfl
theorem im_38 {S : vSh} {B : Nat} (h : IM S B) : S[B + 38]? = some (.inl (0, 12)) := (h 38 (by decide)).trans rfl
theorem im_39 {S : vSh} {B : Nat} (h : IM S B) : S[B + 39]? = some (.inl (0, 12)) := (h 39 (by decide)).trans rfl
theorem im_40 {S : vSh} {B : Nat} (h : IM S B) : S[B + 40]? = some (.inl (0, 12)) := (h 40 (by decide)).trans rfl
theorem im_41 {S : vSh} {B : Nat} (h : IM S B) : S[B + 41]? = some (.inl (0, 12)) := (h 41 (by decide)).trans rfl
theorem im_42 {S : vSh} {B : Nat} (h : IM S B) : S[B + 42]? = some (.inl (2, 12)) := (h 42 (by decide)).trans rfl
theorem IM_1 (T : vSh) : IM (S0 ++ T) 1 := fun j hj => match j, hj with
  | 0, _ => rfl
  | 1, _ => rfl
  | 2, _ => rfl
  | 3, _ => rfl
  | 4, _ => rfl
  | 5, _ => rfl
  | 6, _ => rfl
  | 7, _ => rfl
  | 8, _ => rfl
  | 9, _ => rfl
  | 10, _ => rfl
  | 11, _ => rfl
  | 12, _ => rfl
  | 13, _ => rfl
  | 14, _ => rfl
  | 15, _ => rfl
  | 16, _ => rfl
  | 17, _ => rfl
  | 18, _ => rfl
  | 19, _ => rfl
  | 20, _ => rfl
  | 21, _ => rfl
  | 22, _ => rfl
  | 23, _ => rfl
  | 24, _ => rfl
  | 25, _ => rfl
  | 26, _ => rfl
  | 27, _ => rfl
  | 28, _ => rfl
  | 29, _ => rfl
  | 30, _ => rfl
  | 31, _ => rfl
  | 32, _ => rfl
  | 33, _ => rfl
  | 34, _ => rfl
  | 35, _ => rfl
  | 36, _ => rfl
  | 37, _ => rfl
  | 38, _ => rfl
  | 39, _ => rfl
  | 40, _ => rfl
  | 41, _ => rfl
  | 42, _ => rfl
  | n + 43, h => absurd h (by omega)
def CRB (σ : vMem) (B : Nat) (A : Int → Int) : Prop := LandR (σ (B + 1)) (σ (B + 2)) (σ (B + 3)) (σ (B + 4)) (σ (B + 5)) (σ (B + 6)) (σ (B + 7)) (σ (B + 8)) A ∧ BookR (σ (B + 9)) (σ (B + 10)) (σ (B + 11)) (σ (B + 12)) (σ (B + 13)) (σ (B + 14)) (σ (B + 15)) (σ (B + 16)) (σ (B + 17)) (σ (B + 18)) A ∧ LawsR (σ (B + 19)) (σ (B + 20)) (σ (B + 21)) (σ (B + 22)) (σ (B + 23)) (σ (B + 24)) (σ (B + 25)) (σ (B + 26)) (σ (B + 27)) (σ (B + 28)) A ∧ TapeR (σ (B + 29)) (σ (B + 30)) A ∧ NewsR (σ (B + 31)) (σ (B + 32)) (σ (B + 33)) (σ (B + 34)) (σ (B + 35)) (σ (B + 36)) A ∧ MovesR (σ (B + 37)) (σ (B + 38)) (σ (B + 39)) A
theorem CRB_1 (σ : vMem) (A : Int → Int) : CRB σ 1 A ↔ CR σ A := Iff.rfl
theorem vCp_in {σ : vMem} {a b : Nat} {n i : Int} (h : 0 ≤ i ∧ i < n) : vCp σ a b n b i = σ a i := by simp [vCp, h]
theorem LandR_cp {L w x n h p c s L' w' x' n' h' p' c' s' A : Int → Int} (hn : 0 ≤ A 0 ∧ A 0 ≤ 12) (e0 : L' 0 = L 0) (e1 : L' 1 = L 1) (ew : ∀ i, 0 ≤ i → i < 12 → w' i = w i) (ex : ∀ i, 0 ≤ i → i < 12 → x' i = x i) (en : ∀ i, 0 ≤ i → i < 12 → n' i = n i) (eh : ∀ i, 0 ≤ i → i < 12 → h' i = h i) (ep : ∀ i, 0 ≤ i → i < 12 → p' i = p i) (ec : ∀ i, 0 ≤ i → i < 240 → c' i = c i) (es : ∀ i, 0 ≤ i → i < 20 → s' i = s i) (hR : LandR L w x n h p c s A) : LandR L' w' x' n' h' p' c' s' A := by
  obtain ⟨l0, l1, lV, lC, lZ, lS⟩ := hR
  refine ⟨by rw [e0]; exact l0, by rw [e1]; exact l1, fun v v1 v2 => ?_, fun v t v1 v2 t1 t2 => ?_, fun v t v1 v2 t1 t2 => ?_, fun t t1 t2 => by rw [es t t1 t2]; exact lS t t1 t2⟩
  · rw [ew v v1 (by omega), ex v v1 (by omega), en v v1 (by omega), eh v v1 (by omega), ep v v1 (by omega)]; exact lV v v1 v2
  · rw [ec _ (by omega) (by omega)]; exact lC v t v1 v2 t1 t2
  · rw [ec _ (by omega) (by omega)]; exact lZ v t v1 v2 t1 t2
theorem BookR_cp {B a b c d f g h i j B' a' b' c' d' f' g' h' i' j' A : Int → Int} (h1 : A 1 ≤ 10) (h2 : A 2 ≤ 100) (e0 : B' 0 = B 0) (e5 : B' 5 = B 5) (ea : ∀ k, 0 ≤ k → k < 10 → a' k = a k) (eb : ∀ k, 0 ≤ k → k < 10 → b' k = b k) (ec : ∀ k, 0 ≤ k → k < 10 → c' k = c k) (ed : ∀ k, 0 ≤ k → k < 10 → d' k = d k) (ef : ∀ k, 0 ≤ k → k < 100 → f' k = f k) (eg : ∀ k, 0 ≤ k → k < 100 → g' k = g k) (eh : ∀ k, 0 ≤ k → k < 100 → h' k = h k) (ei : ∀ k, 0 ≤ k → k < 100 → i' k = i k) (ej : ∀ k, 0 ≤ k → k < 100 → j' k = j k) (hR : BookR B a b c d f g h i j A) : BookR B' a' b' c' d' f' g' h' i' j' A := by
  obtain ⟨l0, l1, lO, lB⟩ := hR
  refine ⟨by rw [e0]; exact l0, by rw [e5]; exact l1, fun k k1 k2 => ?_, fun k k1 k2 => ?_⟩
  · rw [ea k k1 (by omega), eb k k1 (by omega), ec k k1 (by omega), ed k k1 (by omega)]; exact lO k k1 k2
  · rw [ef k k1 (by omega), eg k k1 (by omega), eh k k1 (by omega), ei k k1 (by omega), ej k k1 (by omega)]; exact lB k k1 k2
theorem LawsR_cp {W be li de am te su si lm ne W' be' li' de' am' te' su' si' lm' ne' A : Int → Int} (hO : okA A) (e0 : W' 0 = W 0) (e1 : ∀ k, 0 ≤ k → k < 4 → be' k = be k) (e2 : ∀ k, 0 ≤ k → k < 4 → li' k = li k) (e3 : ∀ k, 0 ≤ k → k < A 3 * 16 → de' k = de k) (e4 : ∀ k, 0 ≤ k → k < A 3 * 16 → am' k = am k) (e5 : ∀ k, 0 ≤ k → k < A 3 * 16 → te' k = te k) (e6 : ∀ k, 0 ≤ k → k < A 3 * 16 * 4 → su' k = su k) (e7 : ∀ k, 0 ≤ k → k < A 3 * 16 * 4 → si' k = si k) (e8 : ∀ k, 0 ≤ k → k < A 3 * 16 * 4 → lm' k = lm k) (e9 : ∀ k, 0 ≤ k → k < A 3 * 16 * 4 → ne' k = ne k % 2) (hR : LawsR W be li de am te su si lm ne A) : LawsR W' be' li' de' am' te' su' si' lm' ne' A := by
  obtain ⟨⟨q0, q1, q2, q3, q4, q5, q6, q7⟩, hVi, hWe, hCo, hOf, hBo, hWo, hMo, hRe, hLi, hTa⟩ := id hO
  obtain ⟨w0, wR, wL⟩ := hR
  refine ⟨by rw [e0]; exact w0, fun r r1 r2 => by rw [e1 r r1 (by omega), e2 r r1 (by omega)]; exact wR r r1 r2, fun r l r1 r2 l1 l2 => ?_⟩
  have hr9 := hRe r r1 r2
  have hn9 := hLi r l r1 r2 l1 l2
  have h9 := wL r l r1 r2 l1 l2
  rw [e3 _ (by omega) (by omega), e4 _ (by omega) (by omega), e5 _ (by omega) (by omega)]
  refine ⟨h9.1, h9.2.1, h9.2.2.1, fun t t1 t2 => ?_⟩
  have ht := hn9.1
  have h8 := h9.2.2.2 t t1 t2
  have h7 := (hn9.2.1 t t1 t2).1
  rw [e6 _ (by omega) (by omega), e7 _ (by omega) (by omega), e8 _ (by omega) (by omega), e9 _ (by omega) (by omega)]
  refine ⟨h8.1, h8.2.1, ?_, h8.2.2.2⟩
  rw [h8.2.2.1]
  omega
theorem TapeR_cp {P y P' y' A : Int → Int} (h7 : A 7 ≤ 500) (e1 : P' 1 = P 1) (e2 : P' 2 = P 2) (e3 : P' 3 = P 3) (ey : ∀ k, 0 ≤ k → k < 500 → y' k = y k) (hR : TapeR P y A) : TapeR P' y' A := by
  obtain ⟨t0, t1, t2, tR, tB⟩ := hR
  refine ⟨by rw [e1]; exact t0, by rw [e2]; exact t1, by rw [e3]; exact t2, fun i i1 i2 => by rw [ey i i1 i2]; exact tR i i1 i2, fun i i1 i2 => by rw [ey i i1 (by omega)]; exact tB i i1 i2⟩
theorem NewsR_cp {N a b c d e N' a' b' c' d' e' A : Int → Int} (h6 : A 6 ≤ 100) (e1 : N' 1 = N 1) (ea : ∀ k, 0 ≤ k → k < 100 → a' k = a k) (eb : ∀ k, 0 ≤ k → k < 100 → b' k = b k) (ec : ∀ k, 0 ≤ k → k < 100 → c' k = c k) (ed : ∀ k, 0 ≤ k → k < 100 → d' k = d k) (ee : ∀ k, 0 ≤ k → k < 100 → e' k = e k) (hR : NewsR N a b c d e A) : NewsR N' a' b' c' d' e' A := by
  obtain ⟨n9, nW⟩ := hR
  refine ⟨by rw [e1]; exact n9, fun k k1 k2 => ?_⟩
  rw [ea k k1 (by omega), eb k k1 (by omega), ec k k1 (by omega), ed k k1 (by omega), ee k k1 (by omega)]; exact nW k k1 k2
theorem MovesR_cp {M a b M' a' b' A : Int → Int} (h5 : A 5 ≤ 12) (e0 : M' 0 = M 0) (ea : ∀ k, 0 ≤ k → k < 12 → a' k = a k) (eb : ∀ k, 0 ≤ k → k < 12 → b' k = b k) (hR : MovesR M a b A) : MovesR M' a' b' A := by
  obtain ⟨m0, mM⟩ := hR
  refine ⟨by rw [e0]; exact m0, fun k k1 k2 => ?_⟩
  rw [ea k k1 (by omega), eb k k1 (by omega)]; exact mM k k1 k2

theorem c_La_copyFrom {σ : vMem} {S : vSh} {A : Int → Int} {a b : Nat} (hIa : IM S a) (hIb : IM S b) (hd : a + 43 ≤ b ∨ b + 43 ≤ a) (hO : okA A) (hR : LandR (σ (b + 1)) (σ (b + 2)) (σ (b + 3)) (σ (b + 4)) (σ (b + 5)) (σ (b + 6)) (σ (b + 7)) (σ (b + 8)) A) : mt_La_copyFrom [.ref (a + 1), .ref (b + 1)] S σ (rP S (fun _ σ2 => (∀ k, k < a + 1 ∨ a + 9 ≤ k → σ2 k = σ k) ∧ LandR (σ2 (a + 1)) (σ2 (a + 2)) (σ2 (a + 3)) (σ2 (a + 4)) (σ2 (a + 5)) (σ2 (a + 6)) (σ2 (a + 7)) (σ2 (a + 8)) A)) := by
  refine vMet.intro 0 (by decide +kernel) (Nat.le_of_ble_eq_true rfl) rfl (fun cx hM _ => ?_)
  obtain ⟨⟨q0, q1, q2, q3, q4, q5, q6, q7⟩, hVi, hWe, hCo, hOf, hBo, hWo, hMo, hRe, hLi, hTa⟩ := id hO
  refine v_aload0 d_La_copyFrom_0 ?_
  refine v_aload1 d_La_copyFrom_1 ?_
  refine v_getJ (ji := 0) d_La_copyFrom_2 f_La_43 (im_1 hIb) rfl rfl (fun g2 => ?_)
  refine v_putJ (ji := 0) d_La_copyFrom_5 p_La_43 (im_1 hIa) rfl rfl (by omega) ?_
  refine v_aload0 d_La_copyFrom_8 ?_
  refine v_aload1 d_La_copyFrom_9 ?_
  refine v_getJ (ji := 1) d_La_copyFrom_10 f_La_39 (im_1 hIb) rfl rfl (fun g10 => ?_)
  refine v_putJ (ji := 1) d_La_copyFrom_13 p_La_39 (im_1 hIa) rfl rfl (by omega) ?_
  refine v_aload1 d_La_copyFrom_16 ?_
  refine v_getR d_La_copyFrom_17 f_La_9 (im_1 hIb) rfl ?_
  refine v_iconst d_La_copyFrom_20 ?_
  refine v_aload0 d_La_copyFrom_21 ?_
  refine v_getR d_La_copyFrom_22 f_La_9 (im_1 hIa) rfl ?_
  refine v_iconst d_La_copyFrom_25 ?_
  refine v_bipush d_La_copyFrom_26 rfl ?_
  refine v_arraycopy (t := 0) (ty := .int) d_La_copyFrom_28 lx_La_70 cw_acn cw_acs cw_aci (by decide) (im_2 hIb) (im_2 hIa) (by omega) (fun h => absurd h (by decide)) (by decide) (Nat.le_of_ble_eq_true rfl) ?_
  refine v_aload1 d_La_copyFrom_31 ?_
  refine v_getR d_La_copyFrom_32 f_La_15 (im_1 hIb) rfl ?_
  refine v_iconst d_La_copyFrom_35 ?_
  refine v_aload0 d_La_copyFrom_36 ?_
  refine v_getR d_La_copyFrom_37 f_La_15 (im_1 hIa) rfl ?_
  refine v_iconst d_La_copyFrom_40 ?_
  refine v_bipush d_La_copyFrom_41 rfl ?_
  refine v_arraycopy (t := 0) (ty := .int) d_La_copyFrom_43 lx_La_70 cw_acn cw_acs cw_aci (by decide) (im_3 hIb) (im_3 hIa) (by omega) (fun h => absurd h (by decide)) (by decide) (Nat.le_of_ble_eq_true rfl) ?_
  refine v_aload1 d_La_copyFrom_46 ?_
  refine v_getR d_La_copyFrom_47 f_La_18 (im_1 hIb) rfl ?_
  refine v_iconst d_La_copyFrom_50 ?_
  refine v_aload0 d_La_copyFrom_51 ?_
  refine v_getR d_La_copyFrom_52 f_La_18 (im_1 hIa) rfl ?_
  refine v_iconst d_La_copyFrom_55 ?_
  refine v_bipush d_La_copyFrom_56 rfl ?_
  refine v_arraycopy (t := 0) (ty := .int) d_La_copyFrom_58 lx_La_70 cw_acn cw_acs cw_aci (by decide) (im_4 hIb) (im_4 hIa) (by omega) (fun h => absurd h (by decide)) (by decide) (Nat.le_of_ble_eq_true rfl) ?_
  refine v_aload1 d_La_copyFrom_61 ?_
  refine v_getR d_La_copyFrom_62 f_La_21 (im_1 hIb) rfl ?_
  refine v_iconst d_La_copyFrom_65 ?_
  refine v_aload0 d_La_copyFrom_66 ?_
  refine v_getR d_La_copyFrom_67 f_La_21 (im_1 hIa) rfl ?_
  refine v_iconst d_La_copyFrom_70 ?_
  refine v_bipush d_La_copyFrom_71 rfl ?_
  refine v_arraycopy (t := 0) (ty := .int) d_La_copyFrom_73 lx_La_70 cw_acn cw_acs cw_aci (by decide) (im_5 hIb) (im_5 hIa) (by omega) (fun h => absurd h (by decide)) (by decide) (Nat.le_of_ble_eq_true rfl) ?_
  refine v_aload1 d_La_copyFrom_76 ?_
  refine v_getR d_La_copyFrom_77 f_La_24 (im_1 hIb) rfl ?_
  refine v_iconst d_La_copyFrom_80 ?_
  refine v_aload0 d_La_copyFrom_81 ?_
  refine v_getR d_La_copyFrom_82 f_La_24 (im_1 hIa) rfl ?_
  refine v_iconst d_La_copyFrom_85 ?_
  refine v_bipush d_La_copyFrom_86 rfl ?_
  refine v_arraycopy (t := 0) (ty := .int) d_La_copyFrom_88 lx_La_70 cw_acn cw_acs cw_aci (by decide) (im_6 hIb) (im_6 hIa) (by omega) (fun h => absurd h (by decide)) (by decide) (Nat.le_of_ble_eq_true rfl) ?_
  refine v_aload1 d_La_copyFrom_91 ?_
  refine v_getR d_La_copyFrom_92 f_La_27 (im_1 hIb) rfl ?_
  refine v_iconst d_La_copyFrom_95 ?_
  refine v_aload0 d_La_copyFrom_96 ?_
  refine v_getR d_La_copyFrom_97 f_La_27 (im_1 hIa) rfl ?_
  refine v_iconst d_La_copyFrom_100 ?_
  refine v_sipush d_La_copyFrom_101 rfl ?_
  refine v_arraycopy (t := 0) (ty := .int) d_La_copyFrom_104 lx_La_70 cw_acn cw_acs cw_aci (by decide) (im_7 hIb) (im_7 hIa) (by omega) (fun h => absurd h (by decide)) (by decide) (Nat.le_of_ble_eq_true rfl) ?_
  refine v_aload1 d_La_copyFrom_107 ?_
  refine v_getR d_La_copyFrom_108 f_La_30 (im_1 hIb) rfl ?_
  refine v_iconst d_La_copyFrom_111 ?_
  refine v_aload0 d_La_copyFrom_112 ?_
  refine v_getR d_La_copyFrom_113 f_La_30 (im_1 hIa) rfl ?_
  refine v_iconst d_La_copyFrom_116 ?_
  refine v_bipush d_La_copyFrom_117 rfl ?_
  refine v_arraycopy (t := 0) (ty := .int) d_La_copyFrom_119 lx_La_70 cw_acn cw_acs cw_aci (by decide) (im_8 hIb) (im_8 hIa) (by omega) (fun h => absurd h (by decide)) (by decide) (Nat.le_of_ble_eq_true rfl) ?_
  exact v_return hM d_La_copyFrom_122 ⟨rfl, (fun k hk => by repeat (first | rw [vCp_ne (by omega)] | rw [vUp_ne (by omega)])), LandR_cp q0 (by repeat (first | rw [vCp_ne (by omega)] | rw [vUp_same] | rw [vUp_ix (by decide)] | rw [vUp_ne (by omega)])) (by repeat (first | rw [vCp_ne (by omega)] | rw [vUp_same] | rw [vUp_ix (by decide)] | rw [vUp_ne (by omega)])) (fun i i1 i2 => by (repeat (first | rw [vCp_ne (by omega)] | rw [vUp_ne (by omega)])); rw [vCp_in (by omega)]; (repeat (first | rw [vCp_ne (by omega)] | rw [vUp_ne (by omega)]))) (fun i i1 i2 => by (repeat (first | rw [vCp_ne (by omega)] | rw [vUp_ne (by omega)])); rw [vCp_in (by omega)]; (repeat (first | rw [vCp_ne (by omega)] | rw [vUp_ne (by omega)]))) (fun i i1 i2 => by (repeat (first | rw [vCp_ne (by omega)] | rw [vUp_ne (by omega)])); rw [vCp_in (by omega)]; (repeat (first | rw [vCp_ne (by omega)] | rw [vUp_ne (by omega)]))) (fun i i1 i2 => by (repeat (first | rw [vCp_ne (by omega)] | rw [vUp_ne (by omega)])); rw [vCp_in (by omega)]; (repeat (first | rw [vCp_ne (by omega)] | rw [vUp_ne (by omega)]))) (fun i i1 i2 => by (repeat (first | rw [vCp_ne (by omega)] | rw [vUp_ne (by omega)])); rw [vCp_in (by omega)]; (repeat (first | rw [vCp_ne (by omega)] | rw [vUp_ne (by omega)]))) (fun i i1 i2 => by (repeat (first | rw [vCp_ne (by omega)] | rw [vUp_ne (by omega)])); rw [vCp_in (by omega)]; (repeat (first | rw [vCp_ne (by omega)] | rw [vUp_ne (by omega)]))) (fun i i1 i2 => by (repeat (first | rw [vCp_ne (by omega)] | rw [vUp_ne (by omega)])); rw [vCp_in (by omega)]; (repeat (first | rw [vCp_ne (by omega)] | rw [vUp_ne (by omega)]))) hR⟩

theorem c_Bo_copyFrom {σ : vMem} {S : vSh} {A : Int → Int} {a b : Nat} (hIa : IM S a) (hIb : IM S b) (hd : a + 43 ≤ b ∨ b + 43 ≤ a) (hO : okA A) (hR : BookR (σ (b + 9)) (σ (b + 10)) (σ (b + 11)) (σ (b + 12)) (σ (b + 13)) (σ (b + 14)) (σ (b + 15)) (σ (b + 16)) (σ (b + 17)) (σ (b + 18)) A) : mt_Bo_copyFrom [.ref (a + 9), .ref (b + 9)] S σ (rP S (fun _ σ2 => (∀ k, k < a + 9 ∨ a + 19 ≤ k → σ2 k = σ k) ∧ BookR (σ2 (a + 9)) (σ2 (a + 10)) (σ2 (a + 11)) (σ2 (a + 12)) (σ2 (a + 13)) (σ2 (a + 14)) (σ2 (a + 15)) (σ2 (a + 16)) (σ2 (a + 17)) (σ2 (a + 18)) A)) := by
  refine vMet.intro 0 (by decide +kernel) (Nat.le_of_ble_eq_true rfl) rfl (fun cx hM _ => ?_)
  obtain ⟨⟨q0, q1, q2, q3, q4, q5, q6, q7⟩, hVi, hWe, hCo, hOf, hBo, hWo, hMo, hRe, hLi, hTa⟩ := id hO
  refine v_aload0 d_Bo_copyFrom_0 ?_
  refine v_aload1 d_Bo_copyFrom_1 ?_
  refine v_getJ (ji := 0) d_Bo_copyFrom_2 f_Bo_39 (im_9 hIb) rfl rfl (fun g2 => ?_)
  refine v_putJ (ji := 0) d_Bo_copyFrom_5 p_Bo_39 (im_9 hIa) rfl rfl (by omega) ?_
  refine v_aload1 d_Bo_copyFrom_8 ?_
  refine v_getR d_Bo_copyFrom_9 f_Bo_9 (im_9 hIb) rfl ?_
  refine v_iconst d_Bo_copyFrom_12 ?_
  refine v_aload0 d_Bo_copyFrom_13 ?_
  refine v_getR d_Bo_copyFrom_14 f_Bo_9 (im_9 hIa) rfl ?_
  refine v_iconst d_Bo_copyFrom_17 ?_
  refine v_bipush d_Bo_copyFrom_18 rfl ?_
  refine v_arraycopy (t := 0) (ty := .int) d_Bo_copyFrom_20 lx_Bo_54 cw_acn cw_acs cw_aci (by decide) (im_10 hIb) (im_10 hIa) (by omega) (fun h => absurd h (by decide)) (by decide) (Nat.le_of_ble_eq_true rfl) ?_
  refine v_aload1 d_Bo_copyFrom_23 ?_
  refine v_getR d_Bo_copyFrom_24 f_Bo_15 (im_9 hIb) rfl ?_
  refine v_iconst d_Bo_copyFrom_27 ?_
  refine v_aload0 d_Bo_copyFrom_28 ?_
  refine v_getR d_Bo_copyFrom_29 f_Bo_15 (im_9 hIa) rfl ?_
  refine v_iconst d_Bo_copyFrom_32 ?_
  refine v_bipush d_Bo_copyFrom_33 rfl ?_
  refine v_arraycopy (t := 0) (ty := .int) d_Bo_copyFrom_35 lx_Bo_54 cw_acn cw_acs cw_aci (by decide) (im_11 hIb) (im_11 hIa) (by omega) (fun h => absurd h (by decide)) (by decide) (Nat.le_of_ble_eq_true rfl) ?_
  refine v_aload1 d_Bo_copyFrom_38 ?_
  refine v_getR d_Bo_copyFrom_39 f_Bo_18 (im_9 hIb) rfl ?_
  refine v_iconst d_Bo_copyFrom_42 ?_
  refine v_aload0 d_Bo_copyFrom_43 ?_
  refine v_getR d_Bo_copyFrom_44 f_Bo_18 (im_9 hIa) rfl ?_
  refine v_iconst d_Bo_copyFrom_47 ?_
  refine v_bipush d_Bo_copyFrom_48 rfl ?_
  refine v_arraycopy (t := 0) (ty := .int) d_Bo_copyFrom_50 lx_Bo_54 cw_acn cw_acs cw_aci (by decide) (im_12 hIb) (im_12 hIa) (by omega) (fun h => absurd h (by decide)) (by decide) (Nat.le_of_ble_eq_true rfl) ?_
  refine v_aload1 d_Bo_copyFrom_53 ?_
  refine v_getR d_Bo_copyFrom_54 f_Bo_21 (im_9 hIb) rfl ?_
  refine v_iconst d_Bo_copyFrom_57 ?_
  refine v_aload0 d_Bo_copyFrom_58 ?_
  refine v_getR d_Bo_copyFrom_59 f_Bo_21 (im_9 hIa) rfl ?_
  refine v_iconst d_Bo_copyFrom_62 ?_
  refine v_bipush d_Bo_copyFrom_63 rfl ?_
  refine v_arraycopy (t := 0) (ty := .int) d_Bo_copyFrom_65 lx_Bo_54 cw_acn cw_acs cw_aci (by decide) (im_13 hIb) (im_13 hIa) (by omega) (fun h => absurd h (by decide)) (by decide) (Nat.le_of_ble_eq_true rfl) ?_
  refine v_aload0 d_Bo_copyFrom_68 ?_
  refine v_aload1 d_Bo_copyFrom_69 ?_
  refine v_getJ (ji := 5) d_Bo_copyFrom_70 f_Bo_43 (im_9 hIb) rfl rfl (fun g70 => ?_)
  refine v_putJ (ji := 5) d_Bo_copyFrom_73 p_Bo_43 (im_9 hIa) rfl rfl (by omega) ?_
  refine v_aload1 d_Bo_copyFrom_76 ?_
  refine v_getR d_Bo_copyFrom_77 f_Bo_24 (im_9 hIb) rfl ?_
  refine v_iconst d_Bo_copyFrom_80 ?_
  refine v_aload0 d_Bo_copyFrom_81 ?_
  refine v_getR d_Bo_copyFrom_82 f_Bo_24 (im_9 hIa) rfl ?_
  refine v_iconst d_Bo_copyFrom_85 ?_
  refine v_bipush d_Bo_copyFrom_86 rfl ?_
  refine v_arraycopy (t := 0) (ty := .int) d_Bo_copyFrom_88 lx_Bo_54 cw_acn cw_acs cw_aci (by decide) (im_14 hIb) (im_14 hIa) (by omega) (fun h => absurd h (by decide)) (by decide) (Nat.le_of_ble_eq_true rfl) ?_
  refine v_aload1 d_Bo_copyFrom_91 ?_
  refine v_getR d_Bo_copyFrom_92 f_Bo_27 (im_9 hIb) rfl ?_
  refine v_iconst d_Bo_copyFrom_95 ?_
  refine v_aload0 d_Bo_copyFrom_96 ?_
  refine v_getR d_Bo_copyFrom_97 f_Bo_27 (im_9 hIa) rfl ?_
  refine v_iconst d_Bo_copyFrom_100 ?_
  refine v_bipush d_Bo_copyFrom_101 rfl ?_
  refine v_arraycopy (t := 0) (ty := .int) d_Bo_copyFrom_103 lx_Bo_54 cw_acn cw_acs cw_aci (by decide) (im_15 hIb) (im_15 hIa) (by omega) (fun h => absurd h (by decide)) (by decide) (Nat.le_of_ble_eq_true rfl) ?_
  refine v_aload1 d_Bo_copyFrom_106 ?_
  refine v_getR d_Bo_copyFrom_107 f_Bo_30 (im_9 hIb) rfl ?_
  refine v_iconst d_Bo_copyFrom_110 ?_
  refine v_aload0 d_Bo_copyFrom_111 ?_
  refine v_getR d_Bo_copyFrom_112 f_Bo_30 (im_9 hIa) rfl ?_
  refine v_iconst d_Bo_copyFrom_115 ?_
  refine v_bipush d_Bo_copyFrom_116 rfl ?_
  refine v_arraycopy (t := 0) (ty := .int) d_Bo_copyFrom_118 lx_Bo_54 cw_acn cw_acs cw_aci (by decide) (im_16 hIb) (im_16 hIa) (by omega) (fun h => absurd h (by decide)) (by decide) (Nat.le_of_ble_eq_true rfl) ?_
  refine v_aload1 d_Bo_copyFrom_121 ?_
  refine v_getR d_Bo_copyFrom_122 f_Bo_33 (im_9 hIb) rfl ?_
  refine v_iconst d_Bo_copyFrom_125 ?_
  refine v_aload0 d_Bo_copyFrom_126 ?_
  refine v_getR d_Bo_copyFrom_127 f_Bo_33 (im_9 hIa) rfl ?_
  refine v_iconst d_Bo_copyFrom_130 ?_
  refine v_bipush d_Bo_copyFrom_131 rfl ?_
  refine v_arraycopy (t := 0) (ty := .int) d_Bo_copyFrom_133 lx_Bo_54 cw_acn cw_acs cw_aci (by decide) (im_17 hIb) (im_17 hIa) (by omega) (fun h => absurd h (by decide)) (by decide) (Nat.le_of_ble_eq_true rfl) ?_
  refine v_aload1 d_Bo_copyFrom_136 ?_
  refine v_getR d_Bo_copyFrom_137 f_Bo_36 (im_9 hIb) rfl ?_
  refine v_iconst d_Bo_copyFrom_140 ?_
  refine v_aload0 d_Bo_copyFrom_141 ?_
  refine v_getR d_Bo_copyFrom_142 f_Bo_36 (im_9 hIa) rfl ?_
  refine v_iconst d_Bo_copyFrom_145 ?_
  refine v_bipush d_Bo_copyFrom_146 rfl ?_
  refine v_arraycopy (t := 0) (ty := .int) d_Bo_copyFrom_148 lx_Bo_54 cw_acn cw_acs cw_aci (by decide) (im_18 hIb) (im_18 hIa) (by omega) (fun h => absurd h (by decide)) (by decide) (Nat.le_of_ble_eq_true rfl) ?_
  exact v_return hM d_Bo_copyFrom_151 ⟨rfl, (fun k hk => by repeat (first | rw [vCp_ne (by omega)] | rw [vUp_ne (by omega)])), BookR_cp q1.2 q2.2 (by repeat (first | rw [vCp_ne (by omega)] | rw [vUp_same] | rw [vUp_ix (by decide)] | rw [vUp_ne (by omega)])) (by repeat (first | rw [vCp_ne (by omega)] | rw [vUp_same] | rw [vUp_ix (by decide)] | rw [vUp_ne (by omega)])) (fun i i1 i2 => by (repeat (first | rw [vCp_ne (by omega)] | rw [vUp_ne (by omega)])); rw [vCp_in (by omega)]; (repeat (first | rw [vCp_ne (by omega)] | rw [vUp_ne (by omega)]))) (fun i i1 i2 => by (repeat (first | rw [vCp_ne (by omega)] | rw [vUp_ne (by omega)])); rw [vCp_in (by omega)]; (repeat (first | rw [vCp_ne (by omega)] | rw [vUp_ne (by omega)]))) (fun i i1 i2 => by (repeat (first | rw [vCp_ne (by omega)] | rw [vUp_ne (by omega)])); rw [vCp_in (by omega)]; (repeat (first | rw [vCp_ne (by omega)] | rw [vUp_ne (by omega)]))) (fun i i1 i2 => by (repeat (first | rw [vCp_ne (by omega)] | rw [vUp_ne (by omega)])); rw [vCp_in (by omega)]; (repeat (first | rw [vCp_ne (by omega)] | rw [vUp_ne (by omega)]))) (fun i i1 i2 => by (repeat (first | rw [vCp_ne (by omega)] | rw [vUp_ne (by omega)])); rw [vCp_in (by omega)]; (repeat (first | rw [vCp_ne (by omega)] | rw [vUp_ne (by omega)]))) (fun i i1 i2 => by (repeat (first | rw [vCp_ne (by omega)] | rw [vUp_ne (by omega)])); rw [vCp_in (by omega)]; (repeat (first | rw [vCp_ne (by omega)] | rw [vUp_ne (by omega)]))) (fun i i1 i2 => by (repeat (first | rw [vCp_ne (by omega)] | rw [vUp_ne (by omega)])); rw [vCp_in (by omega)]; (repeat (first | rw [vCp_ne (by omega)] | rw [vUp_ne (by omega)]))) (fun i i1 i2 => by (repeat (first | rw [vCp_ne (by omega)] | rw [vUp_ne (by omega)])); rw [vCp_in (by omega)]; (repeat (first | rw [vCp_ne (by omega)] | rw [vUp_ne (by omega)]))) (fun i i1 i2 => by (repeat (first | rw [vCp_ne (by omega)] | rw [vUp_ne (by omega)])); rw [vCp_in (by omega)]; (repeat (first | rw [vCp_ne (by omega)] | rw [vUp_ne (by omega)]))) hR⟩

theorem c_Ta_copyFrom {σ : vMem} {S : vSh} {A : Int → Int} {a b : Nat} (hIa : IM S a) (hIb : IM S b) (hd : a + 43 ≤ b ∨ b + 43 ≤ a) (hO : okA A) (hR : TapeR (σ (b + 29)) (σ (b + 30)) A) : mt_Ta_copyFrom [.ref (a + 29), .ref (b + 29)] S σ (rP S (fun _ σ2 => (∀ k, k < a + 29 ∨ a + 31 ≤ k → σ2 k = σ k) ∧ TapeR (σ2 (a + 29)) (σ2 (a + 30)) A)) := by
  refine vMet.intro 0 (by decide +kernel) (Nat.le_of_ble_eq_true rfl) rfl (fun cx hM _ => ?_)
  obtain ⟨⟨q0, q1, q2, q3, q4, q5, q6, q7⟩, hVi, hWe, hCo, hOf, hBo, hWo, hMo, hRe, hLi, hTa⟩ := id hO
  refine v_aload0 d_Ta_copyFrom_0 ?_
  refine v_aload1 d_Ta_copyFrom_1 ?_
  refine v_getJ (ji := 1) d_Ta_copyFrom_2 f_Ta_19 (im_29 hIb) rfl rfl (fun g2 => ?_)
  refine v_putJ (ji := 1) d_Ta_copyFrom_5 p_Ta_19 (im_29 hIa) rfl rfl (by omega) ?_
  refine v_aload0 d_Ta_copyFrom_8 ?_
  refine v_aload1 d_Ta_copyFrom_9 ?_
  refine v_getJ (ji := 2) d_Ta_copyFrom_10 f_Ta_22 (im_29 hIb) rfl rfl (fun g10 => ?_)
  refine v_putJ (ji := 2) d_Ta_copyFrom_13 p_Ta_22 (im_29 hIa) rfl rfl (by omega) ?_
  refine v_aload0 d_Ta_copyFrom_16 ?_
  refine v_aload1 d_Ta_copyFrom_17 ?_
  refine v_getJ (ji := 3) d_Ta_copyFrom_18 f_Ta_15 (im_29 hIb) rfl rfl (fun g18 => ?_)
  refine v_putJ (ji := 3) d_Ta_copyFrom_21 p_Ta_15 (im_29 hIa) rfl rfl (by omega) ?_
  refine v_aload1 d_Ta_copyFrom_24 ?_
  refine v_getR d_Ta_copyFrom_25 f_Ta_9 (im_29 hIb) rfl ?_
  refine v_iconst d_Ta_copyFrom_28 ?_
  refine v_aload0 d_Ta_copyFrom_29 ?_
  refine v_getR d_Ta_copyFrom_30 f_Ta_9 (im_29 hIa) rfl ?_
  refine v_iconst d_Ta_copyFrom_33 ?_
  refine v_sipush d_Ta_copyFrom_34 rfl ?_
  refine v_arraycopy (t := 1) (ty := .byte) d_Ta_copyFrom_37 lx_Ta_25 cw_acn cw_acs cw_aci (by decide) (im_30 hIb) (im_30 hIa) (by omega) (fun _ i hi => by first | (rw [vUp_ne (by omega), vUp_ne (by omega), vUp_ne (by omega)]; exact hR.2.2.2.1 i hi.1 (by omega))) (by decide) (Nat.le_of_ble_eq_true rfl) ?_
  exact v_return hM d_Ta_copyFrom_40 ⟨rfl, (fun k hk => by repeat (first | rw [vCp_ne (by omega)] | rw [vUp_ne (by omega)])), TapeR_cp q7.2 (by repeat (first | rw [vCp_ne (by omega)] | rw [vUp_same] | rw [vUp_ix (by decide)] | rw [vUp_ne (by omega)])) (by repeat (first | rw [vCp_ne (by omega)] | rw [vUp_same] | rw [vUp_ix (by decide)] | rw [vUp_ne (by omega)])) (by repeat (first | rw [vCp_ne (by omega)] | rw [vUp_same] | rw [vUp_ix (by decide)] | rw [vUp_ne (by omega)])) (fun i i1 i2 => by (repeat (first | rw [vCp_ne (by omega)] | rw [vUp_ne (by omega)])); rw [vCp_in (by omega)]; (repeat (first | rw [vCp_ne (by omega)] | rw [vUp_ne (by omega)]))) hR⟩

theorem c_Ne_copyFrom {σ : vMem} {S : vSh} {A : Int → Int} {a b : Nat} (hIa : IM S a) (hIb : IM S b) (hd : a + 43 ≤ b ∨ b + 43 ≤ a) (hO : okA A) (hR : NewsR (σ (b + 31)) (σ (b + 32)) (σ (b + 33)) (σ (b + 34)) (σ (b + 35)) (σ (b + 36)) A) : mt_Ne_copyFrom [.ref (a + 31), .ref (b + 31)] S σ (rP S (fun _ σ2 => (∀ k, k < a + 31 ∨ a + 37 ≤ k → σ2 k = σ k) ∧ NewsR (σ2 (a + 31)) (σ2 (a + 32)) (σ2 (a + 33)) (σ2 (a + 34)) (σ2 (a + 35)) (σ2 (a + 36)) A)) := by
  refine vMet.intro 0 (by decide +kernel) (Nat.le_of_ble_eq_true rfl) rfl (fun cx hM _ => ?_)
  obtain ⟨⟨q0, q1, q2, q3, q4, q5, q6, q7⟩, hVi, hWe, hCo, hOf, hBo, hWo, hMo, hRe, hLi, hTa⟩ := id hO
  refine v_aload0 d_Ne_copyFrom_0 ?_
  refine v_aload1 d_Ne_copyFrom_1 ?_
  refine v_getJ (ji := 1) d_Ne_copyFrom_2 f_Ne_31 (im_31 hIb) rfl rfl (fun g2 => ?_)
  refine v_putJ (ji := 1) d_Ne_copyFrom_5 p_Ne_31 (im_31 hIa) rfl rfl (by omega) ?_
  refine v_aload1 d_Ne_copyFrom_8 ?_
  refine v_getR d_Ne_copyFrom_9 f_Ne_9 (im_31 hIb) rfl ?_
  refine v_iconst d_Ne_copyFrom_12 ?_
  refine v_aload0 d_Ne_copyFrom_13 ?_
  refine v_getR d_Ne_copyFrom_14 f_Ne_9 (im_31 hIa) rfl ?_
  refine v_iconst d_Ne_copyFrom_17 ?_
  refine v_bipush d_Ne_copyFrom_18 rfl ?_
  refine v_arraycopy (t := 0) (ty := .int) d_Ne_copyFrom_20 lx_Ne_61 cw_acn cw_acs cw_aci (by decide) (im_32 hIb) (im_32 hIa) (by omega) (fun h => absurd h (by decide)) (by decide) (Nat.le_of_ble_eq_true rfl) ?_
  refine v_aload1 d_Ne_copyFrom_23 ?_
  refine v_getR d_Ne_copyFrom_24 f_Ne_15 (im_31 hIb) rfl ?_
  refine v_iconst d_Ne_copyFrom_27 ?_
  refine v_aload0 d_Ne_copyFrom_28 ?_
  refine v_getR d_Ne_copyFrom_29 f_Ne_15 (im_31 hIa) rfl ?_
  refine v_iconst d_Ne_copyFrom_32 ?_
  refine v_bipush d_Ne_copyFrom_33 rfl ?_
  refine v_arraycopy (t := 0) (ty := .int) d_Ne_copyFrom_35 lx_Ne_61 cw_acn cw_acs cw_aci (by decide) (im_33 hIb) (im_33 hIa) (by omega) (fun h => absurd h (by decide)) (by decide) (Nat.le_of_ble_eq_true rfl) ?_
  refine v_aload1 d_Ne_copyFrom_38 ?_
  refine v_getR d_Ne_copyFrom_39 f_Ne_18 (im_31 hIb) rfl ?_
  refine v_iconst d_Ne_copyFrom_42 ?_
  refine v_aload0 d_Ne_copyFrom_43 ?_
  refine v_getR d_Ne_copyFrom_44 f_Ne_18 (im_31 hIa) rfl ?_
  refine v_iconst d_Ne_copyFrom_47 ?_
  refine v_bipush d_Ne_copyFrom_48 rfl ?_
  refine v_arraycopy (t := 0) (ty := .int) d_Ne_copyFrom_50 lx_Ne_61 cw_acn cw_acs cw_aci (by decide) (im_34 hIb) (im_34 hIa) (by omega) (fun h => absurd h (by decide)) (by decide) (Nat.le_of_ble_eq_true rfl) ?_
  refine v_aload1 d_Ne_copyFrom_53 ?_
  refine v_getR d_Ne_copyFrom_54 f_Ne_21 (im_31 hIb) rfl ?_
  refine v_iconst d_Ne_copyFrom_57 ?_
  refine v_aload0 d_Ne_copyFrom_58 ?_
  refine v_getR d_Ne_copyFrom_59 f_Ne_21 (im_31 hIa) rfl ?_
  refine v_iconst d_Ne_copyFrom_62 ?_
  refine v_bipush d_Ne_copyFrom_63 rfl ?_
  refine v_arraycopy (t := 0) (ty := .int) d_Ne_copyFrom_65 lx_Ne_61 cw_acn cw_acs cw_aci (by decide) (im_35 hIb) (im_35 hIa) (by omega) (fun h => absurd h (by decide)) (by decide) (Nat.le_of_ble_eq_true rfl) ?_
  refine v_aload1 d_Ne_copyFrom_68 ?_
  refine v_getR d_Ne_copyFrom_69 f_Ne_24 (im_31 hIb) rfl ?_
  refine v_iconst d_Ne_copyFrom_72 ?_
  refine v_aload0 d_Ne_copyFrom_73 ?_
  refine v_getR d_Ne_copyFrom_74 f_Ne_24 (im_31 hIa) rfl ?_
  refine v_iconst d_Ne_copyFrom_77 ?_
  refine v_bipush d_Ne_copyFrom_78 rfl ?_
  refine v_arraycopy (t := 0) (ty := .int) d_Ne_copyFrom_80 lx_Ne_61 cw_acn cw_acs cw_aci (by decide) (im_36 hIb) (im_36 hIa) (by omega) (fun h => absurd h (by decide)) (by decide) (Nat.le_of_ble_eq_true rfl) ?_
  exact v_return hM d_Ne_copyFrom_83 ⟨rfl, (fun k hk => by repeat (first | rw [vCp_ne (by omega)] | rw [vUp_ne (by omega)])), NewsR_cp q6.2 (by repeat (first | rw [vCp_ne (by omega)] | rw [vUp_same] | rw [vUp_ix (by decide)] | rw [vUp_ne (by omega)])) (fun i i1 i2 => by (repeat (first | rw [vCp_ne (by omega)] | rw [vUp_ne (by omega)])); rw [vCp_in (by omega)]; (repeat (first | rw [vCp_ne (by omega)] | rw [vUp_ne (by omega)]))) (fun i i1 i2 => by (repeat (first | rw [vCp_ne (by omega)] | rw [vUp_ne (by omega)])); rw [vCp_in (by omega)]; (repeat (first | rw [vCp_ne (by omega)] | rw [vUp_ne (by omega)]))) (fun i i1 i2 => by (repeat (first | rw [vCp_ne (by omega)] | rw [vUp_ne (by omega)])); rw [vCp_in (by omega)]; (repeat (first | rw [vCp_ne (by omega)] | rw [vUp_ne (by omega)]))) (fun i i1 i2 => by (repeat (first | rw [vCp_ne (by omega)] | rw [vUp_ne (by omega)])); rw [vCp_in (by omega)]; (repeat (first | rw [vCp_ne (by omega)] | rw [vUp_ne (by omega)]))) (fun i i1 i2 => by (repeat (first | rw [vCp_ne (by omega)] | rw [vUp_ne (by omega)])); rw [vCp_in (by omega)]; (repeat (first | rw [vCp_ne (by omega)] | rw [vUp_ne (by omega)]))) hR⟩

theorem c_Mo_copyFrom {σ : vMem} {S : vSh} {A : Int → Int} {a b : Nat} (hIa : IM S a) (hIb : IM S b) (hd : a + 43 ≤ b ∨ b + 43 ≤ a) (hO : okA A) (hR : MovesR (σ (b + 37)) (σ (b + 38)) (σ (b + 39)) A) : mt_Mo_copyFrom [.ref (a + 37), .ref (b + 37)] S σ (rP S (fun _ σ2 => (∀ k, k < a + 37 ∨ a + 40 ≤ k → σ2 k = σ k) ∧ MovesR (σ2 (a + 37)) (σ2 (a + 38)) (σ2 (a + 39)) A)) := by
  refine vMet.intro 0 (by decide +kernel) (Nat.le_of_ble_eq_true rfl) rfl (fun cx hM _ => ?_)
  obtain ⟨⟨q0, q1, q2, q3, q4, q5, q6, q7⟩, hVi, hWe, hCo, hOf, hBo, hWo, hMo, hRe, hLi, hTa⟩ := id hO
  refine v_aload0 d_Mo_copyFrom_0 ?_
  refine v_aload1 d_Mo_copyFrom_1 ?_
  refine v_getJ (ji := 0) d_Mo_copyFrom_2 f_Mo_28 (im_37 hIb) rfl rfl (fun g2 => ?_)
  refine v_putJ (ji := 0) d_Mo_copyFrom_5 p_Mo_28 (im_37 hIa) rfl rfl (by omega) ?_
  refine v_aload1 d_Mo_copyFrom_8 ?_
  refine v_getR d_Mo_copyFrom_9 f_Mo_9 (im_37 hIb) rfl ?_
  refine v_iconst d_Mo_copyFrom_12 ?_
  refine v_aload0 d_Mo_copyFrom_13 ?_
  refine v_getR d_Mo_copyFrom_14 f_Mo_9 (im_37 hIa) rfl ?_
  refine v_iconst d_Mo_copyFrom_17 ?_
  refine v_bipush d_Mo_copyFrom_18 rfl ?_
  refine v_arraycopy (t := 0) (ty := .int) d_Mo_copyFrom_20 lx_Mo_55 cw_acn cw_acs cw_aci (by decide) (im_38 hIb) (im_38 hIa) (by omega) (fun h => absurd h (by decide)) (by decide) (Nat.le_of_ble_eq_true rfl) ?_
  refine v_aload1 d_Mo_copyFrom_23 ?_
  refine v_getR d_Mo_copyFrom_24 f_Mo_15 (im_37 hIb) rfl ?_
  refine v_iconst d_Mo_copyFrom_27 ?_
  refine v_aload0 d_Mo_copyFrom_28 ?_
  refine v_getR d_Mo_copyFrom_29 f_Mo_15 (im_37 hIa) rfl ?_
  refine v_iconst d_Mo_copyFrom_32 ?_
  refine v_bipush d_Mo_copyFrom_33 rfl ?_
  refine v_arraycopy (t := 0) (ty := .int) d_Mo_copyFrom_35 lx_Mo_55 cw_acn cw_acs cw_aci (by decide) (im_39 hIb) (im_39 hIa) (by omega) (fun h => absurd h (by decide)) (by decide) (Nat.le_of_ble_eq_true rfl) ?_
  exact v_return hM d_Mo_copyFrom_38 ⟨rfl, (fun k hk => by repeat (first | rw [vCp_ne (by omega)] | rw [vUp_ne (by omega)])), MovesR_cp q5.2 (by repeat (first | rw [vCp_ne (by omega)] | rw [vUp_same] | rw [vUp_ix (by decide)] | rw [vUp_ne (by omega)])) (fun i i1 i2 => by (repeat (first | rw [vCp_ne (by omega)] | rw [vUp_ne (by omega)])); rw [vCp_in (by omega)]; (repeat (first | rw [vCp_ne (by omega)] | rw [vUp_ne (by omega)]))) (fun i i1 i2 => by (repeat (first | rw [vCp_ne (by omega)] | rw [vUp_ne (by omega)])); rw [vCp_in (by omega)]; (repeat (first | rw [vCp_ne (by omega)] | rw [vUp_ne (by omega)]))) hR⟩

section
variable {cx : vCx} {own : String} {cc : ByteArray} {nL d MC MS kc ks pc pc' : Nat} {L : List (Option Value)} {st : List Value} {S : vSh} {σ : vMem}
theorem v_zastoreG {r n : Nat} {i v : Int} (hd : vD cc pc (.bastore) 1 pc') (hr : S[r]? = some (.inl (2, n))) (hi : 0 ≤ i ∧ i < n) (k : vV cx own cc nL d MC MS kc ks pc' L st S (vUp σ r i (v % 2))) : vV cx own cc nL d MC MS kc ks pc L (.int (iI v) :: .int (iI i) :: .ref r :: st) S σ := by
  obtain ⟨p, l, e, R, s, m, args, below, meth, c, Q, D, cA, A, ad0, n0⟩ := cx
  obtain ⟨hd, hpc⟩ := hd
  subst hpc
  intro C ad H locs ls hP hD hS hW hl hL hst hkc hks hz7 hn7
  have hnn := hW.2.2.2 r 2 n hr
  have hx : vp_nar .boolean (iI v) = iI (v % 2) := by
    rw [← band1]
    simp [vp_nar, narrow]
    rfl
  refine va_zast C.1 C.2.1 C.2.2.2.2.2.1 hP hD hS r 2 (vWs_at hr) rfl (vIn_ix hi hnn) hd (fun H1 locs1 hP1 hD1 hS1 => ?_)
  have e : (vWs cA ad S σ).set r (ad r, .inl (cA 2, n, .inl (upd (fun j : Nat => iI (σ r (j : Int))) (iI i).toNatClampNeg (vp_nar .boolean (iI v))))) = vWs cA ad S (vUp σ r i (v % 2)) := by
    refine vWs_set hr ?_ (fun j hj => vUp_ne hj)
    rw [hx]
    simp only [vCell, vArr, Nat.reduceEqDiff, if_false]
    congr 4
    funext j
    simp only [upd, vUp, if_true]
    have h9 := vIx hi hnn
    by_cases q : j = (iI i).toNatClampNeg
    · rw [if_pos q, if_pos (by omega)]
    · rw [if_neg q, if_neg (by omega)]
  exact k C ad H1 locs1 ls (e ▸ hP1) (e ▸ hD1) hS1 (vWf_up hW (fun n q => by rw [hr] at q; cases q) (by omega)) hl hL (vSt_tl (vSt_tl (vSt_tl hst))) hkc hks hz7 hn7
end
theorem c_Lw_copyFrom_135 {cx : vCx} {σ : vMem} {S : vSh} {a b : Nat} (hIa : IM S a) (hIb : IM S b) (hd : a + 43 ≤ b ∨ b + 43 ≤ a) {us u : Int} (hu : 0 ≤ u ∧ u ≤ 256) {RT : vRT} (hM : vM cx 0 0 none RT) (hR : ∀ σ2 : vMem, (∀ k, k ≠ a + 28 → σ2 k = σ k) → (∀ x : Int, 0 ≤ x → x < u → σ2 (a + 28) x = σ (b + 28) x % 2) → RT 0 S σ2) : ∀ (n j : Nat) (i : Int) (σ1 : vMem), (j : Int) + n = u → i = j → (∀ k, k ≠ a + 28 → σ1 k = σ k) → (∀ x : Int, 0 ≤ x → x < j → σ1 (a + 28) x = σ (b + 28) x % 2) → vV cx y_Lw_copyFrom.cls prog_6_method_4_code 5 1 0 0 0 0 135 [some (.ref (a + 19)), some (.ref (b + 19)), some (.int (iI us)), some (.int (iI u)), some (.int (iI i))] [] S σ1 := by
  intro n
  induction n with
  | zero =>
    intro j i σ1 hj hi hσ hm
    refine v_iload4 d_Lw_copyFrom_135 ?_
    refine v_iload3 d_Lw_copyFrom_137 ?_
    refine v_icmp_ge d_Lw_copyFrom_138 (by omega) (by omega) (fun u138 => ?_) (fun u138 => ?_)
    · exact v_return hM d_Lw_copyFrom_161 (hR σ1 hσ (fun x x1 x2 => hm x x1 (by omega)))
    · omega
  | succ n ih =>
    intro j i σ1 hj hi hσ hm
    refine v_iload4 d_Lw_copyFrom_135 ?_
    refine v_iload3 d_Lw_copyFrom_137 ?_
    refine v_icmp_ge d_Lw_copyFrom_138 (by omega) (by omega) (fun u138 => ?_) (fun u138 => ?_)
    · omega
    · refine v_aload0 d_Lw_copyFrom_141 ?_
      refine v_getR d_Lw_copyFrom_142 f_Lw_36 (im_19 hIa) rfl ?_
      refine v_iload4 d_Lw_copyFrom_145 ?_
      refine v_aload1 d_Lw_copyFrom_147 ?_
      refine v_getR d_Lw_copyFrom_148 f_Lw_36 (im_19 hIb) rfl ?_
      refine v_iload4 d_Lw_copyFrom_151 ?_
      refine v_zaload d_Lw_copyFrom_153 (im_28 hIb) (by omega) (fun g153 => ?_)
      refine v_zastoreG d_Lw_copyFrom_154 (im_28 hIa) (by omega) ?_
      refine v_iinc4 d_Lw_copyFrom_155 (by decide) rfl ?_
      refine v_goto d_Lw_copyFrom_158 ?_
      exact ih (j + 1) _ _ (by omega) (by omega) (fun k hk => by rw [vUp_ne hk]; exact hσ k hk) (fun x x1 x2 => by
        by_cases q : x = i
        · rw [q, vUp_same, hσ _ (by omega)]
        · rw [vUp_ix q]; exact hm x x1 (by omega))

theorem c_Lw_copyFrom {σ : vMem} {S : vSh} {A : Int → Int} {a b : Nat} (hIa : IM S a) (hIb : IM S b) (hd : a + 43 ≤ b ∨ b + 43 ≤ a) (hO : okA A) (hR : LawsR (σ (b + 19)) (σ (b + 20)) (σ (b + 21)) (σ (b + 22)) (σ (b + 23)) (σ (b + 24)) (σ (b + 25)) (σ (b + 26)) (σ (b + 27)) (σ (b + 28)) A) : mt_Lw_copyFrom [.ref (a + 19), .ref (b + 19)] S σ (rP S (fun _ σ2 => (∀ k, k < a + 19 ∨ a + 29 ≤ k → σ2 k = σ k) ∧ LawsR (σ2 (a + 19)) (σ2 (a + 20)) (σ2 (a + 21)) (σ2 (a + 22)) (σ2 (a + 23)) (σ2 (a + 24)) (σ2 (a + 25)) (σ2 (a + 26)) (σ2 (a + 27)) (σ2 (a + 28)) A)) := by
  refine vMet.intro 3 (by decide +kernel) (Nat.le_of_ble_eq_true rfl) rfl (fun cx hM _ => ?_)
  obtain ⟨⟨q0, q1, q2, q3, q4, q5, q6, q7⟩, hVi, hWe, hCo, hOf, hBo, hWo, hMo, hRe, hLi, hTa⟩ := id hO
  have w0 : σ (b + 19) 0 = A 3 := hR.1
  refine v_aload0 d_Lw_copyFrom_0 ?_
  refine v_aload1 d_Lw_copyFrom_1 ?_
  refine v_getJ (ji := 0) d_Lw_copyFrom_2 f_Lw_40 (im_19 hIb) rfl rfl (fun g2 => ?_)
  refine v_putJ (ji := 0) d_Lw_copyFrom_5 p_Lw_40 (im_19 hIa) rfl rfl (by omega) ?_
  refine v_aload1 d_Lw_copyFrom_8 ?_
  refine v_getR d_Lw_copyFrom_9 f_Lw_9 (im_19 hIb) rfl ?_
  refine v_iconst d_Lw_copyFrom_12 ?_
  refine v_aload0 d_Lw_copyFrom_13 ?_
  refine v_getR d_Lw_copyFrom_14 f_Lw_9 (im_19 hIa) rfl ?_
  refine v_iconst d_Lw_copyFrom_17 ?_
  refine v_iconst d_Lw_copyFrom_18 ?_
  refine v_arraycopy (t := 0) (ty := .int) d_Lw_copyFrom_19 lx_Lw_44 cw_acn cw_acs cw_aci (by decide) (im_20 hIb) (im_20 hIa) (by omega) (fun h => absurd h (by decide)) (by decide) (Nat.le_of_ble_eq_true rfl) ?_
  refine v_aload1 d_Lw_copyFrom_22 ?_
  refine v_getR d_Lw_copyFrom_23 f_Lw_15 (im_19 hIb) rfl ?_
  refine v_iconst d_Lw_copyFrom_26 ?_
  refine v_aload0 d_Lw_copyFrom_27 ?_
  refine v_getR d_Lw_copyFrom_28 f_Lw_15 (im_19 hIa) rfl ?_
  refine v_iconst d_Lw_copyFrom_31 ?_
  refine v_iconst d_Lw_copyFrom_32 ?_
  refine v_arraycopy (t := 0) (ty := .int) d_Lw_copyFrom_33 lx_Lw_44 cw_acn cw_acs cw_aci (by decide) (im_21 hIb) (im_21 hIa) (by omega) (fun h => absurd h (by decide)) (by decide) (Nat.le_of_ble_eq_true rfl) ?_
  refine v_aload0 d_Lw_copyFrom_36 ?_
  refine v_getJ (ji := 0) d_Lw_copyFrom_37 f_Lw_40 (im_19 hIa) rfl rfl (fun g37 => ?_)
  rw [vCp_ne (by omega), vCp_ne (by omega), vUp_same, w0] at g37 ⊢
  refine v_bipush d_Lw_copyFrom_40 rfl ?_
  refine v_imul d_Lw_copyFrom_42 ?_
  refine v_istore2 d_Lw_copyFrom_43 (by decide) rfl ?_
  refine v_aload1 d_Lw_copyFrom_44 ?_
  refine v_getR d_Lw_copyFrom_45 f_Lw_18 (im_19 hIb) rfl ?_
  refine v_iconst d_Lw_copyFrom_48 ?_
  refine v_aload0 d_Lw_copyFrom_49 ?_
  refine v_getR d_Lw_copyFrom_50 f_Lw_18 (im_19 hIa) rfl ?_
  refine v_iconst d_Lw_copyFrom_53 ?_
  refine v_iload2 d_Lw_copyFrom_54 ?_
  refine v_arraycopy (t := 0) (ty := .int) d_Lw_copyFrom_55 lx_Lw_44 cw_acn cw_acs cw_aci (by decide) (im_22 hIb) (im_22 hIa) (by omega) (fun h => absurd h (by decide)) (by decide) (Nat.le_of_ble_eq_true rfl) ?_
  refine v_aload1 d_Lw_copyFrom_58 ?_
  refine v_getR d_Lw_copyFrom_59 f_Lw_21 (im_19 hIb) rfl ?_
  refine v_iconst d_Lw_copyFrom_62 ?_
  refine v_aload0 d_Lw_copyFrom_63 ?_
  refine v_getR d_Lw_copyFrom_64 f_Lw_21 (im_19 hIa) rfl ?_
  refine v_iconst d_Lw_copyFrom_67 ?_
  refine v_iload2 d_Lw_copyFrom_68 ?_
  refine v_arraycopy (t := 0) (ty := .int) d_Lw_copyFrom_69 lx_Lw_44 cw_acn cw_acs cw_aci (by decide) (im_23 hIb) (im_23 hIa) (by omega) (fun h => absurd h (by decide)) (by decide) (Nat.le_of_ble_eq_true rfl) ?_
  refine v_aload1 d_Lw_copyFrom_72 ?_
  refine v_getR d_Lw_copyFrom_73 f_Lw_24 (im_19 hIb) rfl ?_
  refine v_iconst d_Lw_copyFrom_76 ?_
  refine v_aload0 d_Lw_copyFrom_77 ?_
  refine v_getR d_Lw_copyFrom_78 f_Lw_24 (im_19 hIa) rfl ?_
  refine v_iconst d_Lw_copyFrom_81 ?_
  refine v_iload2 d_Lw_copyFrom_82 ?_
  refine v_arraycopy (t := 0) (ty := .int) d_Lw_copyFrom_83 lx_Lw_44 cw_acn cw_acs cw_aci (by decide) (im_24 hIb) (im_24 hIa) (by omega) (fun h => absurd h (by decide)) (by decide) (Nat.le_of_ble_eq_true rfl) ?_
  refine v_iload2 d_Lw_copyFrom_86 ?_
  refine v_iconst d_Lw_copyFrom_87 ?_
  refine v_imul d_Lw_copyFrom_88 ?_
  refine v_istore3 d_Lw_copyFrom_89 (by decide) rfl ?_
  refine v_aload1 d_Lw_copyFrom_90 ?_
  refine v_getR d_Lw_copyFrom_91 f_Lw_27 (im_19 hIb) rfl ?_
  refine v_iconst d_Lw_copyFrom_94 ?_
  refine v_aload0 d_Lw_copyFrom_95 ?_
  refine v_getR d_Lw_copyFrom_96 f_Lw_27 (im_19 hIa) rfl ?_
  refine v_iconst d_Lw_copyFrom_99 ?_
  refine v_iload3 d_Lw_copyFrom_100 ?_
  refine v_arraycopy (t := 0) (ty := .int) d_Lw_copyFrom_101 lx_Lw_44 cw_acn cw_acs cw_aci (by decide) (im_25 hIb) (im_25 hIa) (by omega) (fun h => absurd h (by decide)) (by decide) (Nat.le_of_ble_eq_true rfl) ?_
  refine v_aload1 d_Lw_copyFrom_104 ?_
  refine v_getR d_Lw_copyFrom_105 f_Lw_30 (im_19 hIb) rfl ?_
  refine v_iconst d_Lw_copyFrom_108 ?_
  refine v_aload0 d_Lw_copyFrom_109 ?_
  refine v_getR d_Lw_copyFrom_110 f_Lw_30 (im_19 hIa) rfl ?_
  refine v_iconst d_Lw_copyFrom_113 ?_
  refine v_iload3 d_Lw_copyFrom_114 ?_
  refine v_arraycopy (t := 0) (ty := .int) d_Lw_copyFrom_115 lx_Lw_44 cw_acn cw_acs cw_aci (by decide) (im_26 hIb) (im_26 hIa) (by omega) (fun h => absurd h (by decide)) (by decide) (Nat.le_of_ble_eq_true rfl) ?_
  refine v_aload1 d_Lw_copyFrom_118 ?_
  refine v_getR d_Lw_copyFrom_119 f_Lw_33 (im_19 hIb) rfl ?_
  refine v_iconst d_Lw_copyFrom_122 ?_
  refine v_aload0 d_Lw_copyFrom_123 ?_
  refine v_getR d_Lw_copyFrom_124 f_Lw_33 (im_19 hIa) rfl ?_
  refine v_iconst d_Lw_copyFrom_127 ?_
  refine v_iload3 d_Lw_copyFrom_128 ?_
  refine v_arraycopy (t := 0) (ty := .int) d_Lw_copyFrom_129 lx_Lw_44 cw_acn cw_acs cw_aci (by decide) (im_27 hIb) (im_27 hIa) (by omega) (fun h => absurd h (by decide)) (by decide) (Nat.le_of_ble_eq_true rfl) ?_
  refine v_iconst d_Lw_copyFrom_132 ?_
  refine v_istore4 d_Lw_copyFrom_133 (by decide) rfl ?_
  exact c_Lw_copyFrom_135 hIa hIb hd (by omega) hM (fun σ2 h8 h9 => ⟨rfl, fun k hk => by rw [h8 k (by omega)]; (repeat (first | rw [vCp_ne (by omega)] | rw [vUp_ne (by omega)])), LawsR_cp hO (by rw [h8 _ (by omega)]; (repeat (first | rw [vCp_ne (by omega)] | rw [vUp_same] | rw [vUp_ix (by decide)] | rw [vUp_ne (by omega)])); exact w0.symm) (fun i i1 i2 => by rw [h8 _ (by omega)]; (repeat (first | rw [vCp_ne (by omega)] | rw [vUp_ne (by omega)])); rw [vCp_in (by omega)]; (repeat (first | rw [vCp_ne (by omega)] | rw [vUp_ne (by omega)]))) (fun i i1 i2 => by rw [h8 _ (by omega)]; (repeat (first | rw [vCp_ne (by omega)] | rw [vUp_ne (by omega)])); rw [vCp_in (by omega)]; (repeat (first | rw [vCp_ne (by omega)] | rw [vUp_ne (by omega)]))) (fun i i1 i2 => by rw [h8 _ (by omega)]; (repeat (first | rw [vCp_ne (by omega)] | rw [vUp_ne (by omega)])); rw [vCp_in (by omega)]; (repeat (first | rw [vCp_ne (by omega)] | rw [vUp_ne (by omega)]))) (fun i i1 i2 => by rw [h8 _ (by omega)]; (repeat (first | rw [vCp_ne (by omega)] | rw [vUp_ne (by omega)])); rw [vCp_in (by omega)]; (repeat (first | rw [vCp_ne (by omega)] | rw [vUp_ne (by omega)]))) (fun i i1 i2 => by rw [h8 _ (by omega)]; (repeat (first | rw [vCp_ne (by omega)] | rw [vUp_ne (by omega)])); rw [vCp_in (by omega)]; (repeat (first | rw [vCp_ne (by omega)] | rw [vUp_ne (by omega)]))) (fun i i1 i2 => by rw [h8 _ (by omega)]; (repeat (first | rw [vCp_ne (by omega)] | rw [vUp_ne (by omega)])); rw [vCp_in (by omega)]; (repeat (first | rw [vCp_ne (by omega)] | rw [vUp_ne (by omega)]))) (fun i i1 i2 => by rw [h8 _ (by omega)]; (repeat (first | rw [vCp_ne (by omega)] | rw [vUp_ne (by omega)])); rw [vCp_in (by omega)]; (repeat (first | rw [vCp_ne (by omega)] | rw [vUp_ne (by omega)]))) (fun i i1 i2 => by rw [h8 _ (by omega)]; (repeat (first | rw [vCp_ne (by omega)] | rw [vUp_ne (by omega)])); rw [vCp_in (by omega)]; (repeat (first | rw [vCp_ne (by omega)] | rw [vUp_ne (by omega)]))) (fun i i1 i2 => by rw [h9 i i1 (by omega)]; (repeat (first | rw [vCp_ne (by omega)] | rw [vUp_ne (by omega)]))) hR⟩) (A 3 * 16 * 4).toNat 0 0 _ (by omega) rfl (fun k _ => rfl) (fun x x1 x2 => by omega)

theorem c_St_copyFrom {σ : vMem} {S : vSh} {A : Int → Int} {a b : Nat} (hIa : IM S a) (hIb : IM S b) (hd : a + 43 ≤ b ∨ b + 43 ≤ a) (hO : okA A) (hR : CRB σ b A) : mt_St_copyFrom [.ref a, .ref b] S σ (rP S (fun _ σ2 => (∀ k, k < a + 1 ∨ a + 40 ≤ k → σ2 k = σ k) ∧ CRB σ2 a A)) := by
  refine vMet.intro 0 (by decide +kernel) (Nat.le_of_ble_eq_true rfl) rfl (fun cx hM _ => ?_)
  refine v_aload0 d_St_copyFrom_0 ?_
  refine v_getR d_St_copyFrom_1 f_St_10 (im_0 hIa) rfl ?_
  refine v_aload1 d_St_copyFrom_4 ?_
  refine v_getR d_St_copyFrom_5 f_St_10 (im_0 hIb) rfl ?_
  refine v_gVV1 d_St_copyFrom_8 l_St_61 k_La_copyFrom (c_La_copyFrom hIa hIb hd hO hR.1) (im_1 hIa) rfl (by decide) (by decide) (Nat.le_of_ble_eq_true rfl) (Nat.zero_le _) (Nat.zero_le _) (fun z8 s8 e8 => ?_)
  refine v_aload0 d_St_copyFrom_11 ?_
  refine v_getR d_St_copyFrom_12 f_St_19 (im_0 hIa) rfl ?_
  refine v_aload1 d_St_copyFrom_15 ?_
  refine v_getR d_St_copyFrom_16 f_St_19 (im_0 hIb) rfl ?_
  refine v_gVV1 d_St_copyFrom_19 l_St_64 k_Bo_copyFrom (c_Bo_copyFrom hIa hIb hd hO (by rw [e8.1 (b + 9) (by omega), e8.1 (b + 10) (by omega), e8.1 (b + 11) (by omega), e8.1 (b + 12) (by omega), e8.1 (b + 13) (by omega), e8.1 (b + 14) (by omega), e8.1 (b + 15) (by omega), e8.1 (b + 16) (by omega), e8.1 (b + 17) (by omega), e8.1 (b + 18) (by omega)]; exact hR.2.1)) (im_9 hIa) rfl (by decide) (by decide) (Nat.le_of_ble_eq_true rfl) (Nat.zero_le _) (Nat.zero_le _) (fun z19 s19 e19 => ?_)
  refine v_aload0 d_St_copyFrom_22 ?_
  refine v_getR d_St_copyFrom_23 f_St_26 (im_0 hIa) rfl ?_
  refine v_aload1 d_St_copyFrom_26 ?_
  refine v_getR d_St_copyFrom_27 f_St_26 (im_0 hIb) rfl ?_
  refine v_gVV1 d_St_copyFrom_30 l_St_67 k_Lw_copyFrom (c_Lw_copyFrom hIa hIb hd hO (by rw [e19.1 (b + 19) (by omega), e8.1 (b + 19) (by omega), e19.1 (b + 20) (by omega), e8.1 (b + 20) (by omega), e19.1 (b + 21) (by omega), e8.1 (b + 21) (by omega), e19.1 (b + 22) (by omega), e8.1 (b + 22) (by omega), e19.1 (b + 23) (by omega), e8.1 (b + 23) (by omega), e19.1 (b + 24) (by omega), e8.1 (b + 24) (by omega), e19.1 (b + 25) (by omega), e8.1 (b + 25) (by omega), e19.1 (b + 26) (by omega), e8.1 (b + 26) (by omega), e19.1 (b + 27) (by omega), e8.1 (b + 27) (by omega), e19.1 (b + 28) (by omega), e8.1 (b + 28) (by omega)]; exact hR.2.2.1)) (im_19 hIa) rfl (by decide) (by decide) (Nat.le_of_ble_eq_true rfl) (Nat.zero_le _) (Nat.zero_le _) (fun z30 s30 e30 => ?_)
  refine v_aload0 d_St_copyFrom_33 ?_
  refine v_getR d_St_copyFrom_34 f_St_33 (im_0 hIa) rfl ?_
  refine v_aload1 d_St_copyFrom_37 ?_
  refine v_getR d_St_copyFrom_38 f_St_33 (im_0 hIb) rfl ?_
  refine v_gVV1 d_St_copyFrom_41 l_St_70 k_Ta_copyFrom (c_Ta_copyFrom hIa hIb hd hO (by rw [e30.1 (b + 29) (by omega), e19.1 (b + 29) (by omega), e8.1 (b + 29) (by omega), e30.1 (b + 30) (by omega), e19.1 (b + 30) (by omega), e8.1 (b + 30) (by omega)]; exact hR.2.2.2.1)) (im_29 hIa) rfl (by decide) (by decide) (Nat.le_of_ble_eq_true rfl) (Nat.zero_le _) (Nat.zero_le _) (fun z41 s41 e41 => ?_)
  refine v_aload0 d_St_copyFrom_44 ?_
  refine v_getR d_St_copyFrom_45 f_St_42 (im_0 hIa) rfl ?_
  refine v_aload1 d_St_copyFrom_48 ?_
  refine v_getR d_St_copyFrom_49 f_St_42 (im_0 hIb) rfl ?_
  refine v_gVV1 d_St_copyFrom_52 l_St_73 k_Ne_copyFrom (c_Ne_copyFrom hIa hIb hd hO (by rw [e41.1 (b + 31) (by omega), e30.1 (b + 31) (by omega), e19.1 (b + 31) (by omega), e8.1 (b + 31) (by omega), e41.1 (b + 32) (by omega), e30.1 (b + 32) (by omega), e19.1 (b + 32) (by omega), e8.1 (b + 32) (by omega), e41.1 (b + 33) (by omega), e30.1 (b + 33) (by omega), e19.1 (b + 33) (by omega), e8.1 (b + 33) (by omega), e41.1 (b + 34) (by omega), e30.1 (b + 34) (by omega), e19.1 (b + 34) (by omega), e8.1 (b + 34) (by omega), e41.1 (b + 35) (by omega), e30.1 (b + 35) (by omega), e19.1 (b + 35) (by omega), e8.1 (b + 35) (by omega), e41.1 (b + 36) (by omega), e30.1 (b + 36) (by omega), e19.1 (b + 36) (by omega), e8.1 (b + 36) (by omega)]; exact hR.2.2.2.2.1)) (im_31 hIa) rfl (by decide) (by decide) (Nat.le_of_ble_eq_true rfl) (Nat.zero_le _) (Nat.zero_le _) (fun z52 s52 e52 => ?_)
  refine v_aload0 d_St_copyFrom_55 ?_
  refine v_getR d_St_copyFrom_56 f_St_49 (im_0 hIa) rfl ?_
  refine v_aload1 d_St_copyFrom_59 ?_
  refine v_getR d_St_copyFrom_60 f_St_49 (im_0 hIb) rfl ?_
  refine v_gVV1 d_St_copyFrom_63 l_St_76 k_Mo_copyFrom (c_Mo_copyFrom hIa hIb hd hO (by rw [e52.1 (b + 37) (by omega), e41.1 (b + 37) (by omega), e30.1 (b + 37) (by omega), e19.1 (b + 37) (by omega), e8.1 (b + 37) (by omega), e52.1 (b + 38) (by omega), e41.1 (b + 38) (by omega), e30.1 (b + 38) (by omega), e19.1 (b + 38) (by omega), e8.1 (b + 38) (by omega), e52.1 (b + 39) (by omega), e41.1 (b + 39) (by omega), e30.1 (b + 39) (by omega), e19.1 (b + 39) (by omega), e8.1 (b + 39) (by omega)]; exact hR.2.2.2.2.2)) (im_37 hIa) rfl (by decide) (by decide) (Nat.le_of_ble_eq_true rfl) (Nat.zero_le _) (Nat.zero_le _) (fun z63 s63 e63 => ?_)
  exact v_return hM d_St_copyFrom_66 ⟨rfl, fun k hk => by rw [e63.1 k (by omega), e52.1 k (by omega), e41.1 k (by omega), e30.1 k (by omega), e19.1 k (by omega), e8.1 k (by omega)], by rw [e63.1 (a + 1) (by omega), e52.1 (a + 1) (by omega), e41.1 (a + 1) (by omega), e30.1 (a + 1) (by omega), e19.1 (a + 1) (by omega), e63.1 (a + 2) (by omega), e52.1 (a + 2) (by omega), e41.1 (a + 2) (by omega), e30.1 (a + 2) (by omega), e19.1 (a + 2) (by omega), e63.1 (a + 3) (by omega), e52.1 (a + 3) (by omega), e41.1 (a + 3) (by omega), e30.1 (a + 3) (by omega), e19.1 (a + 3) (by omega), e63.1 (a + 4) (by omega), e52.1 (a + 4) (by omega), e41.1 (a + 4) (by omega), e30.1 (a + 4) (by omega), e19.1 (a + 4) (by omega), e63.1 (a + 5) (by omega), e52.1 (a + 5) (by omega), e41.1 (a + 5) (by omega), e30.1 (a + 5) (by omega), e19.1 (a + 5) (by omega), e63.1 (a + 6) (by omega), e52.1 (a + 6) (by omega), e41.1 (a + 6) (by omega), e30.1 (a + 6) (by omega), e19.1 (a + 6) (by omega), e63.1 (a + 7) (by omega), e52.1 (a + 7) (by omega), e41.1 (a + 7) (by omega), e30.1 (a + 7) (by omega), e19.1 (a + 7) (by omega), e63.1 (a + 8) (by omega), e52.1 (a + 8) (by omega), e41.1 (a + 8) (by omega), e30.1 (a + 8) (by omega), e19.1 (a + 8) (by omega)]; exact e8.2, by rw [e63.1 (a + 9) (by omega), e52.1 (a + 9) (by omega), e41.1 (a + 9) (by omega), e30.1 (a + 9) (by omega), e63.1 (a + 10) (by omega), e52.1 (a + 10) (by omega), e41.1 (a + 10) (by omega), e30.1 (a + 10) (by omega), e63.1 (a + 11) (by omega), e52.1 (a + 11) (by omega), e41.1 (a + 11) (by omega), e30.1 (a + 11) (by omega), e63.1 (a + 12) (by omega), e52.1 (a + 12) (by omega), e41.1 (a + 12) (by omega), e30.1 (a + 12) (by omega), e63.1 (a + 13) (by omega), e52.1 (a + 13) (by omega), e41.1 (a + 13) (by omega), e30.1 (a + 13) (by omega), e63.1 (a + 14) (by omega), e52.1 (a + 14) (by omega), e41.1 (a + 14) (by omega), e30.1 (a + 14) (by omega), e63.1 (a + 15) (by omega), e52.1 (a + 15) (by omega), e41.1 (a + 15) (by omega), e30.1 (a + 15) (by omega), e63.1 (a + 16) (by omega), e52.1 (a + 16) (by omega), e41.1 (a + 16) (by omega), e30.1 (a + 16) (by omega), e63.1 (a + 17) (by omega), e52.1 (a + 17) (by omega), e41.1 (a + 17) (by omega), e30.1 (a + 17) (by omega), e63.1 (a + 18) (by omega), e52.1 (a + 18) (by omega), e41.1 (a + 18) (by omega), e30.1 (a + 18) (by omega)]; exact e19.2, by rw [e63.1 (a + 19) (by omega), e52.1 (a + 19) (by omega), e41.1 (a + 19) (by omega), e63.1 (a + 20) (by omega), e52.1 (a + 20) (by omega), e41.1 (a + 20) (by omega), e63.1 (a + 21) (by omega), e52.1 (a + 21) (by omega), e41.1 (a + 21) (by omega), e63.1 (a + 22) (by omega), e52.1 (a + 22) (by omega), e41.1 (a + 22) (by omega), e63.1 (a + 23) (by omega), e52.1 (a + 23) (by omega), e41.1 (a + 23) (by omega), e63.1 (a + 24) (by omega), e52.1 (a + 24) (by omega), e41.1 (a + 24) (by omega), e63.1 (a + 25) (by omega), e52.1 (a + 25) (by omega), e41.1 (a + 25) (by omega), e63.1 (a + 26) (by omega), e52.1 (a + 26) (by omega), e41.1 (a + 26) (by omega), e63.1 (a + 27) (by omega), e52.1 (a + 27) (by omega), e41.1 (a + 27) (by omega), e63.1 (a + 28) (by omega), e52.1 (a + 28) (by omega), e41.1 (a + 28) (by omega)]; exact e30.2, by rw [e63.1 (a + 29) (by omega), e52.1 (a + 29) (by omega), e63.1 (a + 30) (by omega), e52.1 (a + 30) (by omega)]; exact e41.2, by rw [e63.1 (a + 31) (by omega), e63.1 (a + 32) (by omega), e63.1 (a + 33) (by omega), e63.1 (a + 34) (by omega), e63.1 (a + 35) (by omega), e63.1 (a + 36) (by omega)]; exact e52.2, e63.2⟩

def imA (A : Int → Int) (k : Int) : Int → Int := fun i => if 3210 * (k + 1) ≤ i ∧ i < 3210 * (k + 1) + 3210 then A (i - 3210 * (k + 1)) else A i
def agA (A : Int → Int) (k : Int) : Int → Int := fun i => if 0 ≤ i ∧ i < 3210 then A (3210 * (k + 1) + i) else A i
def imP (A : Int → Int) (k : Int) (j : Int) : Int → Int := fun i => if 3210 * (k + 1) ≤ i ∧ i < 3210 * (k + 1) + j then A (i - 3210 * (k + 1)) else A i
def agP (A : Int → Int) (k : Int) (j : Int) : Int → Int := fun i => if 0 ≤ i ∧ i < j then A (3210 * (k + 1) + i) else A i
theorem imP_s (A : Int → Int) (k : Int) (j : Nat) : imP A k ((j + 1 : Nat) : Int) = upF (imP A k (j : Int)) (3210 * (k + 1) + (j : Int)) (A (j : Int)) := by
  funext i
  simp only [imP, upF]
  by_cases h : i = 3210 * (k + 1) + (j : Int)
  · rw [if_pos h, if_pos (by omega), show i - 3210 * (k + 1) = (j : Int) by omega]
  · rw [if_neg h]
    by_cases h2 : 3210 * (k + 1) ≤ i ∧ i < 3210 * (k + 1) + (j : Int)
    · rw [if_pos h2, if_pos (by omega)]
    · rw [if_neg h2, if_neg (by omega)]
theorem agP_s (A : Int → Int) (k : Int) (j : Nat) : agP A k ((j + 1 : Nat) : Int) = upF (agP A k (j : Int)) (j : Int) (A (3210 * (k + 1) + (j : Int))) := by
  funext i
  simp only [agP, upF]
  by_cases h : i = (j : Int)
  · rw [if_pos h, if_pos (by omega), h]
  · rw [if_neg h]
    by_cases h2 : 0 ≤ i ∧ i < (j : Int)
    · rw [if_pos h2, if_pos (by omega)]
    · rw [if_neg h2, if_neg (by omega)]
theorem imP_0 (A : Int → Int) (k : Int) : imP A k 0 = A := by
  funext i
  exact if_neg (by omega)
theorem agP_0 (A : Int → Int) (k : Int) : agP A k 0 = A := by
  funext i
  exact if_neg (by omega)
theorem c_M_image_20 {T : vSh} {σ : vMem} {cx : vCx} {A : Int → Int} (hA : σ 56 = A) {k : Int} (hk : 0 ≤ k ∧ k ≤ 2) {RT : vRT} (hM : vM cx 0 0 (some .boolean) RT) (hR : ∀ σ2 : vMem, (∀ x, x ≠ 56 → σ2 x = σ x) → σ2 56 = imA A k → RT 1 (S0 ++ T) σ2) : ∀ (n j : Nat) (i : Int) (σ1 : vMem), (j : Int) + n = 3210 → i = j → (∀ x, x ≠ 56 → σ1 x = σ x) → σ1 56 = imP A k (j : Int) → vV cx y_M_image.cls prog_14_method_104_code 3 1 0 0 0 0 20 [some (.ref 55), some (.int (iI k)), some (.int (iI i))] [] (S0 ++ T) σ1 := by
  intro n
  induction n with
  | zero =>
    intro j i σ1 hj hi hσ hB
    refine v_iload2 d_M_image_20 ?_
    refine v_sipush d_M_image_21 rfl ?_
    refine v_icmp_ge d_M_image_24 (by omega) (by omega) (fun u24 => ?_) (fun u24 => ?_)
    · refine v_iconst d_M_image_53 ?_
      exact v_zreturn hM d_M_image_54 (Or.inr rfl) (hR σ1 hσ (by have e9 : (j : Int) = 3210 := (by omega); rw [hB, e9]; rfl))
    · omega
  | succ n ih =>
    intro j i σ1 hj hi hσ hB
    refine v_iload2 d_M_image_20 ?_
    refine v_sipush d_M_image_21 rfl ?_
    refine v_icmp_ge d_M_image_24 (by omega) (by omega) (fun u24 => ?_) (fun u24 => ?_)
    · omega
    · refine v_aload0 d_M_image_27 ?_
      refine v_getR d_M_image_28 f_M_7 (sh_55 T) rfl ?_
      refine v_sipush d_M_image_31 rfl ?_
      refine v_iload1 d_M_image_34 ?_
      refine v_iconst d_M_image_35 ?_
      refine v_iadd d_M_image_36 ?_
      refine v_imul d_M_image_37 ?_
      refine v_iload2 d_M_image_38 ?_
      refine v_iadd d_M_image_39 ?_
      refine v_aload0 d_M_image_40 ?_
      refine v_getR d_M_image_41 f_M_7 (sh_55 T) rfl ?_
      refine v_iload2 d_M_image_44 ?_
      refine v_ialoadE hB d_M_image_45 (sh_56 T) (by omega) (fun g45 => ?_)
      rw [show imP A k (j : Int) i = A i from if_neg (by omega)] at g45 ⊢
      refine v_iastoreE hB d_M_image_46 (sh_56 T) (by omega) (by omega) (fun m46 f46 hA46 => ?_)
      refine v_iinc2 d_M_image_47 (by decide) rfl ?_
      refine v_goto d_M_image_50 ?_
      exact ih (j + 1) _ _ (by omega) (by omega) (fun x hx => by rw [f46 x hx]; exact hσ x hx) (by rw [hA46, imP_s, hi])

theorem c_M_again_22 {T : vSh} {σ : vMem} {cx : vCx} {A : Int → Int} (hA : σ 56 = A) {k : Int} (hk : 0 ≤ k ∧ k ≤ 2) {RT : vRT} (hM : vM cx 0 0 (some .boolean) RT) (hR : ∀ σ2 : vMem, (∀ x, x ≠ 56 → σ2 x = σ x) → σ2 56 = agA A k → RT 1 (S0 ++ T) σ2) : ∀ (n j : Nat) (i : Int) (σ1 : vMem), (j : Int) + n = 3210 → i = j → (∀ x, x ≠ 56 → σ1 x = σ x) → σ1 56 = agP A k (j : Int) → vV cx y_M_again.cls prog_14_method_105_code 3 1 0 0 0 0 22 [some (.ref 55), some (.int (iI k)), some (.int (iI i))] [] (S0 ++ T) σ1 := by
  intro n
  induction n with
  | zero =>
    intro j i σ1 hj hi hσ hB
    refine v_iload2 d_M_again_22 ?_
    refine v_sipush d_M_again_23 rfl ?_
    refine v_icmp_ge d_M_again_26 (by omega) (by omega) (fun u26 => ?_) (fun u26 => ?_)
    · refine v_iconst d_M_again_55 ?_
      exact v_zreturn hM d_M_again_56 (Or.inr rfl) (hR σ1 hσ (by have e9 : (j : Int) = 3210 := (by omega); rw [hB, e9]; rfl))
    · omega
  | succ n ih =>
    intro j i σ1 hj hi hσ hB
    refine v_iload2 d_M_again_22 ?_
    refine v_sipush d_M_again_23 rfl ?_
    refine v_icmp_ge d_M_again_26 (by omega) (by omega) (fun u26 => ?_) (fun u26 => ?_)
    · omega
    · refine v_aload0 d_M_again_29 ?_
      refine v_getR d_M_again_30 f_M_7 (sh_55 T) rfl ?_
      refine v_iload2 d_M_again_33 ?_
      refine v_aload0 d_M_again_34 ?_
      refine v_getR d_M_again_35 f_M_7 (sh_55 T) rfl ?_
      refine v_sipush d_M_again_38 rfl ?_
      refine v_iload1 d_M_again_41 ?_
      refine v_iconst d_M_again_42 ?_
      refine v_iadd d_M_again_43 ?_
      refine v_imul d_M_again_44 ?_
      refine v_iload2 d_M_again_45 ?_
      refine v_iadd d_M_again_46 ?_
      refine v_ialoadE hB d_M_again_47 (sh_56 T) (by omega) (fun g47 => ?_)
      rw [show agP A k (j : Int) (3210 * (k + 1) + i) = A (3210 * (k + 1) + i) from if_neg (by omega)] at g47 ⊢
      refine v_iastoreE hB d_M_again_48 (sh_56 T) (by omega) (by omega) (fun m48 f48 hA48 => ?_)
      refine v_iinc2 d_M_again_49 (by decide) rfl ?_
      refine v_goto d_M_again_52 ?_
      exact ih (j + 1) _ _ (by omega) (by omega) (fun x hx => by rw [f48 x hx]; exact hσ x hx) (by rw [hA48, agP_s, hi])

theorem c_M_image {T : vSh} {σ : vMem} {A : Int → Int} (hA : σ 56 = A) {k : Int} (h0 : vIn k) : mt_M_image [.ref 55, .int (iI k)] (S0 ++ T) σ (rP (S0 ++ T) (fun z σ2 => ((0 ≤ k ∧ k ≤ 2) ∧ z = 1 ∧ (∀ x, x ≠ 56 ∧ x ≠ 57 → σ2 x = σ x) ∧ σ2 57 = upF (σ 57) k 1 ∧ σ2 56 = imA A k) ∨ (¬ (0 ≤ k ∧ k ≤ 2) ∧ z = 0 ∧ σ2 = σ))) := by
  refine vMet.intro 1 (by decide +kernel) (Nat.le_of_ble_eq_true rfl) rfl (fun cx hM _ => ?_)
  refine v_iload1 d_M_image_0 ?_
  refine v_iconst d_M_image_1 ?_
  refine v_iconst d_M_image_2 ?_
  refine v_fSZ3 d_M_image_3 l_M_56 k_M_isIn (c_M_isIn (by omega) (by omega) (by omega)) (by decide) (by decide) (Nat.le_of_ble_eq_true rfl) (Nat.zero_le _) (Nat.zero_le _) (fun g3 => ?_)
  refine v_ifb_ne d_M_image_6 (fun u6 => ?_) (fun u6 => ?_)
  · refine v_aload0 d_M_image_11 ?_
    refine v_getR d_M_image_12 f_M_13 (sh_55 T) rfl ?_
    refine v_iload1 d_M_image_15 ?_
    refine v_iconst d_M_image_16 ?_
    refine v_zastore d_M_image_17 (sh_57 T) (by omega) (Or.inr rfl) ?_
    refine v_iconst d_M_image_18 ?_
    refine v_istore2 d_M_image_19 (by decide) rfl ?_
    exact c_M_image_20 (A := A) (by rw [vUp_ne (by decide)]; exact hA) (by omega) hM (fun σ2 h8 h9 => ⟨rfl, Or.inl ⟨by omega, rfl, fun x hx => by rw [h8 x hx.1, vUp_ne hx.2], by rw [h8 57 (by decide), vUp_fn], h9⟩⟩) 3210 0 _ _ (by omega) rfl (fun x _ => rfl) (by rw [show ((0 : Nat) : Int) = 0 from rfl, imP_0, vUp_ne (by decide)]; exact hA)
  · refine v_iconst d_M_image_9 ?_
    exact v_zreturn hM d_M_image_10 (Or.inl rfl) ⟨rfl, Or.inr ⟨by omega, rfl, rfl⟩⟩

theorem c_M_again {T : vSh} {σ : vMem} {A : Int → Int} (hA : σ 56 = A) {k : Int} (h0 : vIn k) : mt_M_again [.ref 55, .int (iI k)] (S0 ++ T) σ (rP (S0 ++ T) (fun z σ2 => (((0 ≤ k ∧ k ≤ 2) ∧ σ 57 k ≠ 0) ∧ z = 1 ∧ (∀ x, x ≠ 56 → σ2 x = σ x) ∧ σ2 56 = agA A k) ∨ (¬ ((0 ≤ k ∧ k ≤ 2) ∧ σ 57 k ≠ 0) ∧ z = 0 ∧ σ2 = σ))) := by
  refine vMet.intro 1 (by decide +kernel) (Nat.le_of_ble_eq_true rfl) rfl (fun cx hM _ => ?_)
  refine v_iload1 d_M_again_0 ?_
  refine v_iconst d_M_again_1 ?_
  refine v_iconst d_M_again_2 ?_
  refine v_fSZ3 d_M_again_3 l_M_56 k_M_isIn (c_M_isIn (by omega) (by omega) (by omega)) (by decide) (by decide) (Nat.le_of_ble_eq_true rfl) (Nat.zero_le _) (Nat.zero_le _) (fun g3 => ?_)
  refine v_ifb_eq d_M_again_6 (fun u6 => ?_) (fun u6 => ?_)
  · refine v_iconst d_M_again_18 ?_
    exact v_zreturn hM d_M_again_19 (Or.inl rfl) ⟨rfl, Or.inr ⟨by omega, rfl, rfl⟩⟩
  · refine v_aload0 d_M_again_9 ?_
    refine v_getR d_M_again_10 f_M_13 (sh_55 T) rfl ?_
    refine v_iload1 d_M_again_13 ?_
    refine v_zaload d_M_again_14 (sh_57 T) (by omega) (fun g14 => ?_)
    refine v_if_ne d_M_again_15 (by omega) (fun u15 => ?_) (fun u15 => ?_)
    · refine v_iconst d_M_again_20 ?_
      refine v_istore2 d_M_again_21 (by decide) rfl ?_
      exact c_M_again_22 (A := A) hA (by omega) hM (fun σ2 h8 h9 => ⟨rfl, Or.inl ⟨⟨by omega, by omega⟩, rfl, h8, h9⟩⟩) 3210 0 _ _ (by omega) rfl (fun x _ => rfl) (by rw [show ((0 : Nat) : Int) = 0 from rfl, agP_0]; exact hA)
    · refine v_iconst d_M_again_18 ?_
      exact v_zreturn hM d_M_again_19 (Or.inl rfl) ⟨rfl, Or.inr ⟨by omega, rfl, rfl⟩⟩

