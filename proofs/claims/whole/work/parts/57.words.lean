/-! ===== the reader's words ===== -/
def tbF (A : Int → Int) (L p : Int) : Int := if p < L then A (2710 + p) else -1
def okB (b : Int → Int) (L : Int) : Prop := (0 ≤ L ∧ L ≤ 500) ∧ (∀ p, 0 ≤ p → p < L → 0 ≤ b p ∧ b p ≤ 255) ∧ ∀ p, L ≤ p → b p = -1
theorem okB_tb {A : Int → Int} (hO : okA A) : okB (tbF A (A 7)) (A 7) := by
  refine ⟨hO.1.2.2.2.2.2.2.2, fun p p1 p2 => ?_, fun p p1 => if_neg (by omega)⟩
  have h := hO.2.2.2.2.2.2.2.2.2.2 p p1 p2
  rw [tbF, if_pos p2]
  exact h
def run (b : Int → Int) (q : Int → Prop) [DecidablePred q] : Nat → Int → Int
  | 0, p => p
  | m + 1, p => if q (b p) then run b q m (p + 1) else p
def rn (b : Int → Int) (q : Int → Prop) [DecidablePred q] (p : Int) : Int := run b q (500 - p).toNat p
abbrev qB (c : Int) : Prop := c = 10 ∨ c = 32
abbrev qL (c : Int) : Prop := 97 ≤ c ∧ c ≤ 122
abbrev qD (c : Int) : Prop := 48 ≤ c ∧ c ≤ 57
theorem run_ge (b : Int → Int) (q : Int → Prop) [DecidablePred q] : ∀ (m : Nat) (p : Int), p ≤ run b q m p ∧ run b q m p ≤ p + m
  | 0, p => by simp [run]
  | m + 1, p => by
    have h := run_ge b q m (p + 1)
    rw [run]
    split <;> omega
theorem run_all (b : Int → Int) (q : Int → Prop) [DecidablePred q] : ∀ (m : Nat) (p i : Int), p ≤ i → i < run b q m p → q (b i)
  | 0, p, i, h1, h2 => by rw [run] at h2; omega
  | m + 1, p, i, h1, h2 => by
    rw [run] at h2
    by_cases h : q (b p)
    · rw [if_pos h] at h2
      by_cases e : i = p
      · rw [e]; exact h
      · exact run_all b q m (p + 1) i (by omega) h2
    · rw [if_neg h] at h2
      omega
theorem rn_ge (b : Int → Int) (q : Int → Prop) [DecidablePred q] {p : Int} (hp : p ≤ 500) : p ≤ rn b q p ∧ rn b q p ≤ 500 := by
  have h := run_ge b q (500 - p).toNat p
  unfold rn
  omega
theorem rn_all (b : Int → Int) (q : Int → Prop) [DecidablePred q] {p i : Int} (h1 : p ≤ i) (h2 : i < rn b q p) : q (b i) := run_all b q _ p i h1 h2
theorem rn_stop {b : Int → Int} {q : Int → Prop} [DecidablePred q] {p : Int} (h : ¬ q (b p)) : rn b q p = p := by
  unfold rn
  cases (500 - p).toNat with
  | zero => rfl
  | succ m => rw [run, if_neg h]
theorem rn_step {b : Int → Int} {q : Int → Prop} [DecidablePred q] {p : Int} (hp : p < 500) (h : q (b p)) : rn b q p = rn b q (p + 1) := by
  unfold rn
  rw [show (500 - p).toNat = (500 - (p + 1)).toNat + 1 by omega, run, if_pos h]
theorem rn_end {b : Int → Int} {q : Int → Prop} [DecidablePred q] {L : Int} (hb : okB b L) (hq : ¬ q (-1)) : ∀ (m : Nat) {p : Int}, 500 - p ≤ m → 0 ≤ p → ¬ q (b (rn b q p))
  | 0, p, h, _ => by
    have h9 : b p = -1 := hb.2.2 p (by have := hb.1; omega)
    have hn : ¬ q (b p) := by rw [h9]; exact hq
    rw [rn_stop hn]
    exact hn
  | m + 1, p, h, h0 => by
    by_cases e : q (b p)
    · have hp : p < L := Int.not_le.mp (fun h2 => hq (by rw [hb.2.2 p h2] at e; exact e))
      have := hb.1
      rw [rn_step (by omega) e]
      exact rn_end hb hq m (by omega) (by omega)
    · rw [rn_stop e]
      exact e
theorem rn_lt {b : Int → Int} {q : Int → Prop} [DecidablePred q] {L p : Int} (hb : okB b L) (hq : ¬ q (-1)) (h0 : 0 ≤ p ∧ p ≤ L) : rn b q p ≤ L := by
  refine Int.not_lt.mp (fun h => ?_)
  have h1 := rn_all b q (p := p) (i := L) h0.2 h
  rw [hb.2.2 L (Int.le_refl _)] at h1
  exact hq h1
/-- the number that n letters, or n digits, spell -/
def wvF (b : Int → Int) (s : Int) : Nat → Int
  | 0 => 0
  | n + 1 => if n < 7 then 32 * wvF b s n + b (s + n) - 96 else wvF b s n
def dgF (b : Int → Int) (s : Int) : Nat → Int
  | 0 => 0
  | n + 1 => if n < 4 then 10 * dgF b s n + b (s + n) - 48 else dgF b s n
def rwA (v : Int) : Int := if v = 202810821 then 1 else if v = 591307 then 2 else if v = 643389604 then 3 else if v = 11566 then 4 else if v = 642829806 then 5 else if v = 8228 then 6 else 99
def rwF (v : Int) : Int := if v = 16441 then 20 else if v = 398963 then 21 else if v = 452415763 then 22 else if v = 3751662 then 23 else if v = 656741 then 24 else if v = 643568 then 25 else if v = 294 then 30 else if v = 1476 then 31 else if v = 14836 then 32 else rwA v
def clF (v : Int) : Int := if v = 294 then 0 else if v = 1476 then 1 else if v = 14836 then 2 else if v = 16441 then 3 else if v = 398963 then 4 else if v = 452415763 then 5 else if v = 3751662 then 6 else if v = 656741 then 7 else if v = 643568 then 8 else if v = 202810821 then 9 else if v = 591307 then 10 else if v = 643389604 then 11 else if v = 11566 then 12 else if v = 642829806 then 13 else if v = 8228 then 14 else 101
def TKw (w t : Int) : Prop := (0 ≤ t ∧ t ≤ 2 ∧ w = t + 30) ∨ (3 ≤ t ∧ t ≤ 8 ∧ w = t + 17) ∨ (9 ≤ t ∧ t ≤ 14 ∧ w = t - 8) ∨ (t = 101 ∧ w = 99)
theorem TKw_of (v : Int) : TKw (rwF v) (clF v) := by
  by_cases h3 : v = 16441
  · subst h3; unfold TKw; decide
  by_cases h4 : v = 398963
  · subst h4; unfold TKw; decide
  by_cases h5 : v = 452415763
  · subst h5; unfold TKw; decide
  by_cases h6 : v = 3751662
  · subst h6; unfold TKw; decide
  by_cases h7 : v = 656741
  · subst h7; unfold TKw; decide
  by_cases h8 : v = 643568
  · subst h8; unfold TKw; decide
  by_cases h0 : v = 294
  · subst h0; unfold TKw; decide
  by_cases h1 : v = 1476
  · subst h1; unfold TKw; decide
  by_cases h2 : v = 14836
  · subst h2; unfold TKw; decide
  by_cases h9 : v = 202810821
  · subst h9; unfold TKw; decide
  by_cases h10 : v = 591307
  · subst h10; unfold TKw; decide
  by_cases h11 : v = 643389604
  · subst h11; unfold TKw; decide
  by_cases h12 : v = 11566
  · subst h12; unfold TKw; decide
  by_cases h13 : v = 642829806
  · subst h13; unfold TKw; decide
  by_cases h14 : v = 8228
  · subst h14; unfold TKw; decide
  refine Or.inr (Or.inr (Or.inr ⟨?_, ?_⟩))
  · rw [clF, if_neg h0, if_neg h1, if_neg h2, if_neg h3, if_neg h4, if_neg h5, if_neg h6, if_neg h7, if_neg h8, if_neg h9, if_neg h10, if_neg h11, if_neg h12, if_neg h13, if_neg h14]
  · rw [rwF, if_neg h3, if_neg h4, if_neg h5, if_neg h6, if_neg h7, if_neg h8, if_neg h0, if_neg h1, if_neg h2, rwA, if_neg h9, if_neg h10, if_neg h11, if_neg h12, if_neg h13, if_neg h14]
/-! the class's road: its row of words -/
def WL : List Int := [105, 102, 32, 97, 110, 100, 32, 110, 111, 116, 32, 112, 97, 121, 32, 108, 101, 115, 115, 32, 109, 111, 110, 116, 104, 115, 32, 99, 114, 111, 119, 110, 32, 116, 97, 107, 101, 32, 115, 116, 111, 112, 32, 102, 97, 109, 105, 110, 101, 32, 114, 97, 110, 107, 32, 115, 101, 114, 118, 101, 100, 32, 107, 105, 110, 32, 115, 101, 97, 115, 111, 110, 32, 104, 97, 100, 32]
def wsF (z : Int) (m : Int → Int) : List Int → Int → Int → Int → Int
  | [], _, _, _ => 101
  | c :: cs, w, k, l => if c = 32 then (if l = z ∧ k = z then w else wsF z m cs (w + 1) 0 0) else wsF z m cs w (if l < z ∧ m l = c then k + 1 else k) (l + 1)
def cnW (z : Int) (m : Int → Int) : List Int → Int → Int
  | [], _ => 0
  | c :: cs, l => (if l < z ∧ m l = c then 1 else 0) + cnW z m cs (l + 1)
def mtW (z : Int) (m : Int → Int) : List Int → Int → Prop
  | [], _ => True
  | c :: cs, l => (l < z ∧ m l = c) ∧ mtW z m cs (l + 1)
theorem cnW_le (z : Int) (m : Int → Int) : ∀ (xs : List Int) (l : Int), cnW z m xs l ≤ xs.length ∧ (cnW z m xs l = xs.length ↔ mtW z m xs l)
  | [], l => by simp [cnW, mtW]
  | c :: cs, l => by
    have h := cnW_le z m cs (l + 1)
    rw [cnW, mtW, List.length_cons]
    by_cases e : l < z ∧ m l = c
    · rw [if_pos e]
      refine ⟨by omega, fun h1 => ⟨e, h.2.mp (by omega)⟩, fun h1 => ?_⟩
      have := h.2.mpr h1.2
      omega
    · rw [if_neg e]
      exact ⟨by omega, fun h1 => by omega, fun h1 => absurd h1.1 e⟩
theorem wsF_word (z : Int) (m : Int → Int) (rest : List Int) (w : Int) : ∀ (xs : List Int) (k l : Int), (∀ c ∈ xs, c ≠ 32) → wsF z m (xs ++ 32 :: rest) w k l = if l + xs.length = z ∧ k + cnW z m xs l = z then w else wsF z m rest (w + 1) 0 0
  | [], k, l, _ => by
    rw [List.nil_append, wsF, if_pos rfl, cnW]
    simp
  | c :: cs, k, l, h => by
    have h1 : c ≠ 32 := h c (by simp)
    rw [List.cons_append, wsF, if_neg h1, wsF_word z m rest w cs _ _ (fun x hx => h x (by simp [hx])), cnW, List.length_cons]
    have e1 : l + 1 + (cs.length : Int) = l + ((cs.length + 1 : Nat) : Int) := by omega
    rw [e1]
    by_cases e : l < z ∧ m l = c
    · rw [if_pos e, if_pos e, Int.add_assoc]
    · rw [if_neg e, if_neg e, Int.zero_add]
theorem wsF_word0 (z : Int) (m : Int → Int) (rest : List Int) (w : Int) (xs : List Int) (h : ∀ c ∈ xs, c ≠ 32) {v C : Int} (hw : ((xs.length : Int) = z ∧ mtW z m xs 0) ↔ v = C) : wsF z m (xs ++ 32 :: rest) w 0 0 = if v = C then w else wsF z m rest (w + 1) 0 0 := by
  rw [wsF_word z m rest w xs 0 0 h, Int.zero_add, Int.zero_add]
  have h1 := cnW_le z m xs 0
  by_cases e : v = C
  · have h2 := hw.mpr e
    rw [if_pos e, if_pos ⟨h2.1, (h1.2.mpr h2.2).trans h2.1⟩]
  · rw [if_neg e, if_neg (fun h3 => e (hw.mp ⟨h3.1, h1.2.mp (by rw [h3.2, h3.1])⟩))]
def vN (m : Int → Int) : Nat → Int
  | 0 => 0
  | n + 1 => 32 * vN m n + m n - 96
theorem wvF_vN (b : Int → Int) (s : Int) : ∀ n : Nat, n ≤ 7 → wvF b s n = vN (fun l => b (s + l)) n
  | 0, _ => rfl
  | n + 1, h => by rw [wvF, if_pos (by omega), vN, wvF_vN b s n (by omega)]
theorem vN_1 (m : Int → Int) : vN m 1 = 32 * 0 + m 0 - 96 := rfl
theorem vN_2 (m : Int → Int) : vN m 2 = 32 * (32 * 0 + m 0 - 96) + m 1 - 96 := rfl
theorem vN_3 (m : Int → Int) : vN m 3 = 32 * (32 * (32 * 0 + m 0 - 96) + m 1 - 96) + m 2 - 96 := rfl
theorem vN_4 (m : Int → Int) : vN m 4 = 32 * (32 * (32 * (32 * 0 + m 0 - 96) + m 1 - 96) + m 2 - 96) + m 3 - 96 := rfl
theorem vN_5 (m : Int → Int) : vN m 5 = 32 * (32 * (32 * (32 * (32 * 0 + m 0 - 96) + m 1 - 96) + m 2 - 96) + m 3 - 96) + m 4 - 96 := rfl
theorem vN_6 (m : Int → Int) : vN m 6 = 32 * (32 * (32 * (32 * (32 * (32 * 0 + m 0 - 96) + m 1 - 96) + m 2 - 96) + m 3 - 96) + m 4 - 96) + m 5 - 96 := rfl
theorem wd_0 {m : Int → Int} : ∀ {n : Nat}, n ≤ 6 → 1 ≤ n → (∀ i : Int, 0 ≤ i → i < n → 97 ≤ m i ∧ m i ≤ 122) → (((([105, 102] : List Int).length : Int) = n ∧ mtW n m [105, 102] 0) ↔ vN m n = 294) := by
  intro n h1 h2 hm
  have k0 := hm 0 (by omega) (by omega)
  have k1 : 1 < n → _ := fun h => hm 1 (by omega) (by omega)
  have k2 : 2 < n → _ := fun h => hm 2 (by omega) (by omega)
  have k3 : 3 < n → _ := fun h => hm 3 (by omega) (by omega)
  have k4 : 4 < n → _ := fun h => hm 4 (by omega) (by omega)
  have k5 : 5 < n → _ := fun h => hm 5 (by omega) (by omega)
  rcases (show n = 1 ∨ n = 2 ∨ n = 3 ∨ n = 4 ∨ n = 5 ∨ n = 6 by omega) with rfl | rfl | rfl | rfl | rfl | rfl
  · rw [vN_1]; simp only [mtW, List.length_cons, List.length_nil, Int.zero_add, Int.reduceAdd, and_true]; omega
  · rw [vN_2]; simp only [mtW, List.length_cons, List.length_nil, Int.zero_add, Int.reduceAdd, and_true]
    refine ⟨fun h => by omega, fun h => ⟨trivial, ⟨by omega, by omega⟩, ⟨by omega, by omega⟩⟩⟩
  · rw [vN_3]; simp only [mtW, List.length_cons, List.length_nil, Int.zero_add, Int.reduceAdd, and_true]; omega
  · rw [vN_4]; simp only [mtW, List.length_cons, List.length_nil, Int.zero_add, Int.reduceAdd, and_true]; omega
  · rw [vN_5]; simp only [mtW, List.length_cons, List.length_nil, Int.zero_add, Int.reduceAdd, and_true]; omega
  · rw [vN_6]; simp only [mtW, List.length_cons, List.length_nil, Int.zero_add, Int.reduceAdd, and_true]; omega
theorem wd_1 {m : Int → Int} : ∀ {n : Nat}, n ≤ 6 → 1 ≤ n → (∀ i : Int, 0 ≤ i → i < n → 97 ≤ m i ∧ m i ≤ 122) → (((([97, 110, 100] : List Int).length : Int) = n ∧ mtW n m [97, 110, 100] 0) ↔ vN m n = 1476) := by
  intro n h1 h2 hm
  have k0 := hm 0 (by omega) (by omega)
  have k1 : 1 < n → _ := fun h => hm 1 (by omega) (by omega)
  have k2 : 2 < n → _ := fun h => hm 2 (by omega) (by omega)
  have k3 : 3 < n → _ := fun h => hm 3 (by omega) (by omega)
  have k4 : 4 < n → _ := fun h => hm 4 (by omega) (by omega)
  have k5 : 5 < n → _ := fun h => hm 5 (by omega) (by omega)
  rcases (show n = 1 ∨ n = 2 ∨ n = 3 ∨ n = 4 ∨ n = 5 ∨ n = 6 by omega) with rfl | rfl | rfl | rfl | rfl | rfl
  · rw [vN_1]; simp only [mtW, List.length_cons, List.length_nil, Int.zero_add, Int.reduceAdd, and_true]; omega
  · rw [vN_2]; simp only [mtW, List.length_cons, List.length_nil, Int.zero_add, Int.reduceAdd, and_true]; omega
  · rw [vN_3]; simp only [mtW, List.length_cons, List.length_nil, Int.zero_add, Int.reduceAdd, and_true]
    refine ⟨fun h => by omega, fun h => ⟨trivial, ⟨by omega, by omega⟩, ⟨by omega, by omega⟩, ⟨by omega, by omega⟩⟩⟩
  · rw [vN_4]; simp only [mtW, List.length_cons, List.length_nil, Int.zero_add, Int.reduceAdd, and_true]; omega
  · rw [vN_5]; simp only [mtW, List.length_cons, List.length_nil, Int.zero_add, Int.reduceAdd, and_true]; omega
  · rw [vN_6]; simp only [mtW, List.length_cons, List.length_nil, Int.zero_add, Int.reduceAdd, and_true]; omega
theorem wd_2 {m : Int → Int} : ∀ {n : Nat}, n ≤ 6 → 1 ≤ n → (∀ i : Int, 0 ≤ i → i < n → 97 ≤ m i ∧ m i ≤ 122) → (((([110, 111, 116] : List Int).length : Int) = n ∧ mtW n m [110, 111, 116] 0) ↔ vN m n = 14836) := by
  intro n h1 h2 hm
  have k0 := hm 0 (by omega) (by omega)
  have k1 : 1 < n → _ := fun h => hm 1 (by omega) (by omega)
  have k2 : 2 < n → _ := fun h => hm 2 (by omega) (by omega)
  have k3 : 3 < n → _ := fun h => hm 3 (by omega) (by omega)
  have k4 : 4 < n → _ := fun h => hm 4 (by omega) (by omega)
  have k5 : 5 < n → _ := fun h => hm 5 (by omega) (by omega)
  rcases (show n = 1 ∨ n = 2 ∨ n = 3 ∨ n = 4 ∨ n = 5 ∨ n = 6 by omega) with rfl | rfl | rfl | rfl | rfl | rfl
  · rw [vN_1]; simp only [mtW, List.length_cons, List.length_nil, Int.zero_add, Int.reduceAdd, and_true]; omega
  · rw [vN_2]; simp only [mtW, List.length_cons, List.length_nil, Int.zero_add, Int.reduceAdd, and_true]; omega
  · rw [vN_3]; simp only [mtW, List.length_cons, List.length_nil, Int.zero_add, Int.reduceAdd, and_true]
    refine ⟨fun h => by omega, fun h => ⟨trivial, ⟨by omega, by omega⟩, ⟨by omega, by omega⟩, ⟨by omega, by omega⟩⟩⟩
  · rw [vN_4]; simp only [mtW, List.length_cons, List.length_nil, Int.zero_add, Int.reduceAdd, and_true]; omega
  · rw [vN_5]; simp only [mtW, List.length_cons, List.length_nil, Int.zero_add, Int.reduceAdd, and_true]; omega
  · rw [vN_6]; simp only [mtW, List.length_cons, List.length_nil, Int.zero_add, Int.reduceAdd, and_true]; omega
theorem wd_3 {m : Int → Int} : ∀ {n : Nat}, n ≤ 6 → 1 ≤ n → (∀ i : Int, 0 ≤ i → i < n → 97 ≤ m i ∧ m i ≤ 122) → (((([112, 97, 121] : List Int).length : Int) = n ∧ mtW n m [112, 97, 121] 0) ↔ vN m n = 16441) := by
  intro n h1 h2 hm
  have k0 := hm 0 (by omega) (by omega)
  have k1 : 1 < n → _ := fun h => hm 1 (by omega) (by omega)
  have k2 : 2 < n → _ := fun h => hm 2 (by omega) (by omega)
  have k3 : 3 < n → _ := fun h => hm 3 (by omega) (by omega)
  have k4 : 4 < n → _ := fun h => hm 4 (by omega) (by omega)
  have k5 : 5 < n → _ := fun h => hm 5 (by omega) (by omega)
  rcases (show n = 1 ∨ n = 2 ∨ n = 3 ∨ n = 4 ∨ n = 5 ∨ n = 6 by omega) with rfl | rfl | rfl | rfl | rfl | rfl
  · rw [vN_1]; simp only [mtW, List.length_cons, List.length_nil, Int.zero_add, Int.reduceAdd, and_true]; omega
  · rw [vN_2]; simp only [mtW, List.length_cons, List.length_nil, Int.zero_add, Int.reduceAdd, and_true]; omega
  · rw [vN_3]; simp only [mtW, List.length_cons, List.length_nil, Int.zero_add, Int.reduceAdd, and_true]
    refine ⟨fun h => by omega, fun h => ⟨trivial, ⟨by omega, by omega⟩, ⟨by omega, by omega⟩, ⟨by omega, by omega⟩⟩⟩
  · rw [vN_4]; simp only [mtW, List.length_cons, List.length_nil, Int.zero_add, Int.reduceAdd, and_true]; omega
  · rw [vN_5]; simp only [mtW, List.length_cons, List.length_nil, Int.zero_add, Int.reduceAdd, and_true]; omega
  · rw [vN_6]; simp only [mtW, List.length_cons, List.length_nil, Int.zero_add, Int.reduceAdd, and_true]; omega
theorem wd_4 {m : Int → Int} : ∀ {n : Nat}, n ≤ 6 → 1 ≤ n → (∀ i : Int, 0 ≤ i → i < n → 97 ≤ m i ∧ m i ≤ 122) → (((([108, 101, 115, 115] : List Int).length : Int) = n ∧ mtW n m [108, 101, 115, 115] 0) ↔ vN m n = 398963) := by
  intro n h1 h2 hm
  have k0 := hm 0 (by omega) (by omega)
  have k1 : 1 < n → _ := fun h => hm 1 (by omega) (by omega)
  have k2 : 2 < n → _ := fun h => hm 2 (by omega) (by omega)
  have k3 : 3 < n → _ := fun h => hm 3 (by omega) (by omega)
  have k4 : 4 < n → _ := fun h => hm 4 (by omega) (by omega)
  have k5 : 5 < n → _ := fun h => hm 5 (by omega) (by omega)
  rcases (show n = 1 ∨ n = 2 ∨ n = 3 ∨ n = 4 ∨ n = 5 ∨ n = 6 by omega) with rfl | rfl | rfl | rfl | rfl | rfl
  · rw [vN_1]; simp only [mtW, List.length_cons, List.length_nil, Int.zero_add, Int.reduceAdd, and_true]; omega
  · rw [vN_2]; simp only [mtW, List.length_cons, List.length_nil, Int.zero_add, Int.reduceAdd, and_true]; omega
  · rw [vN_3]; simp only [mtW, List.length_cons, List.length_nil, Int.zero_add, Int.reduceAdd, and_true]; omega
  · rw [vN_4]; simp only [mtW, List.length_cons, List.length_nil, Int.zero_add, Int.reduceAdd, and_true]
    refine ⟨fun h => by omega, fun h => ⟨trivial, ⟨by omega, by omega⟩, ⟨by omega, by omega⟩, ⟨by omega, by omega⟩, ⟨by omega, by omega⟩⟩⟩
  · rw [vN_5]; simp only [mtW, List.length_cons, List.length_nil, Int.zero_add, Int.reduceAdd, and_true]; omega
  · rw [vN_6]; simp only [mtW, List.length_cons, List.length_nil, Int.zero_add, Int.reduceAdd, and_true]; omega
theorem wd_5 {m : Int → Int} : ∀ {n : Nat}, n ≤ 6 → 1 ≤ n → (∀ i : Int, 0 ≤ i → i < n → 97 ≤ m i ∧ m i ≤ 122) → (((([109, 111, 110, 116, 104, 115] : List Int).length : Int) = n ∧ mtW n m [109, 111, 110, 116, 104, 115] 0) ↔ vN m n = 452415763) := by
  intro n h1 h2 hm
  have k0 := hm 0 (by omega) (by omega)
  have k1 : 1 < n → _ := fun h => hm 1 (by omega) (by omega)
  have k2 : 2 < n → _ := fun h => hm 2 (by omega) (by omega)
  have k3 : 3 < n → _ := fun h => hm 3 (by omega) (by omega)
  have k4 : 4 < n → _ := fun h => hm 4 (by omega) (by omega)
  have k5 : 5 < n → _ := fun h => hm 5 (by omega) (by omega)
  rcases (show n = 1 ∨ n = 2 ∨ n = 3 ∨ n = 4 ∨ n = 5 ∨ n = 6 by omega) with rfl | rfl | rfl | rfl | rfl | rfl
  · rw [vN_1]; simp only [mtW, List.length_cons, List.length_nil, Int.zero_add, Int.reduceAdd, and_true]; omega
  · rw [vN_2]; simp only [mtW, List.length_cons, List.length_nil, Int.zero_add, Int.reduceAdd, and_true]; omega
  · rw [vN_3]; simp only [mtW, List.length_cons, List.length_nil, Int.zero_add, Int.reduceAdd, and_true]; omega
  · rw [vN_4]; simp only [mtW, List.length_cons, List.length_nil, Int.zero_add, Int.reduceAdd, and_true]; omega
  · rw [vN_5]; simp only [mtW, List.length_cons, List.length_nil, Int.zero_add, Int.reduceAdd, and_true]; omega
  · rw [vN_6]; simp only [mtW, List.length_cons, List.length_nil, Int.zero_add, Int.reduceAdd, and_true]
    refine ⟨fun h => by omega, fun h => ⟨trivial, ⟨by omega, by omega⟩, ⟨by omega, by omega⟩, ⟨by omega, by omega⟩, ⟨by omega, by omega⟩, ⟨by omega, by omega⟩, ⟨by omega, by omega⟩⟩⟩
theorem wd_6 {m : Int → Int} : ∀ {n : Nat}, n ≤ 6 → 1 ≤ n → (∀ i : Int, 0 ≤ i → i < n → 97 ≤ m i ∧ m i ≤ 122) → (((([99, 114, 111, 119, 110] : List Int).length : Int) = n ∧ mtW n m [99, 114, 111, 119, 110] 0) ↔ vN m n = 3751662) := by
  intro n h1 h2 hm
  have k0 := hm 0 (by omega) (by omega)
  have k1 : 1 < n → _ := fun h => hm 1 (by omega) (by omega)
  have k2 : 2 < n → _ := fun h => hm 2 (by omega) (by omega)
  have k3 : 3 < n → _ := fun h => hm 3 (by omega) (by omega)
  have k4 : 4 < n → _ := fun h => hm 4 (by omega) (by omega)
  have k5 : 5 < n → _ := fun h => hm 5 (by omega) (by omega)
  rcases (show n = 1 ∨ n = 2 ∨ n = 3 ∨ n = 4 ∨ n = 5 ∨ n = 6 by omega) with rfl | rfl | rfl | rfl | rfl | rfl
  · rw [vN_1]; simp only [mtW, List.length_cons, List.length_nil, Int.zero_add, Int.reduceAdd, and_true]; omega
  · rw [vN_2]; simp only [mtW, List.length_cons, List.length_nil, Int.zero_add, Int.reduceAdd, and_true]; omega
  · rw [vN_3]; simp only [mtW, List.length_cons, List.length_nil, Int.zero_add, Int.reduceAdd, and_true]; omega
  · rw [vN_4]; simp only [mtW, List.length_cons, List.length_nil, Int.zero_add, Int.reduceAdd, and_true]; omega
  · rw [vN_5]; simp only [mtW, List.length_cons, List.length_nil, Int.zero_add, Int.reduceAdd, and_true]
    refine ⟨fun h => by omega, fun h => ⟨trivial, ⟨by omega, by omega⟩, ⟨by omega, by omega⟩, ⟨by omega, by omega⟩, ⟨by omega, by omega⟩, ⟨by omega, by omega⟩⟩⟩
  · rw [vN_6]; simp only [mtW, List.length_cons, List.length_nil, Int.zero_add, Int.reduceAdd, and_true]; omega
theorem wd_7 {m : Int → Int} : ∀ {n : Nat}, n ≤ 6 → 1 ≤ n → (∀ i : Int, 0 ≤ i → i < n → 97 ≤ m i ∧ m i ≤ 122) → (((([116, 97, 107, 101] : List Int).length : Int) = n ∧ mtW n m [116, 97, 107, 101] 0) ↔ vN m n = 656741) := by
  intro n h1 h2 hm
  have k0 := hm 0 (by omega) (by omega)
  have k1 : 1 < n → _ := fun h => hm 1 (by omega) (by omega)
  have k2 : 2 < n → _ := fun h => hm 2 (by omega) (by omega)
  have k3 : 3 < n → _ := fun h => hm 3 (by omega) (by omega)
  have k4 : 4 < n → _ := fun h => hm 4 (by omega) (by omega)
  have k5 : 5 < n → _ := fun h => hm 5 (by omega) (by omega)
  rcases (show n = 1 ∨ n = 2 ∨ n = 3 ∨ n = 4 ∨ n = 5 ∨ n = 6 by omega) with rfl | rfl | rfl | rfl | rfl | rfl
  · rw [vN_1]; simp only [mtW, List.length_cons, List.length_nil, Int.zero_add, Int.reduceAdd, and_true]; omega
  · rw [vN_2]; simp only [mtW, List.length_cons, List.length_nil, Int.zero_add, Int.reduceAdd, and_true]; omega
  · rw [vN_3]; simp only [mtW, List.length_cons, List.length_nil, Int.zero_add, Int.reduceAdd, and_true]; omega
  · rw [vN_4]; simp only [mtW, List.length_cons, List.length_nil, Int.zero_add, Int.reduceAdd, and_true]
    refine ⟨fun h => by omega, fun h => ⟨trivial, ⟨by omega, by omega⟩, ⟨by omega, by omega⟩, ⟨by omega, by omega⟩, ⟨by omega, by omega⟩⟩⟩
  · rw [vN_5]; simp only [mtW, List.length_cons, List.length_nil, Int.zero_add, Int.reduceAdd, and_true]; omega
  · rw [vN_6]; simp only [mtW, List.length_cons, List.length_nil, Int.zero_add, Int.reduceAdd, and_true]; omega
theorem wd_8 {m : Int → Int} : ∀ {n : Nat}, n ≤ 6 → 1 ≤ n → (∀ i : Int, 0 ≤ i → i < n → 97 ≤ m i ∧ m i ≤ 122) → (((([115, 116, 111, 112] : List Int).length : Int) = n ∧ mtW n m [115, 116, 111, 112] 0) ↔ vN m n = 643568) := by
  intro n h1 h2 hm
  have k0 := hm 0 (by omega) (by omega)
  have k1 : 1 < n → _ := fun h => hm 1 (by omega) (by omega)
  have k2 : 2 < n → _ := fun h => hm 2 (by omega) (by omega)
  have k3 : 3 < n → _ := fun h => hm 3 (by omega) (by omega)
  have k4 : 4 < n → _ := fun h => hm 4 (by omega) (by omega)
  have k5 : 5 < n → _ := fun h => hm 5 (by omega) (by omega)
  rcases (show n = 1 ∨ n = 2 ∨ n = 3 ∨ n = 4 ∨ n = 5 ∨ n = 6 by omega) with rfl | rfl | rfl | rfl | rfl | rfl
  · rw [vN_1]; simp only [mtW, List.length_cons, List.length_nil, Int.zero_add, Int.reduceAdd, and_true]; omega
  · rw [vN_2]; simp only [mtW, List.length_cons, List.length_nil, Int.zero_add, Int.reduceAdd, and_true]; omega
  · rw [vN_3]; simp only [mtW, List.length_cons, List.length_nil, Int.zero_add, Int.reduceAdd, and_true]; omega
  · rw [vN_4]; simp only [mtW, List.length_cons, List.length_nil, Int.zero_add, Int.reduceAdd, and_true]
    refine ⟨fun h => by omega, fun h => ⟨trivial, ⟨by omega, by omega⟩, ⟨by omega, by omega⟩, ⟨by omega, by omega⟩, ⟨by omega, by omega⟩⟩⟩
  · rw [vN_5]; simp only [mtW, List.length_cons, List.length_nil, Int.zero_add, Int.reduceAdd, and_true]; omega
  · rw [vN_6]; simp only [mtW, List.length_cons, List.length_nil, Int.zero_add, Int.reduceAdd, and_true]; omega
theorem wd_9 {m : Int → Int} : ∀ {n : Nat}, n ≤ 6 → 1 ≤ n → (∀ i : Int, 0 ≤ i → i < n → 97 ≤ m i ∧ m i ≤ 122) → (((([102, 97, 109, 105, 110, 101] : List Int).length : Int) = n ∧ mtW n m [102, 97, 109, 105, 110, 101] 0) ↔ vN m n = 202810821) := by
  intro n h1 h2 hm
  have k0 := hm 0 (by omega) (by omega)
  have k1 : 1 < n → _ := fun h => hm 1 (by omega) (by omega)
  have k2 : 2 < n → _ := fun h => hm 2 (by omega) (by omega)
  have k3 : 3 < n → _ := fun h => hm 3 (by omega) (by omega)
  have k4 : 4 < n → _ := fun h => hm 4 (by omega) (by omega)
  have k5 : 5 < n → _ := fun h => hm 5 (by omega) (by omega)
  rcases (show n = 1 ∨ n = 2 ∨ n = 3 ∨ n = 4 ∨ n = 5 ∨ n = 6 by omega) with rfl | rfl | rfl | rfl | rfl | rfl
  · rw [vN_1]; simp only [mtW, List.length_cons, List.length_nil, Int.zero_add, Int.reduceAdd, and_true]; omega
  · rw [vN_2]; simp only [mtW, List.length_cons, List.length_nil, Int.zero_add, Int.reduceAdd, and_true]; omega
  · rw [vN_3]; simp only [mtW, List.length_cons, List.length_nil, Int.zero_add, Int.reduceAdd, and_true]; omega
  · rw [vN_4]; simp only [mtW, List.length_cons, List.length_nil, Int.zero_add, Int.reduceAdd, and_true]; omega
  · rw [vN_5]; simp only [mtW, List.length_cons, List.length_nil, Int.zero_add, Int.reduceAdd, and_true]; omega
  · rw [vN_6]; simp only [mtW, List.length_cons, List.length_nil, Int.zero_add, Int.reduceAdd, and_true]
    refine ⟨fun h => by omega, fun h => ⟨trivial, ⟨by omega, by omega⟩, ⟨by omega, by omega⟩, ⟨by omega, by omega⟩, ⟨by omega, by omega⟩, ⟨by omega, by omega⟩, ⟨by omega, by omega⟩⟩⟩
theorem wd_10 {m : Int → Int} : ∀ {n : Nat}, n ≤ 6 → 1 ≤ n → (∀ i : Int, 0 ≤ i → i < n → 97 ≤ m i ∧ m i ≤ 122) → (((([114, 97, 110, 107] : List Int).length : Int) = n ∧ mtW n m [114, 97, 110, 107] 0) ↔ vN m n = 591307) := by
  intro n h1 h2 hm
  have k0 := hm 0 (by omega) (by omega)
  have k1 : 1 < n → _ := fun h => hm 1 (by omega) (by omega)
  have k2 : 2 < n → _ := fun h => hm 2 (by omega) (by omega)
  have k3 : 3 < n → _ := fun h => hm 3 (by omega) (by omega)
  have k4 : 4 < n → _ := fun h => hm 4 (by omega) (by omega)
  have k5 : 5 < n → _ := fun h => hm 5 (by omega) (by omega)
  rcases (show n = 1 ∨ n = 2 ∨ n = 3 ∨ n = 4 ∨ n = 5 ∨ n = 6 by omega) with rfl | rfl | rfl | rfl | rfl | rfl
  · rw [vN_1]; simp only [mtW, List.length_cons, List.length_nil, Int.zero_add, Int.reduceAdd, and_true]; omega
  · rw [vN_2]; simp only [mtW, List.length_cons, List.length_nil, Int.zero_add, Int.reduceAdd, and_true]; omega
  · rw [vN_3]; simp only [mtW, List.length_cons, List.length_nil, Int.zero_add, Int.reduceAdd, and_true]; omega
  · rw [vN_4]; simp only [mtW, List.length_cons, List.length_nil, Int.zero_add, Int.reduceAdd, and_true]
    refine ⟨fun h => by omega, fun h => ⟨trivial, ⟨by omega, by omega⟩, ⟨by omega, by omega⟩, ⟨by omega, by omega⟩, ⟨by omega, by omega⟩⟩⟩
  · rw [vN_5]; simp only [mtW, List.length_cons, List.length_nil, Int.zero_add, Int.reduceAdd, and_true]; omega
  · rw [vN_6]; simp only [mtW, List.length_cons, List.length_nil, Int.zero_add, Int.reduceAdd, and_true]; omega
theorem wd_11 {m : Int → Int} : ∀ {n : Nat}, n ≤ 6 → 1 ≤ n → (∀ i : Int, 0 ≤ i → i < n → 97 ≤ m i ∧ m i ≤ 122) → (((([115, 101, 114, 118, 101, 100] : List Int).length : Int) = n ∧ mtW n m [115, 101, 114, 118, 101, 100] 0) ↔ vN m n = 643389604) := by
  intro n h1 h2 hm
  have k0 := hm 0 (by omega) (by omega)
  have k1 : 1 < n → _ := fun h => hm 1 (by omega) (by omega)
  have k2 : 2 < n → _ := fun h => hm 2 (by omega) (by omega)
  have k3 : 3 < n → _ := fun h => hm 3 (by omega) (by omega)
  have k4 : 4 < n → _ := fun h => hm 4 (by omega) (by omega)
  have k5 : 5 < n → _ := fun h => hm 5 (by omega) (by omega)
  rcases (show n = 1 ∨ n = 2 ∨ n = 3 ∨ n = 4 ∨ n = 5 ∨ n = 6 by omega) with rfl | rfl | rfl | rfl | rfl | rfl
  · rw [vN_1]; simp only [mtW, List.length_cons, List.length_nil, Int.zero_add, Int.reduceAdd, and_true]; omega
  · rw [vN_2]; simp only [mtW, List.length_cons, List.length_nil, Int.zero_add, Int.reduceAdd, and_true]; omega
  · rw [vN_3]; simp only [mtW, List.length_cons, List.length_nil, Int.zero_add, Int.reduceAdd, and_true]; omega
  · rw [vN_4]; simp only [mtW, List.length_cons, List.length_nil, Int.zero_add, Int.reduceAdd, and_true]; omega
  · rw [vN_5]; simp only [mtW, List.length_cons, List.length_nil, Int.zero_add, Int.reduceAdd, and_true]; omega
  · rw [vN_6]; simp only [mtW, List.length_cons, List.length_nil, Int.zero_add, Int.reduceAdd, and_true]
    refine ⟨fun h => by omega, fun h => ⟨trivial, ⟨by omega, by omega⟩, ⟨by omega, by omega⟩, ⟨by omega, by omega⟩, ⟨by omega, by omega⟩, ⟨by omega, by omega⟩, ⟨by omega, by omega⟩⟩⟩
theorem wd_12 {m : Int → Int} : ∀ {n : Nat}, n ≤ 6 → 1 ≤ n → (∀ i : Int, 0 ≤ i → i < n → 97 ≤ m i ∧ m i ≤ 122) → (((([107, 105, 110] : List Int).length : Int) = n ∧ mtW n m [107, 105, 110] 0) ↔ vN m n = 11566) := by
  intro n h1 h2 hm
  have k0 := hm 0 (by omega) (by omega)
  have k1 : 1 < n → _ := fun h => hm 1 (by omega) (by omega)
  have k2 : 2 < n → _ := fun h => hm 2 (by omega) (by omega)
  have k3 : 3 < n → _ := fun h => hm 3 (by omega) (by omega)
  have k4 : 4 < n → _ := fun h => hm 4 (by omega) (by omega)
  have k5 : 5 < n → _ := fun h => hm 5 (by omega) (by omega)
  rcases (show n = 1 ∨ n = 2 ∨ n = 3 ∨ n = 4 ∨ n = 5 ∨ n = 6 by omega) with rfl | rfl | rfl | rfl | rfl | rfl
  · rw [vN_1]; simp only [mtW, List.length_cons, List.length_nil, Int.zero_add, Int.reduceAdd, and_true]; omega
  · rw [vN_2]; simp only [mtW, List.length_cons, List.length_nil, Int.zero_add, Int.reduceAdd, and_true]; omega
  · rw [vN_3]; simp only [mtW, List.length_cons, List.length_nil, Int.zero_add, Int.reduceAdd, and_true]
    refine ⟨fun h => by omega, fun h => ⟨trivial, ⟨by omega, by omega⟩, ⟨by omega, by omega⟩, ⟨by omega, by omega⟩⟩⟩
  · rw [vN_4]; simp only [mtW, List.length_cons, List.length_nil, Int.zero_add, Int.reduceAdd, and_true]; omega
  · rw [vN_5]; simp only [mtW, List.length_cons, List.length_nil, Int.zero_add, Int.reduceAdd, and_true]; omega
  · rw [vN_6]; simp only [mtW, List.length_cons, List.length_nil, Int.zero_add, Int.reduceAdd, and_true]; omega
theorem wd_13 {m : Int → Int} : ∀ {n : Nat}, n ≤ 6 → 1 ≤ n → (∀ i : Int, 0 ≤ i → i < n → 97 ≤ m i ∧ m i ≤ 122) → (((([115, 101, 97, 115, 111, 110] : List Int).length : Int) = n ∧ mtW n m [115, 101, 97, 115, 111, 110] 0) ↔ vN m n = 642829806) := by
  intro n h1 h2 hm
  have k0 := hm 0 (by omega) (by omega)
  have k1 : 1 < n → _ := fun h => hm 1 (by omega) (by omega)
  have k2 : 2 < n → _ := fun h => hm 2 (by omega) (by omega)
  have k3 : 3 < n → _ := fun h => hm 3 (by omega) (by omega)
  have k4 : 4 < n → _ := fun h => hm 4 (by omega) (by omega)
  have k5 : 5 < n → _ := fun h => hm 5 (by omega) (by omega)
  rcases (show n = 1 ∨ n = 2 ∨ n = 3 ∨ n = 4 ∨ n = 5 ∨ n = 6 by omega) with rfl | rfl | rfl | rfl | rfl | rfl
  · rw [vN_1]; simp only [mtW, List.length_cons, List.length_nil, Int.zero_add, Int.reduceAdd, and_true]; omega
  · rw [vN_2]; simp only [mtW, List.length_cons, List.length_nil, Int.zero_add, Int.reduceAdd, and_true]; omega
  · rw [vN_3]; simp only [mtW, List.length_cons, List.length_nil, Int.zero_add, Int.reduceAdd, and_true]; omega
  · rw [vN_4]; simp only [mtW, List.length_cons, List.length_nil, Int.zero_add, Int.reduceAdd, and_true]; omega
  · rw [vN_5]; simp only [mtW, List.length_cons, List.length_nil, Int.zero_add, Int.reduceAdd, and_true]; omega
  · rw [vN_6]; simp only [mtW, List.length_cons, List.length_nil, Int.zero_add, Int.reduceAdd, and_true]
    refine ⟨fun h => by omega, fun h => ⟨trivial, ⟨by omega, by omega⟩, ⟨by omega, by omega⟩, ⟨by omega, by omega⟩, ⟨by omega, by omega⟩, ⟨by omega, by omega⟩, ⟨by omega, by omega⟩⟩⟩
theorem wd_14 {m : Int → Int} : ∀ {n : Nat}, n ≤ 6 → 1 ≤ n → (∀ i : Int, 0 ≤ i → i < n → 97 ≤ m i ∧ m i ≤ 122) → (((([104, 97, 100] : List Int).length : Int) = n ∧ mtW n m [104, 97, 100] 0) ↔ vN m n = 8228) := by
  intro n h1 h2 hm
  have k0 := hm 0 (by omega) (by omega)
  have k1 : 1 < n → _ := fun h => hm 1 (by omega) (by omega)
  have k2 : 2 < n → _ := fun h => hm 2 (by omega) (by omega)
  have k3 : 3 < n → _ := fun h => hm 3 (by omega) (by omega)
  have k4 : 4 < n → _ := fun h => hm 4 (by omega) (by omega)
  have k5 : 5 < n → _ := fun h => hm 5 (by omega) (by omega)
  rcases (show n = 1 ∨ n = 2 ∨ n = 3 ∨ n = 4 ∨ n = 5 ∨ n = 6 by omega) with rfl | rfl | rfl | rfl | rfl | rfl
  · rw [vN_1]; simp only [mtW, List.length_cons, List.length_nil, Int.zero_add, Int.reduceAdd, and_true]; omega
  · rw [vN_2]; simp only [mtW, List.length_cons, List.length_nil, Int.zero_add, Int.reduceAdd, and_true]; omega
  · rw [vN_3]; simp only [mtW, List.length_cons, List.length_nil, Int.zero_add, Int.reduceAdd, and_true]
    refine ⟨fun h => by omega, fun h => ⟨trivial, ⟨by omega, by omega⟩, ⟨by omega, by omega⟩, ⟨by omega, by omega⟩⟩⟩
  · rw [vN_4]; simp only [mtW, List.length_cons, List.length_nil, Int.zero_add, Int.reduceAdd, and_true]; omega
  · rw [vN_5]; simp only [mtW, List.length_cons, List.length_nil, Int.zero_add, Int.reduceAdd, and_true]; omega
  · rw [vN_6]; simp only [mtW, List.length_cons, List.length_nil, Int.zero_add, Int.reduceAdd, and_true]; omega
theorem wsF_all {m : Int → Int} {n : Nat} (h1 : n ≤ 6) (h2 : 1 ≤ n) (hm : ∀ i : Int, 0 ≤ i → i < n → 97 ≤ m i ∧ m i ≤ 122) : wsF n m WL 0 0 0 = clF (vN m n) := by
  unfold clF
  rw [show WL = [105, 102] ++ 32 :: [97, 110, 100, 32, 110, 111, 116, 32, 112, 97, 121, 32, 108, 101, 115, 115, 32, 109, 111, 110, 116, 104, 115, 32, 99, 114, 111, 119, 110, 32, 116, 97, 107, 101, 32, 115, 116, 111, 112, 32, 102, 97, 109, 105, 110, 101, 32, 114, 97, 110, 107, 32, 115, 101, 114, 118, 101, 100, 32, 107, 105, 110, 32, 115, 101, 97, 115, 111, 110, 32, 104, 97, 100, 32] from rfl, wsF_word0 n m [97, 110, 100, 32, 110, 111, 116, 32, 112, 97, 121, 32, 108, 101, 115, 115, 32, 109, 111, 110, 116, 104, 115, 32, 99, 114, 111, 119, 110, 32, 116, 97, 107, 101, 32, 115, 116, 111, 112, 32, 102, 97, 109, 105, 110, 101, 32, 114, 97, 110, 107, 32, 115, 101, 114, 118, 101, 100, 32, 107, 105, 110, 32, 115, 101, 97, 115, 111, 110, 32, 104, 97, 100, 32] 0 [105, 102] (by decide) (wd_0 h1 h2 hm)]
  rw [show (0 : Int) + 1 = 1 from rfl, show ([97, 110, 100, 32, 110, 111, 116, 32, 112, 97, 121, 32, 108, 101, 115, 115, 32, 109, 111, 110, 116, 104, 115, 32, 99, 114, 111, 119, 110, 32, 116, 97, 107, 101, 32, 115, 116, 111, 112, 32, 102, 97, 109, 105, 110, 101, 32, 114, 97, 110, 107, 32, 115, 101, 114, 118, 101, 100, 32, 107, 105, 110, 32, 115, 101, 97, 115, 111, 110, 32, 104, 97, 100, 32] : List Int) = [97, 110, 100] ++ 32 :: [110, 111, 116, 32, 112, 97, 121, 32, 108, 101, 115, 115, 32, 109, 111, 110, 116, 104, 115, 32, 99, 114, 111, 119, 110, 32, 116, 97, 107, 101, 32, 115, 116, 111, 112, 32, 102, 97, 109, 105, 110, 101, 32, 114, 97, 110, 107, 32, 115, 101, 114, 118, 101, 100, 32, 107, 105, 110, 32, 115, 101, 97, 115, 111, 110, 32, 104, 97, 100, 32] from rfl, wsF_word0 n m [110, 111, 116, 32, 112, 97, 121, 32, 108, 101, 115, 115, 32, 109, 111, 110, 116, 104, 115, 32, 99, 114, 111, 119, 110, 32, 116, 97, 107, 101, 32, 115, 116, 111, 112, 32, 102, 97, 109, 105, 110, 101, 32, 114, 97, 110, 107, 32, 115, 101, 114, 118, 101, 100, 32, 107, 105, 110, 32, 115, 101, 97, 115, 111, 110, 32, 104, 97, 100, 32] 1 [97, 110, 100] (by decide) (wd_1 h1 h2 hm)]
  rw [show (1 : Int) + 1 = 2 from rfl, show ([110, 111, 116, 32, 112, 97, 121, 32, 108, 101, 115, 115, 32, 109, 111, 110, 116, 104, 115, 32, 99, 114, 111, 119, 110, 32, 116, 97, 107, 101, 32, 115, 116, 111, 112, 32, 102, 97, 109, 105, 110, 101, 32, 114, 97, 110, 107, 32, 115, 101, 114, 118, 101, 100, 32, 107, 105, 110, 32, 115, 101, 97, 115, 111, 110, 32, 104, 97, 100, 32] : List Int) = [110, 111, 116] ++ 32 :: [112, 97, 121, 32, 108, 101, 115, 115, 32, 109, 111, 110, 116, 104, 115, 32, 99, 114, 111, 119, 110, 32, 116, 97, 107, 101, 32, 115, 116, 111, 112, 32, 102, 97, 109, 105, 110, 101, 32, 114, 97, 110, 107, 32, 115, 101, 114, 118, 101, 100, 32, 107, 105, 110, 32, 115, 101, 97, 115, 111, 110, 32, 104, 97, 100, 32] from rfl, wsF_word0 n m [112, 97, 121, 32, 108, 101, 115, 115, 32, 109, 111, 110, 116, 104, 115, 32, 99, 114, 111, 119, 110, 32, 116, 97, 107, 101, 32, 115, 116, 111, 112, 32, 102, 97, 109, 105, 110, 101, 32, 114, 97, 110, 107, 32, 115, 101, 114, 118, 101, 100, 32, 107, 105, 110, 32, 115, 101, 97, 115, 111, 110, 32, 104, 97, 100, 32] 2 [110, 111, 116] (by decide) (wd_2 h1 h2 hm)]
  rw [show (2 : Int) + 1 = 3 from rfl, show ([112, 97, 121, 32, 108, 101, 115, 115, 32, 109, 111, 110, 116, 104, 115, 32, 99, 114, 111, 119, 110, 32, 116, 97, 107, 101, 32, 115, 116, 111, 112, 32, 102, 97, 109, 105, 110, 101, 32, 114, 97, 110, 107, 32, 115, 101, 114, 118, 101, 100, 32, 107, 105, 110, 32, 115, 101, 97, 115, 111, 110, 32, 104, 97, 100, 32] : List Int) = [112, 97, 121] ++ 32 :: [108, 101, 115, 115, 32, 109, 111, 110, 116, 104, 115, 32, 99, 114, 111, 119, 110, 32, 116, 97, 107, 101, 32, 115, 116, 111, 112, 32, 102, 97, 109, 105, 110, 101, 32, 114, 97, 110, 107, 32, 115, 101, 114, 118, 101, 100, 32, 107, 105, 110, 32, 115, 101, 97, 115, 111, 110, 32, 104, 97, 100, 32] from rfl, wsF_word0 n m [108, 101, 115, 115, 32, 109, 111, 110, 116, 104, 115, 32, 99, 114, 111, 119, 110, 32, 116, 97, 107, 101, 32, 115, 116, 111, 112, 32, 102, 97, 109, 105, 110, 101, 32, 114, 97, 110, 107, 32, 115, 101, 114, 118, 101, 100, 32, 107, 105, 110, 32, 115, 101, 97, 115, 111, 110, 32, 104, 97, 100, 32] 3 [112, 97, 121] (by decide) (wd_3 h1 h2 hm)]
  rw [show (3 : Int) + 1 = 4 from rfl, show ([108, 101, 115, 115, 32, 109, 111, 110, 116, 104, 115, 32, 99, 114, 111, 119, 110, 32, 116, 97, 107, 101, 32, 115, 116, 111, 112, 32, 102, 97, 109, 105, 110, 101, 32, 114, 97, 110, 107, 32, 115, 101, 114, 118, 101, 100, 32, 107, 105, 110, 32, 115, 101, 97, 115, 111, 110, 32, 104, 97, 100, 32] : List Int) = [108, 101, 115, 115] ++ 32 :: [109, 111, 110, 116, 104, 115, 32, 99, 114, 111, 119, 110, 32, 116, 97, 107, 101, 32, 115, 116, 111, 112, 32, 102, 97, 109, 105, 110, 101, 32, 114, 97, 110, 107, 32, 115, 101, 114, 118, 101, 100, 32, 107, 105, 110, 32, 115, 101, 97, 115, 111, 110, 32, 104, 97, 100, 32] from rfl, wsF_word0 n m [109, 111, 110, 116, 104, 115, 32, 99, 114, 111, 119, 110, 32, 116, 97, 107, 101, 32, 115, 116, 111, 112, 32, 102, 97, 109, 105, 110, 101, 32, 114, 97, 110, 107, 32, 115, 101, 114, 118, 101, 100, 32, 107, 105, 110, 32, 115, 101, 97, 115, 111, 110, 32, 104, 97, 100, 32] 4 [108, 101, 115, 115] (by decide) (wd_4 h1 h2 hm)]
  rw [show (4 : Int) + 1 = 5 from rfl, show ([109, 111, 110, 116, 104, 115, 32, 99, 114, 111, 119, 110, 32, 116, 97, 107, 101, 32, 115, 116, 111, 112, 32, 102, 97, 109, 105, 110, 101, 32, 114, 97, 110, 107, 32, 115, 101, 114, 118, 101, 100, 32, 107, 105, 110, 32, 115, 101, 97, 115, 111, 110, 32, 104, 97, 100, 32] : List Int) = [109, 111, 110, 116, 104, 115] ++ 32 :: [99, 114, 111, 119, 110, 32, 116, 97, 107, 101, 32, 115, 116, 111, 112, 32, 102, 97, 109, 105, 110, 101, 32, 114, 97, 110, 107, 32, 115, 101, 114, 118, 101, 100, 32, 107, 105, 110, 32, 115, 101, 97, 115, 111, 110, 32, 104, 97, 100, 32] from rfl, wsF_word0 n m [99, 114, 111, 119, 110, 32, 116, 97, 107, 101, 32, 115, 116, 111, 112, 32, 102, 97, 109, 105, 110, 101, 32, 114, 97, 110, 107, 32, 115, 101, 114, 118, 101, 100, 32, 107, 105, 110, 32, 115, 101, 97, 115, 111, 110, 32, 104, 97, 100, 32] 5 [109, 111, 110, 116, 104, 115] (by decide) (wd_5 h1 h2 hm)]
  rw [show (5 : Int) + 1 = 6 from rfl, show ([99, 114, 111, 119, 110, 32, 116, 97, 107, 101, 32, 115, 116, 111, 112, 32, 102, 97, 109, 105, 110, 101, 32, 114, 97, 110, 107, 32, 115, 101, 114, 118, 101, 100, 32, 107, 105, 110, 32, 115, 101, 97, 115, 111, 110, 32, 104, 97, 100, 32] : List Int) = [99, 114, 111, 119, 110] ++ 32 :: [116, 97, 107, 101, 32, 115, 116, 111, 112, 32, 102, 97, 109, 105, 110, 101, 32, 114, 97, 110, 107, 32, 115, 101, 114, 118, 101, 100, 32, 107, 105, 110, 32, 115, 101, 97, 115, 111, 110, 32, 104, 97, 100, 32] from rfl, wsF_word0 n m [116, 97, 107, 101, 32, 115, 116, 111, 112, 32, 102, 97, 109, 105, 110, 101, 32, 114, 97, 110, 107, 32, 115, 101, 114, 118, 101, 100, 32, 107, 105, 110, 32, 115, 101, 97, 115, 111, 110, 32, 104, 97, 100, 32] 6 [99, 114, 111, 119, 110] (by decide) (wd_6 h1 h2 hm)]
  rw [show (6 : Int) + 1 = 7 from rfl, show ([116, 97, 107, 101, 32, 115, 116, 111, 112, 32, 102, 97, 109, 105, 110, 101, 32, 114, 97, 110, 107, 32, 115, 101, 114, 118, 101, 100, 32, 107, 105, 110, 32, 115, 101, 97, 115, 111, 110, 32, 104, 97, 100, 32] : List Int) = [116, 97, 107, 101] ++ 32 :: [115, 116, 111, 112, 32, 102, 97, 109, 105, 110, 101, 32, 114, 97, 110, 107, 32, 115, 101, 114, 118, 101, 100, 32, 107, 105, 110, 32, 115, 101, 97, 115, 111, 110, 32, 104, 97, 100, 32] from rfl, wsF_word0 n m [115, 116, 111, 112, 32, 102, 97, 109, 105, 110, 101, 32, 114, 97, 110, 107, 32, 115, 101, 114, 118, 101, 100, 32, 107, 105, 110, 32, 115, 101, 97, 115, 111, 110, 32, 104, 97, 100, 32] 7 [116, 97, 107, 101] (by decide) (wd_7 h1 h2 hm)]
  rw [show (7 : Int) + 1 = 8 from rfl, show ([115, 116, 111, 112, 32, 102, 97, 109, 105, 110, 101, 32, 114, 97, 110, 107, 32, 115, 101, 114, 118, 101, 100, 32, 107, 105, 110, 32, 115, 101, 97, 115, 111, 110, 32, 104, 97, 100, 32] : List Int) = [115, 116, 111, 112] ++ 32 :: [102, 97, 109, 105, 110, 101, 32, 114, 97, 110, 107, 32, 115, 101, 114, 118, 101, 100, 32, 107, 105, 110, 32, 115, 101, 97, 115, 111, 110, 32, 104, 97, 100, 32] from rfl, wsF_word0 n m [102, 97, 109, 105, 110, 101, 32, 114, 97, 110, 107, 32, 115, 101, 114, 118, 101, 100, 32, 107, 105, 110, 32, 115, 101, 97, 115, 111, 110, 32, 104, 97, 100, 32] 8 [115, 116, 111, 112] (by decide) (wd_8 h1 h2 hm)]
  rw [show (8 : Int) + 1 = 9 from rfl, show ([102, 97, 109, 105, 110, 101, 32, 114, 97, 110, 107, 32, 115, 101, 114, 118, 101, 100, 32, 107, 105, 110, 32, 115, 101, 97, 115, 111, 110, 32, 104, 97, 100, 32] : List Int) = [102, 97, 109, 105, 110, 101] ++ 32 :: [114, 97, 110, 107, 32, 115, 101, 114, 118, 101, 100, 32, 107, 105, 110, 32, 115, 101, 97, 115, 111, 110, 32, 104, 97, 100, 32] from rfl, wsF_word0 n m [114, 97, 110, 107, 32, 115, 101, 114, 118, 101, 100, 32, 107, 105, 110, 32, 115, 101, 97, 115, 111, 110, 32, 104, 97, 100, 32] 9 [102, 97, 109, 105, 110, 101] (by decide) (wd_9 h1 h2 hm)]
  rw [show (9 : Int) + 1 = 10 from rfl, show ([114, 97, 110, 107, 32, 115, 101, 114, 118, 101, 100, 32, 107, 105, 110, 32, 115, 101, 97, 115, 111, 110, 32, 104, 97, 100, 32] : List Int) = [114, 97, 110, 107] ++ 32 :: [115, 101, 114, 118, 101, 100, 32, 107, 105, 110, 32, 115, 101, 97, 115, 111, 110, 32, 104, 97, 100, 32] from rfl, wsF_word0 n m [115, 101, 114, 118, 101, 100, 32, 107, 105, 110, 32, 115, 101, 97, 115, 111, 110, 32, 104, 97, 100, 32] 10 [114, 97, 110, 107] (by decide) (wd_10 h1 h2 hm)]
  rw [show (10 : Int) + 1 = 11 from rfl, show ([115, 101, 114, 118, 101, 100, 32, 107, 105, 110, 32, 115, 101, 97, 115, 111, 110, 32, 104, 97, 100, 32] : List Int) = [115, 101, 114, 118, 101, 100] ++ 32 :: [107, 105, 110, 32, 115, 101, 97, 115, 111, 110, 32, 104, 97, 100, 32] from rfl, wsF_word0 n m [107, 105, 110, 32, 115, 101, 97, 115, 111, 110, 32, 104, 97, 100, 32] 11 [115, 101, 114, 118, 101, 100] (by decide) (wd_11 h1 h2 hm)]
  rw [show (11 : Int) + 1 = 12 from rfl, show ([107, 105, 110, 32, 115, 101, 97, 115, 111, 110, 32, 104, 97, 100, 32] : List Int) = [107, 105, 110] ++ 32 :: [115, 101, 97, 115, 111, 110, 32, 104, 97, 100, 32] from rfl, wsF_word0 n m [115, 101, 97, 115, 111, 110, 32, 104, 97, 100, 32] 12 [107, 105, 110] (by decide) (wd_12 h1 h2 hm)]
  rw [show (12 : Int) + 1 = 13 from rfl, show ([115, 101, 97, 115, 111, 110, 32, 104, 97, 100, 32] : List Int) = [115, 101, 97, 115, 111, 110] ++ 32 :: [104, 97, 100, 32] from rfl, wsF_word0 n m [104, 97, 100, 32] 13 [115, 101, 97, 115, 111, 110] (by decide) (wd_13 h1 h2 hm)]
  rw [show (13 : Int) + 1 = 14 from rfl, show ([104, 97, 100, 32] : List Int) = [104, 97, 100] ++ 32 :: [] from rfl, wsF_word0 n m [] 14 [104, 97, 100] (by decide) (wd_14 h1 h2 hm)]
  rw [wsF]
theorem wsF_long {m : Int → Int} {z : Int} (h1 : 6 < z) : wsF z m WL 0 0 0 = 101 := by
  rw [show WL = [105, 102] ++ 32 :: [97, 110, 100, 32, 110, 111, 116, 32, 112, 97, 121, 32, 108, 101, 115, 115, 32, 109, 111, 110, 116, 104, 115, 32, 99, 114, 111, 119, 110, 32, 116, 97, 107, 101, 32, 115, 116, 111, 112, 32, 102, 97, 109, 105, 110, 101, 32, 114, 97, 110, 107, 32, 115, 101, 114, 118, 101, 100, 32, 107, 105, 110, 32, 115, 101, 97, 115, 111, 110, 32, 104, 97, 100, 32] from rfl, wsF_word z m [97, 110, 100, 32, 110, 111, 116, 32, 112, 97, 121, 32, 108, 101, 115, 115, 32, 109, 111, 110, 116, 104, 115, 32, 99, 114, 111, 119, 110, 32, 116, 97, 107, 101, 32, 115, 116, 111, 112, 32, 102, 97, 109, 105, 110, 101, 32, 114, 97, 110, 107, 32, 115, 101, 114, 118, 101, 100, 32, 107, 105, 110, 32, 115, 101, 97, 115, 111, 110, 32, 104, 97, 100, 32] _ [105, 102] 0 0 (by decide), if_neg (fun h => by simp only [List.length_cons, List.length_nil] at h; omega)]
  rw [show ([97, 110, 100, 32, 110, 111, 116, 32, 112, 97, 121, 32, 108, 101, 115, 115, 32, 109, 111, 110, 116, 104, 115, 32, 99, 114, 111, 119, 110, 32, 116, 97, 107, 101, 32, 115, 116, 111, 112, 32, 102, 97, 109, 105, 110, 101, 32, 114, 97, 110, 107, 32, 115, 101, 114, 118, 101, 100, 32, 107, 105, 110, 32, 115, 101, 97, 115, 111, 110, 32, 104, 97, 100, 32] : List Int) = [97, 110, 100] ++ 32 :: [110, 111, 116, 32, 112, 97, 121, 32, 108, 101, 115, 115, 32, 109, 111, 110, 116, 104, 115, 32, 99, 114, 111, 119, 110, 32, 116, 97, 107, 101, 32, 115, 116, 111, 112, 32, 102, 97, 109, 105, 110, 101, 32, 114, 97, 110, 107, 32, 115, 101, 114, 118, 101, 100, 32, 107, 105, 110, 32, 115, 101, 97, 115, 111, 110, 32, 104, 97, 100, 32] from rfl, wsF_word z m [110, 111, 116, 32, 112, 97, 121, 32, 108, 101, 115, 115, 32, 109, 111, 110, 116, 104, 115, 32, 99, 114, 111, 119, 110, 32, 116, 97, 107, 101, 32, 115, 116, 111, 112, 32, 102, 97, 109, 105, 110, 101, 32, 114, 97, 110, 107, 32, 115, 101, 114, 118, 101, 100, 32, 107, 105, 110, 32, 115, 101, 97, 115, 111, 110, 32, 104, 97, 100, 32] _ [97, 110, 100] 0 0 (by decide), if_neg (fun h => by simp only [List.length_cons, List.length_nil] at h; omega)]
  rw [show ([110, 111, 116, 32, 112, 97, 121, 32, 108, 101, 115, 115, 32, 109, 111, 110, 116, 104, 115, 32, 99, 114, 111, 119, 110, 32, 116, 97, 107, 101, 32, 115, 116, 111, 112, 32, 102, 97, 109, 105, 110, 101, 32, 114, 97, 110, 107, 32, 115, 101, 114, 118, 101, 100, 32, 107, 105, 110, 32, 115, 101, 97, 115, 111, 110, 32, 104, 97, 100, 32] : List Int) = [110, 111, 116] ++ 32 :: [112, 97, 121, 32, 108, 101, 115, 115, 32, 109, 111, 110, 116, 104, 115, 32, 99, 114, 111, 119, 110, 32, 116, 97, 107, 101, 32, 115, 116, 111, 112, 32, 102, 97, 109, 105, 110, 101, 32, 114, 97, 110, 107, 32, 115, 101, 114, 118, 101, 100, 32, 107, 105, 110, 32, 115, 101, 97, 115, 111, 110, 32, 104, 97, 100, 32] from rfl, wsF_word z m [112, 97, 121, 32, 108, 101, 115, 115, 32, 109, 111, 110, 116, 104, 115, 32, 99, 114, 111, 119, 110, 32, 116, 97, 107, 101, 32, 115, 116, 111, 112, 32, 102, 97, 109, 105, 110, 101, 32, 114, 97, 110, 107, 32, 115, 101, 114, 118, 101, 100, 32, 107, 105, 110, 32, 115, 101, 97, 115, 111, 110, 32, 104, 97, 100, 32] _ [110, 111, 116] 0 0 (by decide), if_neg (fun h => by simp only [List.length_cons, List.length_nil] at h; omega)]
  rw [show ([112, 97, 121, 32, 108, 101, 115, 115, 32, 109, 111, 110, 116, 104, 115, 32, 99, 114, 111, 119, 110, 32, 116, 97, 107, 101, 32, 115, 116, 111, 112, 32, 102, 97, 109, 105, 110, 101, 32, 114, 97, 110, 107, 32, 115, 101, 114, 118, 101, 100, 32, 107, 105, 110, 32, 115, 101, 97, 115, 111, 110, 32, 104, 97, 100, 32] : List Int) = [112, 97, 121] ++ 32 :: [108, 101, 115, 115, 32, 109, 111, 110, 116, 104, 115, 32, 99, 114, 111, 119, 110, 32, 116, 97, 107, 101, 32, 115, 116, 111, 112, 32, 102, 97, 109, 105, 110, 101, 32, 114, 97, 110, 107, 32, 115, 101, 114, 118, 101, 100, 32, 107, 105, 110, 32, 115, 101, 97, 115, 111, 110, 32, 104, 97, 100, 32] from rfl, wsF_word z m [108, 101, 115, 115, 32, 109, 111, 110, 116, 104, 115, 32, 99, 114, 111, 119, 110, 32, 116, 97, 107, 101, 32, 115, 116, 111, 112, 32, 102, 97, 109, 105, 110, 101, 32, 114, 97, 110, 107, 32, 115, 101, 114, 118, 101, 100, 32, 107, 105, 110, 32, 115, 101, 97, 115, 111, 110, 32, 104, 97, 100, 32] _ [112, 97, 121] 0 0 (by decide), if_neg (fun h => by simp only [List.length_cons, List.length_nil] at h; omega)]
  rw [show ([108, 101, 115, 115, 32, 109, 111, 110, 116, 104, 115, 32, 99, 114, 111, 119, 110, 32, 116, 97, 107, 101, 32, 115, 116, 111, 112, 32, 102, 97, 109, 105, 110, 101, 32, 114, 97, 110, 107, 32, 115, 101, 114, 118, 101, 100, 32, 107, 105, 110, 32, 115, 101, 97, 115, 111, 110, 32, 104, 97, 100, 32] : List Int) = [108, 101, 115, 115] ++ 32 :: [109, 111, 110, 116, 104, 115, 32, 99, 114, 111, 119, 110, 32, 116, 97, 107, 101, 32, 115, 116, 111, 112, 32, 102, 97, 109, 105, 110, 101, 32, 114, 97, 110, 107, 32, 115, 101, 114, 118, 101, 100, 32, 107, 105, 110, 32, 115, 101, 97, 115, 111, 110, 32, 104, 97, 100, 32] from rfl, wsF_word z m [109, 111, 110, 116, 104, 115, 32, 99, 114, 111, 119, 110, 32, 116, 97, 107, 101, 32, 115, 116, 111, 112, 32, 102, 97, 109, 105, 110, 101, 32, 114, 97, 110, 107, 32, 115, 101, 114, 118, 101, 100, 32, 107, 105, 110, 32, 115, 101, 97, 115, 111, 110, 32, 104, 97, 100, 32] _ [108, 101, 115, 115] 0 0 (by decide), if_neg (fun h => by simp only [List.length_cons, List.length_nil] at h; omega)]
  rw [show ([109, 111, 110, 116, 104, 115, 32, 99, 114, 111, 119, 110, 32, 116, 97, 107, 101, 32, 115, 116, 111, 112, 32, 102, 97, 109, 105, 110, 101, 32, 114, 97, 110, 107, 32, 115, 101, 114, 118, 101, 100, 32, 107, 105, 110, 32, 115, 101, 97, 115, 111, 110, 32, 104, 97, 100, 32] : List Int) = [109, 111, 110, 116, 104, 115] ++ 32 :: [99, 114, 111, 119, 110, 32, 116, 97, 107, 101, 32, 115, 116, 111, 112, 32, 102, 97, 109, 105, 110, 101, 32, 114, 97, 110, 107, 32, 115, 101, 114, 118, 101, 100, 32, 107, 105, 110, 32, 115, 101, 97, 115, 111, 110, 32, 104, 97, 100, 32] from rfl, wsF_word z m [99, 114, 111, 119, 110, 32, 116, 97, 107, 101, 32, 115, 116, 111, 112, 32, 102, 97, 109, 105, 110, 101, 32, 114, 97, 110, 107, 32, 115, 101, 114, 118, 101, 100, 32, 107, 105, 110, 32, 115, 101, 97, 115, 111, 110, 32, 104, 97, 100, 32] _ [109, 111, 110, 116, 104, 115] 0 0 (by decide), if_neg (fun h => by simp only [List.length_cons, List.length_nil] at h; omega)]
  rw [show ([99, 114, 111, 119, 110, 32, 116, 97, 107, 101, 32, 115, 116, 111, 112, 32, 102, 97, 109, 105, 110, 101, 32, 114, 97, 110, 107, 32, 115, 101, 114, 118, 101, 100, 32, 107, 105, 110, 32, 115, 101, 97, 115, 111, 110, 32, 104, 97, 100, 32] : List Int) = [99, 114, 111, 119, 110] ++ 32 :: [116, 97, 107, 101, 32, 115, 116, 111, 112, 32, 102, 97, 109, 105, 110, 101, 32, 114, 97, 110, 107, 32, 115, 101, 114, 118, 101, 100, 32, 107, 105, 110, 32, 115, 101, 97, 115, 111, 110, 32, 104, 97, 100, 32] from rfl, wsF_word z m [116, 97, 107, 101, 32, 115, 116, 111, 112, 32, 102, 97, 109, 105, 110, 101, 32, 114, 97, 110, 107, 32, 115, 101, 114, 118, 101, 100, 32, 107, 105, 110, 32, 115, 101, 97, 115, 111, 110, 32, 104, 97, 100, 32] _ [99, 114, 111, 119, 110] 0 0 (by decide), if_neg (fun h => by simp only [List.length_cons, List.length_nil] at h; omega)]
  rw [show ([116, 97, 107, 101, 32, 115, 116, 111, 112, 32, 102, 97, 109, 105, 110, 101, 32, 114, 97, 110, 107, 32, 115, 101, 114, 118, 101, 100, 32, 107, 105, 110, 32, 115, 101, 97, 115, 111, 110, 32, 104, 97, 100, 32] : List Int) = [116, 97, 107, 101] ++ 32 :: [115, 116, 111, 112, 32, 102, 97, 109, 105, 110, 101, 32, 114, 97, 110, 107, 32, 115, 101, 114, 118, 101, 100, 32, 107, 105, 110, 32, 115, 101, 97, 115, 111, 110, 32, 104, 97, 100, 32] from rfl, wsF_word z m [115, 116, 111, 112, 32, 102, 97, 109, 105, 110, 101, 32, 114, 97, 110, 107, 32, 115, 101, 114, 118, 101, 100, 32, 107, 105, 110, 32, 115, 101, 97, 115, 111, 110, 32, 104, 97, 100, 32] _ [116, 97, 107, 101] 0 0 (by decide), if_neg (fun h => by simp only [List.length_cons, List.length_nil] at h; omega)]
  rw [show ([115, 116, 111, 112, 32, 102, 97, 109, 105, 110, 101, 32, 114, 97, 110, 107, 32, 115, 101, 114, 118, 101, 100, 32, 107, 105, 110, 32, 115, 101, 97, 115, 111, 110, 32, 104, 97, 100, 32] : List Int) = [115, 116, 111, 112] ++ 32 :: [102, 97, 109, 105, 110, 101, 32, 114, 97, 110, 107, 32, 115, 101, 114, 118, 101, 100, 32, 107, 105, 110, 32, 115, 101, 97, 115, 111, 110, 32, 104, 97, 100, 32] from rfl, wsF_word z m [102, 97, 109, 105, 110, 101, 32, 114, 97, 110, 107, 32, 115, 101, 114, 118, 101, 100, 32, 107, 105, 110, 32, 115, 101, 97, 115, 111, 110, 32, 104, 97, 100, 32] _ [115, 116, 111, 112] 0 0 (by decide), if_neg (fun h => by simp only [List.length_cons, List.length_nil] at h; omega)]
  rw [show ([102, 97, 109, 105, 110, 101, 32, 114, 97, 110, 107, 32, 115, 101, 114, 118, 101, 100, 32, 107, 105, 110, 32, 115, 101, 97, 115, 111, 110, 32, 104, 97, 100, 32] : List Int) = [102, 97, 109, 105, 110, 101] ++ 32 :: [114, 97, 110, 107, 32, 115, 101, 114, 118, 101, 100, 32, 107, 105, 110, 32, 115, 101, 97, 115, 111, 110, 32, 104, 97, 100, 32] from rfl, wsF_word z m [114, 97, 110, 107, 32, 115, 101, 114, 118, 101, 100, 32, 107, 105, 110, 32, 115, 101, 97, 115, 111, 110, 32, 104, 97, 100, 32] _ [102, 97, 109, 105, 110, 101] 0 0 (by decide), if_neg (fun h => by simp only [List.length_cons, List.length_nil] at h; omega)]
  rw [show ([114, 97, 110, 107, 32, 115, 101, 114, 118, 101, 100, 32, 107, 105, 110, 32, 115, 101, 97, 115, 111, 110, 32, 104, 97, 100, 32] : List Int) = [114, 97, 110, 107] ++ 32 :: [115, 101, 114, 118, 101, 100, 32, 107, 105, 110, 32, 115, 101, 97, 115, 111, 110, 32, 104, 97, 100, 32] from rfl, wsF_word z m [115, 101, 114, 118, 101, 100, 32, 107, 105, 110, 32, 115, 101, 97, 115, 111, 110, 32, 104, 97, 100, 32] _ [114, 97, 110, 107] 0 0 (by decide), if_neg (fun h => by simp only [List.length_cons, List.length_nil] at h; omega)]
  rw [show ([115, 101, 114, 118, 101, 100, 32, 107, 105, 110, 32, 115, 101, 97, 115, 111, 110, 32, 104, 97, 100, 32] : List Int) = [115, 101, 114, 118, 101, 100] ++ 32 :: [107, 105, 110, 32, 115, 101, 97, 115, 111, 110, 32, 104, 97, 100, 32] from rfl, wsF_word z m [107, 105, 110, 32, 115, 101, 97, 115, 111, 110, 32, 104, 97, 100, 32] _ [115, 101, 114, 118, 101, 100] 0 0 (by decide), if_neg (fun h => by simp only [List.length_cons, List.length_nil] at h; omega)]
  rw [show ([107, 105, 110, 32, 115, 101, 97, 115, 111, 110, 32, 104, 97, 100, 32] : List Int) = [107, 105, 110] ++ 32 :: [115, 101, 97, 115, 111, 110, 32, 104, 97, 100, 32] from rfl, wsF_word z m [115, 101, 97, 115, 111, 110, 32, 104, 97, 100, 32] _ [107, 105, 110] 0 0 (by decide), if_neg (fun h => by simp only [List.length_cons, List.length_nil] at h; omega)]
  rw [show ([115, 101, 97, 115, 111, 110, 32, 104, 97, 100, 32] : List Int) = [115, 101, 97, 115, 111, 110] ++ 32 :: [104, 97, 100, 32] from rfl, wsF_word z m [104, 97, 100, 32] _ [115, 101, 97, 115, 111, 110] 0 0 (by decide), if_neg (fun h => by simp only [List.length_cons, List.length_nil] at h; omega)]
  rw [show ([104, 97, 100, 32] : List Int) = [104, 97, 100] ++ 32 :: [] from rfl, wsF_word z m [] _ [104, 97, 100] 0 0 (by decide), if_neg (fun h => by simp only [List.length_cons, List.length_nil] at h; omega)]
  rw [wsF]
