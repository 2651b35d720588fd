/-! ===== the reader's rules: p is where the reading of the token at hand began ===== -/
def whF (b : Int → Int) (p : Int) : Int := rn b qB p
def weF (b : Int → Int) (p : Int) : Int := rn b qL (whF b p)
def deF (b : Int → Int) (p : Int) : Int := rn b qD (whF b p)
def tkF (b : Int → Int) (p : Int) : Int :=
  if b (whF b p) < 0 then 100 else if qL (b (whF b p)) then (if 6 < weF b p - whF b p then 101 else clF (wvF b (whF b p) (weF b p - whF b p).toNat)) else if qD (b (whF b p)) then (if 4 < deF b p - whF b p then 101 else 102) else if 58 ≤ b (whF b p) ∧ b (whF b p) ≤ 62 then b (whF b p) else 101
def nxF (b : Int → Int) (p : Int) : Int :=
  if b (whF b p) < 0 then whF b p else if qL (b (whF b p)) then weF b p else if qD (b (whF b p)) then deF b p else whF b p + 1
def nmF (b : Int → Int) (p : Int) : Int := dgF b (whF b p) (deF b p - whF b p).toNat
theorem clF_rng (v : Int) : (0 ≤ clF v ∧ clF v ≤ 14) ∨ clF v = 101 := by
  have h := TKw_of v
  unfold TKw at h
  omega
theorem whF_rng (b : Int → Int) {p : Int} (hp : p ≤ 500) : p ≤ whF b p ∧ whF b p ≤ 500 := rn_ge b qB hp
theorem tkF_rng (b : Int → Int) (p : Int) : (0 ≤ tkF b p ∧ tkF b p ≤ 14) ∨ (58 ≤ tkF b p ∧ tkF b p ≤ 62) ∨ (100 ≤ tkF b p ∧ tkF b p ≤ 102) := by
  unfold tkF
  split
  · omega
  · split
    · split
      · omega
      · have := clF_rng (wvF b (whF b p) (weF b p - whF b p).toNat); omega
    · split
      · split <;> omega
      · split <;> omega
theorem nxF_rng {b : Int → Int} {L : Int} (hb : okB b L) {p : Int} (hp : 0 ≤ p ∧ p ≤ 500) : p ≤ nxF b p ∧ whF b p ≤ nxF b p ∧ nxF b p ≤ 500 ∧ (tkF b p ≠ 100 → whF b p < nxF b p) := by
  have h0 := hb.1
  have h1 := whF_rng b hp.2
  have h2 : weF b p = rn b qL (whF b p) := rfl
  have h3 : deF b p = rn b qD (whF b p) := rfl
  have h4 := rn_ge b qL h1.2
  have h5 := rn_ge b qD h1.2
  have h6 := hb.2.2 (whF b p)
  unfold nxF tkF
  by_cases c0 : b (whF b p) < 0
  · rw [if_pos c0, if_pos c0]; omega
  · rw [if_neg c0, if_neg c0]
    have hw : whF b p < L := Int.not_le.mp (fun h => by have := h6 h; omega)
    by_cases c1 : qL (b (whF b p))
    · have h7 := rn_step (b := b) (q := qL) (p := whF b p) (by omega) c1
      have h8 := rn_ge b qL (p := whF b p + 1) (by omega)
      rw [if_pos c1, if_pos c1]; omega
    · rw [if_neg c1, if_neg c1]
      by_cases c2 : qD (b (whF b p))
      · have h7 := rn_step (b := b) (q := qD) (p := whF b p) (by omega) c2
        have h8 := rn_ge b qD (p := whF b p + 1) (by omega)
        rw [if_pos c2, if_pos c2]; omega
      · rw [if_neg c2, if_neg c2]; omega
theorem tkF_end {b : Int → Int} {L : Int} (hb : okB b L) {p : Int} (hp : 0 ≤ p ∧ p ≤ 500) (h : tkF b p ≠ 100) : whF b p < L := by
  have h1 := whF_rng b hp.2
  refine Int.not_le.mp (fun h2 => h ?_)
  have h3 := hb.2.2 _ h2
  rw [tkF, if_pos (by omega)]
theorem dgF_rng {b : Int → Int} {s : Int} : ∀ n : Nat, (∀ i : Int, 0 ≤ i → i < n → qD (b (s + i))) → 0 ≤ dgF b s n ∧ dgF b s n ≤ 9999 ∧ (n ≤ 4 → dgF b s n < 10 ^ n)
  | 0, _ => by simp [dgF]
  | n + 1, h => by
    have ih := dgF_rng n (fun i h1 h2 => h i h1 (by omega))
    have hd := h n (by omega) (by omega)
    rw [dgF]
    by_cases c : n < 4
    · rw [if_pos c]
      have h9 := ih.2.2 (by omega)
      have h8 : (10 : Int) ^ n ≤ 1000 := by
        rcases (show n = 0 ∨ n = 1 ∨ n = 2 ∨ n = 3 by omega) with rfl | rfl | rfl | rfl <;> decide
      rw [Int.pow_succ]
      omega
    · rw [if_neg c]
      exact ⟨ih.1, ih.2.1, fun h9 => by omega⟩
theorem nmF_rng (b : Int → Int) (p : Int) : 0 ≤ nmF b p ∧ nmF b p ≤ 9999 := by
  have h := dgF_rng (b := b) (s := whF b p) (deF b p - whF b p).toNat (fun i h1 h2 => rn_all b qD (p := whF b p) (by omega) (by rw [deF] at h2; omega))
  exact ⟨h.1, h.2.1⟩
/-! a test -/
def tqF (b : Int → Int) (p : Int) : Int := if tkF b p = 2 then nxF b p else p
def tgF (b : Int → Int) (p : Int) : Int := nxF b (tqF b p)
def tsF (b : Int → Int) (p : Int) : Int := nxF b (tgF b p)
abbrev tOk (b : Int → Int) (p : Int) : Prop := (9 ≤ tkF b (tqF b p) ∧ tkF b (tqF b p) ≤ 14) ∧ (tkF b (tqF b p) = 9 ∨ ((60 ≤ tkF b (tgF b p) ∧ tkF b (tgF b p) ≤ 62) ∧ tkF b (tsF b p) = 102))
def tEn (b : Int → Int) (p : Int) : Int := if ¬ (9 ≤ tkF b (tqF b p) ∧ tkF b (tqF b p) ≤ 14) then tqF b p else if tkF b (tqF b p) = 9 then tgF b p else if ¬ (60 ≤ tkF b (tgF b p) ∧ tkF b (tgF b p) ≤ 62) then tgF b p else if ¬ tkF b (tsF b p) = 102 then tsF b p else nxF b (tsF b p)
def tNg (b : Int → Int) (p : Int) : Int := if tkF b p = 2 then 1 else 0
def tSb (b : Int → Int) (p : Int) : Int := tkF b (tqF b p) - 8
def tSg (b : Int → Int) (p : Int) : Int := if tkF b (tqF b p) = 9 then 61 else tkF b (tgF b p)
def tLm (b : Int → Int) (p : Int) : Int := if tkF b (tqF b p) = 9 then 1 else nmF b (tsF b p)
theorem tqF_rng {b : Int → Int} {L : Int} (hb : okB b L) {p : Int} (hp : 0 ≤ p ∧ p ≤ 500) : p ≤ tqF b p ∧ tqF b p ≤ 500 := by
  have h := nxF_rng hb hp
  unfold tqF
  split <;> omega
theorem tEn_rng {b : Int → Int} {L : Int} (hb : okB b L) {p : Int} (hp : 0 ≤ p ∧ p ≤ 500) : p ≤ tEn b p ∧ tEn b p ≤ 500 ∧ (tOk b p → p < tEn b p) := by
  have h0 := tqF_rng hb hp
  have h1 : tgF b p = nxF b (tqF b p) := rfl
  have h2 : tsF b p = nxF b (tgF b p) := rfl
  have h3 := nxF_rng hb (p := tqF b p) (by omega)
  have h4 := nxF_rng hb (p := tgF b p) (by omega)
  have h5 := nxF_rng hb (p := tsF b p) (by omega)
  have h6 := whF_rng b h0.2
  unfold tEn
  split
  · refine ⟨h0.1, h0.2, fun h => absurd h.1 (by assumption)⟩
  · split
    · omega
    · split
      · omega
      · split <;> omega
/-! faults -/
abbrev FP : Type := Int × Int
def adF (fp : FP) (k w : Int) : FP := if fp.1 = 0 then (k, w) else fp
def put4 (C : Int → Int) (a : Int) (b : Int → Int) (p : Int) : Int → Int := upF (upF (upF (upF C a (tNg b p)) (a + 1) (tSb b p)) (a + 2) (tSg b p)) (a + 3) (tLm b p)
/-! the tests of a line: ok, place, how many, faults, what was kept -/
abbrev RdT : Type := Int × Int × Int × FP × (Int → Int)
def teP (b : Int → Int) (p n : Int) (fp : FP) : FP := if 4 ≤ n then adF fp 3 (whF b p) else fp
def teC (b : Int → Int) (l p n : Int) (C : Int → Int) : Int → Int := if l < 16 ∧ n < 4 then put4 C (20 * l + 1 + 4 * n) b p else C
def tsL (b : Int → Int) (l : Int) : Nat → Int → Int → FP → (Int → Int) → RdT
  | 0, p, n, fp, C => (0, p, n, fp, C)
  | m + 1, p, n, fp, C => if tOk b p then (if tkF b (tEn b p) = 1 then tsL b l m (nxF b (tEn b p)) (n + 1) (teP b p n fp) (teC b l p n C) else (1, tEn b p, n + 1, teP b p n fp, teC b l p n C)) else (0, tEn b p, n, teP b p n fp, C)
def liP (b : Int → Int) (p l : Int) (fp : FP) : FP := if 16 ≤ l then adF fp 3 (whF b p) else fp
def tsR (b : Int → Int) (p l : Int) (fp : FP) (C : Int → Int) : RdT := tsL b l 501 (nxF b p) 0 (liP b p l fp) C
/-- before the deed -/
def hdF (b : Int → Int) (p l : Int) (fp : FP) (C : Int → Int) : RdT :=
  if tkF b p = 0 then (if (tsR b p l fp C).1 = 1 then (if tkF b (tsR b p l fp C).2.1 = 58 then (1, nxF b (tsR b p l fp C).2.1, (tsR b p l fp C).2.2) else (0, (tsR b p l fp C).2)) else (0, (tsR b p l fp C).2)) else (1, p, 0, liP b p l fp, C)
/-! the deed -/
def dF (b : Int → Int) (d : Int) : Int := if tkF b d = 8 then nxF b d else nxF b (nxF b d)
abbrev dHas (b : Int → Int) (d : Int) : Prop := (3 ≤ tkF b d ∧ tkF b d ≤ 8) ∧ (tkF b d = 8 ∨ tkF b (nxF b d) = 102)
abbrev dOk (b : Int → Int) (d : Int) : Prop := dHas b d ∧ tkF b (dF b d) = 59
def dEn (b : Int → Int) (d : Int) : Int := if ¬ (3 ≤ tkF b d ∧ tkF b d ≤ 8) then d else if ¬ (tkF b d = 8 ∨ tkF b (nxF b d) = 102) then nxF b d else if tkF b (dF b d) = 59 then nxF b (dF b d) else dF b d
def dNm (b : Int → Int) (d : Int) : Int := if tkF b d = 8 then 0 else nmF b (nxF b d)
abbrev fitP (a n : Int) : Prop := (a = 4 ∨ a = 6 → n ≤ 100) ∧ (a = 5 → 1 ≤ n ∧ n ≤ 12) ∧ (a = 7 → 50 ≤ n ∧ n ≤ 150)
def dFp (b : Int → Int) (d : Int) (fp : FP) : FP := if tkF b d ≠ 8 ∧ ¬ fitP (tkF b d) (nmF b (nxF b d)) then adF fp 2 (whF b (nxF b d)) else fp
def dC (b : Int → Int) (d l n : Int) (C : Int → Int) : Int → Int := if l < 16 then upF (upF (upF C (20 * l + 0) n) (20 * l + 17) (tkF b d + 17)) (20 * l + 18) (dNm b d) else C
/-- a line: ok, place, faults, what was kept -/
abbrev LnT : Type := Int × Int × FP × (Int → Int)
def lnF (b : Int → Int) (p l : Int) (fp : FP) (C : Int → Int) : LnT :=
  if (hdF b p l fp C).1 = 1 then (if dOk b (hdF b p l fp C).2.1 then (1, dEn b (hdF b p l fp C).2.1, dFp b (hdF b p l fp C).2.1 (hdF b p l fp C).2.2.2.1, dC b (hdF b p l fp C).2.1 l (hdF b p l fp C).2.2.1 (hdF b p l fp C).2.2.2.2) else (0, dEn b (hdF b p l fp C).2.1, (hdF b p l fp C).2.2.2)) else (0, (hdF b p l fp C).2.1, (hdF b p l fp C).2.2.2)
def rgF (b : Int → Int) : Nat → Int → Int → FP → (Int → Int) → RdT
  | 0, p, l, fp, C => (0, p, l, fp, C)
  | m + 1, p, l, fp, C => if tkF b p = 100 then (1, p, l, fp, C) else if (lnF b p l fp C).1 = 1 then rgF b m (lnF b p l fp C).2.1 (l + 1) (lnF b p l fp C).2.2.1 (lnF b p l fp C).2.2.2 else (0, (lnF b p l fp C).2.1, l + 1, (lnF b p l fp C).2.2)
theorem dEn_rng {b : Int → Int} {L : Int} (hb : okB b L) {d : Int} (hp : 0 ≤ d ∧ d ≤ 500) : d ≤ dEn b d ∧ dEn b d ≤ 500 ∧ (dOk b d → d < dEn b d) := by
  have h3 := nxF_rng hb (p := d) (by omega)
  have h4 := nxF_rng hb (p := nxF b d) (by omega)
  have h6 := whF_rng b hp.2
  have h7 : d ≤ dF b d ∧ dF b d ≤ 500 ∧ nxF b d ≤ dF b d := by unfold dF; split <;> omega
  have h5 := nxF_rng hb (p := dF b d) (by omega)
  unfold dEn
  split
  · exact ⟨by omega, by omega, fun h => absurd h.1.1 (by assumption)⟩
  · split
    · exact ⟨by omega, by omega, fun h => absurd h.1.2 (by assumption)⟩
    · split
      · omega
      · exact ⟨by omega, by omega, fun h => absurd h.2 (by assumption)⟩
theorem tsL_rng {b : Int → Int} {L : Int} (hb : okB b L) (l : Int) : ∀ (m : Nat) {p n : Int} {fp : FP} {C : Int → Int}, (0 ≤ p ∧ p ≤ 500) → (0 ≤ n ∧ n ≤ p) → p ≤ (tsL b l m p n fp C).2.1 ∧ (tsL b l m p n fp C).2.1 ≤ 500 ∧ 0 ≤ (tsL b l m p n fp C).2.2.1 ∧ (tsL b l m p n fp C).2.2.1 ≤ (tsL b l m p n fp C).2.1
  | 0, p, n, fp, C, h, h2 => by simp only [tsL]; omega
  | m + 1, p, n, fp, C, h, h2 => by
    have h3 := tEn_rng hb h
    rw [tsL]
    by_cases c : tOk b p
    · rw [if_pos c]
      have h4 := h3.2.2 c
      have h5 := nxF_rng hb (p := tEn b p) (by omega)
      split
      · have ih := tsL_rng hb l m (p := nxF b (tEn b p)) (n := n + 1) (fp := teP b p n fp) (C := teC b l p n C) (by omega) (by omega)
        omega
      · dsimp only; omega
    · rw [if_neg c]
      dsimp only
      omega
theorem hdF_rng {b : Int → Int} {L : Int} (hb : okB b L) {p l : Int} {fp : FP} {C : Int → Int} (hp : 0 ≤ p ∧ p ≤ 500) : p ≤ (hdF b p l fp C).2.1 ∧ (hdF b p l fp C).2.1 ≤ 500 ∧ 0 ≤ (hdF b p l fp C).2.2.1 ∧ (hdF b p l fp C).2.2.1 ≤ 500 := by
  have h1 := nxF_rng hb hp
  have h2 := tsL_rng hb l 501 (p := nxF b p) (n := 0) (fp := liP b p l fp) (C := C) (by omega) (by omega)
  have h3 : tsR b p l fp C = tsL b l 501 (nxF b p) 0 (liP b p l fp) C := rfl
  rw [← h3] at h2
  have h4 := nxF_rng hb (p := (tsR b p l fp C).2.1) (by omega)
  unfold hdF
  split
  · split
    · split
      · dsimp only; omega
      · dsimp only; omega
    · dsimp only; omega
  · dsimp only; omega
theorem lnF_rng {b : Int → Int} {L : Int} (hb : okB b L) {p l : Int} {fp : FP} {C : Int → Int} (hp : 0 ≤ p ∧ p ≤ 500) : p ≤ (lnF b p l fp C).2.1 ∧ (lnF b p l fp C).2.1 ≤ 500 ∧ ((lnF b p l fp C).1 = 1 → p < (lnF b p l fp C).2.1) := by
  have h1 := hdF_rng hb (l := l) (fp := fp) (C := C) hp
  have h2 := dEn_rng hb (d := (hdF b p l fp C).2.1) (by omega)
  unfold lnF
  split
  · split
    · dsimp only
      have := h2.2.2 (by assumption)
      omega
    · dsimp only
      omega
  · dsimp only
    omega
