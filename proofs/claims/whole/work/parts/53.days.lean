/-! ===== a season's end ===== -/
def esA (A : Int → Int) (s : Int) : Nat → Int → Int
  | 0 => A
  | v + 1 => upF (upF (esA A s v) (120 + 20 * (v : Int) + s) (cropF (A (40 + 6 * (v : Int) + 0)) (A (40 + 6 * (v : Int) + 3)) (A (20 + s)) (A (40 + 6 * (v : Int) + 4)))) (40 + 6 * (v : Int) + 3) (hlF (A (40 + 6 * (v : Int) + 3)) (A (40 + 6 * (v : Int) + 4)))
theorem esA_off (A : Int → Int) (s : Int) {i : Int} : ∀ n : Nat, (∀ v : Int, 0 ≤ v → v < n → i ≠ 120 + 20 * v + s ∧ i ≠ 40 + 6 * v + 3) → esA A s n i = A i
  | 0, _ => rfl
  | n + 1, h => by
    have h1 := h n (by omega) (by omega)
    rw [esA, upF_n h1.2, upF_n h1.1]
    exact esA_off A s n (fun v v1 v2 => h v v1 (by omega))
theorem esA_come (A : Int → Int) {s : Int} (hs : 0 ≤ s ∧ s < 20) : ∀ (n : Nat) (v : Int), 0 ≤ v → v < n → n ≤ 12 → esA A s n (120 + 20 * v + s) = cropF (A (40 + 6 * v + 0)) (A (40 + 6 * v + 3)) (A (20 + s)) (A (40 + 6 * v + 4))
  | 0, v, h1, h2, _ => by omega
  | n + 1, v, h1, h2, h3 => by
    rw [esA, upF_n (by omega)]
    by_cases q : v = (n : Int)
    · rw [q, upF_s]
    · rw [upF_n (by omega)]
      exact esA_come A hs n v h1 (by omega) (by omega)
theorem esA_health (A : Int → Int) {s : Int} (hs : 0 ≤ s ∧ s < 20) : ∀ (n : Nat) (v : Int), 0 ≤ v → v < n → n ≤ 12 → esA A s n (40 + 6 * v + 3) = hlF (A (40 + 6 * v + 3)) (A (40 + 6 * v + 4))
  | 0, v, h1, h2, _ => by omega
  | n + 1, v, h1, h2, h3 => by
    rw [esA]
    by_cases q : v = (n : Int)
    · rw [q, upF_s]
    · rw [upF_n (by omega), upF_n (by omega)]
      exact esA_health A hs n v h1 (by omega) (by omega)
