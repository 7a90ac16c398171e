/-! How many bits a number has. -/
section NLZ
theorem nlz_u {u d c v : Nat} (hd : u < 2 ^ d) (hlo : ∀ e, e < d → 2 ^ e ≤ u) (hv : u / 2 ^ c = v) (h1 : 1 ≤ v) (h2 : v < 4) : d = c + 1 + v / 2 := by
  have hp : 0 < 2 ^ c := Nat.pos_of_ne_zero (by simp)
  have e1 : 2 ^ c * v ≤ u := by rw [← hv]; exact Nat.mul_div_le u (2 ^ c)
  have e2 : u < 2 ^ c * (v + 1) := by rw [← hv]; exact Nat.lt_mul_div_succ u hp
  have h3 : v = 1 ∨ v = 2 ∨ v = 3 := by omega
  have key : ∀ e, 2 ^ e ≤ u → u < 2 ^ (e + 1) → d = e + 1 := by
    intro e a b
    have g1 : ¬ d ≤ e := fun h => by
      have := Nat.pow_le_pow_right (n := 2) (by omega) h
      omega
    have g2 : ¬ e + 1 < d := fun h => by
      have := hlo _ h
      omega
    omega
  have p1 : 2 ^ (c + 1) = 2 ^ c * 2 := Nat.pow_succ 2 c
  have p2 : 2 ^ (c + 1 + 1) = 2 ^ c * 2 * 2 := by rw [Nat.pow_succ, p1]
  rcases h3 with rfl | rfl | rfl
  · exact key c (by omega) (by omega)
  · have := key (c + 1) (by omega) (by omega)
    omega
  · have := key (c + 1) (by omega) (by omega)
    omega
end NLZ
