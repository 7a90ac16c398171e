/-! LONG.BITCOUNT, its numbers. -/
section BCM
theorem byts_lt : ∀ l : List Nat, (∀ b ∈ l, b < 256) → byts l < 256 ^ l.length := by
  intro l
  induction l with
  | nil => intro _; exact Nat.one_pos
  | cons b l ih =>
    intro h
    have hb := h b List.mem_cons_self
    have ih := ih (fun x hx => h x (List.mem_cons_of_mem _ hx))
    rw [byts, List.length_cons, Nat.pow_succ]
    omega
theorem byts_le (m : Nat) : ∀ l : List Nat, (∀ b ∈ l, b ≤ m) → byts l ≤ m * byts (l.map fun _ => 1) := by
  intro l
  induction l with
  | nil => intro _; exact Nat.zero_le _
  | cons b l ih =>
    intro h
    have hb := h b List.mem_cons_self
    have ih := ih (fun x hx => h x (List.mem_cons_of_mem _ hx))
    rw [byts, List.map_cons, byts, Nat.mul_add, Nat.mul_one, Nat.mul_left_comm]
    omega
theorem byts_lt8 {l : List Nat} (h8 : l.length = 8) (h : ∀ b ∈ l, b < 256) : byts l < 2 ^ 64 := by
  have h1 := byts_lt l h
  rw [h8] at h1
  exact Nat.lt_of_lt_of_eq h1 (by decide +kernel)
theorem byts_c8 (m v : Nat) (hv : byts [m, m, m, m, m, m, m, m] = v) : ∀ {l : List Nat}, l.length = 8 → byts (l.map fun _ => m) = v
  | [_, _, _, _, _, _, _, _], _ => hv
theorem bc_math {u y1 y2 y3 z1 z2 z3 : Nat} (hu : u < 2 ^ 64) (e1 : y1 = u - (u / 2 &&& 6148914691236517205)) (e2 : y2 = (y1 &&& 3689348814741910323) + (y1 / 4 &&& 3689348814741910323)) (e3 : y3 = (y2 + y2 / 16) &&& 1085102592571150095)
    (f1 : z1 = y3 + y3 / 256) (f2 : z2 = z1 + z1 / 65536) (f3 : z3 = z2 + z2 / 4294967296) :
    (u / 2 &&& 6148914691236517205) ≤ u ∧ y1 < 2 ^ 64 ∧ y2 < 2 ^ 63 ∧ y2 + y2 / 16 < 2 ^ 64 ∧ y3 < 2 ^ 64 ∧ z1 < 2 ^ 63 ∧ z2 < 2 ^ 63 ∧ z3 < 2 ^ 63 ∧ z3 % 128 = pcl u 64 := by
  obtain ⟨l, hlen, hb, rfl, hsum⟩ := byts_of 8 u (by rw [show (256 : Nat) ^ 8 = 2 ^ 64 by decide]; exact hu)
  have a1 : (byts l / 2 &&& 6148914691236517205) ≤ byts l := Nat.le_trans Nat.and_le_left (Nat.div_le_self _ _)
  match l, hlen with
  | [b0, b1, b2, b3, b4, b5, b6, b7], _ =>
    have s1 := pc_s1 [b0, b1, b2, b3, b4, b5, b6, b7] hb
    rw [byts_c8 85 6148914691236517205 (by decide +kernel) rfl, ← e1] at s1
    have hb1 : ∀ b ∈ [b0, b1, b2, b3, b4, b5, b6, b7].map pf1, b < 256 := by
      intro b h
      obtain ⟨x, hx, rfl⟩ := List.mem_map.mp h
      exact pc_b1 x (hb x hx)
    have a2 : y1 < 2 ^ 64 := by
      rw [s1]
      exact byts_lt8 rfl hb1
    have s2 := pc_s2 _ hb1
    rw [byts_c8 51 3689348814741910323 (by decide +kernel) rfl, ← s1, ← e2] at s2
    have hb2 : ∀ b ∈ ([b0, b1, b2, b3, b4, b5, b6, b7].map pf1).map pf2, b % 16 ≤ 4 ∧ b / 16 ≤ 4 := by
      intro b h
      obtain ⟨x, hx, rfl⟩ := List.mem_map.mp h
      obtain ⟨w, hw, rfl⟩ := List.mem_map.mp hx
      exact pc_b2 w (hb w hw)
    have a3 : y2 ≤ 68 * 72340172838076673 := by
      have h := byts_le 68 _ (fun b h => by have := hb2 b h; omega)
      rw [← s2, byts_c8 1 72340172838076673 (by decide +kernel) rfl] at h
      exact h
    have s3 := (pc_s3 _ hb2).2
    rw [byts_c8 15 1085102592571150095 (by decide +kernel) rfl, ← s2, ← e3] at s3
    have c0 : ∀ b ∈ [b0, b1, b2, b3, b4, b5, b6, b7], pf3 (pf2 (pf1 b)) = pcl b 8 := fun b h => pc_b3 b (hb b h)
    have s4 : y3 = byts [pcl b0 8, pcl b1 8, pcl b2 8, pcl b3 8, pcl b4 8, pcl b5 8, pcl b6 8, pcl b7 8] := by
      rw [s3]
      simp only [List.map_cons, List.map_nil]
      rw [c0 b0 (by simp), c0 b1 (by simp), c0 b2 (by simp), c0 b3 (by simp), c0 b4 (by simp), c0 b5 (by simp), c0 b6 (by simp), c0 b7 (by simp)]
    obtain ⟨g1, g2, g3, g4⟩ := pc_lin (pcl_le 8 b0) (pcl_le 8 b1) (pcl_le 8 b2) (pcl_le 8 b3) (pcl_le 8 b4) (pcl_le 8 b5) (pcl_le 8 b6) (pcl_le 8 b7) s4 f1 f2 f3
    have a4 : y3 < 2 ^ 64 := by
      rw [s4]
      refine byts_lt8 rfl (fun b h => ?_)
      have h9 : ∀ x, pcl x 8 < 256 := fun x => Nat.lt_of_le_of_lt (pcl_le 8 x) (by decide)
      simp only [List.mem_cons, List.not_mem_nil, or_false] at h
      rcases h with rfl | rfl | rfl | rfl | rfl | rfl | rfl | rfl <;> exact h9 _
    refine ⟨a1, a2, by omega, by omega, a4, g2, g3, g4, ?_⟩
    rw [g1, ← hsum]
    simp only [List.map_cons, List.map_nil, List.sum_cons, List.sum_nil]
    omega
end BCM
