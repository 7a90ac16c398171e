/-! HOW MANY ONES a number has in its low n bits, and that the adding side by side finds it. -/
section PC
def pcl (u : Nat) : Nat → Nat
  | 0 => 0
  | n + 1 => u % 2 + pcl (u / 2) n
theorem pcl_add (m n : Nat) : ∀ u, pcl u (m + n) = pcl u m + pcl (u / 2 ^ m) n := by
  induction m with
  | zero => intro u; rw [Nat.zero_add, Nat.pow_zero, Nat.div_one]; simp [pcl]
  | succ m ih =>
    intro u
    rw [show m + 1 + n = (m + n) + 1 by omega, pcl, pcl, ih, Nat.pow_succ, Nat.mul_comm, ← Nat.div_div_eq_div_mul]
    omega
theorem pcl_le (n : Nat) : ∀ u, pcl u n ≤ n := by
  induction n with
  | zero => intro u; exact Nat.le_refl 0
  | succ n ih => intro u; rw [pcl]; have := ih (u / 2); omega
theorem pcl_succ (u n : Nat) : pcl u (n + 1) = pcl u n + u / 2 ^ n % 2 := by
  rw [pcl_add n 1]; simp [pcl]
theorem pcl_0 (n : Nat) : pcl 0 n = 0 := by
  induction n with
  | zero => rfl
  | succ n ih => rw [pcl, Nat.zero_div, ih]
theorem pcl_mod (n : Nat) : ∀ u, pcl (u % 2 ^ n) n = pcl u n := by
  induction n with
  | zero => intro u; rfl
  | succ n ih =>
    intro u
    rw [pcl, pcl, ← ih (u / 2)]
    have h1 : u % 2 ^ (n + 1) / 2 = u / 2 % 2 ^ n := by
      rw [Nat.pow_succ, Nat.mul_comm, Nat.mod_mul_right_div_self]
    have h2 : u % 2 ^ (n + 1) % 2 = u % 2 := by
      rw [Nat.pow_succ, Nat.mul_comm, Nat.mod_mul_right_mod]
    rw [h1, h2]
theorem pcl_shl (u m n : Nat) : pcl (u * 2 ^ m) (m + n) = pcl u n := by
  rw [pcl_add, Nat.mul_div_cancel _ (Nat.two_pow_pos m)]
  have h : pcl (u * 2 ^ m) m = 0 := by
    rw [← pcl_mod, Nat.mul_mod_left, pcl_0]
  omega
/-- a number by its bytes, the lowest first -/
def byts : List Nat → Nat
  | [] => 0
  | b :: l => b + 256 * byts l
theorem and256 {u v c e : Nat} (hu : u < 256) (hc : c < 256) : (u + 256 * v) &&& (c + 256 * e) = (u &&& c) + 256 * (v &&& e) := by
  have h1 : ((u + 256 * v) &&& (c + 256 * e)) / 2 ^ 8 = v &&& e := by
    rw [Nat.and_div_two_pow]
    congr 1 <;> omega
  have h2 : ((u + 256 * v) &&& (c + 256 * e)) % 2 ^ 8 = u &&& c := by
    rw [Nat.and_mod_two_pow]
    congr 1 <;> omega
  have h3 := Nat.div_add_mod ((u + 256 * v) &&& (c + 256 * e)) (2 ^ 8)
  rw [h1, h2] at h3
  omega
def pf1 (b : Nat) : Nat := b - (b / 2 &&& 85)
def pf2 (b : Nat) : Nat := (b &&& 51) + (b / 4 &&& 51)
def pf3 (b : Nat) : Nat := (b + b / 16) % 16
theorem pc_a1 : ∀ b, b < 256 → ∀ r, r < 2 → (b / 2 + 128 * r) &&& 85 = b / 2 &&& 85 := by decide +kernel
theorem pc_a2 : ∀ b, b < 256 → ∀ r, r < 4 → (b / 4 + 64 * r) &&& 51 = b / 4 &&& 51 := by decide +kernel
theorem pc_b1 : ∀ b, b < 256 → pf1 b < 256 := by decide +kernel
theorem pc_b2 : ∀ b, b < 256 → pf2 (pf1 b) % 16 ≤ 4 ∧ pf2 (pf1 b) / 16 ≤ 4 := by decide +kernel
theorem pc_b3 : ∀ b, b < 256 → pf3 (pf2 (pf1 b)) = pcl b 8 := by decide +kernel
theorem pc_s1 : ∀ l : List Nat, (∀ b ∈ l, b < 256) → byts l - (byts l / 2 &&& byts (l.map fun _ => 85)) = byts (l.map pf1) := by
  intro l
  induction l with
  | nil => intro _; rfl
  | cons b l ih =>
    intro h
    have hb := h b List.mem_cons_self
    have ih := ih (fun x hx => h x (List.mem_cons_of_mem _ hx))
    simp only [List.map_cons, byts]
    generalize byts l = v at ih ⊢
    generalize byts (l.map fun _ => 85) = e at ih ⊢
    rw [show (b + 256 * v) / 2 = (b / 2 + 128 * (v % 2)) + 256 * (v / 2) by omega, and256 (by omega) (by omega), pc_a1 b hb _ (Nat.mod_lt _ (by omega)), ← ih, pf1]
    have h1 : b / 2 &&& 85 ≤ b / 2 := Nat.and_le_left
    have h2 : v / 2 &&& e ≤ v / 2 := Nat.and_le_left
    omega
theorem pc_s2 : ∀ l : List Nat, (∀ b ∈ l, b < 256) → (byts l &&& byts (l.map fun _ => 51)) + (byts l / 4 &&& byts (l.map fun _ => 51)) = byts (l.map pf2) := by
  intro l
  induction l with
  | nil => intro _; rfl
  | cons b l ih =>
    intro h
    have hb := h b List.mem_cons_self
    have ih := ih (fun x hx => h x (List.mem_cons_of_mem _ hx))
    simp only [List.map_cons, byts]
    generalize byts l = v at ih ⊢
    generalize byts (l.map fun _ => 51) = e at ih ⊢
    rw [show (b + 256 * v) / 4 = (b / 4 + 64 * (v % 4)) + 256 * (v / 4) by omega, and256 hb (by omega), and256 (u := b / 4 + 64 * (v % 4)) (by omega) (by omega), pc_a2 b hb _ (Nat.mod_lt _ (by omega)), ← ih, pf2]
    omega
theorem pc_s3 : ∀ l : List Nat, (∀ b ∈ l, b % 16 ≤ 4 ∧ b / 16 ≤ 4) → byts l % 16 ≤ 4 ∧ (byts l + byts l / 16) &&& byts (l.map fun _ => 15) = byts (l.map pf3) := by
  intro l
  induction l with
  | nil => intro _; exact ⟨Nat.zero_le _, rfl⟩
  | cons b l ih =>
    intro h
    have hb := h b List.mem_cons_self
    obtain ⟨ih1, ih⟩ := ih (fun x hx => h x (List.mem_cons_of_mem _ hx))
    simp only [List.map_cons, byts]
    generalize byts l = v at ih ih1 ⊢
    generalize byts (l.map fun _ => 15) = e at ih ⊢
    refine ⟨by omega, ?_⟩
    rw [show (b + 256 * v) + (b + 256 * v) / 16 = (b + b / 16 + 16 * (v % 16)) + 256 * (v + v / 16) by omega, and256 (by omega) (by omega), ih, pf3]
    have h1 : (b + b / 16 + 16 * (v % 16)) &&& 15 = (b + b / 16 + 16 * (v % 16)) % 16 := Nat.and_two_pow_sub_one_eq_mod _ 4
    rw [h1]
    omega
theorem pc_lin {c0 c1 c2 c3 c4 c5 c6 c7 z z1 z2 z3 : Nat} (h0 : c0 ≤ 8) (h1 : c1 ≤ 8) (h2 : c2 ≤ 8) (h3 : c3 ≤ 8) (h4 : c4 ≤ 8) (h5 : c5 ≤ 8) (h6 : c6 ≤ 8) (h7 : c7 ≤ 8)
    (hz : z = byts [c0, c1, c2, c3, c4, c5, c6, c7]) (e1 : z1 = z + z / 256) (e2 : z2 = z1 + z1 / 65536) (e3 : z3 = z2 + z2 / 4294967296) :
    z3 % 128 = c0 + c1 + c2 + c3 + c4 + c5 + c6 + c7 ∧ z1 < 2 ^ 63 ∧ z2 < 2 ^ 63 ∧ z3 < 2 ^ 63 := by
  simp only [byts] at hz
  obtain ⟨X7, x7⟩ : ∃ x, x = c7 + 256 * 0 := ⟨_, rfl⟩
  obtain ⟨X6, x6⟩ : ∃ x, x = c6 + 256 * X7 := ⟨_, rfl⟩
  obtain ⟨X5, x5⟩ : ∃ x, x = c5 + 256 * X6 := ⟨_, rfl⟩
  obtain ⟨X4, x4⟩ : ∃ x, x = c4 + 256 * X5 := ⟨_, rfl⟩
  obtain ⟨X3, x3⟩ : ∃ x, x = c3 + 256 * X4 := ⟨_, rfl⟩
  obtain ⟨X2, x2⟩ : ∃ x, x = c2 + 256 * X3 := ⟨_, rfl⟩
  obtain ⟨X1, x1⟩ : ∃ x, x = c1 + 256 * X2 := ⟨_, rfl⟩
  rw [← x7, ← x6, ← x5, ← x4, ← x3, ← x2, ← x1] at hz
  have q1 : z / 256 = X1 := by clear e1 e2 e3 x1 x2 x3 x4 x5 x6 x7; omega
  have b7 : X7 ≤ 8 := by omega
  have b6 : X6 ≤ 2056 := by clear hz e1 e2 e3 x1 x2 x3 x4 x5 x7 q1; omega
  have b5 : X5 ≤ 526344 := by clear hz e1 e2 e3 x1 x2 x3 x4 x6 x7 q1 b7; omega
  have b4 : X4 ≤ 134744072 := by clear hz e1 e2 e3 x1 x2 x3 x5 x6 x7 q1 b7 b6; omega
  have b3 : X3 ≤ 34494482440 := by clear hz e1 e2 e3 x1 x2 x4 x5 x6 x7 q1 b7 b6 b5; omega
  have b2 : X2 ≤ 8830587504648 := by clear hz e1 e2 e3 x1 x3 x4 x5 x6 x7 q1 b7 b6 b5 b4; omega
  have b1 : X1 ≤ 2260630401189896 := by clear hz e1 e2 e3 x2 x3 x4 x5 x6 x7 q1 b7 b6 b5 b4 b3; omega
  have b0 : z ≤ 578721382704613384 := by clear e1 e2 e3 x1 x2 x3 x4 x5 x6 x7 q1 b7 b6 b5 b4 b3 b2; omega
  rw [q1] at e1
  have q2 : z1 / 65536 = X2 + X3 := by
    have r1 : z1 = (c0 + c1) + 256 * ((c1 + c2) + 256 * (X2 + X3)) := by rw [e1, hz, x1, x2]; clear e1 hz x1 x2; omega
    clear e1 e2 e3 hz x1 x2 x3 x4 x5 x6 x7 q1 b0 b1 b2 b3 b4 b5 b6 b7
    omega
  rw [q2] at e2
  have r2 : z2 = (c0 + c1 + c2 + c3) + 256 * ((c1 + c2 + c3 + c4) + 256 * ((c2 + c3 + c4 + c5) + 256 * ((c3 + c4 + c5 + c6) + 256 * (X4 + X5 + X6 + X7)))) := by
    rw [e2, e1, hz, x1, x2, x3, x4, x5, x6, x7]
    clear e1 e2 e3 hz x1 x2 x3 x4 x5 x6 x7 q1 q2 b0 b1 b2 b3 b4 b5 b6 b7
    omega
  have q3 : z2 / 4294967296 = X4 + X5 + X6 + X7 := by
    clear e1 e2 e3 hz x1 x2 x3 x4 x5 x6 x7 q1 q2 b0 b1 b2 b3 b4 b5 b6 b7
    omega
  rw [q3] at e3
  have b8 : z1 < 2 ^ 63 := by clear e2 e3 hz x1 x2 x3 x4 x5 x6 x7 q1 q2 q3 r2; omega
  have b9 : z2 < 2 ^ 62 := by clear e3 hz x1 x2 x3 x4 x5 x6 x7 q1 q2 q3 r2 b8; omega
  refine ⟨?_, b8, by omega, ?_⟩
  · have r3 : X4 + X5 + X6 + X7 = (c4 + c5 + c6 + c7) + 256 * (X5 + X6 + X7) := by rw [x4, x5, x6, x7]; clear e1 e2 e3 hz x1 x2 x3 x4 x5 x6 x7 q1 q2 q3 r2 b0 b1 b2 b3 b4 b5 b6 b7 b8 b9; omega
    obtain ⟨V, v⟩ : ∃ v, v = (c1 + c2 + c3 + c4) + 256 * ((c2 + c3 + c4 + c5) + 256 * ((c3 + c4 + c5 + c6) + 256 * (X4 + X5 + X6 + X7))) := ⟨_, rfl⟩
    rw [← v] at r2
    clear e1 e2 hz x1 x2 x3 x4 x5 x6 x7 q1 q2 q3 b0 b1 b2 b3 b4 b5 b6 b7 b8 b9 v
    omega
  · clear e1 e2 hz x1 x2 x3 x4 x5 x6 x7 q1 q2 q3 r2 b8
    omega
theorem byts_of : ∀ (n u : Nat), u < 256 ^ n → ∃ l : List Nat, l.length = n ∧ (∀ b ∈ l, b < 256) ∧ byts l = u ∧ (l.map fun b => pcl b 8).sum = pcl u (8 * n) := by
  intro n
  induction n with
  | zero =>
    intro u h
    exact ⟨[], rfl, fun _ h => by simp at h, by simp [byts]; omega, rfl⟩
  | succ n ih =>
    intro u h
    obtain ⟨l, h1, h2, h3, h4⟩ := ih (u / 256) (by rw [Nat.pow_succ] at h; omega)
    refine ⟨u % 256 :: l, by simp [h1], ?_, by simp only [byts, h3]; omega, ?_⟩
    · intro b hb
      rcases List.mem_cons.mp hb with rfl | hb
      · exact Nat.mod_lt _ (by omega)
      · exact h2 b hb
    · rw [List.map_cons, List.sum_cons, h4, show 8 * (n + 1) = 8 + 8 * n by omega, pcl_add 8]
      have e := pcl_mod 8 u
      rw [show (2 : Nat) ^ 8 = 256 from rfl] at e ⊢
      rw [e]
end PC
