/-! WHAT THE QUESTIONS ASK OF A PART (a list B), and what the way down the levels finds. -/
section WQ
def cLt (B : List Nat) (v : Nat) : Nat := (B.filter (fun x => decide (x < v))).length
def cEq (B : List Nat) (v : Nat) : Nat := (B.filter (fun x => x == v)).length
theorem cLt_succ (B : List Nat) (v : Nat) : cLt B (v + 1) = cLt B v + cEq B v := by
  unfold cLt cEq
  induction B with
  | nil => rfl
  | cons x B ih =>
    simp only [List.filter_cons]
    rcases Nat.lt_trichotomy x v with h | h | h
    · have h1 : x < v + 1 := by omega
      have h2 : (x == v) = false := by rw [beq_eq_false_iff_ne]; omega
      simp only [h, h1, h2, decide_true, if_true, Bool.false_eq_true, if_false, List.length_cons]
      omega
    · have h1 : x < v + 1 := by omega
      have h2 : (x == v) = true := by rw [beq_iff_eq]; exact h
      have h3 : ¬ x < v := by omega
      simp only [h1, h2, h3, decide_true, decide_false, if_true, Bool.false_eq_true, if_false, List.length_cons]
      omega
    · have h1 : ¬ x < v + 1 := by omega
      have h2 : (x == v) = false := by rw [beq_eq_false_iff_ne]; omega
      have h3 : ¬ x < v := by omega
      simp only [h1, h2, h3, decide_false, Bool.false_eq_true, if_false]
      exact ih
theorem cLt_mono (B : List Nat) {v w : Nat} (h : v ≤ w) : cLt B v ≤ cLt B w := by
  induction h with
  | refl => exact Nat.le_refl _
  | step _ ih => exact Nat.le_trans ih (by rw [cLt_succ]; omega)
theorem cLt_le (B : List Nat) (v : Nat) : cLt B v ≤ B.length := List.length_filter_le _ _
theorem cLt_0 (B : List Nat) : cLt B 0 = 0 := by
  unfold cLt
  rw [List.length_eq_zero_iff, List.filter_eq_nil_iff]
  intro x _
  simp
theorem cLt_all {B : List Nat} {v : Nat} (h : ∀ x ∈ B, x < v) : cLt B v = B.length := by
  unfold cLt
  rw [List.filter_eq_self.mpr (fun x hx => by simpa using h x hx)]
/-- r is the k-th least of B -/
def kth (B : List Nat) (k r : Nat) : Prop := cLt B r ≤ k ∧ k < cLt B (r + 1)
theorem kth.uniq {B : List Nat} {k r r' : Nat} (h : kth B k r) (h' : kth B k r') : r = r' := by
  rcases Nat.lt_trichotomy r r' with q | q | q
  · have := cLt_mono B (show r + 1 ≤ r' from q)
    have h1 := h.2
    have h2 := h'.1
    omega
  · exact q
  · have := cLt_mono B (show r' + 1 ≤ r from q)
    have h1 := h'.2
    have h2 := h.1
    omega
theorem cEq_pos {B : List Nat} {v : Nat} : 0 < cEq B v ↔ v ∈ B := by
  unfold cEq
  rw [List.length_pos_iff_exists_mem]
  constructor
  · rintro ⟨x, hx⟩
    obtain ⟨h1, h2⟩ := List.mem_filter.mp hx
    rw [beq_iff_eq] at h2
    rw [← h2]; exact h1
  · intro h
    exact ⟨v, List.mem_filter.mpr ⟨h, by simp⟩⟩
theorem kth.mem {B : List Nat} {k r : Nat} (h : kth B k r) : r ∈ B := by
  have h1 := h.1
  have h2 := h.2
  rw [cLt_succ] at h2
  exact cEq_pos.mp (by omega)
theorem wpre_split {d k p : Nat} (hk : k < d) (B : List Nat) : (wpre d (k + 1) (2 * p) B).length + (wpre d (k + 1) (2 * p + 1) B).length = (wpre d k p B).length := by
  rw [← wpre_zero hk, ← wpre_one hk]
  exact flt_len (wt d k) (wpre d k p B)
theorem wI.cnt {d : Nat} {xs : List Nat} {k p a b : Nat} {B : List Nat} (hk : k < d) (h : wI d xs k p a b B) : z0 (wt d k) (wL d xs k) a + (wpre d (k + 1) (2 * p) B).length = z0 (wt d k) (wL d xs k) b := (IV.len (wI.zero hk h)).1
theorem wI.len {d : Nat} {xs : List Nat} {k p a b : Nat} {B : List Nat} (h : wI d xs k p a b B) : a + (wpre d k p B).length = b ∧ b ≤ xs.length := by
  have h1 := IV.len h
  rw [wL_len] at h1
  exact h1
/-- the k-th time that s stands in xs -/
theorem occ_ex (s : Nat) : ∀ (xs : List Nat) (k : Nat), k < cEq xs s → ∃ i, xs[i]? = some s ∧ cEq (xs.take i) s = k := by
  intro xs
  induction xs with
  | nil => intro k h; exact absurd h (Nat.not_lt_zero k)
  | cons x xs ih =>
    intro k h
    by_cases hx : x = s
    · subst hx
      cases k with
      | zero => exact ⟨0, rfl, rfl⟩
      | succ k =>
        have h1 : k < cEq xs x := by
          simp only [cEq, List.filter_cons, beq_self_eq_true, if_true, List.length_cons] at h ⊢
          omega
        obtain ⟨i, h2, h3⟩ := ih k h1
        refine ⟨i + 1, h2, ?_⟩
        rw [List.take_succ_cons]
        simp only [cEq, List.filter_cons, beq_self_eq_true, if_true, List.length_cons] at h3 ⊢
        omega
    · have hb : (x == s) = false := by rw [beq_eq_false_iff_ne]; exact hx
      have h1 : k < cEq xs s := by
        simp only [cEq, List.filter_cons, hb, Bool.false_eq_true, if_false] at h ⊢
        exact h
      obtain ⟨i, h2, h3⟩ := ih k h1
      refine ⟨i + 1, h2, ?_⟩
      rw [List.take_succ_cons]
      simp only [cEq, List.filter_cons, hb, Bool.false_eq_true, if_false] at h3 ⊢
      exact h3
/-- the different symbols of B below m, ascending -/
def dis (B : List Nat) (m : Nat) : List Nat := (List.range m).filter (fun v => decide (0 < cEq B v))
theorem dis_0 (B : List Nat) : dis B 0 = [] := rfl
theorem dis_succ (B : List Nat) (m : Nat) : dis B (m + 1) = dis B m ++ (if 0 < cEq B m then [m] else []) := by
  unfold dis
  rw [List.range_succ, List.filter_append]
  congr 1
  by_cases h : 0 < cEq B m
  · simp [List.filter_cons, h]
  · simp [List.filter_cons, h]
theorem dis_same {B : List Nat} {m r : Nat} (hmr : m ≤ r) (h : cLt B r = cLt B m) : dis B r = dis B m := by
  induction hmr with
  | refl => rfl
  | @step r hmr ih =>
    have h1 := cLt_succ B r
    have h2 := cLt_mono B hmr
    have h3 : cLt B (r + 1) = cLt B m := h
    have h4 : ¬ 0 < cEq B r := by omega
    show dis B (r + 1) = _
    rw [dis_succ, if_neg h4, List.append_nil]
    exact ih (by omega)
/-- the next symbol that is there -/
theorem kth_next {B : List Nat} {m r : Nat} (h : kth B (cLt B m) r) : m ≤ r ∧ cLt B r = cLt B m ∧ dis B (r + 1) = dis B m ++ [r] ∧ cLt B (r + 1) = cLt B m + cEq B r := by
  have hmr : m ≤ r := by
    rcases Nat.lt_or_ge r m with q | q
    · have h1 := cLt_mono B (show r + 1 ≤ m from q)
      have h2 := h.2
      omega
    · exact q
  have h1 : cLt B r = cLt B m := Nat.le_antisymm h.1 (cLt_mono B hmr)
  have h2 := h.2
  have h3 := cLt_succ B r
  have h4 : 0 < cEq B r := by omega
  refine ⟨hmr, h1, ?_, by omega⟩
  rw [dis_succ, if_pos h4, dis_same hmr h1]
end WQ
