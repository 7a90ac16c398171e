/-! Counting: how many stand at least so often; distinct symbols; five cells apart. -/
section CNT
theorem dis_len (B : List Nat) : ∀ m, (dis B m).length ≤ cLt B m
  | 0 => Nat.zero_le _
  | m + 1 => by
    have h := dis_len B m
    rw [dis_succ, List.length_append, cLt_succ]
    split
    · simp only [List.length_cons, List.length_nil]; omega
    · simp only [List.length_nil]; omega
theorem max1 {c : Nat} (h : 1 ≤ c) (h2 : c < 2 ^ 31) : (if (1 : Int32) < nI c then nI c else 1) = nI c := by
  rcases Nat.lt_or_ge 1 c with h1 | h1
  · exact if_pos (show nI 1 < nI c from nI_lt h1 h2)
  · have : c = 1 := by omega
    subst this
    rw [if_neg (by decide)]
    rfl
def cGe (T : List Nat) (n : Nat) : Nat := (T.filter (fun x => decide (n ≤ x))).length
theorem cGe_step (T : List Nat) (n : Nat) : cGe T n = cGe T (n + 1) + cEq T n := by
  unfold cGe cEq
  induction T with
  | nil => rfl
  | cons x T ih =>
    simp only [List.filter_cons]
    rcases Nat.lt_trichotomy x n with h | h | h
    · have h1 : ¬ n ≤ x := by omega
      have h2 : ¬ n + 1 ≤ x := by omega
      have h3 : (x == n) = false := by rw [beq_eq_false_iff_ne]; omega
      simp only [h1, h2, h3, decide_false, Bool.false_eq_true, if_false]
      exact ih
    · have h1 : n ≤ x := by omega
      have h2 : ¬ n + 1 ≤ x := by omega
      have h3 : (x == n) = true := by rw [beq_iff_eq]; omega
      simp only [h1, h2, h3, decide_true, decide_false, Bool.false_eq_true, if_false, if_true, List.length_cons]
      omega
    · have h1 : n ≤ x := by omega
      have h2 : n + 1 ≤ x := by omega
      have h3 : (x == n) = false := by rw [beq_eq_false_iff_ne]; omega
      simp only [h1, h2, h3, decide_true, Bool.false_eq_true, if_false, if_true, List.length_cons]
      omega
theorem cGe_all {T : List Nat} {n : Nat} (h : ∀ x ∈ T, x < n) : cGe T n = 0 := by
  unfold cGe
  rw [List.length_eq_zero_iff, List.filter_eq_nil_iff]
  intro x hx
  have := h x hx
  simp only [decide_eq_true_eq]
  omega
theorem cEq_take {T : List Nat} {i x : Nat} (h : T[i]? = some x) (t : Nat) : cEq (T.take (i + 1)) t = cEq (T.take i) t + (if x = t then 1 else 0) := by
  rw [take_one h]
  unfold cEq
  rw [List.filter_append, List.length_append]
  congr 1
  by_cases e : x = t
  · simp [List.filter_cons, e]
  · simp [List.filter_cons, e]
theorem cEq_le (T : List Nat) (t : Nat) : cEq T t ≤ T.length := List.length_filter_le _ _
theorem cGe_le (T : List Nat) (t : Nat) : cGe T t ≤ T.length := List.length_filter_le _ _
theorem va_D.five {A : Nat → Prop} {y : Nat → Nat} {B0 d i : Nat} (hy : yI B0 y d) (hi : i < d) {e0 e1 e2 e3 e4 : va_E} (hA : ∀ j, j = 8 + 3 * i ∨ j = 9 + 3 * i ∨ j = 10 + 3 * i ∨ j = 1 ∨ j = 2 → A (y j)) : va_D A [(y (8 + 3 * i), e0), (y (9 + 3 * i), e1), (y (10 + 3 * i), e2), (y 1, e3), (y 2, e4)] := by
  refine va_D.ones hy _ (fun k => match k with | 0 => 8 + 3 * i | 1 => 9 + 3 * i | 2 => 10 + 3 * i | 3 => 1 | _ => 2) ?_ ?_ ?_
  · intro k q hk
    match k, hk with
    | 0, hk => cases hk; exact ⟨rfl, show 8 + 3 * i < _ by omega⟩
    | 1, hk => cases hk; exact ⟨rfl, show 9 + 3 * i < _ by omega⟩
    | 2, hk => cases hk; exact ⟨rfl, show 10 + 3 * i < _ by omega⟩
    | 3, hk => cases hk; exact ⟨rfl, show 1 < _ by omega⟩
    | 4, hk => cases hk; exact ⟨rfl, show 2 < _ by omega⟩
    | k + 5, hk => simp at hk
  · intro a b ha hb hab
    simp only [List.length_cons, List.length_nil] at ha hb
    have ha' : a = 0 ∨ a = 1 ∨ a = 2 ∨ a = 3 ∨ a = 4 := by omega
    have hb' : b = 0 ∨ b = 1 ∨ b = 2 ∨ b = 3 ∨ b = 4 := by omega
    rcases ha' with rfl | rfl | rfl | rfl | rfl <;> rcases hb' with rfl | rfl | rfl | rfl | rfl <;> first | rfl | (simp only at hab; omega)
  · intro k q hk
    match k, hk with
    | 0, hk => cases hk; exact hA _ (by omega)
    | 1, hk => cases hk; exact hA _ (by omega)
    | 2, hk => cases hk; exact hA _ (by omega)
    | 3, hk => cases hk; exact hA _ (by omega)
    | 4, hk => cases hk; exact hA _ (by omega)
    | k + 5, hk => simp at hk
theorem va_D.two {A : Nat → Prop} {a b : Nat} {e0 e1 : va_E} (h : a ≠ b) (ha : A a) (hb : A b) : va_D A [(a, e0), (b, e1)] := by
  refine ⟨fun i j p q hi hj hpq => ?_, fun k q hk => ?_⟩
  · match i, j, hi, hj with
    | 0, 0, _, _ => rfl
    | 1, 1, _, _ => rfl
    | 0, 1, hi, hj => cases hi; cases hj; exact absurd hpq h
    | 1, 0, hi, hj => cases hi; cases hj; exact absurd hpq.symm h
    | 0, j + 2, _, hj => simp at hj
    | 1, j + 2, _, hj => simp at hj
    | i + 2, _, hi, _ => simp at hi
  · match k, hk with
    | 0, hk => cases hk; exact ha
    | 1, hk => cases hk; exact hb
    | k + 2, hk => simp at hk
theorem va_D.three {A : Nat → Prop} {a b c : Nat} {e0 e1 e2 : va_E} (h1 : a ≠ b) (h2 : a ≠ c) (h3 : b ≠ c) (ha : A a) (hb : A b) (hc : A c) : va_D A [(a, e0), (b, e1), (c, e2)] := by
  refine ⟨fun i j p q hi hj hpq => ?_, fun k q hk => ?_⟩
  · match i, j, hi, hj with
    | 0, 0, _, _ => rfl
    | 1, 1, _, _ => rfl
    | 2, 2, _, _ => rfl
    | 0, 1, hi, hj => cases hi; cases hj; exact absurd hpq h1
    | 1, 0, hi, hj => cases hi; cases hj; exact absurd hpq.symm h1
    | 0, 2, hi, hj => cases hi; cases hj; exact absurd hpq h2
    | 2, 0, hi, hj => cases hi; cases hj; exact absurd hpq.symm h2
    | 1, 2, hi, hj => cases hi; cases hj; exact absurd hpq h3
    | 2, 1, hi, hj => cases hi; cases hj; exact absurd hpq.symm h3
    | 0, j + 3, _, hj => simp at hj
    | 1, j + 3, _, hj => simp at hj
    | 2, j + 3, _, hj => simp at hj
    | i + 3, _, hi, _ => simp at hi
  · match k, hk with
    | 0, hk => cases hk; exact ha
    | 1, hk => cases hk; exact hb
    | 2, hk => cases hk; exact hc
    | k + 3, hk => simp at hk
theorem Lk.off5 {cJ cS : ClassId} {y : Nat → Nat} {d B0 : Nat} {ja : Nat → Int64} {oa : Nat → Int32} {z : Int32} (hy : yI B0 y d) {i j : Nat} (hj : j < d) (hi : i < d) (hij : j ≠ i) (k : Nat) (q : Nat × va_E) (hk : (Lw cJ cS (y (8 + 3 * j)) (y (9 + 3 * j)) (y (10 + 3 * j)) ja oa z)[k]? = some q) : ¬ (q.1 = y (8 + 3 * i) ∨ q.1 = y (9 + 3 * i) ∨ q.1 = y (10 + 3 * i) ∨ q.1 = y 1 ∨ q.1 = y 2) := by
  have key : ∀ b, b < 8 + 3 * d → (b ≠ 8 + 3 * j ∧ b ≠ 9 + 3 * j ∧ b ≠ 10 + 3 * j) → ¬ q.1 = y b := fun b hb hn =>
    Lw.off (hy.ne (by omega) hb (by omega)) (hy.ne (by omega) hb (by omega)) (hy.ne (by omega) hb (by omega)) k q hk
  rintro (h | h | h | h | h)
  · exact key _ (by omega) (by omega) h
  · exact key _ (by omega) (by omega) h
  · exact key _ (by omega) (by omega) h
  · exact key 1 (by omega) (by omega) h
  · exact key 2 (by omega) (by omega) h
end CNT
