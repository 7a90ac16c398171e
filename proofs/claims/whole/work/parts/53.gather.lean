/-! GATHERING: a symbol put among the others. -/
section GAT
theorem mid_at {lo hi : List Nat} {x j v : Nat} (h : (lo ++ [x] ++ hi)[j]? = some v) : (j < lo.length ∧ lo[j]? = some v) ∨ (j = lo.length ∧ v = x) ∨ (lo.length < j ∧ hi[j - lo.length - 1]? = some v) := by
  rw [List.append_assoc] at h
  rcases Nat.lt_trichotomy j lo.length with g | g | g
  · rw [List.getElem?_append_left g] at h
    exact Or.inl ⟨g, h⟩
  · rw [List.getElem?_append_right (by omega), g, Nat.sub_self] at h
    simp at h
    exact Or.inr (Or.inl ⟨g, h.symm⟩)
  · rw [List.getElem?_append_right (by omega), show j - lo.length = (j - lo.length - 1) + 1 by omega] at h
    simp at h
    exact Or.inr (Or.inr ⟨g, h⟩)
def GI (S B : List Nat) (sf tf : Nat → Int32) : Prop := ∀ j v, S[j]? = some v → sf j = nI v ∧ tf j = nI (cEq B v)
theorem gi_yes {lo hi B : List Nat} {x : Nat} {sf tf : Nat → Int32} (hlo : ∀ v ∈ lo, v < x) (hhi : ∀ v ∈ hi, x < v) (h : GI (lo ++ [x] ++ hi) B sf tf) : GI (lo ++ [x] ++ hi) (B ++ [x]) sf (upd tf lo.length (nI (cEq B x + 1))) := by
  intro j v hj
  have h1 := h j v hj
  rw [cEq_app]
  rcases mid_at hj with ⟨g1, g2⟩ | ⟨g1, g2⟩ | ⟨g1, g2⟩
  · have := hlo v (List.mem_of_getElem? g2)
    rw [if_neg (by omega), Nat.add_zero]
    refine ⟨h1.1, ?_⟩
    have e : j ≠ lo.length := by omega
    simp only [upd, if_neg e]
    exact h1.2
  · subst g2
    rw [if_pos rfl]
    refine ⟨h1.1, ?_⟩
    simp only [upd, g1, if_true]
  · have := hhi v (List.mem_of_getElem? g2)
    rw [if_neg (by omega), Nat.add_zero]
    refine ⟨h1.1, ?_⟩
    have e : j ≠ lo.length := by omega
    simp only [upd, if_neg e]
    exact h1.2
/-- what stood from a place on has gone one place on -/
def ShI (k n : Nat) (j : Nat) (sf sf' : Nat → Int32) : Prop := (∀ t, t ≤ j → sf' t = sf t) ∧ ∀ t, j < t → t ≤ n → sf' t = sf (t - 1)
theorem ShI.start {k n : Nat} {sf : Nat → Int32} : ShI k n n sf sf := ⟨fun _ _ => rfl, fun t h1 h2 => absurd h1 (Nat.not_lt.mpr h2)⟩
theorem ShI.step {k n j : Nat} {sf sf' : Nat → Int32} (h : ShI k n (j + 1) sf sf') : ShI k n j sf (upd sf' (j + 1) (sf' j)) := by
  refine ⟨fun t ht => ?_, fun t h1 h2 => ?_⟩
  · have e : t ≠ j + 1 := by omega
    simp only [upd, if_neg e]
    exact h.1 t (by omega)
  · by_cases e : t = j + 1
    · subst e
      simp only [upd, if_true, Nat.add_sub_cancel]
      exact h.1 j (by omega)
    · simp only [upd, if_neg e]
      exact h.2 t (by omega) h2
theorem gi_no {lo hi B : List Nat} {x : Nat} {sf tf sf' tf' : Nat → Int32} (hx : cEq B x = 0) (hlo : ∀ v ∈ lo, v < x) (hhi : ∀ v ∈ hi, x < v) (h : GI (lo ++ hi) B sf tf) (hs : ShI lo.length (lo.length + hi.length) lo.length sf sf') (ht : ShI lo.length (lo.length + hi.length) lo.length tf tf') :
    GI (lo ++ [x] ++ hi) (B ++ [x]) (upd sf' lo.length (nI x)) (upd tf' lo.length 1) := by
  intro j v hj
  rw [cEq_app]
  rcases mid_at hj with ⟨g1, g2⟩ | ⟨g1, g2⟩ | ⟨g1, g2⟩
  · have h1 := h j v (by rw [List.getElem?_append_left g1]; exact g2)
    have := hlo v (List.mem_of_getElem? g2)
    have e : j ≠ lo.length := by omega
    rw [if_neg (by omega), Nat.add_zero]
    simp only [upd, if_neg e]
    rw [hs.1 j (by omega), ht.1 j (by omega)]
    exact h1
  · subst g2
    rw [if_pos rfl, hx]
    simp only [upd, g1, if_true]
    exact ⟨trivial, rfl⟩
  · have hl := (List.getElem?_eq_some_iff.mp g2).1
    have h1 := h (j - 1) v (by rw [List.getElem?_append_right (by omega), show j - 1 - lo.length = j - lo.length - 1 by omega]; exact g2)
    have := hhi v (List.mem_of_getElem? g2)
    have e : j ≠ lo.length := by omega
    rw [if_neg (by omega), Nat.add_zero]
    simp only [upd, if_neg e]
    rw [hs.2 j (by omega) (by omega), ht.2 j (by omega) (by omega)]
    exact h1
theorem dis_step {B : List Nat} {M i v w : Nat} (h1 : (dis B M)[i]? = some v) (h2 : (dis B M)[i + 1]? = some w) : cLt B w = cLt B (v + 1) := by
  rw [dis_sum B M _ _ h2, take_one h1, List.map_append, List.sum_append, ← dis_sum B M _ _ h1, cLt_succ]
  simp
theorem dis_last {B : List Nat} {M i v : Nat} (h1 : (dis B M)[i]? = some v) (h2 : i + 1 = (dis B M).length) : cLt B (v + 1) = cLt B M := by
  rw [dis_all B M, cLt_succ, dis_sum B M _ _ h1]
  have h3 : dis B M = (dis B M).take i ++ [v] := by
    rw [← take_one h1, h2, List.take_length]
  conv => rhs; rw [h3]
  rw [List.map_append, List.sum_append]
  simp
theorem dis_first {B : List Nat} {M v : Nat} (h1 : (dis B M)[0]? = some v) : cLt B v = 0 := by
  rw [dis_sum B M _ _ h1]
  rfl
theorem cGe_take {T : List Nat} {i x : Nat} (h : T[i]? = some x) (t : Nat) : cGe (T.take (i + 1)) t = cGe (T.take i) t + (if t ≤ x then 1 else 0) := by
  rw [take_one h]
  unfold cGe
  rw [List.filter_append, List.length_append]
  congr 1
  by_cases e : t ≤ x
  · simp [List.filter_cons, e]
  · simp [List.filter_cons, e]
/-- how many of the first j stand ahead of i -/
def ahd (T : List Nat) (i t j : Nat) : Nat := cGe (T.take j) (t + 1) + cEq (T.take (min j i)) t
theorem ahd_step {T : List Nat} {i t j u : Nat} (hj : T[j]? = some u) : ahd T i t (j + 1) = ahd T i t j + (if t < u ∨ (u = t ∧ j < i) then 1 else 0) := by
  unfold ahd
  rw [cGe_take hj]
  rcases Nat.lt_or_ge j i with h | h
  · rw [Nat.min_eq_left (show j + 1 ≤ i from h), Nat.min_eq_left (Nat.le_of_lt h), cEq_take hj]
    by_cases h1 : t < u
    · rw [if_pos (show t + 1 ≤ u from h1), if_neg (by omega), if_pos (Or.inl h1)]; omega
    · rw [if_neg (show ¬ t + 1 ≤ u from h1)]
      by_cases h2 : u = t
      · rw [if_pos h2, if_pos (Or.inr ⟨h2, h⟩)]; omega
      · rw [if_neg h2, if_neg (by omega)]; omega
  · rw [Nat.min_eq_right (by omega), Nat.min_eq_right h]
    by_cases h1 : t < u
    · rw [if_pos (show t + 1 ≤ u from h1), if_pos (Or.inl h1)]; omega
    · rw [if_neg (show ¬ t + 1 ≤ u from h1), if_neg (by omega)]; omega
theorem ahd_all {T : List Nat} {i t : Nat} (hi : i ≤ T.length) : ahd T i t T.length = cGe T (t + 1) + cEq (T.take i) t := by
  unfold ahd
  rw [Nat.min_eq_right hi, List.take_length]
theorem ahd_0 {T : List Nat} {i t : Nat} : ahd T i t 0 = 0 := by
  unfold ahd
  rw [Nat.min_eq_left (Nat.zero_le _)]
  rfl
end GAT
