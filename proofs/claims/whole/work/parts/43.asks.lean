/-! WHAT EACH QUESTION ANSWERS, for class and reference alike. -/
section ASK
abbrev cn (x : Int32) : Nat := x.toNatClampNeg
abbrev bk (xs : List Nat) (a b : Int32) : List Nat := (xs.drop (cn a)).take (cn b - cn a)
def aSel (xs : List Nat) (x k v : Int32) : Prop := (∃ i, xs[i]? = some (cn x) ∧ cEq (xs.take i) (cn x) = cn k ∧ v = nI i) ∨ (cEq xs (cn x) ≤ cn k ∧ v = -1)
def aQua (B : List Nat) (k v : Int32) : Prop := ∃ r, kth B (cn k) r ∧ v = nI r
def aBtw (B : List Nat) (lo hi : Int32) : Int32 := if lo < hi then nI (cLt B (cn hi)) - nI (cLt B (cn lo)) else 0
def aBel (B : List Nat) (x v : Int32) : Prop := (∃ r, r ∈ B ∧ r < cn x ∧ (∀ z ∈ B, z < cn x → z ≤ r) ∧ v = nI r) ∨ ((∀ z ∈ B, ¬ z < cn x) ∧ v = -1)
def aAbv (B : List Nat) (x v : Int32) : Prop := (∃ r, r ∈ B ∧ cn x ≤ r ∧ (∀ z ∈ B, cn x ≤ z → r ≤ z) ∧ v = nI r) ∨ ((∀ z ∈ B, ¬ cn x ≤ z) ∧ v = -1)
def aFrq (S T : List Nat) (k v : Int32) : Prop := (∃ i s t, S[i]? = some s ∧ T[i]? = some t ∧ cGe T (t + 1) + cEq (T.take i) t = cn k ∧ (∀ j t', j < i → T[j]? = some t' → cGe T (t' + 1) + cEq (T.take j) t' ≠ cn k) ∧ v = nI s) ∨ ((∀ j t', T[j]? = some t' → cGe T (t' + 1) + cEq (T.take j) t' ≠ cn k) ∧ v = -1)
theorem cEq_take_le {xs : List Nat} {s i j : Nat} (h : i ≤ j) : cEq (xs.take i) s ≤ cEq (xs.take j) s := (List.Sublist.filter _ (List.take_sublist_take_left h)).length_le
theorem cEq_take_lt {xs : List Nat} {s i j : Nat} (hi : xs[i]? = some s) (h : i < j) : cEq (xs.take i) s < cEq (xs.take j) s := by
  have h1 := cEq_take hi s
  rw [if_pos rfl] at h1
  have h2 := cEq_take_le (xs := xs) (s := s) (show i + 1 ≤ j from h)
  omega
theorem cEq_take_all {xs : List Nat} {s i : Nat} (hi : xs[i]? = some s) : cEq (xs.take i) s < cEq xs s := by
  have h := cEq_take_lt hi (List.getElem?_eq_some_iff.mp hi).1
  rwa [List.take_length] at h
theorem aSel.uniq {xs : List Nat} {x k v w : Int32} (h : aSel xs x k v) (h' : aSel xs x k w) : v = w := by
  rcases h with ⟨i, h1, h2, rfl⟩ | ⟨h1, rfl⟩ <;> rcases h' with ⟨j, g1, g2, rfl⟩ | ⟨g1, rfl⟩
  · rcases Nat.lt_trichotomy i j with h | h | h
    · have := cEq_take_lt h1 h; omega
    · rw [h]
    · have := cEq_take_lt g1 h; omega
  · have := cEq_take_all h1; omega
  · have := cEq_take_all g1; omega
  · rfl
theorem aQua.uniq {B : List Nat} {k v w : Int32} (h : aQua B k v) (h' : aQua B k w) : v = w := by
  obtain ⟨r, h1, rfl⟩ := h
  obtain ⟨r', h2, rfl⟩ := h'
  rw [h1.uniq h2]
theorem aBel.uniq {B : List Nat} {x v w : Int32} (h : aBel B x v) (h' : aBel B x w) : v = w := by
  rcases h with ⟨r, h1, h2, h3, rfl⟩ | ⟨h1, rfl⟩ <;> rcases h' with ⟨r', g1, g2, g3, rfl⟩ | ⟨g1, rfl⟩
  · rw [Nat.le_antisymm (g3 r h1 h2) (h3 r' g1 g2)]
  · exact absurd h2 (g1 r h1)
  · exact absurd g2 (h1 r' g1)
  · rfl
theorem aAbv.uniq {B : List Nat} {x v w : Int32} (h : aAbv B x v) (h' : aAbv B x w) : v = w := by
  rcases h with ⟨r, h1, h2, h3, rfl⟩ | ⟨h1, rfl⟩ <;> rcases h' with ⟨r', g1, g2, g3, rfl⟩ | ⟨g1, rfl⟩
  · rw [Nat.le_antisymm (h3 r' g1 g2) (g3 r h1 h2)]
  · exact absurd h2 (g1 r h1)
  · exact absurd g2 (h1 r' g1)
  · rfl
theorem aFrq.uniq {S T : List Nat} {k v w : Int32} (h : aFrq S T k v) (h' : aFrq S T k w) : v = w := by
  rcases h with ⟨i, s, t, h1, h2, h3, h4, rfl⟩ | ⟨h1, rfl⟩ <;> rcases h' with ⟨j, s', t', g1, g2, g3, g4, rfl⟩ | ⟨g1, rfl⟩
  · rcases Nat.lt_trichotomy i j with h | h | h
    · exact absurd h3 (g4 i t h h2)
    · subst h
      rw [h1] at g1
      cases g1
      rfl
    · exact absurd g3 (h4 j t' h g2)
  · exact absurd h3 (g1 i t h2)
  · exact absurd g3 (h1 j t' g2)
  · rfl
theorem cLt_mem {B : List Nat} {x v : Nat} (hx : x ∈ B) (h : x < v) : cLt B x < cLt B v := by
  have h1 := cLt_succ B x
  have h2 := cLt_mono B (show x + 1 ≤ v from h)
  have h3 := cEq_pos.mpr hx
  omega
theorem aBel_some {B : List Nat} {x : Int32} {r : Nat} (h0 : 0 < cLt B (cn x)) (h : kth B (cLt B (cn x) - 1) r) : aBel B x (nI r) := by
  refine Or.inl ⟨r, h.mem, ?_, fun z hz hzx => ?_, rfl⟩
  · rcases Nat.lt_or_ge r (cn x) with h1 | h1
    · exact h1
    · have h2 := cLt_mono B h1
      have h3 := h.1
      omega
  · rcases Nat.lt_or_ge r z with h1 | h1
    · have h2 := cLt_mono B (show r + 1 ≤ z from h1)
      have h3 := cLt_mem hz hzx
      have h4 := h.2
      omega
    · exact h1
theorem aBel_none {B : List Nat} {x : Int32} (h0 : cLt B (cn x) = 0) : aBel B x (-1) :=
  Or.inr ⟨fun z hz hzx => by have := cLt_mem hz hzx; omega, rfl⟩
theorem aAbv_some {B : List Nat} {x : Int32} {r : Nat} (h : kth B (cLt B (cn x)) r) : aAbv B x (nI r) := by
  refine Or.inl ⟨r, h.mem, (kth_next h).1, fun z hz hzx => ?_, rfl⟩
  rcases Nat.lt_or_ge z r with h1 | h1
  · have h2 := cLt_mem hz h1
    have h3 := cLt_mono B hzx
    have h4 := h.1
    omega
  · exact h1
theorem aAbv_none {B : List Nat} {x : Int32} (h0 : cLt B (cn x) = B.length) : aAbv B x (-1) :=
  Or.inr ⟨fun z hz hzx => by
    have h1 := cLt_succ B z
    have h2 := cEq_pos.mpr hz
    have h3 := cLt_mono B hzx
    have h4 := cLt_le B (z + 1)
    omega, rfl⟩
theorem kth_of_lt {B : List Nat} {k : Nat} (h : k < B.length) (hB : ∀ x ∈ B, x < 65536) : ∃ r, kth B k r := by
  obtain ⟨r, -, h2⟩ := kth_ex 65536 (show k < cLt B 65536 by rw [cLt_all hB]; exact h)
  exact ⟨r, h2⟩
theorem bk_len {xs : List Nat} {i j : Nat} (h1 : i ≤ j) (h2 : j ≤ xs.length) : ((xs.drop i).take (j - i)).length = j - i := by
  rw [List.length_take, List.length_drop]; omega
theorem bk_mem {xs : List Nat} {i j x : Nat} (h : x ∈ (xs.drop i).take (j - i)) : x ∈ xs := List.mem_of_mem_drop (List.mem_of_mem_take h)
theorem wdn_len {d : Nat} {xs : List Nat} {s a b : Nat} (hs : s < 2 ^ d) (h1 : a ≤ b) (h2 : b ≤ xs.length) (hx : ∀ x ∈ xs, x < 2 ^ d) : wdn d xs s d a + cEq ((xs.drop a).take (b - a)) s = wdn d xs s d b ∧ wdn d xs s d b ≤ xs.length := by
  have h := (wdn_I hs h1 h2 hx d (Nat.le_refl d)).len
  rw [Nat.sub_self, Nat.pow_zero, Nat.div_one, wpre_d] at h
  exact h
theorem isPt.ints {n : Nat} {a b : Int32} (hn : n ≤ 1000) (h : isPt n a b) : a = nI (cn a) ∧ b = nI (cn b) ∧ cn a ≤ cn b ∧ cn b ≤ n := by
  obtain ⟨i, j, rfl, rfl, h1, h2⟩ := h.of hn
  simp only [cn]
  rw [nI_clamp (by omega), nI_clamp (by omega)]
  exact ⟨rfl, rfl, h1, h2⟩
theorem isS.ints {sg : Nat} {x : Int32} (hs : sg ≤ 65536) (h : isS sg x) : x = nI (cn x) ∧ cn x < sg := by
  obtain ⟨i, rfl, h1⟩ := h.of hs
  simp only [cn]
  rw [nI_clamp (by omega)]
  exact ⟨rfl, h1⟩
theorem nn_ints {x : Int32} (h : ¬ x < 0) : x = nI (cn x) ∧ cn x < 2 ^ 31 := by
  obtain ⟨i, hi, rfl⟩ := nI_of h
  simp only [cn]
  rw [nI_clamp hi]
  exact ⟨rfl, hi⟩
end ASK
