/-! STORING A LEVEL: what holds when p symbols are kept. -/
section STM
theorem uN64_or (a b : Int64) : uN64 (a ||| b) = uN64 a ||| uN64 b := by simp [uN64]
def StI (t : Nat → Bool) (L : List Nat) (p ow : Nat) (ja : Nat → Int64) (oa rf sf : Nat → Int32) : Prop :=
  (∀ i x, i < p → L[i]? = some x → (uN64 (ja (i / 64))).testBit (i % 64) = t x) ∧
  (∀ i, p ≤ i → i < 1024 → (uN64 (ja (i / 64))).testBit (i % 64) = false) ∧
  (∀ w, 64 * w < ow → oa w = nI (z1 t L (64 * w))) ∧
  (∀ i x, ((L.take p).filter (fun x => !t x))[i]? = some x → rf i = nI x) ∧
  (∀ i x, p ≤ i → L[i]? = some x → rf i = nI x) ∧
  (∀ i x, ((L.take p).filter t)[i]? = some x → sf i = nI x)
theorem StI.start {t : Nat → Bool} {L : List Nat} {ja : Nat → Int64} {oa rf sf : Nat → Int32} (hj : ∀ i, i < 16 → ja i = 0) (hr : ∀ i x, L[i]? = some x → rf i = nI x) : StI t L 0 0 ja oa rf sf := by
  refine ⟨fun i x h => absurd h (Nat.not_lt_zero i), fun i _ h => ?_, fun w h => absurd h (Nat.not_lt_zero _), fun i x h => ?_, fun i x _ h => hr i x h, fun i x h => ?_⟩
  · rw [hj _ (by omega), show uN64 0 = 0 from rfl]; exact Nat.zero_testBit _
  · simp at h
  · simp at h
theorem StI.put {t : Nat → Bool} {L : List Nat} {p : Nat} {ja : Nat → Int64} {oa rf sf : Nat → Int32} (h : StI t L p p ja oa rf sf) (hp : p % 64 = 0) : StI t L p (p + 1) ja (upd oa (p / 64) (nI (z1 t L p))) rf sf := by
  obtain ⟨h1, h2, h3, h4, h5, h6⟩ := h
  refine ⟨h1, h2, fun w hw => ?_, h4, h5, h6⟩
  by_cases e : w = p / 64
  · subst e
    simp only [upd, if_true]
    congr 2
    omega
  · simp only [upd, if_neg e]
    exact h3 w (by omega)
theorem StI.skip {t : Nat → Bool} {L : List Nat} {p : Nat} {ja : Nat → Int64} {oa rf sf : Nat → Int32} (h : StI t L p p ja oa rf sf) (hp : p % 64 ≠ 0) : StI t L p (p + 1) ja oa rf sf := by
  obtain ⟨h1, h2, h3, h4, h5, h6⟩ := h
  exact ⟨h1, h2, fun w hw => h3 w (by omega), h4, h5, h6⟩
theorem take_one {L : List Nat} {p x : Nat} (hx : L[p]? = some x) : L.take (p + 1) = L.take p ++ [x] := by rw [List.take_add_one, hx]; rfl
theorem app_at {B : List Nat} {x i y : Nat} (h : (B ++ [x])[i]? = some y) : (i = B.length ∧ y = x) ∨ (i ≠ B.length ∧ B[i]? = some y) := by
  by_cases e : i < B.length
  · rw [List.getElem?_append_left e] at h
    exact Or.inr ⟨by omega, h⟩
  · rw [List.getElem?_append_right (by omega)] at h
    have h2 := (List.getElem?_eq_some_iff.mp h).1
    simp only [List.length_cons, List.length_nil] at h2
    have h3 : i - B.length = 0 := by omega
    rw [h3] at h
    simp at h
    exact Or.inl ⟨by omega, h.symm⟩
theorem StI.zero {t : Nat → Bool} {L : List Nat} (hL : L.length ≤ 1000) {p x : Nat} {ja : Nat → Int64} {oa rf sf : Nat → Int32} (h : StI t L p (p + 1) ja oa rf sf) (hx : L[p]? = some x) (ht : t x = false) : StI t L (p + 1) (p + 1) ja oa (upd rf (z0 t L p) (nI x)) sf := by
  obtain ⟨h1, h2, h3, h4, h5, h6⟩ := h
  have hz := z0_le t L p
  have hl := (List.getElem?_eq_some_iff.mp hx).1
  refine ⟨fun i y hi hy => ?_, fun i hi hi2 => h2 i (by omega) hi2, h3, fun i y hy => ?_, fun i y hi hy => ?_, fun i y hy => ?_⟩
  · by_cases e : i = p
    · subst e
      rw [hx] at hy
      cases hy
      rw [ht]
      exact h2 i (Nat.le_refl _) (by omega)
    · exact h1 i y (by omega) hy
  · rw [take_one hx, List.filter_append] at hy
    simp only [List.filter_cons, ht, Bool.not_false, if_true, List.filter_nil] at hy
    rcases app_at hy with ⟨e, rfl⟩ | ⟨e, hy⟩
    · have e2 : i = z0 t L p := e
      simp only [upd, e2, if_true]
    · have e2 : i ≠ z0 t L p := e
      simp only [upd, if_neg e2]
      exact h4 i y hy
  · have e2 : i ≠ z0 t L p := by omega
    simp only [upd, if_neg e2]
    exact h5 i y (by omega) hy
  · rw [take_one hx, List.filter_append] at hy
    simp only [List.filter_cons, ht, Bool.false_eq_true, if_false, List.filter_nil, List.append_nil] at hy
    exact h6 i y hy
theorem StI.one {t : Nat → Bool} {L : List Nat} (hL : L.length ≤ 1000) {p x : Nat} {ja : Nat → Int64} {oa rf sf : Nat → Int32} (h : StI t L p (p + 1) ja oa rf sf) (hx : L[p]? = some x) (ht : t x = true) : StI t L (p + 1) (p + 1) (vp_updL ja (p / 64) (ja (p / 64) ||| lN (2 ^ (p % 64)))) oa rf (upd sf (z1 t L p) (nI x)) := by
  obtain ⟨h1, h2, h3, h4, h5, h6⟩ := h
  have hl := (List.getElem?_eq_some_iff.mp hx).1
  have hw : uN64 (ja (p / 64) ||| lN (2 ^ (p % 64))) = uN64 (ja (p / 64)) ||| 2 ^ (p % 64) := by
    rw [uN64_or]
    congr 1
    exact wb_tn (Nat.pow_lt_pow_right (by decide) (by omega))
  have hbit : ∀ i, (uN64 (vp_updL ja (p / 64) (ja (p / 64) ||| lN (2 ^ (p % 64))) (i / 64))).testBit (i % 64) = ((uN64 (ja (i / 64))).testBit (i % 64) || decide (i = p)) := by
    intro i
    by_cases e : i / 64 = p / 64
    · simp only [vp_updL, e, if_true]
      rw [hw, Nat.testBit_or, Nat.testBit_two_pow]
      congr 1
      rw [decide_eq_decide]
      omega
    · simp only [vp_updL, if_neg e]
      have e2 : i ≠ p := fun z => e (by rw [z])
      rw [decide_eq_false e2, Bool.or_false]
  refine ⟨fun i y hi hy => ?_, fun i hi hi2 => ?_, h3, fun i y hy => ?_, fun i y hi hy => h5 i y (by omega) hy, fun i y hy => ?_⟩
  · rw [hbit]
    by_cases e : i = p
    · subst e
      rw [hx] at hy
      cases hy
      rw [ht, decide_eq_true rfl, Bool.or_true]
    · rw [decide_eq_false e, Bool.or_false]
      exact h1 i y (by omega) hy
  · rw [hbit, h2 i (by omega) hi2, decide_eq_false (by omega)]
    rfl
  · rw [take_one hx, List.filter_append] at hy
    simp only [List.filter_cons, ht, Bool.not_true, Bool.false_eq_true, if_false, List.filter_nil, List.append_nil] at hy
    exact h4 i y hy
  · rw [take_one hx, List.filter_append] at hy
    simp only [List.filter_cons, ht, if_true, List.filter_nil] at hy
    rcases app_at hy with ⟨e, rfl⟩ | ⟨e, hy⟩
    · have e2 : i = z1 t L p := e
      simp only [upd, e2, if_true]
    · have e2 : i ≠ z1 t L p := e
      simp only [upd, if_neg e2]
      exact h6 i y hy
theorem StI.done {t : Nat → Bool} {L : List Nat} {ja : Nat → Int64} {oa rf sf : Nat → Int32} (h : StI t L L.length L.length ja oa rf sf) :
    LvOk t L ja oa (nI (z0 t L L.length)) ∧ ∀ i x, (wpart t L)[i]? = some x → va_cpy sf rf 0 (z0 t L L.length) (z1 t L L.length) i = nI x := by
  obtain ⟨h1, h2, h3, h4, h5, h6⟩ := h
  rw [List.take_length] at h4 h6
  have e0 : z0 t L L.length = (L.filter (fun x => !t x)).length := by rw [z0, List.take_length]
  have e1 : z1 t L L.length = (L.filter t).length := by rw [z1, List.take_length]
  refine ⟨⟨fun i x hx => ?_, h3, rfl⟩, fun i x hx => ?_⟩
  · have h7 := h1 i x (List.getElem?_eq_some_iff.mp hx).1 hx
    rw [Nat.testBit_eq_decide_div_mod_eq] at h7
    have h8 := Nat.mod_two_eq_zero_or_one (uN64 (ja (i / 64)) / 2 ^ (i % 64))
    cases ht : t x
    · rw [ht] at h7
      have := of_decide_eq_false h7
      simp only [Bool.false_eq_true, if_false]
      omega
    · rw [ht] at h7
      simp only [if_true]
      exact of_decide_eq_true h7
  · rw [wpart] at hx
    have hl := (List.getElem?_eq_some_iff.mp hx).1
    rw [List.length_append] at hl
    by_cases hi : i < (L.filter (fun x => !t x)).length
    · rw [List.getElem?_append_left hi] at hx
      rw [pk_cpy_out (by omega)]
      exact h4 i x hx
    · rw [List.getElem?_append_right (by omega)] at hx
      rw [pk_cpy_in (by omega) (by omega), Nat.zero_add, e0]
      exact h6 _ x hx
theorem sh31 : ∀ k, k < 32 → ((nI k &&& 31).toBitVec.smod 32).toNat = k := by decide +kernel
theorem sh_bit {x k : Nat} (hx : x < 2 ^ 31) (hk : k < 32) : nI x >>> (nI k &&& 31) = nI (x / 2 ^ k) := pk_shrN hx _ k (sh31 k hk)
theorem nI_and1 (x : Nat) : nI x &&& 1 = nI (x % 2) := by rw [show (1 : Int32) = nI 1 from rfl, nx_and, Nat.and_one_is_mod]
theorem short_nI {n : Nat} (h : n ≤ 1000) : (nI n).toInt16.toInt32 = nI n := by
  have : ∀ k : Fin 1001, (nI k.val).toInt16.toInt32 = nI k.val := by decide +kernel
  exact this ⟨n, by omega⟩
end STM
