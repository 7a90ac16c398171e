/-! A LEVEL'S NUMBERS: the words hold the bits of L by t, the short numbers how many ones stand before each word. -/
section LVM
def uN64 (x : Int64) : Nat := x.toBitVec.toNat
def LvOk (t : Nat → Bool) (L : List Nat) (ja : Nat → Int64) (oa : Nat → Int32) (z : Int32) : Prop :=
  (∀ i x, L[i]? = some x → uN64 (ja (i / 64)) / 2 ^ (i % 64) % 2 = if t x then 1 else 0) ∧ (∀ w, 64 * w < L.length → oa w = nI (z1 t L (64 * w))) ∧ z = nI (z0 t L L.length)
theorem lv_ones {t : Nat → Bool} {L : List Nat} {u w : Nat} (hb : ∀ i x, L[i]? = some x → i / 64 = w → u / 2 ^ (i % 64) % 2 = if t x then 1 else 0) :
    ∀ n, n ≤ 64 → 64 * w + n ≤ L.length → z1 t L (64 * w + n) = z1 t L (64 * w) + pcl u n := by
  intro n
  induction n with
  | zero => intro _ _; rfl
  | succ n ih =>
    intro h1 h2
    have ih := ih (by omega) (by omega)
    have hlt : 64 * w + n < L.length := by omega
    have hx : L[64 * w + n]? = some L[64 * w + n] := List.getElem?_eq_getElem hlt
    have hbit := hb _ _ hx (by omega)
    rw [show (64 * w + n) % 64 = n by omega] at hbit
    rw [show 64 * w + (n + 1) = (64 * w + n) + 1 by omega, z1_succ t hx, ih, pcl_succ, hbit]
    omega
theorem LvOk.bit {t : Nat → Bool} {L : List Nat} {ja : Nat → Int64} {oa : Nat → Int32} {z : Int32} (h : LvOk t L ja oa z) {i x : Nat} (hx : L[i]? = some x) : uN64 (ja (i / 64)) / 2 ^ (i % 64) % 2 = if t x then 1 else 0 := h.1 i x hx
theorem LvOk.ones {t : Nat → Bool} {L : List Nat} {ja : Nat → Int64} {oa : Nat → Int32} {z : Int32} (h : LvOk t L ja oa z) {p : Nat} (h0 : p < L.length) :
    oa (p / 64) = nI (z1 t L (64 * (p / 64))) ∧ z1 t L (p + 1) = z1 t L (64 * (p / 64)) + pcl (uN64 (ja (p / 64))) (p % 64 + 1) := by
  refine ⟨h.2.1 _ (by omega), ?_⟩
  have h1 := lv_ones (t := t) (L := L) (u := uN64 (ja (p / 64))) (w := p / 64) (fun i x hx hw => by rw [← hw]; exact h.1 i x hx) (p % 64 + 1) (by omega) (by omega)
  rw [← h1]
  congr 1
  omega
/-- where a place of the level below stood: the last place with no more of its kind before it -/
theorem lv_above0 {t : Nat → Bool} {L : List Nat} {q x i : Nat} (hx : L[q]? = some x) (ht : t x = false) (hi : i ≤ L.length) : z0 t L i ≤ z0 t L q ↔ i ≤ q := by
  constructor
  · intro h
    rcases Nat.lt_or_ge q i with h1 | h1
    · have h2 := z0_mono t L (show q + 1 ≤ i from h1)
      rw [z0_succ t hx, ht] at h2
      simp at h2
      omega
    · exact h1
  · intro h
    exact z0_mono t L h
theorem lv_above1 {t : Nat → Bool} {L : List Nat} {q x i : Nat} (hx : L[q]? = some x) (ht : t x = true) (hi : i ≤ L.length) : z1 t L i ≤ z1 t L q ↔ i ≤ q := by
  constructor
  · intro h
    rcases Nat.lt_or_ge q i with h1 | h1
    · have h2 := z1_mono t L (show q + 1 ≤ i from h1)
      rw [z1_succ t hx, ht] at h2
      simp at h2
      omega
    · exact h1
  · intro h
    exact z1_mono t L h
theorem lv_side {t : Nat → Bool} {L : List Nat} {q x : Nat} (hx : L[q]? = some x) (ht : t x = false) : z0 t L q < z0 t L L.length := by
  have h1 : q < L.length := (List.getElem?_eq_some_iff.mp hx).1
  have h2 := z0_mono t L (show q + 1 ≤ L.length from h1)
  rw [z0_succ t hx, ht] at h2
  simp at h2
  omega
end LVM
