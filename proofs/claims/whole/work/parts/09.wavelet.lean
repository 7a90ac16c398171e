/-! THE LEVELS: pure rows on lists of numbers. wt d k x: the bit of x that level k keeps; wL d xs k: the row as level k has it. -/
section WM
def wt (d k x : Nat) : Bool := decide (x / 2 ^ (d - 1 - k) % 2 = 1)
def wpart (t : Nat → Bool) (L : List Nat) : List Nat := L.filter (fun x => !t x) ++ L.filter t
def wL (d : Nat) (xs : List Nat) : Nat → List Nat
  | 0 => xs
  | k + 1 => wpart (wt d k) (wL d xs k)
theorem flt_len (t : Nat → Bool) (L : List Nat) : (L.filter (fun x => !t x)).length + (L.filter t).length = L.length := by
  induction L with
  | nil => rfl
  | cons a L ih =>
    cases h : t a <;> simp [List.filter_cons, h] <;> omega
theorem wpart_len (t : Nat → Bool) (L : List Nat) : (wpart t L).length = L.length := by
  rw [wpart, List.length_append]; exact flt_len t L
theorem wL_len (d : Nat) (xs : List Nat) : ∀ k, (wL d xs k).length = xs.length
  | 0 => rfl
  | k + 1 => by rw [wL, wpart_len]; exact wL_len d xs k
theorem wpart_mem {t : Nat → Bool} {L : List Nat} {x : Nat} : x ∈ wpart t L ↔ x ∈ L := by
  simp only [wpart, List.mem_append, List.mem_filter]
  cases h : t x <;> simp
theorem wL_mem {d : Nat} {xs : List Nat} {x : Nat} : ∀ k, x ∈ wL d xs k ↔ x ∈ xs
  | 0 => Iff.rfl
  | k + 1 => by rw [wL, wpart_mem]; exact wL_mem k
/-- how many zeros, ones stand before a place -/
def z0 (t : Nat → Bool) (L : List Nat) (i : Nat) : Nat := ((L.take i).filter (fun x => !t x)).length
def z1 (t : Nat → Bool) (L : List Nat) (i : Nat) : Nat := ((L.take i).filter t).length
theorem z01 (t : Nat → Bool) {L : List Nat} {i : Nat} (h : i ≤ L.length) : z0 t L i + z1 t L i = i := by
  have h1 := flt_len t (L.take i)
  rw [List.length_take, Nat.min_eq_left h] at h1
  exact h1
theorem z0_0 (t : Nat → Bool) (L : List Nat) : z0 t L 0 = 0 := rfl
theorem z1_0 (t : Nat → Bool) (L : List Nat) : z1 t L 0 = 0 := rfl
theorem z1_succ (t : Nat → Bool) {L : List Nat} {i x : Nat} (h : L[i]? = some x) : z1 t L (i + 1) = z1 t L i + (if t x then 1 else 0) := by
  have h1 : L.take (i + 1) = L.take i ++ [x] := by rw [List.take_add_one, h]; rfl
  unfold z1
  rw [h1, List.filter_append, List.length_append]
  cases h2 : t x <;> simp [List.filter_cons, h2]
theorem z0_succ (t : Nat → Bool) {L : List Nat} {i x : Nat} (h : L[i]? = some x) : z0 t L (i + 1) = z0 t L i + (if t x then 0 else 1) := by
  have h1 : L.take (i + 1) = L.take i ++ [x] := by rw [List.take_add_one, h]; rfl
  unfold z0
  rw [h1, List.filter_append, List.length_append]
  cases h2 : t x <;> simp [List.filter_cons, h2]
theorem z1_mono (t : Nat → Bool) (L : List Nat) {i j : Nat} (h : i ≤ j) : z1 t L i ≤ z1 t L j := by
  unfold z1
  exact (List.Sublist.filter t (List.take_sublist_take_left h)).length_le
theorem z0_mono (t : Nat → Bool) (L : List Nat) {i j : Nat} (h : i ≤ j) : z0 t L i ≤ z0 t L j := by
  unfold z0
  exact (List.Sublist.filter _ (List.take_sublist_take_left h)).length_le
theorem z0_le (t : Nat → Bool) (L : List Nat) (i : Nat) : z0 t L i ≤ i := by
  unfold z0
  exact Nat.le_trans (List.length_filter_le _ _) (by rw [List.length_take]; exact Nat.min_le_left _ _)
theorem z1_le (t : Nat → Bool) (L : List Nat) (i : Nat) : z1 t L i ≤ i := by
  unfold z1
  exact Nat.le_trans (List.length_filter_le _ _) (by rw [List.length_take]; exact Nat.min_le_left _ _)
/-- the places a .. b of L hold B -/
def IV (L : List Nat) (a b : Nat) (B : List Nat) : Prop := ∃ A C, L = A ++ B ++ C ∧ A.length = a ∧ a + B.length = b
theorem IV.len {L : List Nat} {a b : Nat} {B : List Nat} (h : IV L a b B) : a + B.length = b ∧ b ≤ L.length := by
  obtain ⟨A, C, rfl, rfl, rfl⟩ := h
  refine ⟨rfl, ?_⟩
  simp only [List.length_append]
  omega
theorem IV.of {L : List Nat} {a b : Nat} (h1 : a ≤ b) (h2 : b ≤ L.length) : IV L a b ((L.drop a).take (b - a)) := by
  refine ⟨L.take a, L.drop b, ?_, by rw [List.length_take]; omega, by rw [List.length_take, List.length_drop]; omega⟩
  have e1 : L.drop b = (L.drop a).drop (b - a) := by rw [List.drop_drop]; congr 1; omega
  rw [e1, List.append_assoc, List.take_append_drop, List.take_append_drop]
theorem IV.takes {A B C : List Nat} : (A ++ B ++ C).take A.length = A ∧ (A ++ B ++ C).take (A.length + B.length) = A ++ B := by
  constructor
  · rw [List.append_assoc]; exact List.take_left
  · rw [← List.length_append]; exact List.take_left
theorem IV.zero (t : Nat → Bool) {L : List Nat} {a b : Nat} {B : List Nat} (h : IV L a b B) : IV (wpart t L) (z0 t L a) (z0 t L b) (B.filter (fun x => !t x)) := by
  obtain ⟨A, C, rfl, rfl, rfl⟩ := h
  obtain ⟨e1, e2⟩ := IV.takes (A := A) (B := B) (C := C)
  refine ⟨A.filter (fun x => !t x), C.filter (fun x => !t x) ++ (A ++ B ++ C).filter t, ?_, ?_, ?_⟩
  · simp only [wpart, List.filter_append, List.append_assoc]
  · rw [z0, e1]
  · rw [z0, z0, e1, e2, List.filter_append, List.length_append]
theorem IV.one (t : Nat → Bool) {L : List Nat} {a b : Nat} {B : List Nat} (h : IV L a b B) : IV (wpart t L) (z0 t L L.length + z1 t L a) (z0 t L L.length + z1 t L b) (B.filter t) := by
  obtain ⟨A, C, rfl, rfl, rfl⟩ := h
  obtain ⟨e1, e2⟩ := IV.takes (A := A) (B := B) (C := C)
  refine ⟨(A ++ B ++ C).filter (fun x => !t x) ++ A.filter t, C.filter t, ?_, ?_, ?_⟩
  · simp only [wpart, List.filter_append, List.append_assoc]
  · rw [z0, z1, e1, List.take_length, List.length_append]
  · rw [z1, z1, e1, e2, List.filter_append, List.length_append (as := A.filter t)]; omega
theorem IV.at {L : List Nat} {a x : Nat} (h : IV L a (a + 1) [x]) : L[a]? = some x := by
  obtain ⟨A, C, rfl, rfl, -⟩ := h
  simp
theorem IV.one_of {L : List Nat} {a x : Nat} (h : L[a]? = some x) : IV L a (a + 1) [x] := by
  obtain ⟨hl, hx⟩ := List.getElem?_eq_some_iff.mp h
  have h1 := IV.of (L := L) (a := a) (b := a + 1) (by omega) (by omega)
  have h2 : (L.drop a).take (a + 1 - a) = [x] := by
    rw [show a + 1 - a = 1 by omega, List.drop_eq_getElem_cons hl, hx]
    rfl
  rw [h2] at h1
  exact h1
/-- one symbol goes down a level -/
theorem wm_next (t : Nat → Bool) {L : List Nat} {q x : Nat} (h : L[q]? = some x) : (wpart t L)[if t x then z0 t L L.length + z1 t L q else z0 t L q]? = some x := by
  have h1 := IV.one_of h
  cases ht : t x
  · have h2 := h1.zero t
    rw [z0_succ t h, ht] at h2
    simp only [List.filter_cons, ht, Bool.not_false, List.filter_nil, Bool.false_eq_true, if_false, if_true] at h2
    exact h2.at
  · have h2 := h1.one t
    rw [z1_succ t h, ht] at h2
    simp only [List.filter_cons, ht, List.filter_nil, if_true] at h2
    exact IV.at h2
theorem wt_zero {d k x p : Nat} (hk : k < d) : (!wt d k x && (x / 2 ^ (d - k) == p)) = (x / 2 ^ (d - (k + 1)) == 2 * p) := by
  obtain ⟨e, rfl⟩ : ∃ e, d = k + 1 + e := ⟨d - (k + 1), by omega⟩
  have h4 : x / 2 ^ (e + 1) = x / 2 ^ e / 2 := by rw [Nat.pow_succ, Nat.div_div_eq_div_mul]
  rw [wt, show k + 1 + e - k = e + 1 by omega, show k + 1 + e - (k + 1) = e by omega, show k + 1 + e - 1 - k = e by omega, h4]
  generalize x / 2 ^ e = y
  rw [Bool.eq_iff_iff]
  simp only [Bool.and_eq_true, Bool.not_eq_true', decide_eq_false_iff_not, beq_iff_eq]
  omega
theorem wt_one {d k x p : Nat} (hk : k < d) : (wt d k x && (x / 2 ^ (d - k) == p)) = (x / 2 ^ (d - (k + 1)) == 2 * p + 1) := by
  obtain ⟨e, rfl⟩ : ∃ e, d = k + 1 + e := ⟨d - (k + 1), by omega⟩
  have h4 : x / 2 ^ (e + 1) = x / 2 ^ e / 2 := by rw [Nat.pow_succ, Nat.div_div_eq_div_mul]
  rw [wt, show k + 1 + e - k = e + 1 by omega, show k + 1 + e - (k + 1) = e by omega, show k + 1 + e - 1 - k = e by omega, h4]
  generalize x / 2 ^ e = y
  rw [Bool.eq_iff_iff]
  simp only [Bool.and_eq_true, decide_eq_true_eq, beq_iff_eq]
  omega
/-- the symbols of B whose first k bits are p -/
def wpre (d k p : Nat) (B : List Nat) : List Nat := B.filter (fun x => x / 2 ^ (d - k) == p)
theorem wpre_zero {d k p : Nat} (hk : k < d) (B : List Nat) : (wpre d k p B).filter (fun x => !wt d k x) = wpre d (k + 1) (2 * p) B := by
  rw [wpre, wpre, List.filter_filter]
  exact List.filter_congr (fun x _ => wt_zero hk)
theorem wpre_one {d k p : Nat} (hk : k < d) (B : List Nat) : (wpre d k p B).filter (wt d k) = wpre d (k + 1) (2 * p + 1) B := by
  rw [wpre, wpre, List.filter_filter]
  exact List.filter_congr (fun x _ => wt_one hk)
theorem wpre_0 {d : Nat} {B : List Nat} (hB : ∀ x ∈ B, x < 2 ^ d) : wpre d 0 0 B = B := by
  rw [wpre]
  refine List.filter_eq_self.mpr (fun x hx => ?_)
  rw [beq_iff_eq]
  exact Nat.div_eq_of_lt (hB x hx)
theorem wpre_d {d p : Nat} (B : List Nat) : wpre d d p B = B.filter (fun x => x == p) := by
  rw [wpre]
  exact List.filter_congr (fun x _ => by rw [Nat.sub_self, Nat.pow_zero, Nat.div_one])
/-- a part at level k, p the bits that it went -/
def wI (d : Nat) (xs : List Nat) (k p a b : Nat) (B : List Nat) : Prop := IV (wL d xs k) a b (wpre d k p B)
theorem wI.start {d : Nat} {xs : List Nat} {a b : Nat} (h1 : a ≤ b) (h2 : b ≤ xs.length) (hx : ∀ x ∈ xs, x < 2 ^ d) : wI d xs 0 0 a b ((xs.drop a).take (b - a)) := by
  rw [wI, wpre_0 (fun x h => hx x (List.mem_of_mem_drop (List.mem_of_mem_take h)))]
  exact IV.of h1 h2
theorem wI.zero {d : Nat} {xs : List Nat} {k p a b : Nat} {B : List Nat} (hk : k < d) (h : wI d xs k p a b B) : wI d xs (k + 1) (2 * p) (z0 (wt d k) (wL d xs k) a) (z0 (wt d k) (wL d xs k) b) B := by
  have h1 := IV.zero (wt d k) h
  rw [wpre_zero hk] at h1
  exact h1
theorem wI.one {d : Nat} {xs : List Nat} {k p a b : Nat} {B : List Nat} (hk : k < d) (h : wI d xs k p a b B) : wI d xs (k + 1) (2 * p + 1) (z0 (wt d k) (wL d xs k) xs.length + z1 (wt d k) (wL d xs k) a) (z0 (wt d k) (wL d xs k) xs.length + z1 (wt d k) (wL d xs k) b) B := by
  have h1 := IV.one (wt d k) h
  rw [wpre_one hk, wL_len] at h1
  exact h1
/-- how many symbols of B begin with less than p -/
def wlt (d k p : Nat) (B : List Nat) : Nat := (B.filter (fun x => decide (x / 2 ^ (d - k) < p))).length
theorem wlt_zero {d k p : Nat} (hk : k < d) (B : List Nat) : wlt d (k + 1) (2 * p) B = wlt d k p B := by
  unfold wlt
  congr 1
  refine List.filter_congr (fun x _ => ?_)
  obtain ⟨e, rfl⟩ : ∃ e, d = k + 1 + e := ⟨d - (k + 1), by omega⟩
  have h4 : x / 2 ^ (e + 1) = x / 2 ^ e / 2 := by rw [Nat.pow_succ, Nat.div_div_eq_div_mul]
  rw [show k + 1 + e - k = e + 1 by omega, show k + 1 + e - (k + 1) = e by omega, h4]
  generalize x / 2 ^ e = y
  rw [decide_eq_decide]
  omega
theorem wlt_one {d k p : Nat} (hk : k < d) (B : List Nat) : wlt d (k + 1) (2 * p + 1) B = wlt d k p B + (wpre d (k + 1) (2 * p) B).length := by
  rw [← wlt_zero hk]
  unfold wlt wpre
  generalize d - (k + 1) = e
  induction B with
  | nil => rfl
  | cons x B ih =>
    generalize hy : x / 2 ^ e = y
    simp only [List.filter_cons, hy]
    rcases Nat.lt_trichotomy y (2 * p) with h | h | h
    · have h1 : y < 2 * p + 1 := by omega
      have h2 : (y == 2 * p) = false := by rw [beq_eq_false_iff_ne]; omega
      simp only [h, h1, h2, decide_true, if_true, Bool.false_eq_true, if_false, List.length_cons]
      omega
    · have h1 : y < 2 * p + 1 := by omega
      have h2 : (y == 2 * p) = true := by rw [beq_iff_eq]; exact h
      have h3 : ¬ y < 2 * p := by omega
      simp only [h1, h2, h3, decide_true, decide_false, if_true, Bool.false_eq_true, if_false, List.length_cons]
      omega
    · have h1 : ¬ y < 2 * p + 1 := by omega
      have h2 : (y == 2 * p) = false := by rw [beq_eq_false_iff_ne]; omega
      have h3 : ¬ y < 2 * p := by omega
      simp only [h1, h2, h3, decide_false, Bool.false_eq_true, if_false]
      exact ih
theorem wlt_0 {d : Nat} (B : List Nat) : wlt d 0 0 B = 0 := by
  unfold wlt
  rw [List.length_eq_zero_iff, List.filter_eq_nil_iff]
  intro x _
  simp
theorem wlt_d {d p : Nat} (B : List Nat) : wlt d d p B = (B.filter (fun x => decide (x < p))).length := by
  unfold wlt
  rw [Nat.sub_self, Nat.pow_zero]
  simp only [Nat.div_one]
/-- a place goes down along the bits of s -/
def wdn (d : Nat) (xs : List Nat) (s : Nat) : Nat → Nat → Nat
  | 0, q => q
  | k + 1, q => if wt d k s then z0 (wt d k) (wL d xs k) xs.length + z1 (wt d k) (wL d xs k) (wdn d xs s k q) else z0 (wt d k) (wL d xs k) (wdn d xs s k q)
theorem wt_bit {d k x : Nat} (hk : k < d) : x / 2 ^ (d - (k + 1)) = 2 * (x / 2 ^ (d - k)) + (if wt d k x then 1 else 0) := by
  obtain ⟨e, rfl⟩ : ∃ e, d = k + 1 + e := ⟨d - (k + 1), by omega⟩
  have h4 : x / 2 ^ (e + 1) = x / 2 ^ e / 2 := by rw [Nat.pow_succ, Nat.div_div_eq_div_mul]
  rw [wt, show k + 1 + e - k = e + 1 by omega, show k + 1 + e - (k + 1) = e by omega, show k + 1 + e - 1 - k = e by omega, h4]
  generalize x / 2 ^ e = y
  by_cases h : y % 2 = 1
  · rw [decide_eq_true h, if_pos rfl]; omega
  · rw [decide_eq_false h, if_neg Bool.false_ne_true]; omega
theorem wdn_I {d : Nat} {xs : List Nat} {s a b : Nat} (hs : s < 2 ^ d) (h1 : a ≤ b) (h2 : b ≤ xs.length) (hx : ∀ x ∈ xs, x < 2 ^ d) :
    ∀ k, k ≤ d → wI d xs k (s / 2 ^ (d - k)) (wdn d xs s k a) (wdn d xs s k b) ((xs.drop a).take (b - a)) := by
  intro k
  induction k with
  | zero =>
    intro _
    have e : s / 2 ^ (d - 0) = 0 := Nat.div_eq_of_lt hs
    rw [e]
    exact wI.start h1 h2 hx
  | succ k ih =>
    intro hk
    have hI := ih (by omega)
    rw [wt_bit (by omega : k < d)]
    cases hb : wt d k s
    · have h3 := wI.zero (by omega : k < d) hI
      simp only [wdn, hb, Bool.false_eq_true, if_false]
      exact h3
    · have h3 := wI.one (by omega : k < d) hI
      simp only [wdn, hb, if_true]
      exact h3
/-- what stands at a place goes down with its bits -/
theorem wdn_at {d : Nat} {xs : List Nat} {s q : Nat} (hq : xs[q]? = some s) : ∀ k, (wL d xs k)[wdn d xs s k q]? = some s
  | 0 => hq
  | k + 1 => by
    have h1 := wm_next (wt d k) (wdn_at (d := d) hq k)
    rw [wL_len] at h1
    exact h1
end WM
