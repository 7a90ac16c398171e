/-! THE REFERENCE: its four cells, what its loops find. -/
section MOD
def MI (B0 u0 u1 u2 u3 : Nat) : Prop := (u0 ≠ u1 ∧ u0 ≠ u2 ∧ u0 ≠ u3 ∧ u1 ≠ u2 ∧ u1 ≠ u3 ∧ u2 ≠ u3) ∧ B0 ≤ u0 ∧ B0 ≤ u1 ∧ B0 ≤ u2 ∧ B0 ≤ u3
abbrev AM (u0 u1 u2 u3 : Nat) : Nat → Prop := fun q => q = u0 ∨ q = u1 ∨ q = u2 ∨ q = u3
def MR (D : va_G) (cI : ClassId) (u0 u1 u2 u3 sg : Nat) (xs ws : List Nat) (th : Int32) (H : Heap) : Prop := ∃ rf sf tf : Nat → Int32, (∀ i x, (xs ++ ws)[i]? = some x → rf i = nI x) ∧
  va_P D vwCl [(u0, .inr (3, [.int th, .int (nI sg), .ref u1, .int (nI xs.length), .int (nI (xs.length + ws.length)), .ref u2, .ref u3])), (u1, .inl (cI, 1000, .inl rf)), (u2, .inl (cI, 1000, .inl sf)), (u3, .inl (cI, 1000, .inl tf))] H
theorem MI.D {B0 u0 u1 u2 u3 : Nat} (h : MI B0 u0 u1 u2 u3) (e0 e1 e2 e3 : va_E) : va_D (AM u0 u1 u2 u3) [(u0, e0), (u1, e1), (u2, e2), (u3, e3)] := by
  obtain ⟨⟨h01, h02, h03, h12, h13, h23⟩, -⟩ := h
  refine va_D.app (w1 := [(u0, e0)]) (va_D.one (Or.inl rfl)) (va_D.three h12 h13 h23 (Or.inr (Or.inl rfl)) (Or.inr (Or.inr (Or.inl rfl))) (Or.inr (Or.inr (Or.inr rfl)))) (fun i j p q hi hj => ?_)
  have h0 : p.1 = u0 := by
    match i, hi with
    | 0, hi => cases hi; rfl
    | i + 1, hi => simp at hi
  rw [h0]
  match j, hj with
  | 0, hj => cases hj; exact h01
  | 1, hj => cases hj; exact h02
  | 2, hj => cases hj; exact h03
  | j + 3, hj => simp at hj
theorem MI.AB {B0 u0 u1 u2 u3 : Nat} (h : MI B0 u0 u1 u2 u3) : ∀ q : Nat, AM u0 u1 u2 u3 q → B0 ≤ q := by
  rintro q (rfl | rfl | rfl | rfl)
  · exact h.2.1
  · exact h.2.2.1
  · exact h.2.2.2.1
  · exact h.2.2.2.2
theorem mr_kept {D : va_G} {cI : ClassId} {u0 u1 u2 u3 sg : Nat} {xs ws : List Nat} {th : Int32} {H0 H1 : Heap} {A : Nat → Prop} (h : MR D cI u0 u1 u2 u3 sg xs ws th H0) (hf : fr A H0 H1) (h0 : ¬ A u0) (h1 : ¬ A u1) (h2 : ¬ A u2) (h3 : ¬ A u3) : MR D cI u0 u1 u2 u3 sg xs ws th H1 := by
  obtain ⟨rf, sf, tf, hr, hP⟩ := h
  refine ⟨rf, sf, tf, hr, hP.fr hf (fun k q hk => ?_)⟩
  match k, hk with
  | 0, hk => cases hk; exact h0
  | 1, hk => cases hk; exact h1
  | 2, hk => cases hk; exact h2
  | 3, hk => cases hk; exact h3
  | k + 4, hk => simp at hk
theorem row_at {xs ws : List Nat} {rf : Nat → Int32} (hr : ∀ i x, (xs ++ ws)[i]? = some x → rf i = nI x) {i x : Nat} (h : xs[i]? = some x) : rf i = nI x := hr i x (by rw [List.getElem?_append_left (List.getElem?_eq_some_iff.mp h).1]; exact h)
theorem bk_next {xs : List Nat} {a p x : Nat} (hap : a ≤ p) (h : xs[p]? = some x) : (xs.drop a).take (p + 1 - a) = (xs.drop a).take (p - a) ++ [x] := by
  rw [show p + 1 - a = (p - a) + 1 by omega]
  refine take_one ?_
  rw [List.getElem?_drop, show a + (p - a) = p by omega]
  exact h
theorem cEq_app (B : List Nat) (x v : Nat) : cEq (B ++ [x]) v = cEq B v + (if x = v then 1 else 0) := by
  unfold cEq
  rw [List.filter_append, List.length_append]
  congr 1
  by_cases e : x = v
  · simp [List.filter_cons, e]
  · simp [List.filter_cons, e]
theorem lt_cn {x : Nat} {v : Int32} (hx : x < 2 ^ 31) : nI x < v ↔ x < cn v := by
  by_cases h : v < 0
  · have h1 : cn v = 0 := by
      have h2 := Int32.lt_iff_toInt_lt.mp h
      have h3 : (0 : Int32).toInt = 0 := by decide
      show v.toInt.toNat = 0
      omega
    rw [h1]
    refine ⟨fun z => absurd (Int32.lt_trans z h) (nI_pos hx), fun z => absurd z (Nat.not_lt_zero x)⟩
  · obtain ⟨j, hj, rfl⟩ := nI_of h
    simp only [cn]
    rw [nI_clamp hj]
    exact nI_ltI hx hj
def cB (B : List Nat) (lo hi : Int32) : Nat := (B.filter (fun x => decide (cn lo ≤ x) && decide (x < cn hi))).length
theorem cB_app (B : List Nat) (x : Nat) (lo hi : Int32) : cB (B ++ [x]) lo hi = cB B lo hi + (if cn lo ≤ x ∧ x < cn hi then 1 else 0) := by
  unfold cB
  rw [List.filter_append, List.length_append]
  congr 1
  by_cases e : cn lo ≤ x ∧ x < cn hi
  · simp [List.filter_cons, e]
  · rw [if_neg e]
    have : (decide (cn lo ≤ x) && decide (x < cn hi)) = false := by
      rw [Bool.and_eq_false_iff]
      by_cases e1 : cn lo ≤ x
      · exact Or.inr (decide_eq_false (fun z => e ⟨e1, z⟩))
      · exact Or.inl (decide_eq_false e1)
    simp [List.filter_cons, this]
theorem cLt_app (B : List Nat) (x v : Nat) : cLt (B ++ [x]) v = cLt B v + (if x < v then 1 else 0) := by
  unfold cLt
  rw [List.filter_append, List.length_append]
  congr 1
  by_cases e : x < v
  · simp [List.filter_cons, e]
  · simp [List.filter_cons, e]
theorem cB_cons (B : List Nat) (lo hi : Int32) (h : cn lo ≤ cn hi) : cB B lo hi + cLt B (cn lo) = cLt B (cn hi) := by
  unfold cB cLt
  induction B with
  | nil => rfl
  | cons x B ih =>
    simp only [List.filter_cons]
    by_cases h1 : x < cn lo
    · have h2 : ¬ cn lo ≤ x := by omega
      have h3 : x < cn hi := by omega
      simp only [h1, h2, h3, decide_true, decide_false, Bool.false_and, Bool.false_eq_true, if_false, if_true, List.length_cons]
      omega
    · have h2 : cn lo ≤ x := by omega
      by_cases h3 : x < cn hi
      · simp only [h1, h2, h3, decide_true, decide_false, Bool.true_and, Bool.false_eq_true, if_false, if_true, List.length_cons]
        omega
      · simp only [h1, h2, h3, decide_true, decide_false, Bool.true_and, Bool.false_eq_true, if_false]
        exact ih
theorem cn_mono {a b : Int32} (h : a ≤ b) : cn a ≤ cn b := by
  have h1 := Int32.le_iff_toInt_le.mp h
  show a.toInt.toNat ≤ b.toInt.toNat
  omega
theorem cB_btw (B : List Nat) (lo hi : Int32) : nI (cB B lo hi) = aBtw B lo hi := by
  unfold aBtw
  by_cases h : lo < hi
  · rw [if_pos h]
    have h1 := cB_cons B lo hi (cn_mono (Int32.le_of_lt h))
    rw [← h1, pk_sub (by omega), Nat.add_sub_cancel]
  · rw [if_neg h]
    have h1 := cn_mono (Int32.not_lt.mp h)
    have h2 : cB B lo hi = 0 := by
      unfold cB
      rw [List.length_eq_zero_iff, List.filter_eq_nil_iff]
      intro x _
      simp only [Bool.and_eq_true, decide_eq_true_eq]
      omega
    rw [h2]
    rfl
theorem aBel_nil (x : Int32) : aBel [] x (-1) := Or.inr ⟨(fun z hz => nomatch hz), rfl⟩
theorem aAbv_nil (x : Int32) : aAbv [] x (-1) := Or.inr ⟨(fun z hz => nomatch hz), rfl⟩
theorem aBel_step {B : List Nat} {x v : Int32} {z : Nat} (hB : ∀ y ∈ B, y < 65536) (hz : z < 65536) (h : aBel B x v) : aBel (B ++ [z]) x (if nI z < x ∧ v < nI z then nI z else v) := by
  have hl := lt_cn (x := z) (v := x) (by omega)
  rcases h with ⟨r, h1, h2, h3, rfl⟩ | ⟨h1, rfl⟩
  · have hr := hB r h1
    by_cases c : nI z < x ∧ nI r < nI z
    · rw [if_pos c]
      have c2 : r < z := (nI_ltI (by omega) (by omega)).mp c.2
      refine Or.inl ⟨z, List.mem_append_right _ (List.mem_singleton.mpr rfl), hl.mp c.1, fun y hy hyx => ?_, rfl⟩
      rcases List.mem_append.mp hy with g | g
      · have := h3 y g hyx; omega
      · rw [List.mem_singleton.mp g]; exact Nat.le_refl _
    · rw [if_neg c]
      refine Or.inl ⟨r, List.mem_append_left _ h1, h2, fun y hy hyx => ?_, rfl⟩
      rcases List.mem_append.mp hy with g | g
      · exact h3 y g hyx
      · rw [List.mem_singleton.mp g] at hyx ⊢
        rcases Nat.lt_or_ge r z with k | k
        · exact absurd ⟨hl.mpr hyx, nI_lt k (by omega)⟩ c
        · exact k
  · by_cases c : nI z < x ∧ -1 < nI z
    · rw [if_pos c]
      refine Or.inl ⟨z, List.mem_append_right _ (List.mem_singleton.mpr rfl), hl.mp c.1, fun y hy hyx => ?_, rfl⟩
      rcases List.mem_append.mp hy with g | g
      · exact absurd hyx (h1 y g)
      · rw [List.mem_singleton.mp g]; exact Nat.le_refl _
    · rw [if_neg c]
      refine Or.inr ⟨fun y hy hyx => ?_, rfl⟩
      rcases List.mem_append.mp hy with g | g
      · exact h1 y g hyx
      · rw [List.mem_singleton.mp g] at hyx
        refine c ⟨hl.mpr hyx, ?_⟩
        have h5 : ¬ nI z < 0 := nI_pos (by omega)
        exact Int32.lt_of_lt_of_le (by decide) (Int32.not_lt.mp h5)
theorem aAbv_step {B : List Nat} {x v : Int32} {z : Nat} (hB : ∀ y ∈ B, y < 65536) (hz : z < 65536) (h : aAbv B x v) : aAbv (B ++ [z]) x (if ¬ nI z < x ∧ (v = -1 ∨ nI z < v) then nI z else v) := by
  have hl := lt_cn (x := z) (v := x) (by omega)
  rcases h with ⟨r, h1, h2, h3, rfl⟩ | ⟨h1, rfl⟩
  · have hr := hB r h1
    have hr1 : nI r ≠ -1 := fun e => by
      have := nI_pos (n := r) (by omega)
      rw [e] at this
      exact absurd this (by decide)
    by_cases c : ¬ nI z < x ∧ (nI r = -1 ∨ nI z < nI r)
    · rw [if_pos c]
      have c2 : z < r := (nI_ltI (by omega) (by omega)).mp (c.2.resolve_left hr1)
      refine Or.inl ⟨z, List.mem_append_right _ (List.mem_singleton.mpr rfl), Nat.not_lt.mp (fun k => c.1 (hl.mpr k)), fun y hy hyx => ?_, rfl⟩
      rcases List.mem_append.mp hy with g | g
      · have := h3 y g hyx; omega
      · rw [List.mem_singleton.mp g]; exact Nat.le_refl _
    · rw [if_neg c]
      refine Or.inl ⟨r, List.mem_append_left _ h1, h2, fun y hy hyx => ?_, rfl⟩
      rcases List.mem_append.mp hy with g | g
      · exact h3 y g hyx
      · rw [List.mem_singleton.mp g] at hyx ⊢
        rcases Nat.lt_or_ge z r with k | k
        · exact absurd ⟨fun q => Nat.not_lt.mpr hyx (hl.mp q), Or.inr (nI_lt k (by omega))⟩ c
        · exact k
  · by_cases c : ¬ nI z < x ∧ ((-1 : Int32) = -1 ∨ nI z < -1)
    · rw [if_pos c]
      refine Or.inl ⟨z, List.mem_append_right _ (List.mem_singleton.mpr rfl), Nat.not_lt.mp (fun k => c.1 (hl.mpr k)), fun y hy hyx => ?_, rfl⟩
      rcases List.mem_append.mp hy with g | g
      · exact absurd hyx (h1 y g)
      · rw [List.mem_singleton.mp g]; exact Nat.le_refl _
    · rw [if_neg c]
      refine Or.inr ⟨fun y hy hyx => ?_, rfl⟩
      rcases List.mem_append.mp hy with g | g
      · exact h1 y g hyx
      · rw [List.mem_singleton.mp g] at hyx
        exact c ⟨fun q => Nat.not_lt.mpr hyx (hl.mp q), Or.inl rfl⟩
/-- a new symbol among the different ones -/
theorem dis_split (B : List Nat) (x : Nat) : ∀ M, x < M → ∃ lo hi, (∀ v ∈ lo, v < x) ∧ (∀ v ∈ hi, x < v) ∧ dis B M = lo ++ (if 0 < cEq B x then [x] else []) ++ hi ∧ dis (B ++ [x]) M = lo ++ [x] ++ hi := by
  have hlo : ∀ m, m ≤ x → dis (B ++ [x]) m = dis B m := by
    intro m
    induction m with
    | zero => intro _; rfl
    | succ m ih =>
      intro hm
      rw [dis_succ, dis_succ, ih (by omega), cEq_app, if_neg (show ¬ x = m by omega), Nat.add_zero]
  intro M
  induction M with
  | zero => intro h; exact absurd h (Nat.not_lt_zero x)
  | succ M ih =>
    intro h
    rcases Nat.lt_or_ge x M with h1 | h1
    · obtain ⟨lo, hi, h2, h3, h4, h5⟩ := ih h1
      refine ⟨lo, hi ++ (if 0 < cEq B M then [M] else []), h2, fun v hv => ?_, ?_, ?_⟩
      · rcases List.mem_append.mp hv with g | g
        · exact h3 v g
        · split at g
          · rw [List.mem_singleton.mp g]; exact h1
          · exact nomatch g
      · rw [dis_succ, h4, List.append_assoc]
      · rw [dis_succ, h5, cEq_app, if_neg (show ¬ x = M by omega), Nat.add_zero, List.append_assoc]
    · have e : x = M := by omega
      subst e
      refine ⟨dis B x, [], fun v hv => ?_, (fun v hv => nomatch hv), ?_, ?_⟩
      · exact List.mem_range.mp (List.mem_filter.mp hv).1
      · rw [dis_succ, List.append_nil]
      · rw [dis_succ, hlo x (Nat.le_refl x), cEq_app, if_pos rfl, if_pos (by omega), List.append_nil]
theorem dis_all (B : List Nat) : ∀ m, cLt B m = ((dis B m).map (cEq B)).sum
  | 0 => by rw [cLt_0]; rfl
  | m + 1 => by
    rw [cLt_succ, dis_all B m, dis_succ, List.map_append, List.sum_append]
    congr 1
    split
    · simp
    · rename_i h; simp; omega
theorem dis_sum (B : List Nat) : ∀ m i v, (dis B m)[i]? = some v → cLt B v = (((dis B m).take i).map (cEq B)).sum
  | 0, i, v, h => by simp [dis_0] at h
  | m + 1, i, v, h => by
    rw [dis_succ] at h ⊢
    by_cases hi : i < (dis B m).length
    · rw [List.getElem?_append_left hi] at h
      rw [List.take_append_of_le_length (Nat.le_of_lt hi)]
      exact dis_sum B m i v h
    · rw [List.getElem?_append_right (by omega)] at h
      split at h
      · have h1 := (List.getElem?_eq_some_iff.mp h).1
        simp only [List.length_cons, List.length_nil] at h1
        have h2 : i = (dis B m).length := by omega
        rw [h2, Nat.sub_self] at h
        cases h
        rw [h2, List.take_left]
        exact dis_all B m
      · simp at h
end MOD
