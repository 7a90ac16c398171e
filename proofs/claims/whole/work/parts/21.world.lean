/-! WORLDS: a level's three cells; rooms by depth. -/
section WLD
abbrev tyL (cI cJ cS cO : ClassId) : List (ClassId × FieldType) := [(cI, .int), (cJ, .long), (cS, .short), (cO, .object "LevelRows$Level")]
abbrev rmK (k mc ms : Nat) : Room := { frames := k, cells := mc, slots := ms, locals := 40 * k }
abbrev Lw (cJ cS : ClassId) (a0 a1 a2 : Nat) (ja : Nat → Int64) (oa : Nat → Int32) (z : Int32) : va_W := [(a0, .inr (0, [.ref a1, .ref a2, .int z])), (a1, .inl (cJ, 16, .inr (.inl ja))), (a2, .inl (cS, 16, .inl oa))]
theorem uN64_lN {n : Nat} (h : n < 2 ^ 64) : uN64 (lN n) = n := wb_tn h
theorem uN64_of (x : Int64) : x = lN (uN64 x) ∧ uN64 x < 2 ^ 64 := ⟨wb_inj (by rw [wb_tb]; simp [uN64]), x.toBitVec.isLt⟩
theorem ush64 (x : Int64) {k : Nat} (hk : k < 64) : (x.toUInt64 >>> ((nI k).toInt64.toUInt64 &&& Int64.toUInt64 63)).toInt64 = lN (uN64 x / 2 ^ k) := by
  obtain ⟨h1, h2⟩ := uN64_of x
  conv => lhs; rw [h1]
  exact wb_shr h2 hk
theorem shl64 (x : Int64) {k : Nat} (hk : k < 64) : x <<< ((nI k).toInt64 &&& 63) = lN (uN64 x * 2 ^ k) := by
  obtain ⟨h1, h2⟩ := uN64_of x
  conv => lhs; rw [h1]
  exact wb_shl _ hk
theorem LvOk.sum {t : Nat → Bool} {L : List Nat} {ja : Nat → Int64} {oa : Nat → Int32} {z : Int32} (h : LvOk t L ja oa z) {i : Nat} (h0 : i < L.length) : oa (i / 64) + nI (pcl (uN64 (ja (i / 64)) * 2 ^ (63 - i % 64) % 2 ^ 64) 64) = nI (z1 t L (i + 1)) := by
  obtain ⟨h1, h2⟩ := h.ones h0
  have h3 := pcl_shl (uN64 (ja (i / 64))) (63 - i % 64) (i % 64 + 1)
  rw [show 63 - i % 64 + (i % 64 + 1) = 64 by omega] at h3
  rw [h1, h2, pcl_mod, h3, nI_add]
/-- one cell of a world was written by a callee -/
theorem va_P.wset {D : va_G} {cl : List vw_C} {A : Nat → Prop} {p : Nat} {ws : va_W} {a : Nat} {e0 e : va_E} {H H1 : Heap} (h : va_P D cl ws H) (hD : va_D A ws) (hp : ws[p]? = some (a, e0)) (he : va_P D cl [(a, e)] H1) (hf : fr (fun q => q = a) H H1) : va_P D cl (ws.set p (a, e)) H1 := by
  have hl := (List.getElem?_eq_some_iff.mp hp).1
  intro k q hk
  by_cases hkp : k = p
  · subst hkp
    rw [List.getElem?_set_self hl] at hk
    cases hk
    exact he 0 _ rfl
  · rw [List.getElem?_set_ne (Ne.symm hkp)] at hk
    exact (h k q hk).kept (hf.2 q.1 (h k q hk).lt (fun z => hkp (hD.1 k p q (a, e0) hk hp z)))
/-- cells that nobody writes -/
theorem va_P.rd {D : va_G} {cl : List vw_C} {A : Nat → Prop} {ws : va_W} {H0 H : Heap} {locs : List Loc} (h : va_P D cl ws H0) (hS : va_S A H0 H locs) (hd : ∀ (k : Nat) (q : Nat × va_E), ws[k]? = some q → ¬ A q.1) : va_P D cl ws H := fun k q hk => (h k q hk).kept (hS.2.1 q.1 (h k q hk).lt (hd k q hk))
theorem va_D.one {A : Nat → Prop} {a : Nat} {e : va_E} (h : A a) : va_D A [(a, e)] := by
  refine ⟨fun i j p q hi hj _ => ?_, fun k q hk => ?_⟩
  · have h1 := (List.getElem?_eq_some_iff.mp hi).1
    have h2 := (List.getElem?_eq_some_iff.mp hj).1
    simp only [List.length_cons, List.length_nil] at h1 h2
    omega
  · have h1 := (List.getElem?_eq_some_iff.mp hk).1
    simp only [List.length_cons, List.length_nil] at h1
    have h2 : k = 0 := by omega
    subst h2
    cases hk
    exact h
theorem Lw.off {cJ cS : ClassId} {a0 a1 a2 b : Nat} {ja : Nat → Int64} {oa : Nat → Int32} {z : Int32} (h0 : a0 ≠ b) (h1 : a1 ≠ b) (h2 : a2 ≠ b) (k : Nat) (q : Nat × va_E) (hk : (Lw cJ cS a0 a1 a2 ja oa z)[k]? = some q) : ¬ q.1 = b := by
  match k, hk with
  | 0, hk => cases hk; exact h0
  | 1, hk => cases hk; exact h1
  | 2, hk => cases hk; exact h2
  | k + 3, hk => simp at hk
def bn (b : Bool) : Nat := if b then 1 else 0
end WLD
section WLP
abbrev Pw (ap : Nat) (f t zf zt nf nt : Int32) : va_W := [(ap, .inr (1, [.int f, .int t, .int zf, .int zt, .int nf, .int nt]))]
theorem fr.trans {A B : Nat → Prop} {H0 H1 H2 : Heap} (h : fr A H0 H1) (h' : fr B H1 H2) (hB : ∀ q, B q → A q) : fr A H0 H2 :=
  ⟨Nat.le_trans h.1 h'.1, fun q hq hn => by rw [h'.2 q (Nat.lt_of_lt_of_le hq h.1) (fun z => hn (hB q z))]; exact h.2 q hq hn⟩
theorem va_P.fr {D : va_G} {cl : List vw_C} {A : Nat → Prop} {ws : va_W} {H0 H : Heap} (h : va_P D cl ws H0) (hS : fr A H0 H) (hd : ∀ (k : Nat) (q : Nat × va_E), ws[k]? = some q → ¬ A q.1) : va_P D cl ws H := fun k q hk => (h k q hk).kept (hS.2 q.1 (h k q hk).lt (hd k q hk))
end WLP
