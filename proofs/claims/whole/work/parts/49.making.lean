/-! MAKING a row: the depth, addresses that grow, an array of references by its contents. -/
section MKR
theorem arrV_congr {c : ClassId} {N : Nat} {f g : Nat → Value} (h : ∀ j, j < N → f j = g j) : arrV c N f = arrV c N g := by
  unfold arrV
  congr 2
  funext j
  exact h j.val j.isLt
theorem va_P.objs {D : va_G} {cl : List vw_C} {a N : Nat} {cA : ClassId} {f g : Nat → Option Nat} {H : Heap} (h : va_P D cl [(a, .inl (cA, N, .inr (.inr (.inr (.inr f)))))] H) (e : ∀ j, j < N → f j = g j) : va_P D cl [(a, .inl (cA, N, .inr (.inr (.inr (.inr g)))))] H := by
  intro k q hk
  match k, hk with
  | 0, hk =>
    cases hk
    have h1 : H[a]? = some (vp_cell cA (N, .inr (.inr (.inr (.inr f))))) := h 0 _ rfl
    show H[a]? = some (vp_cell cA (N, .inr (.inr (.inr (.inr g)))))
    rw [h1, vp_cell_q, vp_cell_q]
    exact congrArg some (arrV_congr (fun j hj => by rw [e j hj]))
  | k + 1, hk => simp at hk
theorem bl_ex {u : Nat} : ∀ k, u < 2 ^ k → ∃ d, d ≤ k ∧ u < 2 ^ d ∧ ∀ e, e < d → 2 ^ e ≤ u
  | 0 => fun h => ⟨0, Nat.le_refl _, h, fun e he => absurd he (Nat.not_lt_zero e)⟩
  | k + 1 => fun h => by
    rcases Nat.lt_or_ge u (2 ^ k) with h1 | h1
    · obtain ⟨d, h2, h3⟩ := bl_ex k h1
      exact ⟨d, by omega, h3⟩
    · exact ⟨k + 1, Nat.le_refl _, h, fun e he => Nat.le_trans (Nat.pow_le_pow_right (by omega) (by omega)) h1⟩
def sgOf (x : Int32) : Nat := if x < 1 then 1 else if 65536 < x then 65536 else cn x
theorem sgOf_b (x : Int32) : 1 ≤ sgOf x ∧ sgOf x ≤ 65536 := by
  unfold sgOf
  split
  · omega
  · split
    · omega
    · rename_i h1 h2
      have h3 : ¬ x < 0 := fun z => h1 (Int32.lt_trans z (by decide))
      obtain ⟨j, hj, rfl⟩ := nI_of h3
      simp only [cn]
      rw [nI_clamp hj]
      refine ⟨?_, (nI_leI hj (by decide)).mp (Int32.not_lt.mp h2)⟩
      exact (nI_leI (by decide) hj).mp (Int32.not_lt.mp h1)
theorem sgOf_R (x : Int32) : (if (1 : Int32) < (if x < 65536 then x else 65536) then (if x < 65536 then x else 65536) else 1) = nI (sgOf x) := by
  unfold sgOf
  by_cases h1 : x < 1
  · rw [if_pos h1, if_pos (Int32.lt_trans h1 (by decide)), if_neg (fun z => absurd (Int32.lt_trans z h1) (by decide))]
    rfl
  · rw [if_neg h1]
    by_cases h2 : 65536 < x
    · rw [if_pos h2, if_neg (fun z => Int32.lt_irrefl (Int32.lt_trans z h2)), if_pos (by decide)]
      rfl
    · rw [if_neg h2]
      obtain ⟨j, hj, rfl⟩ := nI_of (fun z => h1 (Int32.lt_trans z (by decide)) : ¬ x < 0)
      simp only [cn]
      rw [nI_clamp hj]
      have h3 : j ≤ 65536 := (nI_leI hj (by decide)).mp (Int32.not_lt.mp h2)
      have h4 : 1 ≤ j := (nI_leI (by decide) hj).mp (Int32.not_lt.mp h1)
      have h5 : (if nI j < 65536 then nI j else 65536) = nI j := by
        rcases Nat.lt_or_ge j 65536 with h | h
        · exact if_pos (show nI j < nI 65536 from nI_lt h (by decide))
        · have : j = 65536 := by omega
          subst this
          exact if_neg (by decide)
      rw [h5]
      exact max1 h4 hj
def ext (y : Nat → Nat) (i b0 b1 b2 : Nat) : Nat → Nat := fun j => if j = 8 + 3 * i then b0 else if j = 9 + 3 * i then b1 else if j = 10 + 3 * i then b2 else y j
theorem ext_lt {y : Nat → Nat} {i b0 b1 b2 j : Nat} (h : j < 8 + 3 * i) : ext y i b0 b1 b2 j = y j := by
  unfold ext
  rw [if_neg (by omega), if_neg (by omega), if_neg (by omega)]
theorem ext_0 {y : Nat → Nat} {i b0 b1 b2 : Nat} : ext y i b0 b1 b2 (8 + 3 * i) = b0 := if_pos rfl
theorem ext_1 {y : Nat → Nat} {i b0 b1 b2 : Nat} : ext y i b0 b1 b2 (9 + 3 * i) = b1 := by unfold ext; rw [if_neg (by omega), if_pos rfl]
theorem ext_2 {y : Nat → Nat} {i b0 b1 b2 : Nat} : ext y i b0 b1 b2 (10 + 3 * i) = b2 := by unfold ext; rw [if_neg (by omega), if_neg (by omega), if_pos rfl]
theorem ext_inj {y : Nat → Nat} {i b0 b1 b2 z : Nat} (h : ∀ a b, a < 8 + 3 * i → b < 8 + 3 * i → y a = y b → a = b) (hz : ∀ j, j < 8 + 3 * i → y j < z) (h0 : z ≤ b0) (h1 : z ≤ b1) (h2 : z ≤ b2) (h01 : b0 ≠ b1) (h02 : b0 ≠ b2) (h12 : b1 ≠ b2) :
    ∀ a b, a < 8 + 3 * (i + 1) → b < 8 + 3 * (i + 1) → ext y i b0 b1 b2 a = ext y i b0 b1 b2 b → a = b := by
  have key : ∀ a, a < 8 + 3 * (i + 1) → (a < 8 + 3 * i ∧ ext y i b0 b1 b2 a = y a) ∨ (a = 8 + 3 * i ∧ ext y i b0 b1 b2 a = b0) ∨ (a = 9 + 3 * i ∧ ext y i b0 b1 b2 a = b1) ∨ (a = 10 + 3 * i ∧ ext y i b0 b1 b2 a = b2) := by
    intro a ha
    rcases Nat.lt_or_ge a (8 + 3 * i) with g | g
    · exact Or.inl ⟨g, ext_lt g⟩
    · rcases (show a = 8 + 3 * i ∨ a = 9 + 3 * i ∨ a = 10 + 3 * i by omega) with rfl | rfl | rfl
      · exact Or.inr (Or.inl ⟨rfl, ext_0⟩)
      · exact Or.inr (Or.inr (Or.inl ⟨rfl, ext_1⟩))
      · exact Or.inr (Or.inr (Or.inr ⟨rfl, ext_2⟩))
  intro a b ha hb e
  rcases key a ha with ⟨a1, a2⟩ | ⟨a1, a2⟩ | ⟨a1, a2⟩ | ⟨a1, a2⟩ <;> rcases key b hb with ⟨c1, c2⟩ | ⟨c1, c2⟩ | ⟨c1, c2⟩ | ⟨c1, c2⟩ <;> rw [a2, c2] at e
  · exact h a b a1 c1 e
  · have := hz a a1; omega
  · have := hz a a1; omega
  · have := hz a a1; omega
  · have := hz b c1; omega
  · omega
  · exact absurd e h01
  · exact absurd e h02
  · have := hz b c1; omega
  · exact absurd e.symm h01
  · omega
  · exact absurd e h12
  · have := hz b c1; omega
  · exact absurd e.symm h02
  · exact absurd e.symm h12
  · omega
def gy (a0 a1 a2 a3 a4 a5 a6 a7 : Nat) : Nat → Nat := fun j => match j with
  | 0 => a0
  | 1 => a1
  | 2 => a2
  | 3 => a3
  | 4 => a4
  | 5 => a5
  | 6 => a6
  | _ => a7
theorem LvOk.nil {t : Nat → Bool} {L : List Nat} (h : L.length = 0) : LvOk t L (fun _ => 0) (fun _ => 0) 0 := by
  have h1 : L = [] := List.length_eq_zero_iff.mp h
  subst h1
  exact ⟨fun i x hx => by simp at hx, fun w hw => absurd hw (Nat.not_lt_zero _), rfl⟩
section CON
variable {p : Program} {l : Launch} {e : Env} {R : Room} {s : State} {m : MethodId} {args : Array Value} {below : List Frame} {meth : Method} {c : Code} {H : Heap} {locs : List Loc} {cells slots : Nat} {Q : State → Prop} {g : JFrame}
/-- what was written to new cells need not be kept in mind -/
theorem ct_only {a0 : Nat} (h : ∀ z ∈ locs, z.base = a0 ∨ s.heap.size ≤ z.base) (kk : ∀ locs' : List Loc, (∀ z ∈ locs', z.base = a0) → W p l e R s m args below meth c H locs' cells slots Q g) : W p l e R s m args below meth c H locs cells slots Q g := by
  intro T hT X
  refine kk (locs.filter (fun z => z.base == a0)) (fun z hz => by have := (List.mem_filter.mp hz).2; rwa [beq_iff_eq] at this) T hT { X with same := X.same.weaken (fun y hy hlt => ?_) (Nat.le_refl _) (Nat.le_refl _) }
  rcases h y hy with h1 | h1
  · exact List.mem_filter.mpr ⟨hy, by rw [beq_iff_eq]; exact h1⟩
  · exact absurd hlt (Nat.not_lt.mpr h1)
end CON
end MKR
