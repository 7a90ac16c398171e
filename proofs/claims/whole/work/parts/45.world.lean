/-! What a row is again behind a listing, a building. -/
section LRB
theorem lrx_list {D : va_G} {cI cJ cS cO : ClassId} {y : Nat → Nat} {sg d B0 : Nat} {xs ws : List Nat} {H0 H1 : Heap} (hy : yI B0 y d) (h : LRx D cI cJ cS cO y sg d xs ws H0) (hf : fr (fun q => q = y 3 ∨ q = y 4 ∨ q = y 5) H0 H1) (hp : PP D (y 3) H1) (hl : ∃ lf tf, va_P D vwCl [(y 4, .inl (cI, 1000, .inl lf)), (y 5, .inl (cI, 1000, .inl tf))] H1) : LRx D cI cJ cS cO y sg d xs ws H1 := by
  obtain ⟨h1, -, -, ⟨g, h4⟩, rf, sf, h5, h6⟩ := h
  have hn : ∀ i, i < 8 + 3 * d → i ≠ 3 → i ≠ 4 → i ≠ 5 → ¬ (y i = y 3 ∨ y i = y 4 ∨ y i = y 5) := by
    rintro i h h3 h4 h5 (e | e | e)
    · exact hy.ne h (by omega) h3 e
    · exact hy.ne h (by omega) h4 e
    · exact hy.ne h (by omega) h5 e
  exact ⟨rl_kept h1 hf (hn 0 (by omega) (by omega) (by omega) (by omega)) (hn 7 (by omega) (by omega) (by omega) (by omega)) (fun i h8 h => hn i h (by omega) (by omega) (by omega)), hp, hl, ⟨g, h4.fr hf (va_P.off1 (b := 0) (A := fun q => q = y 3 ∨ q = y 4 ∨ q = y 5) (hn 6 (by omega) (by omega) (by omega) (by omega)))⟩, rf, sf, h5, h6.fr hf (va_P.off2 (A := fun q => q = y 3 ∨ q = y 4 ∨ q = y 5) (hn 1 (by omega) (by omega) (by omega) (by omega)) (hn 2 (by omega) (by omega) (by omega) (by omega)))⟩
theorem lrx_q {D : va_G} {cI cJ cS cO : ClassId} {y : Nat → Nat} {sg d B0 : Nat} {xs ws : List Nat} {H0 H1 : Heap} (hy : yI B0 y d) (h : LRx D cI cJ cS cO y sg d xs ws H0) (hf : fr (AQ y) H0 H1) (hp : PP D (y 3) H1) (hl : ∃ lf tf, va_P D vwCl [(y 4, .inl (cI, 1000, .inl lf)), (y 5, .inl (cI, 1000, .inl tf))] H1) (hg : ∃ g, va_P D vwCl [(y 6, .inl (cI, 1001, .inl g))] H1) : LRx D cI cJ cS cO y sg d xs ws H1 := by
  obtain ⟨h1, -, -, -, rf, sf, h5, h6⟩ := h
  have hn : ∀ i, i < 8 + 3 * d → i ≠ 3 → i ≠ 4 → i ≠ 5 → i ≠ 6 → ¬ AQ y (y i) := by
    rintro i h h3 h4 h5 h6 (e | e | e | e)
    · exact hy.ne h (by omega) h3 e
    · exact hy.ne h (by omega) h4 e
    · exact hy.ne h (by omega) h5 e
    · exact hy.ne h (by omega) h6 e
  exact ⟨rl_kept h1 hf (hn 0 (by omega) (by omega) (by omega) (by omega) (by omega)) (hn 7 (by omega) (by omega) (by omega) (by omega) (by omega)) (fun i h8 h => hn i h (by omega) (by omega) (by omega) (by omega)), hp, hl, hg, rf, sf, h5, h6.fr hf (va_P.off2 (A := AQ y) (hn 1 (by omega) (by omega) (by omega) (by omega) (by omega)) (hn 2 (by omega) (by omega) (by omega) (by omega) (by omega)))⟩
theorem va_S.mono {A B : Nat → Prop} {H0 H : Heap} {locs : List Loc} (h : va_S A H0 H locs) (hAB : ∀ q, A q → B q) : va_S B H0 H locs := ⟨h.1, fun q h1 h2 => h.2.1 q h1 (fun z => h2 (hAB q z)), fun z hz => hAB _ (h.2.2 z hz)⟩
def aCnt (sg d n w : Nat) (x : Int32) : Int32 := if x = 0 then nI n else if x = 1 then nI w else if x = 2 then nI d else nI sg
theorem isCnt {x : Int32} (h : ¬ x < 0 ∧ x ≤ 3) : x = 0 ∨ x = 1 ∨ x = 2 ∨ x = 3 := by
  obtain ⟨j, hj, rfl⟩ := nI_of h.1
  have h2 : j ≤ 3 := (nI_leI hj (by decide)).mp (show nI j ≤ nI 3 from h.2)
  rcases (show j = 0 ∨ j = 1 ∨ j = 2 ∨ j = 3 by omega) with rfl | rfl | rfl | rfl
  · exact Or.inl rfl
  · exact Or.inr (Or.inl rfl)
  · exact Or.inr (Or.inr (Or.inl rfl))
  · exact Or.inr (Or.inr (Or.inr rfl))
theorem notCnt {x : Int32} (h : ¬ (¬ x < 0 ∧ x ≤ 3)) : x.toInt < 0 ∨ 3 < x.toInt := by
  by_cases h0 : x < 0
  · exact Or.inl (by have := Int32.lt_iff_toInt_lt.mp h0; simpa using this)
  · refine Or.inr ?_
    have h1 : ¬ x ≤ 3 := fun z => h ⟨h0, z⟩
    have h2 := Int32.lt_iff_toInt_lt.mp (Int32.not_le.mp h1)
    simpa using h2
/-- the cells that building and clearing write -/
abbrev AB (y : Nat → Nat) (d : Nat) : Nat → Prop := fun q => q = y 0 ∨ q = y 1 ∨ q = y 2 ∨ ∃ i, 8 ≤ i ∧ i < 8 + 3 * d ∧ q = y i
abbrev AS (y : Nat → Nat) (d : Nat) : Nat → Prop := fun q => q = y 1 ∨ q = y 2 ∨ ∃ i, 8 ≤ i ∧ i < 8 + 3 * d ∧ q = y i
theorem AS.not {B0 : Nat} {y : Nat → Nat} {d i : Nat} (hy : yI B0 y d) (h : i < 8) (h1 : i ≠ 1) (h2 : i ≠ 2) : ¬ AS y d (y i) := by
  rintro (e | e | ⟨j, g1, g2, e⟩)
  · exact hy.ne (by omega) (by omega) h1 e
  · exact hy.ne (by omega) (by omega) h2 e
  · exact hy.ne (by omega) g2 (by omega) e
/-- a row, its object written to, its levels kept anew -/
theorem lrx_built {D : va_G} {cI cJ cS cO : ClassId} {y : Nat → Nat} {sg d B0 : Nat} {xs ws zs : List Nat} {H0 H1 H2 : Heap} {A : Nat → Prop} (hy : yI B0 y d) (h : LRx D cI cJ cS cO y sg d xs ws H0) (hf : fr A H0 H1) (hA : ∀ q, A q → q = y 0 ∨ q = y 1) (hf2 : fr (AS y d) H1 H2)
    (hR : va_P D vwCl (Rw cO y (nI sg) d (nI zs.length) 0) H1) (hL : ∀ k, k < d → Lk D cJ cS y d zs k H2) (hr : ∃ rf sf, va_P D vwCl [(y 1, .inl (cI, 1000, .inl rf)), (y 2, .inl (cI, 1000, .inl sf))] H2) : LRx D cI cJ cS cO y sg d zs [] H2 := by
  obtain ⟨-, ⟨f0, f1, f2, f3, f4, f5, h2⟩, ⟨lf, tf, h3⟩, ⟨g, h4⟩, -⟩ := h
  obtain ⟨rf, sf, h6⟩ := hr
  have hn : ∀ i, i < 8 → i ≠ 0 → i ≠ 1 → ¬ A (y i) := fun i h h0 h1 z => (hA _ z).elim (hy.ne (by omega) (by omega) h0) (hy.ne (by omega) (by omega) h1)
  refine ⟨⟨hR.fr hf2 (va_P.off2 (a := y 0) (b := y 7) (AS.not hy (by omega) (by omega) (by omega)) (AS.not hy (by omega) (by omega) (by omega))), hL⟩, ?_, ?_, ?_, rf, sf, fun i x h => by simp at h, h6⟩
  · exact ⟨f0, f1, f2, f3, f4, f5, (h2.fr hf (va_P.off1 (b := 0) (hn 3 (by omega) (by omega) (by omega)))).fr hf2 (va_P.off1 (b := 0) (AS.not hy (by omega) (by omega) (by omega)))⟩
  · exact ⟨lf, tf, (h3.fr hf (va_P.off2 (hn 4 (by omega) (by omega) (by omega)) (hn 5 (by omega) (by omega) (by omega)))).fr hf2 (va_P.off2 (AS.not hy (by omega) (by omega) (by omega)) (AS.not hy (by omega) (by omega) (by omega)))⟩
  · exact ⟨g, (h4.fr hf (va_P.off1 (b := 0) (hn 6 (by omega) (by omega) (by omega)))).fr hf2 (va_P.off1 (b := 0) (AS.not hy (by omega) (by omega) (by omega)))⟩
/-- the levels, where the object and its row alone were written -/
theorem lk_kept {D : va_G} {cJ cS cO : ClassId} {y : Nat → Nat} {sg d wa B0 : Nat} {xs : List Nat} {H0 H1 : Heap} {A : Nat → Prop} (hy : yI B0 y d) (h : RL D cJ cS cO y sg d xs wa H0) (hf : fr A H0 H1) (hA : ∀ q, A q → q = y 0 ∨ q = y 1) : ∀ k, k < d → Lk D cJ cS y d xs k H1 := by
  intro k hk
  obtain ⟨ja, oa, z, ok, hP⟩ := h.2 k hk
  refine ⟨ja, oa, z, ok, hP.fr hf (fun j q hj hA' => ?_)⟩
  rcases hA _ hA' with e | e
  · exact Lk.off hy hk (by omega) j q hj e
  · exact Lk.off hy hk (by omega) j q hj e
end LRB
