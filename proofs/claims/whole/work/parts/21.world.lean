/-! WORLDS: a level's three cells; rooms by depth. -/
section WLD
abbrev tyL (cI cJ cS cO : ClassId) : List (ClassId × FieldType) := [(cI, .int), (cJ, .long), (cS, .short), (cO, .object "LevelRows$Level")]
abbrev rmK (k mc ms : Nat) : Room := { frames := k, cells := mc, slots := ms, locals := 40 * k }
abbrev Lw (cJ cS : ClassId) (a0 a1 a2 : Nat) (ja : Nat → Int64) (oa : Nat → Int32) (z : Int32) : va_W := [(a0, .inr (0, [.ref a1, .ref a2, .int z])), (a1, .inl (cJ, 16, .inr (.inl ja))), (a2, .inl (cS, 16, .inl oa))]
theorem uN64_lN {n : Nat} (h : n < 2 ^ 64) : uN64 (lN n) = n := wb_tn h
theorem uN64_of (x : Int64) : x = lN (uN64 x) ∧ uN64 x < 2 ^ 64 := ⟨wb_inj (by rw [wb_tb]; simp [uN64]), x.toBitVec.isLt⟩
theorem ush64 (x : Int64) {k : Nat} (hk : k < 64) : (x.toUInt64 >>> ((nI k).toInt64.toUInt64 &&& Int64.toUInt64 63)).toInt64 = lN (uN64 x / 2 ^ k) := by
  obtain ⟨h1, h2⟩ := uN64_of x
  conv => lhs; rw [h1]
  exact wb_shr h2 hk
theorem shl64 (x : Int64) {k : Nat} (hk : k < 64) : x <<< ((nI k).toInt64 &&& 63) = lN (uN64 x * 2 ^ k) := by
  obtain ⟨h1, h2⟩ := uN64_of x
  conv => lhs; rw [h1]
  exact wb_shl _ hk
end WLD
