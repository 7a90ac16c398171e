/-! THE CELLS OF A LevelRows: y 0 the object, y 1 row, y 2 spare, y 3 part, y 4 listed, y 5 listedTimes, y 6 ahead, y 7 levels, from y 8 on three cells a level. -/
section LRW
def yI (B0 : Nat) (y : Nat → Nat) (d : Nat) : Prop := (∀ i j, i < 8 + 3 * d → j < 8 + 3 * d → y i = y j → i = j) ∧ ∀ i, i < 8 + 3 * d → B0 ≤ y i
abbrev Rw (cO : ClassId) (y : Nat → Nat) (sg : Int32) (d : Nat) (bu wa : Int32) : va_W := [(y 0, .inr (2, [.int sg, .ref (y 7), .int bu, .int wa, .ref (y 1), .ref (y 2), .ref (y 3), .ref (y 4), .ref (y 5), .ref (y 6)])), (y 7, .inl (cO, d, .inr (.inr (.inr (.inr (fun i => some (y (8 + 3 * i))))))))]
def Lk (D : va_G) (cJ cS : ClassId) (y : Nat → Nat) (d : Nat) (xs : List Nat) (k : Nat) (H : Heap) : Prop := ∃ ja oa z, LvOk (wt d k) (wL d xs k) ja oa z ∧ va_P D vwCl (Lw cJ cS (y (8 + 3 * k)) (y (9 + 3 * k)) (y (10 + 3 * k)) ja oa z) H
def RL (D : va_G) (cJ cS cO : ClassId) (y : Nat → Nat) (sg d : Nat) (xs : List Nat) (wa : Nat) (H : Heap) : Prop := va_P D vwCl (Rw cO y (nI sg) d (nI xs.length) (nI wa)) H ∧ ∀ k, k < d → Lk D cJ cS y d xs k H
def PP (D : va_G) (a : Nat) (H : Heap) : Prop := ∃ f0 f1 f2 f3 f4 f5, va_P D vwCl (Pw a f0 f1 f2 f3 f4 f5) H
/-- what a row is -/
def Ok (sg d : Nat) (xs ws : List Nat) : Prop := 1 ≤ sg ∧ sg ≤ 65536 ∧ sg ≤ 2 ^ d ∧ (∀ e, e < d → 2 ^ e ≤ sg - 1) ∧ d ≤ 16 ∧ xs.length + ws.length ≤ 1000 ∧ (∀ x ∈ xs, x < sg) ∧ ∀ x ∈ ws, x < sg
theorem va_D.ones {A : Nat → Prop} {y : Nat → Nat} {B0 d : Nat} (hy : yI B0 y d) (ws : va_W) (f : Nat → Nat) (hf : ∀ (k : Nat) (q : Nat × va_E), ws[k]? = some q → q.1 = y (f k) ∧ f k < 8 + 3 * d) (hi : ∀ i j, i < ws.length → j < ws.length → f i = f j → i = j) (hA : ∀ (k : Nat) (q : Nat × va_E), ws[k]? = some q → A q.1) : va_D A ws := by
  refine ⟨fun i j p q h1 h2 h3 => ?_, hA⟩
  have e1 := hf i p h1
  have e2 := hf j q h2
  rw [e1.1, e2.1] at h3
  exact hi i j (List.getElem?_eq_some_iff.mp h1).1 (List.getElem?_eq_some_iff.mp h2).1 (hy.1 _ _ e1.2 e2.2 h3)
theorem yI.ne {B0 : Nat} {y : Nat → Nat} {d i j : Nat} (hy : yI B0 y d) (hi : i < 8 + 3 * d) (hj : j < 8 + 3 * d) (h : i ≠ j) : y i ≠ y j := fun e => h (hy.1 i j hi hj e)
theorem Rw.off {cO : ClassId} {y : Nat → Nat} {sg bu wa : Int32} {d B0 : Nat} (hy : yI B0 y d) {i : Nat} (h1 : 1 ≤ i) (h2 : i ≤ 6) (k : Nat) (q : Nat × va_E) (hk : (Rw cO y sg d bu wa)[k]? = some q) : ¬ q.1 = y i := by
  match k, hk with
  | 0, hk => cases hk; exact hy.ne (by omega) (by omega) (by omega)
  | 1, hk => cases hk; exact hy.ne (by omega) (by omega) (by omega)
  | k + 2, hk => simp at hk
theorem Lk.off {cJ cS : ClassId} {y : Nat → Nat} {d B0 : Nat} {ja : Nat → Int64} {oa : Nat → Int32} {z : Int32} (hy : yI B0 y d) {i j : Nat} (hj : j < d) (hi : i < 8) (k : Nat) (q : Nat × va_E) (hk : (Lw cJ cS (y (8 + 3 * j)) (y (9 + 3 * j)) (y (10 + 3 * j)) ja oa z)[k]? = some q) : ¬ q.1 = y i :=
  Lw.off (hy.ne (by omega) (by omega) (by omega)) (hy.ne (by omega) (by omega) (by omega)) (hy.ne (by omega) (by omega) (by omega)) k q hk
theorem RL.fr {D : va_G} {cJ cS cO : ClassId} {y : Nat → Nat} {sg d wa B0 : Nat} {xs : List Nat} {H0 H1 : Heap} {A : Nat → Prop} (hy : yI B0 y d) (h : RL D cJ cS cO y sg d xs wa H0) (hf : fr A H0 H1) (hA : ∀ q, q < H0.size → A q → ∃ i, 1 ≤ i ∧ i ≤ 6 ∧ q = y i) : RL D cJ cS cO y sg d xs wa H1 := by
  refine ⟨fun k q hk => ?_, fun k hk => ?_⟩
  · refine (h.1 k q hk).kept (hf.2 q.1 (h.1 k q hk).lt (fun ha => ?_))
    obtain ⟨i, h1, h2, h3⟩ := hA _ (h.1 k q hk).lt ha
    exact Rw.off hy h1 h2 k q hk h3
  · obtain ⟨ja, oa, z, ok, hP⟩ := h.2 k hk
    refine ⟨ja, oa, z, ok, fun k' q hk' => ?_⟩
    refine (hP k' q hk').kept (hf.2 q.1 (hP k' q hk').lt (fun ha => ?_))
    obtain ⟨i, h1, h2, h3⟩ := hA _ (hP k' q hk').lt ha
    exact Lk.off hy hk (by omega) k' q hk' h3
theorem nI_or1 {s b : Nat} (hs : s < 2 ^ 30) (hb : b < 2) : nI s <<< (1 &&& 31) ||| nI b = nI (2 * s + b) := by
  rw [pk_shlN (n := s) (1 &&& 31) 1 (by decide) (by omega)]
  apply Int32.toBitVec_inj.mp
  show BitVec.ofNat 32 _ ||| BitVec.ofNat 32 _ = BitVec.ofNat 32 _
  apply BitVec.eq_of_toNat_eq
  rw [BitVec.toNat_or, BitVec.toNat_ofNat, BitVec.toNat_ofNat, BitVec.toNat_ofNat, Nat.mod_eq_of_lt (by omega), Nat.mod_eq_of_lt (by omega), Nat.mod_eq_of_lt (by omega)]
  have h := Nat.two_pow_add_eq_or_of_lt (i := 1) (b := b) (by omega) s
  rw [show s * 2 ^ 1 = 2 ^ 1 * s by omega, ← h]
theorem bn_eq {b : Bool} : (if b then 1 else 0 : Nat) = bn b := rfl
end LRW
section LRX
theorem kth_ex {B : List Nat} {k : Nat} : ∀ M, k < cLt B M → ∃ r, r < M ∧ kth B k r
  | 0 => fun h => by rw [cLt_0] at h; exact absurd h (Nat.not_lt_zero k)
  | M + 1 => fun h => by
    rcases Nat.lt_or_ge k (cLt B M) with h1 | h1
    · obtain ⟨r, h2, h3⟩ := kth_ex M h1
      exact ⟨r, by omega, h3⟩
    · exact ⟨M, by omega, h1, h⟩
theorem Ok.lt {sg d : Nat} {xs ws : List Nat} (h : Ok sg d xs ws) : ∀ x ∈ xs, x < 2 ^ d := fun x hx => Nat.lt_of_lt_of_le (h.2.2.2.2.2.2.1 x hx) h.2.2.1
theorem Ok.d16 {sg d : Nat} {xs ws : List Nat} (h : Ok sg d xs ws) : d ≤ 16 := h.2.2.2.2.1
theorem Ok.p16 {sg d : Nat} {xs ws : List Nat} (h : Ok sg d xs ws) : 2 ^ d ≤ 65536 := Nat.pow_le_pow_right (n := 2) (by omega) h.d16
theorem Ok.len {sg d : Nat} {xs ws : List Nat} (h : Ok sg d xs ws) : xs.length ≤ 1000 := by have := h.2.2.2.2.2.1; omega
theorem kth.of_pre {d k pp lf : Nat} {B : List Nat} (h1 : k = wlt d d pp B + lf) (h2 : lf < (wpre d d pp B).length) : kth B k pp := by
  rw [wlt_d] at h1
  rw [wpre_d] at h2
  have h3 := cLt_succ B pp
  refine ⟨?_, ?_⟩
  · show (B.filter (fun x => decide (x < pp))).length ≤ k
    omega
  · rw [h3]
    show k < (B.filter (fun x => decide (x < pp))).length + (B.filter (fun x => x == pp)).length
    omega
end LRX
