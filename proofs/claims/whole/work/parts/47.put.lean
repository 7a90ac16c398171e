/-! What put reads out of its five numbers. -/
section PUT
def pv (p0 p1 p2 p3 p4 : Int32) (j : Nat) : Int32 := match j with
  | 0 => p0
  | 1 => p1
  | 2 => p2
  | 3 => p3
  | _ => p4
def gv (p0 p1 p2 p3 p4 : Int32) (i : Nat) : Nat := if i % 2 = 0 then (pv p0 p1 p2 p3 p4 (i / 2)).toBitVec.toNat / 65536 else (pv p0 p1 p2 p3 p4 (i / 2)).toBitVec.toNat % 65536
theorem gv_lt (p0 p1 p2 p3 p4 : Int32) (i : Nat) : gv p0 p1 p2 p3 p4 i < 65536 := by
  unfold gv
  have h := (pv p0 p1 p2 p3 p4 (i / 2)).toBitVec.isLt
  split <;> omega
theorem i32_of (x : Int32) : x = nI x.toBitVec.toNat := Int32.toBitVec_inj.mp (by show _ = BitVec.ofNat 32 _; simp)
theorem hi16 (x : Int32) : (x.toUInt32 >>> (Int32.toUInt32 16 &&& Int32.toUInt32 31)).toInt32 = nI (x.toBitVec.toNat / 65536) := by
  rw [i32_of (x.toUInt32 >>> (Int32.toUInt32 16 &&& Int32.toUInt32 31)).toInt32, pk_ushr x 16 16 (by decide)]
theorem lo16 (x : Int32) : x &&& 65535 = nI (x.toBitVec.toNat % 65536) := pk_and x (m := 65535) 16 (by decide)
theorem min10 {N : Nat} (h : N < 2 ^ 31) : (if (10 : Int32) < nI N then 10 else nI N) = nI (min N 10) := by
  rcases Nat.lt_or_ge 10 N with h1 | h1
  · rw [Nat.min_eq_right (by omega)]
    exact if_pos (show nI 10 < nI N from nI_lt h1 h)
  · rw [Nat.min_eq_left h1]
    exact if_neg (show ¬ nI 10 < nI N from nI_nlt h1 (by omega))
def symsOk (sg : Nat) (p0 p1 p2 p3 p4 n : Int32) : Prop := ∀ i, i < min (cn n) 10 → gv p0 p1 p2 p3 p4 i < sg
def rngOk (n : Int32) : Prop := ¬ n < 1 ∧ ¬ 10 < n
def pxP (a b c : Prop) : String → Heap → Heap → Prop := fun E H0 H1 => ((E = e_I ∧ ¬ a) ∨ (E = e_A ∧ a ∧ ¬ b) ∨ (E = e_U ∧ a ∧ b ∧ ¬ c)) ∧ fr (fun _ => False) H0 H1
abbrev gvs (p0 p1 p2 p3 p4 n : Int32) : List Nat := (List.range (cn n)).map (gv p0 p1 p2 p3 p4)
theorem lrx_put {D : va_G} {cI cJ cS cO : ClassId} {y : Nat → Nat} {sg d B0 : Nat} {xs ws zs : List Nat} {H0 H1 : Heap} {rf : Nat → Int32} (hy : yI B0 y d) (h : LRx D cI cJ cS cO y sg d xs ws H0) (hf : fr (fun q => q = y 0 ∨ q = y 1) H0 H1)
    (hP : va_P D vwCl [(y 0, .inr (2, [.int (nI sg), .ref (y 7), .int (nI xs.length), .int (nI zs.length), .ref (y 1), .ref (y 2), .ref (y 3), .ref (y 4), .ref (y 5), .ref (y 6)])), (y 1, .inl (cI, 1000, .inl rf))] H1) (hr : ∀ i x, zs[i]? = some x → rf (xs.length + i) = nI x) : LRx D cI cJ cS cO y sg d xs zs H1 := by
  obtain ⟨h1, ⟨f0, f1, f2, f3, f4, f5, h2⟩, ⟨lf, tf, h3⟩, ⟨g, h4⟩, rf0, sf, h5, h6⟩ := h
  have hn : ∀ i, i < 8 + 3 * d → i ≠ 0 → i ≠ 1 → ¬ (y i = y 0 ∨ y i = y 1) := fun i h h0 h1 z => z.elim (hy.ne h (by omega) h0) (hy.ne h (by omega) h1)
  have hR7 : va_P D vwCl [(y 7, .inl (cO, d, .inr (.inr (.inr (.inr (fun i => some (y (8 + 3 * i))))))))] H1 := (h1.1.sub [1] rfl).fr hf (va_P.off1 (b := 0) (A := fun q => q = y 0 ∨ q = y 1) (hn 7 (by omega) (by omega) (by omega)))
  refine ⟨⟨(hP.sub [0] rfl).app hR7, lk_kept hy h1 hf (fun q h => h)⟩, ?_, ?_, ?_, rf, sf, hr, (hP.sub [1] rfl).app ((h6.sub [1] rfl).fr hf (va_P.off1 (b := 0) (A := fun q => q = y 0 ∨ q = y 1) (hn 2 (by omega) (by omega) (by omega))))⟩
  · exact ⟨f0, f1, f2, f3, f4, f5, h2.fr hf (va_P.off1 (b := 0) (A := fun q => q = y 0 ∨ q = y 1) (hn 3 (by omega) (by omega) (by omega)))⟩
  · exact ⟨lf, tf, h3.fr hf (va_P.off2 (A := fun q => q = y 0 ∨ q = y 1) (hn 4 (by omega) (by omega) (by omega)) (hn 5 (by omega) (by omega) (by omega)))⟩
  · exact ⟨g, h4.fr hf (va_P.off1 (b := 0) (A := fun q => q = y 0 ∨ q = y 1) (hn 6 (by omega) (by omega) (by omega)))⟩
end PUT
