/-! THROWING out of LevelRows, and what a row is when nobody works at it. -/
section THR
abbrev nmX : List String := ["java/lang/RuntimeException", "java/lang/Exception"]
abbrev e_I : String := "java/lang/IndexOutOfBoundsException"
theorem tb_I : ∀ w ∈ (vx_atS "LevelRows" 95 e_I nmX).filter goodWord, w ∈ lw_tbl := by decide +kernel
theorem nb_I : ∀ w ∈ (vx_atS "LevelRows" 95 e_I nmX).filter (fun w => !goodWord w), w ∈ lw_tbl ∧ nword w = true ∧ w.onTables = true := by decide +kernel
theorem ot_I : ∀ w ∈ Cond.classLink "LevelRows" 91 e_I :: Cond.initialized e_I :: vx_atS "LevelRows" 95 e_I nmX, vx_ot w = true := by decide +kernel
theorem at_I {args : Array Value} {s : State} (hts : ∀ w ∈ lw_ok, w.before args s = true) (hnw : ∀ w ∈ lw_nw, va_Nw w s) : ∀ w ∈ vx_atS "LevelRows" 95 e_I nmX, w.before args s = true := vx_hat (fun w hw => hts w (gd_in (tb_I w hw) (List.mem_filter.mp hw).2)) (fun w hw => hw) (fun w hw => va_Nw.use (nb_I w hw).2.2 (hnw _ (nw_in (nb_I w hw).1 (nb_I w hw).2.1)))
abbrev e_A : String := "java/lang/IllegalArgumentException"
theorem tb_A : ∀ w ∈ (vx_atS "LevelRows" 71 e_A nmX).filter goodWord, w ∈ lw_tbl := by decide +kernel
theorem nb_A : ∀ w ∈ (vx_atS "LevelRows" 71 e_A nmX).filter (fun w => !goodWord w), w ∈ lw_tbl ∧ nword w = true ∧ w.onTables = true := by decide +kernel
theorem ot_A : ∀ w ∈ Cond.classLink "LevelRows" 67 e_A :: Cond.initialized e_A :: vx_atS "LevelRows" 71 e_A nmX, vx_ot w = true := by decide +kernel
theorem at_A {args : Array Value} {s : State} (hts : ∀ w ∈ lw_ok, w.before args s = true) (hnw : ∀ w ∈ lw_nw, va_Nw w s) : ∀ w ∈ vx_atS "LevelRows" 71 e_A nmX, w.before args s = true := vx_hat (fun w hw => hts w (gd_in (tb_A w hw) (List.mem_filter.mp hw).2)) (fun w hw => hw) (fun w hw => va_Nw.use (nb_A w hw).2.2 (hnw _ (nw_in (nb_A w hw).1 (nb_A w hw).2.1)))
abbrev e_U : String := "java/lang/UnsupportedOperationException"
theorem tb_U : ∀ w ∈ (vx_atS "LevelRows" 84 e_U nmX).filter goodWord, w ∈ lw_tbl := by decide +kernel
theorem nb_U : ∀ w ∈ (vx_atS "LevelRows" 84 e_U nmX).filter (fun w => !goodWord w), w ∈ lw_tbl ∧ nword w = true ∧ w.onTables = true := by decide +kernel
theorem ot_U : ∀ w ∈ Cond.classLink "LevelRows" 80 e_U :: Cond.initialized e_U :: vx_atS "LevelRows" 84 e_U nmX, vx_ot w = true := by decide +kernel
theorem at_U {args : Array Value} {s : State} (hts : ∀ w ∈ lw_ok, w.before args s = true) (hnw : ∀ w ∈ lw_nw, va_Nw w s) : ∀ w ∈ vx_atS "LevelRows" 84 e_U nmX, w.before args s = true := vx_hat (fun w hw => hts w (gd_in (tb_U w hw) (List.mem_filter.mp hw).2)) (fun w hw => hw) (fun w hw => va_Nw.use (nb_U w hw).2.2 (hnw _ (nw_in (nb_U w hw).1 (nb_U w hw).2.1)))
variable {p : Program} {l : Launch} {e : Env} {R : Room} {s : State} {m : MethodId} {args : Array Value} {below : List Frame} {meth : Method} {c : Code} {H : Heap} {locs : List Loc} {cells slots mc ms : Nat} {free : Nat → Prop}
variable {D : va_G} {tys : List (ClassId × FieldType)} {B0 pc : Nat} {ls : Array Slot} {rest : List Value} {A : Nat → Prop}
theorem ct_thr {cc : ByteArray} {cls text : String} {ik is ic : Nat} {post : Option Value → Heap → Heap → Prop} {px : String → Heap → Heap → Prop} (hx : p.tables.exec = Jvm.exec) (hb : c.code = cc) (hl9 : l.stackTraces = false) (hown : s.vm.findClass "LevelRows" = some m.cls) (hts : ∀ w ∈ lw_ok, w.before args s = true) (hE : Ev D tys B0 s) (hS : va_S A s.heap H locs) (hAB : ∀ q, A q → B0 ≤ q) (hsz : ls.size = c.maxLocals)
    (hfit : Bundle.fit cls = true) (hat : ∀ w ∈ vx_atS "LevelRows" ic cls nmX, w.before args s = true) (hot : ∀ w ∈ Cond.classLink "LevelRows" ik cls :: Cond.initialized cls :: vx_atS "LevelRows" ic cls nmX, vx_ot w = true) (hk : Cond.classLink "LevelRows" ik cls ∈ lw_ok) (hini : Cond.initialized cls ∈ lw_ok) (hstr : Cond.stringRef "LevelRows" is text ∈ lw_nw)
    (d0 : decode cc pc = .ok (.new ik, 3)) (d3 : decode cc (pc + 3) = .ok (.dup, 1)) (d4 : decode cc (pc + 4) = .ok (.ldc is, 2)) (d6 : decode cc (pc + 6) = .ok (.invokespecial ic, 3)) (d9 : decode cc (pc + 9) = .ok (.athrow, 1)) (hout : ∀ x ∈ c.exceptionTable.toList, False)
    (hf1 : 5 < R.frames) (hf2 : (rest.map fun v => v.category).sum + 82 ≤ R.locals) (hf3 : cells + 1 ≤ R.cells) (hf4 : slots + 6 ≤ R.slots) (hlocks : meth.locks = false) (hpx : ∀ H1, fr (fun _ => False) H H1 → px cls s.heap H1) (hfl : ∀ z ∈ locs, free z.base) (hc : cells + 1 ≤ mc) (hs : slots + 6 ≤ ms) :
    W p l e R s m args below meth c H locs cells slots (vx_MQ below (stQ post) (stX px) args s mc ms free) (F0 m pc ls rest) := by
  obtain ⟨sa, hsa⟩ := hE.str hstr hown
  have hS2 : va_S (fun q => B0 ≤ q) s.heap H locs := ⟨hS.1, fun q h1 h2 => hS.2.1 q h1 (fun z => h2 (hAB q z)), fun z hz => hAB _ (hS.2.2 z hz)⟩
  exact vx_throwS (names := nmX) hx hb hl9 hown hfit (by decide +kernel) (hts _ hk) (hts _ hini) hsa hat hot hE.2.2.1 hE.2.2.2.1 hS2 hsz d0 d3 d4 d6 d9 (fun x hx => (hout x hx).elim) hf1 hf2 hf3 hf4 hlocks (fun t _ h2 h3 => hpx t.heap ⟨h2, fun q hq _ => h3 q hq⟩) hfl hc hs
end THR
section LRZ
def LRx (D : va_G) (cI cJ cS cO : ClassId) (y : Nat → Nat) (sg d : Nat) (xs ws : List Nat) (H : Heap) : Prop :=
  RL D cJ cS cO y sg d xs ws.length H ∧ PP D (y 3) H ∧ (∃ lf tf, va_P D vwCl [(y 4, .inl (cI, 1000, .inl lf)), (y 5, .inl (cI, 1000, .inl tf))] H) ∧ (∃ g, va_P D vwCl [(y 6, .inl (cI, 1001, .inl g))] H) ∧ ∃ rf sf, (∀ i x, ws[i]? = some x → rf (xs.length + i) = nI x) ∧ va_P D vwCl [(y 1, .inl (cI, 1000, .inl rf)), (y 2, .inl (cI, 1000, .inl sf))] H
theorem va_P.off1 {a b : Nat} {e0 : va_E} {A : Nat → Prop} (h : ¬ A a) (k : Nat) (q : Nat × va_E) (hk : ([(a, e0)] : va_W)[k]? = some q) : ¬ A q.1 := by
  match k, hk with
  | 0, hk => cases hk; exact h
  | k + 1, hk => simp at hk
theorem va_P.off2 {a b : Nat} {e0 e1 : va_E} {A : Nat → Prop} (h : ¬ A a) (h' : ¬ A b) (k : Nat) (q : Nat × va_E) (hk : ([(a, e0), (b, e1)] : va_W)[k]? = some q) : ¬ A q.1 := by
  match k, hk with
  | 0, hk => cases hk; exact h
  | 1, hk => cases hk; exact h'
  | k + 2, hk => simp at hk
/-- a change that meets none of its cells, or its scratch cells alone -/
theorem rl_kept {D : va_G} {cJ cS cO : ClassId} {y : Nat → Nat} {sg d wa : Nat} {xs : List Nat} {H0 H1 : Heap} {A : Nat → Prop} (h : RL D cJ cS cO y sg d xs wa H0) (hf : fr A H0 H1) (h0 : ¬ A (y 0)) (h7 : ¬ A (y 7)) (hA : ∀ i, 8 ≤ i → i < 8 + 3 * d → ¬ A (y i)) : RL D cJ cS cO y sg d xs wa H1 := by
  refine ⟨h.1.fr hf (va_P.off2 (a := y 0) (b := y 7) h0 h7), fun k hk => ?_⟩
  obtain ⟨ja, oa, z, ok, hP⟩ := h.2 k hk
  refine ⟨ja, oa, z, ok, hP.fr hf (fun j q hj => ?_)⟩
  match j, hj with
  | 0, hj => cases hj; exact hA _ (by omega) (by omega)
  | 1, hj => cases hj; exact hA _ (by omega) (by omega)
  | 2, hj => cases hj; exact hA _ (by omega) (by omega)
  | j + 3, hj => simp at hj
theorem lrx_kept {D : va_G} {cI cJ cS cO : ClassId} {y : Nat → Nat} {sg d : Nat} {xs ws : List Nat} {H0 H1 : Heap} {A : Nat → Prop} (h : LRx D cI cJ cS cO y sg d xs ws H0) (hf : fr A H0 H1) (hA : ∀ i, i < 8 + 3 * d → ¬ A (y i)) : LRx D cI cJ cS cO y sg d xs ws H1 := by
  obtain ⟨h1, ⟨f0, f1, f2, f3, f4, f5, h2⟩, ⟨lf, tf, h3⟩, ⟨g, h4⟩, rf, sf, h5, h6⟩ := h
  exact ⟨rl_kept h1 hf (hA 0 (by omega)) (hA 7 (by omega)) (fun i _ h => hA i h), ⟨f0, f1, f2, f3, f4, f5, h2.fr hf (va_P.off1 (b := 0) (hA 3 (by omega)))⟩, ⟨lf, tf, h3.fr hf (va_P.off2 (hA 4 (by omega)) (hA 5 (by omega)))⟩, ⟨g, h4.fr hf (va_P.off1 (b := 0) (hA 6 (by omega)))⟩, rf, sf, h5, h6.fr hf (va_P.off2 (hA 1 (by omega)) (hA 2 (by omega)))⟩
/-- nothing of it is written but the part -/
theorem lrx_part {D : va_G} {cI cJ cS cO : ClassId} {y : Nat → Nat} {sg d B0 : Nat} {xs ws : List Nat} {H0 H1 : Heap} (hy : yI B0 y d) (h : LRx D cI cJ cS cO y sg d xs ws H0) (hf : fr (fun q => q = y 3) H0 H1) (hp : PP D (y 3) H1) : LRx D cI cJ cS cO y sg d xs ws H1 := by
  obtain ⟨h1, -, ⟨lf, tf, h3⟩, ⟨g, h4⟩, rf, sf, h5, h6⟩ := h
  have hn : ∀ i, i < 8 + 3 * d → i ≠ 3 → ¬ y i = y 3 := fun i h h' => hy.ne h (by omega) h'
  exact ⟨rl_kept h1 hf (hn 0 (by omega) (by omega)) (hn 7 (by omega) (by omega)) (fun i h8 h => hn i h (by omega)), hp, ⟨lf, tf, h3.fr hf (va_P.off2 (A := fun q => q = y 3) (hn 4 (by omega) (by omega)) (hn 5 (by omega) (by omega)))⟩, ⟨g, h4.fr hf (va_P.off1 (b := 0) (A := fun q => q = y 3) (hn 6 (by omega) (by omega)))⟩, rf, sf, h5, h6.fr hf (va_P.off2 (A := fun q => q = y 3) (hn 1 (by omega) (by omega)) (hn 2 (by omega) (by omega)))⟩
/-- the cells that a question may write -/
abbrev AQ (y : Nat → Nat) : Nat → Prop := fun q => q = y 3 ∨ q = y 4 ∨ q = y 5 ∨ q = y 6
def isS (sg : Nat) (x : Int32) : Prop := ¬ x < 0 ∧ x < nI sg
def isPt (n : Nat) (a b : Int32) : Prop := ¬ a < 0 ∧ ¬ b < a ∧ ¬ nI n < b
theorem isPt.of {n : Nat} {a b : Int32} (hn : n ≤ 1000) (h : isPt n a b) : ∃ i j, a = nI i ∧ b = nI j ∧ i ≤ j ∧ j ≤ n := by
  obtain ⟨i, hi, rfl⟩ := nI_of h.1
  have h2 : nI i ≤ b := Int32.not_lt.mp h.2.1
  have hb0 : ¬ b < 0 := fun z => h.1 (Int32.lt_of_le_of_lt h2 z)
  obtain ⟨j, hj, rfl⟩ := nI_of hb0
  have h3 : nI j ≤ nI n := Int32.not_lt.mp h.2.2
  exact ⟨i, j, rfl, rfl, (nI_leI hi hj).mp h2, (nI_leI hj (by omega)).mp h3⟩
theorem isS.of {sg : Nat} {x : Int32} (hs : sg ≤ 65536) (h : isS sg x) : ∃ i, x = nI i ∧ i < sg := by
  obtain ⟨i, hi, rfl⟩ := nI_of h.1
  exact ⟨i, rfl, (nI_ltI hi (by omega)).mp h.2⟩
end LRZ
section PXI
abbrev pxI (cond : Prop) : String → Heap → Heap → Prop := fun E H0 H1 => E = e_I ∧ ¬ cond ∧ fr (fun _ => False) H0 H1
end PXI
section CST
variable {p : Program} {l : Launch} {e : Env} {R : Room} {s : State} {m : MethodId} {args : Array Value} {below : List Frame} {meth : Method} {c : Code} {H : Heap} {locs : List Loc} {cells slots : Nat} {Q : State → Prop} {pc : Nat} {ls : Array Slot}
theorem ct_st {st st' : List Value} (h : st = st') (k : W p l e R s m args below meth c H locs cells slots Q (F0 m pc ls st')) : W p l e R s m args below meth c H locs cells slots Q (F0 m pc ls st) := by rw [h]; exact k
end CST
