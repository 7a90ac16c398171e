/-! THE LAW'S ENTRY: what holds there; the cells of class, reference and answer beside each other. -/
section LWA
theorem arr_of {args : Array Value} {s : State} {ty : FieldType} (h : (Cond.arrayClass ty).before args s = true) : ∃ cA, ArrOfT s cA ty ∧ s.vm.findClass ("[" ++ ty.toString) = some cA := by
  obtain ⟨c, k, comp, h1, h2, h3⟩ := Cond.arrayClass_spec h
  exact ⟨c, fun n z => ⟨fun k h => (by cases h), k, h2, comp, h3⟩, h1⟩
theorem nw_start {args : Array Value} {s : State} {w : Cond} (hn : nword w = true) (h : w.before args s = true) : va_Nw w s := by
  cases w <;> first
    | (simp [nword] at hn; done)
    | exact va_Nw.of rfl h
    | exact h
theorem ev_start {args : Array Value} {s : State} (hts : ∀ w ∈ lw_tbl, w.before args s = true) (hU : (Cond.isRef (.static Bundle.tN "UNASSIGNED_STACK" Bundle.steD)).before args s = true) (hN : (Cond.isRef (.static Bundle.tN "SUPPRESSED_SENTINEL" Bundle.listD)).before args s = true) :
    ∃ (D : va_G) (cI cJ cS cO : ClassId), Ev D (tyL cI cJ cS cO) s.heap.size s := by
  have hok : ∀ w ∈ lw_ok, w.before args s = true := fun w h => hts w (List.mem_filter.mp h).1
  have hnw : ∀ w ∈ lw_nw, va_Nw w s := fun w h => nw_start (List.mem_filter.mp h).2 (hts w (List.mem_filter.mp h).1)
  obtain ⟨c0, i0, h0⟩ := u_known (C := n_L) (T := f_L) (N := 3) (n := 3) hok in_L (hok _ x_64)
  obtain ⟨c1, i1, h1⟩ := u_known (C := n_P) (T := f_P) (N := 6) (n := 6) hok in_P (hok _ x_25)
  obtain ⟨c2, i2, h2⟩ := u_known (C := n_R) (T := f_R) (N := 10) (n := 10) hok in_R (hok _ x_17)
  obtain ⟨c3, i3, h3⟩ := u_known (C := n_M) (T := f_M) (N := 7) (n := 7) hok in_M (hok _ x_431)
  obtain ⟨cI, a1, a2⟩ := arr_of (hok _ x_50)
  obtain ⟨cJ, b1, b2⟩ := arr_of (hok _ x_80)
  obtain ⟨cS, d1, d2⟩ := arr_of (hok _ x_81)
  obtain ⟨comp, cO, kO, g1, -, g3, g4, g5⟩ := Cond.arrayOver_spec (hts _ (List.mem_filter.mp x_63).1)
  refine ⟨(fun k => match k with | 0 => c0 | 1 => c1 | 2 => c2 | _ => c3, fun k => match k with | 0 => i0 | 1 => i1 | 2 => i2 | _ => i3), cI, cJ, cS, cO, ⟨fun k q hk => ?_, fun k q hk => ?_⟩, hnw, vx_Zqof (hts _ (by decide +kernel)) (hok _ x_7) hU (fun a h h' => absurd h (Nat.not_lt.mpr h')), vx_Zqof (hts _ (by decide +kernel)) (hok _ x_7) hN (fun a h h' => absurd h (Nat.not_lt.mpr h')), Nat.le_refl _⟩
  · match k, hk with
    | 0, hk => cases hk; exact h0
    | 1, hk => cases hk; exact h1
    | 2, hk => cases hk; exact h2
    | 3, hk => cases hk; exact h3
    | k + 4, hk => simp at hk
  · match k, hk with
    | 0, hk => cases hk; exact ⟨a1, a2⟩
    | 1, hk => cases hk; exact ⟨b1, b2⟩
    | 2, hk => cases hk; exact ⟨d1, d2⟩
    | 3, hk => cases hk; exact ⟨fun N z => ⟨(fun k h => by cases h), kO, g3, comp, g4⟩, kO, comp, g3, g4, g1, g5⟩
    | k + 4, hk => simp at hk
def GEO (B0 : Nat) (y : Nat → Nat) (d u0 u1 u2 u3 ao : Nat) : Prop := yI B0 y d ∧ MI B0 u0 u1 u2 u3 ∧ B0 ≤ ao ∧ (∀ i, i < 8 + 3 * d → ao ≠ y i) ∧ (∀ i, i < 8 + 3 * d → ¬ AM u0 u1 u2 u3 (y i)) ∧ ¬ AM u0 u1 u2 u3 ao
abbrev Ow (cJ : ClassId) (ao : Nat) (g : Nat → Int64) : va_W := [(ao, .inl (cJ, 1, .inr (.inl g)))]
/-- the cells that a call of the class, or its catcher, may write -/
def YA (y : Nat → Nat) (d ao : Nat) : Nat → Prop := fun q => (∃ i, i < 8 + 3 * d ∧ q = y i) ∨ q = ao
theorem GEO.ge {B0 : Nat} {y : Nat → Nat} {d u0 u1 u2 u3 ao : Nat} (h : GEO B0 y d u0 u1 u2 u3 ao) : ∀ q, YA y d ao q → B0 ≤ q := by
  rintro q (⟨i, h1, rfl⟩ | rfl)
  · exact h.1.2 i h1
  · exact h.2.2.1
theorem GEO.mr {D : va_G} {cI : ClassId} {B0 : Nat} {y : Nat → Nat} {d u0 u1 u2 u3 ao sg : Nat} {xs ws : List Nat} {th : Int32} {H0 H1 : Heap} {A : Nat → Prop} (h : GEO B0 y d u0 u1 u2 u3 ao) (hA : ∀ q, A q → YA y d ao q) (hm : MR D cI u0 u1 u2 u3 sg xs ws th H0) (hf : fr A H0 H1) : MR D cI u0 u1 u2 u3 sg xs ws th H1 := by
  have key : ∀ u, AM u0 u1 u2 u3 u → ¬ A u := by
    intro u hu ha
    rcases hA u ha with ⟨i, h1, rfl⟩ | rfl
    · exact h.2.2.2.2.1 i h1 hu
    · exact h.2.2.2.2.2 hu
  exact mr_kept hm hf (key _ (Or.inl rfl)) (key _ (Or.inr (Or.inl rfl))) (key _ (Or.inr (Or.inr (Or.inl rfl)))) (key _ (Or.inr (Or.inr (Or.inr rfl))))
theorem GEO.lr {D : va_G} {cI cJ cS cO : ClassId} {B0 : Nat} {y : Nat → Nat} {d u0 u1 u2 u3 ao sg : Nat} {xs ws : List Nat} {H0 H1 : Heap} (h : GEO B0 y d u0 u1 u2 u3 ao) (hl : LRx D cI cJ cS cO y sg d xs ws H0) (hf : fr (AM u0 u1 u2 u3) H0 H1) : LRx D cI cJ cS cO y sg d xs ws H1 := lrx_kept hl hf h.2.2.2.2.1
theorem GEO.out {D : va_G} {cJ : ClassId} {B0 : Nat} {y : Nat → Nat} {d u0 u1 u2 u3 ao : Nat} {g : Nat → Int64} {H0 H1 : Heap} (h : GEO B0 y d u0 u1 u2 u3 ao) (ho : va_P D vwCl (Ow cJ ao g) H0) (hf : fr (AM u0 u1 u2 u3) H0 H1) : va_P D vwCl (Ow cJ ao g) H1 := ho.fr hf (va_P.off1 (b := 0) h.2.2.2.2.2)
def LInv (D : va_G) (cI cJ cS cO : ClassId) (y : Nat → Nat) (u0 u1 u2 u3 ao sg d : Nat) (s : State) (xs ws : List Nat) (H : Heap) : Prop :=
  LRx D cI cJ cS cO y sg d xs ws H ∧ (∃ th, MR D cI u0 u1 u2 u3 sg xs ws th H) ∧ (∃ g, va_P D vwCl (Ow cJ ao g) H) ∧ Ok sg d xs ws ∧ fr (fun q => s.heap.size ≤ q) s.heap H
def LC (D : va_G) (cI cJ cS cO : ClassId) (p : Program) (l : Launch) (s : State) (m : MethodId) (meth : Method) (c : Code) (b L : Nat) (sc : Nat → Int32) : Prop :=
  p.tables.exec = Jvm.exec ∧ c.code = code ∧ meth.sig.returnType = ret ∧ c.maxLocals = 7 ∧ s.vm.findClass "LevelRowsLaw" = some m.cls ∧ (∀ w ∈ lw_ok, w.before #[Value.ref b] s = true) ∧ meth.locks = false ∧ Ev D (tyL cI cJ cS cO) s.heap.size s ∧ NC s ∧ va_X b L sc s s.heap ∧ b < s.heap.size ∧ l.stackTraces = false
theorem lg_self (x : Int64) : lg_cmp x x = 0 := by
  unfold lg_cmp
  rw [if_neg (by simp), if_pos rfl]
theorem law_cmp {i L : Nat} (hi : i < 2 ^ 29) (hL : L < 2 ^ 29) : nI L - 7 < nI i ↔ L < i + 7 := by
  rw [Int32.lt_iff_toInt_lt, show (7 : Int32) = nI 7 from rfl, pk_sub_toInt (by omega) (by omega), nI_toInt (by omega)]
  omega
theorem lrx_lt {D : va_G} {cI cJ cS cO : ClassId} {y : Nat → Nat} {sg d : Nat} {xs ws : List Nat} {H : Heap} (h : LRx D cI cJ cS cO y sg d xs ws H) : ∀ i, i < 8 + 3 * d → y i < H.size := by
  obtain ⟨h1, ⟨f0, f1, f2, f3, f4, f5, h2⟩, ⟨lf, tf, h3⟩, ⟨g, h4⟩, rf, sf, h5, h6⟩ := h
  intro j hj
  rcases Nat.lt_or_ge j 8 with h8 | h8
  · rcases (show j = 0 ∨ j = 1 ∨ j = 2 ∨ j = 3 ∨ j = 4 ∨ j = 5 ∨ j = 6 ∨ j = 7 by omega) with rfl | rfl | rfl | rfl | rfl | rfl | rfl | rfl
    · exact (h1.1 0 _ rfl).lt
    · exact (h6 0 _ rfl).lt
    · exact (h6 1 _ rfl).lt
    · exact (h2 0 _ rfl).lt
    · exact (h3 0 _ rfl).lt
    · exact (h3 1 _ rfl).lt
    · exact (h4 0 _ rfl).lt
    · exact (h1.1 1 _ rfl).lt
  · obtain ⟨k, hk⟩ : ∃ k, j = 8 + 3 * k ∨ j = 9 + 3 * k ∨ j = 10 + 3 * k := ⟨(j - 8) / 3, by omega⟩
    obtain ⟨ja, oa, z, -, hP⟩ := h1.2 k (by omega)
    rcases hk with rfl | rfl | rfl
    · exact (hP 0 _ rfl).lt
    · exact (hP 1 _ rfl).lt
    · exact (hP 2 _ rfl).lt
end LWA
set_option maxHeartbeats 4000000 in
set_option maxRecDepth 100000 in
theorem m_W_cell {l : Launch} {b L : Nat} {sc : Nat → Int32} (hL : L ≤ 3585) : Met l y_W_cell (wsA y_W_cell c_W_cell 2 (some .int)) (rmK 0 0 0) (fun v U => v = #[.ref b, .int 0] ∧ va_X b L sc U U.heap ∧ b < U.heap.size) (stQ (fun v H0 H1 => v = some (.int (if 0 < L then sc 0 else 0)) ∧ H1 = H0)) 0 0 (fun _ => False) := by
  refine Met.ofW (cc := c_W_cell) (maxL := 2) (ret := some .int) (by decide) rfl ?_
  intro p e s m args below meth c s₁ B hml hv
  obtain ⟨rfl, hX, hbl⟩ := hv
  have hl := lv_entry [Value.ref b, Value.int 0] (n := 2) (Nat.le_of_ble_eq_true rfl)
  rw [show (#[Value.ref b, Value.int 0] : Array Value) = ([Value.ref b, Value.int 0] : List Value).toArray from rfl, lg_entry_eq]
  have hx := B.exec
  have hb : c.code = c_W_cell := B.bytes
  have hr := B.returns
  have hlocks := B.notSynchronized
  generalize (lg_sl [Value.ref b, Value.int 0] ++ List.replicate (2 - (lg_sl [Value.ref b, Value.int 0]).length) Slot.unset).toArray = ls at hl ⊢
  have hl : lv_has ls 2 [(0, .ref b), (1, .int 0)] := hl
  have hS : va_S (fun _ => False) s.heap s.heap [] := va_S.rf
  refine lv_iload_n hx hb d_W_cell_0 rfl (lv_at hl 1 rfl) ?_
  refine lv_aload_n hx hb d_W_cell_1 rfl (lv_at hl 0 rfl) ?_
  refine va_slen hx hb hX hbl (fun h => h) hS d_W_cell_2 ?_
  rcases Nat.eq_zero_or_pos L with h0 | h0
  · refine lv_icmp_ge (tgt := 12) hx hb d_W_cell_3 (by decide) (fun _ => ?_) (fun c9 => absurd (by rw [h0]; decide) c9)
    refine lv_iconst (v := 0) hx hb d_W_cell_12 (by decide) ?_
    exact W.iret (v := 0) hx hb hr (fun t ht hW => ⟨_, rfl, by rw [if_neg (by omega)], ht⟩) (fun _ h => nomatch h) d_W_cell_13
  · refine lv_icmp_ge (tgt := 12) hx hb d_W_cell_3 (by decide) (fun c9 => absurd c9 (show ¬ nI L ≤ nI 0 from nI_ge h0 (by omega))) (fun _ => ?_)
    refine lv_aload_n hx hb d_W_cell_6 rfl (lv_at hl 0 rfl) ?_
    refine lv_iload_n hx hb d_W_cell_7 rfl (lv_at hl 1 rfl) ?_
    refine va_sld hx hb hX hbl (fun h => h) hS (vp_in_nI (n := 0) h0 (by omega)) d_W_cell_8 ?_
    refine lv_goto (tgt := 13) hx hb d_W_cell_9 (by decide) ?_
    exact W.iret (v := sc 0) hx hb hr (fun t ht hW => ⟨_, rfl, by rw [if_pos h0], ht⟩) (fun _ h => nomatch h) d_W_cell_13
