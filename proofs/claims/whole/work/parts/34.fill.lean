/-! Arrays.fill, the constructors of Part and Level, min and max. -/
set_option maxHeartbeats 4000000 in
set_option maxRecDepth 100000 in
theorem m_A_fillJ {l : Launch} {D : va_G} {cI cJ cS cO : ClassId} {B0 : Nat} {a : Nat} {N : Nat} (hN : N < 2 ^ 31) {g : Nat → Int64} (x : Int64) : CM l D (tyL cI cJ cS cO) B0 y_A_fillJ c_A_fillJ 5 none (rmK 0 0 0) [.ref a, .long x] (fun H => va_P D vwCl [(a, .inl (cJ, N, .inr (.inl g)))] H) (fun v H0 H1 => v = none ∧ fr (fun q => q = a) H0 H1 ∧ ∃ g, (∀ i, i < N → g i = x) ∧ va_P D vwCl [(a, .inl (cJ, N, .inr (.inl g)))] H1) 0 0 (fun q => q = a) := by
  refine cm_of (by decide) (Nat.le_of_ble_eq_true rfl) ?_
  intro p e s m below meth c ls hx hb hr hml hown hts hlocks hnm hE hpre hl
  have hown : s.vm.findClass "java/util/Arrays" = some m.cls := hown
  have hK := hE.1
  have hl : lv_has ls 5 [(0, .ref a), (1, .long x)] := hl
  have hS : va_S (fun q => q = a) s.heap s.heap [] := va_S.rf
  have hP : va_P D vwCl [(a, .inl (cJ, N, .inr (.inl (g))))] s.heap := hpre
  have hD : va_D (fun q => q = a) [(a, .inl (cJ, N, .inr (.inl (g))))] := va_D.one rfl
  refine lv_iconst (v := 0) hx hb d_A_fillJ_0 (by decide) ?_
  refine lv_istore_n (lv' := [(3, .int 0), (0, .ref a), (1, .long x)]) hx hb d_A_fillJ_1 rfl hl (by decide) rfl (fun ls hl => ?_)
  refine lv_aload_n hx hb d_A_fillJ_2 rfl (lv_at hl 1 rfl) ?_
  refine va_alen hx hb hK hP 0 1 rfl rfl (v := nI (N)) rfl d_A_fillJ_3 ?_
  refine lv_istore (lv' := [(4, .int (nI (N))), (3, .int 0), (0, .ref a), (1, .long x)]) hx hb d_A_fillJ_4 hl (by decide) rfl (fun ls hl => ?_)
  have loop : ∀ (n : Nat) (i : Nat) (g : Nat → Int64) (H : Heap) (locs : List Loc) (ls : Array Slot), (i + n = N) → (∀ j, j < i → g j = x) → va_S (fun q => q = a) s.heap H locs → va_P D vwCl [(a, .inl (cJ, N, .inr (.inl (g))))] H → va_D (fun q => q = a) [(a, .inl (cJ, N, .inr (.inl (g))))] → lv_has ls 5 [(3, .int (nI i)), (4, .int (nI N)), (0, .ref a), (1, .long x)] → W p l e (rmK 0 0 0) s m [.ref a, .long x].toArray below meth c H locs (0) (0) (MQ below (stQ (fun v H0 H1 => v = none ∧ fr (fun q => q = a) H0 H1 ∧ ∃ g, (∀ i, i < N → g i = x) ∧ va_P D vwCl [(a, .inl (cJ, N, .inr (.inl g)))] H1)) [.ref a, .long x].toArray s 0 0 (fun q => q = a)) (F0 m 6 ls []) := by
    intro n
    induction n with
    | zero =>
      intro i g H locs ls hin hg hS hP hD hl
      have hi : i = N := by omega
      subst hi
      refine lv_iload_n hx hb d_A_fillJ_6 rfl (lv_at hl 0 rfl) ?_
      refine lv_iload hx hb d_A_fillJ_7 (lv_at hl 1 rfl) ?_
      refine lv_icmp_ge (tgt := 22) hx hb d_A_fillJ_9 (by decide) (fun _ => ?_) (fun c9 => absurd (nI_le (Nat.le_refl _) (by omega)) c9)
      exact W.vret hx hb hr (fun t ht hW => ⟨_, rfl, by rw [ht]; exact ⟨rfl, fr.of hS, _, hg, hP⟩⟩) hS.2.2 d_A_fillJ_22
    | succ n ih =>
      intro i g H locs ls hin hg hS hP hD hl
      refine lv_iload_n hx hb d_A_fillJ_6 rfl (lv_at hl 0 rfl) ?_
      refine lv_iload hx hb d_A_fillJ_7 (lv_at hl 1 rfl) ?_
      refine lv_icmp_ge (tgt := 22) hx hb d_A_fillJ_9 (by decide) (fun c9 => absurd c9 (nI_ge (by omega) (by omega))) (fun _ => ?_)
      refine lv_aload_n hx hb d_A_fillJ_12 rfl (lv_at hl 2 rfl) ?_
      refine lv_iload_n hx hb d_A_fillJ_13 rfl (lv_at hl 0 rfl) ?_
      refine lv_lload_n hx hb d_A_fillJ_14 rfl (lv_at hl 3 rfl) ?_
      refine va_last hx hb hK hP hD hS 0 1 rfl rfl (vp_in_nI (by omega) hN) d_A_fillJ_15 (fun H locs hP hD hS => ?_)
      have hP : va_P D vwCl [(a, .inl (cJ, N, .inr (.inl (vp_updL g (nI i).toNatClampNeg x))))] H := hP
      have hD : va_D (fun q => q = a) [(a, .inl (cJ, N, .inr (.inl (vp_updL g (nI i).toNatClampNeg x))))] := hD
      refine lv_iinc (v := nI (i + 1)) (lv' := [(3, .int (nI (i + 1))), (4, .int (nI N)), (0, .ref a), (1, .long x)]) hx hb d_A_fillJ_16 hl (k := 0) rfl ((nI_succ i).symm) (by decide) rfl (fun ls hl => ?_)
      refine lv_goto (tgt := 6) hx hb d_A_fillJ_19 (by decide) ?_
      refine ih (i + 1) _ H locs ls (by omega) (fun j hj => ?_) hS hP hD (lv_sub hl [0, 1, 2, 3] rfl)
      rw [nI_clamp (by omega)]
      by_cases e : j = i
      · simp only [vp_updL, e, if_true]
      · simp only [vp_updL, if_neg e]
        exact hg j (by omega)
  exact loop N 0 g s.heap [] ls (by omega) (fun j hj => absurd hj (Nat.not_lt_zero j)) hS hP hD (lv_sub hl [1, 0, 2, 3] rfl)
set_option maxHeartbeats 4000000 in
set_option maxRecDepth 100000 in
theorem m_A_fillI {l : Launch} {D : va_G} {cI cJ cS cO : ClassId} {B0 : Nat} {a : Nat} {N : Nat} (hN : N < 2 ^ 31) {g : Nat → Int32} (x : Int32) : CM l D (tyL cI cJ cS cO) B0 y_A_fillI c_A_fillI 4 none (rmK 0 0 0) [.ref a, .int x] (fun H => va_P D vwCl [(a, .inl (cI, N, .inl g))] H) (fun v H0 H1 => v = none ∧ fr (fun q => q = a) H0 H1 ∧ ∃ g, (∀ i, i < N → g i = x) ∧ va_P D vwCl [(a, .inl (cI, N, .inl g))] H1) 0 0 (fun q => q = a) := by
  refine cm_of (by decide) (Nat.le_of_ble_eq_true rfl) ?_
  intro p e s m below meth c ls hx hb hr hml hown hts hlocks hnm hE hpre hl
  have hown : s.vm.findClass "java/util/Arrays" = some m.cls := hown
  have hK := hE.1
  have hl : lv_has ls 4 [(0, .ref a), (1, .int x)] := hl
  have hS : va_S (fun q => q = a) s.heap s.heap [] := va_S.rf
  have hP : va_P D vwCl [(a, .inl (cI, N, .inl (g)))] s.heap := hpre
  have hD : va_D (fun q => q = a) [(a, .inl (cI, N, .inl (g)))] := va_D.one rfl
  refine lv_iconst (v := 0) hx hb d_A_fillI_0 (by decide) ?_
  refine lv_istore_n (lv' := [(2, .int 0), (0, .ref a), (1, .int x)]) hx hb d_A_fillI_1 rfl hl (by decide) rfl (fun ls hl => ?_)
  refine lv_aload_n hx hb d_A_fillI_2 rfl (lv_at hl 1 rfl) ?_
  refine va_alen hx hb hK hP 0 0 rfl rfl (v := nI (N)) rfl d_A_fillI_3 ?_
  refine lv_istore_n (lv' := [(3, .int (nI (N))), (2, .int 0), (0, .ref a), (1, .int x)]) hx hb d_A_fillI_4 rfl hl (by decide) rfl (fun ls hl => ?_)
  have loop : ∀ (n : Nat) (i : Nat) (g : Nat → Int32) (H : Heap) (locs : List Loc) (ls : Array Slot), (i + n = N) → (∀ j, j < i → g j = x) → va_S (fun q => q = a) s.heap H locs → va_P D vwCl [(a, .inl (cI, N, .inl (g)))] H → va_D (fun q => q = a) [(a, .inl (cI, N, .inl (g)))] → lv_has ls 4 [(2, .int (nI i)), (3, .int (nI N)), (0, .ref a), (1, .int x)] → W p l e (rmK 0 0 0) s m [.ref a, .int x].toArray below meth c H locs (0) (0) (MQ below (stQ (fun v H0 H1 => v = none ∧ fr (fun q => q = a) H0 H1 ∧ ∃ g, (∀ i, i < N → g i = x) ∧ va_P D vwCl [(a, .inl (cI, N, .inl g))] H1)) [.ref a, .int x].toArray s 0 0 (fun q => q = a)) (F0 m 5 ls []) := by
    intro n
    induction n with
    | zero =>
      intro i g H locs ls hin hg hS hP hD hl
      have hi : i = N := by omega
      subst hi
      refine lv_iload_n hx hb d_A_fillI_5 rfl (lv_at hl 0 rfl) ?_
      refine lv_iload_n hx hb d_A_fillI_6 rfl (lv_at hl 1 rfl) ?_
      refine lv_icmp_ge (tgt := 20) hx hb d_A_fillI_7 (by decide) (fun _ => ?_) (fun c9 => absurd (nI_le (Nat.le_refl _) (by omega)) c9)
      exact W.vret hx hb hr (fun t ht hW => ⟨_, rfl, by rw [ht]; exact ⟨rfl, fr.of hS, _, hg, hP⟩⟩) hS.2.2 d_A_fillI_20
    | succ n ih =>
      intro i g H locs ls hin hg hS hP hD hl
      refine lv_iload_n hx hb d_A_fillI_5 rfl (lv_at hl 0 rfl) ?_
      refine lv_iload_n hx hb d_A_fillI_6 rfl (lv_at hl 1 rfl) ?_
      refine lv_icmp_ge (tgt := 20) hx hb d_A_fillI_7 (by decide) (fun c9 => absurd c9 (nI_ge (by omega) (by omega))) (fun _ => ?_)
      refine lv_aload_n hx hb d_A_fillI_10 rfl (lv_at hl 2 rfl) ?_
      refine lv_iload_n hx hb d_A_fillI_11 rfl (lv_at hl 0 rfl) ?_
      refine lv_iload_n hx hb d_A_fillI_12 rfl (lv_at hl 3 rfl) ?_
      refine va_iast hx hb hK hP hD hS 0 0 rfl rfl (vp_in_nI (by omega) hN) d_A_fillI_13 (fun H locs hP hD hS => ?_)
      have hP : va_P D vwCl [(a, .inl (cI, N, .inl (upd g (nI i).toNatClampNeg x)))] H := hP
      have hD : va_D (fun q => q = a) [(a, .inl (cI, N, .inl (upd g (nI i).toNatClampNeg x)))] := hD
      refine lv_iinc (v := nI (i + 1)) (lv' := [(2, .int (nI (i + 1))), (3, .int (nI N)), (0, .ref a), (1, .int x)]) hx hb d_A_fillI_14 hl (k := 0) rfl ((nI_succ i).symm) (by decide) rfl (fun ls hl => ?_)
      refine lv_goto (tgt := 5) hx hb d_A_fillI_17 (by decide) ?_
      refine ih (i + 1) _ H locs ls (by omega) (fun j hj => ?_) hS hP hD (lv_sub hl [0, 1, 2, 3] rfl)
      rw [nI_clamp (by omega)]
      by_cases e : j = i
      · simp only [upd, e, if_true]
      · simp only [upd, if_neg e]
        exact hg j (by omega)
  exact loop N 0 g s.heap [] ls (by omega) (fun j hj => absurd hj (Nat.not_lt_zero j)) hS hP hD (lv_sub hl [1, 0, 2, 3] rfl)
set_option maxHeartbeats 4000000 in
set_option maxRecDepth 100000 in
theorem m_P_init {l : Launch} {D : va_G} {cI cJ cS cO : ClassId} {B0 : Nat} {ap : Nat} : CM l D (tyL cI cJ cS cO) B0 y_P_init c_P_init 1 none (rmK 1 0 0) [.ref ap] (fun _ => True) (fun v H0 H1 => v = none ∧ H1 = H0) 0 0 (fun _ => False) := by
  refine cm_of (by decide) (Nat.le_of_ble_eq_true rfl) ?_
  intro p e s m below meth c ls hx hb hr hml hown hts hlocks hnm hE hpre hl
  have hown : s.vm.findClass "LevelRows$Part" = some m.cls := hown
  have hK := hE.1
  have hl : lv_has ls 1 [(0, .ref ap)] := hl
  refine lv_aload_n hx hb d_P_init_0 rfl (lv_at hl 0 rfl) ?_
  refine W.objInit hx hb hown (hts _ x_29) (hts _ x_22) (hts _ x_23) rfl (by rw [hml]; exact hl.1) rfl d_P_init_1 (by decide) (Nat.le_of_ble_eq_true rfl) ?_
  refine W.eq (g2 := F0 m 4 ls []) rfl ?_
  exact W.vret hx hb hr (fun t ht hW => ⟨_, rfl, rfl, ht⟩) (fun _ h => nomatch h) d_P_init_4
set_option maxHeartbeats 4000000 in
set_option maxRecDepth 100000 in
theorem m_L_init {l : Launch} {D : va_G} {cI cJ cS cO : ClassId} {B0 : Nat} {a0 sz : Nat} : CM l D (tyL cI cJ cS cO) B0 y_L_init c_L_init 1 none (rmK 1 2 32) [.ref a0] (fun H => H.size = sz ∧ va_P D vwCl [(a0, .inr (0, [.null, .null, .int 0]))] H) (fun v H0 H1 => v = none ∧ fr (fun q => q = a0 ∨ sz ≤ q) H0 H1 ∧ ∃ a1 a2, sz ≤ a1 ∧ sz ≤ a2 ∧ a1 ≠ a2 ∧ va_P D vwCl (Lw cJ cS a0 a1 a2 (fun _ => 0) (fun _ => 0) 0) H1) 2 32 (fun q => q = a0 ∨ sz ≤ q) := by
  refine cm_of (by decide) (Nat.le_of_ble_eq_true rfl) ?_
  intro p e s m below meth c ls hx hb hr hml hown hts hlocks hnm hE hpre hl
  have hown : s.vm.findClass "LevelRows$Level" = some m.cls := hown
  have hK := hE.1
  have hl : lv_has ls 1 [(0, .ref a0)] := hl
  obtain ⟨hz, hpre⟩ := hpre
  subst hz
  have ha0 : a0 < s.heap.size := (hpre 0 _ rfl).lt
  have hA : ∀ q, s.heap.size ≤ q → (fun q => q = a0 ∨ s.heap.size ≤ q) q := fun q h => Or.inr h
  have hS : va_S (fun q => q = a0 ∨ s.heap.size ≤ q) s.heap s.heap [] := va_S.rf
  have hP : va_P D vwCl [(a0, .inr (0, [.null, .null, .int 0]))] s.heap := hpre
  have hD : va_D (fun q => q = a0 ∨ s.heap.size ≤ q) [(a0, .inr (0, [.null, .null, .int 0]))] := va_D.one (Or.inl rfl)
  refine lv_aload_n hx hb d_L_init_0 rfl (lv_at hl 0 rfl) ?_
  refine W.objInit hx hb hown (hts _ x_68) (hts _ x_22) (hts _ x_23) rfl (by rw [hml]; exact hl.1) rfl d_L_init_1 (by decide) (Nat.le_of_ble_eq_true rfl) ?_
  refine W.eq (g2 := F0 m 4 ls []) rfl ?_
  refine lv_aload_n hx hb d_L_init_4 rfl (lv_at hl 0 rfl) ?_
  refine lv_bipush (v := 16) hx hb d_L_init_5 (by decide) ?_
  refine va_newa (atype := .long) hx hb (hts _ x_80) rfl hK hP hD hS hA (a0 := (16, .inr (.inl (fun _ => 0)))) (fun _ => rfl) (by decide) rfl (by decide) (Nat.le_of_ble_eq_true rfl) (Nat.le_of_ble_eq_true rfl) d_L_init_7 (fun a1 cA H hK9 hP hD hS => ?_)
  have e9 : cA = cJ := Option.some.inj ((hK9.2 4 _ rfl).2.symm.trans (hK9.2 1 _ rfl).2)
  rw [e9] at hP hD
  have hP : va_P D vwCl [(a0, .inr (0, [.null, .null, .int 0])), (a1, .inl (cJ, 16, .inr (.inl (fun _ => 0))))] H := hP
  have hD : va_D (fun q => q = a0 ∨ s.heap.size ≤ q) [(a0, .inr (0, [.null, .null, .int 0])), (a1, .inl (cJ, 16, .inr (.inl (fun _ => 0))))] := hD
  refine va_putF (D := D) (ci := 0) (v := .ref a1) (ty := .array .long) (C := n_L) (T := f_L) (N := 3) hx hb hts in_L t_L ty_L nm_L hown hK hP hD hS 0 rfl rfl 0 (by decide) (hts _ x_69) (fun _ h9 => h9) rfl hnm rfl (by decide +kernel) rfl rfl (Nat.le_of_ble_eq_true rfl) d_L_init_9 (fun H locs hP hD hS => ?_)
  have hP : va_P D vwCl [(a0, .inr (0, [.ref a1, .null, .int 0])), (a1, .inl (cJ, 16, .inr (.inl (fun _ => 0))))] H := hP
  have hD : va_D (fun q => q = a0 ∨ s.heap.size ≤ q) [(a0, .inr (0, [.ref a1, .null, .int 0])), (a1, .inl (cJ, 16, .inr (.inl (fun _ => 0))))] := hD
  refine lv_aload_n hx hb d_L_init_12 rfl (lv_at hl 0 rfl) ?_
  refine lv_bipush (v := 16) hx hb d_L_init_13 (by decide) ?_
  refine va_newa (atype := .short) hx hb (hts _ x_81) rfl hK hP hD hS hA (a0 := (16, .inl (fun _ => 0))) (fun _ => rfl) (by decide) rfl (by decide) (Nat.le_of_ble_eq_true rfl) (Nat.le_of_ble_eq_true rfl) d_L_init_15 (fun a2 cA H hK9 hP hD hS => ?_)
  have e9 : cA = cS := Option.some.inj ((hK9.2 4 _ rfl).2.symm.trans (hK9.2 2 _ rfl).2)
  rw [e9] at hP hD
  have hP : va_P D vwCl [(a0, .inr (0, [.ref a1, .null, .int 0])), (a1, .inl (cJ, 16, .inr (.inl (fun _ => 0)))), (a2, .inl (cS, 16, .inl (fun _ => 0)))] H := hP
  have hD : va_D (fun q => q = a0 ∨ s.heap.size ≤ q) [(a0, .inr (0, [.ref a1, .null, .int 0])), (a1, .inl (cJ, 16, .inr (.inl (fun _ => 0)))), (a2, .inl (cS, 16, .inl (fun _ => 0)))] := hD
  refine va_putF (D := D) (ci := 0) (v := .ref a2) (ty := .array .short) (C := n_L) (T := f_L) (N := 3) hx hb hts in_L t_L ty_L nm_L hown hK hP hD hS 0 rfl rfl 1 (by decide) (hts _ x_70) (fun _ h9 => h9) rfl hnm rfl (by decide +kernel) rfl rfl (Nat.le_of_ble_eq_true rfl) d_L_init_17 (fun H locs hP hD hS => ?_)
  have hP : va_P D vwCl [(a0, .inr (0, [.ref a1, .ref a2, .int 0])), (a1, .inl (cJ, 16, .inr (.inl (fun _ => 0)))), (a2, .inl (cS, 16, .inl (fun _ => 0)))] H := hP
  have hD : va_D (fun q => q = a0 ∨ s.heap.size ≤ q) [(a0, .inr (0, [.ref a1, .ref a2, .int 0])), (a1, .inl (cJ, 16, .inr (.inl (fun _ => 0)))), (a2, .inl (cS, 16, .inl (fun _ => 0)))] := hD
  have e1 : a1 ≠ a0 := fun h => absurd (hD.1 1 0 _ _ rfl rfl h) (by decide)
  have e2 : a2 ≠ a0 := fun h => absurd (hD.1 2 0 _ _ rfl rfl h) (by decide)
  have e3 : a1 ≠ a2 := fun h => absurd (hD.1 1 2 _ _ rfl rfl h) (by decide)
  exact W.vret hx hb hr (fun t ht hW => ⟨_, rfl, by rw [ht]; exact ⟨rfl, fr.of hS, a1, a2, (hD.2 1 _ rfl).resolve_left e1, (hD.2 2 _ rfl).resolve_left e2, e3, hP⟩⟩) hS.2.2 d_L_init_20
