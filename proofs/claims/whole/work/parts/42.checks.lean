/-! LevelRows: the checks. -/
set_option maxHeartbeats 4000000 in
set_option maxRecDepth 100000 in
theorem m_R_checkSymbol {l : Launch} {D : va_G} {cI cJ cS cO : ClassId} {B0 : Nat} (hl9 : l.stackTraces = false) {y : Nat → Nat} {d : Nat} {sg : Nat} {bu wa : Int32} (x : Int32) : CX l D (tyL cI cJ cS cO) B0 y_R_checkSymbol c_R_checkSymbol 2 none (rmK 6 1 6) [.ref (y 0), .int x] (fun H => va_P D vwCl (Rw cO y (nI sg) d bu wa) H) (fun v H0 H1 => v = none ∧ H1 = H0 ∧ isS sg x) (pxI (isS sg x)) 1 6 (fun _ => False) := by
  refine cx_of (by decide) (Nat.le_of_ble_eq_true rfl) ?_
  intro p e s m below meth c ls hx hb hr hml hown hts hlocks hout hE hpre hl
  have hown : s.vm.findClass "LevelRows" = some m.cls := hown
  have hK := hE.1
  have hl : lv_has ls 2 [(0, .ref (y 0)), (1, .int x)] := hl
  have hP : va_P D vwCl [(y 0, .inr (2, [.int (nI sg), .ref (y 7), .int bu, .int wa, .ref (y 1), .ref (y 2), .ref (y 3), .ref (y 4), .ref (y 5), .ref (y 6)])), (y 7, .inl (cO, d, .inr (.inr (.inr (.inr (fun i => some (y (8 + 3 * i))))))))] s.heap := hpre
  have hS : va_S (fun _ => False) s.heap s.heap [] := va_S.rf
  have hAB : ∀ q : Nat, (fun _ : Nat => False) q → B0 ≤ q := fun _ h => h.elim
  refine lv_iload_n hx hb d_R_checkSymbol_0 rfl (lv_at hl 1 rfl) ?_
  refine lv_if_lt (tgt := 12) hx hb d_R_checkSymbol_1 (by decide) (fun h1 => ?_) (fun h1 => ?_)
  · exact ct_thr hx hb hl9 hown hts hE hS hAB (by rw [hml]; exact hl.1) (by decide +kernel) (at_I hts hE.2.1) ot_I x_191 x_10 x_232 d_R_checkSymbol_12 d_R_checkSymbol_15 d_R_checkSymbol_16 d_R_checkSymbol_18 d_R_checkSymbol_21 hout (by decide) (Nat.le_of_ble_eq_true rfl) (by decide) (by decide) hlocks (fun H1 hf => ⟨rfl, fun h => h.1 h1, hf⟩) hS.2.2 (by decide) (by decide)
  · refine lv_iload_n hx hb d_R_checkSymbol_4 rfl (lv_at hl 1 rfl) ?_
    refine lv_aload_n hx hb d_R_checkSymbol_5 rfl (lv_at hl 0 rfl) ?_
    refine va_get (D := D) (ci := 2) (v := .int (nI sg)) (C := n_R) (T := f_R) (N := 10) hx hb hts in_R hown hK hP 0 rfl rfl 0 (by decide) (hts _ x_82) (fun _ h9 => h9) rfl d_R_checkSymbol_6 ?_
    refine lv_icmp_lt (tgt := 22) hx hb d_R_checkSymbol_9 (by decide) (fun h2 => ?_) (fun h2 => ?_)
    · refine vx_ret (W.widen (k := 1) (n := 6) (by decide) (by decide) ?_)
      exact W.vret hx hb hr (fun t ht hW => ⟨_, rfl, rfl, ht, h1, h2⟩) (fun _ h => nomatch h) d_R_checkSymbol_22
    · exact ct_thr hx hb hl9 hown hts hE hS hAB (by rw [hml]; exact hl.1) (by decide +kernel) (at_I hts hE.2.1) ot_I x_191 x_10 x_232 d_R_checkSymbol_12 d_R_checkSymbol_15 d_R_checkSymbol_16 d_R_checkSymbol_18 d_R_checkSymbol_21 hout (by decide) (Nat.le_of_ble_eq_true rfl) (by decide) (by decide) hlocks (fun H1 hf => ⟨rfl, fun h => h2 h.2, hf⟩) hS.2.2 (by decide) (by decide)
set_option maxHeartbeats 4000000 in
set_option maxRecDepth 100000 in
theorem m_R_checkPart {l : Launch} {D : va_G} {cI cJ cS cO : ClassId} {B0 : Nat} (hl9 : l.stackTraces = false) {y : Nat → Nat} {d : Nat} {n : Nat} {sg wa : Int32} (x z : Int32) : CX l D (tyL cI cJ cS cO) B0 y_R_checkPart c_R_checkPart 3 none (rmK 6 1 6) [.ref (y 0), .int x, .int z] (fun H => va_P D vwCl (Rw cO y sg d (nI n) wa) H) (fun v H0 H1 => v = none ∧ H1 = H0 ∧ isPt n x z) (pxI (isPt n x z)) 1 6 (fun _ => False) := by
  refine cx_of (by decide) (Nat.le_of_ble_eq_true rfl) ?_
  intro p e s m below meth c ls hx hb hr hml hown hts hlocks hout hE hpre hl
  have hown : s.vm.findClass "LevelRows" = some m.cls := hown
  have hK := hE.1
  have hl : lv_has ls 3 [(0, .ref (y 0)), (1, .int x), (2, .int z)] := hl
  have hP : va_P D vwCl [(y 0, .inr (2, [.int sg, .ref (y 7), .int (nI n), .int wa, .ref (y 1), .ref (y 2), .ref (y 3), .ref (y 4), .ref (y 5), .ref (y 6)])), (y 7, .inl (cO, d, .inr (.inr (.inr (.inr (fun i => some (y (8 + 3 * i))))))))] s.heap := hpre
  have hS : va_S (fun _ => False) s.heap s.heap [] := va_S.rf
  have hAB : ∀ q : Nat, (fun _ : Nat => False) q → B0 ≤ q := fun _ h => h.elim
  refine lv_iload_n hx hb d_R_checkPart_0 rfl (lv_at hl 1 rfl) ?_
  refine lv_if_lt (tgt := 17) hx hb d_R_checkPart_1 (by decide) (fun h1 => ?_) (fun h1 => ?_)
  · exact ct_thr hx hb hl9 hown hts hE hS hAB (by rw [hml]; exact hl.1) (by decide +kernel) (at_I hts hE.2.1) ot_I x_191 x_10 x_310 d_R_checkPart_17 d_R_checkPart_20 d_R_checkPart_21 d_R_checkPart_23 d_R_checkPart_26 hout (by decide) (Nat.le_of_ble_eq_true rfl) (by decide) (by decide) hlocks (fun H1 hf => ⟨rfl, fun h => h.1 h1, hf⟩) hS.2.2 (by decide) (by decide)
  · refine lv_iload_n hx hb d_R_checkPart_4 rfl (lv_at hl 2 rfl) ?_
    refine lv_iload_n hx hb d_R_checkPart_5 rfl (lv_at hl 1 rfl) ?_
    refine lv_icmp_lt (tgt := 17) hx hb d_R_checkPart_6 (by decide) (fun h2 => ?_) (fun h2 => ?_)
    · exact ct_thr hx hb hl9 hown hts hE hS hAB (by rw [hml]; exact hl.1) (by decide +kernel) (at_I hts hE.2.1) ot_I x_191 x_10 x_310 d_R_checkPart_17 d_R_checkPart_20 d_R_checkPart_21 d_R_checkPart_23 d_R_checkPart_26 hout (by decide) (Nat.le_of_ble_eq_true rfl) (by decide) (by decide) hlocks (fun H1 hf => ⟨rfl, fun h => h.2.1 h2, hf⟩) hS.2.2 (by decide) (by decide)
    · refine lv_iload_n hx hb d_R_checkPart_9 rfl (lv_at hl 2 rfl) ?_
      refine lv_aload_n hx hb d_R_checkPart_10 rfl (lv_at hl 0 rfl) ?_
      refine va_get (D := D) (ci := 2) (v := .int (nI n)) (C := n_R) (T := f_R) (N := 10) hx hb hts in_R hown hK hP 0 rfl rfl 2 (by decide) (hts _ x_84) (fun _ h9 => h9) rfl d_R_checkPart_11 ?_
      refine lv_icmp_le (tgt := 27) hx hb d_R_checkPart_14 (by decide) (fun h3 => ?_) (fun h3 => ?_)
      · refine vx_ret (W.widen (k := 1) (n := 6) (by decide) (by decide) ?_)
        exact W.vret hx hb hr (fun t ht hW => ⟨_, rfl, rfl, ht, h1, h2, Int32.not_lt.mpr h3⟩) (fun _ h => nomatch h) d_R_checkPart_27
      · exact ct_thr hx hb hl9 hown hts hE hS hAB (by rw [hml]; exact hl.1) (by decide +kernel) (at_I hts hE.2.1) ot_I x_191 x_10 x_310 d_R_checkPart_17 d_R_checkPart_20 d_R_checkPart_21 d_R_checkPart_23 d_R_checkPart_26 hout (by decide) (Nat.le_of_ble_eq_true rfl) (by decide) (by decide) hlocks (fun H1 hf => ⟨rfl, fun h => h3 (Int32.not_lt.mp h.2.2), hf⟩) hS.2.2 (by decide) (by decide)
set_option maxHeartbeats 4000000 in
set_option maxRecDepth 100000 in
theorem m_R_checkNotNegative {l : Launch} {D : va_G} {cI cJ cS cO : ClassId} {B0 : Nat} (hl9 : l.stackTraces = false) (x : Int32) : CX l D (tyL cI cJ cS cO) B0 y_R_checkNotNegative c_R_checkNotNegative 1 none (rmK 6 1 6) [.int x] (fun _ => True) (fun v H0 H1 => v = none ∧ H1 = H0 ∧ ¬ x < 0) (pxI (¬ x < 0)) 1 6 (fun _ => False) := by
  refine cx_of (by decide) (Nat.le_of_ble_eq_true rfl) ?_
  intro p e s m below meth c ls hx hb hr hml hown hts hlocks hout hE hpre hl
  have hown : s.vm.findClass "LevelRows" = some m.cls := hown
  have hK := hE.1
  have hl : lv_has ls 1 [(0, .int x)] := hl
  have hS : va_S (fun _ => False) s.heap s.heap [] := va_S.rf
  have hAB : ∀ q : Nat, (fun _ : Nat => False) q → B0 ≤ q := fun _ h => h.elim
  refine lv_iload_n hx hb d_R_checkNotNegative_0 rfl (lv_at hl 0 rfl) ?_
  refine lv_if_ge (tgt := 14) hx hb d_R_checkNotNegative_1 (by decide) (fun h1 => ?_) (fun h1 => ?_)
  · refine vx_ret (W.widen (k := 1) (n := 6) (by decide) (by decide) ?_)
    exact W.vret hx hb hr (fun t ht hW => ⟨_, rfl, rfl, ht, Int32.not_lt.mpr h1⟩) (fun _ h => nomatch h) d_R_checkNotNegative_14
  · exact ct_thr hx hb hl9 hown hts hE hS hAB (by rw [hml]; exact hl.1) (by decide +kernel) (at_I hts hE.2.1) ot_I x_191 x_10 x_342 d_R_checkNotNegative_4 d_R_checkNotNegative_7 d_R_checkNotNegative_8 d_R_checkNotNegative_10 d_R_checkNotNegative_13 hout (by decide) (Nat.le_of_ble_eq_true rfl) (by decide) (by decide) hlocks (fun H1 hf => ⟨rfl, fun h => h1 (Int32.not_lt.mp h), hf⟩) hS.2.2 (by decide) (by decide)
