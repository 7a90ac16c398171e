/-! PART: span, length, zeros, enter, split. -/
set_option maxHeartbeats 4000000 in
set_option maxRecDepth 100000 in
theorem m_P_span {l : Launch} {D : va_G} {cI cJ cS cO : ClassId} {B0 : Nat} {ap : Nat} {f0 f1 f2 f3 f4 f5 : Int32} (x y : Int32) : CM l D (tyL cI cJ cS cO) B0 y_P_span c_P_span 3 none (rmK 0 0 0) [.ref ap, .int x, .int y] (fun H => va_P D vwCl (Pw ap f0 f1 f2 f3 f4 f5) H) (fun v H0 H1 => v = none ∧ fr (fun q => q = ap) H0 H1 ∧ va_P D vwCl (Pw ap x y f2 f3 f4 f5) H1) 0 0 (fun q => q = ap) := by
  refine cm_of (by decide) (Nat.le_of_ble_eq_true rfl) ?_
  intro p e s m below meth c ls hx hb hr hml hown hts hlocks hnm hE hpre hl
  have hown : s.vm.findClass "LevelRows$Part" = some m.cls := hown
  have hK := hE.1
  have hl : lv_has ls 3 [(0, .ref ap), (1, .int x), (2, .int y)] := hl
  have hS : va_S (fun q => q = ap) s.heap s.heap [] := va_S.rf
  have hP : va_P D vwCl [(ap, .inr (1, [.int f0, .int f1, .int f2, .int f3, .int f4, .int f5]))] s.heap := hpre
  have hD : va_D (fun q => q = ap) [(ap, .inr (1, [.int f0, .int f1, .int f2, .int f3, .int f4, .int f5]))] := va_D.one rfl
  refine lv_aload_n hx hb d_P_span_0 rfl (lv_at hl 0 rfl) ?_
  refine lv_iload_n hx hb d_P_span_1 rfl (lv_at hl 1 rfl) ?_
  refine va_put (D := D) (ci := 1) (v := .int x) (ty := .int) (C := n_P) (T := f_P) (N := 6) hx hb hts in_P t_P ty_P nm_P hown hK hP hD hS 0 rfl rfl 0 (by decide) (hts _ x_30) (fun _ h9 => h9) rfl (by decide +kernel) rfl rfl (Nat.le_of_ble_eq_true rfl) d_P_span_2 (fun H locs hP hD hS => ?_)
  have hP : va_P D vwCl [(ap, .inr (1, [.int x, .int f1, .int f2, .int f3, .int f4, .int f5]))] H := hP
  have hD : va_D (fun q => q = ap) [(ap, .inr (1, [.int x, .int f1, .int f2, .int f3, .int f4, .int f5]))] := hD
  refine lv_aload_n hx hb d_P_span_5 rfl (lv_at hl 0 rfl) ?_
  refine lv_iload_n hx hb d_P_span_6 rfl (lv_at hl 2 rfl) ?_
  refine va_put (D := D) (ci := 1) (v := .int y) (ty := .int) (C := n_P) (T := f_P) (N := 6) hx hb hts in_P t_P ty_P nm_P hown hK hP hD hS 0 rfl rfl 1 (by decide) (hts _ x_32) (fun _ h9 => h9) rfl (by decide +kernel) rfl rfl (Nat.le_of_ble_eq_true rfl) d_P_span_7 (fun H locs hP hD hS => ?_)
  have hP : va_P D vwCl [(ap, .inr (1, [.int x, .int y, .int f2, .int f3, .int f4, .int f5]))] H := hP
  have hD : va_D (fun q => q = ap) [(ap, .inr (1, [.int x, .int y, .int f2, .int f3, .int f4, .int f5]))] := hD
  exact W.vret hx hb hr (fun t ht hW => ⟨_, rfl, by rw [ht]; exact ⟨rfl, fr.of hS, hP⟩⟩) hS.2.2 d_P_span_10
set_option maxHeartbeats 4000000 in
set_option maxRecDepth 100000 in
theorem m_P_length {l : Launch} {D : va_G} {cI cJ cS cO : ClassId} {B0 : Nat} {ap : Nat} {f0 f1 f2 f3 f4 f5 : Int32} : CM l D (tyL cI cJ cS cO) B0 y_P_length c_P_length 1 (some .int) (rmK 0 0 0) [.ref ap] (fun H => va_P D vwCl (Pw ap f0 f1 f2 f3 f4 f5) H) (fun v H0 H1 => v = some (.int (f1 - f0)) ∧ H1 = H0) 0 0 (fun _ => False) := by
  refine cm_of (by decide) (Nat.le_of_ble_eq_true rfl) ?_
  intro p e s m below meth c ls hx hb hr hml hown hts hlocks hnm hE hpre hl
  have hown : s.vm.findClass "LevelRows$Part" = some m.cls := hown
  have hK := hE.1
  have hl : lv_has ls 1 [(0, .ref ap)] := hl
  have hP : va_P D vwCl [(ap, .inr (1, [.int f0, .int f1, .int f2, .int f3, .int f4, .int f5]))] s.heap := hpre
  refine lv_aload_n hx hb d_P_length_0 rfl (lv_at hl 0 rfl) ?_
  refine va_get (D := D) (ci := 1) (v := .int f1) (C := n_P) (T := f_P) (N := 6) hx hb hts in_P hown hK hP 0 rfl rfl 1 (by decide) (hts _ x_32) (fun _ h9 => h9) rfl d_P_length_1 ?_
  refine lv_aload_n hx hb d_P_length_4 rfl (lv_at hl 0 rfl) ?_
  refine va_get (D := D) (ci := 1) (v := .int f0) (C := n_P) (T := f_P) (N := 6) hx hb hts in_P hown hK hP 0 rfl rfl 0 (by decide) (hts _ x_30) (fun _ h9 => h9) rfl d_P_length_5 ?_
  refine lv_isub hx hb d_P_length_8 ?_
  exact W.iret (v := f1 - f0) hx hb hr (fun t ht hW => ⟨_, rfl, rfl, ht⟩) (fun _ h => nomatch h) d_P_length_9
set_option maxHeartbeats 4000000 in
set_option maxRecDepth 100000 in
theorem m_P_zeros {l : Launch} {D : va_G} {cI cJ cS cO : ClassId} {B0 : Nat} {ap : Nat} {f0 f1 f2 f3 f4 f5 : Int32} : CM l D (tyL cI cJ cS cO) B0 y_P_zeros c_P_zeros 1 (some .int) (rmK 0 0 0) [.ref ap] (fun H => va_P D vwCl (Pw ap f0 f1 f2 f3 f4 f5) H) (fun v H0 H1 => v = some (.int (f3 - f2)) ∧ H1 = H0) 0 0 (fun _ => False) := by
  refine cm_of (by decide) (Nat.le_of_ble_eq_true rfl) ?_
  intro p e s m below meth c ls hx hb hr hml hown hts hlocks hnm hE hpre hl
  have hown : s.vm.findClass "LevelRows$Part" = some m.cls := hown
  have hK := hE.1
  have hl : lv_has ls 1 [(0, .ref ap)] := hl
  have hP : va_P D vwCl [(ap, .inr (1, [.int f0, .int f1, .int f2, .int f3, .int f4, .int f5]))] s.heap := hpre
  refine lv_aload_n hx hb d_P_zeros_0 rfl (lv_at hl 0 rfl) ?_
  refine va_get (D := D) (ci := 1) (v := .int f3) (C := n_P) (T := f_P) (N := 6) hx hb hts in_P hown hK hP 0 rfl rfl 3 (by decide) (hts _ x_34) (fun _ h9 => h9) rfl d_P_zeros_1 ?_
  refine lv_aload_n hx hb d_P_zeros_4 rfl (lv_at hl 0 rfl) ?_
  refine va_get (D := D) (ci := 1) (v := .int f2) (C := n_P) (T := f_P) (N := 6) hx hb hts in_P hown hK hP 0 rfl rfl 2 (by decide) (hts _ x_33) (fun _ h9 => h9) rfl d_P_zeros_5 ?_
  refine lv_isub hx hb d_P_zeros_8 ?_
  exact W.iret (v := f3 - f2) hx hb hr (fun t ht hW => ⟨_, rfl, rfl, ht⟩) (fun _ h => nomatch h) d_P_zeros_9
set_option maxHeartbeats 4000000 in
set_option maxRecDepth 100000 in
theorem m_P_enter0 {l : Launch} {D : va_G} {cI cJ cS cO : ClassId} {B0 : Nat} {ap : Nat} {f0 f1 f2 f3 f4 f5 : Int32} : CM l D (tyL cI cJ cS cO) B0 y_P_enter c_P_enter 2 none (rmK 0 0 0) [.ref ap, .int (nI 0)] (fun H => va_P D vwCl (Pw ap f0 f1 f2 f3 f4 f5) H) (fun v H0 H1 => v = none ∧ fr (fun q => q = ap) H0 H1 ∧ va_P D vwCl (Pw ap f2 f3 f2 f3 f4 f5) H1) 0 0 (fun q => q = ap) := by
  refine cm_of (by decide) (Nat.le_of_ble_eq_true rfl) ?_
  intro p e s m below meth c ls hx hb hr hml hown hts hlocks hnm hE hpre hl
  have hown : s.vm.findClass "LevelRows$Part" = some m.cls := hown
  have hK := hE.1
  have hl : lv_has ls 2 [(0, .ref ap), (1, .int (nI 0))] := hl
  have hS : va_S (fun q => q = ap) s.heap s.heap [] := va_S.rf
  have hP : va_P D vwCl [(ap, .inr (1, [.int f0, .int f1, .int f2, .int f3, .int f4, .int f5]))] s.heap := hpre
  have hD : va_D (fun q => q = ap) [(ap, .inr (1, [.int f0, .int f1, .int f2, .int f3, .int f4, .int f5]))] := va_D.one rfl
  refine lv_aload_n hx hb d_P_enter_0 rfl (lv_at hl 0 rfl) ?_
  refine lv_iload_n hx hb d_P_enter_1 rfl (lv_at hl 1 rfl) ?_
  refine lv_if_ne (tgt := 12) hx hb d_P_enter_2 (by decide) (fun c9 => absurd (show nI 0 = 0 from nI_0) c9) (fun _ => ?_)
  refine lv_aload_n hx hb d_P_enter_5 rfl (lv_at hl 0 rfl) ?_
  refine va_get (D := D) (ci := 1) (v := .int f2) (C := n_P) (T := f_P) (N := 6) hx hb hts in_P hown hK hP 0 rfl rfl 2 (by decide) (hts _ x_33) (fun _ h9 => h9) rfl d_P_enter_6 ?_
  refine lv_goto (tgt := 16) hx hb d_P_enter_9 (by decide) ?_
  refine va_put (D := D) (ci := 1) (v := .int f2) (ty := .int) (C := n_P) (T := f_P) (N := 6) hx hb hts in_P t_P ty_P nm_P hown hK hP hD hS 0 rfl rfl 0 (by decide) (hts _ x_30) (fun _ h9 => h9) rfl (by decide +kernel) rfl rfl (Nat.le_of_ble_eq_true rfl) d_P_enter_16 (fun H locs hP hD hS => ?_)
  have hP : va_P D vwCl [(ap, .inr (1, [.int f2, .int f1, .int f2, .int f3, .int f4, .int f5]))] H := hP
  have hD : va_D (fun q => q = ap) [(ap, .inr (1, [.int f2, .int f1, .int f2, .int f3, .int f4, .int f5]))] := hD
  refine lv_aload_n hx hb d_P_enter_19 rfl (lv_at hl 0 rfl) ?_
  refine lv_iload_n hx hb d_P_enter_20 rfl (lv_at hl 1 rfl) ?_
  refine lv_if_ne (tgt := 31) hx hb d_P_enter_21 (by decide) (fun c9 => absurd (show nI 0 = 0 from nI_0) c9) (fun _ => ?_)
  refine lv_aload_n hx hb d_P_enter_24 rfl (lv_at hl 0 rfl) ?_
  refine va_get (D := D) (ci := 1) (v := .int f3) (C := n_P) (T := f_P) (N := 6) hx hb hts in_P hown hK hP 0 rfl rfl 3 (by decide) (hts _ x_34) (fun _ h9 => h9) rfl d_P_enter_25 ?_
  refine lv_goto (tgt := 35) hx hb d_P_enter_28 (by decide) ?_
  refine va_put (D := D) (ci := 1) (v := .int f3) (ty := .int) (C := n_P) (T := f_P) (N := 6) hx hb hts in_P t_P ty_P nm_P hown hK hP hD hS 0 rfl rfl 1 (by decide) (hts _ x_32) (fun _ h9 => h9) rfl (by decide +kernel) rfl rfl (Nat.le_of_ble_eq_true rfl) d_P_enter_35 (fun H locs hP hD hS => ?_)
  have hP : va_P D vwCl [(ap, .inr (1, [.int f2, .int f3, .int f2, .int f3, .int f4, .int f5]))] H := hP
  have hD : va_D (fun q => q = ap) [(ap, .inr (1, [.int f2, .int f3, .int f2, .int f3, .int f4, .int f5]))] := hD
  exact W.vret hx hb hr (fun t ht hW => ⟨_, rfl, by rw [ht]; exact ⟨rfl, fr.of hS, hP⟩⟩) hS.2.2 d_P_enter_38
set_option maxHeartbeats 4000000 in
set_option maxRecDepth 100000 in
theorem m_P_enter1 {l : Launch} {D : va_G} {cI cJ cS cO : ClassId} {B0 : Nat} {ap : Nat} {f0 f1 f2 f3 f4 f5 : Int32} : CM l D (tyL cI cJ cS cO) B0 y_P_enter c_P_enter 2 none (rmK 0 0 0) [.ref ap, .int (nI 1)] (fun H => va_P D vwCl (Pw ap f0 f1 f2 f3 f4 f5) H) (fun v H0 H1 => v = none ∧ fr (fun q => q = ap) H0 H1 ∧ va_P D vwCl (Pw ap f4 f5 f2 f3 f4 f5) H1) 0 0 (fun q => q = ap) := by
  refine cm_of (by decide) (Nat.le_of_ble_eq_true rfl) ?_
  intro p e s m below meth c ls hx hb hr hml hown hts hlocks hnm hE hpre hl
  have hown : s.vm.findClass "LevelRows$Part" = some m.cls := hown
  have hK := hE.1
  have hl : lv_has ls 2 [(0, .ref ap), (1, .int (nI 1))] := hl
  have hS : va_S (fun q => q = ap) s.heap s.heap [] := va_S.rf
  have hP : va_P D vwCl [(ap, .inr (1, [.int f0, .int f1, .int f2, .int f3, .int f4, .int f5]))] s.heap := hpre
  have hD : va_D (fun q => q = ap) [(ap, .inr (1, [.int f0, .int f1, .int f2, .int f3, .int f4, .int f5]))] := va_D.one rfl
  refine lv_aload_n hx hb d_P_enter_0 rfl (lv_at hl 0 rfl) ?_
  refine lv_iload_n hx hb d_P_enter_1 rfl (lv_at hl 1 rfl) ?_
  refine lv_if_ne (tgt := 12) hx hb d_P_enter_2 (by decide) (fun _ => ?_) (fun c9 => absurd c9 (show ¬ nI 1 = 0 by decide))
  refine lv_aload_n hx hb d_P_enter_12 rfl (lv_at hl 0 rfl) ?_
  refine va_get (D := D) (ci := 1) (v := .int f4) (C := n_P) (T := f_P) (N := 6) hx hb hts in_P hown hK hP 0 rfl rfl 4 (by decide) (hts _ x_35) (fun _ h9 => h9) rfl d_P_enter_13 ?_
  refine va_put (D := D) (ci := 1) (v := .int f4) (ty := .int) (C := n_P) (T := f_P) (N := 6) hx hb hts in_P t_P ty_P nm_P hown hK hP hD hS 0 rfl rfl 0 (by decide) (hts _ x_30) (fun _ h9 => h9) rfl (by decide +kernel) rfl rfl (Nat.le_of_ble_eq_true rfl) d_P_enter_16 (fun H locs hP hD hS => ?_)
  have hP : va_P D vwCl [(ap, .inr (1, [.int f4, .int f1, .int f2, .int f3, .int f4, .int f5]))] H := hP
  have hD : va_D (fun q => q = ap) [(ap, .inr (1, [.int f4, .int f1, .int f2, .int f3, .int f4, .int f5]))] := hD
  refine lv_aload_n hx hb d_P_enter_19 rfl (lv_at hl 0 rfl) ?_
  refine lv_iload_n hx hb d_P_enter_20 rfl (lv_at hl 1 rfl) ?_
  refine lv_if_ne (tgt := 31) hx hb d_P_enter_21 (by decide) (fun _ => ?_) (fun c9 => absurd c9 (show ¬ nI 1 = 0 by decide))
  refine lv_aload_n hx hb d_P_enter_31 rfl (lv_at hl 0 rfl) ?_
  refine va_get (D := D) (ci := 1) (v := .int f5) (C := n_P) (T := f_P) (N := 6) hx hb hts in_P hown hK hP 0 rfl rfl 5 (by decide) (hts _ x_36) (fun _ h9 => h9) rfl d_P_enter_32 ?_
  refine va_put (D := D) (ci := 1) (v := .int f5) (ty := .int) (C := n_P) (T := f_P) (N := 6) hx hb hts in_P t_P ty_P nm_P hown hK hP hD hS 0 rfl rfl 1 (by decide) (hts _ x_32) (fun _ h9 => h9) rfl (by decide +kernel) rfl rfl (Nat.le_of_ble_eq_true rfl) d_P_enter_35 (fun H locs hP hD hS => ?_)
  have hP : va_P D vwCl [(ap, .inr (1, [.int f4, .int f5, .int f2, .int f3, .int f4, .int f5]))] H := hP
  have hD : va_D (fun q => q = ap) [(ap, .inr (1, [.int f4, .int f5, .int f2, .int f3, .int f4, .int f5]))] := hD
  exact W.vret hx hb hr (fun t ht hW => ⟨_, rfl, by rw [ht]; exact ⟨rfl, fr.of hS, hP⟩⟩) hS.2.2 d_P_enter_38
set_option maxHeartbeats 4000000 in
set_option maxRecDepth 100000 in
theorem m_P_split {l : Launch} {D : va_G} {cI cJ cS cO : ClassId} {B0 : Nat} {ap : Nat} {f2 f3 f4 f5 : Int32} {a0 a1 a2 : Nat} {ja : Nat → Int64} {oa : Nat → Int32} {z : Int32} {t : Nat → Bool} {L : List Nat} (ok : LvOk t L ja oa z) (hL : L.length ≤ 1000) (x y : Nat) (hx0 : x ≤ L.length) (hy0 : y ≤ L.length) (hB : B0 ≤ ap) (h0 : a0 ≠ ap) (h1 : a1 ≠ ap) (h2 : a2 ≠ ap) : CM l D (tyL cI cJ cS cO) B0 y_P_split c_P_split 2 none (rmK 3 0 0) [.ref ap, .ref a0] (fun H => va_P D vwCl (Pw ap (nI x) (nI y) f2 f3 f4 f5) H ∧ va_P D vwCl (Lw cJ cS a0 a1 a2 ja oa z) H) (fun v H0 H1 => v = none ∧ fr (fun q => q = ap) H0 H1 ∧ va_P D vwCl (Pw ap (nI x) (nI y) (nI (z0 t L x)) (nI (z0 t L y)) (nI (z0 t L L.length + z1 t L x)) (nI (z0 t L L.length + z1 t L y))) H1) 0 0 (fun q => q = ap) := by
  refine cm_of (by decide) (Nat.le_of_ble_eq_true rfl) ?_
  intro p e s m below meth c ls hx hb hr hml hown hts hlocks hnm hE hpre hl
  have hown : s.vm.findClass "LevelRows$Part" = some m.cls := hown
  have hK := hE.1
  have hl : lv_has ls 2 [(0, .ref ap), (1, .ref a0)] := hl
  have hS : va_S (fun q => q = ap) s.heap s.heap [] := va_S.rf
  have hP : va_P D vwCl [(ap, .inr (1, [.int (nI x), .int (nI y), .int f2, .int f3, .int f4, .int f5]))] s.heap := hpre.1
  have hD : va_D (fun q => q = ap) [(ap, .inr (1, [.int (nI x), .int (nI y), .int f2, .int f3, .int f4, .int f5]))] := va_D.one rfl
  have hL9 := hL
  have hL0 := hpre.2
  have hLd : ∀ (k : Nat) (q : Nat × va_E), (Lw cJ cS a0 a1 a2 ja oa z)[k]? = some q → ¬ q.1 = ap := Lw.off h0 h1 h2
  have hL : va_P D vwCl (Lw cJ cS a0 a1 a2 ja oa z) s.heap := hL0
  have hAB : ∀ q : Nat, q = ap → B0 ≤ q := fun q h => by rw [h]; exact hB
  have hzx := z01 t hx0
  have hzy := z01 t hy0
  refine lv_aload_n hx hb d_P_split_0 rfl (lv_at hl 0 rfl) ?_
  refine lv_aload_n hx hb d_P_split_1 rfl (lv_at hl 1 rfl) ?_
  refine lv_aload_n hx hb d_P_split_2 rfl (lv_at hl 0 rfl) ?_
  refine va_get (D := D) (ci := 1) (v := .int (nI x)) (C := n_P) (T := f_P) (N := 6) hx hb hts in_P hown hK hP 0 rfl rfl 0 (by decide) (hts _ x_30) (fun _ h9 => h9) rfl d_P_split_3 ?_
  refine cm_read (va_runV (As := [.int (nI x)]) (rest := [.ref ap]) ⟨hx, hb, hml, hown, hts⟩ (m_L_zerosTo ok hL9 x hx0) ⟨ct_cb 1 hts x_132 x_323 x_5 rfl rfl (by decide +kernel) ⟨by decide, by decide⟩, hts _ x_130, hts _ x_131⟩ ⟨st_blind, va_recv hK hL (ci := 0) (q0 := 0) rfl rfl, fun U hU hW => ⟨rfl, hE.at hS hAB hU hW, by rw [hU]; exact hL⟩⟩ rfl rfl hl.1 rfl (lv_room (Nat.le_of_ble_eq_true rfl)) d_P_split_6 ⟨by decide, by decide⟩) (fun v hv => ?_)
  subst hv
  refine W.eq (g2 := F0 m 9 ls [.int (nI (z0 t L x)), .ref ap]) rfl ?_
  refine va_put (D := D) (ci := 1) (v := .int (nI (z0 t L x))) (ty := .int) (C := n_P) (T := f_P) (N := 6) hx hb hts in_P t_P ty_P nm_P hown hK hP hD hS 0 rfl rfl 2 (by decide) (hts _ x_33) (fun _ h9 => h9) rfl (by decide +kernel) rfl rfl (Nat.le_of_ble_eq_true rfl) d_P_split_9 (fun H locs hP hD hS => ?_)
  have hP : va_P D vwCl [(ap, .inr (1, [.int (nI x), .int (nI y), .int (nI (z0 t L x)), .int f3, .int f4, .int f5]))] H := hP
  have hD : va_D (fun q => q = ap) [(ap, .inr (1, [.int (nI x), .int (nI y), .int (nI (z0 t L x)), .int f3, .int f4, .int f5]))] := hD
  have hL := hL0.rd hS hLd
  refine lv_aload_n hx hb d_P_split_12 rfl (lv_at hl 0 rfl) ?_
  refine lv_aload_n hx hb d_P_split_13 rfl (lv_at hl 1 rfl) ?_
  refine lv_aload_n hx hb d_P_split_14 rfl (lv_at hl 0 rfl) ?_
  refine va_get (D := D) (ci := 1) (v := .int (nI y)) (C := n_P) (T := f_P) (N := 6) hx hb hts in_P hown hK hP 0 rfl rfl 1 (by decide) (hts _ x_32) (fun _ h9 => h9) rfl d_P_split_15 ?_
  refine cm_read (va_runV (As := [.int (nI y)]) (rest := [.ref ap]) ⟨hx, hb, hml, hown, hts⟩ (m_L_zerosTo ok hL9 y hy0) ⟨ct_cb 1 hts x_132 x_323 x_5 rfl rfl (by decide +kernel) ⟨by decide, by decide⟩, hts _ x_130, hts _ x_131⟩ ⟨st_blind, va_recv hK hL (ci := 0) (q0 := 0) rfl rfl, fun U hU hW => ⟨rfl, hE.at hS hAB hU hW, by rw [hU]; exact hL⟩⟩ rfl rfl hl.1 rfl (lv_room (Nat.le_of_ble_eq_true rfl)) d_P_split_18 ⟨by decide, by decide⟩) (fun v hv => ?_)
  subst hv
  refine W.eq (g2 := F0 m 21 ls [.int (nI (z0 t L y)), .ref ap]) rfl ?_
  refine va_put (D := D) (ci := 1) (v := .int (nI (z0 t L y))) (ty := .int) (C := n_P) (T := f_P) (N := 6) hx hb hts in_P t_P ty_P nm_P hown hK hP hD hS 0 rfl rfl 3 (by decide) (hts _ x_34) (fun _ h9 => h9) rfl (by decide +kernel) rfl rfl (Nat.le_of_ble_eq_true rfl) d_P_split_21 (fun H locs hP hD hS => ?_)
  have hP : va_P D vwCl [(ap, .inr (1, [.int (nI x), .int (nI y), .int (nI (z0 t L x)), .int (nI (z0 t L y)), .int f4, .int f5]))] H := hP
  have hD : va_D (fun q => q = ap) [(ap, .inr (1, [.int (nI x), .int (nI y), .int (nI (z0 t L x)), .int (nI (z0 t L y)), .int f4, .int f5]))] := hD
  have hL := hL0.rd hS hLd
  refine lv_aload_n hx hb d_P_split_24 rfl (lv_at hl 0 rfl) ?_
  refine lv_aload_n hx hb d_P_split_25 rfl (lv_at hl 1 rfl) ?_
  refine va_getN (D := D) (ci := 0) (v := .int z) (C := n_L) (T := f_L) (N := 3) hx hb hts in_L hown hK hL 0 rfl rfl 2 (by decide) (va_Nw.use rfl (hE.2.1 _ x_72)) (fun _ h9 => h9) rfl d_P_split_26 ?_
  refine lv_aload_n hx hb d_P_split_29 rfl (lv_at hl 0 rfl) ?_
  refine va_get (D := D) (ci := 1) (v := .int (nI x)) (C := n_P) (T := f_P) (N := 6) hx hb hts in_P hown hK hP 0 rfl rfl 0 (by decide) (hts _ x_30) (fun _ h9 => h9) rfl d_P_split_30 ?_
  refine lv_iadd hx hb d_P_split_33 ?_
  refine lv_aload_n hx hb d_P_split_34 rfl (lv_at hl 0 rfl) ?_
  refine va_get (D := D) (ci := 1) (v := .int (nI (z0 t L x))) (C := n_P) (T := f_P) (N := 6) hx hb hts in_P hown hK hP 0 rfl rfl 2 (by decide) (hts _ x_33) (fun _ h9 => h9) rfl d_P_split_35 ?_
  refine lv_isub hx hb d_P_split_38 ?_
  refine ct_topi (x' := nI (z0 t L L.length + z1 t L x)) (by rw [ok.2.2, nI_add, pk_sub (by omega)]; congr 1; omega) ?_
  refine va_put (D := D) (ci := 1) (v := .int (nI (z0 t L L.length + z1 t L x))) (ty := .int) (C := n_P) (T := f_P) (N := 6) hx hb hts in_P t_P ty_P nm_P hown hK hP hD hS 0 rfl rfl 4 (by decide) (hts _ x_35) (fun _ h9 => h9) rfl (by decide +kernel) rfl rfl (Nat.le_of_ble_eq_true rfl) d_P_split_39 (fun H locs hP hD hS => ?_)
  have hP : va_P D vwCl [(ap, .inr (1, [.int (nI x), .int (nI y), .int (nI (z0 t L x)), .int (nI (z0 t L y)), .int (nI (z0 t L L.length + z1 t L x)), .int f5]))] H := hP
  have hD : va_D (fun q => q = ap) [(ap, .inr (1, [.int (nI x), .int (nI y), .int (nI (z0 t L x)), .int (nI (z0 t L y)), .int (nI (z0 t L L.length + z1 t L x)), .int f5]))] := hD
  have hL := hL0.rd hS hLd
  refine lv_aload_n hx hb d_P_split_42 rfl (lv_at hl 0 rfl) ?_
  refine lv_aload_n hx hb d_P_split_43 rfl (lv_at hl 1 rfl) ?_
  refine va_getN (D := D) (ci := 0) (v := .int z) (C := n_L) (T := f_L) (N := 3) hx hb hts in_L hown hK hL 0 rfl rfl 2 (by decide) (va_Nw.use rfl (hE.2.1 _ x_72)) (fun _ h9 => h9) rfl d_P_split_44 ?_
  refine lv_aload_n hx hb d_P_split_47 rfl (lv_at hl 0 rfl) ?_
  refine va_get (D := D) (ci := 1) (v := .int (nI y)) (C := n_P) (T := f_P) (N := 6) hx hb hts in_P hown hK hP 0 rfl rfl 1 (by decide) (hts _ x_32) (fun _ h9 => h9) rfl d_P_split_48 ?_
  refine lv_iadd hx hb d_P_split_51 ?_
  refine lv_aload_n hx hb d_P_split_52 rfl (lv_at hl 0 rfl) ?_
  refine va_get (D := D) (ci := 1) (v := .int (nI (z0 t L y))) (C := n_P) (T := f_P) (N := 6) hx hb hts in_P hown hK hP 0 rfl rfl 3 (by decide) (hts _ x_34) (fun _ h9 => h9) rfl d_P_split_53 ?_
  refine lv_isub hx hb d_P_split_56 ?_
  refine ct_topi (x' := nI (z0 t L L.length + z1 t L y)) (by rw [ok.2.2, nI_add, pk_sub (by omega)]; congr 1; omega) ?_
  refine va_put (D := D) (ci := 1) (v := .int (nI (z0 t L L.length + z1 t L y))) (ty := .int) (C := n_P) (T := f_P) (N := 6) hx hb hts in_P t_P ty_P nm_P hown hK hP hD hS 0 rfl rfl 5 (by decide) (hts _ x_36) (fun _ h9 => h9) rfl (by decide +kernel) rfl rfl (Nat.le_of_ble_eq_true rfl) d_P_split_57 (fun H locs hP hD hS => ?_)
  have hP : va_P D vwCl [(ap, .inr (1, [.int (nI x), .int (nI y), .int (nI (z0 t L x)), .int (nI (z0 t L y)), .int (nI (z0 t L L.length + z1 t L x)), .int (nI (z0 t L L.length + z1 t L y))]))] H := hP
  have hD : va_D (fun q => q = ap) [(ap, .inr (1, [.int (nI x), .int (nI y), .int (nI (z0 t L x)), .int (nI (z0 t L y)), .int (nI (z0 t L L.length + z1 t L x)), .int (nI (z0 t L L.length + z1 t L y))]))] := hD
  have hL := hL0.rd hS hLd
  exact W.vret hx hb hr (fun t ht hW => ⟨_, rfl, by rw [ht]; exact ⟨rfl, fr.of hS, hP⟩⟩) hS.2.2 d_P_split_60
