/-! LEVEL: onesTo, zerosTo, placeBelow. -/
theorem minN {a b : Nat} (h : a ≤ b) (hb : b < 2 ^ 31) : (if nI b < nI a then nI b else nI a) = nI a := if_neg (nI_nlt h hb)
set_option maxHeartbeats 4000000 in
set_option maxRecDepth 100000 in
theorem m_L_onesTo {l : Launch} {D : va_G} {cI cJ cS cO : ClassId} {B0 : Nat} {a0 a1 a2 : Nat} {ja : Nat → Int64} {oa : Nat → Int32} {z : Int32} {t : Nat → Bool} {L : List Nat} (ok : LvOk t L ja oa z) (hL : L.length ≤ 1000) (i : Nat) (hi : i ≤ L.length) : CM l D (tyL cI cJ cS cO) B0 y_L_onesTo c_L_onesTo 6 (some .int) (rmK 1 0 0) [.ref a0, .int (nI i)] (fun H => va_P D vwCl (Lw cJ cS a0 a1 a2 ja oa z) H) (fun v H0 H1 => v = some (.int (nI (z1 t L i))) ∧ H1 = H0) 0 0 (fun _ => False) := by
  refine cm_of (by decide) (Nat.le_of_ble_eq_true rfl) ?_
  intro p e s m below meth c ls hx hb hr hml hown hts hlocks hnm hE hpre hl
  have hown : s.vm.findClass "LevelRows$Level" = some m.cls := hown
  have hK := hE.1
  have hP : va_P D vwCl [(a0, .inr (0, [.ref a1, .ref a2, .int z])), (a1, .inl (cJ, 16, .inr (.inl (ja)))), (a2, .inl (cS, 16, .inl (oa)))] s.heap := hpre
  have hl : lv_has ls 6 [(0, .ref a0), (1, .int (nI i))] := hl
  have hS : va_S (fun _ => False) s.heap s.heap [] := va_S.rf
  have hAB : ∀ q : Nat, (fun _ : Nat => False) q → B0 ≤ q := fun _ h => h.elim
  refine lv_iload_n hx hb d_L_onesTo_0 rfl (lv_at hl 1 rfl) ?_
  rcases Nat.eq_zero_or_pos i with h0 | h0
  · subst h0
    refine lv_if_gt (tgt := 6) hx hb d_L_onesTo_1 (by decide) (fun c9 => absurd c9 (by rw [nI_0]; decide)) (fun _ => ?_)
    refine lv_iconst (v := 0) hx hb d_L_onesTo_4 (by decide) ?_
    exact W.iret (v := 0) hx hb hr (fun t ht hW => ⟨_, rfl, rfl, ht⟩) (fun _ h => nomatch h) d_L_onesTo_5
  · obtain ⟨i, rfl⟩ : ∃ j, i = j + 1 := ⟨i - 1, by omega⟩
    refine lv_if_gt (tgt := 6) hx hb d_L_onesTo_1 (by decide) (fun _ => ?_) (fun c9 => absurd (by rw [← nI_0]; exact nI_lt (by omega) (by omega)) c9)
    refine lv_iload_n hx hb d_L_onesTo_6 rfl (lv_at hl 1 rfl) ?_
    refine lv_sipush (v := 1000) hx hb d_L_onesTo_7 (by decide) ?_
    refine va_mmin hx hb (by rw [hml]; exact hl.1.symm) hown (hts _ x_137) (hts _ x_53) (hts _ x_3) (hts _ x_54) (by decide) (Nat.le_of_ble_eq_true rfl) (by decide) (by decide) d_L_onesTo_10 ?_
    refine ct_topi (x' := nI (i + 1)) (minN (b := 1000) (by omega) (by decide)) ?_
    refine lv_iconst (v := 1) hx hb d_L_onesTo_13 (by decide) ?_
    refine lv_isub hx hb d_L_onesTo_14 ?_
    refine ct_topi (x' := nI i) (nI_pred i) ?_
    refine lv_istore_n (lv' := [(2, .int (nI i)), (0, .ref a0), (1, .int (nI (i + 1)))]) hx hb d_L_onesTo_15 rfl hl (by decide) rfl (fun ls hl => ?_)
    refine lv_iload_n hx hb d_L_onesTo_16 rfl (lv_at hl 0 rfl) ?_
    refine lv_bipush (v := 6) hx hb d_L_onesTo_17 (by decide) ?_
    refine lv_ishr hx hb d_L_onesTo_19 ?_
    refine ct_topi (x' := nI (i / 64)) (pk_shrN (by omega) _ 6 (by decide)) ?_
    refine lv_istore_n (lv' := [(3, .int (nI (i / 64))), (2, .int (nI i)), (0, .ref a0), (1, .int (nI (i + 1)))]) hx hb d_L_onesTo_20 rfl hl (by decide) rfl (fun ls hl => ?_)
    refine lv_aload_n hx hb d_L_onesTo_21 rfl (lv_at hl 2 rfl) ?_
    refine va_get (D := D) (ci := 0) (v := .ref a1) (C := n_L) (T := f_L) (N := 3) hx hb hts in_L hown hK hP 0 rfl rfl 0 (by decide) (hts _ x_69) (fun _ h9 => h9) rfl d_L_onesTo_22 ?_
    refine lv_iload_n hx hb d_L_onesTo_25 rfl (lv_at hl 0 rfl) ?_
    refine va_lald hx hb hK hP 1 1 rfl rfl (vp_in_nI (by omega) (by decide)) d_L_onesTo_26 ?_
    refine ct_topl (x' := ja (i / 64)) (by rw [nI_clamp (by omega)]) ?_
    refine lv_bipush (v := 63) hx hb d_L_onesTo_27 (by decide) ?_
    refine lv_iload_n hx hb d_L_onesTo_29 rfl (lv_at hl 1 rfl) ?_
    refine lv_bipush (v := 64) hx hb d_L_onesTo_30 (by decide) ?_
    refine lv_irem hx hb d_L_onesTo_32 (by decide) ?_
    refine ct_topi (x' := nI (i % 64)) (pk_rem (d := 64) (by omega) (by decide) (by decide)) ?_
    refine lv_isub hx hb d_L_onesTo_33 ?_
    refine ct_topi (x' := nI (63 - i % 64)) (pk_sub (a := 63) (by omega)) ?_
    refine lv_lshl hx hb d_L_onesTo_34 rfl ?_
    refine ct_topl (x' := lN (uN64 (ja (i / 64)) * 2 ^ (63 - i % 64) % 2 ^ 64)) ((shl64 _ (by omega)).trans (wb_mod _)) ?_
    refine lv_lstore (lv' := [(4, .long (lN (uN64 (ja (i / 64)) * 2 ^ (63 - i % 64) % 2 ^ 64))), (3, .int (nI (i / 64))), (2, .int (nI i)), (0, .ref a0), (1, .int (nI (i + 1)))]) hx hb d_L_onesTo_35 hl (by decide) rfl (fun ls hl => ?_)
    refine lv_aload_n hx hb d_L_onesTo_37 rfl (lv_at hl 3 rfl) ?_
    refine va_get (D := D) (ci := 0) (v := .ref a2) (C := n_L) (T := f_L) (N := 3) hx hb hts in_L hown hK hP 0 rfl rfl 1 (by decide) (hts _ x_70) (fun _ h9 => h9) rfl d_L_onesTo_38 ?_
    refine lv_iload_n hx hb d_L_onesTo_41 rfl (lv_at hl 1 rfl) ?_
    refine va_sald hx hb hK hP 2 2 rfl rfl (vp_in_nI (by omega) (by decide)) d_L_onesTo_42 ?_
    refine ct_topi (x' := oa (i / 64)) (by rw [nI_clamp (by omega)]) ?_
    refine lv_lload hx hb d_L_onesTo_43 (lv_at hl 0 rfl) ?_
    refine cm_read (va_runS (As := [.long (lN (uN64 (ja (i / 64)) * 2 ^ (63 - i % 64) % 2 ^ 64))]) (rest := [.int (oa (i / 64))]) ⟨hx, hb, hml, hown, hts⟩ (m_J_bitCount _ (Nat.mod_lt _ (by decide))) ⟨ct_cb 1 hts x_140 x_138 x_13 rfl rfl (by decide +kernel) ⟨by decide, by decide⟩, hts _ x_139⟩ ⟨st_blind, fun U hU hW => ⟨rfl, hE.at hS hAB hU hW, by rw [hU]; exact trivial⟩⟩ rfl rfl hl.1 rfl (lv_room (Nat.le_of_ble_eq_true rfl)) d_L_onesTo_45 ⟨by decide, by decide⟩) (fun v hv => ?_)
    subst hv
    refine W.eq (g2 := F0 m 48 ls [.int (nI (pcl (uN64 (ja (i / 64)) * 2 ^ (63 - i % 64) % 2 ^ 64) 64)), .int (oa (i / 64))]) rfl ?_
    refine lv_iadd hx hb d_L_onesTo_48 ?_
    refine ct_topi (x' := nI (z1 t L (i + 1))) (ok.sum (by omega)) ?_
    exact W.iret (v := nI (z1 t L (i + 1))) hx hb hr (fun t ht hW => ⟨_, rfl, rfl, ht⟩) (fun _ h => nomatch h) d_L_onesTo_49
set_option maxHeartbeats 4000000 in
set_option maxRecDepth 100000 in
theorem m_L_zerosTo {l : Launch} {D : va_G} {cI cJ cS cO : ClassId} {B0 : Nat} {a0 a1 a2 : Nat} {ja : Nat → Int64} {oa : Nat → Int32} {z : Int32} {t : Nat → Bool} {L : List Nat} (ok : LvOk t L ja oa z) (hL : L.length ≤ 1000) (i : Nat) (hi : i ≤ L.length) : CM l D (tyL cI cJ cS cO) B0 y_L_zerosTo c_L_zerosTo 2 (some .int) (rmK 2 0 0) [.ref a0, .int (nI i)] (fun H => va_P D vwCl (Lw cJ cS a0 a1 a2 ja oa z) H) (fun v H0 H1 => v = some (.int (nI (z0 t L i))) ∧ H1 = H0) 0 0 (fun _ => False) := by
  refine cm_of (by decide) (Nat.le_of_ble_eq_true rfl) ?_
  intro p e s m below meth c ls hx hb hr hml hown hts hlocks hnm hE hpre hl
  have hown : s.vm.findClass "LevelRows$Level" = some m.cls := hown
  have hK := hE.1
  have hP : va_P D vwCl [(a0, .inr (0, [.ref a1, .ref a2, .int z])), (a1, .inl (cJ, 16, .inr (.inl (ja)))), (a2, .inl (cS, 16, .inl (oa)))] s.heap := hpre
  have hl : lv_has ls 2 [(0, .ref a0), (1, .int (nI i))] := hl
  have hS : va_S (fun _ => False) s.heap s.heap [] := va_S.rf
  have hAB : ∀ q : Nat, (fun _ : Nat => False) q → B0 ≤ q := fun _ h => h.elim
  refine lv_iload_n hx hb d_L_zerosTo_0 rfl (lv_at hl 1 rfl) ?_
  refine lv_aload_n hx hb d_L_zerosTo_1 rfl (lv_at hl 0 rfl) ?_
  refine lv_iload_n hx hb d_L_zerosTo_2 rfl (lv_at hl 1 rfl) ?_
  refine cm_read (va_runV (As := [.int (nI i)]) (rest := [.int (nI i)]) ⟨hx, hb, hml, hown, hts⟩ (m_L_onesTo ok hL i hi) ⟨ct_cb 1 hts x_136 x_133 x_5 rfl rfl (by decide +kernel) ⟨by decide, by decide⟩, hts _ x_135, hts _ s_L_onesTo⟩ ⟨st_blind, va_recv hK hP (ci := 0) (q0 := 0) rfl rfl, fun U hU hW => ⟨rfl, hE.at hS hAB hU hW, by rw [hU]; exact hpre⟩⟩ rfl rfl hl.1 rfl (lv_room (Nat.le_of_ble_eq_true rfl)) d_L_zerosTo_3 ⟨by decide, by decide⟩) (fun v hv => ?_)
  subst hv
  refine W.eq (g2 := F0 m 6 ls [.int (nI (z1 t L i)), .int (nI i)]) rfl ?_
  refine lv_isub hx hb d_L_zerosTo_6 ?_
  refine ct_topi (x' := nI (z0 t L i)) (by rw [pk_sub (z1_le t L i)]; congr 1; have := z01 t hi; omega) ?_
  exact W.iret (v := nI (z0 t L i)) hx hb hr (fun t ht hW => ⟨_, rfl, rfl, ht⟩) (fun _ h => nomatch h) d_L_zerosTo_7
set_option maxHeartbeats 4000000 in
set_option maxRecDepth 100000 in
theorem m_L_placeBelow {l : Launch} {D : va_G} {cI cJ cS cO : ClassId} {B0 : Nat} {a0 a1 a2 : Nat} {ja : Nat → Int64} {oa : Nat → Int32} {z : Int32} {t : Nat → Bool} {L : List Nat} (ok : LvOk t L ja oa z) (hL : L.length ≤ 1000) (b : Bool) (i : Nat) (hi : i ≤ L.length) : CM l D (tyL cI cJ cS cO) B0 y_L_placeBelow c_L_placeBelow 3 (some .int) (rmK 3 0 0) [.ref a0, .int (nI (bn b)), .int (nI i)] (fun H => va_P D vwCl (Lw cJ cS a0 a1 a2 ja oa z) H) (fun v H0 H1 => v = some (.int (nI (if b then z0 t L L.length + z1 t L i else z0 t L i))) ∧ H1 = H0) 0 0 (fun _ => False) := by
  refine cm_of (by decide) (Nat.le_of_ble_eq_true rfl) ?_
  intro p e s m below meth c ls hx hb hr hml hown hts hlocks hnm hE hpre hl
  have hown : s.vm.findClass "LevelRows$Level" = some m.cls := hown
  have hK := hE.1
  have hP : va_P D vwCl [(a0, .inr (0, [.ref a1, .ref a2, .int z])), (a1, .inl (cJ, 16, .inr (.inl (ja)))), (a2, .inl (cS, 16, .inl (oa)))] s.heap := hpre
  have hl : lv_has ls 3 [(0, .ref a0), (1, .int (nI (bn b))), (2, .int (nI i))] := hl
  have hS : va_S (fun _ => False) s.heap s.heap [] := va_S.rf
  have hAB : ∀ q : Nat, (fun _ : Nat => False) q → B0 ≤ q := fun _ h => h.elim
  refine lv_iload_n hx hb d_L_placeBelow_0 rfl (lv_at hl 1 rfl) ?_
  cases b with
  | false =>
    refine lv_if_ne (tgt := 12) hx hb d_L_placeBelow_1 (by decide) (fun c9 => absurd (show nI 0 = 0 from nI_0) c9) (fun _ => ?_)
    refine lv_aload_n hx hb d_L_placeBelow_4 rfl (lv_at hl 0 rfl) ?_
    refine lv_iload_n hx hb d_L_placeBelow_5 rfl (lv_at hl 2 rfl) ?_
    refine cm_read (va_runV (As := [.int (nI i)]) (rest := []) ⟨hx, hb, hml, hown, hts⟩ (m_L_zerosTo ok hL i hi) ⟨ct_cb 1 hts x_132 x_129 x_5 rfl rfl (by decide +kernel) ⟨by decide, by decide⟩, hts _ x_130, hts _ x_131⟩ ⟨st_blind, va_recv hK hP (ci := 0) (q0 := 0) rfl rfl, fun U hU hW => ⟨rfl, hE.at hS hAB hU hW, by rw [hU]; exact hpre⟩⟩ rfl rfl hl.1 rfl (lv_room (Nat.le_of_ble_eq_true rfl)) d_L_placeBelow_6 ⟨by decide, by decide⟩) (fun v hv => ?_)
    subst hv
    refine W.eq (g2 := F0 m 9 ls [.int (nI (z0 t L i))]) rfl ?_
    refine lv_goto (tgt := 22) hx hb d_L_placeBelow_9 (by decide) ?_
    exact W.iret (v := nI (z0 t L i)) hx hb hr (fun t ht hW => ⟨_, rfl, rfl, ht⟩) (fun _ h => nomatch h) d_L_placeBelow_22
  | true =>
    refine lv_if_ne (tgt := 12) hx hb d_L_placeBelow_1 (by decide) (fun _ => ?_) (fun c9 => absurd c9 (show ¬ nI 1 = 0 by decide))
    refine lv_aload_n hx hb d_L_placeBelow_12 rfl (lv_at hl 0 rfl) ?_
    refine va_get (D := D) (ci := 0) (v := .int z) (C := n_L) (T := f_L) (N := 3) hx hb hts in_L hown hK hP 0 rfl rfl 2 (by decide) (hts _ x_71) (fun _ h9 => h9) rfl d_L_placeBelow_13 ?_
    refine lv_aload_n hx hb d_L_placeBelow_16 rfl (lv_at hl 0 rfl) ?_
    refine lv_iload_n hx hb d_L_placeBelow_17 rfl (lv_at hl 2 rfl) ?_
    refine cm_read (va_runV (As := [.int (nI i)]) (rest := [.int z]) ⟨hx, hb, hml, hown, hts⟩ (m_L_onesTo ok hL i hi) ⟨ct_cb 1 hts x_136 x_133 x_5 rfl rfl (by decide +kernel) ⟨by decide, by decide⟩, hts _ x_135, hts _ s_L_onesTo⟩ ⟨st_blind, va_recv hK hP (ci := 0) (q0 := 0) rfl rfl, fun U hU hW => ⟨rfl, hE.at hS hAB hU hW, by rw [hU]; exact hpre⟩⟩ rfl rfl hl.1 rfl (lv_room (Nat.le_of_ble_eq_true rfl)) d_L_placeBelow_18 ⟨by decide, by decide⟩) (fun v hv => ?_)
    subst hv
    refine W.eq (g2 := F0 m 21 ls [.int (nI (z1 t L i)), .int z]) rfl ?_
    refine lv_iadd hx hb d_L_placeBelow_21 ?_
    refine ct_topi (x' := nI (z0 t L L.length + z1 t L i)) (by rw [ok.2.2, nI_add]) ?_
    exact W.iret (v := nI (z0 t L L.length + z1 t L i)) hx hb hr (fun t ht hW => ⟨_, rfl, rfl, ht⟩) (fun _ h => nomatch h) d_L_placeBelow_22
