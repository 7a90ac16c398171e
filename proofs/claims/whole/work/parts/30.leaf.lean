/-! LEAVES: Long.bitCount, Level.bitAt. -/
set_option maxHeartbeats 4000000 in
set_option maxRecDepth 100000 in
theorem m_J_bitCount {l : Launch} {D : va_G} {cI cJ cS cO : ClassId} {B0 : Nat} (u : Nat) (hu : u < 2 ^ 64) : CM l D (tyL cI cJ cS cO) B0 y_J_bitCount c_J_bitCount 2 (some .int) (rmK 0 0 0) [.long (lN u)] (fun _ => True) (fun v H0 H1 => v = some (.int (nI (pcl u 64))) ∧ H1 = H0) 0 0 (fun _ => False) := by
  refine cm_of (by decide) (Nat.le_of_ble_eq_true rfl) ?_
  intro p e s m below meth c ls hx hb hr hml hown hts hlocks hnm hE hpre hl
  have hown : s.vm.findClass "java/lang/Long" = some m.cls := hown
  have hK := hE.1
  have hl : lv_has ls 2 [(0, .long (lN u))] := hl
  obtain ⟨y1, e1⟩ : ∃ y, y = u - (u / 2 &&& 6148914691236517205) := ⟨_, rfl⟩
  obtain ⟨y2, e2⟩ : ∃ y, y = (y1 &&& 3689348814741910323) + (y1 / 4 &&& 3689348814741910323) := ⟨_, rfl⟩
  obtain ⟨y3, e3⟩ : ∃ y, y = (y2 + y2 / 16) &&& 1085102592571150095 := ⟨_, rfl⟩
  obtain ⟨z1, f1⟩ : ∃ y, y = y3 + y3 / 256 := ⟨_, rfl⟩
  obtain ⟨z2, f2⟩ : ∃ y, y = z1 + z1 / 65536 := ⟨_, rfl⟩
  obtain ⟨z3, f3⟩ : ∃ y, y = z2 + z2 / 4294967296 := ⟨_, rfl⟩
  obtain ⟨g1, g2, g3, g4, g5, g6, g7, g8, g9⟩ := bc_math hu e1 e2 e3 f1 f2 f3
  refine lv_lload_n hx hb d_J_bitCount_0 rfl (lv_at hl 0 rfl) ?_
  refine lv_lload_n hx hb d_J_bitCount_1 rfl (lv_at hl 0 rfl) ?_
  refine lv_iconst (v := 1) hx hb d_J_bitCount_2 (by decide) ?_
  refine lv_lushr hx hb d_J_bitCount_3 rfl ?_
  refine ct_topl (x' := lN (u / 2)) (wb_shr (k := 1) hu (by decide)) ?_
  refine lv_ldc2 (v := 6148914691236517205) hx hb hown (hts _ x_141) d_J_bitCount_4 ?_
  refine lv_land hx hb d_J_bitCount_7 ?_
  refine ct_topl (x' := lN (u / 2 &&& 6148914691236517205)) (wb_and (b := 6148914691236517205) (Nat.lt_of_le_of_lt (Nat.div_le_self _ _) hu) (by decide)) ?_
  refine lv_lsub hx hb d_J_bitCount_8 ?_
  refine ct_topl (x' := lN y1) (by rw [lN_sub g1, e1]) ?_
  refine lv_lstore_n (lv' := [(0, .long (lN y1))]) hx hb d_J_bitCount_9 rfl hl (by decide) rfl (fun ls hl => ?_)
  refine lv_lload_n hx hb d_J_bitCount_10 rfl (lv_at hl 0 rfl) ?_
  refine lv_ldc2 (v := 3689348814741910323) hx hb hown (hts _ x_142) d_J_bitCount_11 ?_
  refine lv_land hx hb d_J_bitCount_14 ?_
  refine ct_topl (x' := lN (y1 &&& 3689348814741910323)) (wb_and (b := 3689348814741910323) g2 (by decide)) ?_
  refine lv_lload_n hx hb d_J_bitCount_15 rfl (lv_at hl 0 rfl) ?_
  refine lv_iconst (v := 2) hx hb d_J_bitCount_16 (by decide) ?_
  refine lv_lushr hx hb d_J_bitCount_17 rfl ?_
  refine ct_topl (x' := lN (y1 / 4)) (wb_shr (k := 2) g2 (by decide)) ?_
  refine lv_ldc2 (v := 3689348814741910323) hx hb hown (hts _ x_142) d_J_bitCount_18 ?_
  refine lv_land hx hb d_J_bitCount_21 ?_
  refine ct_topl (x' := lN (y1 / 4 &&& 3689348814741910323)) (wb_and (b := 3689348814741910323) (Nat.lt_of_le_of_lt (Nat.div_le_self _ _) g2) (by decide)) ?_
  refine lv_ladd hx hb d_J_bitCount_22 ?_
  refine ct_topl (x' := lN y2) (by rw [lN_add, e2]) ?_
  refine lv_lstore_n (lv' := [(0, .long (lN y2))]) hx hb d_J_bitCount_23 rfl hl (by decide) rfl (fun ls hl => ?_)
  refine lv_lload_n hx hb d_J_bitCount_24 rfl (lv_at hl 0 rfl) ?_
  refine lv_lload_n hx hb d_J_bitCount_25 rfl (lv_at hl 0 rfl) ?_
  refine lv_iconst (v := 4) hx hb d_J_bitCount_26 (by decide) ?_
  refine lv_lushr hx hb d_J_bitCount_27 rfl ?_
  refine ct_topl (x' := lN (y2 / 16)) (wb_shr (k := 4) (by omega) (by decide)) ?_
  refine lv_ladd hx hb d_J_bitCount_28 ?_
  refine ct_topl (x' := lN (y2 + y2 / 16)) (lN_add _ _) ?_
  refine lv_ldc2 (v := 1085102592571150095) hx hb hown (hts _ x_143) d_J_bitCount_29 ?_
  refine lv_land hx hb d_J_bitCount_32 ?_
  refine ct_topl (x' := lN y3) (by rw [e3]; exact wb_and (b := 1085102592571150095) g4 (by decide)) ?_
  refine lv_lstore_n (lv' := [(0, .long (lN y3))]) hx hb d_J_bitCount_33 rfl hl (by decide) rfl (fun ls hl => ?_)
  refine lv_lload_n hx hb d_J_bitCount_34 rfl (lv_at hl 0 rfl) ?_
  refine lv_lload_n hx hb d_J_bitCount_35 rfl (lv_at hl 0 rfl) ?_
  refine lv_bipush (v := 8) hx hb d_J_bitCount_36 (by decide) ?_
  refine lv_lushr hx hb d_J_bitCount_38 rfl ?_
  refine ct_topl (x' := lN (y3 / 256)) (wb_shr (k := 8) g5 (by decide)) ?_
  refine lv_ladd hx hb d_J_bitCount_39 ?_
  refine ct_topl (x' := lN z1) (by rw [lN_add, f1]) ?_
  refine lv_lstore_n (lv' := [(0, .long (lN z1))]) hx hb d_J_bitCount_40 rfl hl (by decide) rfl (fun ls hl => ?_)
  refine lv_lload_n hx hb d_J_bitCount_41 rfl (lv_at hl 0 rfl) ?_
  refine lv_lload_n hx hb d_J_bitCount_42 rfl (lv_at hl 0 rfl) ?_
  refine lv_bipush (v := 16) hx hb d_J_bitCount_43 (by decide) ?_
  refine lv_lushr hx hb d_J_bitCount_45 rfl ?_
  refine ct_topl (x' := lN (z1 / 65536)) (wb_shr (k := 16) (by omega) (by decide)) ?_
  refine lv_ladd hx hb d_J_bitCount_46 ?_
  refine ct_topl (x' := lN z2) (by rw [lN_add, f2]) ?_
  refine lv_lstore_n (lv' := [(0, .long (lN z2))]) hx hb d_J_bitCount_47 rfl hl (by decide) rfl (fun ls hl => ?_)
  refine lv_lload_n hx hb d_J_bitCount_48 rfl (lv_at hl 0 rfl) ?_
  refine lv_lload_n hx hb d_J_bitCount_49 rfl (lv_at hl 0 rfl) ?_
  refine lv_bipush (v := 32) hx hb d_J_bitCount_50 (by decide) ?_
  refine lv_lushr hx hb d_J_bitCount_52 rfl ?_
  refine ct_topl (x' := lN (z2 / 4294967296)) (wb_shr (k := 32) (by omega) (by decide)) ?_
  refine lv_ladd hx hb d_J_bitCount_53 ?_
  refine ct_topl (x' := lN z3) (by rw [lN_add, f3]) ?_
  refine lv_lstore_n (lv' := [(0, .long (lN z3))]) hx hb d_J_bitCount_54 rfl hl (by decide) rfl (fun ls hl => ?_)
  refine lv_lload_n hx hb d_J_bitCount_55 rfl (lv_at hl 0 rfl) ?_
  refine lv_l2i hx hb d_J_bitCount_56 rfl ?_
  refine ct_topi (x' := nI z3) (lN_i z3) ?_
  refine lv_bipush (v := 127) hx hb d_J_bitCount_57 (by decide) ?_
  refine lv_iand hx hb d_J_bitCount_59 ?_
  refine ct_topi (x' := nI (pcl u 64)) (by rw [← g9, show (127 : Int32) = nI 127 from rfl, nx_and, show z3 &&& 127 = z3 % 128 from Nat.and_two_pow_sub_one_eq_mod _ 7]) ?_
  exact W.iret (v := nI (pcl u 64)) hx hb hr (fun t ht hW => ⟨_, rfl, rfl, ht⟩) (fun _ h => nomatch h) d_J_bitCount_60
set_option maxHeartbeats 4000000 in
set_option maxRecDepth 100000 in
theorem m_L_bitAt {l : Launch} {D : va_G} {cI cJ cS cO : ClassId} {B0 : Nat} {a0 a1 a2 : Nat} {ja : Nat → Int64} {oa : Nat → Int32} {z : Int32} (i : Nat) (hi : i < 1000) : CM l D (tyL cI cJ cS cO) B0 y_L_bitAt c_L_bitAt 2 (some .int) (rmK 0 0 0) [.ref a0, .int (nI i)] (fun H => va_P D vwCl (Lw cJ cS a0 a1 a2 ja oa z) H) (fun v H0 H1 => v = some (.int (nI (uN64 (ja (i / 64)) / 2 ^ (i % 64) % 2))) ∧ H1 = H0) 0 0 (fun _ => False) := by
  refine cm_of (by decide) (Nat.le_of_ble_eq_true rfl) ?_
  intro p e s m below meth c ls hx hb hr hml hown hts hlocks hnm hE hpre hl
  have hown : s.vm.findClass "LevelRows$Level" = some m.cls := hown
  have hK := hE.1
  have hP : va_P D vwCl [(a0, .inr (0, [.ref a1, .ref a2, .int z])), (a1, .inl (cJ, 16, .inr (.inl (ja)))), (a2, .inl (cS, 16, .inl (oa)))] s.heap := hpre
  have hl : lv_has ls 2 [(0, .ref a0), (1, .int (nI i))] := hl
  refine lv_iload_n hx hb d_L_bitAt_0 rfl (lv_at hl 1 rfl) ?_
  refine lv_if_lt (tgt := 11) hx hb d_L_bitAt_1 (by decide) (fun c9 => absurd c9 (nI_pos (by omega))) (fun _ => ?_)
  refine lv_iload_n hx hb d_L_bitAt_4 rfl (lv_at hl 1 rfl) ?_
  refine lv_sipush (v := 1000) hx hb d_L_bitAt_5 (by decide) ?_
  refine lv_icmp_lt (tgt := 13) hx hb d_L_bitAt_8 (by decide) (fun _ => ?_) (fun c9 => absurd (show nI i < nI 1000 from nI_lt hi (by omega)) c9)
  refine lv_aload_n hx hb d_L_bitAt_13 rfl (lv_at hl 0 rfl) ?_
  refine va_get (D := D) (ci := 0) (v := .ref a1) (C := n_L) (T := f_L) (N := 3) hx hb hts in_L hown hK hP 0 rfl rfl 0 (by decide) (hts _ x_69) (fun _ h9 => h9) rfl d_L_bitAt_14 ?_
  refine lv_iload_n hx hb d_L_bitAt_17 rfl (lv_at hl 1 rfl) ?_
  refine lv_bipush (v := 6) hx hb d_L_bitAt_18 (by decide) ?_
  refine lv_ishr hx hb d_L_bitAt_20 ?_
  refine ct_topi (x' := nI (i / 64)) (pk_shrN (by omega) _ 6 (by decide)) ?_
  refine va_lald hx hb hK hP 1 1 rfl rfl (vp_in_nI (by omega) (by decide)) d_L_bitAt_21 ?_
  refine ct_topl (x' := ja (i / 64)) (by rw [nI_clamp (by omega)]) ?_
  refine lv_iload_n hx hb d_L_bitAt_22 rfl (lv_at hl 1 rfl) ?_
  refine lv_bipush (v := 64) hx hb d_L_bitAt_23 (by decide) ?_
  refine lv_irem hx hb d_L_bitAt_25 (by decide) ?_
  refine ct_topi (x' := nI (i % 64)) (pk_rem (d := 64) (by omega) (by decide) (by decide)) ?_
  refine lv_lushr hx hb d_L_bitAt_26 rfl ?_
  refine ct_topl (x' := lN (uN64 (ja (i / 64)) / 2 ^ (i % 64))) (ush64 _ (by omega)) ?_
  refine lv_l2i hx hb d_L_bitAt_27 rfl ?_
  refine ct_topi (x' := nI (uN64 (ja (i / 64)) / 2 ^ (i % 64))) (lN_i _) ?_
  refine lv_iconst (v := 1) hx hb d_L_bitAt_28 (by decide) ?_
  refine lv_iand hx hb d_L_bitAt_29 ?_
  refine ct_topi (x' := nI (uN64 (ja (i / 64)) / 2 ^ (i % 64) % 2)) (by rw [show (1 : Int32) = nI 1 from rfl, nx_and, Nat.and_one_is_mod]) ?_
  exact W.iret (v := nI (uN64 (ja (i / 64)) / 2 ^ (i % 64) % 2)) hx hb hr (fun t ht hW => ⟨_, rfl, rfl, ht⟩) (fun _ h => nomatch h) d_L_bitAt_30
