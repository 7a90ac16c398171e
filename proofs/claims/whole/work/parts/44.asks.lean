/-! LevelRows: at, rank, select, quantile, between, below, above. -/
set_option maxHeartbeats 4000000 in
set_option maxRecDepth 100000 in
theorem m_R_at {l : Launch} {D : va_G} {cI cJ cS cO : ClassId} {B0 : Nat} (hl9 : l.stackTraces = false) {y : Nat → Nat} {sg d : Nat} {xs ws : List Nat} (hy : yI B0 y d) (ok0 : Ok sg d xs ws) (x : Int32) : CX l D (tyL cI cJ cS cO) B0 y_R_at c_R_at 2 (some .int) (rmK 7 1 6) [.ref (y 0), .int x] (fun H => LRx D cI cJ cS cO y sg d xs ws H) (fun v H0 H1 => v = some (.int (nI (xs.getD (cn x) 0))) ∧ H1 = H0 ∧ (¬ x < 0 ∧ x < nI xs.length)) (pxI (¬ x < 0 ∧ x < nI xs.length)) 1 6 (fun _ => False) := by
  refine cx_of (by decide) (Nat.le_of_ble_eq_true rfl) ?_
  intro p e s m below meth c ls hx hb hr hml hown hts hlocks hout hE hpre hl
  have hown : s.vm.findClass "LevelRows" = some m.cls := hown
  have hK := hE.1
  have hl : lv_has ls 2 [(0, .ref (y 0)), (1, .int x)] := hl
  have hS : va_S (fun _ => False) s.heap s.heap [] := va_S.rf
  have hR0 := hpre.1.1
  have hRd : ∀ (k : Nat) (q : Nat × va_E), (Rw cO y (nI sg) d (nI xs.length) (nI ws.length))[k]? = some q → ¬ (fun _ : Nat => False) q.1 := fun _ _ _ h => h
  have hAB : ∀ q : Nat, (fun _ : Nat => False) q → B0 ≤ q := fun _ h => h.elim
  have hR := hR0
  have hd16 := ok0.d16
  have hx9 := ok0.len
  have hp16 := ok0.p16
  have hsg6 := ok0.2.1
  refine lv_iload_n hx hb d_R_at_0 rfl (lv_at hl 1 rfl) ?_
  refine lv_if_lt (tgt := 12) hx hb d_R_at_1 (by decide) (fun h1 => ?_) (fun h1 => ?_)
  · exact ct_thr hx hb hl9 hown hts hE hS hAB (by rw [hml]; exact hl.1) (by decide +kernel) (at_I hts hE.2.1) ot_I x_191 x_10 x_298 d_R_at_12 d_R_at_15 d_R_at_16 d_R_at_18 d_R_at_21 hout (by decide) (Nat.le_of_ble_eq_true rfl) (by decide) (by decide) hlocks (fun H1 hf => ⟨rfl, fun h => h.1 h1, hf⟩) hS.2.2 (by decide) (by decide)
  · refine lv_iload_n hx hb d_R_at_4 rfl (lv_at hl 1 rfl) ?_
    refine lv_aload_n hx hb d_R_at_5 rfl (lv_at hl 0 rfl) ?_
    refine va_get (D := D) (ci := 2) (v := .int (nI xs.length)) (C := n_R) (T := f_R) (N := 10) hx hb hts in_R hown hK hR 0 rfl rfl 2 (by decide) (hts _ x_84) (fun _ h9 => h9) rfl d_R_at_6 ?_
    refine lv_icmp_lt (tgt := 22) hx hb d_R_at_9 (by decide) (fun h2 => ?_) (fun h2 => ?_)
    · obtain ⟨i, hi31, hxi⟩ := nI_of h1
      have hil : i < xs.length := by rw [hxi] at h2; exact (nI_ltI hi31 (by omega)).mp h2
      have hq : xs[i]? = some xs[i] := List.getElem?_eq_getElem hil
      have hgd : xs.getD (cn x) 0 = xs[i] := by simp only [cn, hxi]; rw [nI_clamp hi31, List.getD_eq_getElem?_getD, hq]; rfl
      refine lv_aload_n hx hb d_R_at_22 rfl (lv_at hl 0 rfl) ?_
      refine lv_iload_n hx hb d_R_at_23 rfl (lv_at hl 1 rfl) ?_
      refine ct_st (st' := [.int (nI i), .ref (y 0)]) (by rw [hxi]) ?_
      refine cm_read (va_runV (As := [.int (nI i)]) (rest := []) ⟨hx, hb, hml, hown, hts⟩ (m_R_symbolAt hq (ok0.lt _ (List.mem_of_getElem? hq)) hd16 hx9) ⟨ct_cb 1 hts x_120 x_117 x_1 rfl rfl (by decide +kernel) ⟨by decide, by decide⟩, hts _ x_119, hts _ s_R_symbolAt⟩ ⟨st_blind, va_recv hK hR (ci := 2) (q0 := 0) rfl rfl, fun U hU hW => ⟨rfl, hE.at hS hAB hU hW, by rw [hU]; exact hpre.1⟩⟩ rfl rfl hl.1 rfl (lv_room (Nat.le_of_ble_eq_true rfl)) d_R_at_24 ⟨by decide, by decide⟩) (fun v hv => ?_)
      subst hv
      refine W.eq (g2 := F0 m 27 ls [.int (nI xs[i])]) rfl ?_
      refine vx_ret (W.widen (k := 1) (n := 6) (by decide) (by decide) ?_)
      exact W.iret (v := nI xs[i]) hx hb hr (fun t ht hW => ⟨_, rfl, by rw [hgd], ht, h1, h2⟩) (fun _ h => nomatch h) d_R_at_27
    · exact ct_thr hx hb hl9 hown hts hE hS hAB (by rw [hml]; exact hl.1) (by decide +kernel) (at_I hts hE.2.1) ot_I x_191 x_10 x_298 d_R_at_12 d_R_at_15 d_R_at_16 d_R_at_18 d_R_at_21 hout (by decide) (Nat.le_of_ble_eq_true rfl) (by decide) (by decide) hlocks (fun H1 hf => ⟨rfl, fun h => h2 h.2, hf⟩) hS.2.2 (by decide) (by decide)
set_option maxHeartbeats 4000000 in
set_option maxRecDepth 100000 in
theorem m_R_rank {l : Launch} {D : va_G} {cI cJ cS cO : ClassId} {B0 : Nat} (hl9 : l.stackTraces = false) {y : Nat → Nat} {sg d : Nat} {xs ws : List Nat} (hy : yI B0 y d) (ok0 : Ok sg d xs ws) (x z : Int32) : CX l D (tyL cI cJ cS cO) B0 y_R_rank c_R_rank 3 (some .int) (rmK 7 2 12) [.ref (y 0), .int x, .int z] (fun H => LRx D cI cJ cS cO y sg d xs ws H) (fun v H0 H1 => v = some (.int (nI (cEq (xs.take (cn z)) (cn x)))) ∧ fr (fun q => q = y 3) H0 H1 ∧ LRx D cI cJ cS cO y sg d xs ws H1 ∧ (isS sg x ∧ isPt xs.length 0 z)) (pxI (isS sg x ∧ isPt xs.length 0 z)) 2 12 (fun q => q = y 3) := by
  refine cx_of (by decide) (Nat.le_of_ble_eq_true rfl) ?_
  intro p e s m below meth c ls hx hb hr hml hown hts hlocks hout hE hpre hl
  have hown : s.vm.findClass "LevelRows" = some m.cls := hown
  have hK := hE.1
  have hl : lv_has ls 3 [(0, .ref (y 0)), (1, .int x), (2, .int z)] := hl
  have hS : va_S (fun q => q = y 3) s.heap s.heap [] := va_S.rf
  have hR0 := hpre.1.1
  have hRd : ∀ (k : Nat) (q : Nat × va_E), (Rw cO y (nI sg) d (nI xs.length) (nI ws.length))[k]? = some q → ¬ q.1 = y 3 := Rw.off hy (by omega) (by omega)
  have hAB : ∀ q : Nat, q = y 3 → B0 ≤ q := fun q h => by rw [h]; exact hy.2 3 (by omega)
  have hR := hR0
  have hd16 := ok0.d16
  have hx9 := ok0.len
  have hp16 := ok0.p16
  have hsg6 := ok0.2.1
  refine lv_aload_n hx hb d_R_rank_0 rfl (lv_at hl 0 rfl) ?_
  refine lv_iload_n hx hb d_R_rank_1 rfl (lv_at hl 1 rfl) ?_
  refine cx_ret (vx_runV (As := [.int x]) (rest := []) ⟨hx, hb, hml, hown, hts⟩ (m_R_checkSymbol hl9 x) ⟨ct_cb 1 hts x_190 x_187 x_1 rfl rfl (by decide +kernel) ⟨by decide, by decide⟩, hts _ x_189, hts _ s_R_checkSymbol⟩ ⟨st_blind, va_recv hK hR (ci := 2) (q0 := 0) rfl rfl, fun U hU hW => ⟨rfl, hE.at hS hAB hU hW, by rw [hU]; exact hR⟩⟩ rfl rfl hl.1 rfl (lv_room (Nat.le_of_ble_eq_true rfl)) d_R_rank_2 ⟨by decide, by decide⟩) hS (fun q h => h.elim) (fun _ _ h => by rw [h.2.1]; exact fr.rf) (fun _ _ h => h.2.2) (fun E ce q H locs hxx hS hce hcv hcl => ?_) (fun v H locs hv hS => ?_)
  · obtain ⟨rfl, hn9, hf9⟩ := hxx
    exact vx_out (fun x hx => (hout x hx).elim) hlocks hce hcv hcl (fun t ht _ => by show (pxI (isS sg x ∧ isPt xs.length 0 z)) _ s.heap t.heap; rw [ht]; exact ⟨rfl, fun h => hn9 h.1, hf9⟩) hS.2.2 (by decide) (by decide)
  obtain ⟨rfl, rfl, hcs⟩ := hv
  refine W.eq (g2 := F0 m 5 ls []) rfl ?_
  refine lv_aload_n hx hb d_R_rank_5 rfl (lv_at hl 0 rfl) ?_
  refine lv_iconst (v := 0) hx hb d_R_rank_6 (by decide) ?_
  refine lv_iload_n hx hb d_R_rank_7 rfl (lv_at hl 2 rfl) ?_
  refine cx_ret (vx_runV (As := [.int 0, .int z]) (rest := []) ⟨hx, hb, hml, hown, hts⟩ (m_R_checkPart hl9 0 z) ⟨ct_cb 2 hts x_309 x_306 x_1 rfl rfl (by decide +kernel) ⟨by decide, by decide⟩, hts _ x_308, hts _ s_R_checkPart⟩ ⟨st_blind, va_recv hK hR (ci := 2) (q0 := 0) rfl rfl, fun U hU hW => ⟨rfl, hE.at hS hAB hU hW, by rw [hU]; exact hR⟩⟩ rfl rfl hl.1 rfl (lv_room (Nat.le_of_ble_eq_true rfl)) d_R_rank_8 ⟨by decide, by decide⟩) hS (fun q h => h.elim) (fun _ _ h => by rw [h.2.1]; exact fr.rf) (fun _ _ h => h.2.2) (fun E ce q H locs hxx hS hce hcv hcl => ?_) (fun v H locs hv hS => ?_)
  · obtain ⟨rfl, hn9, hf9⟩ := hxx
    exact vx_out (fun x hx => (hout x hx).elim) hlocks hce hcv hcl (fun t ht _ => by show (pxI (isS sg x ∧ isPt xs.length 0 z)) _ s.heap t.heap; rw [ht]; exact ⟨rfl, fun h => hn9 h.2, hf9⟩) hS.2.2 (by decide) (by decide)
  obtain ⟨rfl, rfl, hcp⟩ := hv
  refine W.eq (g2 := F0 m 11 ls []) rfl ?_
  obtain ⟨f0, f1, f2, f3, f4, f5, hP⟩ := hpre.2.1
  obtain ⟨hxe, hxs⟩ := hcs.ints hsg6
  obtain ⟨-, hze, -, hzl⟩ := hcp.ints hx9
  have hxd : cn x < 2 ^ d := Nat.lt_of_lt_of_le hxs ok0.2.2.1
  refine lv_aload_n hx hb d_R_rank_11 rfl (lv_at hl 0 rfl) ?_
  refine va_get (D := D) (ci := 2) (v := .ref (y 3)) (C := n_R) (T := f_R) (N := 10) hx hb hts in_R hown hK hR 0 rfl rfl 6 (by decide) (hts _ x_88) (fun _ h9 => h9) rfl d_R_rank_12 ?_
  refine lv_iconst (v := 0) hx hb d_R_rank_15 (by decide) ?_
  refine lv_iload_n hx hb d_R_rank_16 rfl (lv_at hl 2 rfl) ?_
  refine cm_ret (va_runV (As := [.int 0, .int z]) (rest := []) ⟨hx, hb, hml, hown, hts⟩ (m_P_span 0 z) ⟨ct_cb 2 hts x_314 x_311 x_2 rfl rfl (by decide +kernel) ⟨by decide, by decide⟩, hts _ x_312, hts _ x_313⟩ ⟨st_blind, va_recv hK hP (ci := 1) (q0 := 0) rfl rfl, fun U hU hW => ⟨rfl, hE.at hS hAB hU hW, by rw [hU]; exact hP⟩⟩ rfl rfl hl.1 rfl (lv_room (Nat.le_of_ble_eq_true rfl)) d_R_rank_17 ⟨by decide, by decide⟩) hS (fun q h => h) (fun _ _ h => h.2.1) (fun v H locs hv hS => ?_)
  obtain ⟨rfl, hfr1, hP⟩ := hv
  refine W.eq (g2 := F0 m 20 ls []) rfl ?_
  have hR := hR0.rd hS hRd
  rw [hze, show (0 : Int32) = nI 0 from rfl] at hP
  have hRL := RL.fr hy hpre.1 hfr1 (fun q _ h => ⟨3, by omega, by omega, h⟩)
  refine lv_aload_n hx hb d_R_rank_20 rfl (lv_at hl 0 rfl) ?_
  refine lv_iload_n hx hb d_R_rank_21 rfl (lv_at hl 1 rfl) ?_
  refine ct_st (st' := [.int (nI (cn x)), .ref (y 0)]) (by rw [← hxe]) ?_
  refine cm_ret (va_runV (As := [.int (nI (cn x))]) (rest := []) ⟨hx, hb, hml, hown, hts⟩ (m_R_descendTo hy ok0 (Nat.zero_le _) hzl hxd) ⟨ct_cb 1 hts x_318 x_315 x_1 rfl rfl (by decide +kernel) ⟨by decide, by decide⟩, hts _ x_317, hts _ s_R_descendTo⟩ ⟨st_blind, va_recv hK hR (ci := 2) (q0 := 0) rfl rfl, fun U hU hW => ⟨rfl, hE.at hS hAB hU hW, by rw [hU]; exact ⟨hRL, hP⟩⟩⟩ rfl rfl hl.1 rfl (lv_room (Nat.le_of_ble_eq_true rfl)) d_R_rank_22 ⟨by decide, by decide⟩) hS (fun q h => h) (fun _ _ h => h.2.1) (fun v H locs hv hS => ?_)
  obtain ⟨rfl, hfr2, g2, g3, g4, g5, hP⟩ := hv
  refine W.eq (g2 := F0 m 25 ls []) rfl ?_
  have hR := hR0.rd hS hRd
  have hwl := wdn_len hxd (Nat.zero_le (cn z)) hzl ok0.lt
  rw [List.drop_zero, Nat.sub_zero] at hwl
  refine lv_aload_n hx hb d_R_rank_25 rfl (lv_at hl 0 rfl) ?_
  refine va_get (D := D) (ci := 2) (v := .ref (y 3)) (C := n_R) (T := f_R) (N := 10) hx hb hts in_R hown hK hR 0 rfl rfl 6 (by decide) (hts _ x_88) (fun _ h9 => h9) rfl d_R_rank_26 ?_
  refine cm_read (va_runV (As := []) (rest := []) ⟨hx, hb, hml, hown, hts⟩ (m_P_length) ⟨ct_cb 0 hts x_331 x_328 x_2 rfl rfl (by decide +kernel) ⟨by decide, by decide⟩, hts _ x_329, hts _ x_330⟩ ⟨st_blind, va_recv hK hP (ci := 1) (q0 := 0) rfl rfl, fun U hU hW => ⟨rfl, hE.at hS hAB hU hW, by rw [hU]; exact hP⟩⟩ rfl rfl hl.1 rfl (lv_room (Nat.le_of_ble_eq_true rfl)) d_R_rank_29 ⟨by decide, by decide⟩) (fun v hv => ?_)
  subst hv
  refine W.eq (g2 := F0 m 32 ls [.int (nI (wdn d xs (cn x) d (cn z)) - nI (wdn d xs (cn x) d 0))]) rfl ?_
  refine ct_topi (x' := nI (cEq (xs.take (cn z)) (cn x))) (by rw [pk_sub (by omega)]; congr 1; omega) ?_
  refine vx_ret (W.widen (k := 2) (n := 12) (by decide) (by decide) ?_)
  exact W.iret (v := nI (cEq (xs.take (cn z)) (cn x))) hx hb hr (fun t ht hW => ⟨_, rfl, by rw [ht]; exact ⟨rfl, fr.of hS, lrx_part hy hpre (hfr1.trans hfr2 (fun q h => h)) ⟨_, _, _, _, _, _, hP⟩, hcs, hcp⟩⟩) hS.2.2 d_R_rank_32
set_option maxHeartbeats 4000000 in
set_option maxRecDepth 100000 in
theorem m_R_select {l : Launch} {D : va_G} {cI cJ cS cO : ClassId} {B0 : Nat} (hl9 : l.stackTraces = false) {y : Nat → Nat} {sg d : Nat} {xs ws : List Nat} (hy : yI B0 y d) (ok0 : Ok sg d xs ws) (x k : Int32) : CX l D (tyL cI cJ cS cO) B0 y_R_select c_R_select 3 (some .int) (rmK 7 2 12) [.ref (y 0), .int x, .int k] (fun H => LRx D cI cJ cS cO y sg d xs ws H) (fun v H0 H1 => ∃ w, v = some (.int w) ∧ aSel xs x k w ∧ fr (fun q => q = y 3) H0 H1 ∧ LRx D cI cJ cS cO y sg d xs ws H1 ∧ (isS sg x ∧ ¬ k < 0)) (pxI (isS sg x ∧ ¬ k < 0)) 2 12 (fun q => q = y 3) := by
  refine cx_of (by decide) (Nat.le_of_ble_eq_true rfl) ?_
  intro p e s m below meth c ls hx hb hr hml hown hts hlocks hout hE hpre hl
  have hown : s.vm.findClass "LevelRows" = some m.cls := hown
  have hK := hE.1
  have hl : lv_has ls 3 [(0, .ref (y 0)), (1, .int x), (2, .int k)] := hl
  have hS : va_S (fun q => q = y 3) s.heap s.heap [] := va_S.rf
  have hR0 := hpre.1.1
  have hRd : ∀ (k : Nat) (q : Nat × va_E), (Rw cO y (nI sg) d (nI xs.length) (nI ws.length))[k]? = some q → ¬ q.1 = y 3 := Rw.off hy (by omega) (by omega)
  have hAB : ∀ q : Nat, q = y 3 → B0 ≤ q := fun q h => by rw [h]; exact hy.2 3 (by omega)
  have hR := hR0
  have hd16 := ok0.d16
  have hx9 := ok0.len
  have hp16 := ok0.p16
  have hsg6 := ok0.2.1
  refine lv_aload_n hx hb d_R_select_0 rfl (lv_at hl 0 rfl) ?_
  refine lv_iload_n hx hb d_R_select_1 rfl (lv_at hl 1 rfl) ?_
  refine cx_ret (vx_runV (As := [.int x]) (rest := []) ⟨hx, hb, hml, hown, hts⟩ (m_R_checkSymbol hl9 x) ⟨ct_cb 1 hts x_190 x_187 x_1 rfl rfl (by decide +kernel) ⟨by decide, by decide⟩, hts _ x_189, hts _ s_R_checkSymbol⟩ ⟨st_blind, va_recv hK hR (ci := 2) (q0 := 0) rfl rfl, fun U hU hW => ⟨rfl, hE.at hS hAB hU hW, by rw [hU]; exact hR⟩⟩ rfl rfl hl.1 rfl (lv_room (Nat.le_of_ble_eq_true rfl)) d_R_select_2 ⟨by decide, by decide⟩) hS (fun q h => h.elim) (fun _ _ h => by rw [h.2.1]; exact fr.rf) (fun _ _ h => h.2.2) (fun E ce q H locs hxx hS hce hcv hcl => ?_) (fun v H locs hv hS => ?_)
  · obtain ⟨rfl, hn9, hf9⟩ := hxx
    exact vx_out (fun x hx => (hout x hx).elim) hlocks hce hcv hcl (fun t ht _ => by show (pxI (isS sg x ∧ ¬ k < 0)) _ s.heap t.heap; rw [ht]; exact ⟨rfl, fun h => hn9 h.1, hf9⟩) hS.2.2 (by decide) (by decide)
  obtain ⟨rfl, rfl, hcs⟩ := hv
  refine W.eq (g2 := F0 m 5 ls []) rfl ?_
  refine lv_iload_n hx hb d_R_select_5 rfl (lv_at hl 2 rfl) ?_
  refine cx_ret (vx_runS (As := [.int k]) (rest := []) ⟨hx, hb, hml, hown, hts⟩ (m_R_checkNotNegative hl9 k) ⟨ct_cb 1 hts x_341 x_339 x_1 rfl rfl (by decide +kernel) ⟨by decide, by decide⟩, hts _ x_340⟩ ⟨st_blind, fun U hU hW => ⟨rfl, hE.at hS hAB hU hW, by rw [hU]; exact trivial⟩⟩ rfl rfl hl.1 rfl (lv_room (Nat.le_of_ble_eq_true rfl)) d_R_select_6 ⟨by decide, by decide⟩) hS (fun q h => h.elim) (fun _ _ h => by rw [h.2.1]; exact fr.rf) (fun _ _ h => h.2.2) (fun E ce q H locs hxx hS hce hcv hcl => ?_) (fun v H locs hv hS => ?_)
  · obtain ⟨rfl, hn9, hf9⟩ := hxx
    exact vx_out (fun x hx => (hout x hx).elim) hlocks hce hcv hcl (fun t ht _ => by show (pxI (isS sg x ∧ ¬ k < 0)) _ s.heap t.heap; rw [ht]; exact ⟨rfl, fun h => hn9 h.2, hf9⟩) hS.2.2 (by decide) (by decide)
  obtain ⟨rfl, rfl, hcn⟩ := hv
  refine W.eq (g2 := F0 m 9 ls []) rfl ?_
  obtain ⟨f0, f1, f2, f3, f4, f5, hP⟩ := hpre.2.1
  obtain ⟨hxe, hxs⟩ := hcs.ints hsg6
  obtain ⟨hke, hk31⟩ := nn_ints hcn
  have hxd : cn x < 2 ^ d := Nat.lt_of_lt_of_le hxs ok0.2.2.1
  refine lv_aload_n hx hb d_R_select_9 rfl (lv_at hl 0 rfl) ?_
  refine va_get (D := D) (ci := 2) (v := .ref (y 3)) (C := n_R) (T := f_R) (N := 10) hx hb hts in_R hown hK hR 0 rfl rfl 6 (by decide) (hts _ x_88) (fun _ h9 => h9) rfl d_R_select_10 ?_
  refine lv_iconst (v := 0) hx hb d_R_select_13 (by decide) ?_
  refine lv_aload_n hx hb d_R_select_14 rfl (lv_at hl 0 rfl) ?_
  refine va_get (D := D) (ci := 2) (v := .int (nI xs.length)) (C := n_R) (T := f_R) (N := 10) hx hb hts in_R hown hK hR 0 rfl rfl 2 (by decide) (hts _ x_84) (fun _ h9 => h9) rfl d_R_select_15 ?_
  refine cm_ret (va_runV (As := [.int 0, .int (nI xs.length)]) (rest := []) ⟨hx, hb, hml, hown, hts⟩ (m_P_span 0 (nI xs.length)) ⟨ct_cb 2 hts x_314 x_311 x_2 rfl rfl (by decide +kernel) ⟨by decide, by decide⟩, hts _ x_312, hts _ x_313⟩ ⟨st_blind, va_recv hK hP (ci := 1) (q0 := 0) rfl rfl, fun U hU hW => ⟨rfl, hE.at hS hAB hU hW, by rw [hU]; exact hP⟩⟩ rfl rfl hl.1 rfl (lv_room (Nat.le_of_ble_eq_true rfl)) d_R_select_18 ⟨by decide, by decide⟩) hS (fun q h => h) (fun _ _ h => h.2.1) (fun v H locs hv hS => ?_)
  obtain ⟨rfl, hfr1, hP⟩ := hv
  refine W.eq (g2 := F0 m 21 ls []) rfl ?_
  have hR := hR0.rd hS hRd
  rw [show (0 : Int32) = nI 0 from rfl] at hP
  have hRL := RL.fr hy hpre.1 hfr1 (fun q _ h => ⟨3, by omega, by omega, h⟩)
  refine lv_aload_n hx hb d_R_select_21 rfl (lv_at hl 0 rfl) ?_
  refine lv_iload_n hx hb d_R_select_22 rfl (lv_at hl 1 rfl) ?_
  refine ct_st (st' := [.int (nI (cn x)), .ref (y 0)]) (by rw [← hxe]) ?_
  refine cm_ret (va_runV (As := [.int (nI (cn x))]) (rest := []) ⟨hx, hb, hml, hown, hts⟩ (m_R_descendTo hy ok0 (Nat.zero_le _) (Nat.le_refl xs.length) hxd) ⟨ct_cb 1 hts x_318 x_315 x_1 rfl rfl (by decide +kernel) ⟨by decide, by decide⟩, hts _ x_317, hts _ s_R_descendTo⟩ ⟨st_blind, va_recv hK hR (ci := 2) (q0 := 0) rfl rfl, fun U hU hW => ⟨rfl, hE.at hS hAB hU hW, by rw [hU]; exact ⟨hRL, hP⟩⟩⟩ rfl rfl hl.1 rfl (lv_room (Nat.le_of_ble_eq_true rfl)) d_R_select_23 ⟨by decide, by decide⟩) hS (fun q h => h) (fun _ _ h => h.2.1) (fun v H locs hv hS => ?_)
  obtain ⟨rfl, hfr2, g2, g3, g4, g5, hP⟩ := hv
  refine W.eq (g2 := F0 m 26 ls []) rfl ?_
  have hR := hR0.rd hS hRd
  have hwl := wdn_len hxd (Nat.zero_le xs.length) (Nat.le_refl _) ok0.lt
  rw [List.drop_zero, Nat.sub_zero, List.take_length] at hwl
  have hfr := hfr1.trans hfr2 (fun q h => h)
  have hLR := lrx_part hy hpre hfr ⟨_, _, _, _, _, _, hP⟩
  refine lv_iload_n hx hb d_R_select_26 rfl (lv_at hl 2 rfl) ?_
  refine lv_aload_n hx hb d_R_select_27 rfl (lv_at hl 0 rfl) ?_
  refine va_get (D := D) (ci := 2) (v := .ref (y 3)) (C := n_R) (T := f_R) (N := 10) hx hb hts in_R hown hK hR 0 rfl rfl 6 (by decide) (hts _ x_88) (fun _ h9 => h9) rfl d_R_select_28 ?_
  refine cm_read (va_runV (As := []) (rest := [.int k]) ⟨hx, hb, hml, hown, hts⟩ (m_P_length) ⟨ct_cb 0 hts x_331 x_328 x_2 rfl rfl (by decide +kernel) ⟨by decide, by decide⟩, hts _ x_329, hts _ x_330⟩ ⟨st_blind, va_recv hK hP (ci := 1) (q0 := 0) rfl rfl, fun U hU hW => ⟨rfl, hE.at hS hAB hU hW, by rw [hU]; exact hP⟩⟩ rfl rfl hl.1 rfl (lv_room (Nat.le_of_ble_eq_true rfl)) d_R_select_31 ⟨by decide, by decide⟩) (fun v hv => ?_)
  subst hv
  refine W.eq (g2 := F0 m 34 ls [.int (nI (wdn d xs (cn x) d xs.length) - nI (wdn d xs (cn x) d 0)), .int k]) rfl ?_
  refine ct_topi (x' := nI (cEq xs (cn x))) (by rw [pk_sub (by omega)]; congr 1; omega) ?_
  rcases Nat.lt_or_ge (cn k) (cEq xs (cn x)) with hlt | hge
  · refine lv_icmp_ge (tgt := 53) hx hb d_R_select_34 (by decide) (fun c9 => absurd c9 (by rw [hke]; exact nI_ge hlt (by have := cEq_le xs (cn x); omega))) (fun _ => ?_)
    obtain ⟨i, hi1, hi2⟩ := occ_ex (cn x) xs (cn k) hlt
    have hil := (List.getElem?_eq_some_iff.mp hi1).1
    have hwi := wdn_len hxd (Nat.zero_le i) (Nat.le_of_lt hil) ok0.lt
    rw [List.drop_zero, Nat.sub_zero, hi2] at hwi
    refine lv_aload_n hx hb d_R_select_37 rfl (lv_at hl 0 rfl) ?_
    refine lv_aload_n hx hb d_R_select_38 rfl (lv_at hl 0 rfl) ?_
    refine va_get (D := D) (ci := 2) (v := .ref (y 3)) (C := n_R) (T := f_R) (N := 10) hx hb hts in_R hown hK hR 0 rfl rfl 6 (by decide) (hts _ x_88) (fun _ h9 => h9) rfl d_R_select_39 ?_
    refine va_getN (D := D) (ci := 1) (v := .int (nI (wdn d xs (cn x) d 0))) (C := n_P) (T := f_P) (N := 6) hx hb hts in_P hown hK hP 0 rfl rfl 0 (by decide) (va_Nw.use rfl (hE.2.1 _ x_31)) (fun _ h9 => h9) rfl d_R_select_42 ?_
    refine lv_iload_n hx hb d_R_select_45 rfl (lv_at hl 2 rfl) ?_
    refine lv_iadd hx hb d_R_select_46 ?_
    refine ct_topi (x' := nI (wdn d xs (cn x) d i)) (by rw [show nI (wdn d xs (cn x) d 0) + k = nI (wdn d xs (cn x) d 0) + nI (cn k) by rw [← hke], nI_add, hwi.1]) ?_
    refine cm_read (va_runV (As := [.int (nI (wdn d xs (cn x) d i))]) (rest := []) ⟨hx, hb, hml, hown, hts⟩ (m_R_climbFrom hi1 hd16 hx9) ⟨ct_cb 1 hts x_346 x_343 x_1 rfl rfl (by decide +kernel) ⟨by decide, by decide⟩, hts _ x_345, hts _ s_R_climbFrom⟩ ⟨st_blind, va_recv hK hR (ci := 2) (q0 := 0) rfl rfl, fun U hU hW => ⟨rfl, hE.at hS hAB hU hW, by rw [hU]; exact hLR.1⟩⟩ rfl rfl hl.1 rfl (lv_room (Nat.le_of_ble_eq_true rfl)) d_R_select_47 ⟨by decide, by decide⟩) (fun v hv => ?_)
    subst hv
    refine W.eq (g2 := F0 m 50 ls [.int (nI i)]) rfl ?_
    refine lv_goto (tgt := 54) hx hb d_R_select_50 (by decide) ?_
    refine vx_ret (W.widen (k := 2) (n := 12) (by decide) (by decide) ?_)
    exact W.iret (v := nI i) hx hb hr (fun t ht hW => ⟨_, rfl, by rw [ht]; exact ⟨_, rfl, Or.inl ⟨i, hi1, hi2, rfl⟩, fr.of hS, hLR, hcs, hcn⟩⟩) hS.2.2 d_R_select_54
  · refine lv_icmp_ge (tgt := 53) hx hb d_R_select_34 (by decide) (fun _ => ?_) (fun c9 => absurd (by rw [hke]; exact nI_le hge (by omega)) c9)
    refine lv_iconst (v := (-1)) hx hb d_R_select_53 (by decide) ?_
    refine vx_ret (W.widen (k := 2) (n := 12) (by decide) (by decide) ?_)
    exact W.iret (v := -1) hx hb hr (fun t ht hW => ⟨_, rfl, by rw [ht]; exact ⟨_, rfl, Or.inr ⟨hge, rfl⟩, fr.of hS, hLR, hcs, hcn⟩⟩) hS.2.2 d_R_select_54
set_option maxHeartbeats 4000000 in
set_option maxRecDepth 100000 in
theorem m_R_quantile {l : Launch} {D : va_G} {cI cJ cS cO : ClassId} {B0 : Nat} (hl9 : l.stackTraces = false) {y : Nat → Nat} {sg d : Nat} {xs ws : List Nat} (hy : yI B0 y d) (ok0 : Ok sg d xs ws) (a b k : Int32) : CX l D (tyL cI cJ cS cO) B0 y_R_quantile c_R_quantile 4 (some .int) (rmK 7 3 18) [.ref (y 0), .int a, .int b, .int k] (fun H => LRx D cI cJ cS cO y sg d xs ws H) (fun v H0 H1 => ∃ w, v = some (.int w) ∧ aQua (bk xs a b) k w ∧ fr (fun q => q = y 3) H0 H1 ∧ LRx D cI cJ cS cO y sg d xs ws H1 ∧ (isPt xs.length a b ∧ ¬ k < 0 ∧ k < b - a)) (pxI (isPt xs.length a b ∧ ¬ k < 0 ∧ k < b - a)) 3 18 (fun q => q = y 3) := by
  refine cx_of (by decide) (Nat.le_of_ble_eq_true rfl) ?_
  intro p e s m below meth c ls hx hb hr hml hown hts hlocks hout hE hpre hl
  have hown : s.vm.findClass "LevelRows" = some m.cls := hown
  have hK := hE.1
  have hl : lv_has ls 4 [(0, .ref (y 0)), (1, .int a), (2, .int b), (3, .int k)] := hl
  have hS : va_S (fun q => q = y 3) s.heap s.heap [] := va_S.rf
  have hR0 := hpre.1.1
  have hRd : ∀ (k : Nat) (q : Nat × va_E), (Rw cO y (nI sg) d (nI xs.length) (nI ws.length))[k]? = some q → ¬ q.1 = y 3 := Rw.off hy (by omega) (by omega)
  have hAB : ∀ q : Nat, q = y 3 → B0 ≤ q := fun q h => by rw [h]; exact hy.2 3 (by omega)
  have hR := hR0
  have hd16 := ok0.d16
  have hx9 := ok0.len
  have hp16 := ok0.p16
  have hsg6 := ok0.2.1
  refine lv_aload_n hx hb d_R_quantile_0 rfl (lv_at hl 0 rfl) ?_
  refine lv_iload_n hx hb d_R_quantile_1 rfl (lv_at hl 1 rfl) ?_
  refine lv_iload_n hx hb d_R_quantile_2 rfl (lv_at hl 2 rfl) ?_
  refine cx_ret (vx_runV (As := [.int a, .int b]) (rest := []) ⟨hx, hb, hml, hown, hts⟩ (m_R_checkPart hl9 a b) ⟨ct_cb 2 hts x_309 x_306 x_1 rfl rfl (by decide +kernel) ⟨by decide, by decide⟩, hts _ x_308, hts _ s_R_checkPart⟩ ⟨st_blind, va_recv hK hR (ci := 2) (q0 := 0) rfl rfl, fun U hU hW => ⟨rfl, hE.at hS hAB hU hW, by rw [hU]; exact hR⟩⟩ rfl rfl hl.1 rfl (lv_room (Nat.le_of_ble_eq_true rfl)) d_R_quantile_3 ⟨by decide, by decide⟩) hS (fun q h => h.elim) (fun _ _ h => by rw [h.2.1]; exact fr.rf) (fun _ _ h => h.2.2) (fun E ce q H locs hxx hS hce hcv hcl => ?_) (fun v H locs hv hS => ?_)
  · obtain ⟨rfl, hn9, hf9⟩ := hxx
    exact vx_out (fun x hx => (hout x hx).elim) hlocks hce hcv hcl (fun t ht _ => by show (pxI (isPt xs.length a b ∧ ¬ k < 0 ∧ k < b - a)) _ s.heap t.heap; rw [ht]; exact ⟨rfl, fun h => hn9 h.1, hf9⟩) hS.2.2 (by decide) (by decide)
  obtain ⟨rfl, rfl, hcp⟩ := hv
  refine W.eq (g2 := F0 m 6 ls []) rfl ?_
  refine lv_iload_n hx hb d_R_quantile_6 rfl (lv_at hl 3 rfl) ?_
  refine cx_ret (vx_runS (As := [.int k]) (rest := []) ⟨hx, hb, hml, hown, hts⟩ (m_R_checkNotNegative hl9 k) ⟨ct_cb 1 hts x_341 x_339 x_1 rfl rfl (by decide +kernel) ⟨by decide, by decide⟩, hts _ x_340⟩ ⟨st_blind, fun U hU hW => ⟨rfl, hE.at hS hAB hU hW, by rw [hU]; exact trivial⟩⟩ rfl rfl hl.1 rfl (lv_room (Nat.le_of_ble_eq_true rfl)) d_R_quantile_7 ⟨by decide, by decide⟩) hS (fun q h => h.elim) (fun _ _ h => by rw [h.2.1]; exact fr.rf) (fun _ _ h => h.2.2) (fun E ce q H locs hxx hS hce hcv hcl => ?_) (fun v H locs hv hS => ?_)
  · obtain ⟨rfl, hn9, hf9⟩ := hxx
    exact vx_out (fun x hx => (hout x hx).elim) hlocks hce hcv hcl (fun t ht _ => by show (pxI (isPt xs.length a b ∧ ¬ k < 0 ∧ k < b - a)) _ s.heap t.heap; rw [ht]; exact ⟨rfl, fun h => hn9 h.2.1, hf9⟩) hS.2.2 (by decide) (by decide)
  obtain ⟨rfl, rfl, hcn⟩ := hv
  refine W.eq (g2 := F0 m 10 ls []) rfl ?_
  refine lv_iload_n hx hb d_R_quantile_10 rfl (lv_at hl 3 rfl) ?_
  refine lv_iload_n hx hb d_R_quantile_11 rfl (lv_at hl 2 rfl) ?_
  refine lv_iload_n hx hb d_R_quantile_12 rfl (lv_at hl 1 rfl) ?_
  refine lv_isub hx hb d_R_quantile_13 ?_
  refine lv_icmp_lt (tgt := 27) hx hb d_R_quantile_14 (by decide) (fun h1 => ?_) (fun h1 => ?_)
  · obtain ⟨hae, hbe, hab, hbx⟩ := hcp.ints hx9
    have hBl : (bk xs a b).length = cn b - cn a := bk_len hab hbx
    have hB6 : ∀ z ∈ bk xs a b, z < 65536 := fun z h => Nat.lt_of_lt_of_le (ok0.lt z (bk_mem h)) hp16
    obtain ⟨hke, hk31⟩ := nn_ints hcn
    have hkl : cn k < cn b - cn a := by
      have h2 : b - a = nI (cn b - cn a) := by rw [← pk_sub hab, ← hbe, ← hae]
      have h3 := h1
      rw [h2, hke] at h3
      exact (nI_ltI hk31 (by omega)).mp h3
    obtain ⟨r, hkr⟩ := kth_of_lt (k := cn k) (B := bk xs a b) (by rw [hBl]; exact hkl) hB6
    refine lv_aload_n hx hb d_R_quantile_27 rfl (lv_at hl 0 rfl) ?_
    refine lv_iload_n hx hb d_R_quantile_28 rfl (lv_at hl 1 rfl) ?_
    refine lv_iload_n hx hb d_R_quantile_29 rfl (lv_at hl 2 rfl) ?_
    refine lv_iload_n hx hb d_R_quantile_30 rfl (lv_at hl 3 rfl) ?_
    refine ct_st (st' := [.int (nI (cn k)), .int (nI (cn b)), .int (nI (cn a)), .ref (y 0)]) (by rw [← hke, ← hbe, ← hae]) ?_
    refine cm_ret (va_runV (As := [.int (nI (cn a)), .int (nI (cn b)), .int (nI (cn k))]) (rest := []) ⟨hx, hb, hml, hown, hts⟩ (m_R_kthLeast hy ok0 hab hbx rfl hkr) ⟨ct_cb 3 hts x_367 x_364 x_1 rfl rfl (by decide +kernel) ⟨by decide, by decide⟩, hts _ x_366, hts _ s_R_kthLeast⟩ ⟨st_blind, va_recv hK hR (ci := 2) (q0 := 0) rfl rfl, fun U hU hW => ⟨rfl, hE.at hS hAB hU hW, by rw [hU]; exact ⟨hpre.1, hpre.2.1⟩⟩⟩ rfl rfl hl.1 rfl (lv_room (Nat.le_of_ble_eq_true rfl)) d_R_quantile_31 ⟨by decide, by decide⟩) hS (fun q h => h) (fun _ _ h => h.2.1) (fun v H locs hv hS => ?_)
    obtain ⟨rfl, hfr, u, g2, g3, g4, g5, hu, hP⟩ := hv
    refine W.eq (g2 := F0 m 34 ls [.int (nI r)]) rfl ?_
    refine vx_ret (W.widen (k := 3) (n := 18) (by decide) (by decide) ?_)
    exact W.iret (v := nI r) hx hb hr (fun t ht hW => ⟨_, rfl, by rw [ht]; exact ⟨_, rfl, ⟨r, hkr, rfl⟩, hfr, lrx_part hy hpre hfr ⟨_, _, _, _, _, _, hP⟩, hcp, hcn, h1⟩⟩) hS.2.2 d_R_quantile_34
  · exact ct_thr hx hb hl9 hown hts hE hS hAB (by rw [hml]; exact hl.1) (by decide +kernel) (at_I hts hE.2.1) ot_I x_191 x_10 x_363 d_R_quantile_17 d_R_quantile_20 d_R_quantile_21 d_R_quantile_23 d_R_quantile_26 hout (by decide) (Nat.le_of_ble_eq_true rfl) (by decide) (by decide) hlocks (fun H1 hf => ⟨rfl, fun h => h1 h.2.2, hf⟩) hS.2.2 (by decide) (by decide)
set_option maxHeartbeats 4000000 in
set_option maxRecDepth 100000 in
theorem m_R_between {l : Launch} {D : va_G} {cI cJ cS cO : ClassId} {B0 : Nat} (hl9 : l.stackTraces = false) {y : Nat → Nat} {sg d : Nat} {xs ws : List Nat} (hy : yI B0 y d) (ok0 : Ok sg d xs ws) (a b lo hi : Int32) : CX l D (tyL cI cJ cS cO) B0 y_R_between c_R_between 5 (some .int) (rmK 7 1 6) [.ref (y 0), .int a, .int b, .int lo, .int hi] (fun H => LRx D cI cJ cS cO y sg d xs ws H) (fun v H0 H1 => v = some (.int (aBtw (bk xs a b) lo hi)) ∧ fr (fun q => q = y 3) H0 H1 ∧ LRx D cI cJ cS cO y sg d xs ws H1 ∧ isPt xs.length a b) (pxI (isPt xs.length a b)) 1 6 (fun q => q = y 3) := by
  refine cx_of (by decide) (Nat.le_of_ble_eq_true rfl) ?_
  intro p e s m below meth c ls hx hb hr hml hown hts hlocks hout hE hpre hl
  have hown : s.vm.findClass "LevelRows" = some m.cls := hown
  have hK := hE.1
  have hl : lv_has ls 5 [(0, .ref (y 0)), (1, .int a), (2, .int b), (3, .int lo), (4, .int hi)] := hl
  have hS : va_S (fun q => q = y 3) s.heap s.heap [] := va_S.rf
  have hR0 := hpre.1.1
  have hRd : ∀ (k : Nat) (q : Nat × va_E), (Rw cO y (nI sg) d (nI xs.length) (nI ws.length))[k]? = some q → ¬ q.1 = y 3 := Rw.off hy (by omega) (by omega)
  have hAB : ∀ q : Nat, q = y 3 → B0 ≤ q := fun q h => by rw [h]; exact hy.2 3 (by omega)
  have hR := hR0
  have hd16 := ok0.d16
  have hx9 := ok0.len
  have hp16 := ok0.p16
  have hsg6 := ok0.2.1
  refine lv_aload_n hx hb d_R_between_0 rfl (lv_at hl 0 rfl) ?_
  refine lv_iload_n hx hb d_R_between_1 rfl (lv_at hl 1 rfl) ?_
  refine lv_iload_n hx hb d_R_between_2 rfl (lv_at hl 2 rfl) ?_
  refine cx_ret (vx_runV (As := [.int a, .int b]) (rest := []) ⟨hx, hb, hml, hown, hts⟩ (m_R_checkPart hl9 a b) ⟨ct_cb 2 hts x_309 x_306 x_1 rfl rfl (by decide +kernel) ⟨by decide, by decide⟩, hts _ x_308, hts _ s_R_checkPart⟩ ⟨st_blind, va_recv hK hR (ci := 2) (q0 := 0) rfl rfl, fun U hU hW => ⟨rfl, hE.at hS hAB hU hW, by rw [hU]; exact hR⟩⟩ rfl rfl hl.1 rfl (lv_room (Nat.le_of_ble_eq_true rfl)) d_R_between_3 ⟨by decide, by decide⟩) hS (fun q h => h.elim) (fun _ _ h => by rw [h.2.1]; exact fr.rf) (fun _ _ h => h.2.2) (fun E ce q H locs hxx hS hce hcv hcl => ?_) (fun v H locs hv hS => ?_)
  · obtain ⟨rfl, hn9, hf9⟩ := hxx
    exact vx_out (fun x hx => (hout x hx).elim) hlocks hce hcv hcl (fun t ht _ => by show (pxI (isPt xs.length a b)) _ s.heap t.heap; rw [ht]; exact ⟨rfl, hn9, hf9⟩) hS.2.2 (by decide) (by decide)
  obtain ⟨rfl, rfl, hcp⟩ := hv
  refine W.eq (g2 := F0 m 6 ls []) rfl ?_
  obtain ⟨hae, hbe, hab, hbx⟩ := hcp.ints hx9
  have hBl : (bk xs a b).length = cn b - cn a := bk_len hab hbx
  have hB6 : ∀ z ∈ bk xs a b, z < 65536 := fun z h => Nat.lt_of_lt_of_le (ok0.lt z (bk_mem h)) hp16
  refine lv_iload_n hx hb d_R_between_6 rfl (lv_at hl 3 rfl) ?_
  refine lv_iload hx hb d_R_between_7 (lv_at hl 4 rfl) ?_
  refine lv_icmp_ge (tgt := 31) hx hb d_R_between_9 (by decide) (fun h1 => ?_) (fun h1 => ?_)
  · refine lv_iconst (v := 0) hx hb d_R_between_31 (by decide) ?_
    refine vx_ret (W.widen (k := 1) (n := 6) (by decide) (by decide) ?_)
    exact W.iret (v := 0) hx hb hr (fun t ht hW => ⟨_, rfl, by rw [ht]; exact ⟨by rw [aBtw, if_neg (Int32.not_lt.mpr h1)], fr.rf, hpre, hcp⟩⟩) hS.2.2 d_R_between_32
  · refine lv_aload_n hx hb d_R_between_12 rfl (lv_at hl 0 rfl) ?_
    refine lv_iload_n hx hb d_R_between_13 rfl (lv_at hl 1 rfl) ?_
    refine lv_iload_n hx hb d_R_between_14 rfl (lv_at hl 2 rfl) ?_
    refine lv_iload hx hb d_R_between_15 (lv_at hl 4 rfl) ?_
    refine ct_st (st' := [.int hi, .int (nI (cn b)), .int (nI (cn a)), .ref (y 0)]) (by rw [← hbe, ← hae]) ?_
    refine cm_ret (va_runV (As := [.int (nI (cn a)), .int (nI (cn b)), .int hi]) (rest := []) ⟨hx, hb, hml, hown, hts⟩ (m_R_howManyBelow hy ok0 hab hbx rfl hi) ⟨ct_cb 3 hts x_382 x_379 x_1 rfl rfl (by decide +kernel) ⟨by decide, by decide⟩, hts _ x_381, hts _ s_R_howManyBelow⟩ ⟨st_blind, va_recv hK hR (ci := 2) (q0 := 0) rfl rfl, fun U hU hW => ⟨rfl, hE.at hS hAB hU hW, by rw [hU]; exact ⟨hpre.1, hpre.2.1⟩⟩⟩ rfl rfl hl.1 rfl (lv_room (Nat.le_of_ble_eq_true rfl)) d_R_between_17 ⟨by decide, by decide⟩) hS (fun q h => h) (fun _ _ h => h.2.1) (fun v H locs hv hS => ?_)
    obtain ⟨rfl, hfr1, hPP1⟩ := hv
    refine W.eq (g2 := F0 m 20 ls [.int (nI (cLt (bk xs a b) (cn hi)))]) rfl ?_
    have hLR := lrx_part hy hpre hfr1 hPP1
    have hR := hR0.rd hS hRd
    refine lv_aload_n hx hb d_R_between_20 rfl (lv_at hl 0 rfl) ?_
    refine lv_iload_n hx hb d_R_between_21 rfl (lv_at hl 1 rfl) ?_
    refine lv_iload_n hx hb d_R_between_22 rfl (lv_at hl 2 rfl) ?_
    refine lv_iload_n hx hb d_R_between_23 rfl (lv_at hl 3 rfl) ?_
    refine ct_st (st' := [.int lo, .int (nI (cn b)), .int (nI (cn a)), .ref (y 0), .int (nI (cLt (bk xs a b) (cn hi)))]) (by rw [← hbe, ← hae]) ?_
    refine cm_ret (va_runV (As := [.int (nI (cn a)), .int (nI (cn b)), .int lo]) (rest := [.int (nI (cLt (bk xs a b) (cn hi)))]) ⟨hx, hb, hml, hown, hts⟩ (m_R_howManyBelow hy ok0 hab hbx rfl lo) ⟨ct_cb 3 hts x_382 x_379 x_1 rfl rfl (by decide +kernel) ⟨by decide, by decide⟩, hts _ x_381, hts _ s_R_howManyBelow⟩ ⟨st_blind, va_recv hK hR (ci := 2) (q0 := 0) rfl rfl, fun U hU hW => ⟨rfl, hE.at hS hAB hU hW, by rw [hU]; exact ⟨hLR.1, hLR.2.1⟩⟩⟩ rfl rfl hl.1 rfl (lv_room (Nat.le_of_ble_eq_true rfl)) d_R_between_24 ⟨by decide, by decide⟩) hS (fun q h => h) (fun _ _ h => h.2.1) (fun v H locs hv hS => ?_)
    obtain ⟨rfl, hfr2, hPP2⟩ := hv
    refine W.eq (g2 := F0 m 27 ls [.int (nI (cLt (bk xs a b) (cn lo))), .int (nI (cLt (bk xs a b) (cn hi)))]) rfl ?_
    refine lv_isub hx hb d_R_between_27 ?_
    refine lv_goto (tgt := 32) hx hb d_R_between_28 (by decide) ?_
    refine vx_ret (W.widen (k := 1) (n := 6) (by decide) (by decide) ?_)
    exact W.iret (v := nI (cLt (bk xs a b) (cn hi)) - nI (cLt (bk xs a b) (cn lo))) hx hb hr (fun t ht hW => ⟨_, rfl, by rw [ht]; exact ⟨by rw [aBtw, if_pos (Int32.not_le.mp h1)], fr.of hS, lrx_part hy hLR hfr2 hPP2, hcp⟩⟩) hS.2.2 d_R_between_32
set_option maxHeartbeats 4000000 in
set_option maxRecDepth 100000 in
theorem m_R_below {l : Launch} {D : va_G} {cI cJ cS cO : ClassId} {B0 : Nat} (hl9 : l.stackTraces = false) {y : Nat → Nat} {sg d : Nat} {xs ws : List Nat} (hy : yI B0 y d) (ok0 : Ok sg d xs ws) (a b x : Int32) : CX l D (tyL cI cJ cS cO) B0 y_R_below c_R_below 5 (some .int) (rmK 7 1 6) [.ref (y 0), .int a, .int b, .int x] (fun H => LRx D cI cJ cS cO y sg d xs ws H) (fun v H0 H1 => ∃ w, v = some (.int w) ∧ aBel (bk xs a b) x w ∧ fr (fun q => q = y 3) H0 H1 ∧ LRx D cI cJ cS cO y sg d xs ws H1 ∧ isPt xs.length a b) (pxI (isPt xs.length a b)) 1 6 (fun q => q = y 3) := by
  refine cx_of (by decide) (Nat.le_of_ble_eq_true rfl) ?_
  intro p e s m below meth c ls hx hb hr hml hown hts hlocks hout hE hpre hl
  have hown : s.vm.findClass "LevelRows" = some m.cls := hown
  have hK := hE.1
  have hl : lv_has ls 5 [(0, .ref (y 0)), (1, .int a), (2, .int b), (3, .int x)] := hl
  have hS : va_S (fun q => q = y 3) s.heap s.heap [] := va_S.rf
  have hR0 := hpre.1.1
  have hRd : ∀ (k : Nat) (q : Nat × va_E), (Rw cO y (nI sg) d (nI xs.length) (nI ws.length))[k]? = some q → ¬ q.1 = y 3 := Rw.off hy (by omega) (by omega)
  have hAB : ∀ q : Nat, q = y 3 → B0 ≤ q := fun q h => by rw [h]; exact hy.2 3 (by omega)
  have hR := hR0
  have hd16 := ok0.d16
  have hx9 := ok0.len
  have hp16 := ok0.p16
  have hsg6 := ok0.2.1
  refine lv_aload_n hx hb d_R_below_0 rfl (lv_at hl 0 rfl) ?_
  refine lv_iload_n hx hb d_R_below_1 rfl (lv_at hl 1 rfl) ?_
  refine lv_iload_n hx hb d_R_below_2 rfl (lv_at hl 2 rfl) ?_
  refine cx_ret (vx_runV (As := [.int a, .int b]) (rest := []) ⟨hx, hb, hml, hown, hts⟩ (m_R_checkPart hl9 a b) ⟨ct_cb 2 hts x_309 x_306 x_1 rfl rfl (by decide +kernel) ⟨by decide, by decide⟩, hts _ x_308, hts _ s_R_checkPart⟩ ⟨st_blind, va_recv hK hR (ci := 2) (q0 := 0) rfl rfl, fun U hU hW => ⟨rfl, hE.at hS hAB hU hW, by rw [hU]; exact hR⟩⟩ rfl rfl hl.1 rfl (lv_room (Nat.le_of_ble_eq_true rfl)) d_R_below_3 ⟨by decide, by decide⟩) hS (fun q h => h.elim) (fun _ _ h => by rw [h.2.1]; exact fr.rf) (fun _ _ h => h.2.2) (fun E ce q H locs hxx hS hce hcv hcl => ?_) (fun v H locs hv hS => ?_)
  · obtain ⟨rfl, hn9, hf9⟩ := hxx
    exact vx_out (fun x hx => (hout x hx).elim) hlocks hce hcv hcl (fun t ht _ => by show (pxI (isPt xs.length a b)) _ s.heap t.heap; rw [ht]; exact ⟨rfl, hn9, hf9⟩) hS.2.2 (by decide) (by decide)
  obtain ⟨rfl, rfl, hcp⟩ := hv
  refine W.eq (g2 := F0 m 6 ls []) rfl ?_
  obtain ⟨hae, hbe, hab, hbx⟩ := hcp.ints hx9
  have hBl : (bk xs a b).length = cn b - cn a := bk_len hab hbx
  have hB6 : ∀ z ∈ bk xs a b, z < 65536 := fun z h => Nat.lt_of_lt_of_le (ok0.lt z (bk_mem h)) hp16
  refine lv_aload_n hx hb d_R_below_6 rfl (lv_at hl 0 rfl) ?_
  refine lv_iload_n hx hb d_R_below_7 rfl (lv_at hl 1 rfl) ?_
  refine lv_iload_n hx hb d_R_below_8 rfl (lv_at hl 2 rfl) ?_
  refine lv_iload_n hx hb d_R_below_9 rfl (lv_at hl 3 rfl) ?_
  refine ct_st (st' := [.int x, .int (nI (cn b)), .int (nI (cn a)), .ref (y 0)]) (by rw [← hbe, ← hae]) ?_
  refine cm_ret (va_runV (As := [.int (nI (cn a)), .int (nI (cn b)), .int x]) (rest := []) ⟨hx, hb, hml, hown, hts⟩ (m_R_howManyBelow hy ok0 hab hbx rfl x) ⟨ct_cb 3 hts x_382 x_379 x_1 rfl rfl (by decide +kernel) ⟨by decide, by decide⟩, hts _ x_381, hts _ s_R_howManyBelow⟩ ⟨st_blind, va_recv hK hR (ci := 2) (q0 := 0) rfl rfl, fun U hU hW => ⟨rfl, hE.at hS hAB hU hW, by rw [hU]; exact ⟨hpre.1, hpre.2.1⟩⟩⟩ rfl rfl hl.1 rfl (lv_room (Nat.le_of_ble_eq_true rfl)) d_R_below_10 ⟨by decide, by decide⟩) hS (fun q h => h) (fun _ _ h => h.2.1) (fun v H locs hv hS => ?_)
  obtain ⟨rfl, hfr1, hPP1⟩ := hv
  refine W.eq (g2 := F0 m 13 ls [.int (nI (cLt (bk xs a b) (cn x)))]) rfl ?_
  have hLR := lrx_part hy hpre hfr1 hPP1
  have hR := hR0.rd hS hRd
  have hcl := cLt_le (bk xs a b) (cn x)
  refine lv_istore (lv' := [(4, .int (nI (cLt (bk xs a b) (cn x)))), (0, .ref (y 0)), (1, .int a), (2, .int b), (3, .int x)]) hx hb d_R_below_13 hl (by decide) rfl (fun ls hl => ?_)
  refine lv_iload hx hb d_R_below_15 (lv_at hl 0 rfl) ?_
  rcases Nat.eq_zero_or_pos (cLt (bk xs a b) (cn x)) with h0 | h0
  · refine lv_if_le (tgt := 33) hx hb d_R_below_17 (by decide) (fun _ => ?_) (fun c9 => absurd (by rw [h0]; decide) c9)
    refine lv_iconst (v := (-1)) hx hb d_R_below_33 (by decide) ?_
    refine vx_ret (W.widen (k := 1) (n := 6) (by decide) (by decide) ?_)
    exact W.iret (v := -1) hx hb hr (fun t ht hW => ⟨_, rfl, by rw [ht]; exact ⟨_, rfl, aBel_none h0, fr.of hS, hLR, hcp⟩⟩) hS.2.2 d_R_below_34
  · refine lv_if_le (tgt := 33) hx hb d_R_below_17 (by decide) (fun c9 => absurd c9 (nI_nle h0 (by omega))) (fun _ => ?_)
    obtain ⟨r, hkr⟩ := kth_of_lt (k := cLt (bk xs a b) (cn x) - 1) (B := bk xs a b) (by omega) hB6
    refine lv_aload_n hx hb d_R_below_20 rfl (lv_at hl 1 rfl) ?_
    refine lv_iload_n hx hb d_R_below_21 rfl (lv_at hl 2 rfl) ?_
    refine lv_iload_n hx hb d_R_below_22 rfl (lv_at hl 3 rfl) ?_
    refine lv_iload hx hb d_R_below_23 (lv_at hl 0 rfl) ?_
    refine lv_iconst (v := 1) hx hb d_R_below_25 (by decide) ?_
    refine lv_isub hx hb d_R_below_26 ?_
    refine ct_topi (x' := nI (cLt (bk xs a b) (cn x) - 1)) (pk_sub (b := 1) h0) ?_
    refine ct_st (st' := [.int (nI (cLt (bk xs a b) (cn x) - 1)), .int (nI (cn b)), .int (nI (cn a)), .ref (y 0)]) (by rw [← hbe, ← hae]) ?_
    refine cm_ret (va_runV (As := [.int (nI (cn a)), .int (nI (cn b)), .int (nI (cLt (bk xs a b) (cn x) - 1))]) (rest := []) ⟨hx, hb, hml, hown, hts⟩ (m_R_kthLeast hy ok0 hab hbx rfl hkr) ⟨ct_cb 3 hts x_367 x_364 x_1 rfl rfl (by decide +kernel) ⟨by decide, by decide⟩, hts _ x_366, hts _ s_R_kthLeast⟩ ⟨st_blind, va_recv hK hR (ci := 2) (q0 := 0) rfl rfl, fun U hU hW => ⟨rfl, hE.at hS hAB hU hW, by rw [hU]; exact ⟨hLR.1, hLR.2.1⟩⟩⟩ rfl rfl hl.1 rfl (lv_room (Nat.le_of_ble_eq_true rfl)) d_R_below_27 ⟨by decide, by decide⟩) hS (fun q h => h) (fun _ _ h => h.2.1) (fun v H locs hv hS => ?_)
    obtain ⟨rfl, hfr2, u, g2, g3, g4, g5, hu, hP⟩ := hv
    refine W.eq (g2 := F0 m 30 ls [.int (nI r)]) rfl ?_
    refine lv_goto (tgt := 34) hx hb d_R_below_30 (by decide) ?_
    refine vx_ret (W.widen (k := 1) (n := 6) (by decide) (by decide) ?_)
    exact W.iret (v := nI r) hx hb hr (fun t ht hW => ⟨_, rfl, by rw [ht]; exact ⟨_, rfl, aBel_some h0 hkr, fr.of hS, lrx_part hy hLR hfr2 ⟨_, _, _, _, _, _, hP⟩, hcp⟩⟩) hS.2.2 d_R_below_34
set_option maxHeartbeats 4000000 in
set_option maxRecDepth 100000 in
theorem m_R_above {l : Launch} {D : va_G} {cI cJ cS cO : ClassId} {B0 : Nat} (hl9 : l.stackTraces = false) {y : Nat → Nat} {sg d : Nat} {xs ws : List Nat} (hy : yI B0 y d) (ok0 : Ok sg d xs ws) (a b x : Int32) : CX l D (tyL cI cJ cS cO) B0 y_R_above c_R_above 5 (some .int) (rmK 7 1 6) [.ref (y 0), .int a, .int b, .int x] (fun H => LRx D cI cJ cS cO y sg d xs ws H) (fun v H0 H1 => ∃ w, v = some (.int w) ∧ aAbv (bk xs a b) x w ∧ fr (fun q => q = y 3) H0 H1 ∧ LRx D cI cJ cS cO y sg d xs ws H1 ∧ isPt xs.length a b) (pxI (isPt xs.length a b)) 1 6 (fun q => q = y 3) := by
  refine cx_of (by decide) (Nat.le_of_ble_eq_true rfl) ?_
  intro p e s m below meth c ls hx hb hr hml hown hts hlocks hout hE hpre hl
  have hown : s.vm.findClass "LevelRows" = some m.cls := hown
  have hK := hE.1
  have hl : lv_has ls 5 [(0, .ref (y 0)), (1, .int a), (2, .int b), (3, .int x)] := hl
  have hS : va_S (fun q => q = y 3) s.heap s.heap [] := va_S.rf
  have hR0 := hpre.1.1
  have hRd : ∀ (k : Nat) (q : Nat × va_E), (Rw cO y (nI sg) d (nI xs.length) (nI ws.length))[k]? = some q → ¬ q.1 = y 3 := Rw.off hy (by omega) (by omega)
  have hAB : ∀ q : Nat, q = y 3 → B0 ≤ q := fun q h => by rw [h]; exact hy.2 3 (by omega)
  have hR := hR0
  have hd16 := ok0.d16
  have hx9 := ok0.len
  have hp16 := ok0.p16
  have hsg6 := ok0.2.1
  refine lv_aload_n hx hb d_R_above_0 rfl (lv_at hl 0 rfl) ?_
  refine lv_iload_n hx hb d_R_above_1 rfl (lv_at hl 1 rfl) ?_
  refine lv_iload_n hx hb d_R_above_2 rfl (lv_at hl 2 rfl) ?_
  refine cx_ret (vx_runV (As := [.int a, .int b]) (rest := []) ⟨hx, hb, hml, hown, hts⟩ (m_R_checkPart hl9 a b) ⟨ct_cb 2 hts x_309 x_306 x_1 rfl rfl (by decide +kernel) ⟨by decide, by decide⟩, hts _ x_308, hts _ s_R_checkPart⟩ ⟨st_blind, va_recv hK hR (ci := 2) (q0 := 0) rfl rfl, fun U hU hW => ⟨rfl, hE.at hS hAB hU hW, by rw [hU]; exact hR⟩⟩ rfl rfl hl.1 rfl (lv_room (Nat.le_of_ble_eq_true rfl)) d_R_above_3 ⟨by decide, by decide⟩) hS (fun q h => h.elim) (fun _ _ h => by rw [h.2.1]; exact fr.rf) (fun _ _ h => h.2.2) (fun E ce q H locs hxx hS hce hcv hcl => ?_) (fun v H locs hv hS => ?_)
  · obtain ⟨rfl, hn9, hf9⟩ := hxx
    exact vx_out (fun x hx => (hout x hx).elim) hlocks hce hcv hcl (fun t ht _ => by show (pxI (isPt xs.length a b)) _ s.heap t.heap; rw [ht]; exact ⟨rfl, hn9, hf9⟩) hS.2.2 (by decide) (by decide)
  obtain ⟨rfl, rfl, hcp⟩ := hv
  refine W.eq (g2 := F0 m 6 ls []) rfl ?_
  obtain ⟨hae, hbe, hab, hbx⟩ := hcp.ints hx9
  have hBl : (bk xs a b).length = cn b - cn a := bk_len hab hbx
  have hB6 : ∀ z ∈ bk xs a b, z < 65536 := fun z h => Nat.lt_of_lt_of_le (ok0.lt z (bk_mem h)) hp16
  refine lv_aload_n hx hb d_R_above_6 rfl (lv_at hl 0 rfl) ?_
  refine lv_iload_n hx hb d_R_above_7 rfl (lv_at hl 1 rfl) ?_
  refine lv_iload_n hx hb d_R_above_8 rfl (lv_at hl 2 rfl) ?_
  refine lv_iload_n hx hb d_R_above_9 rfl (lv_at hl 3 rfl) ?_
  refine ct_st (st' := [.int x, .int (nI (cn b)), .int (nI (cn a)), .ref (y 0)]) (by rw [← hbe, ← hae]) ?_
  refine cm_ret (va_runV (As := [.int (nI (cn a)), .int (nI (cn b)), .int x]) (rest := []) ⟨hx, hb, hml, hown, hts⟩ (m_R_howManyBelow hy ok0 hab hbx rfl x) ⟨ct_cb 3 hts x_382 x_379 x_1 rfl rfl (by decide +kernel) ⟨by decide, by decide⟩, hts _ x_381, hts _ s_R_howManyBelow⟩ ⟨st_blind, va_recv hK hR (ci := 2) (q0 := 0) rfl rfl, fun U hU hW => ⟨rfl, hE.at hS hAB hU hW, by rw [hU]; exact ⟨hpre.1, hpre.2.1⟩⟩⟩ rfl rfl hl.1 rfl (lv_room (Nat.le_of_ble_eq_true rfl)) d_R_above_10 ⟨by decide, by decide⟩) hS (fun q h => h) (fun _ _ h => h.2.1) (fun v H locs hv hS => ?_)
  obtain ⟨rfl, hfr1, hPP1⟩ := hv
  refine W.eq (g2 := F0 m 13 ls [.int (nI (cLt (bk xs a b) (cn x)))]) rfl ?_
  have hLR := lrx_part hy hpre hfr1 hPP1
  have hR := hR0.rd hS hRd
  have hcl := cLt_le (bk xs a b) (cn x)
  refine lv_istore (lv' := [(4, .int (nI (cLt (bk xs a b) (cn x)))), (0, .ref (y 0)), (1, .int a), (2, .int b), (3, .int x)]) hx hb d_R_above_13 hl (by decide) rfl (fun ls hl => ?_)
  refine lv_iload hx hb d_R_above_15 (lv_at hl 0 rfl) ?_
  refine lv_iload_n hx hb d_R_above_17 rfl (lv_at hl 3 rfl) ?_
  refine lv_iload_n hx hb d_R_above_18 rfl (lv_at hl 2 rfl) ?_
  refine lv_isub hx hb d_R_above_19 ?_
  refine ct_topi (x' := nI (cn b - cn a)) (by rw [← pk_sub hab, ← hbe, ← hae]) ?_
  rcases Nat.lt_or_ge (cLt (bk xs a b) (cn x)) (cn b - cn a) with h0 | h0
  · refine lv_icmp_ge (tgt := 34) hx hb d_R_above_20 (by decide) (fun c9 => absurd c9 (nI_ge h0 (by omega))) (fun _ => ?_)
    obtain ⟨r, hkr⟩ := kth_of_lt (k := cLt (bk xs a b) (cn x)) (B := bk xs a b) (by omega) hB6
    refine lv_aload_n hx hb d_R_above_23 rfl (lv_at hl 1 rfl) ?_
    refine lv_iload_n hx hb d_R_above_24 rfl (lv_at hl 2 rfl) ?_
    refine lv_iload_n hx hb d_R_above_25 rfl (lv_at hl 3 rfl) ?_
    refine lv_iload hx hb d_R_above_26 (lv_at hl 0 rfl) ?_
    refine ct_st (st' := [.int (nI (cLt (bk xs a b) (cn x))), .int (nI (cn b)), .int (nI (cn a)), .ref (y 0)]) (by rw [← hbe, ← hae]) ?_
    refine cm_ret (va_runV (As := [.int (nI (cn a)), .int (nI (cn b)), .int (nI (cLt (bk xs a b) (cn x)))]) (rest := []) ⟨hx, hb, hml, hown, hts⟩ (m_R_kthLeast hy ok0 hab hbx rfl hkr) ⟨ct_cb 3 hts x_367 x_364 x_1 rfl rfl (by decide +kernel) ⟨by decide, by decide⟩, hts _ x_366, hts _ s_R_kthLeast⟩ ⟨st_blind, va_recv hK hR (ci := 2) (q0 := 0) rfl rfl, fun U hU hW => ⟨rfl, hE.at hS hAB hU hW, by rw [hU]; exact ⟨hLR.1, hLR.2.1⟩⟩⟩ rfl rfl hl.1 rfl (lv_room (Nat.le_of_ble_eq_true rfl)) d_R_above_28 ⟨by decide, by decide⟩) hS (fun q h => h) (fun _ _ h => h.2.1) (fun v H locs hv hS => ?_)
    obtain ⟨rfl, hfr2, u, g2, g3, g4, g5, hu, hP⟩ := hv
    refine W.eq (g2 := F0 m 31 ls [.int (nI r)]) rfl ?_
    refine lv_goto (tgt := 35) hx hb d_R_above_31 (by decide) ?_
    refine vx_ret (W.widen (k := 1) (n := 6) (by decide) (by decide) ?_)
    exact W.iret (v := nI r) hx hb hr (fun t ht hW => ⟨_, rfl, by rw [ht]; exact ⟨_, rfl, aAbv_some hkr, fr.of hS, lrx_part hy hLR hfr2 ⟨_, _, _, _, _, _, hP⟩, hcp⟩⟩) hS.2.2 d_R_above_35
  · refine lv_icmp_ge (tgt := 34) hx hb d_R_above_20 (by decide) (fun _ => ?_) (fun c9 => absurd (nI_le h0 (by omega)) c9)
    refine lv_iconst (v := (-1)) hx hb d_R_above_34 (by decide) ?_
    refine vx_ret (W.widen (k := 1) (n := 6) (by decide) (by decide) ?_)
    exact W.iret (v := -1) hx hb hr (fun t ht hW => ⟨_, rfl, by rw [ht]; exact ⟨_, rfl, aAbv_none (by omega), fr.of hS, hLR, hcp⟩⟩) hS.2.2 d_R_above_35
