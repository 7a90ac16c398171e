/-! The law's own methods that catch. -/
set_option maxHeartbeats 4000000 in
set_option maxRecDepth 100000 in
theorem m_W_at {l : Launch} {D : va_G} {cI cJ cS cO : ClassId} {B0 : Nat} (hl9 : l.stackTraces = false) {y : Nat → Nat} {sg d : Nat} {xs ws : List Nat} (hy : yI B0 y d) (ok0 : Ok sg d xs ws) {ao : Nat} {g0 : Nat → Int64} (hao : ∀ i, i < 8 + 3 * d → ao ≠ y i) (hBo : B0 ≤ ao) (x : Int32) : CH l D (tyL cI cJ cS cO) B0 y_W_at c_W_at 4 (some .int) [(0, 9, 12, 13)] (rmK 8 1 6) [.ref (y 0), .int x, .ref ao] (fun H => LRx D cI cJ cS cO y sg d xs ws H ∧ va_P D vwCl [(ao, .inl (cJ, 1, .inr (.inl g0)))] H) (fun v H0 H1 => fr (fun q => (False) ∨ q = ao) H0 H1 ∧ ((v = some (.int 0) ∧ (¬ x < 0 ∧ x < nI xs.length) ∧ LRx D cI cJ cS cO y sg d xs ws H1 ∧ ∃ w g, (w = nI (xs.getD (cn x) 0)) ∧ g 0 = w.toInt64 ∧ va_P D vwCl [(ao, .inl (cJ, 1, .inr (.inl g)))] H1) ∨ (v = some (.int 1) ∧ ¬ (¬ x < 0 ∧ x < nI xs.length) ∧ LRx D cI cJ cS cO y sg d xs ws H1 ∧ ∃ g, va_P D vwCl [(ao, .inl (cJ, 1, .inr (.inl g)))] H1))) 1 6 (fun q => (False) ∨ q = ao) := by
  refine ch_of (by decide) (Nat.le_of_ble_eq_true rfl) ?_
  intro p e s m below meth c ls hx hb hr hml hown hts hlocks htab hE hN hpre hl
  have hown : s.vm.findClass "LevelRowsLaw" = some m.cls := hown
  have hK := hE.1
  have hl : lv_has ls 4 [(0, .ref (y 0)), (1, .int x), (2, .ref ao)] := hl
  have hAy : ¬ (fun q : Nat => False) ao := fun h => h
  have hAB : ∀ q : Nat, (False ∨ q = ao) → B0 ≤ q := fun q h => h.elim False.elim (fun h => by rw [h]; exact hBo)
  have hS : va_S (fun q => (False) ∨ q = ao) s.heap s.heap [] := va_S.rf
  have hR := hpre.1.1.1
  refine lv_aload_n hx hb d_W_at_0 rfl (lv_at hl 2 rfl) ?_
  refine lv_iconst (v := 0) hx hb d_W_at_1 (by decide) ?_
  refine lv_aload_n hx hb d_W_at_2 rfl (lv_at hl 0 rfl) ?_
  refine lv_iload_n hx hb d_W_at_3 rfl (lv_at hl 1 rfl) ?_
  refine cx_ret (vx_runV (As := [.int x]) (rest := [.int 0, .ref ao]) ⟨hx, hb, hml, hown, hts⟩ (m_R_at hl9 hy ok0 x) ⟨ct_cb 1 hts x_297 x_294 x_1 rfl rfl (by decide +kernel) ⟨by decide, by decide⟩, hts _ x_295, hts _ x_296⟩ ⟨st_blind, va_recv hK hR (ci := 2) (q0 := 0) rfl rfl, fun U hU hW => ⟨rfl, hE.at hS hAB hU hW, by rw [hU]; exact hpre.1⟩⟩ rfl rfl hl.1 rfl (lv_room (Nat.le_of_ble_eq_true rfl)) d_W_at_4 ⟨by decide, by decide⟩) hS (fun q h => Or.inl h) (fun _ _ h => by rw [h.2.1]; exact fr.rf) (fun _ _ h => h.2.2.mono (fun q h => h.elim)) (fun E ce q H locs hxx hS hce hcv hcl => ?_) (fun v H locs hv hS => ?_)
  · obtain ⟨rfl, hnc, hf9⟩ := hxx
    refine vx_catch (name := e_I) hown [] ⟨0, 9, 12, 13⟩ [] htab (fun z hz => nomatch hz) (by decide) (by decide) (hts _ x_176) (va_Nw.use rfl (hE.2.1 _ x_193)) hce hcv hcl ?_
    refine W.eq (g2 := F0 m 12 ls [.ref q]) rfl ?_
    refine lv_astore_n (lv' := [(3, .ref q), (0, .ref (y 0)), (1, .int x), (2, .ref ao)]) hx hb d_W_at_12 rfl hl (by decide) rfl (fun ls hl => ?_)
    refine lv_iconst (v := 1) hx hb d_W_at_13 (by decide) ?_
    refine vx_ret ?_
    exact W.iret (v := 1) hx hb hr (fun t ht hW => ⟨_, rfl, by rw [ht]; exact ⟨hf9.mono (fun q h => h.elim), Or.inr ⟨rfl, hnc, lrx_kept hpre.1 hf9 (fun _ _ h => h), g0, hpre.2.fr hf9 (va_P.off1 (b := 0) (A := fun _ => False) (fun h => h))⟩⟩⟩) hS.2.2 d_W_at_14
  · obtain ⟨rfl, rfl, hcd⟩ := hv
    have hLR := hpre.1
    have hP := hpre.2
    have hfr : fr (fun _ => False) s.heap s.heap := fr.rf
    refine W.eq (g2 := F0 m 7 ls [.int (nI (xs.getD (cn x) 0)), .int 0, .ref ao]) rfl ?_
    refine lv_i2l hx hb d_W_at_7 rfl ?_
    refine ct_last hx hb hK 1 hP rfl (vp_in_nI (n := 0) (by decide) (by decide)) d_W_at_8 (fun H2 locs2 hf2 hP hlo => ?_)
    refine lv_goto (tgt := 15) hx hb d_W_at_9 (by decide) ?_
    refine lv_iconst (v := 0) hx hb d_W_at_15 (by decide) ?_
    refine vx_ret ?_
    exact W.iret (v := 0) hx hb hr (fun t ht hW => ⟨_, rfl, by rw [ht]; exact ⟨(hfr.mono (fun q h => Or.inl h)).trans hf2 (fun q h => Or.inr h), Or.inl ⟨rfl, hcd, lrx_kept hLR hf2 (fun i hi h => hao i hi h.symm), _, _, rfl, rfl, hP⟩⟩⟩) (fun z hz => (hlo z hz).elim (fun h => hS.2.2 z h) (fun h => Or.inr h)) d_W_at_16
set_option maxHeartbeats 4000000 in
set_option maxRecDepth 100000 in
theorem m_W_rank {l : Launch} {D : va_G} {cI cJ cS cO : ClassId} {B0 : Nat} (hl9 : l.stackTraces = false) {y : Nat → Nat} {sg d : Nat} {xs ws : List Nat} (hy : yI B0 y d) (ok0 : Ok sg d xs ws) {ao : Nat} {g0 : Nat → Int64} (hao : ∀ i, i < 8 + 3 * d → ao ≠ y i) (hBo : B0 ≤ ao) (x z : Int32) : CH l D (tyL cI cJ cS cO) B0 y_W_rank c_W_rank 5 (some .int) [(0, 10, 13, 13)] (rmK 8 2 12) [.ref (y 0), .int x, .int z, .ref ao] (fun H => LRx D cI cJ cS cO y sg d xs ws H ∧ va_P D vwCl [(ao, .inl (cJ, 1, .inr (.inl g0)))] H) (fun v H0 H1 => fr (fun q => (q = y 3) ∨ q = ao) H0 H1 ∧ ((v = some (.int 0) ∧ (isS sg x ∧ isPt xs.length 0 z) ∧ LRx D cI cJ cS cO y sg d xs ws H1 ∧ ∃ w g, (w = nI (cEq (xs.take (cn z)) (cn x))) ∧ g 0 = w.toInt64 ∧ va_P D vwCl [(ao, .inl (cJ, 1, .inr (.inl g)))] H1) ∨ (v = some (.int 1) ∧ ¬ (isS sg x ∧ isPt xs.length 0 z) ∧ LRx D cI cJ cS cO y sg d xs ws H1 ∧ ∃ g, va_P D vwCl [(ao, .inl (cJ, 1, .inr (.inl g)))] H1))) 2 12 (fun q => (q = y 3) ∨ q = ao) := by
  refine ch_of (by decide) (Nat.le_of_ble_eq_true rfl) ?_
  intro p e s m below meth c ls hx hb hr hml hown hts hlocks htab hE hN hpre hl
  have hown : s.vm.findClass "LevelRowsLaw" = some m.cls := hown
  have hK := hE.1
  have hl : lv_has ls 5 [(0, .ref (y 0)), (1, .int x), (2, .int z), (3, .ref ao)] := hl
  have hAy : ¬ (fun q : Nat => q = y 3) ao := by
    rintro h
    · exact hao 3 (by omega) h
  have hAB : ∀ q : Nat, ((q = y 3) ∨ q = ao) → B0 ≤ q := by
    rintro q (rfl | rfl)
    · exact hy.2 3 (by omega)
    · exact hBo
  have hS : va_S (fun q => (q = y 3) ∨ q = ao) s.heap s.heap [] := va_S.rf
  have hR := hpre.1.1.1
  refine lv_aload_n hx hb d_W_rank_0 rfl (lv_at hl 3 rfl) ?_
  refine lv_iconst (v := 0) hx hb d_W_rank_1 (by decide) ?_
  refine lv_aload_n hx hb d_W_rank_2 rfl (lv_at hl 0 rfl) ?_
  refine lv_iload_n hx hb d_W_rank_3 rfl (lv_at hl 1 rfl) ?_
  refine lv_iload_n hx hb d_W_rank_4 rfl (lv_at hl 2 rfl) ?_
  refine cx_ret (vx_runV (As := [.int x, .int z]) (rest := [.int 0, .ref ao]) ⟨hx, hb, hml, hown, hts⟩ (m_R_rank hl9 hy ok0 x z) ⟨ct_cb 2 hts x_305 x_302 x_1 rfl rfl (by decide +kernel) ⟨by decide, by decide⟩, hts _ x_303, hts _ x_304⟩ ⟨st_blind, va_recv hK hR (ci := 2) (q0 := 0) rfl rfl, fun U hU hW => ⟨rfl, hE.at hS hAB hU hW, by rw [hU]; exact hpre.1⟩⟩ rfl rfl hl.1 rfl (lv_room (Nat.le_of_ble_eq_true rfl)) d_W_rank_5 ⟨by decide, by decide⟩) hS (fun q h => Or.inl h) (fun _ _ h => h.2.1) (fun _ _ h => h.2.2.mono (fun q h => h.elim)) (fun E ce q H locs hxx hS hce hcv hcl => ?_) (fun v H locs hv hS => ?_)
  · obtain ⟨rfl, hnc, hf9⟩ := hxx
    refine vx_catch (name := e_I) hown [] ⟨0, 10, 13, 13⟩ [] htab (fun z hz => nomatch hz) (by decide) (by decide) (hts _ x_176) (va_Nw.use rfl (hE.2.1 _ x_193)) hce hcv hcl ?_
    refine W.eq (g2 := F0 m 13 ls [.ref q]) rfl ?_
    refine lv_astore (lv' := [(4, .ref q), (0, .ref (y 0)), (1, .int x), (2, .int z), (3, .ref ao)]) hx hb d_W_rank_13 hl (by decide) rfl (fun ls hl => ?_)
    refine lv_iconst (v := 1) hx hb d_W_rank_15 (by decide) ?_
    refine vx_ret ?_
    exact W.iret (v := 1) hx hb hr (fun t ht hW => ⟨_, rfl, by rw [ht]; exact ⟨hf9.mono (fun q h => h.elim), Or.inr ⟨rfl, hnc, lrx_kept hpre.1 hf9 (fun _ _ h => h), g0, hpre.2.fr hf9 (va_P.off1 (b := 0) (A := fun _ => False) (fun h => h))⟩⟩⟩) hS.2.2 d_W_rank_16
  · obtain ⟨rfl, hfr, hLR, hcd⟩ := hv
    have hP := hpre.2.fr hfr (va_P.off1 (b := 0) (A := fun q => q = y 3) hAy)
    refine W.eq (g2 := F0 m 8 ls [.int (nI (cEq (xs.take (cn z)) (cn x))), .int 0, .ref ao]) rfl ?_
    refine lv_i2l hx hb d_W_rank_8 rfl ?_
    refine ct_last hx hb hK 1 hP rfl (vp_in_nI (n := 0) (by decide) (by decide)) d_W_rank_9 (fun H2 locs2 hf2 hP hlo => ?_)
    refine lv_goto (tgt := 17) hx hb d_W_rank_10 (by decide) ?_
    refine lv_iconst (v := 0) hx hb d_W_rank_17 (by decide) ?_
    refine vx_ret ?_
    exact W.iret (v := 0) hx hb hr (fun t ht hW => ⟨_, rfl, by rw [ht]; exact ⟨(hfr.mono (fun q h => Or.inl h)).trans hf2 (fun q h => Or.inr h), Or.inl ⟨rfl, hcd, lrx_kept hLR hf2 (fun i hi h => hao i hi h.symm), _, _, rfl, rfl, hP⟩⟩⟩) (fun z hz => (hlo z hz).elim (fun h => hS.2.2 z h) (fun h => Or.inr h)) d_W_rank_18
set_option maxHeartbeats 4000000 in
set_option maxRecDepth 100000 in
theorem m_W_select {l : Launch} {D : va_G} {cI cJ cS cO : ClassId} {B0 : Nat} (hl9 : l.stackTraces = false) {y : Nat → Nat} {sg d : Nat} {xs ws : List Nat} (hy : yI B0 y d) (ok0 : Ok sg d xs ws) {ao : Nat} {g0 : Nat → Int64} (hao : ∀ i, i < 8 + 3 * d → ao ≠ y i) (hBo : B0 ≤ ao) (x k : Int32) : CH l D (tyL cI cJ cS cO) B0 y_W_select c_W_select 5 (some .int) [(0, 10, 13, 13)] (rmK 8 2 12) [.ref (y 0), .int x, .int k, .ref ao] (fun H => LRx D cI cJ cS cO y sg d xs ws H ∧ va_P D vwCl [(ao, .inl (cJ, 1, .inr (.inl g0)))] H) (fun v H0 H1 => fr (fun q => (q = y 3) ∨ q = ao) H0 H1 ∧ ((v = some (.int 0) ∧ (isS sg x ∧ ¬ k < 0) ∧ LRx D cI cJ cS cO y sg d xs ws H1 ∧ ∃ w g, (aSel xs x k w) ∧ g 0 = w.toInt64 ∧ va_P D vwCl [(ao, .inl (cJ, 1, .inr (.inl g)))] H1) ∨ (v = some (.int 1) ∧ ¬ (isS sg x ∧ ¬ k < 0) ∧ LRx D cI cJ cS cO y sg d xs ws H1 ∧ ∃ g, va_P D vwCl [(ao, .inl (cJ, 1, .inr (.inl g)))] H1))) 2 12 (fun q => (q = y 3) ∨ q = ao) := by
  refine ch_of (by decide) (Nat.le_of_ble_eq_true rfl) ?_
  intro p e s m below meth c ls hx hb hr hml hown hts hlocks htab hE hN hpre hl
  have hown : s.vm.findClass "LevelRowsLaw" = some m.cls := hown
  have hK := hE.1
  have hl : lv_has ls 5 [(0, .ref (y 0)), (1, .int x), (2, .int k), (3, .ref ao)] := hl
  have hAy : ¬ (fun q : Nat => q = y 3) ao := by
    rintro h
    · exact hao 3 (by omega) h
  have hAB : ∀ q : Nat, ((q = y 3) ∨ q = ao) → B0 ≤ q := by
    rintro q (rfl | rfl)
    · exact hy.2 3 (by omega)
    · exact hBo
  have hS : va_S (fun q => (q = y 3) ∨ q = ao) s.heap s.heap [] := va_S.rf
  have hR := hpre.1.1.1
  refine lv_aload_n hx hb d_W_select_0 rfl (lv_at hl 3 rfl) ?_
  refine lv_iconst (v := 0) hx hb d_W_select_1 (by decide) ?_
  refine lv_aload_n hx hb d_W_select_2 rfl (lv_at hl 0 rfl) ?_
  refine lv_iload_n hx hb d_W_select_3 rfl (lv_at hl 1 rfl) ?_
  refine lv_iload_n hx hb d_W_select_4 rfl (lv_at hl 2 rfl) ?_
  refine cx_ret (vx_runV (As := [.int x, .int k]) (rest := [.int 0, .ref ao]) ⟨hx, hb, hml, hown, hts⟩ (m_R_select hl9 hy ok0 x k) ⟨ct_cb 2 hts x_338 x_335 x_1 rfl rfl (by decide +kernel) ⟨by decide, by decide⟩, hts _ x_336, hts _ x_337⟩ ⟨st_blind, va_recv hK hR (ci := 2) (q0 := 0) rfl rfl, fun U hU hW => ⟨rfl, hE.at hS hAB hU hW, by rw [hU]; exact hpre.1⟩⟩ rfl rfl hl.1 rfl (lv_room (Nat.le_of_ble_eq_true rfl)) d_W_select_5 ⟨by decide, by decide⟩) hS (fun q h => Or.inl h) (fun _ _ h => by obtain ⟨w, _, _, h, _⟩ := h; exact h) (fun _ _ h => h.2.2.mono (fun q h => h.elim)) (fun E ce q H locs hxx hS hce hcv hcl => ?_) (fun v H locs hv hS => ?_)
  · obtain ⟨rfl, hnc, hf9⟩ := hxx
    refine vx_catch (name := e_I) hown [] ⟨0, 10, 13, 13⟩ [] htab (fun z hz => nomatch hz) (by decide) (by decide) (hts _ x_176) (va_Nw.use rfl (hE.2.1 _ x_193)) hce hcv hcl ?_
    refine W.eq (g2 := F0 m 13 ls [.ref q]) rfl ?_
    refine lv_astore (lv' := [(4, .ref q), (0, .ref (y 0)), (1, .int x), (2, .int k), (3, .ref ao)]) hx hb d_W_select_13 hl (by decide) rfl (fun ls hl => ?_)
    refine lv_iconst (v := 1) hx hb d_W_select_15 (by decide) ?_
    refine vx_ret ?_
    exact W.iret (v := 1) hx hb hr (fun t ht hW => ⟨_, rfl, by rw [ht]; exact ⟨hf9.mono (fun q h => h.elim), Or.inr ⟨rfl, hnc, lrx_kept hpre.1 hf9 (fun _ _ h => h), g0, hpre.2.fr hf9 (va_P.off1 (b := 0) (A := fun _ => False) (fun h => h))⟩⟩⟩) hS.2.2 d_W_select_16
  · obtain ⟨w, rfl, hrel, hfr, hLR, hcd⟩ := hv
    have hP := hpre.2.fr hfr (va_P.off1 (b := 0) (A := fun q => q = y 3) hAy)
    refine W.eq (g2 := F0 m 8 ls [.int w, .int 0, .ref ao]) rfl ?_
    refine lv_i2l hx hb d_W_select_8 rfl ?_
    refine ct_last hx hb hK 1 hP rfl (vp_in_nI (n := 0) (by decide) (by decide)) d_W_select_9 (fun H2 locs2 hf2 hP hlo => ?_)
    refine lv_goto (tgt := 17) hx hb d_W_select_10 (by decide) ?_
    refine lv_iconst (v := 0) hx hb d_W_select_17 (by decide) ?_
    refine vx_ret ?_
    exact W.iret (v := 0) hx hb hr (fun t ht hW => ⟨_, rfl, by rw [ht]; exact ⟨(hfr.mono (fun q h => Or.inl h)).trans hf2 (fun q h => Or.inr h), Or.inl ⟨rfl, hcd, lrx_kept hLR hf2 (fun i hi h => hao i hi h.symm), _, _, hrel, rfl, hP⟩⟩⟩) (fun z hz => (hlo z hz).elim (fun h => hS.2.2 z h) (fun h => Or.inr h)) d_W_select_18
set_option maxHeartbeats 4000000 in
set_option maxRecDepth 100000 in
theorem m_W_quantile {l : Launch} {D : va_G} {cI cJ cS cO : ClassId} {B0 : Nat} (hl9 : l.stackTraces = false) {y : Nat → Nat} {sg d : Nat} {xs ws : List Nat} (hy : yI B0 y d) (ok0 : Ok sg d xs ws) {ao : Nat} {g0 : Nat → Int64} (hao : ∀ i, i < 8 + 3 * d → ao ≠ y i) (hBo : B0 ≤ ao) (a b k : Int32) : CH l D (tyL cI cJ cS cO) B0 y_W_quantile c_W_quantile 6 (some .int) [(0, 12, 15, 13)] (rmK 8 3 18) [.ref (y 0), .int a, .int b, .int k, .ref ao] (fun H => LRx D cI cJ cS cO y sg d xs ws H ∧ va_P D vwCl [(ao, .inl (cJ, 1, .inr (.inl g0)))] H) (fun v H0 H1 => fr (fun q => (q = y 3) ∨ q = ao) H0 H1 ∧ ((v = some (.int 0) ∧ (isPt xs.length a b ∧ ¬ k < 0 ∧ k < b - a) ∧ LRx D cI cJ cS cO y sg d xs ws H1 ∧ ∃ w g, (aQua (bk xs a b) k w) ∧ g 0 = w.toInt64 ∧ va_P D vwCl [(ao, .inl (cJ, 1, .inr (.inl g)))] H1) ∨ (v = some (.int 1) ∧ ¬ (isPt xs.length a b ∧ ¬ k < 0 ∧ k < b - a) ∧ LRx D cI cJ cS cO y sg d xs ws H1 ∧ ∃ g, va_P D vwCl [(ao, .inl (cJ, 1, .inr (.inl g)))] H1))) 3 18 (fun q => (q = y 3) ∨ q = ao) := by
  refine ch_of (by decide) (Nat.le_of_ble_eq_true rfl) ?_
  intro p e s m below meth c ls hx hb hr hml hown hts hlocks htab hE hN hpre hl
  have hown : s.vm.findClass "LevelRowsLaw" = some m.cls := hown
  have hK := hE.1
  have hl : lv_has ls 6 [(0, .ref (y 0)), (1, .int a), (2, .int b), (3, .int k), (4, .ref ao)] := hl
  have hAy : ¬ (fun q : Nat => q = y 3) ao := by
    rintro h
    · exact hao 3 (by omega) h
  have hAB : ∀ q : Nat, ((q = y 3) ∨ q = ao) → B0 ≤ q := by
    rintro q (rfl | rfl)
    · exact hy.2 3 (by omega)
    · exact hBo
  have hS : va_S (fun q => (q = y 3) ∨ q = ao) s.heap s.heap [] := va_S.rf
  have hR := hpre.1.1.1
  refine lv_aload hx hb d_W_quantile_0 (lv_at hl 4 rfl) ?_
  refine lv_iconst (v := 0) hx hb d_W_quantile_2 (by decide) ?_
  refine lv_aload_n hx hb d_W_quantile_3 rfl (lv_at hl 0 rfl) ?_
  refine lv_iload_n hx hb d_W_quantile_4 rfl (lv_at hl 1 rfl) ?_
  refine lv_iload_n hx hb d_W_quantile_5 rfl (lv_at hl 2 rfl) ?_
  refine lv_iload_n hx hb d_W_quantile_6 rfl (lv_at hl 3 rfl) ?_
  refine cx_ret (vx_runV (As := [.int a, .int b, .int k]) (rest := [.int 0, .ref ao]) ⟨hx, hb, hml, hown, hts⟩ (m_R_quantile hl9 hy ok0 a b k) ⟨ct_cb 3 hts x_362 x_359 x_1 rfl rfl (by decide +kernel) ⟨by decide, by decide⟩, hts _ x_360, hts _ x_361⟩ ⟨st_blind, va_recv hK hR (ci := 2) (q0 := 0) rfl rfl, fun U hU hW => ⟨rfl, hE.at hS hAB hU hW, by rw [hU]; exact hpre.1⟩⟩ rfl rfl hl.1 rfl (lv_room (Nat.le_of_ble_eq_true rfl)) d_W_quantile_7 ⟨by decide, by decide⟩) hS (fun q h => Or.inl h) (fun _ _ h => by obtain ⟨w, _, _, h, _⟩ := h; exact h) (fun _ _ h => h.2.2.mono (fun q h => h.elim)) (fun E ce q H locs hxx hS hce hcv hcl => ?_) (fun v H locs hv hS => ?_)
  · obtain ⟨rfl, hnc, hf9⟩ := hxx
    refine vx_catch (name := e_I) hown [] ⟨0, 12, 15, 13⟩ [] htab (fun z hz => nomatch hz) (by decide) (by decide) (hts _ x_176) (va_Nw.use rfl (hE.2.1 _ x_193)) hce hcv hcl ?_
    refine W.eq (g2 := F0 m 15 ls [.ref q]) rfl ?_
    refine lv_astore (lv' := [(5, .ref q), (0, .ref (y 0)), (1, .int a), (2, .int b), (3, .int k), (4, .ref ao)]) hx hb d_W_quantile_15 hl (by decide) rfl (fun ls hl => ?_)
    refine lv_iconst (v := 1) hx hb d_W_quantile_17 (by decide) ?_
    refine vx_ret ?_
    exact W.iret (v := 1) hx hb hr (fun t ht hW => ⟨_, rfl, by rw [ht]; exact ⟨hf9.mono (fun q h => h.elim), Or.inr ⟨rfl, hnc, lrx_kept hpre.1 hf9 (fun _ _ h => h), g0, hpre.2.fr hf9 (va_P.off1 (b := 0) (A := fun _ => False) (fun h => h))⟩⟩⟩) hS.2.2 d_W_quantile_18
  · obtain ⟨w, rfl, hrel, hfr, hLR, hcd⟩ := hv
    have hP := hpre.2.fr hfr (va_P.off1 (b := 0) (A := fun q => q = y 3) hAy)
    refine W.eq (g2 := F0 m 10 ls [.int w, .int 0, .ref ao]) rfl ?_
    refine lv_i2l hx hb d_W_quantile_10 rfl ?_
    refine ct_last hx hb hK 1 hP rfl (vp_in_nI (n := 0) (by decide) (by decide)) d_W_quantile_11 (fun H2 locs2 hf2 hP hlo => ?_)
    refine lv_goto (tgt := 19) hx hb d_W_quantile_12 (by decide) ?_
    refine lv_iconst (v := 0) hx hb d_W_quantile_19 (by decide) ?_
    refine vx_ret ?_
    exact W.iret (v := 0) hx hb hr (fun t ht hW => ⟨_, rfl, by rw [ht]; exact ⟨(hfr.mono (fun q h => Or.inl h)).trans hf2 (fun q h => Or.inr h), Or.inl ⟨rfl, hcd, lrx_kept hLR hf2 (fun i hi h => hao i hi h.symm), _, _, hrel, rfl, hP⟩⟩⟩) (fun z hz => (hlo z hz).elim (fun h => hS.2.2 z h) (fun h => Or.inr h)) d_W_quantile_20
set_option maxHeartbeats 4000000 in
set_option maxRecDepth 100000 in
theorem m_W_between {l : Launch} {D : va_G} {cI cJ cS cO : ClassId} {B0 : Nat} (hl9 : l.stackTraces = false) {y : Nat → Nat} {sg d : Nat} {xs ws : List Nat} (hy : yI B0 y d) (ok0 : Ok sg d xs ws) {ao : Nat} {g0 : Nat → Int64} (hao : ∀ i, i < 8 + 3 * d → ao ≠ y i) (hBo : B0 ≤ ao) (a b lo hi : Int32) : CH l D (tyL cI cJ cS cO) B0 y_W_between c_W_between 7 (some .int) [(0, 14, 17, 13)] (rmK 8 1 6) [.ref (y 0), .int a, .int b, .int lo, .int hi, .ref ao] (fun H => LRx D cI cJ cS cO y sg d xs ws H ∧ va_P D vwCl [(ao, .inl (cJ, 1, .inr (.inl g0)))] H) (fun v H0 H1 => fr (fun q => (q = y 3) ∨ q = ao) H0 H1 ∧ ((v = some (.int 0) ∧ (isPt xs.length a b) ∧ LRx D cI cJ cS cO y sg d xs ws H1 ∧ ∃ w g, (w = aBtw (bk xs a b) lo hi) ∧ g 0 = w.toInt64 ∧ va_P D vwCl [(ao, .inl (cJ, 1, .inr (.inl g)))] H1) ∨ (v = some (.int 1) ∧ ¬ (isPt xs.length a b) ∧ LRx D cI cJ cS cO y sg d xs ws H1 ∧ ∃ g, va_P D vwCl [(ao, .inl (cJ, 1, .inr (.inl g)))] H1))) 1 6 (fun q => (q = y 3) ∨ q = ao) := by
  refine ch_of (by decide) (Nat.le_of_ble_eq_true rfl) ?_
  intro p e s m below meth c ls hx hb hr hml hown hts hlocks htab hE hN hpre hl
  have hown : s.vm.findClass "LevelRowsLaw" = some m.cls := hown
  have hK := hE.1
  have hl : lv_has ls 7 [(0, .ref (y 0)), (1, .int a), (2, .int b), (3, .int lo), (4, .int hi), (5, .ref ao)] := hl
  have hAy : ¬ (fun q : Nat => q = y 3) ao := by
    rintro h
    · exact hao 3 (by omega) h
  have hAB : ∀ q : Nat, ((q = y 3) ∨ q = ao) → B0 ≤ q := by
    rintro q (rfl | rfl)
    · exact hy.2 3 (by omega)
    · exact hBo
  have hS : va_S (fun q => (q = y 3) ∨ q = ao) s.heap s.heap [] := va_S.rf
  have hR := hpre.1.1.1
  refine lv_aload hx hb d_W_between_0 (lv_at hl 5 rfl) ?_
  refine lv_iconst (v := 0) hx hb d_W_between_2 (by decide) ?_
  refine lv_aload_n hx hb d_W_between_3 rfl (lv_at hl 0 rfl) ?_
  refine lv_iload_n hx hb d_W_between_4 rfl (lv_at hl 1 rfl) ?_
  refine lv_iload_n hx hb d_W_between_5 rfl (lv_at hl 2 rfl) ?_
  refine lv_iload_n hx hb d_W_between_6 rfl (lv_at hl 3 rfl) ?_
  refine lv_iload hx hb d_W_between_7 (lv_at hl 4 rfl) ?_
  refine cx_ret (vx_runV (As := [.int a, .int b, .int lo, .int hi]) (rest := [.int 0, .ref ao]) ⟨hx, hb, hml, hown, hts⟩ (m_R_between hl9 hy ok0 a b lo hi) ⟨ct_cb 4 hts x_378 x_375 x_1 rfl rfl (by decide +kernel) ⟨by decide, by decide⟩, hts _ x_376, hts _ x_377⟩ ⟨st_blind, va_recv hK hR (ci := 2) (q0 := 0) rfl rfl, fun U hU hW => ⟨rfl, hE.at hS hAB hU hW, by rw [hU]; exact hpre.1⟩⟩ rfl rfl hl.1 rfl (lv_room (Nat.le_of_ble_eq_true rfl)) d_W_between_9 ⟨by decide, by decide⟩) hS (fun q h => Or.inl h) (fun _ _ h => h.2.1) (fun _ _ h => h.2.2.mono (fun q h => h.elim)) (fun E ce q H locs hxx hS hce hcv hcl => ?_) (fun v H locs hv hS => ?_)
  · obtain ⟨rfl, hnc, hf9⟩ := hxx
    refine vx_catch (name := e_I) hown [] ⟨0, 14, 17, 13⟩ [] htab (fun z hz => nomatch hz) (by decide) (by decide) (hts _ x_176) (va_Nw.use rfl (hE.2.1 _ x_193)) hce hcv hcl ?_
    refine W.eq (g2 := F0 m 17 ls [.ref q]) rfl ?_
    refine lv_astore (lv' := [(6, .ref q), (0, .ref (y 0)), (1, .int a), (2, .int b), (3, .int lo), (4, .int hi), (5, .ref ao)]) hx hb d_W_between_17 hl (by decide) rfl (fun ls hl => ?_)
    refine lv_iconst (v := 1) hx hb d_W_between_19 (by decide) ?_
    refine vx_ret ?_
    exact W.iret (v := 1) hx hb hr (fun t ht hW => ⟨_, rfl, by rw [ht]; exact ⟨hf9.mono (fun q h => h.elim), Or.inr ⟨rfl, hnc, lrx_kept hpre.1 hf9 (fun _ _ h => h), g0, hpre.2.fr hf9 (va_P.off1 (b := 0) (A := fun _ => False) (fun h => h))⟩⟩⟩) hS.2.2 d_W_between_20
  · obtain ⟨rfl, hfr, hLR, hcd⟩ := hv
    have hP := hpre.2.fr hfr (va_P.off1 (b := 0) (A := fun q => q = y 3) hAy)
    refine W.eq (g2 := F0 m 12 ls [.int (aBtw (bk xs a b) lo hi), .int 0, .ref ao]) rfl ?_
    refine lv_i2l hx hb d_W_between_12 rfl ?_
    refine ct_last hx hb hK 1 hP rfl (vp_in_nI (n := 0) (by decide) (by decide)) d_W_between_13 (fun H2 locs2 hf2 hP hlo => ?_)
    refine lv_goto (tgt := 21) hx hb d_W_between_14 (by decide) ?_
    refine lv_iconst (v := 0) hx hb d_W_between_21 (by decide) ?_
    refine vx_ret ?_
    exact W.iret (v := 0) hx hb hr (fun t ht hW => ⟨_, rfl, by rw [ht]; exact ⟨(hfr.mono (fun q h => Or.inl h)).trans hf2 (fun q h => Or.inr h), Or.inl ⟨rfl, hcd, lrx_kept hLR hf2 (fun i hi h => hao i hi h.symm), _, _, rfl, rfl, hP⟩⟩⟩) (fun z hz => (hlo z hz).elim (fun h => hS.2.2 z h) (fun h => Or.inr h)) d_W_between_22
set_option maxHeartbeats 4000000 in
set_option maxRecDepth 100000 in
theorem m_W_below {l : Launch} {D : va_G} {cI cJ cS cO : ClassId} {B0 : Nat} (hl9 : l.stackTraces = false) {y : Nat → Nat} {sg d : Nat} {xs ws : List Nat} (hy : yI B0 y d) (ok0 : Ok sg d xs ws) {ao : Nat} {g0 : Nat → Int64} (hao : ∀ i, i < 8 + 3 * d → ao ≠ y i) (hBo : B0 ≤ ao) (a b x : Int32) : CH l D (tyL cI cJ cS cO) B0 y_W_below c_W_below 6 (some .int) [(0, 12, 15, 13)] (rmK 8 1 6) [.ref (y 0), .int a, .int b, .int x, .ref ao] (fun H => LRx D cI cJ cS cO y sg d xs ws H ∧ va_P D vwCl [(ao, .inl (cJ, 1, .inr (.inl g0)))] H) (fun v H0 H1 => fr (fun q => (q = y 3) ∨ q = ao) H0 H1 ∧ ((v = some (.int 0) ∧ (isPt xs.length a b) ∧ LRx D cI cJ cS cO y sg d xs ws H1 ∧ ∃ w g, (aBel (bk xs a b) x w) ∧ g 0 = w.toInt64 ∧ va_P D vwCl [(ao, .inl (cJ, 1, .inr (.inl g)))] H1) ∨ (v = some (.int 1) ∧ ¬ (isPt xs.length a b) ∧ LRx D cI cJ cS cO y sg d xs ws H1 ∧ ∃ g, va_P D vwCl [(ao, .inl (cJ, 1, .inr (.inl g)))] H1))) 1 6 (fun q => (q = y 3) ∨ q = ao) := by
  refine ch_of (by decide) (Nat.le_of_ble_eq_true rfl) ?_
  intro p e s m below meth c ls hx hb hr hml hown hts hlocks htab hE hN hpre hl
  have hown : s.vm.findClass "LevelRowsLaw" = some m.cls := hown
  have hK := hE.1
  have hl : lv_has ls 6 [(0, .ref (y 0)), (1, .int a), (2, .int b), (3, .int x), (4, .ref ao)] := hl
  have hAy : ¬ (fun q : Nat => q = y 3) ao := by
    rintro h
    · exact hao 3 (by omega) h
  have hAB : ∀ q : Nat, ((q = y 3) ∨ q = ao) → B0 ≤ q := by
    rintro q (rfl | rfl)
    · exact hy.2 3 (by omega)
    · exact hBo
  have hS : va_S (fun q => (q = y 3) ∨ q = ao) s.heap s.heap [] := va_S.rf
  have hR := hpre.1.1.1
  refine lv_aload hx hb d_W_below_0 (lv_at hl 4 rfl) ?_
  refine lv_iconst (v := 0) hx hb d_W_below_2 (by decide) ?_
  refine lv_aload_n hx hb d_W_below_3 rfl (lv_at hl 0 rfl) ?_
  refine lv_iload_n hx hb d_W_below_4 rfl (lv_at hl 1 rfl) ?_
  refine lv_iload_n hx hb d_W_below_5 rfl (lv_at hl 2 rfl) ?_
  refine lv_iload_n hx hb d_W_below_6 rfl (lv_at hl 3 rfl) ?_
  refine cx_ret (vx_runV (As := [.int a, .int b, .int x]) (rest := [.int 0, .ref ao]) ⟨hx, hb, hml, hown, hts⟩ (m_R_below hl9 hy ok0 a b x) ⟨ct_cb 3 hts x_389 x_386 x_1 rfl rfl (by decide +kernel) ⟨by decide, by decide⟩, hts _ x_387, hts _ x_388⟩ ⟨st_blind, va_recv hK hR (ci := 2) (q0 := 0) rfl rfl, fun U hU hW => ⟨rfl, hE.at hS hAB hU hW, by rw [hU]; exact hpre.1⟩⟩ rfl rfl hl.1 rfl (lv_room (Nat.le_of_ble_eq_true rfl)) d_W_below_7 ⟨by decide, by decide⟩) hS (fun q h => Or.inl h) (fun _ _ h => by obtain ⟨w, _, _, h, _⟩ := h; exact h) (fun _ _ h => h.2.2.mono (fun q h => h.elim)) (fun E ce q H locs hxx hS hce hcv hcl => ?_) (fun v H locs hv hS => ?_)
  · obtain ⟨rfl, hnc, hf9⟩ := hxx
    refine vx_catch (name := e_I) hown [] ⟨0, 12, 15, 13⟩ [] htab (fun z hz => nomatch hz) (by decide) (by decide) (hts _ x_176) (va_Nw.use rfl (hE.2.1 _ x_193)) hce hcv hcl ?_
    refine W.eq (g2 := F0 m 15 ls [.ref q]) rfl ?_
    refine lv_astore (lv' := [(5, .ref q), (0, .ref (y 0)), (1, .int a), (2, .int b), (3, .int x), (4, .ref ao)]) hx hb d_W_below_15 hl (by decide) rfl (fun ls hl => ?_)
    refine lv_iconst (v := 1) hx hb d_W_below_17 (by decide) ?_
    refine vx_ret ?_
    exact W.iret (v := 1) hx hb hr (fun t ht hW => ⟨_, rfl, by rw [ht]; exact ⟨hf9.mono (fun q h => h.elim), Or.inr ⟨rfl, hnc, lrx_kept hpre.1 hf9 (fun _ _ h => h), g0, hpre.2.fr hf9 (va_P.off1 (b := 0) (A := fun _ => False) (fun h => h))⟩⟩⟩) hS.2.2 d_W_below_18
  · obtain ⟨w, rfl, hrel, hfr, hLR, hcd⟩ := hv
    have hP := hpre.2.fr hfr (va_P.off1 (b := 0) (A := fun q => q = y 3) hAy)
    refine W.eq (g2 := F0 m 10 ls [.int w, .int 0, .ref ao]) rfl ?_
    refine lv_i2l hx hb d_W_below_10 rfl ?_
    refine ct_last hx hb hK 1 hP rfl (vp_in_nI (n := 0) (by decide) (by decide)) d_W_below_11 (fun H2 locs2 hf2 hP hlo => ?_)
    refine lv_goto (tgt := 19) hx hb d_W_below_12 (by decide) ?_
    refine lv_iconst (v := 0) hx hb d_W_below_19 (by decide) ?_
    refine vx_ret ?_
    exact W.iret (v := 0) hx hb hr (fun t ht hW => ⟨_, rfl, by rw [ht]; exact ⟨(hfr.mono (fun q h => Or.inl h)).trans hf2 (fun q h => Or.inr h), Or.inl ⟨rfl, hcd, lrx_kept hLR hf2 (fun i hi h => hao i hi h.symm), _, _, hrel, rfl, hP⟩⟩⟩) (fun z hz => (hlo z hz).elim (fun h => hS.2.2 z h) (fun h => Or.inr h)) d_W_below_20
set_option maxHeartbeats 4000000 in
set_option maxRecDepth 100000 in
theorem m_W_above {l : Launch} {D : va_G} {cI cJ cS cO : ClassId} {B0 : Nat} (hl9 : l.stackTraces = false) {y : Nat → Nat} {sg d : Nat} {xs ws : List Nat} (hy : yI B0 y d) (ok0 : Ok sg d xs ws) {ao : Nat} {g0 : Nat → Int64} (hao : ∀ i, i < 8 + 3 * d → ao ≠ y i) (hBo : B0 ≤ ao) (a b x : Int32) : CH l D (tyL cI cJ cS cO) B0 y_W_above c_W_above 6 (some .int) [(0, 12, 15, 13)] (rmK 8 1 6) [.ref (y 0), .int a, .int b, .int x, .ref ao] (fun H => LRx D cI cJ cS cO y sg d xs ws H ∧ va_P D vwCl [(ao, .inl (cJ, 1, .inr (.inl g0)))] H) (fun v H0 H1 => fr (fun q => (q = y 3) ∨ q = ao) H0 H1 ∧ ((v = some (.int 0) ∧ (isPt xs.length a b) ∧ LRx D cI cJ cS cO y sg d xs ws H1 ∧ ∃ w g, (aAbv (bk xs a b) x w) ∧ g 0 = w.toInt64 ∧ va_P D vwCl [(ao, .inl (cJ, 1, .inr (.inl g)))] H1) ∨ (v = some (.int 1) ∧ ¬ (isPt xs.length a b) ∧ LRx D cI cJ cS cO y sg d xs ws H1 ∧ ∃ g, va_P D vwCl [(ao, .inl (cJ, 1, .inr (.inl g)))] H1))) 1 6 (fun q => (q = y 3) ∨ q = ao) := by
  refine ch_of (by decide) (Nat.le_of_ble_eq_true rfl) ?_
  intro p e s m below meth c ls hx hb hr hml hown hts hlocks htab hE hN hpre hl
  have hown : s.vm.findClass "LevelRowsLaw" = some m.cls := hown
  have hK := hE.1
  have hl : lv_has ls 6 [(0, .ref (y 0)), (1, .int a), (2, .int b), (3, .int x), (4, .ref ao)] := hl
  have hAy : ¬ (fun q : Nat => q = y 3) ao := by
    rintro h
    · exact hao 3 (by omega) h
  have hAB : ∀ q : Nat, ((q = y 3) ∨ q = ao) → B0 ≤ q := by
    rintro q (rfl | rfl)
    · exact hy.2 3 (by omega)
    · exact hBo
  have hS : va_S (fun q => (q = y 3) ∨ q = ao) s.heap s.heap [] := va_S.rf
  have hR := hpre.1.1.1
  refine lv_aload hx hb d_W_above_0 (lv_at hl 4 rfl) ?_
  refine lv_iconst (v := 0) hx hb d_W_above_2 (by decide) ?_
  refine lv_aload_n hx hb d_W_above_3 rfl (lv_at hl 0 rfl) ?_
  refine lv_iload_n hx hb d_W_above_4 rfl (lv_at hl 1 rfl) ?_
  refine lv_iload_n hx hb d_W_above_5 rfl (lv_at hl 2 rfl) ?_
  refine lv_iload_n hx hb d_W_above_6 rfl (lv_at hl 3 rfl) ?_
  refine cx_ret (vx_runV (As := [.int a, .int b, .int x]) (rest := [.int 0, .ref ao]) ⟨hx, hb, hml, hown, hts⟩ (m_R_above hl9 hy ok0 a b x) ⟨ct_cb 3 hts x_396 x_393 x_1 rfl rfl (by decide +kernel) ⟨by decide, by decide⟩, hts _ x_394, hts _ x_395⟩ ⟨st_blind, va_recv hK hR (ci := 2) (q0 := 0) rfl rfl, fun U hU hW => ⟨rfl, hE.at hS hAB hU hW, by rw [hU]; exact hpre.1⟩⟩ rfl rfl hl.1 rfl (lv_room (Nat.le_of_ble_eq_true rfl)) d_W_above_7 ⟨by decide, by decide⟩) hS (fun q h => Or.inl h) (fun _ _ h => by obtain ⟨w, _, _, h, _⟩ := h; exact h) (fun _ _ h => h.2.2.mono (fun q h => h.elim)) (fun E ce q H locs hxx hS hce hcv hcl => ?_) (fun v H locs hv hS => ?_)
  · obtain ⟨rfl, hnc, hf9⟩ := hxx
    refine vx_catch (name := e_I) hown [] ⟨0, 12, 15, 13⟩ [] htab (fun z hz => nomatch hz) (by decide) (by decide) (hts _ x_176) (va_Nw.use rfl (hE.2.1 _ x_193)) hce hcv hcl ?_
    refine W.eq (g2 := F0 m 15 ls [.ref q]) rfl ?_
    refine lv_astore (lv' := [(5, .ref q), (0, .ref (y 0)), (1, .int a), (2, .int b), (3, .int x), (4, .ref ao)]) hx hb d_W_above_15 hl (by decide) rfl (fun ls hl => ?_)
    refine lv_iconst (v := 1) hx hb d_W_above_17 (by decide) ?_
    refine vx_ret ?_
    exact W.iret (v := 1) hx hb hr (fun t ht hW => ⟨_, rfl, by rw [ht]; exact ⟨hf9.mono (fun q h => h.elim), Or.inr ⟨rfl, hnc, lrx_kept hpre.1 hf9 (fun _ _ h => h), g0, hpre.2.fr hf9 (va_P.off1 (b := 0) (A := fun _ => False) (fun h => h))⟩⟩⟩) hS.2.2 d_W_above_18
  · obtain ⟨w, rfl, hrel, hfr, hLR, hcd⟩ := hv
    have hP := hpre.2.fr hfr (va_P.off1 (b := 0) (A := fun q => q = y 3) hAy)
    refine W.eq (g2 := F0 m 10 ls [.int w, .int 0, .ref ao]) rfl ?_
    refine lv_i2l hx hb d_W_above_10 rfl ?_
    refine ct_last hx hb hK 1 hP rfl (vp_in_nI (n := 0) (by decide) (by decide)) d_W_above_11 (fun H2 locs2 hf2 hP hlo => ?_)
    refine lv_goto (tgt := 19) hx hb d_W_above_12 (by decide) ?_
    refine lv_iconst (v := 0) hx hb d_W_above_19 (by decide) ?_
    refine vx_ret ?_
    exact W.iret (v := 0) hx hb hr (fun t ht hW => ⟨_, rfl, by rw [ht]; exact ⟨(hfr.mono (fun q h => Or.inl h)).trans hf2 (fun q h => Or.inr h), Or.inl ⟨rfl, hcd, lrx_kept hLR hf2 (fun i hi h => hao i hi h.symm), _, _, hrel, rfl, hP⟩⟩⟩) (fun z hz => (hlo z hz).elim (fun h => hS.2.2 z h) (fun h => Or.inr h)) d_W_above_20
set_option maxHeartbeats 4000000 in
set_option maxRecDepth 100000 in
theorem m_W_different {l : Launch} {D : va_G} {cI cJ cS cO : ClassId} {B0 : Nat} (hl9 : l.stackTraces = false) {y : Nat → Nat} {sg d : Nat} {xs ws : List Nat} (hy : yI B0 y d) (ok0 : Ok sg d xs ws) {ao : Nat} {g0 : Nat → Int64} (hao : ∀ i, i < 8 + 3 * d → ao ≠ y i) (hBo : B0 ≤ ao) (a b : Int32) : CH l D (tyL cI cJ cS cO) B0 y_W_different c_W_different 5 (some .int) [(0, 10, 13, 13)] (rmK 8 1 6) [.ref (y 0), .int a, .int b, .ref ao] (fun H => LRx D cI cJ cS cO y sg d xs ws H ∧ va_P D vwCl [(ao, .inl (cJ, 1, .inr (.inl g0)))] H) (fun v H0 H1 => fr (fun q => (q = y 3 ∨ q = y 4 ∨ q = y 5) ∨ q = ao) H0 H1 ∧ ((v = some (.int 0) ∧ (isPt xs.length a b) ∧ LRx D cI cJ cS cO y sg d xs ws H1 ∧ ∃ w g, (w = nI (dis (bk xs a b) 65536).length) ∧ g 0 = w.toInt64 ∧ va_P D vwCl [(ao, .inl (cJ, 1, .inr (.inl g)))] H1) ∨ (v = some (.int 1) ∧ ¬ (isPt xs.length a b) ∧ LRx D cI cJ cS cO y sg d xs ws H1 ∧ ∃ g, va_P D vwCl [(ao, .inl (cJ, 1, .inr (.inl g)))] H1))) 1 6 (fun q => (q = y 3 ∨ q = y 4 ∨ q = y 5) ∨ q = ao) := by
  refine ch_of (by decide) (Nat.le_of_ble_eq_true rfl) ?_
  intro p e s m below meth c ls hx hb hr hml hown hts hlocks htab hE hN hpre hl
  have hown : s.vm.findClass "LevelRowsLaw" = some m.cls := hown
  have hK := hE.1
  have hl : lv_has ls 5 [(0, .ref (y 0)), (1, .int a), (2, .int b), (3, .ref ao)] := hl
  have hAy : ¬ (fun q : Nat => q = y 3 ∨ q = y 4 ∨ q = y 5) ao := by
    rintro (h | h | h)
    · exact hao 3 (by omega) h
    · exact hao 4 (by omega) h
    · exact hao 5 (by omega) h
  have hAB : ∀ q : Nat, ((q = y 3 ∨ q = y 4 ∨ q = y 5) ∨ q = ao) → B0 ≤ q := by
    rintro q ((rfl | rfl | rfl) | rfl)
    · exact hy.2 3 (by omega)
    · exact hy.2 4 (by omega)
    · exact hy.2 5 (by omega)
    · exact hBo
  have hS : va_S (fun q => (q = y 3 ∨ q = y 4 ∨ q = y 5) ∨ q = ao) s.heap s.heap [] := va_S.rf
  have hR := hpre.1.1.1
  refine lv_aload_n hx hb d_W_different_0 rfl (lv_at hl 3 rfl) ?_
  refine lv_iconst (v := 0) hx hb d_W_different_1 (by decide) ?_
  refine lv_aload_n hx hb d_W_different_2 rfl (lv_at hl 0 rfl) ?_
  refine lv_iload_n hx hb d_W_different_3 rfl (lv_at hl 1 rfl) ?_
  refine lv_iload_n hx hb d_W_different_4 rfl (lv_at hl 2 rfl) ?_
  refine cx_ret (vx_runV (As := [.int a, .int b]) (rest := [.int 0, .ref ao]) ⟨hx, hb, hml, hown, hts⟩ (m_R_different hl9 hy ok0 a b) ⟨ct_cb 2 hts x_403 x_400 x_1 rfl rfl (by decide +kernel) ⟨by decide, by decide⟩, hts _ x_401, hts _ x_402⟩ ⟨st_blind, va_recv hK hR (ci := 2) (q0 := 0) rfl rfl, fun U hU hW => ⟨rfl, hE.at hS hAB hU hW, by rw [hU]; exact hpre.1⟩⟩ rfl rfl hl.1 rfl (lv_room (Nat.le_of_ble_eq_true rfl)) d_W_different_5 ⟨by decide, by decide⟩) hS (fun q h => Or.inl h) (fun _ _ h => h.2.1) (fun _ _ h => h.2.2.mono (fun q h => h.elim)) (fun E ce q H locs hxx hS hce hcv hcl => ?_) (fun v H locs hv hS => ?_)
  · obtain ⟨rfl, hnc, hf9⟩ := hxx
    refine vx_catch (name := e_I) hown [] ⟨0, 10, 13, 13⟩ [] htab (fun z hz => nomatch hz) (by decide) (by decide) (hts _ x_176) (va_Nw.use rfl (hE.2.1 _ x_193)) hce hcv hcl ?_
    refine W.eq (g2 := F0 m 13 ls [.ref q]) rfl ?_
    refine lv_astore (lv' := [(4, .ref q), (0, .ref (y 0)), (1, .int a), (2, .int b), (3, .ref ao)]) hx hb d_W_different_13 hl (by decide) rfl (fun ls hl => ?_)
    refine lv_iconst (v := 1) hx hb d_W_different_15 (by decide) ?_
    refine vx_ret ?_
    exact W.iret (v := 1) hx hb hr (fun t ht hW => ⟨_, rfl, by rw [ht]; exact ⟨hf9.mono (fun q h => h.elim), Or.inr ⟨rfl, hnc, lrx_kept hpre.1 hf9 (fun _ _ h => h), g0, hpre.2.fr hf9 (va_P.off1 (b := 0) (A := fun _ => False) (fun h => h))⟩⟩⟩) hS.2.2 d_W_different_16
  · obtain ⟨rfl, hfr, hLR, hcd⟩ := hv
    have hP := hpre.2.fr hfr (va_P.off1 (b := 0) (A := fun q => q = y 3 ∨ q = y 4 ∨ q = y 5) hAy)
    refine W.eq (g2 := F0 m 8 ls [.int (nI (dis (bk xs a b) 65536).length), .int 0, .ref ao]) rfl ?_
    refine lv_i2l hx hb d_W_different_8 rfl ?_
    refine ct_last hx hb hK 1 hP rfl (vp_in_nI (n := 0) (by decide) (by decide)) d_W_different_9 (fun H2 locs2 hf2 hP hlo => ?_)
    refine lv_goto (tgt := 17) hx hb d_W_different_10 (by decide) ?_
    refine lv_iconst (v := 0) hx hb d_W_different_17 (by decide) ?_
    refine vx_ret ?_
    exact W.iret (v := 0) hx hb hr (fun t ht hW => ⟨_, rfl, by rw [ht]; exact ⟨(hfr.mono (fun q h => Or.inl h)).trans hf2 (fun q h => Or.inr h), Or.inl ⟨rfl, hcd, lrx_kept hLR hf2 (fun i hi h => hao i hi h.symm), _, _, rfl, rfl, hP⟩⟩⟩) (fun z hz => (hlo z hz).elim (fun h => hS.2.2 z h) (fun h => Or.inr h)) d_W_different_18
set_option maxHeartbeats 4000000 in
set_option maxRecDepth 100000 in
theorem m_W_frequent {l : Launch} {D : va_G} {cI cJ cS cO : ClassId} {B0 : Nat} (hl9 : l.stackTraces = false) {y : Nat → Nat} {sg d : Nat} {xs ws : List Nat} (hy : yI B0 y d) (ok0 : Ok sg d xs ws) {ao : Nat} {g0 : Nat → Int64} (hao : ∀ i, i < 8 + 3 * d → ao ≠ y i) (hBo : B0 ≤ ao) (a b k : Int32) : CH l D (tyL cI cJ cS cO) B0 y_W_frequent c_W_frequent 6 (some .int) [(0, 12, 15, 13)] (rmK 8 2 12) [.ref (y 0), .int a, .int b, .int k, .ref ao] (fun H => LRx D cI cJ cS cO y sg d xs ws H ∧ va_P D vwCl [(ao, .inl (cJ, 1, .inr (.inl g0)))] H) (fun v H0 H1 => fr (fun q => (q = y 3 ∨ q = y 4 ∨ q = y 5 ∨ q = y 6) ∨ q = ao) H0 H1 ∧ ((v = some (.int 0) ∧ (isPt xs.length a b ∧ ¬ k < 0) ∧ LRx D cI cJ cS cO y sg d xs ws H1 ∧ ∃ w g, (aFrq (dis (bk xs a b) 65536) ((dis (bk xs a b) 65536).map (cEq (bk xs a b))) k w) ∧ g 0 = w.toInt64 ∧ va_P D vwCl [(ao, .inl (cJ, 1, .inr (.inl g)))] H1) ∨ (v = some (.int 1) ∧ ¬ (isPt xs.length a b ∧ ¬ k < 0) ∧ LRx D cI cJ cS cO y sg d xs ws H1 ∧ ∃ g, va_P D vwCl [(ao, .inl (cJ, 1, .inr (.inl g)))] H1))) 2 12 (fun q => (q = y 3 ∨ q = y 4 ∨ q = y 5 ∨ q = y 6) ∨ q = ao) := by
  refine ch_of (by decide) (Nat.le_of_ble_eq_true rfl) ?_
  intro p e s m below meth c ls hx hb hr hml hown hts hlocks htab hE hN hpre hl
  have hown : s.vm.findClass "LevelRowsLaw" = some m.cls := hown
  have hK := hE.1
  have hl : lv_has ls 6 [(0, .ref (y 0)), (1, .int a), (2, .int b), (3, .int k), (4, .ref ao)] := hl
  have hAy : ¬ (fun q : Nat => q = y 3 ∨ q = y 4 ∨ q = y 5 ∨ q = y 6) ao := by
    rintro (h | h | h | h)
    · exact hao 3 (by omega) h
    · exact hao 4 (by omega) h
    · exact hao 5 (by omega) h
    · exact hao 6 (by omega) h
  have hAB : ∀ q : Nat, ((q = y 3 ∨ q = y 4 ∨ q = y 5 ∨ q = y 6) ∨ q = ao) → B0 ≤ q := by
    rintro q ((rfl | rfl | rfl | rfl) | rfl)
    · exact hy.2 3 (by omega)
    · exact hy.2 4 (by omega)
    · exact hy.2 5 (by omega)
    · exact hy.2 6 (by omega)
    · exact hBo
  have hS : va_S (fun q => (q = y 3 ∨ q = y 4 ∨ q = y 5 ∨ q = y 6) ∨ q = ao) s.heap s.heap [] := va_S.rf
  have hR := hpre.1.1.1
  refine lv_aload hx hb d_W_frequent_0 (lv_at hl 4 rfl) ?_
  refine lv_iconst (v := 0) hx hb d_W_frequent_2 (by decide) ?_
  refine lv_aload_n hx hb d_W_frequent_3 rfl (lv_at hl 0 rfl) ?_
  refine lv_iload_n hx hb d_W_frequent_4 rfl (lv_at hl 1 rfl) ?_
  refine lv_iload_n hx hb d_W_frequent_5 rfl (lv_at hl 2 rfl) ?_
  refine lv_iload_n hx hb d_W_frequent_6 rfl (lv_at hl 3 rfl) ?_
  refine cx_ret (vx_runV (As := [.int a, .int b, .int k]) (rest := [.int 0, .ref ao]) ⟨hx, hb, hml, hown, hts⟩ (m_R_frequent hl9 hy ok0 a b k) ⟨ct_cb 3 hts x_414 x_411 x_1 rfl rfl (by decide +kernel) ⟨by decide, by decide⟩, hts _ x_412, hts _ x_413⟩ ⟨st_blind, va_recv hK hR (ci := 2) (q0 := 0) rfl rfl, fun U hU hW => ⟨rfl, hE.at hS hAB hU hW, by rw [hU]; exact hpre.1⟩⟩ rfl rfl hl.1 rfl (lv_room (Nat.le_of_ble_eq_true rfl)) d_W_frequent_7 ⟨by decide, by decide⟩) hS (fun q h => Or.inl h) (fun _ _ h => by obtain ⟨w, _, _, h, _⟩ := h; exact h) (fun _ _ h => h.2.2.mono (fun q h => h.elim)) (fun E ce q H locs hxx hS hce hcv hcl => ?_) (fun v H locs hv hS => ?_)
  · obtain ⟨rfl, hnc, hf9⟩ := hxx
    refine vx_catch (name := e_I) hown [] ⟨0, 12, 15, 13⟩ [] htab (fun z hz => nomatch hz) (by decide) (by decide) (hts _ x_176) (va_Nw.use rfl (hE.2.1 _ x_193)) hce hcv hcl ?_
    refine W.eq (g2 := F0 m 15 ls [.ref q]) rfl ?_
    refine lv_astore (lv' := [(5, .ref q), (0, .ref (y 0)), (1, .int a), (2, .int b), (3, .int k), (4, .ref ao)]) hx hb d_W_frequent_15 hl (by decide) rfl (fun ls hl => ?_)
    refine lv_iconst (v := 1) hx hb d_W_frequent_17 (by decide) ?_
    refine vx_ret ?_
    exact W.iret (v := 1) hx hb hr (fun t ht hW => ⟨_, rfl, by rw [ht]; exact ⟨hf9.mono (fun q h => h.elim), Or.inr ⟨rfl, hnc, lrx_kept hpre.1 hf9 (fun _ _ h => h), g0, hpre.2.fr hf9 (va_P.off1 (b := 0) (A := fun _ => False) (fun h => h))⟩⟩⟩) hS.2.2 d_W_frequent_18
  · obtain ⟨w, rfl, hrel, hfr, hLR, hcd⟩ := hv
    have hP := hpre.2.fr hfr (va_P.off1 (b := 0) (A := fun q => q = y 3 ∨ q = y 4 ∨ q = y 5 ∨ q = y 6) hAy)
    refine W.eq (g2 := F0 m 10 ls [.int w, .int 0, .ref ao]) rfl ?_
    refine lv_i2l hx hb d_W_frequent_10 rfl ?_
    refine ct_last hx hb hK 1 hP rfl (vp_in_nI (n := 0) (by decide) (by decide)) d_W_frequent_11 (fun H2 locs2 hf2 hP hlo => ?_)
    refine lv_goto (tgt := 19) hx hb d_W_frequent_12 (by decide) ?_
    refine lv_iconst (v := 0) hx hb d_W_frequent_19 (by decide) ?_
    refine vx_ret ?_
    exact W.iret (v := 0) hx hb hr (fun t ht hW => ⟨_, rfl, by rw [ht]; exact ⟨(hfr.mono (fun q h => Or.inl h)).trans hf2 (fun q h => Or.inr h), Or.inl ⟨rfl, hcd, lrx_kept hLR hf2 (fun i hi h => hao i hi h.symm), _, _, hrel, rfl, hP⟩⟩⟩) (fun z hz => (hlo z hz).elim (fun h => hS.2.2 z h) (fun h => Or.inr h)) d_W_frequent_20
set_option maxHeartbeats 4000000 in
set_option maxRecDepth 100000 in
theorem m_W_count {l : Launch} {D : va_G} {cI cJ cS cO : ClassId} {B0 : Nat} (hl9 : l.stackTraces = false) {y : Nat → Nat} {sg d : Nat} {xs ws : List Nat} (hy : yI B0 y d) (ok0 : Ok sg d xs ws) {ao : Nat} {g0 : Nat → Int64} (hao : ∀ i, i < 8 + 3 * d → ao ≠ y i) (hBo : B0 ≤ ao) (x : Int32) : CH l D (tyL cI cJ cS cO) B0 y_W_count c_W_count 4 (some .int) [(0, 9, 12, 13)] (rmK 8 1 6) [.ref (y 0), .int x, .ref ao] (fun H => LRx D cI cJ cS cO y sg d xs ws H ∧ va_P D vwCl [(ao, .inl (cJ, 1, .inr (.inl g0)))] H) (fun v H0 H1 => fr (fun q => (False) ∨ q = ao) H0 H1 ∧ ((v = some (.int 0) ∧ (¬ x < 0 ∧ x ≤ 3) ∧ LRx D cI cJ cS cO y sg d xs ws H1 ∧ ∃ w g, (w = aCnt sg d xs.length ws.length x) ∧ g 0 = w.toInt64 ∧ va_P D vwCl [(ao, .inl (cJ, 1, .inr (.inl g)))] H1) ∨ (v = some (.int 1) ∧ ¬ (¬ x < 0 ∧ x ≤ 3) ∧ LRx D cI cJ cS cO y sg d xs ws H1 ∧ ∃ g, va_P D vwCl [(ao, .inl (cJ, 1, .inr (.inl g)))] H1))) 1 6 (fun q => (False) ∨ q = ao) := by
  refine ch_of (by decide) (Nat.le_of_ble_eq_true rfl) ?_
  intro p e s m below meth c ls hx hb hr hml hown hts hlocks htab hE hN hpre hl
  have hown : s.vm.findClass "LevelRowsLaw" = some m.cls := hown
  have hK := hE.1
  have hl : lv_has ls 4 [(0, .ref (y 0)), (1, .int x), (2, .ref ao)] := hl
  have hAy : ¬ (fun q : Nat => False) ao := fun h => h
  have hAB : ∀ q : Nat, (False ∨ q = ao) → B0 ≤ q := fun q h => h.elim False.elim (fun h => by rw [h]; exact hBo)
  have hS : va_S (fun q => (False) ∨ q = ao) s.heap s.heap [] := va_S.rf
  have hR := hpre.1.1.1
  refine lv_aload_n hx hb d_W_count_0 rfl (lv_at hl 2 rfl) ?_
  refine lv_iconst (v := 0) hx hb d_W_count_1 (by decide) ?_
  refine lv_aload_n hx hb d_W_count_2 rfl (lv_at hl 0 rfl) ?_
  refine lv_iload_n hx hb d_W_count_3 rfl (lv_at hl 1 rfl) ?_
  refine cx_ret (vx_runV (As := [.int x]) (rest := [.int 0, .ref ao]) ⟨hx, hb, hml, hown, hts⟩ (m_R_count hl9 hy ok0 x) ⟨ct_cb 1 hts x_428 x_425 x_1 rfl rfl (by decide +kernel) ⟨by decide, by decide⟩, hts _ x_426, hts _ x_427⟩ ⟨st_blind, va_recv hK hR (ci := 2) (q0 := 0) rfl rfl, fun U hU hW => ⟨rfl, hE.at hS hAB hU hW, by rw [hU]; exact hpre.1⟩⟩ rfl rfl hl.1 rfl (lv_room (Nat.le_of_ble_eq_true rfl)) d_W_count_4 ⟨by decide, by decide⟩) hS (fun q h => Or.inl h) (fun _ _ h => by rw [h.2.1]; exact fr.rf) (fun _ _ h => h.2.2.mono (fun q h => h.elim)) (fun E ce q H locs hxx hS hce hcv hcl => ?_) (fun v H locs hv hS => ?_)
  · obtain ⟨rfl, hnc, hf9⟩ := hxx
    refine vx_catch (name := e_I) hown [] ⟨0, 9, 12, 13⟩ [] htab (fun z hz => nomatch hz) (by decide) (by decide) (hts _ x_176) (va_Nw.use rfl (hE.2.1 _ x_193)) hce hcv hcl ?_
    refine W.eq (g2 := F0 m 12 ls [.ref q]) rfl ?_
    refine lv_astore_n (lv' := [(3, .ref q), (0, .ref (y 0)), (1, .int x), (2, .ref ao)]) hx hb d_W_count_12 rfl hl (by decide) rfl (fun ls hl => ?_)
    refine lv_iconst (v := 1) hx hb d_W_count_13 (by decide) ?_
    refine vx_ret ?_
    exact W.iret (v := 1) hx hb hr (fun t ht hW => ⟨_, rfl, by rw [ht]; exact ⟨hf9.mono (fun q h => h.elim), Or.inr ⟨rfl, hnc, lrx_kept hpre.1 hf9 (fun _ _ h => h), g0, hpre.2.fr hf9 (va_P.off1 (b := 0) (A := fun _ => False) (fun h => h))⟩⟩⟩) hS.2.2 d_W_count_14
  · obtain ⟨rfl, rfl, hcd⟩ := hv
    have hLR := hpre.1
    have hP := hpre.2
    have hfr : fr (fun _ => False) s.heap s.heap := fr.rf
    refine W.eq (g2 := F0 m 7 ls [.int (aCnt sg d xs.length ws.length x), .int 0, .ref ao]) rfl ?_
    refine lv_i2l hx hb d_W_count_7 rfl ?_
    refine ct_last hx hb hK 1 hP rfl (vp_in_nI (n := 0) (by decide) (by decide)) d_W_count_8 (fun H2 locs2 hf2 hP hlo => ?_)
    refine lv_goto (tgt := 15) hx hb d_W_count_9 (by decide) ?_
    refine lv_iconst (v := 0) hx hb d_W_count_15 (by decide) ?_
    refine vx_ret ?_
    exact W.iret (v := 0) hx hb hr (fun t ht hW => ⟨_, rfl, by rw [ht]; exact ⟨(hfr.mono (fun q h => Or.inl h)).trans hf2 (fun q h => Or.inr h), Or.inl ⟨rfl, hcd, lrx_kept hLR hf2 (fun i hi h => hao i hi h.symm), _, _, rfl, rfl, hP⟩⟩⟩) (fun z hz => (hlo z hz).elim (fun h => hS.2.2 z h) (fun h => Or.inr h)) d_W_count_16
set_option maxHeartbeats 4000000 in
set_option maxRecDepth 100000 in
theorem m_W_put {l : Launch} {D : va_G} {cI cJ cS cO : ClassId} {B0 : Nat} (hl9 : l.stackTraces = false) {y : Nat → Nat} {sg d : Nat} {xs ws : List Nat} (hy : yI B0 y d) (ok0 : Ok sg d xs ws) {ao : Nat} {g0 : Nat → Int64} (hao : ∀ i, i < 8 + 3 * d → ao ≠ y i) (hBo : B0 ≤ ao) (p0 p1 p2 p3 p4 nn : Int32) : CH l D (tyL cI cJ cS cO) B0 y_W_put c_W_put 9 (some .int) [(0, 18, 21, 13), (0, 18, 25, 15), (0, 18, 29, 17)] (rmK 8 11 66) [.ref (y 0), .int p0, .int p1, .int p2, .int p3, .int p4, .int nn, .ref ao] (fun H => LRx D cI cJ cS cO y sg d xs ws H ∧ va_P D vwCl [(ao, .inl (cJ, 1, .inr (.inl g0)))] H) (fun v H0 H1 => fr (fun q => (q = y 0 ∨ q = y 1) ∨ q = ao) H0 H1 ∧ ((v = some (.int 0) ∧ (symsOk sg p0 p1 p2 p3 p4 nn ∧ rngOk nn ∧ xs.length + ws.length + cn nn ≤ 1000) ∧ LRx D cI cJ cS cO y sg d xs (ws ++ gvs p0 p1 p2 p3 p4 nn) H1 ∧ ∃ g, g 0 = (nI (ws.length + cn nn)).toInt64 ∧ va_P D vwCl [(ao, .inl (cJ, 1, .inr (.inl g)))] H1) ∨ (((v = some (.int 1) ∧ ¬ (symsOk sg p0 p1 p2 p3 p4 nn)) ∨ (v = some (.int 2) ∧ (symsOk sg p0 p1 p2 p3 p4 nn) ∧ ¬ (rngOk nn)) ∨ (v = some (.int 3) ∧ (symsOk sg p0 p1 p2 p3 p4 nn) ∧ (rngOk nn) ∧ ¬ (xs.length + ws.length + cn nn ≤ 1000))) ∧ LRx D cI cJ cS cO y sg d xs ws H1 ∧ ∃ g, va_P D vwCl [(ao, .inl (cJ, 1, .inr (.inl g)))] H1))) 11 66 (fun q => (q = y 0 ∨ q = y 1) ∨ q = ao) := by
  refine ch_of (by decide) (Nat.le_of_ble_eq_true rfl) ?_
  intro p e s m below meth c ls hx hb hr hml hown hts hlocks htab hE hN hpre hl
  have hown : s.vm.findClass "LevelRowsLaw" = some m.cls := hown
  have hK := hE.1
  have hl : lv_has ls 9 [(0, .ref (y 0)), (1, .int p0), (2, .int p1), (3, .int p2), (4, .int p3), (5, .int p4), (6, .int nn), (7, .ref ao)] := hl
  have hAy : ¬ (fun q : Nat => q = y 0 ∨ q = y 1) ao := by
    rintro (h | h)
    · exact hao 0 (by omega) h
    · exact hao 1 (by omega) h
  have hAB : ∀ q : Nat, ((q = y 0 ∨ q = y 1) ∨ q = ao) → B0 ≤ q := by
    rintro q ((rfl | rfl) | rfl)
    · exact hy.2 0 (by omega)
    · exact hy.2 1 (by omega)
    · exact hBo
  have hS : va_S (fun q => (q = y 0 ∨ q = y 1) ∨ q = ao) s.heap s.heap [] := va_S.rf
  have hR := hpre.1.1.1
  refine lv_aload hx hb d_W_put_0 (lv_at hl 7 rfl) ?_
  refine lv_iconst (v := 0) hx hb d_W_put_2 (by decide) ?_
  refine lv_aload_n hx hb d_W_put_3 rfl (lv_at hl 0 rfl) ?_
  refine lv_iload_n hx hb d_W_put_4 rfl (lv_at hl 1 rfl) ?_
  refine lv_iload_n hx hb d_W_put_5 rfl (lv_at hl 2 rfl) ?_
  refine lv_iload_n hx hb d_W_put_6 rfl (lv_at hl 3 rfl) ?_
  refine lv_iload hx hb d_W_put_7 (lv_at hl 4 rfl) ?_
  refine lv_iload hx hb d_W_put_9 (lv_at hl 5 rfl) ?_
  refine lv_iload hx hb d_W_put_11 (lv_at hl 6 rfl) ?_
  refine cx_ret (vx_runV (As := [.int p0, .int p1, .int p2, .int p3, .int p4, .int nn]) (rest := [.int 0, .ref ao]) ⟨hx, hb, hml, hown, hts⟩ (m_R_put hl9 hy ok0 p0 p1 p2 p3 p4 nn) ⟨ct_cb 6 hts x_182 x_179 x_1 rfl rfl (by decide +kernel) ⟨by decide, by decide⟩, hts _ x_180, hts _ x_181⟩ ⟨st_blind, va_recv hK hR (ci := 2) (q0 := 0) rfl rfl, fun U hU hW => ⟨rfl, hE.at hS hAB hU hW, by rw [hU]; exact hpre.1⟩⟩ rfl rfl hl.1 rfl (lv_room (Nat.le_of_ble_eq_true rfl)) d_W_put_13 ⟨by decide, by decide⟩) hS (fun q h => Or.inl h) (fun _ _ h => h.2.1) (fun _ _ h => h.2.mono (fun q h => h.elim)) (fun E ce q H locs hxx hS hce hcv hcl => ?_) (fun v H locs hv hS => ?_)
  · obtain ⟨hE3, hf9⟩ := hxx
    rcases hE3 with ⟨rfl, hn1⟩ | ⟨rfl, hn1, hn2⟩ | ⟨rfl, hn1, hn2, hn3⟩
    · refine vx_catch (name := e_I) hown [] ⟨0, 18, 21, 13⟩ [⟨0, 18, 25, 15⟩, ⟨0, 18, 29, 17⟩] htab (fun z hz => nomatch hz) (by decide) (by decide) (hts _ x_176) (va_Nw.use rfl (hE.2.1 _ x_193)) hce hcv hcl ?_
      refine W.eq (g2 := F0 m 21 ls [.ref q]) rfl ?_
      refine lv_astore (lv' := [(8, .ref q), (0, .ref (y 0)), (1, .int p0), (2, .int p1), (3, .int p2), (4, .int p3), (5, .int p4), (6, .int nn), (7, .ref ao)]) hx hb d_W_put_21 hl (by decide) rfl (fun ls hl => ?_)
      refine lv_iconst (v := 1) hx hb d_W_put_23 (by decide) ?_
      refine vx_ret ?_
      exact W.iret (v := 1) hx hb hr (fun t ht hW => ⟨_, rfl, by rw [ht]; exact ⟨hf9.mono (fun q h => h.elim), Or.inr ⟨Or.inl ⟨rfl, hn1⟩, lrx_kept hpre.1 hf9 (fun _ _ h => h), g0, hpre.2.fr hf9 (va_P.off1 (b := 0) (A := fun _ => False) (fun h => h))⟩⟩⟩) hS.2.2 d_W_put_24
    · refine vx_catch (name := e_A) hown [⟨0, 18, 21, 13⟩] ⟨0, 18, 25, 15⟩ [⟨0, 18, 29, 17⟩] htab (fun z hz => by cases List.mem_singleton.mp hz; exact Or.inr ⟨by decide, e_I, hts _ x_176, hN.1⟩) (by decide) (by decide) (hts _ x_177) (va_Nw.use rfl (hE.2.1 _ x_261)) hce hcv hcl ?_
      refine W.eq (g2 := F0 m 25 ls [.ref q]) rfl ?_
      refine lv_astore (lv' := [(8, .ref q), (0, .ref (y 0)), (1, .int p0), (2, .int p1), (3, .int p2), (4, .int p3), (5, .int p4), (6, .int nn), (7, .ref ao)]) hx hb d_W_put_25 hl (by decide) rfl (fun ls hl => ?_)
      refine lv_iconst (v := 2) hx hb d_W_put_27 (by decide) ?_
      refine vx_ret ?_
      exact W.iret (v := 2) hx hb hr (fun t ht hW => ⟨_, rfl, by rw [ht]; exact ⟨hf9.mono (fun q h => h.elim), Or.inr ⟨Or.inr (Or.inl ⟨rfl, hn1, hn2⟩), lrx_kept hpre.1 hf9 (fun _ _ h => h), g0, hpre.2.fr hf9 (va_P.off1 (b := 0) (A := fun _ => False) (fun h => h))⟩⟩⟩) hS.2.2 d_W_put_28
    · refine vx_catch (name := e_U) hown [⟨0, 18, 21, 13⟩, ⟨0, 18, 25, 15⟩] ⟨0, 18, 29, 17⟩ [] htab (fun z hz => by rcases List.mem_cons.mp hz with rfl | hz; exact Or.inr ⟨by decide, e_I, hts _ x_176, hN.2.1⟩; cases List.mem_singleton.mp hz; exact Or.inr ⟨by decide, e_A, hts _ x_177, hN.2.2⟩) (by decide) (by decide) (hts _ x_178) (va_Nw.use rfl (hE.2.1 _ x_277)) hce hcv hcl ?_
      refine W.eq (g2 := F0 m 29 ls [.ref q]) rfl ?_
      refine lv_astore (lv' := [(8, .ref q), (0, .ref (y 0)), (1, .int p0), (2, .int p1), (3, .int p2), (4, .int p3), (5, .int p4), (6, .int nn), (7, .ref ao)]) hx hb d_W_put_29 hl (by decide) rfl (fun ls hl => ?_)
      refine lv_iconst (v := 3) hx hb d_W_put_31 (by decide) ?_
      refine vx_ret ?_
      exact W.iret (v := 3) hx hb hr (fun t ht hW => ⟨_, rfl, by rw [ht]; exact ⟨hf9.mono (fun q h => h.elim), Or.inr ⟨Or.inr (Or.inr ⟨rfl, hn1, hn2, hn3⟩), lrx_kept hpre.1 hf9 (fun _ _ h => h), g0, hpre.2.fr hf9 (va_P.off1 (b := 0) (A := fun _ => False) (fun h => h))⟩⟩⟩) hS.2.2 d_W_put_32
  · obtain ⟨rfl, hfr, hLR, hcd⟩ := hv
    have hP := hpre.2.fr hfr (va_P.off1 (b := 0) (A := fun q => q = y 0 ∨ q = y 1) hAy)
    refine W.eq (g2 := F0 m 16 ls [.int (nI (ws.length + cn nn)), .int 0, .ref ao]) rfl ?_
    refine lv_i2l hx hb d_W_put_16 rfl ?_
    refine ct_last hx hb hK 1 hP rfl (vp_in_nI (n := 0) (by decide) (by decide)) d_W_put_17 (fun H2 locs2 hf2 hP hlo => ?_)
    refine lv_goto (tgt := 33) hx hb d_W_put_18 (by decide) ?_
    refine lv_iconst (v := 0) hx hb d_W_put_33 (by decide) ?_
    refine vx_ret ?_
    exact W.iret (v := 0) hx hb hr (fun t ht hW => ⟨_, rfl, by rw [ht]; exact ⟨(hfr.mono (fun q h => Or.inl h)).trans hf2 (fun q h => Or.inr h), Or.inl ⟨rfl, hcd, lrx_kept hLR hf2 (fun i hi h => hao i hi h.symm), _, rfl, hP⟩⟩⟩) (fun z hz => (hlo z hz).elim (fun h => hS.2.2 z h) (fun h => Or.inr h)) d_W_put_34
