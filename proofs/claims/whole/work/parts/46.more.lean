/-! LevelRows: different, frequent, bits, count, clear, build. -/
set_option maxHeartbeats 4000000 in
set_option maxRecDepth 100000 in
theorem m_R_different {l : Launch} {D : va_G} {cI cJ cS cO : ClassId} {B0 : Nat} (hl9 : l.stackTraces = false) {y : Nat → Nat} {sg d : Nat} {xs ws : List Nat} (hy : yI B0 y d) (ok0 : Ok sg d xs ws) (a b : Int32) : CX l D (tyL cI cJ cS cO) B0 y_R_different c_R_different 3 (some .int) (rmK 7 1 6) [.ref (y 0), .int a, .int b] (fun H => LRx D cI cJ cS cO y sg d xs ws H) (fun v H0 H1 => v = some (.int (nI (dis (bk xs a b) 65536).length)) ∧ fr (fun q => q = y 3 ∨ q = y 4 ∨ q = y 5) H0 H1 ∧ LRx D cI cJ cS cO y sg d xs ws H1 ∧ isPt xs.length a b) (pxI (isPt xs.length a b)) 1 6 (fun q => q = y 3 ∨ q = y 4 ∨ q = y 5) := by
  refine cx_of (by decide) (Nat.le_of_ble_eq_true rfl) ?_
  intro p e s m below meth c ls hx hb hr hml hown hts hlocks hout hE hpre hl
  have hown : s.vm.findClass "LevelRows" = some m.cls := hown
  have hK := hE.1
  have hl : lv_has ls 3 [(0, .ref (y 0)), (1, .int a), (2, .int b)] := hl
  have hS : va_S (fun q => q = y 3 ∨ q = y 4 ∨ q = y 5) s.heap s.heap [] := va_S.rf
  have hR0 := hpre.1.1
  have hA3 : ∀ q : Nat, (fun q => q = y 3 ∨ q = y 4 ∨ q = y 5) q → ∃ i, 1 ≤ i ∧ i ≤ 6 ∧ q = y i := by
    rintro q (h | h | h)
    · exact ⟨3, by omega, by omega, h⟩
    · exact ⟨4, by omega, by omega, h⟩
    · exact ⟨5, by omega, by omega, h⟩
  have hRd : ∀ (k : Nat) (q : Nat × va_E), (Rw cO y (nI sg) d (nI xs.length) (nI ws.length))[k]? = some q → ¬ (fun q => q = y 3 ∨ q = y 4 ∨ q = y 5) q.1 := fun k q hk h => by obtain ⟨i, h1, h2, h3⟩ := hA3 q.1 h; exact Rw.off hy h1 h2 k q hk h3
  have hAB : ∀ q : Nat, (fun q => q = y 3 ∨ q = y 4 ∨ q = y 5) q → B0 ≤ q := fun q h => by obtain ⟨i, _, _, rfl⟩ := hA3 q h; exact hy.2 i (by omega)
  have hR := hR0
  have hd16 := ok0.d16
  have hx9 := ok0.len
  have hp16 := ok0.p16
  have hsg6 := ok0.2.1
  refine lv_aload_n hx hb d_R_different_0 rfl (lv_at hl 0 rfl) ?_
  refine lv_iload_n hx hb d_R_different_1 rfl (lv_at hl 1 rfl) ?_
  refine lv_iload_n hx hb d_R_different_2 rfl (lv_at hl 2 rfl) ?_
  refine cx_ret (vx_runV (As := [.int a, .int b]) (rest := []) ⟨hx, hb, hml, hown, hts⟩ (m_R_checkPart hl9 a b) ⟨ct_cb 2 hts x_309 x_306 x_1 rfl rfl (by decide +kernel) ⟨by decide, by decide⟩, hts _ x_308, hts _ s_R_checkPart⟩ ⟨st_blind, va_recv hK hR (ci := 2) (q0 := 0) rfl rfl, fun U hU hW => ⟨rfl, hE.at hS hAB hU hW, by rw [hU]; exact hR⟩⟩ rfl rfl hl.1 rfl (lv_room (Nat.le_of_ble_eq_true rfl)) d_R_different_3 ⟨by decide, by decide⟩) hS (fun q h => h.elim) (fun _ _ h => by rw [h.2.1]; exact fr.rf) (fun _ _ h => h.2.2) (fun E ce q H locs hxx hS hce hcv hcl => ?_) (fun v H locs hv hS => ?_)
  · obtain ⟨rfl, hn9, hf9⟩ := hxx
    exact vx_out (fun x hx => (hout x hx).elim) hlocks hce hcv hcl (fun t ht _ => by show (pxI (isPt xs.length a b)) _ s.heap t.heap; rw [ht]; exact ⟨rfl, hn9, hf9⟩) hS.2.2 (by decide) (by decide)
  obtain ⟨rfl, rfl, hcp⟩ := hv
  refine W.eq (g2 := F0 m 6 ls []) rfl ?_
  obtain ⟨hae, hbe, hab, hbx⟩ := hcp.ints hx9
  have hBl : (bk xs a b).length = cn b - cn a := bk_len hab hbx
  have hB6 : ∀ z ∈ bk xs a b, z < 65536 := fun z h => Nat.lt_of_lt_of_le (ok0.lt z (bk_mem h)) hp16
  obtain ⟨lf, tf, hlt0⟩ := hpre.2.2.1
  refine lv_aload_n hx hb d_R_different_6 rfl (lv_at hl 0 rfl) ?_
  refine lv_iload_n hx hb d_R_different_7 rfl (lv_at hl 1 rfl) ?_
  refine lv_iload_n hx hb d_R_different_8 rfl (lv_at hl 2 rfl) ?_
  refine ct_st (st' := [.int (nI (cn b)), .int (nI (cn a)), .ref (y 0)]) (by rw [← hbe, ← hae]) ?_
  refine cm_ret (va_runV (As := [.int (nI (cn a)), .int (nI (cn b))]) (rest := []) ⟨hx, hb, hml, hown, hts⟩ (m_R_listSymbols hy ok0 hab hbx rfl) ⟨ct_cb 2 hts x_407 x_404 x_1 rfl rfl (by decide +kernel) ⟨by decide, by decide⟩, hts _ x_406, hts _ s_R_listSymbols⟩ ⟨st_blind, va_recv hK hR (ci := 2) (q0 := 0) rfl rfl, fun U hU hW => ⟨rfl, hE.at hS hAB hU hW, by rw [hU]; exact ⟨hpre.1, hpre.2.1, hlt0⟩⟩⟩ rfl rfl hl.1 rfl (lv_room (Nat.le_of_ble_eq_true rfl)) d_R_different_9 ⟨by decide, by decide⟩) hS (fun q h => h) (fun _ _ h => h.2.1) (fun v H locs hv hS => ?_)
  obtain ⟨rfl, hfr, hPP, lf2, tf2, hlt, hP⟩ := hv
  refine W.eq (g2 := F0 m 12 ls [.int (nI (dis (bk xs a b) 65536).length)]) rfl ?_
  refine vx_ret (W.widen (k := 1) (n := 6) (by decide) (by decide) ?_)
  exact W.iret (v := nI (dis (bk xs a b) 65536).length) hx hb hr (fun t ht hW => ⟨_, rfl, by rw [ht]; exact ⟨rfl, hfr, lrx_list hy hpre hfr hPP ⟨_, _, hP⟩, hcp⟩⟩) hS.2.2 d_R_different_12
set_option maxHeartbeats 4000000 in
set_option maxRecDepth 100000 in
theorem m_R_frequent {l : Launch} {D : va_G} {cI cJ cS cO : ClassId} {B0 : Nat} (hl9 : l.stackTraces = false) {y : Nat → Nat} {sg d : Nat} {xs ws : List Nat} (hy : yI B0 y d) (ok0 : Ok sg d xs ws) (a b k : Int32) : CX l D (tyL cI cJ cS cO) B0 y_R_frequent c_R_frequent 7 (some .int) (rmK 7 2 12) [.ref (y 0), .int a, .int b, .int k] (fun H => LRx D cI cJ cS cO y sg d xs ws H) (fun v H0 H1 => ∃ w, v = some (.int w) ∧ aFrq (dis (bk xs a b) 65536) ((dis (bk xs a b) 65536).map (cEq (bk xs a b))) k w ∧ fr (fun q => q = y 3 ∨ q = y 4 ∨ q = y 5 ∨ q = y 6) H0 H1 ∧ LRx D cI cJ cS cO y sg d xs ws H1 ∧ (isPt xs.length a b ∧ ¬ k < 0)) (pxI (isPt xs.length a b ∧ ¬ k < 0)) 2 12 (fun q => q = y 3 ∨ q = y 4 ∨ q = y 5 ∨ q = y 6) := by
  refine cx_of (by decide) (Nat.le_of_ble_eq_true rfl) ?_
  intro p e s m below meth c ls hx hb hr hml hown hts hlocks hout hE hpre hl
  have hown : s.vm.findClass "LevelRows" = some m.cls := hown
  have hK := hE.1
  have hl : lv_has ls 7 [(0, .ref (y 0)), (1, .int a), (2, .int b), (3, .int k)] := hl
  have hS : va_S (fun q => q = y 3 ∨ q = y 4 ∨ q = y 5 ∨ q = y 6) s.heap s.heap [] := va_S.rf
  have hR0 := hpre.1.1
  have hA3 : ∀ q : Nat, (fun q => q = y 3 ∨ q = y 4 ∨ q = y 5 ∨ q = y 6) q → ∃ i, 1 ≤ i ∧ i ≤ 6 ∧ q = y i := by
    rintro q (h | h | h | h)
    · exact ⟨3, by omega, by omega, h⟩
    · exact ⟨4, by omega, by omega, h⟩
    · exact ⟨5, by omega, by omega, h⟩
    · exact ⟨6, by omega, by omega, h⟩
  have hRd : ∀ (k : Nat) (q : Nat × va_E), (Rw cO y (nI sg) d (nI xs.length) (nI ws.length))[k]? = some q → ¬ (fun q => q = y 3 ∨ q = y 4 ∨ q = y 5 ∨ q = y 6) q.1 := fun k q hk h => by obtain ⟨i, h1, h2, h3⟩ := hA3 q.1 h; exact Rw.off hy h1 h2 k q hk h3
  have hAB : ∀ q : Nat, (fun q => q = y 3 ∨ q = y 4 ∨ q = y 5 ∨ q = y 6) q → B0 ≤ q := fun q h => by obtain ⟨i, _, _, rfl⟩ := hA3 q h; exact hy.2 i (by omega)
  have hR := hR0
  have hd16 := ok0.d16
  have hx9 := ok0.len
  have hp16 := ok0.p16
  have hsg6 := ok0.2.1
  refine lv_aload_n hx hb d_R_frequent_0 rfl (lv_at hl 0 rfl) ?_
  refine lv_iload_n hx hb d_R_frequent_1 rfl (lv_at hl 1 rfl) ?_
  refine lv_iload_n hx hb d_R_frequent_2 rfl (lv_at hl 2 rfl) ?_
  refine cx_ret (vx_runV (As := [.int a, .int b]) (rest := []) ⟨hx, hb, hml, hown, hts⟩ (m_R_checkPart hl9 a b) ⟨ct_cb 2 hts x_309 x_306 x_1 rfl rfl (by decide +kernel) ⟨by decide, by decide⟩, hts _ x_308, hts _ s_R_checkPart⟩ ⟨st_blind, va_recv hK hR (ci := 2) (q0 := 0) rfl rfl, fun U hU hW => ⟨rfl, hE.at hS hAB hU hW, by rw [hU]; exact hR⟩⟩ rfl rfl hl.1 rfl (lv_room (Nat.le_of_ble_eq_true rfl)) d_R_frequent_3 ⟨by decide, by decide⟩) hS (fun q h => h.elim) (fun _ _ h => by rw [h.2.1]; exact fr.rf) (fun _ _ h => h.2.2) (fun E ce q H locs hxx hS hce hcv hcl => ?_) (fun v H locs hv hS => ?_)
  · obtain ⟨rfl, hn9, hf9⟩ := hxx
    exact vx_out (fun x hx => (hout x hx).elim) hlocks hce hcv hcl (fun t ht _ => by show (pxI (isPt xs.length a b ∧ ¬ k < 0)) _ s.heap t.heap; rw [ht]; exact ⟨rfl, fun h => hn9 h.1, hf9⟩) hS.2.2 (by decide) (by decide)
  obtain ⟨rfl, rfl, hcp⟩ := hv
  refine W.eq (g2 := F0 m 6 ls []) rfl ?_
  refine lv_iload_n hx hb d_R_frequent_6 rfl (lv_at hl 3 rfl) ?_
  refine cx_ret (vx_runS (As := [.int k]) (rest := []) ⟨hx, hb, hml, hown, hts⟩ (m_R_checkNotNegative hl9 k) ⟨ct_cb 1 hts x_341 x_339 x_1 rfl rfl (by decide +kernel) ⟨by decide, by decide⟩, hts _ x_340⟩ ⟨st_blind, fun U hU hW => ⟨rfl, hE.at hS hAB hU hW, by rw [hU]; exact trivial⟩⟩ rfl rfl hl.1 rfl (lv_room (Nat.le_of_ble_eq_true rfl)) d_R_frequent_7 ⟨by decide, by decide⟩) hS (fun q h => h.elim) (fun _ _ h => by rw [h.2.1]; exact fr.rf) (fun _ _ h => h.2.2) (fun E ce q H locs hxx hS hce hcv hcl => ?_) (fun v H locs hv hS => ?_)
  · obtain ⟨rfl, hn9, hf9⟩ := hxx
    exact vx_out (fun x hx => (hout x hx).elim) hlocks hce hcv hcl (fun t ht _ => by show (pxI (isPt xs.length a b ∧ ¬ k < 0)) _ s.heap t.heap; rw [ht]; exact ⟨rfl, fun h => hn9 h.2, hf9⟩) hS.2.2 (by decide) (by decide)
  obtain ⟨rfl, rfl, hcn⟩ := hv
  refine W.eq (g2 := F0 m 10 ls []) rfl ?_
  obtain ⟨hae, hbe, hab, hbx⟩ := hcp.ints hx9
  have hBl : (bk xs a b).length = cn b - cn a := bk_len hab hbx
  have hB6 : ∀ z ∈ bk xs a b, z < 65536 := fun z h => Nat.lt_of_lt_of_le (ok0.lt z (bk_mem h)) hp16
  obtain ⟨hke, hk31⟩ := nn_ints hcn
  obtain ⟨lf0, tf0, hlt0⟩ := hpre.2.2.1
  obtain ⟨g0, hg0⟩ := hpre.2.2.2.1
  refine lv_aload_n hx hb d_R_frequent_10 rfl (lv_at hl 0 rfl) ?_
  refine lv_iload_n hx hb d_R_frequent_11 rfl (lv_at hl 1 rfl) ?_
  refine lv_iload_n hx hb d_R_frequent_12 rfl (lv_at hl 2 rfl) ?_
  refine ct_st (st' := [.int (nI (cn b)), .int (nI (cn a)), .ref (y 0)]) (by rw [← hbe, ← hae]) ?_
  refine cm_ret (va_runV (As := [.int (nI (cn a)), .int (nI (cn b))]) (rest := []) ⟨hx, hb, hml, hown, hts⟩ (m_R_listSymbols hy ok0 hab hbx rfl) ⟨ct_cb 2 hts x_407 x_404 x_1 rfl rfl (by decide +kernel) ⟨by decide, by decide⟩, hts _ x_406, hts _ s_R_listSymbols⟩ ⟨st_blind, va_recv hK hR (ci := 2) (q0 := 0) rfl rfl, fun U hU hW => ⟨rfl, hE.at hS hAB hU hW, by rw [hU]; exact ⟨hpre.1, hpre.2.1, hlt0⟩⟩⟩ rfl rfl hl.1 rfl (lv_room (Nat.le_of_ble_eq_true rfl)) d_R_frequent_13 ⟨by decide, by decide⟩) hS (fun q h => h.elim Or.inl (fun h => Or.inr (h.elim Or.inl (fun h => Or.inr (Or.inl h))))) (fun _ _ h => h.2.1) (fun v H locs hv hS => ?_)
  obtain ⟨rfl, hfr1, hPP, lf, tf, hlt, hP⟩ := hv
  refine W.eq (g2 := F0 m 16 ls [.int (nI (dis (bk xs a b) 65536).length)]) rfl ?_
  have hR := hR0.rd hS hRd
  have hLR := lrx_list hy hpre hfr1 hPP ⟨_, _, hP⟩
  obtain ⟨S, hS9⟩ : ∃ S, S = dis (bk xs a b) 65536 := ⟨_, rfl⟩
  obtain ⟨T, hT9⟩ : ∃ T, T = S.map (cEq (bk xs a b)) := ⟨_, rfl⟩
  rw [← hS9] at hlt ⊢
  rw [← hT9]
  have hSl : S.length ≤ 1000 := by rw [hS9]; have h1 := dis_len (bk xs a b) 65536; have h2 := cLt_le (bk xs a b) 65536; omega
  have hTl : S.length = T.length := by rw [hT9, List.length_map]
  have hT2 : ∀ z ∈ T, z ≤ 1000 := by
    intro z hz
    rw [hT9] at hz
    obtain ⟨u, -, rfl⟩ := List.mem_map.mp hz
    have := cEq_le (bk xs a b) u
    omega
  have htf : ∀ i z, T[i]? = some z → tf i = nI z := by
    intro i z hz
    rw [hT9, List.getElem?_map] at hz
    obtain ⟨u, hu, rfl⟩ := Option.map_eq_some_iff.mp hz
    exact (hlt i u hu).2
  have hgk : va_P D vwCl [(y 6, .inl (cI, 1001, .inl g0))] H := hg0.fr hfr1 (va_P.off1 (b := 0) (A := fun q => q = y 3 ∨ q = y 4 ∨ q = y 5) (by rintro (h | h | h); exact hy.ne (by omega) (by omega) (by omega) h; exact hy.ne (by omega) (by omega) (by omega) h; exact hy.ne (by omega) (by omega) (by omega) h))
  rw [hTl]
  refine W.eq (g2 := F0 m 16 ls [.int (nI T.length)]) rfl ?_
  refine lv_istore (lv' := [(4, .int (nI T.length)), (0, .ref (y 0)), (1, .int a), (2, .int b), (3, .int k)]) hx hb d_R_frequent_16 hl (by decide) rfl (fun ls hl => ?_)
  refine lv_aload_n hx hb d_R_frequent_18 rfl (lv_at hl 1 rfl) ?_
  refine lv_iload hx hb d_R_frequent_19 (lv_at hl 0 rfl) ?_
  refine cm_ret (va_runV (As := [.int (nI T.length)]) (rest := []) ⟨hx, hb, hml, hown, hts⟩ (m_R_countAhead hy ok0 (by omega) hT2 htf) ⟨ct_cb 1 hts x_418 x_415 x_1 rfl rfl (by decide +kernel) ⟨by decide, by decide⟩, hts _ x_417, hts _ s_R_countAhead⟩ ⟨st_blind, va_recv hK hR (ci := 2) (q0 := 0) rfl rfl, fun U hU hW => ⟨rfl, hE.at hS hAB hU hW, by rw [hU]; exact ⟨hLR.1, hP.sub [1] rfl, hgk⟩⟩⟩ rfl rfl hl.1 rfl (lv_room (Nat.le_of_ble_eq_true rfl)) d_R_frequent_21 ⟨by decide, by decide⟩) hS (fun q h => Or.inr (Or.inr (Or.inr h))) (fun _ _ h => h.2.1) (fun v H locs hv hS => ?_)
  obtain ⟨rfl, hfr2, g, hg, hP6⟩ := hv
  refine W.eq (g2 := F0 m 24 ls []) rfl ?_
  have hn6 : ∀ i, i < 8 + 3 * d → i ≠ 6 → ¬ y i = y 6 := fun i h h' => hy.ne h (by omega) h'
  have hP : va_P D vwCl [(y 4, .inl (cI, 1000, .inl (lf))), (y 5, .inl (cI, 1000, .inl (tf))), (y 6, .inl (cI, 1001, .inl (g)))] H := (hP.fr hfr2 (va_P.off2 (A := fun q => q = y 6) (hn6 4 (by omega) (by omega)) (hn6 5 (by omega) (by omega)))).app hP6
  have hD : ∀ e0 e1 e2 : va_E, va_D (fun q => q = y 3 ∨ q = y 4 ∨ q = y 5 ∨ q = y 6) [(y 4, e0), (y 5, e1), (y 6, e2)] := fun e0 e1 e2 => va_D.three (hy.ne (by omega) (by omega) (by omega)) (hn6 4 (by omega) (by omega)) (hn6 5 (by omega) (by omega)) (Or.inr (Or.inl rfl)) (Or.inr (Or.inr (Or.inl rfl))) (Or.inr (Or.inr (Or.inr rfl)))
  obtain ⟨p0, p1, p2, p3, p4, p5, hPP⟩ := hPP
  have hPP : va_P D vwCl (Pw (y 3) p0 p1 p2 p3 p4 p5) H := hPP.fr hfr2 (va_P.off1 (b := 0) (A := fun q => q = y 6) (hn6 3 (by omega) (by omega)))
  have hR := hR0.rd hS hRd
  have hP : va_P D vwCl [(y 3, .inr (1, [.int p0, .int p1, .int p2, .int p3, .int p4, .int p5])), (y 4, .inl (cI, 1000, .inl (lf))), (y 5, .inl (cI, 1000, .inl (tf))), (y 6, .inl (cI, 1001, .inl (g)))] H := hPP.app hP
  have hD : va_D (fun q => q = y 3 ∨ q = y 4 ∨ q = y 5 ∨ q = y 6) [(y 3, .inr (1, [.int p0, .int p1, .int p2, .int p3, .int p4, .int p5])), (y 4, .inl (cI, 1000, .inl (lf))), (y 5, .inl (cI, 1000, .inl (tf))), (y 6, .inl (cI, 1001, .inl (g)))] := va_D.app (va_D.one (Or.inl rfl)) (hD _ _ _) (fun i j p q hi hj => by
    have h0 : p.1 = y 3 := by
      match i, hi with
      | 0, hi => cases hi; rfl
      | i + 1, hi => simp at hi
    rw [h0]
    match j, hj with
    | 0, hj => cases hj; exact hy.ne (by omega) (by omega) (by omega)
    | 1, hj => cases hj; exact hy.ne (by omega) (by omega) (by omega)
    | 2, hj => cases hj; exact hy.ne (by omega) (by omega) (by omega)
    | j + 3, hj => simp at hj)
  refine lv_iconst (v := 0) hx hb d_R_frequent_24 (by decide) ?_
  refine lv_istore (lv' := [(5, .int 0), (4, .int (nI T.length)), (0, .ref (y 0)), (1, .int a), (2, .int b), (3, .int k)]) hx hb d_R_frequent_25 hl (by decide) rfl (fun ls hl => ?_)
  have loop : ∀ (n : Nat) (i : Nat) (g : Nat → Int32) (H : Heap) (locs : List Loc) (ls : Array Slot), (i + n = T.length) → (∀ t, t ≤ 1000 → g t = nI (cGe T (t + 1) + cEq (T.take i) t)) → (∀ j t', j < i → T[j]? = some t' → cGe T (t' + 1) + cEq (T.take j) t' ≠ cn k) → va_S (fun q => q = y 3 ∨ q = y 4 ∨ q = y 5 ∨ q = y 6) s.heap H locs → va_P D vwCl [(y 3, .inr (1, [.int p0, .int p1, .int p2, .int p3, .int p4, .int p5])), (y 4, .inl (cI, 1000, .inl (lf))), (y 5, .inl (cI, 1000, .inl (tf))), (y 6, .inl (cI, 1001, .inl (g)))] H → va_D (fun q => q = y 3 ∨ q = y 4 ∨ q = y 5 ∨ q = y 6) [(y 3, .inr (1, [.int p0, .int p1, .int p2, .int p3, .int p4, .int p5])), (y 4, .inl (cI, 1000, .inl (lf))), (y 5, .inl (cI, 1000, .inl (tf))), (y 6, .inl (cI, 1001, .inl (g)))] → lv_has ls 7 [(5, .int (nI i)), (4, .int (nI T.length)), (0, .ref (y 0)), (1, .int a), (2, .int b), (3, .int k)] → W p l e (rmK 7 2 12) s m [.ref (y 0), .int a, .int b, .int k].toArray below meth c H locs (2) (12) (vx_MQ below (stQ (fun v H0 H1 => ∃ w, v = some (.int w) ∧ aFrq S T k w ∧ fr (fun q => q = y 3 ∨ q = y 4 ∨ q = y 5 ∨ q = y 6) H0 H1 ∧ LRx D cI cJ cS cO y sg d xs ws H1 ∧ (isPt xs.length a b ∧ ¬ k < 0))) (stX (pxI (isPt xs.length a b ∧ ¬ k < 0))) [.ref (y 0), .int a, .int b, .int k].toArray s 2 12 (fun q => q = y 3 ∨ q = y 4 ∨ q = y 5 ∨ q = y 6)) (F0 m 27 ls []) := by
    intro n
    induction n with
    | zero =>
      intro i g H locs ls hin hg1 hno hS hP hD hl
      have hR := hR0.rd hS hRd
      have hiT : i = T.length := by omega
      refine lv_iload hx hb d_R_frequent_27 (lv_at hl 0 rfl) ?_
      refine lv_iload hx hb d_R_frequent_29 (lv_at hl 1 rfl) ?_
      refine lv_icmp_ge (tgt := 73) hx hb d_R_frequent_31 (by decide) (fun _ => ?_) (fun c9 => absurd (nI_le (by omega) (by omega)) c9)
      refine lv_iconst (v := (-1)) hx hb d_R_frequent_73 (by decide) ?_
      refine vx_ret (W.widen (k := 2) (n := 12) (by decide) (by decide) ?_)
      exact W.iret (v := -1) hx hb hr (fun t ht hW => ⟨_, rfl, by rw [ht]; exact ⟨_, rfl, Or.inr ⟨fun j t' h => hno j t' (by have := (List.getElem?_eq_some_iff.mp h).1; omega) h, rfl⟩, fr.of hS, lrx_q hy hpre (fr.of hS) ⟨_, _, _, _, _, _, hP.sub [0] rfl⟩ ⟨_, _, hP.sub [1, 2] rfl⟩ ⟨_, hP.sub [3] rfl⟩, hcp, hcn⟩⟩) hS.2.2 d_R_frequent_74
    | succ n ih =>
      intro i g H locs ls hin hg1 hno hS hP hD hl
      have hR := hR0.rd hS hRd
      obtain ⟨tt, hti⟩ : ∃ x, T[i]? = some x := ⟨T[i], List.getElem?_eq_getElem (by omega)⟩
      obtain ⟨sy, hsi⟩ : ∃ x, S[i]? = some x := ⟨S[i], List.getElem?_eq_getElem (by omega)⟩
      have ht2 := hT2 tt (List.mem_of_getElem? hti)
      have hb1 := cGe_le T (tt + 1)
      have hb2 := cEq_le (T.take i) tt
      rw [List.length_take] at hb2
      refine lv_iload hx hb d_R_frequent_27 (lv_at hl 0 rfl) ?_
      refine lv_iload hx hb d_R_frequent_29 (lv_at hl 1 rfl) ?_
      refine lv_icmp_ge (tgt := 73) hx hb d_R_frequent_31 (by decide) (fun c9 => absurd c9 (nI_ge (by omega) (by omega))) (fun _ => ?_)
      refine lv_aload_n hx hb d_R_frequent_34 rfl (lv_at hl 2 rfl) ?_
      refine va_get (D := D) (ci := 2) (v := .ref (y 6)) (C := n_R) (T := f_R) (N := 10) hx hb hts in_R hown hK hR 0 rfl rfl 9 (by decide) (hts _ x_91) (fun _ h9 => h9) rfl d_R_frequent_35 ?_
      refine lv_aload_n hx hb d_R_frequent_38 rfl (lv_at hl 2 rfl) ?_
      refine va_get (D := D) (ci := 2) (v := .ref (y 5)) (C := n_R) (T := f_R) (N := 10) hx hb hts in_R hown hK hR 0 rfl rfl 8 (by decide) (hts _ x_90) (fun _ h9 => h9) rfl d_R_frequent_39 ?_
      refine lv_iload hx hb d_R_frequent_42 (lv_at hl 0 rfl) ?_
      refine va_iald hx hb hK hP 2 0 rfl rfl (vp_in_nI (by omega) (by decide)) d_R_frequent_44 ?_
      refine ct_topi (x' := nI tt) (by rw [nI_clamp (by omega)]; exact htf i tt hti) ?_
      refine lv_dup2_11 hx hb d_R_frequent_45 rfl rfl ?_
      refine va_iald hx hb hK hP 3 0 rfl rfl (vp_in_nI (by omega) (by decide)) d_R_frequent_46 ?_
      refine ct_topi (x' := nI (cGe T (tt + 1) + cEq (T.take i) tt)) (by rw [nI_clamp (by omega)]; exact hg1 tt (by omega)) ?_
      refine lv_dup_x2 hx hb d_R_frequent_47 rfl rfl rfl ?_
      refine lv_iconst (v := 1) hx hb d_R_frequent_48 (by decide) ?_
      refine lv_iadd hx hb d_R_frequent_49 ?_
      refine ct_topi (x' := nI (cGe T (tt + 1) + cEq (T.take i) tt + 1)) ((nI_succ _).symm) ?_
      refine va_iast hx hb hK hP hD hS 3 0 rfl rfl (vp_in_nI (by omega) (by decide)) d_R_frequent_50 (fun H locs hP hD hS => ?_)
      rw [nI_clamp (by omega)] at hP hD
      have hP : va_P D vwCl [(y 3, .inr (1, [.int p0, .int p1, .int p2, .int p3, .int p4, .int p5])), (y 4, .inl (cI, 1000, .inl (lf))), (y 5, .inl (cI, 1000, .inl (tf))), (y 6, .inl (cI, 1001, .inl (upd g tt (nI (cGe T (tt + 1) + cEq (T.take i) tt + 1)))))] H := hP
      have hD : va_D (fun q => q = y 3 ∨ q = y 4 ∨ q = y 5 ∨ q = y 6) [(y 3, .inr (1, [.int p0, .int p1, .int p2, .int p3, .int p4, .int p5])), (y 4, .inl (cI, 1000, .inl (lf))), (y 5, .inl (cI, 1000, .inl (tf))), (y 6, .inl (cI, 1001, .inl (upd g tt (nI (cGe T (tt + 1) + cEq (T.take i) tt + 1)))))] := hD
      have hR := hR0.rd hS hRd
      refine lv_istore (lv' := [(6, .int (nI (cGe T (tt + 1) + cEq (T.take i) tt))), (5, .int (nI i)), (4, .int (nI T.length)), (0, .ref (y 0)), (1, .int a), (2, .int b), (3, .int k)]) hx hb d_R_frequent_51 hl (by decide) rfl (fun ls hl => ?_)
      refine lv_iload hx hb d_R_frequent_53 (lv_at hl 0 rfl) ?_
      refine lv_iload_n hx hb d_R_frequent_55 rfl (lv_at hl 6 rfl) ?_
      by_cases hkt : cGe T (tt + 1) + cEq (T.take i) tt = cn k
      · refine lv_icmp_ne (tgt := 67) hx hb d_R_frequent_56 (by decide) (fun c9 => absurd (by rw [hke, ← hkt]) c9) (fun _ => ?_)
        refine lv_aload_n hx hb d_R_frequent_59 rfl (lv_at hl 3 rfl) ?_
        refine va_get (D := D) (ci := 2) (v := .ref (y 4)) (C := n_R) (T := f_R) (N := 10) hx hb hts in_R hown hK hR 0 rfl rfl 7 (by decide) (hts _ x_89) (fun _ h9 => h9) rfl d_R_frequent_60 ?_
        refine lv_iload hx hb d_R_frequent_63 (lv_at hl 1 rfl) ?_
        refine va_iald hx hb hK hP 1 0 rfl rfl (vp_in_nI (by omega) (by decide)) d_R_frequent_65 ?_
        refine ct_topi (x' := nI sy) (by rw [nI_clamp (by omega)]; exact (hlt i sy hsi).1) ?_
        refine vx_ret (W.widen (k := 2) (n := 12) (by decide) (by decide) ?_)
        exact W.iret (v := nI sy) hx hb hr (fun t ht hW => ⟨_, rfl, by rw [ht]; exact ⟨_, rfl, Or.inl ⟨i, sy, tt, hsi, hti, hkt, hno, rfl⟩, fr.of hS, lrx_q hy hpre (fr.of hS) ⟨_, _, _, _, _, _, hP.sub [0] rfl⟩ ⟨_, _, hP.sub [1, 2] rfl⟩ ⟨_, hP.sub [3] rfl⟩, hcp, hcn⟩⟩) hS.2.2 d_R_frequent_66
      · refine lv_icmp_ne (tgt := 67) hx hb d_R_frequent_56 (by decide) (fun _ => ?_) (fun c9 => absurd c9 (fun h9 => hkt ((nI_eq (by omega) hk31).mp (h9.trans hke))))
        refine lv_iinc (v := nI (i + 1)) (lv' := [(5, .int (nI (i + 1))), (6, .int (nI (cGe T (tt + 1) + cEq (T.take i) tt))), (4, .int (nI T.length)), (0, .ref (y 0)), (1, .int a), (2, .int b), (3, .int k)]) hx hb d_R_frequent_67 hl (k := 1) rfl ((nI_succ i).symm) (by decide) rfl (fun ls hl => ?_)
        refine lv_goto (tgt := 27) hx hb d_R_frequent_70 (by decide) ?_
        refine ih (i + 1) _ H _ ls (by omega) (fun t h9 => ?_) (fun j t' hj htj => ?_) hS hP hD (lv_sub hl [0, 2, 3, 4, 5, 6] rfl)
        · rw [cEq_take hti t]
          by_cases e9 : t = tt
          · subst e9; simp only [upd, if_true]; rfl
          · have e8 : ¬ tt = t := fun h => e9 h.symm
            simp only [upd, if_neg e9, if_neg e8, Nat.add_zero]; exact hg1 t h9
        · rcases Nat.lt_or_ge j i with h8 | h8
          · exact hno j t' h8 htj
          · have e9 : j = i := by omega
            subst e9
            rw [hti] at htj
            cases htj
            exact hkt
  refine W.widen (k := 2) (n := 12) (by decide) (by decide) ?_
  exact loop T.length 0 g H _ ls (by omega) (fun t h9 => hg t h9) (fun j t' hj => absurd hj (Nat.not_lt_zero j)) hS hP hD (lv_sub hl [0, 1, 2, 3, 4, 5] rfl)
set_option maxHeartbeats 4000000 in
set_option maxRecDepth 100000 in
theorem m_R_bits {l : Launch} {D : va_G} {cI cJ cS cO : ClassId} {B0 : Nat} {y : Nat → Nat} {sg d : Nat} {xs ws : List Nat} (hy : yI B0 y d) (ok0 : Ok sg d xs ws) : CM l D (tyL cI cJ cS cO) B0 y_R_bits c_R_bits 2 (some .int) (rmK 0 0 0) [.ref (y 0)] (fun H => LRx D cI cJ cS cO y sg d xs ws H) (fun v H0 H1 => v = some (.int (nI (d * ((xs.length + 63) / 64 * 80 + 32)))) ∧ H1 = H0) 0 0 (fun _ => False) := by
  refine cm_of (by decide) (Nat.le_of_ble_eq_true rfl) ?_
  intro p e s m below meth c ls hx hb hr hml hown hts hlocks hnm hE hpre hl
  have hown : s.vm.findClass "LevelRows" = some m.cls := hown
  have hK := hE.1
  have hl : lv_has ls 2 [(0, .ref (y 0))] := hl
  have hP : va_P D vwCl [(y 0, .inr (2, [.int (nI sg), .ref (y 7), .int (nI xs.length), .int (nI ws.length), .ref (y 1), .ref (y 2), .ref (y 3), .ref (y 4), .ref (y 5), .ref (y 6)])), (y 7, .inl (cO, d, .inr (.inr (.inr (.inr (fun i => some (y (8 + 3 * i))))))))] s.heap := hpre.1.1
  have hx9 := ok0.len
  refine lv_aload_n hx hb d_R_bits_0 rfl (lv_at hl 0 rfl) ?_
  refine va_get (D := D) (ci := 2) (v := .int (nI xs.length)) (C := n_R) (T := f_R) (N := 10) hx hb hts in_R hown hK hP 0 rfl rfl 2 (by decide) (hts _ x_84) (fun _ h9 => h9) rfl d_R_bits_1 ?_
  refine lv_bipush (v := 64) hx hb d_R_bits_4 (by decide) ?_
  refine lv_iadd hx hb d_R_bits_6 ?_
  refine ct_topi (x' := nI (xs.length + 64)) (nI_add _ 64) ?_
  refine lv_iconst (v := 1) hx hb d_R_bits_7 (by decide) ?_
  refine lv_isub hx hb d_R_bits_8 ?_
  refine ct_topi (x' := nI (xs.length + 63)) (pk_sub (a := xs.length + 64) (b := 1) (by omega)) ?_
  refine lv_bipush (v := 64) hx hb d_R_bits_9 (by decide) ?_
  refine lv_idiv hx hb d_R_bits_11 (by decide) ?_
  refine ct_topi (x' := nI ((xs.length + 63) / 64)) (pk_div (d := 64) (by omega) (by decide) (by decide)) ?_
  refine lv_istore_n (lv' := [(1, .int (nI ((xs.length + 63) / 64))), (0, .ref (y 0))]) hx hb d_R_bits_12 rfl hl (by decide) rfl (fun ls hl => ?_)
  refine lv_aload_n hx hb d_R_bits_13 rfl (lv_at hl 1 rfl) ?_
  refine va_get (D := D) (ci := 2) (v := .ref (y 7)) (C := n_R) (T := f_R) (N := 10) hx hb hts in_R hown hK hP 0 rfl rfl 1 (by decide) (hts _ x_83) (fun _ h9 => h9) rfl d_R_bits_14 ?_
  refine va_alen hx hb hK hP 1 3 rfl rfl (v := nI (d)) rfl d_R_bits_17 ?_
  refine lv_iload_n hx hb d_R_bits_18 rfl (lv_at hl 0 rfl) ?_
  refine lv_bipush (v := 80) hx hb d_R_bits_19 (by decide) ?_
  refine lv_imul hx hb d_R_bits_21 ?_
  refine ct_topi (x' := nI ((xs.length + 63) / 64 * 80)) (pk_mul _ 80) ?_
  refine lv_bipush (v := 32) hx hb d_R_bits_22 (by decide) ?_
  refine lv_iadd hx hb d_R_bits_24 ?_
  refine ct_topi (x' := nI ((xs.length + 63) / 64 * 80 + 32)) (nI_add _ 32) ?_
  refine lv_imul hx hb d_R_bits_25 ?_
  refine ct_topi (x' := nI (d * ((xs.length + 63) / 64 * 80 + 32))) (pk_mul _ _) ?_
  exact W.iret (v := nI (d * ((xs.length + 63) / 64 * 80 + 32))) hx hb hr (fun t ht hW => ⟨_, rfl, rfl, ht⟩) (fun _ h => nomatch h) d_R_bits_26
set_option maxHeartbeats 4000000 in
set_option maxRecDepth 100000 in
theorem m_R_count {l : Launch} {D : va_G} {cI cJ cS cO : ClassId} {B0 : Nat} (hl9 : l.stackTraces = false) {y : Nat → Nat} {sg d : Nat} {xs ws : List Nat} (hy : yI B0 y d) (ok0 : Ok sg d xs ws) (x : Int32) : CX l D (tyL cI cJ cS cO) B0 y_R_count c_R_count 2 (some .int) (rmK 7 1 6) [.ref (y 0), .int x] (fun H => LRx D cI cJ cS cO y sg d xs ws H) (fun v H0 H1 => v = some (.int (aCnt sg d xs.length ws.length x)) ∧ H1 = H0 ∧ (¬ x < 0 ∧ x ≤ 3)) (pxI (¬ x < 0 ∧ x ≤ 3)) 1 6 (fun _ => False) := by
  refine cx_of (by decide) (Nat.le_of_ble_eq_true rfl) ?_
  intro p e s m below meth c ls hx hb hr hml hown hts hlocks hout hE hpre hl
  have hown : s.vm.findClass "LevelRows" = some m.cls := hown
  have hK := hE.1
  have hl : lv_has ls 2 [(0, .ref (y 0)), (1, .int x)] := hl
  have hS : va_S (fun _ => False) s.heap s.heap [] := va_S.rf
  have hR0 := hpre.1.1
  have hRd : ∀ (k : Nat) (q : Nat × va_E), (Rw cO y (nI sg) d (nI xs.length) (nI ws.length))[k]? = some q → ¬ (fun _ : Nat => False) q.1 := fun _ _ _ h => h
  have hAB : ∀ q : Nat, (fun _ : Nat => False) q → B0 ≤ q := fun _ h => h.elim
  have hR := hR0
  have hd16 := ok0.d16
  have hx9 := ok0.len
  have hp16 := ok0.p16
  have hsg6 := ok0.2.1
  refine lv_iload_n hx hb d_R_count_0 rfl (lv_at hl 1 rfl) ?_
  by_cases hcd : ¬ x < 0 ∧ x ≤ 3
  · rcases isCnt hcd with h0 | h0 | h0 | h0
    · refine lv_tableIn (off := 31) (tgt := 32) hx hb d_R_count_1 (by rw [h0]; decide) (by rw [h0]; decide) (by rw [h0]; rfl) (by decide) ?_
      refine lv_aload_n hx hb d_R_count_32 rfl (lv_at hl 0 rfl) ?_
      refine va_get (D := D) (ci := 2) (v := .int (nI xs.length)) (C := n_R) (T := f_R) (N := 10) hx hb hts in_R hown hK hR 0 rfl rfl 2 (by decide) (hts _ x_84) (fun _ h9 => h9) rfl d_R_count_33 ?_
      refine vx_ret (W.widen (k := 1) (n := 6) (by decide) (by decide) ?_)
      exact W.iret (v := nI xs.length) hx hb hr (fun t ht hW => ⟨_, rfl, by rw [h0]; rfl, ht, hcd⟩) (fun _ h => nomatch h) d_R_count_36
    · refine lv_tableIn (off := 36) (tgt := 37) hx hb d_R_count_1 (by rw [h0]; decide) (by rw [h0]; decide) (by rw [h0]; rfl) (by decide) ?_
      refine lv_aload_n hx hb d_R_count_37 rfl (lv_at hl 0 rfl) ?_
      refine va_get (D := D) (ci := 2) (v := .int (nI ws.length)) (C := n_R) (T := f_R) (N := 10) hx hb hts in_R hown hK hR 0 rfl rfl 3 (by decide) (hts _ x_85) (fun _ h9 => h9) rfl d_R_count_38 ?_
      refine vx_ret (W.widen (k := 1) (n := 6) (by decide) (by decide) ?_)
      exact W.iret (v := nI ws.length) hx hb hr (fun t ht hW => ⟨_, rfl, by rw [h0]; rfl, ht, hcd⟩) (fun _ h => nomatch h) d_R_count_41
    · refine lv_tableIn (off := 41) (tgt := 42) hx hb d_R_count_1 (by rw [h0]; decide) (by rw [h0]; decide) (by rw [h0]; rfl) (by decide) ?_
      refine lv_aload_n hx hb d_R_count_42 rfl (lv_at hl 0 rfl) ?_
      refine va_get (D := D) (ci := 2) (v := .ref (y 7)) (C := n_R) (T := f_R) (N := 10) hx hb hts in_R hown hK hR 0 rfl rfl 1 (by decide) (hts _ x_83) (fun _ h9 => h9) rfl d_R_count_43 ?_
      refine va_alen hx hb hK hR 1 3 rfl rfl (v := nI (d)) rfl d_R_count_46 ?_
      refine vx_ret (W.widen (k := 1) (n := 6) (by decide) (by decide) ?_)
      exact W.iret (v := nI d) hx hb hr (fun t ht hW => ⟨_, rfl, by rw [h0]; rfl, ht, hcd⟩) (fun _ h => nomatch h) d_R_count_47
    · refine lv_tableIn (off := 47) (tgt := 48) hx hb d_R_count_1 (by rw [h0]; decide) (by rw [h0]; decide) (by rw [h0]; rfl) (by decide) ?_
      refine lv_aload_n hx hb d_R_count_48 rfl (lv_at hl 0 rfl) ?_
      refine va_get (D := D) (ci := 2) (v := .int (nI sg)) (C := n_R) (T := f_R) (N := 10) hx hb hts in_R hown hK hR 0 rfl rfl 0 (by decide) (hts _ x_82) (fun _ h9 => h9) rfl d_R_count_49 ?_
      refine vx_ret (W.widen (k := 1) (n := 6) (by decide) (by decide) ?_)
      exact W.iret (v := nI sg) hx hb hr (fun t ht hW => ⟨_, rfl, by rw [h0]; rfl, ht, hcd⟩) (fun _ h => nomatch h) d_R_count_52
  · refine lv_tableOut (tgt := 53) hx hb d_R_count_1 (notCnt hcd) (by decide) ?_
    exact ct_thr hx hb hl9 hown hts hE hS hAB (by rw [hml]; exact hl.1) (by decide +kernel) (at_I hts hE.2.1) ot_I x_191 x_10 x_429 d_R_count_53 d_R_count_56 d_R_count_57 d_R_count_59 d_R_count_62 hout (by decide) (Nat.le_of_ble_eq_true rfl) (by decide) (by decide) hlocks (fun H1 hf => ⟨rfl, hcd, hf⟩) hS.2.2 (by decide) (by decide)
set_option maxHeartbeats 4000000 in
set_option maxRecDepth 100000 in
theorem m_R_clear {l : Launch} {D : va_G} {cI cJ cS cO : ClassId} {B0 : Nat} {y : Nat → Nat} {sg d : Nat} {xs ws : List Nat} (hy : yI B0 y d) (ok0 : Ok sg d xs ws) : CM l D (tyL cI cJ cS cO) B0 y_R_clear c_R_clear 1 none (rmK 5 0 0) [.ref (y 0)] (fun H => LRx D cI cJ cS cO y sg d xs ws H) (fun v H0 H1 => v = none ∧ fr (AB y d) H0 H1 ∧ LRx D cI cJ cS cO y sg d [] [] H1) 0 0 (AB y d) := by
  refine cm_of (by decide) (Nat.le_of_ble_eq_true rfl) ?_
  intro p e s m below meth c ls hx hb hr hml hown hts hlocks hnm hE hpre hl
  have hown : s.vm.findClass "LevelRows" = some m.cls := hown
  have hK := hE.1
  have hl : lv_has ls 1 [(0, .ref (y 0))] := hl
  have hd16 := ok0.d16
  have hx9 := ok0.len
  have hp16 := ok0.p16
  have hA9 : ∀ q : Nat, AB y d q → B0 ≤ q := by
    rintro q (rfl | rfl | rfl | ⟨i, h1, h2, rfl⟩)
    · exact hy.2 _ (by omega)
    · exact hy.2 _ (by omega)
    · exact hy.2 _ (by omega)
    · exact hy.2 _ h2
  have hA8 : ∀ q : Nat, (q = y 0 ∨ q = y 1) → AB y d q := fun q h => h.elim Or.inl (fun h => Or.inr (Or.inl h))
  have hAB : ∀ q : Nat, (q = y 0 ∨ q = y 1) → B0 ≤ q := fun q h => hA9 q (hA8 q h)
  have hV0 : va_P D vwCl [(y 7, .inl (cO, d, .inr (.inr (.inr (.inr (fun i => some (y (8 + 3 * i))))))))] s.heap := hpre.1.1.sub [1] rfl
  have hVd : ∀ (k : Nat) (q : Nat × va_E), ([(y 7, .inl (cO, d, .inr (.inr (.inr (.inr (fun i => some (y (8 + 3 * i))))))))] : va_W)[k]? = some q → ¬ (q.1 = y 0 ∨ q.1 = y 1) := va_P.off1 (b := 0) (A := fun q => q = y 0 ∨ q = y 1) (fun h => h.elim (hy.ne (by omega) (by omega) (by omega)) (hy.ne (by omega) (by omega) (by omega)))
  have hV := hV0
  obtain ⟨rf, sf, hrw, hrs⟩ := hpre.2.2.2.2
  have hS : va_S (fun q => q = y 0 ∨ q = y 1) s.heap s.heap [] := va_S.rf
  have hZ0 : va_P D vwCl [(y 2, .inl (cI, 1000, .inl sf))] s.heap := hrs.sub [1] rfl
  have hZd : ∀ (k : Nat) (q : Nat × va_E), ([(y 2, .inl (cI, 1000, .inl sf))] : va_W)[k]? = some q → ¬ (q.1 = y 0 ∨ q.1 = y 1) := va_P.off1 (b := 0) (A := fun q => q = y 0 ∨ q = y 1) (fun h => h.elim (hy.ne (by omega) (by omega) (by omega)) (hy.ne (by omega) (by omega) (by omega)))
  have hP : va_P D vwCl [(y 0, .inr (2, [.int (nI sg), .ref (y 7), .int (nI xs.length), .int (nI ws.length), .ref (y 1), .ref (y 2), .ref (y 3), .ref (y 4), .ref (y 5), .ref (y 6)])), (y 1, .inl (cI, 1000, .inl (rf)))] s.heap := (hpre.1.1.sub [0] rfl).app (hrs.sub [0] rfl)
  have hD : va_D (fun q => q = y 0 ∨ q = y 1) [(y 0, .inr (2, [.int (nI sg), .ref (y 7), .int (nI xs.length), .int (nI ws.length), .ref (y 1), .ref (y 2), .ref (y 3), .ref (y 4), .ref (y 5), .ref (y 6)])), (y 1, .inl (cI, 1000, .inl (rf)))] := va_D.two (hy.ne (by omega) (by omega) (by omega)) (Or.inl rfl) (Or.inr rfl)
  refine lv_aload_n hx hb d_R_clear_0 rfl (lv_at hl 0 rfl) ?_
  refine lv_iconst (v := 0) hx hb d_R_clear_1 (by decide) ?_
  refine va_put (D := D) (ci := 2) (v := .int 0) (ty := .int) (C := n_R) (T := f_R) (N := 10) hx hb hts in_R t_R ty_R nm_R hown hK hP hD hS 0 rfl rfl 2 (by decide) (hts _ x_84) (fun _ h9 => h9) rfl (by decide +kernel) rfl rfl (Nat.le_of_ble_eq_true rfl) d_R_clear_2 (fun H locs hP hD hS => ?_)
  have hP : va_P D vwCl [(y 0, .inr (2, [.int (nI sg), .ref (y 7), .int 0, .int (nI ws.length), .ref (y 1), .ref (y 2), .ref (y 3), .ref (y 4), .ref (y 5), .ref (y 6)])), (y 1, .inl (cI, 1000, .inl (rf)))] H := hP
  have hD : va_D (fun q => q = y 0 ∨ q = y 1) [(y 0, .inr (2, [.int (nI sg), .ref (y 7), .int 0, .int (nI ws.length), .ref (y 1), .ref (y 2), .ref (y 3), .ref (y 4), .ref (y 5), .ref (y 6)])), (y 1, .inl (cI, 1000, .inl (rf)))] := hD
  have hV := hV0.rd hS hVd
  refine lv_aload_n hx hb d_R_clear_5 rfl (lv_at hl 0 rfl) ?_
  refine lv_iconst (v := 0) hx hb d_R_clear_6 (by decide) ?_
  refine va_put (D := D) (ci := 2) (v := .int 0) (ty := .int) (C := n_R) (T := f_R) (N := 10) hx hb hts in_R t_R ty_R nm_R hown hK hP hD hS 0 rfl rfl 3 (by decide) (hts _ x_85) (fun _ h9 => h9) rfl (by decide +kernel) rfl rfl (Nat.le_of_ble_eq_true rfl) d_R_clear_7 (fun H locs hP hD hS => ?_)
  have hP : va_P D vwCl [(y 0, .inr (2, [.int (nI sg), .ref (y 7), .int 0, .int 0, .ref (y 1), .ref (y 2), .ref (y 3), .ref (y 4), .ref (y 5), .ref (y 6)])), (y 1, .inl (cI, 1000, .inl (rf)))] H := hP
  have hD : va_D (fun q => q = y 0 ∨ q = y 1) [(y 0, .inr (2, [.int (nI sg), .ref (y 7), .int 0, .int 0, .ref (y 1), .ref (y 2), .ref (y 3), .ref (y 4), .ref (y 5), .ref (y 6)])), (y 1, .inl (cI, 1000, .inl (rf)))] := hD
  have hV := hV0.rd hS hVd
  refine lv_aload_n hx hb d_R_clear_10 rfl (lv_at hl 0 rfl) ?_
  have hLk := lk_kept hy hpre.1 (fr.of hS) (fun q h => h)
  have hfr1 := fr.of hS
  have hZ := hZ0.rd hS hZd
  have hS : va_S (AB y d) s.heap H _ := hS.mono hA8
  have hRw : va_P D vwCl (Rw cO y (nI sg) d (nI (([] : List Nat)).length) 0) H := (hP.sub [0] rfl).app hV
  refine cm_ret (va_runV (As := []) (rest := []) ⟨hx, hb, hml, hown, hts⟩ (m_R_storeLevels (xs := ([] : List Nat)) hy hd16 (Nat.zero_le _) (fun x h => nomatch h) (fun i x h => by simp at h)) ⟨ct_cb 0 hts x_147 x_144 x_1 rfl rfl (by decide +kernel) ⟨by decide, by decide⟩, hts _ x_146, hts _ s_R_storeLevels⟩ ⟨st_blind, va_recv hK hP (ci := 2) (q0 := 0) rfl rfl, fun U hU hW => ⟨rfl, hE.at hS hA9 hU hW, by rw [hU]; exact ⟨hRw, (hP.sub [1] rfl).app hZ, fun k hk => by obtain ⟨ja, oa, z, _, h⟩ := hLk k hk; exact ⟨ja, oa, z, h⟩⟩⟩⟩ rfl rfl hl.1 rfl (lv_room (Nat.le_of_ble_eq_true rfl)) d_R_clear_11 ⟨by decide, by decide⟩) hS (fun q h => Or.inr h) (fun _ _ h => h.2.1) (fun v H locs hv hS => ?_)
  obtain ⟨rfl, hfr2, hLk2, hr2⟩ := hv
  refine W.eq (g2 := F0 m 14 ls []) rfl ?_
  exact W.vret hx hb hr (fun t ht hW => ⟨_, rfl, by rw [ht]; exact ⟨rfl, fr.of hS, lrx_built hy hpre hfr1 (fun q h => h) hfr2 hRw hLk2 hr2⟩⟩) hS.2.2 d_R_clear_14
set_option maxHeartbeats 4000000 in
set_option maxRecDepth 100000 in
theorem m_R_build {l : Launch} {D : va_G} {cI cJ cS cO : ClassId} {B0 : Nat} {y : Nat → Nat} {sg d : Nat} {xs ws : List Nat} (hy : yI B0 y d) (ok0 : Ok sg d xs ws) : CM l D (tyL cI cJ cS cO) B0 y_R_build c_R_build 2 (some .int) (rmK 5 0 0) [.ref (y 0)] (fun H => LRx D cI cJ cS cO y sg d xs ws H) (fun v H0 H1 => v = some (.int (nI (xs.length + ws.length))) ∧ fr (AB y d) H0 H1 ∧ LRx D cI cJ cS cO y sg d (xs ++ ws) [] H1) 0 0 (AB y d) := by
  refine cm_of (by decide) (Nat.le_of_ble_eq_true rfl) ?_
  intro p e s m below meth c ls hx hb hr hml hown hts hlocks hnm hE hpre hl
  have hown : s.vm.findClass "LevelRows" = some m.cls := hown
  have hK := hE.1
  have hl : lv_has ls 2 [(0, .ref (y 0))] := hl
  have hd16 := ok0.d16
  have hx9 := ok0.len
  have hp16 := ok0.p16
  have hA9 : ∀ q : Nat, AB y d q → B0 ≤ q := by
    rintro q (rfl | rfl | rfl | ⟨i, h1, h2, rfl⟩)
    · exact hy.2 _ (by omega)
    · exact hy.2 _ (by omega)
    · exact hy.2 _ (by omega)
    · exact hy.2 _ h2
  have hA8 : ∀ q : Nat, (q = y 0 ∨ q = y 1) → AB y d q := fun q h => h.elim Or.inl (fun h => Or.inr (Or.inl h))
  have hAB : ∀ q : Nat, (q = y 0 ∨ q = y 1) → B0 ≤ q := fun q h => hA9 q (hA8 q h)
  have hV0 : va_P D vwCl [(y 7, .inl (cO, d, .inr (.inr (.inr (.inr (fun i => some (y (8 + 3 * i))))))))] s.heap := hpre.1.1.sub [1] rfl
  have hVd : ∀ (k : Nat) (q : Nat × va_E), ([(y 7, .inl (cO, d, .inr (.inr (.inr (.inr (fun i => some (y (8 + 3 * i))))))))] : va_W)[k]? = some q → ¬ (q.1 = y 0 ∨ q.1 = y 1) := va_P.off1 (b := 0) (A := fun q => q = y 0 ∨ q = y 1) (fun h => h.elim (hy.ne (by omega) (by omega) (by omega)) (hy.ne (by omega) (by omega) (by omega)))
  have hV := hV0
  obtain ⟨rf, sf, hrw, hrs⟩ := hpre.2.2.2.2
  have hS : va_S (fun q => q = y 0 ∨ q = y 1) s.heap s.heap [] := va_S.rf
  have hZ0 : va_P D vwCl [(y 2, .inl (cI, 1000, .inl sf))] s.heap := hrs.sub [1] rfl
  have hZd : ∀ (k : Nat) (q : Nat × va_E), ([(y 2, .inl (cI, 1000, .inl sf))] : va_W)[k]? = some q → ¬ (q.1 = y 0 ∨ q.1 = y 1) := va_P.off1 (b := 0) (A := fun q => q = y 0 ∨ q = y 1) (fun h => h.elim (hy.ne (by omega) (by omega) (by omega)) (hy.ne (by omega) (by omega) (by omega)))
  have hP : va_P D vwCl [(y 0, .inr (2, [.int (nI sg), .ref (y 7), .int (nI xs.length), .int (nI ws.length), .ref (y 1), .ref (y 2), .ref (y 3), .ref (y 4), .ref (y 5), .ref (y 6)])), (y 1, .inl (cI, 1000, .inl (rf)))] s.heap := (hpre.1.1.sub [0] rfl).app (hrs.sub [0] rfl)
  have hD : va_D (fun q => q = y 0 ∨ q = y 1) [(y 0, .inr (2, [.int (nI sg), .ref (y 7), .int (nI xs.length), .int (nI ws.length), .ref (y 1), .ref (y 2), .ref (y 3), .ref (y 4), .ref (y 5), .ref (y 6)])), (y 1, .inl (cI, 1000, .inl (rf)))] := va_D.two (hy.ne (by omega) (by omega) (by omega)) (Or.inl rfl) (Or.inr rfl)
  have hsum := ok0.2.2.2.2.2.1
  refine lv_aload_n hx hb d_R_build_0 rfl (lv_at hl 0 rfl) ?_
  refine va_get (D := D) (ci := 2) (v := .int (nI ws.length)) (C := n_R) (T := f_R) (N := 10) hx hb hts in_R hown hK hP 0 rfl rfl 3 (by decide) (hts _ x_85) (fun _ h9 => h9) rfl d_R_build_1 ?_
  rcases Nat.eq_zero_or_pos ws.length with h0 | h0
  · refine lv_if_le (tgt := 56) hx hb d_R_build_4 (by decide) (fun _ => ?_) (fun c9 => absurd (by rw [h0]; decide) c9)
    refine lv_aload_n hx hb d_R_build_56 rfl (lv_at hl 0 rfl) ?_
    refine va_get (D := D) (ci := 2) (v := .int (nI xs.length)) (C := n_R) (T := f_R) (N := 10) hx hb hts in_R hown hK hP 0 rfl rfl 2 (by decide) (hts _ x_84) (fun _ h9 => h9) rfl d_R_build_57 ?_
    have hw0 : ws = [] := List.length_eq_zero_iff.mp h0
    exact W.iret (v := nI xs.length) hx hb hr (fun t ht hW => ⟨_, rfl, by rw [ht, h0, hw0, List.append_nil]; exact ⟨rfl, fr.rf, by rw [hw0] at hpre; exact hpre⟩⟩) (fun _ h => nomatch h) d_R_build_60
  · refine lv_if_le (tgt := 56) hx hb d_R_build_4 (by decide) (fun c9 => absurd c9 (nI_nle h0 (by omega))) (fun _ => ?_)
    refine lv_iconst (v := 0) hx hb d_R_build_7 (by decide) ?_
    refine lv_istore_n (lv' := [(1, .int 0), (0, .ref (y 0))]) hx hb d_R_build_8 rfl hl (by decide) rfl (fun ls hl => ?_)
    have loop : ∀ (n : Nat) (i : Nat) (rf : Nat → Int32) (H : Heap) (locs : List Loc) (ls : Array Slot), (i + n = xs.length) → (∀ j x, j < i → xs[j]? = some x → rf j = nI x) → (∀ j x, ws[j]? = some x → rf (xs.length + j) = nI x) → va_S (fun q => q = y 0 ∨ q = y 1) s.heap H locs → va_P D vwCl [(y 0, .inr (2, [.int (nI sg), .ref (y 7), .int (nI xs.length), .int (nI ws.length), .ref (y 1), .ref (y 2), .ref (y 3), .ref (y 4), .ref (y 5), .ref (y 6)])), (y 1, .inl (cI, 1000, .inl (rf)))] H → va_D (fun q => q = y 0 ∨ q = y 1) [(y 0, .inr (2, [.int (nI sg), .ref (y 7), .int (nI xs.length), .int (nI ws.length), .ref (y 1), .ref (y 2), .ref (y 3), .ref (y 4), .ref (y 5), .ref (y 6)])), (y 1, .inl (cI, 1000, .inl (rf)))] → lv_has ls 2 [(1, .int (nI i)), (0, .ref (y 0))] → W p l e (rmK 5 0 0) s m [.ref (y 0)].toArray below meth c H locs (0) (0) (MQ below (stQ (fun v H0 H1 => v = some (.int (nI (xs.length + ws.length))) ∧ fr (AB y d) H0 H1 ∧ LRx D cI cJ cS cO y sg d (xs ++ ws) [] H1)) [.ref (y 0)].toArray s 0 0 (AB y d)) (F0 m 9 ls []) := by
      intro n
      induction n with
      | zero =>
        intro i rf H locs ls hin hr1 hr2 hS hP hD hl
        have hV := hV0.rd hS hVd
        have hix : i = xs.length := by omega
        refine lv_iload_n hx hb d_R_build_9 rfl (lv_at hl 0 rfl) ?_
        refine lv_aload_n hx hb d_R_build_10 rfl (lv_at hl 1 rfl) ?_
        refine va_get (D := D) (ci := 2) (v := .int (nI xs.length)) (C := n_R) (T := f_R) (N := 10) hx hb hts in_R hown hK hP 0 rfl rfl 2 (by decide) (hts _ x_84) (fun _ h9 => h9) rfl d_R_build_11 ?_
        refine lv_icmp_ge (tgt := 34) hx hb d_R_build_14 (by decide) (fun _ => ?_) (fun c9 => absurd (nI_le (by omega) (by omega)) c9)
        refine lv_aload_n hx hb d_R_build_34 rfl (lv_at hl 1 rfl) ?_
        refine lv_dup hx hb d_R_build_35 rfl ?_
        refine va_get (D := D) (ci := 2) (v := .int (nI xs.length)) (C := n_R) (T := f_R) (N := 10) hx hb hts in_R hown hK hP 0 rfl rfl 2 (by decide) (hts _ x_84) (fun _ h9 => h9) rfl d_R_build_36 ?_
        refine lv_aload_n hx hb d_R_build_39 rfl (lv_at hl 1 rfl) ?_
        refine va_get (D := D) (ci := 2) (v := .int (nI ws.length)) (C := n_R) (T := f_R) (N := 10) hx hb hts in_R hown hK hP 0 rfl rfl 3 (by decide) (hts _ x_85) (fun _ h9 => h9) rfl d_R_build_40 ?_
        refine lv_iadd hx hb d_R_build_43 ?_
        refine ct_topi (x' := nI (xs ++ ws).length) (by rw [List.length_append]; exact nI_add _ _) ?_
        refine va_put (D := D) (ci := 2) (v := .int (nI (xs ++ ws).length)) (ty := .int) (C := n_R) (T := f_R) (N := 10) hx hb hts in_R t_R ty_R nm_R hown hK hP hD hS 0 rfl rfl 2 (by decide) (hts _ x_84) (fun _ h9 => h9) rfl (by decide +kernel) rfl rfl (Nat.le_of_ble_eq_true rfl) d_R_build_44 (fun H locs hP hD hS => ?_)
        have hP : va_P D vwCl [(y 0, .inr (2, [.int (nI sg), .ref (y 7), .int (nI (xs ++ ws).length), .int (nI ws.length), .ref (y 1), .ref (y 2), .ref (y 3), .ref (y 4), .ref (y 5), .ref (y 6)])), (y 1, .inl (cI, 1000, .inl (rf)))] H := hP
        have hD : va_D (fun q => q = y 0 ∨ q = y 1) [(y 0, .inr (2, [.int (nI sg), .ref (y 7), .int (nI (xs ++ ws).length), .int (nI ws.length), .ref (y 1), .ref (y 2), .ref (y 3), .ref (y 4), .ref (y 5), .ref (y 6)])), (y 1, .inl (cI, 1000, .inl (rf)))] := hD
        have hV := hV0.rd hS hVd
        refine lv_aload_n hx hb d_R_build_47 rfl (lv_at hl 1 rfl) ?_
        refine lv_iconst (v := 0) hx hb d_R_build_48 (by decide) ?_
        refine va_put (D := D) (ci := 2) (v := .int 0) (ty := .int) (C := n_R) (T := f_R) (N := 10) hx hb hts in_R t_R ty_R nm_R hown hK hP hD hS 0 rfl rfl 3 (by decide) (hts _ x_85) (fun _ h9 => h9) rfl (by decide +kernel) rfl rfl (Nat.le_of_ble_eq_true rfl) d_R_build_49 (fun H locs hP hD hS => ?_)
        have hP : va_P D vwCl [(y 0, .inr (2, [.int (nI sg), .ref (y 7), .int (nI (xs ++ ws).length), .int 0, .ref (y 1), .ref (y 2), .ref (y 3), .ref (y 4), .ref (y 5), .ref (y 6)])), (y 1, .inl (cI, 1000, .inl (rf)))] H := hP
        have hD : va_D (fun q => q = y 0 ∨ q = y 1) [(y 0, .inr (2, [.int (nI sg), .ref (y 7), .int (nI (xs ++ ws).length), .int 0, .ref (y 1), .ref (y 2), .ref (y 3), .ref (y 4), .ref (y 5), .ref (y 6)])), (y 1, .inl (cI, 1000, .inl (rf)))] := hD
        have hV := hV0.rd hS hVd
        refine lv_aload_n hx hb d_R_build_52 rfl (lv_at hl 1 rfl) ?_
        have hrf : ∀ j x, (xs ++ ws)[j]? = some x → rf j = nI x := by
          intro j x hj
          rcases Nat.lt_or_ge j xs.length with h1 | h1
          · rw [List.getElem?_append_left h1] at hj; exact hr1 j x (by omega) hj
          · rw [List.getElem?_append_right h1] at hj; have := hr2 (j - xs.length) x hj; rwa [Nat.add_sub_cancel' h1] at this
        have hLk := lk_kept hy hpre.1 (fr.of hS) (fun q h => h)
        have hfr1 := fr.of hS
        have hZ := hZ0.rd hS hZd
        have hS : va_S (AB y d) s.heap H _ := hS.mono hA8
        have hRw : va_P D vwCl (Rw cO y (nI sg) d (nI (xs ++ ws).length) 0) H := (hP.sub [0] rfl).app hV
        refine cm_ret (va_runV (As := []) (rest := []) ⟨hx, hb, hml, hown, hts⟩ (m_R_storeLevels (xs := xs ++ ws) hy hd16 (by rw [List.length_append]; exact hsum) (fun x h => by rcases List.mem_append.mp h with h | h; exact Nat.lt_of_lt_of_le (ok0.2.2.2.2.2.2.1 x h) ok0.2.1; exact Nat.lt_of_lt_of_le (ok0.2.2.2.2.2.2.2 x h) ok0.2.1) (hrf)) ⟨ct_cb 0 hts x_147 x_144 x_1 rfl rfl (by decide +kernel) ⟨by decide, by decide⟩, hts _ x_146, hts _ s_R_storeLevels⟩ ⟨st_blind, va_recv hK hP (ci := 2) (q0 := 0) rfl rfl, fun U hU hW => ⟨rfl, hE.at hS hA9 hU hW, by rw [hU]; exact ⟨hRw, (hP.sub [1] rfl).app hZ, fun k hk => by obtain ⟨ja, oa, z, _, h⟩ := hLk k hk; exact ⟨ja, oa, z, h⟩⟩⟩⟩ rfl rfl hl.1 rfl (lv_room (Nat.le_of_ble_eq_true rfl)) d_R_build_53 ⟨by decide, by decide⟩) hS (fun q h => Or.inr h) (fun _ _ h => h.2.1) (fun v H locs hv hS => ?_)
        obtain ⟨rfl, hfr2, hLk2, hr2⟩ := hv
        refine W.eq (g2 := F0 m 56 ls []) rfl ?_
        have hLR := lrx_built hy hpre hfr1 (fun q h => h) hfr2 hRw hLk2 hr2
        have hP : va_P D vwCl [(y 0, .inr (2, [.int (nI sg), .ref (y 7), .int (nI (xs ++ ws).length), .int 0, .ref (y 1), .ref (y 2), .ref (y 3), .ref (y 4), .ref (y 5), .ref (y 6)]))] H := hLR.1.1.sub [0] rfl
        refine lv_aload_n hx hb d_R_build_56 rfl (lv_at hl 1 rfl) ?_
        refine va_get (D := D) (ci := 2) (v := .int (nI (xs ++ ws).length)) (C := n_R) (T := f_R) (N := 10) hx hb hts in_R hown hK hP 0 rfl rfl 2 (by decide) (hts _ x_84) (fun _ h9 => h9) rfl d_R_build_57 ?_
        exact W.iret (v := nI (xs ++ ws).length) hx hb hr (fun t ht hW => ⟨_, rfl, by rw [ht]; exact ⟨by rw [List.length_append], fr.of hS, hLR⟩⟩) hS.2.2 d_R_build_60
      | succ n ih =>
        intro i rf H locs ls hin hr1 hr2 hS hP hD hl
        have hV := hV0.rd hS hVd
        have hq : xs[i]? = some xs[i] := List.getElem?_eq_getElem (by omega)
        have hRL : RL D cJ cS cO y sg d xs ws.length H := ⟨(hP.sub [0] rfl).app hV, lk_kept hy hpre.1 (fr.of hS) (fun q h => h)⟩
        refine lv_iload_n hx hb d_R_build_9 rfl (lv_at hl 0 rfl) ?_
        refine lv_aload_n hx hb d_R_build_10 rfl (lv_at hl 1 rfl) ?_
        refine va_get (D := D) (ci := 2) (v := .int (nI xs.length)) (C := n_R) (T := f_R) (N := 10) hx hb hts in_R hown hK hP 0 rfl rfl 2 (by decide) (hts _ x_84) (fun _ h9 => h9) rfl d_R_build_11 ?_
        refine lv_icmp_ge (tgt := 34) hx hb d_R_build_14 (by decide) (fun c9 => absurd c9 (nI_ge (by omega) (by omega))) (fun _ => ?_)
        refine lv_aload_n hx hb d_R_build_17 rfl (lv_at hl 1 rfl) ?_
        refine va_get (D := D) (ci := 2) (v := .ref (y 1)) (C := n_R) (T := f_R) (N := 10) hx hb hts in_R hown hK hP 0 rfl rfl 4 (by decide) (hts _ x_86) (fun _ h9 => h9) rfl d_R_build_18 ?_
        refine lv_iload_n hx hb d_R_build_21 rfl (lv_at hl 0 rfl) ?_
        refine lv_aload_n hx hb d_R_build_22 rfl (lv_at hl 1 rfl) ?_
        refine lv_iload_n hx hb d_R_build_23 rfl (lv_at hl 0 rfl) ?_
        refine cm_read (va_runV (As := [.int (nI i)]) (rest := [.int (nI i), .ref (y 1)]) ⟨hx, hb, hml, hown, hts⟩ (m_R_symbolAt hq (ok0.lt _ (List.mem_of_getElem? hq)) hd16 hx9) ⟨ct_cb 1 hts x_120 x_117 x_1 rfl rfl (by decide +kernel) ⟨by decide, by decide⟩, hts _ x_119, hts _ s_R_symbolAt⟩ ⟨st_blind, va_recv hK hP (ci := 2) (q0 := 0) rfl rfl, fun U hU hW => ⟨rfl, hE.at hS hAB hU hW, by rw [hU]; exact hRL⟩⟩ rfl rfl hl.1 rfl (lv_room (Nat.le_of_ble_eq_true rfl)) d_R_build_24 ⟨by decide, by decide⟩) (fun v hv => ?_)
        subst hv
        refine W.eq (g2 := F0 m 27 ls [.int (nI xs[i]), .int (nI i), .ref (y 1)]) rfl ?_
        refine va_iast hx hb hK hP hD hS 1 0 rfl rfl (vp_in_nI (by omega) (by decide)) d_R_build_27 (fun H locs hP hD hS => ?_)
        rw [nI_clamp (by omega)] at hP hD
        have hP : va_P D vwCl [(y 0, .inr (2, [.int (nI sg), .ref (y 7), .int (nI xs.length), .int (nI ws.length), .ref (y 1), .ref (y 2), .ref (y 3), .ref (y 4), .ref (y 5), .ref (y 6)])), (y 1, .inl (cI, 1000, .inl (upd rf i (nI xs[i]))))] H := hP
        have hD : va_D (fun q => q = y 0 ∨ q = y 1) [(y 0, .inr (2, [.int (nI sg), .ref (y 7), .int (nI xs.length), .int (nI ws.length), .ref (y 1), .ref (y 2), .ref (y 3), .ref (y 4), .ref (y 5), .ref (y 6)])), (y 1, .inl (cI, 1000, .inl (upd rf i (nI xs[i]))))] := hD
        have hV := hV0.rd hS hVd
        refine lv_iinc (v := nI (i + 1)) (lv' := [(1, .int (nI (i + 1))), (0, .ref (y 0))]) hx hb d_R_build_28 hl (k := 0) rfl ((nI_succ i).symm) (by decide) rfl (fun ls hl => ?_)
        refine lv_goto (tgt := 9) hx hb d_R_build_31 (by decide) ?_
        refine ih (i + 1) _ H _ ls (by omega) (fun j x hj hjx => ?_) (fun j x hjx => ?_) hS hP hD (lv_sub hl [0, 1] rfl)
        · by_cases e9 : j = i
          · subst e9; simp only [upd, if_true]; rw [hq] at hjx; cases hjx; rfl
          · simp only [upd, if_neg e9]; exact hr1 j x (by omega) hjx
        · have e9 : xs.length + j ≠ i := by omega
          simp only [upd, if_neg e9]; exact hr2 j x hjx
    exact loop xs.length 0 rf s.heap [] ls (by omega) (fun j x hj => absurd hj (Nat.not_lt_zero j)) hrw hS hP hD (lv_sub hl [0, 1] rfl)
