/-! LevelRows: listSymbols, countAhead, storeLevels. -/
set_option maxHeartbeats 4000000 in
set_option maxRecDepth 100000 in
theorem m_R_listSymbols {l : Launch} {D : va_G} {cI cJ cS cO : ClassId} {B0 : Nat} {y : Nat → Nat} {sg d : Nat} {xs ws : List Nat} (hy : yI B0 y d) (ok0 : Ok sg d xs ws) {a b : Nat} (hab : a ≤ b) (hbx : b ≤ xs.length) {B : List Nat} (hB : B = (xs.drop a).take (b - a)) {lf tf : Nat → Int32} : CM l D (tyL cI cJ cS cO) B0 y_R_listSymbols c_R_listSymbols 6 (some .int) (rmK 5 0 0) [.ref (y 0), .int (nI a), .int (nI b)] (fun H => RL D cJ cS cO y sg d xs ws.length H ∧ PP D (y 3) H ∧ va_P D vwCl [(y 4, .inl (cI, 1000, .inl lf)), (y 5, .inl (cI, 1000, .inl tf))] H) (fun v H0 H1 => v = some (.int (nI (dis B 65536).length)) ∧ fr (fun q => q = y 3 ∨ q = y 4 ∨ q = y 5) H0 H1 ∧ PP D (y 3) H1 ∧ ∃ lf tf, (∀ i x, (dis B 65536)[i]? = some x → lf i = nI x ∧ tf i = nI (cEq B x)) ∧ va_P D vwCl [(y 4, .inl (cI, 1000, .inl lf)), (y 5, .inl (cI, 1000, .inl tf))] H1) 0 0 (fun q => q = y 3 ∨ q = y 4 ∨ q = y 5) := by
  refine cm_of (by decide) (Nat.le_of_ble_eq_true rfl) ?_
  intro p e s m below meth c ls hx hb hr hml hown hts hlocks hnm hE hpre hl
  have hown : s.vm.findClass "LevelRows" = some m.cls := hown
  have hK := hE.1
  have hl : lv_has ls 6 [(0, .ref (y 0)), (1, .int (nI a)), (2, .int (nI b))] := hl
  have hS : va_S (fun q => q = y 3 ∨ q = y 4 ∨ q = y 5) s.heap s.heap [] := va_S.rf
  have hR0 := hpre.1.1
  have hRd : ∀ (k : Nat) (q : Nat × va_E), (Rw cO y (nI sg) d (nI xs.length) (nI ws.length))[k]? = some q → ¬ (q.1 = y 3 ∨ q.1 = y 4 ∨ q.1 = y 5) := fun k q hk h => h.elim (Rw.off hy (by omega) (by omega) k q hk) (fun h => h.elim (Rw.off hy (by omega) (by omega) k q hk) (Rw.off hy (by omega) (by omega) k q hk))
  have hR := hR0
  have hA3 : ∀ q : Nat, (q = y 3 ∨ q = y 4 ∨ q = y 5) → ∃ i, 1 ≤ i ∧ i ≤ 6 ∧ q = y i := fun q h => h.elim (fun h => ⟨3, by omega, by omega, h⟩) (fun h => h.elim (fun h => ⟨4, by omega, by omega, h⟩) (fun h => ⟨5, by omega, by omega, h⟩))
  have hAB : ∀ q : Nat, (q = y 3 ∨ q = y 4 ∨ q = y 5) → B0 ≤ q := fun q h => by obtain ⟨i, _, _, rfl⟩ := hA3 q h; exact hy.2 i (by omega)
  have hd16 := ok0.d16
  have hx9 := ok0.len
  have hp16 := ok0.p16
  have hBl : B.length = b - a := by rw [hB, List.length_take, List.length_drop]; omega
  have hB6 : ∀ x ∈ B, x < 65536 := fun x h => Nat.lt_of_lt_of_le (ok0.lt x (List.mem_of_mem_drop (List.mem_of_mem_take (hB ▸ h)))) hp16
  have hcA := cLt_all hB6
  obtain ⟨f0, f1, f2, f3, f4, f5, hP⟩ := hpre.2.1
  have hP : va_P D vwCl [(y 3, .inr (1, [.int f0, .int f1, .int f2, .int f3, .int f4, .int f5])), (y 4, .inl (cI, 1000, .inl (lf))), (y 5, .inl (cI, 1000, .inl (tf)))] s.heap := hP.app hpre.2.2
  have hD : va_D (fun q => q = y 3 ∨ q = y 4 ∨ q = y 5) [(y 3, .inr (1, [.int f0, .int f1, .int f2, .int f3, .int f4, .int f5])), (y 4, .inl (cI, 1000, .inl (lf))), (y 5, .inl (cI, 1000, .inl (tf)))] := va_D.three (hy.ne (by omega) (by omega) (by omega)) (hy.ne (by omega) (by omega) (by omega)) (hy.ne (by omega) (by omega) (by omega)) (Or.inl rfl) (Or.inr (Or.inl rfl)) (Or.inr (Or.inr rfl))
  refine lv_iconst (v := 0) hx hb d_R_listSymbols_0 (by decide) ?_
  refine lv_istore_n (lv' := [(3, .int 0), (0, .ref (y 0)), (1, .int (nI a)), (2, .int (nI b))]) hx hb d_R_listSymbols_1 rfl hl (by decide) rfl (fun ls hl => ?_)
  refine lv_iconst (v := 0) hx hb d_R_listSymbols_2 (by decide) ?_
  refine lv_istore (lv' := [(4, .int 0), (3, .int 0), (0, .ref (y 0)), (1, .int (nI a)), (2, .int (nI b))]) hx hb d_R_listSymbols_3 hl (by decide) rfl (fun ls hl => ?_)
  have loop : ∀ (n : Nat) (mm : Nat) (lf : Nat → Int32) (tf : Nat → Int32) (f0 : Int32) (f1 : Int32) (f2 : Int32) (f3 : Int32) (f4 : Int32) (f5 : Int32) (H : Heap) (locs : List Loc) (ls : Array Slot), (B.length ≤ cLt B mm + n) → (mm ≤ 65536) → ((∀ i x, (dis B mm)[i]? = some x → lf i = nI x ∧ tf i = nI (cEq B x))) → va_S (fun q => q = y 3 ∨ q = y 4 ∨ q = y 5) s.heap H locs → va_P D vwCl [(y 3, .inr (1, [.int f0, .int f1, .int f2, .int f3, .int f4, .int f5])), (y 4, .inl (cI, 1000, .inl (lf))), (y 5, .inl (cI, 1000, .inl (tf)))] H → va_D (fun q => q = y 3 ∨ q = y 4 ∨ q = y 5) [(y 3, .inr (1, [.int f0, .int f1, .int f2, .int f3, .int f4, .int f5])), (y 4, .inl (cI, 1000, .inl (lf))), (y 5, .inl (cI, 1000, .inl (tf)))] → lv_has ls 6 [(3, .int (nI (dis B mm).length)), (4, .int (nI (cLt B mm))), (0, .ref (y 0)), (1, .int (nI a)), (2, .int (nI b))] → W p l e (rmK 5 0 0) s m [.ref (y 0), .int (nI a), .int (nI b)].toArray below meth c H locs (0) (0) (MQ below (stQ (fun v H0 H1 => v = some (.int (nI (dis B 65536).length)) ∧ fr (fun q => q = y 3 ∨ q = y 4 ∨ q = y 5) H0 H1 ∧ PP D (y 3) H1 ∧ ∃ lf tf, (∀ i x, (dis B 65536)[i]? = some x → lf i = nI x ∧ tf i = nI (cEq B x)) ∧ va_P D vwCl [(y 4, .inl (cI, 1000, .inl lf)), (y 5, .inl (cI, 1000, .inl tf))] H1)) [.ref (y 0), .int (nI a), .int (nI b)].toArray s 0 0 (fun q => q = y 3 ∨ q = y 4 ∨ q = y 5)) (F0 m 5 ls []) := by
    intro n
    induction n with
    | zero =>
      intro mm lf tf f0 f1 f2 f3 f4 f5 H locs ls hin hm6 hlt hS hP hD hl
      have hR := hR0.rd hS hRd
      have hcm := cLt_le B mm
      refine lv_iload hx hb d_R_listSymbols_5 (lv_at hl 1 rfl) ?_
      refine lv_iload_n hx hb d_R_listSymbols_7 rfl (lv_at hl 4 rfl) ?_
      refine lv_iload_n hx hb d_R_listSymbols_8 rfl (lv_at hl 3 rfl) ?_
      refine lv_isub hx hb d_R_listSymbols_9 ?_
      refine ct_topi (x' := nI (b - a)) (pk_sub hab) ?_
      refine lv_icmp_ge (tgt := 70) hx hb d_R_listSymbols_10 (by decide) (fun _ => ?_) (fun c9 => absurd (nI_le (by omega) (by omega)) c9)
      refine lv_iload_n hx hb d_R_listSymbols_70 rfl (lv_at hl 0 rfl) ?_
      have hds := dis_same hm6 (show cLt B 65536 = cLt B mm by omega)
      exact W.iret (v := nI (dis B mm).length) hx hb hr (fun t ht hW => ⟨_, rfl, by rw [ht, hds]; exact ⟨rfl, fr.of hS, ⟨_, _, _, _, _, _, hP.sub [0] rfl⟩, lf, tf, hlt, hP.sub [1, 2] rfl⟩⟩) hS.2.2 d_R_listSymbols_71
    | succ n ih =>
      intro mm lf tf f0 f1 f2 f3 f4 f5 H locs ls hin hm6 hlt hS hP hD hl
      have hR := hR0.rd hS hRd
      have hcm := cLt_le B mm
      have hdl := dis_len B mm
      rcases Nat.lt_or_ge (cLt B mm) B.length with hgo | hst
      · obtain ⟨r, hr6, hkr⟩ := kth_ex 65536 (show cLt B mm < cLt B 65536 by omega)
        obtain ⟨hm1, hm2, hm3, hm4⟩ := kth_next hkr
        have hcp : 0 < cEq B r := cEq_pos.mpr hkr.mem
        have hcl := cLt_le B (r + 1)
        refine lv_iload hx hb d_R_listSymbols_5 (lv_at hl 1 rfl) ?_
        refine lv_iload_n hx hb d_R_listSymbols_7 rfl (lv_at hl 4 rfl) ?_
        refine lv_iload_n hx hb d_R_listSymbols_8 rfl (lv_at hl 3 rfl) ?_
        refine lv_isub hx hb d_R_listSymbols_9 ?_
        refine ct_topi (x' := nI (b - a)) (pk_sub hab) ?_
        refine lv_icmp_ge (tgt := 70) hx hb d_R_listSymbols_10 (by decide) (fun c9 => absurd c9 (nI_ge (by omega) (by omega))) (fun _ => ?_)
        refine lv_aload_n hx hb d_R_listSymbols_13 rfl (lv_at hl 2 rfl) ?_
        refine va_get (D := D) (ci := 2) (v := .ref (y 4)) (C := n_R) (T := f_R) (N := 10) hx hb hts in_R hown hK hR 0 rfl rfl 7 (by decide) (hts _ x_89) (fun _ h9 => h9) rfl d_R_listSymbols_14 ?_
        refine lv_iload_n hx hb d_R_listSymbols_17 rfl (lv_at hl 0 rfl) ?_
        refine lv_aload_n hx hb d_R_listSymbols_18 rfl (lv_at hl 2 rfl) ?_
        refine lv_iload_n hx hb d_R_listSymbols_19 rfl (lv_at hl 3 rfl) ?_
        refine lv_iload_n hx hb d_R_listSymbols_20 rfl (lv_at hl 4 rfl) ?_
        refine lv_iload hx hb d_R_listSymbols_21 (lv_at hl 1 rfl) ?_
        refine cm_ret (va_runV (As := [.int (nI a), .int (nI b), .int (nI (cLt B mm))]) (rest := [.int (nI (dis B mm).length), .ref (y 4)]) ⟨hx, hb, hml, hown, hts⟩ (m_R_kthLeast hy ok0 hab hbx hB hkr) ⟨ct_cb 3 hts x_367 x_364 x_1 rfl rfl (by decide +kernel) ⟨by decide, by decide⟩, hts _ x_366, hts _ s_R_kthLeast⟩ ⟨st_blind, va_recv hK hR (ci := 2) (q0 := 0) rfl rfl, fun U hU hW => ⟨rfl, hE.at hS hAB hU hW, by rw [hU]; exact ⟨RL.fr hy hpre.1 (fr.of hS) (fun q _ h => hA3 q h), _, _, _, _, _, _, hP.sub [0] rfl⟩⟩⟩ rfl rfl hl.1 rfl (lv_room (Nat.le_of_ble_eq_true rfl)) d_R_listSymbols_23 ⟨by decide, by decide⟩) hS (fun q h => Or.inl h) (fun _ _ h => h.2.1) (fun v H locs hv hS => ?_)
        obtain ⟨rfl, hfr, u, g2, g3, g4, g5, hu, hP1⟩ := hv
        refine W.eq (g2 := F0 m 26 ls [.int (nI r), .int (nI (dis B mm).length), .ref (y 4)]) rfl ?_
        have hP : va_P D vwCl [(y 3, .inr (1, [.int (nI u), .int (nI (u + cEq B r)), .int g2, .int g3, .int g4, .int g5])), (y 4, .inl (cI, 1000, .inl (lf))), (y 5, .inl (cI, 1000, .inl (tf)))] H := va_P.wset (p := 0) hP hD rfl hP1 hfr
        have hD : va_D (fun q => q = y 3 ∨ q = y 4 ∨ q = y 5) [(y 3, .inr (1, [.int (nI u), .int (nI (u + cEq B r)), .int g2, .int g3, .int g4, .int g5])), (y 4, .inl (cI, 1000, .inl (lf))), (y 5, .inl (cI, 1000, .inl (tf)))] := va_D.set (p := 0) hD rfl
        have hR := hR0.rd hS hRd
        refine va_iast hx hb hK hP hD hS 1 0 rfl rfl (vp_in_nI (by omega) (by decide)) d_R_listSymbols_26 (fun H locs hP hD hS => ?_)
        rw [nI_clamp (by omega)] at hP hD
        have hP : va_P D vwCl [(y 3, .inr (1, [.int (nI u), .int (nI (u + cEq B r)), .int g2, .int g3, .int g4, .int g5])), (y 4, .inl (cI, 1000, .inl (upd lf (dis B mm).length (nI r)))), (y 5, .inl (cI, 1000, .inl (tf)))] H := hP
        have hD : va_D (fun q => q = y 3 ∨ q = y 4 ∨ q = y 5) [(y 3, .inr (1, [.int (nI u), .int (nI (u + cEq B r)), .int g2, .int g3, .int g4, .int g5])), (y 4, .inl (cI, 1000, .inl (upd lf (dis B mm).length (nI r)))), (y 5, .inl (cI, 1000, .inl (tf)))] := hD
        have hR := hR0.rd hS hRd
        refine lv_iconst (v := 1) hx hb d_R_listSymbols_27 (by decide) ?_
        refine lv_aload_n hx hb d_R_listSymbols_28 rfl (lv_at hl 2 rfl) ?_
        refine va_get (D := D) (ci := 2) (v := .ref (y 3)) (C := n_R) (T := f_R) (N := 10) hx hb hts in_R hown hK hR 0 rfl rfl 6 (by decide) (hts _ x_88) (fun _ h9 => h9) rfl d_R_listSymbols_29 ?_
        refine cm_read (va_runV (As := []) (rest := [.int 1]) ⟨hx, hb, hml, hown, hts⟩ (m_P_length) ⟨ct_cb 0 hts x_331 x_328 x_2 rfl rfl (by decide +kernel) ⟨by decide, by decide⟩, hts _ x_329, hts _ x_330⟩ ⟨st_blind, va_recv hK hP (ci := 1) (q0 := 0) rfl rfl, fun U hU hW => ⟨rfl, hE.at hS hAB hU hW, by rw [hU]; exact hP.sub [0] rfl⟩⟩ rfl rfl hl.1 rfl (lv_room (Nat.le_of_ble_eq_true rfl)) d_R_listSymbols_32 ⟨by decide, by decide⟩) (fun v hv => ?_)
        subst hv
        refine W.eq (g2 := F0 m 35 ls [.int (nI (u + cEq B r) - nI u), .int 1]) rfl ?_
        refine ct_topi (x' := nI (cEq B r)) (by rw [pk_sub (by omega)]; congr 1; omega) ?_
        refine lv_iload_n hx hb d_R_listSymbols_35 rfl (lv_at hl 4 rfl) ?_
        refine lv_iload_n hx hb d_R_listSymbols_36 rfl (lv_at hl 3 rfl) ?_
        refine lv_isub hx hb d_R_listSymbols_37 ?_
        refine ct_topi (x' := nI (b - a)) (pk_sub hab) ?_
        refine lv_iload hx hb d_R_listSymbols_38 (lv_at hl 1 rfl) ?_
        refine lv_isub hx hb d_R_listSymbols_40 ?_
        refine ct_topi (x' := nI (b - a - cLt B mm)) (pk_sub (by omega)) ?_
        refine va_mmin hx hb (by rw [hml]; exact hl.1.symm) hown (hts _ x_52) (hts _ x_53) (hts _ x_3) (hts _ x_54) (by decide) (Nat.le_of_ble_eq_true rfl) (by decide) (by decide) d_R_listSymbols_41 ?_
        refine ct_topi (x' := nI (cEq B r)) (minN (by omega) (by omega)) ?_
        refine va_mmax hx hb (by rw [hml]; exact hl.1.symm) hown (hts _ x_55) (hts _ x_56) (hts _ x_3) (hts _ x_57) (by decide) (Nat.le_of_ble_eq_true rfl) (by decide) (by decide) d_R_listSymbols_44 ?_
        refine ct_topi (x' := nI (cEq B r)) (max1 hcp (by omega)) ?_
        refine lv_istore (lv' := [(5, .int (nI (cEq B r))), (3, .int (nI (dis B mm).length)), (4, .int (nI (cLt B mm))), (0, .ref (y 0)), (1, .int (nI a)), (2, .int (nI b))]) hx hb d_R_listSymbols_47 hl (by decide) rfl (fun ls hl => ?_)
        refine lv_aload_n hx hb d_R_listSymbols_49 rfl (lv_at hl 3 rfl) ?_
        refine va_get (D := D) (ci := 2) (v := .ref (y 5)) (C := n_R) (T := f_R) (N := 10) hx hb hts in_R hown hK hR 0 rfl rfl 8 (by decide) (hts _ x_90) (fun _ h9 => h9) rfl d_R_listSymbols_50 ?_
        refine lv_iload_n hx hb d_R_listSymbols_53 rfl (lv_at hl 1 rfl) ?_
        refine lv_iload hx hb d_R_listSymbols_54 (lv_at hl 0 rfl) ?_
        refine va_iast hx hb hK hP hD hS 2 0 rfl rfl (vp_in_nI (by omega) (by decide)) d_R_listSymbols_56 (fun H locs hP hD hS => ?_)
        rw [nI_clamp (by omega)] at hP hD
        have hP : va_P D vwCl [(y 3, .inr (1, [.int (nI u), .int (nI (u + cEq B r)), .int g2, .int g3, .int g4, .int g5])), (y 4, .inl (cI, 1000, .inl (upd lf (dis B mm).length (nI r)))), (y 5, .inl (cI, 1000, .inl (upd tf (dis B mm).length (nI (cEq B r)))))] H := hP
        have hD : va_D (fun q => q = y 3 ∨ q = y 4 ∨ q = y 5) [(y 3, .inr (1, [.int (nI u), .int (nI (u + cEq B r)), .int g2, .int g3, .int g4, .int g5])), (y 4, .inl (cI, 1000, .inl (upd lf (dis B mm).length (nI r)))), (y 5, .inl (cI, 1000, .inl (upd tf (dis B mm).length (nI (cEq B r)))))] := hD
        have hR := hR0.rd hS hRd
        refine lv_iload hx hb d_R_listSymbols_57 (lv_at hl 2 rfl) ?_
        refine lv_iload hx hb d_R_listSymbols_59 (lv_at hl 0 rfl) ?_
        refine lv_iadd hx hb d_R_listSymbols_61 ?_
        refine ct_topi (x' := nI (cLt B (r + 1))) (by rw [hm4]; exact nI_add _ _) ?_
        refine lv_istore (lv' := [(4, .int (nI (cLt B (r + 1)))), (5, .int (nI (cEq B r))), (3, .int (nI (dis B mm).length)), (0, .ref (y 0)), (1, .int (nI a)), (2, .int (nI b))]) hx hb d_R_listSymbols_62 hl (by decide) rfl (fun ls hl => ?_)
        refine lv_iinc (v := nI (dis B (r + 1)).length) (lv' := [(3, .int (nI (dis B (r + 1)).length)), (4, .int (nI (cLt B (r + 1)))), (5, .int (nI (cEq B r))), (0, .ref (y 0)), (1, .int (nI a)), (2, .int (nI b))]) hx hb d_R_listSymbols_64 hl (k := 2) rfl (by rw [hm3, List.length_append]; exact (nI_succ _).symm) (by decide) rfl (fun ls hl => ?_)
        refine lv_goto (tgt := 5) hx hb d_R_listSymbols_67 (by decide) ?_
        refine ih (r + 1) _ _ _ _ _ _ _ _ H _ ls (by omega) (by omega) (fun i x hi => ?_) hS hP hD (lv_sub hl [0, 1, 3, 4, 5] rfl)
        rw [hm3] at hi
        rcases app_at hi with ⟨e9, rfl⟩ | ⟨e9, hi⟩
        · simp only [upd, e9, if_true, and_self]
        · simp only [upd, if_neg e9]; exact hlt i x hi
      · refine lv_iload hx hb d_R_listSymbols_5 (lv_at hl 1 rfl) ?_
        refine lv_iload_n hx hb d_R_listSymbols_7 rfl (lv_at hl 4 rfl) ?_
        refine lv_iload_n hx hb d_R_listSymbols_8 rfl (lv_at hl 3 rfl) ?_
        refine lv_isub hx hb d_R_listSymbols_9 ?_
        refine ct_topi (x' := nI (b - a)) (pk_sub hab) ?_
        refine lv_icmp_ge (tgt := 70) hx hb d_R_listSymbols_10 (by decide) (fun _ => ?_) (fun c9 => absurd (nI_le (by omega) (by omega)) c9)
        refine lv_iload_n hx hb d_R_listSymbols_70 rfl (lv_at hl 0 rfl) ?_
        have hds := dis_same hm6 (show cLt B 65536 = cLt B mm by omega)
        exact W.iret (v := nI (dis B mm).length) hx hb hr (fun t ht hW => ⟨_, rfl, by rw [ht, hds]; exact ⟨rfl, fr.of hS, ⟨_, _, _, _, _, _, hP.sub [0] rfl⟩, lf, tf, hlt, hP.sub [1, 2] rfl⟩⟩) hS.2.2 d_R_listSymbols_71
  exact loop B.length 0 lf tf f0 f1 f2 f3 f4 f5 s.heap [] ls (by omega) (by omega) (fun i x h => by simp [dis_0] at h) hS hP hD (by rw [cLt_0]; exact (lv_sub hl [1, 0, 2, 3, 4] rfl))
set_option maxHeartbeats 4000000 in
set_option maxRecDepth 100000 in
theorem m_R_countAhead {l : Launch} {D : va_G} {cI cJ cS cO : ClassId} {B0 : Nat} {y : Nat → Nat} {sg d : Nat} {xs ws : List Nat} (hy : yI B0 y d) (ok0 : Ok sg d xs ws) {T : List Nat} (hT : T.length ≤ 1000) (hT2 : ∀ x ∈ T, x ≤ 1000) {tf g : Nat → Int32} (htf : ∀ i x, T[i]? = some x → tf i = nI x) : CM l D (tyL cI cJ cS cO) B0 y_R_countAhead c_R_countAhead 5 none (rmK 5 0 0) [.ref (y 0), .int (nI T.length)] (fun H => RL D cJ cS cO y sg d xs ws.length H ∧ va_P D vwCl [(y 5, .inl (cI, 1000, .inl tf))] H ∧ va_P D vwCl [(y 6, .inl (cI, 1001, .inl g))] H) (fun v H0 H1 => v = none ∧ fr (fun q => q = y 6) H0 H1 ∧ ∃ g, (∀ t, t ≤ 1000 → g t = nI (cGe T (t + 1))) ∧ va_P D vwCl [(y 6, .inl (cI, 1001, .inl g))] H1) 0 0 (fun q => q = y 6) := by
  refine cm_of (by decide) (Nat.le_of_ble_eq_true rfl) ?_
  intro p e s m below meth c ls hx hb hr hml hown hts hlocks hnm hE hpre hl
  have hown : s.vm.findClass "LevelRows" = some m.cls := hown
  have hK := hE.1
  have hl : lv_has ls 5 [(0, .ref (y 0)), (1, .int (nI T.length))] := hl
  have hS : va_S (fun q => q = y 6) s.heap s.heap [] := va_S.rf
  have hR0 := hpre.1.1
  have hF0 := hpre.2.1
  have hRd : ∀ (k : Nat) (q : Nat × va_E), (Rw cO y (nI sg) d (nI xs.length) (nI ws.length))[k]? = some q → ¬ q.1 = y 6 := Rw.off hy (by omega) (by omega)
  have hFd : ∀ (k : Nat) (q : Nat × va_E), ([(y 5, .inl (cI, 1000, .inl tf))] : va_W)[k]? = some q → ¬ q.1 = y 6 := by
    intro k q hk
    match k, hk with
    | 0, hk => cases hk; exact hy.ne (by omega) (by omega) (by omega)
    | k + 1, hk => simp at hk
  have hR := hR0
  have hF := hF0
  have hAB : ∀ q : Nat, q = y 6 → B0 ≤ q := fun q h => by rw [h]; exact hy.2 6 (by omega)
  have hP : va_P D vwCl [(y 6, .inl (cI, 1001, .inl (g)))] s.heap := hpre.2.2
  refine lv_aload_n hx hb d_R_countAhead_0 rfl (lv_at hl 0 rfl) ?_
  refine va_get (D := D) (ci := 2) (v := .ref (y 6)) (C := n_R) (T := f_R) (N := 10) hx hb hts in_R hown hK hR 0 rfl rfl 9 (by decide) (hts _ x_91) (fun _ h9 => h9) rfl d_R_countAhead_1 ?_
  refine lv_iconst (v := 0) hx hb d_R_countAhead_4 (by decide) ?_
  refine cm_ret (va_runS (As := [.ref (y 6), .int 0]) (rest := []) ⟨hx, hb, hml, hown, hts⟩ (m_A_fillI (N := 1001) (g := g) (by decide) 0) ⟨ct_cb 2 hts x_421 x_419 x_14 rfl rfl (by decide +kernel) ⟨by decide, by decide⟩, hts _ x_420⟩ ⟨st_blind, fun U hU hW => ⟨rfl, hE.at hS hAB hU hW, by rw [hU]; exact hP⟩⟩ rfl rfl hl.1 rfl (lv_room (Nat.le_of_ble_eq_true rfl)) d_R_countAhead_5 ⟨by decide, by decide⟩) hS (fun q h => h) (fun _ _ h => h.2.1) (fun v H locs hv hS => ?_)
  obtain ⟨rfl, hfr, g9, hg, hP⟩ := hv
  refine W.eq (g2 := F0 m 8 ls []) rfl ?_
  have hP : va_P D vwCl [(y 6, .inl (cI, 1001, .inl (g9)))] H := hP
  have hD : va_D (fun q => q = y 6) [(y 6, .inl (cI, 1001, .inl (g9)))] := va_D.one rfl
  have hR := hR0.rd hS hRd
  have hF := hF0.rd hS hFd
  refine lv_iconst (v := 0) hx hb d_R_countAhead_8 (by decide) ?_
  refine lv_istore_n (lv' := [(2, .int 0), (0, .ref (y 0)), (1, .int (nI T.length))]) hx hb d_R_countAhead_9 rfl hl (by decide) rfl (fun ls hl => ?_)
  have loop2 : ∀ (n : Nat) (g : Nat → Int32) (H : Heap) (locs : List Loc) (ls : Array Slot), (n ≤ 1001) → (∀ t, t < n → g t = nI (cEq T t)) → (∀ t, n ≤ t → t ≤ 1000 → g t = nI (cGe T (t + 1))) → va_S (fun q => q = y 6) s.heap H locs → va_P D vwCl [(y 6, .inl (cI, 1001, .inl (g)))] H → va_D (fun q => q = y 6) [(y 6, .inl (cI, 1001, .inl (g)))] → lv_has ls 5 [(3, .int (nI n - 1)), (2, .int (nI (cGe T n))), (0, .ref (y 0)), (1, .int (nI T.length))] → W p l e (rmK 5 0 0) s m [.ref (y 0), .int (nI T.length)].toArray below meth c H locs (0) (0) (MQ below (stQ (fun v H0 H1 => v = none ∧ fr (fun q => q = y 6) H0 H1 ∧ ∃ g, (∀ t, t ≤ 1000 → g t = nI (cGe T (t + 1))) ∧ va_P D vwCl [(y 6, .inl (cI, 1001, .inl g))] H1)) [.ref (y 0), .int (nI T.length)].toArray s 0 0 (fun q => q = y 6)) (F0 m 42 ls []) := by
    intro n
    induction n with
    | zero =>
      intro g H locs ls hn1 h1 h2 hS hP hD hl
      have hR := hR0.rd hS hRd
      have hF := hF0.rd hS hFd
      refine lv_iload_n hx hb d_R_countAhead_42 rfl (lv_at hl 0 rfl) ?_
      refine lv_if_lt (tgt := 72) hx hb d_R_countAhead_43 (by decide) (fun _ => ?_) (fun c9 => absurd (by decide) c9)
      exact W.vret hx hb hr (fun t ht hW => ⟨_, rfl, by rw [ht]; exact ⟨rfl, fr.of hS, _, (fun t h9 => h2 t (Nat.zero_le t) h9), hP⟩⟩) hS.2.2 d_R_countAhead_72
    | succ n ih =>
      intro g H locs ls hn1 h1 h2 hS hP hD hl
      have hR := hR0.rd hS hRd
      have hF := hF0.rd hS hFd
      rw [show nI (n + 1) - 1 = nI n from nI_pred n] at hl
      refine lv_iload_n hx hb d_R_countAhead_42 rfl (lv_at hl 0 rfl) ?_
      refine lv_if_lt (tgt := 72) hx hb d_R_countAhead_43 (by decide) (fun c9 => absurd c9 (nI_pos (by omega))) (fun _ => ?_)
      refine lv_aload_n hx hb d_R_countAhead_46 rfl (lv_at hl 2 rfl) ?_
      refine va_get (D := D) (ci := 2) (v := .ref (y 6)) (C := n_R) (T := f_R) (N := 10) hx hb hts in_R hown hK hR 0 rfl rfl 9 (by decide) (hts _ x_91) (fun _ h9 => h9) rfl d_R_countAhead_47 ?_
      refine lv_iload_n hx hb d_R_countAhead_50 rfl (lv_at hl 0 rfl) ?_
      refine va_iald hx hb hK hP 0 0 rfl rfl (vp_in_nI (by omega) (by decide)) d_R_countAhead_51 ?_
      refine ct_topi (x' := nI (cEq T n)) (by rw [nI_clamp (by omega)]; exact h1 n (by omega)) ?_
      refine lv_istore (lv' := [(4, .int (nI (cEq T n))), (3, .int (nI n)), (2, .int (nI (cGe T (n + 1)))), (0, .ref (y 0)), (1, .int (nI T.length))]) hx hb d_R_countAhead_52 hl (by decide) rfl (fun ls hl => ?_)
      refine lv_aload_n hx hb d_R_countAhead_54 rfl (lv_at hl 3 rfl) ?_
      refine va_get (D := D) (ci := 2) (v := .ref (y 6)) (C := n_R) (T := f_R) (N := 10) hx hb hts in_R hown hK hR 0 rfl rfl 9 (by decide) (hts _ x_91) (fun _ h9 => h9) rfl d_R_countAhead_55 ?_
      refine lv_iload_n hx hb d_R_countAhead_58 rfl (lv_at hl 1 rfl) ?_
      refine lv_iload_n hx hb d_R_countAhead_59 rfl (lv_at hl 2 rfl) ?_
      refine va_iast hx hb hK hP hD hS 0 0 rfl rfl (vp_in_nI (by omega) (by decide)) d_R_countAhead_60 (fun H locs hP hD hS => ?_)
      rw [nI_clamp (by omega)] at hP hD
      have hP : va_P D vwCl [(y 6, .inl (cI, 1001, .inl (upd g n (nI (cGe T (n + 1))))))] H := hP
      have hD : va_D (fun q => q = y 6) [(y 6, .inl (cI, 1001, .inl (upd g n (nI (cGe T (n + 1))))))] := hD
      have hR := hR0.rd hS hRd
      have hF := hF0.rd hS hFd
      refine lv_iload_n hx hb d_R_countAhead_61 rfl (lv_at hl 2 rfl) ?_
      refine lv_iload hx hb d_R_countAhead_62 (lv_at hl 0 rfl) ?_
      refine lv_iadd hx hb d_R_countAhead_64 ?_
      refine ct_topi (x' := nI (cGe T n)) (by rw [cGe_step T n]; exact nI_add _ _) ?_
      refine lv_istore_n (lv' := [(2, .int (nI (cGe T n))), (4, .int (nI (cEq T n))), (3, .int (nI n)), (0, .ref (y 0)), (1, .int (nI T.length))]) hx hb d_R_countAhead_65 rfl hl (by decide) rfl (fun ls hl => ?_)
      refine lv_iinc (v := nI n - 1) (lv' := [(3, .int (nI n - 1)), (2, .int (nI (cGe T n))), (4, .int (nI (cEq T n))), (0, .ref (y 0)), (1, .int (nI T.length))]) hx hb d_R_countAhead_66 hl (k := 2) rfl (by rw [Int32.sub_eq_add_neg]; rfl) (by decide) rfl (fun ls hl => ?_)
      refine lv_goto (tgt := 42) hx hb d_R_countAhead_69 (by decide) ?_
      refine ih _ H _ ls (by omega) (fun t h9 => ?_) (fun t h8 h9 => ?_) hS hP hD (lv_sub hl [0, 1, 3, 4] rfl)
      · have e9 : t ≠ n := by omega
        simp only [upd, if_neg e9]; exact h1 t (by omega)
      · by_cases e9 : t = n
        · simp only [upd, e9, if_true]
        · simp only [upd, if_neg e9]; exact h2 t (by omega) h9
  have loop : ∀ (n : Nat) (i : Nat) (g : Nat → Int32) (H : Heap) (locs : List Loc) (ls : Array Slot), (i + n = T.length) → (∀ t, t < 1001 → g t = nI (cEq (T.take i) t)) → va_S (fun q => q = y 6) s.heap H locs → va_P D vwCl [(y 6, .inl (cI, 1001, .inl (g)))] H → va_D (fun q => q = y 6) [(y 6, .inl (cI, 1001, .inl (g)))] → lv_has ls 5 [(2, .int (nI i)), (0, .ref (y 0)), (1, .int (nI T.length))] → W p l e (rmK 5 0 0) s m [.ref (y 0), .int (nI T.length)].toArray below meth c H locs (0) (0) (MQ below (stQ (fun v H0 H1 => v = none ∧ fr (fun q => q = y 6) H0 H1 ∧ ∃ g, (∀ t, t ≤ 1000 → g t = nI (cGe T (t + 1))) ∧ va_P D vwCl [(y 6, .inl (cI, 1001, .inl g))] H1)) [.ref (y 0), .int (nI T.length)].toArray s 0 0 (fun q => q = y 6)) (F0 m 10 ls []) := by
    intro n
    induction n with
    | zero =>
      intro i g H locs ls hin hg1 hS hP hD hl
      have hR := hR0.rd hS hRd
      have hF := hF0.rd hS hFd
      have hiT : i = T.length := by omega
      refine lv_iload_n hx hb d_R_countAhead_10 rfl (lv_at hl 0 rfl) ?_
      refine lv_iload_n hx hb d_R_countAhead_11 rfl (lv_at hl 2 rfl) ?_
      refine lv_icmp_ge (tgt := 36) hx hb d_R_countAhead_12 (by decide) (fun _ => ?_) (fun c9 => absurd (nI_le (by omega) (by omega)) c9)
      refine lv_iconst (v := 0) hx hb d_R_countAhead_36 (by decide) ?_
      refine lv_istore_n (lv' := [(2, .int 0), (0, .ref (y 0)), (1, .int (nI T.length))]) hx hb d_R_countAhead_37 rfl hl (by decide) rfl (fun ls hl => ?_)
      refine lv_sipush (v := 1000) hx hb d_R_countAhead_38 (by decide) ?_
      refine lv_istore_n (lv' := [(3, .int 1000), (2, .int 0), (0, .ref (y 0)), (1, .int (nI T.length))]) hx hb d_R_countAhead_41 rfl hl (by decide) rfl (fun ls hl => ?_)
      refine loop2 1001 g H _ ls (by omega) (fun t h9 => ?_) (fun t h8 h9 => by omega) hS hP hD (by rw [cGe_all (fun x h => Nat.lt_succ_of_le (hT2 x h))]; exact (lv_sub hl [0, 1, 2, 3] rfl))
      rw [hg1 t (by omega), hiT, List.take_length]
    | succ n ih =>
      intro i g H locs ls hin hg1 hS hP hD hl
      have hR := hR0.rd hS hRd
      have hF := hF0.rd hS hFd
      obtain ⟨x, hxi⟩ : ∃ x, T[i]? = some x := ⟨T[i], List.getElem?_eq_getElem (by omega)⟩
      have hx2 := hT2 x (List.mem_of_getElem? hxi)
      refine lv_iload_n hx hb d_R_countAhead_10 rfl (lv_at hl 0 rfl) ?_
      refine lv_iload_n hx hb d_R_countAhead_11 rfl (lv_at hl 2 rfl) ?_
      refine lv_icmp_ge (tgt := 36) hx hb d_R_countAhead_12 (by decide) (fun c9 => absurd c9 (nI_ge (by omega) (by omega))) (fun _ => ?_)
      refine lv_aload_n hx hb d_R_countAhead_15 rfl (lv_at hl 1 rfl) ?_
      refine va_get (D := D) (ci := 2) (v := .ref (y 6)) (C := n_R) (T := f_R) (N := 10) hx hb hts in_R hown hK hR 0 rfl rfl 9 (by decide) (hts _ x_91) (fun _ h9 => h9) rfl d_R_countAhead_16 ?_
      refine lv_aload_n hx hb d_R_countAhead_19 rfl (lv_at hl 1 rfl) ?_
      refine va_get (D := D) (ci := 2) (v := .ref (y 5)) (C := n_R) (T := f_R) (N := 10) hx hb hts in_R hown hK hR 0 rfl rfl 8 (by decide) (hts _ x_90) (fun _ h9 => h9) rfl d_R_countAhead_20 ?_
      refine lv_iload_n hx hb d_R_countAhead_23 rfl (lv_at hl 0 rfl) ?_
      refine va_iald hx hb hK hF 0 0 rfl rfl (vp_in_nI (by omega) (by decide)) d_R_countAhead_24 ?_
      refine ct_topi (x' := nI x) (by rw [nI_clamp (by omega)]; exact htf i x hxi) ?_
      refine lv_dup2_11 hx hb d_R_countAhead_25 rfl rfl ?_
      refine va_iald hx hb hK hP 0 0 rfl rfl (vp_in_nI (by omega) (by decide)) d_R_countAhead_26 ?_
      refine ct_topi (x' := nI (cEq (T.take i) x)) (by rw [nI_clamp (by omega)]; exact hg1 x (by omega)) ?_
      refine lv_iconst (v := 1) hx hb d_R_countAhead_27 (by decide) ?_
      refine lv_iadd hx hb d_R_countAhead_28 ?_
      refine ct_topi (x' := nI (cEq (T.take i) x + 1)) ((nI_succ _).symm) ?_
      refine va_iast hx hb hK hP hD hS 0 0 rfl rfl (vp_in_nI (by omega) (by decide)) d_R_countAhead_29 (fun H locs hP hD hS => ?_)
      rw [nI_clamp (by omega)] at hP hD
      have hP : va_P D vwCl [(y 6, .inl (cI, 1001, .inl (upd g x (nI (cEq (T.take i) x + 1)))))] H := hP
      have hD : va_D (fun q => q = y 6) [(y 6, .inl (cI, 1001, .inl (upd g x (nI (cEq (T.take i) x + 1)))))] := hD
      have hR := hR0.rd hS hRd
      have hF := hF0.rd hS hFd
      refine lv_iinc (v := nI (i + 1)) (lv' := [(2, .int (nI (i + 1))), (0, .ref (y 0)), (1, .int (nI T.length))]) hx hb d_R_countAhead_30 hl (k := 0) rfl ((nI_succ i).symm) (by decide) rfl (fun ls hl => ?_)
      refine lv_goto (tgt := 10) hx hb d_R_countAhead_33 (by decide) ?_
      refine ih (i + 1) _ H _ ls (by omega) (fun t h9 => ?_) hS hP hD (lv_sub hl [0, 1, 2] rfl)
      rw [cEq_take hxi t]
      by_cases e9 : t = x
      · subst e9; simp only [upd, if_true]
      · have e8 : ¬ x = t := fun h => e9 h.symm
        simp only [upd, if_neg e9, if_neg e8, Nat.add_zero]; exact hg1 t h9
  exact loop T.length 0 g9 H _ ls (by omega) (fun t h9 => by rw [hg t h9]; rfl) hS hP hD (lv_sub hl [0, 1, 2] rfl)
set_option maxHeartbeats 4000000 in
set_option maxRecDepth 100000 in
theorem m_R_shiftOfG {l : Launch} {D : va_G} {cI cJ cS cO : ClassId} {B0 : Nat} {y : Nat → Nat} {d i : Nat} {sg bu wa : Int32} (hi : i < d) (hd : d ≤ 16) : CM l D (tyL cI cJ cS cO) B0 y_R_shiftOf c_R_shiftOf 2 (some .int) (rmK 0 0 0) [.ref (y 0), .int (nI i)] (fun H => va_P D vwCl (Rw cO y sg d bu wa) H) (fun v H0 H1 => v = some (.int (nI (d - 1 - i))) ∧ H1 = H0) 0 0 (fun _ => False) := by
  refine cm_of (by decide) (Nat.le_of_ble_eq_true rfl) ?_
  intro p e s m below meth c ls hx hb hr hml hown hts hlocks hnm hE hpre hl
  have hown : s.vm.findClass "LevelRows" = some m.cls := hown
  have hK := hE.1
  have hl : lv_has ls 2 [(0, .ref (y 0)), (1, .int (nI i))] := hl
  have hP : va_P D vwCl [(y 0, .inr (2, [.int sg, .ref (y 7), .int bu, .int wa, .ref (y 1), .ref (y 2), .ref (y 3), .ref (y 4), .ref (y 5), .ref (y 6)])), (y 7, .inl (cO, d, .inr (.inr (.inr (.inr (fun i => some (y (8 + 3 * i))))))))] s.heap := hpre
  refine lv_aload_n hx hb d_R_shiftOf_0 rfl (lv_at hl 0 rfl) ?_
  refine va_get (D := D) (ci := 2) (v := .ref (y 7)) (C := n_R) (T := f_R) (N := 10) hx hb hts in_R hown hK hP 0 rfl rfl 1 (by decide) (hts _ x_83) (fun _ h9 => h9) rfl d_R_shiftOf_1 ?_
  refine va_alen hx hb hK hP 1 3 rfl rfl (v := nI (d)) rfl d_R_shiftOf_4 ?_
  refine lv_iconst (v := 1) hx hb d_R_shiftOf_5 (by decide) ?_
  refine lv_isub hx hb d_R_shiftOf_6 ?_
  refine ct_topi (x' := nI (d - 1)) (pk_sub (b := 1) (by omega)) ?_
  refine lv_iload_n hx hb d_R_shiftOf_7 rfl (lv_at hl 1 rfl) ?_
  refine lv_isub hx hb d_R_shiftOf_8 ?_
  refine ct_topi (x' := nI (d - 1 - i)) (pk_sub (by omega)) ?_
  exact W.iret (v := nI (d - 1 - i)) hx hb hr (fun t ht hW => ⟨_, rfl, rfl, ht⟩) (fun _ h => nomatch h) d_R_shiftOf_9
set_option maxHeartbeats 4000000 in
set_option maxRecDepth 100000 in
theorem m_R_storeLevels {l : Launch} {D : va_G} {cI cJ cS cO : ClassId} {B0 : Nat} {y : Nat → Nat} {d : Nat} {sg wa : Int32} {xs : List Nat} (hy : yI B0 y d) (hd16 : d ≤ 16) (hx9 : xs.length ≤ 1000) (hx6 : ∀ x ∈ xs, x < 65536) {rf sf : Nat → Int32} (hrf : ∀ i x, xs[i]? = some x → rf i = nI x) : CM l D (tyL cI cJ cS cO) B0 y_R_storeLevels c_R_storeLevels 2 none (rmK 4 0 0) [.ref (y 0)] (fun H => va_P D vwCl (Rw cO y sg d (nI xs.length) wa) H ∧ va_P D vwCl [(y 1, .inl (cI, 1000, .inl rf)), (y 2, .inl (cI, 1000, .inl sf))] H ∧ ∀ k, k < d → ∃ ja oa z, va_P D vwCl (Lw cJ cS (y (8 + 3 * k)) (y (9 + 3 * k)) (y (10 + 3 * k)) ja oa z) H) (fun v H0 H1 => v = none ∧ fr (fun q => q = y 1 ∨ q = y 2 ∨ ∃ i, 8 ≤ i ∧ i < 8 + 3 * d ∧ q = y i) H0 H1 ∧ (∀ k, k < d → Lk D cJ cS y d xs k H1) ∧ ∃ rf sf, va_P D vwCl [(y 1, .inl (cI, 1000, .inl rf)), (y 2, .inl (cI, 1000, .inl sf))] H1) 0 0 (fun q => q = y 1 ∨ q = y 2 ∨ ∃ i, 8 ≤ i ∧ i < 8 + 3 * d ∧ q = y i) := by
  refine cm_of (by decide) (Nat.le_of_ble_eq_true rfl) ?_
  intro p e s m below meth c ls hx hb hr hml hown hts hlocks hnm hE hpre hl
  have hown : s.vm.findClass "LevelRows" = some m.cls := hown
  have hK := hE.1
  have hl : lv_has ls 2 [(0, .ref (y 0))] := hl
  have hS : va_S (fun q => q = y 1 ∨ q = y 2 ∨ ∃ i, 8 ≤ i ∧ i < 8 + 3 * d ∧ q = y i) s.heap s.heap [] := va_S.rf
  have hR0 := hpre.1
  have hRd : ∀ (k : Nat) (q : Nat × va_E), (Rw cO y sg d (nI xs.length) wa)[k]? = some q → ¬ (q.1 = y 1 ∨ q.1 = y 2 ∨ ∃ i, 8 ≤ i ∧ i < 8 + 3 * d ∧ q.1 = y i) := by
    rintro k q hk (h | h | ⟨i, h1, h2, h⟩)
    · exact Rw.off hy (by omega) (by omega) k q hk h
    · exact Rw.off hy (by omega) (by omega) k q hk h
    · match k, hk with
      | 0, hk => cases hk; exact hy.ne (by omega) h2 (by omega) h
      | 1, hk => cases hk; exact hy.ne (by omega) h2 (by omega) h
      | k + 2, hk => simp at hk
  have hR := hR0
  have hAB : ∀ q : Nat, (q = y 1 ∨ q = y 2 ∨ ∃ i, 8 ≤ i ∧ i < 8 + 3 * d ∧ q = y i) → B0 ≤ q := by
    rintro q (rfl | rfl | ⟨i, h1, h2, rfl⟩)
    · exact hy.2 _ (by omega)
    · exact hy.2 _ (by omega)
    · exact hy.2 _ h2
  have hP : va_P D vwCl [(y 1, .inl (cI, 1000, .inl (rf))), (y 2, .inl (cI, 1000, .inl (sf)))] s.heap := hpre.2.1
  have hD : va_D (fun q => q = y 1 ∨ q = y 2 ∨ ∃ i, 8 ≤ i ∧ i < 8 + 3 * d ∧ q = y i) [(y 1, .inl (cI, 1000, .inl (rf))), (y 2, .inl (cI, 1000, .inl (sf)))] := va_D.two (hy.ne (by omega) (by omega) (by omega)) (Or.inl rfl) (Or.inr (Or.inl rfl))
  refine lv_iconst (v := 0) hx hb d_R_storeLevels_0 (by decide) ?_
  refine lv_istore_n (lv' := [(1, .int 0), (0, .ref (y 0))]) hx hb d_R_storeLevels_1 rfl hl (by decide) rfl (fun ls hl => ?_)
  have loop : ∀ (n : Nat) (i : Nat) (rf : Nat → Int32) (sf : Nat → Int32) (H : Heap) (locs : List Loc) (ls : Array Slot), (i + n = d) → (∀ j x, (wL d xs i)[j]? = some x → rf j = nI x) → (∀ k, k < i → Lk D cJ cS y d xs k H) → (∀ k, i ≤ k → k < d → ∃ ja oa z, va_P D vwCl (Lw cJ cS (y (8 + 3 * k)) (y (9 + 3 * k)) (y (10 + 3 * k)) ja oa z) H) → va_S (fun q => q = y 1 ∨ q = y 2 ∨ ∃ i, 8 ≤ i ∧ i < 8 + 3 * d ∧ q = y i) s.heap H locs → va_P D vwCl [(y 1, .inl (cI, 1000, .inl (rf))), (y 2, .inl (cI, 1000, .inl (sf)))] H → va_D (fun q => q = y 1 ∨ q = y 2 ∨ ∃ i, 8 ≤ i ∧ i < 8 + 3 * d ∧ q = y i) [(y 1, .inl (cI, 1000, .inl (rf))), (y 2, .inl (cI, 1000, .inl (sf)))] → lv_has ls 2 [(1, .int (nI i)), (0, .ref (y 0))] → W p l e (rmK 4 0 0) s m [.ref (y 0)].toArray below meth c H locs (0) (0) (MQ below (stQ (fun v H0 H1 => v = none ∧ fr (fun q => q = y 1 ∨ q = y 2 ∨ ∃ i, 8 ≤ i ∧ i < 8 + 3 * d ∧ q = y i) H0 H1 ∧ (∀ k, k < d → Lk D cJ cS y d xs k H1) ∧ ∃ rf sf, va_P D vwCl [(y 1, .inl (cI, 1000, .inl rf)), (y 2, .inl (cI, 1000, .inl sf))] H1)) [.ref (y 0)].toArray s 0 0 (fun q => q = y 1 ∨ q = y 2 ∨ ∃ i, 8 ≤ i ∧ i < 8 + 3 * d ∧ q = y i)) (F0 m 2 ls []) := by
    intro n
    induction n with
    | zero =>
      intro i rf sf H locs ls hin hrf h2 h3 hS hP hD hl
      have hR := hR0.rd hS hRd
      have hid : i = d := by omega
      refine lv_iload_n hx hb d_R_storeLevels_2 rfl (lv_at hl 0 rfl) ?_
      refine lv_aload_n hx hb d_R_storeLevels_3 rfl (lv_at hl 1 rfl) ?_
      refine va_get (D := D) (ci := 2) (v := .ref (y 7)) (C := n_R) (T := f_R) (N := 10) hx hb hts in_R hown hK hR 0 rfl rfl 1 (by decide) (hts _ x_83) (fun _ h9 => h9) rfl d_R_storeLevels_4 ?_
      refine va_alen hx hb hK hR 1 3 rfl rfl (v := nI (d)) rfl d_R_storeLevels_7 ?_
      refine lv_icmp_ge (tgt := 43) hx hb d_R_storeLevels_8 (by decide) (fun _ => ?_) (fun c9 => absurd (nI_le (by omega) (by omega)) c9)
      subst hid
      exact W.vret hx hb hr (fun t ht hW => ⟨_, rfl, by rw [ht]; exact ⟨rfl, fr.of hS, h2, rf, sf, hP⟩⟩) hS.2.2 d_R_storeLevels_43
    | succ n ih =>
      intro i rf sf H locs ls hin hrf h2 h3 hS hP hD hl
      have hR := hR0.rd hS hRd
      have hid : i < d := by omega
      obtain ⟨ja, oa, z, hL⟩ := h3 i (Nat.le_refl i) hid
      have hlen := wL_len d xs i
      refine lv_iload_n hx hb d_R_storeLevels_2 rfl (lv_at hl 0 rfl) ?_
      refine lv_aload_n hx hb d_R_storeLevels_3 rfl (lv_at hl 1 rfl) ?_
      refine va_get (D := D) (ci := 2) (v := .ref (y 7)) (C := n_R) (T := f_R) (N := 10) hx hb hts in_R hown hK hR 0 rfl rfl 1 (by decide) (hts _ x_83) (fun _ h9 => h9) rfl d_R_storeLevels_4 ?_
      refine va_alen hx hb hK hR 1 3 rfl rfl (v := nI (d)) rfl d_R_storeLevels_7 ?_
      refine lv_icmp_ge (tgt := 43) hx hb d_R_storeLevels_8 (by decide) (fun c9 => absurd c9 (nI_ge (by omega) (by omega))) (fun _ => ?_)
      refine lv_aload_n hx hb d_R_storeLevels_11 rfl (lv_at hl 1 rfl) ?_
      refine va_get (D := D) (ci := 2) (v := .ref (y 7)) (C := n_R) (T := f_R) (N := 10) hx hb hts in_R hown hK hR 0 rfl rfl 1 (by decide) (hts _ x_83) (fun _ h9 => h9) rfl d_R_storeLevels_12 ?_
      refine lv_iload_n hx hb d_R_storeLevels_15 rfl (lv_at hl 0 rfl) ?_
      refine va_aldq hx hb hK hR 1 3 rfl rfl (vp_in_nI (by omega) (by omega)) d_R_storeLevels_16 ?_
      refine ct_topv (v' := .ref (y (8 + 3 * i))) (congrArg (fun j => Value.ref (y (8 + 3 * j))) (nI_clamp (by omega))) ?_
      refine lv_aload_n hx hb d_R_storeLevels_17 rfl (lv_at hl 1 rfl) ?_
      refine va_get (D := D) (ci := 2) (v := .ref (y 1)) (C := n_R) (T := f_R) (N := 10) hx hb hts in_R hown hK hR 0 rfl rfl 4 (by decide) (hts _ x_86) (fun _ h9 => h9) rfl d_R_storeLevels_18 ?_
      refine lv_aload_n hx hb d_R_storeLevels_21 rfl (lv_at hl 1 rfl) ?_
      refine va_get (D := D) (ci := 2) (v := .int (nI xs.length)) (C := n_R) (T := f_R) (N := 10) hx hb hts in_R hown hK hR 0 rfl rfl 2 (by decide) (hts _ x_84) (fun _ h9 => h9) rfl d_R_storeLevels_22 ?_
      refine lv_aload_n hx hb d_R_storeLevels_25 rfl (lv_at hl 1 rfl) ?_
      refine lv_iload_n hx hb d_R_storeLevels_26 rfl (lv_at hl 0 rfl) ?_
      refine cm_read (va_runV (As := [.int (nI i)]) (rest := [.int (nI xs.length), .ref (y 1), .ref (y (8 + 3 * i))]) ⟨hx, hb, hml, hown, hts⟩ (m_R_shiftOfG hid hd16) ⟨ct_cb 1 hts x_151 x_148 x_1 rfl rfl (by decide +kernel) ⟨by decide, by decide⟩, hts _ x_150, hts _ s_R_shiftOf⟩ ⟨st_blind, va_recv hK hR (ci := 2) (q0 := 0) rfl rfl, fun U hU hW => ⟨rfl, hE.at hS hAB hU hW, by rw [hU]; exact hR⟩⟩ rfl rfl hl.1 rfl (lv_room (Nat.le_of_ble_eq_true rfl)) d_R_storeLevels_27 ⟨by decide, by decide⟩) (fun v hv => ?_)
      subst hv
      refine W.eq (g2 := F0 m 30 ls [.int (nI (d - 1 - i)), .int (nI xs.length), .ref (y 1), .ref (y (8 + 3 * i))]) rfl ?_
      refine lv_aload_n hx hb d_R_storeLevels_30 rfl (lv_at hl 1 rfl) ?_
      refine va_get (D := D) (ci := 2) (v := .ref (y 2)) (C := n_R) (T := f_R) (N := 10) hx hb hts in_R hown hK hR 0 rfl rfl 5 (by decide) (hts _ x_87) (fun _ h9 => h9) rfl d_R_storeLevels_31 ?_
      rw [← hlen]
      refine W.eq (g2 := F0 m 34 ls [.ref (y 2), .int (nI (d - 1 - i)), .int (nI (wL d xs i).length), .ref (y 1), .ref (y (8 + 3 * i))]) rfl ?_
      have hD5 : ∀ (e0 e1 e2 e3 e4 : va_E), va_D (fun q => q = y (8 + 3 * i) ∨ q = y (9 + 3 * i) ∨ q = y (10 + 3 * i) ∨ q = y 1 ∨ q = y 2) [(y (8 + 3 * i), e0), (y (9 + 3 * i), e1), (y (10 + 3 * i), e2), (y 1, e3), (y 2, e4)] := fun e0 e1 e2 e3 e4 => va_D.five hy hid (fun j hj => by rcases hj with rfl | rfl | rfl | rfl | rfl <;> simp)
      have hA5 : ∀ q : Nat, (q = y (8 + 3 * i) ∨ q = y (9 + 3 * i) ∨ q = y (10 + 3 * i) ∨ q = y 1 ∨ q = y 2) → (q = y 1 ∨ q = y 2 ∨ ∃ i, 8 ≤ i ∧ i < 8 + 3 * d ∧ q = y i) := by
        rintro q (h | h | h | h | h)
        · exact Or.inr (Or.inr ⟨_, by omega, by omega, h⟩)
        · exact Or.inr (Or.inr ⟨_, by omega, by omega, h⟩)
        · exact Or.inr (Or.inr ⟨_, by omega, by omega, h⟩)
        · exact Or.inl h
        · exact Or.inr (Or.inl h)
      refine cm_ret (va_runV (As := [.ref (y 1), .int (nI (wL d xs i).length), .int (nI (d - 1 - i)), .ref (y 2)]) (rest := []) ⟨hx, hb, hml, hown, hts⟩ (m_L_store (t := wt d i) (L := wL d xs i) (sh := d - 1 - i) (by omega) (fun _ => rfl) (by rw [hlen]; exact hx9) (fun x h => hx6 x ((wL_mem i).mp h)) hrf (hD5 _ _ _ _ _) (by rintro q (rfl | rfl | rfl | rfl | rfl) <;> exact hy.2 _ (by omega))) ⟨ct_cb 4 hts x_155 x_152 x_5 rfl rfl (by decide +kernel) ⟨by decide, by decide⟩, hts _ x_153, hts _ x_154⟩ ⟨st_blind, va_recv hK hL (ci := 0) (q0 := 0) rfl rfl, fun U hU hW => ⟨rfl, hE.at hS hAB hU hW, by rw [hU]; exact hL.app hP⟩⟩ rfl rfl hl.1 rfl (lv_room (Nat.le_of_ble_eq_true rfl)) d_R_storeLevels_34 ⟨by decide, by decide⟩) hS (hA5) (fun _ _ h => h.2.1) (fun v H locs hv hS => ?_)
      obtain ⟨rfl, hfr, ja2, oa2, rf2, sf2, hok, hrf2, hP5⟩ := hv
      refine W.eq (g2 := F0 m 37 ls []) rfl ?_
      refine lv_iinc (v := nI (i + 1)) (lv' := [(1, .int (nI (i + 1))), (0, .ref (y 0))]) hx hb d_R_storeLevels_37 hl (k := 0) rfl ((nI_succ i).symm) (by decide) rfl (fun ls hl => ?_)
      refine lv_goto (tgt := 2) hx hb d_R_storeLevels_40 (by decide) ?_
      refine ih (i + 1) rf2 sf2 H _ ls (by omega) hrf2 (fun k hk => ?_) (fun k hk1 hk2 => ?_) hS (hP5.sub [3, 4] rfl) (va_D.two (hy.ne (by omega) (by omega) (by omega)) (Or.inl rfl) (Or.inr (Or.inl rfl))) (lv_sub hl [0, 1] rfl)
      · by_cases e9 : k = i
        · subst e9; exact ⟨_, _, _, hok, hP5.sub [0, 1, 2] rfl⟩
        · obtain ⟨ja3, oa3, z3, hok3, hP3⟩ := h2 k (by omega)
          exact ⟨_, _, _, hok3, hP3.fr hfr (Lk.off5 hy (by omega) hid e9)⟩
      · obtain ⟨ja3, oa3, z3, hP3⟩ := h3 k (by omega) hk2
        exact ⟨_, _, _, hP3.fr hfr (Lk.off5 hy hk2 hid (by omega))⟩
  exact loop d 0 rf sf s.heap [] ls (by omega) hrf (fun k hk => absurd hk (Nat.not_lt_zero k)) (fun k _ hk => hpre.2.2 k hk) hS hP hD (lv_sub hl [0, 1] rfl)
