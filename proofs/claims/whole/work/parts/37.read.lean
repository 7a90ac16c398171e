/-! LevelRows: shiftOf, symbolAt, climbFrom. -/
set_option maxHeartbeats 4000000 in
set_option maxRecDepth 100000 in
theorem m_R_shiftOf {l : Launch} {D : va_G} {cI cJ cS cO : ClassId} {B0 : Nat} {y : Nat → Nat} {sg d wa i : Nat} {xs : List Nat} (hi : i < d) (hd : d ≤ 16) : CM l D (tyL cI cJ cS cO) B0 y_R_shiftOf c_R_shiftOf 2 (some .int) (rmK 0 0 0) [.ref (y 0), .int (nI i)] (fun H => RL D cJ cS cO y sg d xs wa H) (fun v H0 H1 => v = some (.int (nI (d - 1 - i))) ∧ H1 = H0) 0 0 (fun _ => False) := by
  refine cm_of (by decide) (Nat.le_of_ble_eq_true rfl) ?_
  intro p e s m below meth c ls hx hb hr hml hown hts hlocks hnm hE hpre hl
  have hown : s.vm.findClass "LevelRows" = some m.cls := hown
  have hK := hE.1
  have hl : lv_has ls 2 [(0, .ref (y 0)), (1, .int (nI i))] := hl
  have hP : va_P D vwCl [(y 0, .inr (2, [.int (nI sg), .ref (y 7), .int (nI xs.length), .int (nI wa), .ref (y 1), .ref (y 2), .ref (y 3), .ref (y 4), .ref (y 5), .ref (y 6)])), (y 7, .inl (cO, d, .inr (.inr (.inr (.inr (fun i => some (y (8 + 3 * i))))))))] s.heap := hpre.1
  have hS : va_S (fun _ => False) s.heap s.heap [] := va_S.rf
  have hAB : ∀ q : Nat, (fun _ : Nat => False) q → B0 ≤ q := fun _ h => h.elim
  refine lv_aload_n hx hb d_R_shiftOf_0 rfl (lv_at hl 0 rfl) ?_
  refine va_get (D := D) (ci := 2) (v := .ref (y 7)) (C := n_R) (T := f_R) (N := 10) hx hb hts in_R hown hK hP 0 rfl rfl 1 (by decide) (hts _ x_83) (fun _ h9 => h9) rfl d_R_shiftOf_1 ?_
  refine va_alen hx hb hK hP 1 3 rfl rfl (v := nI (d)) rfl d_R_shiftOf_4 ?_
  refine lv_iconst (v := 1) hx hb d_R_shiftOf_5 (by decide) ?_
  refine lv_isub hx hb d_R_shiftOf_6 ?_
  refine ct_topi (x' := nI (d - 1)) (pk_sub (b := 1) (by omega)) ?_
  refine lv_iload_n hx hb d_R_shiftOf_7 rfl (lv_at hl 1 rfl) ?_
  refine lv_isub hx hb d_R_shiftOf_8 ?_
  refine ct_topi (x' := nI (d - 1 - i)) (pk_sub (by omega)) ?_
  exact W.iret (v := nI (d - 1 - i)) hx hb hr (fun t ht hW => ⟨_, rfl, rfl, ht⟩) (fun _ h => nomatch h) d_R_shiftOf_9
set_option maxHeartbeats 4000000 in
set_option maxRecDepth 100000 in
theorem m_R_symbolAt {l : Launch} {D : va_G} {cI cJ cS cO : ClassId} {B0 : Nat} {y : Nat → Nat} {sg d wa : Nat} {xs : List Nat} {q x : Nat} (hq : xs[q]? = some x) (hxd : x < 2 ^ d) (hd : d ≤ 16) (hx9 : xs.length ≤ 1000) : CM l D (tyL cI cJ cS cO) B0 y_R_symbolAt c_R_symbolAt 6 (some .int) (rmK 4 0 0) [.ref (y 0), .int (nI q)] (fun H => RL D cJ cS cO y sg d xs wa H) (fun v H0 H1 => v = some (.int (nI x)) ∧ H1 = H0) 0 0 (fun _ => False) := by
  refine cm_of (by decide) (Nat.le_of_ble_eq_true rfl) ?_
  intro p e s m below meth c ls hx hb hr hml hown hts hlocks hnm hE hpre hl
  have hown : s.vm.findClass "LevelRows" = some m.cls := hown
  have hK := hE.1
  have hl : lv_has ls 6 [(0, .ref (y 0)), (1, .int (nI q))] := hl
  have hP : va_P D vwCl [(y 0, .inr (2, [.int (nI sg), .ref (y 7), .int (nI xs.length), .int (nI wa), .ref (y 1), .ref (y 2), .ref (y 3), .ref (y 4), .ref (y 5), .ref (y 6)])), (y 7, .inl (cO, d, .inr (.inr (.inr (.inr (fun i => some (y (8 + 3 * i))))))))] s.heap := hpre.1
  have hS : va_S (fun _ => False) s.heap s.heap [] := va_S.rf
  have hAB : ∀ q : Nat, (fun _ : Nat => False) q → B0 ≤ q := fun _ h => h.elim
  have hql : q < xs.length := (List.getElem?_eq_some_iff.mp hq).1
  have hx16 : x < 65536 := Nat.lt_of_lt_of_le hxd (Nat.pow_le_pow_right (n := 2) (by omega) hd)
  refine lv_iconst (v := 0) hx hb d_R_symbolAt_0 (by decide) ?_
  refine lv_istore_n (lv' := [(2, .int 0), (0, .ref (y 0)), (1, .int (nI q))]) hx hb d_R_symbolAt_1 rfl hl (by decide) rfl (fun ls hl => ?_)
  refine lv_iload_n hx hb d_R_symbolAt_2 rfl (lv_at hl 2 rfl) ?_
  refine lv_istore_n (lv' := [(3, .int (nI q)), (2, .int 0), (0, .ref (y 0)), (1, .int (nI q))]) hx hb d_R_symbolAt_3 rfl hl (by decide) rfl (fun ls hl => ?_)
  refine lv_iconst (v := 0) hx hb d_R_symbolAt_4 (by decide) ?_
  refine lv_istore (lv' := [(4, .int 0), (3, .int (nI q)), (2, .int 0), (0, .ref (y 0)), (1, .int (nI q))]) hx hb d_R_symbolAt_5 hl (by decide) rfl (fun ls hl => ?_)
  have loop : ∀ (n : Nat) (i : Nat) (ls : Array Slot), (i + n = d) → lv_has ls 6 [(4, .int (nI i)), (3, .int (nI (wdn d xs x i q))), (2, .int (nI (x / 2 ^ (d - i)))), (0, .ref (y 0)), (1, .int (nI q))] → W p l e (rmK 4 0 0) s m [.ref (y 0), .int (nI q)].toArray below meth c s.heap [] (0) (0) (MQ below (stQ (fun v H0 H1 => v = some (.int (nI x)) ∧ H1 = H0)) [.ref (y 0), .int (nI q)].toArray s 0 0 (fun _ => False)) (F0 m 7 ls []) := by
    intro n
    induction n with
    | zero =>
      intro i ls hin hl
      have hid : i = d := by omega
      refine lv_iload hx hb d_R_symbolAt_7 (lv_at hl 0 rfl) ?_
      refine lv_aload_n hx hb d_R_symbolAt_9 rfl (lv_at hl 3 rfl) ?_
      refine va_get (D := D) (ci := 2) (v := .ref (y 7)) (C := n_R) (T := f_R) (N := 10) hx hb hts in_R hown hK hP 0 rfl rfl 1 (by decide) (hts _ x_83) (fun _ h9 => h9) rfl d_R_symbolAt_10 ?_
      refine va_alen hx hb hK hP 1 3 rfl rfl (v := nI (d)) rfl d_R_symbolAt_13 ?_
      refine lv_icmp_ge (tgt := 57) hx hb d_R_symbolAt_14 (by decide) (fun _ => ?_) (fun c9 => absurd (nI_le (by omega) (by omega)) c9)
      refine lv_iload_n hx hb d_R_symbolAt_57 rfl (lv_at hl 2 rfl) ?_
      refine ct_topi (x' := nI x) (by rw [hid, Nat.sub_self, Nat.pow_zero, Nat.div_one]) ?_
      exact W.iret (v := nI x) hx hb hr (fun t ht hW => ⟨_, rfl, rfl, ht⟩) (fun _ h => nomatch h) d_R_symbolAt_58
    | succ n ih =>
      intro i ls hin hl
      have hid : i < d := by omega
      obtain ⟨ja, oa, z, ok, hL⟩ := hpre.2 i hid
      have hat := wdn_at (d := d) hq i
      have hlt : wdn d xs x i q < (wL d xs i).length := (List.getElem?_eq_some_iff.mp hat).1
      have hlt2 := hlt
      rw [wL_len] at hlt2
      have hbit : uN64 (ja (wdn d xs x i q / 64)) / 2 ^ (wdn d xs x i q % 64) % 2 = bn (wt d i x) := ok.bit hat
      refine lv_iload hx hb d_R_symbolAt_7 (lv_at hl 0 rfl) ?_
      refine lv_aload_n hx hb d_R_symbolAt_9 rfl (lv_at hl 3 rfl) ?_
      refine va_get (D := D) (ci := 2) (v := .ref (y 7)) (C := n_R) (T := f_R) (N := 10) hx hb hts in_R hown hK hP 0 rfl rfl 1 (by decide) (hts _ x_83) (fun _ h9 => h9) rfl d_R_symbolAt_10 ?_
      refine va_alen hx hb hK hP 1 3 rfl rfl (v := nI (d)) rfl d_R_symbolAt_13 ?_
      refine lv_icmp_ge (tgt := 57) hx hb d_R_symbolAt_14 (by decide) (fun c9 => absurd c9 (nI_ge (by omega) (by omega))) (fun _ => ?_)
      refine lv_aload_n hx hb d_R_symbolAt_17 rfl (lv_at hl 3 rfl) ?_
      refine va_get (D := D) (ci := 2) (v := .ref (y 7)) (C := n_R) (T := f_R) (N := 10) hx hb hts in_R hown hK hP 0 rfl rfl 1 (by decide) (hts _ x_83) (fun _ h9 => h9) rfl d_R_symbolAt_18 ?_
      refine lv_iload hx hb d_R_symbolAt_21 (lv_at hl 0 rfl) ?_
      refine va_aldq hx hb hK hP 1 3 rfl rfl (vp_in_nI (by omega) (by omega)) d_R_symbolAt_23 ?_
      refine ct_topv (v' := .ref (y (8 + 3 * i))) (congrArg (fun j => Value.ref (y (8 + 3 * j))) (nI_clamp (by omega))) ?_
      refine lv_iload_n hx hb d_R_symbolAt_24 rfl (lv_at hl 1 rfl) ?_
      refine cm_read (va_runV (As := [.int (nI (wdn d xs x i q))]) (rest := []) ⟨hx, hb, hml, hown, hts⟩ (m_L_bitAt (wdn d xs x i q) (by omega)) ⟨ct_cb 1 hts x_124 x_121 x_5 rfl rfl (by decide +kernel) ⟨by decide, by decide⟩, hts _ x_122, hts _ x_123⟩ ⟨st_blind, va_recv hK hL (ci := 0) (q0 := 0) rfl rfl, fun U hU hW => ⟨rfl, hE.at hS hAB hU hW, by rw [hU]; exact hL⟩⟩ rfl rfl hl.1 rfl (lv_room (Nat.le_of_ble_eq_true rfl)) d_R_symbolAt_25 ⟨by decide, by decide⟩) (fun v hv => ?_)
      subst hv
      refine W.eq (g2 := F0 m 28 ls [.int (nI (uN64 (ja (wdn d xs x i q / 64)) / 2 ^ (wdn d xs x i q % 64) % 2))]) rfl ?_
      refine ct_topi (x' := nI (bn (wt d i x))) (by rw [hbit]) ?_
      have hbn : bn (wt d i x) < 2 := by unfold bn; split <;> omega
      have hxx : x / 2 ^ (d - i) < 2 ^ 30 := Nat.lt_of_le_of_lt (Nat.div_le_self _ _) (by omega)
      refine lv_istore (lv' := [(5, .int (nI (bn (wt d i x)))), (4, .int (nI i)), (3, .int (nI (wdn d xs x i q))), (2, .int (nI (x / 2 ^ (d - i)))), (0, .ref (y 0)), (1, .int (nI q))]) hx hb d_R_symbolAt_28 hl (by decide) rfl (fun ls hl => ?_)
      refine lv_iload_n hx hb d_R_symbolAt_30 rfl (lv_at hl 3 rfl) ?_
      refine lv_iconst (v := 1) hx hb d_R_symbolAt_31 (by decide) ?_
      refine lv_ishl hx hb d_R_symbolAt_32 ?_
      refine lv_iload hx hb d_R_symbolAt_33 (lv_at hl 0 rfl) ?_
      refine lv_ior hx hb d_R_symbolAt_35 ?_
      refine ct_topi (x' := nI (x / 2 ^ (d - (i + 1)))) ((nI_or1 hxx hbn).trans (by rw [wt_bit hid]; rfl)) ?_
      refine lv_istore_n (lv' := [(2, .int (nI (x / 2 ^ (d - (i + 1))))), (5, .int (nI (bn (wt d i x)))), (4, .int (nI i)), (3, .int (nI (wdn d xs x i q))), (0, .ref (y 0)), (1, .int (nI q))]) hx hb d_R_symbolAt_36 rfl hl (by decide) rfl (fun ls hl => ?_)
      refine lv_aload_n hx hb d_R_symbolAt_37 rfl (lv_at hl 4 rfl) ?_
      refine va_get (D := D) (ci := 2) (v := .ref (y 7)) (C := n_R) (T := f_R) (N := 10) hx hb hts in_R hown hK hP 0 rfl rfl 1 (by decide) (hts _ x_83) (fun _ h9 => h9) rfl d_R_symbolAt_38 ?_
      refine lv_iload hx hb d_R_symbolAt_41 (lv_at hl 2 rfl) ?_
      refine va_aldq hx hb hK hP 1 3 rfl rfl (vp_in_nI (by omega) (by omega)) d_R_symbolAt_43 ?_
      refine ct_topv (v' := .ref (y (8 + 3 * i))) (congrArg (fun j => Value.ref (y (8 + 3 * j))) (nI_clamp (by omega))) ?_
      refine lv_iload hx hb d_R_symbolAt_44 (lv_at hl 1 rfl) ?_
      refine lv_iload_n hx hb d_R_symbolAt_46 rfl (lv_at hl 3 rfl) ?_
      refine cm_read (va_runV (As := [.int (nI (bn (wt d i x))), .int (nI (wdn d xs x i q))]) (rest := []) ⟨hx, hb, hml, hown, hts⟩ (m_L_placeBelow ok (by rw [wL_len]; exact hx9) (wt d i x) (wdn d xs x i q) (Nat.le_of_lt hlt)) ⟨ct_cb 2 hts x_128 x_125 x_5 rfl rfl (by decide +kernel) ⟨by decide, by decide⟩, hts _ x_126, hts _ x_127⟩ ⟨st_blind, va_recv hK hL (ci := 0) (q0 := 0) rfl rfl, fun U hU hW => ⟨rfl, hE.at hS hAB hU hW, by rw [hU]; exact hL⟩⟩ rfl rfl hl.1 rfl (lv_room (Nat.le_of_ble_eq_true rfl)) d_R_symbolAt_47 ⟨by decide, by decide⟩) (fun v hv => ?_)
      subst hv
      refine W.eq (g2 := F0 m 50 ls [.int (nI (if wt d i x then z0 (wt d i) (wL d xs i) (wL d xs i).length + z1 (wt d i) (wL d xs i) (wdn d xs x i q) else z0 (wt d i) (wL d xs i) (wdn d xs x i q)))]) rfl ?_
      refine ct_topi (x' := nI (wdn d xs x (i + 1) q)) (by rw [wL_len]; rfl) ?_
      refine lv_istore_n (lv' := [(3, .int (nI (wdn d xs x (i + 1) q))), (2, .int (nI (x / 2 ^ (d - (i + 1))))), (5, .int (nI (bn (wt d i x)))), (4, .int (nI i)), (0, .ref (y 0)), (1, .int (nI q))]) hx hb d_R_symbolAt_50 rfl hl (by decide) rfl (fun ls hl => ?_)
      refine lv_iinc (v := nI (i + 1)) (lv' := [(4, .int (nI (i + 1))), (3, .int (nI (wdn d xs x (i + 1) q))), (2, .int (nI (x / 2 ^ (d - (i + 1))))), (5, .int (nI (bn (wt d i x)))), (0, .ref (y 0)), (1, .int (nI q))]) hx hb d_R_symbolAt_51 hl (k := 3) rfl ((nI_succ i).symm) (by decide) rfl (fun ls hl => ?_)
      refine lv_goto (tgt := 7) hx hb d_R_symbolAt_54 (by decide) ?_
      exact ih (i + 1) ls (by omega) (lv_sub hl [0, 1, 2, 4, 5] rfl)
  have e0 : x / 2 ^ (d - 0) = 0 := Nat.div_eq_of_lt hxd
  exact loop d 0 ls (by omega) (by rw [e0]; exact (lv_sub hl [0, 1, 2, 3, 4] rfl))
set_option maxHeartbeats 4000000 in
set_option maxRecDepth 100000 in
theorem m_R_climbFrom {l : Launch} {D : va_G} {cI cJ cS cO : ClassId} {B0 : Nat} {y : Nat → Nat} {sg d wa : Nat} {xs : List Nat} {q x : Nat} (hq : xs[q]? = some x) (hd : d ≤ 16) (hx9 : xs.length ≤ 1000) : CM l D (tyL cI cJ cS cO) B0 y_R_climbFrom c_R_climbFrom 4 (some .int) (rmK 4 0 0) [.ref (y 0), .int (nI (wdn d xs x d q))] (fun H => RL D cJ cS cO y sg d xs wa H) (fun v H0 H1 => v = some (.int (nI q)) ∧ H1 = H0) 0 0 (fun _ => False) := by
  refine cm_of (by decide) (Nat.le_of_ble_eq_true rfl) ?_
  intro p e s m below meth c ls hx hb hr hml hown hts hlocks hnm hE hpre hl
  have hown : s.vm.findClass "LevelRows" = some m.cls := hown
  have hK := hE.1
  have hl : lv_has ls 4 [(0, .ref (y 0)), (1, .int (nI (wdn d xs x d q)))] := hl
  have hP : va_P D vwCl [(y 0, .inr (2, [.int (nI sg), .ref (y 7), .int (nI xs.length), .int (nI wa), .ref (y 1), .ref (y 2), .ref (y 3), .ref (y 4), .ref (y 5), .ref (y 6)])), (y 7, .inl (cO, d, .inr (.inr (.inr (.inr (fun i => some (y (8 + 3 * i))))))))] s.heap := hpre.1
  have hS : va_S (fun _ => False) s.heap s.heap [] := va_S.rf
  have hAB : ∀ q : Nat, (fun _ : Nat => False) q → B0 ≤ q := fun _ h => h.elim
  refine lv_iload_n hx hb d_R_climbFrom_0 rfl (lv_at hl 1 rfl) ?_
  refine lv_istore_n (lv' := [(2, .int (nI (wdn d xs x d q))), (0, .ref (y 0)), (1, .int (nI (wdn d xs x d q)))]) hx hb d_R_climbFrom_1 rfl hl (by decide) rfl (fun ls hl => ?_)
  refine lv_aload_n hx hb d_R_climbFrom_2 rfl (lv_at hl 1 rfl) ?_
  refine va_get (D := D) (ci := 2) (v := .ref (y 7)) (C := n_R) (T := f_R) (N := 10) hx hb hts in_R hown hK hP 0 rfl rfl 1 (by decide) (hts _ x_83) (fun _ h9 => h9) rfl d_R_climbFrom_3 ?_
  refine va_alen hx hb hK hP 1 3 rfl rfl (v := nI (d)) rfl d_R_climbFrom_6 ?_
  refine lv_iconst (v := 1) hx hb d_R_climbFrom_7 (by decide) ?_
  refine lv_isub hx hb d_R_climbFrom_8 ?_
  refine lv_istore_n (lv' := [(3, .int ((nI (d)) - 1)), (2, .int (nI (wdn d xs x d q))), (0, .ref (y 0)), (1, .int (nI (wdn d xs x d q)))]) hx hb d_R_climbFrom_9 rfl hl (by decide) rfl (fun ls hl => ?_)
  have loop : ∀ (n : Nat) (ls : Array Slot), (n ≤ d) → lv_has ls 4 [(3, .int (nI n - 1)), (2, .int (nI (wdn d xs x n q))), (0, .ref (y 0)), (1, .int (nI (wdn d xs x d q)))] → W p l e (rmK 4 0 0) s m [.ref (y 0), .int (nI (wdn d xs x d q))].toArray below meth c s.heap [] (0) (0) (MQ below (stQ (fun v H0 H1 => v = some (.int (nI q)) ∧ H1 = H0)) [.ref (y 0), .int (nI (wdn d xs x d q))].toArray s 0 0 (fun _ => False)) (F0 m 10 ls []) := by
    intro n
    induction n with
    | zero =>
      intro  ls hin hl
      refine lv_iload_n hx hb d_R_climbFrom_10 rfl (lv_at hl 0 rfl) ?_
      refine lv_if_lt (tgt := 35) hx hb d_R_climbFrom_11 (by decide) (fun _ => ?_) (fun c9 => absurd (by decide) c9)
      refine lv_iload_n hx hb d_R_climbFrom_35 rfl (lv_at hl 1 rfl) ?_
      exact W.iret (v := nI q) hx hb hr (fun t ht hW => ⟨_, rfl, rfl, ht⟩) (fun _ h => nomatch h) d_R_climbFrom_36
    | succ n ih =>
      intro  ls hin hl
      rw [show nI (n + 1) - 1 = nI n from nI_pred n] at hl
      obtain ⟨ja, oa, z, ok, hL⟩ := hpre.2 n (by omega)
      have hat := wdn_at (d := d) hq n
      refine lv_iload_n hx hb d_R_climbFrom_10 rfl (lv_at hl 0 rfl) ?_
      refine lv_if_lt (tgt := 35) hx hb d_R_climbFrom_11 (by decide) (fun c9 => absurd c9 (nI_pos (by omega))) (fun _ => ?_)
      refine lv_aload_n hx hb d_R_climbFrom_14 rfl (lv_at hl 2 rfl) ?_
      refine va_get (D := D) (ci := 2) (v := .ref (y 7)) (C := n_R) (T := f_R) (N := 10) hx hb hts in_R hown hK hP 0 rfl rfl 1 (by decide) (hts _ x_83) (fun _ h9 => h9) rfl d_R_climbFrom_15 ?_
      refine lv_iload_n hx hb d_R_climbFrom_18 rfl (lv_at hl 0 rfl) ?_
      refine va_aldq hx hb hK hP 1 3 rfl rfl (vp_in_nI (by omega) (by omega)) d_R_climbFrom_19 ?_
      refine ct_topv (v' := .ref (y (8 + 3 * n))) (congrArg (fun j => Value.ref (y (8 + 3 * j))) (nI_clamp (by omega))) ?_
      refine lv_iload_n hx hb d_R_climbFrom_20 rfl (lv_at hl 1 rfl) ?_
      refine lv_aload_n hx hb d_R_climbFrom_21 rfl (lv_at hl 2 rfl) ?_
      refine va_get (D := D) (ci := 2) (v := .int (nI xs.length)) (C := n_R) (T := f_R) (N := 10) hx hb hts in_R hown hK hP 0 rfl rfl 2 (by decide) (hts _ x_84) (fun _ h9 => h9) rfl d_R_climbFrom_22 ?_
      have hlen := wL_len d xs n
      cases htx : wt d n x with
      | false =>
        have e1 : wdn d xs x (n + 1) q = z0 (wt d n) (wL d xs n) (wdn d xs x n q) := by simp only [wdn, htx, hlen, if_true, Bool.false_eq_true, if_false]
        rw [e1, ← hlen]
        refine W.eq (g2 := F0 m 25 ls [.int (nI (wL d xs n).length), .int (nI (z0 (wt d n) (wL d xs n) (wdn d xs x n q))), .ref (y (8 + 3 * n))]) rfl ?_
        refine cm_read (va_runV (As := [.int (nI (z0 (wt d n) (wL d xs n) (wdn d xs x n q))), .int (nI (wL d xs n).length)]) (rest := []) ⟨hx, hb, hml, hown, hts⟩ (m_L_placeAbove_f ok (by rw [hlen]; exact hx9) hat htx) ⟨ct_cb 2 hts x_350 x_347 x_5 rfl rfl (by decide +kernel) ⟨by decide, by decide⟩, hts _ x_348, hts _ x_349⟩ ⟨st_blind, va_recv hK hL (ci := 0) (q0 := 0) rfl rfl, fun U hU hW => ⟨rfl, hE.at hS hAB hU hW, by rw [hU]; exact hL⟩⟩ rfl rfl hl.1 rfl (lv_room (Nat.le_of_ble_eq_true rfl)) d_R_climbFrom_25 ⟨by decide, by decide⟩) (fun v hv => ?_)
        subst hv
        refine W.eq (g2 := F0 m 28 ls [.int (nI (wdn d xs x n q))]) rfl ?_
        refine lv_istore_n (lv' := [(2, .int (nI (wdn d xs x n q))), (3, .int (nI n)), (0, .ref (y 0)), (1, .int (nI (wdn d xs x d q)))]) hx hb d_R_climbFrom_28 rfl hl (by decide) rfl (fun ls hl => ?_)
        refine lv_iinc (v := nI n - 1) (lv' := [(3, .int (nI n - 1)), (2, .int (nI (wdn d xs x n q))), (0, .ref (y 0)), (1, .int (nI (wdn d xs x d q)))]) hx hb d_R_climbFrom_29 hl (k := 1) rfl (by rw [Int32.sub_eq_add_neg]; rfl) (by decide) rfl (fun ls hl => ?_)
        refine lv_goto (tgt := 10) hx hb d_R_climbFrom_32 (by decide) ?_
        exact ih ls (by omega) (lv_sub hl [0, 1, 2, 3] rfl)
      | true =>
        have e1 : wdn d xs x (n + 1) q = z0 (wt d n) (wL d xs n) (wL d xs n).length + z1 (wt d n) (wL d xs n) (wdn d xs x n q) := by simp only [wdn, htx, hlen, if_true, Bool.false_eq_true, if_false]
        rw [e1, ← hlen]
        refine W.eq (g2 := F0 m 25 ls [.int (nI (wL d xs n).length), .int (nI (z0 (wt d n) (wL d xs n) (wL d xs n).length + z1 (wt d n) (wL d xs n) (wdn d xs x n q))), .ref (y (8 + 3 * n))]) rfl ?_
        refine cm_read (va_runV (As := [.int (nI (z0 (wt d n) (wL d xs n) (wL d xs n).length + z1 (wt d n) (wL d xs n) (wdn d xs x n q))), .int (nI (wL d xs n).length)]) (rest := []) ⟨hx, hb, hml, hown, hts⟩ (m_L_placeAbove_t ok (by rw [hlen]; exact hx9) hat htx) ⟨ct_cb 2 hts x_350 x_347 x_5 rfl rfl (by decide +kernel) ⟨by decide, by decide⟩, hts _ x_348, hts _ x_349⟩ ⟨st_blind, va_recv hK hL (ci := 0) (q0 := 0) rfl rfl, fun U hU hW => ⟨rfl, hE.at hS hAB hU hW, by rw [hU]; exact hL⟩⟩ rfl rfl hl.1 rfl (lv_room (Nat.le_of_ble_eq_true rfl)) d_R_climbFrom_25 ⟨by decide, by decide⟩) (fun v hv => ?_)
        subst hv
        refine W.eq (g2 := F0 m 28 ls [.int (nI (wdn d xs x n q))]) rfl ?_
        refine lv_istore_n (lv' := [(2, .int (nI (wdn d xs x n q))), (3, .int (nI n)), (0, .ref (y 0)), (1, .int (nI (wdn d xs x d q)))]) hx hb d_R_climbFrom_28 rfl hl (by decide) rfl (fun ls hl => ?_)
        refine lv_iinc (v := nI n - 1) (lv' := [(3, .int (nI n - 1)), (2, .int (nI (wdn d xs x n q))), (0, .ref (y 0)), (1, .int (nI (wdn d xs x d q)))]) hx hb d_R_climbFrom_29 hl (k := 1) rfl (by rw [Int32.sub_eq_add_neg]; rfl) (by decide) rfl (fun ls hl => ?_)
        refine lv_goto (tgt := 10) hx hb d_R_climbFrom_32 (by decide) ?_
        exact ih ls (by omega) (lv_sub hl [0, 1, 2, 3] rfl)
  exact loop d ls (Nat.le_refl d) (lv_sub hl [0, 1, 2, 3] rfl)
