/-! LevelRows: descendTo, kthLeast, howManyBelow. -/
set_option maxHeartbeats 4000000 in
set_option maxRecDepth 100000 in
theorem m_R_descendTo {l : Launch} {D : va_G} {cI cJ cS cO : ClassId} {B0 : Nat} {y : Nat → Nat} {sg d : Nat} {xs ws : List Nat} (hy : yI B0 y d) (ok0 : Ok sg d xs ws) {a b sy : Nat} (hab : a ≤ b) (hbx : b ≤ xs.length) (hsy : sy < 2 ^ d) {f2 f3 f4 f5 : Int32} : CM l D (tyL cI cJ cS cO) B0 y_R_descendTo c_R_descendTo 3 none (rmK 4 0 0) [.ref (y 0), .int (nI sy)] (fun H => RL D cJ cS cO y sg d xs ws.length H ∧ va_P D vwCl (Pw (y 3) (nI a) (nI b) f2 f3 f4 f5) H) (fun v H0 H1 => v = none ∧ fr (fun q => q = y 3) H0 H1 ∧ ∃ g2 g3 g4 g5, va_P D vwCl (Pw (y 3) (nI (wdn d xs sy d a)) (nI (wdn d xs sy d b)) g2 g3 g4 g5) H1) 0 0 (fun q => q = y 3) := by
  refine cm_of (by decide) (Nat.le_of_ble_eq_true rfl) ?_
  intro p e s m below meth c ls hx hb hr hml hown hts hlocks hnm hE hpre hl
  have hown : s.vm.findClass "LevelRows" = some m.cls := hown
  have hK := hE.1
  have hl : lv_has ls 3 [(0, .ref (y 0)), (1, .int (nI sy))] := hl
  have hS : va_S (fun q => q = y 3) s.heap s.heap [] := va_S.rf
  have hR0 := hpre.1.1
  have hRd : ∀ (k : Nat) (q : Nat × va_E), (Rw cO y (nI sg) d (nI xs.length) (nI ws.length))[k]? = some q → ¬ q.1 = y 3 := Rw.off hy (by omega) (by omega)
  have hR := hR0
  have hAB : ∀ q : Nat, q = y 3 → B0 ≤ q := fun q h => by rw [h]; exact hy.2 3 (by omega)
  have hd16 := ok0.d16
  have hx9 := ok0.len
  have hp16 := ok0.p16
  have hP : va_P D vwCl [(y 3, .inr (1, [.int (nI a), .int (nI b), .int f2, .int f3, .int f4, .int f5]))] s.heap := hpre.2
  have hD : va_D (fun q => q = y 3) [(y 3, .inr (1, [.int (nI a), .int (nI b), .int f2, .int f3, .int f4, .int f5]))] := va_D.one rfl
  refine lv_iconst (v := 0) hx hb d_R_descendTo_0 (by decide) ?_
  refine lv_istore_n (lv' := [(2, .int 0), (0, .ref (y 0)), (1, .int (nI sy))]) hx hb d_R_descendTo_1 rfl hl (by decide) rfl (fun ls hl => ?_)
  have loop : ∀ (n : Nat) (i : Nat) (g2 : Int32) (g3 : Int32) (g4 : Int32) (g5 : Int32) (H : Heap) (locs : List Loc) (ls : Array Slot), (i + n = d) → va_S (fun q => q = y 3) s.heap H locs → va_P D vwCl [(y 3, .inr (1, [.int (nI (wdn d xs sy i a)), .int (nI (wdn d xs sy i b)), .int g2, .int g3, .int g4, .int g5]))] H → va_D (fun q => q = y 3) [(y 3, .inr (1, [.int (nI (wdn d xs sy i a)), .int (nI (wdn d xs sy i b)), .int g2, .int g3, .int g4, .int g5]))] → lv_has ls 3 [(2, .int (nI i)), (0, .ref (y 0)), (1, .int (nI sy))] → W p l e (rmK 4 0 0) s m [.ref (y 0), .int (nI sy)].toArray below meth c H locs (0) (0) (MQ below (stQ (fun v H0 H1 => v = none ∧ fr (fun q => q = y 3) H0 H1 ∧ ∃ g2 g3 g4 g5, va_P D vwCl (Pw (y 3) (nI (wdn d xs sy d a)) (nI (wdn d xs sy d b)) g2 g3 g4 g5) H1)) [.ref (y 0), .int (nI sy)].toArray s 0 0 (fun q => q = y 3)) (F0 m 2 ls []) := by
    intro n
    induction n with
    | zero =>
      intro i g2 g3 g4 g5 H locs ls hin hS hP hD hl
      have hR := hR0.rd hS hRd
      have hid : i = d := by omega
      refine lv_iload_n hx hb d_R_descendTo_2 rfl (lv_at hl 0 rfl) ?_
      refine lv_aload_n hx hb d_R_descendTo_3 rfl (lv_at hl 1 rfl) ?_
      refine va_get (D := D) (ci := 2) (v := .ref (y 7)) (C := n_R) (T := f_R) (N := 10) hx hb hts in_R hown hK hR 0 rfl rfl 1 (by decide) (hts _ x_83) (fun _ h9 => h9) rfl d_R_descendTo_4 ?_
      refine va_alen hx hb hK hR 1 3 rfl rfl (v := nI (d)) rfl d_R_descendTo_7 ?_
      refine lv_icmp_ge (tgt := 46) hx hb d_R_descendTo_8 (by decide) (fun _ => ?_) (fun c9 => absurd (nI_le (by omega) (by omega)) c9)
      subst hid
      exact W.vret hx hb hr (fun t ht hW => ⟨_, rfl, by rw [ht]; exact ⟨rfl, fr.of hS, _, _, _, _, hP⟩⟩) hS.2.2 d_R_descendTo_46
    | succ n ih =>
      intro i g2 g3 g4 g5 H locs ls hin hS hP hD hl
      have hR := hR0.rd hS hRd
      have hid : i < d := by omega
      obtain ⟨ja, oa, z, ok, hL0⟩ := hpre.1.2 i hid
      have hlen := wL_len d xs i
      have hLd : ∀ (k : Nat) (q : Nat × va_E), (Lw cJ cS (y (8 + 3 * i)) (y (9 + 3 * i)) (y (10 + 3 * i)) ja oa z)[k]? = some q → ¬ q.1 = y 3 := Lk.off hy hid (by omega)
      have hL := hL0.rd hS hLd
      have hI := wdn_I hsy hab hbx ok0.lt i (by omega)
      have hI2 := hI.len
      refine lv_iload_n hx hb d_R_descendTo_2 rfl (lv_at hl 0 rfl) ?_
      refine lv_aload_n hx hb d_R_descendTo_3 rfl (lv_at hl 1 rfl) ?_
      refine va_get (D := D) (ci := 2) (v := .ref (y 7)) (C := n_R) (T := f_R) (N := 10) hx hb hts in_R hown hK hR 0 rfl rfl 1 (by decide) (hts _ x_83) (fun _ h9 => h9) rfl d_R_descendTo_4 ?_
      refine va_alen hx hb hK hR 1 3 rfl rfl (v := nI (d)) rfl d_R_descendTo_7 ?_
      refine lv_icmp_ge (tgt := 46) hx hb d_R_descendTo_8 (by decide) (fun c9 => absurd c9 (nI_ge (by omega) (by omega))) (fun _ => ?_)
      refine lv_aload_n hx hb d_R_descendTo_11 rfl (lv_at hl 1 rfl) ?_
      refine va_get (D := D) (ci := 2) (v := .ref (y 3)) (C := n_R) (T := f_R) (N := 10) hx hb hts in_R hown hK hR 0 rfl rfl 6 (by decide) (hts _ x_88) (fun _ h9 => h9) rfl d_R_descendTo_12 ?_
      refine lv_aload_n hx hb d_R_descendTo_15 rfl (lv_at hl 1 rfl) ?_
      refine va_get (D := D) (ci := 2) (v := .ref (y 7)) (C := n_R) (T := f_R) (N := 10) hx hb hts in_R hown hK hR 0 rfl rfl 1 (by decide) (hts _ x_83) (fun _ h9 => h9) rfl d_R_descendTo_16 ?_
      refine lv_iload_n hx hb d_R_descendTo_19 rfl (lv_at hl 0 rfl) ?_
      refine va_aldq hx hb hK hR 1 3 rfl rfl (vp_in_nI (by omega) (by omega)) d_R_descendTo_20 ?_
      refine ct_topv (v' := .ref (y (8 + 3 * i))) (congrArg (fun j => Value.ref (y (8 + 3 * j))) (nI_clamp (by omega))) ?_
      refine cm_ret (va_runV (As := [.ref (y (8 + 3 * i))]) (rest := []) ⟨hx, hb, hml, hown, hts⟩ (m_P_split ok (by rw [hlen]; exact hx9) (wdn d xs sy i a) (wdn d xs sy i b) (by rw [hlen]; omega) (by rw [hlen]; omega) (hy.2 3 (by omega)) (hy.ne (i := 8 + 3 * i) (j := 3) (by omega) (by omega) (by omega)) (hy.ne (i := 9 + 3 * i) (j := 3) (by omega) (by omega) (by omega)) (hy.ne (i := 10 + 3 * i) (j := 3) (by omega) (by omega) (by omega))) ⟨ct_cb 1 hts x_322 x_319 x_2 rfl rfl (by decide +kernel) ⟨by decide, by decide⟩, hts _ x_320, hts _ x_321⟩ ⟨st_blind, va_recv hK hP (ci := 1) (q0 := 0) rfl rfl, fun U hU hW => ⟨rfl, hE.at hS hAB hU hW, by rw [hU]; exact ⟨hP, hL⟩⟩⟩ rfl rfl hl.1 rfl (lv_room (Nat.le_of_ble_eq_true rfl)) d_R_descendTo_21 ⟨by decide, by decide⟩) hS (fun q h => h) (fun _ _ h => h.2.1) (fun v H locs hv hS => ?_)
      obtain ⟨rfl, hfr, hP⟩ := hv
      refine W.eq (g2 := F0 m 24 ls []) rfl ?_
      rw [hlen] at hP
      have hP : va_P D vwCl [(y 3, .inr (1, [.int (nI (wdn d xs sy i a)), .int (nI (wdn d xs sy i b)), .int (nI (z0 (wt d i) (wL d xs i) (wdn d xs sy i a))), .int (nI (z0 (wt d i) (wL d xs i) (wdn d xs sy i b))), .int (nI (z0 (wt d i) (wL d xs i) xs.length + z1 (wt d i) (wL d xs i) (wdn d xs sy i a))), .int (nI (z0 (wt d i) (wL d xs i) xs.length + z1 (wt d i) (wL d xs i) (wdn d xs sy i b)))]))] H := hP
      have hD : va_D (fun q => q = y 3) [(y 3, .inr (1, [.int (nI (wdn d xs sy i a)), .int (nI (wdn d xs sy i b)), .int (nI (z0 (wt d i) (wL d xs i) (wdn d xs sy i a))), .int (nI (z0 (wt d i) (wL d xs i) (wdn d xs sy i b))), .int (nI (z0 (wt d i) (wL d xs i) xs.length + z1 (wt d i) (wL d xs i) (wdn d xs sy i a))), .int (nI (z0 (wt d i) (wL d xs i) xs.length + z1 (wt d i) (wL d xs i) (wdn d xs sy i b)))]))] := va_D.one rfl
      have hR := hR0.rd hS hRd
      have hL := hL0.rd hS hLd
      refine lv_aload_n hx hb d_R_descendTo_24 rfl (lv_at hl 1 rfl) ?_
      refine va_get (D := D) (ci := 2) (v := .ref (y 3)) (C := n_R) (T := f_R) (N := 10) hx hb hts in_R hown hK hR 0 rfl rfl 6 (by decide) (hts _ x_88) (fun _ h9 => h9) rfl d_R_descendTo_25 ?_
      refine lv_iload_n hx hb d_R_descendTo_28 rfl (lv_at hl 2 rfl) ?_
      refine lv_aload_n hx hb d_R_descendTo_29 rfl (lv_at hl 1 rfl) ?_
      refine lv_iload_n hx hb d_R_descendTo_30 rfl (lv_at hl 0 rfl) ?_
      refine cm_read (va_runV (As := [.int (nI i)]) (rest := [.int (nI sy), .ref (y 3)]) ⟨hx, hb, hml, hown, hts⟩ (m_R_shiftOf (xs := xs) (sg := sg) (wa := ws.length) hid hd16) ⟨ct_cb 1 hts x_151 x_148 x_1 rfl rfl (by decide +kernel) ⟨by decide, by decide⟩, hts _ x_150, hts _ s_R_shiftOf⟩ ⟨st_blind, va_recv hK hR (ci := 2) (q0 := 0) rfl rfl, fun U hU hW => ⟨rfl, hE.at hS hAB hU hW, by rw [hU]; exact RL.fr hy hpre.1 (fr.of hS) (fun q _ h => ⟨3, by omega, by omega, h⟩)⟩⟩ rfl rfl hl.1 rfl (lv_room (Nat.le_of_ble_eq_true rfl)) d_R_descendTo_31 ⟨by decide, by decide⟩) (fun v hv => ?_)
      subst hv
      refine W.eq (g2 := F0 m 34 ls [.int (nI (d - 1 - i)), .int (nI sy), .ref (y 3)]) rfl ?_
      refine lv_ishr hx hb d_R_descendTo_34 ?_
      refine ct_topi (x' := nI (sy / 2 ^ (d - 1 - i))) (sh_bit (by omega) (by omega)) ?_
      refine lv_iconst (v := 1) hx hb d_R_descendTo_35 (by decide) ?_
      refine lv_iand hx hb d_R_descendTo_36 ?_
      refine ct_topi (x' := nI (sy / 2 ^ (d - 1 - i) % 2)) (nI_and1 _) ?_
      cases hbt : wt d i sy with
      | false =>
        have hb0 : sy / 2 ^ (d - 1 - i) % 2 = 0 := by have := of_decide_eq_false hbt; omega
        refine ct_topi (x' := nI 0) (by rw [hb0]) ?_
        refine cm_ret (va_runV (As := [.int (nI 0)]) (rest := []) ⟨hx, hb, hml, hown, hts⟩ (m_P_enter0) ⟨ct_cb 1 hts x_327 x_324 x_2 rfl rfl (by decide +kernel) ⟨by decide, by decide⟩, hts _ x_325, hts _ x_326⟩ ⟨st_blind, va_recv hK hP (ci := 1) (q0 := 0) rfl rfl, fun U hU hW => ⟨rfl, hE.at hS hAB hU hW, by rw [hU]; exact hP⟩⟩ rfl rfl hl.1 rfl (lv_room (Nat.le_of_ble_eq_true rfl)) d_R_descendTo_37 ⟨by decide, by decide⟩) hS (fun q h => h) (fun _ _ h => h.2.1) (fun v H locs hv hS => ?_)
        obtain ⟨rfl, hfr, hP⟩ := hv
        refine W.eq (g2 := F0 m 40 ls []) rfl ?_
        have hP : va_P D vwCl [(y 3, .inr (1, [.int (nI (z0 (wt d i) (wL d xs i) (wdn d xs sy i a))), .int (nI (z0 (wt d i) (wL d xs i) (wdn d xs sy i b))), .int (nI (z0 (wt d i) (wL d xs i) (wdn d xs sy i a))), .int (nI (z0 (wt d i) (wL d xs i) (wdn d xs sy i b))), .int (nI (z0 (wt d i) (wL d xs i) xs.length + z1 (wt d i) (wL d xs i) (wdn d xs sy i a))), .int (nI (z0 (wt d i) (wL d xs i) xs.length + z1 (wt d i) (wL d xs i) (wdn d xs sy i b)))]))] H := hP
        have hD : va_D (fun q => q = y 3) [(y 3, .inr (1, [.int (nI (z0 (wt d i) (wL d xs i) (wdn d xs sy i a))), .int (nI (z0 (wt d i) (wL d xs i) (wdn d xs sy i b))), .int (nI (z0 (wt d i) (wL d xs i) (wdn d xs sy i a))), .int (nI (z0 (wt d i) (wL d xs i) (wdn d xs sy i b))), .int (nI (z0 (wt d i) (wL d xs i) xs.length + z1 (wt d i) (wL d xs i) (wdn d xs sy i a))), .int (nI (z0 (wt d i) (wL d xs i) xs.length + z1 (wt d i) (wL d xs i) (wdn d xs sy i b)))]))] := va_D.one rfl
        have hR := hR0.rd hS hRd
        have hL := hL0.rd hS hLd
        have ea : nI (wdn d xs sy (i + 1) a) = nI (z0 (wt d i) (wL d xs i) (wdn d xs sy i a)) := by simp only [wdn, hbt, if_true, Bool.false_eq_true, if_false]
        have eb : nI (wdn d xs sy (i + 1) b) = nI (z0 (wt d i) (wL d xs i) (wdn d xs sy i b)) := by simp only [wdn, hbt, if_true, Bool.false_eq_true, if_false]
        refine lv_iinc (v := nI (i + 1)) (lv' := [(2, .int (nI (i + 1))), (0, .ref (y 0)), (1, .int (nI sy))]) hx hb d_R_descendTo_40 hl (k := 0) rfl ((nI_succ i).symm) (by decide) rfl (fun ls hl => ?_)
        refine lv_goto (tgt := 2) hx hb d_R_descendTo_43 (by decide) ?_
        exact ih (i + 1) _ _ _ _ H _ ls (by omega) hS (by rw [ea, eb]; exact hP) (va_D.one rfl) (lv_sub hl [0, 1, 2] rfl)
      | true =>
        have hb0 : sy / 2 ^ (d - 1 - i) % 2 = 1 := of_decide_eq_true hbt
        refine ct_topi (x' := nI 1) (by rw [hb0]) ?_
        refine cm_ret (va_runV (As := [.int (nI 1)]) (rest := []) ⟨hx, hb, hml, hown, hts⟩ (m_P_enter1) ⟨ct_cb 1 hts x_327 x_324 x_2 rfl rfl (by decide +kernel) ⟨by decide, by decide⟩, hts _ x_325, hts _ x_326⟩ ⟨st_blind, va_recv hK hP (ci := 1) (q0 := 0) rfl rfl, fun U hU hW => ⟨rfl, hE.at hS hAB hU hW, by rw [hU]; exact hP⟩⟩ rfl rfl hl.1 rfl (lv_room (Nat.le_of_ble_eq_true rfl)) d_R_descendTo_37 ⟨by decide, by decide⟩) hS (fun q h => h) (fun _ _ h => h.2.1) (fun v H locs hv hS => ?_)
        obtain ⟨rfl, hfr, hP⟩ := hv
        refine W.eq (g2 := F0 m 40 ls []) rfl ?_
        have hP : va_P D vwCl [(y 3, .inr (1, [.int (nI (z0 (wt d i) (wL d xs i) xs.length + z1 (wt d i) (wL d xs i) (wdn d xs sy i a))), .int (nI (z0 (wt d i) (wL d xs i) xs.length + z1 (wt d i) (wL d xs i) (wdn d xs sy i b))), .int (nI (z0 (wt d i) (wL d xs i) (wdn d xs sy i a))), .int (nI (z0 (wt d i) (wL d xs i) (wdn d xs sy i b))), .int (nI (z0 (wt d i) (wL d xs i) xs.length + z1 (wt d i) (wL d xs i) (wdn d xs sy i a))), .int (nI (z0 (wt d i) (wL d xs i) xs.length + z1 (wt d i) (wL d xs i) (wdn d xs sy i b)))]))] H := hP
        have hD : va_D (fun q => q = y 3) [(y 3, .inr (1, [.int (nI (z0 (wt d i) (wL d xs i) xs.length + z1 (wt d i) (wL d xs i) (wdn d xs sy i a))), .int (nI (z0 (wt d i) (wL d xs i) xs.length + z1 (wt d i) (wL d xs i) (wdn d xs sy i b))), .int (nI (z0 (wt d i) (wL d xs i) (wdn d xs sy i a))), .int (nI (z0 (wt d i) (wL d xs i) (wdn d xs sy i b))), .int (nI (z0 (wt d i) (wL d xs i) xs.length + z1 (wt d i) (wL d xs i) (wdn d xs sy i a))), .int (nI (z0 (wt d i) (wL d xs i) xs.length + z1 (wt d i) (wL d xs i) (wdn d xs sy i b)))]))] := va_D.one rfl
        have hR := hR0.rd hS hRd
        have hL := hL0.rd hS hLd
        have ea : nI (wdn d xs sy (i + 1) a) = nI (z0 (wt d i) (wL d xs i) xs.length + z1 (wt d i) (wL d xs i) (wdn d xs sy i a)) := by simp only [wdn, hbt, if_true, Bool.false_eq_true, if_false]
        have eb : nI (wdn d xs sy (i + 1) b) = nI (z0 (wt d i) (wL d xs i) xs.length + z1 (wt d i) (wL d xs i) (wdn d xs sy i b)) := by simp only [wdn, hbt, if_true, Bool.false_eq_true, if_false]
        refine lv_iinc (v := nI (i + 1)) (lv' := [(2, .int (nI (i + 1))), (0, .ref (y 0)), (1, .int (nI sy))]) hx hb d_R_descendTo_40 hl (k := 0) rfl ((nI_succ i).symm) (by decide) rfl (fun ls hl => ?_)
        refine lv_goto (tgt := 2) hx hb d_R_descendTo_43 (by decide) ?_
        exact ih (i + 1) _ _ _ _ H _ ls (by omega) hS (by rw [ea, eb]; exact hP) (va_D.one rfl) (lv_sub hl [0, 1, 2] rfl)
  exact loop d 0 _ _ _ _ s.heap [] ls (by omega) hS hP hD (lv_sub hl [0, 1, 2] rfl)
set_option maxHeartbeats 4000000 in
set_option maxRecDepth 100000 in
theorem m_R_kthLeast {l : Launch} {D : va_G} {cI cJ cS cO : ClassId} {B0 : Nat} {y : Nat → Nat} {sg d : Nat} {xs ws : List Nat} (hy : yI B0 y d) (ok0 : Ok sg d xs ws) {a b : Nat} (hab : a ≤ b) (hbx : b ≤ xs.length) {B : List Nat} (hB : B = (xs.drop a).take (b - a)) {k r : Nat} (hkr : kth B k r) : CM l D (tyL cI cJ cS cO) B0 y_R_kthLeast c_R_kthLeast 8 (some .int) (rmK 4 0 0) [.ref (y 0), .int (nI a), .int (nI b), .int (nI k)] (fun H => RL D cJ cS cO y sg d xs ws.length H ∧ PP D (y 3) H) (fun v H0 H1 => v = some (.int (nI r)) ∧ fr (fun q => q = y 3) H0 H1 ∧ ∃ u g2 g3 g4 g5, u + cEq B r ≤ 1000 ∧ va_P D vwCl (Pw (y 3) (nI u) (nI (u + cEq B r)) g2 g3 g4 g5) H1) 0 0 (fun q => q = y 3) := by
  refine cm_of (by decide) (Nat.le_of_ble_eq_true rfl) ?_
  intro p e s m below meth c ls hx hb hr hml hown hts hlocks hnm hE hpre hl
  have hown : s.vm.findClass "LevelRows" = some m.cls := hown
  have hK := hE.1
  have hl : lv_has ls 8 [(0, .ref (y 0)), (1, .int (nI a)), (2, .int (nI b)), (3, .int (nI k))] := hl
  have hS : va_S (fun q => q = y 3) s.heap s.heap [] := va_S.rf
  have hR0 := hpre.1.1
  have hRd : ∀ (k : Nat) (q : Nat × va_E), (Rw cO y (nI sg) d (nI xs.length) (nI ws.length))[k]? = some q → ¬ q.1 = y 3 := Rw.off hy (by omega) (by omega)
  have hR := hR0
  have hAB : ∀ q : Nat, q = y 3 → B0 ≤ q := fun q h => by rw [h]; exact hy.2 3 (by omega)
  have hd16 := ok0.d16
  have hx9 := ok0.len
  have hp16 := ok0.p16
  obtain ⟨f0, f1, f2, f3, f4, f5, hP⟩ := hpre.2
  have hkl : k < B.length := Nat.lt_of_lt_of_le hkr.2 (cLt_le B _)
  have hBl : B.length = b - a := by rw [hB, List.length_take, List.length_drop]; omega
  have hP : va_P D vwCl [(y 3, .inr (1, [.int f0, .int f1, .int f2, .int f3, .int f4, .int f5]))] s.heap := hP
  have hD : va_D (fun q => q = y 3) [(y 3, .inr (1, [.int f0, .int f1, .int f2, .int f3, .int f4, .int f5]))] := va_D.one rfl
  refine lv_aload_n hx hb d_R_kthLeast_0 rfl (lv_at hl 0 rfl) ?_
  refine va_get (D := D) (ci := 2) (v := .ref (y 3)) (C := n_R) (T := f_R) (N := 10) hx hb hts in_R hown hK hR 0 rfl rfl 6 (by decide) (hts _ x_88) (fun _ h9 => h9) rfl d_R_kthLeast_1 ?_
  refine lv_iload_n hx hb d_R_kthLeast_4 rfl (lv_at hl 1 rfl) ?_
  refine lv_iload_n hx hb d_R_kthLeast_5 rfl (lv_at hl 2 rfl) ?_
  refine cm_ret (va_runV (As := [.int (nI a), .int (nI b)]) (rest := []) ⟨hx, hb, hml, hown, hts⟩ (m_P_span (nI a) (nI b)) ⟨ct_cb 2 hts x_314 x_311 x_2 rfl rfl (by decide +kernel) ⟨by decide, by decide⟩, hts _ x_312, hts _ x_313⟩ ⟨st_blind, va_recv hK hP (ci := 1) (q0 := 0) rfl rfl, fun U hU hW => ⟨rfl, hE.at hS hAB hU hW, by rw [hU]; exact hP⟩⟩ rfl rfl hl.1 rfl (lv_room (Nat.le_of_ble_eq_true rfl)) d_R_kthLeast_6 ⟨by decide, by decide⟩) hS (fun q h => h) (fun _ _ h => h.2.1) (fun v H locs hv hS => ?_)
  obtain ⟨rfl, hfr, hP⟩ := hv
  refine W.eq (g2 := F0 m 9 ls []) rfl ?_
  have hP : va_P D vwCl [(y 3, .inr (1, [.int (nI a), .int (nI b), .int f2, .int f3, .int f4, .int f5]))] H := hP
  have hD : va_D (fun q => q = y 3) [(y 3, .inr (1, [.int (nI a), .int (nI b), .int f2, .int f3, .int f4, .int f5]))] := va_D.one rfl
  have hR := hR0.rd hS hRd
  refine lv_iload_n hx hb d_R_kthLeast_9 rfl (lv_at hl 3 rfl) ?_
  refine lv_istore (lv' := [(4, .int (nI k)), (0, .ref (y 0)), (1, .int (nI a)), (2, .int (nI b)), (3, .int (nI k))]) hx hb d_R_kthLeast_10 hl (by decide) rfl (fun ls hl => ?_)
  refine lv_iconst (v := 0) hx hb d_R_kthLeast_12 (by decide) ?_
  refine lv_istore (lv' := [(5, .int 0), (4, .int (nI k)), (0, .ref (y 0)), (1, .int (nI a)), (2, .int (nI b)), (3, .int (nI k))]) hx hb d_R_kthLeast_13 hl (by decide) rfl (fun ls hl => ?_)
  refine lv_iconst (v := 0) hx hb d_R_kthLeast_15 (by decide) ?_
  refine lv_istore (lv' := [(6, .int 0), (5, .int 0), (4, .int (nI k)), (0, .ref (y 0)), (1, .int (nI a)), (2, .int (nI b)), (3, .int (nI k))]) hx hb d_R_kthLeast_16 hl (by decide) rfl (fun ls hl => ?_)
  have loop : ∀ (n : Nat) (i : Nat) (pp : Nat) (u : Nat) (w : Nat) (lf : Nat) (g2 : Int32) (g3 : Int32) (g4 : Int32) (g5 : Int32) (H : Heap) (locs : List Loc) (ls : Array Slot), (i + n = d) → (wI d xs i pp u w B) → (k = wlt d i pp B + lf) → (lf < (wpre d i pp B).length) → (pp < 2 ^ i) → va_S (fun q => q = y 3) s.heap H locs → va_P D vwCl [(y 3, .inr (1, [.int (nI u), .int (nI w), .int g2, .int g3, .int g4, .int g5]))] H → va_D (fun q => q = y 3) [(y 3, .inr (1, [.int (nI u), .int (nI w), .int g2, .int g3, .int g4, .int g5]))] → lv_has ls 8 [(6, .int (nI i)), (5, .int (nI pp)), (4, .int (nI lf)), (0, .ref (y 0)), (1, .int (nI a)), (2, .int (nI b)), (3, .int (nI k))] → W p l e (rmK 4 0 0) s m [.ref (y 0), .int (nI a), .int (nI b), .int (nI k)].toArray below meth c H locs (0) (0) (MQ below (stQ (fun v H0 H1 => v = some (.int (nI r)) ∧ fr (fun q => q = y 3) H0 H1 ∧ ∃ u g2 g3 g4 g5, u + cEq B r ≤ 1000 ∧ va_P D vwCl (Pw (y 3) (nI u) (nI (u + cEq B r)) g2 g3 g4 g5) H1)) [.ref (y 0), .int (nI a), .int (nI b), .int (nI k)].toArray s 0 0 (fun q => q = y 3)) (F0 m 18 ls []) := by
    intro n
    induction n with
    | zero =>
      intro i pp u w lf g2 g3 g4 g5 H locs ls hin hI hk1 hk2 hpp hS hP hD hl
      have hR := hR0.rd hS hRd
      have hid : i = d := by omega
      refine lv_iload hx hb d_R_kthLeast_18 (lv_at hl 0 rfl) ?_
      refine lv_aload_n hx hb d_R_kthLeast_20 rfl (lv_at hl 3 rfl) ?_
      refine va_get (D := D) (ci := 2) (v := .ref (y 7)) (C := n_R) (T := f_R) (N := 10) hx hb hts in_R hown hK hR 0 rfl rfl 1 (by decide) (hts _ x_83) (fun _ h9 => h9) rfl d_R_kthLeast_21 ?_
      refine va_alen hx hb hK hR 1 3 rfl rfl (v := nI (d)) rfl d_R_kthLeast_24 ?_
      refine lv_icmp_ge (tgt := 106) hx hb d_R_kthLeast_25 (by decide) (fun _ => ?_) (fun c9 => absurd (nI_le (by omega) (by omega)) c9)
      subst hid
      have hr2 : r = pp := hkr.uniq (kth.of_pre hk1 hk2)
      subst hr2
      have hI2 := hI.len
      rw [wpre_d] at hI2
      have hw : va_P D vwCl (Pw (y 3) (nI u) (nI (u + cEq B r)) g2 g3 g4 g5) H := by
        have e9 : u + cEq B r = w := hI2.1
        rw [e9]; exact hP
      have hle : u + cEq B r ≤ 1000 := by have e9 : u + cEq B r = w := hI2.1; omega
      refine lv_iload hx hb d_R_kthLeast_106 (lv_at hl 1 rfl) ?_
      exact W.iret (v := nI r) hx hb hr (fun t ht hW => ⟨_, rfl, by rw [ht]; exact ⟨rfl, fr.of hS, u, g2, g3, g4, g5, hle, hw⟩⟩) hS.2.2 d_R_kthLeast_108
    | succ n ih =>
      intro i pp u w lf g2 g3 g4 g5 H locs ls hin hI hk1 hk2 hpp hS hP hD hl
      have hR := hR0.rd hS hRd
      have hid : i < d := by omega
      obtain ⟨ja, oa, z, ok, hL0⟩ := hpre.1.2 i hid
      have hlen := wL_len d xs i
      have hLd : ∀ (k : Nat) (q : Nat × va_E), (Lw cJ cS (y (8 + 3 * i)) (y (9 + 3 * i)) (y (10 + 3 * i)) ja oa z)[k]? = some q → ¬ q.1 = y 3 := Lk.off hy hid (by omega)
      have hL := hL0.rd hS hLd
      have hI2 := hI.len
      have hcnt := hI.cnt hid
      have hsp := wpre_split (p := pp) hid B
      have h2i : 2 ^ (i + 1) = 2 * 2 ^ i := by rw [Nat.pow_succ, Nat.mul_comm]
      have h2j : 2 ^ i ≤ 65536 := show 2 ^ i ≤ 2 ^ 16 from Nat.pow_le_pow_right (by omega) (by omega)
      have hwl : (wpre d i pp B).length ≤ B.length := List.length_filter_le _ _
      refine lv_iload hx hb d_R_kthLeast_18 (lv_at hl 0 rfl) ?_
      refine lv_aload_n hx hb d_R_kthLeast_20 rfl (lv_at hl 3 rfl) ?_
      refine va_get (D := D) (ci := 2) (v := .ref (y 7)) (C := n_R) (T := f_R) (N := 10) hx hb hts in_R hown hK hR 0 rfl rfl 1 (by decide) (hts _ x_83) (fun _ h9 => h9) rfl d_R_kthLeast_21 ?_
      refine va_alen hx hb hK hR 1 3 rfl rfl (v := nI (d)) rfl d_R_kthLeast_24 ?_
      refine lv_icmp_ge (tgt := 106) hx hb d_R_kthLeast_25 (by decide) (fun c9 => absurd c9 (nI_ge (by omega) (by omega))) (fun _ => ?_)
      refine lv_aload_n hx hb d_R_kthLeast_28 rfl (lv_at hl 3 rfl) ?_
      refine va_get (D := D) (ci := 2) (v := .ref (y 3)) (C := n_R) (T := f_R) (N := 10) hx hb hts in_R hown hK hR 0 rfl rfl 6 (by decide) (hts _ x_88) (fun _ h9 => h9) rfl d_R_kthLeast_29 ?_
      refine lv_aload_n hx hb d_R_kthLeast_32 rfl (lv_at hl 3 rfl) ?_
      refine va_get (D := D) (ci := 2) (v := .ref (y 7)) (C := n_R) (T := f_R) (N := 10) hx hb hts in_R hown hK hR 0 rfl rfl 1 (by decide) (hts _ x_83) (fun _ h9 => h9) rfl d_R_kthLeast_33 ?_
      refine lv_iload hx hb d_R_kthLeast_36 (lv_at hl 0 rfl) ?_
      refine va_aldq hx hb hK hR 1 3 rfl rfl (vp_in_nI (by omega) (by omega)) d_R_kthLeast_38 ?_
      refine ct_topv (v' := .ref (y (8 + 3 * i))) (congrArg (fun j => Value.ref (y (8 + 3 * j))) (nI_clamp (by omega))) ?_
      refine cm_ret (va_runV (As := [.ref (y (8 + 3 * i))]) (rest := []) ⟨hx, hb, hml, hown, hts⟩ (m_P_split ok (by rw [hlen]; exact hx9) (u) (w) (by rw [hlen]; omega) (by rw [hlen]; omega) (hy.2 3 (by omega)) (hy.ne (i := 8 + 3 * i) (j := 3) (by omega) (by omega) (by omega)) (hy.ne (i := 9 + 3 * i) (j := 3) (by omega) (by omega) (by omega)) (hy.ne (i := 10 + 3 * i) (j := 3) (by omega) (by omega) (by omega))) ⟨ct_cb 1 hts x_322 x_319 x_2 rfl rfl (by decide +kernel) ⟨by decide, by decide⟩, hts _ x_320, hts _ x_321⟩ ⟨st_blind, va_recv hK hP (ci := 1) (q0 := 0) rfl rfl, fun U hU hW => ⟨rfl, hE.at hS hAB hU hW, by rw [hU]; exact ⟨hP, hL⟩⟩⟩ rfl rfl hl.1 rfl (lv_room (Nat.le_of_ble_eq_true rfl)) d_R_kthLeast_39 ⟨by decide, by decide⟩) hS (fun q h => h) (fun _ _ h => h.2.1) (fun v H locs hv hS => ?_)
      obtain ⟨rfl, hfr, hP⟩ := hv
      refine W.eq (g2 := F0 m 42 ls []) rfl ?_
      rw [hlen] at hP
      have hP : va_P D vwCl [(y 3, .inr (1, [.int (nI (u)), .int (nI (w)), .int (nI (z0 (wt d i) (wL d xs i) (u))), .int (nI (z0 (wt d i) (wL d xs i) (w))), .int (nI (z0 (wt d i) (wL d xs i) xs.length + z1 (wt d i) (wL d xs i) (u))), .int (nI (z0 (wt d i) (wL d xs i) xs.length + z1 (wt d i) (wL d xs i) (w)))]))] H := hP
      have hD : va_D (fun q => q = y 3) [(y 3, .inr (1, [.int (nI (u)), .int (nI (w)), .int (nI (z0 (wt d i) (wL d xs i) (u))), .int (nI (z0 (wt d i) (wL d xs i) (w))), .int (nI (z0 (wt d i) (wL d xs i) xs.length + z1 (wt d i) (wL d xs i) (u))), .int (nI (z0 (wt d i) (wL d xs i) xs.length + z1 (wt d i) (wL d xs i) (w)))]))] := va_D.one rfl
      have hR := hR0.rd hS hRd
      have hL := hL0.rd hS hLd
      refine lv_iload hx hb d_R_kthLeast_42 (lv_at hl 2 rfl) ?_
      refine lv_aload_n hx hb d_R_kthLeast_44 rfl (lv_at hl 3 rfl) ?_
      refine va_get (D := D) (ci := 2) (v := .ref (y 3)) (C := n_R) (T := f_R) (N := 10) hx hb hts in_R hown hK hR 0 rfl rfl 6 (by decide) (hts _ x_88) (fun _ h9 => h9) rfl d_R_kthLeast_45 ?_
      refine cm_read (va_runV (As := []) (rest := [.int (nI lf)]) ⟨hx, hb, hml, hown, hts⟩ (m_P_zeros) ⟨ct_cb 0 hts x_371 x_368 x_2 rfl rfl (by decide +kernel) ⟨by decide, by decide⟩, hts _ x_369, hts _ x_370⟩ ⟨st_blind, va_recv hK hP (ci := 1) (q0 := 0) rfl rfl, fun U hU hW => ⟨rfl, hE.at hS hAB hU hW, by rw [hU]; exact hP⟩⟩ rfl rfl hl.1 rfl (lv_room (Nat.le_of_ble_eq_true rfl)) d_R_kthLeast_48 ⟨by decide, by decide⟩) (fun v hv => ?_)
      subst hv
      refine W.eq (g2 := F0 m 51 ls [.int (nI (z0 (wt d i) (wL d xs i) (w)) - nI (z0 (wt d i) (wL d xs i) (u))), .int (nI lf)]) rfl ?_
      refine ct_topi (x' := nI (wpre d (i + 1) (2 * pp) B).length) (by rw [pk_sub (by omega)]; congr 1; omega) ?_
      rcases Nat.lt_or_ge lf (wpre d (i + 1) (2 * pp) B).length with hlt | hge
      · refine lv_icmp_ge (tgt := 58) hx hb d_R_kthLeast_51 (by decide) (fun c9 => absurd c9 (nI_ge hlt (by omega))) (fun _ => ?_)
        refine lv_iconst (v := 0) hx hb d_R_kthLeast_54 (by decide) ?_
        refine ct_topi (x' := nI 0) (nI_0.symm) ?_
        refine lv_goto (tgt := 59) hx hb d_R_kthLeast_55 (by decide) ?_
        refine lv_istore (lv' := [(7, .int (nI 0)), (6, .int (nI i)), (5, .int (nI pp)), (4, .int (nI lf)), (0, .ref (y 0)), (1, .int (nI a)), (2, .int (nI b)), (3, .int (nI k))]) hx hb d_R_kthLeast_59 hl (by decide) rfl (fun ls hl => ?_)
        refine lv_iload hx hb d_R_kthLeast_61 (lv_at hl 3 rfl) ?_
        refine lv_iload hx hb d_R_kthLeast_63 (lv_at hl 0 rfl) ?_
        refine lv_if_ne (tgt := 72) hx hb d_R_kthLeast_65 (by decide) (fun c9 => absurd (nI_0) c9) (fun _ => ?_)
        refine lv_iconst (v := 0) hx hb d_R_kthLeast_68 (by decide) ?_
        refine lv_goto (tgt := 79) hx hb d_R_kthLeast_69 (by decide) ?_
        refine lv_isub hx hb d_R_kthLeast_79 ?_
        refine ct_topi (x' := nI lf) (Int32.sub_zero _) ?_
        refine lv_istore (lv' := [(4, .int (nI lf)), (7, .int (nI 0)), (6, .int (nI i)), (5, .int (nI pp)), (0, .ref (y 0)), (1, .int (nI a)), (2, .int (nI b)), (3, .int (nI k))]) hx hb d_R_kthLeast_80 hl (by decide) rfl (fun ls hl => ?_)
        refine lv_aload_n hx hb d_R_kthLeast_82 rfl (lv_at hl 4 rfl) ?_
        refine va_get (D := D) (ci := 2) (v := .ref (y 3)) (C := n_R) (T := f_R) (N := 10) hx hb hts in_R hown hK hR 0 rfl rfl 6 (by decide) (hts _ x_88) (fun _ h9 => h9) rfl d_R_kthLeast_83 ?_
        refine lv_iload hx hb d_R_kthLeast_86 (lv_at hl 1 rfl) ?_
        refine cm_ret (va_runV (As := [.int (nI 0)]) (rest := []) ⟨hx, hb, hml, hown, hts⟩ (m_P_enter0) ⟨ct_cb 1 hts x_327 x_324 x_2 rfl rfl (by decide +kernel) ⟨by decide, by decide⟩, hts _ x_325, hts _ x_326⟩ ⟨st_blind, va_recv hK hP (ci := 1) (q0 := 0) rfl rfl, fun U hU hW => ⟨rfl, hE.at hS hAB hU hW, by rw [hU]; exact hP⟩⟩ rfl rfl hl.1 rfl (lv_room (Nat.le_of_ble_eq_true rfl)) d_R_kthLeast_88 ⟨by decide, by decide⟩) hS (fun q h => h) (fun _ _ h => h.2.1) (fun v H locs hv hS => ?_)
        obtain ⟨rfl, hfr, hP⟩ := hv
        refine W.eq (g2 := F0 m 91 ls []) rfl ?_
        have hP : va_P D vwCl [(y 3, .inr (1, [.int (nI (z0 (wt d i) (wL d xs i) (u))), .int (nI (z0 (wt d i) (wL d xs i) (w))), .int (nI (z0 (wt d i) (wL d xs i) (u))), .int (nI (z0 (wt d i) (wL d xs i) (w))), .int (nI (z0 (wt d i) (wL d xs i) xs.length + z1 (wt d i) (wL d xs i) (u))), .int (nI (z0 (wt d i) (wL d xs i) xs.length + z1 (wt d i) (wL d xs i) (w)))]))] H := hP
        have hD : va_D (fun q => q = y 3) [(y 3, .inr (1, [.int (nI (z0 (wt d i) (wL d xs i) (u))), .int (nI (z0 (wt d i) (wL d xs i) (w))), .int (nI (z0 (wt d i) (wL d xs i) (u))), .int (nI (z0 (wt d i) (wL d xs i) (w))), .int (nI (z0 (wt d i) (wL d xs i) xs.length + z1 (wt d i) (wL d xs i) (u))), .int (nI (z0 (wt d i) (wL d xs i) xs.length + z1 (wt d i) (wL d xs i) (w)))]))] := va_D.one rfl
        have hR := hR0.rd hS hRd
        have hL := hL0.rd hS hLd
        refine lv_iload hx hb d_R_kthLeast_91 (lv_at hl 3 rfl) ?_
        refine lv_iconst (v := 1) hx hb d_R_kthLeast_93 (by decide) ?_
        refine lv_ishl hx hb d_R_kthLeast_94 ?_
        refine lv_iload hx hb d_R_kthLeast_95 (lv_at hl 1 rfl) ?_
        refine lv_ior hx hb d_R_kthLeast_97 ?_
        refine ct_topi (x' := nI (2 * pp + 0)) (nI_or1 (by omega) (by omega)) ?_
        refine lv_istore (lv' := [(5, .int (nI (2 * pp + 0))), (4, .int (nI lf)), (7, .int (nI 0)), (6, .int (nI i)), (0, .ref (y 0)), (1, .int (nI a)), (2, .int (nI b)), (3, .int (nI k))]) hx hb d_R_kthLeast_98 hl (by decide) rfl (fun ls hl => ?_)
        refine lv_iinc (v := nI (i + 1)) (lv' := [(6, .int (nI (i + 1))), (5, .int (nI (2 * pp + 0))), (4, .int (nI lf)), (7, .int (nI 0)), (0, .ref (y 0)), (1, .int (nI a)), (2, .int (nI b)), (3, .int (nI k))]) hx hb d_R_kthLeast_100 hl (k := 3) rfl ((nI_succ i).symm) (by decide) rfl (fun ls hl => ?_)
        refine lv_goto (tgt := 18) hx hb d_R_kthLeast_103 (by decide) ?_
        exact ih (i + 1) (2 * pp + 0) _ _ (lf) _ _ _ _ H _ ls (by omega) (hI.zero hid) (by rw [show 2 * pp + 0 = 2 * pp from rfl, wlt_zero hid]; exact hk1) (hlt) (by omega) hS hP hD (lv_sub hl [0, 1, 2, 4, 5, 6, 7] rfl)
      · refine lv_icmp_ge (tgt := 58) hx hb d_R_kthLeast_51 (by decide) (fun _ => ?_) (fun c9 => absurd (nI_le hge (by omega)) c9)
        refine lv_iconst (v := 1) hx hb d_R_kthLeast_58 (by decide) ?_
        refine ct_topi (x' := nI 1) (rfl) ?_
        refine lv_istore (lv' := [(7, .int (nI 1)), (6, .int (nI i)), (5, .int (nI pp)), (4, .int (nI lf)), (0, .ref (y 0)), (1, .int (nI a)), (2, .int (nI b)), (3, .int (nI k))]) hx hb d_R_kthLeast_59 hl (by decide) rfl (fun ls hl => ?_)
        refine lv_iload hx hb d_R_kthLeast_61 (lv_at hl 3 rfl) ?_
        refine lv_iload hx hb d_R_kthLeast_63 (lv_at hl 0 rfl) ?_
        refine lv_if_ne (tgt := 72) hx hb d_R_kthLeast_65 (by decide) (fun _ => ?_) (fun c9 => absurd c9 (by decide))
        refine lv_aload_n hx hb d_R_kthLeast_72 rfl (lv_at hl 4 rfl) ?_
        refine va_get (D := D) (ci := 2) (v := .ref (y 3)) (C := n_R) (T := f_R) (N := 10) hx hb hts in_R hown hK hR 0 rfl rfl 6 (by decide) (hts _ x_88) (fun _ h9 => h9) rfl d_R_kthLeast_73 ?_
        refine cm_read (va_runV (As := []) (rest := [.int (nI lf)]) ⟨hx, hb, hml, hown, hts⟩ (m_P_zeros) ⟨ct_cb 0 hts x_371 x_368 x_2 rfl rfl (by decide +kernel) ⟨by decide, by decide⟩, hts _ x_369, hts _ x_370⟩ ⟨st_blind, va_recv hK hP (ci := 1) (q0 := 0) rfl rfl, fun U hU hW => ⟨rfl, hE.at hS hAB hU hW, by rw [hU]; exact hP⟩⟩ rfl rfl hl.1 rfl (lv_room (Nat.le_of_ble_eq_true rfl)) d_R_kthLeast_76 ⟨by decide, by decide⟩) (fun v hv => ?_)
        subst hv
        refine W.eq (g2 := F0 m 79 ls [.int (nI (z0 (wt d i) (wL d xs i) (w)) - nI (z0 (wt d i) (wL d xs i) (u))), .int (nI lf)]) rfl ?_
        refine ct_topi (x' := nI (wpre d (i + 1) (2 * pp) B).length) (by rw [pk_sub (by omega)]; congr 1; omega) ?_
        refine lv_isub hx hb d_R_kthLeast_79 ?_
        refine ct_topi (x' := nI (lf - (wpre d (i + 1) (2 * pp) B).length)) (pk_sub hge) ?_
        refine lv_istore (lv' := [(4, .int (nI (lf - (wpre d (i + 1) (2 * pp) B).length))), (7, .int (nI 1)), (6, .int (nI i)), (5, .int (nI pp)), (0, .ref (y 0)), (1, .int (nI a)), (2, .int (nI b)), (3, .int (nI k))]) hx hb d_R_kthLeast_80 hl (by decide) rfl (fun ls hl => ?_)
        refine lv_aload_n hx hb d_R_kthLeast_82 rfl (lv_at hl 4 rfl) ?_
        refine va_get (D := D) (ci := 2) (v := .ref (y 3)) (C := n_R) (T := f_R) (N := 10) hx hb hts in_R hown hK hR 0 rfl rfl 6 (by decide) (hts _ x_88) (fun _ h9 => h9) rfl d_R_kthLeast_83 ?_
        refine lv_iload hx hb d_R_kthLeast_86 (lv_at hl 1 rfl) ?_
        refine cm_ret (va_runV (As := [.int (nI 1)]) (rest := []) ⟨hx, hb, hml, hown, hts⟩ (m_P_enter1) ⟨ct_cb 1 hts x_327 x_324 x_2 rfl rfl (by decide +kernel) ⟨by decide, by decide⟩, hts _ x_325, hts _ x_326⟩ ⟨st_blind, va_recv hK hP (ci := 1) (q0 := 0) rfl rfl, fun U hU hW => ⟨rfl, hE.at hS hAB hU hW, by rw [hU]; exact hP⟩⟩ rfl rfl hl.1 rfl (lv_room (Nat.le_of_ble_eq_true rfl)) d_R_kthLeast_88 ⟨by decide, by decide⟩) hS (fun q h => h) (fun _ _ h => h.2.1) (fun v H locs hv hS => ?_)
        obtain ⟨rfl, hfr, hP⟩ := hv
        refine W.eq (g2 := F0 m 91 ls []) rfl ?_
        have hP : va_P D vwCl [(y 3, .inr (1, [.int (nI (z0 (wt d i) (wL d xs i) xs.length + z1 (wt d i) (wL d xs i) (u))), .int (nI (z0 (wt d i) (wL d xs i) xs.length + z1 (wt d i) (wL d xs i) (w))), .int (nI (z0 (wt d i) (wL d xs i) (u))), .int (nI (z0 (wt d i) (wL d xs i) (w))), .int (nI (z0 (wt d i) (wL d xs i) xs.length + z1 (wt d i) (wL d xs i) (u))), .int (nI (z0 (wt d i) (wL d xs i) xs.length + z1 (wt d i) (wL d xs i) (w)))]))] H := hP
        have hD : va_D (fun q => q = y 3) [(y 3, .inr (1, [.int (nI (z0 (wt d i) (wL d xs i) xs.length + z1 (wt d i) (wL d xs i) (u))), .int (nI (z0 (wt d i) (wL d xs i) xs.length + z1 (wt d i) (wL d xs i) (w))), .int (nI (z0 (wt d i) (wL d xs i) (u))), .int (nI (z0 (wt d i) (wL d xs i) (w))), .int (nI (z0 (wt d i) (wL d xs i) xs.length + z1 (wt d i) (wL d xs i) (u))), .int (nI (z0 (wt d i) (wL d xs i) xs.length + z1 (wt d i) (wL d xs i) (w)))]))] := va_D.one rfl
        have hR := hR0.rd hS hRd
        have hL := hL0.rd hS hLd
        refine lv_iload hx hb d_R_kthLeast_91 (lv_at hl 3 rfl) ?_
        refine lv_iconst (v := 1) hx hb d_R_kthLeast_93 (by decide) ?_
        refine lv_ishl hx hb d_R_kthLeast_94 ?_
        refine lv_iload hx hb d_R_kthLeast_95 (lv_at hl 1 rfl) ?_
        refine lv_ior hx hb d_R_kthLeast_97 ?_
        refine ct_topi (x' := nI (2 * pp + 1)) (nI_or1 (by omega) (by omega)) ?_
        refine lv_istore (lv' := [(5, .int (nI (2 * pp + 1))), (4, .int (nI (lf - (wpre d (i + 1) (2 * pp) B).length))), (7, .int (nI 1)), (6, .int (nI i)), (0, .ref (y 0)), (1, .int (nI a)), (2, .int (nI b)), (3, .int (nI k))]) hx hb d_R_kthLeast_98 hl (by decide) rfl (fun ls hl => ?_)
        refine lv_iinc (v := nI (i + 1)) (lv' := [(6, .int (nI (i + 1))), (5, .int (nI (2 * pp + 1))), (4, .int (nI (lf - (wpre d (i + 1) (2 * pp) B).length))), (7, .int (nI 1)), (0, .ref (y 0)), (1, .int (nI a)), (2, .int (nI b)), (3, .int (nI k))]) hx hb d_R_kthLeast_100 hl (k := 3) rfl ((nI_succ i).symm) (by decide) rfl (fun ls hl => ?_)
        refine lv_goto (tgt := 18) hx hb d_R_kthLeast_103 (by decide) ?_
        exact ih (i + 1) (2 * pp + 1) _ _ (lf - (wpre d (i + 1) (2 * pp) B).length) _ _ _ _ H _ ls (by omega) (hI.one hid) (by rw [wlt_one hid]; omega) (by omega) (by omega) hS hP hD (lv_sub hl [0, 1, 2, 4, 5, 6, 7] rfl)
  exact loop d 0 0 a b k _ _ _ _ H _ ls (by omega) (by rw [hB]; exact wI.start hab hbx ok0.lt) (by rw [wlt_0]; omega) (by rw [wpre_0 (fun x h => ok0.lt x (List.mem_of_mem_drop (List.mem_of_mem_take (hB ▸ h))))]; exact hkl) (by decide) hS hP hD (lv_sub hl [0, 1, 2, 3, 4, 5, 6] rfl)
set_option maxHeartbeats 4000000 in
set_option maxRecDepth 100000 in
theorem m_R_howManyBelow {l : Launch} {D : va_G} {cI cJ cS cO : ClassId} {B0 : Nat} {y : Nat → Nat} {sg d : Nat} {xs ws : List Nat} (hy : yI B0 y d) (ok0 : Ok sg d xs ws) {a b : Nat} (hab : a ≤ b) (hbx : b ≤ xs.length) {B : List Nat} (hB : B = (xs.drop a).take (b - a)) (x : Int32) : CM l D (tyL cI cJ cS cO) B0 y_R_howManyBelow c_R_howManyBelow 7 (some .int) (rmK 4 0 0) [.ref (y 0), .int (nI a), .int (nI b), .int x] (fun H => RL D cJ cS cO y sg d xs ws.length H ∧ PP D (y 3) H) (fun v H0 H1 => v = some (.int (nI (cLt B x.toNatClampNeg))) ∧ fr (fun q => q = y 3) H0 H1 ∧ PP D (y 3) H1) 0 0 (fun q => q = y 3) := by
  refine cm_of (by decide) (Nat.le_of_ble_eq_true rfl) ?_
  intro p e s m below meth c ls hx hb hr hml hown hts hlocks hnm hE hpre hl
  have hown : s.vm.findClass "LevelRows" = some m.cls := hown
  have hK := hE.1
  have hl : lv_has ls 7 [(0, .ref (y 0)), (1, .int (nI a)), (2, .int (nI b)), (3, .int x)] := hl
  have hS : va_S (fun q => q = y 3) s.heap s.heap [] := va_S.rf
  have hR0 := hpre.1.1
  have hRd : ∀ (k : Nat) (q : Nat × va_E), (Rw cO y (nI sg) d (nI xs.length) (nI ws.length))[k]? = some q → ¬ q.1 = y 3 := Rw.off hy (by omega) (by omega)
  have hR := hR0
  have hAB : ∀ q : Nat, q = y 3 → B0 ≤ q := fun q h => by rw [h]; exact hy.2 3 (by omega)
  have hd16 := ok0.d16
  have hx9 := ok0.len
  have hp16 := ok0.p16
  have hBl : B.length = b - a := by rw [hB, List.length_take, List.length_drop]; omega
  have hBm : ∀ x ∈ B, x ∈ xs := fun x h => List.mem_of_mem_drop (List.mem_of_mem_take (hB ▸ h))
  have hsg := ok0.2.1
  obtain ⟨f0, f1, f2, f3, f4, f5, hP⟩ := hpre.2
  have hP : va_P D vwCl [(y 3, .inr (1, [.int f0, .int f1, .int f2, .int f3, .int f4, .int f5]))] s.heap := hP
  have hD : va_D (fun q => q = y 3) [(y 3, .inr (1, [.int f0, .int f1, .int f2, .int f3, .int f4, .int f5]))] := va_D.one rfl
  refine lv_iload_n hx hb d_R_howManyBelow_0 rfl (lv_at hl 3 rfl) ?_
  refine lv_if_gt (tgt := 6) hx hb d_R_howManyBelow_1 (by decide) (fun hx0 => ?_) (fun hx0 => ?_)
  · obtain ⟨vv, hv31, rfl⟩ : ∃ j : Nat, j < 2 ^ 31 ∧ x = nI j := nI_of (fun h => absurd hx0 (Int32.not_lt.mpr (Int32.le_of_lt h)))
    refine lv_iload_n hx hb d_R_howManyBelow_6 rfl (lv_at hl 3 rfl) ?_
    refine lv_aload_n hx hb d_R_howManyBelow_7 rfl (lv_at hl 0 rfl) ?_
    refine va_get (D := D) (ci := 2) (v := .int (nI sg)) (C := n_R) (T := f_R) (N := 10) hx hb hts in_R hown hK hR 0 rfl rfl 0 (by decide) (hts _ x_82) (fun _ h9 => h9) rfl d_R_howManyBelow_8 ?_
    rcases Nat.lt_or_ge vv sg with hvs | hvs
    · refine lv_icmp_lt (tgt := 18) hx hb d_R_howManyBelow_11 (by decide) (fun _ => ?_) (fun c9 => absurd (nI_lt hvs (by omega)) c9)
      have hvd : vv < 2 ^ d := Nat.lt_of_lt_of_le hvs ok0.2.2.1
      refine lv_aload_n hx hb d_R_howManyBelow_18 rfl (lv_at hl 0 rfl) ?_
      refine va_get (D := D) (ci := 2) (v := .ref (y 3)) (C := n_R) (T := f_R) (N := 10) hx hb hts in_R hown hK hR 0 rfl rfl 6 (by decide) (hts _ x_88) (fun _ h9 => h9) rfl d_R_howManyBelow_19 ?_
      refine lv_iload_n hx hb d_R_howManyBelow_22 rfl (lv_at hl 1 rfl) ?_
      refine lv_iload_n hx hb d_R_howManyBelow_23 rfl (lv_at hl 2 rfl) ?_
      refine cm_ret (va_runV (As := [.int (nI a), .int (nI b)]) (rest := []) ⟨hx, hb, hml, hown, hts⟩ (m_P_span (nI a) (nI b)) ⟨ct_cb 2 hts x_314 x_311 x_2 rfl rfl (by decide +kernel) ⟨by decide, by decide⟩, hts _ x_312, hts _ x_313⟩ ⟨st_blind, va_recv hK hP (ci := 1) (q0 := 0) rfl rfl, fun U hU hW => ⟨rfl, hE.at hS hAB hU hW, by rw [hU]; exact hP⟩⟩ rfl rfl hl.1 rfl (lv_room (Nat.le_of_ble_eq_true rfl)) d_R_howManyBelow_24 ⟨by decide, by decide⟩) hS (fun q h => h) (fun _ _ h => h.2.1) (fun v H locs hv hS => ?_)
      obtain ⟨rfl, hfr, hP⟩ := hv
      refine W.eq (g2 := F0 m 27 ls []) rfl ?_
      have hP : va_P D vwCl [(y 3, .inr (1, [.int (nI a), .int (nI b), .int f2, .int f3, .int f4, .int f5]))] H := hP
      have hD : va_D (fun q => q = y 3) [(y 3, .inr (1, [.int (nI a), .int (nI b), .int f2, .int f3, .int f4, .int f5]))] := va_D.one rfl
      have hR := hR0.rd hS hRd
      refine lv_iconst (v := 0) hx hb d_R_howManyBelow_27 (by decide) ?_
      refine lv_istore (lv' := [(4, .int 0), (0, .ref (y 0)), (1, .int (nI a)), (2, .int (nI b)), (3, .int (nI vv))]) hx hb d_R_howManyBelow_28 hl (by decide) rfl (fun ls hl => ?_)
      refine lv_iconst (v := 0) hx hb d_R_howManyBelow_30 (by decide) ?_
      refine lv_istore (lv' := [(5, .int 0), (4, .int 0), (0, .ref (y 0)), (1, .int (nI a)), (2, .int (nI b)), (3, .int (nI vv))]) hx hb d_R_howManyBelow_31 hl (by decide) rfl (fun ls hl => ?_)
      have loop : ∀ (n : Nat) (i : Nat) (g2 : Int32) (g3 : Int32) (g4 : Int32) (g5 : Int32) (H : Heap) (locs : List Loc) (ls : Array Slot), (i + n = d) → va_S (fun q => q = y 3) s.heap H locs → va_P D vwCl [(y 3, .inr (1, [.int (nI (wdn d xs vv i a)), .int (nI (wdn d xs vv i b)), .int g2, .int g3, .int g4, .int g5]))] H → va_D (fun q => q = y 3) [(y 3, .inr (1, [.int (nI (wdn d xs vv i a)), .int (nI (wdn d xs vv i b)), .int g2, .int g3, .int g4, .int g5]))] → lv_has ls 7 [(5, .int (nI i)), (4, .int (nI (wlt d i (vv / 2 ^ (d - i)) B))), (0, .ref (y 0)), (1, .int (nI a)), (2, .int (nI b)), (3, .int (nI vv))] → W p l e (rmK 4 0 0) s m [.ref (y 0), .int (nI a), .int (nI b), .int (nI vv)].toArray below meth c H locs (0) (0) (MQ below (stQ (fun v H0 H1 => v = some (.int (nI (cLt B (nI vv).toNatClampNeg))) ∧ fr (fun q => q = y 3) H0 H1 ∧ PP D (y 3) H1)) [.ref (y 0), .int (nI a), .int (nI b), .int (nI vv)].toArray s 0 0 (fun q => q = y 3)) (F0 m 33 ls []) := by
        intro n
        induction n with
        | zero =>
          intro i g2 g3 g4 g5 H locs ls hin hS hP hD hl
          have hR := hR0.rd hS hRd
          have hid : i = d := by omega
          refine lv_iload hx hb d_R_howManyBelow_33 (lv_at hl 0 rfl) ?_
          refine lv_aload_n hx hb d_R_howManyBelow_35 rfl (lv_at hl 2 rfl) ?_
          refine va_get (D := D) (ci := 2) (v := .ref (y 7)) (C := n_R) (T := f_R) (N := 10) hx hb hts in_R hown hK hR 0 rfl rfl 1 (by decide) (hts _ x_83) (fun _ h9 => h9) rfl d_R_howManyBelow_36 ?_
          refine va_alen hx hb hK hR 1 3 rfl rfl (v := nI (d)) rfl d_R_howManyBelow_39 ?_
          refine lv_icmp_ge (tgt := 105) hx hb d_R_howManyBelow_40 (by decide) (fun _ => ?_) (fun c9 => absurd (nI_le (by omega) (by omega)) c9)
          subst hid
          refine lv_iload hx hb d_R_howManyBelow_105 (lv_at hl 1 rfl) ?_
          refine ct_topi (x' := nI (cLt B (nI vv).toNatClampNeg)) (by rw [nI_clamp hv31, wlt_d, Nat.sub_self, Nat.pow_zero, Nat.div_one]; rfl) ?_
          exact W.iret (v := nI (cLt B (nI vv).toNatClampNeg)) hx hb hr (fun t ht hW => ⟨_, rfl, by rw [ht]; exact ⟨rfl, fr.of hS, _, _, _, _, _, _, hP⟩⟩) hS.2.2 d_R_howManyBelow_107
        | succ n ih =>
          intro i g2 g3 g4 g5 H locs ls hin hS hP hD hl
          have hR := hR0.rd hS hRd
          have hid : i < d := by omega
          obtain ⟨ja, oa, z, ok, hL0⟩ := hpre.1.2 i hid
          have hlen := wL_len d xs i
          have hLd : ∀ (k : Nat) (q : Nat × va_E), (Lw cJ cS (y (8 + 3 * i)) (y (9 + 3 * i)) (y (10 + 3 * i)) ja oa z)[k]? = some q → ¬ q.1 = y 3 := Lk.off hy hid (by omega)
          have hL := hL0.rd hS hLd
          have hI := wdn_I hvd hab hbx ok0.lt i (by omega)
          have hI2 := hI.len
          rw [← hB] at hI
          have hcnt := hI.cnt hid
          refine lv_iload hx hb d_R_howManyBelow_33 (lv_at hl 0 rfl) ?_
          refine lv_aload_n hx hb d_R_howManyBelow_35 rfl (lv_at hl 2 rfl) ?_
          refine va_get (D := D) (ci := 2) (v := .ref (y 7)) (C := n_R) (T := f_R) (N := 10) hx hb hts in_R hown hK hR 0 rfl rfl 1 (by decide) (hts _ x_83) (fun _ h9 => h9) rfl d_R_howManyBelow_36 ?_
          refine va_alen hx hb hK hR 1 3 rfl rfl (v := nI (d)) rfl d_R_howManyBelow_39 ?_
          refine lv_icmp_ge (tgt := 105) hx hb d_R_howManyBelow_40 (by decide) (fun c9 => absurd c9 (nI_ge (by omega) (by omega))) (fun _ => ?_)
          refine lv_aload_n hx hb d_R_howManyBelow_43 rfl (lv_at hl 2 rfl) ?_
          refine va_get (D := D) (ci := 2) (v := .ref (y 3)) (C := n_R) (T := f_R) (N := 10) hx hb hts in_R hown hK hR 0 rfl rfl 6 (by decide) (hts _ x_88) (fun _ h9 => h9) rfl d_R_howManyBelow_44 ?_
          refine lv_aload_n hx hb d_R_howManyBelow_47 rfl (lv_at hl 2 rfl) ?_
          refine va_get (D := D) (ci := 2) (v := .ref (y 7)) (C := n_R) (T := f_R) (N := 10) hx hb hts in_R hown hK hR 0 rfl rfl 1 (by decide) (hts _ x_83) (fun _ h9 => h9) rfl d_R_howManyBelow_48 ?_
          refine lv_iload hx hb d_R_howManyBelow_51 (lv_at hl 0 rfl) ?_
          refine va_aldq hx hb hK hR 1 3 rfl rfl (vp_in_nI (by omega) (by omega)) d_R_howManyBelow_53 ?_
          refine ct_topv (v' := .ref (y (8 + 3 * i))) (congrArg (fun j => Value.ref (y (8 + 3 * j))) (nI_clamp (by omega))) ?_
          refine cm_ret (va_runV (As := [.ref (y (8 + 3 * i))]) (rest := []) ⟨hx, hb, hml, hown, hts⟩ (m_P_split ok (by rw [hlen]; exact hx9) (wdn d xs vv i a) (wdn d xs vv i b) (by rw [hlen]; omega) (by rw [hlen]; omega) (hy.2 3 (by omega)) (hy.ne (i := 8 + 3 * i) (j := 3) (by omega) (by omega) (by omega)) (hy.ne (i := 9 + 3 * i) (j := 3) (by omega) (by omega) (by omega)) (hy.ne (i := 10 + 3 * i) (j := 3) (by omega) (by omega) (by omega))) ⟨ct_cb 1 hts x_322 x_319 x_2 rfl rfl (by decide +kernel) ⟨by decide, by decide⟩, hts _ x_320, hts _ x_321⟩ ⟨st_blind, va_recv hK hP (ci := 1) (q0 := 0) rfl rfl, fun U hU hW => ⟨rfl, hE.at hS hAB hU hW, by rw [hU]; exact ⟨hP, hL⟩⟩⟩ rfl rfl hl.1 rfl (lv_room (Nat.le_of_ble_eq_true rfl)) d_R_howManyBelow_54 ⟨by decide, by decide⟩) hS (fun q h => h) (fun _ _ h => h.2.1) (fun v H locs hv hS => ?_)
          obtain ⟨rfl, hfr, hP⟩ := hv
          refine W.eq (g2 := F0 m 57 ls []) rfl ?_
          rw [hlen] at hP
          have hP : va_P D vwCl [(y 3, .inr (1, [.int (nI (wdn d xs vv i a)), .int (nI (wdn d xs vv i b)), .int (nI (z0 (wt d i) (wL d xs i) (wdn d xs vv i a))), .int (nI (z0 (wt d i) (wL d xs i) (wdn d xs vv i b))), .int (nI (z0 (wt d i) (wL d xs i) xs.length + z1 (wt d i) (wL d xs i) (wdn d xs vv i a))), .int (nI (z0 (wt d i) (wL d xs i) xs.length + z1 (wt d i) (wL d xs i) (wdn d xs vv i b)))]))] H := hP
          have hD : va_D (fun q => q = y 3) [(y 3, .inr (1, [.int (nI (wdn d xs vv i a)), .int (nI (wdn d xs vv i b)), .int (nI (z0 (wt d i) (wL d xs i) (wdn d xs vv i a))), .int (nI (z0 (wt d i) (wL d xs i) (wdn d xs vv i b))), .int (nI (z0 (wt d i) (wL d xs i) xs.length + z1 (wt d i) (wL d xs i) (wdn d xs vv i a))), .int (nI (z0 (wt d i) (wL d xs i) xs.length + z1 (wt d i) (wL d xs i) (wdn d xs vv i b)))]))] := va_D.one rfl
          have hR := hR0.rd hS hRd
          have hL := hL0.rd hS hLd
          refine lv_iload_n hx hb d_R_howManyBelow_57 rfl (lv_at hl 5 rfl) ?_
          refine lv_aload_n hx hb d_R_howManyBelow_58 rfl (lv_at hl 2 rfl) ?_
          refine lv_iload hx hb d_R_howManyBelow_59 (lv_at hl 0 rfl) ?_
          refine cm_read (va_runV (As := [.int (nI i)]) (rest := [.int (nI vv)]) ⟨hx, hb, hml, hown, hts⟩ (m_R_shiftOf (xs := xs) (sg := sg) (wa := ws.length) hid hd16) ⟨ct_cb 1 hts x_151 x_148 x_1 rfl rfl (by decide +kernel) ⟨by decide, by decide⟩, hts _ x_150, hts _ s_R_shiftOf⟩ ⟨st_blind, va_recv hK hR (ci := 2) (q0 := 0) rfl rfl, fun U hU hW => ⟨rfl, hE.at hS hAB hU hW, by rw [hU]; exact RL.fr hy hpre.1 (fr.of hS) (fun q _ h => ⟨3, by omega, by omega, h⟩)⟩⟩ rfl rfl hl.1 rfl (lv_room (Nat.le_of_ble_eq_true rfl)) d_R_howManyBelow_61 ⟨by decide, by decide⟩) (fun v hv => ?_)
          subst hv
          refine W.eq (g2 := F0 m 64 ls [.int (nI (d - 1 - i)), .int (nI vv)]) rfl ?_
          refine lv_ishr hx hb d_R_howManyBelow_64 ?_
          refine ct_topi (x' := nI (vv / 2 ^ (d - 1 - i))) (sh_bit (by omega) (by omega)) ?_
          refine lv_iconst (v := 1) hx hb d_R_howManyBelow_65 (by decide) ?_
          refine lv_iand hx hb d_R_howManyBelow_66 ?_
          refine ct_topi (x' := nI (vv / 2 ^ (d - 1 - i) % 2)) (nI_and1 _) ?_
          have hwb := wt_bit (x := vv) hid
          cases hbt : wt d i vv with
          | false =>
            rw [hbt] at hwb
            have hb0 : vv / 2 ^ (d - 1 - i) % 2 = 0 := by have := of_decide_eq_false hbt; omega
            refine ct_topi (x' := nI 0) (by rw [hb0]) ?_
            refine lv_istore (lv' := [(6, .int (nI 0)), (5, .int (nI i)), (4, .int (nI (wlt d i (vv / 2 ^ (d - i)) B))), (0, .ref (y 0)), (1, .int (nI a)), (2, .int (nI b)), (3, .int (nI vv))]) hx hb d_R_howManyBelow_67 hl (by decide) rfl (fun ls hl => ?_)
            refine lv_iload hx hb d_R_howManyBelow_69 (lv_at hl 2 rfl) ?_
            refine lv_iload hx hb d_R_howManyBelow_71 (lv_at hl 0 rfl) ?_
            refine lv_if_ne (tgt := 80) hx hb d_R_howManyBelow_73 (by decide) (fun c9 => absurd (nI_0) c9) (fun _ => ?_)
            refine lv_iconst (v := 0) hx hb d_R_howManyBelow_76 (by decide) ?_
            refine lv_goto (tgt := 87) hx hb d_R_howManyBelow_77 (by decide) ?_
            refine lv_iadd hx hb d_R_howManyBelow_87 ?_
            refine ct_topi (x' := nI (wlt d (i + 1) (vv / 2 ^ (d - (i + 1))) B)) ((Int32.add_zero _).trans (congrArg nI (by rw [hwb, if_neg Bool.false_ne_true]; exact (wlt_zero hid B).symm))) ?_
            refine lv_istore (lv' := [(4, .int (nI (wlt d (i + 1) (vv / 2 ^ (d - (i + 1))) B))), (6, .int (nI 0)), (5, .int (nI i)), (0, .ref (y 0)), (1, .int (nI a)), (2, .int (nI b)), (3, .int (nI vv))]) hx hb d_R_howManyBelow_88 hl (by decide) rfl (fun ls hl => ?_)
            refine lv_aload_n hx hb d_R_howManyBelow_90 rfl (lv_at hl 3 rfl) ?_
            refine va_get (D := D) (ci := 2) (v := .ref (y 3)) (C := n_R) (T := f_R) (N := 10) hx hb hts in_R hown hK hR 0 rfl rfl 6 (by decide) (hts _ x_88) (fun _ h9 => h9) rfl d_R_howManyBelow_91 ?_
            refine lv_iload hx hb d_R_howManyBelow_94 (lv_at hl 1 rfl) ?_
            refine cm_ret (va_runV (As := [.int (nI 0)]) (rest := []) ⟨hx, hb, hml, hown, hts⟩ (m_P_enter0) ⟨ct_cb 1 hts x_327 x_324 x_2 rfl rfl (by decide +kernel) ⟨by decide, by decide⟩, hts _ x_325, hts _ x_326⟩ ⟨st_blind, va_recv hK hP (ci := 1) (q0 := 0) rfl rfl, fun U hU hW => ⟨rfl, hE.at hS hAB hU hW, by rw [hU]; exact hP⟩⟩ rfl rfl hl.1 rfl (lv_room (Nat.le_of_ble_eq_true rfl)) d_R_howManyBelow_96 ⟨by decide, by decide⟩) hS (fun q h => h) (fun _ _ h => h.2.1) (fun v H locs hv hS => ?_)
            obtain ⟨rfl, hfr, hP⟩ := hv
            refine W.eq (g2 := F0 m 99 ls []) rfl ?_
            have hP : va_P D vwCl [(y 3, .inr (1, [.int (nI (z0 (wt d i) (wL d xs i) (wdn d xs vv i a))), .int (nI (z0 (wt d i) (wL d xs i) (wdn d xs vv i b))), .int (nI (z0 (wt d i) (wL d xs i) (wdn d xs vv i a))), .int (nI (z0 (wt d i) (wL d xs i) (wdn d xs vv i b))), .int (nI (z0 (wt d i) (wL d xs i) xs.length + z1 (wt d i) (wL d xs i) (wdn d xs vv i a))), .int (nI (z0 (wt d i) (wL d xs i) xs.length + z1 (wt d i) (wL d xs i) (wdn d xs vv i b)))]))] H := hP
            have hD : va_D (fun q => q = y 3) [(y 3, .inr (1, [.int (nI (z0 (wt d i) (wL d xs i) (wdn d xs vv i a))), .int (nI (z0 (wt d i) (wL d xs i) (wdn d xs vv i b))), .int (nI (z0 (wt d i) (wL d xs i) (wdn d xs vv i a))), .int (nI (z0 (wt d i) (wL d xs i) (wdn d xs vv i b))), .int (nI (z0 (wt d i) (wL d xs i) xs.length + z1 (wt d i) (wL d xs i) (wdn d xs vv i a))), .int (nI (z0 (wt d i) (wL d xs i) xs.length + z1 (wt d i) (wL d xs i) (wdn d xs vv i b)))]))] := va_D.one rfl
            have hR := hR0.rd hS hRd
            have hL := hL0.rd hS hLd
            have ea : nI (wdn d xs vv (i + 1) a) = nI (z0 (wt d i) (wL d xs i) (wdn d xs vv i a)) := by simp only [wdn, hbt, if_true, Bool.false_eq_true, if_false]
            have eb : nI (wdn d xs vv (i + 1) b) = nI (z0 (wt d i) (wL d xs i) (wdn d xs vv i b)) := by simp only [wdn, hbt, if_true, Bool.false_eq_true, if_false]
            refine lv_iinc (v := nI (i + 1)) (lv' := [(5, .int (nI (i + 1))), (4, .int (nI (wlt d (i + 1) (vv / 2 ^ (d - (i + 1))) B))), (6, .int (nI 0)), (0, .ref (y 0)), (1, .int (nI a)), (2, .int (nI b)), (3, .int (nI vv))]) hx hb d_R_howManyBelow_99 hl (k := 2) rfl ((nI_succ i).symm) (by decide) rfl (fun ls hl => ?_)
            refine lv_goto (tgt := 33) hx hb d_R_howManyBelow_102 (by decide) ?_
            exact ih (i + 1) _ _ _ _ H _ ls (by omega) hS (by rw [ea, eb]; exact hP) (va_D.one rfl) (lv_sub hl [0, 1, 3, 4, 5, 6] rfl)
          | true =>
            rw [hbt] at hwb
            have hb0 : vv / 2 ^ (d - 1 - i) % 2 = 1 := of_decide_eq_true hbt
            refine ct_topi (x' := nI 1) (by rw [hb0]) ?_
            refine lv_istore (lv' := [(6, .int (nI 1)), (5, .int (nI i)), (4, .int (nI (wlt d i (vv / 2 ^ (d - i)) B))), (0, .ref (y 0)), (1, .int (nI a)), (2, .int (nI b)), (3, .int (nI vv))]) hx hb d_R_howManyBelow_67 hl (by decide) rfl (fun ls hl => ?_)
            refine lv_iload hx hb d_R_howManyBelow_69 (lv_at hl 2 rfl) ?_
            refine lv_iload hx hb d_R_howManyBelow_71 (lv_at hl 0 rfl) ?_
            refine lv_if_ne (tgt := 80) hx hb d_R_howManyBelow_73 (by decide) (fun _ => ?_) (fun c9 => absurd c9 (by decide))
            refine lv_aload_n hx hb d_R_howManyBelow_80 rfl (lv_at hl 3 rfl) ?_
            refine va_get (D := D) (ci := 2) (v := .ref (y 3)) (C := n_R) (T := f_R) (N := 10) hx hb hts in_R hown hK hR 0 rfl rfl 6 (by decide) (hts _ x_88) (fun _ h9 => h9) rfl d_R_howManyBelow_81 ?_
            refine cm_read (va_runV (As := []) (rest := [.int (nI (wlt d i (vv / 2 ^ (d - i)) B))]) ⟨hx, hb, hml, hown, hts⟩ (m_P_zeros) ⟨ct_cb 0 hts x_371 x_368 x_2 rfl rfl (by decide +kernel) ⟨by decide, by decide⟩, hts _ x_369, hts _ x_370⟩ ⟨st_blind, va_recv hK hP (ci := 1) (q0 := 0) rfl rfl, fun U hU hW => ⟨rfl, hE.at hS hAB hU hW, by rw [hU]; exact hP⟩⟩ rfl rfl hl.1 rfl (lv_room (Nat.le_of_ble_eq_true rfl)) d_R_howManyBelow_84 ⟨by decide, by decide⟩) (fun v hv => ?_)
            subst hv
            refine W.eq (g2 := F0 m 87 ls [.int (nI (z0 (wt d i) (wL d xs i) (wdn d xs vv i b)) - nI (z0 (wt d i) (wL d xs i) (wdn d xs vv i a))), .int (nI (wlt d i (vv / 2 ^ (d - i)) B))]) rfl ?_
            refine ct_topi (x' := nI (wpre d (i + 1) (2 * (vv / 2 ^ (d - i))) B).length) (by rw [pk_sub (by omega)]; congr 1; omega) ?_
            refine lv_iadd hx hb d_R_howManyBelow_87 ?_
            refine ct_topi (x' := nI (wlt d (i + 1) (vv / 2 ^ (d - (i + 1))) B)) (by rw [hwb, if_pos rfl, wlt_one hid]; exact nI_add _ _) ?_
            refine lv_istore (lv' := [(4, .int (nI (wlt d (i + 1) (vv / 2 ^ (d - (i + 1))) B))), (6, .int (nI 1)), (5, .int (nI i)), (0, .ref (y 0)), (1, .int (nI a)), (2, .int (nI b)), (3, .int (nI vv))]) hx hb d_R_howManyBelow_88 hl (by decide) rfl (fun ls hl => ?_)
            refine lv_aload_n hx hb d_R_howManyBelow_90 rfl (lv_at hl 3 rfl) ?_
            refine va_get (D := D) (ci := 2) (v := .ref (y 3)) (C := n_R) (T := f_R) (N := 10) hx hb hts in_R hown hK hR 0 rfl rfl 6 (by decide) (hts _ x_88) (fun _ h9 => h9) rfl d_R_howManyBelow_91 ?_
            refine lv_iload hx hb d_R_howManyBelow_94 (lv_at hl 1 rfl) ?_
            refine cm_ret (va_runV (As := [.int (nI 1)]) (rest := []) ⟨hx, hb, hml, hown, hts⟩ (m_P_enter1) ⟨ct_cb 1 hts x_327 x_324 x_2 rfl rfl (by decide +kernel) ⟨by decide, by decide⟩, hts _ x_325, hts _ x_326⟩ ⟨st_blind, va_recv hK hP (ci := 1) (q0 := 0) rfl rfl, fun U hU hW => ⟨rfl, hE.at hS hAB hU hW, by rw [hU]; exact hP⟩⟩ rfl rfl hl.1 rfl (lv_room (Nat.le_of_ble_eq_true rfl)) d_R_howManyBelow_96 ⟨by decide, by decide⟩) hS (fun q h => h) (fun _ _ h => h.2.1) (fun v H locs hv hS => ?_)
            obtain ⟨rfl, hfr, hP⟩ := hv
            refine W.eq (g2 := F0 m 99 ls []) rfl ?_
            have hP : va_P D vwCl [(y 3, .inr (1, [.int (nI (z0 (wt d i) (wL d xs i) xs.length + z1 (wt d i) (wL d xs i) (wdn d xs vv i a))), .int (nI (z0 (wt d i) (wL d xs i) xs.length + z1 (wt d i) (wL d xs i) (wdn d xs vv i b))), .int (nI (z0 (wt d i) (wL d xs i) (wdn d xs vv i a))), .int (nI (z0 (wt d i) (wL d xs i) (wdn d xs vv i b))), .int (nI (z0 (wt d i) (wL d xs i) xs.length + z1 (wt d i) (wL d xs i) (wdn d xs vv i a))), .int (nI (z0 (wt d i) (wL d xs i) xs.length + z1 (wt d i) (wL d xs i) (wdn d xs vv i b)))]))] H := hP
            have hD : va_D (fun q => q = y 3) [(y 3, .inr (1, [.int (nI (z0 (wt d i) (wL d xs i) xs.length + z1 (wt d i) (wL d xs i) (wdn d xs vv i a))), .int (nI (z0 (wt d i) (wL d xs i) xs.length + z1 (wt d i) (wL d xs i) (wdn d xs vv i b))), .int (nI (z0 (wt d i) (wL d xs i) (wdn d xs vv i a))), .int (nI (z0 (wt d i) (wL d xs i) (wdn d xs vv i b))), .int (nI (z0 (wt d i) (wL d xs i) xs.length + z1 (wt d i) (wL d xs i) (wdn d xs vv i a))), .int (nI (z0 (wt d i) (wL d xs i) xs.length + z1 (wt d i) (wL d xs i) (wdn d xs vv i b)))]))] := va_D.one rfl
            have hR := hR0.rd hS hRd
            have hL := hL0.rd hS hLd
            have ea : nI (wdn d xs vv (i + 1) a) = nI (z0 (wt d i) (wL d xs i) xs.length + z1 (wt d i) (wL d xs i) (wdn d xs vv i a)) := by simp only [wdn, hbt, if_true, Bool.false_eq_true, if_false]
            have eb : nI (wdn d xs vv (i + 1) b) = nI (z0 (wt d i) (wL d xs i) xs.length + z1 (wt d i) (wL d xs i) (wdn d xs vv i b)) := by simp only [wdn, hbt, if_true, Bool.false_eq_true, if_false]
            refine lv_iinc (v := nI (i + 1)) (lv' := [(5, .int (nI (i + 1))), (4, .int (nI (wlt d (i + 1) (vv / 2 ^ (d - (i + 1))) B))), (6, .int (nI 1)), (0, .ref (y 0)), (1, .int (nI a)), (2, .int (nI b)), (3, .int (nI vv))]) hx hb d_R_howManyBelow_99 hl (k := 2) rfl ((nI_succ i).symm) (by decide) rfl (fun ls hl => ?_)
            refine lv_goto (tgt := 33) hx hb d_R_howManyBelow_102 (by decide) ?_
            exact ih (i + 1) _ _ _ _ H _ ls (by omega) hS (by rw [ea, eb]; exact hP) (va_D.one rfl) (lv_sub hl [0, 1, 3, 4, 5, 6] rfl)
      have e0 : vv / 2 ^ (d - 0) = 0 := Nat.div_eq_of_lt hvd
      exact loop d 0 _ _ _ _ H _ ls (by omega) hS hP hD (by rw [e0, wlt_0]; exact (lv_sub hl [0, 1, 2, 3, 4, 5] rfl))
    · refine lv_icmp_lt (tgt := 18) hx hb d_R_howManyBelow_11 (by decide) (fun c9 => absurd c9 (nI_nlt hvs (by omega))) (fun _ => ?_)
      refine lv_iload_n hx hb d_R_howManyBelow_14 rfl (lv_at hl 2 rfl) ?_
      refine lv_iload_n hx hb d_R_howManyBelow_15 rfl (lv_at hl 1 rfl) ?_
      refine lv_isub hx hb d_R_howManyBelow_16 ?_
      refine ct_topi (x' := nI (b - a)) (pk_sub hab) ?_
      exact W.iret (v := nI (b - a)) hx hb hr (fun t ht hW => ⟨_, rfl, by rw [ht]; exact ⟨by rw [nI_clamp hv31, cLt_all (fun x h => Nat.lt_of_lt_of_le (ok0.2.2.2.2.2.2.1 x (hBm x h)) hvs), hBl], fr.of hS, _, _, _, _, _, _, hP⟩⟩) hS.2.2 d_R_howManyBelow_17
  · refine lv_iconst (v := 0) hx hb d_R_howManyBelow_4 (by decide) ?_
    have hz : x.toNatClampNeg = 0 := by
      have h1 := Int32.not_lt.mp hx0
      have h2 := Int32.le_iff_toInt_le.mp h1
      have h3 : (0 : Int32).toInt = 0 := by decide
      show x.toInt.toNat = 0
      omega
    exact W.iret (v := 0) hx hb hr (fun t ht hW => ⟨_, rfl, by rw [ht]; exact ⟨by rw [hz, cLt_0]; rfl, fr.of hS, _, _, _, _, _, _, hP⟩⟩) hS.2.2 d_R_howManyBelow_5
