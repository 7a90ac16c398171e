/-! The reference, but for gathering. -/
set_option maxHeartbeats 4000000 in
set_option maxRecDepth 100000 in
theorem m_M_thrown {l : Launch} {D : va_G} {cI cJ cS cO : ClassId} {B0 : Nat} {u0 u1 u2 u3 sg d : Nat} {xs ws : List Nat} (hu : MI B0 u0 u1 u2 u3) (ok0 : Ok sg d xs ws) {th : Int32} : CM l D (tyL cI cJ cS cO) B0 y_M_thrown c_M_thrown 1 (some .int) (rmK 0 0 0) [.ref u0] (fun H => MR D cI u0 u1 u2 u3 sg xs ws th H) (fun v H0 H1 => v = some (.int th) ∧ H1 = H0) 0 0 (fun _ => False) := by
  refine cm_of (by decide) (Nat.le_of_ble_eq_true rfl) ?_
  intro p e s m below meth c ls hx hb hr hml hown hts hlocks hnm hE hpre hl
  have hown : s.vm.findClass "LevelRowsModel" = some m.cls := hown
  have hK := hE.1
  have hl : lv_has ls 1 [(0, .ref u0)] := hl
  obtain ⟨rf, sf, tf, hrf, hP⟩ := hpre
  have hP : va_P D vwCl [(u0, .inr (3, [.int th, .int (nI sg), .ref u1, .int (nI xs.length), .int (nI (xs.length + ws.length)), .ref u2, .ref u3])), (u1, .inl (cI, 1000, .inl (rf))), (u2, .inl (cI, 1000, .inl (sf))), (u3, .inl (cI, 1000, .inl (tf)))] s.heap := hP
  have hAB : ∀ q : Nat, (fun _ : Nat => False) q → B0 ≤ q := fun _ h => h.elim
  have hS : va_S (fun _ => False) s.heap s.heap [] := va_S.rf
  have hx9 := ok0.len
  have hsum := ok0.2.2.2.2.2.1
  have hsg6 := ok0.2.1
  refine lv_aload_n hx hb d_M_thrown_0 rfl (lv_at hl 0 rfl) ?_
  refine va_get (D := D) (ci := 3) (v := .int th) (C := n_M) (T := f_M) (N := 7) hx hb hts in_M hown hK hP 0 rfl rfl 0 (by decide) (hts _ x_437) (fun _ h9 => h9) rfl d_M_thrown_1 ?_
  exact W.iret (v := th) hx hb hr (fun t ht hW => ⟨_, rfl, rfl, ht⟩) (fun _ h => nomatch h) d_M_thrown_4
set_option maxHeartbeats 4000000 in
set_option maxRecDepth 100000 in
theorem m_M_given {l : Launch} {D : va_G} {cI cJ cS cO : ClassId} {B0 : Nat} (p0 p1 p2 p3 p4 : Int32) (i : Nat) (hi : i < 10) : CM l D (tyL cI cJ cS cO) B0 y_M_given c_M_given 7 (some .int) (rmK 0 0 0) [.int p0, .int p1, .int p2, .int p3, .int p4, .int (nI i)] (fun _ => True) (fun v H0 H1 => v = some (.int (nI (gv p0 p1 p2 p3 p4 i))) ∧ H1 = H0) 0 0 (fun _ => False) := by
  refine cm_of (by decide) (Nat.le_of_ble_eq_true rfl) ?_
  intro p e s m below meth c ls hx hb hr hml hown hts hlocks hnm hE hpre hl
  have hown : s.vm.findClass "LevelRowsModel" = some m.cls := hown
  have hK := hE.1
  have hl : lv_has ls 7 [(0, .int p0), (1, .int p1), (2, .int p2), (3, .int p3), (4, .int p4), (5, .int (nI i))] := hl
  refine lv_iload hx hb d_M_given_0 (lv_at hl 5 rfl) ?_
  refine lv_iconst (v := 2) hx hb d_M_given_2 (by decide) ?_
  rcases Nat.lt_or_ge i 2 with g0 | g0
  · refine lv_icmp_ge (tgt := 10) hx hb d_M_given_3 (by decide) (fun c9 => absurd c9 (show ¬ nI 2 ≤ nI i from nI_ge g0 (by decide))) (fun _ => ?_)
    refine lv_iload_n hx hb d_M_given_6 rfl (lv_at hl 0 rfl) ?_
    refine lv_goto (tgt := 44) hx hb d_M_given_7 (by decide) ?_
    refine lv_istore (lv' := [(6, .int p0), (0, .int p0), (1, .int p1), (2, .int p2), (3, .int p3), (4, .int p4), (5, .int (nI i))]) hx hb d_M_given_44 hl (by decide) rfl (fun ls hl => ?_)
    refine lv_iload hx hb d_M_given_46 (lv_at hl 6 rfl) ?_
    refine lv_iconst (v := 2) hx hb d_M_given_48 (by decide) ?_
    refine lv_irem hx hb d_M_given_49 (by decide) ?_
    refine ct_topi (x' := nI (i % 2)) (pk_rem (d := 2) (by omega) (by decide) (by decide)) ?_
    have h2 : i / 2 = 0 := by omega
    by_cases hm : i % 2 = 0
    · refine lv_if_ne (tgt := 61) hx hb d_M_given_50 (by decide) (fun c9 => absurd (by rw [hm]; rfl) c9) (fun _ => ?_)
      refine lv_iload hx hb d_M_given_53 (lv_at hl 0 rfl) ?_
      refine lv_bipush (v := 16) hx hb d_M_given_55 (by decide) ?_
      refine lv_iushr hx hb d_M_given_57 rfl ?_
      refine ct_topi (x' := nI (gv p0 p1 p2 p3 p4 i)) ((hi16 _).trans (by unfold gv; rw [if_pos hm, h2]; rfl)) ?_
      refine lv_goto (tgt := 66) hx hb d_M_given_58 (by decide) ?_
      exact W.iret (v := nI (gv p0 p1 p2 p3 p4 i)) hx hb hr (fun t ht hW => ⟨_, rfl, rfl, ht⟩) (fun _ h => nomatch h) d_M_given_66
    · refine lv_if_ne (tgt := 61) hx hb d_M_given_50 (by decide) (fun _ => ?_) (fun c9 => absurd c9 (nI_ne0 (by omega) (by omega)))
      refine lv_iload hx hb d_M_given_61 (lv_at hl 0 rfl) ?_
      refine lv_ldc (v := 65535) hx hb hown (hts _ x_470) d_M_given_63 ?_
      refine lv_iand hx hb d_M_given_65 ?_
      refine ct_topi (x' := nI (gv p0 p1 p2 p3 p4 i)) ((lo16 _).trans (by unfold gv; rw [if_neg hm, h2]; rfl)) ?_
      exact W.iret (v := nI (gv p0 p1 p2 p3 p4 i)) hx hb hr (fun t ht hW => ⟨_, rfl, rfl, ht⟩) (fun _ h => nomatch h) d_M_given_66
  · refine lv_icmp_ge (tgt := 10) hx hb d_M_given_3 (by decide) (fun _ => ?_) (fun c9 => absurd (show nI 2 ≤ nI i from nI_le g0 (by omega)) c9)
    refine lv_iload hx hb d_M_given_10 (lv_at hl 5 rfl) ?_
    refine lv_iconst (v := 4) hx hb d_M_given_12 (by decide) ?_
    rcases Nat.lt_or_ge i 4 with g1 | g1
    · refine lv_icmp_ge (tgt := 20) hx hb d_M_given_13 (by decide) (fun c9 => absurd c9 (show ¬ nI 4 ≤ nI i from nI_ge g1 (by decide))) (fun _ => ?_)
      refine lv_iload_n hx hb d_M_given_16 rfl (lv_at hl 1 rfl) ?_
      refine lv_goto (tgt := 44) hx hb d_M_given_17 (by decide) ?_
      refine lv_istore (lv' := [(6, .int p1), (0, .int p0), (1, .int p1), (2, .int p2), (3, .int p3), (4, .int p4), (5, .int (nI i))]) hx hb d_M_given_44 hl (by decide) rfl (fun ls hl => ?_)
      refine lv_iload hx hb d_M_given_46 (lv_at hl 6 rfl) ?_
      refine lv_iconst (v := 2) hx hb d_M_given_48 (by decide) ?_
      refine lv_irem hx hb d_M_given_49 (by decide) ?_
      refine ct_topi (x' := nI (i % 2)) (pk_rem (d := 2) (by omega) (by decide) (by decide)) ?_
      have h2 : i / 2 = 1 := by omega
      by_cases hm : i % 2 = 0
      · refine lv_if_ne (tgt := 61) hx hb d_M_given_50 (by decide) (fun c9 => absurd (by rw [hm]; rfl) c9) (fun _ => ?_)
        refine lv_iload hx hb d_M_given_53 (lv_at hl 0 rfl) ?_
        refine lv_bipush (v := 16) hx hb d_M_given_55 (by decide) ?_
        refine lv_iushr hx hb d_M_given_57 rfl ?_
        refine ct_topi (x' := nI (gv p0 p1 p2 p3 p4 i)) ((hi16 _).trans (by unfold gv; rw [if_pos hm, h2]; rfl)) ?_
        refine lv_goto (tgt := 66) hx hb d_M_given_58 (by decide) ?_
        exact W.iret (v := nI (gv p0 p1 p2 p3 p4 i)) hx hb hr (fun t ht hW => ⟨_, rfl, rfl, ht⟩) (fun _ h => nomatch h) d_M_given_66
      · refine lv_if_ne (tgt := 61) hx hb d_M_given_50 (by decide) (fun _ => ?_) (fun c9 => absurd c9 (nI_ne0 (by omega) (by omega)))
        refine lv_iload hx hb d_M_given_61 (lv_at hl 0 rfl) ?_
        refine lv_ldc (v := 65535) hx hb hown (hts _ x_470) d_M_given_63 ?_
        refine lv_iand hx hb d_M_given_65 ?_
        refine ct_topi (x' := nI (gv p0 p1 p2 p3 p4 i)) ((lo16 _).trans (by unfold gv; rw [if_neg hm, h2]; rfl)) ?_
        exact W.iret (v := nI (gv p0 p1 p2 p3 p4 i)) hx hb hr (fun t ht hW => ⟨_, rfl, rfl, ht⟩) (fun _ h => nomatch h) d_M_given_66
    · refine lv_icmp_ge (tgt := 20) hx hb d_M_given_13 (by decide) (fun _ => ?_) (fun c9 => absurd (show nI 4 ≤ nI i from nI_le g1 (by omega)) c9)
      refine lv_iload hx hb d_M_given_20 (lv_at hl 5 rfl) ?_
      refine lv_bipush (v := 6) hx hb d_M_given_22 (by decide) ?_
      rcases Nat.lt_or_ge i 6 with g2 | g2
      · refine lv_icmp_ge (tgt := 31) hx hb d_M_given_24 (by decide) (fun c9 => absurd c9 (show ¬ nI 6 ≤ nI i from nI_ge g2 (by decide))) (fun _ => ?_)
        refine lv_iload_n hx hb d_M_given_27 rfl (lv_at hl 2 rfl) ?_
        refine lv_goto (tgt := 44) hx hb d_M_given_28 (by decide) ?_
        refine lv_istore (lv' := [(6, .int p2), (0, .int p0), (1, .int p1), (2, .int p2), (3, .int p3), (4, .int p4), (5, .int (nI i))]) hx hb d_M_given_44 hl (by decide) rfl (fun ls hl => ?_)
        refine lv_iload hx hb d_M_given_46 (lv_at hl 6 rfl) ?_
        refine lv_iconst (v := 2) hx hb d_M_given_48 (by decide) ?_
        refine lv_irem hx hb d_M_given_49 (by decide) ?_
        refine ct_topi (x' := nI (i % 2)) (pk_rem (d := 2) (by omega) (by decide) (by decide)) ?_
        have h2 : i / 2 = 2 := by omega
        by_cases hm : i % 2 = 0
        · refine lv_if_ne (tgt := 61) hx hb d_M_given_50 (by decide) (fun c9 => absurd (by rw [hm]; rfl) c9) (fun _ => ?_)
          refine lv_iload hx hb d_M_given_53 (lv_at hl 0 rfl) ?_
          refine lv_bipush (v := 16) hx hb d_M_given_55 (by decide) ?_
          refine lv_iushr hx hb d_M_given_57 rfl ?_
          refine ct_topi (x' := nI (gv p0 p1 p2 p3 p4 i)) ((hi16 _).trans (by unfold gv; rw [if_pos hm, h2]; rfl)) ?_
          refine lv_goto (tgt := 66) hx hb d_M_given_58 (by decide) ?_
          exact W.iret (v := nI (gv p0 p1 p2 p3 p4 i)) hx hb hr (fun t ht hW => ⟨_, rfl, rfl, ht⟩) (fun _ h => nomatch h) d_M_given_66
        · refine lv_if_ne (tgt := 61) hx hb d_M_given_50 (by decide) (fun _ => ?_) (fun c9 => absurd c9 (nI_ne0 (by omega) (by omega)))
          refine lv_iload hx hb d_M_given_61 (lv_at hl 0 rfl) ?_
          refine lv_ldc (v := 65535) hx hb hown (hts _ x_470) d_M_given_63 ?_
          refine lv_iand hx hb d_M_given_65 ?_
          refine ct_topi (x' := nI (gv p0 p1 p2 p3 p4 i)) ((lo16 _).trans (by unfold gv; rw [if_neg hm, h2]; rfl)) ?_
          exact W.iret (v := nI (gv p0 p1 p2 p3 p4 i)) hx hb hr (fun t ht hW => ⟨_, rfl, rfl, ht⟩) (fun _ h => nomatch h) d_M_given_66
      · refine lv_icmp_ge (tgt := 31) hx hb d_M_given_24 (by decide) (fun _ => ?_) (fun c9 => absurd (show nI 6 ≤ nI i from nI_le g2 (by omega)) c9)
        refine lv_iload hx hb d_M_given_31 (lv_at hl 5 rfl) ?_
        refine lv_bipush (v := 8) hx hb d_M_given_33 (by decide) ?_
        rcases Nat.lt_or_ge i 8 with g3 | g3
        · refine lv_icmp_ge (tgt := 42) hx hb d_M_given_35 (by decide) (fun c9 => absurd c9 (show ¬ nI 8 ≤ nI i from nI_ge g3 (by decide))) (fun _ => ?_)
          refine lv_iload_n hx hb d_M_given_38 rfl (lv_at hl 3 rfl) ?_
          refine lv_goto (tgt := 44) hx hb d_M_given_39 (by decide) ?_
          refine lv_istore (lv' := [(6, .int p3), (0, .int p0), (1, .int p1), (2, .int p2), (3, .int p3), (4, .int p4), (5, .int (nI i))]) hx hb d_M_given_44 hl (by decide) rfl (fun ls hl => ?_)
          refine lv_iload hx hb d_M_given_46 (lv_at hl 6 rfl) ?_
          refine lv_iconst (v := 2) hx hb d_M_given_48 (by decide) ?_
          refine lv_irem hx hb d_M_given_49 (by decide) ?_
          refine ct_topi (x' := nI (i % 2)) (pk_rem (d := 2) (by omega) (by decide) (by decide)) ?_
          have h2 : i / 2 = 3 := by omega
          by_cases hm : i % 2 = 0
          · refine lv_if_ne (tgt := 61) hx hb d_M_given_50 (by decide) (fun c9 => absurd (by rw [hm]; rfl) c9) (fun _ => ?_)
            refine lv_iload hx hb d_M_given_53 (lv_at hl 0 rfl) ?_
            refine lv_bipush (v := 16) hx hb d_M_given_55 (by decide) ?_
            refine lv_iushr hx hb d_M_given_57 rfl ?_
            refine ct_topi (x' := nI (gv p0 p1 p2 p3 p4 i)) ((hi16 _).trans (by unfold gv; rw [if_pos hm, h2]; rfl)) ?_
            refine lv_goto (tgt := 66) hx hb d_M_given_58 (by decide) ?_
            exact W.iret (v := nI (gv p0 p1 p2 p3 p4 i)) hx hb hr (fun t ht hW => ⟨_, rfl, rfl, ht⟩) (fun _ h => nomatch h) d_M_given_66
          · refine lv_if_ne (tgt := 61) hx hb d_M_given_50 (by decide) (fun _ => ?_) (fun c9 => absurd c9 (nI_ne0 (by omega) (by omega)))
            refine lv_iload hx hb d_M_given_61 (lv_at hl 0 rfl) ?_
            refine lv_ldc (v := 65535) hx hb hown (hts _ x_470) d_M_given_63 ?_
            refine lv_iand hx hb d_M_given_65 ?_
            refine ct_topi (x' := nI (gv p0 p1 p2 p3 p4 i)) ((lo16 _).trans (by unfold gv; rw [if_neg hm, h2]; rfl)) ?_
            exact W.iret (v := nI (gv p0 p1 p2 p3 p4 i)) hx hb hr (fun t ht hW => ⟨_, rfl, rfl, ht⟩) (fun _ h => nomatch h) d_M_given_66
        · refine lv_icmp_ge (tgt := 42) hx hb d_M_given_35 (by decide) (fun _ => ?_) (fun c9 => absurd (show nI 8 ≤ nI i from nI_le g3 (by omega)) c9)
          refine lv_iload hx hb d_M_given_42 (lv_at hl 4 rfl) ?_
          refine lv_istore (lv' := [(6, .int p4), (0, .int p0), (1, .int p1), (2, .int p2), (3, .int p3), (4, .int p4), (5, .int (nI i))]) hx hb d_M_given_44 hl (by decide) rfl (fun ls hl => ?_)
          refine lv_iload hx hb d_M_given_46 (lv_at hl 6 rfl) ?_
          refine lv_iconst (v := 2) hx hb d_M_given_48 (by decide) ?_
          refine lv_irem hx hb d_M_given_49 (by decide) ?_
          refine ct_topi (x' := nI (i % 2)) (pk_rem (d := 2) (by omega) (by decide) (by decide)) ?_
          have h2 : i / 2 = 4 := by omega
          by_cases hm : i % 2 = 0
          · refine lv_if_ne (tgt := 61) hx hb d_M_given_50 (by decide) (fun c9 => absurd (by rw [hm]; rfl) c9) (fun _ => ?_)
            refine lv_iload hx hb d_M_given_53 (lv_at hl 0 rfl) ?_
            refine lv_bipush (v := 16) hx hb d_M_given_55 (by decide) ?_
            refine lv_iushr hx hb d_M_given_57 rfl ?_
            refine ct_topi (x' := nI (gv p0 p1 p2 p3 p4 i)) ((hi16 _).trans (by unfold gv; rw [if_pos hm, h2]; rfl)) ?_
            refine lv_goto (tgt := 66) hx hb d_M_given_58 (by decide) ?_
            exact W.iret (v := nI (gv p0 p1 p2 p3 p4 i)) hx hb hr (fun t ht hW => ⟨_, rfl, rfl, ht⟩) (fun _ h => nomatch h) d_M_given_66
          · refine lv_if_ne (tgt := 61) hx hb d_M_given_50 (by decide) (fun _ => ?_) (fun c9 => absurd c9 (nI_ne0 (by omega) (by omega)))
            refine lv_iload hx hb d_M_given_61 (lv_at hl 0 rfl) ?_
            refine lv_ldc (v := 65535) hx hb hown (hts _ x_470) d_M_given_63 ?_
            refine lv_iand hx hb d_M_given_65 ?_
            refine ct_topi (x' := nI (gv p0 p1 p2 p3 p4 i)) ((lo16 _).trans (by unfold gv; rw [if_neg hm, h2]; rfl)) ?_
            exact W.iret (v := nI (gv p0 p1 p2 p3 p4 i)) hx hb hr (fun t ht hW => ⟨_, rfl, rfl, ht⟩) (fun _ h => nomatch h) d_M_given_66
set_option maxHeartbeats 4000000 in
set_option maxRecDepth 100000 in
theorem m_M_build {l : Launch} {D : va_G} {cI cJ cS cO : ClassId} {B0 : Nat} {u0 u1 u2 u3 sg d : Nat} {xs ws : List Nat} (hu : MI B0 u0 u1 u2 u3) (ok0 : Ok sg d xs ws) {th : Int32} : CM l D (tyL cI cJ cS cO) B0 y_M_build c_M_build 1 (some .int) (rmK 0 0 0) [.ref u0] (fun H => MR D cI u0 u1 u2 u3 sg xs ws th H) (fun v H0 H1 => fr (AM u0 u1 u2 u3) H0 H1 ∧ MR D cI u0 u1 u2 u3 sg (xs ++ ws) ([]) 0 H1 ∧ v = some (.int (nI (xs.length + ws.length)))) 0 0 (AM u0 u1 u2 u3) := by
  refine cm_of (by decide) (Nat.le_of_ble_eq_true rfl) ?_
  intro p e s m below meth c ls hx hb hr hml hown hts hlocks hnm hE hpre hl
  have hown : s.vm.findClass "LevelRowsModel" = some m.cls := hown
  have hK := hE.1
  have hl : lv_has ls 1 [(0, .ref u0)] := hl
  obtain ⟨rf, sf, tf, hrf, hP⟩ := hpre
  have hP : va_P D vwCl [(u0, .inr (3, [.int th, .int (nI sg), .ref u1, .int (nI xs.length), .int (nI (xs.length + ws.length)), .ref u2, .ref u3])), (u1, .inl (cI, 1000, .inl (rf))), (u2, .inl (cI, 1000, .inl (sf))), (u3, .inl (cI, 1000, .inl (tf)))] s.heap := hP
  have hD : va_D (AM u0 u1 u2 u3) [(u0, .inr (3, [.int th, .int (nI sg), .ref u1, .int (nI xs.length), .int (nI (xs.length + ws.length)), .ref u2, .ref u3])), (u1, .inl (cI, 1000, .inl (rf))), (u2, .inl (cI, 1000, .inl (sf))), (u3, .inl (cI, 1000, .inl (tf)))] := hu.D _ _ _ _
  have hAB := hu.AB
  have hS : va_S (AM u0 u1 u2 u3) s.heap s.heap [] := va_S.rf
  have hx9 := ok0.len
  have hsum := ok0.2.2.2.2.2.1
  have hsg6 := ok0.2.1
  refine lv_aload_n hx hb d_M_build_0 rfl (lv_at hl 0 rfl) ?_
  refine lv_iconst (v := 0) hx hb d_M_build_1 (by decide) ?_
  refine va_put (D := D) (ci := 3) (v := .int 0) (ty := .int) (C := n_M) (T := f_M) (N := 7) hx hb hts in_M t_M ty_M nm_M hown hK hP hD hS 0 rfl rfl 0 (by decide) (hts _ x_437) (fun _ h9 => h9) rfl (by decide +kernel) rfl rfl (Nat.le_of_ble_eq_true rfl) d_M_build_2 (fun H locs hP hD hS => ?_)
  have hP : va_P D vwCl [(u0, .inr (3, [.int 0, .int (nI sg), .ref u1, .int (nI xs.length), .int (nI (xs.length + ws.length)), .ref u2, .ref u3])), (u1, .inl (cI, 1000, .inl (rf))), (u2, .inl (cI, 1000, .inl (sf))), (u3, .inl (cI, 1000, .inl (tf)))] H := hP
  have hD : va_D (AM u0 u1 u2 u3) [(u0, .inr (3, [.int 0, .int (nI sg), .ref u1, .int (nI xs.length), .int (nI (xs.length + ws.length)), .ref u2, .ref u3])), (u1, .inl (cI, 1000, .inl (rf))), (u2, .inl (cI, 1000, .inl (sf))), (u3, .inl (cI, 1000, .inl (tf)))] := hD
  refine lv_aload_n hx hb d_M_build_5 rfl (lv_at hl 0 rfl) ?_
  refine lv_aload_n hx hb d_M_build_6 rfl (lv_at hl 0 rfl) ?_
  refine va_get (D := D) (ci := 3) (v := .int (nI (xs.length + ws.length))) (C := n_M) (T := f_M) (N := 7) hx hb hts in_M hown hK hP 0 rfl rfl 4 (by decide) (hts _ x_441) (fun _ h9 => h9) rfl d_M_build_7 ?_
  refine va_put (D := D) (ci := 3) (v := .int (nI (xs.length + ws.length))) (ty := .int) (C := n_M) (T := f_M) (N := 7) hx hb hts in_M t_M ty_M nm_M hown hK hP hD hS 0 rfl rfl 3 (by decide) (hts _ x_440) (fun _ h9 => h9) rfl (by decide +kernel) rfl rfl (Nat.le_of_ble_eq_true rfl) d_M_build_10 (fun H locs hP hD hS => ?_)
  have hP : va_P D vwCl [(u0, .inr (3, [.int 0, .int (nI sg), .ref u1, .int (nI (xs.length + ws.length)), .int (nI (xs.length + ws.length)), .ref u2, .ref u3])), (u1, .inl (cI, 1000, .inl (rf))), (u2, .inl (cI, 1000, .inl (sf))), (u3, .inl (cI, 1000, .inl (tf)))] H := hP
  have hD : va_D (AM u0 u1 u2 u3) [(u0, .inr (3, [.int 0, .int (nI sg), .ref u1, .int (nI (xs.length + ws.length)), .int (nI (xs.length + ws.length)), .ref u2, .ref u3])), (u1, .inl (cI, 1000, .inl (rf))), (u2, .inl (cI, 1000, .inl (sf))), (u3, .inl (cI, 1000, .inl (tf)))] := hD
  refine lv_aload_n hx hb d_M_build_13 rfl (lv_at hl 0 rfl) ?_
  refine va_get (D := D) (ci := 3) (v := .int (nI (xs.length + ws.length))) (C := n_M) (T := f_M) (N := 7) hx hb hts in_M hown hK hP 0 rfl rfl 3 (by decide) (hts _ x_440) (fun _ h9 => h9) rfl d_M_build_14 ?_
  have e9 : (xs ++ ws).length = xs.length + ws.length := List.length_append
  exact W.iret (v := nI (xs.length + ws.length)) hx hb hr (fun t ht hW => ⟨_, rfl, by rw [ht]; exact ⟨fr.of hS, ⟨_, _, _, (by rw [List.append_nil]; exact hrf), (by rw [List.length_nil, Nat.add_zero, e9]; exact hP)⟩, rfl⟩⟩) hS.2.2 d_M_build_17
set_option maxHeartbeats 4000000 in
set_option maxRecDepth 100000 in
theorem m_M_clear {l : Launch} {D : va_G} {cI cJ cS cO : ClassId} {B0 : Nat} {u0 u1 u2 u3 sg d : Nat} {xs ws : List Nat} (hu : MI B0 u0 u1 u2 u3) (ok0 : Ok sg d xs ws) {th : Int32} : CM l D (tyL cI cJ cS cO) B0 y_M_clear c_M_clear 1 none (rmK 0 0 0) [.ref u0] (fun H => MR D cI u0 u1 u2 u3 sg xs ws th H) (fun v H0 H1 => v = none ∧ fr (AM u0 u1 u2 u3) H0 H1 ∧ MR D cI u0 u1 u2 u3 sg ([]) ([]) 0 H1) 0 0 (AM u0 u1 u2 u3) := by
  refine cm_of (by decide) (Nat.le_of_ble_eq_true rfl) ?_
  intro p e s m below meth c ls hx hb hr hml hown hts hlocks hnm hE hpre hl
  have hown : s.vm.findClass "LevelRowsModel" = some m.cls := hown
  have hK := hE.1
  have hl : lv_has ls 1 [(0, .ref u0)] := hl
  obtain ⟨rf, sf, tf, hrf, hP⟩ := hpre
  have hP : va_P D vwCl [(u0, .inr (3, [.int th, .int (nI sg), .ref u1, .int (nI xs.length), .int (nI (xs.length + ws.length)), .ref u2, .ref u3])), (u1, .inl (cI, 1000, .inl (rf))), (u2, .inl (cI, 1000, .inl (sf))), (u3, .inl (cI, 1000, .inl (tf)))] s.heap := hP
  have hD : va_D (AM u0 u1 u2 u3) [(u0, .inr (3, [.int th, .int (nI sg), .ref u1, .int (nI xs.length), .int (nI (xs.length + ws.length)), .ref u2, .ref u3])), (u1, .inl (cI, 1000, .inl (rf))), (u2, .inl (cI, 1000, .inl (sf))), (u3, .inl (cI, 1000, .inl (tf)))] := hu.D _ _ _ _
  have hAB := hu.AB
  have hS : va_S (AM u0 u1 u2 u3) s.heap s.heap [] := va_S.rf
  have hx9 := ok0.len
  have hsum := ok0.2.2.2.2.2.1
  have hsg6 := ok0.2.1
  refine lv_aload_n hx hb d_M_clear_0 rfl (lv_at hl 0 rfl) ?_
  refine lv_iconst (v := 0) hx hb d_M_clear_1 (by decide) ?_
  refine va_put (D := D) (ci := 3) (v := .int 0) (ty := .int) (C := n_M) (T := f_M) (N := 7) hx hb hts in_M t_M ty_M nm_M hown hK hP hD hS 0 rfl rfl 0 (by decide) (hts _ x_437) (fun _ h9 => h9) rfl (by decide +kernel) rfl rfl (Nat.le_of_ble_eq_true rfl) d_M_clear_2 (fun H locs hP hD hS => ?_)
  have hP : va_P D vwCl [(u0, .inr (3, [.int 0, .int (nI sg), .ref u1, .int (nI xs.length), .int (nI (xs.length + ws.length)), .ref u2, .ref u3])), (u1, .inl (cI, 1000, .inl (rf))), (u2, .inl (cI, 1000, .inl (sf))), (u3, .inl (cI, 1000, .inl (tf)))] H := hP
  have hD : va_D (AM u0 u1 u2 u3) [(u0, .inr (3, [.int 0, .int (nI sg), .ref u1, .int (nI xs.length), .int (nI (xs.length + ws.length)), .ref u2, .ref u3])), (u1, .inl (cI, 1000, .inl (rf))), (u2, .inl (cI, 1000, .inl (sf))), (u3, .inl (cI, 1000, .inl (tf)))] := hD
  refine lv_aload_n hx hb d_M_clear_5 rfl (lv_at hl 0 rfl) ?_
  refine lv_iconst (v := 0) hx hb d_M_clear_6 (by decide) ?_
  refine va_put (D := D) (ci := 3) (v := .int 0) (ty := .int) (C := n_M) (T := f_M) (N := 7) hx hb hts in_M t_M ty_M nm_M hown hK hP hD hS 0 rfl rfl 3 (by decide) (hts _ x_440) (fun _ h9 => h9) rfl (by decide +kernel) rfl rfl (Nat.le_of_ble_eq_true rfl) d_M_clear_7 (fun H locs hP hD hS => ?_)
  have hP : va_P D vwCl [(u0, .inr (3, [.int 0, .int (nI sg), .ref u1, .int 0, .int (nI (xs.length + ws.length)), .ref u2, .ref u3])), (u1, .inl (cI, 1000, .inl (rf))), (u2, .inl (cI, 1000, .inl (sf))), (u3, .inl (cI, 1000, .inl (tf)))] H := hP
  have hD : va_D (AM u0 u1 u2 u3) [(u0, .inr (3, [.int 0, .int (nI sg), .ref u1, .int 0, .int (nI (xs.length + ws.length)), .ref u2, .ref u3])), (u1, .inl (cI, 1000, .inl (rf))), (u2, .inl (cI, 1000, .inl (sf))), (u3, .inl (cI, 1000, .inl (tf)))] := hD
  refine lv_aload_n hx hb d_M_clear_10 rfl (lv_at hl 0 rfl) ?_
  refine lv_iconst (v := 0) hx hb d_M_clear_11 (by decide) ?_
  refine va_put (D := D) (ci := 3) (v := .int 0) (ty := .int) (C := n_M) (T := f_M) (N := 7) hx hb hts in_M t_M ty_M nm_M hown hK hP hD hS 0 rfl rfl 4 (by decide) (hts _ x_441) (fun _ h9 => h9) rfl (by decide +kernel) rfl rfl (Nat.le_of_ble_eq_true rfl) d_M_clear_12 (fun H locs hP hD hS => ?_)
  have hP : va_P D vwCl [(u0, .inr (3, [.int 0, .int (nI sg), .ref u1, .int 0, .int 0, .ref u2, .ref u3])), (u1, .inl (cI, 1000, .inl (rf))), (u2, .inl (cI, 1000, .inl (sf))), (u3, .inl (cI, 1000, .inl (tf)))] H := hP
  have hD : va_D (AM u0 u1 u2 u3) [(u0, .inr (3, [.int 0, .int (nI sg), .ref u1, .int 0, .int 0, .ref u2, .ref u3])), (u1, .inl (cI, 1000, .inl (rf))), (u2, .inl (cI, 1000, .inl (sf))), (u3, .inl (cI, 1000, .inl (tf)))] := hD
  exact W.vret hx hb hr (fun t ht hW => ⟨_, rfl, by rw [ht]; exact ⟨rfl, fr.of hS, ⟨_, _, _, fun i x h => by simp at h, hP⟩⟩⟩) hS.2.2 d_M_clear_15
set_option maxHeartbeats 4000000 in
set_option maxRecDepth 100000 in
theorem m_M_at {l : Launch} {D : va_G} {cI cJ cS cO : ClassId} {B0 : Nat} {u0 u1 u2 u3 sg d : Nat} {xs ws : List Nat} (hu : MI B0 u0 u1 u2 u3) (ok0 : Ok sg d xs ws) {th : Int32} (x : Int32) : CM l D (tyL cI cJ cS cO) B0 y_M_at c_M_at 2 (some .int) (rmK 0 0 0) [.ref u0, .int x] (fun H => MR D cI u0 u1 u2 u3 sg xs ws th H) (fun v H0 H1 => fr (AM u0 u1 u2 u3) H0 H1 ∧ (((¬ x < 0 ∧ x < nI xs.length) ∧ MR D cI u0 u1 u2 u3 sg xs ws 0 H1 ∧ v = some (.int (nI (xs.getD (cn x) 0)))) ∨ (¬ (¬ x < 0 ∧ x < nI xs.length) ∧ MR D cI u0 u1 u2 u3 sg xs ws 1 H1 ∧ ∃ w, v = some (.int w)))) 0 0 (AM u0 u1 u2 u3) := by
  refine cm_of (by decide) (Nat.le_of_ble_eq_true rfl) ?_
  intro p e s m below meth c ls hx hb hr hml hown hts hlocks hnm hE hpre hl
  have hown : s.vm.findClass "LevelRowsModel" = some m.cls := hown
  have hK := hE.1
  have hl : lv_has ls 2 [(0, .ref u0), (1, .int x)] := hl
  obtain ⟨rf, sf, tf, hrf, hP⟩ := hpre
  have hP : va_P D vwCl [(u0, .inr (3, [.int th, .int (nI sg), .ref u1, .int (nI xs.length), .int (nI (xs.length + ws.length)), .ref u2, .ref u3])), (u1, .inl (cI, 1000, .inl (rf))), (u2, .inl (cI, 1000, .inl (sf))), (u3, .inl (cI, 1000, .inl (tf)))] s.heap := hP
  have hD : va_D (AM u0 u1 u2 u3) [(u0, .inr (3, [.int th, .int (nI sg), .ref u1, .int (nI xs.length), .int (nI (xs.length + ws.length)), .ref u2, .ref u3])), (u1, .inl (cI, 1000, .inl (rf))), (u2, .inl (cI, 1000, .inl (sf))), (u3, .inl (cI, 1000, .inl (tf)))] := hu.D _ _ _ _
  have hAB := hu.AB
  have hS : va_S (AM u0 u1 u2 u3) s.heap s.heap [] := va_S.rf
  have hx9 := ok0.len
  have hsum := ok0.2.2.2.2.2.1
  have hsg6 := ok0.2.1
  refine lv_aload_n hx hb d_M_at_0 rfl (lv_at hl 0 rfl) ?_
  refine lv_iload_n hx hb d_M_at_1 rfl (lv_at hl 1 rfl) ?_
  refine lv_if_lt (tgt := 17) hx hb d_M_at_2 (by decide) (fun h1 => ?_) (fun h1 => ?_)
  · refine lv_iconst (v := 1) hx hb d_M_at_17 (by decide) ?_
    refine va_put (D := D) (ci := 3) (v := .int 1) (ty := .int) (C := n_M) (T := f_M) (N := 7) hx hb hts in_M t_M ty_M nm_M hown hK hP hD hS 0 rfl rfl 0 (by decide) (hts _ x_437) (fun _ h9 => h9) rfl (by decide +kernel) rfl rfl (Nat.le_of_ble_eq_true rfl) d_M_at_18 (fun H locs hP hD hS => ?_)
    have hP : va_P D vwCl [(u0, .inr (3, [.int 1, .int (nI sg), .ref u1, .int (nI xs.length), .int (nI (xs.length + ws.length)), .ref u2, .ref u3])), (u1, .inl (cI, 1000, .inl (rf))), (u2, .inl (cI, 1000, .inl (sf))), (u3, .inl (cI, 1000, .inl (tf)))] H := hP
    have hD : va_D (AM u0 u1 u2 u3) [(u0, .inr (3, [.int 1, .int (nI sg), .ref u1, .int (nI xs.length), .int (nI (xs.length + ws.length)), .ref u2, .ref u3])), (u1, .inl (cI, 1000, .inl (rf))), (u2, .inl (cI, 1000, .inl (sf))), (u3, .inl (cI, 1000, .inl (tf)))] := hD
    refine lv_aload_n hx hb d_M_at_21 rfl (lv_at hl 0 rfl) ?_
    refine va_get (D := D) (ci := 3) (v := .int 1) (C := n_M) (T := f_M) (N := 7) hx hb hts in_M hown hK hP 0 rfl rfl 0 (by decide) (hts _ x_437) (fun _ h9 => h9) rfl d_M_at_22 ?_
    refine lv_if_le (tgt := 32) hx hb d_M_at_25 (by decide) (fun c9 => absurd c9 (by decide)) (fun _ => ?_)
    refine lv_iconst (v := 0) hx hb d_M_at_28 (by decide) ?_
    refine lv_goto (tgt := 38) hx hb d_M_at_29 (by decide) ?_
    exact W.iret (v := 0) hx hb hr (fun t ht hW => ⟨_, rfl, by rw [ht]; exact ⟨fr.of hS, Or.inr ⟨fun h => h.1 h1, ⟨_, _, _, hrf, hP⟩, _, rfl⟩⟩⟩) hS.2.2 d_M_at_38
  · refine lv_iload_n hx hb d_M_at_5 rfl (lv_at hl 1 rfl) ?_
    refine lv_aload_n hx hb d_M_at_6 rfl (lv_at hl 0 rfl) ?_
    refine va_get (D := D) (ci := 3) (v := .int (nI xs.length)) (C := n_M) (T := f_M) (N := 7) hx hb hts in_M hown hK hP 0 rfl rfl 3 (by decide) (hts _ x_440) (fun _ h9 => h9) rfl d_M_at_7 ?_
    refine lv_icmp_ge (tgt := 17) hx hb d_M_at_10 (by decide) (fun h2 => ?_) (fun h2 => ?_)
    · refine lv_iconst (v := 1) hx hb d_M_at_17 (by decide) ?_
      refine va_put (D := D) (ci := 3) (v := .int 1) (ty := .int) (C := n_M) (T := f_M) (N := 7) hx hb hts in_M t_M ty_M nm_M hown hK hP hD hS 0 rfl rfl 0 (by decide) (hts _ x_437) (fun _ h9 => h9) rfl (by decide +kernel) rfl rfl (Nat.le_of_ble_eq_true rfl) d_M_at_18 (fun H locs hP hD hS => ?_)
      have hP : va_P D vwCl [(u0, .inr (3, [.int 1, .int (nI sg), .ref u1, .int (nI xs.length), .int (nI (xs.length + ws.length)), .ref u2, .ref u3])), (u1, .inl (cI, 1000, .inl (rf))), (u2, .inl (cI, 1000, .inl (sf))), (u3, .inl (cI, 1000, .inl (tf)))] H := hP
      have hD : va_D (AM u0 u1 u2 u3) [(u0, .inr (3, [.int 1, .int (nI sg), .ref u1, .int (nI xs.length), .int (nI (xs.length + ws.length)), .ref u2, .ref u3])), (u1, .inl (cI, 1000, .inl (rf))), (u2, .inl (cI, 1000, .inl (sf))), (u3, .inl (cI, 1000, .inl (tf)))] := hD
      refine lv_aload_n hx hb d_M_at_21 rfl (lv_at hl 0 rfl) ?_
      refine va_get (D := D) (ci := 3) (v := .int 1) (C := n_M) (T := f_M) (N := 7) hx hb hts in_M hown hK hP 0 rfl rfl 0 (by decide) (hts _ x_437) (fun _ h9 => h9) rfl d_M_at_22 ?_
      refine lv_if_le (tgt := 32) hx hb d_M_at_25 (by decide) (fun c9 => absurd c9 (by decide)) (fun _ => ?_)
      refine lv_iconst (v := 0) hx hb d_M_at_28 (by decide) ?_
      refine lv_goto (tgt := 38) hx hb d_M_at_29 (by decide) ?_
      exact W.iret (v := 0) hx hb hr (fun t ht hW => ⟨_, rfl, by rw [ht]; exact ⟨fr.of hS, Or.inr ⟨fun h => Int32.not_lt.mpr h2 h.2, ⟨_, _, _, hrf, hP⟩, _, rfl⟩⟩⟩) hS.2.2 d_M_at_38
    · have hcd : ¬ x < 0 ∧ x < nI xs.length := ⟨h1, Int32.not_le.mp h2⟩
      obtain ⟨i, hi31, hxi⟩ := nI_of h1
      have hil : i < xs.length := by have h3 := hcd.2; rw [hxi] at h3; exact (nI_ltI hi31 (by omega)).mp h3
      have hq : xs[i]? = some xs[i] := List.getElem?_eq_getElem hil
      have hgd : xs.getD (cn x) 0 = xs[i] := by simp only [cn, hxi]; rw [nI_clamp hi31, List.getD_eq_getElem?_getD, hq]; rfl
      refine lv_iconst (v := 0) hx hb d_M_at_13 (by decide) ?_
      refine lv_goto (tgt := 18) hx hb d_M_at_14 (by decide) ?_
      refine va_put (D := D) (ci := 3) (v := .int 0) (ty := .int) (C := n_M) (T := f_M) (N := 7) hx hb hts in_M t_M ty_M nm_M hown hK hP hD hS 0 rfl rfl 0 (by decide) (hts _ x_437) (fun _ h9 => h9) rfl (by decide +kernel) rfl rfl (Nat.le_of_ble_eq_true rfl) d_M_at_18 (fun H locs hP hD hS => ?_)
      have hP : va_P D vwCl [(u0, .inr (3, [.int 0, .int (nI sg), .ref u1, .int (nI xs.length), .int (nI (xs.length + ws.length)), .ref u2, .ref u3])), (u1, .inl (cI, 1000, .inl (rf))), (u2, .inl (cI, 1000, .inl (sf))), (u3, .inl (cI, 1000, .inl (tf)))] H := hP
      have hD : va_D (AM u0 u1 u2 u3) [(u0, .inr (3, [.int 0, .int (nI sg), .ref u1, .int (nI xs.length), .int (nI (xs.length + ws.length)), .ref u2, .ref u3])), (u1, .inl (cI, 1000, .inl (rf))), (u2, .inl (cI, 1000, .inl (sf))), (u3, .inl (cI, 1000, .inl (tf)))] := hD
      refine lv_aload_n hx hb d_M_at_21 rfl (lv_at hl 0 rfl) ?_
      refine va_get (D := D) (ci := 3) (v := .int 0) (C := n_M) (T := f_M) (N := 7) hx hb hts in_M hown hK hP 0 rfl rfl 0 (by decide) (hts _ x_437) (fun _ h9 => h9) rfl d_M_at_22 ?_
      refine lv_if_le (tgt := 32) hx hb d_M_at_25 (by decide) (fun _ => ?_) (fun c9 => absurd (by decide) c9)
      refine lv_aload_n hx hb d_M_at_32 rfl (lv_at hl 0 rfl) ?_
      refine va_get (D := D) (ci := 3) (v := .ref u1) (C := n_M) (T := f_M) (N := 7) hx hb hts in_M hown hK hP 0 rfl rfl 2 (by decide) (hts _ x_439) (fun _ h9 => h9) rfl d_M_at_33 ?_
      refine lv_iload_n hx hb d_M_at_36 rfl (lv_at hl 1 rfl) ?_
      refine va_iald hx hb hK hP 1 0 rfl rfl (by rw [hxi]; exact vp_in_nI (by omega) (by decide)) d_M_at_37 ?_
      refine ct_topi (x' := nI (xs.getD (cn x) 0)) (by rw [hgd]; have h4 := row_at hrf hq; rw [hxi, nI_clamp hi31]; exact h4) ?_
      exact W.iret (v := nI (xs.getD (cn x) 0)) hx hb hr (fun t ht hW => ⟨_, rfl, by rw [ht]; exact ⟨fr.of hS, Or.inl ⟨hcd, ⟨_, _, _, hrf, hP⟩, rfl⟩⟩⟩) hS.2.2 d_M_at_38
set_option maxHeartbeats 4000000 in
set_option maxRecDepth 100000 in
theorem m_M_isSymbol {l : Launch} {D : va_G} {cI cJ cS cO : ClassId} {B0 : Nat} {u0 u1 u2 u3 sg d : Nat} {xs ws : List Nat} (hu : MI B0 u0 u1 u2 u3) (ok0 : Ok sg d xs ws) {th : Int32} (x : Int32) : CM l D (tyL cI cJ cS cO) B0 y_M_isSymbol c_M_isSymbol 2 (some .boolean) (rmK 0 0 0) [.ref u0, .int x] (fun H => MR D cI u0 u1 u2 u3 sg xs ws th H) (fun v H0 H1 => (∃ b, v = some (.int b) ∧ ((isS sg x ∧ b = 1) ∨ (¬ isS sg x ∧ b = 0))) ∧ H1 = H0) 0 0 (fun _ => False) := by
  refine cm_of (by decide) (Nat.le_of_ble_eq_true rfl) ?_
  intro p e s m below meth c ls hx hb hr hml hown hts hlocks hnm hE hpre hl
  have hown : s.vm.findClass "LevelRowsModel" = some m.cls := hown
  have hK := hE.1
  have hl : lv_has ls 2 [(0, .ref u0), (1, .int x)] := hl
  obtain ⟨rf, sf, tf, hrf, hP⟩ := hpre
  have hP : va_P D vwCl [(u0, .inr (3, [.int th, .int (nI sg), .ref u1, .int (nI xs.length), .int (nI (xs.length + ws.length)), .ref u2, .ref u3])), (u1, .inl (cI, 1000, .inl (rf))), (u2, .inl (cI, 1000, .inl (sf))), (u3, .inl (cI, 1000, .inl (tf)))] s.heap := hP
  have hAB : ∀ q : Nat, (fun _ : Nat => False) q → B0 ≤ q := fun _ h => h.elim
  have hS : va_S (fun _ => False) s.heap s.heap [] := va_S.rf
  have hx9 := ok0.len
  have hsum := ok0.2.2.2.2.2.1
  have hsg6 := ok0.2.1
  refine lv_iload_n hx hb d_M_isSymbol_0 rfl (lv_at hl 1 rfl) ?_
  refine lv_if_lt (tgt := 16) hx hb d_M_isSymbol_1 (by decide) (fun h1 => ?_) (fun h1 => ?_)
  · refine lv_iconst (v := 0) hx hb d_M_isSymbol_16 (by decide) ?_
    exact W.zret (v := 0) hx hb hr rfl (fun t ht hW => ⟨_, rfl, ⟨0, rfl, Or.inr ⟨fun h => h.1 h1, rfl⟩⟩, ht⟩) (fun _ h => nomatch h) d_M_isSymbol_17
  · refine lv_iload_n hx hb d_M_isSymbol_4 rfl (lv_at hl 1 rfl) ?_
    refine lv_aload_n hx hb d_M_isSymbol_5 rfl (lv_at hl 0 rfl) ?_
    refine va_get (D := D) (ci := 3) (v := .int (nI sg)) (C := n_M) (T := f_M) (N := 7) hx hb hts in_M hown hK hP 0 rfl rfl 1 (by decide) (hts _ x_438) (fun _ h9 => h9) rfl d_M_isSymbol_6 ?_
    refine lv_icmp_ge (tgt := 16) hx hb d_M_isSymbol_9 (by decide) (fun h2 => ?_) (fun h2 => ?_)
    · refine lv_iconst (v := 0) hx hb d_M_isSymbol_16 (by decide) ?_
      exact W.zret (v := 0) hx hb hr rfl (fun t ht hW => ⟨_, rfl, ⟨0, rfl, Or.inr ⟨fun h => Int32.not_lt.mpr h2 h.2, rfl⟩⟩, ht⟩) (fun _ h => nomatch h) d_M_isSymbol_17
    · refine lv_iconst (v := 1) hx hb d_M_isSymbol_12 (by decide) ?_
      refine lv_goto (tgt := 17) hx hb d_M_isSymbol_13 (by decide) ?_
      exact W.zret (v := 1) hx hb hr rfl (fun t ht hW => ⟨_, rfl, ⟨1, rfl, Or.inl ⟨⟨h1, Int32.not_le.mp h2⟩, rfl⟩⟩, ht⟩) (fun _ h => nomatch h) d_M_isSymbol_17
set_option maxHeartbeats 4000000 in
set_option maxRecDepth 100000 in
theorem m_M_isPart {l : Launch} {D : va_G} {cI cJ cS cO : ClassId} {B0 : Nat} {u0 u1 u2 u3 sg d : Nat} {xs ws : List Nat} (hu : MI B0 u0 u1 u2 u3) (ok0 : Ok sg d xs ws) {th : Int32} (x z : Int32) : CM l D (tyL cI cJ cS cO) B0 y_M_isPart c_M_isPart 3 (some .boolean) (rmK 0 0 0) [.ref u0, .int x, .int z] (fun H => MR D cI u0 u1 u2 u3 sg xs ws th H) (fun v H0 H1 => (∃ b, v = some (.int b) ∧ ((isPt xs.length x z ∧ b = 1) ∨ (¬ isPt xs.length x z ∧ b = 0))) ∧ H1 = H0) 0 0 (fun _ => False) := by
  refine cm_of (by decide) (Nat.le_of_ble_eq_true rfl) ?_
  intro p e s m below meth c ls hx hb hr hml hown hts hlocks hnm hE hpre hl
  have hown : s.vm.findClass "LevelRowsModel" = some m.cls := hown
  have hK := hE.1
  have hl : lv_has ls 3 [(0, .ref u0), (1, .int x), (2, .int z)] := hl
  obtain ⟨rf, sf, tf, hrf, hP⟩ := hpre
  have hP : va_P D vwCl [(u0, .inr (3, [.int th, .int (nI sg), .ref u1, .int (nI xs.length), .int (nI (xs.length + ws.length)), .ref u2, .ref u3])), (u1, .inl (cI, 1000, .inl (rf))), (u2, .inl (cI, 1000, .inl (sf))), (u3, .inl (cI, 1000, .inl (tf)))] s.heap := hP
  have hAB : ∀ q : Nat, (fun _ : Nat => False) q → B0 ≤ q := fun _ h => h.elim
  have hS : va_S (fun _ => False) s.heap s.heap [] := va_S.rf
  have hx9 := ok0.len
  have hsum := ok0.2.2.2.2.2.1
  have hsg6 := ok0.2.1
  refine lv_iload_n hx hb d_M_isPart_0 rfl (lv_at hl 1 rfl) ?_
  refine lv_if_lt (tgt := 21) hx hb d_M_isPart_1 (by decide) (fun h1 => ?_) (fun h1 => ?_)
  · refine lv_iconst (v := 0) hx hb d_M_isPart_21 (by decide) ?_
    exact W.zret (v := 0) hx hb hr rfl (fun t ht hW => ⟨_, rfl, ⟨0, rfl, Or.inr ⟨fun h => h.1 h1, rfl⟩⟩, ht⟩) (fun _ h => nomatch h) d_M_isPart_22
  · refine lv_iload_n hx hb d_M_isPart_4 rfl (lv_at hl 1 rfl) ?_
    refine lv_iload_n hx hb d_M_isPart_5 rfl (lv_at hl 2 rfl) ?_
    refine lv_icmp_gt (tgt := 21) hx hb d_M_isPart_6 (by decide) (fun h2 => ?_) (fun h2 => ?_)
    · refine lv_iconst (v := 0) hx hb d_M_isPart_21 (by decide) ?_
      exact W.zret (v := 0) hx hb hr rfl (fun t ht hW => ⟨_, rfl, ⟨0, rfl, Or.inr ⟨fun h => h.2.1 h2, rfl⟩⟩, ht⟩) (fun _ h => nomatch h) d_M_isPart_22
    · refine lv_iload_n hx hb d_M_isPart_9 rfl (lv_at hl 2 rfl) ?_
      refine lv_aload_n hx hb d_M_isPart_10 rfl (lv_at hl 0 rfl) ?_
      refine va_get (D := D) (ci := 3) (v := .int (nI xs.length)) (C := n_M) (T := f_M) (N := 7) hx hb hts in_M hown hK hP 0 rfl rfl 3 (by decide) (hts _ x_440) (fun _ h9 => h9) rfl d_M_isPart_11 ?_
      refine lv_icmp_gt (tgt := 21) hx hb d_M_isPart_14 (by decide) (fun h3 => ?_) (fun h3 => ?_)
      · refine lv_iconst (v := 0) hx hb d_M_isPart_21 (by decide) ?_
        exact W.zret (v := 0) hx hb hr rfl (fun t ht hW => ⟨_, rfl, ⟨0, rfl, Or.inr ⟨fun h => h.2.2 h3, rfl⟩⟩, ht⟩) (fun _ h => nomatch h) d_M_isPart_22
      · refine lv_iconst (v := 1) hx hb d_M_isPart_17 (by decide) ?_
        refine lv_goto (tgt := 22) hx hb d_M_isPart_18 (by decide) ?_
        exact W.zret (v := 1) hx hb hr rfl (fun t ht hW => ⟨_, rfl, ⟨1, rfl, Or.inl ⟨⟨h1, h2, h3⟩, rfl⟩⟩, ht⟩) (fun _ h => nomatch h) d_M_isPart_22
set_option maxHeartbeats 4000000 in
set_option maxRecDepth 100000 in
theorem m_M_rank {l : Launch} {D : va_G} {cI cJ cS cO : ClassId} {B0 : Nat} {u0 u1 u2 u3 sg d : Nat} {xs ws : List Nat} (hu : MI B0 u0 u1 u2 u3) (ok0 : Ok sg d xs ws) {th : Int32} (x z : Int32) : CM l D (tyL cI cJ cS cO) B0 y_M_rank c_M_rank 5 (some .int) (rmK 1 0 0) [.ref u0, .int x, .int z] (fun H => MR D cI u0 u1 u2 u3 sg xs ws th H) (fun v H0 H1 => fr (AM u0 u1 u2 u3) H0 H1 ∧ (((isS sg x ∧ isPt xs.length 0 z) ∧ MR D cI u0 u1 u2 u3 sg xs ws 0 H1 ∧ v = some (.int (nI (cEq (xs.take (cn z)) (cn x))))) ∨ (¬ (isS sg x ∧ isPt xs.length 0 z) ∧ MR D cI u0 u1 u2 u3 sg xs ws 1 H1 ∧ ∃ w, v = some (.int w)))) 0 0 (AM u0 u1 u2 u3) := by
  refine cm_of (by decide) (Nat.le_of_ble_eq_true rfl) ?_
  intro p e s m below meth c ls hx hb hr hml hown hts hlocks hnm hE hpre hl
  have hown : s.vm.findClass "LevelRowsModel" = some m.cls := hown
  have hK := hE.1
  have hl : lv_has ls 5 [(0, .ref u0), (1, .int x), (2, .int z)] := hl
  obtain ⟨rf, sf, tf, hrf, hP⟩ := hpre
  have hP : va_P D vwCl [(u0, .inr (3, [.int th, .int (nI sg), .ref u1, .int (nI xs.length), .int (nI (xs.length + ws.length)), .ref u2, .ref u3])), (u1, .inl (cI, 1000, .inl (rf))), (u2, .inl (cI, 1000, .inl (sf))), (u3, .inl (cI, 1000, .inl (tf)))] s.heap := hP
  have hD : va_D (AM u0 u1 u2 u3) [(u0, .inr (3, [.int th, .int (nI sg), .ref u1, .int (nI xs.length), .int (nI (xs.length + ws.length)), .ref u2, .ref u3])), (u1, .inl (cI, 1000, .inl (rf))), (u2, .inl (cI, 1000, .inl (sf))), (u3, .inl (cI, 1000, .inl (tf)))] := hu.D _ _ _ _
  have hAB := hu.AB
  have hS : va_S (AM u0 u1 u2 u3) s.heap s.heap [] := va_S.rf
  have hx9 := ok0.len
  have hsum := ok0.2.2.2.2.2.1
  have hsg6 := ok0.2.1
  refine lv_aload_n hx hb d_M_rank_0 rfl (lv_at hl 0 rfl) ?_
  refine lv_aload_n hx hb d_M_rank_1 rfl (lv_at hl 0 rfl) ?_
  refine lv_iload_n hx hb d_M_rank_2 rfl (lv_at hl 1 rfl) ?_
  refine cm_read (va_runV (As := [.int x]) (rest := [.ref u0]) ⟨hx, hb, hml, hown, hts⟩ (m_M_isSymbol hu ok0 x) ⟨ct_cb 1 hts x_490 x_487 x_6 rfl rfl (by decide +kernel) ⟨by decide, by decide⟩, hts _ x_489, hts _ s_M_isSymbol⟩ ⟨st_blind, va_recv hK hP (ci := 3) (q0 := 0) rfl rfl, fun U hU hW => ⟨rfl, hE.at hS hAB hU hW, by rw [hU]; exact ⟨_, _, _, hrf, hP⟩⟩⟩ rfl rfl hl.1 rfl (lv_room (Nat.le_of_ble_eq_true rfl)) d_M_rank_3 ⟨by decide, by decide⟩) (fun v hv => ?_)
  obtain ⟨b9, rfl, hb9⟩ := hv
  refine W.eq (g2 := F0 m 6 ls [.int b9, .ref u0]) rfl ?_
  rcases hb9 with ⟨hs, rfl⟩ | ⟨hs, rfl⟩
  · refine lv_if_eq (tgt := 25) hx hb d_M_rank_6 (by decide) (fun c9 => absurd c9 (by decide)) (fun _ => ?_)
    refine lv_iload_n hx hb d_M_rank_9 rfl (lv_at hl 2 rfl) ?_
    refine lv_if_lt (tgt := 25) hx hb d_M_rank_10 (by decide) (fun h1 => ?_) (fun h1 => ?_)
    · refine lv_iconst (v := 1) hx hb d_M_rank_25 (by decide) ?_
      refine va_put (D := D) (ci := 3) (v := .int 1) (ty := .int) (C := n_M) (T := f_M) (N := 7) hx hb hts in_M t_M ty_M nm_M hown hK hP hD hS 0 rfl rfl 0 (by decide) (hts _ x_437) (fun _ h9 => h9) rfl (by decide +kernel) rfl rfl (Nat.le_of_ble_eq_true rfl) d_M_rank_26 (fun H locs hP hD hS => ?_)
      have hP : va_P D vwCl [(u0, .inr (3, [.int 1, .int (nI sg), .ref u1, .int (nI xs.length), .int (nI (xs.length + ws.length)), .ref u2, .ref u3])), (u1, .inl (cI, 1000, .inl (rf))), (u2, .inl (cI, 1000, .inl (sf))), (u3, .inl (cI, 1000, .inl (tf)))] H := hP
      have hD : va_D (AM u0 u1 u2 u3) [(u0, .inr (3, [.int 1, .int (nI sg), .ref u1, .int (nI xs.length), .int (nI (xs.length + ws.length)), .ref u2, .ref u3])), (u1, .inl (cI, 1000, .inl (rf))), (u2, .inl (cI, 1000, .inl (sf))), (u3, .inl (cI, 1000, .inl (tf)))] := hD
      refine lv_iconst (v := 0) hx hb d_M_rank_29 (by decide) ?_
      refine lv_istore_n (lv' := [(3, .int 0), (0, .ref u0), (1, .int x), (2, .int z)]) hx hb d_M_rank_30 rfl hl (by decide) rfl (fun ls hl => ?_)
      refine lv_iconst (v := 0) hx hb d_M_rank_31 (by decide) ?_
      refine lv_istore (lv' := [(4, .int 0), (3, .int 0), (0, .ref u0), (1, .int x), (2, .int z)]) hx hb d_M_rank_32 hl (by decide) rfl (fun ls hl => ?_)
      refine lv_iload hx hb d_M_rank_34 (lv_at hl 0 rfl) ?_
      refine lv_iload_n hx hb d_M_rank_36 rfl (lv_at hl 4 rfl) ?_
      refine lv_icmp_ge (tgt := 72) hx hb d_M_rank_37 (by decide) (fun h9 => ?_) (fun h9 => ?_)
      · refine lv_iload_n hx hb d_M_rank_72 rfl (lv_at hl 1 rfl) ?_
        exact W.iret (v := 0) hx hb hr (fun t ht hW => ⟨_, rfl, by rw [ht]; exact ⟨fr.of hS, Or.inr ⟨fun h => h.2.2.1 h1, ⟨_, _, _, hrf, hP⟩, _, rfl⟩⟩⟩) hS.2.2 d_M_rank_73
      · refine lv_aload_n hx hb d_M_rank_40 rfl (lv_at hl 2 rfl) ?_
        refine va_get (D := D) (ci := 3) (v := .int 1) (C := n_M) (T := f_M) (N := 7) hx hb hts in_M hown hK hP 0 rfl rfl 0 (by decide) (hts _ x_437) (fun _ h9 => h9) rfl d_M_rank_41 ?_
        refine lv_if_ne (tgt := 72) hx hb d_M_rank_44 (by decide) (fun _ => ?_) (fun c9 => absurd c9 (by decide))
        refine lv_iload_n hx hb d_M_rank_72 rfl (lv_at hl 1 rfl) ?_
        exact W.iret (v := 0) hx hb hr (fun t ht hW => ⟨_, rfl, by rw [ht]; exact ⟨fr.of hS, Or.inr ⟨fun h => h.2.2.1 h1, ⟨_, _, _, hrf, hP⟩, _, rfl⟩⟩⟩) hS.2.2 d_M_rank_73
    · refine lv_iload_n hx hb d_M_rank_13 rfl (lv_at hl 2 rfl) ?_
      refine lv_aload_n hx hb d_M_rank_14 rfl (lv_at hl 0 rfl) ?_
      refine va_get (D := D) (ci := 3) (v := .int (nI xs.length)) (C := n_M) (T := f_M) (N := 7) hx hb hts in_M hown hK hP 0 rfl rfl 3 (by decide) (hts _ x_440) (fun _ h9 => h9) rfl d_M_rank_15 ?_
      refine lv_icmp_gt (tgt := 25) hx hb d_M_rank_18 (by decide) (fun h2 => ?_) (fun h2 => ?_)
      · refine lv_iconst (v := 1) hx hb d_M_rank_25 (by decide) ?_
        refine va_put (D := D) (ci := 3) (v := .int 1) (ty := .int) (C := n_M) (T := f_M) (N := 7) hx hb hts in_M t_M ty_M nm_M hown hK hP hD hS 0 rfl rfl 0 (by decide) (hts _ x_437) (fun _ h9 => h9) rfl (by decide +kernel) rfl rfl (Nat.le_of_ble_eq_true rfl) d_M_rank_26 (fun H locs hP hD hS => ?_)
        have hP : va_P D vwCl [(u0, .inr (3, [.int 1, .int (nI sg), .ref u1, .int (nI xs.length), .int (nI (xs.length + ws.length)), .ref u2, .ref u3])), (u1, .inl (cI, 1000, .inl (rf))), (u2, .inl (cI, 1000, .inl (sf))), (u3, .inl (cI, 1000, .inl (tf)))] H := hP
        have hD : va_D (AM u0 u1 u2 u3) [(u0, .inr (3, [.int 1, .int (nI sg), .ref u1, .int (nI xs.length), .int (nI (xs.length + ws.length)), .ref u2, .ref u3])), (u1, .inl (cI, 1000, .inl (rf))), (u2, .inl (cI, 1000, .inl (sf))), (u3, .inl (cI, 1000, .inl (tf)))] := hD
        refine lv_iconst (v := 0) hx hb d_M_rank_29 (by decide) ?_
        refine lv_istore_n (lv' := [(3, .int 0), (0, .ref u0), (1, .int x), (2, .int z)]) hx hb d_M_rank_30 rfl hl (by decide) rfl (fun ls hl => ?_)
        refine lv_iconst (v := 0) hx hb d_M_rank_31 (by decide) ?_
        refine lv_istore (lv' := [(4, .int 0), (3, .int 0), (0, .ref u0), (1, .int x), (2, .int z)]) hx hb d_M_rank_32 hl (by decide) rfl (fun ls hl => ?_)
        refine lv_iload hx hb d_M_rank_34 (lv_at hl 0 rfl) ?_
        refine lv_iload_n hx hb d_M_rank_36 rfl (lv_at hl 4 rfl) ?_
        refine lv_icmp_ge (tgt := 72) hx hb d_M_rank_37 (by decide) (fun h9 => ?_) (fun h9 => ?_)
        · refine lv_iload_n hx hb d_M_rank_72 rfl (lv_at hl 1 rfl) ?_
          exact W.iret (v := 0) hx hb hr (fun t ht hW => ⟨_, rfl, by rw [ht]; exact ⟨fr.of hS, Or.inr ⟨fun h => h.2.2.2 h2, ⟨_, _, _, hrf, hP⟩, _, rfl⟩⟩⟩) hS.2.2 d_M_rank_73
        · refine lv_aload_n hx hb d_M_rank_40 rfl (lv_at hl 2 rfl) ?_
          refine va_get (D := D) (ci := 3) (v := .int 1) (C := n_M) (T := f_M) (N := 7) hx hb hts in_M hown hK hP 0 rfl rfl 0 (by decide) (hts _ x_437) (fun _ h9 => h9) rfl d_M_rank_41 ?_
          refine lv_if_ne (tgt := 72) hx hb d_M_rank_44 (by decide) (fun _ => ?_) (fun c9 => absurd c9 (by decide))
          refine lv_iload_n hx hb d_M_rank_72 rfl (lv_at hl 1 rfl) ?_
          exact W.iret (v := 0) hx hb hr (fun t ht hW => ⟨_, rfl, by rw [ht]; exact ⟨fr.of hS, Or.inr ⟨fun h => h.2.2.2 h2, ⟨_, _, _, hrf, hP⟩, _, rfl⟩⟩⟩) hS.2.2 d_M_rank_73
      · have hcd : isS sg x ∧ isPt xs.length 0 z := ⟨hs, by decide, h1, h2⟩
        obtain ⟨hxe, hxs⟩ := hs.ints hsg6
        obtain ⟨-, hze, -, hzl⟩ := hcd.2.ints hx9
        refine lv_iconst (v := 0) hx hb d_M_rank_21 (by decide) ?_
        refine lv_goto (tgt := 26) hx hb d_M_rank_22 (by decide) ?_
        refine va_put (D := D) (ci := 3) (v := .int 0) (ty := .int) (C := n_M) (T := f_M) (N := 7) hx hb hts in_M t_M ty_M nm_M hown hK hP hD hS 0 rfl rfl 0 (by decide) (hts _ x_437) (fun _ h9 => h9) rfl (by decide +kernel) rfl rfl (Nat.le_of_ble_eq_true rfl) d_M_rank_26 (fun H locs hP hD hS => ?_)
        have hP : va_P D vwCl [(u0, .inr (3, [.int 0, .int (nI sg), .ref u1, .int (nI xs.length), .int (nI (xs.length + ws.length)), .ref u2, .ref u3])), (u1, .inl (cI, 1000, .inl (rf))), (u2, .inl (cI, 1000, .inl (sf))), (u3, .inl (cI, 1000, .inl (tf)))] H := hP
        have hD : va_D (AM u0 u1 u2 u3) [(u0, .inr (3, [.int 0, .int (nI sg), .ref u1, .int (nI xs.length), .int (nI (xs.length + ws.length)), .ref u2, .ref u3])), (u1, .inl (cI, 1000, .inl (rf))), (u2, .inl (cI, 1000, .inl (sf))), (u3, .inl (cI, 1000, .inl (tf)))] := hD
        refine lv_iconst (v := 0) hx hb d_M_rank_29 (by decide) ?_
        refine lv_istore_n (lv' := [(3, .int 0), (0, .ref u0), (1, .int x), (2, .int z)]) hx hb d_M_rank_30 rfl hl (by decide) rfl (fun ls hl => ?_)
        refine lv_iconst (v := 0) hx hb d_M_rank_31 (by decide) ?_
        refine lv_istore (lv' := [(4, .int 0), (3, .int 0), (0, .ref u0), (1, .int x), (2, .int z)]) hx hb d_M_rank_32 hl (by decide) rfl (fun ls hl => ?_)
        have loop : ∀ (n : Nat) (k : Nat) (H : Heap) (locs : List Loc) (ls : Array Slot), (k + n = cn z) → va_S (AM u0 u1 u2 u3) s.heap H locs → va_P D vwCl [(u0, .inr (3, [.int 0, .int (nI sg), .ref u1, .int (nI xs.length), .int (nI (xs.length + ws.length)), .ref u2, .ref u3])), (u1, .inl (cI, 1000, .inl (rf))), (u2, .inl (cI, 1000, .inl (sf))), (u3, .inl (cI, 1000, .inl (tf)))] H → va_D (AM u0 u1 u2 u3) [(u0, .inr (3, [.int 0, .int (nI sg), .ref u1, .int (nI xs.length), .int (nI (xs.length + ws.length)), .ref u2, .ref u3])), (u1, .inl (cI, 1000, .inl (rf))), (u2, .inl (cI, 1000, .inl (sf))), (u3, .inl (cI, 1000, .inl (tf)))] → lv_has ls 5 [(4, .int (nI k)), (3, .int (nI (cEq (xs.take k) (cn x)))), (0, .ref u0), (1, .int x), (2, .int z)] → W p l e (rmK 1 0 0) s m [.ref u0, .int x, .int z].toArray below meth c H locs (0) (0) (MQ below (stQ (fun v H0 H1 => fr (AM u0 u1 u2 u3) H0 H1 ∧ (((isS sg x ∧ isPt xs.length 0 z) ∧ MR D cI u0 u1 u2 u3 sg xs ws 0 H1 ∧ v = some (.int (nI (cEq (xs.take (cn z)) (cn x))))) ∨ (¬ (isS sg x ∧ isPt xs.length 0 z) ∧ MR D cI u0 u1 u2 u3 sg xs ws 1 H1 ∧ ∃ w, v = some (.int w))))) [.ref u0, .int x, .int z].toArray s 0 0 (AM u0 u1 u2 u3)) (F0 m 34 ls []) := by
          intro n
          induction n with
          | zero =>
            intro k H locs ls hin hS hP hD hl
            have hkz : k = cn z := by omega
            refine lv_iload hx hb d_M_rank_34 (lv_at hl 0 rfl) ?_
            refine lv_iload_n hx hb d_M_rank_36 rfl (lv_at hl 4 rfl) ?_
            refine lv_icmp_ge (tgt := 72) hx hb d_M_rank_37 (by decide) (fun _ => ?_) (fun c9 => absurd (by rw [hze]; exact nI_le (by omega) (by omega)) c9)
            refine lv_iload_n hx hb d_M_rank_72 rfl (lv_at hl 1 rfl) ?_
            rw [hkz] at hl
            exact W.iret (v := nI (cEq (xs.take k) (cn x))) hx hb hr (fun t ht hW => ⟨_, rfl, by rw [ht]; exact ⟨fr.of hS, Or.inl ⟨hcd, ⟨_, _, _, hrf, hP⟩, by rw [hkz]⟩⟩⟩) hS.2.2 d_M_rank_73
          | succ n ih =>
            intro k H locs ls hin hS hP hD hl
            have hq : xs[k]? = some xs[k] := List.getElem?_eq_getElem (by omega)
            have hxk : xs[k] < 65536 := Nat.lt_of_lt_of_le (ok0.2.2.2.2.2.2.1 _ (List.mem_of_getElem? hq)) hsg6
            refine lv_iload hx hb d_M_rank_34 (lv_at hl 0 rfl) ?_
            refine lv_iload_n hx hb d_M_rank_36 rfl (lv_at hl 4 rfl) ?_
            refine lv_icmp_ge (tgt := 72) hx hb d_M_rank_37 (by decide) (fun c9 => absurd c9 (by rw [hze]; exact nI_ge (by omega) (by omega))) (fun _ => ?_)
            refine lv_aload_n hx hb d_M_rank_40 rfl (lv_at hl 2 rfl) ?_
            refine va_get (D := D) (ci := 3) (v := .int 0) (C := n_M) (T := f_M) (N := 7) hx hb hts in_M hown hK hP 0 rfl rfl 0 (by decide) (hts _ x_437) (fun _ h9 => h9) rfl d_M_rank_41 ?_
            refine lv_if_ne (tgt := 72) hx hb d_M_rank_44 (by decide) (fun c9 => absurd (rfl) c9) (fun _ => ?_)
            refine lv_aload_n hx hb d_M_rank_47 rfl (lv_at hl 2 rfl) ?_
            refine va_get (D := D) (ci := 3) (v := .ref u1) (C := n_M) (T := f_M) (N := 7) hx hb hts in_M hown hK hP 0 rfl rfl 2 (by decide) (hts _ x_439) (fun _ h9 => h9) rfl d_M_rank_48 ?_
            refine lv_iload hx hb d_M_rank_51 (lv_at hl 0 rfl) ?_
            refine va_iald hx hb hK hP 1 0 rfl rfl (vp_in_nI (by omega) (by decide)) d_M_rank_53 ?_
            refine ct_topi (x' := nI xs[k]) (by rw [nI_clamp (by omega)]; exact row_at hrf hq) ?_
            refine lv_iload_n hx hb d_M_rank_54 rfl (lv_at hl 3 rfl) ?_
            have hct := cEq_take hq (cn x)
            by_cases hk : xs[k] = cn x
            · rw [if_pos hk] at hct
              refine lv_icmp_ne (tgt := 64) hx hb d_M_rank_55 (by decide) (fun c9 => absurd (by rw [hk, ← hxe]) c9) (fun _ => ?_)
              refine lv_iload_n hx hb d_M_rank_58 rfl (lv_at hl 1 rfl) ?_
              refine lv_iconst (v := 1) hx hb d_M_rank_59 (by decide) ?_
              refine lv_iadd hx hb d_M_rank_60 ?_
              refine lv_goto (tgt := 65) hx hb d_M_rank_61 (by decide) ?_
              refine ct_topi (x' := nI (cEq (xs.take (k + 1)) (cn x))) (by rw [hct]; exact (nI_succ _).symm) ?_
              refine lv_istore_n (lv' := [(3, .int (nI (cEq (xs.take (k + 1)) (cn x)))), (4, .int (nI k)), (0, .ref u0), (1, .int x), (2, .int z)]) hx hb d_M_rank_65 rfl hl (by decide) rfl (fun ls hl => ?_)
              refine lv_iinc (v := nI (k + 1)) (lv' := [(4, .int (nI (k + 1))), (3, .int (nI (cEq (xs.take (k + 1)) (cn x)))), (0, .ref u0), (1, .int x), (2, .int z)]) hx hb d_M_rank_66 hl (k := 1) rfl ((nI_succ k).symm) (by decide) rfl (fun ls hl => ?_)
              refine lv_goto (tgt := 34) hx hb d_M_rank_69 (by decide) ?_
              exact ih (k + 1) H _ ls (by omega) hS hP hD (lv_sub hl [0, 1, 2, 3, 4] rfl)
            · rw [if_neg hk] at hct
              refine lv_icmp_ne (tgt := 64) hx hb d_M_rank_55 (by decide) (fun _ => ?_) (fun c9 => absurd c9 (fun h9 => hk ((nI_eq (by omega) (by omega)).mp (h9.trans hxe))))
              refine lv_iload_n hx hb d_M_rank_64 rfl (lv_at hl 1 rfl) ?_
              refine ct_topi (x' := nI (cEq (xs.take (k + 1)) (cn x))) (by rw [hct]; rfl) ?_
              refine lv_istore_n (lv' := [(3, .int (nI (cEq (xs.take (k + 1)) (cn x)))), (4, .int (nI k)), (0, .ref u0), (1, .int x), (2, .int z)]) hx hb d_M_rank_65 rfl hl (by decide) rfl (fun ls hl => ?_)
              refine lv_iinc (v := nI (k + 1)) (lv' := [(4, .int (nI (k + 1))), (3, .int (nI (cEq (xs.take (k + 1)) (cn x)))), (0, .ref u0), (1, .int x), (2, .int z)]) hx hb d_M_rank_66 hl (k := 1) rfl ((nI_succ k).symm) (by decide) rfl (fun ls hl => ?_)
              refine lv_goto (tgt := 34) hx hb d_M_rank_69 (by decide) ?_
              exact ih (k + 1) H _ ls (by omega) hS hP hD (lv_sub hl [0, 1, 2, 3, 4] rfl)
        exact loop (cn z) 0 H _ ls (by omega) hS hP hD (lv_sub hl [0, 1, 2, 3, 4] rfl)
  · refine lv_if_eq (tgt := 25) hx hb d_M_rank_6 (by decide) (fun _ => ?_) (fun c9 => absurd (rfl) c9)
    refine lv_iconst (v := 1) hx hb d_M_rank_25 (by decide) ?_
    refine va_put (D := D) (ci := 3) (v := .int 1) (ty := .int) (C := n_M) (T := f_M) (N := 7) hx hb hts in_M t_M ty_M nm_M hown hK hP hD hS 0 rfl rfl 0 (by decide) (hts _ x_437) (fun _ h9 => h9) rfl (by decide +kernel) rfl rfl (Nat.le_of_ble_eq_true rfl) d_M_rank_26 (fun H locs hP hD hS => ?_)
    have hP : va_P D vwCl [(u0, .inr (3, [.int 1, .int (nI sg), .ref u1, .int (nI xs.length), .int (nI (xs.length + ws.length)), .ref u2, .ref u3])), (u1, .inl (cI, 1000, .inl (rf))), (u2, .inl (cI, 1000, .inl (sf))), (u3, .inl (cI, 1000, .inl (tf)))] H := hP
    have hD : va_D (AM u0 u1 u2 u3) [(u0, .inr (3, [.int 1, .int (nI sg), .ref u1, .int (nI xs.length), .int (nI (xs.length + ws.length)), .ref u2, .ref u3])), (u1, .inl (cI, 1000, .inl (rf))), (u2, .inl (cI, 1000, .inl (sf))), (u3, .inl (cI, 1000, .inl (tf)))] := hD
    refine lv_iconst (v := 0) hx hb d_M_rank_29 (by decide) ?_
    refine lv_istore_n (lv' := [(3, .int 0), (0, .ref u0), (1, .int x), (2, .int z)]) hx hb d_M_rank_30 rfl hl (by decide) rfl (fun ls hl => ?_)
    refine lv_iconst (v := 0) hx hb d_M_rank_31 (by decide) ?_
    refine lv_istore (lv' := [(4, .int 0), (3, .int 0), (0, .ref u0), (1, .int x), (2, .int z)]) hx hb d_M_rank_32 hl (by decide) rfl (fun ls hl => ?_)
    refine lv_iload hx hb d_M_rank_34 (lv_at hl 0 rfl) ?_
    refine lv_iload_n hx hb d_M_rank_36 rfl (lv_at hl 4 rfl) ?_
    refine lv_icmp_ge (tgt := 72) hx hb d_M_rank_37 (by decide) (fun h9 => ?_) (fun h9 => ?_)
    · refine lv_iload_n hx hb d_M_rank_72 rfl (lv_at hl 1 rfl) ?_
      exact W.iret (v := 0) hx hb hr (fun t ht hW => ⟨_, rfl, by rw [ht]; exact ⟨fr.of hS, Or.inr ⟨fun h => hs h.1, ⟨_, _, _, hrf, hP⟩, _, rfl⟩⟩⟩) hS.2.2 d_M_rank_73
    · refine lv_aload_n hx hb d_M_rank_40 rfl (lv_at hl 2 rfl) ?_
      refine va_get (D := D) (ci := 3) (v := .int 1) (C := n_M) (T := f_M) (N := 7) hx hb hts in_M hown hK hP 0 rfl rfl 0 (by decide) (hts _ x_437) (fun _ h9 => h9) rfl d_M_rank_41 ?_
      refine lv_if_ne (tgt := 72) hx hb d_M_rank_44 (by decide) (fun _ => ?_) (fun c9 => absurd c9 (by decide))
      refine lv_iload_n hx hb d_M_rank_72 rfl (lv_at hl 1 rfl) ?_
      exact W.iret (v := 0) hx hb hr (fun t ht hW => ⟨_, rfl, by rw [ht]; exact ⟨fr.of hS, Or.inr ⟨fun h => hs h.1, ⟨_, _, _, hrf, hP⟩, _, rfl⟩⟩⟩) hS.2.2 d_M_rank_73
set_option maxHeartbeats 4000000 in
set_option maxRecDepth 100000 in
theorem m_M_select {l : Launch} {D : va_G} {cI cJ cS cO : ClassId} {B0 : Nat} {u0 u1 u2 u3 sg d : Nat} {xs ws : List Nat} (hu : MI B0 u0 u1 u2 u3) (ok0 : Ok sg d xs ws) {th : Int32} (x k : Int32) : CM l D (tyL cI cJ cS cO) B0 y_M_select c_M_select 5 (some .int) (rmK 1 0 0) [.ref u0, .int x, .int k] (fun H => MR D cI u0 u1 u2 u3 sg xs ws th H) (fun v H0 H1 => fr (AM u0 u1 u2 u3) H0 H1 ∧ (((isS sg x ∧ ¬ k < 0) ∧ MR D cI u0 u1 u2 u3 sg xs ws 0 H1 ∧ ∃ w, v = some (.int w) ∧ aSel xs x k w) ∨ (¬ (isS sg x ∧ ¬ k < 0) ∧ MR D cI u0 u1 u2 u3 sg xs ws 1 H1 ∧ ∃ w, v = some (.int w)))) 0 0 (AM u0 u1 u2 u3) := by
  refine cm_of (by decide) (Nat.le_of_ble_eq_true rfl) ?_
  intro p e s m below meth c ls hx hb hr hml hown hts hlocks hnm hE hpre hl
  have hown : s.vm.findClass "LevelRowsModel" = some m.cls := hown
  have hK := hE.1
  have hl : lv_has ls 5 [(0, .ref u0), (1, .int x), (2, .int k)] := hl
  obtain ⟨rf, sf, tf, hrf, hP⟩ := hpre
  have hP : va_P D vwCl [(u0, .inr (3, [.int th, .int (nI sg), .ref u1, .int (nI xs.length), .int (nI (xs.length + ws.length)), .ref u2, .ref u3])), (u1, .inl (cI, 1000, .inl (rf))), (u2, .inl (cI, 1000, .inl (sf))), (u3, .inl (cI, 1000, .inl (tf)))] s.heap := hP
  have hD : va_D (AM u0 u1 u2 u3) [(u0, .inr (3, [.int th, .int (nI sg), .ref u1, .int (nI xs.length), .int (nI (xs.length + ws.length)), .ref u2, .ref u3])), (u1, .inl (cI, 1000, .inl (rf))), (u2, .inl (cI, 1000, .inl (sf))), (u3, .inl (cI, 1000, .inl (tf)))] := hu.D _ _ _ _
  have hAB := hu.AB
  have hS : va_S (AM u0 u1 u2 u3) s.heap s.heap [] := va_S.rf
  have hx9 := ok0.len
  have hsum := ok0.2.2.2.2.2.1
  have hsg6 := ok0.2.1
  refine lv_aload_n hx hb d_M_select_0 rfl (lv_at hl 0 rfl) ?_
  refine lv_aload_n hx hb d_M_select_1 rfl (lv_at hl 0 rfl) ?_
  refine lv_iload_n hx hb d_M_select_2 rfl (lv_at hl 1 rfl) ?_
  refine cm_read (va_runV (As := [.int x]) (rest := [.ref u0]) ⟨hx, hb, hml, hown, hts⟩ (m_M_isSymbol hu ok0 x) ⟨ct_cb 1 hts x_490 x_487 x_6 rfl rfl (by decide +kernel) ⟨by decide, by decide⟩, hts _ x_489, hts _ s_M_isSymbol⟩ ⟨st_blind, va_recv hK hP (ci := 3) (q0 := 0) rfl rfl, fun U hU hW => ⟨rfl, hE.at hS hAB hU hW, by rw [hU]; exact ⟨_, _, _, hrf, hP⟩⟩⟩ rfl rfl hl.1 rfl (lv_room (Nat.le_of_ble_eq_true rfl)) d_M_select_3 ⟨by decide, by decide⟩) (fun v hv => ?_)
  obtain ⟨b9, rfl, hb9⟩ := hv
  refine W.eq (g2 := F0 m 6 ls [.int b9, .ref u0]) rfl ?_
  rcases hb9 with ⟨hs, rfl⟩ | ⟨hs, rfl⟩
  · refine lv_if_eq (tgt := 17) hx hb d_M_select_6 (by decide) (fun c9 => absurd c9 (by decide)) (fun _ => ?_)
    refine lv_iload_n hx hb d_M_select_9 rfl (lv_at hl 2 rfl) ?_
    refine lv_if_lt (tgt := 17) hx hb d_M_select_10 (by decide) (fun h1 => ?_) (fun h1 => ?_)
    · refine lv_iconst (v := 1) hx hb d_M_select_17 (by decide) ?_
      refine va_put (D := D) (ci := 3) (v := .int 1) (ty := .int) (C := n_M) (T := f_M) (N := 7) hx hb hts in_M t_M ty_M nm_M hown hK hP hD hS 0 rfl rfl 0 (by decide) (hts _ x_437) (fun _ h9 => h9) rfl (by decide +kernel) rfl rfl (Nat.le_of_ble_eq_true rfl) d_M_select_18 (fun H locs hP hD hS => ?_)
      have hP : va_P D vwCl [(u0, .inr (3, [.int 1, .int (nI sg), .ref u1, .int (nI xs.length), .int (nI (xs.length + ws.length)), .ref u2, .ref u3])), (u1, .inl (cI, 1000, .inl (rf))), (u2, .inl (cI, 1000, .inl (sf))), (u3, .inl (cI, 1000, .inl (tf)))] H := hP
      have hD : va_D (AM u0 u1 u2 u3) [(u0, .inr (3, [.int 1, .int (nI sg), .ref u1, .int (nI xs.length), .int (nI (xs.length + ws.length)), .ref u2, .ref u3])), (u1, .inl (cI, 1000, .inl (rf))), (u2, .inl (cI, 1000, .inl (sf))), (u3, .inl (cI, 1000, .inl (tf)))] := hD
      refine lv_iload_n hx hb d_M_select_21 rfl (lv_at hl 2 rfl) ?_
      refine lv_istore_n (lv' := [(3, .int k), (0, .ref u0), (1, .int x), (2, .int k)]) hx hb d_M_select_22 rfl hl (by decide) rfl (fun ls hl => ?_)
      refine lv_iconst (v := 0) hx hb d_M_select_23 (by decide) ?_
      refine lv_istore (lv' := [(4, .int 0), (3, .int k), (0, .ref u0), (1, .int x), (2, .int k)]) hx hb d_M_select_24 hl (by decide) rfl (fun ls hl => ?_)
      refine lv_iload hx hb d_M_select_26 (lv_at hl 0 rfl) ?_
      refine lv_aload_n hx hb d_M_select_28 rfl (lv_at hl 2 rfl) ?_
      refine va_get (D := D) (ci := 3) (v := .int (nI xs.length)) (C := n_M) (T := f_M) (N := 7) hx hb hts in_M hown hK hP 0 rfl rfl 3 (by decide) (hts _ x_440) (fun _ h9 => h9) rfl d_M_select_29 ?_
      refine lv_icmp_ge (tgt := 69) hx hb d_M_select_32 (by decide) (fun h9 => ?_) (fun h9 => ?_)
      · refine lv_aload_n hx hb d_M_select_69 rfl (lv_at hl 2 rfl) ?_
        refine va_get (D := D) (ci := 3) (v := .int 1) (C := n_M) (T := f_M) (N := 7) hx hb hts in_M hown hK hP 0 rfl rfl 0 (by decide) (hts _ x_437) (fun _ h9 => h9) rfl d_M_select_70 ?_
        refine lv_if_le (tgt := 80) hx hb d_M_select_73 (by decide) (fun c9 => absurd c9 (by decide)) (fun _ => ?_)
        refine lv_iconst (v := 0) hx hb d_M_select_76 (by decide) ?_
        refine lv_goto (tgt := 81) hx hb d_M_select_77 (by decide) ?_
        exact W.iret (v := 0) hx hb hr (fun t ht hW => ⟨_, rfl, by rw [ht]; exact ⟨fr.of hS, Or.inr ⟨fun h => h.2 h1, ⟨_, _, _, hrf, hP⟩, _, rfl⟩⟩⟩) hS.2.2 d_M_select_81
      · refine lv_aload_n hx hb d_M_select_35 rfl (lv_at hl 2 rfl) ?_
        refine va_get (D := D) (ci := 3) (v := .int 1) (C := n_M) (T := f_M) (N := 7) hx hb hts in_M hown hK hP 0 rfl rfl 0 (by decide) (hts _ x_437) (fun _ h9 => h9) rfl d_M_select_36 ?_
        refine lv_if_ne (tgt := 69) hx hb d_M_select_39 (by decide) (fun _ => ?_) (fun c9 => absurd c9 (by decide))
        refine lv_aload_n hx hb d_M_select_69 rfl (lv_at hl 2 rfl) ?_
        refine va_get (D := D) (ci := 3) (v := .int 1) (C := n_M) (T := f_M) (N := 7) hx hb hts in_M hown hK hP 0 rfl rfl 0 (by decide) (hts _ x_437) (fun _ h9 => h9) rfl d_M_select_70 ?_
        refine lv_if_le (tgt := 80) hx hb d_M_select_73 (by decide) (fun c9 => absurd c9 (by decide)) (fun _ => ?_)
        refine lv_iconst (v := 0) hx hb d_M_select_76 (by decide) ?_
        refine lv_goto (tgt := 81) hx hb d_M_select_77 (by decide) ?_
        exact W.iret (v := 0) hx hb hr (fun t ht hW => ⟨_, rfl, by rw [ht]; exact ⟨fr.of hS, Or.inr ⟨fun h => h.2 h1, ⟨_, _, _, hrf, hP⟩, _, rfl⟩⟩⟩) hS.2.2 d_M_select_81
    · have hcd : isS sg x ∧ ¬ k < 0 := ⟨hs, h1⟩
      obtain ⟨hxe, hxs⟩ := hs.ints hsg6
      obtain ⟨hke, hk31⟩ := nn_ints h1
      refine lv_iconst (v := 0) hx hb d_M_select_13 (by decide) ?_
      refine lv_goto (tgt := 18) hx hb d_M_select_14 (by decide) ?_
      refine va_put (D := D) (ci := 3) (v := .int 0) (ty := .int) (C := n_M) (T := f_M) (N := 7) hx hb hts in_M t_M ty_M nm_M hown hK hP hD hS 0 rfl rfl 0 (by decide) (hts _ x_437) (fun _ h9 => h9) rfl (by decide +kernel) rfl rfl (Nat.le_of_ble_eq_true rfl) d_M_select_18 (fun H locs hP hD hS => ?_)
      have hP : va_P D vwCl [(u0, .inr (3, [.int 0, .int (nI sg), .ref u1, .int (nI xs.length), .int (nI (xs.length + ws.length)), .ref u2, .ref u3])), (u1, .inl (cI, 1000, .inl (rf))), (u2, .inl (cI, 1000, .inl (sf))), (u3, .inl (cI, 1000, .inl (tf)))] H := hP
      have hD : va_D (AM u0 u1 u2 u3) [(u0, .inr (3, [.int 0, .int (nI sg), .ref u1, .int (nI xs.length), .int (nI (xs.length + ws.length)), .ref u2, .ref u3])), (u1, .inl (cI, 1000, .inl (rf))), (u2, .inl (cI, 1000, .inl (sf))), (u3, .inl (cI, 1000, .inl (tf)))] := hD
      refine lv_iload_n hx hb d_M_select_21 rfl (lv_at hl 2 rfl) ?_
      refine lv_istore_n (lv' := [(3, .int k), (0, .ref u0), (1, .int x), (2, .int k)]) hx hb d_M_select_22 rfl hl (by decide) rfl (fun ls hl => ?_)
      refine lv_iconst (v := 0) hx hb d_M_select_23 (by decide) ?_
      refine lv_istore (lv' := [(4, .int 0), (3, .int k), (0, .ref u0), (1, .int x), (2, .int k)]) hx hb d_M_select_24 hl (by decide) rfl (fun ls hl => ?_)
      have loop : ∀ (n : Nat) (i : Nat) (H : Heap) (locs : List Loc) (ls : Array Slot), (i + n = xs.length) → (cEq (xs.take i) (cn x) ≤ cn k) → va_S (AM u0 u1 u2 u3) s.heap H locs → va_P D vwCl [(u0, .inr (3, [.int 0, .int (nI sg), .ref u1, .int (nI xs.length), .int (nI (xs.length + ws.length)), .ref u2, .ref u3])), (u1, .inl (cI, 1000, .inl (rf))), (u2, .inl (cI, 1000, .inl (sf))), (u3, .inl (cI, 1000, .inl (tf)))] H → va_D (AM u0 u1 u2 u3) [(u0, .inr (3, [.int 0, .int (nI sg), .ref u1, .int (nI xs.length), .int (nI (xs.length + ws.length)), .ref u2, .ref u3])), (u1, .inl (cI, 1000, .inl (rf))), (u2, .inl (cI, 1000, .inl (sf))), (u3, .inl (cI, 1000, .inl (tf)))] → lv_has ls 5 [(4, .int (nI i)), (3, .int (nI (cn k - cEq (xs.take i) (cn x)))), (0, .ref u0), (1, .int x), (2, .int k)] → W p l e (rmK 1 0 0) s m [.ref u0, .int x, .int k].toArray below meth c H locs (0) (0) (MQ below (stQ (fun v H0 H1 => fr (AM u0 u1 u2 u3) H0 H1 ∧ (((isS sg x ∧ ¬ k < 0) ∧ MR D cI u0 u1 u2 u3 sg xs ws 0 H1 ∧ ∃ w, v = some (.int w) ∧ aSel xs x k w) ∨ (¬ (isS sg x ∧ ¬ k < 0) ∧ MR D cI u0 u1 u2 u3 sg xs ws 1 H1 ∧ ∃ w, v = some (.int w))))) [.ref u0, .int x, .int k].toArray s 0 0 (AM u0 u1 u2 u3)) (F0 m 26 ls []) := by
        intro n
        induction n with
        | zero =>
          intro i H locs ls hin hle hS hP hD hl
          have hix : i = xs.length := by omega
          refine lv_iload hx hb d_M_select_26 (lv_at hl 0 rfl) ?_
          refine lv_aload_n hx hb d_M_select_28 rfl (lv_at hl 2 rfl) ?_
          refine va_get (D := D) (ci := 3) (v := .int (nI xs.length)) (C := n_M) (T := f_M) (N := 7) hx hb hts in_M hown hK hP 0 rfl rfl 3 (by decide) (hts _ x_440) (fun _ h9 => h9) rfl d_M_select_29 ?_
          refine lv_icmp_ge (tgt := 69) hx hb d_M_select_32 (by decide) (fun _ => ?_) (fun c9 => absurd (nI_le (by omega) (by omega)) c9)
          refine lv_aload_n hx hb d_M_select_69 rfl (lv_at hl 2 rfl) ?_
          refine va_get (D := D) (ci := 3) (v := .int 0) (C := n_M) (T := f_M) (N := 7) hx hb hts in_M hown hK hP 0 rfl rfl 0 (by decide) (hts _ x_437) (fun _ h9 => h9) rfl d_M_select_70 ?_
          refine lv_if_le (tgt := 80) hx hb d_M_select_73 (by decide) (fun _ => ?_) (fun c9 => absurd (by decide) c9)
          refine lv_iconst (v := (-1)) hx hb d_M_select_80 (by decide) ?_
          exact W.iret (v := -1) hx hb hr (fun t ht hW => ⟨_, rfl, by rw [ht]; exact ⟨fr.of hS, Or.inl ⟨hcd, ⟨_, _, _, hrf, hP⟩, _, rfl, Or.inr ⟨by rw [hix, List.take_length] at hle; exact hle, rfl⟩⟩⟩⟩) hS.2.2 d_M_select_81
        | succ n ih =>
          intro i H locs ls hin hle hS hP hD hl
          have hq : xs[i]? = some xs[i] := List.getElem?_eq_getElem (by omega)
          have hxk : xs[i] < 65536 := Nat.lt_of_lt_of_le (ok0.2.2.2.2.2.2.1 _ (List.mem_of_getElem? hq)) hsg6
          refine lv_iload hx hb d_M_select_26 (lv_at hl 0 rfl) ?_
          refine lv_aload_n hx hb d_M_select_28 rfl (lv_at hl 2 rfl) ?_
          refine va_get (D := D) (ci := 3) (v := .int (nI xs.length)) (C := n_M) (T := f_M) (N := 7) hx hb hts in_M hown hK hP 0 rfl rfl 3 (by decide) (hts _ x_440) (fun _ h9 => h9) rfl d_M_select_29 ?_
          refine lv_icmp_ge (tgt := 69) hx hb d_M_select_32 (by decide) (fun c9 => absurd c9 (nI_ge (by omega) (by omega))) (fun _ => ?_)
          refine lv_aload_n hx hb d_M_select_35 rfl (lv_at hl 2 rfl) ?_
          refine va_get (D := D) (ci := 3) (v := .int 0) (C := n_M) (T := f_M) (N := 7) hx hb hts in_M hown hK hP 0 rfl rfl 0 (by decide) (hts _ x_437) (fun _ h9 => h9) rfl d_M_select_36 ?_
          refine lv_if_ne (tgt := 69) hx hb d_M_select_39 (by decide) (fun c9 => absurd (rfl) c9) (fun _ => ?_)
          refine lv_aload_n hx hb d_M_select_42 rfl (lv_at hl 2 rfl) ?_
          refine va_get (D := D) (ci := 3) (v := .ref u1) (C := n_M) (T := f_M) (N := 7) hx hb hts in_M hown hK hP 0 rfl rfl 2 (by decide) (hts _ x_439) (fun _ h9 => h9) rfl d_M_select_43 ?_
          refine lv_iload hx hb d_M_select_46 (lv_at hl 0 rfl) ?_
          refine va_iald hx hb hK hP 1 0 rfl rfl (vp_in_nI (by omega) (by decide)) d_M_select_48 ?_
          refine ct_topi (x' := nI xs[i]) (by rw [nI_clamp (by omega)]; exact row_at hrf hq) ?_
          refine lv_iload_n hx hb d_M_select_49 rfl (lv_at hl 3 rfl) ?_
          have hct := cEq_take hq (cn x)
          by_cases hk : xs[i] = cn x
          · rw [if_pos hk] at hct
            refine lv_icmp_ne (tgt := 63) hx hb d_M_select_50 (by decide) (fun c9 => absurd (by rw [hk, ← hxe]) c9) (fun _ => ?_)
            refine lv_iload_n hx hb d_M_select_53 rfl (lv_at hl 1 rfl) ?_
            by_cases hz : cn k - cEq (xs.take i) (cn x) = 0
            · refine lv_if_ne (tgt := 60) hx hb d_M_select_54 (by decide) (fun c9 => absurd (by rw [hz]; rfl) c9) (fun _ => ?_)
              refine lv_iload hx hb d_M_select_57 (lv_at hl 0 rfl) ?_
              exact W.iret (v := nI i) hx hb hr (fun t ht hW => ⟨_, rfl, by rw [ht]; exact ⟨fr.of hS, Or.inl ⟨hcd, ⟨_, _, _, hrf, hP⟩, _, rfl, Or.inl ⟨i, by rw [hq, hk], by omega, rfl⟩⟩⟩⟩) hS.2.2 d_M_select_59
            · refine lv_if_ne (tgt := 60) hx hb d_M_select_54 (by decide) (fun _ => ?_) (fun c9 => absurd c9 (nI_ne0 (by omega) (by omega)))
              refine lv_iinc (v := nI (cn k - cEq (xs.take (i + 1)) (cn x))) (lv' := [(3, .int (nI (cn k - cEq (xs.take (i + 1)) (cn x)))), (4, .int (nI i)), (0, .ref u0), (1, .int x), (2, .int k)]) hx hb d_M_select_60 hl (k := 1) rfl (by rw [show cn k - cEq (xs.take i) (cn x) = (cn k - cEq (xs.take (i + 1)) (cn x)) + 1 by omega]; exact pk_m1 _) (by decide) rfl (fun ls hl => ?_)
              refine lv_iinc (v := nI (i + 1)) (lv' := [(4, .int (nI (i + 1))), (3, .int (nI (cn k - cEq (xs.take (i + 1)) (cn x)))), (0, .ref u0), (1, .int x), (2, .int k)]) hx hb d_M_select_63 hl (k := 1) rfl ((nI_succ i).symm) (by decide) rfl (fun ls hl => ?_)
              refine lv_goto (tgt := 26) hx hb d_M_select_66 (by decide) ?_
              exact ih (i + 1) H _ ls (by omega) (by omega) hS hP hD (lv_sub hl [0, 1, 2, 3, 4] rfl)
          · rw [if_neg hk] at hct
            refine lv_icmp_ne (tgt := 63) hx hb d_M_select_50 (by decide) (fun _ => ?_) (fun c9 => absurd c9 (fun h9 => hk ((nI_eq (by omega) (by omega)).mp (h9.trans hxe))))
            refine lv_iinc (v := nI (i + 1)) (lv' := [(4, .int (nI (i + 1))), (3, .int (nI (cn k - cEq (xs.take i) (cn x)))), (0, .ref u0), (1, .int x), (2, .int k)]) hx hb d_M_select_63 hl (k := 0) rfl ((nI_succ i).symm) (by decide) rfl (fun ls hl => ?_)
            refine lv_goto (tgt := 26) hx hb d_M_select_66 (by decide) ?_
            exact ih (i + 1) H _ ls (by omega) (by omega) hS hP hD (by rw [hct]; exact (lv_sub hl [0, 1, 2, 3, 4] rfl))
      exact loop xs.length 0 H _ ls (by omega) (by rw [List.take_zero]; exact Nat.zero_le _) hS hP hD (by rw [show cn k - cEq (xs.take 0) (cn x) = cn k from rfl, ← hke]; exact (lv_sub hl [0, 1, 2, 3, 4] rfl))
  · refine lv_if_eq (tgt := 17) hx hb d_M_select_6 (by decide) (fun _ => ?_) (fun c9 => absurd (rfl) c9)
    refine lv_iconst (v := 1) hx hb d_M_select_17 (by decide) ?_
    refine va_put (D := D) (ci := 3) (v := .int 1) (ty := .int) (C := n_M) (T := f_M) (N := 7) hx hb hts in_M t_M ty_M nm_M hown hK hP hD hS 0 rfl rfl 0 (by decide) (hts _ x_437) (fun _ h9 => h9) rfl (by decide +kernel) rfl rfl (Nat.le_of_ble_eq_true rfl) d_M_select_18 (fun H locs hP hD hS => ?_)
    have hP : va_P D vwCl [(u0, .inr (3, [.int 1, .int (nI sg), .ref u1, .int (nI xs.length), .int (nI (xs.length + ws.length)), .ref u2, .ref u3])), (u1, .inl (cI, 1000, .inl (rf))), (u2, .inl (cI, 1000, .inl (sf))), (u3, .inl (cI, 1000, .inl (tf)))] H := hP
    have hD : va_D (AM u0 u1 u2 u3) [(u0, .inr (3, [.int 1, .int (nI sg), .ref u1, .int (nI xs.length), .int (nI (xs.length + ws.length)), .ref u2, .ref u3])), (u1, .inl (cI, 1000, .inl (rf))), (u2, .inl (cI, 1000, .inl (sf))), (u3, .inl (cI, 1000, .inl (tf)))] := hD
    refine lv_iload_n hx hb d_M_select_21 rfl (lv_at hl 2 rfl) ?_
    refine lv_istore_n (lv' := [(3, .int k), (0, .ref u0), (1, .int x), (2, .int k)]) hx hb d_M_select_22 rfl hl (by decide) rfl (fun ls hl => ?_)
    refine lv_iconst (v := 0) hx hb d_M_select_23 (by decide) ?_
    refine lv_istore (lv' := [(4, .int 0), (3, .int k), (0, .ref u0), (1, .int x), (2, .int k)]) hx hb d_M_select_24 hl (by decide) rfl (fun ls hl => ?_)
    refine lv_iload hx hb d_M_select_26 (lv_at hl 0 rfl) ?_
    refine lv_aload_n hx hb d_M_select_28 rfl (lv_at hl 2 rfl) ?_
    refine va_get (D := D) (ci := 3) (v := .int (nI xs.length)) (C := n_M) (T := f_M) (N := 7) hx hb hts in_M hown hK hP 0 rfl rfl 3 (by decide) (hts _ x_440) (fun _ h9 => h9) rfl d_M_select_29 ?_
    refine lv_icmp_ge (tgt := 69) hx hb d_M_select_32 (by decide) (fun h9 => ?_) (fun h9 => ?_)
    · refine lv_aload_n hx hb d_M_select_69 rfl (lv_at hl 2 rfl) ?_
      refine va_get (D := D) (ci := 3) (v := .int 1) (C := n_M) (T := f_M) (N := 7) hx hb hts in_M hown hK hP 0 rfl rfl 0 (by decide) (hts _ x_437) (fun _ h9 => h9) rfl d_M_select_70 ?_
      refine lv_if_le (tgt := 80) hx hb d_M_select_73 (by decide) (fun c9 => absurd c9 (by decide)) (fun _ => ?_)
      refine lv_iconst (v := 0) hx hb d_M_select_76 (by decide) ?_
      refine lv_goto (tgt := 81) hx hb d_M_select_77 (by decide) ?_
      exact W.iret (v := 0) hx hb hr (fun t ht hW => ⟨_, rfl, by rw [ht]; exact ⟨fr.of hS, Or.inr ⟨fun h => hs h.1, ⟨_, _, _, hrf, hP⟩, _, rfl⟩⟩⟩) hS.2.2 d_M_select_81
    · refine lv_aload_n hx hb d_M_select_35 rfl (lv_at hl 2 rfl) ?_
      refine va_get (D := D) (ci := 3) (v := .int 1) (C := n_M) (T := f_M) (N := 7) hx hb hts in_M hown hK hP 0 rfl rfl 0 (by decide) (hts _ x_437) (fun _ h9 => h9) rfl d_M_select_36 ?_
      refine lv_if_ne (tgt := 69) hx hb d_M_select_39 (by decide) (fun _ => ?_) (fun c9 => absurd c9 (by decide))
      refine lv_aload_n hx hb d_M_select_69 rfl (lv_at hl 2 rfl) ?_
      refine va_get (D := D) (ci := 3) (v := .int 1) (C := n_M) (T := f_M) (N := 7) hx hb hts in_M hown hK hP 0 rfl rfl 0 (by decide) (hts _ x_437) (fun _ h9 => h9) rfl d_M_select_70 ?_
      refine lv_if_le (tgt := 80) hx hb d_M_select_73 (by decide) (fun c9 => absurd c9 (by decide)) (fun _ => ?_)
      refine lv_iconst (v := 0) hx hb d_M_select_76 (by decide) ?_
      refine lv_goto (tgt := 81) hx hb d_M_select_77 (by decide) ?_
      exact W.iret (v := 0) hx hb hr (fun t ht hW => ⟨_, rfl, by rw [ht]; exact ⟨fr.of hS, Or.inr ⟨fun h => hs h.1, ⟨_, _, _, hrf, hP⟩, _, rfl⟩⟩⟩) hS.2.2 d_M_select_81
set_option maxHeartbeats 4000000 in
set_option maxRecDepth 100000 in
theorem m_M_between {l : Launch} {D : va_G} {cI cJ cS cO : ClassId} {B0 : Nat} {u0 u1 u2 u3 sg d : Nat} {xs ws : List Nat} (hu : MI B0 u0 u1 u2 u3) (ok0 : Ok sg d xs ws) {th : Int32} (a b lo hi : Int32) : CM l D (tyL cI cJ cS cO) B0 y_M_between c_M_between 7 (some .int) (rmK 1 0 0) [.ref u0, .int a, .int b, .int lo, .int hi] (fun H => MR D cI u0 u1 u2 u3 sg xs ws th H) (fun v H0 H1 => fr (AM u0 u1 u2 u3) H0 H1 ∧ (((isPt xs.length a b) ∧ MR D cI u0 u1 u2 u3 sg xs ws 0 H1 ∧ v = some (.int (aBtw (bk xs a b) lo hi))) ∨ (¬ (isPt xs.length a b) ∧ MR D cI u0 u1 u2 u3 sg xs ws 1 H1 ∧ ∃ w, v = some (.int w)))) 0 0 (AM u0 u1 u2 u3) := by
  refine cm_of (by decide) (Nat.le_of_ble_eq_true rfl) ?_
  intro p e s m below meth c ls hx hb hr hml hown hts hlocks hnm hE hpre hl
  have hown : s.vm.findClass "LevelRowsModel" = some m.cls := hown
  have hK := hE.1
  have hl : lv_has ls 7 [(0, .ref u0), (1, .int a), (2, .int b), (3, .int lo), (4, .int hi)] := hl
  obtain ⟨rf, sf, tf, hrf, hP⟩ := hpre
  have hP : va_P D vwCl [(u0, .inr (3, [.int th, .int (nI sg), .ref u1, .int (nI xs.length), .int (nI (xs.length + ws.length)), .ref u2, .ref u3])), (u1, .inl (cI, 1000, .inl (rf))), (u2, .inl (cI, 1000, .inl (sf))), (u3, .inl (cI, 1000, .inl (tf)))] s.heap := hP
  have hD : va_D (AM u0 u1 u2 u3) [(u0, .inr (3, [.int th, .int (nI sg), .ref u1, .int (nI xs.length), .int (nI (xs.length + ws.length)), .ref u2, .ref u3])), (u1, .inl (cI, 1000, .inl (rf))), (u2, .inl (cI, 1000, .inl (sf))), (u3, .inl (cI, 1000, .inl (tf)))] := hu.D _ _ _ _
  have hAB := hu.AB
  have hS : va_S (AM u0 u1 u2 u3) s.heap s.heap [] := va_S.rf
  have hx9 := ok0.len
  have hsum := ok0.2.2.2.2.2.1
  have hsg6 := ok0.2.1
  refine lv_aload_n hx hb d_M_between_0 rfl (lv_at hl 0 rfl) ?_
  refine lv_aload_n hx hb d_M_between_1 rfl (lv_at hl 0 rfl) ?_
  refine lv_iload_n hx hb d_M_between_2 rfl (lv_at hl 1 rfl) ?_
  refine lv_iload_n hx hb d_M_between_3 rfl (lv_at hl 2 rfl) ?_
  refine cm_read (va_runV (As := [.int a, .int b]) (rest := [.ref u0]) ⟨hx, hb, hml, hown, hts⟩ (m_M_isPart hu ok0 a b) ⟨ct_cb 2 hts x_502 x_499 x_6 rfl rfl (by decide +kernel) ⟨by decide, by decide⟩, hts _ x_501, hts _ s_M_isPart⟩ ⟨st_blind, va_recv hK hP (ci := 3) (q0 := 0) rfl rfl, fun U hU hW => ⟨rfl, hE.at hS hAB hU hW, by rw [hU]; exact ⟨_, _, _, hrf, hP⟩⟩⟩ rfl rfl hl.1 rfl (lv_room (Nat.le_of_ble_eq_true rfl)) d_M_between_4 ⟨by decide, by decide⟩) (fun v hv => ?_)
  obtain ⟨b9, rfl, hb9⟩ := hv
  refine W.eq (g2 := F0 m 7 ls [.int b9, .ref u0]) rfl ?_
  rcases hb9 with ⟨hs, rfl⟩ | ⟨hs, rfl⟩
  · refine lv_if_eq (tgt := 14) hx hb d_M_between_7 (by decide) (fun c9 => absurd c9 (by decide)) (fun _ => ?_)
    obtain ⟨hae, hbe, hab, hbx⟩ := hs.ints hx9
    refine lv_iconst (v := 0) hx hb d_M_between_10 (by decide) ?_
    refine lv_goto (tgt := 15) hx hb d_M_between_11 (by decide) ?_
    refine va_put (D := D) (ci := 3) (v := .int 0) (ty := .int) (C := n_M) (T := f_M) (N := 7) hx hb hts in_M t_M ty_M nm_M hown hK hP hD hS 0 rfl rfl 0 (by decide) (hts _ x_437) (fun _ h9 => h9) rfl (by decide +kernel) rfl rfl (Nat.le_of_ble_eq_true rfl) d_M_between_15 (fun H locs hP hD hS => ?_)
    have hP : va_P D vwCl [(u0, .inr (3, [.int 0, .int (nI sg), .ref u1, .int (nI xs.length), .int (nI (xs.length + ws.length)), .ref u2, .ref u3])), (u1, .inl (cI, 1000, .inl (rf))), (u2, .inl (cI, 1000, .inl (sf))), (u3, .inl (cI, 1000, .inl (tf)))] H := hP
    have hD : va_D (AM u0 u1 u2 u3) [(u0, .inr (3, [.int 0, .int (nI sg), .ref u1, .int (nI xs.length), .int (nI (xs.length + ws.length)), .ref u2, .ref u3])), (u1, .inl (cI, 1000, .inl (rf))), (u2, .inl (cI, 1000, .inl (sf))), (u3, .inl (cI, 1000, .inl (tf)))] := hD
    refine lv_iconst (v := 0) hx hb d_M_between_18 (by decide) ?_
    refine lv_istore (lv' := [(5, .int 0), (0, .ref u0), (1, .int a), (2, .int b), (3, .int lo), (4, .int hi)]) hx hb d_M_between_19 hl (by decide) rfl (fun ls hl => ?_)
    refine lv_iload_n hx hb d_M_between_21 rfl (lv_at hl 2 rfl) ?_
    refine lv_istore (lv' := [(6, .int a), (5, .int 0), (0, .ref u0), (1, .int a), (2, .int b), (3, .int lo), (4, .int hi)]) hx hb d_M_between_22 hl (by decide) rfl (fun ls hl => ?_)
    have loop : ∀ (n : Nat) (i : Nat) (H : Heap) (locs : List Loc) (ls : Array Slot), (i + n = cn b) → (cn a ≤ i) → va_S (AM u0 u1 u2 u3) s.heap H locs → va_P D vwCl [(u0, .inr (3, [.int 0, .int (nI sg), .ref u1, .int (nI xs.length), .int (nI (xs.length + ws.length)), .ref u2, .ref u3])), (u1, .inl (cI, 1000, .inl (rf))), (u2, .inl (cI, 1000, .inl (sf))), (u3, .inl (cI, 1000, .inl (tf)))] H → va_D (AM u0 u1 u2 u3) [(u0, .inr (3, [.int 0, .int (nI sg), .ref u1, .int (nI xs.length), .int (nI (xs.length + ws.length)), .ref u2, .ref u3])), (u1, .inl (cI, 1000, .inl (rf))), (u2, .inl (cI, 1000, .inl (sf))), (u3, .inl (cI, 1000, .inl (tf)))] → lv_has ls 7 [(6, .int (nI i)), (5, .int (nI (cB ((xs.drop (cn a)).take (i - cn a)) lo hi))), (0, .ref u0), (1, .int a), (2, .int b), (3, .int lo), (4, .int hi)] → W p l e (rmK 1 0 0) s m [.ref u0, .int a, .int b, .int lo, .int hi].toArray below meth c H locs (0) (0) (MQ below (stQ (fun v H0 H1 => fr (AM u0 u1 u2 u3) H0 H1 ∧ (((isPt xs.length a b) ∧ MR D cI u0 u1 u2 u3 sg xs ws 0 H1 ∧ v = some (.int (aBtw (bk xs a b) lo hi))) ∨ (¬ (isPt xs.length a b) ∧ MR D cI u0 u1 u2 u3 sg xs ws 1 H1 ∧ ∃ w, v = some (.int w))))) [.ref u0, .int a, .int b, .int lo, .int hi].toArray s 0 0 (AM u0 u1 u2 u3)) (F0 m 24 ls []) := by
      intro n
      induction n with
      | zero =>
        intro i H locs ls hin hai hS hP hD hl
        have hib : i = cn b := by omega
        refine lv_iload hx hb d_M_between_24 (lv_at hl 0 rfl) ?_
        refine lv_iload_n hx hb d_M_between_26 rfl (lv_at hl 4 rfl) ?_
        refine lv_icmp_ge (tgt := 77) hx hb d_M_between_27 (by decide) (fun _ => ?_) (fun c9 => absurd (by rw [hbe]; exact nI_le (by omega) (by omega)) c9)
        refine lv_iload hx hb d_M_between_77 (lv_at hl 1 rfl) ?_
        exact W.iret (v := nI (cB ((xs.drop (cn a)).take (i - cn a)) lo hi)) hx hb hr (fun t ht hW => ⟨_, rfl, by rw [ht]; exact ⟨fr.of hS, Or.inl ⟨hs, ⟨_, _, _, hrf, hP⟩, by rw [hib, cB_btw]⟩⟩⟩) hS.2.2 d_M_between_79
      | succ n ih =>
        intro i H locs ls hin hai hS hP hD hl
        have hq : xs[i]? = some xs[i] := List.getElem?_eq_getElem (by omega)
        have hxk : xs[i] < 65536 := Nat.lt_of_lt_of_le (ok0.2.2.2.2.2.2.1 _ (List.mem_of_getElem? hq)) hsg6
        have hnx := bk_next hai hq
        refine lv_iload hx hb d_M_between_24 (lv_at hl 0 rfl) ?_
        refine lv_iload_n hx hb d_M_between_26 rfl (lv_at hl 4 rfl) ?_
        refine lv_icmp_ge (tgt := 77) hx hb d_M_between_27 (by decide) (fun c9 => absurd c9 (by rw [hbe]; exact nI_ge (by omega) (by omega))) (fun _ => ?_)
        refine lv_aload_n hx hb d_M_between_30 rfl (lv_at hl 2 rfl) ?_
        refine va_get (D := D) (ci := 3) (v := .int 0) (C := n_M) (T := f_M) (N := 7) hx hb hts in_M hown hK hP 0 rfl rfl 0 (by decide) (hts _ x_437) (fun _ h9 => h9) rfl d_M_between_31 ?_
        refine lv_if_ne (tgt := 77) hx hb d_M_between_34 (by decide) (fun c9 => absurd (rfl) c9) (fun _ => ?_)
        refine lv_aload_n hx hb d_M_between_37 rfl (lv_at hl 2 rfl) ?_
        refine va_get (D := D) (ci := 3) (v := .ref u1) (C := n_M) (T := f_M) (N := 7) hx hb hts in_M hown hK hP 0 rfl rfl 2 (by decide) (hts _ x_439) (fun _ h9 => h9) rfl d_M_between_38 ?_
        refine lv_iload hx hb d_M_between_41 (lv_at hl 0 rfl) ?_
        refine va_iald hx hb hK hP 1 0 rfl rfl (vp_in_nI (by omega) (by decide)) d_M_between_43 ?_
        refine ct_topi (x' := nI xs[i]) (by rw [nI_clamp (by omega)]; exact row_at hrf hq) ?_
        have hc1 := cB_app ((xs.drop (cn a)).take (i - cn a)) xs[i] lo hi
        rw [← hnx] at hc1
        have hlo := lt_cn (x := xs[i]) (v := lo) (by omega)
        have hhi := lt_cn (x := xs[i]) (v := hi) (by omega)
        refine lv_iload_n hx hb d_M_between_44 rfl (lv_at hl 5 rfl) ?_
        refine lv_icmp_lt (tgt := 67) hx hb d_M_between_45 (by decide) (fun h1 => ?_) (fun h1 => ?_)
        · have hno : ¬ (cn lo ≤ xs[i] ∧ xs[i] < cn hi) := fun h => absurd (hlo.mp h1) (Nat.not_lt.mpr h.1)
          refine lv_iload hx hb d_M_between_67 (lv_at hl 1 rfl) ?_
          refine ct_topi (x' := nI (cB ((xs.drop (cn a)).take (i + 1 - cn a)) lo hi)) (by rw [hc1, if_neg hno]; rfl) ?_
          refine lv_istore (lv' := [(5, .int (nI (cB ((xs.drop (cn a)).take (i + 1 - cn a)) lo hi))), (6, .int (nI i)), (0, .ref u0), (1, .int a), (2, .int b), (3, .int lo), (4, .int hi)]) hx hb d_M_between_69 hl (by decide) rfl (fun ls hl => ?_)
          refine lv_iinc (v := nI (i + 1)) (lv' := [(6, .int (nI (i + 1))), (5, .int (nI (cB ((xs.drop (cn a)).take (i + 1 - cn a)) lo hi))), (0, .ref u0), (1, .int a), (2, .int b), (3, .int lo), (4, .int hi)]) hx hb d_M_between_71 hl (k := 1) rfl ((nI_succ i).symm) (by decide) rfl (fun ls hl => ?_)
          refine lv_goto (tgt := 24) hx hb d_M_between_74 (by decide) ?_
          exact ih (i + 1) H _ ls (by omega) (by omega) hS hP hD (lv_sub hl [0, 1, 2, 3, 4, 5, 6] rfl)
        · refine lv_aload_n hx hb d_M_between_48 rfl (lv_at hl 2 rfl) ?_
          refine va_get (D := D) (ci := 3) (v := .ref u1) (C := n_M) (T := f_M) (N := 7) hx hb hts in_M hown hK hP 0 rfl rfl 2 (by decide) (hts _ x_439) (fun _ h9 => h9) rfl d_M_between_49 ?_
          refine lv_iload hx hb d_M_between_52 (lv_at hl 0 rfl) ?_
          refine va_iald hx hb hK hP 1 0 rfl rfl (vp_in_nI (by omega) (by decide)) d_M_between_54 ?_
          refine ct_topi (x' := nI xs[i]) (by rw [nI_clamp (by omega)]; exact row_at hrf hq) ?_
          refine lv_iload hx hb d_M_between_55 (lv_at hl 6 rfl) ?_
          refine lv_icmp_ge (tgt := 67) hx hb d_M_between_57 (by decide) (fun h2 => ?_) (fun h2 => ?_)
          · have hno : ¬ (cn lo ≤ xs[i] ∧ xs[i] < cn hi) := fun h => absurd (hhi.mpr h.2) (Int32.not_lt.mpr h2)
            refine lv_iload hx hb d_M_between_67 (lv_at hl 1 rfl) ?_
            refine ct_topi (x' := nI (cB ((xs.drop (cn a)).take (i + 1 - cn a)) lo hi)) (by rw [hc1, if_neg hno]; rfl) ?_
            refine lv_istore (lv' := [(5, .int (nI (cB ((xs.drop (cn a)).take (i + 1 - cn a)) lo hi))), (6, .int (nI i)), (0, .ref u0), (1, .int a), (2, .int b), (3, .int lo), (4, .int hi)]) hx hb d_M_between_69 hl (by decide) rfl (fun ls hl => ?_)
            refine lv_iinc (v := nI (i + 1)) (lv' := [(6, .int (nI (i + 1))), (5, .int (nI (cB ((xs.drop (cn a)).take (i + 1 - cn a)) lo hi))), (0, .ref u0), (1, .int a), (2, .int b), (3, .int lo), (4, .int hi)]) hx hb d_M_between_71 hl (k := 1) rfl ((nI_succ i).symm) (by decide) rfl (fun ls hl => ?_)
            refine lv_goto (tgt := 24) hx hb d_M_between_74 (by decide) ?_
            exact ih (i + 1) H _ ls (by omega) (by omega) hS hP hD (lv_sub hl [0, 1, 2, 3, 4, 5, 6] rfl)
          · have hye : cn lo ≤ xs[i] ∧ xs[i] < cn hi := ⟨Nat.not_lt.mp (fun h => h1 (hlo.mpr h)), hhi.mp (Int32.not_le.mp h2)⟩
            refine lv_iload hx hb d_M_between_60 (lv_at hl 1 rfl) ?_
            refine lv_iconst (v := 1) hx hb d_M_between_62 (by decide) ?_
            refine lv_iadd hx hb d_M_between_63 ?_
            refine lv_goto (tgt := 69) hx hb d_M_between_64 (by decide) ?_
            refine ct_topi (x' := nI (cB ((xs.drop (cn a)).take (i + 1 - cn a)) lo hi)) (by rw [hc1, if_pos hye]; exact (nI_succ _).symm) ?_
            refine lv_istore (lv' := [(5, .int (nI (cB ((xs.drop (cn a)).take (i + 1 - cn a)) lo hi))), (6, .int (nI i)), (0, .ref u0), (1, .int a), (2, .int b), (3, .int lo), (4, .int hi)]) hx hb d_M_between_69 hl (by decide) rfl (fun ls hl => ?_)
            refine lv_iinc (v := nI (i + 1)) (lv' := [(6, .int (nI (i + 1))), (5, .int (nI (cB ((xs.drop (cn a)).take (i + 1 - cn a)) lo hi))), (0, .ref u0), (1, .int a), (2, .int b), (3, .int lo), (4, .int hi)]) hx hb d_M_between_71 hl (k := 1) rfl ((nI_succ i).symm) (by decide) rfl (fun ls hl => ?_)
            refine lv_goto (tgt := 24) hx hb d_M_between_74 (by decide) ?_
            exact ih (i + 1) H _ ls (by omega) (by omega) hS hP hD (lv_sub hl [0, 1, 2, 3, 4, 5, 6] rfl)
    exact loop (cn b - cn a) (cn a) H _ ls (by omega) (Nat.le_refl _) hS hP hD (by rw [Nat.sub_self, List.take_zero, ← hae]; exact (lv_sub hl [0, 1, 2, 3, 4, 5, 6] rfl))
  · refine lv_if_eq (tgt := 14) hx hb d_M_between_7 (by decide) (fun _ => ?_) (fun c9 => absurd (rfl) c9)
    refine lv_iconst (v := 1) hx hb d_M_between_14 (by decide) ?_
    refine va_put (D := D) (ci := 3) (v := .int 1) (ty := .int) (C := n_M) (T := f_M) (N := 7) hx hb hts in_M t_M ty_M nm_M hown hK hP hD hS 0 rfl rfl 0 (by decide) (hts _ x_437) (fun _ h9 => h9) rfl (by decide +kernel) rfl rfl (Nat.le_of_ble_eq_true rfl) d_M_between_15 (fun H locs hP hD hS => ?_)
    have hP : va_P D vwCl [(u0, .inr (3, [.int 1, .int (nI sg), .ref u1, .int (nI xs.length), .int (nI (xs.length + ws.length)), .ref u2, .ref u3])), (u1, .inl (cI, 1000, .inl (rf))), (u2, .inl (cI, 1000, .inl (sf))), (u3, .inl (cI, 1000, .inl (tf)))] H := hP
    have hD : va_D (AM u0 u1 u2 u3) [(u0, .inr (3, [.int 1, .int (nI sg), .ref u1, .int (nI xs.length), .int (nI (xs.length + ws.length)), .ref u2, .ref u3])), (u1, .inl (cI, 1000, .inl (rf))), (u2, .inl (cI, 1000, .inl (sf))), (u3, .inl (cI, 1000, .inl (tf)))] := hD
    refine lv_iconst (v := 0) hx hb d_M_between_18 (by decide) ?_
    refine lv_istore (lv' := [(5, .int 0), (0, .ref u0), (1, .int a), (2, .int b), (3, .int lo), (4, .int hi)]) hx hb d_M_between_19 hl (by decide) rfl (fun ls hl => ?_)
    refine lv_iload_n hx hb d_M_between_21 rfl (lv_at hl 2 rfl) ?_
    refine lv_istore (lv' := [(6, .int a), (5, .int 0), (0, .ref u0), (1, .int a), (2, .int b), (3, .int lo), (4, .int hi)]) hx hb d_M_between_22 hl (by decide) rfl (fun ls hl => ?_)
    refine lv_iload hx hb d_M_between_24 (lv_at hl 0 rfl) ?_
    refine lv_iload_n hx hb d_M_between_26 rfl (lv_at hl 4 rfl) ?_
    refine lv_icmp_ge (tgt := 77) hx hb d_M_between_27 (by decide) (fun h9 => ?_) (fun h9 => ?_)
    · refine lv_iload hx hb d_M_between_77 (lv_at hl 1 rfl) ?_
      exact W.iret (v := 0) hx hb hr (fun t ht hW => ⟨_, rfl, by rw [ht]; exact ⟨fr.of hS, Or.inr ⟨hs, ⟨_, _, _, hrf, hP⟩, _, rfl⟩⟩⟩) hS.2.2 d_M_between_79
    · refine lv_aload_n hx hb d_M_between_30 rfl (lv_at hl 2 rfl) ?_
      refine va_get (D := D) (ci := 3) (v := .int 1) (C := n_M) (T := f_M) (N := 7) hx hb hts in_M hown hK hP 0 rfl rfl 0 (by decide) (hts _ x_437) (fun _ h9 => h9) rfl d_M_between_31 ?_
      refine lv_if_ne (tgt := 77) hx hb d_M_between_34 (by decide) (fun _ => ?_) (fun c9 => absurd c9 (by decide))
      refine lv_iload hx hb d_M_between_77 (lv_at hl 1 rfl) ?_
      exact W.iret (v := 0) hx hb hr (fun t ht hW => ⟨_, rfl, by rw [ht]; exact ⟨fr.of hS, Or.inr ⟨hs, ⟨_, _, _, hrf, hP⟩, _, rfl⟩⟩⟩) hS.2.2 d_M_between_79
set_option maxHeartbeats 4000000 in
set_option maxRecDepth 100000 in
theorem m_M_below {l : Launch} {D : va_G} {cI cJ cS cO : ClassId} {B0 : Nat} {u0 u1 u2 u3 sg d : Nat} {xs ws : List Nat} (hu : MI B0 u0 u1 u2 u3) (ok0 : Ok sg d xs ws) {th : Int32} (a b x : Int32) : CM l D (tyL cI cJ cS cO) B0 y_M_below c_M_below 6 (some .int) (rmK 1 0 0) [.ref u0, .int a, .int b, .int x] (fun H => MR D cI u0 u1 u2 u3 sg xs ws th H) (fun v H0 H1 => fr (AM u0 u1 u2 u3) H0 H1 ∧ (((isPt xs.length a b) ∧ MR D cI u0 u1 u2 u3 sg xs ws 0 H1 ∧ ∃ w, v = some (.int w) ∧ aBel (bk xs a b) x w) ∨ (¬ (isPt xs.length a b) ∧ MR D cI u0 u1 u2 u3 sg xs ws 1 H1 ∧ ∃ w, v = some (.int w)))) 0 0 (AM u0 u1 u2 u3) := by
  refine cm_of (by decide) (Nat.le_of_ble_eq_true rfl) ?_
  intro p e s m below meth c ls hx hb hr hml hown hts hlocks hnm hE hpre hl
  have hown : s.vm.findClass "LevelRowsModel" = some m.cls := hown
  have hK := hE.1
  have hl : lv_has ls 6 [(0, .ref u0), (1, .int a), (2, .int b), (3, .int x)] := hl
  obtain ⟨rf, sf, tf, hrf, hP⟩ := hpre
  have hP : va_P D vwCl [(u0, .inr (3, [.int th, .int (nI sg), .ref u1, .int (nI xs.length), .int (nI (xs.length + ws.length)), .ref u2, .ref u3])), (u1, .inl (cI, 1000, .inl (rf))), (u2, .inl (cI, 1000, .inl (sf))), (u3, .inl (cI, 1000, .inl (tf)))] s.heap := hP
  have hD : va_D (AM u0 u1 u2 u3) [(u0, .inr (3, [.int th, .int (nI sg), .ref u1, .int (nI xs.length), .int (nI (xs.length + ws.length)), .ref u2, .ref u3])), (u1, .inl (cI, 1000, .inl (rf))), (u2, .inl (cI, 1000, .inl (sf))), (u3, .inl (cI, 1000, .inl (tf)))] := hu.D _ _ _ _
  have hAB := hu.AB
  have hS : va_S (AM u0 u1 u2 u3) s.heap s.heap [] := va_S.rf
  have hx9 := ok0.len
  have hsum := ok0.2.2.2.2.2.1
  have hsg6 := ok0.2.1
  refine lv_aload_n hx hb d_M_below_0 rfl (lv_at hl 0 rfl) ?_
  refine lv_aload_n hx hb d_M_below_1 rfl (lv_at hl 0 rfl) ?_
  refine lv_iload_n hx hb d_M_below_2 rfl (lv_at hl 1 rfl) ?_
  refine lv_iload_n hx hb d_M_below_3 rfl (lv_at hl 2 rfl) ?_
  refine cm_read (va_runV (As := [.int a, .int b]) (rest := [.ref u0]) ⟨hx, hb, hml, hown, hts⟩ (m_M_isPart hu ok0 a b) ⟨ct_cb 2 hts x_502 x_499 x_6 rfl rfl (by decide +kernel) ⟨by decide, by decide⟩, hts _ x_501, hts _ s_M_isPart⟩ ⟨st_blind, va_recv hK hP (ci := 3) (q0 := 0) rfl rfl, fun U hU hW => ⟨rfl, hE.at hS hAB hU hW, by rw [hU]; exact ⟨_, _, _, hrf, hP⟩⟩⟩ rfl rfl hl.1 rfl (lv_room (Nat.le_of_ble_eq_true rfl)) d_M_below_4 ⟨by decide, by decide⟩) (fun v hv => ?_)
  obtain ⟨b9, rfl, hb9⟩ := hv
  refine W.eq (g2 := F0 m 7 ls [.int b9, .ref u0]) rfl ?_
  rcases hb9 with ⟨hs, rfl⟩ | ⟨hs, rfl⟩
  · refine lv_if_eq (tgt := 14) hx hb d_M_below_7 (by decide) (fun c9 => absurd c9 (by decide)) (fun _ => ?_)
    obtain ⟨hae, hbe, hab, hbx⟩ := hs.ints hx9
    refine lv_iconst (v := 0) hx hb d_M_below_10 (by decide) ?_
    refine lv_goto (tgt := 15) hx hb d_M_below_11 (by decide) ?_
    refine va_put (D := D) (ci := 3) (v := .int 0) (ty := .int) (C := n_M) (T := f_M) (N := 7) hx hb hts in_M t_M ty_M nm_M hown hK hP hD hS 0 rfl rfl 0 (by decide) (hts _ x_437) (fun _ h9 => h9) rfl (by decide +kernel) rfl rfl (Nat.le_of_ble_eq_true rfl) d_M_below_15 (fun H locs hP hD hS => ?_)
    have hP : va_P D vwCl [(u0, .inr (3, [.int 0, .int (nI sg), .ref u1, .int (nI xs.length), .int (nI (xs.length + ws.length)), .ref u2, .ref u3])), (u1, .inl (cI, 1000, .inl (rf))), (u2, .inl (cI, 1000, .inl (sf))), (u3, .inl (cI, 1000, .inl (tf)))] H := hP
    have hD : va_D (AM u0 u1 u2 u3) [(u0, .inr (3, [.int 0, .int (nI sg), .ref u1, .int (nI xs.length), .int (nI (xs.length + ws.length)), .ref u2, .ref u3])), (u1, .inl (cI, 1000, .inl (rf))), (u2, .inl (cI, 1000, .inl (sf))), (u3, .inl (cI, 1000, .inl (tf)))] := hD
    refine lv_iconst (v := (-1)) hx hb d_M_below_18 (by decide) ?_
    refine lv_istore (lv' := [(4, .int (-1)), (0, .ref u0), (1, .int a), (2, .int b), (3, .int x)]) hx hb d_M_below_19 hl (by decide) rfl (fun ls hl => ?_)
    refine lv_iload_n hx hb d_M_below_21 rfl (lv_at hl 2 rfl) ?_
    refine lv_istore (lv' := [(5, .int a), (4, .int (-1)), (0, .ref u0), (1, .int a), (2, .int b), (3, .int x)]) hx hb d_M_below_22 hl (by decide) rfl (fun ls hl => ?_)
    have loop : ∀ (n : Nat) (i : Nat) (bt : Int32) (H : Heap) (locs : List Loc) (ls : Array Slot), (i + n = cn b) → (cn a ≤ i) → (aBel ((xs.drop (cn a)).take (i - cn a)) x bt) → va_S (AM u0 u1 u2 u3) s.heap H locs → va_P D vwCl [(u0, .inr (3, [.int 0, .int (nI sg), .ref u1, .int (nI xs.length), .int (nI (xs.length + ws.length)), .ref u2, .ref u3])), (u1, .inl (cI, 1000, .inl (rf))), (u2, .inl (cI, 1000, .inl (sf))), (u3, .inl (cI, 1000, .inl (tf)))] H → va_D (AM u0 u1 u2 u3) [(u0, .inr (3, [.int 0, .int (nI sg), .ref u1, .int (nI xs.length), .int (nI (xs.length + ws.length)), .ref u2, .ref u3])), (u1, .inl (cI, 1000, .inl (rf))), (u2, .inl (cI, 1000, .inl (sf))), (u3, .inl (cI, 1000, .inl (tf)))] → lv_has ls 6 [(5, .int (nI i)), (4, .int bt), (0, .ref u0), (1, .int a), (2, .int b), (3, .int x)] → W p l e (rmK 1 0 0) s m [.ref u0, .int a, .int b, .int x].toArray below meth c H locs (0) (0) (MQ below (stQ (fun v H0 H1 => fr (AM u0 u1 u2 u3) H0 H1 ∧ (((isPt xs.length a b) ∧ MR D cI u0 u1 u2 u3 sg xs ws 0 H1 ∧ ∃ w, v = some (.int w) ∧ aBel (bk xs a b) x w) ∨ (¬ (isPt xs.length a b) ∧ MR D cI u0 u1 u2 u3 sg xs ws 1 H1 ∧ ∃ w, v = some (.int w))))) [.ref u0, .int a, .int b, .int x].toArray s 0 0 (AM u0 u1 u2 u3)) (F0 m 24 ls []) := by
      intro n
      induction n with
      | zero =>
        intro i bt H locs ls hin hai hbt hS hP hD hl
        have hib : i = cn b := by omega
        refine lv_iload hx hb d_M_below_24 (lv_at hl 0 rfl) ?_
        refine lv_iload_n hx hb d_M_below_26 rfl (lv_at hl 4 rfl) ?_
        refine lv_icmp_ge (tgt := 80) hx hb d_M_below_27 (by decide) (fun _ => ?_) (fun c9 => absurd (by rw [hbe]; exact nI_le (by omega) (by omega)) c9)
        refine lv_aload_n hx hb d_M_below_80 rfl (lv_at hl 2 rfl) ?_
        refine va_get (D := D) (ci := 3) (v := .int 0) (C := n_M) (T := f_M) (N := 7) hx hb hts in_M hown hK hP 0 rfl rfl 0 (by decide) (hts _ x_437) (fun _ h9 => h9) rfl d_M_below_81 ?_
        refine lv_if_le (tgt := 91) hx hb d_M_below_84 (by decide) (fun _ => ?_) (fun c9 => absurd (by decide) c9)
        refine lv_iload hx hb d_M_below_91 (lv_at hl 1 rfl) ?_
        exact W.iret (v := bt) hx hb hr (fun t ht hW => ⟨_, rfl, by rw [ht]; exact ⟨fr.of hS, Or.inl ⟨hs, ⟨_, _, _, hrf, hP⟩, _, rfl, by rw [hib] at hbt; exact hbt⟩⟩⟩) hS.2.2 d_M_below_93
      | succ n ih =>
        intro i bt H locs ls hin hai hbt hS hP hD hl
        have hq : xs[i]? = some xs[i] := List.getElem?_eq_getElem (by omega)
        have hxk : xs[i] < 65536 := Nat.lt_of_lt_of_le (ok0.2.2.2.2.2.2.1 _ (List.mem_of_getElem? hq)) hsg6
        have hnx := bk_next hai hq
        refine lv_iload hx hb d_M_below_24 (lv_at hl 0 rfl) ?_
        refine lv_iload_n hx hb d_M_below_26 rfl (lv_at hl 4 rfl) ?_
        refine lv_icmp_ge (tgt := 80) hx hb d_M_below_27 (by decide) (fun c9 => absurd c9 (by rw [hbe]; exact nI_ge (by omega) (by omega))) (fun _ => ?_)
        refine lv_aload_n hx hb d_M_below_30 rfl (lv_at hl 2 rfl) ?_
        refine va_get (D := D) (ci := 3) (v := .int 0) (C := n_M) (T := f_M) (N := 7) hx hb hts in_M hown hK hP 0 rfl rfl 0 (by decide) (hts _ x_437) (fun _ h9 => h9) rfl d_M_below_31 ?_
        refine lv_if_ne (tgt := 80) hx hb d_M_below_34 (by decide) (fun c9 => absurd (rfl) c9) (fun _ => ?_)
        refine lv_aload_n hx hb d_M_below_37 rfl (lv_at hl 2 rfl) ?_
        refine va_get (D := D) (ci := 3) (v := .ref u1) (C := n_M) (T := f_M) (N := 7) hx hb hts in_M hown hK hP 0 rfl rfl 2 (by decide) (hts _ x_439) (fun _ h9 => h9) rfl d_M_below_38 ?_
        refine lv_iload hx hb d_M_below_41 (lv_at hl 0 rfl) ?_
        refine va_iald hx hb hK hP 1 0 rfl rfl (vp_in_nI (by omega) (by decide)) d_M_below_43 ?_
        refine ct_topi (x' := nI xs[i]) (by rw [nI_clamp (by omega)]; exact row_at hrf hq) ?_
        have hst := aBel_step (z := xs[i]) (fun y h => Nat.lt_of_lt_of_le (ok0.2.2.2.2.2.2.1 y (bk_mem h)) hsg6) hxk hbt
        rw [← hnx] at hst
        refine lv_iload_n hx hb d_M_below_44 rfl (lv_at hl 5 rfl) ?_
        refine lv_icmp_ge (tgt := 70) hx hb d_M_below_45 (by decide) (fun h1 => ?_) (fun h1 => ?_)
        · rw [if_neg (fun h => Int32.not_lt.mpr h1 h.1)] at hst
          refine lv_iload hx hb d_M_below_70 (lv_at hl 1 rfl) ?_
          refine lv_istore (lv' := [(4, .int bt), (5, .int (nI i)), (0, .ref u0), (1, .int a), (2, .int b), (3, .int x)]) hx hb d_M_below_72 hl (by decide) rfl (fun ls hl => ?_)
          refine lv_iinc (v := nI (i + 1)) (lv' := [(5, .int (nI (i + 1))), (4, .int bt), (0, .ref u0), (1, .int a), (2, .int b), (3, .int x)]) hx hb d_M_below_74 hl (k := 1) rfl ((nI_succ i).symm) (by decide) rfl (fun ls hl => ?_)
          refine lv_goto (tgt := 24) hx hb d_M_below_77 (by decide) ?_
          exact ih (i + 1) bt H _ ls (by omega) (by omega) hst hS hP hD (lv_sub hl [0, 1, 2, 3, 4, 5] rfl)
        · refine lv_aload_n hx hb d_M_below_48 rfl (lv_at hl 2 rfl) ?_
          refine va_get (D := D) (ci := 3) (v := .ref u1) (C := n_M) (T := f_M) (N := 7) hx hb hts in_M hown hK hP 0 rfl rfl 2 (by decide) (hts _ x_439) (fun _ h9 => h9) rfl d_M_below_49 ?_
          refine lv_iload hx hb d_M_below_52 (lv_at hl 0 rfl) ?_
          refine va_iald hx hb hK hP 1 0 rfl rfl (vp_in_nI (by omega) (by decide)) d_M_below_54 ?_
          refine ct_topi (x' := nI xs[i]) (by rw [nI_clamp (by omega)]; exact row_at hrf hq) ?_
          refine lv_iload hx hb d_M_below_55 (lv_at hl 1 rfl) ?_
          refine lv_icmp_le (tgt := 70) hx hb d_M_below_57 (by decide) (fun h2 => ?_) (fun h2 => ?_)
          · rw [if_neg (fun h => Int32.not_lt.mpr h2 h.2)] at hst
            refine lv_iload hx hb d_M_below_70 (lv_at hl 1 rfl) ?_
            refine lv_istore (lv' := [(4, .int bt), (5, .int (nI i)), (0, .ref u0), (1, .int a), (2, .int b), (3, .int x)]) hx hb d_M_below_72 hl (by decide) rfl (fun ls hl => ?_)
            refine lv_iinc (v := nI (i + 1)) (lv' := [(5, .int (nI (i + 1))), (4, .int bt), (0, .ref u0), (1, .int a), (2, .int b), (3, .int x)]) hx hb d_M_below_74 hl (k := 1) rfl ((nI_succ i).symm) (by decide) rfl (fun ls hl => ?_)
            refine lv_goto (tgt := 24) hx hb d_M_below_77 (by decide) ?_
            exact ih (i + 1) bt H _ ls (by omega) (by omega) hst hS hP hD (lv_sub hl [0, 1, 2, 3, 4, 5] rfl)
          · rw [if_pos (⟨Int32.not_le.mp h1, Int32.not_le.mp h2⟩)] at hst
            refine lv_aload_n hx hb d_M_below_60 rfl (lv_at hl 2 rfl) ?_
            refine va_get (D := D) (ci := 3) (v := .ref u1) (C := n_M) (T := f_M) (N := 7) hx hb hts in_M hown hK hP 0 rfl rfl 2 (by decide) (hts _ x_439) (fun _ h9 => h9) rfl d_M_below_61 ?_
            refine lv_iload hx hb d_M_below_64 (lv_at hl 0 rfl) ?_
            refine va_iald hx hb hK hP 1 0 rfl rfl (vp_in_nI (by omega) (by decide)) d_M_below_66 ?_
            refine ct_topi (x' := nI xs[i]) (by rw [nI_clamp (by omega)]; exact row_at hrf hq) ?_
            refine lv_goto (tgt := 72) hx hb d_M_below_67 (by decide) ?_
            refine lv_istore (lv' := [(4, .int (nI xs[i])), (5, .int (nI i)), (0, .ref u0), (1, .int a), (2, .int b), (3, .int x)]) hx hb d_M_below_72 hl (by decide) rfl (fun ls hl => ?_)
            refine lv_iinc (v := nI (i + 1)) (lv' := [(5, .int (nI (i + 1))), (4, .int (nI xs[i])), (0, .ref u0), (1, .int a), (2, .int b), (3, .int x)]) hx hb d_M_below_74 hl (k := 1) rfl ((nI_succ i).symm) (by decide) rfl (fun ls hl => ?_)
            refine lv_goto (tgt := 24) hx hb d_M_below_77 (by decide) ?_
            exact ih (i + 1) _ H _ ls (by omega) (by omega) hst hS hP hD (lv_sub hl [0, 1, 2, 3, 4, 5] rfl)
    exact loop (cn b - cn a) (cn a) (-1) H _ ls (by omega) (Nat.le_refl _) (by rw [Nat.sub_self, List.take_zero]; exact aBel_nil x) hS hP hD (by rw [← hae]; exact (lv_sub hl [0, 1, 2, 3, 4, 5] rfl))
  · refine lv_if_eq (tgt := 14) hx hb d_M_below_7 (by decide) (fun _ => ?_) (fun c9 => absurd (rfl) c9)
    refine lv_iconst (v := 1) hx hb d_M_below_14 (by decide) ?_
    refine va_put (D := D) (ci := 3) (v := .int 1) (ty := .int) (C := n_M) (T := f_M) (N := 7) hx hb hts in_M t_M ty_M nm_M hown hK hP hD hS 0 rfl rfl 0 (by decide) (hts _ x_437) (fun _ h9 => h9) rfl (by decide +kernel) rfl rfl (Nat.le_of_ble_eq_true rfl) d_M_below_15 (fun H locs hP hD hS => ?_)
    have hP : va_P D vwCl [(u0, .inr (3, [.int 1, .int (nI sg), .ref u1, .int (nI xs.length), .int (nI (xs.length + ws.length)), .ref u2, .ref u3])), (u1, .inl (cI, 1000, .inl (rf))), (u2, .inl (cI, 1000, .inl (sf))), (u3, .inl (cI, 1000, .inl (tf)))] H := hP
    have hD : va_D (AM u0 u1 u2 u3) [(u0, .inr (3, [.int 1, .int (nI sg), .ref u1, .int (nI xs.length), .int (nI (xs.length + ws.length)), .ref u2, .ref u3])), (u1, .inl (cI, 1000, .inl (rf))), (u2, .inl (cI, 1000, .inl (sf))), (u3, .inl (cI, 1000, .inl (tf)))] := hD
    refine lv_iconst (v := (-1)) hx hb d_M_below_18 (by decide) ?_
    refine lv_istore (lv' := [(4, .int (-1)), (0, .ref u0), (1, .int a), (2, .int b), (3, .int x)]) hx hb d_M_below_19 hl (by decide) rfl (fun ls hl => ?_)
    refine lv_iload_n hx hb d_M_below_21 rfl (lv_at hl 2 rfl) ?_
    refine lv_istore (lv' := [(5, .int a), (4, .int (-1)), (0, .ref u0), (1, .int a), (2, .int b), (3, .int x)]) hx hb d_M_below_22 hl (by decide) rfl (fun ls hl => ?_)
    refine lv_iload hx hb d_M_below_24 (lv_at hl 0 rfl) ?_
    refine lv_iload_n hx hb d_M_below_26 rfl (lv_at hl 4 rfl) ?_
    refine lv_icmp_ge (tgt := 80) hx hb d_M_below_27 (by decide) (fun h9 => ?_) (fun h9 => ?_)
    · refine lv_aload_n hx hb d_M_below_80 rfl (lv_at hl 2 rfl) ?_
      refine va_get (D := D) (ci := 3) (v := .int 1) (C := n_M) (T := f_M) (N := 7) hx hb hts in_M hown hK hP 0 rfl rfl 0 (by decide) (hts _ x_437) (fun _ h9 => h9) rfl d_M_below_81 ?_
      refine lv_if_le (tgt := 91) hx hb d_M_below_84 (by decide) (fun c9 => absurd c9 (by decide)) (fun _ => ?_)
      refine lv_iconst (v := 0) hx hb d_M_below_87 (by decide) ?_
      refine lv_goto (tgt := 93) hx hb d_M_below_88 (by decide) ?_
      exact W.iret (v := 0) hx hb hr (fun t ht hW => ⟨_, rfl, by rw [ht]; exact ⟨fr.of hS, Or.inr ⟨hs, ⟨_, _, _, hrf, hP⟩, _, rfl⟩⟩⟩) hS.2.2 d_M_below_93
    · refine lv_aload_n hx hb d_M_below_30 rfl (lv_at hl 2 rfl) ?_
      refine va_get (D := D) (ci := 3) (v := .int 1) (C := n_M) (T := f_M) (N := 7) hx hb hts in_M hown hK hP 0 rfl rfl 0 (by decide) (hts _ x_437) (fun _ h9 => h9) rfl d_M_below_31 ?_
      refine lv_if_ne (tgt := 80) hx hb d_M_below_34 (by decide) (fun _ => ?_) (fun c9 => absurd c9 (by decide))
      refine lv_aload_n hx hb d_M_below_80 rfl (lv_at hl 2 rfl) ?_
      refine va_get (D := D) (ci := 3) (v := .int 1) (C := n_M) (T := f_M) (N := 7) hx hb hts in_M hown hK hP 0 rfl rfl 0 (by decide) (hts _ x_437) (fun _ h9 => h9) rfl d_M_below_81 ?_
      refine lv_if_le (tgt := 91) hx hb d_M_below_84 (by decide) (fun c9 => absurd c9 (by decide)) (fun _ => ?_)
      refine lv_iconst (v := 0) hx hb d_M_below_87 (by decide) ?_
      refine lv_goto (tgt := 93) hx hb d_M_below_88 (by decide) ?_
      exact W.iret (v := 0) hx hb hr (fun t ht hW => ⟨_, rfl, by rw [ht]; exact ⟨fr.of hS, Or.inr ⟨hs, ⟨_, _, _, hrf, hP⟩, _, rfl⟩⟩⟩) hS.2.2 d_M_below_93
set_option maxHeartbeats 4000000 in
set_option maxRecDepth 100000 in
theorem m_M_above {l : Launch} {D : va_G} {cI cJ cS cO : ClassId} {B0 : Nat} {u0 u1 u2 u3 sg d : Nat} {xs ws : List Nat} (hu : MI B0 u0 u1 u2 u3) (ok0 : Ok sg d xs ws) {th : Int32} (a b x : Int32) : CM l D (tyL cI cJ cS cO) B0 y_M_above c_M_above 6 (some .int) (rmK 1 0 0) [.ref u0, .int a, .int b, .int x] (fun H => MR D cI u0 u1 u2 u3 sg xs ws th H) (fun v H0 H1 => fr (AM u0 u1 u2 u3) H0 H1 ∧ (((isPt xs.length a b) ∧ MR D cI u0 u1 u2 u3 sg xs ws 0 H1 ∧ ∃ w, v = some (.int w) ∧ aAbv (bk xs a b) x w) ∨ (¬ (isPt xs.length a b) ∧ MR D cI u0 u1 u2 u3 sg xs ws 1 H1 ∧ ∃ w, v = some (.int w)))) 0 0 (AM u0 u1 u2 u3) := by
  refine cm_of (by decide) (Nat.le_of_ble_eq_true rfl) ?_
  intro p e s m below meth c ls hx hb hr hml hown hts hlocks hnm hE hpre hl
  have hown : s.vm.findClass "LevelRowsModel" = some m.cls := hown
  have hK := hE.1
  have hl : lv_has ls 6 [(0, .ref u0), (1, .int a), (2, .int b), (3, .int x)] := hl
  obtain ⟨rf, sf, tf, hrf, hP⟩ := hpre
  have hP : va_P D vwCl [(u0, .inr (3, [.int th, .int (nI sg), .ref u1, .int (nI xs.length), .int (nI (xs.length + ws.length)), .ref u2, .ref u3])), (u1, .inl (cI, 1000, .inl (rf))), (u2, .inl (cI, 1000, .inl (sf))), (u3, .inl (cI, 1000, .inl (tf)))] s.heap := hP
  have hD : va_D (AM u0 u1 u2 u3) [(u0, .inr (3, [.int th, .int (nI sg), .ref u1, .int (nI xs.length), .int (nI (xs.length + ws.length)), .ref u2, .ref u3])), (u1, .inl (cI, 1000, .inl (rf))), (u2, .inl (cI, 1000, .inl (sf))), (u3, .inl (cI, 1000, .inl (tf)))] := hu.D _ _ _ _
  have hAB := hu.AB
  have hS : va_S (AM u0 u1 u2 u3) s.heap s.heap [] := va_S.rf
  have hx9 := ok0.len
  have hsum := ok0.2.2.2.2.2.1
  have hsg6 := ok0.2.1
  refine lv_aload_n hx hb d_M_above_0 rfl (lv_at hl 0 rfl) ?_
  refine lv_aload_n hx hb d_M_above_1 rfl (lv_at hl 0 rfl) ?_
  refine lv_iload_n hx hb d_M_above_2 rfl (lv_at hl 1 rfl) ?_
  refine lv_iload_n hx hb d_M_above_3 rfl (lv_at hl 2 rfl) ?_
  refine cm_read (va_runV (As := [.int a, .int b]) (rest := [.ref u0]) ⟨hx, hb, hml, hown, hts⟩ (m_M_isPart hu ok0 a b) ⟨ct_cb 2 hts x_502 x_499 x_6 rfl rfl (by decide +kernel) ⟨by decide, by decide⟩, hts _ x_501, hts _ s_M_isPart⟩ ⟨st_blind, va_recv hK hP (ci := 3) (q0 := 0) rfl rfl, fun U hU hW => ⟨rfl, hE.at hS hAB hU hW, by rw [hU]; exact ⟨_, _, _, hrf, hP⟩⟩⟩ rfl rfl hl.1 rfl (lv_room (Nat.le_of_ble_eq_true rfl)) d_M_above_4 ⟨by decide, by decide⟩) (fun v hv => ?_)
  obtain ⟨b9, rfl, hb9⟩ := hv
  refine W.eq (g2 := F0 m 7 ls [.int b9, .ref u0]) rfl ?_
  rcases hb9 with ⟨hs, rfl⟩ | ⟨hs, rfl⟩
  · refine lv_if_eq (tgt := 14) hx hb d_M_above_7 (by decide) (fun c9 => absurd c9 (by decide)) (fun _ => ?_)
    obtain ⟨hae, hbe, hab, hbx⟩ := hs.ints hx9
    refine lv_iconst (v := 0) hx hb d_M_above_10 (by decide) ?_
    refine lv_goto (tgt := 15) hx hb d_M_above_11 (by decide) ?_
    refine va_put (D := D) (ci := 3) (v := .int 0) (ty := .int) (C := n_M) (T := f_M) (N := 7) hx hb hts in_M t_M ty_M nm_M hown hK hP hD hS 0 rfl rfl 0 (by decide) (hts _ x_437) (fun _ h9 => h9) rfl (by decide +kernel) rfl rfl (Nat.le_of_ble_eq_true rfl) d_M_above_15 (fun H locs hP hD hS => ?_)
    have hP : va_P D vwCl [(u0, .inr (3, [.int 0, .int (nI sg), .ref u1, .int (nI xs.length), .int (nI (xs.length + ws.length)), .ref u2, .ref u3])), (u1, .inl (cI, 1000, .inl (rf))), (u2, .inl (cI, 1000, .inl (sf))), (u3, .inl (cI, 1000, .inl (tf)))] H := hP
    have hD : va_D (AM u0 u1 u2 u3) [(u0, .inr (3, [.int 0, .int (nI sg), .ref u1, .int (nI xs.length), .int (nI (xs.length + ws.length)), .ref u2, .ref u3])), (u1, .inl (cI, 1000, .inl (rf))), (u2, .inl (cI, 1000, .inl (sf))), (u3, .inl (cI, 1000, .inl (tf)))] := hD
    refine lv_iconst (v := (-1)) hx hb d_M_above_18 (by decide) ?_
    refine lv_istore (lv' := [(4, .int (-1)), (0, .ref u0), (1, .int a), (2, .int b), (3, .int x)]) hx hb d_M_above_19 hl (by decide) rfl (fun ls hl => ?_)
    refine lv_iload_n hx hb d_M_above_21 rfl (lv_at hl 2 rfl) ?_
    refine lv_istore (lv' := [(5, .int a), (4, .int (-1)), (0, .ref u0), (1, .int a), (2, .int b), (3, .int x)]) hx hb d_M_above_22 hl (by decide) rfl (fun ls hl => ?_)
    have loop : ∀ (n : Nat) (i : Nat) (bt : Int32) (H : Heap) (locs : List Loc) (ls : Array Slot), (i + n = cn b) → (cn a ≤ i) → (aAbv ((xs.drop (cn a)).take (i - cn a)) x bt) → va_S (AM u0 u1 u2 u3) s.heap H locs → va_P D vwCl [(u0, .inr (3, [.int 0, .int (nI sg), .ref u1, .int (nI xs.length), .int (nI (xs.length + ws.length)), .ref u2, .ref u3])), (u1, .inl (cI, 1000, .inl (rf))), (u2, .inl (cI, 1000, .inl (sf))), (u3, .inl (cI, 1000, .inl (tf)))] H → va_D (AM u0 u1 u2 u3) [(u0, .inr (3, [.int 0, .int (nI sg), .ref u1, .int (nI xs.length), .int (nI (xs.length + ws.length)), .ref u2, .ref u3])), (u1, .inl (cI, 1000, .inl (rf))), (u2, .inl (cI, 1000, .inl (sf))), (u3, .inl (cI, 1000, .inl (tf)))] → lv_has ls 6 [(5, .int (nI i)), (4, .int bt), (0, .ref u0), (1, .int a), (2, .int b), (3, .int x)] → W p l e (rmK 1 0 0) s m [.ref u0, .int a, .int b, .int x].toArray below meth c H locs (0) (0) (MQ below (stQ (fun v H0 H1 => fr (AM u0 u1 u2 u3) H0 H1 ∧ (((isPt xs.length a b) ∧ MR D cI u0 u1 u2 u3 sg xs ws 0 H1 ∧ ∃ w, v = some (.int w) ∧ aAbv (bk xs a b) x w) ∨ (¬ (isPt xs.length a b) ∧ MR D cI u0 u1 u2 u3 sg xs ws 1 H1 ∧ ∃ w, v = some (.int w))))) [.ref u0, .int a, .int b, .int x].toArray s 0 0 (AM u0 u1 u2 u3)) (F0 m 24 ls []) := by
      intro n
      induction n with
      | zero =>
        intro i bt H locs ls hin hai hbt hS hP hD hl
        have hib : i = cn b := by omega
        refine lv_iload hx hb d_M_above_24 (lv_at hl 0 rfl) ?_
        refine lv_iload_n hx hb d_M_above_26 rfl (lv_at hl 4 rfl) ?_
        refine lv_icmp_ge (tgt := 86) hx hb d_M_above_27 (by decide) (fun _ => ?_) (fun c9 => absurd (by rw [hbe]; exact nI_le (by omega) (by omega)) c9)
        refine lv_aload_n hx hb d_M_above_86 rfl (lv_at hl 2 rfl) ?_
        refine va_get (D := D) (ci := 3) (v := .int 0) (C := n_M) (T := f_M) (N := 7) hx hb hts in_M hown hK hP 0 rfl rfl 0 (by decide) (hts _ x_437) (fun _ h9 => h9) rfl d_M_above_87 ?_
        refine lv_if_le (tgt := 97) hx hb d_M_above_90 (by decide) (fun _ => ?_) (fun c9 => absurd (by decide) c9)
        refine lv_iload hx hb d_M_above_97 (lv_at hl 1 rfl) ?_
        exact W.iret (v := bt) hx hb hr (fun t ht hW => ⟨_, rfl, by rw [ht]; exact ⟨fr.of hS, Or.inl ⟨hs, ⟨_, _, _, hrf, hP⟩, _, rfl, by rw [hib] at hbt; exact hbt⟩⟩⟩) hS.2.2 d_M_above_99
      | succ n ih =>
        intro i bt H locs ls hin hai hbt hS hP hD hl
        have hq : xs[i]? = some xs[i] := List.getElem?_eq_getElem (by omega)
        have hxk : xs[i] < 65536 := Nat.lt_of_lt_of_le (ok0.2.2.2.2.2.2.1 _ (List.mem_of_getElem? hq)) hsg6
        have hnx := bk_next hai hq
        refine lv_iload hx hb d_M_above_24 (lv_at hl 0 rfl) ?_
        refine lv_iload_n hx hb d_M_above_26 rfl (lv_at hl 4 rfl) ?_
        refine lv_icmp_ge (tgt := 86) hx hb d_M_above_27 (by decide) (fun c9 => absurd c9 (by rw [hbe]; exact nI_ge (by omega) (by omega))) (fun _ => ?_)
        refine lv_aload_n hx hb d_M_above_30 rfl (lv_at hl 2 rfl) ?_
        refine va_get (D := D) (ci := 3) (v := .int 0) (C := n_M) (T := f_M) (N := 7) hx hb hts in_M hown hK hP 0 rfl rfl 0 (by decide) (hts _ x_437) (fun _ h9 => h9) rfl d_M_above_31 ?_
        refine lv_if_ne (tgt := 86) hx hb d_M_above_34 (by decide) (fun c9 => absurd (rfl) c9) (fun _ => ?_)
        refine lv_aload_n hx hb d_M_above_37 rfl (lv_at hl 2 rfl) ?_
        refine va_get (D := D) (ci := 3) (v := .ref u1) (C := n_M) (T := f_M) (N := 7) hx hb hts in_M hown hK hP 0 rfl rfl 2 (by decide) (hts _ x_439) (fun _ h9 => h9) rfl d_M_above_38 ?_
        refine lv_iload hx hb d_M_above_41 (lv_at hl 0 rfl) ?_
        refine va_iald hx hb hK hP 1 0 rfl rfl (vp_in_nI (by omega) (by decide)) d_M_above_43 ?_
        refine ct_topi (x' := nI xs[i]) (by rw [nI_clamp (by omega)]; exact row_at hrf hq) ?_
        have hst := aAbv_step (z := xs[i]) (fun y h => Nat.lt_of_lt_of_le (ok0.2.2.2.2.2.2.1 y (bk_mem h)) hsg6) hxk hbt
        rw [← hnx] at hst
        refine lv_iload_n hx hb d_M_above_44 rfl (lv_at hl 5 rfl) ?_
        refine lv_icmp_lt (tgt := 76) hx hb d_M_above_45 (by decide) (fun h1 => ?_) (fun h1 => ?_)
        · rw [if_neg (fun h => h.1 h1)] at hst
          refine lv_iload hx hb d_M_above_76 (lv_at hl 1 rfl) ?_
          refine lv_istore (lv' := [(4, .int bt), (5, .int (nI i)), (0, .ref u0), (1, .int a), (2, .int b), (3, .int x)]) hx hb d_M_above_78 hl (by decide) rfl (fun ls hl => ?_)
          refine lv_iinc (v := nI (i + 1)) (lv' := [(5, .int (nI (i + 1))), (4, .int bt), (0, .ref u0), (1, .int a), (2, .int b), (3, .int x)]) hx hb d_M_above_80 hl (k := 1) rfl ((nI_succ i).symm) (by decide) rfl (fun ls hl => ?_)
          refine lv_goto (tgt := 24) hx hb d_M_above_83 (by decide) ?_
          exact ih (i + 1) bt H _ ls (by omega) (by omega) hst hS hP hD (lv_sub hl [0, 1, 2, 3, 4, 5] rfl)
        · refine lv_iload hx hb d_M_above_48 (lv_at hl 1 rfl) ?_
          refine lv_iconst (v := (-1)) hx hb d_M_above_50 (by decide) ?_
          refine lv_icmp_eq (tgt := 66) hx hb d_M_above_51 (by decide) (fun h2 => ?_) (fun h2 => ?_)
          · rw [if_pos (⟨h1, Or.inl h2⟩)] at hst
            refine lv_aload_n hx hb d_M_above_66 rfl (lv_at hl 2 rfl) ?_
            refine va_get (D := D) (ci := 3) (v := .ref u1) (C := n_M) (T := f_M) (N := 7) hx hb hts in_M hown hK hP 0 rfl rfl 2 (by decide) (hts _ x_439) (fun _ h9 => h9) rfl d_M_above_67 ?_
            refine lv_iload hx hb d_M_above_70 (lv_at hl 0 rfl) ?_
            refine va_iald hx hb hK hP 1 0 rfl rfl (vp_in_nI (by omega) (by decide)) d_M_above_72 ?_
            refine ct_topi (x' := nI xs[i]) (by rw [nI_clamp (by omega)]; exact row_at hrf hq) ?_
            refine lv_goto (tgt := 78) hx hb d_M_above_73 (by decide) ?_
            refine lv_istore (lv' := [(4, .int (nI xs[i])), (5, .int (nI i)), (0, .ref u0), (1, .int a), (2, .int b), (3, .int x)]) hx hb d_M_above_78 hl (by decide) rfl (fun ls hl => ?_)
            refine lv_iinc (v := nI (i + 1)) (lv' := [(5, .int (nI (i + 1))), (4, .int (nI xs[i])), (0, .ref u0), (1, .int a), (2, .int b), (3, .int x)]) hx hb d_M_above_80 hl (k := 1) rfl ((nI_succ i).symm) (by decide) rfl (fun ls hl => ?_)
            refine lv_goto (tgt := 24) hx hb d_M_above_83 (by decide) ?_
            exact ih (i + 1) _ H _ ls (by omega) (by omega) hst hS hP hD (lv_sub hl [0, 1, 2, 3, 4, 5] rfl)
          · refine lv_aload_n hx hb d_M_above_54 rfl (lv_at hl 2 rfl) ?_
            refine va_get (D := D) (ci := 3) (v := .ref u1) (C := n_M) (T := f_M) (N := 7) hx hb hts in_M hown hK hP 0 rfl rfl 2 (by decide) (hts _ x_439) (fun _ h9 => h9) rfl d_M_above_55 ?_
            refine lv_iload hx hb d_M_above_58 (lv_at hl 0 rfl) ?_
            refine va_iald hx hb hK hP 1 0 rfl rfl (vp_in_nI (by omega) (by decide)) d_M_above_60 ?_
            refine ct_topi (x' := nI xs[i]) (by rw [nI_clamp (by omega)]; exact row_at hrf hq) ?_
            refine lv_iload hx hb d_M_above_61 (lv_at hl 1 rfl) ?_
            refine lv_icmp_ge (tgt := 76) hx hb d_M_above_63 (by decide) (fun h3 => ?_) (fun h3 => ?_)
            · rw [if_neg (fun h => h.2.elim h2 (Int32.not_lt.mpr h3))] at hst
              refine lv_iload hx hb d_M_above_76 (lv_at hl 1 rfl) ?_
              refine lv_istore (lv' := [(4, .int bt), (5, .int (nI i)), (0, .ref u0), (1, .int a), (2, .int b), (3, .int x)]) hx hb d_M_above_78 hl (by decide) rfl (fun ls hl => ?_)
              refine lv_iinc (v := nI (i + 1)) (lv' := [(5, .int (nI (i + 1))), (4, .int bt), (0, .ref u0), (1, .int a), (2, .int b), (3, .int x)]) hx hb d_M_above_80 hl (k := 1) rfl ((nI_succ i).symm) (by decide) rfl (fun ls hl => ?_)
              refine lv_goto (tgt := 24) hx hb d_M_above_83 (by decide) ?_
              exact ih (i + 1) bt H _ ls (by omega) (by omega) hst hS hP hD (lv_sub hl [0, 1, 2, 3, 4, 5] rfl)
            · rw [if_pos (⟨h1, Or.inr (Int32.not_le.mp h3)⟩)] at hst
              refine lv_aload_n hx hb d_M_above_66 rfl (lv_at hl 2 rfl) ?_
              refine va_get (D := D) (ci := 3) (v := .ref u1) (C := n_M) (T := f_M) (N := 7) hx hb hts in_M hown hK hP 0 rfl rfl 2 (by decide) (hts _ x_439) (fun _ h9 => h9) rfl d_M_above_67 ?_
              refine lv_iload hx hb d_M_above_70 (lv_at hl 0 rfl) ?_
              refine va_iald hx hb hK hP 1 0 rfl rfl (vp_in_nI (by omega) (by decide)) d_M_above_72 ?_
              refine ct_topi (x' := nI xs[i]) (by rw [nI_clamp (by omega)]; exact row_at hrf hq) ?_
              refine lv_goto (tgt := 78) hx hb d_M_above_73 (by decide) ?_
              refine lv_istore (lv' := [(4, .int (nI xs[i])), (5, .int (nI i)), (0, .ref u0), (1, .int a), (2, .int b), (3, .int x)]) hx hb d_M_above_78 hl (by decide) rfl (fun ls hl => ?_)
              refine lv_iinc (v := nI (i + 1)) (lv' := [(5, .int (nI (i + 1))), (4, .int (nI xs[i])), (0, .ref u0), (1, .int a), (2, .int b), (3, .int x)]) hx hb d_M_above_80 hl (k := 1) rfl ((nI_succ i).symm) (by decide) rfl (fun ls hl => ?_)
              refine lv_goto (tgt := 24) hx hb d_M_above_83 (by decide) ?_
              exact ih (i + 1) _ H _ ls (by omega) (by omega) hst hS hP hD (lv_sub hl [0, 1, 2, 3, 4, 5] rfl)
    exact loop (cn b - cn a) (cn a) (-1) H _ ls (by omega) (Nat.le_refl _) (by rw [Nat.sub_self, List.take_zero]; exact aAbv_nil x) hS hP hD (by rw [← hae]; exact (lv_sub hl [0, 1, 2, 3, 4, 5] rfl))
  · refine lv_if_eq (tgt := 14) hx hb d_M_above_7 (by decide) (fun _ => ?_) (fun c9 => absurd (rfl) c9)
    refine lv_iconst (v := 1) hx hb d_M_above_14 (by decide) ?_
    refine va_put (D := D) (ci := 3) (v := .int 1) (ty := .int) (C := n_M) (T := f_M) (N := 7) hx hb hts in_M t_M ty_M nm_M hown hK hP hD hS 0 rfl rfl 0 (by decide) (hts _ x_437) (fun _ h9 => h9) rfl (by decide +kernel) rfl rfl (Nat.le_of_ble_eq_true rfl) d_M_above_15 (fun H locs hP hD hS => ?_)
    have hP : va_P D vwCl [(u0, .inr (3, [.int 1, .int (nI sg), .ref u1, .int (nI xs.length), .int (nI (xs.length + ws.length)), .ref u2, .ref u3])), (u1, .inl (cI, 1000, .inl (rf))), (u2, .inl (cI, 1000, .inl (sf))), (u3, .inl (cI, 1000, .inl (tf)))] H := hP
    have hD : va_D (AM u0 u1 u2 u3) [(u0, .inr (3, [.int 1, .int (nI sg), .ref u1, .int (nI xs.length), .int (nI (xs.length + ws.length)), .ref u2, .ref u3])), (u1, .inl (cI, 1000, .inl (rf))), (u2, .inl (cI, 1000, .inl (sf))), (u3, .inl (cI, 1000, .inl (tf)))] := hD
    refine lv_iconst (v := (-1)) hx hb d_M_above_18 (by decide) ?_
    refine lv_istore (lv' := [(4, .int (-1)), (0, .ref u0), (1, .int a), (2, .int b), (3, .int x)]) hx hb d_M_above_19 hl (by decide) rfl (fun ls hl => ?_)
    refine lv_iload_n hx hb d_M_above_21 rfl (lv_at hl 2 rfl) ?_
    refine lv_istore (lv' := [(5, .int a), (4, .int (-1)), (0, .ref u0), (1, .int a), (2, .int b), (3, .int x)]) hx hb d_M_above_22 hl (by decide) rfl (fun ls hl => ?_)
    refine lv_iload hx hb d_M_above_24 (lv_at hl 0 rfl) ?_
    refine lv_iload_n hx hb d_M_above_26 rfl (lv_at hl 4 rfl) ?_
    refine lv_icmp_ge (tgt := 86) hx hb d_M_above_27 (by decide) (fun h9 => ?_) (fun h9 => ?_)
    · refine lv_aload_n hx hb d_M_above_86 rfl (lv_at hl 2 rfl) ?_
      refine va_get (D := D) (ci := 3) (v := .int 1) (C := n_M) (T := f_M) (N := 7) hx hb hts in_M hown hK hP 0 rfl rfl 0 (by decide) (hts _ x_437) (fun _ h9 => h9) rfl d_M_above_87 ?_
      refine lv_if_le (tgt := 97) hx hb d_M_above_90 (by decide) (fun c9 => absurd c9 (by decide)) (fun _ => ?_)
      refine lv_iconst (v := 0) hx hb d_M_above_93 (by decide) ?_
      refine lv_goto (tgt := 99) hx hb d_M_above_94 (by decide) ?_
      exact W.iret (v := 0) hx hb hr (fun t ht hW => ⟨_, rfl, by rw [ht]; exact ⟨fr.of hS, Or.inr ⟨hs, ⟨_, _, _, hrf, hP⟩, _, rfl⟩⟩⟩) hS.2.2 d_M_above_99
    · refine lv_aload_n hx hb d_M_above_30 rfl (lv_at hl 2 rfl) ?_
      refine va_get (D := D) (ci := 3) (v := .int 1) (C := n_M) (T := f_M) (N := 7) hx hb hts in_M hown hK hP 0 rfl rfl 0 (by decide) (hts _ x_437) (fun _ h9 => h9) rfl d_M_above_31 ?_
      refine lv_if_ne (tgt := 86) hx hb d_M_above_34 (by decide) (fun _ => ?_) (fun c9 => absurd c9 (by decide))
      refine lv_aload_n hx hb d_M_above_86 rfl (lv_at hl 2 rfl) ?_
      refine va_get (D := D) (ci := 3) (v := .int 1) (C := n_M) (T := f_M) (N := 7) hx hb hts in_M hown hK hP 0 rfl rfl 0 (by decide) (hts _ x_437) (fun _ h9 => h9) rfl d_M_above_87 ?_
      refine lv_if_le (tgt := 97) hx hb d_M_above_90 (by decide) (fun c9 => absurd c9 (by decide)) (fun _ => ?_)
      refine lv_iconst (v := 0) hx hb d_M_above_93 (by decide) ?_
      refine lv_goto (tgt := 99) hx hb d_M_above_94 (by decide) ?_
      exact W.iret (v := 0) hx hb hr (fun t ht hW => ⟨_, rfl, by rw [ht]; exact ⟨fr.of hS, Or.inr ⟨hs, ⟨_, _, _, hrf, hP⟩, _, rfl⟩⟩⟩) hS.2.2 d_M_above_99
set_option maxHeartbeats 4000000 in
set_option maxRecDepth 100000 in
theorem m_M_levels {l : Launch} {D : va_G} {cI cJ cS cO : ClassId} {B0 : Nat} {u0 u1 u2 u3 sg d : Nat} {xs ws : List Nat} (hu : MI B0 u0 u1 u2 u3) (ok0 : Ok sg d xs ws) {th : Int32} : CM l D (tyL cI cJ cS cO) B0 y_M_levels c_M_levels 2 (some .int) (rmK 0 0 0) [.ref u0] (fun H => MR D cI u0 u1 u2 u3 sg xs ws th H) (fun v H0 H1 => v = some (.int (nI d)) ∧ H1 = H0) 0 0 (fun _ => False) := by
  refine cm_of (by decide) (Nat.le_of_ble_eq_true rfl) ?_
  intro p e s m below meth c ls hx hb hr hml hown hts hlocks hnm hE hpre hl
  have hown : s.vm.findClass "LevelRowsModel" = some m.cls := hown
  have hK := hE.1
  have hl : lv_has ls 2 [(0, .ref u0)] := hl
  obtain ⟨rf, sf, tf, hrf, hP⟩ := hpre
  have hP : va_P D vwCl [(u0, .inr (3, [.int th, .int (nI sg), .ref u1, .int (nI xs.length), .int (nI (xs.length + ws.length)), .ref u2, .ref u3])), (u1, .inl (cI, 1000, .inl (rf))), (u2, .inl (cI, 1000, .inl (sf))), (u3, .inl (cI, 1000, .inl (tf)))] s.heap := hP
  have hAB : ∀ q : Nat, (fun _ : Nat => False) q → B0 ≤ q := fun _ h => h.elim
  have hS : va_S (fun _ => False) s.heap s.heap [] := va_S.rf
  have hx9 := ok0.len
  have hsum := ok0.2.2.2.2.2.1
  have hsg6 := ok0.2.1
  have hd16 := ok0.d16
  have hg1 := ok0.1
  have hg2 := ok0.2.2.1
  refine lv_iconst (v := 0) hx hb d_M_levels_0 (by decide) ?_
  refine lv_istore_n (lv' := [(1, .int 0), (0, .ref u0)]) hx hb d_M_levels_1 rfl hl (by decide) rfl (fun ls hl => ?_)
  have loop : ∀ (n : Nat) (i : Nat) (ls : Array Slot), (i + n = d) → lv_has ls 2 [(1, .int (nI i)), (0, .ref u0)] → W p l e (rmK 0 0 0) s m [.ref u0].toArray below meth c s.heap [] (0) (0) (MQ below (stQ (fun v H0 H1 => v = some (.int (nI d)) ∧ H1 = H0)) [.ref u0].toArray s 0 0 (fun _ => False)) (F0 m 2 ls []) := by
    intro n
    induction n with
    | zero =>
      intro i ls hin hl
      have hid : i = d := by omega
      refine lv_aload_n hx hb d_M_levels_2 rfl (lv_at hl 1 rfl) ?_
      refine va_get (D := D) (ci := 3) (v := .int (nI sg)) (C := n_M) (T := f_M) (N := 7) hx hb hts in_M hown hK hP 0 rfl rfl 1 (by decide) (hts _ x_438) (fun _ h9 => h9) rfl d_M_levels_3 ?_
      refine lv_iconst (v := 1) hx hb d_M_levels_6 (by decide) ?_
      refine lv_isub hx hb d_M_levels_7 ?_
      refine ct_topi (x' := nI (sg - 1)) (pk_sub (b := 1) hg1) ?_
      refine lv_iload_n hx hb d_M_levels_8 rfl (lv_at hl 0 rfl) ?_
      refine lv_ishr hx hb d_M_levels_9 ?_
      refine ct_topi (x' := nI ((sg - 1) / 2 ^ i)) (sh_bit (by omega) (by omega)) ?_
      have h0 : (sg - 1) / 2 ^ i = 0 := Nat.div_eq_of_lt (by rw [hid]; omega)
      refine lv_if_le (tgt := 19) hx hb d_M_levels_10 (by decide) (fun _ => ?_) (fun c9 => absurd (by rw [h0]; decide) c9)
      refine lv_iload_n hx hb d_M_levels_19 rfl (lv_at hl 0 rfl) ?_
      exact W.iret (v := nI i) hx hb hr (fun t ht hW => ⟨_, rfl, by rw [hid], ht⟩) (fun _ h => nomatch h) d_M_levels_20
    | succ n ih =>
      intro i ls hin hl
      refine lv_aload_n hx hb d_M_levels_2 rfl (lv_at hl 1 rfl) ?_
      refine va_get (D := D) (ci := 3) (v := .int (nI sg)) (C := n_M) (T := f_M) (N := 7) hx hb hts in_M hown hK hP 0 rfl rfl 1 (by decide) (hts _ x_438) (fun _ h9 => h9) rfl d_M_levels_3 ?_
      refine lv_iconst (v := 1) hx hb d_M_levels_6 (by decide) ?_
      refine lv_isub hx hb d_M_levels_7 ?_
      refine ct_topi (x' := nI (sg - 1)) (pk_sub (b := 1) hg1) ?_
      refine lv_iload_n hx hb d_M_levels_8 rfl (lv_at hl 0 rfl) ?_
      refine lv_ishr hx hb d_M_levels_9 ?_
      refine ct_topi (x' := nI ((sg - 1) / 2 ^ i)) (sh_bit (by omega) (by omega)) ?_
      have hp : 0 < (sg - 1) / 2 ^ i := Nat.div_pos (ok0.2.2.2.1 i (by omega)) (Nat.pos_of_ne_zero (by simp))
      have hp2 : (sg - 1) / 2 ^ i ≤ sg - 1 := Nat.div_le_self _ _
      refine lv_if_le (tgt := 19) hx hb d_M_levels_10 (by decide) (fun c9 => absurd c9 (nI_nle hp (by omega))) (fun _ => ?_)
      refine lv_iinc (v := nI (i + 1)) (lv' := [(1, .int (nI (i + 1))), (0, .ref u0)]) hx hb d_M_levels_13 hl (k := 0) rfl ((nI_succ i).symm) (by decide) rfl (fun ls hl => ?_)
      refine lv_goto (tgt := 2) hx hb d_M_levels_16 (by decide) ?_
      exact ih (i + 1) ls (by omega) (lv_sub hl [0, 1] rfl)
  exact loop d 0 ls (by omega) (lv_sub hl [0, 1] rfl)
set_option maxHeartbeats 4000000 in
set_option maxRecDepth 100000 in
theorem m_M_bits {l : Launch} {D : va_G} {cI cJ cS cO : ClassId} {B0 : Nat} {u0 u1 u2 u3 sg d : Nat} {xs ws : List Nat} (hu : MI B0 u0 u1 u2 u3) (ok0 : Ok sg d xs ws) {th : Int32} : CM l D (tyL cI cJ cS cO) B0 y_M_bits c_M_bits 1 (some .int) (rmK 1 0 0) [.ref u0] (fun H => MR D cI u0 u1 u2 u3 sg xs ws th H) (fun v H0 H1 => fr (AM u0 u1 u2 u3) H0 H1 ∧ MR D cI u0 u1 u2 u3 sg xs ws 0 H1 ∧ v = some (.int (nI (d * ((xs.length + 63) / 64 * 80 + 32))))) 0 0 (AM u0 u1 u2 u3) := by
  refine cm_of (by decide) (Nat.le_of_ble_eq_true rfl) ?_
  intro p e s m below meth c ls hx hb hr hml hown hts hlocks hnm hE hpre hl
  have hown : s.vm.findClass "LevelRowsModel" = some m.cls := hown
  have hK := hE.1
  have hl : lv_has ls 1 [(0, .ref u0)] := hl
  obtain ⟨rf, sf, tf, hrf, hP⟩ := hpre
  have hP : va_P D vwCl [(u0, .inr (3, [.int th, .int (nI sg), .ref u1, .int (nI xs.length), .int (nI (xs.length + ws.length)), .ref u2, .ref u3])), (u1, .inl (cI, 1000, .inl (rf))), (u2, .inl (cI, 1000, .inl (sf))), (u3, .inl (cI, 1000, .inl (tf)))] s.heap := hP
  have hD : va_D (AM u0 u1 u2 u3) [(u0, .inr (3, [.int th, .int (nI sg), .ref u1, .int (nI xs.length), .int (nI (xs.length + ws.length)), .ref u2, .ref u3])), (u1, .inl (cI, 1000, .inl (rf))), (u2, .inl (cI, 1000, .inl (sf))), (u3, .inl (cI, 1000, .inl (tf)))] := hu.D _ _ _ _
  have hAB := hu.AB
  have hS : va_S (AM u0 u1 u2 u3) s.heap s.heap [] := va_S.rf
  have hx9 := ok0.len
  have hsum := ok0.2.2.2.2.2.1
  have hsg6 := ok0.2.1
  refine lv_aload_n hx hb d_M_bits_0 rfl (lv_at hl 0 rfl) ?_
  refine lv_iconst (v := 0) hx hb d_M_bits_1 (by decide) ?_
  refine va_put (D := D) (ci := 3) (v := .int 0) (ty := .int) (C := n_M) (T := f_M) (N := 7) hx hb hts in_M t_M ty_M nm_M hown hK hP hD hS 0 rfl rfl 0 (by decide) (hts _ x_437) (fun _ h9 => h9) rfl (by decide +kernel) rfl rfl (Nat.le_of_ble_eq_true rfl) d_M_bits_2 (fun H locs hP hD hS => ?_)
  have hP : va_P D vwCl [(u0, .inr (3, [.int 0, .int (nI sg), .ref u1, .int (nI xs.length), .int (nI (xs.length + ws.length)), .ref u2, .ref u3])), (u1, .inl (cI, 1000, .inl (rf))), (u2, .inl (cI, 1000, .inl (sf))), (u3, .inl (cI, 1000, .inl (tf)))] H := hP
  have hD : va_D (AM u0 u1 u2 u3) [(u0, .inr (3, [.int 0, .int (nI sg), .ref u1, .int (nI xs.length), .int (nI (xs.length + ws.length)), .ref u2, .ref u3])), (u1, .inl (cI, 1000, .inl (rf))), (u2, .inl (cI, 1000, .inl (sf))), (u3, .inl (cI, 1000, .inl (tf)))] := hD
  refine lv_aload_n hx hb d_M_bits_5 rfl (lv_at hl 0 rfl) ?_
  refine cm_read (va_runV (As := []) (rest := []) ⟨hx, hb, hml, hown, hts⟩ (m_M_levels hu ok0) ⟨ct_cb 0 hts x_534 x_531 x_6 rfl rfl (by decide +kernel) ⟨by decide, by decide⟩, hts _ x_533, hts _ s_M_levels⟩ ⟨st_blind, va_recv hK hP (ci := 3) (q0 := 0) rfl rfl, fun U hU hW => ⟨rfl, hE.at hS hAB hU hW, by rw [hU]; exact ⟨_, _, _, hrf, hP⟩⟩⟩ rfl rfl hl.1 rfl (lv_room (Nat.le_of_ble_eq_true rfl)) d_M_bits_6 ⟨by decide, by decide⟩) (fun v hv => ?_)
  subst hv
  refine W.eq (g2 := F0 m 9 ls [.int (nI d)]) rfl ?_
  refine lv_aload_n hx hb d_M_bits_9 rfl (lv_at hl 0 rfl) ?_
  refine va_get (D := D) (ci := 3) (v := .int (nI xs.length)) (C := n_M) (T := f_M) (N := 7) hx hb hts in_M hown hK hP 0 rfl rfl 3 (by decide) (hts _ x_440) (fun _ h9 => h9) rfl d_M_bits_10 ?_
  refine lv_bipush (v := 63) hx hb d_M_bits_13 (by decide) ?_
  refine lv_iadd hx hb d_M_bits_15 ?_
  refine ct_topi (x' := nI (xs.length + 63)) (nI_add _ 63) ?_
  refine lv_bipush (v := 64) hx hb d_M_bits_16 (by decide) ?_
  refine lv_idiv hx hb d_M_bits_18 (by decide) ?_
  refine ct_topi (x' := nI ((xs.length + 63) / 64)) (pk_div (d := 64) (by omega) (by decide) (by decide)) ?_
  refine lv_bipush (v := 80) hx hb d_M_bits_19 (by decide) ?_
  refine lv_imul hx hb d_M_bits_21 ?_
  refine ct_topi (x' := nI ((xs.length + 63) / 64 * 80)) (pk_mul _ 80) ?_
  refine lv_bipush (v := 32) hx hb d_M_bits_22 (by decide) ?_
  refine lv_iadd hx hb d_M_bits_24 ?_
  refine ct_topi (x' := nI ((xs.length + 63) / 64 * 80 + 32)) (nI_add _ 32) ?_
  refine lv_imul hx hb d_M_bits_25 ?_
  refine ct_topi (x' := nI (d * ((xs.length + 63) / 64 * 80 + 32))) (pk_mul _ _) ?_
  exact W.iret (v := nI (d * ((xs.length + 63) / 64 * 80 + 32))) hx hb hr (fun t ht hW => ⟨_, rfl, by rw [ht]; exact ⟨fr.of hS, ⟨_, _, _, hrf, hP⟩, rfl⟩⟩) hS.2.2 d_M_bits_26
set_option maxHeartbeats 4000000 in
set_option maxRecDepth 100000 in
theorem m_M_count {l : Launch} {D : va_G} {cI cJ cS cO : ClassId} {B0 : Nat} {u0 u1 u2 u3 sg d : Nat} {xs ws : List Nat} (hu : MI B0 u0 u1 u2 u3) (ok0 : Ok sg d xs ws) {th : Int32} (x : Int32) : CM l D (tyL cI cJ cS cO) B0 y_M_count c_M_count 2 (some .int) (rmK 1 0 0) [.ref u0, .int x] (fun H => MR D cI u0 u1 u2 u3 sg xs ws th H) (fun v H0 H1 => fr (AM u0 u1 u2 u3) H0 H1 ∧ (((¬ x < 0 ∧ x ≤ 3) ∧ MR D cI u0 u1 u2 u3 sg xs ws 0 H1 ∧ v = some (.int (aCnt sg d xs.length ws.length x))) ∨ (¬ (¬ x < 0 ∧ x ≤ 3) ∧ MR D cI u0 u1 u2 u3 sg xs ws 1 H1 ∧ ∃ w, v = some (.int w)))) 0 0 (AM u0 u1 u2 u3) := by
  refine cm_of (by decide) (Nat.le_of_ble_eq_true rfl) ?_
  intro p e s m below meth c ls hx hb hr hml hown hts hlocks hnm hE hpre hl
  have hown : s.vm.findClass "LevelRowsModel" = some m.cls := hown
  have hK := hE.1
  have hl : lv_has ls 2 [(0, .ref u0), (1, .int x)] := hl
  obtain ⟨rf, sf, tf, hrf, hP⟩ := hpre
  have hP : va_P D vwCl [(u0, .inr (3, [.int th, .int (nI sg), .ref u1, .int (nI xs.length), .int (nI (xs.length + ws.length)), .ref u2, .ref u3])), (u1, .inl (cI, 1000, .inl (rf))), (u2, .inl (cI, 1000, .inl (sf))), (u3, .inl (cI, 1000, .inl (tf)))] s.heap := hP
  have hD : va_D (AM u0 u1 u2 u3) [(u0, .inr (3, [.int th, .int (nI sg), .ref u1, .int (nI xs.length), .int (nI (xs.length + ws.length)), .ref u2, .ref u3])), (u1, .inl (cI, 1000, .inl (rf))), (u2, .inl (cI, 1000, .inl (sf))), (u3, .inl (cI, 1000, .inl (tf)))] := hu.D _ _ _ _
  have hAB := hu.AB
  have hS : va_S (AM u0 u1 u2 u3) s.heap s.heap [] := va_S.rf
  have hx9 := ok0.len
  have hsum := ok0.2.2.2.2.2.1
  have hsg6 := ok0.2.1
  refine lv_aload_n hx hb d_M_count_0 rfl (lv_at hl 0 rfl) ?_
  refine lv_iload_n hx hb d_M_count_1 rfl (lv_at hl 1 rfl) ?_
  refine lv_if_lt (tgt := 14) hx hb d_M_count_2 (by decide) (fun h1 => ?_) (fun h1 => ?_)
  · refine lv_iconst (v := 1) hx hb d_M_count_14 (by decide) ?_
    refine va_put (D := D) (ci := 3) (v := .int 1) (ty := .int) (C := n_M) (T := f_M) (N := 7) hx hb hts in_M t_M ty_M nm_M hown hK hP hD hS 0 rfl rfl 0 (by decide) (hts _ x_437) (fun _ h9 => h9) rfl (by decide +kernel) rfl rfl (Nat.le_of_ble_eq_true rfl) d_M_count_15 (fun H locs hP hD hS => ?_)
    have hP : va_P D vwCl [(u0, .inr (3, [.int 1, .int (nI sg), .ref u1, .int (nI xs.length), .int (nI (xs.length + ws.length)), .ref u2, .ref u3])), (u1, .inl (cI, 1000, .inl (rf))), (u2, .inl (cI, 1000, .inl (sf))), (u3, .inl (cI, 1000, .inl (tf)))] H := hP
    have hD : va_D (AM u0 u1 u2 u3) [(u0, .inr (3, [.int 1, .int (nI sg), .ref u1, .int (nI xs.length), .int (nI (xs.length + ws.length)), .ref u2, .ref u3])), (u1, .inl (cI, 1000, .inl (rf))), (u2, .inl (cI, 1000, .inl (sf))), (u3, .inl (cI, 1000, .inl (tf)))] := hD
    refine lv_aload_n hx hb d_M_count_18 rfl (lv_at hl 0 rfl) ?_
    refine va_get (D := D) (ci := 3) (v := .int 1) (C := n_M) (T := f_M) (N := 7) hx hb hts in_M hown hK hP 0 rfl rfl 0 (by decide) (hts _ x_437) (fun _ h9 => h9) rfl d_M_count_19 ?_
    refine lv_if_le (tgt := 27) hx hb d_M_count_22 (by decide) (fun c9 => absurd c9 (by decide)) (fun _ => ?_)
    refine lv_iconst (v := 0) hx hb d_M_count_25 (by decide) ?_
    exact W.iret (v := 0) hx hb hr (fun t ht hW => ⟨_, rfl, by rw [ht]; exact ⟨fr.of hS, Or.inr ⟨fun h => h.1 h1, ⟨_, _, _, hrf, hP⟩, _, rfl⟩⟩⟩) hS.2.2 d_M_count_26
  · refine lv_iload_n hx hb d_M_count_5 rfl (lv_at hl 1 rfl) ?_
    refine lv_iconst (v := 3) hx hb d_M_count_6 (by decide) ?_
    refine lv_icmp_gt (tgt := 14) hx hb d_M_count_7 (by decide) (fun h2 => ?_) (fun h2 => ?_)
    · refine lv_iconst (v := 1) hx hb d_M_count_14 (by decide) ?_
      refine va_put (D := D) (ci := 3) (v := .int 1) (ty := .int) (C := n_M) (T := f_M) (N := 7) hx hb hts in_M t_M ty_M nm_M hown hK hP hD hS 0 rfl rfl 0 (by decide) (hts _ x_437) (fun _ h9 => h9) rfl (by decide +kernel) rfl rfl (Nat.le_of_ble_eq_true rfl) d_M_count_15 (fun H locs hP hD hS => ?_)
      have hP : va_P D vwCl [(u0, .inr (3, [.int 1, .int (nI sg), .ref u1, .int (nI xs.length), .int (nI (xs.length + ws.length)), .ref u2, .ref u3])), (u1, .inl (cI, 1000, .inl (rf))), (u2, .inl (cI, 1000, .inl (sf))), (u3, .inl (cI, 1000, .inl (tf)))] H := hP
      have hD : va_D (AM u0 u1 u2 u3) [(u0, .inr (3, [.int 1, .int (nI sg), .ref u1, .int (nI xs.length), .int (nI (xs.length + ws.length)), .ref u2, .ref u3])), (u1, .inl (cI, 1000, .inl (rf))), (u2, .inl (cI, 1000, .inl (sf))), (u3, .inl (cI, 1000, .inl (tf)))] := hD
      refine lv_aload_n hx hb d_M_count_18 rfl (lv_at hl 0 rfl) ?_
      refine va_get (D := D) (ci := 3) (v := .int 1) (C := n_M) (T := f_M) (N := 7) hx hb hts in_M hown hK hP 0 rfl rfl 0 (by decide) (hts _ x_437) (fun _ h9 => h9) rfl d_M_count_19 ?_
      refine lv_if_le (tgt := 27) hx hb d_M_count_22 (by decide) (fun c9 => absurd c9 (by decide)) (fun _ => ?_)
      refine lv_iconst (v := 0) hx hb d_M_count_25 (by decide) ?_
      exact W.iret (v := 0) hx hb hr (fun t ht hW => ⟨_, rfl, by rw [ht]; exact ⟨fr.of hS, Or.inr ⟨fun h => Int32.not_lt.mpr h.2 h2, ⟨_, _, _, hrf, hP⟩, _, rfl⟩⟩⟩) hS.2.2 d_M_count_26
    · have hcd : ¬ x < 0 ∧ x ≤ 3 := ⟨h1, Int32.not_lt.mp h2⟩
      refine lv_iconst (v := 0) hx hb d_M_count_10 (by decide) ?_
      refine lv_goto (tgt := 15) hx hb d_M_count_11 (by decide) ?_
      refine va_put (D := D) (ci := 3) (v := .int 0) (ty := .int) (C := n_M) (T := f_M) (N := 7) hx hb hts in_M t_M ty_M nm_M hown hK hP hD hS 0 rfl rfl 0 (by decide) (hts _ x_437) (fun _ h9 => h9) rfl (by decide +kernel) rfl rfl (Nat.le_of_ble_eq_true rfl) d_M_count_15 (fun H locs hP hD hS => ?_)
      have hP : va_P D vwCl [(u0, .inr (3, [.int 0, .int (nI sg), .ref u1, .int (nI xs.length), .int (nI (xs.length + ws.length)), .ref u2, .ref u3])), (u1, .inl (cI, 1000, .inl (rf))), (u2, .inl (cI, 1000, .inl (sf))), (u3, .inl (cI, 1000, .inl (tf)))] H := hP
      have hD : va_D (AM u0 u1 u2 u3) [(u0, .inr (3, [.int 0, .int (nI sg), .ref u1, .int (nI xs.length), .int (nI (xs.length + ws.length)), .ref u2, .ref u3])), (u1, .inl (cI, 1000, .inl (rf))), (u2, .inl (cI, 1000, .inl (sf))), (u3, .inl (cI, 1000, .inl (tf)))] := hD
      refine lv_aload_n hx hb d_M_count_18 rfl (lv_at hl 0 rfl) ?_
      refine va_get (D := D) (ci := 3) (v := .int 0) (C := n_M) (T := f_M) (N := 7) hx hb hts in_M hown hK hP 0 rfl rfl 0 (by decide) (hts _ x_437) (fun _ h9 => h9) rfl d_M_count_19 ?_
      refine lv_if_le (tgt := 27) hx hb d_M_count_22 (by decide) (fun _ => ?_) (fun c9 => absurd (by decide) c9)
      refine lv_iload_n hx hb d_M_count_27 rfl (lv_at hl 1 rfl) ?_
      rcases isCnt hcd with h0 | h0 | h0 | h0
      · refine lv_if_ne (tgt := 38) hx hb d_M_count_28 (by decide) (fun c9 => absurd (h0) c9) (fun _ => ?_)
        refine lv_aload_n hx hb d_M_count_31 rfl (lv_at hl 0 rfl) ?_
        refine va_get (D := D) (ci := 3) (v := .int (nI xs.length)) (C := n_M) (T := f_M) (N := 7) hx hb hts in_M hown hK hP 0 rfl rfl 3 (by decide) (hts _ x_440) (fun _ h9 => h9) rfl d_M_count_32 ?_
        refine lv_goto (tgt := 71) hx hb d_M_count_35 (by decide) ?_
        exact W.iret (v := nI xs.length) hx hb hr (fun t ht hW => ⟨_, rfl, by rw [ht]; exact ⟨fr.of hS, Or.inl ⟨hcd, ⟨_, _, _, hrf, hP⟩, by rw [h0]; rfl⟩⟩⟩) hS.2.2 d_M_count_71
      · refine lv_if_ne (tgt := 38) hx hb d_M_count_28 (by decide) (fun _ => ?_) (fun c9 => absurd c9 (by rw [h0]; decide))
        refine lv_iload_n hx hb d_M_count_38 rfl (lv_at hl 1 rfl) ?_
        refine lv_iconst (v := 1) hx hb d_M_count_39 (by decide) ?_
        refine lv_icmp_ne (tgt := 55) hx hb d_M_count_40 (by decide) (fun c9 => absurd (h0) c9) (fun _ => ?_)
        refine lv_aload_n hx hb d_M_count_43 rfl (lv_at hl 0 rfl) ?_
        refine va_get (D := D) (ci := 3) (v := .int (nI (xs.length + ws.length))) (C := n_M) (T := f_M) (N := 7) hx hb hts in_M hown hK hP 0 rfl rfl 4 (by decide) (hts _ x_441) (fun _ h9 => h9) rfl d_M_count_44 ?_
        refine lv_aload_n hx hb d_M_count_47 rfl (lv_at hl 0 rfl) ?_
        refine va_get (D := D) (ci := 3) (v := .int (nI xs.length)) (C := n_M) (T := f_M) (N := 7) hx hb hts in_M hown hK hP 0 rfl rfl 3 (by decide) (hts _ x_440) (fun _ h9 => h9) rfl d_M_count_48 ?_
        refine lv_isub hx hb d_M_count_51 ?_
        refine ct_topi (x' := nI ws.length) (by rw [pk_sub (by omega)]; congr 1; omega) ?_
        refine lv_goto (tgt := 71) hx hb d_M_count_52 (by decide) ?_
        exact W.iret (v := nI ws.length) hx hb hr (fun t ht hW => ⟨_, rfl, by rw [ht]; exact ⟨fr.of hS, Or.inl ⟨hcd, ⟨_, _, _, hrf, hP⟩, by rw [h0]; rfl⟩⟩⟩) hS.2.2 d_M_count_71
      · refine lv_if_ne (tgt := 38) hx hb d_M_count_28 (by decide) (fun _ => ?_) (fun c9 => absurd c9 (by rw [h0]; decide))
        refine lv_iload_n hx hb d_M_count_38 rfl (lv_at hl 1 rfl) ?_
        refine lv_iconst (v := 1) hx hb d_M_count_39 (by decide) ?_
        refine lv_icmp_ne (tgt := 55) hx hb d_M_count_40 (by decide) (fun _ => ?_) (fun c9 => absurd c9 (by rw [h0]; decide))
        refine lv_iload_n hx hb d_M_count_55 rfl (lv_at hl 1 rfl) ?_
        refine lv_iconst (v := 2) hx hb d_M_count_56 (by decide) ?_
        refine lv_icmp_ne (tgt := 67) hx hb d_M_count_57 (by decide) (fun c9 => absurd (h0) c9) (fun _ => ?_)
        refine lv_aload_n hx hb d_M_count_60 rfl (lv_at hl 0 rfl) ?_
        refine cm_read (va_runV (As := []) (rest := []) ⟨hx, hb, hml, hown, hts⟩ (m_M_levels hu ok0) ⟨ct_cb 0 hts x_534 x_531 x_6 rfl rfl (by decide +kernel) ⟨by decide, by decide⟩, hts _ x_533, hts _ s_M_levels⟩ ⟨st_blind, va_recv hK hP (ci := 3) (q0 := 0) rfl rfl, fun U hU hW => ⟨rfl, hE.at hS hAB hU hW, by rw [hU]; exact ⟨_, _, _, hrf, hP⟩⟩⟩ rfl rfl hl.1 rfl (lv_room (Nat.le_of_ble_eq_true rfl)) d_M_count_61 ⟨by decide, by decide⟩) (fun v hv => ?_)
        subst hv
        refine W.eq (g2 := F0 m 64 ls [.int (nI d)]) rfl ?_
        refine lv_goto (tgt := 71) hx hb d_M_count_64 (by decide) ?_
        exact W.iret (v := nI d) hx hb hr (fun t ht hW => ⟨_, rfl, by rw [ht]; exact ⟨fr.of hS, Or.inl ⟨hcd, ⟨_, _, _, hrf, hP⟩, by rw [h0]; rfl⟩⟩⟩) hS.2.2 d_M_count_71
      · refine lv_if_ne (tgt := 38) hx hb d_M_count_28 (by decide) (fun _ => ?_) (fun c9 => absurd c9 (by rw [h0]; decide))
        refine lv_iload_n hx hb d_M_count_38 rfl (lv_at hl 1 rfl) ?_
        refine lv_iconst (v := 1) hx hb d_M_count_39 (by decide) ?_
        refine lv_icmp_ne (tgt := 55) hx hb d_M_count_40 (by decide) (fun _ => ?_) (fun c9 => absurd c9 (by rw [h0]; decide))
        refine lv_iload_n hx hb d_M_count_55 rfl (lv_at hl 1 rfl) ?_
        refine lv_iconst (v := 2) hx hb d_M_count_56 (by decide) ?_
        refine lv_icmp_ne (tgt := 67) hx hb d_M_count_57 (by decide) (fun _ => ?_) (fun c9 => absurd c9 (by rw [h0]; decide))
        refine lv_aload_n hx hb d_M_count_67 rfl (lv_at hl 0 rfl) ?_
        refine va_get (D := D) (ci := 3) (v := .int (nI sg)) (C := n_M) (T := f_M) (N := 7) hx hb hts in_M hown hK hP 0 rfl rfl 1 (by decide) (hts _ x_438) (fun _ h9 => h9) rfl d_M_count_68 ?_
        exact W.iret (v := nI sg) hx hb hr (fun t ht hW => ⟨_, rfl, by rw [ht]; exact ⟨fr.of hS, Or.inl ⟨hcd, ⟨_, _, _, hrf, hP⟩, by rw [h0]; rfl⟩⟩⟩) hS.2.2 d_M_count_71
set_option maxHeartbeats 4000000 in
set_option maxRecDepth 100000 in
theorem m_M_put {l : Launch} {D : va_G} {cI cJ cS cO : ClassId} {B0 : Nat} {u0 u1 u2 u3 sg d : Nat} {xs ws : List Nat} (hu : MI B0 u0 u1 u2 u3) (ok0 : Ok sg d xs ws) {th : Int32} (p0 p1 p2 p3 p4 nn : Int32) : CM l D (tyL cI cJ cS cO) B0 y_M_put c_M_put 9 (some .int) (rmK 1 0 0) [.ref u0, .int p0, .int p1, .int p2, .int p3, .int p4, .int nn] (fun H => MR D cI u0 u1 u2 u3 sg xs ws th H) (fun v H0 H1 => fr (AM u0 u1 u2 u3) H0 H1 ∧ (((symsOk sg p0 p1 p2 p3 p4 nn ∧ rngOk nn ∧ xs.length + ws.length + cn nn ≤ 1000) ∧ MR D cI u0 u1 u2 u3 sg xs (ws ++ gvs p0 p1 p2 p3 p4 nn) 0 H1 ∧ v = some (.int (nI (ws.length + cn nn)))) ∨ (∃ w, v = some (.int w)) ∧ ((¬ (symsOk sg p0 p1 p2 p3 p4 nn) ∧ MR D cI u0 u1 u2 u3 sg xs ws 1 H1) ∨ ((symsOk sg p0 p1 p2 p3 p4 nn) ∧ ¬ (rngOk nn) ∧ MR D cI u0 u1 u2 u3 sg xs ws 2 H1) ∨ ((symsOk sg p0 p1 p2 p3 p4 nn) ∧ (rngOk nn) ∧ ¬ (xs.length + ws.length + cn nn ≤ 1000) ∧ MR D cI u0 u1 u2 u3 sg xs ws 3 H1)))) 0 0 (AM u0 u1 u2 u3) := by
  refine cm_of (by decide) (Nat.le_of_ble_eq_true rfl) ?_
  intro p e s m below meth c ls hx hb hr hml hown hts hlocks hnm hE hpre hl
  have hown : s.vm.findClass "LevelRowsModel" = some m.cls := hown
  have hK := hE.1
  have hl : lv_has ls 9 [(0, .ref u0), (1, .int p0), (2, .int p1), (3, .int p2), (4, .int p3), (5, .int p4), (6, .int nn)] := hl
  obtain ⟨rf, sf, tf, hrf, hP⟩ := hpre
  have hP : va_P D vwCl [(u0, .inr (3, [.int th, .int (nI sg), .ref u1, .int (nI xs.length), .int (nI (xs.length + ws.length)), .ref u2, .ref u3])), (u1, .inl (cI, 1000, .inl (rf))), (u2, .inl (cI, 1000, .inl (sf))), (u3, .inl (cI, 1000, .inl (tf)))] s.heap := hP
  have hD : va_D (AM u0 u1 u2 u3) [(u0, .inr (3, [.int th, .int (nI sg), .ref u1, .int (nI xs.length), .int (nI (xs.length + ws.length)), .ref u2, .ref u3])), (u1, .inl (cI, 1000, .inl (rf))), (u2, .inl (cI, 1000, .inl (sf))), (u3, .inl (cI, 1000, .inl (tf)))] := hu.D _ _ _ _
  have hAB := hu.AB
  have hS : va_S (AM u0 u1 u2 u3) s.heap s.heap [] := va_S.rf
  have hx9 := ok0.len
  have hsum := ok0.2.2.2.2.2.1
  have hsg6 := ok0.2.1
  have hm10 : min (cn nn) 10 ≤ 10 := Nat.min_le_right _ _
  refine lv_iconst (v := 1) hx hb d_M_put_0 (by decide) ?_
  refine lv_istore (lv' := [(7, .int 1), (0, .ref u0), (1, .int p0), (2, .int p1), (3, .int p2), (4, .int p3), (5, .int p4), (6, .int nn)]) hx hb d_M_put_1 hl (by decide) rfl (fun ls hl => ?_)
  refine lv_iconst (v := 0) hx hb d_M_put_3 (by decide) ?_
  refine lv_istore (lv' := [(8, .int 0), (7, .int 1), (0, .ref u0), (1, .int p0), (2, .int p1), (3, .int p2), (4, .int p3), (5, .int p4), (6, .int nn)]) hx hb d_M_put_4 hl (by decide) rfl (fun ls hl => ?_)
  have loop : ∀ (n : Nat) (i : Nat) (bq : Int32) (H : Heap) (locs : List Loc) (ls : Array Slot), (i + n = min (cn nn) 10) → ((bq = 1 ∧ ∀ j, j < i → gv p0 p1 p2 p3 p4 j < sg) ∨ (bq = 0 ∧ ∃ j, j < i ∧ ¬ gv p0 p1 p2 p3 p4 j < sg)) → va_S (AM u0 u1 u2 u3) s.heap H locs → va_P D vwCl [(u0, .inr (3, [.int th, .int (nI sg), .ref u1, .int (nI xs.length), .int (nI (xs.length + ws.length)), .ref u2, .ref u3])), (u1, .inl (cI, 1000, .inl (rf))), (u2, .inl (cI, 1000, .inl (sf))), (u3, .inl (cI, 1000, .inl (tf)))] H → va_D (AM u0 u1 u2 u3) [(u0, .inr (3, [.int th, .int (nI sg), .ref u1, .int (nI xs.length), .int (nI (xs.length + ws.length)), .ref u2, .ref u3])), (u1, .inl (cI, 1000, .inl (rf))), (u2, .inl (cI, 1000, .inl (sf))), (u3, .inl (cI, 1000, .inl (tf)))] → lv_has ls 9 [(8, .int (nI i)), (7, .int bq), (0, .ref u0), (1, .int p0), (2, .int p1), (3, .int p2), (4, .int p3), (5, .int p4), (6, .int nn)] → W p l e (rmK 1 0 0) s m [.ref u0, .int p0, .int p1, .int p2, .int p3, .int p4, .int nn].toArray below meth c H locs (0) (0) (MQ below (stQ (fun v H0 H1 => fr (AM u0 u1 u2 u3) H0 H1 ∧ (((symsOk sg p0 p1 p2 p3 p4 nn ∧ rngOk nn ∧ xs.length + ws.length + cn nn ≤ 1000) ∧ MR D cI u0 u1 u2 u3 sg xs (ws ++ gvs p0 p1 p2 p3 p4 nn) 0 H1 ∧ v = some (.int (nI (ws.length + cn nn)))) ∨ (∃ w, v = some (.int w)) ∧ ((¬ (symsOk sg p0 p1 p2 p3 p4 nn) ∧ MR D cI u0 u1 u2 u3 sg xs ws 1 H1) ∨ ((symsOk sg p0 p1 p2 p3 p4 nn) ∧ ¬ (rngOk nn) ∧ MR D cI u0 u1 u2 u3 sg xs ws 2 H1) ∨ ((symsOk sg p0 p1 p2 p3 p4 nn) ∧ (rngOk nn) ∧ ¬ (xs.length + ws.length + cn nn ≤ 1000) ∧ MR D cI u0 u1 u2 u3 sg xs ws 3 H1))))) [.ref u0, .int p0, .int p1, .int p2, .int p3, .int p4, .int nn].toArray s 0 0 (AM u0 u1 u2 u3)) (F0 m 6 ls []) := by
    intro n
    induction n with
    | zero =>
      intro i bq H locs ls hin hbq hS hP hD hl
      have hiG : i = min (cn nn) 10 := by omega
      have rest : ∀ (H : Heap) (locs : List Loc) (ls : Array Slot), va_S (AM u0 u1 u2 u3) s.heap H locs → va_P D vwCl [(u0, .inr (3, [.int th, .int (nI sg), .ref u1, .int (nI xs.length), .int (nI (xs.length + ws.length)), .ref u2, .ref u3])), (u1, .inl (cI, 1000, .inl (rf))), (u2, .inl (cI, 1000, .inl (sf))), (u3, .inl (cI, 1000, .inl (tf)))] H → va_D (AM u0 u1 u2 u3) [(u0, .inr (3, [.int th, .int (nI sg), .ref u1, .int (nI xs.length), .int (nI (xs.length + ws.length)), .ref u2, .ref u3])), (u1, .inl (cI, 1000, .inl (rf))), (u2, .inl (cI, 1000, .inl (sf))), (u3, .inl (cI, 1000, .inl (tf)))] → lv_has ls 9 [(8, .int (nI i)), (7, .int bq), (0, .ref u0), (1, .int p0), (2, .int p1), (3, .int p2), (4, .int p3), (5, .int p4), (6, .int nn)] → W p l e (rmK 1 0 0) s m [.ref u0, .int p0, .int p1, .int p2, .int p3, .int p4, .int nn].toArray below meth c H locs (0) (0) (MQ below (stQ (fun v H0 H1 => fr (AM u0 u1 u2 u3) H0 H1 ∧ (((symsOk sg p0 p1 p2 p3 p4 nn ∧ rngOk nn ∧ xs.length + ws.length + cn nn ≤ 1000) ∧ MR D cI u0 u1 u2 u3 sg xs (ws ++ gvs p0 p1 p2 p3 p4 nn) 0 H1 ∧ v = some (.int (nI (ws.length + cn nn)))) ∨ (∃ w, v = some (.int w)) ∧ ((¬ (symsOk sg p0 p1 p2 p3 p4 nn) ∧ MR D cI u0 u1 u2 u3 sg xs ws 1 H1) ∨ ((symsOk sg p0 p1 p2 p3 p4 nn) ∧ ¬ (rngOk nn) ∧ MR D cI u0 u1 u2 u3 sg xs ws 2 H1) ∨ ((symsOk sg p0 p1 p2 p3 p4 nn) ∧ (rngOk nn) ∧ ¬ (xs.length + ws.length + cn nn ≤ 1000) ∧ MR D cI u0 u1 u2 u3 sg xs ws 3 H1))))) [.ref u0, .int p0, .int p1, .int p2, .int p3, .int p4, .int nn].toArray s 0 0 (AM u0 u1 u2 u3)) (F0 m 57 ls []) := by
        intro  H locs ls  hS hP hD hl
        rcases hbq with ⟨rfl, hall⟩ | ⟨rfl, j, hj, hbad⟩
        · have hsy : symsOk sg p0 p1 p2 p3 p4 nn := fun j hj => hall j (by omega)
          refine lv_aload_n hx hb d_M_put_57 rfl (lv_at hl 2 rfl) ?_
          refine lv_iload hx hb d_M_put_58 (lv_at hl 1 rfl) ?_
          refine lv_if_ne (tgt := 67) hx hb d_M_put_60 (by decide) (fun _ => ?_) (fun c9 => absurd c9 (by decide))
          refine lv_iload hx hb d_M_put_67 (lv_at hl 8 rfl) ?_
          refine lv_iconst (v := 1) hx hb d_M_put_69 (by decide) ?_
          refine lv_icmp_lt (tgt := 80) hx hb d_M_put_70 (by decide) (fun h1 => ?_) (fun h1 => ?_)
          · refine lv_iconst (v := 2) hx hb d_M_put_80 (by decide) ?_
            refine lv_goto (tgt := 102) hx hb d_M_put_81 (by decide) ?_
            refine va_put (D := D) (ci := 3) (v := .int 2) (ty := .int) (C := n_M) (T := f_M) (N := 7) hx hb hts in_M t_M ty_M nm_M hown hK hP hD hS 0 rfl rfl 0 (by decide) (hts _ x_437) (fun _ h9 => h9) rfl (by decide +kernel) rfl rfl (Nat.le_of_ble_eq_true rfl) d_M_put_102 (fun H locs hP hD hS => ?_)
            have hP : va_P D vwCl [(u0, .inr (3, [.int 2, .int (nI sg), .ref u1, .int (nI xs.length), .int (nI (xs.length + ws.length)), .ref u2, .ref u3])), (u1, .inl (cI, 1000, .inl (rf))), (u2, .inl (cI, 1000, .inl (sf))), (u3, .inl (cI, 1000, .inl (tf)))] H := hP
            have hD : va_D (AM u0 u1 u2 u3) [(u0, .inr (3, [.int 2, .int (nI sg), .ref u1, .int (nI xs.length), .int (nI (xs.length + ws.length)), .ref u2, .ref u3])), (u1, .inl (cI, 1000, .inl (rf))), (u2, .inl (cI, 1000, .inl (sf))), (u3, .inl (cI, 1000, .inl (tf)))] := hD
            refine lv_aload_n hx hb d_M_put_105 rfl (lv_at hl 2 rfl) ?_
            refine va_get (D := D) (ci := 3) (v := .int 2) (C := n_M) (T := f_M) (N := 7) hx hb hts in_M hown hK hP 0 rfl rfl 0 (by decide) (hts _ x_437) (fun _ h9 => h9) rfl d_M_put_106 ?_
            refine lv_if_le (tgt := 114) hx hb d_M_put_109 (by decide) (fun c9 => absurd c9 (by decide)) (fun _ => ?_)
            refine lv_iconst (v := 0) hx hb d_M_put_112 (by decide) ?_
            exact W.iret (v := 0) hx hb hr (fun t ht hW => ⟨_, rfl, by rw [ht]; exact ⟨fr.of hS, Or.inr ⟨⟨_, rfl⟩, Or.inr (Or.inl ⟨hsy, fun h => h.1 h1, ⟨_, _, _, hrf, hP⟩⟩)⟩⟩⟩) hS.2.2 d_M_put_113
          · refine lv_iload hx hb d_M_put_73 (lv_at hl 8 rfl) ?_
            refine lv_bipush (v := 10) hx hb d_M_put_75 (by decide) ?_
            refine lv_icmp_le (tgt := 84) hx hb d_M_put_77 (by decide) (fun h2 => ?_) (fun h2 => ?_)
            · have hrg : rngOk nn := ⟨h1, Int32.not_lt.mpr h2⟩
              have hn0 : ¬ nn < 0 := fun h => h1 (Int32.lt_trans h (by decide))
              obtain ⟨hne, hn31⟩ := nn_ints hn0
              have hN10 : cn nn ≤ 10 := by
                have h3 : nI (cn nn) ≤ nI 10 := by rw [← hne]; exact h2
                exact (nI_leI hn31 (by decide)).mp h3
              refine lv_aload_n hx hb d_M_put_84 rfl (lv_at hl 2 rfl) ?_
              refine va_get (D := D) (ci := 3) (v := .int (nI (xs.length + ws.length))) (C := n_M) (T := f_M) (N := 7) hx hb hts in_M hown hK hP 0 rfl rfl 4 (by decide) (hts _ x_441) (fun _ h9 => h9) rfl d_M_put_85 ?_
              refine lv_iload hx hb d_M_put_88 (lv_at hl 8 rfl) ?_
              refine lv_iadd hx hb d_M_put_90 ?_
              refine ct_topi (x' := nI (xs.length + ws.length + cn nn)) (by rw [← nI_add (xs.length + ws.length), ← hne]) ?_
              refine lv_sipush (v := 1000) hx hb d_M_put_91 (by decide) ?_
              rcases Nat.lt_or_ge 1000 (xs.length + ws.length + cn nn) with hov | hfit
              · refine lv_icmp_le (tgt := 101) hx hb d_M_put_94 (by decide) (fun c9 => absurd c9 (nI_ge hov (by omega))) (fun _ => ?_)
                refine lv_iconst (v := 3) hx hb d_M_put_97 (by decide) ?_
                refine lv_goto (tgt := 102) hx hb d_M_put_98 (by decide) ?_
                refine va_put (D := D) (ci := 3) (v := .int 3) (ty := .int) (C := n_M) (T := f_M) (N := 7) hx hb hts in_M t_M ty_M nm_M hown hK hP hD hS 0 rfl rfl 0 (by decide) (hts _ x_437) (fun _ h9 => h9) rfl (by decide +kernel) rfl rfl (Nat.le_of_ble_eq_true rfl) d_M_put_102 (fun H locs hP hD hS => ?_)
                have hP : va_P D vwCl [(u0, .inr (3, [.int 3, .int (nI sg), .ref u1, .int (nI xs.length), .int (nI (xs.length + ws.length)), .ref u2, .ref u3])), (u1, .inl (cI, 1000, .inl (rf))), (u2, .inl (cI, 1000, .inl (sf))), (u3, .inl (cI, 1000, .inl (tf)))] H := hP
                have hD : va_D (AM u0 u1 u2 u3) [(u0, .inr (3, [.int 3, .int (nI sg), .ref u1, .int (nI xs.length), .int (nI (xs.length + ws.length)), .ref u2, .ref u3])), (u1, .inl (cI, 1000, .inl (rf))), (u2, .inl (cI, 1000, .inl (sf))), (u3, .inl (cI, 1000, .inl (tf)))] := hD
                refine lv_aload_n hx hb d_M_put_105 rfl (lv_at hl 2 rfl) ?_
                refine va_get (D := D) (ci := 3) (v := .int 3) (C := n_M) (T := f_M) (N := 7) hx hb hts in_M hown hK hP 0 rfl rfl 0 (by decide) (hts _ x_437) (fun _ h9 => h9) rfl d_M_put_106 ?_
                refine lv_if_le (tgt := 114) hx hb d_M_put_109 (by decide) (fun c9 => absurd c9 (by decide)) (fun _ => ?_)
                refine lv_iconst (v := 0) hx hb d_M_put_112 (by decide) ?_
                exact W.iret (v := 0) hx hb hr (fun t ht hW => ⟨_, rfl, by rw [ht]; exact ⟨fr.of hS, Or.inr ⟨⟨_, rfl⟩, Or.inr (Or.inr ⟨hsy, hrg, by omega, ⟨_, _, _, hrf, hP⟩⟩)⟩⟩⟩) hS.2.2 d_M_put_113
              · refine lv_icmp_le (tgt := 101) hx hb d_M_put_94 (by decide) (fun _ => ?_) (fun c9 => absurd (show _ ≤ nI 1000 from nI_le hfit (by decide)) c9)
                refine lv_iconst (v := 0) hx hb d_M_put_101 (by decide) ?_
                refine va_put (D := D) (ci := 3) (v := .int 0) (ty := .int) (C := n_M) (T := f_M) (N := 7) hx hb hts in_M t_M ty_M nm_M hown hK hP hD hS 0 rfl rfl 0 (by decide) (hts _ x_437) (fun _ h9 => h9) rfl (by decide +kernel) rfl rfl (Nat.le_of_ble_eq_true rfl) d_M_put_102 (fun H locs hP hD hS => ?_)
                have hP : va_P D vwCl [(u0, .inr (3, [.int 0, .int (nI sg), .ref u1, .int (nI xs.length), .int (nI (xs.length + ws.length)), .ref u2, .ref u3])), (u1, .inl (cI, 1000, .inl (rf))), (u2, .inl (cI, 1000, .inl (sf))), (u3, .inl (cI, 1000, .inl (tf)))] H := hP
                have hD : va_D (AM u0 u1 u2 u3) [(u0, .inr (3, [.int 0, .int (nI sg), .ref u1, .int (nI xs.length), .int (nI (xs.length + ws.length)), .ref u2, .ref u3])), (u1, .inl (cI, 1000, .inl (rf))), (u2, .inl (cI, 1000, .inl (sf))), (u3, .inl (cI, 1000, .inl (tf)))] := hD
                refine lv_aload_n hx hb d_M_put_105 rfl (lv_at hl 2 rfl) ?_
                refine va_get (D := D) (ci := 3) (v := .int 0) (C := n_M) (T := f_M) (N := 7) hx hb hts in_M hown hK hP 0 rfl rfl 0 (by decide) (hts _ x_437) (fun _ h9 => h9) rfl d_M_put_106 ?_
                refine lv_if_le (tgt := 114) hx hb d_M_put_109 (by decide) (fun _ => ?_) (fun c9 => absurd (by decide) c9)
                refine lv_iconst (v := 0) hx hb d_M_put_114 (by decide) ?_
                refine lv_istore (lv' := [(8, .int 0), (7, .int 1), (0, .ref u0), (1, .int p0), (2, .int p1), (3, .int p2), (4, .int p3), (5, .int p4), (6, .int nn)]) hx hb d_M_put_115 hl (by decide) rfl (fun ls hl => ?_)
                have loop2 : ∀ (n : Nat) (i : Nat) (rf : Nat → Int32) (H : Heap) (locs : List Loc) (ls : Array Slot), (i + n = cn nn) → (∀ j x, (xs ++ ws)[j]? = some x → rf j = nI x) → (∀ j, j < i → rf (xs.length + ws.length + j) = nI (gv p0 p1 p2 p3 p4 j)) → va_S (AM u0 u1 u2 u3) s.heap H locs → va_P D vwCl [(u0, .inr (3, [.int 0, .int (nI sg), .ref u1, .int (nI xs.length), .int (nI (xs.length + ws.length + i)), .ref u2, .ref u3])), (u1, .inl (cI, 1000, .inl (rf))), (u2, .inl (cI, 1000, .inl (sf))), (u3, .inl (cI, 1000, .inl (tf)))] H → va_D (AM u0 u1 u2 u3) [(u0, .inr (3, [.int 0, .int (nI sg), .ref u1, .int (nI xs.length), .int (nI (xs.length + ws.length + i)), .ref u2, .ref u3])), (u1, .inl (cI, 1000, .inl (rf))), (u2, .inl (cI, 1000, .inl (sf))), (u3, .inl (cI, 1000, .inl (tf)))] → lv_has ls 9 [(8, .int (nI i)), (0, .ref u0), (1, .int p0), (2, .int p1), (3, .int p2), (4, .int p3), (5, .int p4), (6, .int nn)] → W p l e (rmK 1 0 0) s m [.ref u0, .int p0, .int p1, .int p2, .int p3, .int p4, .int nn].toArray below meth c H locs (0) (0) (MQ below (stQ (fun v H0 H1 => fr (AM u0 u1 u2 u3) H0 H1 ∧ (((symsOk sg p0 p1 p2 p3 p4 nn ∧ rngOk nn ∧ xs.length + ws.length + cn nn ≤ 1000) ∧ MR D cI u0 u1 u2 u3 sg xs (ws ++ gvs p0 p1 p2 p3 p4 nn) 0 H1 ∧ v = some (.int (nI (ws.length + cn nn)))) ∨ (∃ w, v = some (.int w)) ∧ ((¬ (symsOk sg p0 p1 p2 p3 p4 nn) ∧ MR D cI u0 u1 u2 u3 sg xs ws 1 H1) ∨ ((symsOk sg p0 p1 p2 p3 p4 nn) ∧ ¬ (rngOk nn) ∧ MR D cI u0 u1 u2 u3 sg xs ws 2 H1) ∨ ((symsOk sg p0 p1 p2 p3 p4 nn) ∧ (rngOk nn) ∧ ¬ (xs.length + ws.length + cn nn ≤ 1000) ∧ MR D cI u0 u1 u2 u3 sg xs ws 3 H1))))) [.ref u0, .int p0, .int p1, .int p2, .int p3, .int p4, .int nn].toArray s 0 0 (AM u0 u1 u2 u3)) (F0 m 117 ls []) := by
                  intro n
                  induction n with
                  | zero =>
                    intro i rf H locs ls hin hr1 hr2 hS hP hD hl
                    have hiN : i = cn nn := by omega
                    refine lv_iload hx hb d_M_put_117 (lv_at hl 0 rfl) ?_
                    refine lv_iload hx hb d_M_put_119 (lv_at hl 7 rfl) ?_
                    refine lv_icmp_ge (tgt := 161) hx hb d_M_put_121 (by decide) (fun _ => ?_) (fun c9 => absurd (by rw [hne]; exact nI_le (by omega) (by omega)) c9)
                    refine lv_aload_n hx hb d_M_put_161 rfl (lv_at hl 1 rfl) ?_
                    refine va_get (D := D) (ci := 3) (v := .int (nI (xs.length + ws.length + i))) (C := n_M) (T := f_M) (N := 7) hx hb hts in_M hown hK hP 0 rfl rfl 4 (by decide) (hts _ x_441) (fun _ h9 => h9) rfl d_M_put_162 ?_
                    refine lv_aload_n hx hb d_M_put_165 rfl (lv_at hl 1 rfl) ?_
                    refine va_get (D := D) (ci := 3) (v := .int (nI xs.length)) (C := n_M) (T := f_M) (N := 7) hx hb hts in_M hown hK hP 0 rfl rfl 3 (by decide) (hts _ x_440) (fun _ h9 => h9) rfl d_M_put_166 ?_
                    refine lv_isub hx hb d_M_put_169 ?_
                    refine ct_topi (x' := nI (ws.length + cn nn)) (by rw [pk_sub (by omega)]; congr 1; omega) ?_
                    have hzs : ∀ j x, (xs ++ (ws ++ gvs p0 p1 p2 p3 p4 nn))[j]? = some x → rf j = nI x := by
                      intro j x hj
                      rw [← List.append_assoc] at hj
                      have hl9 : (xs ++ ws).length = xs.length + ws.length := List.length_append
                      rcases Nat.lt_or_ge j (xs ++ ws).length with h1 | h1
                      · rw [List.getElem?_append_left h1] at hj; exact hr1 j x hj
                      · rw [List.getElem?_append_right h1, List.getElem?_map] at hj
                        obtain ⟨u, hu, rfl⟩ := Option.map_eq_some_iff.mp hj
                        obtain ⟨hu1, hu2⟩ := List.getElem?_eq_some_iff.mp hu
                        rw [List.length_range] at hu1
                        rw [List.getElem_range] at hu2
                        subst hu2
                        have h3 := hr2 (j - (xs ++ ws).length) (by omega)
                        rwa [show xs.length + ws.length + (j - (xs ++ ws).length) = j by omega] at h3
                    have hgl : (ws ++ gvs p0 p1 p2 p3 p4 nn).length = ws.length + cn nn := by rw [List.length_append, List.length_map, List.length_range]
                    have e9 : xs.length + ws.length + i = xs.length + (ws ++ gvs p0 p1 p2 p3 p4 nn).length := by rw [hgl]; omega
                    exact W.iret (v := nI (ws.length + cn nn)) hx hb hr (fun t ht hW => ⟨_, rfl, by rw [ht]; exact ⟨fr.of hS, Or.inl ⟨⟨hsy, hrg, hfit⟩, ⟨_, _, _, hzs, by rw [← e9]; exact hP⟩, rfl⟩⟩⟩) hS.2.2 d_M_put_170
                  | succ n ih =>
                    intro i rf H locs ls hin hr1 hr2 hS hP hD hl
                    refine lv_iload hx hb d_M_put_117 (lv_at hl 0 rfl) ?_
                    refine lv_iload hx hb d_M_put_119 (lv_at hl 7 rfl) ?_
                    refine lv_icmp_ge (tgt := 161) hx hb d_M_put_121 (by decide) (fun c9 => absurd c9 (by rw [hne]; exact nI_ge (by omega) hn31)) (fun _ => ?_)
                    refine lv_aload_n hx hb d_M_put_124 rfl (lv_at hl 1 rfl) ?_
                    refine va_get (D := D) (ci := 3) (v := .ref u1) (C := n_M) (T := f_M) (N := 7) hx hb hts in_M hown hK hP 0 rfl rfl 2 (by decide) (hts _ x_439) (fun _ h9 => h9) rfl d_M_put_125 ?_
                    refine lv_aload_n hx hb d_M_put_128 rfl (lv_at hl 1 rfl) ?_
                    refine va_get (D := D) (ci := 3) (v := .int (nI (xs.length + ws.length + i))) (C := n_M) (T := f_M) (N := 7) hx hb hts in_M hown hK hP 0 rfl rfl 4 (by decide) (hts _ x_441) (fun _ h9 => h9) rfl d_M_put_129 ?_
                    refine lv_iload_n hx hb d_M_put_132 rfl (lv_at hl 2 rfl) ?_
                    refine lv_iload_n hx hb d_M_put_133 rfl (lv_at hl 3 rfl) ?_
                    refine lv_iload_n hx hb d_M_put_134 rfl (lv_at hl 4 rfl) ?_
                    refine lv_iload hx hb d_M_put_135 (lv_at hl 5 rfl) ?_
                    refine lv_iload hx hb d_M_put_137 (lv_at hl 6 rfl) ?_
                    refine lv_iload hx hb d_M_put_139 (lv_at hl 0 rfl) ?_
                    refine cm_read (va_runS (As := [.int p0, .int p1, .int p2, .int p3, .int p4, .int (nI i)]) (rest := [.int (nI (xs.length + ws.length + i)), .ref u1]) ⟨hx, hb, hml, hown, hts⟩ (m_M_given p0 p1 p2 p3 p4 i (by omega)) ⟨ct_cb 6 hts x_469 x_467 x_6 rfl rfl (by decide +kernel) ⟨by decide, by decide⟩, hts _ x_468⟩ ⟨st_blind, fun U hU hW => ⟨rfl, hE.at hS hAB hU hW, by rw [hU]; exact trivial⟩⟩ rfl rfl hl.1 rfl (lv_room (Nat.le_of_ble_eq_true rfl)) d_M_put_141 ⟨by decide, by decide⟩) (fun v hv => ?_)
                    subst hv
                    refine W.eq (g2 := F0 m 144 ls [.int (nI (gv p0 p1 p2 p3 p4 i)), .int (nI (xs.length + ws.length + i)), .ref u1]) rfl ?_
                    refine va_iast hx hb hK hP hD hS 1 0 rfl rfl (vp_in_nI (by omega) (by decide)) d_M_put_144 (fun H locs hP hD hS => ?_)
                    rw [nI_clamp (by omega)] at hP hD
                    have hP : va_P D vwCl [(u0, .inr (3, [.int 0, .int (nI sg), .ref u1, .int (nI xs.length), .int (nI (xs.length + ws.length + i)), .ref u2, .ref u3])), (u1, .inl (cI, 1000, .inl (upd rf (xs.length + ws.length + i) (nI (gv p0 p1 p2 p3 p4 i))))), (u2, .inl (cI, 1000, .inl (sf))), (u3, .inl (cI, 1000, .inl (tf)))] H := hP
                    have hD : va_D (AM u0 u1 u2 u3) [(u0, .inr (3, [.int 0, .int (nI sg), .ref u1, .int (nI xs.length), .int (nI (xs.length + ws.length + i)), .ref u2, .ref u3])), (u1, .inl (cI, 1000, .inl (upd rf (xs.length + ws.length + i) (nI (gv p0 p1 p2 p3 p4 i))))), (u2, .inl (cI, 1000, .inl (sf))), (u3, .inl (cI, 1000, .inl (tf)))] := hD
                    refine lv_aload_n hx hb d_M_put_145 rfl (lv_at hl 1 rfl) ?_
                    refine lv_dup hx hb d_M_put_146 rfl ?_
                    refine va_get (D := D) (ci := 3) (v := .int (nI (xs.length + ws.length + i))) (C := n_M) (T := f_M) (N := 7) hx hb hts in_M hown hK hP 0 rfl rfl 4 (by decide) (hts _ x_441) (fun _ h9 => h9) rfl d_M_put_147 ?_
                    refine lv_iconst (v := 1) hx hb d_M_put_150 (by decide) ?_
                    refine lv_iadd hx hb d_M_put_151 ?_
                    refine ct_topi (x' := nI (xs.length + ws.length + (i + 1))) ((nI_succ _).symm) ?_
                    refine va_put (D := D) (ci := 3) (v := .int (nI (xs.length + ws.length + (i + 1)))) (ty := .int) (C := n_M) (T := f_M) (N := 7) hx hb hts in_M t_M ty_M nm_M hown hK hP hD hS 0 rfl rfl 4 (by decide) (hts _ x_441) (fun _ h9 => h9) rfl (by decide +kernel) rfl rfl (Nat.le_of_ble_eq_true rfl) d_M_put_152 (fun H locs hP hD hS => ?_)
                    have hP : va_P D vwCl [(u0, .inr (3, [.int 0, .int (nI sg), .ref u1, .int (nI xs.length), .int (nI (xs.length + ws.length + (i + 1))), .ref u2, .ref u3])), (u1, .inl (cI, 1000, .inl (upd rf (xs.length + ws.length + i) (nI (gv p0 p1 p2 p3 p4 i))))), (u2, .inl (cI, 1000, .inl (sf))), (u3, .inl (cI, 1000, .inl (tf)))] H := hP
                    have hD : va_D (AM u0 u1 u2 u3) [(u0, .inr (3, [.int 0, .int (nI sg), .ref u1, .int (nI xs.length), .int (nI (xs.length + ws.length + (i + 1))), .ref u2, .ref u3])), (u1, .inl (cI, 1000, .inl (upd rf (xs.length + ws.length + i) (nI (gv p0 p1 p2 p3 p4 i))))), (u2, .inl (cI, 1000, .inl (sf))), (u3, .inl (cI, 1000, .inl (tf)))] := hD
                    refine lv_iinc (v := nI (i + 1)) (lv' := [(8, .int (nI (i + 1))), (0, .ref u0), (1, .int p0), (2, .int p1), (3, .int p2), (4, .int p3), (5, .int p4), (6, .int nn)]) hx hb d_M_put_155 hl (k := 0) rfl ((nI_succ i).symm) (by decide) rfl (fun ls hl => ?_)
                    refine lv_goto (tgt := 117) hx hb d_M_put_158 (by decide) ?_
                    refine ih (i + 1) _ H _ ls (by omega) (fun j x hj => ?_) (fun j hj => ?_) hS hP hD (lv_sub hl [0, 1, 2, 3, 4, 5, 6, 7] rfl)
                    · have hl9 : (xs ++ ws).length = xs.length + ws.length := List.length_append
                      have e9 : j ≠ xs.length + ws.length + i := by have := (List.getElem?_eq_some_iff.mp hj).1; omega
                      simp only [upd, if_neg e9]; exact hr1 j x hj
                    · by_cases e9 : j = i
                      · subst e9; simp only [upd, if_true]
                      · have e8 : xs.length + ws.length + j ≠ xs.length + ws.length + i := by omega
                        simp only [upd, if_neg e8]; exact hr2 j (by omega)
                exact loop2 (cn nn) 0 rf H _ ls (by omega) hrf (fun j hj => absurd hj (Nat.not_lt_zero j)) hS hP hD (lv_sub hl [0, 2, 3, 4, 5, 6, 7, 8] rfl)
            · refine lv_iconst (v := 2) hx hb d_M_put_80 (by decide) ?_
              refine lv_goto (tgt := 102) hx hb d_M_put_81 (by decide) ?_
              refine va_put (D := D) (ci := 3) (v := .int 2) (ty := .int) (C := n_M) (T := f_M) (N := 7) hx hb hts in_M t_M ty_M nm_M hown hK hP hD hS 0 rfl rfl 0 (by decide) (hts _ x_437) (fun _ h9 => h9) rfl (by decide +kernel) rfl rfl (Nat.le_of_ble_eq_true rfl) d_M_put_102 (fun H locs hP hD hS => ?_)
              have hP : va_P D vwCl [(u0, .inr (3, [.int 2, .int (nI sg), .ref u1, .int (nI xs.length), .int (nI (xs.length + ws.length)), .ref u2, .ref u3])), (u1, .inl (cI, 1000, .inl (rf))), (u2, .inl (cI, 1000, .inl (sf))), (u3, .inl (cI, 1000, .inl (tf)))] H := hP
              have hD : va_D (AM u0 u1 u2 u3) [(u0, .inr (3, [.int 2, .int (nI sg), .ref u1, .int (nI xs.length), .int (nI (xs.length + ws.length)), .ref u2, .ref u3])), (u1, .inl (cI, 1000, .inl (rf))), (u2, .inl (cI, 1000, .inl (sf))), (u3, .inl (cI, 1000, .inl (tf)))] := hD
              refine lv_aload_n hx hb d_M_put_105 rfl (lv_at hl 2 rfl) ?_
              refine va_get (D := D) (ci := 3) (v := .int 2) (C := n_M) (T := f_M) (N := 7) hx hb hts in_M hown hK hP 0 rfl rfl 0 (by decide) (hts _ x_437) (fun _ h9 => h9) rfl d_M_put_106 ?_
              refine lv_if_le (tgt := 114) hx hb d_M_put_109 (by decide) (fun c9 => absurd c9 (by decide)) (fun _ => ?_)
              refine lv_iconst (v := 0) hx hb d_M_put_112 (by decide) ?_
              exact W.iret (v := 0) hx hb hr (fun t ht hW => ⟨_, rfl, by rw [ht]; exact ⟨fr.of hS, Or.inr ⟨⟨_, rfl⟩, Or.inr (Or.inl ⟨hsy, fun h => h2 (Int32.not_lt.mp h.2), ⟨_, _, _, hrf, hP⟩⟩)⟩⟩⟩) hS.2.2 d_M_put_113
        · refine lv_aload_n hx hb d_M_put_57 rfl (lv_at hl 2 rfl) ?_
          refine lv_iload hx hb d_M_put_58 (lv_at hl 1 rfl) ?_
          refine lv_if_ne (tgt := 67) hx hb d_M_put_60 (by decide) (fun c9 => absurd (rfl) c9) (fun _ => ?_)
          refine lv_iconst (v := 1) hx hb d_M_put_63 (by decide) ?_
          refine lv_goto (tgt := 102) hx hb d_M_put_64 (by decide) ?_
          refine va_put (D := D) (ci := 3) (v := .int 1) (ty := .int) (C := n_M) (T := f_M) (N := 7) hx hb hts in_M t_M ty_M nm_M hown hK hP hD hS 0 rfl rfl 0 (by decide) (hts _ x_437) (fun _ h9 => h9) rfl (by decide +kernel) rfl rfl (Nat.le_of_ble_eq_true rfl) d_M_put_102 (fun H locs hP hD hS => ?_)
          have hP : va_P D vwCl [(u0, .inr (3, [.int 1, .int (nI sg), .ref u1, .int (nI xs.length), .int (nI (xs.length + ws.length)), .ref u2, .ref u3])), (u1, .inl (cI, 1000, .inl (rf))), (u2, .inl (cI, 1000, .inl (sf))), (u3, .inl (cI, 1000, .inl (tf)))] H := hP
          have hD : va_D (AM u0 u1 u2 u3) [(u0, .inr (3, [.int 1, .int (nI sg), .ref u1, .int (nI xs.length), .int (nI (xs.length + ws.length)), .ref u2, .ref u3])), (u1, .inl (cI, 1000, .inl (rf))), (u2, .inl (cI, 1000, .inl (sf))), (u3, .inl (cI, 1000, .inl (tf)))] := hD
          refine lv_aload_n hx hb d_M_put_105 rfl (lv_at hl 2 rfl) ?_
          refine va_get (D := D) (ci := 3) (v := .int 1) (C := n_M) (T := f_M) (N := 7) hx hb hts in_M hown hK hP 0 rfl rfl 0 (by decide) (hts _ x_437) (fun _ h9 => h9) rfl d_M_put_106 ?_
          refine lv_if_le (tgt := 114) hx hb d_M_put_109 (by decide) (fun c9 => absurd c9 (by decide)) (fun _ => ?_)
          refine lv_iconst (v := 0) hx hb d_M_put_112 (by decide) ?_
          exact W.iret (v := 0) hx hb hr (fun t ht hW => ⟨_, rfl, by rw [ht]; exact ⟨fr.of hS, Or.inr ⟨⟨_, rfl⟩, Or.inl ⟨fun h => hbad (h j (by omega)), ⟨_, _, _, hrf, hP⟩⟩⟩⟩⟩) hS.2.2 d_M_put_113
      refine lv_iload hx hb d_M_put_6 (lv_at hl 0 rfl) ?_
      refine lv_iload hx hb d_M_put_8 (lv_at hl 8 rfl) ?_
      by_cases hc : nn ≤ nI i
      · refine lv_icmp_ge (tgt := 57) hx hb d_M_put_10 (by decide) (fun _ => ?_) (fun c9 => absurd (hc) c9)
        exact rest H _ ls hS hP hD (lv_sub hl [0, 1, 2, 3, 4, 5, 6, 7, 8] rfl)
      · refine lv_icmp_ge (tgt := 57) hx hb d_M_put_10 (by decide) (fun c9 => absurd c9 (hc)) (fun _ => ?_)
        refine lv_iload hx hb d_M_put_13 (lv_at hl 0 rfl) ?_
        refine lv_bipush (v := 10) hx hb d_M_put_15 (by decide) ?_
        have hi10 : 10 ≤ i := by
          rcases Nat.lt_or_ge i 10 with h1 | h1
          · exfalso
            have h2 : i = cn nn := by omega
            refine hc ?_
            by_cases h3 : nn < 0
            · exact Int32.le_of_lt (Int32.lt_of_lt_of_le h3 (Int32.not_lt.mp (nI_pos (by omega))))
            · obtain ⟨h4, h5⟩ := nn_ints h3
              have h6 : nI (cn nn) ≤ nI i := by rw [h2]; exact nI_le (Nat.le_refl _) h5
              rw [← h4] at h6
              exact h6
          · exact h1
        refine lv_icmp_ge (tgt := 57) hx hb d_M_put_17 (by decide) (fun _ => ?_) (fun c9 => absurd (show nI 10 ≤ nI i from nI_le hi10 (by omega)) c9)
        exact rest H _ ls hS hP hD (lv_sub hl [0, 1, 2, 3, 4, 5, 6, 7, 8] rfl)
    | succ n ih =>
      intro i bq H locs ls hin hbq hS hP hD hl
      have hn0 : ¬ nn < 0 := fun h => by
        have h2 := Int32.lt_iff_toInt_lt.mp h
        have h3 : (0 : Int32).toInt = 0 := by decide
        have h4 : cn nn = 0 := by show nn.toInt.toNat = 0; omega
        omega
      obtain ⟨hne, hn31⟩ := nn_ints hn0
      refine lv_iload hx hb d_M_put_6 (lv_at hl 0 rfl) ?_
      refine lv_iload hx hb d_M_put_8 (lv_at hl 8 rfl) ?_
      refine lv_icmp_ge (tgt := 57) hx hb d_M_put_10 (by decide) (fun c9 => absurd c9 (by rw [hne]; exact nI_ge (by omega) hn31)) (fun _ => ?_)
      refine lv_iload hx hb d_M_put_13 (lv_at hl 0 rfl) ?_
      refine lv_bipush (v := 10) hx hb d_M_put_15 (by decide) ?_
      refine lv_icmp_ge (tgt := 57) hx hb d_M_put_17 (by decide) (fun c9 => absurd c9 (show ¬ nI 10 ≤ nI i from nI_ge (by omega) (by decide))) (fun _ => ?_)
      refine lv_iload hx hb d_M_put_20 (lv_at hl 1 rfl) ?_
      have hgl := gv_lt p0 p1 p2 p3 p4 i
      rcases hbq with ⟨rfl, hall⟩ | ⟨rfl, j, hj, hbad⟩
      · refine lv_if_eq (tgt := 48) hx hb d_M_put_22 (by decide) (fun c9 => absurd c9 (by decide)) (fun _ => ?_)
        refine lv_iload_n hx hb d_M_put_25 rfl (lv_at hl 3 rfl) ?_
        refine lv_iload_n hx hb d_M_put_26 rfl (lv_at hl 4 rfl) ?_
        refine lv_iload_n hx hb d_M_put_27 rfl (lv_at hl 5 rfl) ?_
        refine lv_iload hx hb d_M_put_28 (lv_at hl 6 rfl) ?_
        refine lv_iload hx hb d_M_put_30 (lv_at hl 7 rfl) ?_
        refine lv_iload hx hb d_M_put_32 (lv_at hl 0 rfl) ?_
        refine cm_read (va_runS (As := [.int p0, .int p1, .int p2, .int p3, .int p4, .int (nI i)]) (rest := []) ⟨hx, hb, hml, hown, hts⟩ (m_M_given p0 p1 p2 p3 p4 i (by omega)) ⟨ct_cb 6 hts x_469 x_467 x_6 rfl rfl (by decide +kernel) ⟨by decide, by decide⟩, hts _ x_468⟩ ⟨st_blind, fun U hU hW => ⟨rfl, hE.at hS hAB hU hW, by rw [hU]; exact trivial⟩⟩ rfl rfl hl.1 rfl (lv_room (Nat.le_of_ble_eq_true rfl)) d_M_put_34 ⟨by decide, by decide⟩) (fun v hv => ?_)
        subst hv
        refine W.eq (g2 := F0 m 37 ls [.int (nI (gv p0 p1 p2 p3 p4 i))]) rfl ?_
        refine lv_aload_n hx hb d_M_put_37 rfl (lv_at hl 2 rfl) ?_
        refine va_get (D := D) (ci := 3) (v := .int (nI sg)) (C := n_M) (T := f_M) (N := 7) hx hb hts in_M hown hK hP 0 rfl rfl 1 (by decide) (hts _ x_438) (fun _ h9 => h9) rfl d_M_put_38 ?_
        rcases Nat.lt_or_ge (gv p0 p1 p2 p3 p4 i) sg with hc | hc
        · refine lv_icmp_ge (tgt := 48) hx hb d_M_put_41 (by decide) (fun c9 => absurd c9 (nI_ge hc (by omega))) (fun _ => ?_)
          refine lv_iconst (v := 1) hx hb d_M_put_44 (by decide) ?_
          refine lv_goto (tgt := 49) hx hb d_M_put_45 (by decide) ?_
          refine lv_istore (lv' := [(7, .int 1), (8, .int (nI i)), (0, .ref u0), (1, .int p0), (2, .int p1), (3, .int p2), (4, .int p3), (5, .int p4), (6, .int nn)]) hx hb d_M_put_49 hl (by decide) rfl (fun ls hl => ?_)
          refine lv_iinc (v := nI (i + 1)) (lv' := [(8, .int (nI (i + 1))), (7, .int 1), (0, .ref u0), (1, .int p0), (2, .int p1), (3, .int p2), (4, .int p3), (5, .int p4), (6, .int nn)]) hx hb d_M_put_51 hl (k := 1) rfl ((nI_succ i).symm) (by decide) rfl (fun ls hl => ?_)
          refine lv_goto (tgt := 6) hx hb d_M_put_54 (by decide) ?_
          exact ih (i + 1) 1 H _ ls (by omega) (Or.inl ⟨rfl, fun j hj => by rcases Nat.lt_or_ge j i with h8 | h8; exact hall j h8; rw [show j = i by omega]; exact hc⟩) hS hP hD (lv_sub hl [0, 1, 2, 3, 4, 5, 6, 7, 8] rfl)
        · refine lv_icmp_ge (tgt := 48) hx hb d_M_put_41 (by decide) (fun _ => ?_) (fun c9 => absurd (nI_le hc (by omega)) c9)
          refine lv_iconst (v := 0) hx hb d_M_put_48 (by decide) ?_
          refine lv_istore (lv' := [(7, .int 0), (8, .int (nI i)), (0, .ref u0), (1, .int p0), (2, .int p1), (3, .int p2), (4, .int p3), (5, .int p4), (6, .int nn)]) hx hb d_M_put_49 hl (by decide) rfl (fun ls hl => ?_)
          refine lv_iinc (v := nI (i + 1)) (lv' := [(8, .int (nI (i + 1))), (7, .int 0), (0, .ref u0), (1, .int p0), (2, .int p1), (3, .int p2), (4, .int p3), (5, .int p4), (6, .int nn)]) hx hb d_M_put_51 hl (k := 1) rfl ((nI_succ i).symm) (by decide) rfl (fun ls hl => ?_)
          refine lv_goto (tgt := 6) hx hb d_M_put_54 (by decide) ?_
          exact ih (i + 1) 0 H _ ls (by omega) (Or.inr ⟨rfl, i, by omega, by omega⟩) hS hP hD (lv_sub hl [0, 1, 2, 3, 4, 5, 6, 7, 8] rfl)
      · refine lv_if_eq (tgt := 48) hx hb d_M_put_22 (by decide) (fun _ => ?_) (fun c9 => absurd (rfl) c9)
        refine lv_iconst (v := 0) hx hb d_M_put_48 (by decide) ?_
        refine lv_istore (lv' := [(7, .int 0), (8, .int (nI i)), (0, .ref u0), (1, .int p0), (2, .int p1), (3, .int p2), (4, .int p3), (5, .int p4), (6, .int nn)]) hx hb d_M_put_49 hl (by decide) rfl (fun ls hl => ?_)
        refine lv_iinc (v := nI (i + 1)) (lv' := [(8, .int (nI (i + 1))), (7, .int 0), (0, .ref u0), (1, .int p0), (2, .int p1), (3, .int p2), (4, .int p3), (5, .int p4), (6, .int nn)]) hx hb d_M_put_51 hl (k := 1) rfl ((nI_succ i).symm) (by decide) rfl (fun ls hl => ?_)
        refine lv_goto (tgt := 6) hx hb d_M_put_54 (by decide) ?_
        exact ih (i + 1) 0 H _ ls (by omega) (Or.inr ⟨rfl, j, by omega, hbad⟩) hS hP hD (lv_sub hl [0, 1, 2, 3, 4, 5, 6, 7, 8] rfl)
  exact loop (min (cn nn) 10) 0 1 s.heap [] ls (by omega) (Or.inl ⟨rfl, fun j hj => absurd hj (Nat.not_lt_zero j)⟩) hS hP hD (lv_sub hl [0, 1, 2, 3, 4, 5, 6, 7, 8] rfl)
set_option maxHeartbeats 4000000 in
set_option maxRecDepth 100000 in
theorem m_M_init {l : Launch} {D : va_G} {cI cJ cS cO : ClassId} {B0 : Nat} {u0 sz : Nat} (x : Int32) (hB : B0 ≤ u0) : CM l D (tyL cI cJ cS cO) B0 y_M_init c_M_init 2 none (rmK 1 3 3000) [.ref u0, .int x] (fun H => H.size = sz ∧ va_P D vwCl [(u0, .inr (3, [.int 0, .int 0, .null, .int 0, .int 0, .null, .null]))] H) (fun v H0 H1 => v = none ∧ fr (fun q => q = u0 ∨ sz ≤ q) H0 H1 ∧ ∃ u1 u2 u3, MI B0 u0 u1 u2 u3 ∧ sz ≤ u1 ∧ sz ≤ u2 ∧ sz ≤ u3 ∧ MR D cI u0 u1 u2 u3 (sgOf x) [] [] 0 H1) 3 3000 (fun q => q = u0 ∨ sz ≤ q) := by
  refine cm_of (by decide) (Nat.le_of_ble_eq_true rfl) ?_
  intro p e s m below meth c ls hx hb hr hml hown hts hlocks hnm hE hpre hl
  have hown : s.vm.findClass "LevelRowsModel" = some m.cls := hown
  have hK := hE.1
  have hl : lv_has ls 2 [(0, .ref u0), (1, .int x)] := hl
  obtain ⟨hz, hpre⟩ := hpre
  have ha0 : u0 < sz := by rw [← hz]; exact (hpre 0 _ rfl).lt
  have hBz : B0 ≤ sz := by rw [← hz]; exact hE.2.2.2.2
  have hA : ∀ q, s.heap.size ≤ q → (fun q => q = u0 ∨ sz ≤ q) q := fun q h => Or.inr (by rw [← hz]; exact h)
  have hS : va_S (fun q => q = u0 ∨ sz ≤ q) s.heap s.heap [] := va_S.rf
  have hP : va_P D vwCl [(u0, .inr (3, [.int 0, .int 0, .null, .int 0, .int 0, .null, .null]))] s.heap := hpre
  have hD : va_D (fun q => q = u0 ∨ sz ≤ q) [(u0, .inr (3, [.int 0, .int 0, .null, .int 0, .int 0, .null, .null]))] := va_D.one (Or.inl rfl)
  refine lv_aload_n hx hb d_M_init_0 rfl (lv_at hl 0 rfl) ?_
  refine W.objInit hx hb hown (hts _ x_435) (hts _ x_22) (hts _ x_23) rfl (by rw [hml]; exact hl.1) rfl d_M_init_1 (by decide) (Nat.le_of_ble_eq_true rfl) ?_
  refine W.eq (g2 := F0 m 4 ls []) rfl ?_
  refine lv_aload_n hx hb d_M_init_4 rfl (lv_at hl 0 rfl) ?_
  refine lv_sipush (v := 1000) hx hb d_M_init_5 (by decide) ?_
  refine va_newa (atype := .int) hx hb (hts _ x_50) rfl hK hP hD hS hA (a0 := (1000, .inl (fun _ => 0))) (fun _ => rfl) (by decide) rfl (by decide) (Nat.le_of_ble_eq_true rfl) (Nat.le_of_ble_eq_true rfl) d_M_init_8 (fun u1 cA H hK9 hP hD hS => ?_)
  have e9 : cA = cI := Option.some.inj ((hK9.2 4 _ rfl).2.symm.trans (hK9.2 0 _ rfl).2)
  rw [e9] at hP hD
  have hP : va_P D vwCl [(u0, .inr (3, [.int 0, .int 0, .null, .int 0, .int 0, .null, .null])), (u1, .inl (cI, 1000, .inl (fun _ => 0)))] H := hP
  have hD : va_D (fun q => q = u0 ∨ sz ≤ q) [(u0, .inr (3, [.int 0, .int 0, .null, .int 0, .int 0, .null, .null])), (u1, .inl (cI, 1000, .inl (fun _ => 0)))] := hD
  refine va_putF (D := D) (ci := 3) (v := .ref u1) (ty := .array .int) (C := n_M) (T := f_M) (N := 7) hx hb hts in_M t_M ty_M nm_M hown hK hP hD hS 0 rfl rfl 2 (by decide) (hts _ x_439) (fun _ h9 => h9) rfl hnm rfl (by decide +kernel) rfl rfl (Nat.le_of_ble_eq_true rfl) d_M_init_10 (fun H locs hP hD hS => ?_)
  have hP : va_P D vwCl [(u0, .inr (3, [.int 0, .int 0, .ref u1, .int 0, .int 0, .null, .null])), (u1, .inl (cI, 1000, .inl (fun _ => 0)))] H := hP
  have hD : va_D (fun q => q = u0 ∨ sz ≤ q) [(u0, .inr (3, [.int 0, .int 0, .ref u1, .int 0, .int 0, .null, .null])), (u1, .inl (cI, 1000, .inl (fun _ => 0)))] := hD
  refine lv_aload_n hx hb d_M_init_13 rfl (lv_at hl 0 rfl) ?_
  refine lv_sipush (v := 1000) hx hb d_M_init_14 (by decide) ?_
  refine va_newa (atype := .int) hx hb (hts _ x_50) rfl hK hP hD hS hA (a0 := (1000, .inl (fun _ => 0))) (fun _ => rfl) (by decide) rfl (by decide) (Nat.le_of_ble_eq_true rfl) (Nat.le_of_ble_eq_true rfl) d_M_init_17 (fun u2 cA H hK9 hP hD hS => ?_)
  have e9 : cA = cI := Option.some.inj ((hK9.2 4 _ rfl).2.symm.trans (hK9.2 0 _ rfl).2)
  rw [e9] at hP hD
  have hP : va_P D vwCl [(u0, .inr (3, [.int 0, .int 0, .ref u1, .int 0, .int 0, .null, .null])), (u1, .inl (cI, 1000, .inl (fun _ => 0))), (u2, .inl (cI, 1000, .inl (fun _ => 0)))] H := hP
  have hD : va_D (fun q => q = u0 ∨ sz ≤ q) [(u0, .inr (3, [.int 0, .int 0, .ref u1, .int 0, .int 0, .null, .null])), (u1, .inl (cI, 1000, .inl (fun _ => 0))), (u2, .inl (cI, 1000, .inl (fun _ => 0)))] := hD
  refine va_putF (D := D) (ci := 3) (v := .ref u2) (ty := .array .int) (C := n_M) (T := f_M) (N := 7) hx hb hts in_M t_M ty_M nm_M hown hK hP hD hS 0 rfl rfl 5 (by decide) (hts _ x_442) (fun _ h9 => h9) rfl hnm rfl (by decide +kernel) rfl rfl (Nat.le_of_ble_eq_true rfl) d_M_init_19 (fun H locs hP hD hS => ?_)
  have hP : va_P D vwCl [(u0, .inr (3, [.int 0, .int 0, .ref u1, .int 0, .int 0, .ref u2, .null])), (u1, .inl (cI, 1000, .inl (fun _ => 0))), (u2, .inl (cI, 1000, .inl (fun _ => 0)))] H := hP
  have hD : va_D (fun q => q = u0 ∨ sz ≤ q) [(u0, .inr (3, [.int 0, .int 0, .ref u1, .int 0, .int 0, .ref u2, .null])), (u1, .inl (cI, 1000, .inl (fun _ => 0))), (u2, .inl (cI, 1000, .inl (fun _ => 0)))] := hD
  refine lv_aload_n hx hb d_M_init_22 rfl (lv_at hl 0 rfl) ?_
  refine lv_sipush (v := 1000) hx hb d_M_init_23 (by decide) ?_
  refine va_newa (atype := .int) hx hb (hts _ x_50) rfl hK hP hD hS hA (a0 := (1000, .inl (fun _ => 0))) (fun _ => rfl) (by decide) rfl (by decide) (Nat.le_of_ble_eq_true rfl) (Nat.le_of_ble_eq_true rfl) d_M_init_26 (fun u3 cA H hK9 hP hD hS => ?_)
  have e9 : cA = cI := Option.some.inj ((hK9.2 4 _ rfl).2.symm.trans (hK9.2 0 _ rfl).2)
  rw [e9] at hP hD
  have hP : va_P D vwCl [(u0, .inr (3, [.int 0, .int 0, .ref u1, .int 0, .int 0, .ref u2, .null])), (u1, .inl (cI, 1000, .inl (fun _ => 0))), (u2, .inl (cI, 1000, .inl (fun _ => 0))), (u3, .inl (cI, 1000, .inl (fun _ => 0)))] H := hP
  have hD : va_D (fun q => q = u0 ∨ sz ≤ q) [(u0, .inr (3, [.int 0, .int 0, .ref u1, .int 0, .int 0, .ref u2, .null])), (u1, .inl (cI, 1000, .inl (fun _ => 0))), (u2, .inl (cI, 1000, .inl (fun _ => 0))), (u3, .inl (cI, 1000, .inl (fun _ => 0)))] := hD
  refine va_putF (D := D) (ci := 3) (v := .ref u3) (ty := .array .int) (C := n_M) (T := f_M) (N := 7) hx hb hts in_M t_M ty_M nm_M hown hK hP hD hS 0 rfl rfl 6 (by decide) (hts _ x_443) (fun _ h9 => h9) rfl hnm rfl (by decide +kernel) rfl rfl (Nat.le_of_ble_eq_true rfl) d_M_init_28 (fun H locs hP hD hS => ?_)
  have hP : va_P D vwCl [(u0, .inr (3, [.int 0, .int 0, .ref u1, .int 0, .int 0, .ref u2, .ref u3])), (u1, .inl (cI, 1000, .inl (fun _ => 0))), (u2, .inl (cI, 1000, .inl (fun _ => 0))), (u3, .inl (cI, 1000, .inl (fun _ => 0)))] H := hP
  have hD : va_D (fun q => q = u0 ∨ sz ≤ q) [(u0, .inr (3, [.int 0, .int 0, .ref u1, .int 0, .int 0, .ref u2, .ref u3])), (u1, .inl (cI, 1000, .inl (fun _ => 0))), (u2, .inl (cI, 1000, .inl (fun _ => 0))), (u3, .inl (cI, 1000, .inl (fun _ => 0)))] := hD
  refine lv_aload_n hx hb d_M_init_31 rfl (lv_at hl 0 rfl) ?_
  refine lv_iload_n hx hb d_M_init_32 rfl (lv_at hl 1 rfl) ?_
  refine lv_iconst (v := 1) hx hb d_M_init_33 (by decide) ?_
  refine lv_icmp_ge (tgt := 41) hx hb d_M_init_34 (by decide) (fun h1 => ?_) (fun h1 => ?_)
  · refine lv_iload_n hx hb d_M_init_41 rfl (lv_at hl 1 rfl) ?_
    refine lv_ldc (v := 65536) hx hb hown (hts _ x_436) d_M_init_42 ?_
    refine lv_icmp_le (tgt := 52) hx hb d_M_init_44 (by decide) (fun h2 => ?_) (fun h2 => ?_)
    · refine lv_iload_n hx hb d_M_init_52 rfl (lv_at hl 1 rfl) ?_
      refine ct_topi (x' := nI (sgOf x)) (by unfold sgOf; rw [if_neg (Int32.not_lt.mpr h1), if_neg (Int32.not_lt.mpr h2)]; exact (nn_ints (fun h => Int32.not_lt.mpr h1 (Int32.lt_trans h (by decide)))).1) ?_
      refine va_putF (D := D) (ci := 3) (v := .int (nI (sgOf x))) (ty := .int) (C := n_M) (T := f_M) (N := 7) hx hb hts in_M t_M ty_M nm_M hown hK hP hD hS 0 rfl rfl 1 (by decide) (hts _ x_438) (fun _ h9 => h9) rfl hnm rfl (by decide +kernel) rfl rfl (Nat.le_of_ble_eq_true rfl) d_M_init_53 (fun H locs hP hD hS => ?_)
      have hP : va_P D vwCl [(u0, .inr (3, [.int 0, .int (nI (sgOf x)), .ref u1, .int 0, .int 0, .ref u2, .ref u3])), (u1, .inl (cI, 1000, .inl (fun _ => 0))), (u2, .inl (cI, 1000, .inl (fun _ => 0))), (u3, .inl (cI, 1000, .inl (fun _ => 0)))] H := hP
      have hD : va_D (fun q => q = u0 ∨ sz ≤ q) [(u0, .inr (3, [.int 0, .int (nI (sgOf x)), .ref u1, .int 0, .int 0, .ref u2, .ref u3])), (u1, .inl (cI, 1000, .inl (fun _ => 0))), (u2, .inl (cI, 1000, .inl (fun _ => 0))), (u3, .inl (cI, 1000, .inl (fun _ => 0)))] := hD
      have hn : ∀ i j : Nat, i < 4 → j < 4 → i ≠ j → ∀ p q : Nat × va_E, ([(u0, .inr (3, [.int 0, .int (nI (sgOf x)), .ref u1, .int 0, .int 0, .ref u2, .ref u3])), (u1, .inl (cI, 1000, .inl (fun _ => 0))), (u2, .inl (cI, 1000, .inl (fun _ => 0))), (u3, .inl (cI, 1000, .inl (fun _ => 0)))] : va_W)[i]? = some p → ([(u0, .inr (3, [.int 0, .int (nI (sgOf x)), .ref u1, .int 0, .int 0, .ref u2, .ref u3])), (u1, .inl (cI, 1000, .inl (fun _ => 0))), (u2, .inl (cI, 1000, .inl (fun _ => 0))), (u3, .inl (cI, 1000, .inl (fun _ => 0)))] : va_W)[j]? = some q → p.1 ≠ q.1 := fun i j _ _ hij p q hp hq h => hij (hD.1 i j p q hp hq h)
      have g1 : sz ≤ u1 := (hD.2 1 _ rfl).resolve_left (hn 1 0 (by omega) (by omega) (by omega) _ _ rfl rfl)
      have g2 : sz ≤ u2 := (hD.2 2 _ rfl).resolve_left (hn 2 0 (by omega) (by omega) (by omega) _ _ rfl rfl)
      have g3 : sz ≤ u3 := (hD.2 3 _ rfl).resolve_left (hn 3 0 (by omega) (by omega) (by omega) _ _ rfl rfl)
      have hMI : MI B0 u0 u1 u2 u3 := ⟨⟨hn 0 1 (by omega) (by omega) (by omega) _ _ rfl rfl, hn 0 2 (by omega) (by omega) (by omega) _ _ rfl rfl, hn 0 3 (by omega) (by omega) (by omega) _ _ rfl rfl, hn 1 2 (by omega) (by omega) (by omega) _ _ rfl rfl, hn 1 3 (by omega) (by omega) (by omega) _ _ rfl rfl, hn 2 3 (by omega) (by omega) (by omega) _ _ rfl rfl⟩, hB, by omega, by omega, by omega⟩
      exact W.vret hx hb hr (fun t ht hW => ⟨_, rfl, by rw [ht]; exact ⟨rfl, fr.of hS, u1, u2, u3, hMI, g1, g2, g3, _, _, _, fun i x h => by simp at h, hP⟩⟩) hS.2.2 d_M_init_56
    · refine lv_ldc (v := 65536) hx hb hown (hts _ x_436) d_M_init_47 ?_
      refine lv_goto (tgt := 53) hx hb d_M_init_49 (by decide) ?_
      refine ct_topi (x' := nI (sgOf x)) (by unfold sgOf; rw [if_neg (Int32.not_lt.mpr h1), if_pos (Int32.not_le.mp h2)]; rfl) ?_
      refine va_putF (D := D) (ci := 3) (v := .int (nI (sgOf x))) (ty := .int) (C := n_M) (T := f_M) (N := 7) hx hb hts in_M t_M ty_M nm_M hown hK hP hD hS 0 rfl rfl 1 (by decide) (hts _ x_438) (fun _ h9 => h9) rfl hnm rfl (by decide +kernel) rfl rfl (Nat.le_of_ble_eq_true rfl) d_M_init_53 (fun H locs hP hD hS => ?_)
      have hP : va_P D vwCl [(u0, .inr (3, [.int 0, .int (nI (sgOf x)), .ref u1, .int 0, .int 0, .ref u2, .ref u3])), (u1, .inl (cI, 1000, .inl (fun _ => 0))), (u2, .inl (cI, 1000, .inl (fun _ => 0))), (u3, .inl (cI, 1000, .inl (fun _ => 0)))] H := hP
      have hD : va_D (fun q => q = u0 ∨ sz ≤ q) [(u0, .inr (3, [.int 0, .int (nI (sgOf x)), .ref u1, .int 0, .int 0, .ref u2, .ref u3])), (u1, .inl (cI, 1000, .inl (fun _ => 0))), (u2, .inl (cI, 1000, .inl (fun _ => 0))), (u3, .inl (cI, 1000, .inl (fun _ => 0)))] := hD
      have hn : ∀ i j : Nat, i < 4 → j < 4 → i ≠ j → ∀ p q : Nat × va_E, ([(u0, .inr (3, [.int 0, .int (nI (sgOf x)), .ref u1, .int 0, .int 0, .ref u2, .ref u3])), (u1, .inl (cI, 1000, .inl (fun _ => 0))), (u2, .inl (cI, 1000, .inl (fun _ => 0))), (u3, .inl (cI, 1000, .inl (fun _ => 0)))] : va_W)[i]? = some p → ([(u0, .inr (3, [.int 0, .int (nI (sgOf x)), .ref u1, .int 0, .int 0, .ref u2, .ref u3])), (u1, .inl (cI, 1000, .inl (fun _ => 0))), (u2, .inl (cI, 1000, .inl (fun _ => 0))), (u3, .inl (cI, 1000, .inl (fun _ => 0)))] : va_W)[j]? = some q → p.1 ≠ q.1 := fun i j _ _ hij p q hp hq h => hij (hD.1 i j p q hp hq h)
      have g1 : sz ≤ u1 := (hD.2 1 _ rfl).resolve_left (hn 1 0 (by omega) (by omega) (by omega) _ _ rfl rfl)
      have g2 : sz ≤ u2 := (hD.2 2 _ rfl).resolve_left (hn 2 0 (by omega) (by omega) (by omega) _ _ rfl rfl)
      have g3 : sz ≤ u3 := (hD.2 3 _ rfl).resolve_left (hn 3 0 (by omega) (by omega) (by omega) _ _ rfl rfl)
      have hMI : MI B0 u0 u1 u2 u3 := ⟨⟨hn 0 1 (by omega) (by omega) (by omega) _ _ rfl rfl, hn 0 2 (by omega) (by omega) (by omega) _ _ rfl rfl, hn 0 3 (by omega) (by omega) (by omega) _ _ rfl rfl, hn 1 2 (by omega) (by omega) (by omega) _ _ rfl rfl, hn 1 3 (by omega) (by omega) (by omega) _ _ rfl rfl, hn 2 3 (by omega) (by omega) (by omega) _ _ rfl rfl⟩, hB, by omega, by omega, by omega⟩
      exact W.vret hx hb hr (fun t ht hW => ⟨_, rfl, by rw [ht]; exact ⟨rfl, fr.of hS, u1, u2, u3, hMI, g1, g2, g3, _, _, _, fun i x h => by simp at h, hP⟩⟩) hS.2.2 d_M_init_56
  · refine lv_iconst (v := 1) hx hb d_M_init_37 (by decide) ?_
    refine lv_goto (tgt := 53) hx hb d_M_init_38 (by decide) ?_
    refine ct_topi (x' := nI (sgOf x)) (by unfold sgOf; rw [if_pos (Int32.not_le.mp h1)]; rfl) ?_
    refine va_putF (D := D) (ci := 3) (v := .int (nI (sgOf x))) (ty := .int) (C := n_M) (T := f_M) (N := 7) hx hb hts in_M t_M ty_M nm_M hown hK hP hD hS 0 rfl rfl 1 (by decide) (hts _ x_438) (fun _ h9 => h9) rfl hnm rfl (by decide +kernel) rfl rfl (Nat.le_of_ble_eq_true rfl) d_M_init_53 (fun H locs hP hD hS => ?_)
    have hP : va_P D vwCl [(u0, .inr (3, [.int 0, .int (nI (sgOf x)), .ref u1, .int 0, .int 0, .ref u2, .ref u3])), (u1, .inl (cI, 1000, .inl (fun _ => 0))), (u2, .inl (cI, 1000, .inl (fun _ => 0))), (u3, .inl (cI, 1000, .inl (fun _ => 0)))] H := hP
    have hD : va_D (fun q => q = u0 ∨ sz ≤ q) [(u0, .inr (3, [.int 0, .int (nI (sgOf x)), .ref u1, .int 0, .int 0, .ref u2, .ref u3])), (u1, .inl (cI, 1000, .inl (fun _ => 0))), (u2, .inl (cI, 1000, .inl (fun _ => 0))), (u3, .inl (cI, 1000, .inl (fun _ => 0)))] := hD
    have hn : ∀ i j : Nat, i < 4 → j < 4 → i ≠ j → ∀ p q : Nat × va_E, ([(u0, .inr (3, [.int 0, .int (nI (sgOf x)), .ref u1, .int 0, .int 0, .ref u2, .ref u3])), (u1, .inl (cI, 1000, .inl (fun _ => 0))), (u2, .inl (cI, 1000, .inl (fun _ => 0))), (u3, .inl (cI, 1000, .inl (fun _ => 0)))] : va_W)[i]? = some p → ([(u0, .inr (3, [.int 0, .int (nI (sgOf x)), .ref u1, .int 0, .int 0, .ref u2, .ref u3])), (u1, .inl (cI, 1000, .inl (fun _ => 0))), (u2, .inl (cI, 1000, .inl (fun _ => 0))), (u3, .inl (cI, 1000, .inl (fun _ => 0)))] : va_W)[j]? = some q → p.1 ≠ q.1 := fun i j _ _ hij p q hp hq h => hij (hD.1 i j p q hp hq h)
    have g1 : sz ≤ u1 := (hD.2 1 _ rfl).resolve_left (hn 1 0 (by omega) (by omega) (by omega) _ _ rfl rfl)
    have g2 : sz ≤ u2 := (hD.2 2 _ rfl).resolve_left (hn 2 0 (by omega) (by omega) (by omega) _ _ rfl rfl)
    have g3 : sz ≤ u3 := (hD.2 3 _ rfl).resolve_left (hn 3 0 (by omega) (by omega) (by omega) _ _ rfl rfl)
    have hMI : MI B0 u0 u1 u2 u3 := ⟨⟨hn 0 1 (by omega) (by omega) (by omega) _ _ rfl rfl, hn 0 2 (by omega) (by omega) (by omega) _ _ rfl rfl, hn 0 3 (by omega) (by omega) (by omega) _ _ rfl rfl, hn 1 2 (by omega) (by omega) (by omega) _ _ rfl rfl, hn 1 3 (by omega) (by omega) (by omega) _ _ rfl rfl, hn 2 3 (by omega) (by omega) (by omega) _ _ rfl rfl⟩, hB, by omega, by omega, by omega⟩
    exact W.vret hx hb hr (fun t ht hW => ⟨_, rfl, by rw [ht]; exact ⟨rfl, fr.of hS, u1, u2, u3, hMI, g1, g2, g3, _, _, _, fun i x h => by simp at h, hP⟩⟩) hS.2.2 d_M_init_56
