/-! LevelRows: symbolInPut, put. -/
set_option maxHeartbeats 4000000 in
set_option maxRecDepth 100000 in
theorem m_R_symbolInPut {l : Launch} {D : va_G} {cI cJ cS cO : ClassId} {B0 : Nat} (p0 p1 p2 p3 p4 : Int32) (i : Nat) (hi : i < 10) : CM l D (tyL cI cJ cS cO) B0 y_R_symbolInPut c_R_symbolInPut 7 (some .int) (rmK 0 0 0) [.int (nI i), .int p0, .int p1, .int p2, .int p3, .int p4] (fun _ => True) (fun v H0 H1 => v = some (.int (nI (gv p0 p1 p2 p3 p4 i))) ∧ H1 = H0) 0 0 (fun _ => False) := by
  refine cm_of (by decide) (Nat.le_of_ble_eq_true rfl) ?_
  intro p e s m below meth c ls hx hb hr hml hown hts hlocks hnm hE hpre hl
  have hown : s.vm.findClass "LevelRows" = some m.cls := hown
  have hK := hE.1
  have hl : lv_has ls 7 [(0, .int (nI i)), (1, .int p0), (2, .int p1), (3, .int p2), (4, .int p3), (5, .int p4)] := hl
  refine lv_iload_n hx hb d_R_symbolInPut_0 rfl (lv_at hl 0 rfl) ?_
  refine lv_iconst (v := 2) hx hb d_R_symbolInPut_1 (by decide) ?_
  refine lv_idiv hx hb d_R_symbolInPut_2 (by decide) ?_
  refine ct_topi (x' := nI (i / 2)) (pk_div (d := 2) (by omega) (by decide) (by decide)) ?_
  rcases (show i / 2 = 0 ∨ i / 2 = 1 ∨ i / 2 = 2 ∨ i / 2 = 3 ∨ i / 2 = 4 by omega) with h2 | h2 | h2 | h2 | h2
  · refine lv_tableIn (off := 29) (tgt := 32) hx hb d_R_symbolInPut_3 (by rw [h2]; decide) (by rw [h2]; decide) (by rw [h2]; rfl) (by decide) ?_
    refine lv_iload_n hx hb d_R_symbolInPut_32 rfl (lv_at hl 1 rfl) ?_
    refine lv_istore (lv' := [(6, .int p0), (0, .int (nI i)), (1, .int p0), (2, .int p1), (3, .int p2), (4, .int p3), (5, .int p4)]) hx hb d_R_symbolInPut_33 hl (by decide) rfl (fun ls hl => ?_)
    refine lv_goto (tgt := 61) hx hb d_R_symbolInPut_35 (by decide) ?_
    refine lv_iload_n hx hb d_R_symbolInPut_61 rfl (lv_at hl 1 rfl) ?_
    refine lv_iconst (v := 2) hx hb d_R_symbolInPut_62 (by decide) ?_
    refine lv_irem hx hb d_R_symbolInPut_63 (by decide) ?_
    refine ct_topi (x' := nI (i % 2)) (pk_rem (d := 2) (by omega) (by decide) (by decide)) ?_
    by_cases hm : i % 2 = 0
    · refine lv_if_ne (tgt := 75) hx hb d_R_symbolInPut_64 (by decide) (fun c9 => absurd (by rw [hm]; rfl) c9) (fun _ => ?_)
      refine lv_iload hx hb d_R_symbolInPut_67 (lv_at hl 0 rfl) ?_
      refine lv_bipush (v := 16) hx hb d_R_symbolInPut_69 (by decide) ?_
      refine lv_iushr hx hb d_R_symbolInPut_71 rfl ?_
      refine ct_topi (x' := nI (gv p0 p1 p2 p3 p4 i)) ((hi16 _).trans (by unfold gv; rw [if_pos hm, h2]; rfl)) ?_
      refine lv_goto (tgt := 80) hx hb d_R_symbolInPut_72 (by decide) ?_
      exact W.iret (v := nI (gv p0 p1 p2 p3 p4 i)) hx hb hr (fun t ht hW => ⟨_, rfl, rfl, ht⟩) (fun _ h => nomatch h) d_R_symbolInPut_80
    · refine lv_if_ne (tgt := 75) hx hb d_R_symbolInPut_64 (by decide) (fun _ => ?_) (fun c9 => absurd c9 (nI_ne0 (by omega) (by omega)))
      refine lv_iload hx hb d_R_symbolInPut_75 (lv_at hl 0 rfl) ?_
      refine lv_ldc (v := 65535) hx hb hown (hts _ x_186) d_R_symbolInPut_77 ?_
      refine lv_iand hx hb d_R_symbolInPut_79 ?_
      refine ct_topi (x' := nI (gv p0 p1 p2 p3 p4 i)) ((lo16 _).trans (by unfold gv; rw [if_neg hm, h2]; rfl)) ?_
      exact W.iret (v := nI (gv p0 p1 p2 p3 p4 i)) hx hb hr (fun t ht hW => ⟨_, rfl, rfl, ht⟩) (fun _ h => nomatch h) d_R_symbolInPut_80
  · refine lv_tableIn (off := 35) (tgt := 38) hx hb d_R_symbolInPut_3 (by rw [h2]; decide) (by rw [h2]; decide) (by rw [h2]; rfl) (by decide) ?_
    refine lv_iload_n hx hb d_R_symbolInPut_38 rfl (lv_at hl 2 rfl) ?_
    refine lv_istore (lv' := [(6, .int p1), (0, .int (nI i)), (1, .int p0), (2, .int p1), (3, .int p2), (4, .int p3), (5, .int p4)]) hx hb d_R_symbolInPut_39 hl (by decide) rfl (fun ls hl => ?_)
    refine lv_goto (tgt := 61) hx hb d_R_symbolInPut_41 (by decide) ?_
    refine lv_iload_n hx hb d_R_symbolInPut_61 rfl (lv_at hl 1 rfl) ?_
    refine lv_iconst (v := 2) hx hb d_R_symbolInPut_62 (by decide) ?_
    refine lv_irem hx hb d_R_symbolInPut_63 (by decide) ?_
    refine ct_topi (x' := nI (i % 2)) (pk_rem (d := 2) (by omega) (by decide) (by decide)) ?_
    by_cases hm : i % 2 = 0
    · refine lv_if_ne (tgt := 75) hx hb d_R_symbolInPut_64 (by decide) (fun c9 => absurd (by rw [hm]; rfl) c9) (fun _ => ?_)
      refine lv_iload hx hb d_R_symbolInPut_67 (lv_at hl 0 rfl) ?_
      refine lv_bipush (v := 16) hx hb d_R_symbolInPut_69 (by decide) ?_
      refine lv_iushr hx hb d_R_symbolInPut_71 rfl ?_
      refine ct_topi (x' := nI (gv p0 p1 p2 p3 p4 i)) ((hi16 _).trans (by unfold gv; rw [if_pos hm, h2]; rfl)) ?_
      refine lv_goto (tgt := 80) hx hb d_R_symbolInPut_72 (by decide) ?_
      exact W.iret (v := nI (gv p0 p1 p2 p3 p4 i)) hx hb hr (fun t ht hW => ⟨_, rfl, rfl, ht⟩) (fun _ h => nomatch h) d_R_symbolInPut_80
    · refine lv_if_ne (tgt := 75) hx hb d_R_symbolInPut_64 (by decide) (fun _ => ?_) (fun c9 => absurd c9 (nI_ne0 (by omega) (by omega)))
      refine lv_iload hx hb d_R_symbolInPut_75 (lv_at hl 0 rfl) ?_
      refine lv_ldc (v := 65535) hx hb hown (hts _ x_186) d_R_symbolInPut_77 ?_
      refine lv_iand hx hb d_R_symbolInPut_79 ?_
      refine ct_topi (x' := nI (gv p0 p1 p2 p3 p4 i)) ((lo16 _).trans (by unfold gv; rw [if_neg hm, h2]; rfl)) ?_
      exact W.iret (v := nI (gv p0 p1 p2 p3 p4 i)) hx hb hr (fun t ht hW => ⟨_, rfl, rfl, ht⟩) (fun _ h => nomatch h) d_R_symbolInPut_80
  · refine lv_tableIn (off := 41) (tgt := 44) hx hb d_R_symbolInPut_3 (by rw [h2]; decide) (by rw [h2]; decide) (by rw [h2]; rfl) (by decide) ?_
    refine lv_iload_n hx hb d_R_symbolInPut_44 rfl (lv_at hl 3 rfl) ?_
    refine lv_istore (lv' := [(6, .int p2), (0, .int (nI i)), (1, .int p0), (2, .int p1), (3, .int p2), (4, .int p3), (5, .int p4)]) hx hb d_R_symbolInPut_45 hl (by decide) rfl (fun ls hl => ?_)
    refine lv_goto (tgt := 61) hx hb d_R_symbolInPut_47 (by decide) ?_
    refine lv_iload_n hx hb d_R_symbolInPut_61 rfl (lv_at hl 1 rfl) ?_
    refine lv_iconst (v := 2) hx hb d_R_symbolInPut_62 (by decide) ?_
    refine lv_irem hx hb d_R_symbolInPut_63 (by decide) ?_
    refine ct_topi (x' := nI (i % 2)) (pk_rem (d := 2) (by omega) (by decide) (by decide)) ?_
    by_cases hm : i % 2 = 0
    · refine lv_if_ne (tgt := 75) hx hb d_R_symbolInPut_64 (by decide) (fun c9 => absurd (by rw [hm]; rfl) c9) (fun _ => ?_)
      refine lv_iload hx hb d_R_symbolInPut_67 (lv_at hl 0 rfl) ?_
      refine lv_bipush (v := 16) hx hb d_R_symbolInPut_69 (by decide) ?_
      refine lv_iushr hx hb d_R_symbolInPut_71 rfl ?_
      refine ct_topi (x' := nI (gv p0 p1 p2 p3 p4 i)) ((hi16 _).trans (by unfold gv; rw [if_pos hm, h2]; rfl)) ?_
      refine lv_goto (tgt := 80) hx hb d_R_symbolInPut_72 (by decide) ?_
      exact W.iret (v := nI (gv p0 p1 p2 p3 p4 i)) hx hb hr (fun t ht hW => ⟨_, rfl, rfl, ht⟩) (fun _ h => nomatch h) d_R_symbolInPut_80
    · refine lv_if_ne (tgt := 75) hx hb d_R_symbolInPut_64 (by decide) (fun _ => ?_) (fun c9 => absurd c9 (nI_ne0 (by omega) (by omega)))
      refine lv_iload hx hb d_R_symbolInPut_75 (lv_at hl 0 rfl) ?_
      refine lv_ldc (v := 65535) hx hb hown (hts _ x_186) d_R_symbolInPut_77 ?_
      refine lv_iand hx hb d_R_symbolInPut_79 ?_
      refine ct_topi (x' := nI (gv p0 p1 p2 p3 p4 i)) ((lo16 _).trans (by unfold gv; rw [if_neg hm, h2]; rfl)) ?_
      exact W.iret (v := nI (gv p0 p1 p2 p3 p4 i)) hx hb hr (fun t ht hW => ⟨_, rfl, rfl, ht⟩) (fun _ h => nomatch h) d_R_symbolInPut_80
  · refine lv_tableIn (off := 47) (tgt := 50) hx hb d_R_symbolInPut_3 (by rw [h2]; decide) (by rw [h2]; decide) (by rw [h2]; rfl) (by decide) ?_
    refine lv_iload hx hb d_R_symbolInPut_50 (lv_at hl 4 rfl) ?_
    refine lv_istore (lv' := [(6, .int p3), (0, .int (nI i)), (1, .int p0), (2, .int p1), (3, .int p2), (4, .int p3), (5, .int p4)]) hx hb d_R_symbolInPut_52 hl (by decide) rfl (fun ls hl => ?_)
    refine lv_goto (tgt := 61) hx hb d_R_symbolInPut_54 (by decide) ?_
    refine lv_iload_n hx hb d_R_symbolInPut_61 rfl (lv_at hl 1 rfl) ?_
    refine lv_iconst (v := 2) hx hb d_R_symbolInPut_62 (by decide) ?_
    refine lv_irem hx hb d_R_symbolInPut_63 (by decide) ?_
    refine ct_topi (x' := nI (i % 2)) (pk_rem (d := 2) (by omega) (by decide) (by decide)) ?_
    by_cases hm : i % 2 = 0
    · refine lv_if_ne (tgt := 75) hx hb d_R_symbolInPut_64 (by decide) (fun c9 => absurd (by rw [hm]; rfl) c9) (fun _ => ?_)
      refine lv_iload hx hb d_R_symbolInPut_67 (lv_at hl 0 rfl) ?_
      refine lv_bipush (v := 16) hx hb d_R_symbolInPut_69 (by decide) ?_
      refine lv_iushr hx hb d_R_symbolInPut_71 rfl ?_
      refine ct_topi (x' := nI (gv p0 p1 p2 p3 p4 i)) ((hi16 _).trans (by unfold gv; rw [if_pos hm, h2]; rfl)) ?_
      refine lv_goto (tgt := 80) hx hb d_R_symbolInPut_72 (by decide) ?_
      exact W.iret (v := nI (gv p0 p1 p2 p3 p4 i)) hx hb hr (fun t ht hW => ⟨_, rfl, rfl, ht⟩) (fun _ h => nomatch h) d_R_symbolInPut_80
    · refine lv_if_ne (tgt := 75) hx hb d_R_symbolInPut_64 (by decide) (fun _ => ?_) (fun c9 => absurd c9 (nI_ne0 (by omega) (by omega)))
      refine lv_iload hx hb d_R_symbolInPut_75 (lv_at hl 0 rfl) ?_
      refine lv_ldc (v := 65535) hx hb hown (hts _ x_186) d_R_symbolInPut_77 ?_
      refine lv_iand hx hb d_R_symbolInPut_79 ?_
      refine ct_topi (x' := nI (gv p0 p1 p2 p3 p4 i)) ((lo16 _).trans (by unfold gv; rw [if_neg hm, h2]; rfl)) ?_
      exact W.iret (v := nI (gv p0 p1 p2 p3 p4 i)) hx hb hr (fun t ht hW => ⟨_, rfl, rfl, ht⟩) (fun _ h => nomatch h) d_R_symbolInPut_80
  · refine lv_tableOut (tgt := 57) hx hb d_R_symbolInPut_3 (Or.inr (by rw [h2]; decide)) (by decide) ?_
    refine lv_iload hx hb d_R_symbolInPut_57 (lv_at hl 5 rfl) ?_
    refine lv_istore (lv' := [(6, .int p4), (0, .int (nI i)), (1, .int p0), (2, .int p1), (3, .int p2), (4, .int p3), (5, .int p4)]) hx hb d_R_symbolInPut_59 hl (by decide) rfl (fun ls hl => ?_)
    refine lv_iload_n hx hb d_R_symbolInPut_61 rfl (lv_at hl 1 rfl) ?_
    refine lv_iconst (v := 2) hx hb d_R_symbolInPut_62 (by decide) ?_
    refine lv_irem hx hb d_R_symbolInPut_63 (by decide) ?_
    refine ct_topi (x' := nI (i % 2)) (pk_rem (d := 2) (by omega) (by decide) (by decide)) ?_
    by_cases hm : i % 2 = 0
    · refine lv_if_ne (tgt := 75) hx hb d_R_symbolInPut_64 (by decide) (fun c9 => absurd (by rw [hm]; rfl) c9) (fun _ => ?_)
      refine lv_iload hx hb d_R_symbolInPut_67 (lv_at hl 0 rfl) ?_
      refine lv_bipush (v := 16) hx hb d_R_symbolInPut_69 (by decide) ?_
      refine lv_iushr hx hb d_R_symbolInPut_71 rfl ?_
      refine ct_topi (x' := nI (gv p0 p1 p2 p3 p4 i)) ((hi16 _).trans (by unfold gv; rw [if_pos hm, h2]; rfl)) ?_
      refine lv_goto (tgt := 80) hx hb d_R_symbolInPut_72 (by decide) ?_
      exact W.iret (v := nI (gv p0 p1 p2 p3 p4 i)) hx hb hr (fun t ht hW => ⟨_, rfl, rfl, ht⟩) (fun _ h => nomatch h) d_R_symbolInPut_80
    · refine lv_if_ne (tgt := 75) hx hb d_R_symbolInPut_64 (by decide) (fun _ => ?_) (fun c9 => absurd c9 (nI_ne0 (by omega) (by omega)))
      refine lv_iload hx hb d_R_symbolInPut_75 (lv_at hl 0 rfl) ?_
      refine lv_ldc (v := 65535) hx hb hown (hts _ x_186) d_R_symbolInPut_77 ?_
      refine lv_iand hx hb d_R_symbolInPut_79 ?_
      refine ct_topi (x' := nI (gv p0 p1 p2 p3 p4 i)) ((lo16 _).trans (by unfold gv; rw [if_neg hm, h2]; rfl)) ?_
      exact W.iret (v := nI (gv p0 p1 p2 p3 p4 i)) hx hb hr (fun t ht hW => ⟨_, rfl, rfl, ht⟩) (fun _ h => nomatch h) d_R_symbolInPut_80
set_option maxHeartbeats 4000000 in
set_option maxRecDepth 100000 in
theorem m_R_put {l : Launch} {D : va_G} {cI cJ cS cO : ClassId} {B0 : Nat} (hl9 : l.stackTraces = false) {y : Nat → Nat} {sg d : Nat} {xs ws : List Nat} (hy : yI B0 y d) (ok0 : Ok sg d xs ws) (p0 p1 p2 p3 p4 nn : Int32) : CX l D (tyL cI cJ cS cO) B0 y_R_put c_R_put 9 (some .int) (rmK 7 11 66) [.ref (y 0), .int p0, .int p1, .int p2, .int p3, .int p4, .int nn] (fun H => LRx D cI cJ cS cO y sg d xs ws H) (fun v H0 H1 => v = some (.int (nI (ws.length + cn nn))) ∧ fr (fun q => q = y 0 ∨ q = y 1) H0 H1 ∧ LRx D cI cJ cS cO y sg d xs (ws ++ gvs p0 p1 p2 p3 p4 nn) H1 ∧ (symsOk sg p0 p1 p2 p3 p4 nn ∧ rngOk nn ∧ xs.length + ws.length + cn nn ≤ 1000)) (pxP (symsOk sg p0 p1 p2 p3 p4 nn) (rngOk nn) (xs.length + ws.length + cn nn ≤ 1000)) 11 66 (fun q => q = y 0 ∨ q = y 1) := by
  refine cx_of (by decide) (Nat.le_of_ble_eq_true rfl) ?_
  intro p e s m below meth c ls hx hb hr hml hown hts hlocks hout hE hpre hl
  have hown : s.vm.findClass "LevelRows" = some m.cls := hown
  have hK := hE.1
  have hl : lv_has ls 9 [(0, .ref (y 0)), (1, .int p0), (2, .int p1), (3, .int p2), (4, .int p3), (5, .int p4), (6, .int nn)] := hl
  have hAB : ∀ q : Nat, (q = y 0 ∨ q = y 1) → B0 ≤ q := by
    rintro q (rfl | rfl)
    · exact hy.2 _ (by omega)
    · exact hy.2 _ (by omega)
  have hS : va_S (fun q => q = y 0 ∨ q = y 1) s.heap s.heap [] := va_S.rf
  obtain ⟨rf, sf, hrw, hrs⟩ := hpre.2.2.2.2
  have hsum := ok0.2.2.2.2.2.1
  have hsg6 := ok0.2.1
  have hP : va_P D vwCl [(y 0, .inr (2, [.int (nI sg), .ref (y 7), .int (nI xs.length), .int (nI ws.length), .ref (y 1), .ref (y 2), .ref (y 3), .ref (y 4), .ref (y 5), .ref (y 6)])), (y 1, .inl (cI, 1000, .inl (rf)))] s.heap := (hpre.1.1.sub [0] rfl).app (hrs.sub [0] rfl)
  have hD : va_D (fun q => q = y 0 ∨ q = y 1) [(y 0, .inr (2, [.int (nI sg), .ref (y 7), .int (nI xs.length), .int (nI ws.length), .ref (y 1), .ref (y 2), .ref (y 3), .ref (y 4), .ref (y 5), .ref (y 6)])), (y 1, .inl (cI, 1000, .inl (rf)))] := va_D.two (hy.ne (by omega) (by omega) (by omega)) (Or.inl rfl) (Or.inr rfl)
  refine lv_iload hx hb d_R_put_0 (lv_at hl 6 rfl) ?_
  refine lv_bipush (v := 10) hx hb d_R_put_2 (by decide) ?_
  refine va_mmin hx hb (by rw [hml]; exact hl.1.symm) hown (hts _ x_52) (hts _ x_53) (hts _ x_3) (hts _ x_54) (by decide) (Nat.le_of_ble_eq_true rfl) (by decide) (by decide) d_R_put_4 ?_
  by_cases hneg : nn < 0
  · refine ct_topi (x' := nn) (if_neg (fun h => absurd (Int32.lt_trans h hneg) (by decide))) ?_
    refine lv_istore (lv' := [(7, .int nn), (0, .ref (y 0)), (1, .int p0), (2, .int p1), (3, .int p2), (4, .int p3), (5, .int p4), (6, .int nn)]) hx hb d_R_put_7 hl (by decide) rfl (fun ls hl => ?_)
    refine lv_iconst (v := 0) hx hb d_R_put_9 (by decide) ?_
    refine lv_istore (lv' := [(8, .int 0), (7, .int nn), (0, .ref (y 0)), (1, .int p0), (2, .int p1), (3, .int p2), (4, .int p3), (5, .int p4), (6, .int nn)]) hx hb d_R_put_10 hl (by decide) rfl (fun ls hl => ?_)
    refine lv_iload hx hb d_R_put_12 (lv_at hl 0 rfl) ?_
    refine lv_iload hx hb d_R_put_14 (lv_at hl 1 rfl) ?_
    refine lv_icmp_ge (tgt := 41) hx hb d_R_put_16 (by decide) (fun _ => ?_) (fun c9 => absurd (Int32.le_of_lt hneg) c9)
    refine lv_iload hx hb d_R_put_41 (lv_at hl 8 rfl) ?_
    refine lv_iconst (v := 1) hx hb d_R_put_43 (by decide) ?_
    refine lv_icmp_lt (tgt := 54) hx hb d_R_put_44 (by decide) (fun _ => ?_) (fun c9 => absurd (Int32.lt_trans hneg (by decide)) c9)
    have hc0 : cn nn = 0 := by
      have h2 := Int32.lt_iff_toInt_lt.mp hneg
      have h3 : (0 : Int32).toInt = 0 := by decide
      show nn.toInt.toNat = 0
      omega
    exact ct_thr hx hb hl9 hown hts hE hS hAB (by rw [hml]; exact hl.1) (by decide +kernel) (at_A hts hE.2.1) ot_A x_259 x_11 x_268 d_R_put_54 d_R_put_57 d_R_put_58 d_R_put_60 d_R_put_63 hout (by decide) (Nat.le_of_ble_eq_true rfl) (by decide) (by decide) hlocks (fun H1 hf => ⟨Or.inr (Or.inl ⟨rfl, fun i hi => by rw [hc0] at hi; omega, fun h => h.1 (Int32.lt_trans hneg (by decide))⟩), hf⟩) hS.2.2 (by decide) (by decide)
  · obtain ⟨hne, hn31⟩ := nn_ints hneg
    have hg9 : (if (10 : Int32) < nn then 10 else nn) = nI (min (cn nn) 10) := by rw [hne]; simp only [cn]; rw [nI_clamp hn31]; exact min10 hn31
    refine ct_topi (x' := nI (min (cn nn) 10)) (hg9) ?_
    refine lv_istore (lv' := [(7, .int (nI (min (cn nn) 10))), (0, .ref (y 0)), (1, .int p0), (2, .int p1), (3, .int p2), (4, .int p3), (5, .int p4), (6, .int nn)]) hx hb d_R_put_7 hl (by decide) rfl (fun ls hl => ?_)
    refine lv_iconst (v := 0) hx hb d_R_put_9 (by decide) ?_
    refine lv_istore (lv' := [(8, .int 0), (7, .int (nI (min (cn nn) 10))), (0, .ref (y 0)), (1, .int p0), (2, .int p1), (3, .int p2), (4, .int p3), (5, .int p4), (6, .int nn)]) hx hb d_R_put_10 hl (by decide) rfl (fun ls hl => ?_)
    have hm10 : min (cn nn) 10 ≤ 10 := Nat.min_le_right _ _
    have loop : ∀ (n : Nat) (i : Nat) (locs : List Loc) (ls : Array Slot), (i + n = min (cn nn) 10) → (∀ j, j < i → gv p0 p1 p2 p3 p4 j < sg) → va_S (fun q => q = y 0 ∨ q = y 1) s.heap s.heap locs → lv_has ls 9 [(8, .int (nI i)), (7, .int (nI (min (cn nn) 10))), (0, .ref (y 0)), (1, .int p0), (2, .int p1), (3, .int p2), (4, .int p3), (5, .int p4), (6, .int nn)] → W p l e (rmK 7 11 66) s m [.ref (y 0), .int p0, .int p1, .int p2, .int p3, .int p4, .int nn].toArray below meth c s.heap locs (i) (6 * i) (vx_MQ below (stQ (fun v H0 H1 => v = some (.int (nI (ws.length + cn nn))) ∧ fr (fun q => q = y 0 ∨ q = y 1) H0 H1 ∧ LRx D cI cJ cS cO y sg d xs (ws ++ gvs p0 p1 p2 p3 p4 nn) H1 ∧ (symsOk sg p0 p1 p2 p3 p4 nn ∧ rngOk nn ∧ xs.length + ws.length + cn nn ≤ 1000))) (stX (pxP (symsOk sg p0 p1 p2 p3 p4 nn) (rngOk nn) (xs.length + ws.length + cn nn ≤ 1000))) [.ref (y 0), .int p0, .int p1, .int p2, .int p3, .int p4, .int nn].toArray s 11 66 (fun q => q = y 0 ∨ q = y 1)) (F0 m 12 ls []) := by
      intro n
      induction n with
      | zero =>
        intro i locs ls hin hch hS hl
        have hiG : i = min (cn nn) 10 := by omega
        refine lv_iload hx hb d_R_put_12 (lv_at hl 0 rfl) ?_
        refine lv_iload hx hb d_R_put_14 (lv_at hl 1 rfl) ?_
        refine lv_icmp_ge (tgt := 41) hx hb d_R_put_16 (by decide) (fun _ => ?_) (fun c9 => absurd (nI_le (by omega) (by omega)) c9)
        have hsy : symsOk sg p0 p1 p2 p3 p4 nn := fun j hj => hch j (by omega)
        refine lv_iload hx hb d_R_put_41 (lv_at hl 8 rfl) ?_
        refine lv_iconst (v := 1) hx hb d_R_put_43 (by decide) ?_
        refine lv_icmp_lt (tgt := 54) hx hb d_R_put_44 (by decide) (fun h1 => ?_) (fun h1 => ?_)
        · exact ct_thr hx hb hl9 hown hts hE hS hAB (by rw [hml]; exact hl.1) (by decide +kernel) (at_A hts hE.2.1) ot_A x_259 x_11 x_268 d_R_put_54 d_R_put_57 d_R_put_58 d_R_put_60 d_R_put_63 hout (by decide) (Nat.le_of_ble_eq_true rfl) (show i + 1 ≤ 11 by omega) (show 6 * i + 6 ≤ 66 by omega) hlocks (fun H1 hf => ⟨Or.inr (Or.inl ⟨rfl, hsy, fun h => h.1 h1⟩), hf⟩) hS.2.2 (show i + 1 ≤ 11 by omega) (show 6 * i + 6 ≤ 66 by omega)
        · refine lv_iload hx hb d_R_put_47 (lv_at hl 8 rfl) ?_
          refine lv_bipush (v := 10) hx hb d_R_put_49 (by decide) ?_
          refine lv_icmp_le (tgt := 64) hx hb d_R_put_51 (by decide) (fun h2 => ?_) (fun h2 => ?_)
          · have hrg : rngOk nn := ⟨h1, Int32.not_lt.mpr h2⟩
            refine lv_iload hx hb d_R_put_64 (lv_at hl 8 rfl) ?_
            refine lv_sipush (v := 1000) hx hb d_R_put_66 (by decide) ?_
            refine lv_aload_n hx hb d_R_put_69 rfl (lv_at hl 2 rfl) ?_
            refine va_get (D := D) (ci := 2) (v := .int (nI xs.length)) (C := n_R) (T := f_R) (N := 10) hx hb hts in_R hown hK hP 0 rfl rfl 2 (by decide) (hts _ x_84) (fun _ h9 => h9) rfl d_R_put_70 ?_
            refine lv_isub hx hb d_R_put_73 ?_
            refine ct_topi (x' := nI (1000 - xs.length)) (pk_sub (a := 1000) (by omega)) ?_
            refine lv_aload_n hx hb d_R_put_74 rfl (lv_at hl 2 rfl) ?_
            refine va_get (D := D) (ci := 2) (v := .int (nI ws.length)) (C := n_R) (T := f_R) (N := 10) hx hb hts in_R hown hK hP 0 rfl rfl 3 (by decide) (hts _ x_85) (fun _ h9 => h9) rfl d_R_put_75 ?_
            refine lv_isub hx hb d_R_put_78 ?_
            refine ct_topi (x' := nI (1000 - xs.length - ws.length)) (pk_sub (by omega)) ?_
            rcases Nat.lt_or_ge 1000 (xs.length + ws.length + cn nn) with hov | hfit
            · refine lv_icmp_le (tgt := 92) hx hb d_R_put_79 (by decide) (fun c9 => absurd c9 (by rw [hne]; exact nI_ge (by omega) hn31)) (fun _ => ?_)
              exact ct_thr hx hb hl9 hown hts hE hS hAB (by rw [hml]; exact hl.1) (by decide +kernel) (at_U hts hE.2.1) ot_U x_275 x_12 x_284 d_R_put_82 d_R_put_85 d_R_put_86 d_R_put_88 d_R_put_91 hout (by decide) (Nat.le_of_ble_eq_true rfl) (show i + 1 ≤ 11 by omega) (show 6 * i + 6 ≤ 66 by omega) hlocks (fun H1 hf => ⟨Or.inr (Or.inr ⟨rfl, hsy, hrg, by omega⟩), hf⟩) hS.2.2 (show i + 1 ≤ 11 by omega) (show 6 * i + 6 ≤ 66 by omega)
            · refine lv_icmp_le (tgt := 92) hx hb d_R_put_79 (by decide) (fun _ => ?_) (fun c9 => absurd (by rw [hne]; exact nI_le (by omega) (by omega)) c9)
              refine lv_iconst (v := 0) hx hb d_R_put_92 (by decide) ?_
              refine lv_istore (lv' := [(8, .int 0), (7, .int (nI (min (cn nn) 10))), (0, .ref (y 0)), (1, .int p0), (2, .int p1), (3, .int p2), (4, .int p3), (5, .int p4), (6, .int nn)]) hx hb d_R_put_93 hl (by decide) rfl (fun ls hl => ?_)
              have loop2 : ∀ (n : Nat) (i : Nat) (rf : Nat → Int32) (H : Heap) (locs : List Loc) (ls : Array Slot), (i + n = cn nn) → (∀ j x, ws[j]? = some x → rf (xs.length + j) = nI x) → (∀ j, j < i → rf (xs.length + ws.length + j) = nI (gv p0 p1 p2 p3 p4 j)) → va_S (fun q => q = y 0 ∨ q = y 1) s.heap H locs → va_P D vwCl [(y 0, .inr (2, [.int (nI sg), .ref (y 7), .int (nI xs.length), .int (nI ws.length), .ref (y 1), .ref (y 2), .ref (y 3), .ref (y 4), .ref (y 5), .ref (y 6)])), (y 1, .inl (cI, 1000, .inl (rf)))] H → va_D (fun q => q = y 0 ∨ q = y 1) [(y 0, .inr (2, [.int (nI sg), .ref (y 7), .int (nI xs.length), .int (nI ws.length), .ref (y 1), .ref (y 2), .ref (y 3), .ref (y 4), .ref (y 5), .ref (y 6)])), (y 1, .inl (cI, 1000, .inl (rf)))] → lv_has ls 9 [(8, .int (nI i)), (0, .ref (y 0)), (1, .int p0), (2, .int p1), (3, .int p2), (4, .int p3), (5, .int p4), (6, .int nn)] → W p l e (rmK 7 11 66) s m [.ref (y 0), .int p0, .int p1, .int p2, .int p3, .int p4, .int nn].toArray below meth c H locs (11) (66) (vx_MQ below (stQ (fun v H0 H1 => v = some (.int (nI (ws.length + cn nn))) ∧ fr (fun q => q = y 0 ∨ q = y 1) H0 H1 ∧ LRx D cI cJ cS cO y sg d xs (ws ++ gvs p0 p1 p2 p3 p4 nn) H1 ∧ (symsOk sg p0 p1 p2 p3 p4 nn ∧ rngOk nn ∧ xs.length + ws.length + cn nn ≤ 1000))) (stX (pxP (symsOk sg p0 p1 p2 p3 p4 nn) (rngOk nn) (xs.length + ws.length + cn nn ≤ 1000))) [.ref (y 0), .int p0, .int p1, .int p2, .int p3, .int p4, .int nn].toArray s 11 66 (fun q => q = y 0 ∨ q = y 1)) (F0 m 95 ls []) := by
                intro n
                induction n with
                | zero =>
                  intro i rf H locs ls hin hr1 hr2 hS hP hD hl
                  have hiN : i = cn nn := by omega
                  refine lv_iload hx hb d_R_put_95 (lv_at hl 0 rfl) ?_
                  refine lv_iload hx hb d_R_put_97 (lv_at hl 7 rfl) ?_
                  refine lv_icmp_ge (tgt := 137) hx hb d_R_put_99 (by decide) (fun _ => ?_) (fun c9 => absurd (by rw [hne]; exact nI_le (by omega) (by omega)) c9)
                  refine lv_aload_n hx hb d_R_put_137 rfl (lv_at hl 1 rfl) ?_
                  refine lv_dup hx hb d_R_put_138 rfl ?_
                  refine va_get (D := D) (ci := 2) (v := .int (nI ws.length)) (C := n_R) (T := f_R) (N := 10) hx hb hts in_R hown hK hP 0 rfl rfl 3 (by decide) (hts _ x_85) (fun _ h9 => h9) rfl d_R_put_139 ?_
                  refine lv_iload hx hb d_R_put_142 (lv_at hl 7 rfl) ?_
                  refine lv_iadd hx hb d_R_put_144 ?_
                  refine ct_topi (x' := nI (ws ++ gvs p0 p1 p2 p3 p4 nn).length) (by rw [List.length_append, List.length_map, List.length_range, ← nI_add, ← hne]) ?_
                  refine va_put (D := D) (ci := 2) (v := .int (nI (ws ++ gvs p0 p1 p2 p3 p4 nn).length)) (ty := .int) (C := n_R) (T := f_R) (N := 10) hx hb hts in_R t_R ty_R nm_R hown hK hP hD hS 0 rfl rfl 3 (by decide) (hts _ x_85) (fun _ h9 => h9) rfl (by decide +kernel) rfl rfl (Nat.le_of_ble_eq_true rfl) d_R_put_145 (fun H locs hP hD hS => ?_)
                  have hP : va_P D vwCl [(y 0, .inr (2, [.int (nI sg), .ref (y 7), .int (nI xs.length), .int (nI (ws ++ gvs p0 p1 p2 p3 p4 nn).length), .ref (y 1), .ref (y 2), .ref (y 3), .ref (y 4), .ref (y 5), .ref (y 6)])), (y 1, .inl (cI, 1000, .inl (rf)))] H := hP
                  have hD : va_D (fun q => q = y 0 ∨ q = y 1) [(y 0, .inr (2, [.int (nI sg), .ref (y 7), .int (nI xs.length), .int (nI (ws ++ gvs p0 p1 p2 p3 p4 nn).length), .ref (y 1), .ref (y 2), .ref (y 3), .ref (y 4), .ref (y 5), .ref (y 6)])), (y 1, .inl (cI, 1000, .inl (rf)))] := hD
                  refine lv_aload_n hx hb d_R_put_148 rfl (lv_at hl 1 rfl) ?_
                  refine va_get (D := D) (ci := 2) (v := .int (nI (ws ++ gvs p0 p1 p2 p3 p4 nn).length)) (C := n_R) (T := f_R) (N := 10) hx hb hts in_R hown hK hP 0 rfl rfl 3 (by decide) (hts _ x_85) (fun _ h9 => h9) rfl d_R_put_149 ?_
                  have hzs : ∀ j x, (ws ++ gvs p0 p1 p2 p3 p4 nn)[j]? = some x → rf (xs.length + j) = nI x := by
                    intro j x hj
                    rcases Nat.lt_or_ge j ws.length with h1 | h1
                    · rw [List.getElem?_append_left h1] at hj; exact hr1 j x hj
                    · rw [List.getElem?_append_right h1, List.getElem?_map] at hj
                      obtain ⟨u, hu, rfl⟩ := Option.map_eq_some_iff.mp hj
                      obtain ⟨hu1, hu2⟩ := List.getElem?_eq_some_iff.mp hu
                      rw [List.length_range] at hu1
                      rw [List.getElem_range] at hu2
                      subst hu2
                      have h3 := hr2 (j - ws.length) (by omega)
                      rwa [show xs.length + ws.length + (j - ws.length) = xs.length + j by omega] at h3
                  refine vx_ret ?_
                  exact W.iret (v := nI (ws ++ gvs p0 p1 p2 p3 p4 nn).length) hx hb hr (fun t ht hW => ⟨_, rfl, by rw [ht]; exact ⟨by rw [List.length_append, List.length_map, List.length_range], fr.of hS, lrx_put hy hpre (fr.of hS) hP hzs, hsy, hrg, hfit⟩⟩) hS.2.2 d_R_put_152
                | succ n ih =>
                  intro i rf H locs ls hin hr1 hr2 hS hP hD hl
                  have hN10 : cn nn ≤ 10 := by
                    have h1 : ¬ nI 10 < nI (cn nn) := by rw [← hne]; exact hrg.2
                    rcases Nat.lt_or_ge 10 (cn nn) with h2 | h2
                    · exact absurd (nI_lt h2 hn31) h1
                    · exact h2
                  refine lv_iload hx hb d_R_put_95 (lv_at hl 0 rfl) ?_
                  refine lv_iload hx hb d_R_put_97 (lv_at hl 7 rfl) ?_
                  refine lv_icmp_ge (tgt := 137) hx hb d_R_put_99 (by decide) (fun c9 => absurd c9 (by rw [hne]; exact nI_ge (by omega) hn31)) (fun _ => ?_)
                  refine lv_aload_n hx hb d_R_put_102 rfl (lv_at hl 1 rfl) ?_
                  refine va_get (D := D) (ci := 2) (v := .ref (y 1)) (C := n_R) (T := f_R) (N := 10) hx hb hts in_R hown hK hP 0 rfl rfl 4 (by decide) (hts _ x_86) (fun _ h9 => h9) rfl d_R_put_103 ?_
                  refine lv_aload_n hx hb d_R_put_106 rfl (lv_at hl 1 rfl) ?_
                  refine va_get (D := D) (ci := 2) (v := .int (nI xs.length)) (C := n_R) (T := f_R) (N := 10) hx hb hts in_R hown hK hP 0 rfl rfl 2 (by decide) (hts _ x_84) (fun _ h9 => h9) rfl d_R_put_107 ?_
                  refine lv_aload_n hx hb d_R_put_110 rfl (lv_at hl 1 rfl) ?_
                  refine va_get (D := D) (ci := 2) (v := .int (nI ws.length)) (C := n_R) (T := f_R) (N := 10) hx hb hts in_R hown hK hP 0 rfl rfl 3 (by decide) (hts _ x_85) (fun _ h9 => h9) rfl d_R_put_111 ?_
                  refine lv_iadd hx hb d_R_put_114 ?_
                  refine lv_iload hx hb d_R_put_115 (lv_at hl 0 rfl) ?_
                  refine lv_iadd hx hb d_R_put_117 ?_
                  refine ct_topi (x' := nI (xs.length + ws.length + i)) (by rw [nI_add, nI_add]) ?_
                  refine lv_iload hx hb d_R_put_118 (lv_at hl 0 rfl) ?_
                  refine lv_iload_n hx hb d_R_put_120 rfl (lv_at hl 2 rfl) ?_
                  refine lv_iload_n hx hb d_R_put_121 rfl (lv_at hl 3 rfl) ?_
                  refine lv_iload_n hx hb d_R_put_122 rfl (lv_at hl 4 rfl) ?_
                  refine lv_iload hx hb d_R_put_123 (lv_at hl 5 rfl) ?_
                  refine lv_iload hx hb d_R_put_125 (lv_at hl 6 rfl) ?_
                  refine cm_read (va_runS (As := [.int (nI i), .int p0, .int p1, .int p2, .int p3, .int p4]) (rest := [.int (nI (xs.length + ws.length + i)), .ref (y 1)]) ⟨hx, hb, hml, hown, hts⟩ (m_R_symbolInPut p0 p1 p2 p3 p4 i (by omega)) ⟨ct_cb 6 hts x_185 x_183 x_1 rfl rfl (by decide +kernel) ⟨by decide, by decide⟩, hts _ x_184⟩ ⟨st_blind, fun U hU hW => ⟨rfl, hE.at hS hAB hU hW, by rw [hU]; exact trivial⟩⟩ rfl rfl hl.1 rfl (lv_room (Nat.le_of_ble_eq_true rfl)) d_R_put_127 ⟨by decide, by decide⟩) (fun v hv => ?_)
                  subst hv
                  refine W.eq (g2 := F0 m 130 ls [.int (nI (gv p0 p1 p2 p3 p4 i)), .int (nI (xs.length + ws.length + i)), .ref (y 1)]) rfl ?_
                  refine va_iast hx hb hK hP hD hS 1 0 rfl rfl (vp_in_nI (by omega) (by decide)) d_R_put_130 (fun H locs hP hD hS => ?_)
                  rw [nI_clamp (by omega)] at hP hD
                  have hP : va_P D vwCl [(y 0, .inr (2, [.int (nI sg), .ref (y 7), .int (nI xs.length), .int (nI ws.length), .ref (y 1), .ref (y 2), .ref (y 3), .ref (y 4), .ref (y 5), .ref (y 6)])), (y 1, .inl (cI, 1000, .inl (upd rf (xs.length + ws.length + i) (nI (gv p0 p1 p2 p3 p4 i)))))] H := hP
                  have hD : va_D (fun q => q = y 0 ∨ q = y 1) [(y 0, .inr (2, [.int (nI sg), .ref (y 7), .int (nI xs.length), .int (nI ws.length), .ref (y 1), .ref (y 2), .ref (y 3), .ref (y 4), .ref (y 5), .ref (y 6)])), (y 1, .inl (cI, 1000, .inl (upd rf (xs.length + ws.length + i) (nI (gv p0 p1 p2 p3 p4 i)))))] := hD
                  refine lv_iinc (v := nI (i + 1)) (lv' := [(8, .int (nI (i + 1))), (0, .ref (y 0)), (1, .int p0), (2, .int p1), (3, .int p2), (4, .int p3), (5, .int p4), (6, .int nn)]) hx hb d_R_put_131 hl (k := 0) rfl ((nI_succ i).symm) (by decide) rfl (fun ls hl => ?_)
                  refine lv_goto (tgt := 95) hx hb d_R_put_134 (by decide) ?_
                  refine ih (i + 1) _ H _ ls (by omega) (fun j x hj => ?_) (fun j hj => ?_) hS hP hD (lv_sub hl [0, 1, 2, 3, 4, 5, 6, 7] rfl)
                  · have e9 : xs.length + j ≠ xs.length + ws.length + i := by have := (List.getElem?_eq_some_iff.mp hj).1; omega
                    simp only [upd, if_neg e9]; exact hr1 j x hj
                  · by_cases e9 : j = i
                    · subst e9; simp only [upd, if_true]
                    · have e8 : xs.length + ws.length + j ≠ xs.length + ws.length + i := by omega
                      simp only [upd, if_neg e8]; exact hr2 j (by omega)
              refine W.widen (k := 11) (n := 66) (by omega) (by omega) ?_
              exact loop2 (cn nn) 0 rf s.heap _ ls (by omega) hrw (fun j hj => absurd hj (Nat.not_lt_zero j)) hS hP hD (lv_sub hl [0, 2, 3, 4, 5, 6, 7, 8] rfl)
          · exact ct_thr hx hb hl9 hown hts hE hS hAB (by rw [hml]; exact hl.1) (by decide +kernel) (at_A hts hE.2.1) ot_A x_259 x_11 x_268 d_R_put_54 d_R_put_57 d_R_put_58 d_R_put_60 d_R_put_63 hout (by decide) (Nat.le_of_ble_eq_true rfl) (show i + 1 ≤ 11 by omega) (show 6 * i + 6 ≤ 66 by omega) hlocks (fun H1 hf => ⟨Or.inr (Or.inl ⟨rfl, hsy, fun h => h2 (Int32.not_lt.mp h.2)⟩), hf⟩) hS.2.2 (show i + 1 ≤ 11 by omega) (show 6 * i + 6 ≤ 66 by omega)
      | succ n ih =>
        intro i locs ls hin hch hS hl
        refine lv_iload hx hb d_R_put_12 (lv_at hl 0 rfl) ?_
        refine lv_iload hx hb d_R_put_14 (lv_at hl 1 rfl) ?_
        refine lv_icmp_ge (tgt := 41) hx hb d_R_put_16 (by decide) (fun c9 => absurd c9 (nI_ge (by omega) (by omega))) (fun _ => ?_)
        refine lv_aload_n hx hb d_R_put_19 rfl (lv_at hl 2 rfl) ?_
        refine lv_iload hx hb d_R_put_20 (lv_at hl 0 rfl) ?_
        refine lv_iload_n hx hb d_R_put_22 rfl (lv_at hl 3 rfl) ?_
        refine lv_iload_n hx hb d_R_put_23 rfl (lv_at hl 4 rfl) ?_
        refine lv_iload_n hx hb d_R_put_24 rfl (lv_at hl 5 rfl) ?_
        refine lv_iload hx hb d_R_put_25 (lv_at hl 6 rfl) ?_
        refine lv_iload hx hb d_R_put_27 (lv_at hl 7 rfl) ?_
        refine cm_read (va_runS (As := [.int (nI i), .int p0, .int p1, .int p2, .int p3, .int p4]) (rest := [.ref (y 0)]) ⟨hx, hb, hml, hown, hts⟩ (m_R_symbolInPut p0 p1 p2 p3 p4 i (by omega)) ⟨ct_cb 6 hts x_185 x_183 x_1 rfl rfl (by decide +kernel) ⟨by decide, by decide⟩, hts _ x_184⟩ ⟨st_blind, fun U hU hW => ⟨rfl, hE.at hS hAB hU hW, by rw [hU]; exact trivial⟩⟩ rfl rfl hl.1 rfl (lv_room (Nat.le_of_ble_eq_true rfl)) d_R_put_29 ⟨show i + 0 ≤ 11 by omega, show 6 * i + 0 ≤ 66 by omega⟩) (fun v hv => ?_)
        subst hv
        refine W.eq (g2 := F0 m 32 ls [.int (nI (gv p0 p1 p2 p3 p4 i)), .ref (y 0)]) rfl ?_
        have hgl := gv_lt p0 p1 p2 p3 p4 i
        refine cx_ret (vx_runV (As := [.int (nI (gv p0 p1 p2 p3 p4 i))]) (rest := []) ⟨hx, hb, hml, hown, hts⟩ (m_R_checkSymbol hl9 (nI (gv p0 p1 p2 p3 p4 i))) ⟨ct_cb 1 hts x_190 x_187 x_1 rfl rfl (by decide +kernel) ⟨by decide, by decide⟩, hts _ x_189, hts _ s_R_checkSymbol⟩ ⟨st_blind, va_recv hK hP (ci := 2) (q0 := 0) rfl rfl, fun U hU hW => ⟨rfl, hE.at hS hAB hU hW, by rw [hU]; exact hpre.1.1⟩⟩ rfl rfl hl.1 rfl (lv_room (Nat.le_of_ble_eq_true rfl)) d_R_put_32 ⟨show i + 1 ≤ 11 by omega, show 6 * i + 6 ≤ 66 by omega⟩) hS (fun q h => h.elim) (fun _ _ h => by rw [h.2.1]; exact fr.rf) (fun _ _ h => h.2.2) (fun E ce q H locs hxx hS hce hcv hcl => ?_) (fun v H locs hv hS => ?_)
        · obtain ⟨rfl, hn9, hf9⟩ := hxx
          exact vx_out (fun x hx => (hout x hx).elim) hlocks hce hcv hcl (fun t ht _ => by show (pxP (symsOk sg p0 p1 p2 p3 p4 nn) (rngOk nn) (xs.length + ws.length + cn nn ≤ 1000)) _ s.heap t.heap; rw [ht]; exact ⟨Or.inl ⟨rfl, fun h => hn9 ⟨nI_pos (by omega), nI_lt (h i (by omega)) (by omega)⟩⟩, hf9⟩) hS.2.2 (show i + 1 ≤ 11 by omega) (show 6 * i + 6 ≤ 66 by omega)
        obtain ⟨rfl, rfl, hcs⟩ := hv
        refine W.eq (g2 := F0 m 35 ls []) rfl ?_
        have hgs : gv p0 p1 p2 p3 p4 i < sg := (nI_ltI (by omega) (by omega)).mp hcs.2
        refine lv_iinc (v := nI (i + 1)) (lv' := [(8, .int (nI (i + 1))), (7, .int (nI (min (cn nn) 10))), (0, .ref (y 0)), (1, .int p0), (2, .int p1), (3, .int p2), (4, .int p3), (5, .int p4), (6, .int nn)]) hx hb d_R_put_35 hl (k := 0) rfl ((nI_succ i).symm) (by decide) rfl (fun ls hl => ?_)
        refine lv_goto (tgt := 12) hx hb d_R_put_38 (by decide) ?_
        exact ih (i + 1) _ ls (by omega) (fun j hj => by rcases Nat.lt_or_ge j i with h8 | h8; exact hch j h8; rw [show j = i by omega]; exact hgs) hS (lv_sub hl [0, 1, 2, 3, 4, 5, 6, 7, 8] rfl)
    exact loop (min (cn nn) 10) 0 [] ls (by omega) (fun j hj => absurd hj (Nat.not_lt_zero j)) hS (lv_sub hl [0, 1, 2, 3, 4, 5, 6, 7, 8] rfl)
