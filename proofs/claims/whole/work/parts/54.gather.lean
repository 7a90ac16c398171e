/-! The reference: gather, different, quantile, frequent. -/
set_option maxHeartbeats 4000000 in
set_option maxRecDepth 100000 in
theorem m_M_gather {l : Launch} {D : va_G} {cI cJ cS cO : ClassId} {B0 : Nat} {u0 u1 u2 u3 sg d : Nat} {xs ws : List Nat} (hu : MI B0 u0 u1 u2 u3) (ok0 : Ok sg d xs ws) {th : Int32} {rf sf tf : Nat → Int32} (hrf : ∀ i x, (xs ++ ws)[i]? = some x → rf i = nI x) {a b : Nat} (hab : a ≤ b) (hbx : b ≤ xs.length) : CM l D (tyL cI cJ cS cO) B0 y_M_gather c_M_gather 7 (some .int) (rmK 0 0 0) [.ref u0, .int (nI a), .int (nI b)] (fun H => va_P D vwCl [(u0, .inr (3, [.int th, .int (nI sg), .ref u1, .int (nI xs.length), .int (nI (xs.length + ws.length)), .ref u2, .ref u3])), (u1, .inl (cI, 1000, .inl (rf))), (u2, .inl (cI, 1000, .inl (sf))), (u3, .inl (cI, 1000, .inl (tf)))] H) (fun v H0 H1 => v = some (.int (nI (dis ((xs.drop a).take (b - a)) 65536).length)) ∧ fr (AM u0 u1 u2 u3) H0 H1 ∧ ∃ sf tf, GI (dis ((xs.drop a).take (b - a)) 65536) ((xs.drop a).take (b - a)) sf tf ∧ va_P D vwCl [(u0, .inr (3, [.int th, .int (nI sg), .ref u1, .int (nI xs.length), .int (nI (xs.length + ws.length)), .ref u2, .ref u3])), (u1, .inl (cI, 1000, .inl (rf))), (u2, .inl (cI, 1000, .inl (sf))), (u3, .inl (cI, 1000, .inl (tf)))] H1) 0 0 (AM u0 u1 u2 u3) := by
  refine cm_of (by decide) (Nat.le_of_ble_eq_true rfl) ?_
  intro p e s m below meth c ls hx hb hr hml hown hts hlocks hnm hE hpre hl
  have hown : s.vm.findClass "LevelRowsModel" = some m.cls := hown
  have hK := hE.1
  have hl : lv_has ls 7 [(0, .ref u0), (1, .int (nI a)), (2, .int (nI b))] := hl
  have hP : va_P D vwCl [(u0, .inr (3, [.int th, .int (nI sg), .ref u1, .int (nI xs.length), .int (nI (xs.length + ws.length)), .ref u2, .ref u3])), (u1, .inl (cI, 1000, .inl (rf))), (u2, .inl (cI, 1000, .inl (sf))), (u3, .inl (cI, 1000, .inl (tf)))] s.heap := hpre
  have hD : va_D (AM u0 u1 u2 u3) [(u0, .inr (3, [.int th, .int (nI sg), .ref u1, .int (nI xs.length), .int (nI (xs.length + ws.length)), .ref u2, .ref u3])), (u1, .inl (cI, 1000, .inl (rf))), (u2, .inl (cI, 1000, .inl (sf))), (u3, .inl (cI, 1000, .inl (tf)))] := hu.D _ _ _ _
  have hS : va_S (AM u0 u1 u2 u3) s.heap s.heap [] := va_S.rf
  have hx9 := ok0.len
  have hsg6 := ok0.2.1
  refine lv_iconst (v := 0) hx hb d_M_gather_0 (by decide) ?_
  refine lv_istore_n (lv' := [(3, .int 0), (0, .ref u0), (1, .int (nI a)), (2, .int (nI b))]) hx hb d_M_gather_1 rfl hl (by decide) rfl (fun ls hl => ?_)
  refine lv_iload_n hx hb d_M_gather_2 rfl (lv_at hl 2 rfl) ?_
  refine lv_istore (lv' := [(4, .int (nI a)), (3, .int 0), (0, .ref u0), (1, .int (nI a)), (2, .int (nI b))]) hx hb d_M_gather_3 hl (by decide) rfl (fun ls hl => ?_)
  have loop : ∀ (n : Nat) (i : Nat) (sf : Nat → Int32) (tf : Nat → Int32) (H : Heap) (locs : List Loc) (ls : Array Slot), (i + n = b) → (a ≤ i) → (GI (dis ((xs.drop a).take (i - a)) 65536) ((xs.drop a).take (i - a)) sf tf) → va_S (AM u0 u1 u2 u3) s.heap H locs → va_P D vwCl [(u0, .inr (3, [.int th, .int (nI sg), .ref u1, .int (nI xs.length), .int (nI (xs.length + ws.length)), .ref u2, .ref u3])), (u1, .inl (cI, 1000, .inl (rf))), (u2, .inl (cI, 1000, .inl (sf))), (u3, .inl (cI, 1000, .inl (tf)))] H → va_D (AM u0 u1 u2 u3) [(u0, .inr (3, [.int th, .int (nI sg), .ref u1, .int (nI xs.length), .int (nI (xs.length + ws.length)), .ref u2, .ref u3])), (u1, .inl (cI, 1000, .inl (rf))), (u2, .inl (cI, 1000, .inl (sf))), (u3, .inl (cI, 1000, .inl (tf)))] → lv_has ls 7 [(4, .int (nI i)), (3, .int (nI (dis ((xs.drop a).take (i - a)) 65536).length)), (0, .ref u0), (1, .int (nI a)), (2, .int (nI b))] → W p l e (rmK 0 0 0) s m [.ref u0, .int (nI a), .int (nI b)].toArray below meth c H locs (0) (0) (MQ below (stQ (fun v H0 H1 => v = some (.int (nI (dis ((xs.drop a).take (b - a)) 65536).length)) ∧ fr (AM u0 u1 u2 u3) H0 H1 ∧ ∃ sf tf, GI (dis ((xs.drop a).take (b - a)) 65536) ((xs.drop a).take (b - a)) sf tf ∧ va_P D vwCl [(u0, .inr (3, [.int th, .int (nI sg), .ref u1, .int (nI xs.length), .int (nI (xs.length + ws.length)), .ref u2, .ref u3])), (u1, .inl (cI, 1000, .inl (rf))), (u2, .inl (cI, 1000, .inl (sf))), (u3, .inl (cI, 1000, .inl (tf)))] H1)) [.ref u0, .int (nI a), .int (nI b)].toArray s 0 0 (AM u0 u1 u2 u3)) (F0 m 5 ls []) := by
    intro n
    induction n with
    | zero =>
      intro i sf tf H locs ls hin hai hgi hS hP hD hl
      have hib : i = b := by omega
      refine lv_iload hx hb d_M_gather_5 (lv_at hl 0 rfl) ?_
      refine lv_iload_n hx hb d_M_gather_7 rfl (lv_at hl 4 rfl) ?_
      refine lv_icmp_ge (tgt := 159) hx hb d_M_gather_8 (by decide) (fun _ => ?_) (fun c9 => absurd (nI_le (by omega) (by omega)) c9)
      refine lv_iload_n hx hb d_M_gather_159 rfl (lv_at hl 1 rfl) ?_
      subst hib
      exact W.iret (v := nI (dis ((xs.drop a).take (i - a)) 65536).length) hx hb hr (fun t ht hW => ⟨_, rfl, by rw [ht]; exact ⟨rfl, fr.of hS, _, _, hgi, hP⟩⟩) hS.2.2 d_M_gather_160
    | succ n ih =>
      intro i sf tf H locs ls hin hai hgi hS hP hD hl
      have hq : xs[i]? = some xs[i] := List.getElem?_eq_getElem (by omega)
      obtain ⟨x, hxi⟩ : ∃ x, xs[i]? = some x := ⟨_, hq⟩
      have hx6 : x < 65536 := Nat.lt_of_lt_of_le (ok0.2.2.2.2.2.2.1 _ (List.mem_of_getElem? hxi)) hsg6
      have hnx := bk_next hai hxi
      obtain ⟨B, hBe⟩ : ∃ B, B = (xs.drop a).take (i - a) := ⟨_, rfl⟩
      rw [← hBe] at hnx hgi hl
      have hBl : B.length = i - a := by rw [hBe, List.length_take, List.length_drop]; omega
      obtain ⟨lo, hi, hlo, hhi, hS1, hS2⟩ := dis_split B x 65536 hx6
      have hdl := dis_len B 65536
      have hcl := cLt_le B 65536
      obtain ⟨S, hSe⟩ : ∃ S, S = dis B 65536 := ⟨_, rfl⟩
      rw [← hSe] at hgi hl hS1 hdl
      have hSl := congrArg List.length hS1
      simp only [List.length_append] at hSl
      have hrx : rf i = nI x := row_at hrf hxi
      refine lv_iload hx hb d_M_gather_5 (lv_at hl 0 rfl) ?_
      refine lv_iload_n hx hb d_M_gather_7 rfl (lv_at hl 4 rfl) ?_
      refine lv_icmp_ge (tgt := 159) hx hb d_M_gather_8 (by decide) (fun c9 => absurd c9 (nI_ge (by omega) (by omega))) (fun _ => ?_)
      refine lv_iconst (v := 0) hx hb d_M_gather_11 (by decide) ?_
      refine lv_istore (lv' := [(5, .int 0), (4, .int (nI i)), (3, .int (nI S.length)), (0, .ref u0), (1, .int (nI a)), (2, .int (nI b))]) hx hb d_M_gather_12 hl (by decide) rfl (fun ls hl => ?_)
      have rest : ∀ (H : Heap) (locs : List Loc) (ls : Array Slot), va_S (AM u0 u1 u2 u3) s.heap H locs → va_P D vwCl [(u0, .inr (3, [.int th, .int (nI sg), .ref u1, .int (nI xs.length), .int (nI (xs.length + ws.length)), .ref u2, .ref u3])), (u1, .inl (cI, 1000, .inl (rf))), (u2, .inl (cI, 1000, .inl (sf))), (u3, .inl (cI, 1000, .inl (tf)))] H → va_D (AM u0 u1 u2 u3) [(u0, .inr (3, [.int th, .int (nI sg), .ref u1, .int (nI xs.length), .int (nI (xs.length + ws.length)), .ref u2, .ref u3])), (u1, .inl (cI, 1000, .inl (rf))), (u2, .inl (cI, 1000, .inl (sf))), (u3, .inl (cI, 1000, .inl (tf)))] → lv_has ls 7 [(5, .int (nI lo.length)), (4, .int (nI i)), (3, .int (nI S.length)), (0, .ref u0), (1, .int (nI a)), (2, .int (nI b))] → W p l e (rmK 0 0 0) s m [.ref u0, .int (nI a), .int (nI b)].toArray below meth c H locs (0) (0) (MQ below (stQ (fun v H0 H1 => v = some (.int (nI (dis ((xs.drop a).take (b - a)) 65536).length)) ∧ fr (AM u0 u1 u2 u3) H0 H1 ∧ ∃ sf tf, GI (dis ((xs.drop a).take (b - a)) 65536) ((xs.drop a).take (b - a)) sf tf ∧ va_P D vwCl [(u0, .inr (3, [.int th, .int (nI sg), .ref u1, .int (nI xs.length), .int (nI (xs.length + ws.length)), .ref u2, .ref u3])), (u1, .inl (cI, 1000, .inl (rf))), (u2, .inl (cI, 1000, .inl (sf))), (u3, .inl (cI, 1000, .inl (tf)))] H1)) [.ref u0, .int (nI a), .int (nI b)].toArray s 0 0 (AM u0 u1 u2 u3)) (F0 m 43 ls []) := by
        intro  H locs ls  hS hP hD hl
        refine lv_iload hx hb d_M_gather_43 (lv_at hl 0 rfl) ?_
        refine lv_iload_n hx hb d_M_gather_45 rfl (lv_at hl 2 rfl) ?_
        rcases Nat.eq_zero_or_pos (cEq B x) with h0 | h0
        · rw [if_neg (by omega), List.append_nil] at hS1
          rw [if_neg (by omega)] at hSl
          simp only [List.length_nil] at hSl
          have sft : ∀ (H : Heap) (locs : List Loc) (ls : Array Slot), va_S (AM u0 u1 u2 u3) s.heap H locs → va_P D vwCl [(u0, .inr (3, [.int th, .int (nI sg), .ref u1, .int (nI xs.length), .int (nI (xs.length + ws.length)), .ref u2, .ref u3])), (u1, .inl (cI, 1000, .inl (rf))), (u2, .inl (cI, 1000, .inl (sf))), (u3, .inl (cI, 1000, .inl (tf)))] H → va_D (AM u0 u1 u2 u3) [(u0, .inr (3, [.int th, .int (nI sg), .ref u1, .int (nI xs.length), .int (nI (xs.length + ws.length)), .ref u2, .ref u3])), (u1, .inl (cI, 1000, .inl (rf))), (u2, .inl (cI, 1000, .inl (sf))), (u3, .inl (cI, 1000, .inl (tf)))] → lv_has ls 7 [(5, .int (nI lo.length)), (4, .int (nI i)), (3, .int (nI S.length)), (0, .ref u0), (1, .int (nI a)), (2, .int (nI b))] → W p l e (rmK 0 0 0) s m [.ref u0, .int (nI a), .int (nI b)].toArray below meth c H locs (0) (0) (MQ below (stQ (fun v H0 H1 => v = some (.int (nI (dis ((xs.drop a).take (b - a)) 65536).length)) ∧ fr (AM u0 u1 u2 u3) H0 H1 ∧ ∃ sf tf, GI (dis ((xs.drop a).take (b - a)) 65536) ((xs.drop a).take (b - a)) sf tf ∧ va_P D vwCl [(u0, .inr (3, [.int th, .int (nI sg), .ref u1, .int (nI xs.length), .int (nI (xs.length + ws.length)), .ref u2, .ref u3])), (u1, .inl (cI, 1000, .inl (rf))), (u2, .inl (cI, 1000, .inl (sf))), (u3, .inl (cI, 1000, .inl (tf)))] H1)) [.ref u0, .int (nI a), .int (nI b)].toArray s 0 0 (AM u0 u1 u2 u3)) (F0 m 80 ls []) := by
            intro  H locs ls  hS hP hD hl
            refine lv_iload_n hx hb d_M_gather_80 rfl (lv_at hl 2 rfl) ?_
            refine lv_istore (lv' := [(6, .int (nI S.length)), (5, .int (nI lo.length)), (4, .int (nI i)), (3, .int (nI S.length)), (0, .ref u0), (1, .int (nI a)), (2, .int (nI b))]) hx hb d_M_gather_81 hl (by decide) rfl (fun ls hl => ?_)
            have loop3 : ∀ (n : Nat) (jj : Nat) (sg2 : Nat → Int32) (tg2 : Nat → Int32) (H : Heap) (locs : List Loc) (ls : Array Slot), (jj = lo.length + n) → (jj ≤ S.length) → (ShI lo.length S.length jj sf sg2) → (ShI lo.length S.length jj tf tg2) → va_S (AM u0 u1 u2 u3) s.heap H locs → va_P D vwCl [(u0, .inr (3, [.int th, .int (nI sg), .ref u1, .int (nI xs.length), .int (nI (xs.length + ws.length)), .ref u2, .ref u3])), (u1, .inl (cI, 1000, .inl (rf))), (u2, .inl (cI, 1000, .inl (sg2))), (u3, .inl (cI, 1000, .inl (tg2)))] H → va_D (AM u0 u1 u2 u3) [(u0, .inr (3, [.int th, .int (nI sg), .ref u1, .int (nI xs.length), .int (nI (xs.length + ws.length)), .ref u2, .ref u3])), (u1, .inl (cI, 1000, .inl (rf))), (u2, .inl (cI, 1000, .inl (sg2))), (u3, .inl (cI, 1000, .inl (tg2)))] → lv_has ls 7 [(6, .int (nI jj)), (5, .int (nI lo.length)), (4, .int (nI i)), (3, .int (nI S.length)), (0, .ref u0), (1, .int (nI a)), (2, .int (nI b))] → W p l e (rmK 0 0 0) s m [.ref u0, .int (nI a), .int (nI b)].toArray below meth c H locs (0) (0) (MQ below (stQ (fun v H0 H1 => v = some (.int (nI (dis ((xs.drop a).take (b - a)) 65536).length)) ∧ fr (AM u0 u1 u2 u3) H0 H1 ∧ ∃ sf tf, GI (dis ((xs.drop a).take (b - a)) 65536) ((xs.drop a).take (b - a)) sf tf ∧ va_P D vwCl [(u0, .inr (3, [.int th, .int (nI sg), .ref u1, .int (nI xs.length), .int (nI (xs.length + ws.length)), .ref u2, .ref u3])), (u1, .inl (cI, 1000, .inl (rf))), (u2, .inl (cI, 1000, .inl (sf))), (u3, .inl (cI, 1000, .inl (tf)))] H1)) [.ref u0, .int (nI a), .int (nI b)].toArray s 0 0 (AM u0 u1 u2 u3)) (F0 m 83 ls []) := by
              intro n
              induction n with
              | zero =>
                intro jj sg2 tg2 H locs ls hjn hjS hsh1 hsh2 hS hP hD hl
                have hj0 : jj = lo.length := by omega
                refine lv_iload hx hb d_M_gather_83 (lv_at hl 0 rfl) ?_
                refine lv_iload hx hb d_M_gather_85 (lv_at hl 1 rfl) ?_
                refine lv_icmp_le (tgt := 128) hx hb d_M_gather_87 (by decide) (fun _ => ?_) (fun c9 => absurd (nI_le (by omega) (by omega)) c9)
                refine lv_aload_n hx hb d_M_gather_128 rfl (lv_at hl 4 rfl) ?_
                refine va_get (D := D) (ci := 3) (v := .ref u2) (C := n_M) (T := f_M) (N := 7) hx hb hts in_M hown hK hP 0 rfl rfl 5 (by decide) (hts _ x_442) (fun _ h9 => h9) rfl d_M_gather_129 ?_
                refine lv_iload hx hb d_M_gather_132 (lv_at hl 1 rfl) ?_
                refine lv_aload_n hx hb d_M_gather_134 rfl (lv_at hl 4 rfl) ?_
                refine va_get (D := D) (ci := 3) (v := .ref u1) (C := n_M) (T := f_M) (N := 7) hx hb hts in_M hown hK hP 0 rfl rfl 2 (by decide) (hts _ x_439) (fun _ h9 => h9) rfl d_M_gather_135 ?_
                refine lv_iload hx hb d_M_gather_138 (lv_at hl 2 rfl) ?_
                refine va_iald hx hb hK hP 1 0 rfl rfl (vp_in_nI (by omega) (by decide)) d_M_gather_140 ?_
                refine ct_topi (x' := nI x) (by rw [nI_clamp (by omega)]; exact hrx) ?_
                refine va_iast hx hb hK hP hD hS 2 0 rfl rfl (vp_in_nI (by omega) (by decide)) d_M_gather_141 (fun H locs hP hD hS => ?_)
                rw [nI_clamp (by omega)] at hP hD
                have hP : va_P D vwCl [(u0, .inr (3, [.int th, .int (nI sg), .ref u1, .int (nI xs.length), .int (nI (xs.length + ws.length)), .ref u2, .ref u3])), (u1, .inl (cI, 1000, .inl (rf))), (u2, .inl (cI, 1000, .inl (upd sg2 lo.length (nI x)))), (u3, .inl (cI, 1000, .inl (tg2)))] H := hP
                have hD : va_D (AM u0 u1 u2 u3) [(u0, .inr (3, [.int th, .int (nI sg), .ref u1, .int (nI xs.length), .int (nI (xs.length + ws.length)), .ref u2, .ref u3])), (u1, .inl (cI, 1000, .inl (rf))), (u2, .inl (cI, 1000, .inl (upd sg2 lo.length (nI x)))), (u3, .inl (cI, 1000, .inl (tg2)))] := hD
                refine lv_aload_n hx hb d_M_gather_142 rfl (lv_at hl 4 rfl) ?_
                refine va_get (D := D) (ci := 3) (v := .ref u3) (C := n_M) (T := f_M) (N := 7) hx hb hts in_M hown hK hP 0 rfl rfl 6 (by decide) (hts _ x_443) (fun _ h9 => h9) rfl d_M_gather_143 ?_
                refine lv_iload hx hb d_M_gather_146 (lv_at hl 1 rfl) ?_
                refine lv_iconst (v := 1) hx hb d_M_gather_148 (by decide) ?_
                refine va_iast hx hb hK hP hD hS 3 0 rfl rfl (vp_in_nI (by omega) (by decide)) d_M_gather_149 (fun H locs hP hD hS => ?_)
                rw [nI_clamp (by omega)] at hP hD
                have hP : va_P D vwCl [(u0, .inr (3, [.int th, .int (nI sg), .ref u1, .int (nI xs.length), .int (nI (xs.length + ws.length)), .ref u2, .ref u3])), (u1, .inl (cI, 1000, .inl (rf))), (u2, .inl (cI, 1000, .inl (upd sg2 lo.length (nI x)))), (u3, .inl (cI, 1000, .inl (upd tg2 lo.length 1)))] H := hP
                have hD : va_D (AM u0 u1 u2 u3) [(u0, .inr (3, [.int th, .int (nI sg), .ref u1, .int (nI xs.length), .int (nI (xs.length + ws.length)), .ref u2, .ref u3])), (u1, .inl (cI, 1000, .inl (rf))), (u2, .inl (cI, 1000, .inl (upd sg2 lo.length (nI x)))), (u3, .inl (cI, 1000, .inl (upd tg2 lo.length 1)))] := hD
                refine lv_iinc (v := nI (S.length + 1)) (lv' := [(3, .int (nI (S.length + 1))), (6, .int (nI jj)), (5, .int (nI lo.length)), (4, .int (nI i)), (0, .ref u0), (1, .int (nI a)), (2, .int (nI b))]) hx hb d_M_gather_150 hl (k := 3) rfl ((nI_succ _).symm) (by decide) rfl (fun ls hl => ?_)
                rw [hj0] at hsh1 hsh2
                refine lv_iinc (v := nI (i + 1)) (lv' := [(4, .int (nI (i + 1))), (3, .int (nI (S.length + 1))), (6, .int (nI jj)), (5, .int (nI lo.length)), (0, .ref u0), (1, .int (nI a)), (2, .int (nI b))]) hx hb d_M_gather_153 hl (k := 3) rfl ((nI_succ i).symm) (by decide) rfl (fun ls hl => ?_)
                refine lv_goto (tgt := 5) hx hb d_M_gather_156 (by decide) ?_
                exact ih (i + 1) _ _ H _ ls (by omega) (by omega) (by rw [hnx, hS2]; exact gi_no h0 hlo hhi (hS1 ▸ hgi) (by rw [show lo.length + hi.length = S.length by omega]; exact hsh1) (by rw [show lo.length + hi.length = S.length by omega]; exact hsh2)) hS hP hD (by rw [hnx, hS2, show (lo ++ [x] ++ hi).length = S.length + 1 by simp only [List.length_append, List.length_cons, List.length_nil]; omega]; exact (lv_sub hl [0, 1, 4, 5, 6] rfl))
              | succ n ih2 =>
                intro jj sg2 tg2 H locs ls hjn hjS hsh1 hsh2 hS hP hD hl
                obtain ⟨j1, hj1⟩ : ∃ j1, jj = j1 + 1 := ⟨jj - 1, by omega⟩
                subst hj1
                refine lv_iload hx hb d_M_gather_83 (lv_at hl 0 rfl) ?_
                refine lv_iload hx hb d_M_gather_85 (lv_at hl 1 rfl) ?_
                refine lv_icmp_le (tgt := 128) hx hb d_M_gather_87 (by decide) (fun c9 => absurd c9 (nI_ge (by omega) (by omega))) (fun _ => ?_)
                refine lv_aload_n hx hb d_M_gather_90 rfl (lv_at hl 4 rfl) ?_
                refine va_get (D := D) (ci := 3) (v := .ref u2) (C := n_M) (T := f_M) (N := 7) hx hb hts in_M hown hK hP 0 rfl rfl 5 (by decide) (hts _ x_442) (fun _ h9 => h9) rfl d_M_gather_91 ?_
                refine lv_iload hx hb d_M_gather_94 (lv_at hl 0 rfl) ?_
                refine lv_aload_n hx hb d_M_gather_96 rfl (lv_at hl 4 rfl) ?_
                refine va_get (D := D) (ci := 3) (v := .ref u2) (C := n_M) (T := f_M) (N := 7) hx hb hts in_M hown hK hP 0 rfl rfl 5 (by decide) (hts _ x_442) (fun _ h9 => h9) rfl d_M_gather_97 ?_
                refine lv_iload hx hb d_M_gather_100 (lv_at hl 0 rfl) ?_
                refine lv_iconst (v := 1) hx hb d_M_gather_102 (by decide) ?_
                refine lv_isub hx hb d_M_gather_103 ?_
                refine ct_topi (x' := nI j1) (nI_pred j1) ?_
                refine va_iald hx hb hK hP 2 0 rfl rfl (vp_in_nI (by omega) (by decide)) d_M_gather_104 ?_
                refine ct_topi (x' := sg2 j1) (by rw [nI_clamp (by omega)]) ?_
                refine va_iast hx hb hK hP hD hS 2 0 rfl rfl (vp_in_nI (by omega) (by decide)) d_M_gather_105 (fun H locs hP hD hS => ?_)
                rw [nI_clamp (by omega)] at hP hD
                have hP : va_P D vwCl [(u0, .inr (3, [.int th, .int (nI sg), .ref u1, .int (nI xs.length), .int (nI (xs.length + ws.length)), .ref u2, .ref u3])), (u1, .inl (cI, 1000, .inl (rf))), (u2, .inl (cI, 1000, .inl (upd sg2 (j1 + 1) (sg2 j1)))), (u3, .inl (cI, 1000, .inl (tg2)))] H := hP
                have hD : va_D (AM u0 u1 u2 u3) [(u0, .inr (3, [.int th, .int (nI sg), .ref u1, .int (nI xs.length), .int (nI (xs.length + ws.length)), .ref u2, .ref u3])), (u1, .inl (cI, 1000, .inl (rf))), (u2, .inl (cI, 1000, .inl (upd sg2 (j1 + 1) (sg2 j1)))), (u3, .inl (cI, 1000, .inl (tg2)))] := hD
                refine lv_aload_n hx hb d_M_gather_106 rfl (lv_at hl 4 rfl) ?_
                refine va_get (D := D) (ci := 3) (v := .ref u3) (C := n_M) (T := f_M) (N := 7) hx hb hts in_M hown hK hP 0 rfl rfl 6 (by decide) (hts _ x_443) (fun _ h9 => h9) rfl d_M_gather_107 ?_
                refine lv_iload hx hb d_M_gather_110 (lv_at hl 0 rfl) ?_
                refine lv_aload_n hx hb d_M_gather_112 rfl (lv_at hl 4 rfl) ?_
                refine va_get (D := D) (ci := 3) (v := .ref u3) (C := n_M) (T := f_M) (N := 7) hx hb hts in_M hown hK hP 0 rfl rfl 6 (by decide) (hts _ x_443) (fun _ h9 => h9) rfl d_M_gather_113 ?_
                refine lv_iload hx hb d_M_gather_116 (lv_at hl 0 rfl) ?_
                refine lv_iconst (v := 1) hx hb d_M_gather_118 (by decide) ?_
                refine lv_isub hx hb d_M_gather_119 ?_
                refine ct_topi (x' := nI j1) (nI_pred j1) ?_
                refine va_iald hx hb hK hP 3 0 rfl rfl (vp_in_nI (by omega) (by decide)) d_M_gather_120 ?_
                refine ct_topi (x' := tg2 j1) (by rw [nI_clamp (by omega)]) ?_
                refine va_iast hx hb hK hP hD hS 3 0 rfl rfl (vp_in_nI (by omega) (by decide)) d_M_gather_121 (fun H locs hP hD hS => ?_)
                rw [nI_clamp (by omega)] at hP hD
                have hP : va_P D vwCl [(u0, .inr (3, [.int th, .int (nI sg), .ref u1, .int (nI xs.length), .int (nI (xs.length + ws.length)), .ref u2, .ref u3])), (u1, .inl (cI, 1000, .inl (rf))), (u2, .inl (cI, 1000, .inl (upd sg2 (j1 + 1) (sg2 j1)))), (u3, .inl (cI, 1000, .inl (upd tg2 (j1 + 1) (tg2 j1))))] H := hP
                have hD : va_D (AM u0 u1 u2 u3) [(u0, .inr (3, [.int th, .int (nI sg), .ref u1, .int (nI xs.length), .int (nI (xs.length + ws.length)), .ref u2, .ref u3])), (u1, .inl (cI, 1000, .inl (rf))), (u2, .inl (cI, 1000, .inl (upd sg2 (j1 + 1) (sg2 j1)))), (u3, .inl (cI, 1000, .inl (upd tg2 (j1 + 1) (tg2 j1))))] := hD
                refine lv_iinc (v := nI j1) (lv' := [(6, .int (nI j1)), (5, .int (nI lo.length)), (4, .int (nI i)), (3, .int (nI S.length)), (0, .ref u0), (1, .int (nI a)), (2, .int (nI b))]) hx hb d_M_gather_122 hl (k := 0) rfl (pk_m1 j1) (by decide) rfl (fun ls hl => ?_)
                refine lv_goto (tgt := 83) hx hb d_M_gather_125 (by decide) ?_
                exact ih2 j1 _ _ H _ ls (by omega) (by omega) hsh1.step hsh2.step hS hP hD (lv_sub hl [0, 1, 2, 3, 4, 5, 6] rfl)
            exact loop3 (S.length - lo.length) S.length sf tf H _ ls (by omega) (Nat.le_refl _) ShI.start ShI.start hS hP hD (lv_sub hl [0, 1, 2, 3, 4, 5, 6] rfl)
          rcases Nat.eq_zero_or_pos hi.length with hh | hh
          · refine lv_icmp_ge (tgt := 80) hx hb d_M_gather_46 (by decide) (fun _ => ?_) (fun c9 => absurd (nI_le (by omega) (by omega)) c9)
            exact sft H _ ls hS hP hD (lv_sub hl [0, 1, 2, 3, 4, 5] rfl)
          · obtain ⟨v, hv⟩ : ∃ v, hi[0]? = some v := ⟨hi[0], List.getElem?_eq_getElem hh⟩
            have hmv : S[lo.length]? = some v := by rw [hS1, List.getElem?_append_right (Nat.le_refl _), Nat.sub_self]; exact hv
            have hvx := hhi v (List.mem_of_getElem? hv)
            have hv6 : v < 65536 := List.mem_range.mp (List.mem_filter.mp (hSe ▸ List.mem_of_getElem? hmv)).1
            refine lv_icmp_ge (tgt := 80) hx hb d_M_gather_46 (by decide) (fun c9 => absurd c9 (nI_ge (by omega) (by omega))) (fun _ => ?_)
            refine lv_aload_n hx hb d_M_gather_49 rfl (lv_at hl 3 rfl) ?_
            refine va_get (D := D) (ci := 3) (v := .ref u2) (C := n_M) (T := f_M) (N := 7) hx hb hts in_M hown hK hP 0 rfl rfl 5 (by decide) (hts _ x_442) (fun _ h9 => h9) rfl d_M_gather_50 ?_
            refine lv_iload hx hb d_M_gather_53 (lv_at hl 0 rfl) ?_
            refine va_iald hx hb hK hP 2 0 rfl rfl (vp_in_nI (by omega) (by decide)) d_M_gather_55 ?_
            refine ct_topi (x' := nI v) (by rw [nI_clamp (by omega)]; exact (hgi _ _ hmv).1) ?_
            refine lv_aload_n hx hb d_M_gather_56 rfl (lv_at hl 3 rfl) ?_
            refine va_get (D := D) (ci := 3) (v := .ref u1) (C := n_M) (T := f_M) (N := 7) hx hb hts in_M hown hK hP 0 rfl rfl 2 (by decide) (hts _ x_439) (fun _ h9 => h9) rfl d_M_gather_57 ?_
            refine lv_iload hx hb d_M_gather_60 (lv_at hl 1 rfl) ?_
            refine va_iald hx hb hK hP 1 0 rfl rfl (vp_in_nI (by omega) (by decide)) d_M_gather_62 ?_
            refine ct_topi (x' := nI x) (by rw [nI_clamp (by omega)]; exact hrx) ?_
            refine lv_icmp_ne (tgt := 80) hx hb d_M_gather_63 (by decide) (fun _ => ?_) (fun c9 => absurd c9 (fun h9 => by have := (nI_eq (by omega) (by omega)).mp h9; omega))
            exact sft H _ ls hS hP hD (lv_sub hl [0, 1, 2, 3, 4, 5] rfl)
        · rw [if_pos h0] at hS1 hSl
          simp only [List.length_cons, List.length_nil] at hSl
          have hmx : S[lo.length]? = some x := by rw [hS1, List.append_assoc, List.getElem?_append_right (Nat.le_refl _), Nat.sub_self]; rfl
          refine lv_icmp_ge (tgt := 80) hx hb d_M_gather_46 (by decide) (fun c9 => absurd c9 (nI_ge (by omega) (by omega))) (fun _ => ?_)
          refine lv_aload_n hx hb d_M_gather_49 rfl (lv_at hl 3 rfl) ?_
          refine va_get (D := D) (ci := 3) (v := .ref u2) (C := n_M) (T := f_M) (N := 7) hx hb hts in_M hown hK hP 0 rfl rfl 5 (by decide) (hts _ x_442) (fun _ h9 => h9) rfl d_M_gather_50 ?_
          refine lv_iload hx hb d_M_gather_53 (lv_at hl 0 rfl) ?_
          refine va_iald hx hb hK hP 2 0 rfl rfl (vp_in_nI (by omega) (by decide)) d_M_gather_55 ?_
          refine ct_topi (x' := nI x) (by rw [nI_clamp (by omega)]; exact (hgi _ _ hmx).1) ?_
          refine lv_aload_n hx hb d_M_gather_56 rfl (lv_at hl 3 rfl) ?_
          refine va_get (D := D) (ci := 3) (v := .ref u1) (C := n_M) (T := f_M) (N := 7) hx hb hts in_M hown hK hP 0 rfl rfl 2 (by decide) (hts _ x_439) (fun _ h9 => h9) rfl d_M_gather_57 ?_
          refine lv_iload hx hb d_M_gather_60 (lv_at hl 1 rfl) ?_
          refine va_iald hx hb hK hP 1 0 rfl rfl (vp_in_nI (by omega) (by decide)) d_M_gather_62 ?_
          refine ct_topi (x' := nI x) (by rw [nI_clamp (by omega)]; exact hrx) ?_
          refine lv_icmp_ne (tgt := 80) hx hb d_M_gather_63 (by decide) (fun c9 => absurd (rfl) c9) (fun _ => ?_)
          refine lv_aload_n hx hb d_M_gather_66 rfl (lv_at hl 3 rfl) ?_
          refine va_get (D := D) (ci := 3) (v := .ref u3) (C := n_M) (T := f_M) (N := 7) hx hb hts in_M hown hK hP 0 rfl rfl 6 (by decide) (hts _ x_443) (fun _ h9 => h9) rfl d_M_gather_67 ?_
          refine lv_iload hx hb d_M_gather_70 (lv_at hl 0 rfl) ?_
          refine lv_dup2_11 hx hb d_M_gather_72 rfl rfl ?_
          refine va_iald hx hb hK hP 3 0 rfl rfl (vp_in_nI (by omega) (by decide)) d_M_gather_73 ?_
          refine ct_topi (x' := nI (cEq B x)) (by rw [nI_clamp (by omega)]; exact (hgi _ _ hmx).2) ?_
          refine lv_iconst (v := 1) hx hb d_M_gather_74 (by decide) ?_
          refine lv_iadd hx hb d_M_gather_75 ?_
          refine ct_topi (x' := nI (cEq B x + 1)) ((nI_succ _).symm) ?_
          refine va_iast hx hb hK hP hD hS 3 0 rfl rfl (vp_in_nI (by omega) (by decide)) d_M_gather_76 (fun H locs hP hD hS => ?_)
          rw [nI_clamp (by omega)] at hP hD
          have hP : va_P D vwCl [(u0, .inr (3, [.int th, .int (nI sg), .ref u1, .int (nI xs.length), .int (nI (xs.length + ws.length)), .ref u2, .ref u3])), (u1, .inl (cI, 1000, .inl (rf))), (u2, .inl (cI, 1000, .inl (sf))), (u3, .inl (cI, 1000, .inl (upd tf lo.length (nI (cEq B x + 1)))))] H := hP
          have hD : va_D (AM u0 u1 u2 u3) [(u0, .inr (3, [.int th, .int (nI sg), .ref u1, .int (nI xs.length), .int (nI (xs.length + ws.length)), .ref u2, .ref u3])), (u1, .inl (cI, 1000, .inl (rf))), (u2, .inl (cI, 1000, .inl (sf))), (u3, .inl (cI, 1000, .inl (upd tf lo.length (nI (cEq B x + 1)))))] := hD
          refine lv_goto (tgt := 153) hx hb d_M_gather_77 (by decide) ?_
          refine lv_iinc (v := nI (i + 1)) (lv' := [(4, .int (nI (i + 1))), (5, .int (nI lo.length)), (3, .int (nI S.length)), (0, .ref u0), (1, .int (nI a)), (2, .int (nI b))]) hx hb d_M_gather_153 hl (k := 1) rfl ((nI_succ i).symm) (by decide) rfl (fun ls hl => ?_)
          refine lv_goto (tgt := 5) hx hb d_M_gather_156 (by decide) ?_
          exact ih (i + 1) _ _ H _ ls (by omega) (by omega) (by rw [hnx, hS2]; exact gi_yes hlo hhi (hS1 ▸ hgi)) hS hP hD (by rw [hnx, hS2]; rw [← hS1]; exact (lv_sub hl [0, 2, 3, 4, 5] rfl))
      have loop2 : ∀ (n : Nat) (k : Nat) (H : Heap) (locs : List Loc) (ls : Array Slot), (k + n = lo.length) → va_S (AM u0 u1 u2 u3) s.heap H locs → va_P D vwCl [(u0, .inr (3, [.int th, .int (nI sg), .ref u1, .int (nI xs.length), .int (nI (xs.length + ws.length)), .ref u2, .ref u3])), (u1, .inl (cI, 1000, .inl (rf))), (u2, .inl (cI, 1000, .inl (sf))), (u3, .inl (cI, 1000, .inl (tf)))] H → va_D (AM u0 u1 u2 u3) [(u0, .inr (3, [.int th, .int (nI sg), .ref u1, .int (nI xs.length), .int (nI (xs.length + ws.length)), .ref u2, .ref u3])), (u1, .inl (cI, 1000, .inl (rf))), (u2, .inl (cI, 1000, .inl (sf))), (u3, .inl (cI, 1000, .inl (tf)))] → lv_has ls 7 [(5, .int (nI k)), (4, .int (nI i)), (3, .int (nI S.length)), (0, .ref u0), (1, .int (nI a)), (2, .int (nI b))] → W p l e (rmK 0 0 0) s m [.ref u0, .int (nI a), .int (nI b)].toArray below meth c H locs (0) (0) (MQ below (stQ (fun v H0 H1 => v = some (.int (nI (dis ((xs.drop a).take (b - a)) 65536).length)) ∧ fr (AM u0 u1 u2 u3) H0 H1 ∧ ∃ sf tf, GI (dis ((xs.drop a).take (b - a)) 65536) ((xs.drop a).take (b - a)) sf tf ∧ va_P D vwCl [(u0, .inr (3, [.int th, .int (nI sg), .ref u1, .int (nI xs.length), .int (nI (xs.length + ws.length)), .ref u2, .ref u3])), (u1, .inl (cI, 1000, .inl (rf))), (u2, .inl (cI, 1000, .inl (sf))), (u3, .inl (cI, 1000, .inl (tf)))] H1)) [.ref u0, .int (nI a), .int (nI b)].toArray s 0 0 (AM u0 u1 u2 u3)) (F0 m 14 ls []) := by
        intro n
        induction n with
        | zero =>
          intro k H locs ls hkn hS hP hD hl
          have hkl : k = lo.length := by omega
          subst hkl
          refine lv_iload hx hb d_M_gather_14 (lv_at hl 0 rfl) ?_
          refine lv_iload_n hx hb d_M_gather_16 rfl (lv_at hl 2 rfl) ?_
          rcases Nat.lt_or_ge lo.length S.length with hc | hc
          · obtain ⟨v, hv⟩ : ∃ v, S[lo.length]? = some v := ⟨S[lo.length], List.getElem?_eq_getElem hc⟩
            have hvx : x ≤ v := by
              have h2 := hv
              rw [hS1, List.append_assoc, List.getElem?_append_right (Nat.le_refl _)] at h2
              have h3 := List.mem_of_getElem? h2
              rcases List.mem_append.mp h3 with h4 | h4
              · split at h4
                · rw [List.mem_singleton.mp h4]; exact Nat.le_refl _
                · exact nomatch h4
              · exact Nat.le_of_lt (hhi v h4)
            have hv6 : v < 65536 := List.mem_range.mp (List.mem_filter.mp (hSe ▸ List.mem_of_getElem? hv)).1
            refine lv_icmp_ge (tgt := 43) hx hb d_M_gather_17 (by decide) (fun c9 => absurd c9 (nI_ge hc (by omega))) (fun _ => ?_)
            refine lv_aload_n hx hb d_M_gather_20 rfl (lv_at hl 3 rfl) ?_
            refine va_get (D := D) (ci := 3) (v := .ref u2) (C := n_M) (T := f_M) (N := 7) hx hb hts in_M hown hK hP 0 rfl rfl 5 (by decide) (hts _ x_442) (fun _ h9 => h9) rfl d_M_gather_21 ?_
            refine lv_iload hx hb d_M_gather_24 (lv_at hl 0 rfl) ?_
            refine va_iald hx hb hK hP 2 0 rfl rfl (vp_in_nI (by omega) (by decide)) d_M_gather_26 ?_
            refine ct_topi (x' := nI v) (by rw [nI_clamp (by omega)]; exact (hgi _ _ hv).1) ?_
            refine lv_aload_n hx hb d_M_gather_27 rfl (lv_at hl 3 rfl) ?_
            refine va_get (D := D) (ci := 3) (v := .ref u1) (C := n_M) (T := f_M) (N := 7) hx hb hts in_M hown hK hP 0 rfl rfl 2 (by decide) (hts _ x_439) (fun _ h9 => h9) rfl d_M_gather_28 ?_
            refine lv_iload hx hb d_M_gather_31 (lv_at hl 1 rfl) ?_
            refine va_iald hx hb hK hP 1 0 rfl rfl (vp_in_nI (by omega) (by decide)) d_M_gather_33 ?_
            refine ct_topi (x' := nI x) (by rw [nI_clamp (by omega)]; exact hrx) ?_
            refine lv_icmp_ge (tgt := 43) hx hb d_M_gather_34 (by decide) (fun _ => ?_) (fun c9 => absurd (nI_le hvx (by omega)) c9)
            exact rest H _ ls hS hP hD (lv_sub hl [0, 1, 2, 3, 4, 5] rfl)
          · refine lv_icmp_ge (tgt := 43) hx hb d_M_gather_17 (by decide) (fun _ => ?_) (fun c9 => absurd (nI_le hc (by omega)) c9)
            exact rest H _ ls hS hP hD (lv_sub hl [0, 1, 2, 3, 4, 5] rfl)
        | succ n ih2 =>
          intro k H locs ls hkn hS hP hD hl
          have hkl : k < lo.length := by omega
          obtain ⟨v, hv⟩ : ∃ v, lo[k]? = some v := ⟨lo[k], List.getElem?_eq_getElem hkl⟩
          have hvS : S[k]? = some v := by rw [hS1, List.append_assoc, List.getElem?_append_left hkl]; exact hv
          have hvx := hlo v (List.mem_of_getElem? hv)
          refine lv_iload hx hb d_M_gather_14 (lv_at hl 0 rfl) ?_
          refine lv_iload_n hx hb d_M_gather_16 rfl (lv_at hl 2 rfl) ?_
          refine lv_icmp_ge (tgt := 43) hx hb d_M_gather_17 (by decide) (fun c9 => absurd c9 (nI_ge (by omega) (by omega))) (fun _ => ?_)
          refine lv_aload_n hx hb d_M_gather_20 rfl (lv_at hl 3 rfl) ?_
          refine va_get (D := D) (ci := 3) (v := .ref u2) (C := n_M) (T := f_M) (N := 7) hx hb hts in_M hown hK hP 0 rfl rfl 5 (by decide) (hts _ x_442) (fun _ h9 => h9) rfl d_M_gather_21 ?_
          refine lv_iload hx hb d_M_gather_24 (lv_at hl 0 rfl) ?_
          refine va_iald hx hb hK hP 2 0 rfl rfl (vp_in_nI (by omega) (by decide)) d_M_gather_26 ?_
          refine ct_topi (x' := nI v) (by rw [nI_clamp (by omega)]; exact (hgi _ _ hvS).1) ?_
          refine lv_aload_n hx hb d_M_gather_27 rfl (lv_at hl 3 rfl) ?_
          refine va_get (D := D) (ci := 3) (v := .ref u1) (C := n_M) (T := f_M) (N := 7) hx hb hts in_M hown hK hP 0 rfl rfl 2 (by decide) (hts _ x_439) (fun _ h9 => h9) rfl d_M_gather_28 ?_
          refine lv_iload hx hb d_M_gather_31 (lv_at hl 1 rfl) ?_
          refine va_iald hx hb hK hP 1 0 rfl rfl (vp_in_nI (by omega) (by decide)) d_M_gather_33 ?_
          refine ct_topi (x' := nI x) (by rw [nI_clamp (by omega)]; exact hrx) ?_
          refine lv_icmp_ge (tgt := 43) hx hb d_M_gather_34 (by decide) (fun c9 => absurd c9 (nI_ge hvx (by omega))) (fun _ => ?_)
          refine lv_iinc (v := nI (k + 1)) (lv' := [(5, .int (nI (k + 1))), (4, .int (nI i)), (3, .int (nI S.length)), (0, .ref u0), (1, .int (nI a)), (2, .int (nI b))]) hx hb d_M_gather_37 hl (k := 0) rfl ((nI_succ k).symm) (by decide) rfl (fun ls hl => ?_)
          refine lv_goto (tgt := 14) hx hb d_M_gather_40 (by decide) ?_
          exact ih2 (k + 1) H _ ls (by omega) hS hP hD (lv_sub hl [0, 1, 2, 3, 4, 5] rfl)
      exact loop2 lo.length 0 H _ ls (by omega) hS hP hD (lv_sub hl [0, 1, 2, 3, 4, 5] rfl)
  have hS0 : dis ((xs.drop a).take (a - a)) 65536 = [] := by
    rw [Nat.sub_self, List.take_zero, dis]
    rw [List.filter_eq_nil_iff]
    intro v _
    rw [show cEq [] v = 0 from rfl]
    decide
  exact loop (b - a) a sf tf s.heap [] ls (by omega) (Nat.le_refl a) (fun j v h => by rw [hS0] at h; simp at h) hS hP hD (by rw [hS0]; exact (lv_sub hl [0, 1, 2, 3, 4] rfl))
set_option maxHeartbeats 4000000 in
set_option maxRecDepth 100000 in
theorem m_M_different {l : Launch} {D : va_G} {cI cJ cS cO : ClassId} {B0 : Nat} {u0 u1 u2 u3 sg d : Nat} {xs ws : List Nat} (hu : MI B0 u0 u1 u2 u3) (ok0 : Ok sg d xs ws) {th : Int32} (a b : Int32) : CM l D (tyL cI cJ cS cO) B0 y_M_different c_M_different 3 (some .int) (rmK 1 0 0) [.ref u0, .int a, .int b] (fun H => MR D cI u0 u1 u2 u3 sg xs ws th H) (fun v H0 H1 => fr (AM u0 u1 u2 u3) H0 H1 ∧ (((isPt xs.length a b) ∧ MR D cI u0 u1 u2 u3 sg xs ws 0 H1 ∧ v = some (.int (nI (dis (bk xs a b) 65536).length))) ∨ (¬ (isPt xs.length a b) ∧ MR D cI u0 u1 u2 u3 sg xs ws 1 H1 ∧ ∃ w, v = some (.int w)))) 0 0 (AM u0 u1 u2 u3) := by
  refine cm_of (by decide) (Nat.le_of_ble_eq_true rfl) ?_
  intro p e s m below meth c ls hx hb hr hml hown hts hlocks hnm hE hpre hl
  have hown : s.vm.findClass "LevelRowsModel" = some m.cls := hown
  have hK := hE.1
  have hl : lv_has ls 3 [(0, .ref u0), (1, .int a), (2, .int b)] := hl
  obtain ⟨rf, sf, tf, hrf, hP⟩ := hpre
  have hP : va_P D vwCl [(u0, .inr (3, [.int th, .int (nI sg), .ref u1, .int (nI xs.length), .int (nI (xs.length + ws.length)), .ref u2, .ref u3])), (u1, .inl (cI, 1000, .inl (rf))), (u2, .inl (cI, 1000, .inl (sf))), (u3, .inl (cI, 1000, .inl (tf)))] s.heap := hP
  have hD : va_D (AM u0 u1 u2 u3) [(u0, .inr (3, [.int th, .int (nI sg), .ref u1, .int (nI xs.length), .int (nI (xs.length + ws.length)), .ref u2, .ref u3])), (u1, .inl (cI, 1000, .inl (rf))), (u2, .inl (cI, 1000, .inl (sf))), (u3, .inl (cI, 1000, .inl (tf)))] := hu.D _ _ _ _
  have hAB := hu.AB
  have hS : va_S (AM u0 u1 u2 u3) s.heap s.heap [] := va_S.rf
  have hx9 := ok0.len
  have hsum := ok0.2.2.2.2.2.1
  have hsg6 := ok0.2.1
  refine lv_aload_n hx hb d_M_different_0 rfl (lv_at hl 0 rfl) ?_
  refine lv_aload_n hx hb d_M_different_1 rfl (lv_at hl 0 rfl) ?_
  refine lv_iload_n hx hb d_M_different_2 rfl (lv_at hl 1 rfl) ?_
  refine lv_iload_n hx hb d_M_different_3 rfl (lv_at hl 2 rfl) ?_
  refine cm_read (va_runV (As := [.int a, .int b]) (rest := [.ref u0]) ⟨hx, hb, hml, hown, hts⟩ (m_M_isPart hu ok0 a b) ⟨ct_cb 2 hts x_502 x_499 x_6 rfl rfl (by decide +kernel) ⟨by decide, by decide⟩, hts _ x_501, hts _ s_M_isPart⟩ ⟨st_blind, va_recv hK hP (ci := 3) (q0 := 0) rfl rfl, fun U hU hW => ⟨rfl, hE.at hS hAB hU hW, by rw [hU]; exact ⟨_, _, _, hrf, hP⟩⟩⟩ rfl rfl hl.1 rfl (lv_room (Nat.le_of_ble_eq_true rfl)) d_M_different_4 ⟨by decide, by decide⟩) (fun v hv => ?_)
  obtain ⟨b9, rfl, hb9⟩ := hv
  refine W.eq (g2 := F0 m 7 ls [.int b9, .ref u0]) rfl ?_
  rcases hb9 with ⟨hs, rfl⟩ | ⟨hs, rfl⟩
  · refine lv_if_eq (tgt := 14) hx hb d_M_different_7 (by decide) (fun c9 => absurd c9 (by decide)) (fun _ => ?_)
    refine lv_iconst (v := 0) hx hb d_M_different_10 (by decide) ?_
    refine lv_goto (tgt := 15) hx hb d_M_different_11 (by decide) ?_
    refine va_put (D := D) (ci := 3) (v := .int 0) (ty := .int) (C := n_M) (T := f_M) (N := 7) hx hb hts in_M t_M ty_M nm_M hown hK hP hD hS 0 rfl rfl 0 (by decide) (hts _ x_437) (fun _ h9 => h9) rfl (by decide +kernel) rfl rfl (Nat.le_of_ble_eq_true rfl) d_M_different_15 (fun H locs hP hD hS => ?_)
    have hP : va_P D vwCl [(u0, .inr (3, [.int 0, .int (nI sg), .ref u1, .int (nI xs.length), .int (nI (xs.length + ws.length)), .ref u2, .ref u3])), (u1, .inl (cI, 1000, .inl (rf))), (u2, .inl (cI, 1000, .inl (sf))), (u3, .inl (cI, 1000, .inl (tf)))] H := hP
    have hD : va_D (AM u0 u1 u2 u3) [(u0, .inr (3, [.int 0, .int (nI sg), .ref u1, .int (nI xs.length), .int (nI (xs.length + ws.length)), .ref u2, .ref u3])), (u1, .inl (cI, 1000, .inl (rf))), (u2, .inl (cI, 1000, .inl (sf))), (u3, .inl (cI, 1000, .inl (tf)))] := hD
    refine lv_aload_n hx hb d_M_different_18 rfl (lv_at hl 0 rfl) ?_
    refine va_get (D := D) (ci := 3) (v := .int 0) (C := n_M) (T := f_M) (N := 7) hx hb hts in_M hown hK hP 0 rfl rfl 0 (by decide) (hts _ x_437) (fun _ h9 => h9) rfl d_M_different_19 ?_
    refine lv_if_le (tgt := 29) hx hb d_M_different_22 (by decide) (fun _ => ?_) (fun c9 => absurd (by decide) c9)
    refine lv_aload_n hx hb d_M_different_29 rfl (lv_at hl 0 rfl) ?_
    refine lv_iload_n hx hb d_M_different_30 rfl (lv_at hl 1 rfl) ?_
    refine lv_iload_n hx hb d_M_different_31 rfl (lv_at hl 2 rfl) ?_
    obtain ⟨hae, hbe, hab, hbx⟩ := hs.ints hx9
    refine ct_st (st' := [.int (nI (cn b)), .int (nI (cn a)), .ref u0]) (by rw [← hbe, ← hae]) ?_
    refine cm_ret (va_runV (As := [.int (nI (cn a)), .int (nI (cn b))]) (rest := []) ⟨hx, hb, hml, hown, hts⟩ (m_M_gather hu ok0 hrf hab hbx) ⟨ct_cb 2 hts x_506 x_503 x_6 rfl rfl (by decide +kernel) ⟨by decide, by decide⟩, hts _ x_505, hts _ s_M_gather⟩ ⟨st_blind, va_recv hK hP (ci := 3) (q0 := 0) rfl rfl, fun U hU hW => ⟨rfl, hE.at hS hAB hU hW, by rw [hU]; exact hP⟩⟩ rfl rfl hl.1 rfl (lv_room (Nat.le_of_ble_eq_true rfl)) d_M_different_32 ⟨by decide, by decide⟩) hS (fun q h => h) (fun _ _ h => h.2.1) (fun v H locs hv hS => ?_)
    obtain ⟨rfl, hfr, sf2, tf2, hgi, hP⟩ := hv
    refine W.eq (g2 := F0 m 35 ls [.int (nI (dis (bk xs a b) 65536).length)]) rfl ?_
    exact W.iret (v := nI (dis (bk xs a b) 65536).length) hx hb hr (fun t ht hW => ⟨_, rfl, by rw [ht]; exact ⟨fr.of hS, Or.inl ⟨hs, ⟨_, _, _, hrf, hP⟩, rfl⟩⟩⟩) hS.2.2 d_M_different_35
  · refine lv_if_eq (tgt := 14) hx hb d_M_different_7 (by decide) (fun _ => ?_) (fun c9 => absurd (rfl) c9)
    refine lv_iconst (v := 1) hx hb d_M_different_14 (by decide) ?_
    refine va_put (D := D) (ci := 3) (v := .int 1) (ty := .int) (C := n_M) (T := f_M) (N := 7) hx hb hts in_M t_M ty_M nm_M hown hK hP hD hS 0 rfl rfl 0 (by decide) (hts _ x_437) (fun _ h9 => h9) rfl (by decide +kernel) rfl rfl (Nat.le_of_ble_eq_true rfl) d_M_different_15 (fun H locs hP hD hS => ?_)
    have hP : va_P D vwCl [(u0, .inr (3, [.int 1, .int (nI sg), .ref u1, .int (nI xs.length), .int (nI (xs.length + ws.length)), .ref u2, .ref u3])), (u1, .inl (cI, 1000, .inl (rf))), (u2, .inl (cI, 1000, .inl (sf))), (u3, .inl (cI, 1000, .inl (tf)))] H := hP
    have hD : va_D (AM u0 u1 u2 u3) [(u0, .inr (3, [.int 1, .int (nI sg), .ref u1, .int (nI xs.length), .int (nI (xs.length + ws.length)), .ref u2, .ref u3])), (u1, .inl (cI, 1000, .inl (rf))), (u2, .inl (cI, 1000, .inl (sf))), (u3, .inl (cI, 1000, .inl (tf)))] := hD
    refine lv_aload_n hx hb d_M_different_18 rfl (lv_at hl 0 rfl) ?_
    refine va_get (D := D) (ci := 3) (v := .int 1) (C := n_M) (T := f_M) (N := 7) hx hb hts in_M hown hK hP 0 rfl rfl 0 (by decide) (hts _ x_437) (fun _ h9 => h9) rfl d_M_different_19 ?_
    refine lv_if_le (tgt := 29) hx hb d_M_different_22 (by decide) (fun c9 => absurd c9 (by decide)) (fun _ => ?_)
    refine lv_iconst (v := 0) hx hb d_M_different_25 (by decide) ?_
    refine lv_goto (tgt := 35) hx hb d_M_different_26 (by decide) ?_
    exact W.iret (v := 0) hx hb hr (fun t ht hW => ⟨_, rfl, by rw [ht]; exact ⟨fr.of hS, Or.inr ⟨hs, ⟨_, _, _, hrf, hP⟩, _, rfl⟩⟩⟩) hS.2.2 d_M_different_35
set_option maxHeartbeats 4000000 in
set_option maxRecDepth 100000 in
theorem m_M_quantile {l : Launch} {D : va_G} {cI cJ cS cO : ClassId} {B0 : Nat} {u0 u1 u2 u3 sg d : Nat} {xs ws : List Nat} (hu : MI B0 u0 u1 u2 u3) (ok0 : Ok sg d xs ws) {th : Int32} (a b k : Int32) : CM l D (tyL cI cJ cS cO) B0 y_M_quantile c_M_quantile 6 (some .int) (rmK 1 0 0) [.ref u0, .int a, .int b, .int k] (fun H => MR D cI u0 u1 u2 u3 sg xs ws th H) (fun v H0 H1 => fr (AM u0 u1 u2 u3) H0 H1 ∧ (((isPt xs.length a b ∧ ¬ k < 0 ∧ k < b - a) ∧ MR D cI u0 u1 u2 u3 sg xs ws 0 H1 ∧ ∃ w, v = some (.int w) ∧ aQua (bk xs a b) k w) ∨ (¬ (isPt xs.length a b ∧ ¬ k < 0 ∧ k < b - a) ∧ MR D cI u0 u1 u2 u3 sg xs ws 1 H1 ∧ ∃ w, v = some (.int w)))) 0 0 (AM u0 u1 u2 u3) := by
  refine cm_of (by decide) (Nat.le_of_ble_eq_true rfl) ?_
  intro p e s m below meth c ls hx hb hr hml hown hts hlocks hnm hE hpre hl
  have hown : s.vm.findClass "LevelRowsModel" = some m.cls := hown
  have hK := hE.1
  have hl : lv_has ls 6 [(0, .ref u0), (1, .int a), (2, .int b), (3, .int k)] := hl
  obtain ⟨rf, sf, tf, hrf, hP⟩ := hpre
  have hP : va_P D vwCl [(u0, .inr (3, [.int th, .int (nI sg), .ref u1, .int (nI xs.length), .int (nI (xs.length + ws.length)), .ref u2, .ref u3])), (u1, .inl (cI, 1000, .inl (rf))), (u2, .inl (cI, 1000, .inl (sf))), (u3, .inl (cI, 1000, .inl (tf)))] s.heap := hP
  have hD : va_D (AM u0 u1 u2 u3) [(u0, .inr (3, [.int th, .int (nI sg), .ref u1, .int (nI xs.length), .int (nI (xs.length + ws.length)), .ref u2, .ref u3])), (u1, .inl (cI, 1000, .inl (rf))), (u2, .inl (cI, 1000, .inl (sf))), (u3, .inl (cI, 1000, .inl (tf)))] := hu.D _ _ _ _
  have hAB := hu.AB
  have hS : va_S (AM u0 u1 u2 u3) s.heap s.heap [] := va_S.rf
  have hx9 := ok0.len
  have hsum := ok0.2.2.2.2.2.1
  have hsg6 := ok0.2.1
  refine lv_aload_n hx hb d_M_quantile_0 rfl (lv_at hl 0 rfl) ?_
  refine lv_aload_n hx hb d_M_quantile_1 rfl (lv_at hl 0 rfl) ?_
  refine lv_iload_n hx hb d_M_quantile_2 rfl (lv_at hl 1 rfl) ?_
  refine lv_iload_n hx hb d_M_quantile_3 rfl (lv_at hl 2 rfl) ?_
  refine cm_read (va_runV (As := [.int a, .int b]) (rest := [.ref u0]) ⟨hx, hb, hml, hown, hts⟩ (m_M_isPart hu ok0 a b) ⟨ct_cb 2 hts x_502 x_499 x_6 rfl rfl (by decide +kernel) ⟨by decide, by decide⟩, hts _ x_501, hts _ s_M_isPart⟩ ⟨st_blind, va_recv hK hP (ci := 3) (q0 := 0) rfl rfl, fun U hU hW => ⟨rfl, hE.at hS hAB hU hW, by rw [hU]; exact ⟨_, _, _, hrf, hP⟩⟩⟩ rfl rfl hl.1 rfl (lv_room (Nat.le_of_ble_eq_true rfl)) d_M_quantile_4 ⟨by decide, by decide⟩) (fun v hv => ?_)
  obtain ⟨b9, rfl, hb9⟩ := hv
  refine W.eq (g2 := F0 m 7 ls [.int b9, .ref u0]) rfl ?_
  rcases hb9 with ⟨hs, rfl⟩ | ⟨hs, rfl⟩
  · refine lv_if_eq (tgt := 25) hx hb d_M_quantile_7 (by decide) (fun c9 => absurd c9 (by decide)) (fun _ => ?_)
    refine lv_iload_n hx hb d_M_quantile_10 rfl (lv_at hl 3 rfl) ?_
    refine lv_if_lt (tgt := 25) hx hb d_M_quantile_11 (by decide) (fun h1 => ?_) (fun h1 => ?_)
    · refine lv_iconst (v := 1) hx hb d_M_quantile_25 (by decide) ?_
      refine va_put (D := D) (ci := 3) (v := .int 1) (ty := .int) (C := n_M) (T := f_M) (N := 7) hx hb hts in_M t_M ty_M nm_M hown hK hP hD hS 0 rfl rfl 0 (by decide) (hts _ x_437) (fun _ h9 => h9) rfl (by decide +kernel) rfl rfl (Nat.le_of_ble_eq_true rfl) d_M_quantile_26 (fun H locs hP hD hS => ?_)
      have hP : va_P D vwCl [(u0, .inr (3, [.int 1, .int (nI sg), .ref u1, .int (nI xs.length), .int (nI (xs.length + ws.length)), .ref u2, .ref u3])), (u1, .inl (cI, 1000, .inl (rf))), (u2, .inl (cI, 1000, .inl (sf))), (u3, .inl (cI, 1000, .inl (tf)))] H := hP
      have hD : va_D (AM u0 u1 u2 u3) [(u0, .inr (3, [.int 1, .int (nI sg), .ref u1, .int (nI xs.length), .int (nI (xs.length + ws.length)), .ref u2, .ref u3])), (u1, .inl (cI, 1000, .inl (rf))), (u2, .inl (cI, 1000, .inl (sf))), (u3, .inl (cI, 1000, .inl (tf)))] := hD
      refine lv_aload_n hx hb d_M_quantile_29 rfl (lv_at hl 0 rfl) ?_
      refine va_get (D := D) (ci := 3) (v := .int 1) (C := n_M) (T := f_M) (N := 7) hx hb hts in_M hown hK hP 0 rfl rfl 0 (by decide) (hts _ x_437) (fun _ h9 => h9) rfl d_M_quantile_30 ?_
      refine lv_if_le (tgt := 38) hx hb d_M_quantile_33 (by decide) (fun c9 => absurd c9 (by decide)) (fun _ => ?_)
      refine lv_iconst (v := 0) hx hb d_M_quantile_36 (by decide) ?_
      exact W.iret (v := 0) hx hb hr (fun t ht hW => ⟨_, rfl, by rw [ht]; exact ⟨fr.of hS, Or.inr ⟨fun h => h.2.1 h1, ⟨_, _, _, hrf, hP⟩, _, rfl⟩⟩⟩) hS.2.2 d_M_quantile_37
    · refine lv_iload_n hx hb d_M_quantile_14 rfl (lv_at hl 3 rfl) ?_
      refine lv_iload_n hx hb d_M_quantile_15 rfl (lv_at hl 2 rfl) ?_
      refine lv_iload_n hx hb d_M_quantile_16 rfl (lv_at hl 1 rfl) ?_
      refine lv_isub hx hb d_M_quantile_17 ?_
      refine lv_icmp_ge (tgt := 25) hx hb d_M_quantile_18 (by decide) (fun h2 => ?_) (fun h2 => ?_)
      · refine lv_iconst (v := 1) hx hb d_M_quantile_25 (by decide) ?_
        refine va_put (D := D) (ci := 3) (v := .int 1) (ty := .int) (C := n_M) (T := f_M) (N := 7) hx hb hts in_M t_M ty_M nm_M hown hK hP hD hS 0 rfl rfl 0 (by decide) (hts _ x_437) (fun _ h9 => h9) rfl (by decide +kernel) rfl rfl (Nat.le_of_ble_eq_true rfl) d_M_quantile_26 (fun H locs hP hD hS => ?_)
        have hP : va_P D vwCl [(u0, .inr (3, [.int 1, .int (nI sg), .ref u1, .int (nI xs.length), .int (nI (xs.length + ws.length)), .ref u2, .ref u3])), (u1, .inl (cI, 1000, .inl (rf))), (u2, .inl (cI, 1000, .inl (sf))), (u3, .inl (cI, 1000, .inl (tf)))] H := hP
        have hD : va_D (AM u0 u1 u2 u3) [(u0, .inr (3, [.int 1, .int (nI sg), .ref u1, .int (nI xs.length), .int (nI (xs.length + ws.length)), .ref u2, .ref u3])), (u1, .inl (cI, 1000, .inl (rf))), (u2, .inl (cI, 1000, .inl (sf))), (u3, .inl (cI, 1000, .inl (tf)))] := hD
        refine lv_aload_n hx hb d_M_quantile_29 rfl (lv_at hl 0 rfl) ?_
        refine va_get (D := D) (ci := 3) (v := .int 1) (C := n_M) (T := f_M) (N := 7) hx hb hts in_M hown hK hP 0 rfl rfl 0 (by decide) (hts _ x_437) (fun _ h9 => h9) rfl d_M_quantile_30 ?_
        refine lv_if_le (tgt := 38) hx hb d_M_quantile_33 (by decide) (fun c9 => absurd c9 (by decide)) (fun _ => ?_)
        refine lv_iconst (v := 0) hx hb d_M_quantile_36 (by decide) ?_
        exact W.iret (v := 0) hx hb hr (fun t ht hW => ⟨_, rfl, by rw [ht]; exact ⟨fr.of hS, Or.inr ⟨fun h => Int32.not_lt.mpr h2 h.2.2, ⟨_, _, _, hrf, hP⟩, _, rfl⟩⟩⟩) hS.2.2 d_M_quantile_37
      · have hcd : isPt xs.length a b ∧ ¬ k < 0 ∧ k < b - a := ⟨hs, h1, Int32.not_le.mp h2⟩
        refine lv_iconst (v := 0) hx hb d_M_quantile_21 (by decide) ?_
        refine lv_goto (tgt := 26) hx hb d_M_quantile_22 (by decide) ?_
        refine va_put (D := D) (ci := 3) (v := .int 0) (ty := .int) (C := n_M) (T := f_M) (N := 7) hx hb hts in_M t_M ty_M nm_M hown hK hP hD hS 0 rfl rfl 0 (by decide) (hts _ x_437) (fun _ h9 => h9) rfl (by decide +kernel) rfl rfl (Nat.le_of_ble_eq_true rfl) d_M_quantile_26 (fun H locs hP hD hS => ?_)
        have hP : va_P D vwCl [(u0, .inr (3, [.int 0, .int (nI sg), .ref u1, .int (nI xs.length), .int (nI (xs.length + ws.length)), .ref u2, .ref u3])), (u1, .inl (cI, 1000, .inl (rf))), (u2, .inl (cI, 1000, .inl (sf))), (u3, .inl (cI, 1000, .inl (tf)))] H := hP
        have hD : va_D (AM u0 u1 u2 u3) [(u0, .inr (3, [.int 0, .int (nI sg), .ref u1, .int (nI xs.length), .int (nI (xs.length + ws.length)), .ref u2, .ref u3])), (u1, .inl (cI, 1000, .inl (rf))), (u2, .inl (cI, 1000, .inl (sf))), (u3, .inl (cI, 1000, .inl (tf)))] := hD
        refine lv_aload_n hx hb d_M_quantile_29 rfl (lv_at hl 0 rfl) ?_
        refine va_get (D := D) (ci := 3) (v := .int 0) (C := n_M) (T := f_M) (N := 7) hx hb hts in_M hown hK hP 0 rfl rfl 0 (by decide) (hts _ x_437) (fun _ h9 => h9) rfl d_M_quantile_30 ?_
        refine lv_if_le (tgt := 38) hx hb d_M_quantile_33 (by decide) (fun _ => ?_) (fun c9 => absurd (by decide) c9)
        refine lv_aload_n hx hb d_M_quantile_38 rfl (lv_at hl 0 rfl) ?_
        refine lv_iload_n hx hb d_M_quantile_39 rfl (lv_at hl 1 rfl) ?_
        refine lv_iload_n hx hb d_M_quantile_40 rfl (lv_at hl 2 rfl) ?_
        obtain ⟨hae, hbe, hab, hbx⟩ := hs.ints hx9
        refine ct_st (st' := [.int (nI (cn b)), .int (nI (cn a)), .ref u0]) (by rw [← hbe, ← hae]) ?_
        refine cm_ret (va_runV (As := [.int (nI (cn a)), .int (nI (cn b))]) (rest := []) ⟨hx, hb, hml, hown, hts⟩ (m_M_gather hu ok0 hrf hab hbx) ⟨ct_cb 2 hts x_506 x_503 x_6 rfl rfl (by decide +kernel) ⟨by decide, by decide⟩, hts _ x_505, hts _ s_M_gather⟩ ⟨st_blind, va_recv hK hP (ci := 3) (q0 := 0) rfl rfl, fun U hU hW => ⟨rfl, hE.at hS hAB hU hW, by rw [hU]; exact hP⟩⟩ rfl rfl hl.1 rfl (lv_room (Nat.le_of_ble_eq_true rfl)) d_M_quantile_41 ⟨by decide, by decide⟩) hS (fun q h => h) (fun _ _ h => h.2.1) (fun v H locs hv hS => ?_)
        obtain ⟨rfl, hfr, sf2, tf2, hgi, hP⟩ := hv
        refine W.eq (g2 := F0 m 44 ls [.int (nI (dis (bk xs a b) 65536).length)]) rfl ?_
        obtain ⟨hke, hk31⟩ := nn_ints h1
        have hP : va_P D vwCl [(u0, .inr (3, [.int 0, .int (nI sg), .ref u1, .int (nI xs.length), .int (nI (xs.length + ws.length)), .ref u2, .ref u3])), (u1, .inl (cI, 1000, .inl (rf))), (u2, .inl (cI, 1000, .inl (sf2))), (u3, .inl (cI, 1000, .inl (tf2)))] H := hP
        obtain ⟨B, hBe⟩ : ∃ B, B = bk xs a b := ⟨_, rfl⟩
        have hBl : B.length = cn b - cn a := by rw [hBe]; exact bk_len hab hbx
        have hkl : cn k < B.length := by
          have h3 : b - a = nI (cn b - cn a) := by rw [← pk_sub hab, ← hbe, ← hae]
          have h4 := hcd.2.2
          rw [h3, hke] at h4
          rw [hBl]; exact (nI_ltI hk31 (by omega)).mp h4
        have hB6 : ∀ z ∈ B, z < 65536 := fun z h => Nat.lt_of_lt_of_le (ok0.2.2.2.2.2.2.1 z (bk_mem (hBe ▸ h))) hsg6
        have hcA := cLt_all hB6
        obtain ⟨S, hSe⟩ : ∃ S, S = dis B 65536 := ⟨_, rfl⟩
        have hgi : GI S B sf2 tf2 := by rw [hSe, hBe]; exact hgi
        have hSl : S.length ≤ 1000 := by rw [hSe]; have h1 := dis_len B 65536; omega
        obtain ⟨v0, hv0⟩ : ∃ v, S[0]? = some v := by
          have h0 : 0 < S.length := by
            rcases Nat.eq_zero_or_pos S.length with h | h
            · have h5 := dis_all B 65536
              rw [← hSe, List.length_eq_zero_iff.mp h] at h5
              simp at h5
              omega
            · exact h
          exact ⟨S[0], List.getElem?_eq_getElem h0⟩
        have hf0 : cLt B v0 = 0 := dis_first (hSe ▸ hv0)
        have hc0 := cLt_succ B v0
        refine lv_pop hx hb d_M_quantile_44 rfl ?_
        refine lv_iconst (v := 0) hx hb d_M_quantile_45 (by decide) ?_
        refine lv_istore (lv' := [(4, .int 0), (0, .ref u0), (1, .int a), (2, .int b), (3, .int k)]) hx hb d_M_quantile_46 hl (by decide) rfl (fun ls hl => ?_)
        refine lv_aload_n hx hb d_M_quantile_48 rfl (lv_at hl 1 rfl) ?_
        refine va_get (D := D) (ci := 3) (v := .ref u3) (C := n_M) (T := f_M) (N := 7) hx hb hts in_M hown hK hP 0 rfl rfl 6 (by decide) (hts _ x_443) (fun _ h9 => h9) rfl d_M_quantile_49 ?_
        refine lv_iconst (v := 0) hx hb d_M_quantile_52 (by decide) ?_
        refine va_iald hx hb hK hP 3 0 rfl rfl (vp_in_nI (n := 0) (by omega) (by decide)) d_M_quantile_53 ?_
        refine ct_topi (x' := nI (cLt B (v0 + 1))) (by rw [hc0, hf0, Nat.zero_add]; exact (hgi 0 v0 hv0).2) ?_
        refine lv_istore (lv' := [(5, .int (nI (cLt B (v0 + 1)))), (4, .int 0), (0, .ref u0), (1, .int a), (2, .int b), (3, .int k)]) hx hb d_M_quantile_54 hl (by decide) rfl (fun ls hl => ?_)
        have loop : ∀ (n : Nat) (i : Nat) (v0 : Nat) (H : Heap) (locs : List Loc) (ls : Array Slot), (i + n = S.length) → (S[i]? = some v0) → (cLt B v0 ≤ cn k) → va_S (AM u0 u1 u2 u3) s.heap H locs → va_P D vwCl [(u0, .inr (3, [.int 0, .int (nI sg), .ref u1, .int (nI xs.length), .int (nI (xs.length + ws.length)), .ref u2, .ref u3])), (u1, .inl (cI, 1000, .inl (rf))), (u2, .inl (cI, 1000, .inl (sf2))), (u3, .inl (cI, 1000, .inl (tf2)))] H → va_D (AM u0 u1 u2 u3) [(u0, .inr (3, [.int 0, .int (nI sg), .ref u1, .int (nI xs.length), .int (nI (xs.length + ws.length)), .ref u2, .ref u3])), (u1, .inl (cI, 1000, .inl (rf))), (u2, .inl (cI, 1000, .inl (sf2))), (u3, .inl (cI, 1000, .inl (tf2)))] → lv_has ls 6 [(4, .int (nI i)), (5, .int (nI (cLt B (v0 + 1)))), (0, .ref u0), (1, .int a), (2, .int b), (3, .int k)] → W p l e (rmK 1 0 0) s m [.ref u0, .int a, .int b, .int k].toArray below meth c H locs (0) (0) (MQ below (stQ (fun v H0 H1 => fr (AM u0 u1 u2 u3) H0 H1 ∧ (((isPt xs.length a b ∧ ¬ k < 0 ∧ k < b - a) ∧ MR D cI u0 u1 u2 u3 sg xs ws 0 H1 ∧ ∃ w, v = some (.int w) ∧ aQua (bk xs a b) k w) ∨ (¬ (isPt xs.length a b ∧ ¬ k < 0 ∧ k < b - a) ∧ MR D cI u0 u1 u2 u3 sg xs ws 1 H1 ∧ ∃ w, v = some (.int w))))) [.ref u0, .int a, .int b, .int k].toArray s 0 0 (AM u0 u1 u2 u3)) (F0 m 56 ls []) := by
          intro n
          induction n with
          | zero =>
            intro i v0 H locs ls hin hv hle hS hP hD hl
            exact absurd (List.getElem?_eq_some_iff.mp hv).1 (by omega)
          | succ n ih =>
            intro i v0 H locs ls hin hv hle hS hP hD hl
            have hil := (List.getElem?_eq_some_iff.mp hv).1
            have hcl := cLt_le B (v0 + 1)
            refine lv_iload hx hb d_M_quantile_56 (lv_at hl 1 rfl) ?_
            refine lv_iload_n hx hb d_M_quantile_58 rfl (lv_at hl 5 rfl) ?_
            rcases Nat.lt_or_ge (cn k) (cLt B (v0 + 1)) with hc | hc
            · refine lv_icmp_gt (tgt := 80) hx hb d_M_quantile_59 (by decide) (fun _ => ?_) (fun c9 => absurd (by rw [hke]; exact nI_lt hc (by omega)) c9)
              refine lv_aload_n hx hb d_M_quantile_80 rfl (lv_at hl 2 rfl) ?_
              refine va_get (D := D) (ci := 3) (v := .ref u2) (C := n_M) (T := f_M) (N := 7) hx hb hts in_M hown hK hP 0 rfl rfl 5 (by decide) (hts _ x_442) (fun _ h9 => h9) rfl d_M_quantile_81 ?_
              refine lv_iload hx hb d_M_quantile_84 (lv_at hl 0 rfl) ?_
              refine va_iald hx hb hK hP 2 0 rfl rfl (vp_in_nI (by omega) (by decide)) d_M_quantile_86 ?_
              refine ct_topi (x' := nI v0) (by rw [nI_clamp (by omega)]; exact (hgi _ _ hv).1) ?_
              exact W.iret (v := nI v0) hx hb hr (fun t ht hW => ⟨_, rfl, by rw [ht]; exact ⟨fr.of hS, Or.inl ⟨hcd, ⟨_, _, _, hrf, hP⟩, _, rfl, v0, by rw [← hBe]; exact ⟨hle, hc⟩, rfl⟩⟩⟩) hS.2.2 d_M_quantile_87
            · refine lv_icmp_gt (tgt := 80) hx hb d_M_quantile_59 (by decide) (fun c9 => absurd c9 (by rw [hke]; exact nI_nlt hc hk31)) (fun _ => ?_)
              have hi1 : i + 1 < S.length := by
                rcases Nat.lt_or_ge (i + 1) S.length with h5 | h5
                · exact h5
                · have h6 := dis_last (hSe ▸ hv) (by rw [← hSe]; omega)
                  omega
              obtain ⟨v1, hv1⟩ : ∃ v, S[i + 1]? = some v := ⟨S[i + 1], List.getElem?_eq_getElem hi1⟩
              have hst := dis_step (hSe ▸ hv) (hSe ▸ hv1)
              have hc1 := cLt_succ B v1
              refine lv_iinc (v := nI (i + 1)) (lv' := [(4, .int (nI (i + 1))), (5, .int (nI (cLt B (v0 + 1)))), (0, .ref u0), (1, .int a), (2, .int b), (3, .int k)]) hx hb d_M_quantile_62 hl (k := 0) rfl ((nI_succ i).symm) (by decide) rfl (fun ls hl => ?_)
              refine lv_iload hx hb d_M_quantile_65 (lv_at hl 1 rfl) ?_
              refine lv_aload_n hx hb d_M_quantile_67 rfl (lv_at hl 2 rfl) ?_
              refine va_get (D := D) (ci := 3) (v := .ref u3) (C := n_M) (T := f_M) (N := 7) hx hb hts in_M hown hK hP 0 rfl rfl 6 (by decide) (hts _ x_443) (fun _ h9 => h9) rfl d_M_quantile_68 ?_
              refine lv_iload hx hb d_M_quantile_71 (lv_at hl 0 rfl) ?_
              refine va_iald hx hb hK hP 3 0 rfl rfl (vp_in_nI (by omega) (by decide)) d_M_quantile_73 ?_
              refine ct_topi (x' := nI (cEq B v1)) (by rw [nI_clamp (by omega)]; exact (hgi _ _ hv1).2) ?_
              refine lv_iadd hx hb d_M_quantile_74 ?_
              refine ct_topi (x' := nI (cLt B (v1 + 1))) (by rw [hc1, hst]; exact nI_add _ _) ?_
              refine lv_istore (lv' := [(5, .int (nI (cLt B (v1 + 1)))), (4, .int (nI (i + 1))), (0, .ref u0), (1, .int a), (2, .int b), (3, .int k)]) hx hb d_M_quantile_75 hl (by decide) rfl (fun ls hl => ?_)
              refine lv_goto (tgt := 56) hx hb d_M_quantile_77 (by decide) ?_
              exact ih (i + 1) v1 H _ ls (by omega) hv1 (by omega) hS hP (hu.D _ _ _ _) (lv_sub hl [1, 0, 2, 3, 4, 5] rfl)
        exact loop S.length 0 v0 H _ ls (by omega) hv0 (by omega) hS hP (hu.D _ _ _ _) (lv_sub hl [1, 0, 2, 3, 4, 5] rfl)
  · refine lv_if_eq (tgt := 25) hx hb d_M_quantile_7 (by decide) (fun _ => ?_) (fun c9 => absurd (rfl) c9)
    refine lv_iconst (v := 1) hx hb d_M_quantile_25 (by decide) ?_
    refine va_put (D := D) (ci := 3) (v := .int 1) (ty := .int) (C := n_M) (T := f_M) (N := 7) hx hb hts in_M t_M ty_M nm_M hown hK hP hD hS 0 rfl rfl 0 (by decide) (hts _ x_437) (fun _ h9 => h9) rfl (by decide +kernel) rfl rfl (Nat.le_of_ble_eq_true rfl) d_M_quantile_26 (fun H locs hP hD hS => ?_)
    have hP : va_P D vwCl [(u0, .inr (3, [.int 1, .int (nI sg), .ref u1, .int (nI xs.length), .int (nI (xs.length + ws.length)), .ref u2, .ref u3])), (u1, .inl (cI, 1000, .inl (rf))), (u2, .inl (cI, 1000, .inl (sf))), (u3, .inl (cI, 1000, .inl (tf)))] H := hP
    have hD : va_D (AM u0 u1 u2 u3) [(u0, .inr (3, [.int 1, .int (nI sg), .ref u1, .int (nI xs.length), .int (nI (xs.length + ws.length)), .ref u2, .ref u3])), (u1, .inl (cI, 1000, .inl (rf))), (u2, .inl (cI, 1000, .inl (sf))), (u3, .inl (cI, 1000, .inl (tf)))] := hD
    refine lv_aload_n hx hb d_M_quantile_29 rfl (lv_at hl 0 rfl) ?_
    refine va_get (D := D) (ci := 3) (v := .int 1) (C := n_M) (T := f_M) (N := 7) hx hb hts in_M hown hK hP 0 rfl rfl 0 (by decide) (hts _ x_437) (fun _ h9 => h9) rfl d_M_quantile_30 ?_
    refine lv_if_le (tgt := 38) hx hb d_M_quantile_33 (by decide) (fun c9 => absurd c9 (by decide)) (fun _ => ?_)
    refine lv_iconst (v := 0) hx hb d_M_quantile_36 (by decide) ?_
    exact W.iret (v := 0) hx hb hr (fun t ht hW => ⟨_, rfl, by rw [ht]; exact ⟨fr.of hS, Or.inr ⟨fun h => hs h.1, ⟨_, _, _, hrf, hP⟩, _, rfl⟩⟩⟩) hS.2.2 d_M_quantile_37
set_option maxHeartbeats 4000000 in
set_option maxRecDepth 100000 in
theorem m_M_frequent {l : Launch} {D : va_G} {cI cJ cS cO : ClassId} {B0 : Nat} {u0 u1 u2 u3 sg d : Nat} {xs ws : List Nat} (hu : MI B0 u0 u1 u2 u3) (ok0 : Ok sg d xs ws) {th : Int32} (a b k : Int32) : CM l D (tyL cI cJ cS cO) B0 y_M_frequent c_M_frequent 8 (some .int) (rmK 1 0 0) [.ref u0, .int a, .int b, .int k] (fun H => MR D cI u0 u1 u2 u3 sg xs ws th H) (fun v H0 H1 => fr (AM u0 u1 u2 u3) H0 H1 ∧ (((isPt xs.length a b ∧ ¬ k < 0) ∧ MR D cI u0 u1 u2 u3 sg xs ws 0 H1 ∧ ∃ w, v = some (.int w) ∧ aFrq (dis (bk xs a b) 65536) ((dis (bk xs a b) 65536).map (cEq (bk xs a b))) k w) ∨ (¬ (isPt xs.length a b ∧ ¬ k < 0) ∧ MR D cI u0 u1 u2 u3 sg xs ws 1 H1 ∧ ∃ w, v = some (.int w)))) 0 0 (AM u0 u1 u2 u3) := by
  refine cm_of (by decide) (Nat.le_of_ble_eq_true rfl) ?_
  intro p e s m below meth c ls hx hb hr hml hown hts hlocks hnm hE hpre hl
  have hown : s.vm.findClass "LevelRowsModel" = some m.cls := hown
  have hK := hE.1
  have hl : lv_has ls 8 [(0, .ref u0), (1, .int a), (2, .int b), (3, .int k)] := hl
  obtain ⟨rf, sf, tf, hrf, hP⟩ := hpre
  have hP : va_P D vwCl [(u0, .inr (3, [.int th, .int (nI sg), .ref u1, .int (nI xs.length), .int (nI (xs.length + ws.length)), .ref u2, .ref u3])), (u1, .inl (cI, 1000, .inl (rf))), (u2, .inl (cI, 1000, .inl (sf))), (u3, .inl (cI, 1000, .inl (tf)))] s.heap := hP
  have hD : va_D (AM u0 u1 u2 u3) [(u0, .inr (3, [.int th, .int (nI sg), .ref u1, .int (nI xs.length), .int (nI (xs.length + ws.length)), .ref u2, .ref u3])), (u1, .inl (cI, 1000, .inl (rf))), (u2, .inl (cI, 1000, .inl (sf))), (u3, .inl (cI, 1000, .inl (tf)))] := hu.D _ _ _ _
  have hAB := hu.AB
  have hS : va_S (AM u0 u1 u2 u3) s.heap s.heap [] := va_S.rf
  have hx9 := ok0.len
  have hsum := ok0.2.2.2.2.2.1
  have hsg6 := ok0.2.1
  refine lv_aload_n hx hb d_M_frequent_0 rfl (lv_at hl 0 rfl) ?_
  refine lv_aload_n hx hb d_M_frequent_1 rfl (lv_at hl 0 rfl) ?_
  refine lv_iload_n hx hb d_M_frequent_2 rfl (lv_at hl 1 rfl) ?_
  refine lv_iload_n hx hb d_M_frequent_3 rfl (lv_at hl 2 rfl) ?_
  refine cm_read (va_runV (As := [.int a, .int b]) (rest := [.ref u0]) ⟨hx, hb, hml, hown, hts⟩ (m_M_isPart hu ok0 a b) ⟨ct_cb 2 hts x_502 x_499 x_6 rfl rfl (by decide +kernel) ⟨by decide, by decide⟩, hts _ x_501, hts _ s_M_isPart⟩ ⟨st_blind, va_recv hK hP (ci := 3) (q0 := 0) rfl rfl, fun U hU hW => ⟨rfl, hE.at hS hAB hU hW, by rw [hU]; exact ⟨_, _, _, hrf, hP⟩⟩⟩ rfl rfl hl.1 rfl (lv_room (Nat.le_of_ble_eq_true rfl)) d_M_frequent_4 ⟨by decide, by decide⟩) (fun v hv => ?_)
  obtain ⟨b9, rfl, hb9⟩ := hv
  refine W.eq (g2 := F0 m 7 ls [.int b9, .ref u0]) rfl ?_
  rcases hb9 with ⟨hs, rfl⟩ | ⟨hs, rfl⟩
  · refine lv_if_eq (tgt := 18) hx hb d_M_frequent_7 (by decide) (fun c9 => absurd c9 (by decide)) (fun _ => ?_)
    refine lv_iload_n hx hb d_M_frequent_10 rfl (lv_at hl 3 rfl) ?_
    refine lv_if_lt (tgt := 18) hx hb d_M_frequent_11 (by decide) (fun h1 => ?_) (fun h1 => ?_)
    · refine lv_iconst (v := 1) hx hb d_M_frequent_18 (by decide) ?_
      refine va_put (D := D) (ci := 3) (v := .int 1) (ty := .int) (C := n_M) (T := f_M) (N := 7) hx hb hts in_M t_M ty_M nm_M hown hK hP hD hS 0 rfl rfl 0 (by decide) (hts _ x_437) (fun _ h9 => h9) rfl (by decide +kernel) rfl rfl (Nat.le_of_ble_eq_true rfl) d_M_frequent_19 (fun H locs hP hD hS => ?_)
      have hP : va_P D vwCl [(u0, .inr (3, [.int 1, .int (nI sg), .ref u1, .int (nI xs.length), .int (nI (xs.length + ws.length)), .ref u2, .ref u3])), (u1, .inl (cI, 1000, .inl (rf))), (u2, .inl (cI, 1000, .inl (sf))), (u3, .inl (cI, 1000, .inl (tf)))] H := hP
      have hD : va_D (AM u0 u1 u2 u3) [(u0, .inr (3, [.int 1, .int (nI sg), .ref u1, .int (nI xs.length), .int (nI (xs.length + ws.length)), .ref u2, .ref u3])), (u1, .inl (cI, 1000, .inl (rf))), (u2, .inl (cI, 1000, .inl (sf))), (u3, .inl (cI, 1000, .inl (tf)))] := hD
      refine lv_aload_n hx hb d_M_frequent_22 rfl (lv_at hl 0 rfl) ?_
      refine va_get (D := D) (ci := 3) (v := .int 1) (C := n_M) (T := f_M) (N := 7) hx hb hts in_M hown hK hP 0 rfl rfl 0 (by decide) (hts _ x_437) (fun _ h9 => h9) rfl d_M_frequent_23 ?_
      refine lv_if_le (tgt := 31) hx hb d_M_frequent_26 (by decide) (fun c9 => absurd c9 (by decide)) (fun _ => ?_)
      refine lv_iconst (v := 0) hx hb d_M_frequent_29 (by decide) ?_
      exact W.iret (v := 0) hx hb hr (fun t ht hW => ⟨_, rfl, by rw [ht]; exact ⟨fr.of hS, Or.inr ⟨fun h => h.2 h1, ⟨_, _, _, hrf, hP⟩, _, rfl⟩⟩⟩) hS.2.2 d_M_frequent_30
    · have hcd : isPt xs.length a b ∧ ¬ k < 0 := ⟨hs, h1⟩
      refine lv_iconst (v := 0) hx hb d_M_frequent_14 (by decide) ?_
      refine lv_goto (tgt := 19) hx hb d_M_frequent_15 (by decide) ?_
      refine va_put (D := D) (ci := 3) (v := .int 0) (ty := .int) (C := n_M) (T := f_M) (N := 7) hx hb hts in_M t_M ty_M nm_M hown hK hP hD hS 0 rfl rfl 0 (by decide) (hts _ x_437) (fun _ h9 => h9) rfl (by decide +kernel) rfl rfl (Nat.le_of_ble_eq_true rfl) d_M_frequent_19 (fun H locs hP hD hS => ?_)
      have hP : va_P D vwCl [(u0, .inr (3, [.int 0, .int (nI sg), .ref u1, .int (nI xs.length), .int (nI (xs.length + ws.length)), .ref u2, .ref u3])), (u1, .inl (cI, 1000, .inl (rf))), (u2, .inl (cI, 1000, .inl (sf))), (u3, .inl (cI, 1000, .inl (tf)))] H := hP
      have hD : va_D (AM u0 u1 u2 u3) [(u0, .inr (3, [.int 0, .int (nI sg), .ref u1, .int (nI xs.length), .int (nI (xs.length + ws.length)), .ref u2, .ref u3])), (u1, .inl (cI, 1000, .inl (rf))), (u2, .inl (cI, 1000, .inl (sf))), (u3, .inl (cI, 1000, .inl (tf)))] := hD
      refine lv_aload_n hx hb d_M_frequent_22 rfl (lv_at hl 0 rfl) ?_
      refine va_get (D := D) (ci := 3) (v := .int 0) (C := n_M) (T := f_M) (N := 7) hx hb hts in_M hown hK hP 0 rfl rfl 0 (by decide) (hts _ x_437) (fun _ h9 => h9) rfl d_M_frequent_23 ?_
      refine lv_if_le (tgt := 31) hx hb d_M_frequent_26 (by decide) (fun _ => ?_) (fun c9 => absurd (by decide) c9)
      refine lv_aload_n hx hb d_M_frequent_31 rfl (lv_at hl 0 rfl) ?_
      refine lv_iload_n hx hb d_M_frequent_32 rfl (lv_at hl 1 rfl) ?_
      refine lv_iload_n hx hb d_M_frequent_33 rfl (lv_at hl 2 rfl) ?_
      obtain ⟨hae, hbe, hab, hbx⟩ := hs.ints hx9
      refine ct_st (st' := [.int (nI (cn b)), .int (nI (cn a)), .ref u0]) (by rw [← hbe, ← hae]) ?_
      refine cm_ret (va_runV (As := [.int (nI (cn a)), .int (nI (cn b))]) (rest := []) ⟨hx, hb, hml, hown, hts⟩ (m_M_gather hu ok0 hrf hab hbx) ⟨ct_cb 2 hts x_506 x_503 x_6 rfl rfl (by decide +kernel) ⟨by decide, by decide⟩, hts _ x_505, hts _ s_M_gather⟩ ⟨st_blind, va_recv hK hP (ci := 3) (q0 := 0) rfl rfl, fun U hU hW => ⟨rfl, hE.at hS hAB hU hW, by rw [hU]; exact hP⟩⟩ rfl rfl hl.1 rfl (lv_room (Nat.le_of_ble_eq_true rfl)) d_M_frequent_34 ⟨by decide, by decide⟩) hS (fun q h => h) (fun _ _ h => h.2.1) (fun v H locs hv hS => ?_)
      obtain ⟨rfl, hfr, sf2, tf2, hgi, hP⟩ := hv
      refine W.eq (g2 := F0 m 37 ls [.int (nI (dis (bk xs a b) 65536).length)]) rfl ?_
      obtain ⟨hke, hk31⟩ := nn_ints h1
      obtain ⟨S, hSe⟩ : ∃ S, S = dis (bk xs a b) 65536 := ⟨_, rfl⟩
      obtain ⟨T, hTe⟩ : ∃ T, T = S.map (cEq (bk xs a b)) := ⟨_, rfl⟩
      have hP : va_P D vwCl [(u0, .inr (3, [.int 0, .int (nI sg), .ref u1, .int (nI xs.length), .int (nI (xs.length + ws.length)), .ref u2, .ref u3])), (u1, .inl (cI, 1000, .inl (rf))), (u2, .inl (cI, 1000, .inl (sf2))), (u3, .inl (cI, 1000, .inl (tf2)))] H := hP
      have hBl : (bk xs a b).length = cn b - cn a := bk_len hab hbx
      have hSl : S.length ≤ 1000 := by rw [hSe]; have h1 := dis_len (bk xs a b) 65536; have h2 := cLt_le (bk xs a b) 65536; omega
      have hTl : S.length = T.length := by rw [hTe, List.length_map]
      rw [← hSe] at hgi ⊢
      rw [← hTe, hTl]
      refine W.eq (g2 := F0 m 37 ls [.int (nI T.length)]) rfl ?_
      have htf : ∀ i z, T[i]? = some z → tf2 i = nI z ∧ z ≤ 1000 := by
        intro i z hz
        rw [hTe, List.getElem?_map] at hz
        obtain ⟨u, hu, rfl⟩ := Option.map_eq_some_iff.mp hz
        exact ⟨(hgi i u hu).2, by have := cEq_le (bk xs a b) u; omega⟩
      refine lv_istore (lv' := [(4, .int (nI T.length)), (0, .ref u0), (1, .int a), (2, .int b), (3, .int k)]) hx hb d_M_frequent_37 hl (by decide) rfl (fun ls hl => ?_)
      refine lv_iconst (v := 0) hx hb d_M_frequent_39 (by decide) ?_
      refine lv_istore (lv' := [(5, .int 0), (4, .int (nI T.length)), (0, .ref u0), (1, .int a), (2, .int b), (3, .int k)]) hx hb d_M_frequent_40 hl (by decide) rfl (fun ls hl => ?_)
      have loop : ∀ (n : Nat) (i : Nat) (H : Heap) (locs : List Loc) (ls : Array Slot), (i + n = T.length) → (∀ j t', j < i → T[j]? = some t' → cGe T (t' + 1) + cEq (T.take j) t' ≠ cn k) → va_S (AM u0 u1 u2 u3) s.heap H locs → va_P D vwCl [(u0, .inr (3, [.int 0, .int (nI sg), .ref u1, .int (nI xs.length), .int (nI (xs.length + ws.length)), .ref u2, .ref u3])), (u1, .inl (cI, 1000, .inl (rf))), (u2, .inl (cI, 1000, .inl (sf2))), (u3, .inl (cI, 1000, .inl (tf2)))] H → va_D (AM u0 u1 u2 u3) [(u0, .inr (3, [.int 0, .int (nI sg), .ref u1, .int (nI xs.length), .int (nI (xs.length + ws.length)), .ref u2, .ref u3])), (u1, .inl (cI, 1000, .inl (rf))), (u2, .inl (cI, 1000, .inl (sf2))), (u3, .inl (cI, 1000, .inl (tf2)))] → lv_has ls 8 [(5, .int (nI i)), (4, .int (nI T.length)), (0, .ref u0), (1, .int a), (2, .int b), (3, .int k)] → W p l e (rmK 1 0 0) s m [.ref u0, .int a, .int b, .int k].toArray below meth c H locs (0) (0) (MQ below (stQ (fun v H0 H1 => fr (AM u0 u1 u2 u3) H0 H1 ∧ (((isPt xs.length a b ∧ ¬ k < 0) ∧ MR D cI u0 u1 u2 u3 sg xs ws 0 H1 ∧ ∃ w, v = some (.int w) ∧ aFrq S T k w) ∨ (¬ (isPt xs.length a b ∧ ¬ k < 0) ∧ MR D cI u0 u1 u2 u3 sg xs ws 1 H1 ∧ ∃ w, v = some (.int w))))) [.ref u0, .int a, .int b, .int k].toArray s 0 0 (AM u0 u1 u2 u3)) (F0 m 42 ls []) := by
        intro n
        induction n with
        | zero =>
          intro i H locs ls hin hno hS hP hD hl
          have hiT : i = T.length := by omega
          refine lv_iload hx hb d_M_frequent_42 (lv_at hl 0 rfl) ?_
          refine lv_iload hx hb d_M_frequent_44 (lv_at hl 1 rfl) ?_
          refine lv_icmp_ge (tgt := 140) hx hb d_M_frequent_46 (by decide) (fun _ => ?_) (fun c9 => absurd (nI_le (by omega) (by omega)) c9)
          refine lv_iconst (v := (-1)) hx hb d_M_frequent_140 (by decide) ?_
          exact W.iret (v := -1) hx hb hr (fun t ht hW => ⟨_, rfl, by rw [ht]; exact ⟨fr.of hS, Or.inl ⟨hcd, ⟨_, _, _, hrf, hP⟩, _, rfl, Or.inr ⟨fun j t' h => hno j t' (by have := (List.getElem?_eq_some_iff.mp h).1; omega) h, rfl⟩⟩⟩⟩) hS.2.2 d_M_frequent_141
        | succ n ih =>
          intro i H locs ls hin hno hS hP hD hl
          obtain ⟨t, hti⟩ : ∃ x, T[i]? = some x := ⟨T[i], List.getElem?_eq_getElem (by omega)⟩
          obtain ⟨sy, hsi⟩ : ∃ x, S[i]? = some x := ⟨S[i], List.getElem?_eq_getElem (by omega)⟩
          obtain ⟨ht1, ht2⟩ := htf i t hti
          have hall := ahd_all (T := T) (i := i) (t := t) (by omega)
          have hb1 := cGe_le T (t + 1)
          have hb2 := cEq_le (T.take i) t
          rw [List.length_take] at hb2
          refine lv_iload hx hb d_M_frequent_42 (lv_at hl 0 rfl) ?_
          refine lv_iload hx hb d_M_frequent_44 (lv_at hl 1 rfl) ?_
          refine lv_icmp_ge (tgt := 140) hx hb d_M_frequent_46 (by decide) (fun c9 => absurd c9 (nI_ge (by omega) (by omega))) (fun _ => ?_)
          refine lv_iconst (v := 0) hx hb d_M_frequent_49 (by decide) ?_
          refine lv_istore (lv' := [(6, .int 0), (5, .int (nI i)), (4, .int (nI T.length)), (0, .ref u0), (1, .int a), (2, .int b), (3, .int k)]) hx hb d_M_frequent_50 hl (by decide) rfl (fun ls hl => ?_)
          refine lv_iconst (v := 0) hx hb d_M_frequent_52 (by decide) ?_
          refine lv_istore (lv' := [(7, .int 0), (6, .int 0), (5, .int (nI i)), (4, .int (nI T.length)), (0, .ref u0), (1, .int a), (2, .int b), (3, .int k)]) hx hb d_M_frequent_53 hl (by decide) rfl (fun ls hl => ?_)
          have loop2 : ∀ (n : Nat) (j : Nat) (H : Heap) (locs : List Loc) (ls : Array Slot), (j + n = T.length) → va_S (AM u0 u1 u2 u3) s.heap H locs → va_P D vwCl [(u0, .inr (3, [.int 0, .int (nI sg), .ref u1, .int (nI xs.length), .int (nI (xs.length + ws.length)), .ref u2, .ref u3])), (u1, .inl (cI, 1000, .inl (rf))), (u2, .inl (cI, 1000, .inl (sf2))), (u3, .inl (cI, 1000, .inl (tf2)))] H → va_D (AM u0 u1 u2 u3) [(u0, .inr (3, [.int 0, .int (nI sg), .ref u1, .int (nI xs.length), .int (nI (xs.length + ws.length)), .ref u2, .ref u3])), (u1, .inl (cI, 1000, .inl (rf))), (u2, .inl (cI, 1000, .inl (sf2))), (u3, .inl (cI, 1000, .inl (tf2)))] → lv_has ls 8 [(7, .int (nI j)), (6, .int (nI (ahd T i t j))), (5, .int (nI i)), (4, .int (nI T.length)), (0, .ref u0), (1, .int a), (2, .int b), (3, .int k)] → W p l e (rmK 1 0 0) s m [.ref u0, .int a, .int b, .int k].toArray below meth c H locs (0) (0) (MQ below (stQ (fun v H0 H1 => fr (AM u0 u1 u2 u3) H0 H1 ∧ (((isPt xs.length a b ∧ ¬ k < 0) ∧ MR D cI u0 u1 u2 u3 sg xs ws 0 H1 ∧ ∃ w, v = some (.int w) ∧ aFrq S T k w) ∨ (¬ (isPt xs.length a b ∧ ¬ k < 0) ∧ MR D cI u0 u1 u2 u3 sg xs ws 1 H1 ∧ ∃ w, v = some (.int w))))) [.ref u0, .int a, .int b, .int k].toArray s 0 0 (AM u0 u1 u2 u3)) (F0 m 55 ls []) := by
            intro n
            induction n with
            | zero =>
              intro j H locs ls hjn hS hP hD hl
              have hjT : j = T.length := by omega
              refine lv_iload hx hb d_M_frequent_55 (lv_at hl 0 rfl) ?_
              refine lv_iload hx hb d_M_frequent_57 (lv_at hl 3 rfl) ?_
              refine lv_icmp_ge (tgt := 120) hx hb d_M_frequent_59 (by decide) (fun _ => ?_) (fun c9 => absurd (nI_le (by omega) (by omega)) c9)
              refine lv_iload hx hb d_M_frequent_120 (lv_at hl 1 rfl) ?_
              refine lv_iload_n hx hb d_M_frequent_122 rfl (lv_at hl 7 rfl) ?_
              rw [hjT, hall]
              refine W.eq (g2 := F0 m 123 ls [.int k, .int (nI (cGe T (t + 1) + cEq (T.take i) t))]) rfl ?_
              by_cases hkt : cGe T (t + 1) + cEq (T.take i) t = cn k
              · refine lv_icmp_ne (tgt := 134) hx hb d_M_frequent_123 (by decide) (fun c9 => absurd (by rw [hke, ← hkt]) c9) (fun _ => ?_)
                refine lv_aload_n hx hb d_M_frequent_126 rfl (lv_at hl 4 rfl) ?_
                refine va_get (D := D) (ci := 3) (v := .ref u2) (C := n_M) (T := f_M) (N := 7) hx hb hts in_M hown hK hP 0 rfl rfl 5 (by decide) (hts _ x_442) (fun _ h9 => h9) rfl d_M_frequent_127 ?_
                refine lv_iload hx hb d_M_frequent_130 (lv_at hl 2 rfl) ?_
                refine va_iald hx hb hK hP 2 0 rfl rfl (vp_in_nI (by omega) (by decide)) d_M_frequent_132 ?_
                refine ct_topi (x' := nI sy) (by rw [nI_clamp (by omega)]; exact (hgi i sy hsi).1) ?_
                exact W.iret (v := nI sy) hx hb hr (fun t ht hW => ⟨_, rfl, by rw [ht]; exact ⟨fr.of hS, Or.inl ⟨hcd, ⟨_, _, _, hrf, hP⟩, _, rfl, Or.inl ⟨i, sy, _, hsi, hti, hkt, hno, rfl⟩⟩⟩⟩) hS.2.2 d_M_frequent_133
              · refine lv_icmp_ne (tgt := 134) hx hb d_M_frequent_123 (by decide) (fun _ => ?_) (fun c9 => absurd c9 (fun h9 => hkt ((nI_eq (by omega) hk31).mp (h9.trans hke))))
                refine lv_iinc (v := nI (i + 1)) (lv' := [(5, .int (nI (i + 1))), (7, .int (nI j)), (6, .int (nI (ahd T i t j))), (4, .int (nI T.length)), (0, .ref u0), (1, .int a), (2, .int b), (3, .int k)]) hx hb d_M_frequent_134 hl (k := 2) rfl ((nI_succ i).symm) (by decide) rfl (fun ls hl => ?_)
                refine lv_goto (tgt := 42) hx hb d_M_frequent_137 (by decide) ?_
                refine ih (i + 1) H _ ls (by omega) (fun j t' hj htj => ?_) hS hP (hu.D _ _ _ _) (lv_sub hl [0, 3, 4, 5, 6, 7] rfl)
                rcases Nat.lt_or_ge j i with h8 | h8
                · exact hno j t' h8 htj
                · have e9 : j = i := by omega
                  subst e9
                  rw [hti] at htj
                  cases htj
                  exact hkt
            | succ n ih2 =>
              intro j H locs ls hjn hS hP hD hl
              obtain ⟨u, huj⟩ : ∃ x, T[j]? = some x := ⟨T[j], List.getElem?_eq_getElem (by omega)⟩
              obtain ⟨hu1, hu2⟩ := htf j u huj
              have hst := ahd_step (i := i) (t := t) huj
              refine lv_iload hx hb d_M_frequent_55 (lv_at hl 0 rfl) ?_
              refine lv_iload hx hb d_M_frequent_57 (lv_at hl 3 rfl) ?_
              refine lv_icmp_ge (tgt := 120) hx hb d_M_frequent_59 (by decide) (fun c9 => absurd c9 (nI_ge (by omega) (by omega))) (fun _ => ?_)
              refine lv_aload_n hx hb d_M_frequent_62 rfl (lv_at hl 4 rfl) ?_
              refine va_get (D := D) (ci := 3) (v := .ref u3) (C := n_M) (T := f_M) (N := 7) hx hb hts in_M hown hK hP 0 rfl rfl 6 (by decide) (hts _ x_443) (fun _ h9 => h9) rfl d_M_frequent_63 ?_
              refine lv_iload hx hb d_M_frequent_66 (lv_at hl 0 rfl) ?_
              refine va_iald hx hb hK hP 3 0 rfl rfl (vp_in_nI (by omega) (by decide)) d_M_frequent_68 ?_
              refine ct_topi (x' := nI u) (by rw [nI_clamp (by omega)]; exact hu1) ?_
              refine lv_aload_n hx hb d_M_frequent_69 rfl (lv_at hl 4 rfl) ?_
              refine va_get (D := D) (ci := 3) (v := .ref u3) (C := n_M) (T := f_M) (N := 7) hx hb hts in_M hown hK hP 0 rfl rfl 6 (by decide) (hts _ x_443) (fun _ h9 => h9) rfl d_M_frequent_70 ?_
              refine lv_iload hx hb d_M_frequent_73 (lv_at hl 2 rfl) ?_
              refine va_iald hx hb hK hP 3 0 rfl rfl (vp_in_nI (by omega) (by decide)) d_M_frequent_75 ?_
              refine ct_topi (x' := nI t) (by rw [nI_clamp (by omega)]; exact ht1) ?_
              rcases Nat.lt_or_ge t u with h5 | h5
              · refine lv_icmp_gt (tgt := 103) hx hb d_M_frequent_76 (by decide) (fun _ => ?_) (fun c9 => absurd (nI_lt h5 (by omega)) c9)
                rw [if_pos (Or.inl h5)] at hst
                refine lv_iload hx hb d_M_frequent_103 (lv_at hl 1 rfl) ?_
                refine lv_iconst (v := 1) hx hb d_M_frequent_105 (by decide) ?_
                refine lv_iadd hx hb d_M_frequent_106 ?_
                refine lv_goto (tgt := 112) hx hb d_M_frequent_107 (by decide) ?_
                refine ct_topi (x' := nI (ahd T i t (j + 1))) (by rw [hst]; exact (nI_succ _).symm) ?_
                refine lv_istore (lv' := [(6, .int (nI (ahd T i t (j + 1)))), (7, .int (nI j)), (5, .int (nI i)), (4, .int (nI T.length)), (0, .ref u0), (1, .int a), (2, .int b), (3, .int k)]) hx hb d_M_frequent_112 hl (by decide) rfl (fun ls hl => ?_)
                refine lv_iinc (v := nI (j + 1)) (lv' := [(7, .int (nI (j + 1))), (6, .int (nI (ahd T i t (j + 1)))), (5, .int (nI i)), (4, .int (nI T.length)), (0, .ref u0), (1, .int a), (2, .int b), (3, .int k)]) hx hb d_M_frequent_114 hl (k := 1) rfl ((nI_succ j).symm) (by decide) rfl (fun ls hl => ?_)
                refine lv_goto (tgt := 55) hx hb d_M_frequent_117 (by decide) ?_
                exact ih2 (j + 1) H _ ls (by omega) hS hP (hu.D _ _ _ _) (lv_sub hl [0, 1, 2, 3, 4, 5, 6, 7] rfl)
              · refine lv_icmp_gt (tgt := 103) hx hb d_M_frequent_76 (by decide) (fun c9 => absurd c9 (nI_nlt h5 (by omega))) (fun _ => ?_)
                refine lv_aload_n hx hb d_M_frequent_79 rfl (lv_at hl 4 rfl) ?_
                refine va_get (D := D) (ci := 3) (v := .ref u3) (C := n_M) (T := f_M) (N := 7) hx hb hts in_M hown hK hP 0 rfl rfl 6 (by decide) (hts _ x_443) (fun _ h9 => h9) rfl d_M_frequent_80 ?_
                refine lv_iload hx hb d_M_frequent_83 (lv_at hl 0 rfl) ?_
                refine va_iald hx hb hK hP 3 0 rfl rfl (vp_in_nI (by omega) (by decide)) d_M_frequent_85 ?_
                refine ct_topi (x' := nI u) (by rw [nI_clamp (by omega)]; exact hu1) ?_
                refine lv_aload_n hx hb d_M_frequent_86 rfl (lv_at hl 4 rfl) ?_
                refine va_get (D := D) (ci := 3) (v := .ref u3) (C := n_M) (T := f_M) (N := 7) hx hb hts in_M hown hK hP 0 rfl rfl 6 (by decide) (hts _ x_443) (fun _ h9 => h9) rfl d_M_frequent_87 ?_
                refine lv_iload hx hb d_M_frequent_90 (lv_at hl 2 rfl) ?_
                refine va_iald hx hb hK hP 3 0 rfl rfl (vp_in_nI (by omega) (by decide)) d_M_frequent_92 ?_
                refine ct_topi (x' := nI t) (by rw [nI_clamp (by omega)]; exact ht1) ?_
                by_cases h6 : u = t
                · refine lv_icmp_ne (tgt := 110) hx hb d_M_frequent_93 (by decide) (fun c9 => absurd (by rw [h6]) c9) (fun _ => ?_)
                  refine lv_iload hx hb d_M_frequent_96 (lv_at hl 0 rfl) ?_
                  refine lv_iload hx hb d_M_frequent_98 (lv_at hl 2 rfl) ?_
                  rcases Nat.lt_or_ge j i with h7 | h7
                  · refine lv_icmp_ge (tgt := 110) hx hb d_M_frequent_100 (by decide) (fun c9 => absurd c9 (nI_ge h7 (by omega))) (fun _ => ?_)
                    rw [if_pos (Or.inr ⟨h6, h7⟩)] at hst
                    refine lv_iload hx hb d_M_frequent_103 (lv_at hl 1 rfl) ?_
                    refine lv_iconst (v := 1) hx hb d_M_frequent_105 (by decide) ?_
                    refine lv_iadd hx hb d_M_frequent_106 ?_
                    refine lv_goto (tgt := 112) hx hb d_M_frequent_107 (by decide) ?_
                    refine ct_topi (x' := nI (ahd T i t (j + 1))) (by rw [hst]; exact (nI_succ _).symm) ?_
                    refine lv_istore (lv' := [(6, .int (nI (ahd T i t (j + 1)))), (7, .int (nI j)), (5, .int (nI i)), (4, .int (nI T.length)), (0, .ref u0), (1, .int a), (2, .int b), (3, .int k)]) hx hb d_M_frequent_112 hl (by decide) rfl (fun ls hl => ?_)
                    refine lv_iinc (v := nI (j + 1)) (lv' := [(7, .int (nI (j + 1))), (6, .int (nI (ahd T i t (j + 1)))), (5, .int (nI i)), (4, .int (nI T.length)), (0, .ref u0), (1, .int a), (2, .int b), (3, .int k)]) hx hb d_M_frequent_114 hl (k := 1) rfl ((nI_succ j).symm) (by decide) rfl (fun ls hl => ?_)
                    refine lv_goto (tgt := 55) hx hb d_M_frequent_117 (by decide) ?_
                    exact ih2 (j + 1) H _ ls (by omega) hS hP (hu.D _ _ _ _) (lv_sub hl [0, 1, 2, 3, 4, 5, 6, 7] rfl)
                  · refine lv_icmp_ge (tgt := 110) hx hb d_M_frequent_100 (by decide) (fun _ => ?_) (fun c9 => absurd (nI_le h7 (by omega)) c9)
                    rw [if_neg (by omega)] at hst
                    refine lv_iload hx hb d_M_frequent_110 (lv_at hl 1 rfl) ?_
                    refine ct_topi (x' := nI (ahd T i t (j + 1))) (by rw [hst]; rfl) ?_
                    refine lv_istore (lv' := [(6, .int (nI (ahd T i t (j + 1)))), (7, .int (nI j)), (5, .int (nI i)), (4, .int (nI T.length)), (0, .ref u0), (1, .int a), (2, .int b), (3, .int k)]) hx hb d_M_frequent_112 hl (by decide) rfl (fun ls hl => ?_)
                    refine lv_iinc (v := nI (j + 1)) (lv' := [(7, .int (nI (j + 1))), (6, .int (nI (ahd T i t (j + 1)))), (5, .int (nI i)), (4, .int (nI T.length)), (0, .ref u0), (1, .int a), (2, .int b), (3, .int k)]) hx hb d_M_frequent_114 hl (k := 1) rfl ((nI_succ j).symm) (by decide) rfl (fun ls hl => ?_)
                    refine lv_goto (tgt := 55) hx hb d_M_frequent_117 (by decide) ?_
                    exact ih2 (j + 1) H _ ls (by omega) hS hP (hu.D _ _ _ _) (lv_sub hl [0, 1, 2, 3, 4, 5, 6, 7] rfl)
                · refine lv_icmp_ne (tgt := 110) hx hb d_M_frequent_93 (by decide) (fun _ => ?_) (fun c9 => absurd c9 (fun h9 => h6 ((nI_eq (by omega) (by omega)).mp h9)))
                  rw [if_neg (by omega)] at hst
                  refine lv_iload hx hb d_M_frequent_110 (lv_at hl 1 rfl) ?_
                  refine ct_topi (x' := nI (ahd T i t (j + 1))) (by rw [hst]; rfl) ?_
                  refine lv_istore (lv' := [(6, .int (nI (ahd T i t (j + 1)))), (7, .int (nI j)), (5, .int (nI i)), (4, .int (nI T.length)), (0, .ref u0), (1, .int a), (2, .int b), (3, .int k)]) hx hb d_M_frequent_112 hl (by decide) rfl (fun ls hl => ?_)
                  refine lv_iinc (v := nI (j + 1)) (lv' := [(7, .int (nI (j + 1))), (6, .int (nI (ahd T i t (j + 1)))), (5, .int (nI i)), (4, .int (nI T.length)), (0, .ref u0), (1, .int a), (2, .int b), (3, .int k)]) hx hb d_M_frequent_114 hl (k := 1) rfl ((nI_succ j).symm) (by decide) rfl (fun ls hl => ?_)
                  refine lv_goto (tgt := 55) hx hb d_M_frequent_117 (by decide) ?_
                  exact ih2 (j + 1) H _ ls (by omega) hS hP (hu.D _ _ _ _) (lv_sub hl [0, 1, 2, 3, 4, 5, 6, 7] rfl)
          exact loop2 T.length 0 H _ ls (by omega) hS hP (hu.D _ _ _ _) (by rw [ahd_0]; exact (lv_sub hl [0, 1, 2, 3, 4, 5, 6, 7] rfl))
      exact loop T.length 0 H _ ls (by omega) (fun j t' hj => absurd hj (Nat.not_lt_zero j)) hS hP (hu.D _ _ _ _) (lv_sub hl [0, 1, 2, 3, 4, 5] rfl)
  · refine lv_if_eq (tgt := 18) hx hb d_M_frequent_7 (by decide) (fun _ => ?_) (fun c9 => absurd (rfl) c9)
    refine lv_iconst (v := 1) hx hb d_M_frequent_18 (by decide) ?_
    refine va_put (D := D) (ci := 3) (v := .int 1) (ty := .int) (C := n_M) (T := f_M) (N := 7) hx hb hts in_M t_M ty_M nm_M hown hK hP hD hS 0 rfl rfl 0 (by decide) (hts _ x_437) (fun _ h9 => h9) rfl (by decide +kernel) rfl rfl (Nat.le_of_ble_eq_true rfl) d_M_frequent_19 (fun H locs hP hD hS => ?_)
    have hP : va_P D vwCl [(u0, .inr (3, [.int 1, .int (nI sg), .ref u1, .int (nI xs.length), .int (nI (xs.length + ws.length)), .ref u2, .ref u3])), (u1, .inl (cI, 1000, .inl (rf))), (u2, .inl (cI, 1000, .inl (sf))), (u3, .inl (cI, 1000, .inl (tf)))] H := hP
    have hD : va_D (AM u0 u1 u2 u3) [(u0, .inr (3, [.int 1, .int (nI sg), .ref u1, .int (nI xs.length), .int (nI (xs.length + ws.length)), .ref u2, .ref u3])), (u1, .inl (cI, 1000, .inl (rf))), (u2, .inl (cI, 1000, .inl (sf))), (u3, .inl (cI, 1000, .inl (tf)))] := hD
    refine lv_aload_n hx hb d_M_frequent_22 rfl (lv_at hl 0 rfl) ?_
    refine va_get (D := D) (ci := 3) (v := .int 1) (C := n_M) (T := f_M) (N := 7) hx hb hts in_M hown hK hP 0 rfl rfl 0 (by decide) (hts _ x_437) (fun _ h9 => h9) rfl d_M_frequent_23 ?_
    refine lv_if_le (tgt := 31) hx hb d_M_frequent_26 (by decide) (fun c9 => absurd c9 (by decide)) (fun _ => ?_)
    refine lv_iconst (v := 0) hx hb d_M_frequent_29 (by decide) ?_
    exact W.iret (v := 0) hx hb hr (fun t ht hW => ⟨_, rfl, by rw [ht]; exact ⟨fr.of hS, Or.inr ⟨fun h => hs h.1, ⟨_, _, _, hrf, hP⟩, _, rfl⟩⟩⟩) hS.2.2 d_M_frequent_30
