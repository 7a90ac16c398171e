/-! Level.store. -/
set_option maxHeartbeats 4000000 in
set_option maxRecDepth 100000 in
theorem m_L_store {l : Launch} {D : va_G} {cI cJ cS cO : ClassId} {B0 : Nat} {a0 a1 a2 ar ax : Nat} {ja : Nat → Int64} {oa : Nat → Int32} {z : Int32} {rf sf : Nat → Int32} {t : Nat → Bool} {L : List Nat} {sh : Nat} (hsh : sh < 16) (htt : ∀ x, t x = decide (x / 2 ^ sh % 2 = 1)) (hL : L.length ≤ 1000) (hx16 : ∀ x ∈ L, x < 65536) (hr0 : ∀ i x, L[i]? = some x → rf i = nI x) (hD : va_D (fun q => q = a0 ∨ q = a1 ∨ q = a2 ∨ q = ar ∨ q = ax) [(a0, .inr (0, [.ref a1, .ref a2, .int z])), (a1, .inl (cJ, 16, .inr (.inl (ja)))), (a2, .inl (cS, 16, .inl (oa))), (ar, .inl (cI, 1000, .inl (rf))), (ax, .inl (cI, 1000, .inl (sf)))]) (hAB : ∀ q, (fun q => q = a0 ∨ q = a1 ∨ q = a2 ∨ q = ar ∨ q = ax) q → B0 ≤ q) : CM l D (tyL cI cJ cS cO) B0 y_L_store c_L_store 9 none (rmK 1 0 0) [.ref a0, .ref ar, .int (nI L.length), .int (nI sh), .ref ax] (fun H => va_P D vwCl [(a0, .inr (0, [.ref a1, .ref a2, .int z])), (a1, .inl (cJ, 16, .inr (.inl (ja)))), (a2, .inl (cS, 16, .inl (oa))), (ar, .inl (cI, 1000, .inl (rf))), (ax, .inl (cI, 1000, .inl (sf)))] H) (fun v H0 H1 => v = none ∧ fr (fun q => q = a0 ∨ q = a1 ∨ q = a2 ∨ q = ar ∨ q = ax) H0 H1 ∧ ∃ ja oa rf sf, LvOk t L ja oa (nI (z0 t L L.length)) ∧ (∀ i x, (wpart t L)[i]? = some x → rf i = nI x) ∧ va_P D vwCl [(a0, .inr (0, [.ref a1, .ref a2, .int (nI (z0 t L L.length))])), (a1, .inl (cJ, 16, .inr (.inl (ja)))), (a2, .inl (cS, 16, .inl (oa))), (ar, .inl (cI, 1000, .inl (rf))), (ax, .inl (cI, 1000, .inl (sf)))] H1) 0 0 (fun q => q = a0 ∨ q = a1 ∨ q = a2 ∨ q = ar ∨ q = ax) := by
  refine cm_of (by decide) (Nat.le_of_ble_eq_true rfl) ?_
  intro p e s m below meth c ls hx hb hr hml hown hts hlocks hnm hE hpre hl
  have hown : s.vm.findClass "LevelRows$Level" = some m.cls := hown
  have hK := hE.1
  have hl : lv_has ls 9 [(0, .ref a0), (1, .ref ar), (2, .int (nI L.length)), (3, .int (nI sh)), (4, .ref ax)] := hl
  have hS : va_S (fun q => q = a0 ∨ q = a1 ∨ q = a2 ∨ q = ar ∨ q = ax) s.heap s.heap [] := va_S.rf
  have hP : va_P D vwCl [(a0, .inr (0, [.ref a1, .ref a2, .int z])), (a1, .inl (cJ, 16, .inr (.inl (ja)))), (a2, .inl (cS, 16, .inl (oa))), (ar, .inl (cI, 1000, .inl (rf))), (ax, .inl (cI, 1000, .inl (sf)))] s.heap := hpre
  refine lv_aload_n hx hb d_L_store_0 rfl (lv_at hl 0 rfl) ?_
  refine va_get (D := D) (ci := 0) (v := .ref a1) (C := n_L) (T := f_L) (N := 3) hx hb hts in_L hown hK hP 0 rfl rfl 0 (by decide) (hts _ x_69) (fun _ h9 => h9) rfl d_L_store_1 ?_
  refine lv_lconst (v := 0) hx hb d_L_store_4 (by decide) ?_
  refine cm_ret (va_runS (As := [.ref a1, .long 0]) (rest := []) ⟨hx, hb, hml, hown, hts⟩ (m_A_fillJ (N := 16) (g := ja) (by decide) 0) ⟨ct_cb 2 hts x_158 x_156 x_14 rfl rfl (by decide +kernel) ⟨by decide, by decide⟩, hts _ x_157⟩ ⟨st_blind, fun U hU hW => ⟨rfl, hE.at hS hAB hU hW, by rw [hU]; exact hP.sub [1] rfl⟩⟩ rfl rfl hl.1 rfl (lv_room (Nat.le_of_ble_eq_true rfl)) d_L_store_5 ⟨by decide, by decide⟩) hS (fun q h => Or.inr (Or.inl h)) (fun _ _ h => h.2.1) (fun v H locs hv hS => ?_)
  obtain ⟨rfl, hfr, g, hg, hP1⟩ := hv
  refine W.eq (g2 := F0 m 8 ls []) rfl ?_
  have hP : va_P D vwCl [(a0, .inr (0, [.ref a1, .ref a2, .int z])), (a1, .inl (cJ, 16, .inr (.inl (g)))), (a2, .inl (cS, 16, .inl (oa))), (ar, .inl (cI, 1000, .inl (rf))), (ax, .inl (cI, 1000, .inl (sf)))] H := va_P.wset (p := 1) hP hD rfl hP1 hfr
  have hD : va_D (fun q => q = a0 ∨ q = a1 ∨ q = a2 ∨ q = ar ∨ q = ax) [(a0, .inr (0, [.ref a1, .ref a2, .int z])), (a1, .inl (cJ, 16, .inr (.inl (g)))), (a2, .inl (cS, 16, .inl (oa))), (ar, .inl (cI, 1000, .inl (rf))), (ax, .inl (cI, 1000, .inl (sf)))] := va_D.set (p := 1) hD rfl
  refine lv_aload_n hx hb d_L_store_8 rfl (lv_at hl 0 rfl) ?_
  refine lv_iconst (v := 0) hx hb d_L_store_9 (by decide) ?_
  refine va_put (D := D) (ci := 0) (v := .int 0) (ty := .int) (C := n_L) (T := f_L) (N := 3) hx hb hts in_L t_L ty_L nm_L hown hK hP hD hS 0 rfl rfl 2 (by decide) (hts _ x_71) (fun _ h9 => h9) rfl (by decide +kernel) rfl rfl (Nat.le_of_ble_eq_true rfl) d_L_store_10 (fun H locs hP hD hS => ?_)
  have hP : va_P D vwCl [(a0, .inr (0, [.ref a1, .ref a2, .int 0])), (a1, .inl (cJ, 16, .inr (.inl (g)))), (a2, .inl (cS, 16, .inl (oa))), (ar, .inl (cI, 1000, .inl (rf))), (ax, .inl (cI, 1000, .inl (sf)))] H := hP
  have hD : va_D (fun q => q = a0 ∨ q = a1 ∨ q = a2 ∨ q = ar ∨ q = ax) [(a0, .inr (0, [.ref a1, .ref a2, .int 0])), (a1, .inl (cJ, 16, .inr (.inl (g)))), (a2, .inl (cS, 16, .inl (oa))), (ar, .inl (cI, 1000, .inl (rf))), (ax, .inl (cI, 1000, .inl (sf)))] := hD
  refine lv_iconst (v := 0) hx hb d_L_store_13 (by decide) ?_
  refine lv_istore (lv' := [(5, .int 0), (0, .ref a0), (1, .ref ar), (2, .int (nI L.length)), (3, .int (nI sh)), (4, .ref ax)]) hx hb d_L_store_14 hl (by decide) rfl (fun ls hl => ?_)
  refine lv_iconst (v := 0) hx hb d_L_store_16 (by decide) ?_
  refine lv_istore (lv' := [(6, .int 0), (5, .int 0), (0, .ref a0), (1, .ref ar), (2, .int (nI L.length)), (3, .int (nI sh)), (4, .ref ax)]) hx hb d_L_store_17 hl (by decide) rfl (fun ls hl => ?_)
  have loop : ∀ (n : Nat) (k : Nat) (ja : Nat → Int64) (oa : Nat → Int32) (rf : Nat → Int32) (sf : Nat → Int32) (H : Heap) (locs : List Loc) (ls : Array Slot), (k + n = L.length) → (StI t L k k ja oa rf sf) → va_S (fun q => q = a0 ∨ q = a1 ∨ q = a2 ∨ q = ar ∨ q = ax) s.heap H locs → va_P D vwCl [(a0, .inr (0, [.ref a1, .ref a2, .int (nI (z0 t L k))])), (a1, .inl (cJ, 16, .inr (.inl (ja)))), (a2, .inl (cS, 16, .inl (oa))), (ar, .inl (cI, 1000, .inl (rf))), (ax, .inl (cI, 1000, .inl (sf)))] H → va_D (fun q => q = a0 ∨ q = a1 ∨ q = a2 ∨ q = ar ∨ q = ax) [(a0, .inr (0, [.ref a1, .ref a2, .int (nI (z0 t L k))])), (a1, .inl (cJ, 16, .inr (.inl (ja)))), (a2, .inl (cS, 16, .inl (oa))), (ar, .inl (cI, 1000, .inl (rf))), (ax, .inl (cI, 1000, .inl (sf)))] → lv_has ls 9 [(6, .int (nI k)), (5, .int (nI (z1 t L k))), (0, .ref a0), (1, .ref ar), (2, .int (nI L.length)), (3, .int (nI sh)), (4, .ref ax)] → W p l e (rmK 1 0 0) s m [.ref a0, .ref ar, .int (nI L.length), .int (nI sh), .ref ax].toArray below meth c H locs (0) (0) (MQ below (stQ (fun v H0 H1 => v = none ∧ fr (fun q => q = a0 ∨ q = a1 ∨ q = a2 ∨ q = ar ∨ q = ax) H0 H1 ∧ ∃ ja oa rf sf, LvOk t L ja oa (nI (z0 t L L.length)) ∧ (∀ i x, (wpart t L)[i]? = some x → rf i = nI x) ∧ va_P D vwCl [(a0, .inr (0, [.ref a1, .ref a2, .int (nI (z0 t L L.length))])), (a1, .inl (cJ, 16, .inr (.inl (ja)))), (a2, .inl (cS, 16, .inl (oa))), (ar, .inl (cI, 1000, .inl (rf))), (ax, .inl (cI, 1000, .inl (sf)))] H1)) [.ref a0, .ref ar, .int (nI L.length), .int (nI sh), .ref ax].toArray s 0 0 (fun q => q = a0 ∨ q = a1 ∨ q = a2 ∨ q = ar ∨ q = ax)) (F0 m 19 ls []) := by
    intro n
    induction n with
    | zero =>
      intro k ja oa rf sf H locs ls hin hI hS hP hD hl
      have hpL : k = L.length := by omega
      have hz := z01 t (show k ≤ L.length by omega)
      refine lv_iload hx hb d_L_store_19 (lv_at hl 0 rfl) ?_
      refine lv_iload_n hx hb d_L_store_21 rfl (lv_at hl 4 rfl) ?_
      refine lv_icmp_ge (tgt := 119) hx hb d_L_store_22 (by decide) (fun _ => ?_) (fun c9 => absurd (nI_le (by omega) (by omega)) c9)
      refine lv_aload hx hb d_L_store_119 (lv_at hl 6 rfl) ?_
      refine lv_iconst (v := 0) hx hb d_L_store_121 (by decide) ?_
      refine lv_aload_n hx hb d_L_store_122 rfl (lv_at hl 3 rfl) ?_
      refine lv_aload_n hx hb d_L_store_123 rfl (lv_at hl 2 rfl) ?_
      refine va_get (D := D) (ci := 0) (v := .int (nI (z0 t L k))) (C := n_L) (T := f_L) (N := 3) hx hb hts in_L hown hK hP 0 rfl rfl 2 (by decide) (hts _ x_71) (fun _ h9 => h9) rfl d_L_store_124 ?_
      refine lv_iload hx hb d_L_store_127 (lv_at hl 1 rfl) ?_
      refine va_copyi hx hb (by rw [hml]; exact hl.1.symm) hown (hts _ x_159) (hts _ x_161) (hts _ x_160) (hts _ x_15) hK hP hD hS 4 3 0 0 rfl rfl rfl rfl rfl (by decide) (nI_pos (by omega)) (nI_pos (by omega)) (by rw [nI_clamp (by omega)]; show 0 + _ ≤ _; omega) (by rw [nI_clamp (by omega), nI_clamp (by omega)]; omega) (fun _ _ => rfl) (by decide) (Nat.le_of_ble_eq_true rfl) d_L_store_129 (fun H locs hP hD hS => ?_)
      rw [nI_clamp (by omega), nI_clamp (by omega)] at hP
      subst hpL
      refine W.eq (g2 := F0 m 132 ls []) rfl ?_
      exact W.vret hx hb hr (fun t ht hW => ⟨_, rfl, by rw [ht]; exact ⟨rfl, fr.of hS, _, _, _, _, hI.done.1, hI.done.2, hP⟩⟩) hS.2.2 d_L_store_132
    | succ n ih =>
      intro k ja oa rf sf H locs ls hin hI hS hP hD hl
      obtain ⟨x, hxp⟩ : ∃ x, L[k]? = some x := ⟨L[k], List.getElem?_eq_getElem (by omega)⟩
      have hx1 := hx16 x (List.mem_of_getElem? hxp)
      have hz := z01 t (show k ≤ L.length by omega)
      refine lv_iload hx hb d_L_store_19 (lv_at hl 0 rfl) ?_
      refine lv_iload_n hx hb d_L_store_21 rfl (lv_at hl 4 rfl) ?_
      refine lv_icmp_ge (tgt := 119) hx hb d_L_store_22 (by decide) (fun c9 => absurd c9 (nI_ge (by omega) (by omega))) (fun _ => ?_)
      refine lv_iload hx hb d_L_store_25 (lv_at hl 0 rfl) ?_
      refine lv_bipush (v := 6) hx hb d_L_store_27 (by decide) ?_
      refine lv_ishr hx hb d_L_store_29 ?_
      refine ct_topi (x' := nI (k / 64)) (pk_shrN (by omega) _ 6 (by decide)) ?_
      refine lv_istore (lv' := [(7, .int (nI (k / 64))), (6, .int (nI k)), (5, .int (nI (z1 t L k))), (0, .ref a0), (1, .ref ar), (2, .int (nI L.length)), (3, .int (nI sh)), (4, .ref ax)]) hx hb d_L_store_30 hl (by decide) rfl (fun ls hl => ?_)
      refine lv_iload hx hb d_L_store_32 (lv_at hl 1 rfl) ?_
      refine lv_bipush (v := 64) hx hb d_L_store_34 (by decide) ?_
      refine lv_irem hx hb d_L_store_36 (by decide) ?_
      refine ct_topi (x' := nI (k % 64)) (pk_rem (d := 64) (by omega) (by decide) (by decide)) ?_
      have rest : ∀ (oa : Nat → Int32) (H : Heap) (locs : List Loc) (ls : Array Slot), (StI t L k (k + 1) ja oa rf sf) → va_S (fun q => q = a0 ∨ q = a1 ∨ q = a2 ∨ q = ar ∨ q = ax) s.heap H locs → va_P D vwCl [(a0, .inr (0, [.ref a1, .ref a2, .int (nI (z0 t L k))])), (a1, .inl (cJ, 16, .inr (.inl (ja)))), (a2, .inl (cS, 16, .inl (oa))), (ar, .inl (cI, 1000, .inl (rf))), (ax, .inl (cI, 1000, .inl (sf)))] H → va_D (fun q => q = a0 ∨ q = a1 ∨ q = a2 ∨ q = ar ∨ q = ax) [(a0, .inr (0, [.ref a1, .ref a2, .int (nI (z0 t L k))])), (a1, .inl (cJ, 16, .inr (.inl (ja)))), (a2, .inl (cS, 16, .inl (oa))), (ar, .inl (cI, 1000, .inl (rf))), (ax, .inl (cI, 1000, .inl (sf)))] → lv_has ls 9 [(7, .int (nI (k / 64))), (6, .int (nI k)), (5, .int (nI (z1 t L k))), (0, .ref a0), (1, .ref ar), (2, .int (nI L.length)), (3, .int (nI sh)), (4, .ref ax)] → W p l e (rmK 1 0 0) s m [.ref a0, .ref ar, .int (nI L.length), .int (nI sh), .ref ax].toArray below meth c H locs (0) (0) (MQ below (stQ (fun v H0 H1 => v = none ∧ fr (fun q => q = a0 ∨ q = a1 ∨ q = a2 ∨ q = ar ∨ q = ax) H0 H1 ∧ ∃ ja oa rf sf, LvOk t L ja oa (nI (z0 t L L.length)) ∧ (∀ i x, (wpart t L)[i]? = some x → rf i = nI x) ∧ va_P D vwCl [(a0, .inr (0, [.ref a1, .ref a2, .int (nI (z0 t L L.length))])), (a1, .inl (cJ, 16, .inr (.inl (ja)))), (a2, .inl (cS, 16, .inl (oa))), (ar, .inl (cI, 1000, .inl (rf))), (ax, .inl (cI, 1000, .inl (sf)))] H1)) [.ref a0, .ref ar, .int (nI L.length), .int (nI sh), .ref ax].toArray s 0 0 (fun q => q = a0 ∨ q = a1 ∨ q = a2 ∨ q = ar ∨ q = ax)) (F0 m 50 ls []) := by
        intro oa H locs ls hI hS hP hD hl
        refine lv_aload_n hx hb d_L_store_50 rfl (lv_at hl 4 rfl) ?_
        refine lv_iload hx hb d_L_store_51 (lv_at hl 1 rfl) ?_
        refine va_iald hx hb hK hP 3 0 rfl rfl (vp_in_nI (by omega) (by decide)) d_L_store_53 ?_
        refine ct_topi (x' := nI x) (by rw [nI_clamp (by omega)]; exact hI.2.2.2.2.1 k x (Nat.le_refl _) hxp) ?_
        refine lv_istore (lv' := [(8, .int (nI x)), (7, .int (nI (k / 64))), (6, .int (nI k)), (5, .int (nI (z1 t L k))), (0, .ref a0), (1, .ref ar), (2, .int (nI L.length)), (3, .int (nI sh)), (4, .ref ax)]) hx hb d_L_store_54 hl (by decide) rfl (fun ls hl => ?_)
        refine lv_iload hx hb d_L_store_56 (lv_at hl 0 rfl) ?_
        refine lv_iload_n hx hb d_L_store_58 rfl (lv_at hl 7 rfl) ?_
        refine lv_ishr hx hb d_L_store_59 ?_
        refine ct_topi (x' := nI (x / 2 ^ sh)) (sh_bit (by omega) (by omega)) ?_
        refine lv_iconst (v := 1) hx hb d_L_store_60 (by decide) ?_
        refine lv_iand hx hb d_L_store_61 ?_
        refine ct_topi (x' := nI (x / 2 ^ sh % 2)) (nI_and1 _) ?_
        have hbx := htt x
        cases htx : t x with
        | false =>
          rw [htx] at hbx
          have hb0 : x / 2 ^ sh % 2 = 0 := by have := of_decide_eq_false hbx.symm; omega
          have e1 : z1 t L (k + 1) = z1 t L k := by rw [z1_succ t hxp, htx]; rfl
          refine lv_if_ne (tgt := 86) hx hb d_L_store_62 (by decide) (fun c9 => absurd (by rw [hb0]; rfl) c9) (fun _ => ?_)
          refine lv_aload_n hx hb d_L_store_65 rfl (lv_at hl 5 rfl) ?_
          refine lv_aload_n hx hb d_L_store_66 rfl (lv_at hl 4 rfl) ?_
          refine va_get (D := D) (ci := 0) (v := .int (nI (z0 t L k))) (C := n_L) (T := f_L) (N := 3) hx hb hts in_L hown hK hP 0 rfl rfl 2 (by decide) (hts _ x_71) (fun _ h9 => h9) rfl d_L_store_67 ?_
          refine lv_iload hx hb d_L_store_70 (lv_at hl 0 rfl) ?_
          refine va_iast hx hb hK hP hD hS 3 0 rfl rfl (vp_in_nI (by omega) (by decide)) d_L_store_72 (fun H locs hP hD hS => ?_)
          rw [nI_clamp (by omega)] at hP hD
          have hP : va_P D vwCl [(a0, .inr (0, [.ref a1, .ref a2, .int (nI (z0 t L k))])), (a1, .inl (cJ, 16, .inr (.inl (ja)))), (a2, .inl (cS, 16, .inl (oa))), (ar, .inl (cI, 1000, .inl (upd rf (z0 t L k) (nI x)))), (ax, .inl (cI, 1000, .inl (sf)))] H := hP
          have hD : va_D (fun q => q = a0 ∨ q = a1 ∨ q = a2 ∨ q = ar ∨ q = ax) [(a0, .inr (0, [.ref a1, .ref a2, .int (nI (z0 t L k))])), (a1, .inl (cJ, 16, .inr (.inl (ja)))), (a2, .inl (cS, 16, .inl (oa))), (ar, .inl (cI, 1000, .inl (upd rf (z0 t L k) (nI x)))), (ax, .inl (cI, 1000, .inl (sf)))] := hD
          refine lv_aload_n hx hb d_L_store_73 rfl (lv_at hl 4 rfl) ?_
          refine lv_dup hx hb d_L_store_74 rfl ?_
          refine va_get (D := D) (ci := 0) (v := .int (nI (z0 t L k))) (C := n_L) (T := f_L) (N := 3) hx hb hts in_L hown hK hP 0 rfl rfl 2 (by decide) (hts _ x_71) (fun _ h9 => h9) rfl d_L_store_75 ?_
          refine lv_iconst (v := 1) hx hb d_L_store_78 (by decide) ?_
          refine lv_iadd hx hb d_L_store_79 ?_
          refine ct_topi (x' := nI (z0 t L (k + 1))) (by rw [z0_succ t hxp, htx]; exact (nI_succ _).symm) ?_
          refine va_put (D := D) (ci := 0) (v := .int (nI (z0 t L (k + 1)))) (ty := .int) (C := n_L) (T := f_L) (N := 3) hx hb hts in_L t_L ty_L nm_L hown hK hP hD hS 0 rfl rfl 2 (by decide) (hts _ x_71) (fun _ h9 => h9) rfl (by decide +kernel) rfl rfl (Nat.le_of_ble_eq_true rfl) d_L_store_80 (fun H locs hP hD hS => ?_)
          have hP : va_P D vwCl [(a0, .inr (0, [.ref a1, .ref a2, .int (nI (z0 t L (k + 1)))])), (a1, .inl (cJ, 16, .inr (.inl (ja)))), (a2, .inl (cS, 16, .inl (oa))), (ar, .inl (cI, 1000, .inl (upd rf (z0 t L k) (nI x)))), (ax, .inl (cI, 1000, .inl (sf)))] H := hP
          have hD : va_D (fun q => q = a0 ∨ q = a1 ∨ q = a2 ∨ q = ar ∨ q = ax) [(a0, .inr (0, [.ref a1, .ref a2, .int (nI (z0 t L (k + 1)))])), (a1, .inl (cJ, 16, .inr (.inl (ja)))), (a2, .inl (cS, 16, .inl (oa))), (ar, .inl (cI, 1000, .inl (upd rf (z0 t L k) (nI x)))), (ax, .inl (cI, 1000, .inl (sf)))] := hD
          refine lv_goto (tgt := 113) hx hb d_L_store_83 (by decide) ?_
          refine lv_iinc (v := nI (k + 1)) (lv' := [(6, .int (nI (k + 1))), (8, .int (nI x)), (7, .int (nI (k / 64))), (5, .int (nI (z1 t L k))), (0, .ref a0), (1, .ref ar), (2, .int (nI L.length)), (3, .int (nI sh)), (4, .ref ax)]) hx hb d_L_store_113 hl (k := 2) rfl ((nI_succ k).symm) (by decide) rfl (fun ls hl => ?_)
          refine lv_goto (tgt := 19) hx hb d_L_store_116 (by decide) ?_
          exact ih (k + 1) ja oa _ sf H locs ls (by omega) (hI.zero hL hxp htx) hS hP hD (by rw [e1]; exact (lv_sub hl [0, 3, 4, 5, 6, 7, 8] rfl))
        | true =>
          rw [htx] at hbx
          have hb0 : x / 2 ^ sh % 2 = 1 := of_decide_eq_true hbx.symm
          have e0 : z0 t L (k + 1) = z0 t L k := by rw [z0_succ t hxp, htx]; rfl
          refine lv_if_ne (tgt := 86) hx hb d_L_store_62 (by decide) (fun _ => ?_) (fun c9 => absurd c9 (by rw [hb0]; decide))
          refine lv_aload_n hx hb d_L_store_86 rfl (lv_at hl 4 rfl) ?_
          refine va_get (D := D) (ci := 0) (v := .ref a1) (C := n_L) (T := f_L) (N := 3) hx hb hts in_L hown hK hP 0 rfl rfl 0 (by decide) (hts _ x_69) (fun _ h9 => h9) rfl d_L_store_87 ?_
          refine lv_iload hx hb d_L_store_90 (lv_at hl 1 rfl) ?_
          refine lv_dup2_11 hx hb d_L_store_92 rfl rfl ?_
          refine va_lald hx hb hK hP 1 1 rfl rfl (vp_in_nI (by omega) (by decide)) d_L_store_93 ?_
          refine ct_topl (x' := ja (k / 64)) (by rw [nI_clamp (by omega)]) ?_
          refine lv_lconst (v := 1) hx hb d_L_store_94 (by decide) ?_
          refine lv_iload hx hb d_L_store_95 (lv_at hl 2 rfl) ?_
          refine lv_bipush (v := 64) hx hb d_L_store_97 (by decide) ?_
          refine lv_irem hx hb d_L_store_99 (by decide) ?_
          refine ct_topi (x' := nI (k % 64)) (pk_rem (d := 64) (by omega) (by decide) (by decide)) ?_
          refine lv_lshl hx hb d_L_store_100 rfl ?_
          refine ct_topl (x' := lN (2 ^ (k % 64))) (by rw [show (1 : Int64) = lN 1 from rfl, wb_shl 1 (by omega), Nat.one_mul]) ?_
          refine lv_lor hx hb d_L_store_101 ?_
          refine va_last hx hb hK hP hD hS 1 1 rfl rfl (vp_in_nI (by omega) (by decide)) d_L_store_102 (fun H locs hP hD hS => ?_)
          rw [nI_clamp (by omega)] at hP hD
          have hP : va_P D vwCl [(a0, .inr (0, [.ref a1, .ref a2, .int (nI (z0 t L k))])), (a1, .inl (cJ, 16, .inr (.inl (vp_updL ja (k / 64) (ja (k / 64) ||| lN (2 ^ (k % 64))))))), (a2, .inl (cS, 16, .inl (oa))), (ar, .inl (cI, 1000, .inl (rf))), (ax, .inl (cI, 1000, .inl (sf)))] H := hP
          have hD : va_D (fun q => q = a0 ∨ q = a1 ∨ q = a2 ∨ q = ar ∨ q = ax) [(a0, .inr (0, [.ref a1, .ref a2, .int (nI (z0 t L k))])), (a1, .inl (cJ, 16, .inr (.inl (vp_updL ja (k / 64) (ja (k / 64) ||| lN (2 ^ (k % 64))))))), (a2, .inl (cS, 16, .inl (oa))), (ar, .inl (cI, 1000, .inl (rf))), (ax, .inl (cI, 1000, .inl (sf)))] := hD
          refine lv_aload hx hb d_L_store_103 (lv_at hl 8 rfl) ?_
          refine lv_iload hx hb d_L_store_105 (lv_at hl 3 rfl) ?_
          refine lv_iload hx hb d_L_store_107 (lv_at hl 0 rfl) ?_
          refine va_iast hx hb hK hP hD hS 4 0 rfl rfl (vp_in_nI (by omega) (by decide)) d_L_store_109 (fun H locs hP hD hS => ?_)
          rw [nI_clamp (by omega)] at hP hD
          have hP : va_P D vwCl [(a0, .inr (0, [.ref a1, .ref a2, .int (nI (z0 t L k))])), (a1, .inl (cJ, 16, .inr (.inl (vp_updL ja (k / 64) (ja (k / 64) ||| lN (2 ^ (k % 64))))))), (a2, .inl (cS, 16, .inl (oa))), (ar, .inl (cI, 1000, .inl (rf))), (ax, .inl (cI, 1000, .inl (upd sf (z1 t L k) (nI x))))] H := hP
          have hD : va_D (fun q => q = a0 ∨ q = a1 ∨ q = a2 ∨ q = ar ∨ q = ax) [(a0, .inr (0, [.ref a1, .ref a2, .int (nI (z0 t L k))])), (a1, .inl (cJ, 16, .inr (.inl (vp_updL ja (k / 64) (ja (k / 64) ||| lN (2 ^ (k % 64))))))), (a2, .inl (cS, 16, .inl (oa))), (ar, .inl (cI, 1000, .inl (rf))), (ax, .inl (cI, 1000, .inl (upd sf (z1 t L k) (nI x))))] := hD
          refine lv_iinc (v := nI (z1 t L (k + 1))) (lv' := [(5, .int (nI (z1 t L (k + 1)))), (8, .int (nI x)), (7, .int (nI (k / 64))), (6, .int (nI k)), (0, .ref a0), (1, .ref ar), (2, .int (nI L.length)), (3, .int (nI sh)), (4, .ref ax)]) hx hb d_L_store_110 hl (k := 3) rfl (by rw [z1_succ t hxp, htx]; exact (nI_succ _).symm) (by decide) rfl (fun ls hl => ?_)
          refine lv_iinc (v := nI (k + 1)) (lv' := [(6, .int (nI (k + 1))), (5, .int (nI (z1 t L (k + 1)))), (8, .int (nI x)), (7, .int (nI (k / 64))), (0, .ref a0), (1, .ref ar), (2, .int (nI L.length)), (3, .int (nI sh)), (4, .ref ax)]) hx hb d_L_store_113 hl (k := 3) rfl ((nI_succ k).symm) (by decide) rfl (fun ls hl => ?_)
          refine lv_goto (tgt := 19) hx hb d_L_store_116 (by decide) ?_
          exact ih (k + 1) _ oa rf _ H locs ls (by omega) (hI.one hL hxp htx) hS (by rw [e0]; exact hP) (by rw [e0]; exact hD) (lv_sub hl [0, 1, 4, 5, 6, 7, 8] rfl)
      by_cases hm : k % 64 = 0
      · refine lv_if_ne (tgt := 50) hx hb d_L_store_37 (by decide) (fun c9 => absurd (by rw [hm]; rfl) c9) (fun _ => ?_)
        refine lv_aload_n hx hb d_L_store_40 rfl (lv_at hl 3 rfl) ?_
        refine va_get (D := D) (ci := 0) (v := .ref a2) (C := n_L) (T := f_L) (N := 3) hx hb hts in_L hown hK hP 0 rfl rfl 1 (by decide) (hts _ x_70) (fun _ h9 => h9) rfl d_L_store_41 ?_
        refine lv_iload hx hb d_L_store_44 (lv_at hl 0 rfl) ?_
        refine lv_iload hx hb d_L_store_46 (lv_at hl 2 rfl) ?_
        refine lv_i2s hx hb d_L_store_48 rfl ?_
        refine ct_topi (x' := nI (z1 t L k)) (short_nI (by omega)) ?_
        refine va_sast hx hb hK hP hD hS 2 2 rfl rfl (vp_in_nI (by omega) (by decide)) d_L_store_49 (fun H locs hP hD hS => ?_)
        rw [nI_clamp (by omega), vp_nar_short, short_nI (by omega)] at hP hD
        have hP : va_P D vwCl [(a0, .inr (0, [.ref a1, .ref a2, .int (nI (z0 t L k))])), (a1, .inl (cJ, 16, .inr (.inl (ja)))), (a2, .inl (cS, 16, .inl (upd oa (k / 64) (nI (z1 t L k))))), (ar, .inl (cI, 1000, .inl (rf))), (ax, .inl (cI, 1000, .inl (sf)))] H := hP
        have hD : va_D (fun q => q = a0 ∨ q = a1 ∨ q = a2 ∨ q = ar ∨ q = ax) [(a0, .inr (0, [.ref a1, .ref a2, .int (nI (z0 t L k))])), (a1, .inl (cJ, 16, .inr (.inl (ja)))), (a2, .inl (cS, 16, .inl (upd oa (k / 64) (nI (z1 t L k))))), (ar, .inl (cI, 1000, .inl (rf))), (ax, .inl (cI, 1000, .inl (sf)))] := hD
        exact rest _ H locs ls (hI.put hm) hS hP hD (lv_sub hl [0, 1, 2, 3, 4, 5, 6, 7] rfl)
      · refine lv_if_ne (tgt := 50) hx hb d_L_store_37 (by decide) (fun _ => ?_) (fun c9 => absurd c9 (nI_ne0 (by omega) (by omega)))
        exact rest _ H locs ls (hI.skip hm) hS hP hD (lv_sub hl [0, 1, 2, 3, 4, 5, 6, 7] rfl)
  exact loop L.length 0 g oa rf sf H _ ls (by omega) (StI.start hg hr0) hS hP hD (lv_sub hl [0, 1, 2, 3, 4, 5, 6] rfl)
