/-! The law, call by call. -/
set_option maxHeartbeats 4000000 in
set_option maxRecDepth 100000 in
theorem w_at {p : Program} {l : Launch} {e : Env} {s : State} {m : MethodId} {below : List Frame} {meth : Method} {c : Code} {Q : State → Prop} {D : va_G} {cI cJ cS cO : ClassId} {b L : Nat} {sc : Nat → Int32} (C0 : LC D cI cJ cS cO p l s m meth c b L sc) {y : Nat → Nat} {u0 u1 u2 u3 ao sg d : Nat} (hG : GEO s.heap.size y d u0 u1 u2 u3 ao) {i : Nat} (hL : L ≤ 3585) (hi : i + 7 ≤ L) {xs ws : List Nat} {H : Heap} {ls : Array Slot} {c9 s9 : Nat} (hc9 : c9 + 11 ≤ 601024) (hs9 : s9 + 66 ≤ 7293000)
    (hI : LInv D cI cJ cS cO y u0 u1 u2 u3 ao sg d s xs ws H) (hl : lv_has ls 7 [(4, .int (nI i)), (0, .ref b), (1, .ref (y 0)), (2, .ref u0), (3, .ref ao)])
    (next : ∀ (xs ws : List Nat) (H : Heap) (ls : Array Slot), LInv D cI cJ cS cO y u0 u1 u2 u3 ao sg d s xs ws H → lv_has ls 7 [(4, .int (nI i)), (0, .ref b), (1, .ref (y 0)), (2, .ref u0), (3, .ref ao)] → W p l e room_1 s m #[Value.ref b] below meth c H [] (c9 + 11) (s9 + 66) Q (F0 m 1003 ls [])) :
    W p l e room_1 s m #[Value.ref b] below meth c H [] c9 s9 Q (F0 m 251 ls []) := by
  obtain ⟨hx, hb, hr, hml, hown, hts, hlocks, hE, hN, hX, hbl, hl9⟩ := C0
  obtain ⟨hLR, ⟨th, hM⟩, ⟨g, hO⟩, ok0, hfr⟩ := hI
  have hK := hE.1
  have hAB : ∀ q : Nat, s.heap.size ≤ q → s.heap.size ≤ q := fun q h => h
  have hbA : ¬ s.heap.size ≤ b := Nat.not_le.mpr hbl
  have hS : va_S (fun q => s.heap.size ≤ q) s.heap H [] := ⟨hfr.1, hfr.2, fun z hz => nomatch hz⟩
  refine lv_aload_n hx hb d_W_law_251 rfl (lv_at hl 2 rfl) ?_
  refine lv_aload_n hx hb d_W_law_252 rfl (lv_at hl 1 rfl) ?_
  refine lv_iload hx hb d_W_law_253 (lv_at hl 0 rfl) ?_
  refine lv_iconst (v := 1) hx hb d_W_law_255 (by decide) ?_
  refine lv_iadd hx hb d_W_law_256 ?_
  refine ct_topi (x' := nI (i + 1)) (nI_add _ 1) ?_
  refine va_sld hx hb hX hbl hbA hS (vp_in_nI (by omega) (by omega)) d_W_law_257 ?_
  refine ct_topi (x' := sc (i + 1)) (congrArg sc (nI_clamp (by omega))) ?_
  refine lv_aload_n hx hb d_W_law_258 rfl (lv_at hl 4 rfl) ?_
  have hAY : ∀ q : Nat, ((False) ∨ q = ao) → YA y d ao q := by
    rintro q (h | h)
    · exact h.elim
    · exact Or.inr h
  refine cx_ret (vx_runSX (As := [.ref (y 0), .int (sc (i + 1)), .ref ao]) (rest := []) ⟨hx, hb, hml, hown, hts⟩ (m_W_at hl9 hG.1 ok0 hG.2.2.2.1 hG.2.2.1 (sc (i + 1))) (vx_cwSW 3 hts (gi_csw x_291 x_292 x_0 x_293) rfl rfl rfl (by decide +kernel) ⟨by decide, by decide⟩) ⟨sh_blind, fun U hU hW => ⟨⟨rfl, hE.at hS hAB hU hW, by rw [hU]; exact ⟨hLR, hO⟩⟩, hN.moved hW.alike⟩⟩ rfl rfl hl.1 rfl (lv_room (Nat.le_of_ble_eq_true rfl)) d_W_law_259 ⟨show c9 + 1 ≤ 601024 by omega, show s9 + 6 ≤ 7293000 by omega⟩) hS (fun q h => hG.ge q (hAY q h)) (fun _ _ h => h.1) (fun _ _ h => h.elim) (fun E ce q H locs hxx => hxx.elim) (fun v H locs hv hS => ?_)
  obtain ⟨hf1, hv⟩ := hv
  refine va_forget (fun z hz => hS.2.2 z hz) ?_
  have hfr := fr.of hS
  have hS : va_S (fun q => s.heap.size ≤ q) s.heap H [] := ⟨hfr.1, hfr.2, fun z hz => nomatch hz⟩
  have hM := hG.mr hAY hM hf1
  rcases hv with ⟨rfl, hcd, hLR, w1, g, hrel, hg0, hO⟩ | ⟨rfl, hcd, hLR, g, hO⟩
  · refine W.eq (g2 := F0 m 262 ls [.int 0]) rfl ?_
    refine lv_istore (lv' := [(5, .int 0), (4, .int (nI i)), (0, .ref b), (1, .ref (y 0)), (2, .ref u0), (3, .ref ao)]) hx hb d_W_law_262 hl (by decide) rfl (fun ls hl => ?_)
    refine lv_aload_n hx hb d_W_law_264 rfl (lv_at hl 4 rfl) ?_
    refine lv_aload_n hx hb d_W_law_265 rfl (lv_at hl 2 rfl) ?_
    refine lv_iload hx hb d_W_law_266 (lv_at hl 1 rfl) ?_
    refine lv_iconst (v := 1) hx hb d_W_law_268 (by decide) ?_
    refine lv_iadd hx hb d_W_law_269 ?_
    refine ct_topi (x' := nI (i + 1)) (nI_add _ 1) ?_
    refine va_sld hx hb hX hbl hbA hS (vp_in_nI (by omega) (by omega)) d_W_law_270 ?_
    refine ct_topi (x' := sc (i + 1)) (congrArg sc (nI_clamp (by omega))) ?_
    have hMP : ∃ fs, va_P D vwCl [(u0, .inr (3, fs))] H := by obtain ⟨rf9, sf9, tf9, _, h⟩ := hM; exact ⟨_, h.sub [0] rfl⟩
    obtain ⟨fs9, hMP⟩ := hMP
    refine cm_ret (va_runV (As := [.int (sc (i + 1))]) (rest := []) ⟨hx, hb, hml, hown, hts⟩ (m_M_at hG.2.1 ok0 (sc (i + 1))) ⟨ct_cb 1 hts x_482 x_479 x_6 rfl rfl (by decide +kernel) ⟨by decide, by decide⟩, hts _ x_480, hts _ x_481⟩ ⟨st_blind, va_recv hK hMP (ci := 3) (q0 := 0) rfl rfl, fun U hU hW => ⟨rfl, hE.at hS hAB hU hW, by rw [hU]; exact hM⟩⟩ rfl rfl hl.1 rfl (lv_room (Nat.le_of_ble_eq_true rfl)) d_W_law_271 ⟨show _ ≤ 601024 by omega, show _ ≤ 7293000 by omega⟩) hS (fun q h => hG.2.1.AB q h) (fun _ _ h => h.1) (fun v H locs hv hS => ?_)
    obtain ⟨hf2, hv⟩ := hv
    refine va_forget (fun z hz => hS.2.2 z hz) ?_
    have hfr := fr.of hS
    have hS : va_S (fun q => s.heap.size ≤ q) s.heap H [] := ⟨hfr.1, hfr.2, fun z hz => nomatch hz⟩
    have hLR := hG.lr hLR hf2
    have hO := hG.out hO hf2
    rcases hv with ⟨hcd2, hM, rfl⟩ | ⟨hcd2, hM, w2, rfl⟩
    · subst hrel
      refine W.eq (g2 := F0 m 274 ls [.int (nI (xs.getD (cn (sc (i + 1))) 0))]) rfl ?_
      refine lv_istore (lv' := [(6, .int (nI (xs.getD (cn (sc (i + 1))) 0))), (5, .int 0), (4, .int (nI i)), (0, .ref b), (1, .ref (y 0)), (2, .ref u0), (3, .ref ao)]) hx hb d_W_law_274 hl (by decide) rfl (fun ls hl => ?_)
      refine lv_aload_n hx hb d_W_law_276 rfl (lv_at hl 5 rfl) ?_
      have hMP : ∃ fs, va_P D vwCl [(u0, .inr (3, fs))] H := by obtain ⟨rf9, sf9, tf9, _, h⟩ := hM; exact ⟨_, h.sub [0] rfl⟩
      obtain ⟨fs9, hMP⟩ := hMP
      refine cm_read (va_runV (As := []) (rest := []) ⟨hx, hb, hml, hown, hts⟩ (m_M_thrown hG.2.1 ok0) ⟨ct_cb 0 hts x_462 x_459 x_6 rfl rfl (by decide +kernel) ⟨by decide, by decide⟩, hts _ x_460, hts _ x_461⟩ ⟨st_blind, va_recv hK hMP (ci := 3) (q0 := 0) rfl rfl, fun U hU hW => ⟨rfl, hE.at hS hAB hU hW, by rw [hU]; exact hM⟩⟩ rfl rfl hl.1 rfl (lv_room (Nat.le_of_ble_eq_true rfl)) d_W_law_277 ⟨show _ ≤ 601024 by omega, show _ ≤ 7293000 by omega⟩) (fun v hv => ?_)
      subst hv
      refine W.eq (g2 := F0 m 280 ls [.int 0]) rfl ?_
      refine lv_iload hx hb d_W_law_280 (lv_at hl 1 rfl) ?_
      refine lv_icmp_eq (tgt := 287) hx hb d_W_law_282 (by decide) (fun _ => ?_) (fun c9 => absurd (rfl) c9)
      refine lv_iload hx hb d_W_law_287 (lv_at hl 1 rfl) ?_
      refine lv_if_ne (tgt := 304) hx hb d_W_law_289 (by decide) (fun c9 => absurd (rfl) c9) (fun _ => ?_)
      refine lv_aload_n hx hb d_W_law_292 rfl (lv_at hl 6 rfl) ?_
      refine lv_iconst (v := 0) hx hb d_W_law_293 (by decide) ?_
      refine va_lald hx hb hK hO 0 1 rfl rfl (vp_in_nI (n := 0) (by decide) (by decide)) d_W_law_294 ?_
      refine ct_topl (x' := (nI (xs.getD (cn (sc (i + 1))) 0)).toInt64) hg0 ?_
      refine lv_iload hx hb d_W_law_295 (lv_at hl 0 rfl) ?_
      refine lv_i2l hx hb d_W_law_297 rfl ?_
      refine W.lcmp hx hb d_W_law_298 ?_
      refine ct_topi (x' := 0) (lg_self _) ?_
      refine lv_if_eq (tgt := 304) hx hb d_W_law_299 (by decide) (fun _ => ?_) (fun c9 => absurd (rfl) c9)
      refine lv_goto (tgt := 1003) hx hb d_W_law_304 (by decide) ?_
      refine W.widen (k := c9 + 11) (n := s9 + 66) (by omega) (by omega) ?_
      exact next xs ws H ls ⟨hLR, ⟨_, hM⟩, ⟨_, hO⟩, ok0, hfr⟩ (lv_sub hl [2, 3, 4, 5, 6] rfl)
    · exact absurd hcd hcd2
  · refine W.eq (g2 := F0 m 262 ls [.int 1]) rfl ?_
    refine lv_istore (lv' := [(5, .int 1), (4, .int (nI i)), (0, .ref b), (1, .ref (y 0)), (2, .ref u0), (3, .ref ao)]) hx hb d_W_law_262 hl (by decide) rfl (fun ls hl => ?_)
    refine lv_aload_n hx hb d_W_law_264 rfl (lv_at hl 4 rfl) ?_
    refine lv_aload_n hx hb d_W_law_265 rfl (lv_at hl 2 rfl) ?_
    refine lv_iload hx hb d_W_law_266 (lv_at hl 1 rfl) ?_
    refine lv_iconst (v := 1) hx hb d_W_law_268 (by decide) ?_
    refine lv_iadd hx hb d_W_law_269 ?_
    refine ct_topi (x' := nI (i + 1)) (nI_add _ 1) ?_
    refine va_sld hx hb hX hbl hbA hS (vp_in_nI (by omega) (by omega)) d_W_law_270 ?_
    refine ct_topi (x' := sc (i + 1)) (congrArg sc (nI_clamp (by omega))) ?_
    have hMP : ∃ fs, va_P D vwCl [(u0, .inr (3, fs))] H := by obtain ⟨rf9, sf9, tf9, _, h⟩ := hM; exact ⟨_, h.sub [0] rfl⟩
    obtain ⟨fs9, hMP⟩ := hMP
    refine cm_ret (va_runV (As := [.int (sc (i + 1))]) (rest := []) ⟨hx, hb, hml, hown, hts⟩ (m_M_at hG.2.1 ok0 (sc (i + 1))) ⟨ct_cb 1 hts x_482 x_479 x_6 rfl rfl (by decide +kernel) ⟨by decide, by decide⟩, hts _ x_480, hts _ x_481⟩ ⟨st_blind, va_recv hK hMP (ci := 3) (q0 := 0) rfl rfl, fun U hU hW => ⟨rfl, hE.at hS hAB hU hW, by rw [hU]; exact hM⟩⟩ rfl rfl hl.1 rfl (lv_room (Nat.le_of_ble_eq_true rfl)) d_W_law_271 ⟨show _ ≤ 601024 by omega, show _ ≤ 7293000 by omega⟩) hS (fun q h => hG.2.1.AB q h) (fun _ _ h => h.1) (fun v H locs hv hS => ?_)
    obtain ⟨hf2, hv⟩ := hv
    refine va_forget (fun z hz => hS.2.2 z hz) ?_
    have hfr := fr.of hS
    have hS : va_S (fun q => s.heap.size ≤ q) s.heap H [] := ⟨hfr.1, hfr.2, fun z hz => nomatch hz⟩
    have hLR := hG.lr hLR hf2
    have hO := hG.out hO hf2
    rcases hv with ⟨hcd2, hM, rfl⟩ | ⟨hcd2, hM, w2, rfl⟩
    · exact absurd hcd2 hcd
    · refine W.eq (g2 := F0 m 274 ls [.int w2]) rfl ?_
      refine lv_istore (lv' := [(6, .int w2), (5, .int 1), (4, .int (nI i)), (0, .ref b), (1, .ref (y 0)), (2, .ref u0), (3, .ref ao)]) hx hb d_W_law_274 hl (by decide) rfl (fun ls hl => ?_)
      refine lv_aload_n hx hb d_W_law_276 rfl (lv_at hl 5 rfl) ?_
      have hMP : ∃ fs, va_P D vwCl [(u0, .inr (3, fs))] H := by obtain ⟨rf9, sf9, tf9, _, h⟩ := hM; exact ⟨_, h.sub [0] rfl⟩
      obtain ⟨fs9, hMP⟩ := hMP
      refine cm_read (va_runV (As := []) (rest := []) ⟨hx, hb, hml, hown, hts⟩ (m_M_thrown hG.2.1 ok0) ⟨ct_cb 0 hts x_462 x_459 x_6 rfl rfl (by decide +kernel) ⟨by decide, by decide⟩, hts _ x_460, hts _ x_461⟩ ⟨st_blind, va_recv hK hMP (ci := 3) (q0 := 0) rfl rfl, fun U hU hW => ⟨rfl, hE.at hS hAB hU hW, by rw [hU]; exact hM⟩⟩ rfl rfl hl.1 rfl (lv_room (Nat.le_of_ble_eq_true rfl)) d_W_law_277 ⟨show _ ≤ 601024 by omega, show _ ≤ 7293000 by omega⟩) (fun v hv => ?_)
      subst hv
      refine W.eq (g2 := F0 m 280 ls [.int 1]) rfl ?_
      refine lv_iload hx hb d_W_law_280 (lv_at hl 1 rfl) ?_
      refine lv_icmp_eq (tgt := 287) hx hb d_W_law_282 (by decide) (fun _ => ?_) (fun c9 => absurd (rfl) c9)
      refine lv_iload hx hb d_W_law_287 (lv_at hl 1 rfl) ?_
      refine lv_if_ne (tgt := 304) hx hb d_W_law_289 (by decide) (fun _ => ?_) (fun c9 => absurd c9 (by decide))
      refine lv_goto (tgt := 1003) hx hb d_W_law_304 (by decide) ?_
      refine W.widen (k := c9 + 11) (n := s9 + 66) (by omega) (by omega) ?_
      exact next xs ws H ls ⟨hLR, ⟨_, hM⟩, ⟨_, hO⟩, ok0, hfr⟩ (lv_sub hl [2, 3, 4, 5, 6] rfl)
set_option maxHeartbeats 4000000 in
set_option maxRecDepth 100000 in
theorem w_rank {p : Program} {l : Launch} {e : Env} {s : State} {m : MethodId} {below : List Frame} {meth : Method} {c : Code} {Q : State → Prop} {D : va_G} {cI cJ cS cO : ClassId} {b L : Nat} {sc : Nat → Int32} (C0 : LC D cI cJ cS cO p l s m meth c b L sc) {y : Nat → Nat} {u0 u1 u2 u3 ao sg d : Nat} (hG : GEO s.heap.size y d u0 u1 u2 u3 ao) {i : Nat} (hL : L ≤ 3585) (hi : i + 7 ≤ L) {xs ws : List Nat} {H : Heap} {ls : Array Slot} {c9 s9 : Nat} (hc9 : c9 + 11 ≤ 601024) (hs9 : s9 + 66 ≤ 7293000)
    (hI : LInv D cI cJ cS cO y u0 u1 u2 u3 ao sg d s xs ws H) (hl : lv_has ls 7 [(4, .int (nI i)), (0, .ref b), (1, .ref (y 0)), (2, .ref u0), (3, .ref ao)])
    (next : ∀ (xs ws : List Nat) (H : Heap) (ls : Array Slot), LInv D cI cJ cS cO y u0 u1 u2 u3 ao sg d s xs ws H → lv_has ls 7 [(4, .int (nI i)), (0, .ref b), (1, .ref (y 0)), (2, .ref u0), (3, .ref ao)] → W p l e room_1 s m #[Value.ref b] below meth c H [] (c9 + 11) (s9 + 66) Q (F0 m 1003 ls [])) :
    W p l e room_1 s m #[Value.ref b] below meth c H [] c9 s9 Q (F0 m 307 ls []) := by
  obtain ⟨hx, hb, hr, hml, hown, hts, hlocks, hE, hN, hX, hbl, hl9⟩ := C0
  obtain ⟨hLR, ⟨th, hM⟩, ⟨g, hO⟩, ok0, hfr⟩ := hI
  have hK := hE.1
  have hAB : ∀ q : Nat, s.heap.size ≤ q → s.heap.size ≤ q := fun q h => h
  have hbA : ¬ s.heap.size ≤ b := Nat.not_le.mpr hbl
  have hS : va_S (fun q => s.heap.size ≤ q) s.heap H [] := ⟨hfr.1, hfr.2, fun z hz => nomatch hz⟩
  refine lv_aload_n hx hb d_W_law_307 rfl (lv_at hl 2 rfl) ?_
  refine lv_aload_n hx hb d_W_law_308 rfl (lv_at hl 1 rfl) ?_
  refine lv_iload hx hb d_W_law_309 (lv_at hl 0 rfl) ?_
  refine lv_iconst (v := 1) hx hb d_W_law_311 (by decide) ?_
  refine lv_iadd hx hb d_W_law_312 ?_
  refine ct_topi (x' := nI (i + 1)) (nI_add _ 1) ?_
  refine va_sld hx hb hX hbl hbA hS (vp_in_nI (by omega) (by omega)) d_W_law_313 ?_
  refine ct_topi (x' := sc (i + 1)) (congrArg sc (nI_clamp (by omega))) ?_
  refine lv_aload_n hx hb d_W_law_314 rfl (lv_at hl 1 rfl) ?_
  refine lv_iload hx hb d_W_law_315 (lv_at hl 0 rfl) ?_
  refine lv_iconst (v := 2) hx hb d_W_law_317 (by decide) ?_
  refine lv_iadd hx hb d_W_law_318 ?_
  refine ct_topi (x' := nI (i + 2)) (nI_add _ 2) ?_
  refine va_sld hx hb hX hbl hbA hS (vp_in_nI (by omega) (by omega)) d_W_law_319 ?_
  refine ct_topi (x' := sc (i + 2)) (congrArg sc (nI_clamp (by omega))) ?_
  refine lv_aload_n hx hb d_W_law_320 rfl (lv_at hl 4 rfl) ?_
  have hAY : ∀ q : Nat, ((q = y 3) ∨ q = ao) → YA y d ao q := by
    rintro q (h | h)
    · exact Or.inl ⟨3, by omega, h⟩
    · exact Or.inr h
  refine cx_ret (vx_runSX (As := [.ref (y 0), .int (sc (i + 1)), .int (sc (i + 2)), .ref ao]) (rest := []) ⟨hx, hb, hml, hown, hts⟩ (m_W_rank hl9 hG.1 ok0 hG.2.2.2.1 hG.2.2.1 (sc (i + 1)) (sc (i + 2))) (vx_cwSW 4 hts (gi_csw x_299 x_300 x_0 x_301) rfl rfl rfl (by decide +kernel) ⟨by decide, by decide⟩) ⟨sh_blind, fun U hU hW => ⟨⟨rfl, hE.at hS hAB hU hW, by rw [hU]; exact ⟨hLR, hO⟩⟩, hN.moved hW.alike⟩⟩ rfl rfl hl.1 rfl (lv_room (Nat.le_of_ble_eq_true rfl)) d_W_law_321 ⟨show c9 + 2 ≤ 601024 by omega, show s9 + 12 ≤ 7293000 by omega⟩) hS (fun q h => hG.ge q (hAY q h)) (fun _ _ h => h.1) (fun _ _ h => h.elim) (fun E ce q H locs hxx => hxx.elim) (fun v H locs hv hS => ?_)
  obtain ⟨hf1, hv⟩ := hv
  refine va_forget (fun z hz => hS.2.2 z hz) ?_
  have hfr := fr.of hS
  have hS : va_S (fun q => s.heap.size ≤ q) s.heap H [] := ⟨hfr.1, hfr.2, fun z hz => nomatch hz⟩
  have hM := hG.mr hAY hM hf1
  rcases hv with ⟨rfl, hcd, hLR, w1, g, hrel, hg0, hO⟩ | ⟨rfl, hcd, hLR, g, hO⟩
  · refine W.eq (g2 := F0 m 324 ls [.int 0]) rfl ?_
    refine lv_istore (lv' := [(5, .int 0), (4, .int (nI i)), (0, .ref b), (1, .ref (y 0)), (2, .ref u0), (3, .ref ao)]) hx hb d_W_law_324 hl (by decide) rfl (fun ls hl => ?_)
    refine lv_aload_n hx hb d_W_law_326 rfl (lv_at hl 4 rfl) ?_
    refine lv_aload_n hx hb d_W_law_327 rfl (lv_at hl 2 rfl) ?_
    refine lv_iload hx hb d_W_law_328 (lv_at hl 1 rfl) ?_
    refine lv_iconst (v := 1) hx hb d_W_law_330 (by decide) ?_
    refine lv_iadd hx hb d_W_law_331 ?_
    refine ct_topi (x' := nI (i + 1)) (nI_add _ 1) ?_
    refine va_sld hx hb hX hbl hbA hS (vp_in_nI (by omega) (by omega)) d_W_law_332 ?_
    refine ct_topi (x' := sc (i + 1)) (congrArg sc (nI_clamp (by omega))) ?_
    refine lv_aload_n hx hb d_W_law_333 rfl (lv_at hl 2 rfl) ?_
    refine lv_iload hx hb d_W_law_334 (lv_at hl 1 rfl) ?_
    refine lv_iconst (v := 2) hx hb d_W_law_336 (by decide) ?_
    refine lv_iadd hx hb d_W_law_337 ?_
    refine ct_topi (x' := nI (i + 2)) (nI_add _ 2) ?_
    refine va_sld hx hb hX hbl hbA hS (vp_in_nI (by omega) (by omega)) d_W_law_338 ?_
    refine ct_topi (x' := sc (i + 2)) (congrArg sc (nI_clamp (by omega))) ?_
    have hMP : ∃ fs, va_P D vwCl [(u0, .inr (3, fs))] H := by obtain ⟨rf9, sf9, tf9, _, h⟩ := hM; exact ⟨_, h.sub [0] rfl⟩
    obtain ⟨fs9, hMP⟩ := hMP
    refine cm_ret (va_runV (As := [.int (sc (i + 1)), .int (sc (i + 2))]) (rest := []) ⟨hx, hb, hml, hown, hts⟩ (m_M_rank hG.2.1 ok0 (sc (i + 1)) (sc (i + 2))) ⟨ct_cb 2 hts x_486 x_483 x_6 rfl rfl (by decide +kernel) ⟨by decide, by decide⟩, hts _ x_484, hts _ x_485⟩ ⟨st_blind, va_recv hK hMP (ci := 3) (q0 := 0) rfl rfl, fun U hU hW => ⟨rfl, hE.at hS hAB hU hW, by rw [hU]; exact hM⟩⟩ rfl rfl hl.1 rfl (lv_room (Nat.le_of_ble_eq_true rfl)) d_W_law_339 ⟨show _ ≤ 601024 by omega, show _ ≤ 7293000 by omega⟩) hS (fun q h => hG.2.1.AB q h) (fun _ _ h => h.1) (fun v H locs hv hS => ?_)
    obtain ⟨hf2, hv⟩ := hv
    refine va_forget (fun z hz => hS.2.2 z hz) ?_
    have hfr := fr.of hS
    have hS : va_S (fun q => s.heap.size ≤ q) s.heap H [] := ⟨hfr.1, hfr.2, fun z hz => nomatch hz⟩
    have hLR := hG.lr hLR hf2
    have hO := hG.out hO hf2
    rcases hv with ⟨hcd2, hM, rfl⟩ | ⟨hcd2, hM, w2, rfl⟩
    · subst hrel
      refine W.eq (g2 := F0 m 342 ls [.int (nI (cEq (xs.take (cn (sc (i + 2)))) (cn (sc (i + 1)))))]) rfl ?_
      refine lv_istore (lv' := [(6, .int (nI (cEq (xs.take (cn (sc (i + 2)))) (cn (sc (i + 1)))))), (5, .int 0), (4, .int (nI i)), (0, .ref b), (1, .ref (y 0)), (2, .ref u0), (3, .ref ao)]) hx hb d_W_law_342 hl (by decide) rfl (fun ls hl => ?_)
      refine lv_aload_n hx hb d_W_law_344 rfl (lv_at hl 5 rfl) ?_
      have hMP : ∃ fs, va_P D vwCl [(u0, .inr (3, fs))] H := by obtain ⟨rf9, sf9, tf9, _, h⟩ := hM; exact ⟨_, h.sub [0] rfl⟩
      obtain ⟨fs9, hMP⟩ := hMP
      refine cm_read (va_runV (As := []) (rest := []) ⟨hx, hb, hml, hown, hts⟩ (m_M_thrown hG.2.1 ok0) ⟨ct_cb 0 hts x_462 x_459 x_6 rfl rfl (by decide +kernel) ⟨by decide, by decide⟩, hts _ x_460, hts _ x_461⟩ ⟨st_blind, va_recv hK hMP (ci := 3) (q0 := 0) rfl rfl, fun U hU hW => ⟨rfl, hE.at hS hAB hU hW, by rw [hU]; exact hM⟩⟩ rfl rfl hl.1 rfl (lv_room (Nat.le_of_ble_eq_true rfl)) d_W_law_345 ⟨show _ ≤ 601024 by omega, show _ ≤ 7293000 by omega⟩) (fun v hv => ?_)
      subst hv
      refine W.eq (g2 := F0 m 348 ls [.int 0]) rfl ?_
      refine lv_iload hx hb d_W_law_348 (lv_at hl 1 rfl) ?_
      refine lv_icmp_eq (tgt := 355) hx hb d_W_law_350 (by decide) (fun _ => ?_) (fun c9 => absurd (rfl) c9)
      refine lv_iload hx hb d_W_law_355 (lv_at hl 1 rfl) ?_
      refine lv_if_ne (tgt := 372) hx hb d_W_law_357 (by decide) (fun c9 => absurd (rfl) c9) (fun _ => ?_)
      refine lv_aload_n hx hb d_W_law_360 rfl (lv_at hl 6 rfl) ?_
      refine lv_iconst (v := 0) hx hb d_W_law_361 (by decide) ?_
      refine va_lald hx hb hK hO 0 1 rfl rfl (vp_in_nI (n := 0) (by decide) (by decide)) d_W_law_362 ?_
      refine ct_topl (x' := (nI (cEq (xs.take (cn (sc (i + 2)))) (cn (sc (i + 1))))).toInt64) hg0 ?_
      refine lv_iload hx hb d_W_law_363 (lv_at hl 0 rfl) ?_
      refine lv_i2l hx hb d_W_law_365 rfl ?_
      refine W.lcmp hx hb d_W_law_366 ?_
      refine ct_topi (x' := 0) (lg_self _) ?_
      refine lv_if_eq (tgt := 372) hx hb d_W_law_367 (by decide) (fun _ => ?_) (fun c9 => absurd (rfl) c9)
      refine lv_goto (tgt := 1003) hx hb d_W_law_372 (by decide) ?_
      refine W.widen (k := c9 + 11) (n := s9 + 66) (by omega) (by omega) ?_
      exact next xs ws H ls ⟨hLR, ⟨_, hM⟩, ⟨_, hO⟩, ok0, hfr⟩ (lv_sub hl [2, 3, 4, 5, 6] rfl)
    · exact absurd hcd hcd2
  · refine W.eq (g2 := F0 m 324 ls [.int 1]) rfl ?_
    refine lv_istore (lv' := [(5, .int 1), (4, .int (nI i)), (0, .ref b), (1, .ref (y 0)), (2, .ref u0), (3, .ref ao)]) hx hb d_W_law_324 hl (by decide) rfl (fun ls hl => ?_)
    refine lv_aload_n hx hb d_W_law_326 rfl (lv_at hl 4 rfl) ?_
    refine lv_aload_n hx hb d_W_law_327 rfl (lv_at hl 2 rfl) ?_
    refine lv_iload hx hb d_W_law_328 (lv_at hl 1 rfl) ?_
    refine lv_iconst (v := 1) hx hb d_W_law_330 (by decide) ?_
    refine lv_iadd hx hb d_W_law_331 ?_
    refine ct_topi (x' := nI (i + 1)) (nI_add _ 1) ?_
    refine va_sld hx hb hX hbl hbA hS (vp_in_nI (by omega) (by omega)) d_W_law_332 ?_
    refine ct_topi (x' := sc (i + 1)) (congrArg sc (nI_clamp (by omega))) ?_
    refine lv_aload_n hx hb d_W_law_333 rfl (lv_at hl 2 rfl) ?_
    refine lv_iload hx hb d_W_law_334 (lv_at hl 1 rfl) ?_
    refine lv_iconst (v := 2) hx hb d_W_law_336 (by decide) ?_
    refine lv_iadd hx hb d_W_law_337 ?_
    refine ct_topi (x' := nI (i + 2)) (nI_add _ 2) ?_
    refine va_sld hx hb hX hbl hbA hS (vp_in_nI (by omega) (by omega)) d_W_law_338 ?_
    refine ct_topi (x' := sc (i + 2)) (congrArg sc (nI_clamp (by omega))) ?_
    have hMP : ∃ fs, va_P D vwCl [(u0, .inr (3, fs))] H := by obtain ⟨rf9, sf9, tf9, _, h⟩ := hM; exact ⟨_, h.sub [0] rfl⟩
    obtain ⟨fs9, hMP⟩ := hMP
    refine cm_ret (va_runV (As := [.int (sc (i + 1)), .int (sc (i + 2))]) (rest := []) ⟨hx, hb, hml, hown, hts⟩ (m_M_rank hG.2.1 ok0 (sc (i + 1)) (sc (i + 2))) ⟨ct_cb 2 hts x_486 x_483 x_6 rfl rfl (by decide +kernel) ⟨by decide, by decide⟩, hts _ x_484, hts _ x_485⟩ ⟨st_blind, va_recv hK hMP (ci := 3) (q0 := 0) rfl rfl, fun U hU hW => ⟨rfl, hE.at hS hAB hU hW, by rw [hU]; exact hM⟩⟩ rfl rfl hl.1 rfl (lv_room (Nat.le_of_ble_eq_true rfl)) d_W_law_339 ⟨show _ ≤ 601024 by omega, show _ ≤ 7293000 by omega⟩) hS (fun q h => hG.2.1.AB q h) (fun _ _ h => h.1) (fun v H locs hv hS => ?_)
    obtain ⟨hf2, hv⟩ := hv
    refine va_forget (fun z hz => hS.2.2 z hz) ?_
    have hfr := fr.of hS
    have hS : va_S (fun q => s.heap.size ≤ q) s.heap H [] := ⟨hfr.1, hfr.2, fun z hz => nomatch hz⟩
    have hLR := hG.lr hLR hf2
    have hO := hG.out hO hf2
    rcases hv with ⟨hcd2, hM, rfl⟩ | ⟨hcd2, hM, w2, rfl⟩
    · exact absurd hcd2 hcd
    · refine W.eq (g2 := F0 m 342 ls [.int w2]) rfl ?_
      refine lv_istore (lv' := [(6, .int w2), (5, .int 1), (4, .int (nI i)), (0, .ref b), (1, .ref (y 0)), (2, .ref u0), (3, .ref ao)]) hx hb d_W_law_342 hl (by decide) rfl (fun ls hl => ?_)
      refine lv_aload_n hx hb d_W_law_344 rfl (lv_at hl 5 rfl) ?_
      have hMP : ∃ fs, va_P D vwCl [(u0, .inr (3, fs))] H := by obtain ⟨rf9, sf9, tf9, _, h⟩ := hM; exact ⟨_, h.sub [0] rfl⟩
      obtain ⟨fs9, hMP⟩ := hMP
      refine cm_read (va_runV (As := []) (rest := []) ⟨hx, hb, hml, hown, hts⟩ (m_M_thrown hG.2.1 ok0) ⟨ct_cb 0 hts x_462 x_459 x_6 rfl rfl (by decide +kernel) ⟨by decide, by decide⟩, hts _ x_460, hts _ x_461⟩ ⟨st_blind, va_recv hK hMP (ci := 3) (q0 := 0) rfl rfl, fun U hU hW => ⟨rfl, hE.at hS hAB hU hW, by rw [hU]; exact hM⟩⟩ rfl rfl hl.1 rfl (lv_room (Nat.le_of_ble_eq_true rfl)) d_W_law_345 ⟨show _ ≤ 601024 by omega, show _ ≤ 7293000 by omega⟩) (fun v hv => ?_)
      subst hv
      refine W.eq (g2 := F0 m 348 ls [.int 1]) rfl ?_
      refine lv_iload hx hb d_W_law_348 (lv_at hl 1 rfl) ?_
      refine lv_icmp_eq (tgt := 355) hx hb d_W_law_350 (by decide) (fun _ => ?_) (fun c9 => absurd (rfl) c9)
      refine lv_iload hx hb d_W_law_355 (lv_at hl 1 rfl) ?_
      refine lv_if_ne (tgt := 372) hx hb d_W_law_357 (by decide) (fun _ => ?_) (fun c9 => absurd c9 (by decide))
      refine lv_goto (tgt := 1003) hx hb d_W_law_372 (by decide) ?_
      refine W.widen (k := c9 + 11) (n := s9 + 66) (by omega) (by omega) ?_
      exact next xs ws H ls ⟨hLR, ⟨_, hM⟩, ⟨_, hO⟩, ok0, hfr⟩ (lv_sub hl [2, 3, 4, 5, 6] rfl)
set_option maxHeartbeats 4000000 in
set_option maxRecDepth 100000 in
theorem w_select {p : Program} {l : Launch} {e : Env} {s : State} {m : MethodId} {below : List Frame} {meth : Method} {c : Code} {Q : State → Prop} {D : va_G} {cI cJ cS cO : ClassId} {b L : Nat} {sc : Nat → Int32} (C0 : LC D cI cJ cS cO p l s m meth c b L sc) {y : Nat → Nat} {u0 u1 u2 u3 ao sg d : Nat} (hG : GEO s.heap.size y d u0 u1 u2 u3 ao) {i : Nat} (hL : L ≤ 3585) (hi : i + 7 ≤ L) {xs ws : List Nat} {H : Heap} {ls : Array Slot} {c9 s9 : Nat} (hc9 : c9 + 11 ≤ 601024) (hs9 : s9 + 66 ≤ 7293000)
    (hI : LInv D cI cJ cS cO y u0 u1 u2 u3 ao sg d s xs ws H) (hl : lv_has ls 7 [(4, .int (nI i)), (0, .ref b), (1, .ref (y 0)), (2, .ref u0), (3, .ref ao)])
    (next : ∀ (xs ws : List Nat) (H : Heap) (ls : Array Slot), LInv D cI cJ cS cO y u0 u1 u2 u3 ao sg d s xs ws H → lv_has ls 7 [(4, .int (nI i)), (0, .ref b), (1, .ref (y 0)), (2, .ref u0), (3, .ref ao)] → W p l e room_1 s m #[Value.ref b] below meth c H [] (c9 + 11) (s9 + 66) Q (F0 m 1003 ls [])) :
    W p l e room_1 s m #[Value.ref b] below meth c H [] c9 s9 Q (F0 m 375 ls []) := by
  obtain ⟨hx, hb, hr, hml, hown, hts, hlocks, hE, hN, hX, hbl, hl9⟩ := C0
  obtain ⟨hLR, ⟨th, hM⟩, ⟨g, hO⟩, ok0, hfr⟩ := hI
  have hK := hE.1
  have hAB : ∀ q : Nat, s.heap.size ≤ q → s.heap.size ≤ q := fun q h => h
  have hbA : ¬ s.heap.size ≤ b := Nat.not_le.mpr hbl
  have hS : va_S (fun q => s.heap.size ≤ q) s.heap H [] := ⟨hfr.1, hfr.2, fun z hz => nomatch hz⟩
  refine lv_aload_n hx hb d_W_law_375 rfl (lv_at hl 2 rfl) ?_
  refine lv_aload_n hx hb d_W_law_376 rfl (lv_at hl 1 rfl) ?_
  refine lv_iload hx hb d_W_law_377 (lv_at hl 0 rfl) ?_
  refine lv_iconst (v := 1) hx hb d_W_law_379 (by decide) ?_
  refine lv_iadd hx hb d_W_law_380 ?_
  refine ct_topi (x' := nI (i + 1)) (nI_add _ 1) ?_
  refine va_sld hx hb hX hbl hbA hS (vp_in_nI (by omega) (by omega)) d_W_law_381 ?_
  refine ct_topi (x' := sc (i + 1)) (congrArg sc (nI_clamp (by omega))) ?_
  refine lv_aload_n hx hb d_W_law_382 rfl (lv_at hl 1 rfl) ?_
  refine lv_iload hx hb d_W_law_383 (lv_at hl 0 rfl) ?_
  refine lv_iconst (v := 2) hx hb d_W_law_385 (by decide) ?_
  refine lv_iadd hx hb d_W_law_386 ?_
  refine ct_topi (x' := nI (i + 2)) (nI_add _ 2) ?_
  refine va_sld hx hb hX hbl hbA hS (vp_in_nI (by omega) (by omega)) d_W_law_387 ?_
  refine ct_topi (x' := sc (i + 2)) (congrArg sc (nI_clamp (by omega))) ?_
  refine lv_aload_n hx hb d_W_law_388 rfl (lv_at hl 4 rfl) ?_
  have hAY : ∀ q : Nat, ((q = y 3) ∨ q = ao) → YA y d ao q := by
    rintro q (h | h)
    · exact Or.inl ⟨3, by omega, h⟩
    · exact Or.inr h
  refine cx_ret (vx_runSX (As := [.ref (y 0), .int (sc (i + 1)), .int (sc (i + 2)), .ref ao]) (rest := []) ⟨hx, hb, hml, hown, hts⟩ (m_W_select hl9 hG.1 ok0 hG.2.2.2.1 hG.2.2.1 (sc (i + 1)) (sc (i + 2))) (vx_cwSW 4 hts (gi_csw x_332 x_333 x_0 x_334) rfl rfl rfl (by decide +kernel) ⟨by decide, by decide⟩) ⟨sh_blind, fun U hU hW => ⟨⟨rfl, hE.at hS hAB hU hW, by rw [hU]; exact ⟨hLR, hO⟩⟩, hN.moved hW.alike⟩⟩ rfl rfl hl.1 rfl (lv_room (Nat.le_of_ble_eq_true rfl)) d_W_law_389 ⟨show c9 + 2 ≤ 601024 by omega, show s9 + 12 ≤ 7293000 by omega⟩) hS (fun q h => hG.ge q (hAY q h)) (fun _ _ h => h.1) (fun _ _ h => h.elim) (fun E ce q H locs hxx => hxx.elim) (fun v H locs hv hS => ?_)
  obtain ⟨hf1, hv⟩ := hv
  refine va_forget (fun z hz => hS.2.2 z hz) ?_
  have hfr := fr.of hS
  have hS : va_S (fun q => s.heap.size ≤ q) s.heap H [] := ⟨hfr.1, hfr.2, fun z hz => nomatch hz⟩
  have hM := hG.mr hAY hM hf1
  rcases hv with ⟨rfl, hcd, hLR, w1, g, hrel, hg0, hO⟩ | ⟨rfl, hcd, hLR, g, hO⟩
  · refine W.eq (g2 := F0 m 392 ls [.int 0]) rfl ?_
    refine lv_istore (lv' := [(5, .int 0), (4, .int (nI i)), (0, .ref b), (1, .ref (y 0)), (2, .ref u0), (3, .ref ao)]) hx hb d_W_law_392 hl (by decide) rfl (fun ls hl => ?_)
    refine lv_aload_n hx hb d_W_law_394 rfl (lv_at hl 4 rfl) ?_
    refine lv_aload_n hx hb d_W_law_395 rfl (lv_at hl 2 rfl) ?_
    refine lv_iload hx hb d_W_law_396 (lv_at hl 1 rfl) ?_
    refine lv_iconst (v := 1) hx hb d_W_law_398 (by decide) ?_
    refine lv_iadd hx hb d_W_law_399 ?_
    refine ct_topi (x' := nI (i + 1)) (nI_add _ 1) ?_
    refine va_sld hx hb hX hbl hbA hS (vp_in_nI (by omega) (by omega)) d_W_law_400 ?_
    refine ct_topi (x' := sc (i + 1)) (congrArg sc (nI_clamp (by omega))) ?_
    refine lv_aload_n hx hb d_W_law_401 rfl (lv_at hl 2 rfl) ?_
    refine lv_iload hx hb d_W_law_402 (lv_at hl 1 rfl) ?_
    refine lv_iconst (v := 2) hx hb d_W_law_404 (by decide) ?_
    refine lv_iadd hx hb d_W_law_405 ?_
    refine ct_topi (x' := nI (i + 2)) (nI_add _ 2) ?_
    refine va_sld hx hb hX hbl hbA hS (vp_in_nI (by omega) (by omega)) d_W_law_406 ?_
    refine ct_topi (x' := sc (i + 2)) (congrArg sc (nI_clamp (by omega))) ?_
    have hMP : ∃ fs, va_P D vwCl [(u0, .inr (3, fs))] H := by obtain ⟨rf9, sf9, tf9, _, h⟩ := hM; exact ⟨_, h.sub [0] rfl⟩
    obtain ⟨fs9, hMP⟩ := hMP
    refine cm_ret (va_runV (As := [.int (sc (i + 1)), .int (sc (i + 2))]) (rest := []) ⟨hx, hb, hml, hown, hts⟩ (m_M_select hG.2.1 ok0 (sc (i + 1)) (sc (i + 2))) ⟨ct_cb 2 hts x_494 x_491 x_6 rfl rfl (by decide +kernel) ⟨by decide, by decide⟩, hts _ x_492, hts _ x_493⟩ ⟨st_blind, va_recv hK hMP (ci := 3) (q0 := 0) rfl rfl, fun U hU hW => ⟨rfl, hE.at hS hAB hU hW, by rw [hU]; exact hM⟩⟩ rfl rfl hl.1 rfl (lv_room (Nat.le_of_ble_eq_true rfl)) d_W_law_407 ⟨show _ ≤ 601024 by omega, show _ ≤ 7293000 by omega⟩) hS (fun q h => hG.2.1.AB q h) (fun _ _ h => h.1) (fun v H locs hv hS => ?_)
    obtain ⟨hf2, hv⟩ := hv
    refine va_forget (fun z hz => hS.2.2 z hz) ?_
    have hfr := fr.of hS
    have hS : va_S (fun q => s.heap.size ≤ q) s.heap H [] := ⟨hfr.1, hfr.2, fun z hz => nomatch hz⟩
    have hLR := hG.lr hLR hf2
    have hO := hG.out hO hf2
    rcases hv with ⟨hcd2, hM, w2, rfl, hrel2⟩ | ⟨hcd2, hM, w2, rfl⟩
    · have hw := aSel.uniq hrel hrel2
      subst hw
      refine W.eq (g2 := F0 m 410 ls [.int w1]) rfl ?_
      refine lv_istore (lv' := [(6, .int w1), (5, .int 0), (4, .int (nI i)), (0, .ref b), (1, .ref (y 0)), (2, .ref u0), (3, .ref ao)]) hx hb d_W_law_410 hl (by decide) rfl (fun ls hl => ?_)
      refine lv_aload_n hx hb d_W_law_412 rfl (lv_at hl 5 rfl) ?_
      have hMP : ∃ fs, va_P D vwCl [(u0, .inr (3, fs))] H := by obtain ⟨rf9, sf9, tf9, _, h⟩ := hM; exact ⟨_, h.sub [0] rfl⟩
      obtain ⟨fs9, hMP⟩ := hMP
      refine cm_read (va_runV (As := []) (rest := []) ⟨hx, hb, hml, hown, hts⟩ (m_M_thrown hG.2.1 ok0) ⟨ct_cb 0 hts x_462 x_459 x_6 rfl rfl (by decide +kernel) ⟨by decide, by decide⟩, hts _ x_460, hts _ x_461⟩ ⟨st_blind, va_recv hK hMP (ci := 3) (q0 := 0) rfl rfl, fun U hU hW => ⟨rfl, hE.at hS hAB hU hW, by rw [hU]; exact hM⟩⟩ rfl rfl hl.1 rfl (lv_room (Nat.le_of_ble_eq_true rfl)) d_W_law_413 ⟨show _ ≤ 601024 by omega, show _ ≤ 7293000 by omega⟩) (fun v hv => ?_)
      subst hv
      refine W.eq (g2 := F0 m 416 ls [.int 0]) rfl ?_
      refine lv_iload hx hb d_W_law_416 (lv_at hl 1 rfl) ?_
      refine lv_icmp_eq (tgt := 423) hx hb d_W_law_418 (by decide) (fun _ => ?_) (fun c9 => absurd (rfl) c9)
      refine lv_iload hx hb d_W_law_423 (lv_at hl 1 rfl) ?_
      refine lv_if_ne (tgt := 440) hx hb d_W_law_425 (by decide) (fun c9 => absurd (rfl) c9) (fun _ => ?_)
      refine lv_aload_n hx hb d_W_law_428 rfl (lv_at hl 6 rfl) ?_
      refine lv_iconst (v := 0) hx hb d_W_law_429 (by decide) ?_
      refine va_lald hx hb hK hO 0 1 rfl rfl (vp_in_nI (n := 0) (by decide) (by decide)) d_W_law_430 ?_
      refine ct_topl (x' := (w1).toInt64) hg0 ?_
      refine lv_iload hx hb d_W_law_431 (lv_at hl 0 rfl) ?_
      refine lv_i2l hx hb d_W_law_433 rfl ?_
      refine W.lcmp hx hb d_W_law_434 ?_
      refine ct_topi (x' := 0) (lg_self _) ?_
      refine lv_if_eq (tgt := 440) hx hb d_W_law_435 (by decide) (fun _ => ?_) (fun c9 => absurd (rfl) c9)
      refine lv_goto (tgt := 1003) hx hb d_W_law_440 (by decide) ?_
      refine W.widen (k := c9 + 11) (n := s9 + 66) (by omega) (by omega) ?_
      exact next xs ws H ls ⟨hLR, ⟨_, hM⟩, ⟨_, hO⟩, ok0, hfr⟩ (lv_sub hl [2, 3, 4, 5, 6] rfl)
    · exact absurd hcd hcd2
  · refine W.eq (g2 := F0 m 392 ls [.int 1]) rfl ?_
    refine lv_istore (lv' := [(5, .int 1), (4, .int (nI i)), (0, .ref b), (1, .ref (y 0)), (2, .ref u0), (3, .ref ao)]) hx hb d_W_law_392 hl (by decide) rfl (fun ls hl => ?_)
    refine lv_aload_n hx hb d_W_law_394 rfl (lv_at hl 4 rfl) ?_
    refine lv_aload_n hx hb d_W_law_395 rfl (lv_at hl 2 rfl) ?_
    refine lv_iload hx hb d_W_law_396 (lv_at hl 1 rfl) ?_
    refine lv_iconst (v := 1) hx hb d_W_law_398 (by decide) ?_
    refine lv_iadd hx hb d_W_law_399 ?_
    refine ct_topi (x' := nI (i + 1)) (nI_add _ 1) ?_
    refine va_sld hx hb hX hbl hbA hS (vp_in_nI (by omega) (by omega)) d_W_law_400 ?_
    refine ct_topi (x' := sc (i + 1)) (congrArg sc (nI_clamp (by omega))) ?_
    refine lv_aload_n hx hb d_W_law_401 rfl (lv_at hl 2 rfl) ?_
    refine lv_iload hx hb d_W_law_402 (lv_at hl 1 rfl) ?_
    refine lv_iconst (v := 2) hx hb d_W_law_404 (by decide) ?_
    refine lv_iadd hx hb d_W_law_405 ?_
    refine ct_topi (x' := nI (i + 2)) (nI_add _ 2) ?_
    refine va_sld hx hb hX hbl hbA hS (vp_in_nI (by omega) (by omega)) d_W_law_406 ?_
    refine ct_topi (x' := sc (i + 2)) (congrArg sc (nI_clamp (by omega))) ?_
    have hMP : ∃ fs, va_P D vwCl [(u0, .inr (3, fs))] H := by obtain ⟨rf9, sf9, tf9, _, h⟩ := hM; exact ⟨_, h.sub [0] rfl⟩
    obtain ⟨fs9, hMP⟩ := hMP
    refine cm_ret (va_runV (As := [.int (sc (i + 1)), .int (sc (i + 2))]) (rest := []) ⟨hx, hb, hml, hown, hts⟩ (m_M_select hG.2.1 ok0 (sc (i + 1)) (sc (i + 2))) ⟨ct_cb 2 hts x_494 x_491 x_6 rfl rfl (by decide +kernel) ⟨by decide, by decide⟩, hts _ x_492, hts _ x_493⟩ ⟨st_blind, va_recv hK hMP (ci := 3) (q0 := 0) rfl rfl, fun U hU hW => ⟨rfl, hE.at hS hAB hU hW, by rw [hU]; exact hM⟩⟩ rfl rfl hl.1 rfl (lv_room (Nat.le_of_ble_eq_true rfl)) d_W_law_407 ⟨show _ ≤ 601024 by omega, show _ ≤ 7293000 by omega⟩) hS (fun q h => hG.2.1.AB q h) (fun _ _ h => h.1) (fun v H locs hv hS => ?_)
    obtain ⟨hf2, hv⟩ := hv
    refine va_forget (fun z hz => hS.2.2 z hz) ?_
    have hfr := fr.of hS
    have hS : va_S (fun q => s.heap.size ≤ q) s.heap H [] := ⟨hfr.1, hfr.2, fun z hz => nomatch hz⟩
    have hLR := hG.lr hLR hf2
    have hO := hG.out hO hf2
    rcases hv with ⟨hcd2, hM, w2, rfl, hrel2⟩ | ⟨hcd2, hM, w2, rfl⟩
    · exact absurd hcd2 hcd
    · refine W.eq (g2 := F0 m 410 ls [.int w2]) rfl ?_
      refine lv_istore (lv' := [(6, .int w2), (5, .int 1), (4, .int (nI i)), (0, .ref b), (1, .ref (y 0)), (2, .ref u0), (3, .ref ao)]) hx hb d_W_law_410 hl (by decide) rfl (fun ls hl => ?_)
      refine lv_aload_n hx hb d_W_law_412 rfl (lv_at hl 5 rfl) ?_
      have hMP : ∃ fs, va_P D vwCl [(u0, .inr (3, fs))] H := by obtain ⟨rf9, sf9, tf9, _, h⟩ := hM; exact ⟨_, h.sub [0] rfl⟩
      obtain ⟨fs9, hMP⟩ := hMP
      refine cm_read (va_runV (As := []) (rest := []) ⟨hx, hb, hml, hown, hts⟩ (m_M_thrown hG.2.1 ok0) ⟨ct_cb 0 hts x_462 x_459 x_6 rfl rfl (by decide +kernel) ⟨by decide, by decide⟩, hts _ x_460, hts _ x_461⟩ ⟨st_blind, va_recv hK hMP (ci := 3) (q0 := 0) rfl rfl, fun U hU hW => ⟨rfl, hE.at hS hAB hU hW, by rw [hU]; exact hM⟩⟩ rfl rfl hl.1 rfl (lv_room (Nat.le_of_ble_eq_true rfl)) d_W_law_413 ⟨show _ ≤ 601024 by omega, show _ ≤ 7293000 by omega⟩) (fun v hv => ?_)
      subst hv
      refine W.eq (g2 := F0 m 416 ls [.int 1]) rfl ?_
      refine lv_iload hx hb d_W_law_416 (lv_at hl 1 rfl) ?_
      refine lv_icmp_eq (tgt := 423) hx hb d_W_law_418 (by decide) (fun _ => ?_) (fun c9 => absurd (rfl) c9)
      refine lv_iload hx hb d_W_law_423 (lv_at hl 1 rfl) ?_
      refine lv_if_ne (tgt := 440) hx hb d_W_law_425 (by decide) (fun _ => ?_) (fun c9 => absurd c9 (by decide))
      refine lv_goto (tgt := 1003) hx hb d_W_law_440 (by decide) ?_
      refine W.widen (k := c9 + 11) (n := s9 + 66) (by omega) (by omega) ?_
      exact next xs ws H ls ⟨hLR, ⟨_, hM⟩, ⟨_, hO⟩, ok0, hfr⟩ (lv_sub hl [2, 3, 4, 5, 6] rfl)
set_option maxHeartbeats 4000000 in
set_option maxRecDepth 100000 in
theorem w_quantile {p : Program} {l : Launch} {e : Env} {s : State} {m : MethodId} {below : List Frame} {meth : Method} {c : Code} {Q : State → Prop} {D : va_G} {cI cJ cS cO : ClassId} {b L : Nat} {sc : Nat → Int32} (C0 : LC D cI cJ cS cO p l s m meth c b L sc) {y : Nat → Nat} {u0 u1 u2 u3 ao sg d : Nat} (hG : GEO s.heap.size y d u0 u1 u2 u3 ao) {i : Nat} (hL : L ≤ 3585) (hi : i + 7 ≤ L) {xs ws : List Nat} {H : Heap} {ls : Array Slot} {c9 s9 : Nat} (hc9 : c9 + 11 ≤ 601024) (hs9 : s9 + 66 ≤ 7293000)
    (hI : LInv D cI cJ cS cO y u0 u1 u2 u3 ao sg d s xs ws H) (hl : lv_has ls 7 [(4, .int (nI i)), (0, .ref b), (1, .ref (y 0)), (2, .ref u0), (3, .ref ao)])
    (next : ∀ (xs ws : List Nat) (H : Heap) (ls : Array Slot), LInv D cI cJ cS cO y u0 u1 u2 u3 ao sg d s xs ws H → lv_has ls 7 [(4, .int (nI i)), (0, .ref b), (1, .ref (y 0)), (2, .ref u0), (3, .ref ao)] → W p l e room_1 s m #[Value.ref b] below meth c H [] (c9 + 11) (s9 + 66) Q (F0 m 1003 ls [])) :
    W p l e room_1 s m #[Value.ref b] below meth c H [] c9 s9 Q (F0 m 443 ls []) := by
  obtain ⟨hx, hb, hr, hml, hown, hts, hlocks, hE, hN, hX, hbl, hl9⟩ := C0
  obtain ⟨hLR, ⟨th, hM⟩, ⟨g, hO⟩, ok0, hfr⟩ := hI
  have hK := hE.1
  have hAB : ∀ q : Nat, s.heap.size ≤ q → s.heap.size ≤ q := fun q h => h
  have hbA : ¬ s.heap.size ≤ b := Nat.not_le.mpr hbl
  have hS : va_S (fun q => s.heap.size ≤ q) s.heap H [] := ⟨hfr.1, hfr.2, fun z hz => nomatch hz⟩
  refine lv_aload_n hx hb d_W_law_443 rfl (lv_at hl 2 rfl) ?_
  refine lv_aload_n hx hb d_W_law_444 rfl (lv_at hl 1 rfl) ?_
  refine lv_iload hx hb d_W_law_445 (lv_at hl 0 rfl) ?_
  refine lv_iconst (v := 1) hx hb d_W_law_447 (by decide) ?_
  refine lv_iadd hx hb d_W_law_448 ?_
  refine ct_topi (x' := nI (i + 1)) (nI_add _ 1) ?_
  refine va_sld hx hb hX hbl hbA hS (vp_in_nI (by omega) (by omega)) d_W_law_449 ?_
  refine ct_topi (x' := sc (i + 1)) (congrArg sc (nI_clamp (by omega))) ?_
  refine lv_aload_n hx hb d_W_law_450 rfl (lv_at hl 1 rfl) ?_
  refine lv_iload hx hb d_W_law_451 (lv_at hl 0 rfl) ?_
  refine lv_iconst (v := 2) hx hb d_W_law_453 (by decide) ?_
  refine lv_iadd hx hb d_W_law_454 ?_
  refine ct_topi (x' := nI (i + 2)) (nI_add _ 2) ?_
  refine va_sld hx hb hX hbl hbA hS (vp_in_nI (by omega) (by omega)) d_W_law_455 ?_
  refine ct_topi (x' := sc (i + 2)) (congrArg sc (nI_clamp (by omega))) ?_
  refine lv_aload_n hx hb d_W_law_456 rfl (lv_at hl 1 rfl) ?_
  refine lv_iload hx hb d_W_law_457 (lv_at hl 0 rfl) ?_
  refine lv_iconst (v := 3) hx hb d_W_law_459 (by decide) ?_
  refine lv_iadd hx hb d_W_law_460 ?_
  refine ct_topi (x' := nI (i + 3)) (nI_add _ 3) ?_
  refine va_sld hx hb hX hbl hbA hS (vp_in_nI (by omega) (by omega)) d_W_law_461 ?_
  refine ct_topi (x' := sc (i + 3)) (congrArg sc (nI_clamp (by omega))) ?_
  refine lv_aload_n hx hb d_W_law_462 rfl (lv_at hl 4 rfl) ?_
  have hAY : ∀ q : Nat, ((q = y 3) ∨ q = ao) → YA y d ao q := by
    rintro q (h | h)
    · exact Or.inl ⟨3, by omega, h⟩
    · exact Or.inr h
  refine cx_ret (vx_runSX (As := [.ref (y 0), .int (sc (i + 1)), .int (sc (i + 2)), .int (sc (i + 3)), .ref ao]) (rest := []) ⟨hx, hb, hml, hown, hts⟩ (m_W_quantile hl9 hG.1 ok0 hG.2.2.2.1 hG.2.2.1 (sc (i + 1)) (sc (i + 2)) (sc (i + 3))) (vx_cwSW 5 hts (gi_csw x_356 x_357 x_0 x_358) rfl rfl rfl (by decide +kernel) ⟨by decide, by decide⟩) ⟨sh_blind, fun U hU hW => ⟨⟨rfl, hE.at hS hAB hU hW, by rw [hU]; exact ⟨hLR, hO⟩⟩, hN.moved hW.alike⟩⟩ rfl rfl hl.1 rfl (lv_room (Nat.le_of_ble_eq_true rfl)) d_W_law_463 ⟨show c9 + 3 ≤ 601024 by omega, show s9 + 18 ≤ 7293000 by omega⟩) hS (fun q h => hG.ge q (hAY q h)) (fun _ _ h => h.1) (fun _ _ h => h.elim) (fun E ce q H locs hxx => hxx.elim) (fun v H locs hv hS => ?_)
  obtain ⟨hf1, hv⟩ := hv
  refine va_forget (fun z hz => hS.2.2 z hz) ?_
  have hfr := fr.of hS
  have hS : va_S (fun q => s.heap.size ≤ q) s.heap H [] := ⟨hfr.1, hfr.2, fun z hz => nomatch hz⟩
  have hM := hG.mr hAY hM hf1
  rcases hv with ⟨rfl, hcd, hLR, w1, g, hrel, hg0, hO⟩ | ⟨rfl, hcd, hLR, g, hO⟩
  · refine W.eq (g2 := F0 m 466 ls [.int 0]) rfl ?_
    refine lv_istore (lv' := [(5, .int 0), (4, .int (nI i)), (0, .ref b), (1, .ref (y 0)), (2, .ref u0), (3, .ref ao)]) hx hb d_W_law_466 hl (by decide) rfl (fun ls hl => ?_)
    refine lv_aload_n hx hb d_W_law_468 rfl (lv_at hl 4 rfl) ?_
    refine lv_aload_n hx hb d_W_law_469 rfl (lv_at hl 2 rfl) ?_
    refine lv_iload hx hb d_W_law_470 (lv_at hl 1 rfl) ?_
    refine lv_iconst (v := 1) hx hb d_W_law_472 (by decide) ?_
    refine lv_iadd hx hb d_W_law_473 ?_
    refine ct_topi (x' := nI (i + 1)) (nI_add _ 1) ?_
    refine va_sld hx hb hX hbl hbA hS (vp_in_nI (by omega) (by omega)) d_W_law_474 ?_
    refine ct_topi (x' := sc (i + 1)) (congrArg sc (nI_clamp (by omega))) ?_
    refine lv_aload_n hx hb d_W_law_475 rfl (lv_at hl 2 rfl) ?_
    refine lv_iload hx hb d_W_law_476 (lv_at hl 1 rfl) ?_
    refine lv_iconst (v := 2) hx hb d_W_law_478 (by decide) ?_
    refine lv_iadd hx hb d_W_law_479 ?_
    refine ct_topi (x' := nI (i + 2)) (nI_add _ 2) ?_
    refine va_sld hx hb hX hbl hbA hS (vp_in_nI (by omega) (by omega)) d_W_law_480 ?_
    refine ct_topi (x' := sc (i + 2)) (congrArg sc (nI_clamp (by omega))) ?_
    refine lv_aload_n hx hb d_W_law_481 rfl (lv_at hl 2 rfl) ?_
    refine lv_iload hx hb d_W_law_482 (lv_at hl 1 rfl) ?_
    refine lv_iconst (v := 3) hx hb d_W_law_484 (by decide) ?_
    refine lv_iadd hx hb d_W_law_485 ?_
    refine ct_topi (x' := nI (i + 3)) (nI_add _ 3) ?_
    refine va_sld hx hb hX hbl hbA hS (vp_in_nI (by omega) (by omega)) d_W_law_486 ?_
    refine ct_topi (x' := sc (i + 3)) (congrArg sc (nI_clamp (by omega))) ?_
    have hMP : ∃ fs, va_P D vwCl [(u0, .inr (3, fs))] H := by obtain ⟨rf9, sf9, tf9, _, h⟩ := hM; exact ⟨_, h.sub [0] rfl⟩
    obtain ⟨fs9, hMP⟩ := hMP
    refine cm_ret (va_runV (As := [.int (sc (i + 1)), .int (sc (i + 2)), .int (sc (i + 3))]) (rest := []) ⟨hx, hb, hml, hown, hts⟩ (m_M_quantile hG.2.1 ok0 (sc (i + 1)) (sc (i + 2)) (sc (i + 3))) ⟨ct_cb 3 hts x_498 x_495 x_6 rfl rfl (by decide +kernel) ⟨by decide, by decide⟩, hts _ x_496, hts _ x_497⟩ ⟨st_blind, va_recv hK hMP (ci := 3) (q0 := 0) rfl rfl, fun U hU hW => ⟨rfl, hE.at hS hAB hU hW, by rw [hU]; exact hM⟩⟩ rfl rfl hl.1 rfl (lv_room (Nat.le_of_ble_eq_true rfl)) d_W_law_487 ⟨show _ ≤ 601024 by omega, show _ ≤ 7293000 by omega⟩) hS (fun q h => hG.2.1.AB q h) (fun _ _ h => h.1) (fun v H locs hv hS => ?_)
    obtain ⟨hf2, hv⟩ := hv
    refine va_forget (fun z hz => hS.2.2 z hz) ?_
    have hfr := fr.of hS
    have hS : va_S (fun q => s.heap.size ≤ q) s.heap H [] := ⟨hfr.1, hfr.2, fun z hz => nomatch hz⟩
    have hLR := hG.lr hLR hf2
    have hO := hG.out hO hf2
    rcases hv with ⟨hcd2, hM, w2, rfl, hrel2⟩ | ⟨hcd2, hM, w2, rfl⟩
    · have hw := aQua.uniq hrel hrel2
      subst hw
      refine W.eq (g2 := F0 m 490 ls [.int w1]) rfl ?_
      refine lv_istore (lv' := [(6, .int w1), (5, .int 0), (4, .int (nI i)), (0, .ref b), (1, .ref (y 0)), (2, .ref u0), (3, .ref ao)]) hx hb d_W_law_490 hl (by decide) rfl (fun ls hl => ?_)
      refine lv_aload_n hx hb d_W_law_492 rfl (lv_at hl 5 rfl) ?_
      have hMP : ∃ fs, va_P D vwCl [(u0, .inr (3, fs))] H := by obtain ⟨rf9, sf9, tf9, _, h⟩ := hM; exact ⟨_, h.sub [0] rfl⟩
      obtain ⟨fs9, hMP⟩ := hMP
      refine cm_read (va_runV (As := []) (rest := []) ⟨hx, hb, hml, hown, hts⟩ (m_M_thrown hG.2.1 ok0) ⟨ct_cb 0 hts x_462 x_459 x_6 rfl rfl (by decide +kernel) ⟨by decide, by decide⟩, hts _ x_460, hts _ x_461⟩ ⟨st_blind, va_recv hK hMP (ci := 3) (q0 := 0) rfl rfl, fun U hU hW => ⟨rfl, hE.at hS hAB hU hW, by rw [hU]; exact hM⟩⟩ rfl rfl hl.1 rfl (lv_room (Nat.le_of_ble_eq_true rfl)) d_W_law_493 ⟨show _ ≤ 601024 by omega, show _ ≤ 7293000 by omega⟩) (fun v hv => ?_)
      subst hv
      refine W.eq (g2 := F0 m 496 ls [.int 0]) rfl ?_
      refine lv_iload hx hb d_W_law_496 (lv_at hl 1 rfl) ?_
      refine lv_icmp_eq (tgt := 503) hx hb d_W_law_498 (by decide) (fun _ => ?_) (fun c9 => absurd (rfl) c9)
      refine lv_iload hx hb d_W_law_503 (lv_at hl 1 rfl) ?_
      refine lv_if_ne (tgt := 520) hx hb d_W_law_505 (by decide) (fun c9 => absurd (rfl) c9) (fun _ => ?_)
      refine lv_aload_n hx hb d_W_law_508 rfl (lv_at hl 6 rfl) ?_
      refine lv_iconst (v := 0) hx hb d_W_law_509 (by decide) ?_
      refine va_lald hx hb hK hO 0 1 rfl rfl (vp_in_nI (n := 0) (by decide) (by decide)) d_W_law_510 ?_
      refine ct_topl (x' := (w1).toInt64) hg0 ?_
      refine lv_iload hx hb d_W_law_511 (lv_at hl 0 rfl) ?_
      refine lv_i2l hx hb d_W_law_513 rfl ?_
      refine W.lcmp hx hb d_W_law_514 ?_
      refine ct_topi (x' := 0) (lg_self _) ?_
      refine lv_if_eq (tgt := 520) hx hb d_W_law_515 (by decide) (fun _ => ?_) (fun c9 => absurd (rfl) c9)
      refine lv_goto (tgt := 1003) hx hb d_W_law_520 (by decide) ?_
      refine W.widen (k := c9 + 11) (n := s9 + 66) (by omega) (by omega) ?_
      exact next xs ws H ls ⟨hLR, ⟨_, hM⟩, ⟨_, hO⟩, ok0, hfr⟩ (lv_sub hl [2, 3, 4, 5, 6] rfl)
    · exact absurd hcd hcd2
  · refine W.eq (g2 := F0 m 466 ls [.int 1]) rfl ?_
    refine lv_istore (lv' := [(5, .int 1), (4, .int (nI i)), (0, .ref b), (1, .ref (y 0)), (2, .ref u0), (3, .ref ao)]) hx hb d_W_law_466 hl (by decide) rfl (fun ls hl => ?_)
    refine lv_aload_n hx hb d_W_law_468 rfl (lv_at hl 4 rfl) ?_
    refine lv_aload_n hx hb d_W_law_469 rfl (lv_at hl 2 rfl) ?_
    refine lv_iload hx hb d_W_law_470 (lv_at hl 1 rfl) ?_
    refine lv_iconst (v := 1) hx hb d_W_law_472 (by decide) ?_
    refine lv_iadd hx hb d_W_law_473 ?_
    refine ct_topi (x' := nI (i + 1)) (nI_add _ 1) ?_
    refine va_sld hx hb hX hbl hbA hS (vp_in_nI (by omega) (by omega)) d_W_law_474 ?_
    refine ct_topi (x' := sc (i + 1)) (congrArg sc (nI_clamp (by omega))) ?_
    refine lv_aload_n hx hb d_W_law_475 rfl (lv_at hl 2 rfl) ?_
    refine lv_iload hx hb d_W_law_476 (lv_at hl 1 rfl) ?_
    refine lv_iconst (v := 2) hx hb d_W_law_478 (by decide) ?_
    refine lv_iadd hx hb d_W_law_479 ?_
    refine ct_topi (x' := nI (i + 2)) (nI_add _ 2) ?_
    refine va_sld hx hb hX hbl hbA hS (vp_in_nI (by omega) (by omega)) d_W_law_480 ?_
    refine ct_topi (x' := sc (i + 2)) (congrArg sc (nI_clamp (by omega))) ?_
    refine lv_aload_n hx hb d_W_law_481 rfl (lv_at hl 2 rfl) ?_
    refine lv_iload hx hb d_W_law_482 (lv_at hl 1 rfl) ?_
    refine lv_iconst (v := 3) hx hb d_W_law_484 (by decide) ?_
    refine lv_iadd hx hb d_W_law_485 ?_
    refine ct_topi (x' := nI (i + 3)) (nI_add _ 3) ?_
    refine va_sld hx hb hX hbl hbA hS (vp_in_nI (by omega) (by omega)) d_W_law_486 ?_
    refine ct_topi (x' := sc (i + 3)) (congrArg sc (nI_clamp (by omega))) ?_
    have hMP : ∃ fs, va_P D vwCl [(u0, .inr (3, fs))] H := by obtain ⟨rf9, sf9, tf9, _, h⟩ := hM; exact ⟨_, h.sub [0] rfl⟩
    obtain ⟨fs9, hMP⟩ := hMP
    refine cm_ret (va_runV (As := [.int (sc (i + 1)), .int (sc (i + 2)), .int (sc (i + 3))]) (rest := []) ⟨hx, hb, hml, hown, hts⟩ (m_M_quantile hG.2.1 ok0 (sc (i + 1)) (sc (i + 2)) (sc (i + 3))) ⟨ct_cb 3 hts x_498 x_495 x_6 rfl rfl (by decide +kernel) ⟨by decide, by decide⟩, hts _ x_496, hts _ x_497⟩ ⟨st_blind, va_recv hK hMP (ci := 3) (q0 := 0) rfl rfl, fun U hU hW => ⟨rfl, hE.at hS hAB hU hW, by rw [hU]; exact hM⟩⟩ rfl rfl hl.1 rfl (lv_room (Nat.le_of_ble_eq_true rfl)) d_W_law_487 ⟨show _ ≤ 601024 by omega, show _ ≤ 7293000 by omega⟩) hS (fun q h => hG.2.1.AB q h) (fun _ _ h => h.1) (fun v H locs hv hS => ?_)
    obtain ⟨hf2, hv⟩ := hv
    refine va_forget (fun z hz => hS.2.2 z hz) ?_
    have hfr := fr.of hS
    have hS : va_S (fun q => s.heap.size ≤ q) s.heap H [] := ⟨hfr.1, hfr.2, fun z hz => nomatch hz⟩
    have hLR := hG.lr hLR hf2
    have hO := hG.out hO hf2
    rcases hv with ⟨hcd2, hM, w2, rfl, hrel2⟩ | ⟨hcd2, hM, w2, rfl⟩
    · exact absurd hcd2 hcd
    · refine W.eq (g2 := F0 m 490 ls [.int w2]) rfl ?_
      refine lv_istore (lv' := [(6, .int w2), (5, .int 1), (4, .int (nI i)), (0, .ref b), (1, .ref (y 0)), (2, .ref u0), (3, .ref ao)]) hx hb d_W_law_490 hl (by decide) rfl (fun ls hl => ?_)
      refine lv_aload_n hx hb d_W_law_492 rfl (lv_at hl 5 rfl) ?_
      have hMP : ∃ fs, va_P D vwCl [(u0, .inr (3, fs))] H := by obtain ⟨rf9, sf9, tf9, _, h⟩ := hM; exact ⟨_, h.sub [0] rfl⟩
      obtain ⟨fs9, hMP⟩ := hMP
      refine cm_read (va_runV (As := []) (rest := []) ⟨hx, hb, hml, hown, hts⟩ (m_M_thrown hG.2.1 ok0) ⟨ct_cb 0 hts x_462 x_459 x_6 rfl rfl (by decide +kernel) ⟨by decide, by decide⟩, hts _ x_460, hts _ x_461⟩ ⟨st_blind, va_recv hK hMP (ci := 3) (q0 := 0) rfl rfl, fun U hU hW => ⟨rfl, hE.at hS hAB hU hW, by rw [hU]; exact hM⟩⟩ rfl rfl hl.1 rfl (lv_room (Nat.le_of_ble_eq_true rfl)) d_W_law_493 ⟨show _ ≤ 601024 by omega, show _ ≤ 7293000 by omega⟩) (fun v hv => ?_)
      subst hv
      refine W.eq (g2 := F0 m 496 ls [.int 1]) rfl ?_
      refine lv_iload hx hb d_W_law_496 (lv_at hl 1 rfl) ?_
      refine lv_icmp_eq (tgt := 503) hx hb d_W_law_498 (by decide) (fun _ => ?_) (fun c9 => absurd (rfl) c9)
      refine lv_iload hx hb d_W_law_503 (lv_at hl 1 rfl) ?_
      refine lv_if_ne (tgt := 520) hx hb d_W_law_505 (by decide) (fun _ => ?_) (fun c9 => absurd c9 (by decide))
      refine lv_goto (tgt := 1003) hx hb d_W_law_520 (by decide) ?_
      refine W.widen (k := c9 + 11) (n := s9 + 66) (by omega) (by omega) ?_
      exact next xs ws H ls ⟨hLR, ⟨_, hM⟩, ⟨_, hO⟩, ok0, hfr⟩ (lv_sub hl [2, 3, 4, 5, 6] rfl)
set_option maxHeartbeats 4000000 in
set_option maxRecDepth 100000 in
theorem w_between {p : Program} {l : Launch} {e : Env} {s : State} {m : MethodId} {below : List Frame} {meth : Method} {c : Code} {Q : State → Prop} {D : va_G} {cI cJ cS cO : ClassId} {b L : Nat} {sc : Nat → Int32} (C0 : LC D cI cJ cS cO p l s m meth c b L sc) {y : Nat → Nat} {u0 u1 u2 u3 ao sg d : Nat} (hG : GEO s.heap.size y d u0 u1 u2 u3 ao) {i : Nat} (hL : L ≤ 3585) (hi : i + 7 ≤ L) {xs ws : List Nat} {H : Heap} {ls : Array Slot} {c9 s9 : Nat} (hc9 : c9 + 11 ≤ 601024) (hs9 : s9 + 66 ≤ 7293000)
    (hI : LInv D cI cJ cS cO y u0 u1 u2 u3 ao sg d s xs ws H) (hl : lv_has ls 7 [(4, .int (nI i)), (0, .ref b), (1, .ref (y 0)), (2, .ref u0), (3, .ref ao)])
    (next : ∀ (xs ws : List Nat) (H : Heap) (ls : Array Slot), LInv D cI cJ cS cO y u0 u1 u2 u3 ao sg d s xs ws H → lv_has ls 7 [(4, .int (nI i)), (0, .ref b), (1, .ref (y 0)), (2, .ref u0), (3, .ref ao)] → W p l e room_1 s m #[Value.ref b] below meth c H [] (c9 + 11) (s9 + 66) Q (F0 m 1003 ls [])) :
    W p l e room_1 s m #[Value.ref b] below meth c H [] c9 s9 Q (F0 m 523 ls []) := by
  obtain ⟨hx, hb, hr, hml, hown, hts, hlocks, hE, hN, hX, hbl, hl9⟩ := C0
  obtain ⟨hLR, ⟨th, hM⟩, ⟨g, hO⟩, ok0, hfr⟩ := hI
  have hK := hE.1
  have hAB : ∀ q : Nat, s.heap.size ≤ q → s.heap.size ≤ q := fun q h => h
  have hbA : ¬ s.heap.size ≤ b := Nat.not_le.mpr hbl
  have hS : va_S (fun q => s.heap.size ≤ q) s.heap H [] := ⟨hfr.1, hfr.2, fun z hz => nomatch hz⟩
  refine lv_aload_n hx hb d_W_law_523 rfl (lv_at hl 2 rfl) ?_
  refine lv_aload_n hx hb d_W_law_524 rfl (lv_at hl 1 rfl) ?_
  refine lv_iload hx hb d_W_law_525 (lv_at hl 0 rfl) ?_
  refine lv_iconst (v := 1) hx hb d_W_law_527 (by decide) ?_
  refine lv_iadd hx hb d_W_law_528 ?_
  refine ct_topi (x' := nI (i + 1)) (nI_add _ 1) ?_
  refine va_sld hx hb hX hbl hbA hS (vp_in_nI (by omega) (by omega)) d_W_law_529 ?_
  refine ct_topi (x' := sc (i + 1)) (congrArg sc (nI_clamp (by omega))) ?_
  refine lv_aload_n hx hb d_W_law_530 rfl (lv_at hl 1 rfl) ?_
  refine lv_iload hx hb d_W_law_531 (lv_at hl 0 rfl) ?_
  refine lv_iconst (v := 2) hx hb d_W_law_533 (by decide) ?_
  refine lv_iadd hx hb d_W_law_534 ?_
  refine ct_topi (x' := nI (i + 2)) (nI_add _ 2) ?_
  refine va_sld hx hb hX hbl hbA hS (vp_in_nI (by omega) (by omega)) d_W_law_535 ?_
  refine ct_topi (x' := sc (i + 2)) (congrArg sc (nI_clamp (by omega))) ?_
  refine lv_aload_n hx hb d_W_law_536 rfl (lv_at hl 1 rfl) ?_
  refine lv_iload hx hb d_W_law_537 (lv_at hl 0 rfl) ?_
  refine lv_iconst (v := 3) hx hb d_W_law_539 (by decide) ?_
  refine lv_iadd hx hb d_W_law_540 ?_
  refine ct_topi (x' := nI (i + 3)) (nI_add _ 3) ?_
  refine va_sld hx hb hX hbl hbA hS (vp_in_nI (by omega) (by omega)) d_W_law_541 ?_
  refine ct_topi (x' := sc (i + 3)) (congrArg sc (nI_clamp (by omega))) ?_
  refine lv_aload_n hx hb d_W_law_542 rfl (lv_at hl 1 rfl) ?_
  refine lv_iload hx hb d_W_law_543 (lv_at hl 0 rfl) ?_
  refine lv_iconst (v := 4) hx hb d_W_law_545 (by decide) ?_
  refine lv_iadd hx hb d_W_law_546 ?_
  refine ct_topi (x' := nI (i + 4)) (nI_add _ 4) ?_
  refine va_sld hx hb hX hbl hbA hS (vp_in_nI (by omega) (by omega)) d_W_law_547 ?_
  refine ct_topi (x' := sc (i + 4)) (congrArg sc (nI_clamp (by omega))) ?_
  refine lv_aload_n hx hb d_W_law_548 rfl (lv_at hl 4 rfl) ?_
  have hAY : ∀ q : Nat, ((q = y 3) ∨ q = ao) → YA y d ao q := by
    rintro q (h | h)
    · exact Or.inl ⟨3, by omega, h⟩
    · exact Or.inr h
  refine cx_ret (vx_runSX (As := [.ref (y 0), .int (sc (i + 1)), .int (sc (i + 2)), .int (sc (i + 3)), .int (sc (i + 4)), .ref ao]) (rest := []) ⟨hx, hb, hml, hown, hts⟩ (m_W_between hl9 hG.1 ok0 hG.2.2.2.1 hG.2.2.1 (sc (i + 1)) (sc (i + 2)) (sc (i + 3)) (sc (i + 4))) (vx_cwSW 6 hts (gi_csw x_372 x_373 x_0 x_374) rfl rfl rfl (by decide +kernel) ⟨by decide, by decide⟩) ⟨sh_blind, fun U hU hW => ⟨⟨rfl, hE.at hS hAB hU hW, by rw [hU]; exact ⟨hLR, hO⟩⟩, hN.moved hW.alike⟩⟩ rfl rfl hl.1 rfl (lv_room (Nat.le_of_ble_eq_true rfl)) d_W_law_549 ⟨show c9 + 1 ≤ 601024 by omega, show s9 + 6 ≤ 7293000 by omega⟩) hS (fun q h => hG.ge q (hAY q h)) (fun _ _ h => h.1) (fun _ _ h => h.elim) (fun E ce q H locs hxx => hxx.elim) (fun v H locs hv hS => ?_)
  obtain ⟨hf1, hv⟩ := hv
  refine va_forget (fun z hz => hS.2.2 z hz) ?_
  have hfr := fr.of hS
  have hS : va_S (fun q => s.heap.size ≤ q) s.heap H [] := ⟨hfr.1, hfr.2, fun z hz => nomatch hz⟩
  have hM := hG.mr hAY hM hf1
  rcases hv with ⟨rfl, hcd, hLR, w1, g, hrel, hg0, hO⟩ | ⟨rfl, hcd, hLR, g, hO⟩
  · refine W.eq (g2 := F0 m 552 ls [.int 0]) rfl ?_
    refine lv_istore (lv' := [(5, .int 0), (4, .int (nI i)), (0, .ref b), (1, .ref (y 0)), (2, .ref u0), (3, .ref ao)]) hx hb d_W_law_552 hl (by decide) rfl (fun ls hl => ?_)
    refine lv_aload_n hx hb d_W_law_554 rfl (lv_at hl 4 rfl) ?_
    refine lv_aload_n hx hb d_W_law_555 rfl (lv_at hl 2 rfl) ?_
    refine lv_iload hx hb d_W_law_556 (lv_at hl 1 rfl) ?_
    refine lv_iconst (v := 1) hx hb d_W_law_558 (by decide) ?_
    refine lv_iadd hx hb d_W_law_559 ?_
    refine ct_topi (x' := nI (i + 1)) (nI_add _ 1) ?_
    refine va_sld hx hb hX hbl hbA hS (vp_in_nI (by omega) (by omega)) d_W_law_560 ?_
    refine ct_topi (x' := sc (i + 1)) (congrArg sc (nI_clamp (by omega))) ?_
    refine lv_aload_n hx hb d_W_law_561 rfl (lv_at hl 2 rfl) ?_
    refine lv_iload hx hb d_W_law_562 (lv_at hl 1 rfl) ?_
    refine lv_iconst (v := 2) hx hb d_W_law_564 (by decide) ?_
    refine lv_iadd hx hb d_W_law_565 ?_
    refine ct_topi (x' := nI (i + 2)) (nI_add _ 2) ?_
    refine va_sld hx hb hX hbl hbA hS (vp_in_nI (by omega) (by omega)) d_W_law_566 ?_
    refine ct_topi (x' := sc (i + 2)) (congrArg sc (nI_clamp (by omega))) ?_
    refine lv_aload_n hx hb d_W_law_567 rfl (lv_at hl 2 rfl) ?_
    refine lv_iload hx hb d_W_law_568 (lv_at hl 1 rfl) ?_
    refine lv_iconst (v := 3) hx hb d_W_law_570 (by decide) ?_
    refine lv_iadd hx hb d_W_law_571 ?_
    refine ct_topi (x' := nI (i + 3)) (nI_add _ 3) ?_
    refine va_sld hx hb hX hbl hbA hS (vp_in_nI (by omega) (by omega)) d_W_law_572 ?_
    refine ct_topi (x' := sc (i + 3)) (congrArg sc (nI_clamp (by omega))) ?_
    refine lv_aload_n hx hb d_W_law_573 rfl (lv_at hl 2 rfl) ?_
    refine lv_iload hx hb d_W_law_574 (lv_at hl 1 rfl) ?_
    refine lv_iconst (v := 4) hx hb d_W_law_576 (by decide) ?_
    refine lv_iadd hx hb d_W_law_577 ?_
    refine ct_topi (x' := nI (i + 4)) (nI_add _ 4) ?_
    refine va_sld hx hb hX hbl hbA hS (vp_in_nI (by omega) (by omega)) d_W_law_578 ?_
    refine ct_topi (x' := sc (i + 4)) (congrArg sc (nI_clamp (by omega))) ?_
    have hMP : ∃ fs, va_P D vwCl [(u0, .inr (3, fs))] H := by obtain ⟨rf9, sf9, tf9, _, h⟩ := hM; exact ⟨_, h.sub [0] rfl⟩
    obtain ⟨fs9, hMP⟩ := hMP
    refine cm_ret (va_runV (As := [.int (sc (i + 1)), .int (sc (i + 2)), .int (sc (i + 3)), .int (sc (i + 4))]) (rest := []) ⟨hx, hb, hml, hown, hts⟩ (m_M_between hG.2.1 ok0 (sc (i + 1)) (sc (i + 2)) (sc (i + 3)) (sc (i + 4))) ⟨ct_cb 4 hts x_510 x_507 x_6 rfl rfl (by decide +kernel) ⟨by decide, by decide⟩, hts _ x_508, hts _ x_509⟩ ⟨st_blind, va_recv hK hMP (ci := 3) (q0 := 0) rfl rfl, fun U hU hW => ⟨rfl, hE.at hS hAB hU hW, by rw [hU]; exact hM⟩⟩ rfl rfl hl.1 rfl (lv_room (Nat.le_of_ble_eq_true rfl)) d_W_law_579 ⟨show _ ≤ 601024 by omega, show _ ≤ 7293000 by omega⟩) hS (fun q h => hG.2.1.AB q h) (fun _ _ h => h.1) (fun v H locs hv hS => ?_)
    obtain ⟨hf2, hv⟩ := hv
    refine va_forget (fun z hz => hS.2.2 z hz) ?_
    have hfr := fr.of hS
    have hS : va_S (fun q => s.heap.size ≤ q) s.heap H [] := ⟨hfr.1, hfr.2, fun z hz => nomatch hz⟩
    have hLR := hG.lr hLR hf2
    have hO := hG.out hO hf2
    rcases hv with ⟨hcd2, hM, rfl⟩ | ⟨hcd2, hM, w2, rfl⟩
    · subst hrel
      refine W.eq (g2 := F0 m 582 ls [.int (aBtw (bk xs (sc (i + 1)) (sc (i + 2))) (sc (i + 3)) (sc (i + 4)))]) rfl ?_
      refine lv_istore (lv' := [(6, .int (aBtw (bk xs (sc (i + 1)) (sc (i + 2))) (sc (i + 3)) (sc (i + 4)))), (5, .int 0), (4, .int (nI i)), (0, .ref b), (1, .ref (y 0)), (2, .ref u0), (3, .ref ao)]) hx hb d_W_law_582 hl (by decide) rfl (fun ls hl => ?_)
      refine lv_aload_n hx hb d_W_law_584 rfl (lv_at hl 5 rfl) ?_
      have hMP : ∃ fs, va_P D vwCl [(u0, .inr (3, fs))] H := by obtain ⟨rf9, sf9, tf9, _, h⟩ := hM; exact ⟨_, h.sub [0] rfl⟩
      obtain ⟨fs9, hMP⟩ := hMP
      refine cm_read (va_runV (As := []) (rest := []) ⟨hx, hb, hml, hown, hts⟩ (m_M_thrown hG.2.1 ok0) ⟨ct_cb 0 hts x_462 x_459 x_6 rfl rfl (by decide +kernel) ⟨by decide, by decide⟩, hts _ x_460, hts _ x_461⟩ ⟨st_blind, va_recv hK hMP (ci := 3) (q0 := 0) rfl rfl, fun U hU hW => ⟨rfl, hE.at hS hAB hU hW, by rw [hU]; exact hM⟩⟩ rfl rfl hl.1 rfl (lv_room (Nat.le_of_ble_eq_true rfl)) d_W_law_585 ⟨show _ ≤ 601024 by omega, show _ ≤ 7293000 by omega⟩) (fun v hv => ?_)
      subst hv
      refine W.eq (g2 := F0 m 588 ls [.int 0]) rfl ?_
      refine lv_iload hx hb d_W_law_588 (lv_at hl 1 rfl) ?_
      refine lv_icmp_eq (tgt := 595) hx hb d_W_law_590 (by decide) (fun _ => ?_) (fun c9 => absurd (rfl) c9)
      refine lv_iload hx hb d_W_law_595 (lv_at hl 1 rfl) ?_
      refine lv_if_ne (tgt := 612) hx hb d_W_law_597 (by decide) (fun c9 => absurd (rfl) c9) (fun _ => ?_)
      refine lv_aload_n hx hb d_W_law_600 rfl (lv_at hl 6 rfl) ?_
      refine lv_iconst (v := 0) hx hb d_W_law_601 (by decide) ?_
      refine va_lald hx hb hK hO 0 1 rfl rfl (vp_in_nI (n := 0) (by decide) (by decide)) d_W_law_602 ?_
      refine ct_topl (x' := (aBtw (bk xs (sc (i + 1)) (sc (i + 2))) (sc (i + 3)) (sc (i + 4))).toInt64) hg0 ?_
      refine lv_iload hx hb d_W_law_603 (lv_at hl 0 rfl) ?_
      refine lv_i2l hx hb d_W_law_605 rfl ?_
      refine W.lcmp hx hb d_W_law_606 ?_
      refine ct_topi (x' := 0) (lg_self _) ?_
      refine lv_if_eq (tgt := 612) hx hb d_W_law_607 (by decide) (fun _ => ?_) (fun c9 => absurd (rfl) c9)
      refine lv_goto (tgt := 1003) hx hb d_W_law_612 (by decide) ?_
      refine W.widen (k := c9 + 11) (n := s9 + 66) (by omega) (by omega) ?_
      exact next xs ws H ls ⟨hLR, ⟨_, hM⟩, ⟨_, hO⟩, ok0, hfr⟩ (lv_sub hl [2, 3, 4, 5, 6] rfl)
    · exact absurd hcd hcd2
  · refine W.eq (g2 := F0 m 552 ls [.int 1]) rfl ?_
    refine lv_istore (lv' := [(5, .int 1), (4, .int (nI i)), (0, .ref b), (1, .ref (y 0)), (2, .ref u0), (3, .ref ao)]) hx hb d_W_law_552 hl (by decide) rfl (fun ls hl => ?_)
    refine lv_aload_n hx hb d_W_law_554 rfl (lv_at hl 4 rfl) ?_
    refine lv_aload_n hx hb d_W_law_555 rfl (lv_at hl 2 rfl) ?_
    refine lv_iload hx hb d_W_law_556 (lv_at hl 1 rfl) ?_
    refine lv_iconst (v := 1) hx hb d_W_law_558 (by decide) ?_
    refine lv_iadd hx hb d_W_law_559 ?_
    refine ct_topi (x' := nI (i + 1)) (nI_add _ 1) ?_
    refine va_sld hx hb hX hbl hbA hS (vp_in_nI (by omega) (by omega)) d_W_law_560 ?_
    refine ct_topi (x' := sc (i + 1)) (congrArg sc (nI_clamp (by omega))) ?_
    refine lv_aload_n hx hb d_W_law_561 rfl (lv_at hl 2 rfl) ?_
    refine lv_iload hx hb d_W_law_562 (lv_at hl 1 rfl) ?_
    refine lv_iconst (v := 2) hx hb d_W_law_564 (by decide) ?_
    refine lv_iadd hx hb d_W_law_565 ?_
    refine ct_topi (x' := nI (i + 2)) (nI_add _ 2) ?_
    refine va_sld hx hb hX hbl hbA hS (vp_in_nI (by omega) (by omega)) d_W_law_566 ?_
    refine ct_topi (x' := sc (i + 2)) (congrArg sc (nI_clamp (by omega))) ?_
    refine lv_aload_n hx hb d_W_law_567 rfl (lv_at hl 2 rfl) ?_
    refine lv_iload hx hb d_W_law_568 (lv_at hl 1 rfl) ?_
    refine lv_iconst (v := 3) hx hb d_W_law_570 (by decide) ?_
    refine lv_iadd hx hb d_W_law_571 ?_
    refine ct_topi (x' := nI (i + 3)) (nI_add _ 3) ?_
    refine va_sld hx hb hX hbl hbA hS (vp_in_nI (by omega) (by omega)) d_W_law_572 ?_
    refine ct_topi (x' := sc (i + 3)) (congrArg sc (nI_clamp (by omega))) ?_
    refine lv_aload_n hx hb d_W_law_573 rfl (lv_at hl 2 rfl) ?_
    refine lv_iload hx hb d_W_law_574 (lv_at hl 1 rfl) ?_
    refine lv_iconst (v := 4) hx hb d_W_law_576 (by decide) ?_
    refine lv_iadd hx hb d_W_law_577 ?_
    refine ct_topi (x' := nI (i + 4)) (nI_add _ 4) ?_
    refine va_sld hx hb hX hbl hbA hS (vp_in_nI (by omega) (by omega)) d_W_law_578 ?_
    refine ct_topi (x' := sc (i + 4)) (congrArg sc (nI_clamp (by omega))) ?_
    have hMP : ∃ fs, va_P D vwCl [(u0, .inr (3, fs))] H := by obtain ⟨rf9, sf9, tf9, _, h⟩ := hM; exact ⟨_, h.sub [0] rfl⟩
    obtain ⟨fs9, hMP⟩ := hMP
    refine cm_ret (va_runV (As := [.int (sc (i + 1)), .int (sc (i + 2)), .int (sc (i + 3)), .int (sc (i + 4))]) (rest := []) ⟨hx, hb, hml, hown, hts⟩ (m_M_between hG.2.1 ok0 (sc (i + 1)) (sc (i + 2)) (sc (i + 3)) (sc (i + 4))) ⟨ct_cb 4 hts x_510 x_507 x_6 rfl rfl (by decide +kernel) ⟨by decide, by decide⟩, hts _ x_508, hts _ x_509⟩ ⟨st_blind, va_recv hK hMP (ci := 3) (q0 := 0) rfl rfl, fun U hU hW => ⟨rfl, hE.at hS hAB hU hW, by rw [hU]; exact hM⟩⟩ rfl rfl hl.1 rfl (lv_room (Nat.le_of_ble_eq_true rfl)) d_W_law_579 ⟨show _ ≤ 601024 by omega, show _ ≤ 7293000 by omega⟩) hS (fun q h => hG.2.1.AB q h) (fun _ _ h => h.1) (fun v H locs hv hS => ?_)
    obtain ⟨hf2, hv⟩ := hv
    refine va_forget (fun z hz => hS.2.2 z hz) ?_
    have hfr := fr.of hS
    have hS : va_S (fun q => s.heap.size ≤ q) s.heap H [] := ⟨hfr.1, hfr.2, fun z hz => nomatch hz⟩
    have hLR := hG.lr hLR hf2
    have hO := hG.out hO hf2
    rcases hv with ⟨hcd2, hM, rfl⟩ | ⟨hcd2, hM, w2, rfl⟩
    · exact absurd hcd2 hcd
    · refine W.eq (g2 := F0 m 582 ls [.int w2]) rfl ?_
      refine lv_istore (lv' := [(6, .int w2), (5, .int 1), (4, .int (nI i)), (0, .ref b), (1, .ref (y 0)), (2, .ref u0), (3, .ref ao)]) hx hb d_W_law_582 hl (by decide) rfl (fun ls hl => ?_)
      refine lv_aload_n hx hb d_W_law_584 rfl (lv_at hl 5 rfl) ?_
      have hMP : ∃ fs, va_P D vwCl [(u0, .inr (3, fs))] H := by obtain ⟨rf9, sf9, tf9, _, h⟩ := hM; exact ⟨_, h.sub [0] rfl⟩
      obtain ⟨fs9, hMP⟩ := hMP
      refine cm_read (va_runV (As := []) (rest := []) ⟨hx, hb, hml, hown, hts⟩ (m_M_thrown hG.2.1 ok0) ⟨ct_cb 0 hts x_462 x_459 x_6 rfl rfl (by decide +kernel) ⟨by decide, by decide⟩, hts _ x_460, hts _ x_461⟩ ⟨st_blind, va_recv hK hMP (ci := 3) (q0 := 0) rfl rfl, fun U hU hW => ⟨rfl, hE.at hS hAB hU hW, by rw [hU]; exact hM⟩⟩ rfl rfl hl.1 rfl (lv_room (Nat.le_of_ble_eq_true rfl)) d_W_law_585 ⟨show _ ≤ 601024 by omega, show _ ≤ 7293000 by omega⟩) (fun v hv => ?_)
      subst hv
      refine W.eq (g2 := F0 m 588 ls [.int 1]) rfl ?_
      refine lv_iload hx hb d_W_law_588 (lv_at hl 1 rfl) ?_
      refine lv_icmp_eq (tgt := 595) hx hb d_W_law_590 (by decide) (fun _ => ?_) (fun c9 => absurd (rfl) c9)
      refine lv_iload hx hb d_W_law_595 (lv_at hl 1 rfl) ?_
      refine lv_if_ne (tgt := 612) hx hb d_W_law_597 (by decide) (fun _ => ?_) (fun c9 => absurd c9 (by decide))
      refine lv_goto (tgt := 1003) hx hb d_W_law_612 (by decide) ?_
      refine W.widen (k := c9 + 11) (n := s9 + 66) (by omega) (by omega) ?_
      exact next xs ws H ls ⟨hLR, ⟨_, hM⟩, ⟨_, hO⟩, ok0, hfr⟩ (lv_sub hl [2, 3, 4, 5, 6] rfl)
set_option maxHeartbeats 4000000 in
set_option maxRecDepth 100000 in
theorem w_below {p : Program} {l : Launch} {e : Env} {s : State} {m : MethodId} {below : List Frame} {meth : Method} {c : Code} {Q : State → Prop} {D : va_G} {cI cJ cS cO : ClassId} {b L : Nat} {sc : Nat → Int32} (C0 : LC D cI cJ cS cO p l s m meth c b L sc) {y : Nat → Nat} {u0 u1 u2 u3 ao sg d : Nat} (hG : GEO s.heap.size y d u0 u1 u2 u3 ao) {i : Nat} (hL : L ≤ 3585) (hi : i + 7 ≤ L) {xs ws : List Nat} {H : Heap} {ls : Array Slot} {c9 s9 : Nat} (hc9 : c9 + 11 ≤ 601024) (hs9 : s9 + 66 ≤ 7293000)
    (hI : LInv D cI cJ cS cO y u0 u1 u2 u3 ao sg d s xs ws H) (hl : lv_has ls 7 [(4, .int (nI i)), (0, .ref b), (1, .ref (y 0)), (2, .ref u0), (3, .ref ao)])
    (next : ∀ (xs ws : List Nat) (H : Heap) (ls : Array Slot), LInv D cI cJ cS cO y u0 u1 u2 u3 ao sg d s xs ws H → lv_has ls 7 [(4, .int (nI i)), (0, .ref b), (1, .ref (y 0)), (2, .ref u0), (3, .ref ao)] → W p l e room_1 s m #[Value.ref b] below meth c H [] (c9 + 11) (s9 + 66) Q (F0 m 1003 ls [])) :
    W p l e room_1 s m #[Value.ref b] below meth c H [] c9 s9 Q (F0 m 615 ls []) := by
  obtain ⟨hx, hb, hr, hml, hown, hts, hlocks, hE, hN, hX, hbl, hl9⟩ := C0
  obtain ⟨hLR, ⟨th, hM⟩, ⟨g, hO⟩, ok0, hfr⟩ := hI
  have hK := hE.1
  have hAB : ∀ q : Nat, s.heap.size ≤ q → s.heap.size ≤ q := fun q h => h
  have hbA : ¬ s.heap.size ≤ b := Nat.not_le.mpr hbl
  have hS : va_S (fun q => s.heap.size ≤ q) s.heap H [] := ⟨hfr.1, hfr.2, fun z hz => nomatch hz⟩
  refine lv_aload_n hx hb d_W_law_615 rfl (lv_at hl 2 rfl) ?_
  refine lv_aload_n hx hb d_W_law_616 rfl (lv_at hl 1 rfl) ?_
  refine lv_iload hx hb d_W_law_617 (lv_at hl 0 rfl) ?_
  refine lv_iconst (v := 1) hx hb d_W_law_619 (by decide) ?_
  refine lv_iadd hx hb d_W_law_620 ?_
  refine ct_topi (x' := nI (i + 1)) (nI_add _ 1) ?_
  refine va_sld hx hb hX hbl hbA hS (vp_in_nI (by omega) (by omega)) d_W_law_621 ?_
  refine ct_topi (x' := sc (i + 1)) (congrArg sc (nI_clamp (by omega))) ?_
  refine lv_aload_n hx hb d_W_law_622 rfl (lv_at hl 1 rfl) ?_
  refine lv_iload hx hb d_W_law_623 (lv_at hl 0 rfl) ?_
  refine lv_iconst (v := 2) hx hb d_W_law_625 (by decide) ?_
  refine lv_iadd hx hb d_W_law_626 ?_
  refine ct_topi (x' := nI (i + 2)) (nI_add _ 2) ?_
  refine va_sld hx hb hX hbl hbA hS (vp_in_nI (by omega) (by omega)) d_W_law_627 ?_
  refine ct_topi (x' := sc (i + 2)) (congrArg sc (nI_clamp (by omega))) ?_
  refine lv_aload_n hx hb d_W_law_628 rfl (lv_at hl 1 rfl) ?_
  refine lv_iload hx hb d_W_law_629 (lv_at hl 0 rfl) ?_
  refine lv_iconst (v := 3) hx hb d_W_law_631 (by decide) ?_
  refine lv_iadd hx hb d_W_law_632 ?_
  refine ct_topi (x' := nI (i + 3)) (nI_add _ 3) ?_
  refine va_sld hx hb hX hbl hbA hS (vp_in_nI (by omega) (by omega)) d_W_law_633 ?_
  refine ct_topi (x' := sc (i + 3)) (congrArg sc (nI_clamp (by omega))) ?_
  refine lv_aload_n hx hb d_W_law_634 rfl (lv_at hl 4 rfl) ?_
  have hAY : ∀ q : Nat, ((q = y 3) ∨ q = ao) → YA y d ao q := by
    rintro q (h | h)
    · exact Or.inl ⟨3, by omega, h⟩
    · exact Or.inr h
  refine cx_ret (vx_runSX (As := [.ref (y 0), .int (sc (i + 1)), .int (sc (i + 2)), .int (sc (i + 3)), .ref ao]) (rest := []) ⟨hx, hb, hml, hown, hts⟩ (m_W_below hl9 hG.1 ok0 hG.2.2.2.1 hG.2.2.1 (sc (i + 1)) (sc (i + 2)) (sc (i + 3))) (vx_cwSW 5 hts (gi_csw x_383 x_384 x_0 x_385) rfl rfl rfl (by decide +kernel) ⟨by decide, by decide⟩) ⟨sh_blind, fun U hU hW => ⟨⟨rfl, hE.at hS hAB hU hW, by rw [hU]; exact ⟨hLR, hO⟩⟩, hN.moved hW.alike⟩⟩ rfl rfl hl.1 rfl (lv_room (Nat.le_of_ble_eq_true rfl)) d_W_law_635 ⟨show c9 + 1 ≤ 601024 by omega, show s9 + 6 ≤ 7293000 by omega⟩) hS (fun q h => hG.ge q (hAY q h)) (fun _ _ h => h.1) (fun _ _ h => h.elim) (fun E ce q H locs hxx => hxx.elim) (fun v H locs hv hS => ?_)
  obtain ⟨hf1, hv⟩ := hv
  refine va_forget (fun z hz => hS.2.2 z hz) ?_
  have hfr := fr.of hS
  have hS : va_S (fun q => s.heap.size ≤ q) s.heap H [] := ⟨hfr.1, hfr.2, fun z hz => nomatch hz⟩
  have hM := hG.mr hAY hM hf1
  rcases hv with ⟨rfl, hcd, hLR, w1, g, hrel, hg0, hO⟩ | ⟨rfl, hcd, hLR, g, hO⟩
  · refine W.eq (g2 := F0 m 638 ls [.int 0]) rfl ?_
    refine lv_istore (lv' := [(5, .int 0), (4, .int (nI i)), (0, .ref b), (1, .ref (y 0)), (2, .ref u0), (3, .ref ao)]) hx hb d_W_law_638 hl (by decide) rfl (fun ls hl => ?_)
    refine lv_aload_n hx hb d_W_law_640 rfl (lv_at hl 4 rfl) ?_
    refine lv_aload_n hx hb d_W_law_641 rfl (lv_at hl 2 rfl) ?_
    refine lv_iload hx hb d_W_law_642 (lv_at hl 1 rfl) ?_
    refine lv_iconst (v := 1) hx hb d_W_law_644 (by decide) ?_
    refine lv_iadd hx hb d_W_law_645 ?_
    refine ct_topi (x' := nI (i + 1)) (nI_add _ 1) ?_
    refine va_sld hx hb hX hbl hbA hS (vp_in_nI (by omega) (by omega)) d_W_law_646 ?_
    refine ct_topi (x' := sc (i + 1)) (congrArg sc (nI_clamp (by omega))) ?_
    refine lv_aload_n hx hb d_W_law_647 rfl (lv_at hl 2 rfl) ?_
    refine lv_iload hx hb d_W_law_648 (lv_at hl 1 rfl) ?_
    refine lv_iconst (v := 2) hx hb d_W_law_650 (by decide) ?_
    refine lv_iadd hx hb d_W_law_651 ?_
    refine ct_topi (x' := nI (i + 2)) (nI_add _ 2) ?_
    refine va_sld hx hb hX hbl hbA hS (vp_in_nI (by omega) (by omega)) d_W_law_652 ?_
    refine ct_topi (x' := sc (i + 2)) (congrArg sc (nI_clamp (by omega))) ?_
    refine lv_aload_n hx hb d_W_law_653 rfl (lv_at hl 2 rfl) ?_
    refine lv_iload hx hb d_W_law_654 (lv_at hl 1 rfl) ?_
    refine lv_iconst (v := 3) hx hb d_W_law_656 (by decide) ?_
    refine lv_iadd hx hb d_W_law_657 ?_
    refine ct_topi (x' := nI (i + 3)) (nI_add _ 3) ?_
    refine va_sld hx hb hX hbl hbA hS (vp_in_nI (by omega) (by omega)) d_W_law_658 ?_
    refine ct_topi (x' := sc (i + 3)) (congrArg sc (nI_clamp (by omega))) ?_
    have hMP : ∃ fs, va_P D vwCl [(u0, .inr (3, fs))] H := by obtain ⟨rf9, sf9, tf9, _, h⟩ := hM; exact ⟨_, h.sub [0] rfl⟩
    obtain ⟨fs9, hMP⟩ := hMP
    refine cm_ret (va_runV (As := [.int (sc (i + 1)), .int (sc (i + 2)), .int (sc (i + 3))]) (rest := []) ⟨hx, hb, hml, hown, hts⟩ (m_M_below hG.2.1 ok0 (sc (i + 1)) (sc (i + 2)) (sc (i + 3))) ⟨ct_cb 3 hts x_514 x_511 x_6 rfl rfl (by decide +kernel) ⟨by decide, by decide⟩, hts _ x_512, hts _ x_513⟩ ⟨st_blind, va_recv hK hMP (ci := 3) (q0 := 0) rfl rfl, fun U hU hW => ⟨rfl, hE.at hS hAB hU hW, by rw [hU]; exact hM⟩⟩ rfl rfl hl.1 rfl (lv_room (Nat.le_of_ble_eq_true rfl)) d_W_law_659 ⟨show _ ≤ 601024 by omega, show _ ≤ 7293000 by omega⟩) hS (fun q h => hG.2.1.AB q h) (fun _ _ h => h.1) (fun v H locs hv hS => ?_)
    obtain ⟨hf2, hv⟩ := hv
    refine va_forget (fun z hz => hS.2.2 z hz) ?_
    have hfr := fr.of hS
    have hS : va_S (fun q => s.heap.size ≤ q) s.heap H [] := ⟨hfr.1, hfr.2, fun z hz => nomatch hz⟩
    have hLR := hG.lr hLR hf2
    have hO := hG.out hO hf2
    rcases hv with ⟨hcd2, hM, w2, rfl, hrel2⟩ | ⟨hcd2, hM, w2, rfl⟩
    · have hw := aBel.uniq hrel hrel2
      subst hw
      refine W.eq (g2 := F0 m 662 ls [.int w1]) rfl ?_
      refine lv_istore (lv' := [(6, .int w1), (5, .int 0), (4, .int (nI i)), (0, .ref b), (1, .ref (y 0)), (2, .ref u0), (3, .ref ao)]) hx hb d_W_law_662 hl (by decide) rfl (fun ls hl => ?_)
      refine lv_aload_n hx hb d_W_law_664 rfl (lv_at hl 5 rfl) ?_
      have hMP : ∃ fs, va_P D vwCl [(u0, .inr (3, fs))] H := by obtain ⟨rf9, sf9, tf9, _, h⟩ := hM; exact ⟨_, h.sub [0] rfl⟩
      obtain ⟨fs9, hMP⟩ := hMP
      refine cm_read (va_runV (As := []) (rest := []) ⟨hx, hb, hml, hown, hts⟩ (m_M_thrown hG.2.1 ok0) ⟨ct_cb 0 hts x_462 x_459 x_6 rfl rfl (by decide +kernel) ⟨by decide, by decide⟩, hts _ x_460, hts _ x_461⟩ ⟨st_blind, va_recv hK hMP (ci := 3) (q0 := 0) rfl rfl, fun U hU hW => ⟨rfl, hE.at hS hAB hU hW, by rw [hU]; exact hM⟩⟩ rfl rfl hl.1 rfl (lv_room (Nat.le_of_ble_eq_true rfl)) d_W_law_665 ⟨show _ ≤ 601024 by omega, show _ ≤ 7293000 by omega⟩) (fun v hv => ?_)
      subst hv
      refine W.eq (g2 := F0 m 668 ls [.int 0]) rfl ?_
      refine lv_iload hx hb d_W_law_668 (lv_at hl 1 rfl) ?_
      refine lv_icmp_eq (tgt := 675) hx hb d_W_law_670 (by decide) (fun _ => ?_) (fun c9 => absurd (rfl) c9)
      refine lv_iload hx hb d_W_law_675 (lv_at hl 1 rfl) ?_
      refine lv_if_ne (tgt := 692) hx hb d_W_law_677 (by decide) (fun c9 => absurd (rfl) c9) (fun _ => ?_)
      refine lv_aload_n hx hb d_W_law_680 rfl (lv_at hl 6 rfl) ?_
      refine lv_iconst (v := 0) hx hb d_W_law_681 (by decide) ?_
      refine va_lald hx hb hK hO 0 1 rfl rfl (vp_in_nI (n := 0) (by decide) (by decide)) d_W_law_682 ?_
      refine ct_topl (x' := (w1).toInt64) hg0 ?_
      refine lv_iload hx hb d_W_law_683 (lv_at hl 0 rfl) ?_
      refine lv_i2l hx hb d_W_law_685 rfl ?_
      refine W.lcmp hx hb d_W_law_686 ?_
      refine ct_topi (x' := 0) (lg_self _) ?_
      refine lv_if_eq (tgt := 692) hx hb d_W_law_687 (by decide) (fun _ => ?_) (fun c9 => absurd (rfl) c9)
      refine lv_goto (tgt := 1003) hx hb d_W_law_692 (by decide) ?_
      refine W.widen (k := c9 + 11) (n := s9 + 66) (by omega) (by omega) ?_
      exact next xs ws H ls ⟨hLR, ⟨_, hM⟩, ⟨_, hO⟩, ok0, hfr⟩ (lv_sub hl [2, 3, 4, 5, 6] rfl)
    · exact absurd hcd hcd2
  · refine W.eq (g2 := F0 m 638 ls [.int 1]) rfl ?_
    refine lv_istore (lv' := [(5, .int 1), (4, .int (nI i)), (0, .ref b), (1, .ref (y 0)), (2, .ref u0), (3, .ref ao)]) hx hb d_W_law_638 hl (by decide) rfl (fun ls hl => ?_)
    refine lv_aload_n hx hb d_W_law_640 rfl (lv_at hl 4 rfl) ?_
    refine lv_aload_n hx hb d_W_law_641 rfl (lv_at hl 2 rfl) ?_
    refine lv_iload hx hb d_W_law_642 (lv_at hl 1 rfl) ?_
    refine lv_iconst (v := 1) hx hb d_W_law_644 (by decide) ?_
    refine lv_iadd hx hb d_W_law_645 ?_
    refine ct_topi (x' := nI (i + 1)) (nI_add _ 1) ?_
    refine va_sld hx hb hX hbl hbA hS (vp_in_nI (by omega) (by omega)) d_W_law_646 ?_
    refine ct_topi (x' := sc (i + 1)) (congrArg sc (nI_clamp (by omega))) ?_
    refine lv_aload_n hx hb d_W_law_647 rfl (lv_at hl 2 rfl) ?_
    refine lv_iload hx hb d_W_law_648 (lv_at hl 1 rfl) ?_
    refine lv_iconst (v := 2) hx hb d_W_law_650 (by decide) ?_
    refine lv_iadd hx hb d_W_law_651 ?_
    refine ct_topi (x' := nI (i + 2)) (nI_add _ 2) ?_
    refine va_sld hx hb hX hbl hbA hS (vp_in_nI (by omega) (by omega)) d_W_law_652 ?_
    refine ct_topi (x' := sc (i + 2)) (congrArg sc (nI_clamp (by omega))) ?_
    refine lv_aload_n hx hb d_W_law_653 rfl (lv_at hl 2 rfl) ?_
    refine lv_iload hx hb d_W_law_654 (lv_at hl 1 rfl) ?_
    refine lv_iconst (v := 3) hx hb d_W_law_656 (by decide) ?_
    refine lv_iadd hx hb d_W_law_657 ?_
    refine ct_topi (x' := nI (i + 3)) (nI_add _ 3) ?_
    refine va_sld hx hb hX hbl hbA hS (vp_in_nI (by omega) (by omega)) d_W_law_658 ?_
    refine ct_topi (x' := sc (i + 3)) (congrArg sc (nI_clamp (by omega))) ?_
    have hMP : ∃ fs, va_P D vwCl [(u0, .inr (3, fs))] H := by obtain ⟨rf9, sf9, tf9, _, h⟩ := hM; exact ⟨_, h.sub [0] rfl⟩
    obtain ⟨fs9, hMP⟩ := hMP
    refine cm_ret (va_runV (As := [.int (sc (i + 1)), .int (sc (i + 2)), .int (sc (i + 3))]) (rest := []) ⟨hx, hb, hml, hown, hts⟩ (m_M_below hG.2.1 ok0 (sc (i + 1)) (sc (i + 2)) (sc (i + 3))) ⟨ct_cb 3 hts x_514 x_511 x_6 rfl rfl (by decide +kernel) ⟨by decide, by decide⟩, hts _ x_512, hts _ x_513⟩ ⟨st_blind, va_recv hK hMP (ci := 3) (q0 := 0) rfl rfl, fun U hU hW => ⟨rfl, hE.at hS hAB hU hW, by rw [hU]; exact hM⟩⟩ rfl rfl hl.1 rfl (lv_room (Nat.le_of_ble_eq_true rfl)) d_W_law_659 ⟨show _ ≤ 601024 by omega, show _ ≤ 7293000 by omega⟩) hS (fun q h => hG.2.1.AB q h) (fun _ _ h => h.1) (fun v H locs hv hS => ?_)
    obtain ⟨hf2, hv⟩ := hv
    refine va_forget (fun z hz => hS.2.2 z hz) ?_
    have hfr := fr.of hS
    have hS : va_S (fun q => s.heap.size ≤ q) s.heap H [] := ⟨hfr.1, hfr.2, fun z hz => nomatch hz⟩
    have hLR := hG.lr hLR hf2
    have hO := hG.out hO hf2
    rcases hv with ⟨hcd2, hM, w2, rfl, hrel2⟩ | ⟨hcd2, hM, w2, rfl⟩
    · exact absurd hcd2 hcd
    · refine W.eq (g2 := F0 m 662 ls [.int w2]) rfl ?_
      refine lv_istore (lv' := [(6, .int w2), (5, .int 1), (4, .int (nI i)), (0, .ref b), (1, .ref (y 0)), (2, .ref u0), (3, .ref ao)]) hx hb d_W_law_662 hl (by decide) rfl (fun ls hl => ?_)
      refine lv_aload_n hx hb d_W_law_664 rfl (lv_at hl 5 rfl) ?_
      have hMP : ∃ fs, va_P D vwCl [(u0, .inr (3, fs))] H := by obtain ⟨rf9, sf9, tf9, _, h⟩ := hM; exact ⟨_, h.sub [0] rfl⟩
      obtain ⟨fs9, hMP⟩ := hMP
      refine cm_read (va_runV (As := []) (rest := []) ⟨hx, hb, hml, hown, hts⟩ (m_M_thrown hG.2.1 ok0) ⟨ct_cb 0 hts x_462 x_459 x_6 rfl rfl (by decide +kernel) ⟨by decide, by decide⟩, hts _ x_460, hts _ x_461⟩ ⟨st_blind, va_recv hK hMP (ci := 3) (q0 := 0) rfl rfl, fun U hU hW => ⟨rfl, hE.at hS hAB hU hW, by rw [hU]; exact hM⟩⟩ rfl rfl hl.1 rfl (lv_room (Nat.le_of_ble_eq_true rfl)) d_W_law_665 ⟨show _ ≤ 601024 by omega, show _ ≤ 7293000 by omega⟩) (fun v hv => ?_)
      subst hv
      refine W.eq (g2 := F0 m 668 ls [.int 1]) rfl ?_
      refine lv_iload hx hb d_W_law_668 (lv_at hl 1 rfl) ?_
      refine lv_icmp_eq (tgt := 675) hx hb d_W_law_670 (by decide) (fun _ => ?_) (fun c9 => absurd (rfl) c9)
      refine lv_iload hx hb d_W_law_675 (lv_at hl 1 rfl) ?_
      refine lv_if_ne (tgt := 692) hx hb d_W_law_677 (by decide) (fun _ => ?_) (fun c9 => absurd c9 (by decide))
      refine lv_goto (tgt := 1003) hx hb d_W_law_692 (by decide) ?_
      refine W.widen (k := c9 + 11) (n := s9 + 66) (by omega) (by omega) ?_
      exact next xs ws H ls ⟨hLR, ⟨_, hM⟩, ⟨_, hO⟩, ok0, hfr⟩ (lv_sub hl [2, 3, 4, 5, 6] rfl)
set_option maxHeartbeats 4000000 in
set_option maxRecDepth 100000 in
theorem w_above {p : Program} {l : Launch} {e : Env} {s : State} {m : MethodId} {below : List Frame} {meth : Method} {c : Code} {Q : State → Prop} {D : va_G} {cI cJ cS cO : ClassId} {b L : Nat} {sc : Nat → Int32} (C0 : LC D cI cJ cS cO p l s m meth c b L sc) {y : Nat → Nat} {u0 u1 u2 u3 ao sg d : Nat} (hG : GEO s.heap.size y d u0 u1 u2 u3 ao) {i : Nat} (hL : L ≤ 3585) (hi : i + 7 ≤ L) {xs ws : List Nat} {H : Heap} {ls : Array Slot} {c9 s9 : Nat} (hc9 : c9 + 11 ≤ 601024) (hs9 : s9 + 66 ≤ 7293000)
    (hI : LInv D cI cJ cS cO y u0 u1 u2 u3 ao sg d s xs ws H) (hl : lv_has ls 7 [(4, .int (nI i)), (0, .ref b), (1, .ref (y 0)), (2, .ref u0), (3, .ref ao)])
    (next : ∀ (xs ws : List Nat) (H : Heap) (ls : Array Slot), LInv D cI cJ cS cO y u0 u1 u2 u3 ao sg d s xs ws H → lv_has ls 7 [(4, .int (nI i)), (0, .ref b), (1, .ref (y 0)), (2, .ref u0), (3, .ref ao)] → W p l e room_1 s m #[Value.ref b] below meth c H [] (c9 + 11) (s9 + 66) Q (F0 m 1003 ls [])) :
    W p l e room_1 s m #[Value.ref b] below meth c H [] c9 s9 Q (F0 m 695 ls []) := by
  obtain ⟨hx, hb, hr, hml, hown, hts, hlocks, hE, hN, hX, hbl, hl9⟩ := C0
  obtain ⟨hLR, ⟨th, hM⟩, ⟨g, hO⟩, ok0, hfr⟩ := hI
  have hK := hE.1
  have hAB : ∀ q : Nat, s.heap.size ≤ q → s.heap.size ≤ q := fun q h => h
  have hbA : ¬ s.heap.size ≤ b := Nat.not_le.mpr hbl
  have hS : va_S (fun q => s.heap.size ≤ q) s.heap H [] := ⟨hfr.1, hfr.2, fun z hz => nomatch hz⟩
  refine lv_aload_n hx hb d_W_law_695 rfl (lv_at hl 2 rfl) ?_
  refine lv_aload_n hx hb d_W_law_696 rfl (lv_at hl 1 rfl) ?_
  refine lv_iload hx hb d_W_law_697 (lv_at hl 0 rfl) ?_
  refine lv_iconst (v := 1) hx hb d_W_law_699 (by decide) ?_
  refine lv_iadd hx hb d_W_law_700 ?_
  refine ct_topi (x' := nI (i + 1)) (nI_add _ 1) ?_
  refine va_sld hx hb hX hbl hbA hS (vp_in_nI (by omega) (by omega)) d_W_law_701 ?_
  refine ct_topi (x' := sc (i + 1)) (congrArg sc (nI_clamp (by omega))) ?_
  refine lv_aload_n hx hb d_W_law_702 rfl (lv_at hl 1 rfl) ?_
  refine lv_iload hx hb d_W_law_703 (lv_at hl 0 rfl) ?_
  refine lv_iconst (v := 2) hx hb d_W_law_705 (by decide) ?_
  refine lv_iadd hx hb d_W_law_706 ?_
  refine ct_topi (x' := nI (i + 2)) (nI_add _ 2) ?_
  refine va_sld hx hb hX hbl hbA hS (vp_in_nI (by omega) (by omega)) d_W_law_707 ?_
  refine ct_topi (x' := sc (i + 2)) (congrArg sc (nI_clamp (by omega))) ?_
  refine lv_aload_n hx hb d_W_law_708 rfl (lv_at hl 1 rfl) ?_
  refine lv_iload hx hb d_W_law_709 (lv_at hl 0 rfl) ?_
  refine lv_iconst (v := 3) hx hb d_W_law_711 (by decide) ?_
  refine lv_iadd hx hb d_W_law_712 ?_
  refine ct_topi (x' := nI (i + 3)) (nI_add _ 3) ?_
  refine va_sld hx hb hX hbl hbA hS (vp_in_nI (by omega) (by omega)) d_W_law_713 ?_
  refine ct_topi (x' := sc (i + 3)) (congrArg sc (nI_clamp (by omega))) ?_
  refine lv_aload_n hx hb d_W_law_714 rfl (lv_at hl 4 rfl) ?_
  have hAY : ∀ q : Nat, ((q = y 3) ∨ q = ao) → YA y d ao q := by
    rintro q (h | h)
    · exact Or.inl ⟨3, by omega, h⟩
    · exact Or.inr h
  refine cx_ret (vx_runSX (As := [.ref (y 0), .int (sc (i + 1)), .int (sc (i + 2)), .int (sc (i + 3)), .ref ao]) (rest := []) ⟨hx, hb, hml, hown, hts⟩ (m_W_above hl9 hG.1 ok0 hG.2.2.2.1 hG.2.2.1 (sc (i + 1)) (sc (i + 2)) (sc (i + 3))) (vx_cwSW 5 hts (gi_csw x_390 x_391 x_0 x_392) rfl rfl rfl (by decide +kernel) ⟨by decide, by decide⟩) ⟨sh_blind, fun U hU hW => ⟨⟨rfl, hE.at hS hAB hU hW, by rw [hU]; exact ⟨hLR, hO⟩⟩, hN.moved hW.alike⟩⟩ rfl rfl hl.1 rfl (lv_room (Nat.le_of_ble_eq_true rfl)) d_W_law_715 ⟨show c9 + 1 ≤ 601024 by omega, show s9 + 6 ≤ 7293000 by omega⟩) hS (fun q h => hG.ge q (hAY q h)) (fun _ _ h => h.1) (fun _ _ h => h.elim) (fun E ce q H locs hxx => hxx.elim) (fun v H locs hv hS => ?_)
  obtain ⟨hf1, hv⟩ := hv
  refine va_forget (fun z hz => hS.2.2 z hz) ?_
  have hfr := fr.of hS
  have hS : va_S (fun q => s.heap.size ≤ q) s.heap H [] := ⟨hfr.1, hfr.2, fun z hz => nomatch hz⟩
  have hM := hG.mr hAY hM hf1
  rcases hv with ⟨rfl, hcd, hLR, w1, g, hrel, hg0, hO⟩ | ⟨rfl, hcd, hLR, g, hO⟩
  · refine W.eq (g2 := F0 m 718 ls [.int 0]) rfl ?_
    refine lv_istore (lv' := [(5, .int 0), (4, .int (nI i)), (0, .ref b), (1, .ref (y 0)), (2, .ref u0), (3, .ref ao)]) hx hb d_W_law_718 hl (by decide) rfl (fun ls hl => ?_)
    refine lv_aload_n hx hb d_W_law_720 rfl (lv_at hl 4 rfl) ?_
    refine lv_aload_n hx hb d_W_law_721 rfl (lv_at hl 2 rfl) ?_
    refine lv_iload hx hb d_W_law_722 (lv_at hl 1 rfl) ?_
    refine lv_iconst (v := 1) hx hb d_W_law_724 (by decide) ?_
    refine lv_iadd hx hb d_W_law_725 ?_
    refine ct_topi (x' := nI (i + 1)) (nI_add _ 1) ?_
    refine va_sld hx hb hX hbl hbA hS (vp_in_nI (by omega) (by omega)) d_W_law_726 ?_
    refine ct_topi (x' := sc (i + 1)) (congrArg sc (nI_clamp (by omega))) ?_
    refine lv_aload_n hx hb d_W_law_727 rfl (lv_at hl 2 rfl) ?_
    refine lv_iload hx hb d_W_law_728 (lv_at hl 1 rfl) ?_
    refine lv_iconst (v := 2) hx hb d_W_law_730 (by decide) ?_
    refine lv_iadd hx hb d_W_law_731 ?_
    refine ct_topi (x' := nI (i + 2)) (nI_add _ 2) ?_
    refine va_sld hx hb hX hbl hbA hS (vp_in_nI (by omega) (by omega)) d_W_law_732 ?_
    refine ct_topi (x' := sc (i + 2)) (congrArg sc (nI_clamp (by omega))) ?_
    refine lv_aload_n hx hb d_W_law_733 rfl (lv_at hl 2 rfl) ?_
    refine lv_iload hx hb d_W_law_734 (lv_at hl 1 rfl) ?_
    refine lv_iconst (v := 3) hx hb d_W_law_736 (by decide) ?_
    refine lv_iadd hx hb d_W_law_737 ?_
    refine ct_topi (x' := nI (i + 3)) (nI_add _ 3) ?_
    refine va_sld hx hb hX hbl hbA hS (vp_in_nI (by omega) (by omega)) d_W_law_738 ?_
    refine ct_topi (x' := sc (i + 3)) (congrArg sc (nI_clamp (by omega))) ?_
    have hMP : ∃ fs, va_P D vwCl [(u0, .inr (3, fs))] H := by obtain ⟨rf9, sf9, tf9, _, h⟩ := hM; exact ⟨_, h.sub [0] rfl⟩
    obtain ⟨fs9, hMP⟩ := hMP
    refine cm_ret (va_runV (As := [.int (sc (i + 1)), .int (sc (i + 2)), .int (sc (i + 3))]) (rest := []) ⟨hx, hb, hml, hown, hts⟩ (m_M_above hG.2.1 ok0 (sc (i + 1)) (sc (i + 2)) (sc (i + 3))) ⟨ct_cb 3 hts x_518 x_515 x_6 rfl rfl (by decide +kernel) ⟨by decide, by decide⟩, hts _ x_516, hts _ x_517⟩ ⟨st_blind, va_recv hK hMP (ci := 3) (q0 := 0) rfl rfl, fun U hU hW => ⟨rfl, hE.at hS hAB hU hW, by rw [hU]; exact hM⟩⟩ rfl rfl hl.1 rfl (lv_room (Nat.le_of_ble_eq_true rfl)) d_W_law_739 ⟨show _ ≤ 601024 by omega, show _ ≤ 7293000 by omega⟩) hS (fun q h => hG.2.1.AB q h) (fun _ _ h => h.1) (fun v H locs hv hS => ?_)
    obtain ⟨hf2, hv⟩ := hv
    refine va_forget (fun z hz => hS.2.2 z hz) ?_
    have hfr := fr.of hS
    have hS : va_S (fun q => s.heap.size ≤ q) s.heap H [] := ⟨hfr.1, hfr.2, fun z hz => nomatch hz⟩
    have hLR := hG.lr hLR hf2
    have hO := hG.out hO hf2
    rcases hv with ⟨hcd2, hM, w2, rfl, hrel2⟩ | ⟨hcd2, hM, w2, rfl⟩
    · have hw := aAbv.uniq hrel hrel2
      subst hw
      refine W.eq (g2 := F0 m 742 ls [.int w1]) rfl ?_
      refine lv_istore (lv' := [(6, .int w1), (5, .int 0), (4, .int (nI i)), (0, .ref b), (1, .ref (y 0)), (2, .ref u0), (3, .ref ao)]) hx hb d_W_law_742 hl (by decide) rfl (fun ls hl => ?_)
      refine lv_aload_n hx hb d_W_law_744 rfl (lv_at hl 5 rfl) ?_
      have hMP : ∃ fs, va_P D vwCl [(u0, .inr (3, fs))] H := by obtain ⟨rf9, sf9, tf9, _, h⟩ := hM; exact ⟨_, h.sub [0] rfl⟩
      obtain ⟨fs9, hMP⟩ := hMP
      refine cm_read (va_runV (As := []) (rest := []) ⟨hx, hb, hml, hown, hts⟩ (m_M_thrown hG.2.1 ok0) ⟨ct_cb 0 hts x_462 x_459 x_6 rfl rfl (by decide +kernel) ⟨by decide, by decide⟩, hts _ x_460, hts _ x_461⟩ ⟨st_blind, va_recv hK hMP (ci := 3) (q0 := 0) rfl rfl, fun U hU hW => ⟨rfl, hE.at hS hAB hU hW, by rw [hU]; exact hM⟩⟩ rfl rfl hl.1 rfl (lv_room (Nat.le_of_ble_eq_true rfl)) d_W_law_745 ⟨show _ ≤ 601024 by omega, show _ ≤ 7293000 by omega⟩) (fun v hv => ?_)
      subst hv
      refine W.eq (g2 := F0 m 748 ls [.int 0]) rfl ?_
      refine lv_iload hx hb d_W_law_748 (lv_at hl 1 rfl) ?_
      refine lv_icmp_eq (tgt := 755) hx hb d_W_law_750 (by decide) (fun _ => ?_) (fun c9 => absurd (rfl) c9)
      refine lv_iload hx hb d_W_law_755 (lv_at hl 1 rfl) ?_
      refine lv_if_ne (tgt := 772) hx hb d_W_law_757 (by decide) (fun c9 => absurd (rfl) c9) (fun _ => ?_)
      refine lv_aload_n hx hb d_W_law_760 rfl (lv_at hl 6 rfl) ?_
      refine lv_iconst (v := 0) hx hb d_W_law_761 (by decide) ?_
      refine va_lald hx hb hK hO 0 1 rfl rfl (vp_in_nI (n := 0) (by decide) (by decide)) d_W_law_762 ?_
      refine ct_topl (x' := (w1).toInt64) hg0 ?_
      refine lv_iload hx hb d_W_law_763 (lv_at hl 0 rfl) ?_
      refine lv_i2l hx hb d_W_law_765 rfl ?_
      refine W.lcmp hx hb d_W_law_766 ?_
      refine ct_topi (x' := 0) (lg_self _) ?_
      refine lv_if_eq (tgt := 772) hx hb d_W_law_767 (by decide) (fun _ => ?_) (fun c9 => absurd (rfl) c9)
      refine lv_goto (tgt := 1003) hx hb d_W_law_772 (by decide) ?_
      refine W.widen (k := c9 + 11) (n := s9 + 66) (by omega) (by omega) ?_
      exact next xs ws H ls ⟨hLR, ⟨_, hM⟩, ⟨_, hO⟩, ok0, hfr⟩ (lv_sub hl [2, 3, 4, 5, 6] rfl)
    · exact absurd hcd hcd2
  · refine W.eq (g2 := F0 m 718 ls [.int 1]) rfl ?_
    refine lv_istore (lv' := [(5, .int 1), (4, .int (nI i)), (0, .ref b), (1, .ref (y 0)), (2, .ref u0), (3, .ref ao)]) hx hb d_W_law_718 hl (by decide) rfl (fun ls hl => ?_)
    refine lv_aload_n hx hb d_W_law_720 rfl (lv_at hl 4 rfl) ?_
    refine lv_aload_n hx hb d_W_law_721 rfl (lv_at hl 2 rfl) ?_
    refine lv_iload hx hb d_W_law_722 (lv_at hl 1 rfl) ?_
    refine lv_iconst (v := 1) hx hb d_W_law_724 (by decide) ?_
    refine lv_iadd hx hb d_W_law_725 ?_
    refine ct_topi (x' := nI (i + 1)) (nI_add _ 1) ?_
    refine va_sld hx hb hX hbl hbA hS (vp_in_nI (by omega) (by omega)) d_W_law_726 ?_
    refine ct_topi (x' := sc (i + 1)) (congrArg sc (nI_clamp (by omega))) ?_
    refine lv_aload_n hx hb d_W_law_727 rfl (lv_at hl 2 rfl) ?_
    refine lv_iload hx hb d_W_law_728 (lv_at hl 1 rfl) ?_
    refine lv_iconst (v := 2) hx hb d_W_law_730 (by decide) ?_
    refine lv_iadd hx hb d_W_law_731 ?_
    refine ct_topi (x' := nI (i + 2)) (nI_add _ 2) ?_
    refine va_sld hx hb hX hbl hbA hS (vp_in_nI (by omega) (by omega)) d_W_law_732 ?_
    refine ct_topi (x' := sc (i + 2)) (congrArg sc (nI_clamp (by omega))) ?_
    refine lv_aload_n hx hb d_W_law_733 rfl (lv_at hl 2 rfl) ?_
    refine lv_iload hx hb d_W_law_734 (lv_at hl 1 rfl) ?_
    refine lv_iconst (v := 3) hx hb d_W_law_736 (by decide) ?_
    refine lv_iadd hx hb d_W_law_737 ?_
    refine ct_topi (x' := nI (i + 3)) (nI_add _ 3) ?_
    refine va_sld hx hb hX hbl hbA hS (vp_in_nI (by omega) (by omega)) d_W_law_738 ?_
    refine ct_topi (x' := sc (i + 3)) (congrArg sc (nI_clamp (by omega))) ?_
    have hMP : ∃ fs, va_P D vwCl [(u0, .inr (3, fs))] H := by obtain ⟨rf9, sf9, tf9, _, h⟩ := hM; exact ⟨_, h.sub [0] rfl⟩
    obtain ⟨fs9, hMP⟩ := hMP
    refine cm_ret (va_runV (As := [.int (sc (i + 1)), .int (sc (i + 2)), .int (sc (i + 3))]) (rest := []) ⟨hx, hb, hml, hown, hts⟩ (m_M_above hG.2.1 ok0 (sc (i + 1)) (sc (i + 2)) (sc (i + 3))) ⟨ct_cb 3 hts x_518 x_515 x_6 rfl rfl (by decide +kernel) ⟨by decide, by decide⟩, hts _ x_516, hts _ x_517⟩ ⟨st_blind, va_recv hK hMP (ci := 3) (q0 := 0) rfl rfl, fun U hU hW => ⟨rfl, hE.at hS hAB hU hW, by rw [hU]; exact hM⟩⟩ rfl rfl hl.1 rfl (lv_room (Nat.le_of_ble_eq_true rfl)) d_W_law_739 ⟨show _ ≤ 601024 by omega, show _ ≤ 7293000 by omega⟩) hS (fun q h => hG.2.1.AB q h) (fun _ _ h => h.1) (fun v H locs hv hS => ?_)
    obtain ⟨hf2, hv⟩ := hv
    refine va_forget (fun z hz => hS.2.2 z hz) ?_
    have hfr := fr.of hS
    have hS : va_S (fun q => s.heap.size ≤ q) s.heap H [] := ⟨hfr.1, hfr.2, fun z hz => nomatch hz⟩
    have hLR := hG.lr hLR hf2
    have hO := hG.out hO hf2
    rcases hv with ⟨hcd2, hM, w2, rfl, hrel2⟩ | ⟨hcd2, hM, w2, rfl⟩
    · exact absurd hcd2 hcd
    · refine W.eq (g2 := F0 m 742 ls [.int w2]) rfl ?_
      refine lv_istore (lv' := [(6, .int w2), (5, .int 1), (4, .int (nI i)), (0, .ref b), (1, .ref (y 0)), (2, .ref u0), (3, .ref ao)]) hx hb d_W_law_742 hl (by decide) rfl (fun ls hl => ?_)
      refine lv_aload_n hx hb d_W_law_744 rfl (lv_at hl 5 rfl) ?_
      have hMP : ∃ fs, va_P D vwCl [(u0, .inr (3, fs))] H := by obtain ⟨rf9, sf9, tf9, _, h⟩ := hM; exact ⟨_, h.sub [0] rfl⟩
      obtain ⟨fs9, hMP⟩ := hMP
      refine cm_read (va_runV (As := []) (rest := []) ⟨hx, hb, hml, hown, hts⟩ (m_M_thrown hG.2.1 ok0) ⟨ct_cb 0 hts x_462 x_459 x_6 rfl rfl (by decide +kernel) ⟨by decide, by decide⟩, hts _ x_460, hts _ x_461⟩ ⟨st_blind, va_recv hK hMP (ci := 3) (q0 := 0) rfl rfl, fun U hU hW => ⟨rfl, hE.at hS hAB hU hW, by rw [hU]; exact hM⟩⟩ rfl rfl hl.1 rfl (lv_room (Nat.le_of_ble_eq_true rfl)) d_W_law_745 ⟨show _ ≤ 601024 by omega, show _ ≤ 7293000 by omega⟩) (fun v hv => ?_)
      subst hv
      refine W.eq (g2 := F0 m 748 ls [.int 1]) rfl ?_
      refine lv_iload hx hb d_W_law_748 (lv_at hl 1 rfl) ?_
      refine lv_icmp_eq (tgt := 755) hx hb d_W_law_750 (by decide) (fun _ => ?_) (fun c9 => absurd (rfl) c9)
      refine lv_iload hx hb d_W_law_755 (lv_at hl 1 rfl) ?_
      refine lv_if_ne (tgt := 772) hx hb d_W_law_757 (by decide) (fun _ => ?_) (fun c9 => absurd c9 (by decide))
      refine lv_goto (tgt := 1003) hx hb d_W_law_772 (by decide) ?_
      refine W.widen (k := c9 + 11) (n := s9 + 66) (by omega) (by omega) ?_
      exact next xs ws H ls ⟨hLR, ⟨_, hM⟩, ⟨_, hO⟩, ok0, hfr⟩ (lv_sub hl [2, 3, 4, 5, 6] rfl)
set_option maxHeartbeats 4000000 in
set_option maxRecDepth 100000 in
theorem w_different {p : Program} {l : Launch} {e : Env} {s : State} {m : MethodId} {below : List Frame} {meth : Method} {c : Code} {Q : State → Prop} {D : va_G} {cI cJ cS cO : ClassId} {b L : Nat} {sc : Nat → Int32} (C0 : LC D cI cJ cS cO p l s m meth c b L sc) {y : Nat → Nat} {u0 u1 u2 u3 ao sg d : Nat} (hG : GEO s.heap.size y d u0 u1 u2 u3 ao) {i : Nat} (hL : L ≤ 3585) (hi : i + 7 ≤ L) {xs ws : List Nat} {H : Heap} {ls : Array Slot} {c9 s9 : Nat} (hc9 : c9 + 11 ≤ 601024) (hs9 : s9 + 66 ≤ 7293000)
    (hI : LInv D cI cJ cS cO y u0 u1 u2 u3 ao sg d s xs ws H) (hl : lv_has ls 7 [(4, .int (nI i)), (0, .ref b), (1, .ref (y 0)), (2, .ref u0), (3, .ref ao)])
    (next : ∀ (xs ws : List Nat) (H : Heap) (ls : Array Slot), LInv D cI cJ cS cO y u0 u1 u2 u3 ao sg d s xs ws H → lv_has ls 7 [(4, .int (nI i)), (0, .ref b), (1, .ref (y 0)), (2, .ref u0), (3, .ref ao)] → W p l e room_1 s m #[Value.ref b] below meth c H [] (c9 + 11) (s9 + 66) Q (F0 m 1003 ls [])) :
    W p l e room_1 s m #[Value.ref b] below meth c H [] c9 s9 Q (F0 m 775 ls []) := by
  obtain ⟨hx, hb, hr, hml, hown, hts, hlocks, hE, hN, hX, hbl, hl9⟩ := C0
  obtain ⟨hLR, ⟨th, hM⟩, ⟨g, hO⟩, ok0, hfr⟩ := hI
  have hK := hE.1
  have hAB : ∀ q : Nat, s.heap.size ≤ q → s.heap.size ≤ q := fun q h => h
  have hbA : ¬ s.heap.size ≤ b := Nat.not_le.mpr hbl
  have hS : va_S (fun q => s.heap.size ≤ q) s.heap H [] := ⟨hfr.1, hfr.2, fun z hz => nomatch hz⟩
  refine lv_aload_n hx hb d_W_law_775 rfl (lv_at hl 2 rfl) ?_
  refine lv_aload_n hx hb d_W_law_776 rfl (lv_at hl 1 rfl) ?_
  refine lv_iload hx hb d_W_law_777 (lv_at hl 0 rfl) ?_
  refine lv_iconst (v := 1) hx hb d_W_law_779 (by decide) ?_
  refine lv_iadd hx hb d_W_law_780 ?_
  refine ct_topi (x' := nI (i + 1)) (nI_add _ 1) ?_
  refine va_sld hx hb hX hbl hbA hS (vp_in_nI (by omega) (by omega)) d_W_law_781 ?_
  refine ct_topi (x' := sc (i + 1)) (congrArg sc (nI_clamp (by omega))) ?_
  refine lv_aload_n hx hb d_W_law_782 rfl (lv_at hl 1 rfl) ?_
  refine lv_iload hx hb d_W_law_783 (lv_at hl 0 rfl) ?_
  refine lv_iconst (v := 2) hx hb d_W_law_785 (by decide) ?_
  refine lv_iadd hx hb d_W_law_786 ?_
  refine ct_topi (x' := nI (i + 2)) (nI_add _ 2) ?_
  refine va_sld hx hb hX hbl hbA hS (vp_in_nI (by omega) (by omega)) d_W_law_787 ?_
  refine ct_topi (x' := sc (i + 2)) (congrArg sc (nI_clamp (by omega))) ?_
  refine lv_aload_n hx hb d_W_law_788 rfl (lv_at hl 4 rfl) ?_
  have hAY : ∀ q : Nat, ((q = y 3 ∨ q = y 4 ∨ q = y 5) ∨ q = ao) → YA y d ao q := by
    rintro q ((h | h | h) | h)
    · exact Or.inl ⟨3, by omega, h⟩
    · exact Or.inl ⟨4, by omega, h⟩
    · exact Or.inl ⟨5, by omega, h⟩
    · exact Or.inr h
  refine cx_ret (vx_runSX (As := [.ref (y 0), .int (sc (i + 1)), .int (sc (i + 2)), .ref ao]) (rest := []) ⟨hx, hb, hml, hown, hts⟩ (m_W_different hl9 hG.1 ok0 hG.2.2.2.1 hG.2.2.1 (sc (i + 1)) (sc (i + 2))) (vx_cwSW 4 hts (gi_csw x_397 x_398 x_0 x_399) rfl rfl rfl (by decide +kernel) ⟨by decide, by decide⟩) ⟨sh_blind, fun U hU hW => ⟨⟨rfl, hE.at hS hAB hU hW, by rw [hU]; exact ⟨hLR, hO⟩⟩, hN.moved hW.alike⟩⟩ rfl rfl hl.1 rfl (lv_room (Nat.le_of_ble_eq_true rfl)) d_W_law_789 ⟨show c9 + 1 ≤ 601024 by omega, show s9 + 6 ≤ 7293000 by omega⟩) hS (fun q h => hG.ge q (hAY q h)) (fun _ _ h => h.1) (fun _ _ h => h.elim) (fun E ce q H locs hxx => hxx.elim) (fun v H locs hv hS => ?_)
  obtain ⟨hf1, hv⟩ := hv
  refine va_forget (fun z hz => hS.2.2 z hz) ?_
  have hfr := fr.of hS
  have hS : va_S (fun q => s.heap.size ≤ q) s.heap H [] := ⟨hfr.1, hfr.2, fun z hz => nomatch hz⟩
  have hM := hG.mr hAY hM hf1
  rcases hv with ⟨rfl, hcd, hLR, w1, g, hrel, hg0, hO⟩ | ⟨rfl, hcd, hLR, g, hO⟩
  · refine W.eq (g2 := F0 m 792 ls [.int 0]) rfl ?_
    refine lv_istore (lv' := [(5, .int 0), (4, .int (nI i)), (0, .ref b), (1, .ref (y 0)), (2, .ref u0), (3, .ref ao)]) hx hb d_W_law_792 hl (by decide) rfl (fun ls hl => ?_)
    refine lv_aload_n hx hb d_W_law_794 rfl (lv_at hl 4 rfl) ?_
    refine lv_aload_n hx hb d_W_law_795 rfl (lv_at hl 2 rfl) ?_
    refine lv_iload hx hb d_W_law_796 (lv_at hl 1 rfl) ?_
    refine lv_iconst (v := 1) hx hb d_W_law_798 (by decide) ?_
    refine lv_iadd hx hb d_W_law_799 ?_
    refine ct_topi (x' := nI (i + 1)) (nI_add _ 1) ?_
    refine va_sld hx hb hX hbl hbA hS (vp_in_nI (by omega) (by omega)) d_W_law_800 ?_
    refine ct_topi (x' := sc (i + 1)) (congrArg sc (nI_clamp (by omega))) ?_
    refine lv_aload_n hx hb d_W_law_801 rfl (lv_at hl 2 rfl) ?_
    refine lv_iload hx hb d_W_law_802 (lv_at hl 1 rfl) ?_
    refine lv_iconst (v := 2) hx hb d_W_law_804 (by decide) ?_
    refine lv_iadd hx hb d_W_law_805 ?_
    refine ct_topi (x' := nI (i + 2)) (nI_add _ 2) ?_
    refine va_sld hx hb hX hbl hbA hS (vp_in_nI (by omega) (by omega)) d_W_law_806 ?_
    refine ct_topi (x' := sc (i + 2)) (congrArg sc (nI_clamp (by omega))) ?_
    have hMP : ∃ fs, va_P D vwCl [(u0, .inr (3, fs))] H := by obtain ⟨rf9, sf9, tf9, _, h⟩ := hM; exact ⟨_, h.sub [0] rfl⟩
    obtain ⟨fs9, hMP⟩ := hMP
    refine cm_ret (va_runV (As := [.int (sc (i + 1)), .int (sc (i + 2))]) (rest := []) ⟨hx, hb, hml, hown, hts⟩ (m_M_different hG.2.1 ok0 (sc (i + 1)) (sc (i + 2))) ⟨ct_cb 2 hts x_522 x_519 x_6 rfl rfl (by decide +kernel) ⟨by decide, by decide⟩, hts _ x_520, hts _ x_521⟩ ⟨st_blind, va_recv hK hMP (ci := 3) (q0 := 0) rfl rfl, fun U hU hW => ⟨rfl, hE.at hS hAB hU hW, by rw [hU]; exact hM⟩⟩ rfl rfl hl.1 rfl (lv_room (Nat.le_of_ble_eq_true rfl)) d_W_law_807 ⟨show _ ≤ 601024 by omega, show _ ≤ 7293000 by omega⟩) hS (fun q h => hG.2.1.AB q h) (fun _ _ h => h.1) (fun v H locs hv hS => ?_)
    obtain ⟨hf2, hv⟩ := hv
    refine va_forget (fun z hz => hS.2.2 z hz) ?_
    have hfr := fr.of hS
    have hS : va_S (fun q => s.heap.size ≤ q) s.heap H [] := ⟨hfr.1, hfr.2, fun z hz => nomatch hz⟩
    have hLR := hG.lr hLR hf2
    have hO := hG.out hO hf2
    rcases hv with ⟨hcd2, hM, rfl⟩ | ⟨hcd2, hM, w2, rfl⟩
    · subst hrel
      refine W.eq (g2 := F0 m 810 ls [.int (nI (dis (bk xs (sc (i + 1)) (sc (i + 2))) 65536).length)]) rfl ?_
      refine lv_istore (lv' := [(6, .int (nI (dis (bk xs (sc (i + 1)) (sc (i + 2))) 65536).length)), (5, .int 0), (4, .int (nI i)), (0, .ref b), (1, .ref (y 0)), (2, .ref u0), (3, .ref ao)]) hx hb d_W_law_810 hl (by decide) rfl (fun ls hl => ?_)
      refine lv_aload_n hx hb d_W_law_812 rfl (lv_at hl 5 rfl) ?_
      have hMP : ∃ fs, va_P D vwCl [(u0, .inr (3, fs))] H := by obtain ⟨rf9, sf9, tf9, _, h⟩ := hM; exact ⟨_, h.sub [0] rfl⟩
      obtain ⟨fs9, hMP⟩ := hMP
      refine cm_read (va_runV (As := []) (rest := []) ⟨hx, hb, hml, hown, hts⟩ (m_M_thrown hG.2.1 ok0) ⟨ct_cb 0 hts x_462 x_459 x_6 rfl rfl (by decide +kernel) ⟨by decide, by decide⟩, hts _ x_460, hts _ x_461⟩ ⟨st_blind, va_recv hK hMP (ci := 3) (q0 := 0) rfl rfl, fun U hU hW => ⟨rfl, hE.at hS hAB hU hW, by rw [hU]; exact hM⟩⟩ rfl rfl hl.1 rfl (lv_room (Nat.le_of_ble_eq_true rfl)) d_W_law_813 ⟨show _ ≤ 601024 by omega, show _ ≤ 7293000 by omega⟩) (fun v hv => ?_)
      subst hv
      refine W.eq (g2 := F0 m 816 ls [.int 0]) rfl ?_
      refine lv_iload hx hb d_W_law_816 (lv_at hl 1 rfl) ?_
      refine lv_icmp_eq (tgt := 823) hx hb d_W_law_818 (by decide) (fun _ => ?_) (fun c9 => absurd (rfl) c9)
      refine lv_iload hx hb d_W_law_823 (lv_at hl 1 rfl) ?_
      refine lv_if_ne (tgt := 840) hx hb d_W_law_825 (by decide) (fun c9 => absurd (rfl) c9) (fun _ => ?_)
      refine lv_aload_n hx hb d_W_law_828 rfl (lv_at hl 6 rfl) ?_
      refine lv_iconst (v := 0) hx hb d_W_law_829 (by decide) ?_
      refine va_lald hx hb hK hO 0 1 rfl rfl (vp_in_nI (n := 0) (by decide) (by decide)) d_W_law_830 ?_
      refine ct_topl (x' := (nI (dis (bk xs (sc (i + 1)) (sc (i + 2))) 65536).length).toInt64) hg0 ?_
      refine lv_iload hx hb d_W_law_831 (lv_at hl 0 rfl) ?_
      refine lv_i2l hx hb d_W_law_833 rfl ?_
      refine W.lcmp hx hb d_W_law_834 ?_
      refine ct_topi (x' := 0) (lg_self _) ?_
      refine lv_if_eq (tgt := 840) hx hb d_W_law_835 (by decide) (fun _ => ?_) (fun c9 => absurd (rfl) c9)
      refine lv_goto (tgt := 1003) hx hb d_W_law_840 (by decide) ?_
      refine W.widen (k := c9 + 11) (n := s9 + 66) (by omega) (by omega) ?_
      exact next xs ws H ls ⟨hLR, ⟨_, hM⟩, ⟨_, hO⟩, ok0, hfr⟩ (lv_sub hl [2, 3, 4, 5, 6] rfl)
    · exact absurd hcd hcd2
  · refine W.eq (g2 := F0 m 792 ls [.int 1]) rfl ?_
    refine lv_istore (lv' := [(5, .int 1), (4, .int (nI i)), (0, .ref b), (1, .ref (y 0)), (2, .ref u0), (3, .ref ao)]) hx hb d_W_law_792 hl (by decide) rfl (fun ls hl => ?_)
    refine lv_aload_n hx hb d_W_law_794 rfl (lv_at hl 4 rfl) ?_
    refine lv_aload_n hx hb d_W_law_795 rfl (lv_at hl 2 rfl) ?_
    refine lv_iload hx hb d_W_law_796 (lv_at hl 1 rfl) ?_
    refine lv_iconst (v := 1) hx hb d_W_law_798 (by decide) ?_
    refine lv_iadd hx hb d_W_law_799 ?_
    refine ct_topi (x' := nI (i + 1)) (nI_add _ 1) ?_
    refine va_sld hx hb hX hbl hbA hS (vp_in_nI (by omega) (by omega)) d_W_law_800 ?_
    refine ct_topi (x' := sc (i + 1)) (congrArg sc (nI_clamp (by omega))) ?_
    refine lv_aload_n hx hb d_W_law_801 rfl (lv_at hl 2 rfl) ?_
    refine lv_iload hx hb d_W_law_802 (lv_at hl 1 rfl) ?_
    refine lv_iconst (v := 2) hx hb d_W_law_804 (by decide) ?_
    refine lv_iadd hx hb d_W_law_805 ?_
    refine ct_topi (x' := nI (i + 2)) (nI_add _ 2) ?_
    refine va_sld hx hb hX hbl hbA hS (vp_in_nI (by omega) (by omega)) d_W_law_806 ?_
    refine ct_topi (x' := sc (i + 2)) (congrArg sc (nI_clamp (by omega))) ?_
    have hMP : ∃ fs, va_P D vwCl [(u0, .inr (3, fs))] H := by obtain ⟨rf9, sf9, tf9, _, h⟩ := hM; exact ⟨_, h.sub [0] rfl⟩
    obtain ⟨fs9, hMP⟩ := hMP
    refine cm_ret (va_runV (As := [.int (sc (i + 1)), .int (sc (i + 2))]) (rest := []) ⟨hx, hb, hml, hown, hts⟩ (m_M_different hG.2.1 ok0 (sc (i + 1)) (sc (i + 2))) ⟨ct_cb 2 hts x_522 x_519 x_6 rfl rfl (by decide +kernel) ⟨by decide, by decide⟩, hts _ x_520, hts _ x_521⟩ ⟨st_blind, va_recv hK hMP (ci := 3) (q0 := 0) rfl rfl, fun U hU hW => ⟨rfl, hE.at hS hAB hU hW, by rw [hU]; exact hM⟩⟩ rfl rfl hl.1 rfl (lv_room (Nat.le_of_ble_eq_true rfl)) d_W_law_807 ⟨show _ ≤ 601024 by omega, show _ ≤ 7293000 by omega⟩) hS (fun q h => hG.2.1.AB q h) (fun _ _ h => h.1) (fun v H locs hv hS => ?_)
    obtain ⟨hf2, hv⟩ := hv
    refine va_forget (fun z hz => hS.2.2 z hz) ?_
    have hfr := fr.of hS
    have hS : va_S (fun q => s.heap.size ≤ q) s.heap H [] := ⟨hfr.1, hfr.2, fun z hz => nomatch hz⟩
    have hLR := hG.lr hLR hf2
    have hO := hG.out hO hf2
    rcases hv with ⟨hcd2, hM, rfl⟩ | ⟨hcd2, hM, w2, rfl⟩
    · exact absurd hcd2 hcd
    · refine W.eq (g2 := F0 m 810 ls [.int w2]) rfl ?_
      refine lv_istore (lv' := [(6, .int w2), (5, .int 1), (4, .int (nI i)), (0, .ref b), (1, .ref (y 0)), (2, .ref u0), (3, .ref ao)]) hx hb d_W_law_810 hl (by decide) rfl (fun ls hl => ?_)
      refine lv_aload_n hx hb d_W_law_812 rfl (lv_at hl 5 rfl) ?_
      have hMP : ∃ fs, va_P D vwCl [(u0, .inr (3, fs))] H := by obtain ⟨rf9, sf9, tf9, _, h⟩ := hM; exact ⟨_, h.sub [0] rfl⟩
      obtain ⟨fs9, hMP⟩ := hMP
      refine cm_read (va_runV (As := []) (rest := []) ⟨hx, hb, hml, hown, hts⟩ (m_M_thrown hG.2.1 ok0) ⟨ct_cb 0 hts x_462 x_459 x_6 rfl rfl (by decide +kernel) ⟨by decide, by decide⟩, hts _ x_460, hts _ x_461⟩ ⟨st_blind, va_recv hK hMP (ci := 3) (q0 := 0) rfl rfl, fun U hU hW => ⟨rfl, hE.at hS hAB hU hW, by rw [hU]; exact hM⟩⟩ rfl rfl hl.1 rfl (lv_room (Nat.le_of_ble_eq_true rfl)) d_W_law_813 ⟨show _ ≤ 601024 by omega, show _ ≤ 7293000 by omega⟩) (fun v hv => ?_)
      subst hv
      refine W.eq (g2 := F0 m 816 ls [.int 1]) rfl ?_
      refine lv_iload hx hb d_W_law_816 (lv_at hl 1 rfl) ?_
      refine lv_icmp_eq (tgt := 823) hx hb d_W_law_818 (by decide) (fun _ => ?_) (fun c9 => absurd (rfl) c9)
      refine lv_iload hx hb d_W_law_823 (lv_at hl 1 rfl) ?_
      refine lv_if_ne (tgt := 840) hx hb d_W_law_825 (by decide) (fun _ => ?_) (fun c9 => absurd c9 (by decide))
      refine lv_goto (tgt := 1003) hx hb d_W_law_840 (by decide) ?_
      refine W.widen (k := c9 + 11) (n := s9 + 66) (by omega) (by omega) ?_
      exact next xs ws H ls ⟨hLR, ⟨_, hM⟩, ⟨_, hO⟩, ok0, hfr⟩ (lv_sub hl [2, 3, 4, 5, 6] rfl)
set_option maxHeartbeats 4000000 in
set_option maxRecDepth 100000 in
theorem w_frequent {p : Program} {l : Launch} {e : Env} {s : State} {m : MethodId} {below : List Frame} {meth : Method} {c : Code} {Q : State → Prop} {D : va_G} {cI cJ cS cO : ClassId} {b L : Nat} {sc : Nat → Int32} (C0 : LC D cI cJ cS cO p l s m meth c b L sc) {y : Nat → Nat} {u0 u1 u2 u3 ao sg d : Nat} (hG : GEO s.heap.size y d u0 u1 u2 u3 ao) {i : Nat} (hL : L ≤ 3585) (hi : i + 7 ≤ L) {xs ws : List Nat} {H : Heap} {ls : Array Slot} {c9 s9 : Nat} (hc9 : c9 + 11 ≤ 601024) (hs9 : s9 + 66 ≤ 7293000)
    (hI : LInv D cI cJ cS cO y u0 u1 u2 u3 ao sg d s xs ws H) (hl : lv_has ls 7 [(4, .int (nI i)), (0, .ref b), (1, .ref (y 0)), (2, .ref u0), (3, .ref ao)])
    (next : ∀ (xs ws : List Nat) (H : Heap) (ls : Array Slot), LInv D cI cJ cS cO y u0 u1 u2 u3 ao sg d s xs ws H → lv_has ls 7 [(4, .int (nI i)), (0, .ref b), (1, .ref (y 0)), (2, .ref u0), (3, .ref ao)] → W p l e room_1 s m #[Value.ref b] below meth c H [] (c9 + 11) (s9 + 66) Q (F0 m 1003 ls [])) :
    W p l e room_1 s m #[Value.ref b] below meth c H [] c9 s9 Q (F0 m 843 ls []) := by
  obtain ⟨hx, hb, hr, hml, hown, hts, hlocks, hE, hN, hX, hbl, hl9⟩ := C0
  obtain ⟨hLR, ⟨th, hM⟩, ⟨g, hO⟩, ok0, hfr⟩ := hI
  have hK := hE.1
  have hAB : ∀ q : Nat, s.heap.size ≤ q → s.heap.size ≤ q := fun q h => h
  have hbA : ¬ s.heap.size ≤ b := Nat.not_le.mpr hbl
  have hS : va_S (fun q => s.heap.size ≤ q) s.heap H [] := ⟨hfr.1, hfr.2, fun z hz => nomatch hz⟩
  refine lv_aload_n hx hb d_W_law_843 rfl (lv_at hl 2 rfl) ?_
  refine lv_aload_n hx hb d_W_law_844 rfl (lv_at hl 1 rfl) ?_
  refine lv_iload hx hb d_W_law_845 (lv_at hl 0 rfl) ?_
  refine lv_iconst (v := 1) hx hb d_W_law_847 (by decide) ?_
  refine lv_iadd hx hb d_W_law_848 ?_
  refine ct_topi (x' := nI (i + 1)) (nI_add _ 1) ?_
  refine va_sld hx hb hX hbl hbA hS (vp_in_nI (by omega) (by omega)) d_W_law_849 ?_
  refine ct_topi (x' := sc (i + 1)) (congrArg sc (nI_clamp (by omega))) ?_
  refine lv_aload_n hx hb d_W_law_850 rfl (lv_at hl 1 rfl) ?_
  refine lv_iload hx hb d_W_law_851 (lv_at hl 0 rfl) ?_
  refine lv_iconst (v := 2) hx hb d_W_law_853 (by decide) ?_
  refine lv_iadd hx hb d_W_law_854 ?_
  refine ct_topi (x' := nI (i + 2)) (nI_add _ 2) ?_
  refine va_sld hx hb hX hbl hbA hS (vp_in_nI (by omega) (by omega)) d_W_law_855 ?_
  refine ct_topi (x' := sc (i + 2)) (congrArg sc (nI_clamp (by omega))) ?_
  refine lv_aload_n hx hb d_W_law_856 rfl (lv_at hl 1 rfl) ?_
  refine lv_iload hx hb d_W_law_857 (lv_at hl 0 rfl) ?_
  refine lv_iconst (v := 3) hx hb d_W_law_859 (by decide) ?_
  refine lv_iadd hx hb d_W_law_860 ?_
  refine ct_topi (x' := nI (i + 3)) (nI_add _ 3) ?_
  refine va_sld hx hb hX hbl hbA hS (vp_in_nI (by omega) (by omega)) d_W_law_861 ?_
  refine ct_topi (x' := sc (i + 3)) (congrArg sc (nI_clamp (by omega))) ?_
  refine lv_aload_n hx hb d_W_law_862 rfl (lv_at hl 4 rfl) ?_
  have hAY : ∀ q : Nat, ((q = y 3 ∨ q = y 4 ∨ q = y 5 ∨ q = y 6) ∨ q = ao) → YA y d ao q := by
    rintro q ((h | h | h | h) | h)
    · exact Or.inl ⟨3, by omega, h⟩
    · exact Or.inl ⟨4, by omega, h⟩
    · exact Or.inl ⟨5, by omega, h⟩
    · exact Or.inl ⟨6, by omega, h⟩
    · exact Or.inr h
  refine cx_ret (vx_runSX (As := [.ref (y 0), .int (sc (i + 1)), .int (sc (i + 2)), .int (sc (i + 3)), .ref ao]) (rest := []) ⟨hx, hb, hml, hown, hts⟩ (m_W_frequent hl9 hG.1 ok0 hG.2.2.2.1 hG.2.2.1 (sc (i + 1)) (sc (i + 2)) (sc (i + 3))) (vx_cwSW 5 hts (gi_csw x_408 x_409 x_0 x_410) rfl rfl rfl (by decide +kernel) ⟨by decide, by decide⟩) ⟨sh_blind, fun U hU hW => ⟨⟨rfl, hE.at hS hAB hU hW, by rw [hU]; exact ⟨hLR, hO⟩⟩, hN.moved hW.alike⟩⟩ rfl rfl hl.1 rfl (lv_room (Nat.le_of_ble_eq_true rfl)) d_W_law_863 ⟨show c9 + 2 ≤ 601024 by omega, show s9 + 12 ≤ 7293000 by omega⟩) hS (fun q h => hG.ge q (hAY q h)) (fun _ _ h => h.1) (fun _ _ h => h.elim) (fun E ce q H locs hxx => hxx.elim) (fun v H locs hv hS => ?_)
  obtain ⟨hf1, hv⟩ := hv
  refine va_forget (fun z hz => hS.2.2 z hz) ?_
  have hfr := fr.of hS
  have hS : va_S (fun q => s.heap.size ≤ q) s.heap H [] := ⟨hfr.1, hfr.2, fun z hz => nomatch hz⟩
  have hM := hG.mr hAY hM hf1
  rcases hv with ⟨rfl, hcd, hLR, w1, g, hrel, hg0, hO⟩ | ⟨rfl, hcd, hLR, g, hO⟩
  · refine W.eq (g2 := F0 m 866 ls [.int 0]) rfl ?_
    refine lv_istore (lv' := [(5, .int 0), (4, .int (nI i)), (0, .ref b), (1, .ref (y 0)), (2, .ref u0), (3, .ref ao)]) hx hb d_W_law_866 hl (by decide) rfl (fun ls hl => ?_)
    refine lv_aload_n hx hb d_W_law_868 rfl (lv_at hl 4 rfl) ?_
    refine lv_aload_n hx hb d_W_law_869 rfl (lv_at hl 2 rfl) ?_
    refine lv_iload hx hb d_W_law_870 (lv_at hl 1 rfl) ?_
    refine lv_iconst (v := 1) hx hb d_W_law_872 (by decide) ?_
    refine lv_iadd hx hb d_W_law_873 ?_
    refine ct_topi (x' := nI (i + 1)) (nI_add _ 1) ?_
    refine va_sld hx hb hX hbl hbA hS (vp_in_nI (by omega) (by omega)) d_W_law_874 ?_
    refine ct_topi (x' := sc (i + 1)) (congrArg sc (nI_clamp (by omega))) ?_
    refine lv_aload_n hx hb d_W_law_875 rfl (lv_at hl 2 rfl) ?_
    refine lv_iload hx hb d_W_law_876 (lv_at hl 1 rfl) ?_
    refine lv_iconst (v := 2) hx hb d_W_law_878 (by decide) ?_
    refine lv_iadd hx hb d_W_law_879 ?_
    refine ct_topi (x' := nI (i + 2)) (nI_add _ 2) ?_
    refine va_sld hx hb hX hbl hbA hS (vp_in_nI (by omega) (by omega)) d_W_law_880 ?_
    refine ct_topi (x' := sc (i + 2)) (congrArg sc (nI_clamp (by omega))) ?_
    refine lv_aload_n hx hb d_W_law_881 rfl (lv_at hl 2 rfl) ?_
    refine lv_iload hx hb d_W_law_882 (lv_at hl 1 rfl) ?_
    refine lv_iconst (v := 3) hx hb d_W_law_884 (by decide) ?_
    refine lv_iadd hx hb d_W_law_885 ?_
    refine ct_topi (x' := nI (i + 3)) (nI_add _ 3) ?_
    refine va_sld hx hb hX hbl hbA hS (vp_in_nI (by omega) (by omega)) d_W_law_886 ?_
    refine ct_topi (x' := sc (i + 3)) (congrArg sc (nI_clamp (by omega))) ?_
    have hMP : ∃ fs, va_P D vwCl [(u0, .inr (3, fs))] H := by obtain ⟨rf9, sf9, tf9, _, h⟩ := hM; exact ⟨_, h.sub [0] rfl⟩
    obtain ⟨fs9, hMP⟩ := hMP
    refine cm_ret (va_runV (As := [.int (sc (i + 1)), .int (sc (i + 2)), .int (sc (i + 3))]) (rest := []) ⟨hx, hb, hml, hown, hts⟩ (m_M_frequent hG.2.1 ok0 (sc (i + 1)) (sc (i + 2)) (sc (i + 3))) ⟨ct_cb 3 hts x_526 x_523 x_6 rfl rfl (by decide +kernel) ⟨by decide, by decide⟩, hts _ x_524, hts _ x_525⟩ ⟨st_blind, va_recv hK hMP (ci := 3) (q0 := 0) rfl rfl, fun U hU hW => ⟨rfl, hE.at hS hAB hU hW, by rw [hU]; exact hM⟩⟩ rfl rfl hl.1 rfl (lv_room (Nat.le_of_ble_eq_true rfl)) d_W_law_887 ⟨show _ ≤ 601024 by omega, show _ ≤ 7293000 by omega⟩) hS (fun q h => hG.2.1.AB q h) (fun _ _ h => h.1) (fun v H locs hv hS => ?_)
    obtain ⟨hf2, hv⟩ := hv
    refine va_forget (fun z hz => hS.2.2 z hz) ?_
    have hfr := fr.of hS
    have hS : va_S (fun q => s.heap.size ≤ q) s.heap H [] := ⟨hfr.1, hfr.2, fun z hz => nomatch hz⟩
    have hLR := hG.lr hLR hf2
    have hO := hG.out hO hf2
    rcases hv with ⟨hcd2, hM, w2, rfl, hrel2⟩ | ⟨hcd2, hM, w2, rfl⟩
    · have hw := aFrq.uniq hrel hrel2
      subst hw
      refine W.eq (g2 := F0 m 890 ls [.int w1]) rfl ?_
      refine lv_istore (lv' := [(6, .int w1), (5, .int 0), (4, .int (nI i)), (0, .ref b), (1, .ref (y 0)), (2, .ref u0), (3, .ref ao)]) hx hb d_W_law_890 hl (by decide) rfl (fun ls hl => ?_)
      refine lv_aload_n hx hb d_W_law_892 rfl (lv_at hl 5 rfl) ?_
      have hMP : ∃ fs, va_P D vwCl [(u0, .inr (3, fs))] H := by obtain ⟨rf9, sf9, tf9, _, h⟩ := hM; exact ⟨_, h.sub [0] rfl⟩
      obtain ⟨fs9, hMP⟩ := hMP
      refine cm_read (va_runV (As := []) (rest := []) ⟨hx, hb, hml, hown, hts⟩ (m_M_thrown hG.2.1 ok0) ⟨ct_cb 0 hts x_462 x_459 x_6 rfl rfl (by decide +kernel) ⟨by decide, by decide⟩, hts _ x_460, hts _ x_461⟩ ⟨st_blind, va_recv hK hMP (ci := 3) (q0 := 0) rfl rfl, fun U hU hW => ⟨rfl, hE.at hS hAB hU hW, by rw [hU]; exact hM⟩⟩ rfl rfl hl.1 rfl (lv_room (Nat.le_of_ble_eq_true rfl)) d_W_law_893 ⟨show _ ≤ 601024 by omega, show _ ≤ 7293000 by omega⟩) (fun v hv => ?_)
      subst hv
      refine W.eq (g2 := F0 m 896 ls [.int 0]) rfl ?_
      refine lv_iload hx hb d_W_law_896 (lv_at hl 1 rfl) ?_
      refine lv_icmp_eq (tgt := 903) hx hb d_W_law_898 (by decide) (fun _ => ?_) (fun c9 => absurd (rfl) c9)
      refine lv_iload hx hb d_W_law_903 (lv_at hl 1 rfl) ?_
      refine lv_if_ne (tgt := 920) hx hb d_W_law_905 (by decide) (fun c9 => absurd (rfl) c9) (fun _ => ?_)
      refine lv_aload_n hx hb d_W_law_908 rfl (lv_at hl 6 rfl) ?_
      refine lv_iconst (v := 0) hx hb d_W_law_909 (by decide) ?_
      refine va_lald hx hb hK hO 0 1 rfl rfl (vp_in_nI (n := 0) (by decide) (by decide)) d_W_law_910 ?_
      refine ct_topl (x' := (w1).toInt64) hg0 ?_
      refine lv_iload hx hb d_W_law_911 (lv_at hl 0 rfl) ?_
      refine lv_i2l hx hb d_W_law_913 rfl ?_
      refine W.lcmp hx hb d_W_law_914 ?_
      refine ct_topi (x' := 0) (lg_self _) ?_
      refine lv_if_eq (tgt := 920) hx hb d_W_law_915 (by decide) (fun _ => ?_) (fun c9 => absurd (rfl) c9)
      refine lv_goto (tgt := 1003) hx hb d_W_law_920 (by decide) ?_
      refine W.widen (k := c9 + 11) (n := s9 + 66) (by omega) (by omega) ?_
      exact next xs ws H ls ⟨hLR, ⟨_, hM⟩, ⟨_, hO⟩, ok0, hfr⟩ (lv_sub hl [2, 3, 4, 5, 6] rfl)
    · exact absurd hcd hcd2
  · refine W.eq (g2 := F0 m 866 ls [.int 1]) rfl ?_
    refine lv_istore (lv' := [(5, .int 1), (4, .int (nI i)), (0, .ref b), (1, .ref (y 0)), (2, .ref u0), (3, .ref ao)]) hx hb d_W_law_866 hl (by decide) rfl (fun ls hl => ?_)
    refine lv_aload_n hx hb d_W_law_868 rfl (lv_at hl 4 rfl) ?_
    refine lv_aload_n hx hb d_W_law_869 rfl (lv_at hl 2 rfl) ?_
    refine lv_iload hx hb d_W_law_870 (lv_at hl 1 rfl) ?_
    refine lv_iconst (v := 1) hx hb d_W_law_872 (by decide) ?_
    refine lv_iadd hx hb d_W_law_873 ?_
    refine ct_topi (x' := nI (i + 1)) (nI_add _ 1) ?_
    refine va_sld hx hb hX hbl hbA hS (vp_in_nI (by omega) (by omega)) d_W_law_874 ?_
    refine ct_topi (x' := sc (i + 1)) (congrArg sc (nI_clamp (by omega))) ?_
    refine lv_aload_n hx hb d_W_law_875 rfl (lv_at hl 2 rfl) ?_
    refine lv_iload hx hb d_W_law_876 (lv_at hl 1 rfl) ?_
    refine lv_iconst (v := 2) hx hb d_W_law_878 (by decide) ?_
    refine lv_iadd hx hb d_W_law_879 ?_
    refine ct_topi (x' := nI (i + 2)) (nI_add _ 2) ?_
    refine va_sld hx hb hX hbl hbA hS (vp_in_nI (by omega) (by omega)) d_W_law_880 ?_
    refine ct_topi (x' := sc (i + 2)) (congrArg sc (nI_clamp (by omega))) ?_
    refine lv_aload_n hx hb d_W_law_881 rfl (lv_at hl 2 rfl) ?_
    refine lv_iload hx hb d_W_law_882 (lv_at hl 1 rfl) ?_
    refine lv_iconst (v := 3) hx hb d_W_law_884 (by decide) ?_
    refine lv_iadd hx hb d_W_law_885 ?_
    refine ct_topi (x' := nI (i + 3)) (nI_add _ 3) ?_
    refine va_sld hx hb hX hbl hbA hS (vp_in_nI (by omega) (by omega)) d_W_law_886 ?_
    refine ct_topi (x' := sc (i + 3)) (congrArg sc (nI_clamp (by omega))) ?_
    have hMP : ∃ fs, va_P D vwCl [(u0, .inr (3, fs))] H := by obtain ⟨rf9, sf9, tf9, _, h⟩ := hM; exact ⟨_, h.sub [0] rfl⟩
    obtain ⟨fs9, hMP⟩ := hMP
    refine cm_ret (va_runV (As := [.int (sc (i + 1)), .int (sc (i + 2)), .int (sc (i + 3))]) (rest := []) ⟨hx, hb, hml, hown, hts⟩ (m_M_frequent hG.2.1 ok0 (sc (i + 1)) (sc (i + 2)) (sc (i + 3))) ⟨ct_cb 3 hts x_526 x_523 x_6 rfl rfl (by decide +kernel) ⟨by decide, by decide⟩, hts _ x_524, hts _ x_525⟩ ⟨st_blind, va_recv hK hMP (ci := 3) (q0 := 0) rfl rfl, fun U hU hW => ⟨rfl, hE.at hS hAB hU hW, by rw [hU]; exact hM⟩⟩ rfl rfl hl.1 rfl (lv_room (Nat.le_of_ble_eq_true rfl)) d_W_law_887 ⟨show _ ≤ 601024 by omega, show _ ≤ 7293000 by omega⟩) hS (fun q h => hG.2.1.AB q h) (fun _ _ h => h.1) (fun v H locs hv hS => ?_)
    obtain ⟨hf2, hv⟩ := hv
    refine va_forget (fun z hz => hS.2.2 z hz) ?_
    have hfr := fr.of hS
    have hS : va_S (fun q => s.heap.size ≤ q) s.heap H [] := ⟨hfr.1, hfr.2, fun z hz => nomatch hz⟩
    have hLR := hG.lr hLR hf2
    have hO := hG.out hO hf2
    rcases hv with ⟨hcd2, hM, w2, rfl, hrel2⟩ | ⟨hcd2, hM, w2, rfl⟩
    · exact absurd hcd2 hcd
    · refine W.eq (g2 := F0 m 890 ls [.int w2]) rfl ?_
      refine lv_istore (lv' := [(6, .int w2), (5, .int 1), (4, .int (nI i)), (0, .ref b), (1, .ref (y 0)), (2, .ref u0), (3, .ref ao)]) hx hb d_W_law_890 hl (by decide) rfl (fun ls hl => ?_)
      refine lv_aload_n hx hb d_W_law_892 rfl (lv_at hl 5 rfl) ?_
      have hMP : ∃ fs, va_P D vwCl [(u0, .inr (3, fs))] H := by obtain ⟨rf9, sf9, tf9, _, h⟩ := hM; exact ⟨_, h.sub [0] rfl⟩
      obtain ⟨fs9, hMP⟩ := hMP
      refine cm_read (va_runV (As := []) (rest := []) ⟨hx, hb, hml, hown, hts⟩ (m_M_thrown hG.2.1 ok0) ⟨ct_cb 0 hts x_462 x_459 x_6 rfl rfl (by decide +kernel) ⟨by decide, by decide⟩, hts _ x_460, hts _ x_461⟩ ⟨st_blind, va_recv hK hMP (ci := 3) (q0 := 0) rfl rfl, fun U hU hW => ⟨rfl, hE.at hS hAB hU hW, by rw [hU]; exact hM⟩⟩ rfl rfl hl.1 rfl (lv_room (Nat.le_of_ble_eq_true rfl)) d_W_law_893 ⟨show _ ≤ 601024 by omega, show _ ≤ 7293000 by omega⟩) (fun v hv => ?_)
      subst hv
      refine W.eq (g2 := F0 m 896 ls [.int 1]) rfl ?_
      refine lv_iload hx hb d_W_law_896 (lv_at hl 1 rfl) ?_
      refine lv_icmp_eq (tgt := 903) hx hb d_W_law_898 (by decide) (fun _ => ?_) (fun c9 => absurd (rfl) c9)
      refine lv_iload hx hb d_W_law_903 (lv_at hl 1 rfl) ?_
      refine lv_if_ne (tgt := 920) hx hb d_W_law_905 (by decide) (fun _ => ?_) (fun c9 => absurd c9 (by decide))
      refine lv_goto (tgt := 1003) hx hb d_W_law_920 (by decide) ?_
      refine W.widen (k := c9 + 11) (n := s9 + 66) (by omega) (by omega) ?_
      exact next xs ws H ls ⟨hLR, ⟨_, hM⟩, ⟨_, hO⟩, ok0, hfr⟩ (lv_sub hl [2, 3, 4, 5, 6] rfl)
set_option maxHeartbeats 4000000 in
set_option maxRecDepth 100000 in
theorem w_count {p : Program} {l : Launch} {e : Env} {s : State} {m : MethodId} {below : List Frame} {meth : Method} {c : Code} {Q : State → Prop} {D : va_G} {cI cJ cS cO : ClassId} {b L : Nat} {sc : Nat → Int32} (C0 : LC D cI cJ cS cO p l s m meth c b L sc) {y : Nat → Nat} {u0 u1 u2 u3 ao sg d : Nat} (hG : GEO s.heap.size y d u0 u1 u2 u3 ao) {i : Nat} (hL : L ≤ 3585) (hi : i + 7 ≤ L) {xs ws : List Nat} {H : Heap} {ls : Array Slot} {c9 s9 : Nat} (hc9 : c9 + 11 ≤ 601024) (hs9 : s9 + 66 ≤ 7293000)
    (hI : LInv D cI cJ cS cO y u0 u1 u2 u3 ao sg d s xs ws H) (hl : lv_has ls 7 [(4, .int (nI i)), (0, .ref b), (1, .ref (y 0)), (2, .ref u0), (3, .ref ao)])
    (next : ∀ (xs ws : List Nat) (H : Heap) (ls : Array Slot), LInv D cI cJ cS cO y u0 u1 u2 u3 ao sg d s xs ws H → lv_has ls 7 [(4, .int (nI i)), (0, .ref b), (1, .ref (y 0)), (2, .ref u0), (3, .ref ao)] → W p l e room_1 s m #[Value.ref b] below meth c H [] (c9 + 11) (s9 + 66) Q (F0 m 1003 ls [])) :
    W p l e room_1 s m #[Value.ref b] below meth c H [] c9 s9 Q (F0 m 936 ls []) := by
  obtain ⟨hx, hb, hr, hml, hown, hts, hlocks, hE, hN, hX, hbl, hl9⟩ := C0
  obtain ⟨hLR, ⟨th, hM⟩, ⟨g, hO⟩, ok0, hfr⟩ := hI
  have hK := hE.1
  have hAB : ∀ q : Nat, s.heap.size ≤ q → s.heap.size ≤ q := fun q h => h
  have hbA : ¬ s.heap.size ≤ b := Nat.not_le.mpr hbl
  have hS : va_S (fun q => s.heap.size ≤ q) s.heap H [] := ⟨hfr.1, hfr.2, fun z hz => nomatch hz⟩
  refine lv_aload_n hx hb d_W_law_936 rfl (lv_at hl 2 rfl) ?_
  refine lv_aload_n hx hb d_W_law_937 rfl (lv_at hl 1 rfl) ?_
  refine lv_iload hx hb d_W_law_938 (lv_at hl 0 rfl) ?_
  refine lv_iconst (v := 1) hx hb d_W_law_940 (by decide) ?_
  refine lv_iadd hx hb d_W_law_941 ?_
  refine ct_topi (x' := nI (i + 1)) (nI_add _ 1) ?_
  refine va_sld hx hb hX hbl hbA hS (vp_in_nI (by omega) (by omega)) d_W_law_942 ?_
  refine ct_topi (x' := sc (i + 1)) (congrArg sc (nI_clamp (by omega))) ?_
  refine lv_aload_n hx hb d_W_law_943 rfl (lv_at hl 4 rfl) ?_
  have hAY : ∀ q : Nat, ((False) ∨ q = ao) → YA y d ao q := by
    rintro q (h | h)
    · exact h.elim
    · exact Or.inr h
  refine cx_ret (vx_runSX (As := [.ref (y 0), .int (sc (i + 1)), .ref ao]) (rest := []) ⟨hx, hb, hml, hown, hts⟩ (m_W_count hl9 hG.1 ok0 hG.2.2.2.1 hG.2.2.1 (sc (i + 1))) (vx_cwSW 3 hts (gi_csw x_422 x_423 x_0 x_424) rfl rfl rfl (by decide +kernel) ⟨by decide, by decide⟩) ⟨sh_blind, fun U hU hW => ⟨⟨rfl, hE.at hS hAB hU hW, by rw [hU]; exact ⟨hLR, hO⟩⟩, hN.moved hW.alike⟩⟩ rfl rfl hl.1 rfl (lv_room (Nat.le_of_ble_eq_true rfl)) d_W_law_944 ⟨show c9 + 1 ≤ 601024 by omega, show s9 + 6 ≤ 7293000 by omega⟩) hS (fun q h => hG.ge q (hAY q h)) (fun _ _ h => h.1) (fun _ _ h => h.elim) (fun E ce q H locs hxx => hxx.elim) (fun v H locs hv hS => ?_)
  obtain ⟨hf1, hv⟩ := hv
  refine va_forget (fun z hz => hS.2.2 z hz) ?_
  have hfr := fr.of hS
  have hS : va_S (fun q => s.heap.size ≤ q) s.heap H [] := ⟨hfr.1, hfr.2, fun z hz => nomatch hz⟩
  have hM := hG.mr hAY hM hf1
  rcases hv with ⟨rfl, hcd, hLR, w1, g, hrel, hg0, hO⟩ | ⟨rfl, hcd, hLR, g, hO⟩
  · refine W.eq (g2 := F0 m 947 ls [.int 0]) rfl ?_
    refine lv_istore (lv' := [(5, .int 0), (4, .int (nI i)), (0, .ref b), (1, .ref (y 0)), (2, .ref u0), (3, .ref ao)]) hx hb d_W_law_947 hl (by decide) rfl (fun ls hl => ?_)
    refine lv_aload_n hx hb d_W_law_949 rfl (lv_at hl 4 rfl) ?_
    refine lv_aload_n hx hb d_W_law_950 rfl (lv_at hl 2 rfl) ?_
    refine lv_iload hx hb d_W_law_951 (lv_at hl 1 rfl) ?_
    refine lv_iconst (v := 1) hx hb d_W_law_953 (by decide) ?_
    refine lv_iadd hx hb d_W_law_954 ?_
    refine ct_topi (x' := nI (i + 1)) (nI_add _ 1) ?_
    refine va_sld hx hb hX hbl hbA hS (vp_in_nI (by omega) (by omega)) d_W_law_955 ?_
    refine ct_topi (x' := sc (i + 1)) (congrArg sc (nI_clamp (by omega))) ?_
    have hMP : ∃ fs, va_P D vwCl [(u0, .inr (3, fs))] H := by obtain ⟨rf9, sf9, tf9, _, h⟩ := hM; exact ⟨_, h.sub [0] rfl⟩
    obtain ⟨fs9, hMP⟩ := hMP
    refine cm_ret (va_runV (As := [.int (sc (i + 1))]) (rest := []) ⟨hx, hb, hml, hown, hts⟩ (m_M_count hG.2.1 ok0 (sc (i + 1))) ⟨ct_cb 1 hts x_538 x_535 x_6 rfl rfl (by decide +kernel) ⟨by decide, by decide⟩, hts _ x_536, hts _ x_537⟩ ⟨st_blind, va_recv hK hMP (ci := 3) (q0 := 0) rfl rfl, fun U hU hW => ⟨rfl, hE.at hS hAB hU hW, by rw [hU]; exact hM⟩⟩ rfl rfl hl.1 rfl (lv_room (Nat.le_of_ble_eq_true rfl)) d_W_law_956 ⟨show _ ≤ 601024 by omega, show _ ≤ 7293000 by omega⟩) hS (fun q h => hG.2.1.AB q h) (fun _ _ h => h.1) (fun v H locs hv hS => ?_)
    obtain ⟨hf2, hv⟩ := hv
    refine va_forget (fun z hz => hS.2.2 z hz) ?_
    have hfr := fr.of hS
    have hS : va_S (fun q => s.heap.size ≤ q) s.heap H [] := ⟨hfr.1, hfr.2, fun z hz => nomatch hz⟩
    have hLR := hG.lr hLR hf2
    have hO := hG.out hO hf2
    rcases hv with ⟨hcd2, hM, rfl⟩ | ⟨hcd2, hM, w2, rfl⟩
    · subst hrel
      refine W.eq (g2 := F0 m 959 ls [.int (aCnt sg d xs.length ws.length (sc (i + 1)))]) rfl ?_
      refine lv_istore (lv' := [(6, .int (aCnt sg d xs.length ws.length (sc (i + 1)))), (5, .int 0), (4, .int (nI i)), (0, .ref b), (1, .ref (y 0)), (2, .ref u0), (3, .ref ao)]) hx hb d_W_law_959 hl (by decide) rfl (fun ls hl => ?_)
      refine lv_aload_n hx hb d_W_law_961 rfl (lv_at hl 5 rfl) ?_
      have hMP : ∃ fs, va_P D vwCl [(u0, .inr (3, fs))] H := by obtain ⟨rf9, sf9, tf9, _, h⟩ := hM; exact ⟨_, h.sub [0] rfl⟩
      obtain ⟨fs9, hMP⟩ := hMP
      refine cm_read (va_runV (As := []) (rest := []) ⟨hx, hb, hml, hown, hts⟩ (m_M_thrown hG.2.1 ok0) ⟨ct_cb 0 hts x_462 x_459 x_6 rfl rfl (by decide +kernel) ⟨by decide, by decide⟩, hts _ x_460, hts _ x_461⟩ ⟨st_blind, va_recv hK hMP (ci := 3) (q0 := 0) rfl rfl, fun U hU hW => ⟨rfl, hE.at hS hAB hU hW, by rw [hU]; exact hM⟩⟩ rfl rfl hl.1 rfl (lv_room (Nat.le_of_ble_eq_true rfl)) d_W_law_962 ⟨show _ ≤ 601024 by omega, show _ ≤ 7293000 by omega⟩) (fun v hv => ?_)
      subst hv
      refine W.eq (g2 := F0 m 965 ls [.int 0]) rfl ?_
      refine lv_iload hx hb d_W_law_965 (lv_at hl 1 rfl) ?_
      refine lv_icmp_eq (tgt := 972) hx hb d_W_law_967 (by decide) (fun _ => ?_) (fun c9 => absurd (rfl) c9)
      refine lv_iload hx hb d_W_law_972 (lv_at hl 1 rfl) ?_
      refine lv_if_ne (tgt := 989) hx hb d_W_law_974 (by decide) (fun c9 => absurd (rfl) c9) (fun _ => ?_)
      refine lv_aload_n hx hb d_W_law_977 rfl (lv_at hl 6 rfl) ?_
      refine lv_iconst (v := 0) hx hb d_W_law_978 (by decide) ?_
      refine va_lald hx hb hK hO 0 1 rfl rfl (vp_in_nI (n := 0) (by decide) (by decide)) d_W_law_979 ?_
      refine ct_topl (x' := (aCnt sg d xs.length ws.length (sc (i + 1))).toInt64) hg0 ?_
      refine lv_iload hx hb d_W_law_980 (lv_at hl 0 rfl) ?_
      refine lv_i2l hx hb d_W_law_982 rfl ?_
      refine W.lcmp hx hb d_W_law_983 ?_
      refine ct_topi (x' := 0) (lg_self _) ?_
      refine lv_if_eq (tgt := 989) hx hb d_W_law_984 (by decide) (fun _ => ?_) (fun c9 => absurd (rfl) c9)
      refine lv_goto (tgt := 1003) hx hb d_W_law_989 (by decide) ?_
      refine W.widen (k := c9 + 11) (n := s9 + 66) (by omega) (by omega) ?_
      exact next xs ws H ls ⟨hLR, ⟨_, hM⟩, ⟨_, hO⟩, ok0, hfr⟩ (lv_sub hl [2, 3, 4, 5, 6] rfl)
    · exact absurd hcd hcd2
  · refine W.eq (g2 := F0 m 947 ls [.int 1]) rfl ?_
    refine lv_istore (lv' := [(5, .int 1), (4, .int (nI i)), (0, .ref b), (1, .ref (y 0)), (2, .ref u0), (3, .ref ao)]) hx hb d_W_law_947 hl (by decide) rfl (fun ls hl => ?_)
    refine lv_aload_n hx hb d_W_law_949 rfl (lv_at hl 4 rfl) ?_
    refine lv_aload_n hx hb d_W_law_950 rfl (lv_at hl 2 rfl) ?_
    refine lv_iload hx hb d_W_law_951 (lv_at hl 1 rfl) ?_
    refine lv_iconst (v := 1) hx hb d_W_law_953 (by decide) ?_
    refine lv_iadd hx hb d_W_law_954 ?_
    refine ct_topi (x' := nI (i + 1)) (nI_add _ 1) ?_
    refine va_sld hx hb hX hbl hbA hS (vp_in_nI (by omega) (by omega)) d_W_law_955 ?_
    refine ct_topi (x' := sc (i + 1)) (congrArg sc (nI_clamp (by omega))) ?_
    have hMP : ∃ fs, va_P D vwCl [(u0, .inr (3, fs))] H := by obtain ⟨rf9, sf9, tf9, _, h⟩ := hM; exact ⟨_, h.sub [0] rfl⟩
    obtain ⟨fs9, hMP⟩ := hMP
    refine cm_ret (va_runV (As := [.int (sc (i + 1))]) (rest := []) ⟨hx, hb, hml, hown, hts⟩ (m_M_count hG.2.1 ok0 (sc (i + 1))) ⟨ct_cb 1 hts x_538 x_535 x_6 rfl rfl (by decide +kernel) ⟨by decide, by decide⟩, hts _ x_536, hts _ x_537⟩ ⟨st_blind, va_recv hK hMP (ci := 3) (q0 := 0) rfl rfl, fun U hU hW => ⟨rfl, hE.at hS hAB hU hW, by rw [hU]; exact hM⟩⟩ rfl rfl hl.1 rfl (lv_room (Nat.le_of_ble_eq_true rfl)) d_W_law_956 ⟨show _ ≤ 601024 by omega, show _ ≤ 7293000 by omega⟩) hS (fun q h => hG.2.1.AB q h) (fun _ _ h => h.1) (fun v H locs hv hS => ?_)
    obtain ⟨hf2, hv⟩ := hv
    refine va_forget (fun z hz => hS.2.2 z hz) ?_
    have hfr := fr.of hS
    have hS : va_S (fun q => s.heap.size ≤ q) s.heap H [] := ⟨hfr.1, hfr.2, fun z hz => nomatch hz⟩
    have hLR := hG.lr hLR hf2
    have hO := hG.out hO hf2
    rcases hv with ⟨hcd2, hM, rfl⟩ | ⟨hcd2, hM, w2, rfl⟩
    · exact absurd hcd2 hcd
    · refine W.eq (g2 := F0 m 959 ls [.int w2]) rfl ?_
      refine lv_istore (lv' := [(6, .int w2), (5, .int 1), (4, .int (nI i)), (0, .ref b), (1, .ref (y 0)), (2, .ref u0), (3, .ref ao)]) hx hb d_W_law_959 hl (by decide) rfl (fun ls hl => ?_)
      refine lv_aload_n hx hb d_W_law_961 rfl (lv_at hl 5 rfl) ?_
      have hMP : ∃ fs, va_P D vwCl [(u0, .inr (3, fs))] H := by obtain ⟨rf9, sf9, tf9, _, h⟩ := hM; exact ⟨_, h.sub [0] rfl⟩
      obtain ⟨fs9, hMP⟩ := hMP
      refine cm_read (va_runV (As := []) (rest := []) ⟨hx, hb, hml, hown, hts⟩ (m_M_thrown hG.2.1 ok0) ⟨ct_cb 0 hts x_462 x_459 x_6 rfl rfl (by decide +kernel) ⟨by decide, by decide⟩, hts _ x_460, hts _ x_461⟩ ⟨st_blind, va_recv hK hMP (ci := 3) (q0 := 0) rfl rfl, fun U hU hW => ⟨rfl, hE.at hS hAB hU hW, by rw [hU]; exact hM⟩⟩ rfl rfl hl.1 rfl (lv_room (Nat.le_of_ble_eq_true rfl)) d_W_law_962 ⟨show _ ≤ 601024 by omega, show _ ≤ 7293000 by omega⟩) (fun v hv => ?_)
      subst hv
      refine W.eq (g2 := F0 m 965 ls [.int 1]) rfl ?_
      refine lv_iload hx hb d_W_law_965 (lv_at hl 1 rfl) ?_
      refine lv_icmp_eq (tgt := 972) hx hb d_W_law_967 (by decide) (fun _ => ?_) (fun c9 => absurd (rfl) c9)
      refine lv_iload hx hb d_W_law_972 (lv_at hl 1 rfl) ?_
      refine lv_if_ne (tgt := 989) hx hb d_W_law_974 (by decide) (fun _ => ?_) (fun c9 => absurd c9 (by decide))
      refine lv_goto (tgt := 1003) hx hb d_W_law_989 (by decide) ?_
      refine W.widen (k := c9 + 11) (n := s9 + 66) (by omega) (by omega) ?_
      exact next xs ws H ls ⟨hLR, ⟨_, hM⟩, ⟨_, hO⟩, ok0, hfr⟩ (lv_sub hl [2, 3, 4, 5, 6] rfl)
set_option maxHeartbeats 4000000 in
set_option maxRecDepth 100000 in
theorem w_build {p : Program} {l : Launch} {e : Env} {s : State} {m : MethodId} {below : List Frame} {meth : Method} {c : Code} {Q : State → Prop} {D : va_G} {cI cJ cS cO : ClassId} {b L : Nat} {sc : Nat → Int32} (C0 : LC D cI cJ cS cO p l s m meth c b L sc) {y : Nat → Nat} {u0 u1 u2 u3 ao sg d : Nat} (hG : GEO s.heap.size y d u0 u1 u2 u3 ao) {i : Nat} (hL : L ≤ 3585) (hi : i + 7 ≤ L) {xs ws : List Nat} {H : Heap} {ls : Array Slot} {c9 s9 : Nat} (hc9 : c9 + 11 ≤ 601024) (hs9 : s9 + 66 ≤ 7293000)
    (hI : LInv D cI cJ cS cO y u0 u1 u2 u3 ao sg d s xs ws H) (hl : lv_has ls 7 [(4, .int (nI i)), (0, .ref b), (1, .ref (y 0)), (2, .ref u0), (3, .ref ao)])
    (next : ∀ (xs ws : List Nat) (H : Heap) (ls : Array Slot), LInv D cI cJ cS cO y u0 u1 u2 u3 ao sg d s xs ws H → lv_has ls 7 [(4, .int (nI i)), (0, .ref b), (1, .ref (y 0)), (2, .ref u0), (3, .ref ao)] → W p l e room_1 s m #[Value.ref b] below meth c H [] (c9 + 11) (s9 + 66) Q (F0 m 1003 ls [])) :
    W p l e room_1 s m #[Value.ref b] below meth c H [] c9 s9 Q (F0 m 238 ls []) := by
  obtain ⟨hx, hb, hr, hml, hown, hts, hlocks, hE, hN, hX, hbl, hl9⟩ := C0
  obtain ⟨hLR, ⟨th, hM⟩, ⟨g, hO⟩, ok0, hfr⟩ := hI
  have hK := hE.1
  have hAB : ∀ q : Nat, s.heap.size ≤ q → s.heap.size ≤ q := fun q h => h
  have hbA : ¬ s.heap.size ≤ b := Nat.not_le.mpr hbl
  have hS : va_S (fun q => s.heap.size ≤ q) s.heap H [] := ⟨hfr.1, hfr.2, fun z hz => nomatch hz⟩
  refine lv_aload_n hx hb d_W_law_238 rfl (lv_at hl 2 rfl) ?_
  have hR := hLR.1.1
  have hAY : ∀ q : Nat, AB y d q → YA y d ao q := by
    rintro q (h | h | h | ⟨i, h1, h2, h⟩)
    · exact Or.inl ⟨0, by omega, h⟩
    · exact Or.inl ⟨1, by omega, h⟩
    · exact Or.inl ⟨2, by omega, h⟩
    · exact Or.inl ⟨i, h2, h⟩
  refine cm_ret (va_runV (As := []) (rest := []) ⟨hx, hb, hml, hown, hts⟩ (m_R_build hG.1 ok0) ⟨ct_cb 0 hts x_116 x_113 x_1 rfl rfl (by decide +kernel) ⟨by decide, by decide⟩, hts _ x_114, hts _ x_115⟩ ⟨st_blind, va_recv hK hR (ci := 2) (q0 := 0) rfl rfl, fun U hU hW => ⟨rfl, hE.at hS hAB hU hW, by rw [hU]; exact hLR⟩⟩ rfl rfl hl.1 rfl (lv_room (Nat.le_of_ble_eq_true rfl)) d_W_law_239 ⟨show _ ≤ 601024 by omega, show _ ≤ 7293000 by omega⟩) hS (fun q h => hG.ge q (hAY q h)) (fun _ _ h => h.2.1) (fun v H locs hv hS => ?_)
  obtain ⟨rfl, hf1, hLR⟩ := hv
  refine va_forget (fun z hz => hS.2.2 z hz) ?_
  have hfr := fr.of hS
  have hS : va_S (fun q => s.heap.size ≤ q) s.heap H [] := ⟨hfr.1, hfr.2, fun z hz => nomatch hz⟩
  have hM := hG.mr hAY hM hf1
  have hO : va_P D vwCl (Ow cJ ao g) H := hO.fr hf1 (va_P.off1 (b := 0) (A := AB y d) (fun h => by rcases h with h | h | h | ⟨i, h1, h2, h⟩; exact hG.2.2.2.1 _ (by omega) h; exact hG.2.2.2.1 _ (by omega) h; exact hG.2.2.2.1 _ (by omega) h; exact hG.2.2.2.1 _ h2 h))
  have ok1 : Ok sg d (xs ++ ws) [] := by
    obtain ⟨o1, o2, o3, o4, o5, o6, o7, o8⟩ := ok0
    exact ⟨o1, o2, o3, o4, o5, by rw [List.length_append]; exact o6, fun x h => (List.mem_append.mp h).elim (o7 x) (o8 x), fun x h => nomatch h⟩
  refine W.eq (g2 := F0 m 242 ls [.int (nI (xs.length + ws.length))]) rfl ?_
  refine lv_aload_n hx hb d_W_law_242 rfl (lv_at hl 3 rfl) ?_
  have hMP : ∃ fs, va_P D vwCl [(u0, .inr (3, fs))] H := by obtain ⟨rf9, sf9, tf9, _, h⟩ := hM; exact ⟨_, h.sub [0] rfl⟩
  obtain ⟨fs9, hMP⟩ := hMP
  refine cm_ret (va_runV (As := []) (rest := [.int (nI (xs.length + ws.length))]) ⟨hx, hb, hml, hown, hts⟩ (m_M_build hG.2.1 ok0) ⟨ct_cb 0 hts x_474 x_471 x_6 rfl rfl (by decide +kernel) ⟨by decide, by decide⟩, hts _ x_472, hts _ x_473⟩ ⟨st_blind, va_recv hK hMP (ci := 3) (q0 := 0) rfl rfl, fun U hU hW => ⟨rfl, hE.at hS hAB hU hW, by rw [hU]; exact hM⟩⟩ rfl rfl hl.1 rfl (lv_room (Nat.le_of_ble_eq_true rfl)) d_W_law_243 ⟨show _ ≤ 601024 by omega, show _ ≤ 7293000 by omega⟩) hS (fun q h => hG.2.1.AB q h) (fun _ _ h => h.1) (fun v H locs hv hS => ?_)
  obtain ⟨hf2, hM, rfl⟩ := hv
  refine va_forget (fun z hz => hS.2.2 z hz) ?_
  have hfr := fr.of hS
  have hS : va_S (fun q => s.heap.size ≤ q) s.heap H [] := ⟨hfr.1, hfr.2, fun z hz => nomatch hz⟩
  have hLR := hG.lr hLR hf2
  have hO := hG.out hO hf2
  refine W.eq (g2 := F0 m 246 ls [.int (nI (xs.length + ws.length)), .int (nI (xs.length + ws.length))]) rfl ?_
  refine lv_icmp_eq (tgt := 1003) hx hb d_W_law_246 (by decide) (fun _ => ?_) (fun c9 => absurd (rfl) c9)
  refine W.widen (k := c9 + 11) (n := s9 + 66) (by omega) (by omega) ?_
  exact next (xs ++ ws) ([]) H ls ⟨hLR, ⟨_, hM⟩, ⟨_, hO⟩, ok1, hfr⟩ (lv_sub hl [0, 1, 2, 3, 4] rfl)
set_option maxHeartbeats 4000000 in
set_option maxRecDepth 100000 in
theorem w_bits {p : Program} {l : Launch} {e : Env} {s : State} {m : MethodId} {below : List Frame} {meth : Method} {c : Code} {Q : State → Prop} {D : va_G} {cI cJ cS cO : ClassId} {b L : Nat} {sc : Nat → Int32} (C0 : LC D cI cJ cS cO p l s m meth c b L sc) {y : Nat → Nat} {u0 u1 u2 u3 ao sg d : Nat} (hG : GEO s.heap.size y d u0 u1 u2 u3 ao) {i : Nat} (hL : L ≤ 3585) (hi : i + 7 ≤ L) {xs ws : List Nat} {H : Heap} {ls : Array Slot} {c9 s9 : Nat} (hc9 : c9 + 11 ≤ 601024) (hs9 : s9 + 66 ≤ 7293000)
    (hI : LInv D cI cJ cS cO y u0 u1 u2 u3 ao sg d s xs ws H) (hl : lv_has ls 7 [(4, .int (nI i)), (0, .ref b), (1, .ref (y 0)), (2, .ref u0), (3, .ref ao)])
    (next : ∀ (xs ws : List Nat) (H : Heap) (ls : Array Slot), LInv D cI cJ cS cO y u0 u1 u2 u3 ao sg d s xs ws H → lv_has ls 7 [(4, .int (nI i)), (0, .ref b), (1, .ref (y 0)), (2, .ref u0), (3, .ref ao)] → W p l e room_1 s m #[Value.ref b] below meth c H [] (c9 + 11) (s9 + 66) Q (F0 m 1003 ls [])) :
    W p l e room_1 s m #[Value.ref b] below meth c H [] c9 s9 Q (F0 m 923 ls []) := by
  obtain ⟨hx, hb, hr, hml, hown, hts, hlocks, hE, hN, hX, hbl, hl9⟩ := C0
  obtain ⟨hLR, ⟨th, hM⟩, ⟨g, hO⟩, ok0, hfr⟩ := hI
  have hK := hE.1
  have hAB : ∀ q : Nat, s.heap.size ≤ q → s.heap.size ≤ q := fun q h => h
  have hbA : ¬ s.heap.size ≤ b := Nat.not_le.mpr hbl
  have hS : va_S (fun q => s.heap.size ≤ q) s.heap H [] := ⟨hfr.1, hfr.2, fun z hz => nomatch hz⟩
  refine lv_aload_n hx hb d_W_law_923 rfl (lv_at hl 2 rfl) ?_
  have hR := hLR.1.1
  refine cm_read (va_runV (As := []) (rest := []) ⟨hx, hb, hml, hown, hts⟩ (m_R_bits hG.1 ok0) ⟨ct_cb 0 hts x_165 x_162 x_1 rfl rfl (by decide +kernel) ⟨by decide, by decide⟩, hts _ x_163, hts _ x_164⟩ ⟨st_blind, va_recv hK hR (ci := 2) (q0 := 0) rfl rfl, fun U hU hW => ⟨rfl, hE.at hS hAB hU hW, by rw [hU]; exact hLR⟩⟩ rfl rfl hl.1 rfl (lv_room (Nat.le_of_ble_eq_true rfl)) d_W_law_924 ⟨show _ ≤ 601024 by omega, show _ ≤ 7293000 by omega⟩) (fun v hv => ?_)
  subst hv
  refine W.eq (g2 := F0 m 927 ls [.int (nI (d * ((xs.length + 63) / 64 * 80 + 32)))]) rfl ?_
  refine lv_aload_n hx hb d_W_law_927 rfl (lv_at hl 3 rfl) ?_
  have hMP : ∃ fs, va_P D vwCl [(u0, .inr (3, fs))] H := by obtain ⟨rf9, sf9, tf9, _, h⟩ := hM; exact ⟨_, h.sub [0] rfl⟩
  obtain ⟨fs9, hMP⟩ := hMP
  refine cm_ret (va_runV (As := []) (rest := [.int (nI (d * ((xs.length + 63) / 64 * 80 + 32)))]) ⟨hx, hb, hml, hown, hts⟩ (m_M_bits hG.2.1 ok0) ⟨ct_cb 0 hts x_530 x_527 x_6 rfl rfl (by decide +kernel) ⟨by decide, by decide⟩, hts _ x_528, hts _ x_529⟩ ⟨st_blind, va_recv hK hMP (ci := 3) (q0 := 0) rfl rfl, fun U hU hW => ⟨rfl, hE.at hS hAB hU hW, by rw [hU]; exact hM⟩⟩ rfl rfl hl.1 rfl (lv_room (Nat.le_of_ble_eq_true rfl)) d_W_law_928 ⟨show _ ≤ 601024 by omega, show _ ≤ 7293000 by omega⟩) hS (fun q h => hG.2.1.AB q h) (fun _ _ h => h.1) (fun v H locs hv hS => ?_)
  obtain ⟨hf2, hM, rfl⟩ := hv
  refine va_forget (fun z hz => hS.2.2 z hz) ?_
  have hfr := fr.of hS
  have hS : va_S (fun q => s.heap.size ≤ q) s.heap H [] := ⟨hfr.1, hfr.2, fun z hz => nomatch hz⟩
  have hLR := hG.lr hLR hf2
  have hO := hG.out hO hf2
  refine W.eq (g2 := F0 m 931 ls [.int (nI (d * ((xs.length + 63) / 64 * 80 + 32))), .int (nI (d * ((xs.length + 63) / 64 * 80 + 32)))]) rfl ?_
  refine lv_icmp_eq (tgt := 1003) hx hb d_W_law_931 (by decide) (fun _ => ?_) (fun c9 => absurd (rfl) c9)
  refine W.widen (k := c9 + 11) (n := s9 + 66) (by omega) (by omega) ?_
  exact next xs ws H ls ⟨hLR, ⟨_, hM⟩, ⟨_, hO⟩, ok0, hfr⟩ (lv_sub hl [0, 1, 2, 3, 4] rfl)
set_option maxHeartbeats 4000000 in
set_option maxRecDepth 100000 in
theorem w_clear {p : Program} {l : Launch} {e : Env} {s : State} {m : MethodId} {below : List Frame} {meth : Method} {c : Code} {Q : State → Prop} {D : va_G} {cI cJ cS cO : ClassId} {b L : Nat} {sc : Nat → Int32} (C0 : LC D cI cJ cS cO p l s m meth c b L sc) {y : Nat → Nat} {u0 u1 u2 u3 ao sg d : Nat} (hG : GEO s.heap.size y d u0 u1 u2 u3 ao) {i : Nat} (hL : L ≤ 3585) (hi : i + 7 ≤ L) {xs ws : List Nat} {H : Heap} {ls : Array Slot} {c9 s9 : Nat} (hc9 : c9 + 11 ≤ 601024) (hs9 : s9 + 66 ≤ 7293000)
    (hI : LInv D cI cJ cS cO y u0 u1 u2 u3 ao sg d s xs ws H) (hl : lv_has ls 7 [(4, .int (nI i)), (0, .ref b), (1, .ref (y 0)), (2, .ref u0), (3, .ref ao)])
    (next : ∀ (xs ws : List Nat) (H : Heap) (ls : Array Slot), LInv D cI cJ cS cO y u0 u1 u2 u3 ao sg d s xs ws H → lv_has ls 7 [(4, .int (nI i)), (0, .ref b), (1, .ref (y 0)), (2, .ref u0), (3, .ref ao)] → W p l e room_1 s m #[Value.ref b] below meth c H [] (c9 + 11) (s9 + 66) Q (F0 m 1003 ls [])) :
    W p l e room_1 s m #[Value.ref b] below meth c H [] c9 s9 Q (F0 m 992 ls []) := by
  obtain ⟨hx, hb, hr, hml, hown, hts, hlocks, hE, hN, hX, hbl, hl9⟩ := C0
  obtain ⟨hLR, ⟨th, hM⟩, ⟨g, hO⟩, ok0, hfr⟩ := hI
  have hK := hE.1
  have hAB : ∀ q : Nat, s.heap.size ≤ q → s.heap.size ≤ q := fun q h => h
  have hbA : ¬ s.heap.size ≤ b := Nat.not_le.mpr hbl
  have hS : va_S (fun q => s.heap.size ≤ q) s.heap H [] := ⟨hfr.1, hfr.2, fun z hz => nomatch hz⟩
  refine lv_aload_n hx hb d_W_law_992 rfl (lv_at hl 2 rfl) ?_
  have hR := hLR.1.1
  have hAY : ∀ q : Nat, AB y d q → YA y d ao q := by
    rintro q (h | h | h | ⟨i, h1, h2, h⟩)
    · exact Or.inl ⟨0, by omega, h⟩
    · exact Or.inl ⟨1, by omega, h⟩
    · exact Or.inl ⟨2, by omega, h⟩
    · exact Or.inl ⟨i, h2, h⟩
  refine cm_ret (va_runV (As := []) (rest := []) ⟨hx, hb, hml, hown, hts⟩ (m_R_clear hG.1 ok0) ⟨ct_cb 0 hts x_169 x_166 x_1 rfl rfl (by decide +kernel) ⟨by decide, by decide⟩, hts _ x_167, hts _ x_168⟩ ⟨st_blind, va_recv hK hR (ci := 2) (q0 := 0) rfl rfl, fun U hU hW => ⟨rfl, hE.at hS hAB hU hW, by rw [hU]; exact hLR⟩⟩ rfl rfl hl.1 rfl (lv_room (Nat.le_of_ble_eq_true rfl)) d_W_law_993 ⟨show _ ≤ 601024 by omega, show _ ≤ 7293000 by omega⟩) hS (fun q h => hG.ge q (hAY q h)) (fun _ _ h => h.2.1) (fun v H locs hv hS => ?_)
  obtain ⟨rfl, hf1, hLR⟩ := hv
  refine va_forget (fun z hz => hS.2.2 z hz) ?_
  have hfr := fr.of hS
  have hS : va_S (fun q => s.heap.size ≤ q) s.heap H [] := ⟨hfr.1, hfr.2, fun z hz => nomatch hz⟩
  have hM := hG.mr hAY hM hf1
  have hO : va_P D vwCl (Ow cJ ao g) H := hO.fr hf1 (va_P.off1 (b := 0) (A := AB y d) (fun h => by rcases h with h | h | h | ⟨i, h1, h2, h⟩; exact hG.2.2.2.1 _ (by omega) h; exact hG.2.2.2.1 _ (by omega) h; exact hG.2.2.2.1 _ (by omega) h; exact hG.2.2.2.1 _ h2 h))
  refine W.eq (g2 := F0 m 996 ls []) rfl ?_
  refine lv_aload_n hx hb d_W_law_996 rfl (lv_at hl 3 rfl) ?_
  have hMP : ∃ fs, va_P D vwCl [(u0, .inr (3, fs))] H := by obtain ⟨rf9, sf9, tf9, _, h⟩ := hM; exact ⟨_, h.sub [0] rfl⟩
  obtain ⟨fs9, hMP⟩ := hMP
  refine cm_ret (va_runV (As := []) (rest := []) ⟨hx, hb, hml, hown, hts⟩ (m_M_clear hG.2.1 ok0) ⟨ct_cb 0 hts x_478 x_475 x_6 rfl rfl (by decide +kernel) ⟨by decide, by decide⟩, hts _ x_476, hts _ x_477⟩ ⟨st_blind, va_recv hK hMP (ci := 3) (q0 := 0) rfl rfl, fun U hU hW => ⟨rfl, hE.at hS hAB hU hW, by rw [hU]; exact hM⟩⟩ rfl rfl hl.1 rfl (lv_room (Nat.le_of_ble_eq_true rfl)) d_W_law_997 ⟨show _ ≤ 601024 by omega, show _ ≤ 7293000 by omega⟩) hS (fun q h => hG.2.1.AB q h) (fun _ _ h => h.2.1) (fun v H locs hv hS => ?_)
  obtain ⟨rfl, hf2, hM⟩ := hv
  refine va_forget (fun z hz => hS.2.2 z hz) ?_
  have hfr := fr.of hS
  have hS : va_S (fun q => s.heap.size ≤ q) s.heap H [] := ⟨hfr.1, hfr.2, fun z hz => nomatch hz⟩
  have hLR := hG.lr hLR hf2
  have hO := hG.out hO hf2
  refine W.eq (g2 := F0 m 1000 ls []) rfl ?_
  have ok1 : Ok sg d [] [] := by
    obtain ⟨o1, o2, o3, o4, o5, o6, o7, o8⟩ := ok0
    exact ⟨o1, o2, o3, o4, o5, by decide, (fun x h => nomatch h), (fun x h => nomatch h)⟩
  refine lv_goto (tgt := 1003) hx hb d_W_law_1000 (by decide) ?_
  refine W.widen (k := c9 + 11) (n := s9 + 66) (by omega) (by omega) ?_
  exact next ([]) ([]) H ls ⟨hLR, ⟨_, hM⟩, ⟨_, hO⟩, ok1, hfr⟩ (lv_sub hl [0, 1, 2, 3, 4] rfl)
set_option maxHeartbeats 4000000 in
set_option maxRecDepth 100000 in
theorem w_put {p : Program} {l : Launch} {e : Env} {s : State} {m : MethodId} {below : List Frame} {meth : Method} {c : Code} {Q : State → Prop} {D : va_G} {cI cJ cS cO : ClassId} {b L : Nat} {sc : Nat → Int32} (C0 : LC D cI cJ cS cO p l s m meth c b L sc) {y : Nat → Nat} {u0 u1 u2 u3 ao sg d : Nat} (hG : GEO s.heap.size y d u0 u1 u2 u3 ao) {i : Nat} (hL : L ≤ 3585) (hi : i + 7 ≤ L) {xs ws : List Nat} {H : Heap} {ls : Array Slot} {c9 s9 : Nat} (hc9 : c9 + 11 ≤ 601024) (hs9 : s9 + 66 ≤ 7293000)
    (hI : LInv D cI cJ cS cO y u0 u1 u2 u3 ao sg d s xs ws H) (hl : lv_has ls 7 [(4, .int (nI i)), (0, .ref b), (1, .ref (y 0)), (2, .ref u0), (3, .ref ao)])
    (next : ∀ (xs ws : List Nat) (H : Heap) (ls : Array Slot), LInv D cI cJ cS cO y u0 u1 u2 u3 ao sg d s xs ws H → lv_has ls 7 [(4, .int (nI i)), (0, .ref b), (1, .ref (y 0)), (2, .ref u0), (3, .ref ao)] → W p l e room_1 s m #[Value.ref b] below meth c H [] (c9 + 11) (s9 + 66) Q (F0 m 1003 ls [])) :
    W p l e room_1 s m #[Value.ref b] below meth c H [] c9 s9 Q (F0 m 120 ls []) := by
  obtain ⟨hx, hb, hr, hml, hown, hts, hlocks, hE, hN, hX, hbl, hl9⟩ := C0
  obtain ⟨hLR, ⟨th, hM⟩, ⟨g, hO⟩, ok0, hfr⟩ := hI
  have hK := hE.1
  have hAB : ∀ q : Nat, s.heap.size ≤ q → s.heap.size ≤ q := fun q h => h
  have hbA : ¬ s.heap.size ≤ b := Nat.not_le.mpr hbl
  have hS : va_S (fun q => s.heap.size ≤ q) s.heap H [] := ⟨hfr.1, hfr.2, fun z hz => nomatch hz⟩
  refine lv_aload_n hx hb d_W_law_120 rfl (lv_at hl 2 rfl) ?_
  refine lv_aload_n hx hb d_W_law_121 rfl (lv_at hl 1 rfl) ?_
  refine lv_iload hx hb d_W_law_122 (lv_at hl 0 rfl) ?_
  refine lv_iconst (v := 1) hx hb d_W_law_124 (by decide) ?_
  refine lv_iadd hx hb d_W_law_125 ?_
  refine ct_topi (x' := nI (i + 1)) (nI_add _ 1) ?_
  refine va_sld hx hb hX hbl hbA hS (vp_in_nI (by omega) (by omega)) d_W_law_126 ?_
  refine ct_topi (x' := sc (i + 1)) (congrArg sc (nI_clamp (by omega))) ?_
  refine lv_aload_n hx hb d_W_law_127 rfl (lv_at hl 1 rfl) ?_
  refine lv_iload hx hb d_W_law_128 (lv_at hl 0 rfl) ?_
  refine lv_iconst (v := 2) hx hb d_W_law_130 (by decide) ?_
  refine lv_iadd hx hb d_W_law_131 ?_
  refine ct_topi (x' := nI (i + 2)) (nI_add _ 2) ?_
  refine va_sld hx hb hX hbl hbA hS (vp_in_nI (by omega) (by omega)) d_W_law_132 ?_
  refine ct_topi (x' := sc (i + 2)) (congrArg sc (nI_clamp (by omega))) ?_
  refine lv_aload_n hx hb d_W_law_133 rfl (lv_at hl 1 rfl) ?_
  refine lv_iload hx hb d_W_law_134 (lv_at hl 0 rfl) ?_
  refine lv_iconst (v := 3) hx hb d_W_law_136 (by decide) ?_
  refine lv_iadd hx hb d_W_law_137 ?_
  refine ct_topi (x' := nI (i + 3)) (nI_add _ 3) ?_
  refine va_sld hx hb hX hbl hbA hS (vp_in_nI (by omega) (by omega)) d_W_law_138 ?_
  refine ct_topi (x' := sc (i + 3)) (congrArg sc (nI_clamp (by omega))) ?_
  refine lv_aload_n hx hb d_W_law_139 rfl (lv_at hl 1 rfl) ?_
  refine lv_iload hx hb d_W_law_140 (lv_at hl 0 rfl) ?_
  refine lv_iconst (v := 4) hx hb d_W_law_142 (by decide) ?_
  refine lv_iadd hx hb d_W_law_143 ?_
  refine ct_topi (x' := nI (i + 4)) (nI_add _ 4) ?_
  refine va_sld hx hb hX hbl hbA hS (vp_in_nI (by omega) (by omega)) d_W_law_144 ?_
  refine ct_topi (x' := sc (i + 4)) (congrArg sc (nI_clamp (by omega))) ?_
  refine lv_aload_n hx hb d_W_law_145 rfl (lv_at hl 1 rfl) ?_
  refine lv_iload hx hb d_W_law_146 (lv_at hl 0 rfl) ?_
  refine lv_iconst (v := 5) hx hb d_W_law_148 (by decide) ?_
  refine lv_iadd hx hb d_W_law_149 ?_
  refine ct_topi (x' := nI (i + 5)) (nI_add _ 5) ?_
  refine va_sld hx hb hX hbl hbA hS (vp_in_nI (by omega) (by omega)) d_W_law_150 ?_
  refine ct_topi (x' := sc (i + 5)) (congrArg sc (nI_clamp (by omega))) ?_
  refine lv_aload_n hx hb d_W_law_151 rfl (lv_at hl 1 rfl) ?_
  refine lv_iload hx hb d_W_law_152 (lv_at hl 0 rfl) ?_
  refine lv_bipush (v := 6) hx hb d_W_law_154 (by decide) ?_
  refine lv_iadd hx hb d_W_law_156 ?_
  refine ct_topi (x' := nI (i + 6)) (nI_add _ 6) ?_
  refine va_sld hx hb hX hbl hbA hS (vp_in_nI (by omega) (by omega)) d_W_law_157 ?_
  refine ct_topi (x' := sc (i + 6)) (congrArg sc (nI_clamp (by omega))) ?_
  refine lv_aload_n hx hb d_W_law_158 rfl (lv_at hl 4 rfl) ?_
  have hAY : ∀ q : Nat, ((q = y 0 ∨ q = y 1) ∨ q = ao) → YA y d ao q := by
    rintro q ((h | h) | h)
    · exact Or.inl ⟨0, by omega, h⟩
    · exact Or.inl ⟨1, by omega, h⟩
    · exact Or.inr h
  refine cx_ret (vx_runSX (As := [.ref (y 0), .int (sc (i + 1)), .int (sc (i + 2)), .int (sc (i + 3)), .int (sc (i + 4)), .int (sc (i + 5)), .int (sc (i + 6)), .ref ao]) (rest := []) ⟨hx, hb, hml, hown, hts⟩ (m_W_put hl9 hG.1 ok0 hG.2.2.2.1 hG.2.2.1 (sc (i + 1)) (sc (i + 2)) (sc (i + 3)) (sc (i + 4)) (sc (i + 5)) (sc (i + 6))) (vx_cwSW 8 hts (gi_csw x_173 x_174 x_0 x_175) rfl rfl rfl (by decide +kernel) ⟨by decide, by decide⟩) ⟨sh_blind, fun U hU hW => ⟨⟨rfl, hE.at hS hAB hU hW, by rw [hU]; exact ⟨hLR, hO⟩⟩, hN.moved hW.alike⟩⟩ rfl rfl hl.1 rfl (lv_room (Nat.le_of_ble_eq_true rfl)) d_W_law_159 ⟨show c9 + 11 ≤ 601024 by omega, show s9 + 66 ≤ 7293000 by omega⟩) hS (fun q h => hG.ge q (hAY q h)) (fun _ _ h => h.1) (fun _ _ h => h.elim) (fun E ce q H locs hxx => hxx.elim) (fun v H locs hv hS => ?_)
  obtain ⟨hf1, hv⟩ := hv
  refine va_forget (fun z hz => hS.2.2 z hz) ?_
  have hfr := fr.of hS
  have hS : va_S (fun q => s.heap.size ≤ q) s.heap H [] := ⟨hfr.1, hfr.2, fun z hz => nomatch hz⟩
  have hM := hG.mr hAY hM hf1
  rcases hv with ⟨rfl, hcd, hLR, g, hg0, hO⟩ | ⟨h3, hLR, g, hO⟩
  · refine W.eq (g2 := F0 m 162 ls [.int 0]) rfl ?_
    refine lv_istore (lv' := [(5, .int 0), (4, .int (nI i)), (0, .ref b), (1, .ref (y 0)), (2, .ref u0), (3, .ref ao)]) hx hb d_W_law_162 hl (by decide) rfl (fun ls hl => ?_)
    refine lv_aload_n hx hb d_W_law_164 rfl (lv_at hl 4 rfl) ?_
    refine lv_aload_n hx hb d_W_law_165 rfl (lv_at hl 2 rfl) ?_
    refine lv_iload hx hb d_W_law_166 (lv_at hl 1 rfl) ?_
    refine lv_iconst (v := 1) hx hb d_W_law_168 (by decide) ?_
    refine lv_iadd hx hb d_W_law_169 ?_
    refine ct_topi (x' := nI (i + 1)) (nI_add _ 1) ?_
    refine va_sld hx hb hX hbl hbA hS (vp_in_nI (by omega) (by omega)) d_W_law_170 ?_
    refine ct_topi (x' := sc (i + 1)) (congrArg sc (nI_clamp (by omega))) ?_
    refine lv_aload_n hx hb d_W_law_171 rfl (lv_at hl 2 rfl) ?_
    refine lv_iload hx hb d_W_law_172 (lv_at hl 1 rfl) ?_
    refine lv_iconst (v := 2) hx hb d_W_law_174 (by decide) ?_
    refine lv_iadd hx hb d_W_law_175 ?_
    refine ct_topi (x' := nI (i + 2)) (nI_add _ 2) ?_
    refine va_sld hx hb hX hbl hbA hS (vp_in_nI (by omega) (by omega)) d_W_law_176 ?_
    refine ct_topi (x' := sc (i + 2)) (congrArg sc (nI_clamp (by omega))) ?_
    refine lv_aload_n hx hb d_W_law_177 rfl (lv_at hl 2 rfl) ?_
    refine lv_iload hx hb d_W_law_178 (lv_at hl 1 rfl) ?_
    refine lv_iconst (v := 3) hx hb d_W_law_180 (by decide) ?_
    refine lv_iadd hx hb d_W_law_181 ?_
    refine ct_topi (x' := nI (i + 3)) (nI_add _ 3) ?_
    refine va_sld hx hb hX hbl hbA hS (vp_in_nI (by omega) (by omega)) d_W_law_182 ?_
    refine ct_topi (x' := sc (i + 3)) (congrArg sc (nI_clamp (by omega))) ?_
    refine lv_aload_n hx hb d_W_law_183 rfl (lv_at hl 2 rfl) ?_
    refine lv_iload hx hb d_W_law_184 (lv_at hl 1 rfl) ?_
    refine lv_iconst (v := 4) hx hb d_W_law_186 (by decide) ?_
    refine lv_iadd hx hb d_W_law_187 ?_
    refine ct_topi (x' := nI (i + 4)) (nI_add _ 4) ?_
    refine va_sld hx hb hX hbl hbA hS (vp_in_nI (by omega) (by omega)) d_W_law_188 ?_
    refine ct_topi (x' := sc (i + 4)) (congrArg sc (nI_clamp (by omega))) ?_
    refine lv_aload_n hx hb d_W_law_189 rfl (lv_at hl 2 rfl) ?_
    refine lv_iload hx hb d_W_law_190 (lv_at hl 1 rfl) ?_
    refine lv_iconst (v := 5) hx hb d_W_law_192 (by decide) ?_
    refine lv_iadd hx hb d_W_law_193 ?_
    refine ct_topi (x' := nI (i + 5)) (nI_add _ 5) ?_
    refine va_sld hx hb hX hbl hbA hS (vp_in_nI (by omega) (by omega)) d_W_law_194 ?_
    refine ct_topi (x' := sc (i + 5)) (congrArg sc (nI_clamp (by omega))) ?_
    refine lv_aload_n hx hb d_W_law_195 rfl (lv_at hl 2 rfl) ?_
    refine lv_iload hx hb d_W_law_196 (lv_at hl 1 rfl) ?_
    refine lv_bipush (v := 6) hx hb d_W_law_198 (by decide) ?_
    refine lv_iadd hx hb d_W_law_200 ?_
    refine ct_topi (x' := nI (i + 6)) (nI_add _ 6) ?_
    refine va_sld hx hb hX hbl hbA hS (vp_in_nI (by omega) (by omega)) d_W_law_201 ?_
    refine ct_topi (x' := sc (i + 6)) (congrArg sc (nI_clamp (by omega))) ?_
    have hMP : ∃ fs, va_P D vwCl [(u0, .inr (3, fs))] H := by obtain ⟨rf9, sf9, tf9, _, h⟩ := hM; exact ⟨_, h.sub [0] rfl⟩
    obtain ⟨fs9, hMP⟩ := hMP
    refine cm_ret (va_runV (As := [.int (sc (i + 1)), .int (sc (i + 2)), .int (sc (i + 3)), .int (sc (i + 4)), .int (sc (i + 5)), .int (sc (i + 6))]) (rest := []) ⟨hx, hb, hml, hown, hts⟩ (m_M_put hG.2.1 ok0 (sc (i + 1)) (sc (i + 2)) (sc (i + 3)) (sc (i + 4)) (sc (i + 5)) (sc (i + 6))) ⟨ct_cb 6 hts x_466 x_463 x_6 rfl rfl (by decide +kernel) ⟨by decide, by decide⟩, hts _ x_464, hts _ x_465⟩ ⟨st_blind, va_recv hK hMP (ci := 3) (q0 := 0) rfl rfl, fun U hU hW => ⟨rfl, hE.at hS hAB hU hW, by rw [hU]; exact hM⟩⟩ rfl rfl hl.1 rfl (lv_room (Nat.le_of_ble_eq_true rfl)) d_W_law_202 ⟨show _ ≤ 601024 by omega, show _ ≤ 7293000 by omega⟩) hS (fun q h => hG.2.1.AB q h) (fun _ _ h => h.1) (fun v H locs hv hS => ?_)
    obtain ⟨hf2, hv⟩ := hv
    refine va_forget (fun z hz => hS.2.2 z hz) ?_
    have hfr := fr.of hS
    have hS : va_S (fun q => s.heap.size ≤ q) s.heap H [] := ⟨hfr.1, hfr.2, fun z hz => nomatch hz⟩
    have hLR := hG.lr hLR hf2
    have hO := hG.out hO hf2
    rcases hv with ⟨hcd2, hM, rfl⟩ | ⟨⟨w2, rfl⟩, ⟨hn1, hM⟩ | ⟨ha1, hn2, hM⟩ | ⟨ha1, ha2, hn3, hM⟩⟩
    · refine W.eq (g2 := F0 m 205 ls [.int (nI (ws.length + cn (sc (i + 6))))]) rfl ?_
      refine lv_istore (lv' := [(6, .int (nI (ws.length + cn (sc (i + 6))))), (5, .int 0), (4, .int (nI i)), (0, .ref b), (1, .ref (y 0)), (2, .ref u0), (3, .ref ao)]) hx hb d_W_law_205 hl (by decide) rfl (fun ls hl => ?_)
      refine lv_aload_n hx hb d_W_law_207 rfl (lv_at hl 5 rfl) ?_
      have ok1 : Ok sg d xs (ws ++ gvs (sc (i + 1)) (sc (i + 2)) (sc (i + 3)) (sc (i + 4)) (sc (i + 5)) (sc (i + 6))) := by
        obtain ⟨o1, o2, o3, o4, o5, o6, o7, o8⟩ := ok0
        obtain ⟨hsy, hrg, hft⟩ := hcd
        have hn0 : ¬ sc (i + 6) < 0 := fun h => hrg.1 (Int32.lt_trans h (by decide))
        obtain ⟨hne, hn31⟩ := nn_ints hn0
        have h10 : cn (sc (i + 6)) ≤ 10 := by
          have h5 : nI (cn (sc (i + 6))) ≤ nI 10 := by rw [← hne]; exact Int32.not_lt.mp hrg.2
          exact (nI_leI hn31 (by decide)).mp h5
        refine ⟨o1, o2, o3, o4, o5, by rw [List.length_append, List.length_map, List.length_range]; omega, o7, fun x h => ?_⟩
        rcases List.mem_append.mp h with h | h
        · exact o8 x h
        · obtain ⟨j, hj, rfl⟩ := List.mem_map.mp h
          exact hsy j (by rw [Nat.min_eq_left h10]; exact List.mem_range.mp hj)
      have hMP : ∃ fs, va_P D vwCl [(u0, .inr (3, fs))] H := by obtain ⟨rf9, sf9, tf9, _, h⟩ := hM; exact ⟨_, h.sub [0] rfl⟩
      obtain ⟨fs9, hMP⟩ := hMP
      refine cm_read (va_runV (As := []) (rest := []) ⟨hx, hb, hml, hown, hts⟩ (m_M_thrown hG.2.1 ok1) ⟨ct_cb 0 hts x_462 x_459 x_6 rfl rfl (by decide +kernel) ⟨by decide, by decide⟩, hts _ x_460, hts _ x_461⟩ ⟨st_blind, va_recv hK hMP (ci := 3) (q0 := 0) rfl rfl, fun U hU hW => ⟨rfl, hE.at hS hAB hU hW, by rw [hU]; exact hM⟩⟩ rfl rfl hl.1 rfl (lv_room (Nat.le_of_ble_eq_true rfl)) d_W_law_208 ⟨show _ ≤ 601024 by omega, show _ ≤ 7293000 by omega⟩) (fun v hv => ?_)
      subst hv
      refine W.eq (g2 := F0 m 211 ls [.int 0]) rfl ?_
      refine lv_iload hx hb d_W_law_211 (lv_at hl 1 rfl) ?_
      refine lv_icmp_eq (tgt := 218) hx hb d_W_law_213 (by decide) (fun _ => ?_) (fun c9 => absurd (rfl) c9)
      refine lv_iload hx hb d_W_law_218 (lv_at hl 1 rfl) ?_
      refine lv_if_ne (tgt := 235) hx hb d_W_law_220 (by decide) (fun c9 => absurd (rfl) c9) (fun _ => ?_)
      refine lv_aload_n hx hb d_W_law_223 rfl (lv_at hl 6 rfl) ?_
      refine lv_iconst (v := 0) hx hb d_W_law_224 (by decide) ?_
      refine va_lald hx hb hK hO 0 1 rfl rfl (vp_in_nI (n := 0) (by decide) (by decide)) d_W_law_225 ?_
      refine ct_topl (x' := (nI (ws.length + cn (sc (i + 6)))).toInt64) hg0 ?_
      refine lv_iload hx hb d_W_law_226 (lv_at hl 0 rfl) ?_
      refine lv_i2l hx hb d_W_law_228 rfl ?_
      refine W.lcmp hx hb d_W_law_229 ?_
      refine ct_topi (x' := 0) (lg_self _) ?_
      refine lv_if_eq (tgt := 235) hx hb d_W_law_230 (by decide) (fun _ => ?_) (fun c9 => absurd (rfl) c9)
      refine lv_goto (tgt := 1003) hx hb d_W_law_235 (by decide) ?_
      refine W.widen (k := c9 + 11) (n := s9 + 66) (by omega) (by omega) ?_
      exact next xs (ws ++ gvs (sc (i + 1)) (sc (i + 2)) (sc (i + 3)) (sc (i + 4)) (sc (i + 5)) (sc (i + 6))) H ls ⟨hLR, ⟨_, hM⟩, ⟨_, hO⟩, ok1, hfr⟩ (lv_sub hl [2, 3, 4, 5, 6] rfl)
    · exact absurd hcd.1 hn1
    · exact absurd hcd.2.1 hn2
    · exact absurd hcd.2.2 hn3
  · rcases h3 with ⟨rfl, k1⟩ | ⟨rfl, k1, k2⟩ | ⟨rfl, k1, k2, k3⟩
    · refine W.eq (g2 := F0 m 162 ls [.int 1]) rfl ?_
      refine lv_istore (lv' := [(5, .int 1), (4, .int (nI i)), (0, .ref b), (1, .ref (y 0)), (2, .ref u0), (3, .ref ao)]) hx hb d_W_law_162 hl (by decide) rfl (fun ls hl => ?_)
      refine lv_aload_n hx hb d_W_law_164 rfl (lv_at hl 4 rfl) ?_
      refine lv_aload_n hx hb d_W_law_165 rfl (lv_at hl 2 rfl) ?_
      refine lv_iload hx hb d_W_law_166 (lv_at hl 1 rfl) ?_
      refine lv_iconst (v := 1) hx hb d_W_law_168 (by decide) ?_
      refine lv_iadd hx hb d_W_law_169 ?_
      refine ct_topi (x' := nI (i + 1)) (nI_add _ 1) ?_
      refine va_sld hx hb hX hbl hbA hS (vp_in_nI (by omega) (by omega)) d_W_law_170 ?_
      refine ct_topi (x' := sc (i + 1)) (congrArg sc (nI_clamp (by omega))) ?_
      refine lv_aload_n hx hb d_W_law_171 rfl (lv_at hl 2 rfl) ?_
      refine lv_iload hx hb d_W_law_172 (lv_at hl 1 rfl) ?_
      refine lv_iconst (v := 2) hx hb d_W_law_174 (by decide) ?_
      refine lv_iadd hx hb d_W_law_175 ?_
      refine ct_topi (x' := nI (i + 2)) (nI_add _ 2) ?_
      refine va_sld hx hb hX hbl hbA hS (vp_in_nI (by omega) (by omega)) d_W_law_176 ?_
      refine ct_topi (x' := sc (i + 2)) (congrArg sc (nI_clamp (by omega))) ?_
      refine lv_aload_n hx hb d_W_law_177 rfl (lv_at hl 2 rfl) ?_
      refine lv_iload hx hb d_W_law_178 (lv_at hl 1 rfl) ?_
      refine lv_iconst (v := 3) hx hb d_W_law_180 (by decide) ?_
      refine lv_iadd hx hb d_W_law_181 ?_
      refine ct_topi (x' := nI (i + 3)) (nI_add _ 3) ?_
      refine va_sld hx hb hX hbl hbA hS (vp_in_nI (by omega) (by omega)) d_W_law_182 ?_
      refine ct_topi (x' := sc (i + 3)) (congrArg sc (nI_clamp (by omega))) ?_
      refine lv_aload_n hx hb d_W_law_183 rfl (lv_at hl 2 rfl) ?_
      refine lv_iload hx hb d_W_law_184 (lv_at hl 1 rfl) ?_
      refine lv_iconst (v := 4) hx hb d_W_law_186 (by decide) ?_
      refine lv_iadd hx hb d_W_law_187 ?_
      refine ct_topi (x' := nI (i + 4)) (nI_add _ 4) ?_
      refine va_sld hx hb hX hbl hbA hS (vp_in_nI (by omega) (by omega)) d_W_law_188 ?_
      refine ct_topi (x' := sc (i + 4)) (congrArg sc (nI_clamp (by omega))) ?_
      refine lv_aload_n hx hb d_W_law_189 rfl (lv_at hl 2 rfl) ?_
      refine lv_iload hx hb d_W_law_190 (lv_at hl 1 rfl) ?_
      refine lv_iconst (v := 5) hx hb d_W_law_192 (by decide) ?_
      refine lv_iadd hx hb d_W_law_193 ?_
      refine ct_topi (x' := nI (i + 5)) (nI_add _ 5) ?_
      refine va_sld hx hb hX hbl hbA hS (vp_in_nI (by omega) (by omega)) d_W_law_194 ?_
      refine ct_topi (x' := sc (i + 5)) (congrArg sc (nI_clamp (by omega))) ?_
      refine lv_aload_n hx hb d_W_law_195 rfl (lv_at hl 2 rfl) ?_
      refine lv_iload hx hb d_W_law_196 (lv_at hl 1 rfl) ?_
      refine lv_bipush (v := 6) hx hb d_W_law_198 (by decide) ?_
      refine lv_iadd hx hb d_W_law_200 ?_
      refine ct_topi (x' := nI (i + 6)) (nI_add _ 6) ?_
      refine va_sld hx hb hX hbl hbA hS (vp_in_nI (by omega) (by omega)) d_W_law_201 ?_
      refine ct_topi (x' := sc (i + 6)) (congrArg sc (nI_clamp (by omega))) ?_
      have hMP : ∃ fs, va_P D vwCl [(u0, .inr (3, fs))] H := by obtain ⟨rf9, sf9, tf9, _, h⟩ := hM; exact ⟨_, h.sub [0] rfl⟩
      obtain ⟨fs9, hMP⟩ := hMP
      refine cm_ret (va_runV (As := [.int (sc (i + 1)), .int (sc (i + 2)), .int (sc (i + 3)), .int (sc (i + 4)), .int (sc (i + 5)), .int (sc (i + 6))]) (rest := []) ⟨hx, hb, hml, hown, hts⟩ (m_M_put hG.2.1 ok0 (sc (i + 1)) (sc (i + 2)) (sc (i + 3)) (sc (i + 4)) (sc (i + 5)) (sc (i + 6))) ⟨ct_cb 6 hts x_466 x_463 x_6 rfl rfl (by decide +kernel) ⟨by decide, by decide⟩, hts _ x_464, hts _ x_465⟩ ⟨st_blind, va_recv hK hMP (ci := 3) (q0 := 0) rfl rfl, fun U hU hW => ⟨rfl, hE.at hS hAB hU hW, by rw [hU]; exact hM⟩⟩ rfl rfl hl.1 rfl (lv_room (Nat.le_of_ble_eq_true rfl)) d_W_law_202 ⟨show _ ≤ 601024 by omega, show _ ≤ 7293000 by omega⟩) hS (fun q h => hG.2.1.AB q h) (fun _ _ h => h.1) (fun v H locs hv hS => ?_)
      obtain ⟨hf2, hv⟩ := hv
      refine va_forget (fun z hz => hS.2.2 z hz) ?_
      have hfr := fr.of hS
      have hS : va_S (fun q => s.heap.size ≤ q) s.heap H [] := ⟨hfr.1, hfr.2, fun z hz => nomatch hz⟩
      have hLR := hG.lr hLR hf2
      have hO := hG.out hO hf2
      rcases hv with ⟨hcd2, hM, rfl⟩ | ⟨⟨w2, rfl⟩, ⟨hn1, hM⟩ | ⟨ha1, hn2, hM⟩ | ⟨ha1, ha2, hn3, hM⟩⟩
      · exact absurd hcd2.1 k1
      · refine W.eq (g2 := F0 m 205 ls [.int w2]) rfl ?_
        refine lv_istore (lv' := [(6, .int w2), (5, .int 1), (4, .int (nI i)), (0, .ref b), (1, .ref (y 0)), (2, .ref u0), (3, .ref ao)]) hx hb d_W_law_205 hl (by decide) rfl (fun ls hl => ?_)
        refine lv_aload_n hx hb d_W_law_207 rfl (lv_at hl 5 rfl) ?_
        have hMP : ∃ fs, va_P D vwCl [(u0, .inr (3, fs))] H := by obtain ⟨rf9, sf9, tf9, _, h⟩ := hM; exact ⟨_, h.sub [0] rfl⟩
        obtain ⟨fs9, hMP⟩ := hMP
        refine cm_read (va_runV (As := []) (rest := []) ⟨hx, hb, hml, hown, hts⟩ (m_M_thrown hG.2.1 ok0) ⟨ct_cb 0 hts x_462 x_459 x_6 rfl rfl (by decide +kernel) ⟨by decide, by decide⟩, hts _ x_460, hts _ x_461⟩ ⟨st_blind, va_recv hK hMP (ci := 3) (q0 := 0) rfl rfl, fun U hU hW => ⟨rfl, hE.at hS hAB hU hW, by rw [hU]; exact hM⟩⟩ rfl rfl hl.1 rfl (lv_room (Nat.le_of_ble_eq_true rfl)) d_W_law_208 ⟨show _ ≤ 601024 by omega, show _ ≤ 7293000 by omega⟩) (fun v hv => ?_)
        subst hv
        refine W.eq (g2 := F0 m 211 ls [.int 1]) rfl ?_
        refine lv_iload hx hb d_W_law_211 (lv_at hl 1 rfl) ?_
        refine lv_icmp_eq (tgt := 218) hx hb d_W_law_213 (by decide) (fun _ => ?_) (fun c9 => absurd (rfl) c9)
        refine lv_iload hx hb d_W_law_218 (lv_at hl 1 rfl) ?_
        refine lv_if_ne (tgt := 235) hx hb d_W_law_220 (by decide) (fun _ => ?_) (fun c9 => absurd c9 (by decide))
        refine lv_goto (tgt := 1003) hx hb d_W_law_235 (by decide) ?_
        refine W.widen (k := c9 + 11) (n := s9 + 66) (by omega) (by omega) ?_
        exact next xs ws H ls ⟨hLR, ⟨_, hM⟩, ⟨_, hO⟩, ok0, hfr⟩ (lv_sub hl [2, 3, 4, 5, 6] rfl)
      · exact absurd ha1 k1
      · exact absurd ha1 k1
    · refine W.eq (g2 := F0 m 162 ls [.int 2]) rfl ?_
      refine lv_istore (lv' := [(5, .int 2), (4, .int (nI i)), (0, .ref b), (1, .ref (y 0)), (2, .ref u0), (3, .ref ao)]) hx hb d_W_law_162 hl (by decide) rfl (fun ls hl => ?_)
      refine lv_aload_n hx hb d_W_law_164 rfl (lv_at hl 4 rfl) ?_
      refine lv_aload_n hx hb d_W_law_165 rfl (lv_at hl 2 rfl) ?_
      refine lv_iload hx hb d_W_law_166 (lv_at hl 1 rfl) ?_
      refine lv_iconst (v := 1) hx hb d_W_law_168 (by decide) ?_
      refine lv_iadd hx hb d_W_law_169 ?_
      refine ct_topi (x' := nI (i + 1)) (nI_add _ 1) ?_
      refine va_sld hx hb hX hbl hbA hS (vp_in_nI (by omega) (by omega)) d_W_law_170 ?_
      refine ct_topi (x' := sc (i + 1)) (congrArg sc (nI_clamp (by omega))) ?_
      refine lv_aload_n hx hb d_W_law_171 rfl (lv_at hl 2 rfl) ?_
      refine lv_iload hx hb d_W_law_172 (lv_at hl 1 rfl) ?_
      refine lv_iconst (v := 2) hx hb d_W_law_174 (by decide) ?_
      refine lv_iadd hx hb d_W_law_175 ?_
      refine ct_topi (x' := nI (i + 2)) (nI_add _ 2) ?_
      refine va_sld hx hb hX hbl hbA hS (vp_in_nI (by omega) (by omega)) d_W_law_176 ?_
      refine ct_topi (x' := sc (i + 2)) (congrArg sc (nI_clamp (by omega))) ?_
      refine lv_aload_n hx hb d_W_law_177 rfl (lv_at hl 2 rfl) ?_
      refine lv_iload hx hb d_W_law_178 (lv_at hl 1 rfl) ?_
      refine lv_iconst (v := 3) hx hb d_W_law_180 (by decide) ?_
      refine lv_iadd hx hb d_W_law_181 ?_
      refine ct_topi (x' := nI (i + 3)) (nI_add _ 3) ?_
      refine va_sld hx hb hX hbl hbA hS (vp_in_nI (by omega) (by omega)) d_W_law_182 ?_
      refine ct_topi (x' := sc (i + 3)) (congrArg sc (nI_clamp (by omega))) ?_
      refine lv_aload_n hx hb d_W_law_183 rfl (lv_at hl 2 rfl) ?_
      refine lv_iload hx hb d_W_law_184 (lv_at hl 1 rfl) ?_
      refine lv_iconst (v := 4) hx hb d_W_law_186 (by decide) ?_
      refine lv_iadd hx hb d_W_law_187 ?_
      refine ct_topi (x' := nI (i + 4)) (nI_add _ 4) ?_
      refine va_sld hx hb hX hbl hbA hS (vp_in_nI (by omega) (by omega)) d_W_law_188 ?_
      refine ct_topi (x' := sc (i + 4)) (congrArg sc (nI_clamp (by omega))) ?_
      refine lv_aload_n hx hb d_W_law_189 rfl (lv_at hl 2 rfl) ?_
      refine lv_iload hx hb d_W_law_190 (lv_at hl 1 rfl) ?_
      refine lv_iconst (v := 5) hx hb d_W_law_192 (by decide) ?_
      refine lv_iadd hx hb d_W_law_193 ?_
      refine ct_topi (x' := nI (i + 5)) (nI_add _ 5) ?_
      refine va_sld hx hb hX hbl hbA hS (vp_in_nI (by omega) (by omega)) d_W_law_194 ?_
      refine ct_topi (x' := sc (i + 5)) (congrArg sc (nI_clamp (by omega))) ?_
      refine lv_aload_n hx hb d_W_law_195 rfl (lv_at hl 2 rfl) ?_
      refine lv_iload hx hb d_W_law_196 (lv_at hl 1 rfl) ?_
      refine lv_bipush (v := 6) hx hb d_W_law_198 (by decide) ?_
      refine lv_iadd hx hb d_W_law_200 ?_
      refine ct_topi (x' := nI (i + 6)) (nI_add _ 6) ?_
      refine va_sld hx hb hX hbl hbA hS (vp_in_nI (by omega) (by omega)) d_W_law_201 ?_
      refine ct_topi (x' := sc (i + 6)) (congrArg sc (nI_clamp (by omega))) ?_
      have hMP : ∃ fs, va_P D vwCl [(u0, .inr (3, fs))] H := by obtain ⟨rf9, sf9, tf9, _, h⟩ := hM; exact ⟨_, h.sub [0] rfl⟩
      obtain ⟨fs9, hMP⟩ := hMP
      refine cm_ret (va_runV (As := [.int (sc (i + 1)), .int (sc (i + 2)), .int (sc (i + 3)), .int (sc (i + 4)), .int (sc (i + 5)), .int (sc (i + 6))]) (rest := []) ⟨hx, hb, hml, hown, hts⟩ (m_M_put hG.2.1 ok0 (sc (i + 1)) (sc (i + 2)) (sc (i + 3)) (sc (i + 4)) (sc (i + 5)) (sc (i + 6))) ⟨ct_cb 6 hts x_466 x_463 x_6 rfl rfl (by decide +kernel) ⟨by decide, by decide⟩, hts _ x_464, hts _ x_465⟩ ⟨st_blind, va_recv hK hMP (ci := 3) (q0 := 0) rfl rfl, fun U hU hW => ⟨rfl, hE.at hS hAB hU hW, by rw [hU]; exact hM⟩⟩ rfl rfl hl.1 rfl (lv_room (Nat.le_of_ble_eq_true rfl)) d_W_law_202 ⟨show _ ≤ 601024 by omega, show _ ≤ 7293000 by omega⟩) hS (fun q h => hG.2.1.AB q h) (fun _ _ h => h.1) (fun v H locs hv hS => ?_)
      obtain ⟨hf2, hv⟩ := hv
      refine va_forget (fun z hz => hS.2.2 z hz) ?_
      have hfr := fr.of hS
      have hS : va_S (fun q => s.heap.size ≤ q) s.heap H [] := ⟨hfr.1, hfr.2, fun z hz => nomatch hz⟩
      have hLR := hG.lr hLR hf2
      have hO := hG.out hO hf2
      rcases hv with ⟨hcd2, hM, rfl⟩ | ⟨⟨w2, rfl⟩, ⟨hn1, hM⟩ | ⟨ha1, hn2, hM⟩ | ⟨ha1, ha2, hn3, hM⟩⟩
      · exact absurd hcd2.2.1 k2
      · exact absurd k1 hn1
      · refine W.eq (g2 := F0 m 205 ls [.int w2]) rfl ?_
        refine lv_istore (lv' := [(6, .int w2), (5, .int 2), (4, .int (nI i)), (0, .ref b), (1, .ref (y 0)), (2, .ref u0), (3, .ref ao)]) hx hb d_W_law_205 hl (by decide) rfl (fun ls hl => ?_)
        refine lv_aload_n hx hb d_W_law_207 rfl (lv_at hl 5 rfl) ?_
        have hMP : ∃ fs, va_P D vwCl [(u0, .inr (3, fs))] H := by obtain ⟨rf9, sf9, tf9, _, h⟩ := hM; exact ⟨_, h.sub [0] rfl⟩
        obtain ⟨fs9, hMP⟩ := hMP
        refine cm_read (va_runV (As := []) (rest := []) ⟨hx, hb, hml, hown, hts⟩ (m_M_thrown hG.2.1 ok0) ⟨ct_cb 0 hts x_462 x_459 x_6 rfl rfl (by decide +kernel) ⟨by decide, by decide⟩, hts _ x_460, hts _ x_461⟩ ⟨st_blind, va_recv hK hMP (ci := 3) (q0 := 0) rfl rfl, fun U hU hW => ⟨rfl, hE.at hS hAB hU hW, by rw [hU]; exact hM⟩⟩ rfl rfl hl.1 rfl (lv_room (Nat.le_of_ble_eq_true rfl)) d_W_law_208 ⟨show _ ≤ 601024 by omega, show _ ≤ 7293000 by omega⟩) (fun v hv => ?_)
        subst hv
        refine W.eq (g2 := F0 m 211 ls [.int 2]) rfl ?_
        refine lv_iload hx hb d_W_law_211 (lv_at hl 1 rfl) ?_
        refine lv_icmp_eq (tgt := 218) hx hb d_W_law_213 (by decide) (fun _ => ?_) (fun c9 => absurd (rfl) c9)
        refine lv_iload hx hb d_W_law_218 (lv_at hl 1 rfl) ?_
        refine lv_if_ne (tgt := 235) hx hb d_W_law_220 (by decide) (fun _ => ?_) (fun c9 => absurd c9 (by decide))
        refine lv_goto (tgt := 1003) hx hb d_W_law_235 (by decide) ?_
        refine W.widen (k := c9 + 11) (n := s9 + 66) (by omega) (by omega) ?_
        exact next xs ws H ls ⟨hLR, ⟨_, hM⟩, ⟨_, hO⟩, ok0, hfr⟩ (lv_sub hl [2, 3, 4, 5, 6] rfl)
      · exact absurd ha2 k2
    · refine W.eq (g2 := F0 m 162 ls [.int 3]) rfl ?_
      refine lv_istore (lv' := [(5, .int 3), (4, .int (nI i)), (0, .ref b), (1, .ref (y 0)), (2, .ref u0), (3, .ref ao)]) hx hb d_W_law_162 hl (by decide) rfl (fun ls hl => ?_)
      refine lv_aload_n hx hb d_W_law_164 rfl (lv_at hl 4 rfl) ?_
      refine lv_aload_n hx hb d_W_law_165 rfl (lv_at hl 2 rfl) ?_
      refine lv_iload hx hb d_W_law_166 (lv_at hl 1 rfl) ?_
      refine lv_iconst (v := 1) hx hb d_W_law_168 (by decide) ?_
      refine lv_iadd hx hb d_W_law_169 ?_
      refine ct_topi (x' := nI (i + 1)) (nI_add _ 1) ?_
      refine va_sld hx hb hX hbl hbA hS (vp_in_nI (by omega) (by omega)) d_W_law_170 ?_
      refine ct_topi (x' := sc (i + 1)) (congrArg sc (nI_clamp (by omega))) ?_
      refine lv_aload_n hx hb d_W_law_171 rfl (lv_at hl 2 rfl) ?_
      refine lv_iload hx hb d_W_law_172 (lv_at hl 1 rfl) ?_
      refine lv_iconst (v := 2) hx hb d_W_law_174 (by decide) ?_
      refine lv_iadd hx hb d_W_law_175 ?_
      refine ct_topi (x' := nI (i + 2)) (nI_add _ 2) ?_
      refine va_sld hx hb hX hbl hbA hS (vp_in_nI (by omega) (by omega)) d_W_law_176 ?_
      refine ct_topi (x' := sc (i + 2)) (congrArg sc (nI_clamp (by omega))) ?_
      refine lv_aload_n hx hb d_W_law_177 rfl (lv_at hl 2 rfl) ?_
      refine lv_iload hx hb d_W_law_178 (lv_at hl 1 rfl) ?_
      refine lv_iconst (v := 3) hx hb d_W_law_180 (by decide) ?_
      refine lv_iadd hx hb d_W_law_181 ?_
      refine ct_topi (x' := nI (i + 3)) (nI_add _ 3) ?_
      refine va_sld hx hb hX hbl hbA hS (vp_in_nI (by omega) (by omega)) d_W_law_182 ?_
      refine ct_topi (x' := sc (i + 3)) (congrArg sc (nI_clamp (by omega))) ?_
      refine lv_aload_n hx hb d_W_law_183 rfl (lv_at hl 2 rfl) ?_
      refine lv_iload hx hb d_W_law_184 (lv_at hl 1 rfl) ?_
      refine lv_iconst (v := 4) hx hb d_W_law_186 (by decide) ?_
      refine lv_iadd hx hb d_W_law_187 ?_
      refine ct_topi (x' := nI (i + 4)) (nI_add _ 4) ?_
      refine va_sld hx hb hX hbl hbA hS (vp_in_nI (by omega) (by omega)) d_W_law_188 ?_
      refine ct_topi (x' := sc (i + 4)) (congrArg sc (nI_clamp (by omega))) ?_
      refine lv_aload_n hx hb d_W_law_189 rfl (lv_at hl 2 rfl) ?_
      refine lv_iload hx hb d_W_law_190 (lv_at hl 1 rfl) ?_
      refine lv_iconst (v := 5) hx hb d_W_law_192 (by decide) ?_
      refine lv_iadd hx hb d_W_law_193 ?_
      refine ct_topi (x' := nI (i + 5)) (nI_add _ 5) ?_
      refine va_sld hx hb hX hbl hbA hS (vp_in_nI (by omega) (by omega)) d_W_law_194 ?_
      refine ct_topi (x' := sc (i + 5)) (congrArg sc (nI_clamp (by omega))) ?_
      refine lv_aload_n hx hb d_W_law_195 rfl (lv_at hl 2 rfl) ?_
      refine lv_iload hx hb d_W_law_196 (lv_at hl 1 rfl) ?_
      refine lv_bipush (v := 6) hx hb d_W_law_198 (by decide) ?_
      refine lv_iadd hx hb d_W_law_200 ?_
      refine ct_topi (x' := nI (i + 6)) (nI_add _ 6) ?_
      refine va_sld hx hb hX hbl hbA hS (vp_in_nI (by omega) (by omega)) d_W_law_201 ?_
      refine ct_topi (x' := sc (i + 6)) (congrArg sc (nI_clamp (by omega))) ?_
      have hMP : ∃ fs, va_P D vwCl [(u0, .inr (3, fs))] H := by obtain ⟨rf9, sf9, tf9, _, h⟩ := hM; exact ⟨_, h.sub [0] rfl⟩
      obtain ⟨fs9, hMP⟩ := hMP
      refine cm_ret (va_runV (As := [.int (sc (i + 1)), .int (sc (i + 2)), .int (sc (i + 3)), .int (sc (i + 4)), .int (sc (i + 5)), .int (sc (i + 6))]) (rest := []) ⟨hx, hb, hml, hown, hts⟩ (m_M_put hG.2.1 ok0 (sc (i + 1)) (sc (i + 2)) (sc (i + 3)) (sc (i + 4)) (sc (i + 5)) (sc (i + 6))) ⟨ct_cb 6 hts x_466 x_463 x_6 rfl rfl (by decide +kernel) ⟨by decide, by decide⟩, hts _ x_464, hts _ x_465⟩ ⟨st_blind, va_recv hK hMP (ci := 3) (q0 := 0) rfl rfl, fun U hU hW => ⟨rfl, hE.at hS hAB hU hW, by rw [hU]; exact hM⟩⟩ rfl rfl hl.1 rfl (lv_room (Nat.le_of_ble_eq_true rfl)) d_W_law_202 ⟨show _ ≤ 601024 by omega, show _ ≤ 7293000 by omega⟩) hS (fun q h => hG.2.1.AB q h) (fun _ _ h => h.1) (fun v H locs hv hS => ?_)
      obtain ⟨hf2, hv⟩ := hv
      refine va_forget (fun z hz => hS.2.2 z hz) ?_
      have hfr := fr.of hS
      have hS : va_S (fun q => s.heap.size ≤ q) s.heap H [] := ⟨hfr.1, hfr.2, fun z hz => nomatch hz⟩
      have hLR := hG.lr hLR hf2
      have hO := hG.out hO hf2
      rcases hv with ⟨hcd2, hM, rfl⟩ | ⟨⟨w2, rfl⟩, ⟨hn1, hM⟩ | ⟨ha1, hn2, hM⟩ | ⟨ha1, ha2, hn3, hM⟩⟩
      · exact absurd hcd2.2.2 k3
      · exact absurd k1 hn1
      · exact absurd k2 hn2
      · refine W.eq (g2 := F0 m 205 ls [.int w2]) rfl ?_
        refine lv_istore (lv' := [(6, .int w2), (5, .int 3), (4, .int (nI i)), (0, .ref b), (1, .ref (y 0)), (2, .ref u0), (3, .ref ao)]) hx hb d_W_law_205 hl (by decide) rfl (fun ls hl => ?_)
        refine lv_aload_n hx hb d_W_law_207 rfl (lv_at hl 5 rfl) ?_
        have hMP : ∃ fs, va_P D vwCl [(u0, .inr (3, fs))] H := by obtain ⟨rf9, sf9, tf9, _, h⟩ := hM; exact ⟨_, h.sub [0] rfl⟩
        obtain ⟨fs9, hMP⟩ := hMP
        refine cm_read (va_runV (As := []) (rest := []) ⟨hx, hb, hml, hown, hts⟩ (m_M_thrown hG.2.1 ok0) ⟨ct_cb 0 hts x_462 x_459 x_6 rfl rfl (by decide +kernel) ⟨by decide, by decide⟩, hts _ x_460, hts _ x_461⟩ ⟨st_blind, va_recv hK hMP (ci := 3) (q0 := 0) rfl rfl, fun U hU hW => ⟨rfl, hE.at hS hAB hU hW, by rw [hU]; exact hM⟩⟩ rfl rfl hl.1 rfl (lv_room (Nat.le_of_ble_eq_true rfl)) d_W_law_208 ⟨show _ ≤ 601024 by omega, show _ ≤ 7293000 by omega⟩) (fun v hv => ?_)
        subst hv
        refine W.eq (g2 := F0 m 211 ls [.int 3]) rfl ?_
        refine lv_iload hx hb d_W_law_211 (lv_at hl 1 rfl) ?_
        refine lv_icmp_eq (tgt := 218) hx hb d_W_law_213 (by decide) (fun _ => ?_) (fun c9 => absurd (rfl) c9)
        refine lv_iload hx hb d_W_law_218 (lv_at hl 1 rfl) ?_
        refine lv_if_ne (tgt := 235) hx hb d_W_law_220 (by decide) (fun _ => ?_) (fun c9 => absurd c9 (by decide))
        refine lv_goto (tgt := 1003) hx hb d_W_law_235 (by decide) ?_
        refine W.widen (k := c9 + 11) (n := s9 + 66) (by omega) (by omega) ?_
        exact next xs ws H ls ⟨hLR, ⟨_, hM⟩, ⟨_, hO⟩, ok0, hfr⟩ (lv_sub hl [2, 3, 4, 5, 6] rfl)
