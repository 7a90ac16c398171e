/-! The law from its entry; the claim. -/
set_option maxHeartbeats 4000000 in
set_option maxRecDepth 100000 in
theorem whole_start {p : Program} {e : Env} {s : State} {m : MethodId} {below : List Frame} {meth : Method} {c : Code} (l : Launch) (hl9 : l.stackTraces = false) {b L : Nat} {sc : Nat → Int32} (hL : L ≤ 3585) (C0 : lw_At p s m meth c b L sc) : W p l e room_1 s m #[Value.ref b] below meth c s.heap [] 0 0 (lw_Z below #[Value.ref b] s) (entryFrame m ([Value.ref b] : List Value).toArray 7) := by
  obtain ⟨hx, hb, hr, hml, hown, htb, hX, hbl, hlocks, hgv⟩ := C0
  have hown : s.vm.findClass "LevelRowsLaw" = some m.cls := hown
  have hts : ∀ w ∈ lw_ok, w.before #[Value.ref b] s = true := fun w h => htb w (List.mem_filter.mp h).1
  have hs := flat_of_before _ hgv
  have hN : NC s := ⟨va_Nc.of (hs (.not (.castable e_A e_I)) (by decide +kernel)), va_Nc.of (hs (.not (.castable e_U e_I)) (by decide +kernel)), va_Nc.of (hs (.not (.castable e_U e_A)) (by decide +kernel))⟩
  obtain ⟨D, cI, cJ, cS, cO, hE⟩ := ev_start htb (hs (.isRef (.static Bundle.tN "UNASSIGNED_STACK" Bundle.steD)) (by decide +kernel)) (hs (.isRef (.static Bundle.tN "SUPPRESSED_SENTINEL" Bundle.listD)) (by decide +kernel))
  have hK := hE.1
  have hbA : ¬ s.heap.size ≤ b := Nat.not_le.mpr hbl
  have hAB : ∀ q : Nat, s.heap.size ≤ q → s.heap.size ≤ q := fun q h => h
  have hl := lv_entry [Value.ref b] (n := 7) (Nat.le_of_ble_eq_true rfl)
  rw [lg_entry_eq]
  generalize (lg_sl [Value.ref b] ++ List.replicate (7 - (lg_sl [Value.ref b]).length) Slot.unset).toArray = ls at hl ⊢
  have hl : lv_has ls 7 [(0, .ref b)] := hl
  obtain ⟨x0, hx0⟩ : ∃ x0, x0 = (if 0 < L then sc 0 else 0) := ⟨_, rfl⟩
  have hblind : FrameBlind (fun (v : Array Value) (U : State) => v = #[Value.ref b, Value.int 0] ∧ va_X b L sc U U.heap ∧ b < U.heap.size) := fun _ U _ _ h => ⟨h.1, va_X.moved (State.WarmedH.refl U).alike h.2.1, h.2.2⟩
  have hP : va_P D vwCl ([] : va_W) s.heap := fun k q hk => by simp at hk
  have hD : va_D (fun q => s.heap.size ≤ q) ([] : va_W) := ⟨fun i j p q hi => by simp at hi, fun k q hk => by simp at hk⟩
  have hA : ∀ q, s.heap.size ≤ q → (fun q => s.heap.size ≤ q) q := fun q h => h
  have hS : va_S (fun q => s.heap.size ≤ q) s.heap s.heap [] := va_S.rf
  refine va_new (ci := 2) (fs := [.int 0, .null, .int 0, .int 0, .null, .null, .null, .null, .null, .null]) (C := n_R) (T := f_R) (N := 10) hx hb hts in_R t_R ty_R hown (hts _ x_16) (hts _ x_17) (hts _ x_1) hK hP hD hS hA rfl (fun j hj => by rcases (show j = 0 ∨ j = 1 ∨ j = 2 ∨ j = 3 ∨ j = 4 ∨ j = 5 ∨ j = 6 ∨ j = 7 ∨ j = 8 ∨ j = 9 by omega) with rfl | rfl | rfl | rfl | rfl | rfl | rfl | rfl | rfl | rfl <;> rfl) (Nat.le_of_ble_eq_true rfl) (Nat.le_of_ble_eq_true rfl) d_W_law_0 (fun r0 H hP hD hS => ?_)
  have hP : va_P D vwCl [(r0, .inr (2, [.int 0, .null, .int 0, .int 0, .null, .null, .null, .null, .null, .null]))] H := hP
  have hD : va_D (fun q => s.heap.size ≤ q) [(r0, .inr (2, [.int 0, .null, .int 0, .int 0, .null, .null, .null, .null, .null, .null]))] := hD
  have hSg := hS
  refine lv_dup hx hb d_W_law_3 rfl ?_
  refine lv_aload_n hx hb d_W_law_4 rfl (lv_at hl 0 rfl) ?_
  refine lv_iconst (v := 0) hx hb d_W_law_5 (by decide) ?_
  refine cm_read (va_runS (As := [.ref b, .int 0]) (rest := [.ref r0, .ref r0]) ⟨hx, hb, hml, hown, hts⟩ (m_W_cell (b := b) (sc := sc) hL) ⟨ct_cb 2 hts x_172 x_170 x_0 rfl rfl (by decide +kernel) ⟨by decide, by decide⟩, hts _ x_171⟩ ⟨hblind, fun U hU hW => ⟨rfl, by rw [hU]; exact (hX.moved hW.alike).kept (hSg.2.1 b hbl hbA), by rw [hU]; exact Nat.lt_of_lt_of_le hbl hSg.1⟩⟩ rfl rfl hl.1 rfl (lv_room (Nat.le_of_ble_eq_true rfl)) d_W_law_6 ⟨by decide, by decide⟩) (fun v hv => ?_)
  subst hv
  refine W.eq (g2 := F0 m 9 ls [.int (if 0 < L then sc 0 else 0), .ref r0, .ref r0]) rfl ?_
  refine ct_topi (x' := x0) (hx0.symm) ?_
  have hr0 : s.heap.size ≤ r0 := hD.2 0 _ rfl
  refine cm_ret (va_runI (As := [.int x0]) (rest := [.ref r0]) (b := r0) ⟨hx, hb, hml, hown, hts⟩ (m_R_init (sz := H.size) x0 hr0) ⟨ct_cb 1 hts x_20 x_18 x_1 rfl rfl (by decide +kernel) ⟨by decide, by decide⟩, rfl, hts _ x_19⟩ ⟨st_blind, fun U hU hW => ⟨rfl, hE.at hSg hAB hU hW, by rw [hU]; exact ⟨rfl, hP⟩⟩⟩ rfl rfl hl.1 rfl (lv_room (Nat.le_of_ble_eq_true rfl)) d_W_law_9 ⟨by decide, by decide⟩) hSg (fun q h => h.elim (fun h => by rw [h]; exact hr0) (fun h => Nat.le_trans hSg.1 h)) (fun _ _ h => h.2.1) (fun v H1 locs hv hS => ?_)
  obtain ⟨rfl, -, y, d, hy0, hyI, -, ok0, hLR⟩ := hv
  refine W.eq (g2 := F0 m 12 ls [.ref r0]) rfl ?_
  refine va_forget (fun z hz => hS.2.2 z hz) ?_
  have hfr1 := fr.of hS
  subst hy0
  refine W.eq (g2 := F0 m 12 ls [.ref (y 0)]) rfl ?_
  refine lv_astore_n (lv' := [(1, .ref (y 0)), (0, .ref b)]) hx hb d_W_law_12 rfl hl (by decide) rfl (fun ls hl => ?_)
  have hP : va_P D vwCl ([] : va_W) H1 := fun k q hk => by simp at hk
  have hD : va_D (fun q => H1.size ≤ q) ([] : va_W) := ⟨fun i j p q hi => by simp at hi, fun k q hk => by simp at hk⟩
  have hA : ∀ q, H1.size ≤ q → (fun q => H1.size ≤ q) q := fun q h => h
  have hS : va_S (fun q => H1.size ≤ q) H1 H1 [] := va_S.rf
  refine va_new (ci := 3) (fs := [.int 0, .int 0, .null, .int 0, .int 0, .null, .null]) (C := n_M) (T := f_M) (N := 7) hx hb hts in_M t_M ty_M hown (hts _ x_430) (hts _ x_431) (hts _ x_6) hK hP hD hS hA rfl (fun j hj => by rcases (show j = 0 ∨ j = 1 ∨ j = 2 ∨ j = 3 ∨ j = 4 ∨ j = 5 ∨ j = 6 by omega) with rfl | rfl | rfl | rfl | rfl | rfl | rfl <;> rfl) (Nat.le_of_ble_eq_true rfl) (Nat.le_of_ble_eq_true rfl) d_W_law_13 (fun u0 H hP hD hS => ?_)
  have hP : va_P D vwCl [(u0, .inr (3, [.int 0, .int 0, .null, .int 0, .int 0, .null, .null]))] H := hP
  have hD : va_D (fun q => H1.size ≤ q) [(u0, .inr (3, [.int 0, .int 0, .null, .int 0, .int 0, .null, .null]))] := hD
  have hu0 : H1.size ≤ u0 := hD.2 0 _ rfl
  have hylt := lrx_lt hLR
  have hLR := lrx_kept hLR (fr.of hS) (fun i hi => Nat.not_le.mpr (hylt i hi))
  have hfr2 := hfr1.trans (fr.of hS) (fun q h => Nat.le_trans hfr1.1 h)
  have hSg : va_S (fun q => s.heap.size ≤ q) s.heap H [] := ⟨hfr2.1, hfr2.2, fun z hz => nomatch hz⟩
  have hH1 : H1.size ≤ H.size := hS.1
  refine lv_dup hx hb d_W_law_16 rfl ?_
  refine lv_aload_n hx hb d_W_law_17 rfl (lv_at hl 1 rfl) ?_
  refine lv_iconst (v := 0) hx hb d_W_law_18 (by decide) ?_
  refine cm_read (va_runS (As := [.ref b, .int 0]) (rest := [.ref u0, .ref u0]) ⟨hx, hb, hml, hown, hts⟩ (m_W_cell (b := b) (sc := sc) hL) ⟨ct_cb 2 hts x_172 x_170 x_0 rfl rfl (by decide +kernel) ⟨by decide, by decide⟩, hts _ x_171⟩ ⟨hblind, fun U hU hW => ⟨rfl, by rw [hU]; exact (hX.moved hW.alike).kept (hSg.2.1 b hbl hbA), by rw [hU]; exact Nat.lt_of_lt_of_le hbl hSg.1⟩⟩ rfl rfl hl.1 rfl (lv_room (Nat.le_of_ble_eq_true rfl)) d_W_law_19 ⟨by decide, by decide⟩) (fun v hv => ?_)
  subst hv
  refine W.eq (g2 := F0 m 22 ls [.int (if 0 < L then sc 0 else 0), .ref u0, .ref u0]) rfl ?_
  refine ct_topi (x' := x0) (hx0.symm) ?_
  refine cm_ret (va_runI (As := [.int x0]) (rest := [.ref u0]) (b := u0) ⟨hx, hb, hml, hown, hts⟩ (m_M_init (sz := H.size) x0 (Nat.le_trans hfr1.1 hu0)) ⟨ct_cb 1 hts x_434 x_432 x_6 rfl rfl (by decide +kernel) ⟨by decide, by decide⟩, rfl, hts _ x_433⟩ ⟨st_blind, fun U hU hW => ⟨rfl, hE.at hSg hAB hU hW, by rw [hU]; exact ⟨rfl, hP⟩⟩⟩ rfl rfl hl.1 rfl (lv_room (Nat.le_of_ble_eq_true rfl)) d_W_law_22 ⟨by decide, by decide⟩) hSg (fun q h => h.elim (fun h => by rw [h]; exact Nat.le_trans hfr1.1 hu0) (fun h => Nat.le_trans hSg.1 h)) (fun _ _ h => h.2.1) (fun v H2 locs hv hS => ?_)
  obtain ⟨rfl, hf2, u1, u2, u3, hMI, hu1, hu2, hu3, hM⟩ := hv
  refine W.eq (g2 := F0 m 25 ls [.ref u0]) rfl ?_
  refine va_forget (fun z hz => hS.2.2 z hz) ?_
  have hfr3 := fr.of hS
  have hLR := lrx_kept hLR hf2 (fun i hi h => by have := hylt i hi; rcases h with h | h <;> omega)
  have hmlt : u0 < H2.size ∧ u1 < H2.size ∧ u2 < H2.size ∧ u3 < H2.size := by obtain ⟨_, _, _, _, h⟩ := hM; exact ⟨(h 0 _ rfl).lt, (h 1 _ rfl).lt, (h 2 _ rfl).lt, (h 3 _ rfl).lt⟩
  refine lv_astore_n (lv' := [(2, .ref u0), (1, .ref (y 0)), (0, .ref b)]) hx hb d_W_law_25 rfl hl (by decide) rfl (fun ls hl => ?_)
  refine lv_iconst (v := 1) hx hb d_W_law_26 (by decide) ?_
  have hP : va_P D vwCl ([] : va_W) H2 := fun k q hk => by simp at hk
  have hD : va_D (fun q => H2.size ≤ q) ([] : va_W) := ⟨fun i j p q hi => by simp at hi, fun k q hk => by simp at hk⟩
  have hA : ∀ q, H2.size ≤ q → (fun q => H2.size ≤ q) q := fun q h => h
  have hS : va_S (fun q => H2.size ≤ q) H2 H2 [] := va_S.rf
  refine va_newa (atype := .long) hx hb (hts _ x_80) rfl hK hP hD hS hA (a0 := (1, .inr (.inl (fun _ => 0)))) (fun _ => rfl) (by decide) rfl (by decide) (Nat.le_of_ble_eq_true rfl) (Nat.le_of_ble_eq_true rfl) d_W_law_27 (fun ao cA H hK9 hP hD hS => ?_)
  have e9 : cA = cJ := Option.some.inj ((hK9.2 4 _ rfl).2.symm.trans (hK9.2 1 _ rfl).2)
  rw [e9] at hP hD
  have hP : va_P D vwCl [(ao, .inl (cJ, 1, .inr (.inl (fun _ => 0))))] H := hP
  have hD : va_D (fun q => H2.size ≤ q) [(ao, .inl (cJ, 1, .inr (.inl (fun _ => 0))))] := hD
  have hao : H2.size ≤ ao := hD.2 0 _ rfl
  have hylt2 := lrx_lt hLR
  have hLR := lrx_kept hLR (fr.of hS) (fun i hi => Nat.not_le.mpr (hylt2 i hi))
  have hM := mr_kept hM (fr.of hS) (Nat.not_le.mpr hmlt.1) (Nat.not_le.mpr hmlt.2.1) (Nat.not_le.mpr hmlt.2.2.1) (Nat.not_le.mpr hmlt.2.2.2)
  have hfr4 := hfr3.trans (fr.of hS) (fun q h => Nat.le_trans hfr3.1 h)
  have hG : GEO s.heap.size y d u0 u1 u2 u3 ao := by
    refine ⟨hyI, hMI, Nat.le_trans hfr3.1 hao, fun i hi h => ?_, fun i hi h => ?_, fun h => ?_⟩
    · have := hylt2 i hi; omega
    · have := hylt i hi; rcases h with h | h | h | h <;> omega
    · obtain ⟨h0, h1, h2, h3⟩ := hmlt; rcases h with h | h | h | h <;> omega
  refine lv_astore_n (lv' := [(3, .ref ao), (2, .ref u0), (1, .ref (y 0)), (0, .ref b)]) hx hb d_W_law_29 rfl hl (by decide) rfl (fun ls hl => ?_)
  refine lv_iconst (v := 1) hx hb d_W_law_30 (by decide) ?_
  refine lv_istore (lv' := [(4, .int 1), (3, .ref ao), (2, .ref u0), (1, .ref (y 0)), (0, .ref b)]) hx hb d_W_law_31 hl (by decide) rfl (fun ls hl => ?_)
  refine W.widen (k := 64 + 11 * 0) (n := 9000 + 66 * 0) (by decide) (by decide) ?_
  exact w_loop ⟨hx, hb, hr, hml, hown, hts, hlocks, hE, hN, hX, hbl, hl9⟩ hG hL 513 0 [] [] H ls (by omega) (by omega) ⟨hLR, ⟨_, hM⟩, ⟨_, hP⟩, ok0, hfr4⟩ (lv_sub hl [0, 4, 3, 2, 1] rfl)
set_option maxHeartbeats 4000000 in
theorem lw_walk (l : Launch) (hl9 : l.stackTraces = false) (b : Addr) (xs : List Int32) : MetFree l x (headSpec (Jvm.Cond.code x code maxLocals ret :: tables_1) room_1) (lw_P b xs) (fun _ _ _ _ _ => True) lw_Q := by
  refine MetFree.of_bodyS (code := code) (maxLocals := maxLocals) (ret := ret) (by decide) ?_ ?_
  · intro args s m h hn
    obtain ⟨meth, c, h1, h2, h3, h4, h5, h6, -, -⟩ := Cond.code_spec hn (atoms_spec (ws := Jvm.Cond.code x code maxLocals ret :: tables_1) h _ List.mem_cons_self)
    exact ⟨meth, c, h1, h2, h3, h4, h5, h6⟩
  · intro p e s m args below meth c s₁ B hml0 hP _
    obtain ⟨rfl, hx, hbd, hgv⟩ := hP
    obtain ⟨scr, harrAt, hlist, hof, hsmall⟩ := hx
    obtain ⟨hcb, hkn, -, -⟩ := State.arrayAt?_spec harrAt
    have hown : s.vm.findClass R_law = some m.cls := findClass_of_methodNamed B.named
    have hts0 : ∀ c ∈ (Jvm.Cond.code x code maxLocals ret :: tables_1), c.before #[Value.ref b] s = true := atoms_spec (ws := Jvm.Cond.code x code maxLocals ret :: tables_1) B.pre
    have hts : ∀ w ∈ lw_tbl, w.before #[Value.ref b] s = true := k2_hts_sels lw_privs (fun w hw => hts0 w (List.mem_cons_of_mem _ hw)) lw_privs_ok
    have hml : c.maxLocals = 7 := B.maxLocals_eq (hts0 _ List.mem_cons_self)
    have X₀ : Stand p l e room_1 s m #[Value.ref b] below meth c s₁ [] 0 0 := Stand.of_body B
    have hh0 : s₁.heap = s.heap := by rw [B.state]; rfl
    have hsz : scr.slots.size = xs.length := by rw [← Array.length_toList, hlist, List.length_map]
    have hval : ∀ j : Nat, j < xs.length → scr.slots[j]? = some (.int (xs.getD j 0)) := fun j hj => by
      rw [← Array.getElem?_toList, hlist]
      simp [hj]
    have hbl : b < s.heap.size := (Array.getElem?_eq_some_iff.mp hcb).1
    have hX : va_X b xs.length (fun j => xs.getD j 0) s s.heap := ⟨scr, hcb, hof, hkn, hsz, hval⟩
    have K : W p l e room_1 s m #[Value.ref b] below meth c s₁.heap [] 0 0 (lw_Z below #[Value.ref b] s) (entryFrame m ([Value.ref b] : List Value).toArray 7) := by
      rw [hh0]
      exact whole_start l hl9 hbd ⟨B.exec, B.bytes, B.returns, hml, hown, hts, hX, hbl, B.notSynchronized, hgv⟩
    obtain ⟨t, a1, o, b1, b2, b3⟩ := K s₁ rfl X₀
    exact ⟨t, o, a1, b1, b2, b3⟩
theorem lw_pre_spec {args : Array Value} {s : State} (h : (Jvm.Cond.and given_1 narrow_1).before args s = true) (hr : rest_1_c.before args s = true) : ∃ (b : Addr) (xs : List Int32), lw_P b xs args s := by
  have hs := flat_of_before _ h
  have hq := flat_of_before _ hr
  have hc : (Cond.count 1).before args s = true := hs _ (by decide +kernel)
  have harr : (Cond.arrayOf (.arg 0) .int).before args s = true := hs _ (by decide +kernel)
  have hle : (Cond.le (.length (.arg 0)) (.int 3585)).before args s = true := hs _ (by decide +kernel)
  have hlen : (Cond.isInt (.length (.arg 0))).before args s = true := hq _ (by decide +kernel)
  have hall : (Cond.all (.arg 0) (.isInt (.elem (.arg 0) (.index 0)))).before args s = true := hq _ (by decide +kernel)
  obtain ⟨b, xs, hb, hx⟩ := State.ints_of_pre rfl harr hlen hall
  have hsm : xs.length < 2 ^ 31 := hx.choose_spec.2.2.2
  have hev : (Term.length (.arg 0)).eval args s none [] s = some (.int xs.length.toInt32) := hx.length_eval hb
  have hv := Cond.le_ints hev (show (Term.int 3585).eval args s none [] s = some (.int 3585) from rfl)
  have hd : xs.length.toInt32 ≤ 3585 := by
    simpa [Cond.before, Cond.holds, hv] using hle
  have hN : xs.length ≤ 3585 := (Int32.ofNat_le_ofNat hsm (by decide)).mp (show Int32.ofNat xs.length ≤ Int32.ofNat 3585 from hd)
  exact ⟨b, xs, Cond.one_arg hc (show args[0]? = some (.ref b) from hb), hx, hN, h⟩
theorem lw_comes (l : Launch) (hl9 : l.stackTraces = false) : Comes l x (Jvm.Cond.code x code maxLocals ret :: tables_1) room_1 (fun tb e args s => Calls_1 tb e args s ∧ rest_1 tb e args s ∧ Pre_1 tb e args s)
    (fun _ _ args s o t => lw_Q args s o t) := by
  intro p e ha hc hk s m args below hf hfit hheap happ hpre
  obtain ⟨b, xs, hP⟩ := lw_pre_spec hpre.2.2 hpre.2.1
  obtain ⟨k, o, h1, h2, h3, hQ⟩ := lw_walk l hl9 b xs p e ha hc hk s m args below hf ((Spec.applies_iff_loose hf).mp happ).1 hP trivial
  exact ⟨k, o, h1, h2, h3, hQ⟩
theorem lw_frame {s t : State} {o : Outcome} {args : Array Value} (h : Framed s o t [] 601024 7293000) :
    Framed s o t (fieldLocs frame_1_writes args s ++ arrayLocs frame_1_arrays args s ++ staticLocs frame_1_statics s) 601024 7293000 := h
theorem lw_limb (L : Cond) (hL : ∀ (args : Array Value) (s t : State), L.after args s (.returned (some (.int 1))) t = true) :
    ArmFor flags0 classFile x code maxLocals ret World_1 tables_1 room_1 Calls_1 rest_1 Pre_1
      (fun tb e a s o t => postC L tb e a s o t ∧ Framed s o t (fieldLocs frame_1_writes a s ++ arrayLocs frame_1_arrays a s ++ staticLocs frame_1_statics s) 601024 7293000) := by
  intro l hfl _ _ p e ha hc hk s m args below hf hfit hheap happ hpre
  have hl9 : l.stackTraces = false := by
    show (!l.flags.contains Jvm.noTraceFlag) = false
    rw [hfl]
    decide +kernel
  obtain ⟨k, o, h1, h2, h3, rfl, hF⟩ := lw_comes l hl9 p e ha hc hk s m args below hf hfit hheap happ hpre
  exact ⟨k, _, h1, h2, h3, hL args s _, lw_frame hF⟩
theorem i_vc : Claimed_1_1 ∧ Claimed_1_2 := ⟨lw_limb limb_1_1 (fun args s t => by simp [limb_1_1, Cond.after, Cond.holds, Cond.value]), lw_limb limb_1_2 (fun args s t => Cond.after_iff.mpr (by
  first | (rw [show limb_1_2 = Cond.eq .result (.int 1) from rfl, Cond.eq_ints (x := 1) (y := 1) rfl rfl]; simp; done) | (simp [limb_1_2, Cond.value, Term.eval]; done)))⟩
