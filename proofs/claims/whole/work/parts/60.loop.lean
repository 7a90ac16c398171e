/-! The law's loop. -/
/-! THE CLAIM OUT OF ONE WALK OF THE LAW'S BODY. Your part is whole_start (and what it stands on); all else here is the same for every law, but numbers. -/
def R_law : String := "LevelRowsLaw"
def lw_P (b : Addr) (xs : List Int32) (args : Array Value) (s : State) : Prop := args = #[.ref b] ∧ s.IntsAt b xs ∧ xs.length ≤ 3585 ∧ (Jvm.Cond.and given_1 narrow_1).before args s = true
def lw_Q (_ : Array Value) (s : State) (o : Outcome) (t : State) : Prop := o = .returned (some (.int 1)) ∧ Framed s o t [] 601024 7293000
def lw_Z (below : List Frame) (a : Array Value) (s : State) : State → Prop := fun t => ∃ o, t.status = .running ∧ Ended t below o ∧ lw_Q a s o t
/-- the law's own end, with 1 on the stack, nothing written that was there before, its room as the claim has it -/
theorem lw_ret {p : Program} {l : Launch} {e : Env} {s : State} {m : MethodId} {below : List Frame} {meth : Method} {c : Code} {b : Nat} (hx : p.tables.exec = Jvm.exec) (hb : c.code = code) (hr : meth.sig.returnType = ret) (hlocks : meth.locks = false) {pc : Nat} {H : Heap} {ls : Array Slot} (hdg : decode code pc = .ok (.ireturn, 1)) : W p l e room_1 s m #[Value.ref b] below meth c H [] 601024 7293000 (lw_Z below #[Value.ref b] s) (F0 m pc ls [.int 1]) := by
  intro T hT X
  obtain ⟨fs, hret, hrun, hended, hW, hframe⟩ := X.leave (v := some (.int 1)) (hlocks := hlocks) (fun h => by rw [hr] at h; cases h)
  have hmeth' : T.vm.method? m = some meth := X.method'
  refine ⟨T.setFrames fs, ?_, .returned (some (.int 1)), hrun, hended, rfl, ⟨_, rfl⟩, hW, hframe⟩
  jvm_step X.here [X.here.top, hx, hb, hdg, hmeth', hr, ret, narrow_b1]
  (try refine ⟨rfl, ?_⟩); (try refine ⟨rfl, ?_⟩)
  first | (intro acts; rw [hret _ acts rfl rfl rfl]) | rw [hret _ _ rfl rfl rfl]
  exact Steps.refl _
/-- what holds at the law's entry: the machine, the code, the tables' words (any of lw_tbl by 'hts w (by decide +kernel)'), the script of L ints xs at the cell b, what the Statement gives of the start (any of its parts by flat_of_before) -/
def lw_At (p : Program) (s : State) (m : MethodId) (meth : Method) (c : Code) (b L : Nat) (xs : Nat → Int32) : Prop :=
  p.tables.exec = Jvm.exec ∧ c.code = code ∧ meth.sig.returnType = ret ∧ c.maxLocals = 7 ∧ s.vm.findClass R_law = some m.cls ∧ (∀ w ∈ lw_tbl, w.before #[Value.ref b] s = true) ∧ va_X b L xs s s.heap ∧ b < s.heap.size ∧ meth.locks = false ∧ (Jvm.Cond.and given_1 narrow_1).before #[Value.ref b] s = true
set_option maxHeartbeats 4000000 in
set_option maxRecDepth 100000 in
theorem w_loop {p : Program} {l : Launch} {e : Env} {s : State} {m : MethodId} {below : List Frame} {meth : Method} {c : Code} {D : va_G} {cI cJ cS cO : ClassId} {b L : Nat} {sc : Nat → Int32} (C0 : LC D cI cJ cS cO p l s m meth c b L sc) {y : Nat → Nat} {u0 u1 u2 u3 ao sg d : Nat} (hG : GEO s.heap.size y d u0 u1 u2 u3 ao) (hL : L ≤ 3585) :
    ∀ (n k : Nat) (xs ws : List Nat) (H : Heap) (ls : Array Slot), L < 1 + 7 * k + 7 * n + 7 → 1 + 7 * k ≤ 3600 → LInv D cI cJ cS cO y u0 u1 u2 u3 ao sg d s xs ws H → lv_has ls 7 [(4, .int (nI (1 + 7 * k))), (0, .ref b), (1, .ref (y 0)), (2, .ref u0), (3, .ref ao)] → W p l e room_1 s m #[Value.ref b] below meth c H [] (64 + 11 * k) (9000 + 66 * k) (lw_Z below #[Value.ref b] s) (F0 m 33 ls []) := by
  obtain ⟨hx, hb, hr, hml, hown, hts, hlocks, hE, hN, hX, hbl, hl9⟩ := C0
  have hbA : ¬ s.heap.size ≤ b := Nat.not_le.mpr hbl
  have hexit : ∀ (k : Nat) (H : Heap) (ls : Array Slot), 1 + 7 * k ≤ 3600 → W p l e room_1 s m #[Value.ref b] below meth c H [] (64 + 11 * k) (9000 + 66 * k) (lw_Z below #[Value.ref b] s) (F0 m 1009 ls []) := by
    intro k H ls hk
    refine lv_iconst (v := 1) hx hb d_W_law_1009 (by decide) ?_
    refine W.widen (k := 601024) (n := 7293000) (by omega) (by omega) ?_
    exact lw_ret hx hb hr hlocks d_W_law_1010
  intro n
  induction n with
  | zero =>
    intro k xs ws H ls hfu hk hI hl
    have hfr := hI.2.2.2.2
    have hS : va_S (fun q => s.heap.size ≤ q) s.heap H [] := ⟨hfr.1, hfr.2, fun z hz => nomatch hz⟩
    refine lv_iload hx hb d_W_law_33 (lv_at hl 0 rfl) ?_
    refine lv_aload_n hx hb d_W_law_35 rfl (lv_at hl 1 rfl) ?_
    refine va_slen hx hb hX hbl hbA hS d_W_law_36 ?_
    refine ct_topi (x' := nI L) rfl ?_
    refine lv_bipush (v := 7) hx hb d_W_law_37 (by decide) ?_
    refine lv_isub hx hb d_W_law_39 ?_
    refine lv_icmp_gt (tgt := 1009) hx hb d_W_law_40 (by decide) (fun _ => ?_) (fun c9 => absurd ((law_cmp (by omega) (by omega)).mpr (by omega)) c9)
    exact hexit k H ls hk
  | succ n ih =>
    intro k xs ws H ls hfu hk hI hl
    have hfr := hI.2.2.2.2
    have hS : va_S (fun q => s.heap.size ≤ q) s.heap H [] := ⟨hfr.1, hfr.2, fun z hz => nomatch hz⟩
    refine lv_iload hx hb d_W_law_33 (lv_at hl 0 rfl) ?_
    refine lv_aload_n hx hb d_W_law_35 rfl (lv_at hl 1 rfl) ?_
    refine va_slen hx hb hX hbl hbA hS d_W_law_36 ?_
    refine ct_topi (x' := nI L) rfl ?_
    refine lv_bipush (v := 7) hx hb d_W_law_37 (by decide) ?_
    refine lv_isub hx hb d_W_law_39 ?_
    rcases Nat.lt_or_ge L (1 + 7 * k + 7) with hc | hc
    · refine lv_icmp_gt (tgt := 1009) hx hb d_W_law_40 (by decide) (fun _ => ?_) (fun c9 => absurd ((law_cmp (by omega) (by omega)).mpr (by omega)) c9)
      exact hexit k H ls hk
    · refine lv_icmp_gt (tgt := 1009) hx hb d_W_law_40 (by decide) (fun c9 => absurd c9 (fun h => absurd ((law_cmp (by omega) (by omega)).mp h) (by omega))) (fun _ => ?_)
      have next : ∀ (xs ws : List Nat) (H : Heap) (ls : Array Slot), LInv D cI cJ cS cO y u0 u1 u2 u3 ao sg d s xs ws H → lv_has ls 7 [(4, .int (nI (1 + 7 * k))), (0, .ref b), (1, .ref (y 0)), (2, .ref u0), (3, .ref ao)] → W p l e room_1 s m #[Value.ref b] below meth c H [] (64 + 11 * k + 11) (9000 + 66 * k + 66) (lw_Z below #[Value.ref b] s) (F0 m 1003 ls []) := by
        intro xs ws H ls hI hl
        refine lv_iinc (v := nI (1 + 7 * (k + 1))) (lv' := [(4, .int (nI (1 + 7 * (k + 1)))), (0, .ref b), (1, .ref (y 0)), (2, .ref u0), (3, .ref ao)]) hx hb d_W_law_1003 hl (k := 0) rfl ((nI_add (1 + 7 * k) 7).trans (congrArg nI (by omega))) (by decide) rfl (fun ls hl => ?_)
        refine lv_goto (tgt := 33) hx hb d_W_law_1006 (by decide) ?_
        refine W.widen (k := 64 + 11 * (k + 1)) (n := 9000 + 66 * (k + 1)) (by omega) (by omega) ?_
        exact ih (k + 1) xs ws H ls (by omega) (by omega) hI (lv_sub hl [0, 1, 2, 3, 4] rfl)
      refine lv_aload_n hx hb d_W_law_43 rfl (lv_at hl 1 rfl) ?_
      refine lv_iload hx hb d_W_law_44 (lv_at hl 0 rfl) ?_
      refine va_sld hx hb hX hbl hbA hS (vp_in_nI (by omega) (by omega)) d_W_law_46 ?_
      refine ct_topi (x' := sc (1 + 7 * k)) (congrArg sc (nI_clamp (by omega))) ?_
      refine lv_bipush (v := 15) hx hb d_W_law_47 (by decide) ?_
      refine lv_iand hx hb d_W_law_49 ?_
      obtain ⟨t, ht⟩ : ∃ t, t = (sc (1 + 7 * k)).toBitVec.toNat % 2 ^ 4 := ⟨_, rfl⟩
      have ht16 : t < 16 := by rw [ht]; exact Nat.mod_lt _ (by decide)
      refine ct_topi (x' := nI t) (by rw [ht]; exact pk_and _ 4 (by decide)) ?_
      have C0 : LC D cI cJ cS cO p l s m meth c b L sc := ⟨hx, hb, hr, hml, hown, hts, hlocks, hE, hN, hX, hbl, hl9⟩
      rcases (show t = 0 ∨ t = 1 ∨ t = 2 ∨ t = 3 ∨ t = 4 ∨ t = 5 ∨ t = 6 ∨ t = 7 ∨ t = 8 ∨ t = 9 ∨ t = 10 ∨ t = 11 ∨ t = 12 ∨ t = 13 ∨ t = 14 ∨ t = 15 by omega) with h0 | h0 | h0 | h0 | h0 | h0 | h0 | h0 | h0 | h0 | h0 | h0 | h0 | h0 | h0 | h0
      · refine lv_tableIn (off := 70) (tgt := 120) hx hb d_W_law_50 (by rw [h0]; decide) (by rw [h0]; decide) (by rw [h0]; rfl) (by decide) ?_
        exact w_put C0 hG hL (by omega) (by omega) (by omega) hI (lv_sub hl [0, 1, 2, 3, 4] rfl) next
      · refine lv_tableIn (off := 188) (tgt := 238) hx hb d_W_law_50 (by rw [h0]; decide) (by rw [h0]; decide) (by rw [h0]; rfl) (by decide) ?_
        exact w_build C0 hG hL (by omega) (by omega) (by omega) hI (lv_sub hl [0, 1, 2, 3, 4] rfl) next
      · refine lv_tableIn (off := 201) (tgt := 251) hx hb d_W_law_50 (by rw [h0]; decide) (by rw [h0]; decide) (by rw [h0]; rfl) (by decide) ?_
        exact w_at C0 hG hL (by omega) (by omega) (by omega) hI (lv_sub hl [0, 1, 2, 3, 4] rfl) next
      · refine lv_tableIn (off := 257) (tgt := 307) hx hb d_W_law_50 (by rw [h0]; decide) (by rw [h0]; decide) (by rw [h0]; rfl) (by decide) ?_
        exact w_rank C0 hG hL (by omega) (by omega) (by omega) hI (lv_sub hl [0, 1, 2, 3, 4] rfl) next
      · refine lv_tableIn (off := 325) (tgt := 375) hx hb d_W_law_50 (by rw [h0]; decide) (by rw [h0]; decide) (by rw [h0]; rfl) (by decide) ?_
        exact w_select C0 hG hL (by omega) (by omega) (by omega) hI (lv_sub hl [0, 1, 2, 3, 4] rfl) next
      · refine lv_tableIn (off := 393) (tgt := 443) hx hb d_W_law_50 (by rw [h0]; decide) (by rw [h0]; decide) (by rw [h0]; rfl) (by decide) ?_
        exact w_quantile C0 hG hL (by omega) (by omega) (by omega) hI (lv_sub hl [0, 1, 2, 3, 4] rfl) next
      · refine lv_tableIn (off := 473) (tgt := 523) hx hb d_W_law_50 (by rw [h0]; decide) (by rw [h0]; decide) (by rw [h0]; rfl) (by decide) ?_
        exact w_between C0 hG hL (by omega) (by omega) (by omega) hI (lv_sub hl [0, 1, 2, 3, 4] rfl) next
      · refine lv_tableIn (off := 565) (tgt := 615) hx hb d_W_law_50 (by rw [h0]; decide) (by rw [h0]; decide) (by rw [h0]; rfl) (by decide) ?_
        exact w_below C0 hG hL (by omega) (by omega) (by omega) hI (lv_sub hl [0, 1, 2, 3, 4] rfl) next
      · refine lv_tableIn (off := 645) (tgt := 695) hx hb d_W_law_50 (by rw [h0]; decide) (by rw [h0]; decide) (by rw [h0]; rfl) (by decide) ?_
        exact w_above C0 hG hL (by omega) (by omega) (by omega) hI (lv_sub hl [0, 1, 2, 3, 4] rfl) next
      · refine lv_tableIn (off := 725) (tgt := 775) hx hb d_W_law_50 (by rw [h0]; decide) (by rw [h0]; decide) (by rw [h0]; rfl) (by decide) ?_
        exact w_different C0 hG hL (by omega) (by omega) (by omega) hI (lv_sub hl [0, 1, 2, 3, 4] rfl) next
      · refine lv_tableIn (off := 793) (tgt := 843) hx hb d_W_law_50 (by rw [h0]; decide) (by rw [h0]; decide) (by rw [h0]; rfl) (by decide) ?_
        exact w_frequent C0 hG hL (by omega) (by omega) (by omega) hI (lv_sub hl [0, 1, 2, 3, 4] rfl) next
      · refine lv_tableIn (off := 873) (tgt := 923) hx hb d_W_law_50 (by rw [h0]; decide) (by rw [h0]; decide) (by rw [h0]; rfl) (by decide) ?_
        exact w_bits C0 hG hL (by omega) (by omega) (by omega) hI (lv_sub hl [0, 1, 2, 3, 4] rfl) next
      · refine lv_tableIn (off := 886) (tgt := 936) hx hb d_W_law_50 (by rw [h0]; decide) (by rw [h0]; decide) (by rw [h0]; rfl) (by decide) ?_
        exact w_count C0 hG hL (by omega) (by omega) (by omega) hI (lv_sub hl [0, 1, 2, 3, 4] rfl) next
      · refine lv_tableIn (off := 942) (tgt := 992) hx hb d_W_law_50 (by rw [h0]; decide) (by rw [h0]; decide) (by rw [h0]; rfl) (by decide) ?_
        exact w_clear C0 hG hL (by omega) (by omega) (by omega) hI (lv_sub hl [0, 1, 2, 3, 4] rfl) next
      · refine lv_tableOut (tgt := 1003) hx hb d_W_law_50 (Or.inr (by rw [h0]; decide)) (by decide) ?_
        refine W.widen (k := 64 + 11 * k + 11) (n := 9000 + 66 * k + 66) (by omega) (by omega) ?_
        exact next xs ws H ls hI (lv_sub hl [0, 1, 2, 3, 4] rfl)
      · refine lv_tableOut (tgt := 1003) hx hb d_W_law_50 (Or.inr (by rw [h0]; decide)) (by decide) ?_
        refine W.widen (k := 64 + 11 * k + 11) (n := 9000 + 66 * k + 66) (by omega) (by omega) ?_
        exact next xs ws H ls hI (lv_sub hl [0, 1, 2, 3, 4] rfl)
