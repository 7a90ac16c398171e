section
-- ===== PART A: goes FIRST, ahead of the names: the tables' words, and 'selects' of the private methods out of them =====
/-- a private method of a class that the tables say can be made, by its rows of tables_1 -/
def lw_okq (q : MethodName × Nat) : Prop := (q.1.cls ≠ "java/lang/invoke/MethodHandle" ∧ q.1.cls ≠ "java/lang/invoke/VarHandle") ∧ Cond.instantiable q.1.cls q.2 ∈ tables_1 ∧ Cond.privateMethod q.1 ∈ tables_1 ∧ Cond.instanceMethod q.1 ∈ tables_1
theorem lw_p0 : lw_okq (⟨"LevelRows", "symbolAt", "(I)I"⟩, 10) := ⟨⟨by decide +kernel, by decide +kernel⟩, List.mem_of_getElem? (i := 17) (by decide +kernel), List.mem_of_getElem? (i := 118) (by decide +kernel), List.mem_of_getElem? (i := 119) (by decide +kernel)⟩
theorem lw_p1 : lw_okq (⟨"LevelRows$Level", "onesTo", "(I)I"⟩, 3) := ⟨⟨by decide +kernel, by decide +kernel⟩, List.mem_of_getElem? (i := 64) (by decide +kernel), List.mem_of_getElem? (i := 134) (by decide +kernel), List.mem_of_getElem? (i := 135) (by decide +kernel)⟩
theorem lw_p2 : lw_okq (⟨"LevelRows", "storeLevels", "()V"⟩, 10) := ⟨⟨by decide +kernel, by decide +kernel⟩, List.mem_of_getElem? (i := 17) (by decide +kernel), List.mem_of_getElem? (i := 144) (by decide +kernel), List.mem_of_getElem? (i := 145) (by decide +kernel)⟩
theorem lw_p3 : lw_okq (⟨"LevelRows", "shiftOf", "(I)I"⟩, 10) := ⟨⟨by decide +kernel, by decide +kernel⟩, List.mem_of_getElem? (i := 17) (by decide +kernel), List.mem_of_getElem? (i := 148) (by decide +kernel), List.mem_of_getElem? (i := 149) (by decide +kernel)⟩
theorem lw_p4 : lw_okq (⟨"LevelRows", "checkSymbol", "(I)V"⟩, 10) := ⟨⟨by decide +kernel, by decide +kernel⟩, List.mem_of_getElem? (i := 17) (by decide +kernel), List.mem_of_getElem? (i := 187) (by decide +kernel), List.mem_of_getElem? (i := 188) (by decide +kernel)⟩
theorem lw_p5 : lw_okq (⟨"java/lang/Throwable", "fillInStackTrace", "(I)Ljava/lang/Throwable;"⟩, 6) := ⟨⟨by decide +kernel, by decide +kernel⟩, List.mem_of_getElem? (i := 229) (by decide +kernel), List.mem_of_getElem? (i := 227) (by decide +kernel), List.mem_of_getElem? (i := 228) (by decide +kernel)⟩
theorem lw_p6 : lw_okq (⟨"LevelRows", "checkPart", "(II)V"⟩, 10) := ⟨⟨by decide +kernel, by decide +kernel⟩, List.mem_of_getElem? (i := 17) (by decide +kernel), List.mem_of_getElem? (i := 306) (by decide +kernel), List.mem_of_getElem? (i := 307) (by decide +kernel)⟩
theorem lw_p7 : lw_okq (⟨"LevelRows", "descendTo", "(I)V"⟩, 10) := ⟨⟨by decide +kernel, by decide +kernel⟩, List.mem_of_getElem? (i := 17) (by decide +kernel), List.mem_of_getElem? (i := 315) (by decide +kernel), List.mem_of_getElem? (i := 316) (by decide +kernel)⟩
theorem lw_p8 : lw_okq (⟨"LevelRows", "climbFrom", "(I)I"⟩, 10) := ⟨⟨by decide +kernel, by decide +kernel⟩, List.mem_of_getElem? (i := 17) (by decide +kernel), List.mem_of_getElem? (i := 343) (by decide +kernel), List.mem_of_getElem? (i := 344) (by decide +kernel)⟩
theorem lw_p9 : lw_okq (⟨"LevelRows", "kthLeast", "(III)I"⟩, 10) := ⟨⟨by decide +kernel, by decide +kernel⟩, List.mem_of_getElem? (i := 17) (by decide +kernel), List.mem_of_getElem? (i := 364) (by decide +kernel), List.mem_of_getElem? (i := 365) (by decide +kernel)⟩
theorem lw_p10 : lw_okq (⟨"LevelRows", "howManyBelow", "(III)I"⟩, 10) := ⟨⟨by decide +kernel, by decide +kernel⟩, List.mem_of_getElem? (i := 17) (by decide +kernel), List.mem_of_getElem? (i := 379) (by decide +kernel), List.mem_of_getElem? (i := 380) (by decide +kernel)⟩
theorem lw_p11 : lw_okq (⟨"LevelRows", "listSymbols", "(II)I"⟩, 10) := ⟨⟨by decide +kernel, by decide +kernel⟩, List.mem_of_getElem? (i := 17) (by decide +kernel), List.mem_of_getElem? (i := 404) (by decide +kernel), List.mem_of_getElem? (i := 405) (by decide +kernel)⟩
theorem lw_p12 : lw_okq (⟨"LevelRows", "countAhead", "(I)V"⟩, 10) := ⟨⟨by decide +kernel, by decide +kernel⟩, List.mem_of_getElem? (i := 17) (by decide +kernel), List.mem_of_getElem? (i := 415) (by decide +kernel), List.mem_of_getElem? (i := 416) (by decide +kernel)⟩
theorem lw_p13 : lw_okq (⟨"LevelRowsModel", "isSymbol", "(I)Z"⟩, 7) := ⟨⟨by decide +kernel, by decide +kernel⟩, List.mem_of_getElem? (i := 430) (by decide +kernel), List.mem_of_getElem? (i := 487) (by decide +kernel), List.mem_of_getElem? (i := 488) (by decide +kernel)⟩
theorem lw_p14 : lw_okq (⟨"LevelRowsModel", "isPart", "(II)Z"⟩, 7) := ⟨⟨by decide +kernel, by decide +kernel⟩, List.mem_of_getElem? (i := 430) (by decide +kernel), List.mem_of_getElem? (i := 499) (by decide +kernel), List.mem_of_getElem? (i := 500) (by decide +kernel)⟩
theorem lw_p15 : lw_okq (⟨"LevelRowsModel", "gather", "(II)I"⟩, 7) := ⟨⟨by decide +kernel, by decide +kernel⟩, List.mem_of_getElem? (i := 430) (by decide +kernel), List.mem_of_getElem? (i := 503) (by decide +kernel), List.mem_of_getElem? (i := 504) (by decide +kernel)⟩
def lw_privs_1 : List (MethodName × Nat) := [(⟨"LevelRows", "symbolAt", "(I)I"⟩, 10), (⟨"LevelRows$Level", "onesTo", "(I)I"⟩, 3), (⟨"LevelRows", "storeLevels", "()V"⟩, 10), (⟨"LevelRows", "shiftOf", "(I)I"⟩, 10), (⟨"LevelRows", "checkSymbol", "(I)V"⟩, 10), (⟨"java/lang/Throwable", "fillInStackTrace", "(I)Ljava/lang/Throwable;"⟩, 6), (⟨"LevelRows", "checkPart", "(II)V"⟩, 10), (⟨"LevelRows", "descendTo", "(I)V"⟩, 10), (⟨"LevelRows", "climbFrom", "(I)I"⟩, 10), (⟨"LevelRows", "kthLeast", "(III)I"⟩, 10), (⟨"LevelRows", "howManyBelow", "(III)I"⟩, 10), (⟨"LevelRows", "listSymbols", "(II)I"⟩, 10), (⟨"LevelRows", "countAhead", "(I)V"⟩, 10), (⟨"LevelRowsModel", "isSymbol", "(I)Z"⟩, 7), (⟨"LevelRowsModel", "isPart", "(II)Z"⟩, 7), (⟨"LevelRowsModel", "gather", "(II)I"⟩, 7)]
theorem lw_r1 : ∀ q ∈ lw_privs_1, lw_okq q := List.forall_mem_cons.mpr ⟨lw_p0, List.forall_mem_cons.mpr ⟨lw_p1, List.forall_mem_cons.mpr ⟨lw_p2, List.forall_mem_cons.mpr ⟨lw_p3, List.forall_mem_cons.mpr ⟨lw_p4, List.forall_mem_cons.mpr ⟨lw_p5, List.forall_mem_cons.mpr ⟨lw_p6, List.forall_mem_cons.mpr ⟨lw_p7, List.forall_mem_cons.mpr ⟨lw_p8, List.forall_mem_cons.mpr ⟨lw_p9, List.forall_mem_cons.mpr ⟨lw_p10, List.forall_mem_cons.mpr ⟨lw_p11, List.forall_mem_cons.mpr ⟨lw_p12, List.forall_mem_cons.mpr ⟨lw_p13, List.forall_mem_cons.mpr ⟨lw_p14, List.forall_mem_cons.mpr ⟨lw_p15, fun _ h => absurd h List.not_mem_nil⟩⟩⟩⟩⟩⟩⟩⟩⟩⟩⟩⟩⟩⟩⟩⟩
theorem lw_p16 : lw_okq (⟨"LevelRowsModel", "levels", "()I"⟩, 7) := ⟨⟨by decide +kernel, by decide +kernel⟩, List.mem_of_getElem? (i := 430) (by decide +kernel), List.mem_of_getElem? (i := 531) (by decide +kernel), List.mem_of_getElem? (i := 532) (by decide +kernel)⟩
def lw_privs_2 : List (MethodName × Nat) := [(⟨"LevelRowsModel", "levels", "()I"⟩, 7)]
theorem lw_r2 : ∀ q ∈ lw_privs_2, lw_okq q := List.forall_mem_cons.mpr ⟨lw_p16, fun _ h => absurd h List.not_mem_nil⟩
def lw_privs : List (MethodName × Nat) := lw_privs_1 ++ (lw_privs_2)
def lw_tbl : List Cond := k2_sels lw_privs ++ tables_1
theorem lw_privs_ok : ∀ q ∈ lw_privs, lw_okq q := by
  show ∀ q ∈ lw_privs_1 ++ (lw_privs_2), lw_okq q
  exact List.forall_mem_append.mpr ⟨lw_r1, lw_r2⟩
end
section
/-! ===== BEGIN words of one list among another's, by their places ===== -/
theorem goodIn_r {big : List Cond} (ws : List Cond) (ps : List Nat) (hp : ws = ps.filterMap (fun i => big[i]?)) (h : ws.all goodWord = true) : GoodIn big ws := by
  intro w hw
  have h1 := List.all_eq_true.mp h w hw
  rw [hp] at hw
  obtain ⟨i, -, hi⟩ := List.mem_filterMap.mp hw
  have hm : w ∈ big := by first | exact List.mem_of_getElem? hi | exact List.getElem?_mem hi
  exact ⟨hm, good_of_word h1⟩
theorem goodIn_app {big a b : List Cond} (ha : GoodIn big a) (hb : GoodIn big b) : GoodIn big (a ++ b) := fun w h => (List.mem_append.mp h).elim (ha w) (hb w)
theorem goodIn_ca {big a b : List Cond} {c : Cond} (ha : GoodIn big (c :: a)) (hb : GoodIn big b) : GoodIn big (c :: (a ++ b)) := fun w h => (List.mem_cons.mp h).elim (fun e => ha w (List.mem_cons.mpr (Or.inl e))) (fun h => (List.mem_append.mp h).elim (fun h => ha w (List.mem_cons.mpr (Or.inr h))) (hb w))
theorem goodIn_sub {big ws : List Cond} (hm : ∀ w ∈ ws, w ∈ big) (h : ws.all goodWord = true) : GoodIn big ws := fun w hw => ⟨hm w hw, good_of_word (List.all_eq_true.mp h w hw)⟩
/-! ===== END ===== -/

/-! ===== BEGIN exceptions that leave a method, and their catching by the caller (launches without stack traces) ===== -/
section VXA
/-! The laws vx_back, vx_callV, vx_callS, vx_callSW, vx_throw0, vx_throwS follow proofs of the library, with one case more: JvmDerived/Free/Laws.lean (Back.of_free), Shelf42/LK1.lean (callV, callS), Shelf/KitTraced.lean (throwNew0V, throwNewS). -/
/-- where a method has thrown q: the class by its name, the cell, what was written, the world -/
def vx_T (XC : String → State → State → Prop) (st : State) (q : Addr) (t : State) (mc ms : Nat) (free : Addr → Prop) : Prop :=
  ∃ (E : String) (ce : Cell) (L : List Loc), XC E st t ∧ t.heap[q]? = some ce ∧ ce.vm = .none ∧ st.vm.findClass E = some ce.cls ∧ st.WarmedH t.vm ∧ st.sameButNew ({ t with vm := st.vm } : State) L mc ms ∧ ∀ z ∈ L, free z.base
def vx_Q (Qc : Array Value → State → Outcome → State → Prop) (XC : String → State → State → Prop) (mc ms : Nat) (free : Addr → Prop) : Array Value → State → Outcome → State → Prop := fun a st o t =>
  (Qc a st o t ∧ ∃ L, FrameEnd st o t L mc ms ∧ ∀ q ∈ L, free q.base) ∨ ∃ q, o = .threw q ∧ vx_T XC st q t mc ms free
/-- a callee that returns or throws -/
def vx_Met (l : Launch) (y : MethodName) (ws : List Cond) (rm : Room) (Pc : Array Value → State → Prop) (Qc : Array Value → State → Outcome → State → Prop) (XC : String → State → State → Prop) (mc ms : Nat) (free : Addr → Prop) : Prop :=
  MetFree l y (headSpec ws rm) Pc (fun _ _ _ _ _ => True) (vx_Q Qc XC mc ms free)
def vx_Post (XC : String → State → State → Prop) (mc ms : Nat) (free : Addr → Prop) : Pt → Array Value → Addr → Pt → Prop := fun A a q B =>
  ∃ (g : JFrame) (mk : MethodId) (t : State) (L : List Loc) (E : String) (ce : Cell), B.U.heap = t.heap ∧ B.U.vm = t.vm ∧ XC E (A.U.calling g mk a) t ∧ t.heap[q]? = some ce ∧ ce.vm = .none ∧ A.U.vm.findClass E = some ce.cls ∧ B.locs = A.locs ++ L ∧ (∀ z ∈ L, free z.base) ∧ B.cells = A.cells + mc ∧ B.slots = A.slots + ms
def vx_Back (l : Launch) (R : Room) (p : Program) (e : Env) (below : List Frame) (s : State) (sargs : Array Value) (y : MethodName) (len W9 : Nat)
    (Pre : Pt → Array Value → Prop) (Post : Pt → Array Value → Option Value → Pt → Prop) (PostX : Pt → Array Value → Addr → Pt → Prop) : Prop :=
  ∀ (m : MethodId) (meth : Method) (c : Code) (A : Pt) (g : JFrame) (ig : Instr) (mk : MethodId) (a : Array Value),
    Stand p l e R s m sargs below meth c A.U A.locs A.cells A.slots → g.method = m → g.locals.size = c.maxLocals → decode c.code g.pc = .ok (ig, len) →
    2 * g.monitorRoom + (g.stack.map fun v => v.category).sum ≤ W9 → A.U.methodNamed? y = some mk → Pre A a →
    (∃ (v : Option Value) (B : Pt), Stand p l e R s m sargs below meth c B.U B.locs B.cells B.slots ∧ Post A a v B ∧
      Steps p.tables e below (doInvoke e (A.U.setTop g) [] mk a).1 (B.U.setTop { g with pc := g.pc + len, stack := v.toList ++ g.stack })) ∨
    (∃ (q : Addr) (B : Pt), Stand p l e R s m sargs below meth c B.U B.locs B.cells B.slots ∧ PostX A a q B ∧
      Steps p.tables e below (doInvoke e (A.U.setTop g) [] mk a).1 ((B.U.setTop g).pushFrame (.throwing q)))
section Payer
variable {l : Launch} {R : Room} {p : Program} {e : Env} {below : List Frame} {s : State} {sargs : Array Value} {y : MethodName} {len W9 : Nat}
theorem vx_back {ws : List Cond} {rm : Room} {Pc : Array Value → State → Prop} {Qc : Array Value → State → Outcome → State → Prop} {XC : String → State → State → Prop} {mc ms : Nat} {free : Addr → Prop} {bytes : ByteArray} {maxL : Nat} {ret : Option FieldType}
    (hM : vx_Met l y ws rm Pc Qc XC mc ms free) (hblind : FrameBlind Pc) (hrc : rm.cells = mc) (hrs : rm.slots = ms)
    (hframes : rm.frames + 1 ≤ R.frames) (hlocals : W9 + (maxL + 11) + rm.locals ≤ R.locals)
    (hws : ∀ w ∈ ws, ∀ a' U, s.WarmedH U.vm → w.before a' U = true) (hcode : Cond.code y bytes maxL ret ∈ ws) (hinit : ∀ a' U, s.WarmedH U.vm → (Cond.initialized y.cls).before a' U = true) :
    vx_Back l R p e below s sargs y len W9 (PreOf R mc ms Pc) (PostOf Qc mc ms free) (vx_Post XC mc ms free) := by
  intro m meth c A g ig mk a X hg hsize hdg hW hn hp
  have h1 : (headSpec ws rm).pre.before a A.U = true := atoms_intro fun w hw => hws w hw _ _ X.warmed
  have h2 : (Cond.code y bytes maxL ret).before a A.U = true := hws _ hcode _ _ X.warmed
  have h3 : (Cond.initialized y.cls).before a A.U = true := hinit _ _ X.warmed
  have h4 : A.cells + (headSpec ws rm).room.cells ≤ R.cells := by rw [show (headSpec ws rm).room.cells = mc from hrc]; exact hp.1
  have h5 : A.slots + (headSpec ws rm).room.slots ≤ R.slots := by rw [show (headSpec ws rm).room.slots = ms from hrs]; exact hp.2.1
  have hPc : Pc a (A.U.calling g mk a) := hblind _ _ _ _ hp.2.2
  obtain ⟨U, Ls, c0, s0⟩ := A
  dsimp only [Pt.U, Pt.locs, Pt.cells, Pt.slots] at h1 h2 h3 h4 h5 X hn hPc ⊢
  obtain ⟨methY, cY, hmY, hcY, -, hlY, -, -, -, -⟩ := Cond.code_spec hn h2
  obtain ⟨kY, hkY, -⟩ := className_of_methodNamed hn
  have hinitY : kY.init = .initialized := Cond.initialized_spec (findClass_of_methodNamed hn) hkY h3
  have h : At U g.method c below := by rw [hg]; exact X.here
  have hlocals9 : W9 + (maxL + 11) + (headSpec ws rm).room.locals ≤ R.locals := hlocals
  have happ : (headSpec ws rm).appliesLoose y e.platform (U.calling g mk a) = true :=
    Spec.appliesLoose_calling (g := g) h hdg hn hkY hinitY
      (X.room_calling (g := g) (R' := (headSpec ws rm).room) hsize hmY hcY hframes (by rw [hlY]; omega) h4 h5) h1
  obtain ⟨mid, hmid⟩ := h.above
  have hfr : (U.setTop g).frames = (.java g :: mid) ++ below := by rw [State.frames_setTop' g h.top, hmid]; rfl
  obtain ⟨o, s₂, hsteps, -, hend, hq⟩ := Steps.callFree hM p X.admits X.cas X.clock (acts := []) hfr happ hPc trivial
  have hq' : vx_Q Qc XC mc ms free a (U.calling g mk a) o s₂ := hq
  rw [State.frames_setTop' g h.top] at hend
  obtain ⟨g₀, hg0⟩ := Option.isSome_iff_exists.mp h.top
  obtain ⟨r, hr⟩ := State.topJava?_eq_some.mp hg0
  have hr' : (({ U with heap := s₂.heap, slotsUsed := s₂.slotsUsed } : State).setVm s₂.vm).frames = .java g₀ :: r := hr
  rcases hq' with ⟨hqc, L, hfe, hL⟩ | ⟨q, rfl, E, ce, L, hx, hce, hcv, hcl, hW₂, hsm, hL⟩
  · obtain ⟨⟨v, rfl⟩, hW₂, e2, q2, q3, q4, q5, q6⟩ := id hfe
    have e3 : s₂ = ({ (U.calling g mk a).setFrames s₂.frames with heap := s₂.heap, slotsUsed := s₂.slotsUsed } : State).setVm s₂.vm := by
      have : s₂ = ({ s₂ with vm := (U.calling g mk a).vm } : State).setVm s₂.vm := rfl
      rw [e2] at this
      exact this
    obtain ⟨c₂, i₂, len₂, hc₂, hd₂, hf₂⟩ := hend
    have hW' : U.WarmedH s₂.vm := hW₂
    have hcc : c₂ = c := by
      have h1 : s₂.code? g.method = U.code? g.method := by
        rw [State.code?_eq, State.code?_eq, hW'.alike.method?]
      exact Option.some.inj (hc₂.symm.trans (h1.trans h.code))
    subst hcc
    have hlen : len₂ = len := by rw [hdg] at hd₂; cases hd₂; rfl
    subst hlen
    have hs₂ : s₂ = (({ U with heap := s₂.heap, slotsUsed := s₂.slotsUsed } : State).setVm s₂.vm).setTop { g with pc := g.pc + len₂, stack := v.toList ++ g.stack } := by
      refine e3.trans ?_
      rw [hf₂, State.calling_eq h.top, State.setFrames_setFrames, State.setTop_of_frames _ hr', hr]
      rfl
    have hsame : U.sameButNew ({ U with heap := s₂.heap, slotsUsed := s₂.slotsUsed } : State) L mc ms := by
      refine ⟨?_, q2, q3, q4, q5, q6⟩
      obtain ⟨t, ht, -⟩ := State.frames_cons hr
      show ({ U with heap := s₂.heap, slotsUsed := s₂.slotsUsed } : State) = { U.setFrames U.frames with heap := s₂.heap, slotsUsed := s₂.slotsUsed }
      rw [State.setFrames_self ht]
    subst hg
    refine Or.inl ⟨v, ⟨(({ U with heap := s₂.heap, slotsUsed := s₂.slotsUsed } : State).setVm s₂.vm), Ls ++ L, c0 + mc, s0 + ms⟩,
      ⟨X.admits, X.cas, X.clock, X.frames, X.room, X.hears, X.method, X.code, (X.here.setHeapUsed s₂.heap s₂.slotsUsed).setVm hW'.alike, X.tail, State.WarmedH.trans X.warmed hW', X.limits, X.bytes, X.same.trans (hsame.setVm s.vm)⟩,
      ⟨g, mk, s₂, L, rfl, rfl, hqc, rfl, hL, rfl, rfl⟩, ?_⟩
    show Steps p.tables e below _ ((({ U with heap := s₂.heap, slotsUsed := s₂.slotsUsed } : State).setVm s₂.vm).setTop { g with pc := g.pc + len₂, stack := v.toList ++ g.stack })
    rw [← hs₂]
    exact hsteps
  · obtain ⟨e2, q2, q3, q4, q5, q6⟩ := id hsm
    have e3 : s₂ = ({ (U.calling g mk a).setFrames s₂.frames with heap := s₂.heap, slotsUsed := s₂.slotsUsed } : State).setVm s₂.vm := by
      have : s₂ = ({ s₂ with vm := (U.calling g mk a).vm } : State).setVm s₂.vm := rfl
      rw [e2] at this
      exact this
    have hf₂ : s₂.frames = .throwing q :: .java g :: U.frames.tail := hend
    have hW' : U.WarmedH s₂.vm := hW₂
    have hs₂ : s₂ = ((({ U with heap := s₂.heap, slotsUsed := s₂.slotsUsed } : State).setVm s₂.vm).setTop g).pushFrame (.throwing q) := by
      refine e3.trans ?_
      rw [hf₂, State.calling_eq h.top, State.setFrames_setFrames, State.pushFrame, State.frames_setTop _ hr', State.setTop_of_frames _ hr', State.setFrames_setFrames, hr]
      rfl
    have hsame : U.sameButNew ({ U with heap := s₂.heap, slotsUsed := s₂.slotsUsed } : State) L mc ms := by
      refine ⟨?_, q2, q3, q4, q5, q6⟩
      obtain ⟨t, ht, -⟩ := State.frames_cons hr
      show ({ U with heap := s₂.heap, slotsUsed := s₂.slotsUsed } : State) = { U.setFrames U.frames with heap := s₂.heap, slotsUsed := s₂.slotsUsed }
      rw [State.setFrames_self ht]
    subst hg
    refine Or.inr ⟨q, ⟨(({ U with heap := s₂.heap, slotsUsed := s₂.slotsUsed } : State).setVm s₂.vm), Ls ++ L, c0 + mc, s0 + ms⟩,
      ⟨X.admits, X.cas, X.clock, X.frames, X.room, X.hears, X.method, X.code, (X.here.setHeapUsed s₂.heap s₂.slotsUsed).setVm hW'.alike, X.tail, State.WarmedH.trans X.warmed hW', X.limits, X.bytes, X.same.trans (hsame.setVm s.vm)⟩,
      ⟨g, mk, s₂, L, E, ce, rfl, rfl, hx, hce, hcv, hcl, rfl, hL, rfl, rfl⟩, ?_⟩
    show Steps p.tables e below _ (((({ U with heap := s₂.heap, slotsUsed := s₂.slotsUsed } : State).setVm s₂.vm).setTop g).pushFrame (.throwing q))
    rw [← hs₂]
    exact hsteps
end Payer
section Calls
variable {p : Program} {l : Launch} {e : Env} {R : Room} {s : State} {m : MethodId} {args : Array Value} {below : List Frame} {meth : Method} {c : Code} {T : State} {locs : List Loc} {cells slots : Nat}
theorem vx_callV (X : Stand p l e R s m args below meth c T locs cells slots) (hexec : p.tables.exec = Jvm.exec) {own C : String} {index : Nat} {y : MethodName} {bytes : ByteArray} {maxL : Nat} {ret : Option FieldType}
    (hown : s.vm.findClass own = some m.cls) (hlink : (Cond.methodLink own index y).before args s = true) (hinst : (Cond.instanceMethod y).before args s = true) (hsel : (Cond.selects C y y).before args s = true)
    (hcode : (Cond.code y bytes maxL ret).before args s = true) (hy : y.cls ≠ "java/lang/invoke/MethodHandle" ∧ y.cls ≠ "java/lang/invoke/VarHandle")
    {W9 : Nat} {Pre : Pt → Array Value → Prop} {Post : Pt → Array Value → Option Value → Pt → Prop} {PostX : Pt → Array Value → Addr → Pt → Prop} (hK : vx_Back l R p e below s args y 3 W9 Pre Post PostX)
    {b : Addr} {cellB : Cell} (hcell : T.heap[b]? = some cellB) (hobj : cellB.vm.isStatics = false) (hcls : s.vm.findClass C = some cellB.cls)
    {g : JFrame} (hg : g.method = m) (hsize : g.locals.size = c.maxLocals) {argsL rest : List Value} (hlen : ∀ sig, parseMethodDescriptor y.desc = some sig → argsL.length = sig.parameters.length)
    (hstack : g.stack = argsL.reverse ++ .ref b :: rest) (hW : 2 * g.monitorRoom + (rest.map fun v => v.category).sum ≤ W9) (hdg : decode c.code g.pc = .ok (.invokevirtual index, 3))
    (hpre : ∀ vm₁, s.WarmedH vm₁ → Pre ⟨T.setVm vm₁, locs, cells, slots⟩ (Value.ref b :: argsL).toArray) :
    (∃ (v : Option Value) (vm₁ : Vm) (B : Pt), s.WarmedH vm₁ ∧ Stand p l e R s m args below meth c B.U B.locs B.cells B.slots ∧ Post ⟨T.setVm vm₁, locs, cells, slots⟩ (Value.ref b :: argsL).toArray v B ∧
      ∀ target, Steps p.tables e below (B.U.setTop { g with pc := g.pc + 3, stack := v.toList ++ rest }) target → Steps p.tables e below (T.setTop g) target) ∨
    (∃ (q : Addr) (vm₁ : Vm) (B : Pt), s.WarmedH vm₁ ∧ Stand p l e R s m args below meth c B.U B.locs B.cells B.slots ∧ PostX ⟨T.setVm vm₁, locs, cells, slots⟩ (Value.ref b :: argsL).toArray q B ∧
      Steps p.tables e below (T.setTop g) ((B.U.setTop { g with stack := rest }).pushFrame (.throwing q))) := by
  obtain ⟨mk, methM, hnamed, hmethM, hstM, habM⟩ := Cond.instanceMethod_spec hinst
  obtain ⟨methM', cM, hmethM', -, -, -, -, -, -, hsigM⟩ := Cond.code_spec hnamed hcode
  cases hmethM.symm.trans hmethM'
  obtain ⟨c2, r2, m2, q1, q2, q3, q4, kP, hkP, hkPi⟩ := Cond.selects_spec hsel
  cases hcls.symm.trans q1
  cases (State.methodFound?_of_named hnamed hy).symm.trans q2
  cases hnamed.symm.trans q3
  have hselP : selectMethod e.platform s.vm cellB.cls mk = .method mk := by rw [Launch.admits_selectMethod X.admits]; exact q4
  obtain ⟨vm₁, X₁, hstep₁⟩ := X.invokevirtual hexec hown hlink hnamed hmethM hstM hkP hkPi hy (a := b) (cell := cellB) hcell
    (fun z h => by rw [h] at hobj; cases hobj) hselP hmethM habM hkP hkPi (g := g) hg (argsL := argsL) (rest := rest) (hlen _ hsigM) hstack hdg
  rcases hK m meth c ⟨T.setVm vm₁, locs, cells, slots⟩ { g with stack := rest } (.invokevirtual index) mk (Value.ref b :: argsL).toArray X₁ hg hsize hdg hW (X₁.named hnamed) (hpre vm₁ X₁.warmed) with ⟨v, B, X', hpost, hsteps⟩ | ⟨q, B, X', hpost, hsteps⟩
  · exact Or.inl ⟨v, vm₁, B, X₁.warmed, X', hpost, fun target h => hstep₁ _ fun acts => by rw [doInvoke_state]; exact hsteps.trans h⟩
  · exact Or.inr ⟨q, vm₁, B, X₁.warmed, X', hpost, hstep₁ _ fun acts => by rw [doInvoke_state]; exact hsteps⟩
theorem vx_callS (X : Stand p l e R s m args below meth c T locs cells slots) (hexec : p.tables.exec = Jvm.exec) {own : String} {index : Nat} {y : MethodName} {bytes : ByteArray} {maxL : Nat} {ret : Option FieldType}
    (hown : s.vm.findClass own = some m.cls) (hlink : (Cond.methodLink own index y).before args s = true) (hstat : (Cond.static y).before args s = true) (hinit : (Cond.initialized y.cls).before args s = true)
    (hcode : (Cond.code y bytes maxL ret).before args s = true) (hy : y.cls ≠ "java/lang/invoke/MethodHandle" ∧ y.cls ≠ "java/lang/invoke/VarHandle")
    {W9 : Nat} {Pre : Pt → Array Value → Prop} {Post : Pt → Array Value → Option Value → Pt → Prop} {PostX : Pt → Array Value → Addr → Pt → Prop} (hK : vx_Back l R p e below s args y 3 W9 Pre Post PostX)
    {g : JFrame} (hg : g.method = m) (hsize : g.locals.size = c.maxLocals) {argsL rest : List Value} (hlen : ∀ sig, parseMethodDescriptor y.desc = some sig → argsL.length = sig.parameters.length)
    (hstack : g.stack = argsL.reverse ++ rest) (hW : 2 * g.monitorRoom + (rest.map fun v => v.category).sum ≤ W9) (hdg : decode c.code g.pc = .ok (.invokestatic index, 3))
    (hpre : ∀ vm₁, s.WarmedH vm₁ → Pre ⟨T.setVm vm₁, locs, cells, slots⟩ argsL.toArray) :
    (∃ (v : Option Value) (vm₁ : Vm) (B : Pt), s.WarmedH vm₁ ∧ Stand p l e R s m args below meth c B.U B.locs B.cells B.slots ∧ Post ⟨T.setVm vm₁, locs, cells, slots⟩ argsL.toArray v B ∧
      ∀ target, Steps p.tables e below (B.U.setTop { g with pc := g.pc + 3, stack := v.toList ++ rest }) target → Steps p.tables e below (T.setTop g) target) ∨
    (∃ (q : Addr) (vm₁ : Vm) (B : Pt), s.WarmedH vm₁ ∧ Stand p l e R s m args below meth c B.U B.locs B.cells B.slots ∧ PostX ⟨T.setVm vm₁, locs, cells, slots⟩ argsL.toArray q B ∧
      Steps p.tables e below (T.setTop g) ((B.U.setTop { g with stack := rest }).pushFrame (.throwing q))) := by
  obtain ⟨mk, hnamed⟩ := Cond.code_named hcode
  obtain ⟨methM, cM, hmethM, -, -, -, -, -, -, hsigM⟩ := Cond.code_spec hnamed hcode
  have hstatic : methM.isStatic = true := Cond.static_spec hnamed hmethM hstat
  obtain ⟨kP, hkP, -⟩ := className_of_methodNamed hnamed
  have hinitP : kP.init = .initialized := Cond.initialized_spec (findClass_of_methodNamed hnamed) hkP hinit
  obtain ⟨vm₁, X₁, hstep₁⟩ := X.invokestatic hexec hown hlink hnamed hmethM hstatic hkP hinitP hy (g := g) hg (argsL := argsL) (rest := rest) (hlen _ hsigM) hstack hdg
  rcases hK m meth c ⟨T.setVm vm₁, locs, cells, slots⟩ { g with stack := rest } (.invokestatic index) mk argsL.toArray X₁ hg hsize hdg hW (X₁.named hnamed) (hpre vm₁ X₁.warmed) with ⟨v, B, X', hpost, hsteps⟩ | ⟨q, B, X', hpost, hsteps⟩
  · exact Or.inl ⟨v, vm₁, B, X₁.warmed, X', hpost, fun target h => hstep₁ _ fun acts => by rw [doInvoke_state]; exact hsteps.trans h⟩
  · exact Or.inr ⟨q, vm₁, B, X₁.warmed, X', hpost, hstep₁ _ fun acts => by rw [doInvoke_state]; exact hsteps⟩
end Calls
theorem vx_cls {s : State} {T : State} {vm₁ : Vm} {E : String} {k : ClassId} (hW : s.WarmedH vm₁) (h : (T.setVm vm₁).vm.findClass E = some k) : s.vm.findClass E = some k := by
  have h1 : vm₁.findClass E = some k := h
  rw [hW.alike.findClass] at h1
  exact h1
/-- the method's frame g, with q thrown over it -/
def vx_W (p : Program) (l : Launch) (e : Env) (R : Room) (s : State) (m : MethodId) (args : Array Value) (below : List Frame) (meth : Method) (c : Code) (H : Heap) (locs : List Loc) (cells slots : Nat) (Q : State → Prop) (g : JFrame) (q : Addr) : Prop :=
  ∀ T : State, T.heap = H → Stand p l e R s m args below meth c T locs cells slots → ∃ t, Steps p.tables e below ((T.setTop g).pushFrame (.throwing q)) t ∧ Q t
def vx_Run (p : Program) (l : Launch) (e : Env) (R : Room) (s : State) (m : MethodId) (args : Array Value) (below : List Frame) (meth : Method) (c : Code) (H : Heap) (locs : List Loc) (cells slots mc ms : Nat) (g : JFrame) (rest : List Value) (Qa : State → Outcome → State → Prop) (XC : String → State → State → Prop) (free : Addr → Prop) : Prop :=
  ∀ T : State, T.heap = H → Stand p l e R s m args below meth c T locs cells slots →
    (∃ (v : Option Value) (st₀ t T' : State) (L : List Loc), st₀.heap = H ∧ Stand p l e R s m args below meth c T' (locs ++ L) (cells + mc) (slots + ms) ∧ (∀ q ∈ L, free q.base) ∧ T'.heap = t.heap ∧ T'.vm = t.vm ∧ Qa st₀ (.returned v) t ∧
      Goes p e below T g T' { g with pc := g.pc + 3, stack := v.toList ++ rest }) ∨
    (∃ (q : Addr) (st₀ t T' : State) (L : List Loc) (E : String) (ce : Cell), st₀.heap = H ∧ Stand p l e R s m args below meth c T' (locs ++ L) (cells + mc) (slots + ms) ∧ (∀ z ∈ L, free z.base) ∧ T'.heap = t.heap ∧ T'.vm = t.vm ∧ XC E st₀ t ∧ t.heap[q]? = some ce ∧ ce.vm = .none ∧ s.vm.findClass E = some ce.cls ∧
      Steps p.tables e below (T.setTop g) ((T'.setTop { g with stack := rest }).pushFrame (.throwing q)))
def vx_X {S : Type} (px : S → Prop) (B : String → S → State → Prop) (A : Nat → Prop) : String → State → State → Prop := fun E st t => ∃ u : S, px u ∧ B E u t ∧ va_F A st t
section Runs
variable {p : Program} {l : Launch} {e : Env} {R : Room} {s : State} {m : MethodId} {args : Array Value} {below : List Frame} {meth : Method} {c : Code} {H : Heap} {locs : List Loc} {cells slots : Nat}
variable {y : MethodName} {bytes cc : ByteArray} {maxL nL mc ms n index : Nat} {ret : Option FieldType} {ws : List Cond} {rm : Room} {Pc : Array Value → State → Prop} {Qc : Array Value → State → Outcome → State → Prop} {XC : String → State → State → Prop} {free : Addr → Prop} {Ts : List Cond} {own C : String} {b : Addr} {As rest : List Value} {g : JFrame}
theorem vx_callBack (cb : CallB R s args own index y bytes maxL ret ws rm mc ms n) (hM : vx_Met l y ws rm Pc Qc XC mc ms free) (hbl : FrameBlind Pc) : vx_Back l R p e below s args y 3 8 (PreOf R mc ms Pc) (PostOf Qc mc ms free) (vx_Post XC mc ms free) := by
  obtain ⟨hrc, hrs, hfr, hlo, hws, hcw, -, hini, -⟩ := cb
  exact vx_back (bytes := bytes) (maxL := maxL) (ret := ret) hM hbl hrc hrs hfr hlo hws hcw (fun a' U hW => word_at hW (Or.inl (by first | rfl | simp [Cond.onTables, Cond.keeps, Cond.steady])) hini)
theorem vx_runV (S : CallFix p m c cc nL s args Ts own) (hM : vx_Met l y ws rm Pc Qc XC mc ms free) (cw : CallW R s args own C index y bytes maxL ret ws rm mc ms n) (hp : PreV s H C b Pc As)
    (hg : g.method = m) (hn : As.length = n) (hsize : g.locals.size = nL) (hstack : g.stack = As.reverse ++ .ref b :: rest) (hW : 2 * g.monitorRoom + (rest.map fun v => v.category).sum ≤ 8) (hdg : decode cc g.pc = .ok (.invokevirtual index, 3)) (hf : cells + mc ≤ R.cells ∧ slots + ms ≤ R.slots) :
    vx_Run p l e R s m args below meth c H locs cells slots mc ms g rest (Qc (Value.ref b :: As).toArray) XC free := by
  have hK : vx_Back l R p e below s args y 3 8 (PreOf R mc ms Pc) (PostOf Qc mc ms free) (vx_Post XC mc ms free) := vx_callBack cw.1 hM hp.1
  obtain ⟨⟨-, -, -, -, -, -, hcode, -, hy, hlen, hl⟩, hin, hse⟩ := cw
  obtain ⟨hx, hb, hml, ho, -⟩ := S
  obtain ⟨-, ⟨cellB, hcB, hoB, hclB⟩, hPc⟩ := hp
  intro T hT X
  rcases vx_callV X hx (C := C) (bytes := bytes) (maxL := maxL) (ret := ret) ho hl hin hse hcode hy hK (by rw [hT]; exact hcB) hoB hclB hg (hsize.trans hml.symm) (argsL := As) (rest := rest) (fun sig h => hn.trans (hlen sig h)) hstack hW (by rw [hb]; exact hdg)
    (fun vm₁ hW₁ => ⟨hf.1, hf.2, hPc (T.setVm vm₁) hT hW₁⟩) with ⟨v, vm₁, ⟨U', l2, c2, s2⟩, hW₁, X', ⟨g', mk, t, L, e1, e2, hq, h1, hL, h2, h3⟩, st⟩ | ⟨q, vm₁, ⟨U', l2, c2, s2⟩, hW₁, X', ⟨g', mk, t, L, E, ce, e1, e2, hq, hce, hcv, hcl, h1, hL, h2, h3⟩, st⟩
  · dsimp only [Pt.U, Pt.locs, Pt.cells, Pt.slots] at X' e1 e2 h1 h2 h3 st
    subst h1; subst h2; subst h3
    exact Or.inl ⟨v, (T.setVm vm₁).calling g' mk (Value.ref b :: As).toArray, t, U', L, hT, X', hL, e1, e2, hq, st⟩
  · dsimp only [Pt.U, Pt.locs, Pt.cells, Pt.slots] at X' e1 e2 h1 h2 h3 st hcl
    subst h1; subst h2; subst h3
    exact Or.inr ⟨q, (T.setVm vm₁).calling g' mk (Value.ref b :: As).toArray, t, U', L, E, ce, hT, X', hL, e1, e2, hq, hce, hcv, vx_cls hW₁ hcl, st⟩
theorem vx_runS (S : CallFix p m c cc nL s args Ts own) (hM : vx_Met l y ws rm Pc Qc XC mc ms free) (cw : CallB R s args own index y bytes maxL ret ws rm mc ms n ∧ (Cond.static y).before args s = true) (hp : PreS s H Pc As)
    (hg : g.method = m) (hn : As.length = n) (hsize : g.locals.size = nL) (hstack : g.stack = As.reverse ++ rest) (hW : 2 * g.monitorRoom + (rest.map fun v => v.category).sum ≤ 8) (hdg : decode cc g.pc = .ok (.invokestatic index, 3)) (hf : cells + mc ≤ R.cells ∧ slots + ms ≤ R.slots) :
    vx_Run p l e R s m args below meth c H locs cells slots mc ms g rest (Qc As.toArray) XC free := by
  have hK : vx_Back l R p e below s args y 3 8 (PreOf R mc ms Pc) (PostOf Qc mc ms free) (vx_Post XC mc ms free) := vx_callBack cw.1 hM hp.1
  obtain ⟨⟨-, -, -, -, -, -, hcode, hini, hy, hlen, hl⟩, hstt⟩ := cw
  obtain ⟨hx, hb, hml, ho, -⟩ := S
  intro T hT X
  rcases vx_callS X hx (bytes := bytes) (maxL := maxL) (ret := ret) ho hl hstt hini hcode hy hK hg (hsize.trans hml.symm) (argsL := As) (rest := rest) (fun sig h => hn.trans (hlen sig h)) hstack hW (by rw [hb]; exact hdg)
    (fun vm₁ hW₁ => ⟨hf.1, hf.2, hp.2 (T.setVm vm₁) hT hW₁⟩) with ⟨v, vm₁, ⟨U', l2, c2, s2⟩, hW₁, X', ⟨g', mk, t, L, e1, e2, hq, h1, hL, h2, h3⟩, st⟩ | ⟨q, vm₁, ⟨U', l2, c2, s2⟩, hW₁, X', ⟨g', mk, t, L, E, ce, e1, e2, hq, hce, hcv, hcl, h1, hL, h2, h3⟩, st⟩
  · dsimp only [Pt.U, Pt.locs, Pt.cells, Pt.slots] at X' e1 e2 h1 h2 h3 st
    subst h1; subst h2; subst h3
    exact Or.inl ⟨v, (T.setVm vm₁).calling g' mk As.toArray, t, U', L, hT, X', hL, e1, e2, hq, st⟩
  · dsimp only [Pt.U, Pt.locs, Pt.cells, Pt.slots] at X' e1 e2 h1 h2 h3 st hcl
    subst h1; subst h2; subst h3
    exact Or.inr ⟨q, (T.setVm vm₁).calling g' mk As.toArray, t, U', L, E, ce, hT, X', hL, e1, e2, hq, hce, hcv, vx_cls hW₁ hcl, st⟩
end Runs
section Rows
variable {p : Program} {l : Launch} {e : Env} {R : Room} {s : State} {m : MethodId} {args : Array Value} {below : List Frame} {meth : Method} {c : Code} {H : Heap} {locs : List Loc} {cells slots : Nat} {Q : State → Prop}
variable {mc ms : Nat} {free : Addr → Prop} {A0 A1 : Nat → Prop} {H0 : Heap} {a : Array Value} {pc : Nat} {ls : Array Slot} {st0 rest : List Value}
theorem vx_keep {st₀ t T' : State} {L : List Loc} (h0 : st₀.heap = H) (e1 : T'.heap = t.heap) (hS : va_S A0 H0 H locs) (hA : ∀ q, q < H.size → A1 q → A0 q) (hf : ∀ q, free q → A0 q) (hL : ∀ q ∈ L, free q.base) (hF : va_F A1 st₀ t) :
    H.size ≤ T'.heap.size ∧ (∀ q : Nat, q < H.size → ¬ A1 q → T'.heap[q]? = H[q]?) ∧ va_S A0 H0 T'.heap (locs ++ L) := by
  obtain ⟨hz, hk⟩ := hF
  rw [h0] at hz hk
  exact ⟨by rw [e1]; exact hz, fun q h1 h2 => by rw [e1]; exact hk q h1 h2,
    ⟨Nat.le_trans hS.1 (by rw [e1]; exact hz), fun q h1 h2 => by rw [e1, hk q (Nat.lt_of_lt_of_le h1 hS.1) (fun z => h2 (hA q (Nat.lt_of_lt_of_le h1 hS.1) z))]; exact hS.2.1 q h1 h2, fun q hq => by
      rcases List.mem_append.mp hq with h | h
      · exact hS.2.2 q h
      · exact hf _ (hL q h)⟩⟩
theorem vx_calli {S SX : Type} {post : Int32 → S → Prop} {px : SX → Prop} {B : S → State → Prop} {BX : String → SX → State → Prop} {AX : Nat → Prop} (hr : vx_Run p l e R s m args below meth c H locs cells slots mc ms (F0 m pc ls st0) rest (va_Qi post B A1 a) (vx_X px BX AX) free) (hS : va_S A0 H0 H locs) (hA : ∀ q, q < H.size → A1 q → A0 q) (hf : ∀ q, free q → A0 q) (hAX : ∀ q, q < H.size → AX q → A0 q)
    (kx : ∀ (E : String) (ce : Cell) (q9 : Addr) (u : SX) (t : State) (H1 : Heap) (locs1 : List Loc), t.heap = H1 → s.vm.Alike t.vm → px u → BX E u t → H.size ≤ H1.size → (∀ q : Nat, q < H.size → ¬ AX q → H1[q]? = H[q]?) → va_S A0 H0 H1 locs1 → H1[q9]? = some ce → ce.vm = .none → s.vm.findClass E = some ce.cls → vx_W p l e R s m args below meth c H1 locs1 (cells + mc) (slots + ms) Q (F0 m pc ls rest) q9)
    (kk : ∀ (r : Int32) (u : S) (t : State) (H1 : Heap) (locs1 : List Loc), t.heap = H1 → s.vm.Alike t.vm → post r u → B u t → H.size ≤ H1.size → (∀ q : Nat, q < H.size → ¬ A1 q → H1[q]? = H[q]?) → va_S A0 H0 H1 locs1 → W p l e R s m args below meth c H1 locs1 (cells + mc) (slots + ms) Q (F0 m (pc + 3) ls (.int r :: rest))) : W p l e R s m args below meth c H locs cells slots Q (F0 m pc ls st0) := by
  intro T hT X
  rcases hr T hT X with ⟨v, st₀, t, T', L, h0, X', hL, e1, e2, ⟨⟨r, u, hv, hp, hb⟩, hF⟩, st⟩ | ⟨q, st₀, t, T', L, E, ce, h0, X', hL, e1, e2, ⟨u, hp, hb, hF⟩, hce, hcv, hcl, st⟩
  · cases hv
    obtain ⟨k1, k2, k3⟩ := vx_keep h0 e1 hS hA hf hL hF
    obtain ⟨t2, a1, b1⟩ := kk r u t T'.heap (locs ++ L) e1.symm (by rw [← e2]; exact X'.warmed.alike) hp hb k1 k2 k3 T' rfl X'
    exact ⟨t2, st t2 a1, b1⟩
  · obtain ⟨k1, k2, k3⟩ := vx_keep h0 e1 hS hAX hf hL hF
    obtain ⟨t2, a1, b1⟩ := kx E ce q u t T'.heap (locs ++ L) e1.symm (by rw [← e2]; exact X'.warmed.alike) hp hb k1 k2 k3 (by rw [e1]; exact hce) hcv hcl T' rfl X'
    exact ⟨t2, st.trans a1, b1⟩
theorem vx_calll {S SX : Type} {post : Int64 → S → Prop} {px : SX → Prop} {B : S → State → Prop} {BX : String → SX → State → Prop} {AX : Nat → Prop} (hr : vx_Run p l e R s m args below meth c H locs cells slots mc ms (F0 m pc ls st0) rest (va_Ql post B A1 a) (vx_X px BX AX) free) (hS : va_S A0 H0 H locs) (hA : ∀ q, q < H.size → A1 q → A0 q) (hf : ∀ q, free q → A0 q) (hAX : ∀ q, q < H.size → AX q → A0 q)
    (kx : ∀ (E : String) (ce : Cell) (q9 : Addr) (u : SX) (t : State) (H1 : Heap) (locs1 : List Loc), t.heap = H1 → s.vm.Alike t.vm → px u → BX E u t → H.size ≤ H1.size → (∀ q : Nat, q < H.size → ¬ AX q → H1[q]? = H[q]?) → va_S A0 H0 H1 locs1 → H1[q9]? = some ce → ce.vm = .none → s.vm.findClass E = some ce.cls → vx_W p l e R s m args below meth c H1 locs1 (cells + mc) (slots + ms) Q (F0 m pc ls rest) q9)
    (kk : ∀ (r : Int64) (u : S) (t : State) (H1 : Heap) (locs1 : List Loc), t.heap = H1 → s.vm.Alike t.vm → post r u → B u t → H.size ≤ H1.size → (∀ q : Nat, q < H.size → ¬ A1 q → H1[q]? = H[q]?) → va_S A0 H0 H1 locs1 → W p l e R s m args below meth c H1 locs1 (cells + mc) (slots + ms) Q (F0 m (pc + 3) ls (.long r :: rest))) : W p l e R s m args below meth c H locs cells slots Q (F0 m pc ls st0) := by
  intro T hT X
  rcases hr T hT X with ⟨v, st₀, t, T', L, h0, X', hL, e1, e2, ⟨⟨r, u, hv, hp, hb⟩, hF⟩, st⟩ | ⟨q, st₀, t, T', L, E, ce, h0, X', hL, e1, e2, ⟨u, hp, hb, hF⟩, hce, hcv, hcl, st⟩
  · cases hv
    obtain ⟨k1, k2, k3⟩ := vx_keep h0 e1 hS hA hf hL hF
    obtain ⟨t2, a1, b1⟩ := kk r u t T'.heap (locs ++ L) e1.symm (by rw [← e2]; exact X'.warmed.alike) hp hb k1 k2 k3 T' rfl X'
    exact ⟨t2, st t2 a1, b1⟩
  · obtain ⟨k1, k2, k3⟩ := vx_keep h0 e1 hS hAX hf hL hF
    obtain ⟨t2, a1, b1⟩ := kx E ce q u t T'.heap (locs ++ L) e1.symm (by rw [← e2]; exact X'.warmed.alike) hp hb k1 k2 k3 (by rw [e1]; exact hce) hcv hcl T' rfl X'
    exact ⟨t2, st.trans a1, b1⟩
theorem vx_callf {S SX : Type} {post : UInt32 → S → Prop} {px : SX → Prop} {B : S → State → Prop} {BX : String → SX → State → Prop} {AX : Nat → Prop} (hr : vx_Run p l e R s m args below meth c H locs cells slots mc ms (F0 m pc ls st0) rest (va_Qf post B A1 a) (vx_X px BX AX) free) (hS : va_S A0 H0 H locs) (hA : ∀ q, q < H.size → A1 q → A0 q) (hf : ∀ q, free q → A0 q) (hAX : ∀ q, q < H.size → AX q → A0 q)
    (kx : ∀ (E : String) (ce : Cell) (q9 : Addr) (u : SX) (t : State) (H1 : Heap) (locs1 : List Loc), t.heap = H1 → s.vm.Alike t.vm → px u → BX E u t → H.size ≤ H1.size → (∀ q : Nat, q < H.size → ¬ AX q → H1[q]? = H[q]?) → va_S A0 H0 H1 locs1 → H1[q9]? = some ce → ce.vm = .none → s.vm.findClass E = some ce.cls → vx_W p l e R s m args below meth c H1 locs1 (cells + mc) (slots + ms) Q (F0 m pc ls rest) q9)
    (kk : ∀ (r : UInt32) (u : S) (t : State) (H1 : Heap) (locs1 : List Loc), t.heap = H1 → s.vm.Alike t.vm → post r u → B u t → H.size ≤ H1.size → (∀ q : Nat, q < H.size → ¬ A1 q → H1[q]? = H[q]?) → va_S A0 H0 H1 locs1 → W p l e R s m args below meth c H1 locs1 (cells + mc) (slots + ms) Q (F0 m (pc + 3) ls (.float r :: rest))) : W p l e R s m args below meth c H locs cells slots Q (F0 m pc ls st0) := by
  intro T hT X
  rcases hr T hT X with ⟨v, st₀, t, T', L, h0, X', hL, e1, e2, ⟨⟨r, u, hv, hp, hb⟩, hF⟩, st⟩ | ⟨q, st₀, t, T', L, E, ce, h0, X', hL, e1, e2, ⟨u, hp, hb, hF⟩, hce, hcv, hcl, st⟩
  · cases hv
    obtain ⟨k1, k2, k3⟩ := vx_keep h0 e1 hS hA hf hL hF
    obtain ⟨t2, a1, b1⟩ := kk r u t T'.heap (locs ++ L) e1.symm (by rw [← e2]; exact X'.warmed.alike) hp hb k1 k2 k3 T' rfl X'
    exact ⟨t2, st t2 a1, b1⟩
  · obtain ⟨k1, k2, k3⟩ := vx_keep h0 e1 hS hAX hf hL hF
    obtain ⟨t2, a1, b1⟩ := kx E ce q u t T'.heap (locs ++ L) e1.symm (by rw [← e2]; exact X'.warmed.alike) hp hb k1 k2 k3 (by rw [e1]; exact hce) hcv hcl T' rfl X'
    exact ⟨t2, st.trans a1, b1⟩
theorem vx_calld {S SX : Type} {post : UInt64 → S → Prop} {px : SX → Prop} {B : S → State → Prop} {BX : String → SX → State → Prop} {AX : Nat → Prop} (hr : vx_Run p l e R s m args below meth c H locs cells slots mc ms (F0 m pc ls st0) rest (va_Qd post B A1 a) (vx_X px BX AX) free) (hS : va_S A0 H0 H locs) (hA : ∀ q, q < H.size → A1 q → A0 q) (hf : ∀ q, free q → A0 q) (hAX : ∀ q, q < H.size → AX q → A0 q)
    (kx : ∀ (E : String) (ce : Cell) (q9 : Addr) (u : SX) (t : State) (H1 : Heap) (locs1 : List Loc), t.heap = H1 → s.vm.Alike t.vm → px u → BX E u t → H.size ≤ H1.size → (∀ q : Nat, q < H.size → ¬ AX q → H1[q]? = H[q]?) → va_S A0 H0 H1 locs1 → H1[q9]? = some ce → ce.vm = .none → s.vm.findClass E = some ce.cls → vx_W p l e R s m args below meth c H1 locs1 (cells + mc) (slots + ms) Q (F0 m pc ls rest) q9)
    (kk : ∀ (r : UInt64) (u : S) (t : State) (H1 : Heap) (locs1 : List Loc), t.heap = H1 → s.vm.Alike t.vm → post r u → B u t → H.size ≤ H1.size → (∀ q : Nat, q < H.size → ¬ A1 q → H1[q]? = H[q]?) → va_S A0 H0 H1 locs1 → W p l e R s m args below meth c H1 locs1 (cells + mc) (slots + ms) Q (F0 m (pc + 3) ls (.double r :: rest))) : W p l e R s m args below meth c H locs cells slots Q (F0 m pc ls st0) := by
  intro T hT X
  rcases hr T hT X with ⟨v, st₀, t, T', L, h0, X', hL, e1, e2, ⟨⟨r, u, hv, hp, hb⟩, hF⟩, st⟩ | ⟨q, st₀, t, T', L, E, ce, h0, X', hL, e1, e2, ⟨u, hp, hb, hF⟩, hce, hcv, hcl, st⟩
  · cases hv
    obtain ⟨k1, k2, k3⟩ := vx_keep h0 e1 hS hA hf hL hF
    obtain ⟨t2, a1, b1⟩ := kk r u t T'.heap (locs ++ L) e1.symm (by rw [← e2]; exact X'.warmed.alike) hp hb k1 k2 k3 T' rfl X'
    exact ⟨t2, st t2 a1, b1⟩
  · obtain ⟨k1, k2, k3⟩ := vx_keep h0 e1 hS hAX hf hL hF
    obtain ⟨t2, a1, b1⟩ := kx E ce q u t T'.heap (locs ++ L) e1.symm (by rw [← e2]; exact X'.warmed.alike) hp hb k1 k2 k3 (by rw [e1]; exact hce) hcv hcl T' rfl X'
    exact ⟨t2, st.trans a1, b1⟩
theorem vx_callv {S SX : Type} {post : S → Prop} {px : SX → Prop} {B : S → State → Prop} {BX : String → SX → State → Prop} {AX : Nat → Prop} (hr : vx_Run p l e R s m args below meth c H locs cells slots mc ms (F0 m pc ls st0) rest (va_Qv post B A1 a) (vx_X px BX AX) free) (hS : va_S A0 H0 H locs) (hA : ∀ q, q < H.size → A1 q → A0 q) (hf : ∀ q, free q → A0 q) (hAX : ∀ q, q < H.size → AX q → A0 q)
    (kx : ∀ (E : String) (ce : Cell) (q9 : Addr) (u : SX) (t : State) (H1 : Heap) (locs1 : List Loc), t.heap = H1 → s.vm.Alike t.vm → px u → BX E u t → H.size ≤ H1.size → (∀ q : Nat, q < H.size → ¬ AX q → H1[q]? = H[q]?) → va_S A0 H0 H1 locs1 → H1[q9]? = some ce → ce.vm = .none → s.vm.findClass E = some ce.cls → vx_W p l e R s m args below meth c H1 locs1 (cells + mc) (slots + ms) Q (F0 m pc ls rest) q9)
    (kk : ∀ (u : S) (t : State) (H1 : Heap) (locs1 : List Loc), t.heap = H1 → s.vm.Alike t.vm → post u → B u t → H.size ≤ H1.size → (∀ q : Nat, q < H.size → ¬ A1 q → H1[q]? = H[q]?) → va_S A0 H0 H1 locs1 → W p l e R s m args below meth c H1 locs1 (cells + mc) (slots + ms) Q (F0 m (pc + 3) ls (rest))) : W p l e R s m args below meth c H locs cells slots Q (F0 m pc ls st0) := by
  intro T hT X
  rcases hr T hT X with ⟨v, st₀, t, T', L, h0, X', hL, e1, e2, ⟨⟨u, hv, hp, hb⟩, hF⟩, st⟩ | ⟨q, st₀, t, T', L, E, ce, h0, X', hL, e1, e2, ⟨u, hp, hb, hF⟩, hce, hcv, hcl, st⟩
  · cases hv
    obtain ⟨k1, k2, k3⟩ := vx_keep h0 e1 hS hA hf hL hF
    obtain ⟨t2, a1, b1⟩ := kk u t T'.heap (locs ++ L) e1.symm (by rw [← e2]; exact X'.warmed.alike) hp hb k1 k2 k3 T' rfl X'
    exact ⟨t2, st t2 a1, b1⟩
  · obtain ⟨k1, k2, k3⟩ := vx_keep h0 e1 hS hAX hf hL hF
    obtain ⟨t2, a1, b1⟩ := kx E ce q u t T'.heap (locs ++ L) e1.symm (by rw [← e2]; exact X'.warmed.alike) hp hb k1 k2 k3 (by rw [e1]; exact hce) hcv hcl T' rfl X'
    exact ⟨t2, st.trans a1, b1⟩
/-- caught by the row x of this method's table; the rows ahead don't take it -/
theorem vx_catch {own name : String} {E : String} {ce : Cell} {q : Addr} (hown : s.vm.findClass own = some m.cls) (pre : List ExceptionTableEntry) (x : ExceptionTableEntry) (suf : List ExceptionTableEntry) (hsplit : c.exceptionTable.toList = pre ++ x :: suf)
    (hpass : ∀ z ∈ pre, covers z pc = false ∨ (z.catchType ≠ 0 ∧ ∃ nm : String, (Cond.classLink own z.catchType nm).before args s = true ∧ va_Nc E nm s)) (hx : covers x pc = true) (h0 : x.catchType ≠ 0)
    (hlink : (Cond.classLink own x.catchType name).before args s = true) (hcast : (Cond.castable E name).before args s = true) (hcell : H[q]? = some ce) (hv : ce.vm = .none) (hcl : s.vm.findClass E = some ce.cls)
    (kk : W p l e R s m args below meth c H locs cells slots Q (F0 m x.handlerPc ls [.ref q])) : vx_W p l e R s m args below meth c H locs cells slots Q (F0 m pc ls rest) q := by
  intro T hT X
  have hpl : e.platform.magicAccessors = ({} : Platform).magicAccessors := by rw [X.admits.platform]
  obtain ⟨c3, c4, hc3, hc4, hasg⟩ := Cond.castable_spec hcast
  cases Option.some.inj (hc3.symm.trans hcl)
  obtain ⟨c5, hc5, hcl5⟩ := Cond.classLink_spec hown hlink e.platform hpl
  cases Option.some.inj (hc4.symm.trans hc5)
  obtain ⟨vm', X', st⟩ := X.thenCaughtThrough q (g := F0 m pc ls rest) rfl (Steps.refl _) (by rw [hT]; exact hcell) (by rw [hv]; rfl) (by obtain ⟨k9, h9, -⟩ := Vm.findClass_spec hcl; exact ⟨k9, h9⟩) pre x suf hsplit
    (fun z hz => by
      rcases hpass z hz with h | ⟨hz0, nm, hl1, hn1⟩
      · exact Or.inl h
      · obtain ⟨c6, hc6, hcl6⟩ := Cond.classLink_spec hown hl1 e.platform hpl
        obtain ⟨a8, b8, h1, h2, h3⟩ := hn1
        cases Option.some.inj (h1.symm.trans hcl)
        cases Option.some.inj (h2.symm.trans hc6)
        exact Or.inr ⟨hz0, _, hcl6, h3⟩) hx (Or.inr ⟨h0, c4, hcl5, hasg⟩)
  obtain ⟨t, a1, b1⟩ := kk (T.setVm vm') hT X'
  exact ⟨t, st.trans a1, b1⟩
end Rows
section Ends
variable {p : Program} {l : Launch} {e : Env} {R : Room} {s : State} {m : MethodId} {args : Array Value} {below : List Frame} {meth : Method} {c : Code} {H : Heap} {locs : List Loc} {cells slots : Nat} {Q : State → Prop}
variable {mc ms : Nat} {free : Addr → Prop} {A0 A1 : Nat → Prop} {H0 : Heap} {a : Array Value} {ls : Array Slot} {st0 rest : List Value}
variable {Qc : Array Value → State → Outcome → State → Prop} {XC : String → State → State → Prop}
/-- what a body that may throw owes at its end -/
def vx_MQ (below : List Frame) (Qc : Array Value → State → Outcome → State → Prop) (XC : String → State → State → Prop) (a : Array Value) (s : State) (mc ms : Nat) (free : Addr → Prop) : State → Prop := fun t =>
  ∃ o, t.status = .running ∧ Ended t below o ∧ vx_Q Qc XC mc ms free a s o t
theorem vx_ret {g : JFrame} {mc ms : Nat} (k : W p l e R s m args below meth c H locs cells slots (MQ below Qc args s mc ms free) g) : W p l e R s m args below meth c H locs cells slots (vx_MQ below Qc XC args s mc ms free) g := by
  intro T hT X
  obtain ⟨t, a1, o, b1, b2, b3, b4⟩ := k T hT X
  exact ⟨t, a1, o, b1, b2, Or.inl ⟨b3, b4⟩⟩
/-- not caught here: it goes on to the caller -/
theorem vx_widen {g : JFrame} {q : Addr} {k n : Nat} (h1 : cells ≤ k) (h2 : slots ≤ n) (kk : vx_W p l e R s m args below meth c H locs k n Q g q) : vx_W p l e R s m args below meth c H locs cells slots Q g q := fun T hT X => kk T hT (stand_widen X h1 h2)
theorem vx_out {pc : Nat} {E : String} {ce : Cell} {q : Addr} {mc ms : Nat} (hout : ∀ x ∈ c.exceptionTable.toList, covers x pc = false) (hlocks : meth.locks = false) (hcell : H[q]? = some ce) (hv : ce.vm = .none) (hcl : s.vm.findClass E = some ce.cls)
    (hx : ∀ t : State, t.heap = H → s.vm.Alike t.vm → XC E s t) (hf : ∀ z ∈ locs, free z.base) (hc : cells ≤ mc) (hs : slots ≤ ms) :
    vx_W p l e R s m args below meth c H locs cells slots (vx_MQ below Qc XC args s mc ms free) (F0 m pc ls rest) q := by
  intro T hT X
  obtain ⟨st1, hrun, hend, hW, hsm⟩ := X.leaveThrown q (g := F0 m pc ls rest) rfl rfl rfl hout hlocks
  have hcell9 : (T.setFrames (.throwing q :: below)).heap[q]? = some ce := by
    show T.heap[q]? = some ce
    rw [hT]; exact hcell
  exact ⟨_, st1, .threw q, hrun, hend, Or.inr ⟨q, rfl, E, ce, locs, hx _ hT hW.alike, hcell9, hv, hcl, hW, hsm.mono hc hs, hf⟩⟩
theorem vx_frame {U : State} {k n : Nat} (h : s.sameButNew ({ U with vm := s.vm } : State) locs k n) : s.heap.size ≤ U.heap.size ∧ ∀ q : Nat, q < s.heap.size → (∀ z ∈ locs, z.base ≠ q) → U.heap[q]? = s.heap[q]? := by
  obtain ⟨-, h2, -, -, -, h6⟩ := h
  refine ⟨h2, fun q hq hz => ?_⟩
  obtain ⟨c9, e1, e2, e3, e4⟩ := h6 q _ (Array.getElem?_eq_getElem hq)
  have hs : c9.slots = (s.heap[q]).slots := Array.ext_getElem? fun i => e4 i fun hm => hz _ hm rfl
  have h9 : c9 = s.heap[q] := by
    rw [hs] at e2
    exact e2
  have e5 : U.heap[q]? = some c9 := e1
  rw [e5, h9, Array.getElem?_eq_getElem hq]
/-- the words of a throw but the four that speak of the heap -/
def vx_no (w : Cond) : Bool := decide (w ≠ .isRef (.static Bundle.tN "UNASSIGNED_STACK" Bundle.steD)) && decide (w ≠ .isRef (.static Bundle.tN "SUPPRESSED_SENTINEL" Bundle.listD)) && decide (w ≠ .laysStatic Bundle.tN "UNASSIGNED_STACK" Bundle.steD) && decide (w ≠ .laysStatic Bundle.tN "SUPPRESSED_SENTINEL" Bundle.listD)
def vx_at0 (own : String) (ic : Nat) (X : String) (names : List String) : List Cond := (Bundle.ownAtoms0 own ic X names).filter vx_no
def vx_atS (own : String) (ic : Nat) (X : String) (names : List String) : List Cond := (Bundle.ownAtoms own ic X names).filter vx_no
/-- a word that the tables alone decide, or a good one -/
def vx_ot (w : Cond) : Bool := w.onTables || goodWord w
theorem vx_ot_at {args a' : Array Value} {s U : State} {w : Cond} (hW : s.WarmedH U.vm) (hvm : s.vm = U.vm) (hg : vx_ot w = true) (h : w.before args s = true) : w.before a' U = true := by
  simp only [vx_ot, Bool.or_eq_true] at hg
  rcases hg with hg | hg
  · exact va_tabs hg hvm h
  · exact word_at hW (good_of_word hg) h
/-- a list's words: the good ones out of the method's own list, the others by premises of their own -/
theorem vx_hat {args : Array Value} {s : State} {L B : List Cond} (h1 : ∀ w ∈ L.filter goodWord, w.before args s = true) (h2 : ∀ w ∈ L.filter (fun w => !goodWord w), w ∈ B) (h3 : ∀ w ∈ B, w.before args s = true) : ∀ w ∈ L, w.before args s = true := by
  intro w hw
  by_cases g : goodWord w = true
  · exact h1 w (List.mem_filter.mpr ⟨hw, g⟩)
  · refine h3 w (h2 w (List.mem_filter.mpr ⟨hw, ?_⟩))
    show (!goodWord w) = true
    cases hgw : goodWord w
    · rfl
    · exact absurd hgw g
theorem vx_c {args : Array Value} {s : State} {w : Cond} {B : List Cond} (h : w.before args s = true) (t : ∀ w ∈ B, w.before args s = true) : ∀ w' ∈ w :: B, w'.before args s = true := fun w' h' => (List.mem_cons.mp h').elim (fun e => by rw [e]; exact h) (t w')
theorem vx_n {args : Array Value} {s : State} : ∀ w ∈ ([] : List Cond), w.before args s = true := fun _ h => nomatch h
theorem vx_own {args : Array Value} {s : State} {L : List Cond} (h1 : ∀ w ∈ L.filter vx_no, w.before args s = true)
    (hU : (Cond.isRef (.static Bundle.tN "UNASSIGNED_STACK" Bundle.steD)).before args s = true) (hN : (Cond.isRef (.static Bundle.tN "SUPPRESSED_SENTINEL" Bundle.listD)).before args s = true)
    (lU : (Cond.laysStatic Bundle.tN "UNASSIGNED_STACK" Bundle.steD).before args s = true) (lN : (Cond.laysStatic Bundle.tN "SUPPRESSED_SENTINEL" Bundle.listD).before args s = true) : ∀ w ∈ L, w.before args s = true := by
  intro w hw
  by_cases e1 : w = .isRef (.static Bundle.tN "UNASSIGNED_STACK" Bundle.steD)
  · rw [e1]; exact hU
  · by_cases e2 : w = .isRef (.static Bundle.tN "SUPPRESSED_SENTINEL" Bundle.listD)
    · rw [e2]; exact hN
    · by_cases e3 : w = .laysStatic Bundle.tN "UNASSIGNED_STACK" Bundle.steD
      · rw [e3]; exact lU
      · by_cases e4 : w = .laysStatic Bundle.tN "SUPPRESSED_SENTINEL" Bundle.listD
        · rw [e4]; exact lN
        · exact h1 w (List.mem_filter.mpr ⟨hw, by unfold vx_no; rw [decide_eq_true e1, decide_eq_true e2, decide_eq_true e3, decide_eq_true e4]; rfl⟩)
/-- where a static field lies, its class's statics cell in H -/
def vx_L (C n d : String) (A : Nat → Prop) (U : State) (H : Heap) : Prop := ∃ (c : ClassId) (k : Class) (i : Nat) (f : Field) (a : Nat) (cell : Cell), U.vm.findClass C = some c ∧ U.fieldFound? C n d = some (c, k, i, f) ∧ f.isStatic = true ∧ k.statics = some a ∧ H[a]? = some cell ∧ cell.vm.isStatics = true ∧ cell.cls = c ∧ f.slot < cell.slots.size ∧ k.staticTypes[f.slot]? = some f.type ∧ ¬ A a
theorem vx_L.moved {C n d : String} {A : Nat → Prop} {u U : State} {H : Heap} (hvm : u.vm.Alike U.vm) (h : vx_L C n d A u H) : vx_L C n d A U H := by
  obtain ⟨c, k, i, f, a, cell, h1, h2, h3, h4, h5, h6, h7, h8, h9, h10⟩ := h
  obtain ⟨k', hi', he⟩ := State.fieldFound?_setVm hvm h2
  exact ⟨c, k', i, f, a, cell, by rw [hvm.findClass]; exact h1, hi', h3, by rw [he]; exact h4, h5, h6, h7, h8, by rw [he]; exact h9, h10⟩
theorem vx_L.kept {C n d : String} {A : Nat → Prop} {U : State} {H H1 : Heap} (h : vx_L C n d A U H) (hq : ∀ a : Nat, a < H.size → ¬ A a → H1[a]? = H[a]?) : vx_L C n d A U H1 := by
  obtain ⟨c, k, i, f, a, cell, h1, h2, h3, h4, h5, h6, h7, h8, h9, h10⟩ := h
  exact ⟨c, k, i, f, a, cell, h1, h2, h3, h4, by rw [hq a (Array.getElem?_eq_some_iff.mp h5).1 h10]; exact h5, h6, h7, h8, h9, h10⟩
theorem vx_L.narrow {C n d : String} {A B : Nat → Prop} {U : State} {H : Heap} (h : vx_L C n d A U H) (hAB : ∀ q, B q → A q) : vx_L C n d B U H := by
  obtain ⟨c, k, i, f, a, cell, h1, h2, h3, h4, h5, h6, h7, h8, h9, h10⟩ := h
  exact ⟨c, k, i, f, a, cell, h1, h2, h3, h4, h5, h6, h7, h8, h9, fun z => h10 (hAB _ z)⟩
theorem vx_L.word {C n d : String} {A : Nat → Prop} {s : State} {args : Array Value} (h : vx_L C n d A s s.heap) : (Cond.laysStatic C n d).before args s = true := by
  obtain ⟨c, k, i, f, a, cell, h1, h2, h3, h4, h5, h6, h7, h8, h9, -⟩ := h
  show (Cond.laysStatic C n d).holds args s none s [] = true
  exact Cond.laysStatic_of h1 h2 h3 h4 h5 h6 h7 h8 h9
/-- .. and what it holds: null or some reference -/
def vx_Zq (C n d : String) (A : Nat → Prop) (U : State) (H : Heap) : Prop := va_Zq C n d A U H ∧ vx_L C n d A U H
theorem vx_Zq.moved {C n d : String} {A : Nat → Prop} {u U : State} {H : Heap} (hvm : u.vm.Alike U.vm) (h : vx_Zq C n d A u H) : vx_Zq C n d A U H := ⟨va_Zq.moved hvm h.1, vx_L.moved hvm h.2⟩
theorem vx_Zq.kept {C n d : String} {A : Nat → Prop} {U : State} {H H1 : Heap} (h : vx_Zq C n d A U H) (hq : ∀ a : Nat, a < H.size → ¬ A a → H1[a]? = H[a]?) : vx_Zq C n d A U H1 := ⟨va_Zq.kept h.1 hq, vx_L.kept h.2 hq⟩
theorem vx_Zq.narrow {C n d : String} {A B : Nat → Prop} {U : State} {H : Heap} (h : vx_Zq C n d A U H) (hAB : ∀ q, B q → A q) : vx_Zq C n d B U H := ⟨va_Zq.narrow h.1 hAB, vx_L.narrow h.2 hAB⟩
theorem vx_Zqof {args : Array Value} {s : State} {C n d : String} {A : Nat → Prop} (hl : (Cond.laysStatic C n d).before args s = true) (hini : (Cond.initialized C).before args s = true) (h : (Cond.isRef (.static C n d)).before args s = true) (hA : ∀ a : Nat, a < s.heap.size → ¬ A a) : vx_Zq C n d A s s.heap := by
  refine ⟨va_Zqof hl hini h hA, ?_⟩
  obtain ⟨c, k, i, f, a, cell, h1, h2, h3, h4, h5, h6, h7, h8, h9⟩ := Cond.laysStatic_spec hl
  exact ⟨c, k, i, f, a, cell, h1, h2, h3, h4, h5, h6, h7, h8, h9, hA a (Array.getElem?_eq_some_iff.mp h5).1⟩
theorem vx_isRef {C n d : String} {v : Value} {A : Nat → Prop} {s : State} {args : Array Value} (h : va_Z C n d v A s s.heap) (hv : v.isRef = true) : (Cond.isRef (.static C n d)).before args s = true := by
  obtain ⟨cf, kf, fi, f, a, cell, h1, h2, h3, h4, h5, h6, h7, -⟩ := h
  have he : (Term.static C n d).eval args s none [] s = some v := by
    simp [Term.eval, State.fieldNamed?, h1, h2, h4, h5, h6, h7]
  simp only [Cond.before, Cond.holds, Cond.value, he]
  cases v <;> simp_all [Value.isRef]
theorem vx_isRefq {C n d : String} {A : Nat → Prop} {s : State} {args : Array Value} (h : va_Zq C n d A s s.heap) : (Cond.isRef (.static C n d)).before args s = true := by
  rcases h with h | ⟨t, h⟩
  · exact vx_isRef h rfl
  · exact vx_isRef h rfl
/-- the same frame, seen from here: as if the method were called anew in this heap -/
theorem vx_rebase {T : State} (X : Stand p l e R s m args below meth c T locs cells slots) {R' : Room} (hf : R'.frames ≤ R.frames) (hl : R'.locals ≤ R.locals) (hc : cells + R'.cells ≤ R.cells) (hs : slots + R'.slots ≤ R.slots) :
    Stand p l e R' ((T.setVm s.vm).setFrames (.invoking m args :: below)) m args below meth c T [] 0 0 := by
  have htop : (T.setVm s.vm).topJava?.isSome := X.here.top
  have hF : ((T.setVm s.vm).setFrames (.invoking m args :: below)).frames = .invoking m args :: below := State.frames_setFrames _ (State.cur_lt_of_top htop)
  obtain ⟨g₀, hg0⟩ := Option.isSome_iff_exists.mp htop
  obtain ⟨r, hr⟩ := State.topJava?_eq_some.mp hg0
  have hl9 : e.platform.stackLimits (T.setVm s.vm).me = e.platform.stackLimits s.me := X.limits
  have hb9 : (T.setVm s.vm).me.stackBytes = s.me.stackBytes := X.bytes
  refine ⟨X.admits, X.cas, X.clock, hF, ?_, X.hears, X.method, X.code, X.here, X.tail, X.warmed, ?_, ?_, ?_⟩
  · have h := X.room
    have hU : ((T.setVm s.vm).setFrames (.invoking m args :: below)).localsInUse = s.localsInUse := by
      rw [State.localsInUse_invoking hF (meth := meth) (c := c) X.method X.code, State.localsInUse_invoking X.frames X.method X.code]
    simp only [State.hasRoom, Bool.and_eq_true, decide_eq_true_eq] at h ⊢
    obtain ⟨⟨⟨⟨h1, h2, h3, h4, h5, h6⟩, h7⟩, h8⟩, h9⟩ := h
    rw [X.frames, List.length_cons] at h2 h3
    have q1 := X.heapSize
    have q2 := X.used
    simp only [hF, hU, List.length_cons, State.stackLimits_setFrames, State.stackBytes_setFrames, hl9, hb9]
    refine ⟨⟨⟨⟨by omega, by omega, by omega, by omega, by omega, h6⟩, ?_⟩, ?_⟩, X.book⟩
    · show T.heap.size + R'.cells ≤ e.platform.maxCells
      omega
    · show T.slotsUsed + R'.slots ≤ e.platform.maxSlots
      omega
  · rw [State.stackLimits_setFrames]; rfl
  · rw [State.stackBytes_setFrames]; rfl
  · refine ⟨?_, Nat.le_refl _, Nat.le_refl _, ?_, ?_, fun a c9 h9 => ⟨c9, h9, rfl, rfl, fun _ _ => rfl⟩⟩
    · obtain ⟨t, ht, -⟩ := State.frames_cons hr
      show T.setVm s.vm = { ((T.setVm s.vm).setFrames (.invoking m args :: below)).setFrames (T.setVm s.vm).frames with heap := T.heap, slotsUsed := T.slotsUsed }
      rw [State.setFrames_setFrames, State.setFrames_self ht]
      rfl
    · show T.slotsUsed = T.slotsUsed + ((T.heap.toList.drop T.heap.size).map (·.slots.size)).sum
      rw [List.drop_eq_nil_of_le (Nat.le_of_eq Array.length_toList)]
      rfl
    · show ((T.heap.toList.drop T.heap.size).map (·.slots.size)).sum ≤ 0
      rw [List.drop_eq_nil_of_le (Nat.le_of_eq Array.length_toList)]
      exact Nat.le_refl _
/-- 'throw new E()': new; dup; invokespecial; athrow -/
theorem vx_throw0 {cc : ByteArray} {pc : Nat} (hexec : p.tables.exec = Jvm.exec) (hb : c.code = cc) (hl : l.stackTraces = false) {own cls : String} {names : List String} {ik ic mc ms : Nat} {A : Nat → Prop}
    (hown : s.vm.findClass own = some m.cls) (hcls : Bundle.fit cls = true) (hnames : ∀ n ∈ names, Bundle.fit n = true)
    (hk : (Cond.classLink own ik cls).before args s = true) (hini : (Cond.initialized cls).before args s = true) (hat : ∀ w ∈ vx_at0 own ic cls names, w.before args s = true)
    (hgood : ∀ w ∈ Cond.classLink own ik cls :: Cond.initialized cls :: vx_at0 own ic cls names, vx_ot w = true)
    (hU : vx_Zq Bundle.tN "UNASSIGNED_STACK" Bundle.steD A s s.heap) (hN : vx_Zq Bundle.tN "SUPPRESSED_SENTINEL" Bundle.listD A s s.heap) (hS : va_S A s.heap H locs) (hsize : ls.size = c.maxLocals)
    (d0 : decode cc pc = .ok (.new ik, 3)) (d3 : decode cc (pc + 3) = .ok (.dup, 1)) (d4 : decode cc (pc + 4) = .ok (.invokespecial ic, 3)) (d7 : decode cc (pc + 7) = .ok (.athrow, 1))
    (hout : ∀ x ∈ c.exceptionTable.toList, covers x (pc + 7) = false)
    (hRframes : names.length + 3 < R.frames) (hRlocals : (rest.map fun v => v.category).sum + (13 * (names.length + 1) + 42) ≤ R.locals) (hRcells : cells + 1 ≤ R.cells) (hRslots : slots + 6 ≤ R.slots) (hlocks : meth.locks = false)
    (hx : ∀ t : State, s.vm.Alike t.vm → H.size ≤ t.heap.size → (∀ q : Nat, q < H.size → t.heap[q]? = H[q]?) → XC cls s t)
    (hf : ∀ z ∈ locs, free z.base) (hc : cells + 1 ≤ mc) (hs : slots + 6 ≤ ms) :
    W p l e R s m args below meth c H locs cells slots (vx_MQ below Qc XC args s mc ms free) (F0 m pc ls rest) := by
  intro T hT X
  have htr : e.platform.stackTraces = false := (show e.platform.stackTraces = l.stackTraces by rw [X.admits.platform]).trans hl
  have Y := vx_rebase X (R' := { frames := R.frames, locals := R.locals, cells := 1, slots := 6 }) (Nat.le_refl _) (Nat.le_refl _) hRcells hRslots
  obtain ⟨s', hA⟩ : ∃ z, z = (T.setVm s.vm).setFrames (.invoking m args :: below) := ⟨_, rfl⟩
  rw [← hA] at Y
  have hvm : s'.vm = s.vm := by rw [hA]; rfl
  have hhp : s'.heap = H := by rw [hA]; exact hT
  have hW0 : s.WarmedH s'.vm := by rw [hvm]; exact State.WarmedH.refl s
  have hat' : ∀ w ∈ vx_at0 own ic cls names, w.before args s' = true := fun w hw => vx_ot_at hW0 hvm.symm (hgood w (List.mem_cons_of_mem _ (List.mem_cons_of_mem _ hw))) (hat w hw)
  have hk' : (Cond.classLink own ik cls).before args s' = true := vx_ot_at hW0 hvm.symm (hgood _ List.mem_cons_self) hk
  have hini' : (Cond.initialized cls).before args s' = true := vx_ot_at hW0 hvm.symm (hgood _ (List.mem_cons_of_mem _ List.mem_cons_self)) hini
  have hU' : vx_Zq Bundle.tN "UNASSIGNED_STACK" Bundle.steD A s' s'.heap := by rw [hhp]; exact vx_Zq.moved hW0.alike (hU.kept hS.2.1)
  have hN' : vx_Zq Bundle.tN "SUPPRESSED_SENTINEL" Bundle.listD A s' s'.heap := by rw [hhp]; exact vx_Zq.moved hW0.alike (hN.kept hS.2.1)
  have h : ∀ w ∈ Bundle.ownAtoms0 own ic cls names, w.before args s' = true := vx_own hat' (vx_isRefq hU'.1) (vx_isRefq hN'.1) hU'.2.word hN'.2.word
  have hown' : s'.vm.findClass own = some m.cls := by rw [hvm]; exact hown
  have hins : (Cond.instantiable cls 6).before args s' = true := h _ (by simp [Bundle.ownAtoms0])
  obtain ⟨vm₁, cX, kX, hfX, hkX, -, -, X₁, st1⟩ := Y.newCold hexec (own := own) (C := cls) (index := ik) (n := 6) hown' hk' hins hini'
    (g := F0 m pc ls rest) rfl (by rw [hb]; exact d0) (Nat.le_refl _) (Nat.le_refl _)
  generalize hT1 : (T.setVm vm₁).pushCell { cls := cX, slots := kX.instanceTypes.map defaultValue, vm := .none } = T1 at X₁ st1
  have hcat : (Value.ref T.heap.size).category = 1 := rfl
  have hcellA : T1.heap[T.heap.size]? = some (freshCell cX kX) := by rw [← hT1]; exact State.heap_pushCell_size _ _
  have d3' : decode c.code (pc + 3) = .ok (.dup, 1) := by rw [hb]; exact d3
  obtain ⟨U, hsteps, hrun, hend, hW, hsame, ce, hce, hO⟩ := X₁.ctorThrow0 hexec htr (own := own) (cls := cls) (names := names) (ic := ic) hown' hcls hnames h (fun x hx => nomatch hx) hfX hkX hcellA (by rw [hhp, hT]; exact Nat.le_refl _)
    (g := { method := m, pc := pc + 4, locals := ls, stack := .ref T.heap.size :: .ref T.heap.size :: rest, locked := none }) rfl hsize rfl rfl (rest := rest) rfl
    (by rw [hb]; exact d4) (by rw [hb]; exact d7) hout hRframes (by simp only [List.map_cons, List.sum_cons, hcat]; omega) hlocks
  obtain ⟨f1, f2⟩ := vx_frame hsame
  rw [hhp] at f1 f2
  have hWs : s.WarmedH U.vm := State.WarmedH.trans hW0 hW
  have hcl : s.vm.findClass cls = some ce.cls := by
    have h9 := hO.cls
    rw [hvm] at h9
    exact h9
  have hall : s.sameButNew ({ U with vm := s.vm } : State) locs mc ms := by
    subst hA
    obtain ⟨e1, e2⟩ := hsame
    rw [State.setFrames_setFrames] at e1
    have h2 : (T.setVm s.vm).sameButNew ({ U with vm := s.vm } : State) [] (0 + 1) (0 + 6) := ⟨e1, e2⟩
    have h3 := X.same.trans h2
    rw [List.append_nil] at h3
    exact h3.mono hc hs
  refine ⟨U, ?_, .threw T.heap.size, hrun, hend, Or.inr ⟨T.heap.size, rfl, cls, ce, locs, hx U hWs.alike f1 (fun q hq => f2 q hq (fun z hz => nomatch hz)), hce, hO.vm, hcl, hWs, hall, hf⟩⟩
  refine st1 _ ?_
  show Steps p.tables e below (T1.setTop { method := m, pc := pc + 3, locals := ls, stack := .ref T.heap.size :: rest, locked := none }) _
  jvm_step X₁.here [X₁.here.top, hexec, d3', Value.category]
  exact hsteps
/-- 'throw new E("text")': new; dup; ldc; invokespecial; athrow -/
theorem vx_throwS {cc : ByteArray} {pc : Nat} (hexec : p.tables.exec = Jvm.exec) (hb : c.code = cc) (hl : l.stackTraces = false) {own cls text : String} {names : List String} {ik is ic mc ms sa : Nat} {A : Nat → Prop}
    (hown : s.vm.findClass own = some m.cls) (hcls : Bundle.fit cls = true) (hnames : ∀ n ∈ names, Bundle.fit n = true)
    (hk : (Cond.classLink own ik cls).before args s = true) (hini : (Cond.initialized cls).before args s = true) (hstr : vk_R own is text sa s) (hat : ∀ w ∈ vx_atS own ic cls names, w.before args s = true)
    (hgood : ∀ w ∈ Cond.classLink own ik cls :: Cond.initialized cls :: vx_atS own ic cls names, vx_ot w = true)
    (hU : vx_Zq Bundle.tN "UNASSIGNED_STACK" Bundle.steD A s s.heap) (hN : vx_Zq Bundle.tN "SUPPRESSED_SENTINEL" Bundle.listD A s s.heap) (hS : va_S A s.heap H locs) (hsize : ls.size = c.maxLocals)
    (d0 : decode cc pc = .ok (.new ik, 3)) (d3 : decode cc (pc + 3) = .ok (.dup, 1)) (d4 : decode cc (pc + 4) = .ok (.ldc is, 2)) (d6 : decode cc (pc + 6) = .ok (.invokespecial ic, 3)) (d9 : decode cc (pc + 9) = .ok (.athrow, 1))
    (hout : ∀ x ∈ c.exceptionTable.toList, covers x (pc + 9) = false)
    (hRframes : names.length + 3 < R.frames) (hRlocals : (rest.map fun v => v.category).sum + (13 * (names.length + 1) + 43) ≤ R.locals) (hRcells : cells + 1 ≤ R.cells) (hRslots : slots + 6 ≤ R.slots) (hlocks : meth.locks = false)
    (hx : ∀ t : State, s.vm.Alike t.vm → H.size ≤ t.heap.size → (∀ q : Nat, q < H.size → t.heap[q]? = H[q]?) → XC cls s t)
    (hf : ∀ z ∈ locs, free z.base) (hc : cells + 1 ≤ mc) (hs : slots + 6 ≤ ms) :
    W p l e R s m args below meth c H locs cells slots (vx_MQ below Qc XC args s mc ms free) (F0 m pc ls rest) := by
  intro T hT X
  have htr : e.platform.stackTraces = false := (show e.platform.stackTraces = l.stackTraces by rw [X.admits.platform]).trans hl
  have Y := vx_rebase X (R' := { frames := R.frames, locals := R.locals, cells := 1, slots := 6 }) (Nat.le_refl _) (Nat.le_refl _) hRcells hRslots
  obtain ⟨s', hA⟩ : ∃ z, z = (T.setVm s.vm).setFrames (.invoking m args :: below) := ⟨_, rfl⟩
  rw [← hA] at Y
  have hvm : s'.vm = s.vm := by rw [hA]; rfl
  have hhp : s'.heap = H := by rw [hA]; exact hT
  have hW0 : s.WarmedH s'.vm := by rw [hvm]; exact State.WarmedH.refl s
  have hat' : ∀ w ∈ vx_atS own ic cls names, w.before args s' = true := fun w hw => vx_ot_at hW0 hvm.symm (hgood w (List.mem_cons_of_mem _ (List.mem_cons_of_mem _ hw))) (hat w hw)
  have hk' : (Cond.classLink own ik cls).before args s' = true := vx_ot_at hW0 hvm.symm (hgood _ List.mem_cons_self) hk
  have hini' : (Cond.initialized cls).before args s' = true := vx_ot_at hW0 hvm.symm (hgood _ (List.mem_cons_of_mem _ List.mem_cons_self)) hini
  have hU' : vx_Zq Bundle.tN "UNASSIGNED_STACK" Bundle.steD A s' s'.heap := by rw [hhp]; exact vx_Zq.moved hW0.alike (hU.kept hS.2.1)
  have hN' : vx_Zq Bundle.tN "SUPPRESSED_SENTINEL" Bundle.listD A s' s'.heap := by rw [hhp]; exact vx_Zq.moved hW0.alike (hN.kept hS.2.1)
  have h : ∀ w ∈ Bundle.ownAtoms own ic cls names, w.before args s' = true := vx_own hat' (vx_isRefq hU'.1) (vx_isRefq hN'.1) hU'.2.word hN'.2.word
  have hown' : s'.vm.findClass own = some m.cls := by rw [hvm]; exact hown
  have hins : (Cond.instantiable cls 6).before args s' = true := h _ (by simp [Bundle.ownAtoms])
  obtain ⟨vm₁, cX, kX, hfX, hkX, -, -, X₁, st1⟩ := Y.newCold hexec (own := own) (C := cls) (index := ik) (n := 6) hown' hk' hins hini'
    (g := F0 m pc ls rest) rfl (by rw [hb]; exact d0) (Nat.le_refl _) (Nat.le_refl _)
  generalize hT1 : (T.setVm vm₁).pushCell { cls := cX, slots := kX.instanceTypes.map defaultValue, vm := .none } = T1 at X₁ st1
  have hcat : (Value.ref T.heap.size).category = 1 := rfl
  have hcellA : T1.heap[T.heap.size]? = some (freshCell cX kX) := by rw [← hT1]; exact State.heap_pushCell_size _ _
  have d3' : decode c.code (pc + 3) = .ok (.dup, 1) := by rw [hb]; exact d3
  have d4' : decode c.code (pc + 4) = .ok (.ldc is, 2) := by rw [hb]; exact d4
  have hstr' : vk_R own is text sa s' := vk_R.warm hW0 hstr
  obtain ⟨U, hsteps, hrun, hend, hW, hsame, ce, hce, hO⟩ := X₁.ctorThrowS hexec htr (own := own) (cls := cls) (names := names) (ic := ic) hown' hcls hnames h (fun x hx => nomatch hx) hfX hkX hcellA (by rw [hhp, hT]; exact Nat.le_refl _) (msg := .ref sa) rfl
    (g := { method := m, pc := pc + 6, locals := ls, stack := .ref sa :: .ref T.heap.size :: .ref T.heap.size :: rest, locked := none }) rfl hsize rfl rfl (rest := rest) rfl
    (by rw [hb]; exact d6) (by rw [hb]; exact d9) hout hRframes (by simp only [List.map_cons, List.sum_cons, hcat]; omega) hlocks
  obtain ⟨f1, f2⟩ := vx_frame hsame
  rw [hhp] at f1 f2
  have hWs : s.WarmedH U.vm := State.WarmedH.trans hW0 hW
  have hcl : s.vm.findClass cls = some ce.cls := by
    have h9 := hO.cls
    rw [hvm] at h9
    exact h9
  have hall : s.sameButNew ({ U with vm := s.vm } : State) locs mc ms := by
    subst hA
    obtain ⟨e1, e2⟩ := hsame
    rw [State.setFrames_setFrames] at e1
    have h2 : (T.setVm s.vm).sameButNew ({ U with vm := s.vm } : State) [] (0 + 1) (0 + 6) := ⟨e1, e2⟩
    have h3 := X.same.trans h2
    rw [List.append_nil] at h3
    exact h3.mono hc hs
  refine ⟨U, ?_, .threw T.heap.size, hrun, hend, Or.inr ⟨T.heap.size, rfl, cls, ce, locs, hx U hWs.alike f1 (fun q hq => f2 q hq (fun z hz => nomatch hz)), hce, hO.vm, hcl, hWs, hall, hf⟩⟩
  refine st1 _ ?_
  show Steps p.tables e below (T1.setTop { method := m, pc := pc + 3, locals := ls, stack := .ref T.heap.size :: rest, locked := none }) _
  jvm_step X₁.here [X₁.here.top, hexec, d3', Value.category]
  exact X₁.ldcString hexec (own := own) (text := text) (index := is) (a := sa) hown' hstr'.1 hstr'.2
    (g := { method := m, pc := pc + 4, locals := ls, stack := .ref T.heap.size :: .ref T.heap.size :: rest, locked := none }) rfl d4' _ hsteps
/-- 'throw new E("text")', the text by a wide index -/
theorem vx_throwSW {cc : ByteArray} {pc : Nat} (hexec : p.tables.exec = Jvm.exec) (hb : c.code = cc) (hl : l.stackTraces = false) {own cls text : String} {names : List String} {ik is ic mc ms sa : Nat} {A : Nat → Prop}
    (hown : s.vm.findClass own = some m.cls) (hcls : Bundle.fit cls = true) (hnames : ∀ n ∈ names, Bundle.fit n = true)
    (hk : (Cond.classLink own ik cls).before args s = true) (hini : (Cond.initialized cls).before args s = true) (hstr : vk_R own is text sa s) (hat : ∀ w ∈ vx_atS own ic cls names, w.before args s = true)
    (hgood : ∀ w ∈ Cond.classLink own ik cls :: Cond.initialized cls :: vx_atS own ic cls names, vx_ot w = true)
    (hU : vx_Zq Bundle.tN "UNASSIGNED_STACK" Bundle.steD A s s.heap) (hN : vx_Zq Bundle.tN "SUPPRESSED_SENTINEL" Bundle.listD A s s.heap) (hS : va_S A s.heap H locs) (hsize : ls.size = c.maxLocals)
    (d0 : decode cc pc = .ok (.new ik, 3)) (d3 : decode cc (pc + 3) = .ok (.dup, 1)) (d4 : decode cc (pc + 4) = .ok (.ldc_w is, 3)) (d7 : decode cc (pc + 7) = .ok (.invokespecial ic, 3)) (d10 : decode cc (pc + 10) = .ok (.athrow, 1))
    (hout : ∀ x ∈ c.exceptionTable.toList, covers x (pc + 10) = false)
    (hRframes : names.length + 3 < R.frames) (hRlocals : (rest.map fun v => v.category).sum + (13 * (names.length + 1) + 43) ≤ R.locals) (hRcells : cells + 1 ≤ R.cells) (hRslots : slots + 6 ≤ R.slots) (hlocks : meth.locks = false)
    (hx : ∀ t : State, s.vm.Alike t.vm → H.size ≤ t.heap.size → (∀ q : Nat, q < H.size → t.heap[q]? = H[q]?) → XC cls s t)
    (hf : ∀ z ∈ locs, free z.base) (hc : cells + 1 ≤ mc) (hs : slots + 6 ≤ ms) :
    W p l e R s m args below meth c H locs cells slots (vx_MQ below Qc XC args s mc ms free) (F0 m pc ls rest) := by
  intro T hT X
  have htr : e.platform.stackTraces = false := (show e.platform.stackTraces = l.stackTraces by rw [X.admits.platform]).trans hl
  have Y := vx_rebase X (R' := { frames := R.frames, locals := R.locals, cells := 1, slots := 6 }) (Nat.le_refl _) (Nat.le_refl _) hRcells hRslots
  obtain ⟨s', hA⟩ : ∃ z, z = (T.setVm s.vm).setFrames (.invoking m args :: below) := ⟨_, rfl⟩
  rw [← hA] at Y
  have hvm : s'.vm = s.vm := by rw [hA]; rfl
  have hhp : s'.heap = H := by rw [hA]; exact hT
  have hW0 : s.WarmedH s'.vm := by rw [hvm]; exact State.WarmedH.refl s
  have hat' : ∀ w ∈ vx_atS own ic cls names, w.before args s' = true := fun w hw => vx_ot_at hW0 hvm.symm (hgood w (List.mem_cons_of_mem _ (List.mem_cons_of_mem _ hw))) (hat w hw)
  have hk' : (Cond.classLink own ik cls).before args s' = true := vx_ot_at hW0 hvm.symm (hgood _ List.mem_cons_self) hk
  have hini' : (Cond.initialized cls).before args s' = true := vx_ot_at hW0 hvm.symm (hgood _ (List.mem_cons_of_mem _ List.mem_cons_self)) hini
  have hU' : vx_Zq Bundle.tN "UNASSIGNED_STACK" Bundle.steD A s' s'.heap := by rw [hhp]; exact vx_Zq.moved hW0.alike (hU.kept hS.2.1)
  have hN' : vx_Zq Bundle.tN "SUPPRESSED_SENTINEL" Bundle.listD A s' s'.heap := by rw [hhp]; exact vx_Zq.moved hW0.alike (hN.kept hS.2.1)
  have h : ∀ w ∈ Bundle.ownAtoms own ic cls names, w.before args s' = true := vx_own hat' (vx_isRefq hU'.1) (vx_isRefq hN'.1) hU'.2.word hN'.2.word
  have hown' : s'.vm.findClass own = some m.cls := by rw [hvm]; exact hown
  have hins : (Cond.instantiable cls 6).before args s' = true := h _ (by simp [Bundle.ownAtoms])
  obtain ⟨vm₁, cX, kX, hfX, hkX, -, -, X₁, st1⟩ := Y.newCold hexec (own := own) (C := cls) (index := ik) (n := 6) hown' hk' hins hini'
    (g := F0 m pc ls rest) rfl (by rw [hb]; exact d0) (Nat.le_refl _) (Nat.le_refl _)
  generalize hT1 : (T.setVm vm₁).pushCell { cls := cX, slots := kX.instanceTypes.map defaultValue, vm := .none } = T1 at X₁ st1
  have hcat : (Value.ref T.heap.size).category = 1 := rfl
  have hcellA : T1.heap[T.heap.size]? = some (freshCell cX kX) := by rw [← hT1]; exact State.heap_pushCell_size _ _
  have d3' : decode c.code (pc + 3) = .ok (.dup, 1) := by rw [hb]; exact d3
  have d4' : decode c.code (pc + 4) = .ok (.ldc_w is, 3) := by rw [hb]; exact d4
  have hstr' : vk_R own is text sa s' := vk_R.warm hW0 hstr
  obtain ⟨U, hsteps, hrun, hend, hW, hsame, ce, hce, hO⟩ := X₁.ctorThrowS hexec htr (own := own) (cls := cls) (names := names) (ic := ic) hown' hcls hnames h (fun x hx => nomatch hx) hfX hkX hcellA (by rw [hhp, hT]; exact Nat.le_refl _) (msg := .ref sa) rfl
    (g := { method := m, pc := pc + 7, locals := ls, stack := .ref sa :: .ref T.heap.size :: .ref T.heap.size :: rest, locked := none }) rfl hsize rfl rfl (rest := rest) rfl
    (by rw [hb]; exact d7) (by rw [hb]; exact d10) hout hRframes (by simp only [List.map_cons, List.sum_cons, hcat]; omega) hlocks
  obtain ⟨f1, f2⟩ := vx_frame hsame
  rw [hhp] at f1 f2
  have hWs : s.WarmedH U.vm := State.WarmedH.trans hW0 hW
  have hcl : s.vm.findClass cls = some ce.cls := by
    have h9 := hO.cls
    rw [hvm] at h9
    exact h9
  have hall : s.sameButNew ({ U with vm := s.vm } : State) locs mc ms := by
    subst hA
    obtain ⟨e1, e2⟩ := hsame
    rw [State.setFrames_setFrames] at e1
    have h2 : (T.setVm s.vm).sameButNew ({ U with vm := s.vm } : State) [] (0 + 1) (0 + 6) := ⟨e1, e2⟩
    have h3 := X.same.trans h2
    rw [List.append_nil] at h3
    exact h3.mono hc hs
  refine ⟨U, ?_, .threw T.heap.size, hrun, hend, Or.inr ⟨T.heap.size, rfl, cls, ce, locs, hx U hWs.alike f1 (fun q hq => f2 q hq (fun z hz => nomatch hz)), hce, hO.vm, hcl, hWs, hall, hf⟩⟩
  refine st1 _ ?_
  show Steps p.tables e below (T1.setTop { method := m, pc := pc + 3, locals := ls, stack := .ref T.heap.size :: rest, locked := none }) _
  jvm_step X₁.here [X₁.here.top, hexec, d3', Value.category]
  exact X₁.ldcStringW hexec (own := own) (text := text) (index := is) (a := sa) hown' hstr'.1 hstr'.2
    (g := { method := m, pc := pc + 4, locals := ls, stack := .ref T.heap.size :: .ref T.heap.size :: rest, locked := none }) rfl d4' _ hsteps
end Ends
section Bodies
variable {l : Launch}
theorem vx_ofW {y : MethodName} {ws ws' : List Cond} {rm : Room} {Pc : Array Value → State → Prop} {Qc : Array Value → State → Outcome → State → Prop} {XC : String → State → State → Prop} {mc ms : Nat} {free : Addr → Prop} {cc : ByteArray} {maxL : Nat} {ret : Option FieldType}
    (hy : plainName y.cls = true) (hw : ws = Cond.code y cc maxL ret :: ws')
    (body : ∀ p e s m args below meth c s₁, BodyLoose p l y (headSpec ws rm) cc maxL ret e s m args below meth c s₁ → c.maxLocals = maxL → (∀ x ∈ c.exceptionTable.toList, False) → Pc args s →
      W p l e (headSpec ws rm).room s m args below meth c s.heap [] 0 0 (vx_MQ below Qc XC args s mc ms free) (entryFrame m args maxL)) : vx_Met l y ws rm Pc Qc XC mc ms free := by
  refine MetFree.of_bodyS (code := cc) (maxLocals := maxL) (ret := ret) hy ?_ ?_
  · intro args s m h hn
    obtain ⟨meth, c, h1, h2, h3, h4, h5, h6, -, -⟩ := Cond.code_spec hn (atoms_spec (ws := ws) h _ (by rw [hw]; exact List.mem_cons_self))
    exact ⟨meth, c, h1, h2, h3, h4, h5, h6⟩
  · intro p e s m args below meth c s₁ B hml hP _
    have hh0 : s₁.heap = s.heap := by rw [B.state]; rfl
    have ht : ∀ x ∈ c.exceptionTable.toList, False := by
      obtain ⟨meth9, c9, h1, h2, -, -, -, -, h7, -⟩ := Cond.code_spec B.named (atoms_spec (ws := ws) B.pre _ (by rw [hw]; exact List.mem_cons_self))
      cases Option.some.inj (h1.symm.trans B.method)
      cases Option.some.inj (h2.symm.trans (Stand.of_body B).code)
      intro x hx
      rw [Array.isEmpty_iff.mp h7] at hx
      cases hx
    obtain ⟨t, a1, o, b1, b2, b3⟩ := body p e s m args below meth c s₁ B hml ht hP s₁ hh0 (Stand.of_body B)
    exact ⟨t, o, a1, b1, b2, b3⟩
/-- the table of a body with handlers -/
theorem vx_table {p : Program} {x y : MethodName} {S : Spec} {cc bytes : ByteArray} {maxL maxL' : Nat} {ret ret' : Option FieldType} {e : Env} {s s₁ : State} {m : MethodId} {args : Array Value} {below : List Frame} {meth : Method} {c : Code} {hh : List (Nat × Nat × Nat × Nat)}
    (B : BodyLoose p l y S cc maxL ret e s m args below meth c s₁) (h : (Cond.codeWith y bytes maxL' ret' hh).before args s = true) : c.exceptionTable.toList = tableOf hh := by
  obtain ⟨m9, meth9, c9, hn9, h1, h2, -, -, h6, -⟩ := Cond.codeWith_spec h
  cases Option.some.inj (hn9.symm.trans B.named)
  cases Option.some.inj (h1.symm.trans B.method)
  cases Option.some.inj (h2.symm.trans (Stand.of_body B).code)
  rw [← h6, table_eq]
end Bodies
end VXA
/-! ===== END ===== -/
/-! ===== BEGIN a static call of a method with an exception table ===== -/
section VXS
variable {p : Program} {l : Launch} {e : Env} {R : Room} {s : State} {m : MethodId} {args : Array Value} {below : List Frame} {meth : Method} {c : Code} {T : State} {H : Heap} {locs : List Loc} {cells slots : Nat}
abbrev vx_CSW (R : Room) (s : State) (args : Array Value) (own : String) (index : Nat) (y : MethodName) (bytes : ByteArray) (maxL : Nat) (ret : Option FieldType) (hh : List (Nat × Nat × Nat × Nat)) (ws : List Cond) (rm : Room) (mc ms n : Nat) : Prop :=
  (rm.cells = mc ∧ rm.slots = ms ∧ rm.frames + 1 ≤ R.frames ∧ 8 + (maxL + 11) + rm.locals ≤ R.locals ∧ (∀ w ∈ ws, ∀ (a' : Array Value) (U : State), s.WarmedH U.vm → w.before a' U = true) ∧ Cond.codeWith y bytes maxL ret hh ∈ ws) ∧
  (Cond.codeWith y bytes maxL ret hh).before args s = true ∧ (Cond.initialized y.cls).before args s = true ∧ (y.cls ≠ "java/lang/invoke/MethodHandle" ∧ y.cls ≠ "java/lang/invoke/VarHandle") ∧
  (∀ sig, parseMethodDescriptor y.desc = some sig → n = sig.parameters.length) ∧ (Cond.methodLink own index y).before args s = true ∧ (Cond.static y).before args s = true
theorem vx_cwSW {own : String} {index maxL mc ms : Nat} {y : MethodName} {bytes : ByteArray} {ret : Option FieldType} {hh : List (Nat × Nat × Nat × Nat)} {Ts ws ws' : List Cond} {rm : Room} (n : Nat) (ht : ∀ w ∈ Ts, w.before args s = true) (hT : GoodIn Ts (va_wsS own index y ws)) (hw : ws = Cond.codeWith y bytes maxL ret hh :: ws') (hrc : rm.cells = mc) (hrs : rm.slots = ms)
    (hd : y.cls ≠ "java/lang/invoke/MethodHandle" ∧ y.cls ≠ "java/lang/invoke/VarHandle" ∧ (parseMethodDescriptor y.desc).map (fun d => d.parameters.length) = some n) (hR : rm.frames + 1 ≤ R.frames ∧ 8 + (maxL + 11) + rm.locals ≤ R.locals) :
    vx_CSW R s args own index y bytes maxL ret hh ws rm mc ms n := by
  have ok : ∀ w ∈ va_wsS own index y ws, w.before args s = true := fun w h => ht w (hT w h).1
  have hG : GoodIn Ts ws := fun w h => hT w (by unfold va_wsS; exact List.mem_append_right _ h)
  have hc : Cond.codeWith y bytes maxL ret hh ∈ ws := by rw [hw]; exact List.mem_cons_self
  refine ⟨⟨hrc, hrs, hR.1, hR.2, pay_in ht hG, hc⟩, ht _ (hG _ hc).1, ok _ (by simp [va_wsS]), ⟨hd.1, hd.2.1⟩, fun sig h => ?_, ok _ (by simp [va_wsS]), ok _ (by simp [va_wsS])⟩
  have h2 := hd.2.2
  rw [h] at h2
  exact (Option.some.inj h2).symm
theorem vx_callSW (X : Stand p l e R s m args below meth c T locs cells slots) (hexec : p.tables.exec = Jvm.exec) {own : String} {index : Nat} {y : MethodName} {bytes : ByteArray} {maxL : Nat} {ret : Option FieldType} {hh : List (Nat × Nat × Nat × Nat)}
    (hown : s.vm.findClass own = some m.cls) (hlink : (Cond.methodLink own index y).before args s = true) (hstat : (Cond.static y).before args s = true) (hinit : (Cond.initialized y.cls).before args s = true)
    (hcode : (Cond.codeWith y bytes maxL ret hh).before args s = true) (hy : y.cls ≠ "java/lang/invoke/MethodHandle" ∧ y.cls ≠ "java/lang/invoke/VarHandle")
    {W9 : Nat} {Pre : Pt → Array Value → Prop} {Post : Pt → Array Value → Option Value → Pt → Prop} (hK : Back l R p e below s args y 3 W9 Pre Post)
    {g : JFrame} (hg : g.method = m) (hsize : g.locals.size = c.maxLocals) {argsL rest : List Value} (hlen : ∀ sig, parseMethodDescriptor y.desc = some sig → argsL.length = sig.parameters.length)
    (hstack : g.stack = argsL.reverse ++ rest) (hW : 2 * g.monitorRoom + (rest.map fun v => v.category).sum ≤ W9) (hdg : decode c.code g.pc = .ok (.invokestatic index, 3))
    (hpre : ∀ vm₁, s.WarmedH vm₁ → Pre ⟨T.setVm vm₁, locs, cells, slots⟩ argsL.toArray) :
    ∃ (v : Option Value) (vm₁ : Vm) (B : Pt), s.WarmedH vm₁ ∧ Stand p l e R s m args below meth c B.U B.locs B.cells B.slots ∧ Post ⟨T.setVm vm₁, locs, cells, slots⟩ argsL.toArray v B ∧
      ∀ target, Steps p.tables e below (B.U.setTop { g with pc := g.pc + 3, stack := v.toList ++ rest }) target → Steps p.tables e below (T.setTop g) target := by
  obtain ⟨mk, methM, cM, hnamed, hmethM, -, -, -, -, -, -, hsigM⟩ := Cond.codeWith_spec hcode
  have hstatic : methM.isStatic = true := Cond.static_spec hnamed hmethM hstat
  obtain ⟨kP, hkP, -⟩ := className_of_methodNamed hnamed
  have hinitP : kP.init = .initialized := Cond.initialized_spec (findClass_of_methodNamed hnamed) hkP hinit
  obtain ⟨vm₁, X₁, hstep₁⟩ := X.invokestatic hexec hown hlink hnamed hmethM hstatic hkP hinitP hy (g := g) hg (argsL := argsL) (rest := rest) (hlen _ hsigM) hstack hdg
  obtain ⟨v, B, X', hpost, hsteps⟩ := hK m meth c ⟨T.setVm vm₁, locs, cells, slots⟩ { g with stack := rest } (.invokestatic index) mk argsL.toArray X₁ hg hsize hdg hW (X₁.named hnamed) (hpre vm₁ X₁.warmed)
  exact ⟨v, vm₁, B, X₁.warmed, X', hpost, fun target h => hstep₁ _ fun acts => by rw [doInvoke_state]; exact hsteps.trans h⟩
theorem vx_runSW {y : MethodName} {bytes cc : ByteArray} {maxL nL mc ms n index : Nat} {ret : Option FieldType} {hh : List (Nat × Nat × Nat × Nat)} {ws : List Cond} {rm : Room} {Pc : Array Value → State → Prop} {Qc : Array Value → State → Outcome → State → Prop} {free : Addr → Prop} {Ts : List Cond} {own : String} {As rest : List Value} {g : JFrame}
    (S : CallFix p m c cc nL s args Ts own) (hM : Met l y ws rm Pc Qc mc ms free) (cw : vx_CSW R s args own index y bytes maxL ret hh ws rm mc ms n) (hp : PreS s H Pc As)
    (hg : g.method = m) (hn : As.length = n) (hsize : g.locals.size = nL) (hstack : g.stack = As.reverse ++ rest) (hW : 2 * g.monitorRoom + (rest.map fun v => v.category).sum ≤ 8) (hdg : decode cc g.pc = .ok (.invokestatic index, 3)) (hf : cells + mc ≤ R.cells ∧ slots + ms ≤ R.slots) :
    va_Run p l e R s m args below meth c H locs cells slots mc ms g rest (Qc As.toArray) (free) := by
  obtain ⟨⟨hrc, hrs, hfr, hlo, hws, hcw⟩, hcode, hini, hy, hlen, hl, hstt⟩ := cw
  have hK : Back l R p e below s args y 3 8 (PreOf R mc ms Pc) (PostOf Qc mc ms free) := va_backW (hh := hh) (bytes := bytes) (maxL := maxL) (ret := ret) hM hp.1 hrc hrs hfr hlo hws hcw (fun a' U hW => word_at hW (Or.inl (by first | rfl | simp [Cond.onTables, Cond.keeps, Cond.steady])) hini)
  obtain ⟨hx, hb, hml, ho, -⟩ := S
  intro T hT X
  obtain ⟨v, vm₁, ⟨U', l2, c2, s2⟩, hW₁, X', ⟨g', mk, t, L, e1, e2, hq, h1, hL, h2, h3⟩, st⟩ := vx_callSW X hx (hh := hh) (bytes := bytes) (maxL := maxL) (ret := ret) ho hl hstt hini hcode hy hK hg (hsize.trans hml.symm) (argsL := As) (rest := rest) (fun sig h => hn.trans (hlen sig h)) hstack hW (by rw [hb]; exact hdg)
    (fun vm₁ hW₁ => ⟨hf.1, hf.2, hp.2 (T.setVm vm₁) hT hW₁⟩)
  dsimp only [Pt.U, Pt.locs, Pt.cells, Pt.slots] at X' e1 e2 h1 h2 h3 st
  subst h1; subst h2; subst h3
  exact ⟨v, (T.setVm vm₁).calling g' mk As.toArray, t, U', L, hT, X', hL, e1, e2, hq, st⟩
/-- not caught here, past rows that name other classes: it goes on to the caller -/
theorem vx_outP {p : Program} {l : Launch} {e : Env} {R : Room} {s : State} {m : MethodId} {args : Array Value} {below : List Frame} {meth : Method} {c : Code} {H : Heap} {locs : List Loc} {cells slots : Nat} {free : Addr → Prop} {ls : Array Slot} {rest : List Value} {Qc : Array Value → State → Outcome → State → Prop} {XC : String → State → State → Prop}
    {pc : Nat} {own E : String} {ce : Cell} {q : Addr} {mc ms : Nat} (hown : s.vm.findClass own = some m.cls) (hlocks : meth.locks = false)
    (hpass : ∀ z ∈ c.exceptionTable.toList, covers z pc = false ∨ (z.catchType ≠ 0 ∧ ∃ nm : String, (Cond.classLink own z.catchType nm).before args s = true ∧ va_Nc E nm s)) (hcell : H[q]? = some ce) (hv : ce.vm = .none) (hcl : s.vm.findClass E = some ce.cls)
    (hx : ∀ t : State, t.heap = H → s.vm.Alike t.vm → XC E s t) (hf : ∀ z ∈ locs, free z.base) (hc : cells ≤ mc) (hs : slots ≤ ms) :
    vx_W p l e R s m args below meth c H locs cells slots (vx_MQ below Qc XC args s mc ms free) (F0 m pc ls rest) q := by
  intro T hT X
  have hpl : e.platform.magicAccessors = ({} : Platform).magicAccessors := by rw [X.admits.platform]
  obtain ⟨vm', hW', X', st⟩ := X.outThrough hlocks q (g := F0 m pc ls rest) rfl rfl rfl (cell := ce) (by rw [hT]; exact hcell) (by rw [hv]; rfl)
    (by obtain ⟨k9, h9, -⟩ := Vm.findClass_spec hcl; exact ⟨k9, h9⟩) (fun z hz => by
      rcases hpass z hz with h | ⟨hz0, nm, hl1, hn1⟩
      · exact Or.inl h
      · obtain ⟨c6, hc6, hcl6⟩ := Cond.classLink_spec hown hl1 e.platform hpl
        obtain ⟨a8, b8, h1, h2, h3⟩ := hn1
        cases Option.some.inj (h1.symm.trans hcl)
        cases Option.some.inj (h2.symm.trans hc6)
        exact Or.inr ⟨hz0, _, hcl6, h3⟩)
  obtain ⟨g₀, hfr⟩ := X'.frames_eq
  have hcell9 : ((T.setVm vm').setFrames (.throwing q :: below)).heap[q]? = some ce := by
    show T.heap[q]? = some ce
    rw [hT]; exact hcell
  have hend : Ended ((T.setVm vm').setFrames (.throwing q :: below)) below (.threw q) := State.frames_setFrames _ (State.cur_lt_of_frames hfr)
  refine ⟨(T.setVm vm').setFrames (.throwing q :: below), ?_, .threw q, X'.here.running, hend, Or.inr ⟨q, rfl, E, ce, locs, hx _ hT (X'.ends _).1.alike, hcell9, hv, hcl, (X'.ends _).1, (X'.ends _).2.mono hc hs, hf⟩⟩
  rw [X.pushThrowing_eq]
  exact st
/-- a thing of a world lies in the heap -/
theorem vx_lt {D : va_G} {cl : List vw_C} {ws : va_W} {H1 : Heap} (h : va_P D cl ws H1) {k : Nat} {q : Nat × va_E} (hk : ws[k]? = some q) : q.1 < H1.size := (h k q hk).lt
end VXS
/-! ===== END ===== -/
/-! ===== BEGIN methods with a table of their own: called by a name, returning or throwing ===== -/
section VXH
/-! vx_backW, vx_callVX, vx_callSX, vx_callVW, vx_runVW, vx_runVX, vx_runSX, vx_ofWH follow the same proofs as their sisters above (Free/Laws.lean, Shelf42/LK1.lean); vx_outP calls Shelf42/NT130.lean (outThrough). -/
section
variable {l : Launch} {R : Room} {p : Program} {e : Env} {below : List Frame} {s : State} {sargs : Array Value} {y : MethodName} {len W9 : Nat}
theorem vx_backW {ws : List Cond} {rm : Room} {Pc : Array Value → State → Prop} {Qc : Array Value → State → Outcome → State → Prop} {XC : String → State → State → Prop} {mc ms : Nat} {free : Addr → Prop} {bytes : ByteArray} {maxL : Nat} {ret : Option FieldType} {hh : List (Nat × Nat × Nat × Nat)}
    (hM : vx_Met l y ws rm Pc Qc XC mc ms free) (hblind : FrameBlind Pc) (hrc : rm.cells = mc) (hrs : rm.slots = ms)
    (hframes : rm.frames + 1 ≤ R.frames) (hlocals : W9 + (maxL + 11) + rm.locals ≤ R.locals)
    (hws : ∀ w ∈ ws, ∀ a' U, s.WarmedH U.vm → w.before a' U = true) (hcode : Cond.codeWith y bytes maxL ret hh ∈ ws) (hinit : ∀ a' U, s.WarmedH U.vm → (Cond.initialized y.cls).before a' U = true) :
    vx_Back l R p e below s sargs y len W9 (PreOf R mc ms Pc) (PostOf Qc mc ms free) (vx_Post XC mc ms free) := by
  intro m meth c A g ig mk a X hg hsize hdg hW hn hp
  have h1 : (headSpec ws rm).pre.before a A.U = true := atoms_intro fun w hw => hws w hw _ _ X.warmed
  have h2 : (Cond.codeWith y bytes maxL ret hh).before a A.U = true := hws _ hcode _ _ X.warmed
  have h3 : (Cond.initialized y.cls).before a A.U = true := hinit _ _ X.warmed
  have h4 : A.cells + (headSpec ws rm).room.cells ≤ R.cells := by rw [show (headSpec ws rm).room.cells = mc from hrc]; exact hp.1
  have h5 : A.slots + (headSpec ws rm).room.slots ≤ R.slots := by rw [show (headSpec ws rm).room.slots = ms from hrs]; exact hp.2.1
  have hPc : Pc a (A.U.calling g mk a) := hblind _ _ _ _ hp.2.2
  obtain ⟨U, Ls, c0, s0⟩ := A
  dsimp only [Pt.U, Pt.locs, Pt.cells, Pt.slots] at h1 h2 h3 h4 h5 X hn hPc ⊢
  obtain ⟨m9, methY, cY, hn9, hmY, hcY, -, hlY, -⟩ := Cond.codeWith_spec h2
  cases Option.some.inj (hn9.symm.trans hn)
  obtain ⟨kY, hkY, -⟩ := className_of_methodNamed hn
  have hinitY : kY.init = .initialized := Cond.initialized_spec (findClass_of_methodNamed hn) hkY h3
  have h : At U g.method c below := by rw [hg]; exact X.here
  have hlocals9 : W9 + (maxL + 11) + (headSpec ws rm).room.locals ≤ R.locals := hlocals
  have happ : (headSpec ws rm).appliesLoose y e.platform (U.calling g mk a) = true :=
    Spec.appliesLoose_calling (g := g) h hdg hn hkY hinitY
      (X.room_calling (g := g) (R' := (headSpec ws rm).room) hsize hmY hcY hframes (by rw [hlY]; omega) h4 h5) h1
  obtain ⟨mid, hmid⟩ := h.above
  have hfr : (U.setTop g).frames = (.java g :: mid) ++ below := by rw [State.frames_setTop' g h.top, hmid]; rfl
  obtain ⟨o, s₂, hsteps, -, hend, hq⟩ := Steps.callFree hM p X.admits X.cas X.clock (acts := []) hfr happ hPc trivial
  have hq' : vx_Q Qc XC mc ms free a (U.calling g mk a) o s₂ := hq
  rw [State.frames_setTop' g h.top] at hend
  obtain ⟨g₀, hg0⟩ := Option.isSome_iff_exists.mp h.top
  obtain ⟨r, hr⟩ := State.topJava?_eq_some.mp hg0
  have hr' : (({ U with heap := s₂.heap, slotsUsed := s₂.slotsUsed } : State).setVm s₂.vm).frames = .java g₀ :: r := hr
  rcases hq' with ⟨hqc, L, hfe, hL⟩ | ⟨q, rfl, E, ce, L, hx, hce, hcv, hcl, hW₂, hsm, hL⟩
  · obtain ⟨⟨v, rfl⟩, hW₂, e2, q2, q3, q4, q5, q6⟩ := id hfe
    have e3 : s₂ = ({ (U.calling g mk a).setFrames s₂.frames with heap := s₂.heap, slotsUsed := s₂.slotsUsed } : State).setVm s₂.vm := by
      have : s₂ = ({ s₂ with vm := (U.calling g mk a).vm } : State).setVm s₂.vm := rfl
      rw [e2] at this
      exact this
    obtain ⟨c₂, i₂, len₂, hc₂, hd₂, hf₂⟩ := hend
    have hW' : U.WarmedH s₂.vm := hW₂
    have hcc : c₂ = c := by
      have h1 : s₂.code? g.method = U.code? g.method := by
        rw [State.code?_eq, State.code?_eq, hW'.alike.method?]
      exact Option.some.inj (hc₂.symm.trans (h1.trans h.code))
    subst hcc
    have hlen : len₂ = len := by rw [hdg] at hd₂; cases hd₂; rfl
    subst hlen
    have hs₂ : s₂ = (({ U with heap := s₂.heap, slotsUsed := s₂.slotsUsed } : State).setVm s₂.vm).setTop { g with pc := g.pc + len₂, stack := v.toList ++ g.stack } := by
      refine e3.trans ?_
      rw [hf₂, State.calling_eq h.top, State.setFrames_setFrames, State.setTop_of_frames _ hr', hr]
      rfl
    have hsame : U.sameButNew ({ U with heap := s₂.heap, slotsUsed := s₂.slotsUsed } : State) L mc ms := by
      refine ⟨?_, q2, q3, q4, q5, q6⟩
      obtain ⟨t, ht, -⟩ := State.frames_cons hr
      show ({ U with heap := s₂.heap, slotsUsed := s₂.slotsUsed } : State) = { U.setFrames U.frames with heap := s₂.heap, slotsUsed := s₂.slotsUsed }
      rw [State.setFrames_self ht]
    subst hg
    refine Or.inl ⟨v, ⟨(({ U with heap := s₂.heap, slotsUsed := s₂.slotsUsed } : State).setVm s₂.vm), Ls ++ L, c0 + mc, s0 + ms⟩,
      ⟨X.admits, X.cas, X.clock, X.frames, X.room, X.hears, X.method, X.code, (X.here.setHeapUsed s₂.heap s₂.slotsUsed).setVm hW'.alike, X.tail, State.WarmedH.trans X.warmed hW', X.limits, X.bytes, X.same.trans (hsame.setVm s.vm)⟩,
      ⟨g, mk, s₂, L, rfl, rfl, hqc, rfl, hL, rfl, rfl⟩, ?_⟩
    show Steps p.tables e below _ ((({ U with heap := s₂.heap, slotsUsed := s₂.slotsUsed } : State).setVm s₂.vm).setTop { g with pc := g.pc + len₂, stack := v.toList ++ g.stack })
    rw [← hs₂]
    exact hsteps
  · obtain ⟨e2, q2, q3, q4, q5, q6⟩ := id hsm
    have e3 : s₂ = ({ (U.calling g mk a).setFrames s₂.frames with heap := s₂.heap, slotsUsed := s₂.slotsUsed } : State).setVm s₂.vm := by
      have : s₂ = ({ s₂ with vm := (U.calling g mk a).vm } : State).setVm s₂.vm := rfl
      rw [e2] at this
      exact this
    have hf₂ : s₂.frames = .throwing q :: .java g :: U.frames.tail := hend
    have hW' : U.WarmedH s₂.vm := hW₂
    have hs₂ : s₂ = ((({ U with heap := s₂.heap, slotsUsed := s₂.slotsUsed } : State).setVm s₂.vm).setTop g).pushFrame (.throwing q) := by
      refine e3.trans ?_
      rw [hf₂, State.calling_eq h.top, State.setFrames_setFrames, State.pushFrame, State.frames_setTop _ hr', State.setTop_of_frames _ hr', State.setFrames_setFrames, hr]
      rfl
    have hsame : U.sameButNew ({ U with heap := s₂.heap, slotsUsed := s₂.slotsUsed } : State) L mc ms := by
      refine ⟨?_, q2, q3, q4, q5, q6⟩
      obtain ⟨t, ht, -⟩ := State.frames_cons hr
      show ({ U with heap := s₂.heap, slotsUsed := s₂.slotsUsed } : State) = { U.setFrames U.frames with heap := s₂.heap, slotsUsed := s₂.slotsUsed }
      rw [State.setFrames_self ht]
    subst hg
    refine Or.inr ⟨q, ⟨(({ U with heap := s₂.heap, slotsUsed := s₂.slotsUsed } : State).setVm s₂.vm), Ls ++ L, c0 + mc, s0 + ms⟩,
      ⟨X.admits, X.cas, X.clock, X.frames, X.room, X.hears, X.method, X.code, (X.here.setHeapUsed s₂.heap s₂.slotsUsed).setVm hW'.alike, X.tail, State.WarmedH.trans X.warmed hW', X.limits, X.bytes, X.same.trans (hsame.setVm s.vm)⟩,
      ⟨g, mk, s₂, L, E, ce, rfl, rfl, hx, hce, hcv, hcl, rfl, hL, rfl, rfl⟩, ?_⟩
    show Steps p.tables e below _ (((({ U with heap := s₂.heap, slotsUsed := s₂.slotsUsed } : State).setVm s₂.vm).setTop g).pushFrame (.throwing q))
    rw [← hs₂]
    exact hsteps
end
variable {p : Program} {l : Launch} {e : Env} {R : Room} {s : State} {m : MethodId} {args : Array Value} {below : List Frame} {meth : Method} {c : Code} {T : State} {H : Heap} {locs : List Loc} {cells slots : Nat}
theorem vx_callVX (X : Stand p l e R s m args below meth c T locs cells slots) (hexec : p.tables.exec = Jvm.exec) {own C : String} {index : Nat} {y : MethodName} {bytes : ByteArray} {maxL : Nat} {ret : Option FieldType} {hh : List (Nat × Nat × Nat × Nat)}
    (hown : s.vm.findClass own = some m.cls) (hlink : (Cond.methodLink own index y).before args s = true) (hinst : (Cond.instanceMethod y).before args s = true) (hsel : (Cond.selects C y y).before args s = true)
    (hcode : (Cond.codeWith y bytes maxL ret hh).before args s = true) (hy : y.cls ≠ "java/lang/invoke/MethodHandle" ∧ y.cls ≠ "java/lang/invoke/VarHandle")
    {W9 : Nat} {Pre : Pt → Array Value → Prop} {Post : Pt → Array Value → Option Value → Pt → Prop} {PostX : Pt → Array Value → Addr → Pt → Prop} (hK : vx_Back l R p e below s args y 3 W9 Pre Post PostX)
    {b : Addr} {cellB : Cell} (hcell : T.heap[b]? = some cellB) (hobj : cellB.vm.isStatics = false) (hcls : s.vm.findClass C = some cellB.cls)
    {g : JFrame} (hg : g.method = m) (hsize : g.locals.size = c.maxLocals) {argsL rest : List Value} (hlen : ∀ sig, parseMethodDescriptor y.desc = some sig → argsL.length = sig.parameters.length)
    (hstack : g.stack = argsL.reverse ++ .ref b :: rest) (hW : 2 * g.monitorRoom + (rest.map fun v => v.category).sum ≤ W9) (hdg : decode c.code g.pc = .ok (.invokevirtual index, 3))
    (hpre : ∀ vm₁, s.WarmedH vm₁ → Pre ⟨T.setVm vm₁, locs, cells, slots⟩ (Value.ref b :: argsL).toArray) :
    (∃ (v : Option Value) (vm₁ : Vm) (B : Pt), s.WarmedH vm₁ ∧ Stand p l e R s m args below meth c B.U B.locs B.cells B.slots ∧ Post ⟨T.setVm vm₁, locs, cells, slots⟩ (Value.ref b :: argsL).toArray v B ∧
      ∀ target, Steps p.tables e below (B.U.setTop { g with pc := g.pc + 3, stack := v.toList ++ rest }) target → Steps p.tables e below (T.setTop g) target) ∨
    (∃ (q : Addr) (vm₁ : Vm) (B : Pt), s.WarmedH vm₁ ∧ Stand p l e R s m args below meth c B.U B.locs B.cells B.slots ∧ PostX ⟨T.setVm vm₁, locs, cells, slots⟩ (Value.ref b :: argsL).toArray q B ∧
      Steps p.tables e below (T.setTop g) ((B.U.setTop { g with stack := rest }).pushFrame (.throwing q))) := by
  obtain ⟨mk, methM, hnamed, hmethM, hstM, habM⟩ := Cond.instanceMethod_spec hinst
  obtain ⟨m8, methM', cM, hn8, hmethM', -, -, -, -, -, -, hsigM⟩ := Cond.codeWith_spec hcode
  cases Option.some.inj (hn8.symm.trans hnamed)
  cases hmethM.symm.trans hmethM'
  obtain ⟨c2, r2, m2, q1, q2, q3, q4, kP, hkP, hkPi⟩ := Cond.selects_spec hsel
  cases hcls.symm.trans q1
  cases (State.methodFound?_of_named hnamed hy).symm.trans q2
  cases hnamed.symm.trans q3
  have hselP : selectMethod e.platform s.vm cellB.cls mk = .method mk := by rw [Launch.admits_selectMethod X.admits]; exact q4
  obtain ⟨vm₁, X₁, hstep₁⟩ := X.invokevirtual hexec hown hlink hnamed hmethM hstM hkP hkPi hy (a := b) (cell := cellB) hcell
    (fun z h => by rw [h] at hobj; cases hobj) hselP hmethM habM hkP hkPi (g := g) hg (argsL := argsL) (rest := rest) (hlen _ hsigM) hstack hdg
  rcases hK m meth c ⟨T.setVm vm₁, locs, cells, slots⟩ { g with stack := rest } (.invokevirtual index) mk (Value.ref b :: argsL).toArray X₁ hg hsize hdg hW (X₁.named hnamed) (hpre vm₁ X₁.warmed) with ⟨v, B, X', hpost, hsteps⟩ | ⟨q, B, X', hpost, hsteps⟩
  · exact Or.inl ⟨v, vm₁, B, X₁.warmed, X', hpost, fun target h => hstep₁ _ fun acts => by rw [doInvoke_state]; exact hsteps.trans h⟩
  · exact Or.inr ⟨q, vm₁, B, X₁.warmed, X', hpost, hstep₁ _ fun acts => by rw [doInvoke_state]; exact hsteps⟩
theorem vx_callSX (X : Stand p l e R s m args below meth c T locs cells slots) (hexec : p.tables.exec = Jvm.exec) {own : String} {index : Nat} {y : MethodName} {bytes : ByteArray} {maxL : Nat} {ret : Option FieldType} {hh : List (Nat × Nat × Nat × Nat)}
    (hown : s.vm.findClass own = some m.cls) (hlink : (Cond.methodLink own index y).before args s = true) (hstat : (Cond.static y).before args s = true) (hinit : (Cond.initialized y.cls).before args s = true)
    (hcode : (Cond.codeWith y bytes maxL ret hh).before args s = true) (hy : y.cls ≠ "java/lang/invoke/MethodHandle" ∧ y.cls ≠ "java/lang/invoke/VarHandle")
    {W9 : Nat} {Pre : Pt → Array Value → Prop} {Post : Pt → Array Value → Option Value → Pt → Prop} {PostX : Pt → Array Value → Addr → Pt → Prop} (hK : vx_Back l R p e below s args y 3 W9 Pre Post PostX)
    {g : JFrame} (hg : g.method = m) (hsize : g.locals.size = c.maxLocals) {argsL rest : List Value} (hlen : ∀ sig, parseMethodDescriptor y.desc = some sig → argsL.length = sig.parameters.length)
    (hstack : g.stack = argsL.reverse ++ rest) (hW : 2 * g.monitorRoom + (rest.map fun v => v.category).sum ≤ W9) (hdg : decode c.code g.pc = .ok (.invokestatic index, 3))
    (hpre : ∀ vm₁, s.WarmedH vm₁ → Pre ⟨T.setVm vm₁, locs, cells, slots⟩ argsL.toArray) :
    (∃ (v : Option Value) (vm₁ : Vm) (B : Pt), s.WarmedH vm₁ ∧ Stand p l e R s m args below meth c B.U B.locs B.cells B.slots ∧ Post ⟨T.setVm vm₁, locs, cells, slots⟩ argsL.toArray v B ∧
      ∀ target, Steps p.tables e below (B.U.setTop { g with pc := g.pc + 3, stack := v.toList ++ rest }) target → Steps p.tables e below (T.setTop g) target) ∨
    (∃ (q : Addr) (vm₁ : Vm) (B : Pt), s.WarmedH vm₁ ∧ Stand p l e R s m args below meth c B.U B.locs B.cells B.slots ∧ PostX ⟨T.setVm vm₁, locs, cells, slots⟩ argsL.toArray q B ∧
      Steps p.tables e below (T.setTop g) ((B.U.setTop { g with stack := rest }).pushFrame (.throwing q))) := by
  obtain ⟨mk, methM, cM, hnamed, hmethM, -, -, -, -, -, -, hsigM⟩ := Cond.codeWith_spec hcode
  have hstatic : methM.isStatic = true := Cond.static_spec hnamed hmethM hstat
  obtain ⟨kP, hkP, -⟩ := className_of_methodNamed hnamed
  have hinitP : kP.init = .initialized := Cond.initialized_spec (findClass_of_methodNamed hnamed) hkP hinit
  obtain ⟨vm₁, X₁, hstep₁⟩ := X.invokestatic hexec hown hlink hnamed hmethM hstatic hkP hinitP hy (g := g) hg (argsL := argsL) (rest := rest) (hlen _ hsigM) hstack hdg
  rcases hK m meth c ⟨T.setVm vm₁, locs, cells, slots⟩ { g with stack := rest } (.invokestatic index) mk argsL.toArray X₁ hg hsize hdg hW (X₁.named hnamed) (hpre vm₁ X₁.warmed) with ⟨v, B, X', hpost, hsteps⟩ | ⟨q, B, X', hpost, hsteps⟩
  · exact Or.inl ⟨v, vm₁, B, X₁.warmed, X', hpost, fun target h => hstep₁ _ fun acts => by rw [doInvoke_state]; exact hsteps.trans h⟩
  · exact Or.inr ⟨q, vm₁, B, X₁.warmed, X', hpost, hstep₁ _ fun acts => by rw [doInvoke_state]; exact hsteps⟩
theorem vx_callVW (X : Stand p l e R s m args below meth c T locs cells slots) (hexec : p.tables.exec = Jvm.exec) {own C : String} {index : Nat} {y : MethodName} {bytes : ByteArray} {maxL : Nat} {ret : Option FieldType} {hh : List (Nat × Nat × Nat × Nat)}
    (hown : s.vm.findClass own = some m.cls) (hlink : (Cond.methodLink own index y).before args s = true) (hinst : (Cond.instanceMethod y).before args s = true) (hsel : (Cond.selects C y y).before args s = true)
    (hcode : (Cond.codeWith y bytes maxL ret hh).before args s = true) (hy : y.cls ≠ "java/lang/invoke/MethodHandle" ∧ y.cls ≠ "java/lang/invoke/VarHandle")
    {W9 : Nat} {Pre : Pt → Array Value → Prop} {Post : Pt → Array Value → Option Value → Pt → Prop} (hK : Back l R p e below s args y 3 W9 Pre Post)
    {b : Addr} {cellB : Cell} (hcell : T.heap[b]? = some cellB) (hobj : cellB.vm.isStatics = false) (hcls : s.vm.findClass C = some cellB.cls)
    {g : JFrame} (hg : g.method = m) (hsize : g.locals.size = c.maxLocals) {argsL rest : List Value} (hlen : ∀ sig, parseMethodDescriptor y.desc = some sig → argsL.length = sig.parameters.length)
    (hstack : g.stack = argsL.reverse ++ .ref b :: rest) (hW : 2 * g.monitorRoom + (rest.map fun v => v.category).sum ≤ W9) (hdg : decode c.code g.pc = .ok (.invokevirtual index, 3))
    (hpre : ∀ vm₁, s.WarmedH vm₁ → Pre ⟨T.setVm vm₁, locs, cells, slots⟩ (Value.ref b :: argsL).toArray) :
    ∃ (v : Option Value) (vm₁ : Vm) (B : Pt), s.WarmedH vm₁ ∧ Stand p l e R s m args below meth c B.U B.locs B.cells B.slots ∧ Post ⟨T.setVm vm₁, locs, cells, slots⟩ (Value.ref b :: argsL).toArray v B ∧
      ∀ target, Steps p.tables e below (B.U.setTop { g with pc := g.pc + 3, stack := v.toList ++ rest }) target → Steps p.tables e below (T.setTop g) target := by
  obtain ⟨mk, methM, hnamed, hmethM, hstM, habM⟩ := Cond.instanceMethod_spec hinst
  obtain ⟨m8, methM', cM, hn8, hmethM', -, -, -, -, -, -, hsigM⟩ := Cond.codeWith_spec hcode
  cases Option.some.inj (hn8.symm.trans hnamed)
  cases hmethM.symm.trans hmethM'
  obtain ⟨c2, r2, m2, q1, q2, q3, q4, kP, hkP, hkPi⟩ := Cond.selects_spec hsel
  cases hcls.symm.trans q1
  cases (State.methodFound?_of_named hnamed hy).symm.trans q2
  cases hnamed.symm.trans q3
  have hselP : selectMethod e.platform s.vm cellB.cls mk = .method mk := by rw [Launch.admits_selectMethod X.admits]; exact q4
  obtain ⟨vm₁, X₁, hstep₁⟩ := X.invokevirtual hexec hown hlink hnamed hmethM hstM hkP hkPi hy (a := b) (cell := cellB) hcell
    (fun z h => by rw [h] at hobj; cases hobj) hselP hmethM habM hkP hkPi (g := g) hg (argsL := argsL) (rest := rest) (hlen _ hsigM) hstack hdg
  obtain ⟨v, B, X', hpost, hsteps⟩ := hK m meth c ⟨T.setVm vm₁, locs, cells, slots⟩ { g with stack := rest } (.invokevirtual index) mk (Value.ref b :: argsL).toArray X₁ hg hsize hdg hW (X₁.named hnamed) (hpre vm₁ X₁.warmed)
  exact ⟨v, vm₁, B, X₁.warmed, X', hpost, fun target h => hstep₁ _ fun acts => by rw [doInvoke_state]; exact hsteps.trans h⟩
abbrev vx_CVW (R : Room) (s : State) (args : Array Value) (own C : String) (index : Nat) (y : MethodName) (bytes : ByteArray) (maxL : Nat) (ret : Option FieldType) (hh : List (Nat × Nat × Nat × Nat)) (ws : List Cond) (rm : Room) (mc ms n : Nat) : Prop :=
  (rm.cells = mc ∧ rm.slots = ms ∧ rm.frames + 1 ≤ R.frames ∧ 8 + (maxL + 11) + rm.locals ≤ R.locals ∧ (∀ w ∈ ws, ∀ (a' : Array Value) (U : State), s.WarmedH U.vm → w.before a' U = true) ∧ Cond.codeWith y bytes maxL ret hh ∈ ws) ∧
  (Cond.codeWith y bytes maxL ret hh).before args s = true ∧ (Cond.initialized y.cls).before args s = true ∧ (y.cls ≠ "java/lang/invoke/MethodHandle" ∧ y.cls ≠ "java/lang/invoke/VarHandle") ∧
  (∀ sig, parseMethodDescriptor y.desc = some sig → n = sig.parameters.length) ∧ (Cond.methodLink own index y).before args s = true ∧ (Cond.instanceMethod y).before args s = true ∧ (Cond.selects C y y).before args s = true
theorem vx_cwVW {own C : String} {index maxL mc ms : Nat} {y : MethodName} {bytes : ByteArray} {ret : Option FieldType} {hh : List (Nat × Nat × Nat × Nat)} {Ts ws ws' : List Cond} {rm : Room} (n : Nat) (ht : ∀ w ∈ Ts, w.before args s = true) (hT : GoodIn Ts (wsV own index C y ws)) (hw : ws = Cond.codeWith y bytes maxL ret hh :: ws') (hrc : rm.cells = mc) (hrs : rm.slots = ms)
    (hd : y.cls = C ∧ y.cls ≠ "java/lang/invoke/MethodHandle" ∧ y.cls ≠ "java/lang/invoke/VarHandle" ∧ (parseMethodDescriptor y.desc).map (fun d => d.parameters.length) = some n) (hR : rm.frames + 1 ≤ R.frames ∧ 8 + (maxL + 11) + rm.locals ≤ R.locals) :
    vx_CVW R s args own C index y bytes maxL ret hh ws rm mc ms n := by
  obtain ⟨hC, hd⟩ := hd
  subst hC
  have ok : ∀ w ∈ wsV own index y.cls y ws, w.before args s = true := fun w h => ht w (hT w h).1
  have hG : GoodIn Ts ws := fun w h => hT w (by unfold wsV; exact List.mem_append_right _ h)
  have hc : Cond.codeWith y bytes maxL ret hh ∈ ws := by rw [hw]; exact List.mem_cons_self
  refine ⟨⟨hrc, hrs, hR.1, hR.2, pay_in ht hG, hc⟩, ht _ (hG _ hc).1, ok _ (by simp [wsV]), ⟨hd.1, hd.2.1⟩, fun sig h => ?_, ok _ (by simp [wsV]), ok _ (by simp [wsV]), ok _ (by simp [wsV])⟩
  have h2 := hd.2.2
  rw [h] at h2
  exact (Option.some.inj h2).symm
theorem vx_runVW {y : MethodName} {bytes cc : ByteArray} {maxL nL mc ms n index : Nat} {ret : Option FieldType} {hh : List (Nat × Nat × Nat × Nat)} {ws : List Cond} {rm : Room} {Pc : Array Value → State → Prop} {Qc : Array Value → State → Outcome → State → Prop} {free : Addr → Prop} {Ts : List Cond} {own C : String} {b : Addr} {As rest : List Value} {g : JFrame}
    (S : CallFix p m c cc nL s args Ts own) (hM : Met l y ws rm Pc Qc mc ms free) (cw : vx_CVW R s args own C index y bytes maxL ret hh ws rm mc ms n) (hp : PreV s H C b Pc As)
    (hg : g.method = m) (hn : As.length = n) (hsize : g.locals.size = nL) (hstack : g.stack = As.reverse ++ .ref b :: rest) (hW : 2 * g.monitorRoom + (rest.map fun v => v.category).sum ≤ 8) (hdg : decode cc g.pc = .ok (.invokevirtual index, 3)) (hf : cells + mc ≤ R.cells ∧ slots + ms ≤ R.slots) :
    va_Run p l e R s m args below meth c H locs cells slots mc ms g rest (Qc (Value.ref b :: As).toArray) free := by
  obtain ⟨⟨hrc, hrs, hfr, hlo, hws, hcw⟩, hcode, hini, hy, hlen, hl, hin, hse⟩ := cw
  have hK : Back l R p e below s args y 3 8 (PreOf R mc ms Pc) (PostOf Qc mc ms free) := va_backW (hh := hh) (bytes := bytes) (maxL := maxL) (ret := ret) hM hp.1 hrc hrs hfr hlo hws hcw (fun a' U hW => word_at hW (Or.inl (by first | rfl | simp [Cond.onTables, Cond.keeps, Cond.steady])) hini)
  obtain ⟨hx, hb, hml, ho, -⟩ := S
  obtain ⟨-, ⟨cellB, hcB, hoB, hclB⟩, hPc⟩ := hp
  intro T hT X
  obtain ⟨v, vm₁, ⟨U', l2, c2, s2⟩, hW₁, X', ⟨g', mk, t, L, e1, e2, hq, h1, hL, h2, h3⟩, st⟩ := vx_callVW X hx (C := C) (hh := hh) (bytes := bytes) (maxL := maxL) (ret := ret) ho hl hin hse hcode hy hK (by rw [hT]; exact hcB) hoB hclB hg (hsize.trans hml.symm) (argsL := As) (rest := rest) (fun sig h => hn.trans (hlen sig h)) hstack hW (by rw [hb]; exact hdg)
    (fun vm₁ hW₁ => ⟨hf.1, hf.2, hPc (T.setVm vm₁) hT hW₁⟩)
  dsimp only [Pt.U, Pt.locs, Pt.cells, Pt.slots] at X' e1 e2 h1 h2 h3 st
  subst h1; subst h2; subst h3
  exact ⟨v, (T.setVm vm₁).calling g' mk (Value.ref b :: As).toArray, t, U', L, hT, X', hL, e1, e2, hq, st⟩
section
variable {y : MethodName} {bytes cc : ByteArray} {maxL nL mc ms n index : Nat} {ret : Option FieldType} {ws : List Cond} {rm : Room} {Pc : Array Value → State → Prop} {Qc : Array Value → State → Outcome → State → Prop} {XC : String → State → State → Prop} {free : Addr → Prop} {Ts : List Cond} {own C : String} {b : Addr} {As rest : List Value} {g : JFrame}
theorem vx_runVX {hh : List (Nat × Nat × Nat × Nat)} (S : CallFix p m c cc nL s args Ts own) (hM : vx_Met l y ws rm Pc Qc XC mc ms free) (cw : vx_CVW R s args own C index y bytes maxL ret hh ws rm mc ms n) (hp : PreV s H C b Pc As)
    (hg : g.method = m) (hn : As.length = n) (hsize : g.locals.size = nL) (hstack : g.stack = As.reverse ++ .ref b :: rest) (hW : 2 * g.monitorRoom + (rest.map fun v => v.category).sum ≤ 8) (hdg : decode cc g.pc = .ok (.invokevirtual index, 3)) (hf : cells + mc ≤ R.cells ∧ slots + ms ≤ R.slots) :
    vx_Run p l e R s m args below meth c H locs cells slots mc ms g rest (Qc (Value.ref b :: As).toArray) XC free := by
  obtain ⟨⟨hrc, hrs, hfr, hlo, hws, hcw⟩, hcode, hini, hy, hlen, hl, hin, hse⟩ := cw
  have hK : vx_Back l R p e below s args y 3 8 (PreOf R mc ms Pc) (PostOf Qc mc ms free) (vx_Post XC mc ms free) := vx_backW (hh := hh) (bytes := bytes) (maxL := maxL) (ret := ret) hM hp.1 hrc hrs hfr hlo hws hcw (fun a' U hW => word_at hW (Or.inl (by first | rfl | simp [Cond.onTables, Cond.keeps, Cond.steady])) hini)
  obtain ⟨hx, hb, hml, ho, -⟩ := S
  obtain ⟨-, ⟨cellB, hcB, hoB, hclB⟩, hPc⟩ := hp
  intro T hT X
  rcases vx_callVX X hx (C := C) (hh := hh) (bytes := bytes) (maxL := maxL) (ret := ret) ho hl hin hse hcode hy hK (by rw [hT]; exact hcB) hoB hclB hg (hsize.trans hml.symm) (argsL := As) (rest := rest) (fun sig h => hn.trans (hlen sig h)) hstack hW (by rw [hb]; exact hdg)
    (fun vm₁ hW₁ => ⟨hf.1, hf.2, hPc (T.setVm vm₁) hT hW₁⟩) with ⟨v, vm₁, ⟨U', l2, c2, s2⟩, hW₁, X', ⟨g', mk, t, L, e1, e2, hq, h1, hL, h2, h3⟩, st⟩ | ⟨q, vm₁, ⟨U', l2, c2, s2⟩, hW₁, X', ⟨g', mk, t, L, E, ce, e1, e2, hq, hce, hcv, hcl, h1, hL, h2, h3⟩, st⟩
  · dsimp only [Pt.U, Pt.locs, Pt.cells, Pt.slots] at X' e1 e2 h1 h2 h3 st
    subst h1; subst h2; subst h3
    exact Or.inl ⟨v, (T.setVm vm₁).calling g' mk (Value.ref b :: As).toArray, t, U', L, hT, X', hL, e1, e2, hq, st⟩
  · dsimp only [Pt.U, Pt.locs, Pt.cells, Pt.slots] at X' e1 e2 h1 h2 h3 st hcl
    subst h1; subst h2; subst h3
    exact Or.inr ⟨q, (T.setVm vm₁).calling g' mk (Value.ref b :: As).toArray, t, U', L, E, ce, hT, X', hL, e1, e2, hq, hce, hcv, vx_cls hW₁ hcl, st⟩
theorem vx_runSX {hh : List (Nat × Nat × Nat × Nat)} (S : CallFix p m c cc nL s args Ts own) (hM : vx_Met l y ws rm Pc Qc XC mc ms free) (cw : vx_CSW R s args own index y bytes maxL ret hh ws rm mc ms n) (hp : PreS s H Pc As)
    (hg : g.method = m) (hn : As.length = n) (hsize : g.locals.size = nL) (hstack : g.stack = As.reverse ++ rest) (hW : 2 * g.monitorRoom + (rest.map fun v => v.category).sum ≤ 8) (hdg : decode cc g.pc = .ok (.invokestatic index, 3)) (hf : cells + mc ≤ R.cells ∧ slots + ms ≤ R.slots) :
    vx_Run p l e R s m args below meth c H locs cells slots mc ms g rest (Qc As.toArray) XC free := by
  obtain ⟨⟨hrc, hrs, hfr, hlo, hws, hcw⟩, hcode, hini, hy, hlen, hl, hstt⟩ := cw
  have hK : vx_Back l R p e below s args y 3 8 (PreOf R mc ms Pc) (PostOf Qc mc ms free) (vx_Post XC mc ms free) := vx_backW (hh := hh) (bytes := bytes) (maxL := maxL) (ret := ret) hM hp.1 hrc hrs hfr hlo hws hcw (fun a' U hW => word_at hW (Or.inl (by first | rfl | simp [Cond.onTables, Cond.keeps, Cond.steady])) hini)
  obtain ⟨hx, hb, hml, ho, -⟩ := S
  intro T hT X
  rcases vx_callSX X hx (hh := hh) (bytes := bytes) (maxL := maxL) (ret := ret) ho hl hstt hini hcode hy hK hg (hsize.trans hml.symm) (argsL := As) (rest := rest) (fun sig h => hn.trans (hlen sig h)) hstack hW (by rw [hb]; exact hdg)
    (fun vm₁ hW₁ => ⟨hf.1, hf.2, hp.2 (T.setVm vm₁) hT hW₁⟩) with ⟨v, vm₁, ⟨U', l2, c2, s2⟩, hW₁, X', ⟨g', mk, t, L, e1, e2, hq, h1, hL, h2, h3⟩, st⟩ | ⟨q, vm₁, ⟨U', l2, c2, s2⟩, hW₁, X', ⟨g', mk, t, L, E, ce, e1, e2, hq, hce, hcv, hcl, h1, hL, h2, h3⟩, st⟩
  · dsimp only [Pt.U, Pt.locs, Pt.cells, Pt.slots] at X' e1 e2 h1 h2 h3 st
    subst h1; subst h2; subst h3
    exact Or.inl ⟨v, (T.setVm vm₁).calling g' mk As.toArray, t, U', L, hT, X', hL, e1, e2, hq, st⟩
  · dsimp only [Pt.U, Pt.locs, Pt.cells, Pt.slots] at X' e1 e2 h1 h2 h3 st hcl
    subst h1; subst h2; subst h3
    exact Or.inr ⟨q, (T.setVm vm₁).calling g' mk As.toArray, t, U', L, E, ce, hT, X', hL, e1, e2, hq, hce, hcv, vx_cls hW₁ hcl, st⟩
end
end VXH
theorem vx_ofWH {l : Launch} {y : MethodName} {ws ws' : List Cond} {rm : Room} {Pc : Array Value → State → Prop} {Qc : Array Value → State → Outcome → State → Prop} {XC : String → State → State → Prop} {mc ms : Nat} {free : Addr → Prop} {cc : ByteArray} {maxL : Nat} {ret : Option FieldType} {hh : List (Nat × Nat × Nat × Nat)}
    (hy : plainName y.cls = true) (hw : ws = Cond.codeWith y cc maxL ret hh :: ws')
    (body : ∀ p e s m args below meth c s₁, BodyLoose p l y (headSpec ws rm) cc maxL ret e s m args below meth c s₁ → c.maxLocals = maxL → Pc args s →
      W p l e (headSpec ws rm).room s m args below meth c s.heap [] 0 0 (vx_MQ below Qc XC args s mc ms free) (entryFrame m args maxL)) : vx_Met l y ws rm Pc Qc XC mc ms free := by
  refine MetFree.of_bodyS (code := cc) (maxLocals := maxL) (ret := ret) hy ?_ ?_
  · intro args s m h hn
    obtain ⟨m9, meth, c, hn9, h1, h2, h3, h4, -, h5, h6, -⟩ := Cond.codeWith_spec (atoms_spec (ws := ws) h _ (by rw [hw]; exact List.mem_cons_self))
    cases hn.symm.trans hn9
    exact ⟨meth, c, h1, h2, h3, h4, h5, h6⟩
  · intro p e s m args below meth c s₁ B hml hP _
    have hh0 : s₁.heap = s.heap := by rw [B.state]; rfl
    obtain ⟨t, a1, o, b1, b2, b3⟩ := body p e s m args below meth c s₁ B hml hP s₁ hh0 (Stand.of_body B)
    exact ⟨t, o, a1, b1, b2, b3⟩
/-! ===== END ===== -/
end
section
/-! NAMES: methods (y_ a name, c_ its bytes), the words of the tables by their rows, fields in the order of the slots. By program (wip/whole/gen/names.py). -/
abbrev c_R_init : ByteArray := prog_1_method_1_code
def y_R_init : MethodName := ⟨"LevelRows", "<init>", "(I)V"⟩
abbrev c_P_init : ByteArray := prog_3_method_1_code
def y_P_init : MethodName := ⟨"LevelRows$Part", "<init>", "()V"⟩
abbrev c_H_min : ByteArray := prog_11_method_69_code
def y_H_min : MethodName := ⟨"java/lang/Math", "min", "(II)I"⟩
abbrev c_H_max : ByteArray := prog_11_method_65_code
def y_H_max : MethodName := ⟨"java/lang/Math", "max", "(II)I"⟩
abbrev c_I_numberOfLeadingZeros : ByteArray := prog_9_method_47_code
def y_I_numberOfLeadingZeros : MethodName := ⟨"java/lang/Integer", "numberOfLeadingZeros", "(I)I"⟩
abbrev c_L_init : ByteArray := prog_2_method_1_code
def y_L_init : MethodName := ⟨"LevelRows$Level", "<init>", "()V"⟩
abbrev c_R_build : ByteArray := prog_1_method_3_code
def y_R_build : MethodName := ⟨"LevelRows", "build", "()I"⟩
abbrev c_R_symbolAt : ByteArray := prog_1_method_22_code
def y_R_symbolAt : MethodName := ⟨"LevelRows", "symbolAt", "(I)I"⟩
abbrev c_L_bitAt : ByteArray := prog_2_method_3_code
def y_L_bitAt : MethodName := ⟨"LevelRows$Level", "bitAt", "(I)I"⟩
abbrev c_L_placeBelow : ByteArray := prog_2_method_6_code
def y_L_placeBelow : MethodName := ⟨"LevelRows$Level", "placeBelow", "(II)I"⟩
abbrev c_L_zerosTo : ByteArray := prog_2_method_4_code
def y_L_zerosTo : MethodName := ⟨"LevelRows$Level", "zerosTo", "(I)I"⟩
abbrev c_L_onesTo : ByteArray := prog_2_method_5_code
def y_L_onesTo : MethodName := ⟨"LevelRows$Level", "onesTo", "(I)I"⟩
abbrev c_J_bitCount : ByteArray := prog_10_method_50_code
def y_J_bitCount : MethodName := ⟨"java/lang/Long", "bitCount", "(J)I"⟩
abbrev c_R_storeLevels : ByteArray := prog_1_method_21_code
def y_R_storeLevels : MethodName := ⟨"LevelRows", "storeLevels", "()V"⟩
abbrev c_R_shiftOf : ByteArray := prog_1_method_20_code
def y_R_shiftOf : MethodName := ⟨"LevelRows", "shiftOf", "(I)I"⟩
abbrev c_L_store : ByteArray := prog_2_method_2_code
def y_L_store : MethodName := ⟨"LevelRows$Level", "store", "([III[I)V"⟩
abbrev c_A_fillJ : ByteArray := prog_17_method_101_code
def y_A_fillJ : MethodName := ⟨"java/util/Arrays", "fill", "([JJ)V"⟩
abbrev c_R_bits : ByteArray := prog_1_method_13_code
def y_R_bits : MethodName := ⟨"LevelRows", "bits", "()I"⟩
abbrev c_R_clear : ByteArray := prog_1_method_15_code
def y_R_clear : MethodName := ⟨"LevelRows", "clear", "()V"⟩
abbrev c_W_cell : ByteArray := method_2_code
def y_W_cell : MethodName := ⟨"LevelRowsLaw", "cell", "([II)I"⟩
abbrev c_W_put : ByteArray := method_3_code
def y_W_put : MethodName := ⟨"LevelRowsLaw", "put", "(LLevelRows;IIIIII[J)I"⟩
abbrev c_R_put : ByteArray := prog_1_method_2_code
def y_R_put : MethodName := ⟨"LevelRows", "put", "(IIIIII)I"⟩
abbrev c_R_symbolInPut : ByteArray := prog_1_method_19_code
def y_R_symbolInPut : MethodName := ⟨"LevelRows", "symbolInPut", "(IIIIII)I"⟩
abbrev c_R_checkSymbol : ByteArray := prog_1_method_16_code
def y_R_checkSymbol : MethodName := ⟨"LevelRows", "checkSymbol", "(I)V"⟩
abbrev c_W_at : ByteArray := method_4_code
def y_W_at : MethodName := ⟨"LevelRowsLaw", "at", "(LLevelRows;I[J)I"⟩
abbrev c_R_at : ByteArray := prog_1_method_4_code
def y_R_at : MethodName := ⟨"LevelRows", "at", "(I)I"⟩
abbrev c_W_rank : ByteArray := method_5_code
def y_W_rank : MethodName := ⟨"LevelRowsLaw", "rank", "(LLevelRows;II[J)I"⟩
abbrev c_R_rank : ByteArray := prog_1_method_5_code
def y_R_rank : MethodName := ⟨"LevelRows", "rank", "(II)I"⟩
abbrev c_R_checkPart : ByteArray := prog_1_method_17_code
def y_R_checkPart : MethodName := ⟨"LevelRows", "checkPart", "(II)V"⟩
abbrev c_P_span : ByteArray := prog_3_method_2_code
def y_P_span : MethodName := ⟨"LevelRows$Part", "span", "(II)V"⟩
abbrev c_R_descendTo : ByteArray := prog_1_method_23_code
def y_R_descendTo : MethodName := ⟨"LevelRows", "descendTo", "(I)V"⟩
abbrev c_P_split : ByteArray := prog_3_method_4_code
def y_P_split : MethodName := ⟨"LevelRows$Part", "split", "(LLevelRows$Level;)V"⟩
abbrev c_P_enter : ByteArray := prog_3_method_6_code
def y_P_enter : MethodName := ⟨"LevelRows$Part", "enter", "(I)V"⟩
abbrev c_P_length : ByteArray := prog_3_method_3_code
def y_P_length : MethodName := ⟨"LevelRows$Part", "length", "()I"⟩
abbrev c_W_select : ByteArray := method_6_code
def y_W_select : MethodName := ⟨"LevelRowsLaw", "select", "(LLevelRows;II[J)I"⟩
abbrev c_R_select : ByteArray := prog_1_method_6_code
def y_R_select : MethodName := ⟨"LevelRows", "select", "(II)I"⟩
abbrev c_R_checkNotNegative : ByteArray := prog_1_method_18_code
def y_R_checkNotNegative : MethodName := ⟨"LevelRows", "checkNotNegative", "(I)V"⟩
abbrev c_R_climbFrom : ByteArray := prog_1_method_24_code
def y_R_climbFrom : MethodName := ⟨"LevelRows", "climbFrom", "(I)I"⟩
abbrev c_L_placeAbove : ByteArray := prog_2_method_7_code
def y_L_placeAbove : MethodName := ⟨"LevelRows$Level", "placeAbove", "(II)I"⟩
abbrev c_I_highestOneBit : ByteArray := prog_9_method_45_code
def y_I_highestOneBit : MethodName := ⟨"java/lang/Integer", "highestOneBit", "(I)I"⟩
abbrev c_W_quantile : ByteArray := method_7_code
def y_W_quantile : MethodName := ⟨"LevelRowsLaw", "quantile", "(LLevelRows;III[J)I"⟩
abbrev c_R_quantile : ByteArray := prog_1_method_7_code
def y_R_quantile : MethodName := ⟨"LevelRows", "quantile", "(III)I"⟩
abbrev c_R_kthLeast : ByteArray := prog_1_method_25_code
def y_R_kthLeast : MethodName := ⟨"LevelRows", "kthLeast", "(III)I"⟩
abbrev c_P_zeros : ByteArray := prog_3_method_5_code
def y_P_zeros : MethodName := ⟨"LevelRows$Part", "zeros", "()I"⟩
abbrev c_W_between : ByteArray := method_8_code
def y_W_between : MethodName := ⟨"LevelRowsLaw", "between", "(LLevelRows;IIII[J)I"⟩
abbrev c_R_between : ByteArray := prog_1_method_8_code
def y_R_between : MethodName := ⟨"LevelRows", "between", "(IIII)I"⟩
abbrev c_R_howManyBelow : ByteArray := prog_1_method_26_code
def y_R_howManyBelow : MethodName := ⟨"LevelRows", "howManyBelow", "(III)I"⟩
abbrev c_W_below : ByteArray := method_9_code
def y_W_below : MethodName := ⟨"LevelRowsLaw", "below", "(LLevelRows;III[J)I"⟩
abbrev c_R_below : ByteArray := prog_1_method_9_code
def y_R_below : MethodName := ⟨"LevelRows", "below", "(III)I"⟩
abbrev c_W_above : ByteArray := method_10_code
def y_W_above : MethodName := ⟨"LevelRowsLaw", "above", "(LLevelRows;III[J)I"⟩
abbrev c_R_above : ByteArray := prog_1_method_10_code
def y_R_above : MethodName := ⟨"LevelRows", "above", "(III)I"⟩
abbrev c_W_different : ByteArray := method_11_code
def y_W_different : MethodName := ⟨"LevelRowsLaw", "different", "(LLevelRows;II[J)I"⟩
abbrev c_R_different : ByteArray := prog_1_method_11_code
def y_R_different : MethodName := ⟨"LevelRows", "different", "(II)I"⟩
abbrev c_R_listSymbols : ByteArray := prog_1_method_27_code
def y_R_listSymbols : MethodName := ⟨"LevelRows", "listSymbols", "(II)I"⟩
abbrev c_W_frequent : ByteArray := method_12_code
def y_W_frequent : MethodName := ⟨"LevelRowsLaw", "frequent", "(LLevelRows;III[J)I"⟩
abbrev c_R_frequent : ByteArray := prog_1_method_12_code
def y_R_frequent : MethodName := ⟨"LevelRows", "frequent", "(III)I"⟩
abbrev c_R_countAhead : ByteArray := prog_1_method_28_code
def y_R_countAhead : MethodName := ⟨"LevelRows", "countAhead", "(I)V"⟩
abbrev c_A_fillI : ByteArray := prog_17_method_103_code
def y_A_fillI : MethodName := ⟨"java/util/Arrays", "fill", "([II)V"⟩
abbrev c_W_count : ByteArray := method_13_code
def y_W_count : MethodName := ⟨"LevelRowsLaw", "count", "(LLevelRows;I[J)I"⟩
abbrev c_R_count : ByteArray := prog_1_method_14_code
def y_R_count : MethodName := ⟨"LevelRows", "count", "(I)I"⟩
abbrev c_M_init : ByteArray := prog_5_method_1_code
def y_M_init : MethodName := ⟨"LevelRowsModel", "<init>", "(I)V"⟩
abbrev c_M_thrown : ByteArray := prog_5_method_2_code
def y_M_thrown : MethodName := ⟨"LevelRowsModel", "thrown", "()I"⟩
abbrev c_M_put : ByteArray := prog_5_method_4_code
def y_M_put : MethodName := ⟨"LevelRowsModel", "put", "(IIIIII)I"⟩
abbrev c_M_given : ByteArray := prog_5_method_3_code
def y_M_given : MethodName := ⟨"LevelRowsModel", "given", "(IIIIII)I"⟩
abbrev c_M_build : ByteArray := prog_5_method_5_code
def y_M_build : MethodName := ⟨"LevelRowsModel", "build", "()I"⟩
abbrev c_M_clear : ByteArray := prog_5_method_6_code
def y_M_clear : MethodName := ⟨"LevelRowsModel", "clear", "()V"⟩
abbrev c_M_at : ByteArray := prog_5_method_7_code
def y_M_at : MethodName := ⟨"LevelRowsModel", "at", "(I)I"⟩
abbrev c_M_rank : ByteArray := prog_5_method_10_code
def y_M_rank : MethodName := ⟨"LevelRowsModel", "rank", "(II)I"⟩
abbrev c_M_isSymbol : ByteArray := prog_5_method_8_code
def y_M_isSymbol : MethodName := ⟨"LevelRowsModel", "isSymbol", "(I)Z"⟩
abbrev c_M_select : ByteArray := prog_5_method_11_code
def y_M_select : MethodName := ⟨"LevelRowsModel", "select", "(II)I"⟩
abbrev c_M_quantile : ByteArray := prog_5_method_13_code
def y_M_quantile : MethodName := ⟨"LevelRowsModel", "quantile", "(III)I"⟩
abbrev c_M_isPart : ByteArray := prog_5_method_9_code
def y_M_isPart : MethodName := ⟨"LevelRowsModel", "isPart", "(II)Z"⟩
abbrev c_M_gather : ByteArray := prog_5_method_12_code
def y_M_gather : MethodName := ⟨"LevelRowsModel", "gather", "(II)I"⟩
abbrev c_M_between : ByteArray := prog_5_method_14_code
def y_M_between : MethodName := ⟨"LevelRowsModel", "between", "(IIII)I"⟩
abbrev c_M_below : ByteArray := prog_5_method_15_code
def y_M_below : MethodName := ⟨"LevelRowsModel", "below", "(III)I"⟩
abbrev c_M_above : ByteArray := prog_5_method_16_code
def y_M_above : MethodName := ⟨"LevelRowsModel", "above", "(III)I"⟩
abbrev c_M_different : ByteArray := prog_5_method_17_code
def y_M_different : MethodName := ⟨"LevelRowsModel", "different", "(II)I"⟩
abbrev c_M_frequent : ByteArray := prog_5_method_18_code
def y_M_frequent : MethodName := ⟨"LevelRowsModel", "frequent", "(III)I"⟩
abbrev c_M_bits : ByteArray := prog_5_method_20_code
def y_M_bits : MethodName := ⟨"LevelRowsModel", "bits", "()I"⟩
abbrev c_M_levels : ByteArray := prog_5_method_19_code
def y_M_levels : MethodName := ⟨"LevelRowsModel", "levels", "()I"⟩
abbrev c_M_count : ByteArray := prog_5_method_21_code
def y_M_count : MethodName := ⟨"LevelRowsModel", "count", "(I)I"⟩
abbrev c_W_law : ByteArray := code
def y_W_law : MethodName := ⟨"LevelRowsLaw", "law", "([I)Z"⟩
def n_L : String := "LevelRows$Level"
def f_L : u_T := fun k => match k with
  | 0 => ("LevelRows$Level", "words", "[J", true)
  | 1 => ("LevelRows$Level", "onesBefore", "[S", true)
  | _ => ("LevelRows$Level", "zeros", "I", false)
def t_L : Nat → FieldType := fun k => match k with
  | 0 => .array .long
  | 1 => .array .short
  | _ => .int
theorem nm_L : ∀ a, a < 3 → ∀ b, b < 3 → a ≠ b → (f_L a).2.1 ≠ (f_L b).2.1 := by decide +kernel
theorem ty_L : ∀ k, k < 3 → parseFieldDescriptor (f_L k).2.2.1 = some (t_L k) := by decide +kernel
def n_P : String := "LevelRows$Part"
def f_P : u_T := fun k => match k with
  | 0 => ("LevelRows$Part", "from", "I", false)
  | 1 => ("LevelRows$Part", "to", "I", false)
  | 2 => ("LevelRows$Part", "zerosFrom", "I", false)
  | 3 => ("LevelRows$Part", "zerosTo", "I", false)
  | 4 => ("LevelRows$Part", "onesFrom", "I", false)
  | _ => ("LevelRows$Part", "onesTo", "I", false)
def t_P : Nat → FieldType := fun k => match k with
  | 0 => .int
  | 1 => .int
  | 2 => .int
  | 3 => .int
  | 4 => .int
  | _ => .int
theorem nm_P : ∀ a, a < 6 → ∀ b, b < 6 → a ≠ b → (f_P a).2.1 ≠ (f_P b).2.1 := by decide +kernel
theorem ty_P : ∀ k, k < 6 → parseFieldDescriptor (f_P k).2.2.1 = some (t_P k) := by decide +kernel
def n_R : String := "LevelRows"
def f_R : u_T := fun k => match k with
  | 0 => ("LevelRows", "sigma", "I", true)
  | 1 => ("LevelRows", "levels", "[LLevelRows$Level;", true)
  | 2 => ("LevelRows", "built", "I", false)
  | 3 => ("LevelRows", "waiting", "I", false)
  | 4 => ("LevelRows", "row", "[I", true)
  | 5 => ("LevelRows", "spare", "[I", true)
  | 6 => ("LevelRows", "part", "LLevelRows$Part;", true)
  | 7 => ("LevelRows", "listed", "[I", true)
  | 8 => ("LevelRows", "listedTimes", "[I", true)
  | _ => ("LevelRows", "ahead", "[I", true)
def t_R : Nat → FieldType := fun k => match k with
  | 0 => .int
  | 1 => .array (.object "LevelRows$Level")
  | 2 => .int
  | 3 => .int
  | 4 => .array .int
  | 5 => .array .int
  | 6 => .object "LevelRows$Part"
  | 7 => .array .int
  | 8 => .array .int
  | _ => .array .int
theorem nm_R : ∀ a, a < 10 → ∀ b, b < 10 → a ≠ b → (f_R a).2.1 ≠ (f_R b).2.1 := by decide +kernel
theorem ty_R : ∀ k, k < 10 → parseFieldDescriptor (f_R k).2.2.1 = some (t_R k) := by decide +kernel
def n_M : String := "LevelRowsModel"
def f_M : u_T := fun k => match k with
  | 0 => ("LevelRowsModel", "thrown", "I", false)
  | 1 => ("LevelRowsModel", "sigma", "I", true)
  | 2 => ("LevelRowsModel", "row", "[I", true)
  | 3 => ("LevelRowsModel", "built", "I", false)
  | 4 => ("LevelRowsModel", "all", "I", false)
  | 5 => ("LevelRowsModel", "symbols", "[I", true)
  | _ => ("LevelRowsModel", "often", "[I", true)
def t_M : Nat → FieldType := fun k => match k with
  | 0 => .int
  | 1 => .int
  | 2 => .array .int
  | 3 => .int
  | 4 => .int
  | 5 => .array .int
  | _ => .array .int
theorem nm_M : ∀ a, a < 7 → ∀ b, b < 7 → a ≠ b → (f_M a).2.1 ≠ (f_M b).2.1 := by decide +kernel
theorem ty_M : ∀ k, k < 7 → parseFieldDescriptor (f_M k).2.2.1 = some (t_M k) := by decide +kernel
abbrev vwCl : List vw_C := [(n_L, f_L, 3), (n_P, f_P, 6), (n_R, f_R, 10), (n_M, f_M, 7)]
/-- the words that stay under warmer tables; those of the nest, of casts, of texts -/
def lw_ok : List Cond := lw_tbl.filter goodWord
def nword : Cond → Bool
  | .fieldLinkNest .. => true
  | .methodLinkNest .. => true
  | .declares .. => true
  | .castable .. => true
  | .stringRef .. => true
  | .arrayOver (.object _) => true
  | _ => false
def lw_nw : List Cond := lw_tbl.filter nword
theorem gd_ok {w : Cond} (h : w ∈ lw_ok) : goodWord w = true := (List.mem_filter.mp h).2
theorem gd_in {w : Cond} (h : w ∈ lw_tbl) (g : goodWord w = true) : w ∈ lw_ok := List.mem_filter.mpr ⟨h, g⟩
theorem nw_in {w : Cond} (h : w ∈ lw_tbl) (g : nword w = true) : w ∈ lw_nw := List.mem_filter.mpr ⟨h, g⟩
theorem x_0 : (Jvm.Cond.initialized "LevelRowsLaw") ∈ lw_ok := gd_in (List.mem_append_right _ <| List.mem_append_left _ <| List.mem_of_getElem? (i := 0) rfl) rfl
theorem x_1 : (Jvm.Cond.initialized "LevelRows") ∈ lw_ok := gd_in (List.mem_append_right _ <| List.mem_append_left _ <| List.mem_of_getElem? (i := 1) rfl) rfl
theorem x_2 : (Jvm.Cond.initialized "LevelRows$Part") ∈ lw_ok := gd_in (List.mem_append_right _ <| List.mem_append_left _ <| List.mem_of_getElem? (i := 2) rfl) rfl
theorem x_3 : (Jvm.Cond.initialized "java/lang/Math") ∈ lw_ok := gd_in (List.mem_append_right _ <| List.mem_append_left _ <| List.mem_of_getElem? (i := 3) rfl) rfl
theorem x_4 : (Jvm.Cond.initialized "java/lang/Integer") ∈ lw_ok := gd_in (List.mem_append_right _ <| List.mem_append_left _ <| List.mem_of_getElem? (i := 4) rfl) rfl
theorem x_5 : (Jvm.Cond.initialized "LevelRows$Level") ∈ lw_ok := gd_in (List.mem_append_right _ <| List.mem_append_left _ <| List.mem_of_getElem? (i := 5) rfl) rfl
theorem x_6 : (Jvm.Cond.initialized "LevelRowsModel") ∈ lw_ok := gd_in (List.mem_append_right _ <| List.mem_append_left _ <| List.mem_of_getElem? (i := 6) rfl) rfl
theorem x_7 : (Jvm.Cond.initialized "java/lang/Throwable") ∈ lw_ok := gd_in (List.mem_append_right _ <| List.mem_append_left _ <| List.mem_of_getElem? (i := 7) rfl) rfl
theorem x_8 : (Jvm.Cond.initialized "java/lang/Exception") ∈ lw_ok := gd_in (List.mem_append_right _ <| List.mem_append_left _ <| List.mem_of_getElem? (i := 8) rfl) rfl
theorem x_9 : (Jvm.Cond.initialized "java/lang/RuntimeException") ∈ lw_ok := gd_in (List.mem_append_right _ <| List.mem_append_left _ <| List.mem_of_getElem? (i := 9) rfl) rfl
theorem x_10 : (Jvm.Cond.initialized "java/lang/IndexOutOfBoundsException") ∈ lw_ok := gd_in (List.mem_append_right _ <| List.mem_append_left _ <| List.mem_of_getElem? (i := 10) rfl) rfl
theorem x_11 : (Jvm.Cond.initialized "java/lang/IllegalArgumentException") ∈ lw_ok := gd_in (List.mem_append_right _ <| List.mem_append_left _ <| List.mem_of_getElem? (i := 11) rfl) rfl
theorem x_12 : (Jvm.Cond.initialized "java/lang/UnsupportedOperationException") ∈ lw_ok := gd_in (List.mem_append_right _ <| List.mem_append_left _ <| List.mem_of_getElem? (i := 12) rfl) rfl
theorem x_13 : (Jvm.Cond.initialized "java/lang/Long") ∈ lw_ok := gd_in (List.mem_append_right _ <| List.mem_append_left _ <| List.mem_of_getElem? (i := 13) rfl) rfl
theorem x_14 : (Jvm.Cond.initialized "java/util/Arrays") ∈ lw_ok := gd_in (List.mem_append_right _ <| List.mem_append_left _ <| List.mem_of_getElem? (i := 14) rfl) rfl
theorem x_15 : (Jvm.Cond.initialized "java/lang/System") ∈ lw_ok := gd_in (List.mem_append_right _ <| List.mem_append_left _ <| List.mem_of_getElem? (i := 15) rfl) rfl
theorem x_16 : (Jvm.Cond.classLink "LevelRowsLaw" (8 : Nat) "LevelRows") ∈ lw_ok := gd_in (List.mem_append_right _ <| List.mem_append_left _ <| List.mem_of_getElem? (i := 16) rfl) rfl
theorem x_17 : (Jvm.Cond.instantiable "LevelRows" (10 : Nat)) ∈ lw_ok := gd_in (List.mem_append_right _ <| List.mem_append_left _ <| List.mem_of_getElem? (i := 17) rfl) rfl
theorem x_18 : (Jvm.Cond.methodLink "LevelRowsLaw" (59 : Nat) y_R_init) ∈ lw_ok := gd_in (List.mem_append_right _ <| List.mem_append_left _ <| List.mem_of_getElem? (i := 18) rfl) rfl
theorem x_19 : (Jvm.Cond.instanceMethod y_R_init) ∈ lw_ok := gd_in (List.mem_append_right _ <| List.mem_append_left _ <| List.mem_of_getElem? (i := 19) rfl) rfl
theorem x_20 : (Jvm.Cond.code y_R_init prog_1_method_1_code (4 : Nat) (Option.none : Option Jvm.ClassFile.FieldType)) ∈ lw_ok := gd_in (List.mem_append_right _ <| List.mem_append_left _ <| List.mem_of_getElem? (i := 20) rfl) rfl
theorem x_21 : (Jvm.Cond.methodLink "LevelRows" (3 : Nat) ({ cls := "java/lang/Object", name := "<init>", desc := "()V" } : Jvm.MethodName)) ∈ lw_ok := gd_in (List.mem_append_right _ <| List.mem_append_left _ <| List.mem_of_getElem? (i := 21) rfl) rfl
theorem x_22 : (Jvm.Cond.instanceMethod ({ cls := "java/lang/Object", name := "<init>", desc := "()V" } : Jvm.MethodName)) ∈ lw_ok := gd_in (List.mem_append_right _ <| List.mem_append_left _ <| List.mem_of_getElem? (i := 22) rfl) rfl
theorem x_23 : (Jvm.Cond.code ({ cls := "java/lang/Object", name := "<init>", desc := "()V" } : Jvm.MethodName) object_method_1_code (1 : Nat) (Option.none : Option Jvm.ClassFile.FieldType)) ∈ lw_ok := gd_in (List.mem_append_right _ <| List.mem_append_left _ <| List.mem_of_getElem? (i := 23) rfl) rfl
theorem x_24 : (Jvm.Cond.classLink "LevelRows" (16 : Nat) "LevelRows$Part") ∈ lw_ok := gd_in (List.mem_append_right _ <| List.mem_append_left _ <| List.mem_of_getElem? (i := 24) rfl) rfl
theorem x_25 : (Jvm.Cond.instantiable "LevelRows$Part" (6 : Nat)) ∈ lw_ok := gd_in (List.mem_append_right _ <| List.mem_append_left _ <| List.mem_of_getElem? (i := 25) rfl) rfl
theorem x_26 : (Jvm.Cond.methodLinkNest "LevelRows" (18 : Nat) y_P_init "LevelRows") ∈ lw_nw := nw_in (List.mem_append_right _ <| List.mem_append_left _ <| List.mem_of_getElem? (i := 26) rfl) rfl
theorem x_27 : (Jvm.Cond.instanceMethod y_P_init) ∈ lw_ok := gd_in (List.mem_append_right _ <| List.mem_append_left _ <| List.mem_of_getElem? (i := 27) rfl) rfl
theorem x_28 : (Jvm.Cond.code y_P_init prog_3_method_1_code (1 : Nat) (Option.none : Option Jvm.ClassFile.FieldType)) ∈ lw_ok := gd_in (List.mem_append_right _ <| List.mem_append_left _ <| List.mem_of_getElem? (i := 28) rfl) rfl
theorem x_29 : (Jvm.Cond.methodLink "LevelRows$Part" (1 : Nat) ({ cls := "java/lang/Object", name := "<init>", desc := "()V" } : Jvm.MethodName)) ∈ lw_ok := gd_in (List.mem_append_right _ <| List.mem_append_left _ <| List.mem_of_getElem? (i := 29) rfl) rfl
theorem x_30 : (Jvm.Cond.fieldLink "LevelRows$Part" (7 : Nat) "LevelRows$Part" "from" "I") ∈ lw_ok := gd_in (List.mem_append_right _ <| List.mem_append_left _ <| List.mem_of_getElem? (i := 30) rfl) rfl
theorem x_31 : (Jvm.Cond.fieldLinkNest "LevelRows" (113 : Nat) "LevelRows$Part" "from" "I" "LevelRows") ∈ lw_nw := nw_in (List.mem_append_right _ <| List.mem_append_left _ <| List.mem_of_getElem? (i := 31) rfl) rfl
theorem x_32 : (Jvm.Cond.fieldLink "LevelRows$Part" (13 : Nat) "LevelRows$Part" "to" "I") ∈ lw_ok := gd_in (List.mem_append_right _ <| List.mem_append_left _ <| List.mem_of_getElem? (i := 32) rfl) rfl
theorem x_33 : (Jvm.Cond.fieldLink "LevelRows$Part" (22 : Nat) "LevelRows$Part" "zerosFrom" "I") ∈ lw_ok := gd_in (List.mem_append_right _ <| List.mem_append_left _ <| List.mem_of_getElem? (i := 33) rfl) rfl
theorem x_34 : (Jvm.Cond.fieldLink "LevelRows$Part" (25 : Nat) "LevelRows$Part" "zerosTo" "I") ∈ lw_ok := gd_in (List.mem_append_right _ <| List.mem_append_left _ <| List.mem_of_getElem? (i := 34) rfl) rfl
theorem x_35 : (Jvm.Cond.fieldLink "LevelRows$Part" (30 : Nat) "LevelRows$Part" "onesFrom" "I") ∈ lw_ok := gd_in (List.mem_append_right _ <| List.mem_append_left _ <| List.mem_of_getElem? (i := 35) rfl) rfl
theorem x_36 : (Jvm.Cond.fieldLink "LevelRows$Part" (33 : Nat) "LevelRows$Part" "onesTo" "I") ∈ lw_ok := gd_in (List.mem_append_right _ <| List.mem_append_left _ <| List.mem_of_getElem? (i := 36) rfl) rfl
theorem x_49 : (Jvm.Cond.superclass "LevelRows$Part" "java/lang/Object") ∈ lw_ok := gd_in (List.mem_append_right _ <| List.mem_append_left _ <| List.mem_of_getElem? (i := 49) rfl) rfl
theorem x_50 : (Jvm.Cond.arrayClass Jvm.ClassFile.FieldType.int) ∈ lw_ok := gd_in (List.mem_append_right _ <| List.mem_append_left _ <| List.mem_of_getElem? (i := 50) rfl) rfl
theorem x_51 : (Jvm.Cond.constant "LevelRows" (32 : Nat) (65536 : Int32)) ∈ lw_ok := gd_in (List.mem_append_right _ <| List.mem_append_left _ <| List.mem_of_getElem? (i := 51) rfl) rfl
theorem x_52 : (Jvm.Cond.methodLink "LevelRows" (33 : Nat) y_H_min) ∈ lw_ok := gd_in (List.mem_append_right _ <| List.mem_append_left _ <| List.mem_of_getElem? (i := 52) rfl) rfl
theorem x_53 : (Jvm.Cond.static y_H_min) ∈ lw_ok := gd_in (List.mem_append_right _ <| List.mem_append_left _ <| List.mem_of_getElem? (i := 53) rfl) rfl
theorem x_54 : (Jvm.Cond.code y_H_min prog_11_method_69_code (2 : Nat) (Option.some Jvm.ClassFile.FieldType.int)) ∈ lw_ok := gd_in (List.mem_append_right _ <| List.mem_append_left _ <| List.mem_of_getElem? (i := 54) rfl) rfl
theorem x_55 : (Jvm.Cond.methodLink "LevelRows" (39 : Nat) y_H_max) ∈ lw_ok := gd_in (List.mem_append_right _ <| List.mem_append_left _ <| List.mem_of_getElem? (i := 55) rfl) rfl
theorem x_56 : (Jvm.Cond.static y_H_max) ∈ lw_ok := gd_in (List.mem_append_right _ <| List.mem_append_left _ <| List.mem_of_getElem? (i := 56) rfl) rfl
theorem x_57 : (Jvm.Cond.code y_H_max prog_11_method_65_code (2 : Nat) (Option.some Jvm.ClassFile.FieldType.int)) ∈ lw_ok := gd_in (List.mem_append_right _ <| List.mem_append_left _ <| List.mem_of_getElem? (i := 57) rfl) rfl
theorem x_58 : (Jvm.Cond.methodLink "LevelRows" (46 : Nat) y_I_numberOfLeadingZeros) ∈ lw_ok := gd_in (List.mem_append_right _ <| List.mem_append_left _ <| List.mem_of_getElem? (i := 58) rfl) rfl
theorem x_59 : (Jvm.Cond.static y_I_numberOfLeadingZeros) ∈ lw_ok := gd_in (List.mem_append_right _ <| List.mem_append_left _ <| List.mem_of_getElem? (i := 59) rfl) rfl
theorem x_60 : (Jvm.Cond.code y_I_numberOfLeadingZeros prog_9_method_47_code (2 : Nat) (Option.some Jvm.ClassFile.FieldType.int)) ∈ lw_ok := gd_in (List.mem_append_right _ <| List.mem_append_left _ <| List.mem_of_getElem? (i := 60) rfl) rfl
theorem x_61 : (Jvm.Cond.constant "java/lang/Integer" (264 : Nat) (65536 : Int32)) ∈ lw_ok := gd_in (List.mem_append_right _ <| List.mem_append_left _ <| List.mem_of_getElem? (i := 61) rfl) rfl
theorem x_62 : (Jvm.Cond.classLink "LevelRows" (52 : Nat) "LevelRows$Level") ∈ lw_ok := gd_in (List.mem_append_right _ <| List.mem_append_left _ <| List.mem_of_getElem? (i := 62) rfl) rfl
theorem x_63 : (Jvm.Cond.arrayOver (Jvm.ClassFile.FieldType.object "LevelRows$Level")) ∈ lw_nw := nw_in (List.mem_append_right _ <| List.mem_append_left _ <| List.mem_of_getElem? (i := 63) rfl) rfl
theorem x_64 : (Jvm.Cond.instantiable "LevelRows$Level" (3 : Nat)) ∈ lw_ok := gd_in (List.mem_append_right _ <| List.mem_append_left _ <| List.mem_of_getElem? (i := 64) rfl) rfl
theorem x_65 : (Jvm.Cond.methodLinkNest "LevelRows" (58 : Nat) y_L_init "LevelRows") ∈ lw_nw := nw_in (List.mem_append_right _ <| List.mem_append_left _ <| List.mem_of_getElem? (i := 65) rfl) rfl
theorem x_66 : (Jvm.Cond.instanceMethod y_L_init) ∈ lw_ok := gd_in (List.mem_append_right _ <| List.mem_append_left _ <| List.mem_of_getElem? (i := 66) rfl) rfl
theorem x_67 : (Jvm.Cond.code y_L_init prog_2_method_1_code (1 : Nat) (Option.none : Option Jvm.ClassFile.FieldType)) ∈ lw_ok := gd_in (List.mem_append_right _ <| List.mem_append_left _ <| List.mem_of_getElem? (i := 67) rfl) rfl
theorem x_68 : (Jvm.Cond.methodLink "LevelRows$Level" (3 : Nat) ({ cls := "java/lang/Object", name := "<init>", desc := "()V" } : Jvm.MethodName)) ∈ lw_ok := gd_in (List.mem_append_right _ <| List.mem_append_left _ <| List.mem_of_getElem? (i := 68) rfl) rfl
theorem x_69 : (Jvm.Cond.fieldLink "LevelRows$Level" (9 : Nat) "LevelRows$Level" "words" "[J") ∈ lw_ok := gd_in (List.mem_append_right _ <| List.mem_append_left _ <| List.mem_of_getElem? (i := 69) rfl) rfl
theorem x_70 : (Jvm.Cond.fieldLink "LevelRows$Level" (15 : Nat) "LevelRows$Level" "onesBefore" "[S") ∈ lw_ok := gd_in (List.mem_append_right _ <| List.mem_append_left _ <| List.mem_of_getElem? (i := 70) rfl) rfl
theorem x_71 : (Jvm.Cond.fieldLink "LevelRows$Level" (25 : Nat) "LevelRows$Level" "zeros" "I") ∈ lw_ok := gd_in (List.mem_append_right _ <| List.mem_append_left _ <| List.mem_of_getElem? (i := 71) rfl) rfl
theorem x_72 : (Jvm.Cond.fieldLinkNest "LevelRows$Part" (27 : Nat) "LevelRows$Level" "zeros" "I" "LevelRows") ∈ lw_nw := nw_in (List.mem_append_right _ <| List.mem_append_left _ <| List.mem_of_getElem? (i := 72) rfl) rfl
theorem x_79 : (Jvm.Cond.superclass "LevelRows$Level" "java/lang/Object") ∈ lw_ok := gd_in (List.mem_append_right _ <| List.mem_append_left _ <| List.mem_of_getElem? (i := 79) rfl) rfl
theorem x_80 : (Jvm.Cond.arrayClass Jvm.ClassFile.FieldType.long) ∈ lw_ok := gd_in (List.mem_append_right _ <| List.mem_append_left _ <| List.mem_of_getElem? (i := 80) rfl) rfl
theorem x_81 : (Jvm.Cond.arrayClass Jvm.ClassFile.FieldType.short) ∈ lw_ok := gd_in (List.mem_append_right _ <| List.mem_append_left _ <| List.mem_of_getElem? (i := 81) rfl) rfl
theorem x_82 : (Jvm.Cond.fieldLink "LevelRows" (42 : Nat) "LevelRows" "sigma" "I") ∈ lw_ok := gd_in (List.mem_append_right _ <| List.mem_append_left _ <| List.mem_of_getElem? (i := 82) rfl) rfl
theorem x_83 : (Jvm.Cond.fieldLink "LevelRows" (54 : Nat) "LevelRows" "levels" "[LLevelRows$Level;") ∈ lw_ok := gd_in (List.mem_append_right _ <| List.mem_append_left _ <| List.mem_of_getElem? (i := 83) rfl) rfl
theorem x_84 : (Jvm.Cond.fieldLink "LevelRows" (74 : Nat) "LevelRows" "built" "I") ∈ lw_ok := gd_in (List.mem_append_right _ <| List.mem_append_left _ <| List.mem_of_getElem? (i := 84) rfl) rfl
theorem x_85 : (Jvm.Cond.fieldLink "LevelRows" (77 : Nat) "LevelRows" "waiting" "I") ∈ lw_ok := gd_in (List.mem_append_right _ <| List.mem_append_left _ <| List.mem_of_getElem? (i := 85) rfl) rfl
theorem x_86 : (Jvm.Cond.fieldLink "LevelRows" (9 : Nat) "LevelRows" "row" "[I") ∈ lw_ok := gd_in (List.mem_append_right _ <| List.mem_append_left _ <| List.mem_of_getElem? (i := 86) rfl) rfl
theorem x_87 : (Jvm.Cond.fieldLink "LevelRows" (13 : Nat) "LevelRows" "spare" "[I") ∈ lw_ok := gd_in (List.mem_append_right _ <| List.mem_append_left _ <| List.mem_of_getElem? (i := 87) rfl) rfl
theorem x_88 : (Jvm.Cond.fieldLink "LevelRows" (19 : Nat) "LevelRows" "part" "LLevelRows$Part;") ∈ lw_ok := gd_in (List.mem_append_right _ <| List.mem_append_left _ <| List.mem_of_getElem? (i := 88) rfl) rfl
theorem x_89 : (Jvm.Cond.fieldLink "LevelRows" (23 : Nat) "LevelRows" "listed" "[I") ∈ lw_ok := gd_in (List.mem_append_right _ <| List.mem_append_left _ <| List.mem_of_getElem? (i := 89) rfl) rfl
theorem x_90 : (Jvm.Cond.fieldLink "LevelRows" (26 : Nat) "LevelRows" "listedTimes" "[I") ∈ lw_ok := gd_in (List.mem_append_right _ <| List.mem_append_left _ <| List.mem_of_getElem? (i := 90) rfl) rfl
theorem x_91 : (Jvm.Cond.fieldLink "LevelRows" (29 : Nat) "LevelRows" "ahead" "[I") ∈ lw_ok := gd_in (List.mem_append_right _ <| List.mem_append_left _ <| List.mem_of_getElem? (i := 91) rfl) rfl
theorem x_112 : (Jvm.Cond.superclass "LevelRows" "java/lang/Object") ∈ lw_ok := gd_in (List.mem_append_right _ <| List.mem_append_left _ <| List.mem_of_getElem? (i := 112) rfl) rfl
theorem x_113 : (Jvm.Cond.methodLink "LevelRowsLaw" (73 : Nat) y_R_build) ∈ lw_ok := gd_in (List.mem_append_right _ <| List.mem_append_left _ <| List.mem_of_getElem? (i := 113) rfl) rfl
theorem x_114 : (Jvm.Cond.instanceMethod y_R_build) ∈ lw_ok := gd_in (List.mem_append_right _ <| List.mem_append_left _ <| List.mem_of_getElem? (i := 114) rfl) rfl
theorem x_115 : (Jvm.Cond.selects "LevelRows" y_R_build y_R_build) ∈ lw_ok := gd_in (List.mem_append_right _ <| List.mem_append_left _ <| List.mem_of_getElem? (i := 115) rfl) rfl
theorem x_116 : (Jvm.Cond.code y_R_build prog_1_method_3_code (2 : Nat) (Option.some Jvm.ClassFile.FieldType.int)) ∈ lw_ok := gd_in (List.mem_append_right _ <| List.mem_append_left _ <| List.mem_of_getElem? (i := 116) rfl) rfl
theorem x_117 : (Jvm.Cond.methodLink "LevelRows" (85 : Nat) y_R_symbolAt) ∈ lw_ok := gd_in (List.mem_append_right _ <| List.mem_append_left _ <| List.mem_of_getElem? (i := 117) rfl) rfl
theorem x_119 : (Jvm.Cond.instanceMethod y_R_symbolAt) ∈ lw_ok := gd_in (List.mem_append_right _ <| List.mem_append_left _ <| List.mem_of_getElem? (i := 119) rfl) rfl
theorem x_120 : (Jvm.Cond.code y_R_symbolAt prog_1_method_22_code (6 : Nat) (Option.some Jvm.ClassFile.FieldType.int)) ∈ lw_ok := gd_in (List.mem_append_right _ <| List.mem_append_left _ <| List.mem_of_getElem? (i := 120) rfl) rfl
theorem x_121 : (Jvm.Cond.methodLink "LevelRows" (150 : Nat) y_L_bitAt) ∈ lw_ok := gd_in (List.mem_append_right _ <| List.mem_append_left _ <| List.mem_of_getElem? (i := 121) rfl) rfl
theorem x_122 : (Jvm.Cond.instanceMethod y_L_bitAt) ∈ lw_ok := gd_in (List.mem_append_right _ <| List.mem_append_left _ <| List.mem_of_getElem? (i := 122) rfl) rfl
theorem x_123 : (Jvm.Cond.selects "LevelRows$Level" y_L_bitAt y_L_bitAt) ∈ lw_ok := gd_in (List.mem_append_right _ <| List.mem_append_left _ <| List.mem_of_getElem? (i := 123) rfl) rfl
theorem x_124 : (Jvm.Cond.code y_L_bitAt prog_2_method_3_code (2 : Nat) (Option.some Jvm.ClassFile.FieldType.int)) ∈ lw_ok := gd_in (List.mem_append_right _ <| List.mem_append_left _ <| List.mem_of_getElem? (i := 124) rfl) rfl
theorem x_125 : (Jvm.Cond.methodLink "LevelRows" (153 : Nat) y_L_placeBelow) ∈ lw_ok := gd_in (List.mem_append_right _ <| List.mem_append_left _ <| List.mem_of_getElem? (i := 125) rfl) rfl
theorem x_126 : (Jvm.Cond.instanceMethod y_L_placeBelow) ∈ lw_ok := gd_in (List.mem_append_right _ <| List.mem_append_left _ <| List.mem_of_getElem? (i := 126) rfl) rfl
theorem x_127 : (Jvm.Cond.selects "LevelRows$Level" y_L_placeBelow y_L_placeBelow) ∈ lw_ok := gd_in (List.mem_append_right _ <| List.mem_append_left _ <| List.mem_of_getElem? (i := 127) rfl) rfl
theorem x_128 : (Jvm.Cond.code y_L_placeBelow prog_2_method_6_code (3 : Nat) (Option.some Jvm.ClassFile.FieldType.int)) ∈ lw_ok := gd_in (List.mem_append_right _ <| List.mem_append_left _ <| List.mem_of_getElem? (i := 128) rfl) rfl
theorem x_129 : (Jvm.Cond.methodLink "LevelRows$Level" (45 : Nat) y_L_zerosTo) ∈ lw_ok := gd_in (List.mem_append_right _ <| List.mem_append_left _ <| List.mem_of_getElem? (i := 129) rfl) rfl
theorem x_130 : (Jvm.Cond.instanceMethod y_L_zerosTo) ∈ lw_ok := gd_in (List.mem_append_right _ <| List.mem_append_left _ <| List.mem_of_getElem? (i := 130) rfl) rfl
theorem x_131 : (Jvm.Cond.selects "LevelRows$Level" y_L_zerosTo y_L_zerosTo) ∈ lw_ok := gd_in (List.mem_append_right _ <| List.mem_append_left _ <| List.mem_of_getElem? (i := 131) rfl) rfl
theorem x_132 : (Jvm.Cond.code y_L_zerosTo prog_2_method_4_code (2 : Nat) (Option.some Jvm.ClassFile.FieldType.int)) ∈ lw_ok := gd_in (List.mem_append_right _ <| List.mem_append_left _ <| List.mem_of_getElem? (i := 132) rfl) rfl
theorem x_133 : (Jvm.Cond.methodLink "LevelRows$Level" (35 : Nat) y_L_onesTo) ∈ lw_ok := gd_in (List.mem_append_right _ <| List.mem_append_left _ <| List.mem_of_getElem? (i := 133) rfl) rfl
theorem x_135 : (Jvm.Cond.instanceMethod y_L_onesTo) ∈ lw_ok := gd_in (List.mem_append_right _ <| List.mem_append_left _ <| List.mem_of_getElem? (i := 135) rfl) rfl
theorem x_136 : (Jvm.Cond.code y_L_onesTo prog_2_method_5_code (6 : Nat) (Option.some Jvm.ClassFile.FieldType.int)) ∈ lw_ok := gd_in (List.mem_append_right _ <| List.mem_append_left _ <| List.mem_of_getElem? (i := 136) rfl) rfl
theorem x_137 : (Jvm.Cond.methodLink "LevelRows$Level" (39 : Nat) y_J_bitCount) ∈ lw_ok := gd_in (List.mem_append_right _ <| List.mem_append_left _ <| List.mem_of_getElem? (i := 137) rfl) rfl
theorem x_138 : (Jvm.Cond.static y_J_bitCount) ∈ lw_ok := gd_in (List.mem_append_right _ <| List.mem_append_left _ <| List.mem_of_getElem? (i := 138) rfl) rfl
theorem x_139 : (Jvm.Cond.code y_J_bitCount prog_10_method_50_code (2 : Nat) (Option.some Jvm.ClassFile.FieldType.int)) ∈ lw_ok := gd_in (List.mem_append_right _ <| List.mem_append_left _ <| List.mem_of_getElem? (i := 139) rfl) rfl
theorem x_140 : (Jvm.Cond.constantLong "java/lang/Long" (314 : Nat) (6148914691236517205 : Int64)) ∈ lw_ok := gd_in (List.mem_append_right _ <| List.mem_append_left _ <| List.mem_of_getElem? (i := 140) rfl) rfl
theorem x_141 : (Jvm.Cond.constantLong "java/lang/Long" (316 : Nat) (3689348814741910323 : Int64)) ∈ lw_ok := gd_in (List.mem_append_right _ <| List.mem_append_left _ <| List.mem_of_getElem? (i := 141) rfl) rfl
theorem x_142 : (Jvm.Cond.constantLong "java/lang/Long" (318 : Nat) (1085102592571150095 : Int64)) ∈ lw_ok := gd_in (List.mem_append_right _ <| List.mem_append_left _ <| List.mem_of_getElem? (i := 142) rfl) rfl
theorem x_143 : (Jvm.Cond.methodLink "LevelRows" (88 : Nat) y_R_storeLevels) ∈ lw_ok := gd_in (List.mem_append_right _ <| List.mem_append_left _ <| List.mem_of_getElem? (i := 143) rfl) rfl
theorem x_145 : (Jvm.Cond.instanceMethod y_R_storeLevels) ∈ lw_ok := gd_in (List.mem_append_right _ <| List.mem_append_left _ <| List.mem_of_getElem? (i := 145) rfl) rfl
theorem x_146 : (Jvm.Cond.code y_R_storeLevels prog_1_method_21_code (2 : Nat) (Option.none : Option Jvm.ClassFile.FieldType)) ∈ lw_ok := gd_in (List.mem_append_right _ <| List.mem_append_left _ <| List.mem_of_getElem? (i := 146) rfl) rfl
theorem x_147 : (Jvm.Cond.methodLink "LevelRows" (143 : Nat) y_R_shiftOf) ∈ lw_ok := gd_in (List.mem_append_right _ <| List.mem_append_left _ <| List.mem_of_getElem? (i := 147) rfl) rfl
theorem x_149 : (Jvm.Cond.instanceMethod y_R_shiftOf) ∈ lw_ok := gd_in (List.mem_append_right _ <| List.mem_append_left _ <| List.mem_of_getElem? (i := 149) rfl) rfl
theorem x_150 : (Jvm.Cond.code y_R_shiftOf prog_1_method_20_code (2 : Nat) (Option.some Jvm.ClassFile.FieldType.int)) ∈ lw_ok := gd_in (List.mem_append_right _ <| List.mem_append_left _ <| List.mem_of_getElem? (i := 150) rfl) rfl
theorem x_151 : (Jvm.Cond.methodLink "LevelRows" (146 : Nat) y_L_store) ∈ lw_ok := gd_in (List.mem_append_right _ <| List.mem_append_left _ <| List.mem_of_getElem? (i := 151) rfl) rfl
theorem x_152 : (Jvm.Cond.instanceMethod y_L_store) ∈ lw_ok := gd_in (List.mem_append_right _ <| List.mem_append_left _ <| List.mem_of_getElem? (i := 152) rfl) rfl
theorem x_153 : (Jvm.Cond.selects "LevelRows$Level" y_L_store y_L_store) ∈ lw_ok := gd_in (List.mem_append_right _ <| List.mem_append_left _ <| List.mem_of_getElem? (i := 153) rfl) rfl
theorem x_154 : (Jvm.Cond.code y_L_store prog_2_method_2_code (9 : Nat) (Option.none : Option Jvm.ClassFile.FieldType)) ∈ lw_ok := gd_in (List.mem_append_right _ <| List.mem_append_left _ <| List.mem_of_getElem? (i := 154) rfl) rfl
theorem x_155 : (Jvm.Cond.methodLink "LevelRows$Level" (19 : Nat) y_A_fillJ) ∈ lw_ok := gd_in (List.mem_append_right _ <| List.mem_append_left _ <| List.mem_of_getElem? (i := 155) rfl) rfl
theorem x_156 : (Jvm.Cond.static y_A_fillJ) ∈ lw_ok := gd_in (List.mem_append_right _ <| List.mem_append_left _ <| List.mem_of_getElem? (i := 156) rfl) rfl
theorem x_157 : (Jvm.Cond.code y_A_fillJ prog_17_method_101_code (5 : Nat) (Option.none : Option Jvm.ClassFile.FieldType)) ∈ lw_ok := gd_in (List.mem_append_right _ <| List.mem_append_left _ <| List.mem_of_getElem? (i := 157) rfl) rfl
theorem x_158 : (Jvm.Cond.methodLink "LevelRows$Level" (29 : Nat) ({ cls := "java/lang/System", name := "arraycopy", desc := "(Ljava/lang/Object;ILjava/lang/Object;II)V" } : Jvm.MethodName)) ∈ lw_ok := gd_in (List.mem_append_right _ <| List.mem_append_left _ <| List.mem_of_getElem? (i := 158) rfl) rfl
theorem x_159 : (Jvm.Cond.static ({ cls := "java/lang/System", name := "arraycopy", desc := "(Ljava/lang/Object;ILjava/lang/Object;II)V" } : Jvm.MethodName)) ∈ lw_ok := gd_in (List.mem_append_right _ <| List.mem_append_left _ <| List.mem_of_getElem? (i := 159) rfl) rfl
theorem x_160 : (Jvm.Cond.native ({ cls := "java/lang/System", name := "arraycopy", desc := "(Ljava/lang/Object;ILjava/lang/Object;II)V" } : Jvm.MethodName)) ∈ lw_ok := gd_in (List.mem_append_right _ <| List.mem_append_left _ <| List.mem_of_getElem? (i := 160) rfl) rfl
theorem x_161 : (Jvm.Cond.methodLink "LevelRowsLaw" (108 : Nat) y_R_bits) ∈ lw_ok := gd_in (List.mem_append_right _ <| List.mem_append_left _ <| List.mem_of_getElem? (i := 161) rfl) rfl
theorem x_162 : (Jvm.Cond.instanceMethod y_R_bits) ∈ lw_ok := gd_in (List.mem_append_right _ <| List.mem_append_left _ <| List.mem_of_getElem? (i := 162) rfl) rfl
theorem x_163 : (Jvm.Cond.selects "LevelRows" y_R_bits y_R_bits) ∈ lw_ok := gd_in (List.mem_append_right _ <| List.mem_append_left _ <| List.mem_of_getElem? (i := 163) rfl) rfl
theorem x_164 : (Jvm.Cond.code y_R_bits prog_1_method_13_code (2 : Nat) (Option.some Jvm.ClassFile.FieldType.int)) ∈ lw_ok := gd_in (List.mem_append_right _ <| List.mem_append_left _ <| List.mem_of_getElem? (i := 164) rfl) rfl
theorem x_165 : (Jvm.Cond.methodLink "LevelRowsLaw" (115 : Nat) y_R_clear) ∈ lw_ok := gd_in (List.mem_append_right _ <| List.mem_append_left _ <| List.mem_of_getElem? (i := 165) rfl) rfl
theorem x_166 : (Jvm.Cond.instanceMethod y_R_clear) ∈ lw_ok := gd_in (List.mem_append_right _ <| List.mem_append_left _ <| List.mem_of_getElem? (i := 166) rfl) rfl
theorem x_167 : (Jvm.Cond.selects "LevelRows" y_R_clear y_R_clear) ∈ lw_ok := gd_in (List.mem_append_right _ <| List.mem_append_left _ <| List.mem_of_getElem? (i := 167) rfl) rfl
theorem x_168 : (Jvm.Cond.code y_R_clear prog_1_method_15_code (1 : Nat) (Option.none : Option Jvm.ClassFile.FieldType)) ∈ lw_ok := gd_in (List.mem_append_right _ <| List.mem_append_left _ <| List.mem_of_getElem? (i := 168) rfl) rfl
theorem x_169 : (Jvm.Cond.methodLink "LevelRowsLaw" (53 : Nat) y_W_cell) ∈ lw_ok := gd_in (List.mem_append_right _ <| List.mem_append_left _ <| List.mem_of_getElem? (i := 169) rfl) rfl
theorem x_170 : (Jvm.Cond.static y_W_cell) ∈ lw_ok := gd_in (List.mem_append_right _ <| List.mem_append_left _ <| List.mem_of_getElem? (i := 170) rfl) rfl
theorem x_171 : (Jvm.Cond.code y_W_cell method_2_code (2 : Nat) (Option.some Jvm.ClassFile.FieldType.int)) ∈ lw_ok := gd_in (List.mem_append_right _ <| List.mem_append_left _ <| List.mem_of_getElem? (i := 171) rfl) rfl
theorem x_172 : (Jvm.Cond.methodLink "LevelRowsLaw" (65 : Nat) y_W_put) ∈ lw_ok := gd_in (List.mem_append_right _ <| List.mem_append_left _ <| List.mem_of_getElem? (i := 172) rfl) rfl
theorem x_173 : (Jvm.Cond.static y_W_put) ∈ lw_ok := gd_in (List.mem_append_right _ <| List.mem_append_left _ <| List.mem_of_getElem? (i := 173) rfl) rfl
theorem x_174 : (Jvm.Cond.codeWith y_W_put method_3_code (9 : Nat) (Option.some Jvm.ClassFile.FieldType.int) [((0 : Nat), (18 : Nat), (21 : Nat), (13 : Nat)), ((0 : Nat), (18 : Nat), (25 : Nat), (15 : Nat)), ((0 : Nat), (18 : Nat), (29 : Nat), (17 : Nat))]) ∈ lw_ok := gd_in (List.mem_append_right _ <| List.mem_append_left _ <| List.mem_of_getElem? (i := 174) rfl) rfl
theorem x_175 : (Jvm.Cond.classLink "LevelRowsLaw" (13 : Nat) "java/lang/IndexOutOfBoundsException") ∈ lw_ok := gd_in (List.mem_append_right _ <| List.mem_append_left _ <| List.mem_of_getElem? (i := 175) rfl) rfl
theorem x_176 : (Jvm.Cond.classLink "LevelRowsLaw" (15 : Nat) "java/lang/IllegalArgumentException") ∈ lw_ok := gd_in (List.mem_append_right _ <| List.mem_append_left _ <| List.mem_of_getElem? (i := 176) rfl) rfl
theorem x_177 : (Jvm.Cond.classLink "LevelRowsLaw" (17 : Nat) "java/lang/UnsupportedOperationException") ∈ lw_ok := gd_in (List.mem_append_right _ <| List.mem_append_left _ <| List.mem_of_getElem? (i := 177) rfl) rfl
theorem x_178 : (Jvm.Cond.methodLink "LevelRowsLaw" (7 : Nat) y_R_put) ∈ lw_ok := gd_in (List.mem_append_right _ <| List.mem_append_left _ <| List.mem_of_getElem? (i := 178) rfl) rfl
theorem x_179 : (Jvm.Cond.instanceMethod y_R_put) ∈ lw_ok := gd_in (List.mem_append_right _ <| List.mem_append_left _ <| List.mem_of_getElem? (i := 179) rfl) rfl
theorem x_180 : (Jvm.Cond.selects "LevelRows" y_R_put y_R_put) ∈ lw_ok := gd_in (List.mem_append_right _ <| List.mem_append_left _ <| List.mem_of_getElem? (i := 180) rfl) rfl
theorem x_181 : (Jvm.Cond.code y_R_put prog_1_method_2_code (9 : Nat) (Option.some Jvm.ClassFile.FieldType.int)) ∈ lw_ok := gd_in (List.mem_append_right _ <| List.mem_append_left _ <| List.mem_of_getElem? (i := 181) rfl) rfl
theorem x_182 : (Jvm.Cond.methodLink "LevelRows" (59 : Nat) y_R_symbolInPut) ∈ lw_ok := gd_in (List.mem_append_right _ <| List.mem_append_left _ <| List.mem_of_getElem? (i := 182) rfl) rfl
theorem x_183 : (Jvm.Cond.static y_R_symbolInPut) ∈ lw_ok := gd_in (List.mem_append_right _ <| List.mem_append_left _ <| List.mem_of_getElem? (i := 183) rfl) rfl
theorem x_184 : (Jvm.Cond.code y_R_symbolInPut prog_1_method_19_code (7 : Nat) (Option.some Jvm.ClassFile.FieldType.int)) ∈ lw_ok := gd_in (List.mem_append_right _ <| List.mem_append_left _ <| List.mem_of_getElem? (i := 184) rfl) rfl
theorem x_185 : (Jvm.Cond.constant "LevelRows" (142 : Nat) (65535 : Int32)) ∈ lw_ok := gd_in (List.mem_append_right _ <| List.mem_append_left _ <| List.mem_of_getElem? (i := 185) rfl) rfl
theorem x_186 : (Jvm.Cond.methodLink "LevelRows" (63 : Nat) y_R_checkSymbol) ∈ lw_ok := gd_in (List.mem_append_right _ <| List.mem_append_left _ <| List.mem_of_getElem? (i := 186) rfl) rfl
theorem x_188 : (Jvm.Cond.instanceMethod y_R_checkSymbol) ∈ lw_ok := gd_in (List.mem_append_right _ <| List.mem_append_left _ <| List.mem_of_getElem? (i := 188) rfl) rfl
theorem x_189 : (Jvm.Cond.code y_R_checkSymbol prog_1_method_16_code (2 : Nat) (Option.none : Option Jvm.ClassFile.FieldType)) ∈ lw_ok := gd_in (List.mem_append_right _ <| List.mem_append_left _ <| List.mem_of_getElem? (i := 189) rfl) rfl
theorem x_190 : (Jvm.Cond.classLink "LevelRows" (91 : Nat) "java/lang/IndexOutOfBoundsException") ∈ lw_ok := gd_in (List.mem_append_right _ <| List.mem_append_left _ <| List.mem_of_getElem? (i := 190) rfl) rfl
theorem x_191 : (Jvm.Cond.instantiable "java/lang/IndexOutOfBoundsException" (6 : Nat)) ∈ lw_ok := gd_in (List.mem_append_right _ <| List.mem_append_left _ <| List.mem_of_getElem? (i := 191) rfl) rfl
theorem x_192 : (Jvm.Cond.castable "java/lang/IndexOutOfBoundsException" "java/lang/IndexOutOfBoundsException") ∈ lw_nw := nw_in (List.mem_append_right _ <| List.mem_append_left _ <| List.mem_of_getElem? (i := 192) rfl) rfl
theorem x_193 : (Jvm.Cond.declares ({ cls := "java/lang/RuntimeException", name := "<init>", desc := "()V" } : Jvm.MethodName)) ∈ lw_nw := nw_in (List.mem_append_right _ <| List.mem_append_left _ <| List.mem_of_getElem? (i := 193) rfl) rfl
theorem x_194 : (Jvm.Cond.declares ({ cls := "java/lang/RuntimeException", name := "<init>", desc := "(Ljava/lang/String;)V" } : Jvm.MethodName)) ∈ lw_nw := nw_in (List.mem_append_right _ <| List.mem_append_left _ <| List.mem_of_getElem? (i := 194) rfl) rfl
theorem x_195 : (Jvm.Cond.declares ({ cls := "java/lang/Exception", name := "<init>", desc := "()V" } : Jvm.MethodName)) ∈ lw_nw := nw_in (List.mem_append_right _ <| List.mem_append_left _ <| List.mem_of_getElem? (i := 195) rfl) rfl
theorem x_196 : (Jvm.Cond.declares ({ cls := "java/lang/Exception", name := "<init>", desc := "(Ljava/lang/String;)V" } : Jvm.MethodName)) ∈ lw_nw := nw_in (List.mem_append_right _ <| List.mem_append_left _ <| List.mem_of_getElem? (i := 196) rfl) rfl
theorem x_197 : (Jvm.Cond.declares ({ cls := "java/lang/Throwable", name := "<init>", desc := "()V" } : Jvm.MethodName)) ∈ lw_nw := nw_in (List.mem_append_right _ <| List.mem_append_left _ <| List.mem_of_getElem? (i := 197) rfl) rfl
theorem x_198 : (Jvm.Cond.declares ({ cls := "java/lang/Throwable", name := "<init>", desc := "(Ljava/lang/String;)V" } : Jvm.MethodName)) ∈ lw_nw := nw_in (List.mem_append_right _ <| List.mem_append_left _ <| List.mem_of_getElem? (i := 198) rfl) rfl
theorem x_199 : (Jvm.Cond.selects "java/lang/IndexOutOfBoundsException" ({ cls := "java/lang/Throwable", name := "fillInStackTrace", desc := "(I)Ljava/lang/Throwable;" } : Jvm.MethodName) ({ cls := "java/lang/Throwable", name := "fillInStackTrace", desc := "(I)Ljava/lang/Throwable;" } : Jvm.MethodName)) ∈ lw_ok := gd_in (List.mem_append_right _ <| List.mem_append_left _ <| List.mem_of_getElem? (i := 199) rfl) rfl
theorem x_200 : (Jvm.Cond.selects "java/lang/IndexOutOfBoundsException" ({ cls := "java/lang/Throwable", name := "fillInStackTrace", desc := "()Ljava/lang/Throwable;" } : Jvm.MethodName) ({ cls := "java/lang/Throwable", name := "fillInStackTrace", desc := "()Ljava/lang/Throwable;" } : Jvm.MethodName)) ∈ lw_ok := gd_in (List.mem_append_right _ <| List.mem_append_left _ <| List.mem_of_getElem? (i := 200) rfl) rfl
theorem x_211 : (Jvm.Cond.fieldLink "java/lang/Throwable" (198 : Nat) "java/lang/Throwable" "backtrace" "Ljava/lang/Object;") ∈ lw_ok := gd_in (List.mem_append_right _ <| List.mem_append_left _ <| List.mem_of_getElem? (i := 211) rfl) rfl
theorem x_212 : (Jvm.Cond.superclass "java/lang/Throwable" "java/lang/Object") ∈ lw_ok := gd_in (List.mem_append_right _ <| List.mem_append_left _ <| List.mem_of_getElem? (i := 212) rfl) rfl
theorem x_213 : (Jvm.Cond.instanceMethod ({ cls := "java/lang/Throwable", name := "<init>", desc := "()V" } : Jvm.MethodName)) ∈ lw_ok := gd_in (List.mem_append_right _ <| List.mem_append_left _ <| List.mem_of_getElem? (i := 213) rfl) rfl
theorem x_214 : (Jvm.Cond.code ({ cls := "java/lang/Throwable", name := "<init>", desc := "()V" } : Jvm.MethodName) prog_15_method_1_code (1 : Nat) (Option.none : Option Jvm.ClassFile.FieldType)) ∈ lw_ok := gd_in (List.mem_append_right _ <| List.mem_append_left _ <| List.mem_of_getElem? (i := 214) rfl) rfl
theorem x_215 : (Jvm.Cond.methodLink "java/lang/Throwable" (1 : Nat) ({ cls := "java/lang/Object", name := "<init>", desc := "()V" } : Jvm.MethodName)) ∈ lw_ok := gd_in (List.mem_append_right _ <| List.mem_append_left _ <| List.mem_of_getElem? (i := 215) rfl) rfl
theorem x_216 : (Jvm.Cond.fieldLink "java/lang/Throwable" (13 : Nat) "java/lang/Throwable" "UNASSIGNED_STACK" "[Ljava/lang/StackTraceElement;") ∈ lw_ok := gd_in (List.mem_append_right _ <| List.mem_append_left _ <| List.mem_of_getElem? (i := 216) rfl) rfl
theorem x_218 : (Jvm.Cond.fieldLink "java/lang/Throwable" (20 : Nat) "java/lang/Throwable" "SUPPRESSED_SENTINEL" "Ljava/util/List;") ∈ lw_ok := gd_in (List.mem_append_right _ <| List.mem_append_left _ <| List.mem_of_getElem? (i := 218) rfl) rfl
theorem x_220 : (Jvm.Cond.methodLink "java/lang/Throwable" (27 : Nat) ({ cls := "java/lang/Throwable", name := "fillInStackTrace", desc := "()Ljava/lang/Throwable;" } : Jvm.MethodName)) ∈ lw_ok := gd_in (List.mem_append_right _ <| List.mem_append_left _ <| List.mem_of_getElem? (i := 220) rfl) rfl
theorem x_221 : (Jvm.Cond.instanceMethod ({ cls := "java/lang/Throwable", name := "fillInStackTrace", desc := "()Ljava/lang/Throwable;" } : Jvm.MethodName)) ∈ lw_ok := gd_in (List.mem_append_right _ <| List.mem_append_left _ <| List.mem_of_getElem? (i := 221) rfl) rfl
theorem x_222 : (Jvm.Cond.sameMethod "java/lang/Throwable" "java/lang/Throwable" "fillInStackTrace" "()Ljava/lang/Throwable;") ∈ lw_ok := gd_in (List.mem_append_right _ <| List.mem_append_left _ <| List.mem_of_getElem? (i := 222) rfl) rfl
theorem x_223 : (Jvm.Cond.selects "java/lang/IllegalArgumentException" ({ cls := "java/lang/Throwable", name := "fillInStackTrace", desc := "()Ljava/lang/Throwable;" } : Jvm.MethodName) ({ cls := "java/lang/Throwable", name := "fillInStackTrace", desc := "()Ljava/lang/Throwable;" } : Jvm.MethodName)) ∈ lw_ok := gd_in (List.mem_append_right _ <| List.mem_append_left _ <| List.mem_of_getElem? (i := 223) rfl) rfl
theorem x_224 : (Jvm.Cond.selects "java/lang/UnsupportedOperationException" ({ cls := "java/lang/Throwable", name := "fillInStackTrace", desc := "()Ljava/lang/Throwable;" } : Jvm.MethodName) ({ cls := "java/lang/Throwable", name := "fillInStackTrace", desc := "()Ljava/lang/Throwable;" } : Jvm.MethodName)) ∈ lw_ok := gd_in (List.mem_append_right _ <| List.mem_append_left _ <| List.mem_of_getElem? (i := 224) rfl) rfl
theorem x_226 : (Jvm.Cond.methodLink "java/lang/Throwable" (202 : Nat) ({ cls := "java/lang/Throwable", name := "fillInStackTrace", desc := "(I)Ljava/lang/Throwable;" } : Jvm.MethodName)) ∈ lw_ok := gd_in (List.mem_append_right _ <| List.mem_append_left _ <| List.mem_of_getElem? (i := 226) rfl) rfl
theorem x_228 : (Jvm.Cond.instanceMethod ({ cls := "java/lang/Throwable", name := "fillInStackTrace", desc := "(I)Ljava/lang/Throwable;" } : Jvm.MethodName)) ∈ lw_ok := gd_in (List.mem_append_right _ <| List.mem_append_left _ <| List.mem_of_getElem? (i := 228) rfl) rfl
theorem x_229 : (Jvm.Cond.instantiable "java/lang/Throwable" (6 : Nat)) ∈ lw_ok := gd_in (List.mem_append_right _ <| List.mem_append_left _ <| List.mem_of_getElem? (i := 229) rfl) rfl
theorem x_230 : (Jvm.Cond.native ({ cls := "java/lang/Throwable", name := "fillInStackTrace", desc := "(I)Ljava/lang/Throwable;" } : Jvm.MethodName)) ∈ lw_ok := gd_in (List.mem_append_right _ <| List.mem_append_left _ <| List.mem_of_getElem? (i := 230) rfl) rfl
theorem x_231 : (Jvm.Cond.stringRef "LevelRows" (136 : Nat) "no such symbol") ∈ lw_nw := nw_in (List.mem_append_right _ <| List.mem_append_left _ <| List.mem_of_getElem? (i := 231) rfl) rfl
theorem x_232 : (Jvm.Cond.methodLink "LevelRows" (95 : Nat) ({ cls := "java/lang/IndexOutOfBoundsException", name := "<init>", desc := "(Ljava/lang/String;)V" } : Jvm.MethodName)) ∈ lw_ok := gd_in (List.mem_append_right _ <| List.mem_append_left _ <| List.mem_of_getElem? (i := 232) rfl) rfl
theorem x_233 : (Jvm.Cond.instanceMethod ({ cls := "java/lang/IndexOutOfBoundsException", name := "<init>", desc := "(Ljava/lang/String;)V" } : Jvm.MethodName)) ∈ lw_ok := gd_in (List.mem_append_right _ <| List.mem_append_left _ <| List.mem_of_getElem? (i := 233) rfl) rfl
theorem x_234 : (Jvm.Cond.code ({ cls := "java/lang/IndexOutOfBoundsException", name := "<init>", desc := "(Ljava/lang/String;)V" } : Jvm.MethodName) prog_8_method_2_code (2 : Nat) (Option.none : Option Jvm.ClassFile.FieldType)) ∈ lw_ok := gd_in (List.mem_append_right _ <| List.mem_append_left _ <| List.mem_of_getElem? (i := 234) rfl) rfl
theorem x_235 : (Jvm.Cond.methodLink "java/lang/IndexOutOfBoundsException" (7 : Nat) ({ cls := "java/lang/RuntimeException", name := "<init>", desc := "(Ljava/lang/String;)V" } : Jvm.MethodName)) ∈ lw_ok := gd_in (List.mem_append_right _ <| List.mem_append_left _ <| List.mem_of_getElem? (i := 235) rfl) rfl
theorem x_236 : (Jvm.Cond.instanceMethod ({ cls := "java/lang/RuntimeException", name := "<init>", desc := "(Ljava/lang/String;)V" } : Jvm.MethodName)) ∈ lw_ok := gd_in (List.mem_append_right _ <| List.mem_append_left _ <| List.mem_of_getElem? (i := 236) rfl) rfl
theorem x_237 : (Jvm.Cond.code ({ cls := "java/lang/RuntimeException", name := "<init>", desc := "(Ljava/lang/String;)V" } : Jvm.MethodName) prog_12_method_2_code (2 : Nat) (Option.none : Option Jvm.ClassFile.FieldType)) ∈ lw_ok := gd_in (List.mem_append_right _ <| List.mem_append_left _ <| List.mem_of_getElem? (i := 237) rfl) rfl
theorem x_238 : (Jvm.Cond.methodLink "java/lang/RuntimeException" (7 : Nat) ({ cls := "java/lang/Exception", name := "<init>", desc := "(Ljava/lang/String;)V" } : Jvm.MethodName)) ∈ lw_ok := gd_in (List.mem_append_right _ <| List.mem_append_left _ <| List.mem_of_getElem? (i := 238) rfl) rfl
theorem x_239 : (Jvm.Cond.instanceMethod ({ cls := "java/lang/Exception", name := "<init>", desc := "(Ljava/lang/String;)V" } : Jvm.MethodName)) ∈ lw_ok := gd_in (List.mem_append_right _ <| List.mem_append_left _ <| List.mem_of_getElem? (i := 239) rfl) rfl
theorem x_240 : (Jvm.Cond.code ({ cls := "java/lang/Exception", name := "<init>", desc := "(Ljava/lang/String;)V" } : Jvm.MethodName) prog_6_method_2_code (2 : Nat) (Option.none : Option Jvm.ClassFile.FieldType)) ∈ lw_ok := gd_in (List.mem_append_right _ <| List.mem_append_right _ <| List.mem_append_left _ <| List.mem_of_getElem? (i := 0) rfl) rfl
theorem x_241 : (Jvm.Cond.methodLink "java/lang/Exception" (7 : Nat) ({ cls := "java/lang/Throwable", name := "<init>", desc := "(Ljava/lang/String;)V" } : Jvm.MethodName)) ∈ lw_ok := gd_in (List.mem_append_right _ <| List.mem_append_right _ <| List.mem_append_left _ <| List.mem_of_getElem? (i := 1) rfl) rfl
theorem x_242 : (Jvm.Cond.instanceMethod ({ cls := "java/lang/Throwable", name := "<init>", desc := "(Ljava/lang/String;)V" } : Jvm.MethodName)) ∈ lw_ok := gd_in (List.mem_append_right _ <| List.mem_append_right _ <| List.mem_append_left _ <| List.mem_of_getElem? (i := 2) rfl) rfl
theorem x_243 : (Jvm.Cond.code ({ cls := "java/lang/Throwable", name := "<init>", desc := "(Ljava/lang/String;)V" } : Jvm.MethodName) prog_15_method_2_code (2 : Nat) (Option.none : Option Jvm.ClassFile.FieldType)) ∈ lw_ok := gd_in (List.mem_append_right _ <| List.mem_append_right _ <| List.mem_append_left _ <| List.mem_of_getElem? (i := 3) rfl) rfl
theorem x_244 : (Jvm.Cond.fieldLink "java/lang/Throwable" (198 : Nat) "java/lang/Throwable" "backtrace" "Ljava/lang/Object;") ∈ lw_ok := gd_in (List.mem_append_right _ <| List.mem_append_right _ <| List.mem_append_left _ <| List.mem_of_getElem? (i := 4) rfl) rfl
theorem x_245 : (Jvm.Cond.fieldLink "java/lang/Throwable" (31 : Nat) "java/lang/Throwable" "detailMessage" "Ljava/lang/String;") ∈ lw_ok := gd_in (List.mem_append_right _ <| List.mem_append_right _ <| List.mem_append_left _ <| List.mem_of_getElem? (i := 5) rfl) rfl
theorem x_246 : (Jvm.Cond.fieldLink "java/lang/Throwable" (7 : Nat) "java/lang/Throwable" "cause" "Ljava/lang/Throwable;") ∈ lw_ok := gd_in (List.mem_append_right _ <| List.mem_append_right _ <| List.mem_append_left _ <| List.mem_of_getElem? (i := 6) rfl) rfl
theorem x_247 : (Jvm.Cond.fieldLink "java/lang/Throwable" (17 : Nat) "java/lang/Throwable" "stackTrace" "[Ljava/lang/StackTraceElement;") ∈ lw_ok := gd_in (List.mem_append_right _ <| List.mem_append_right _ <| List.mem_append_left _ <| List.mem_of_getElem? (i := 7) rfl) rfl
theorem x_248 : (Jvm.Cond.fieldLink "java/lang/Throwable" (24 : Nat) "java/lang/Throwable" "suppressedExceptions" "Ljava/util/List;") ∈ lw_ok := gd_in (List.mem_append_right _ <| List.mem_append_right _ <| List.mem_append_left _ <| List.mem_of_getElem? (i := 8) rfl) rfl
theorem x_256 : (Jvm.Cond.superclass "java/lang/IndexOutOfBoundsException" "java/lang/RuntimeException") ∈ lw_ok := gd_in (List.mem_append_right _ <| List.mem_append_right _ <| List.mem_append_left _ <| List.mem_of_getElem? (i := 16) rfl) rfl
theorem x_257 : (Jvm.Cond.arrayClass Jvm.ClassFile.FieldType.byte) ∈ lw_ok := gd_in (List.mem_append_right _ <| List.mem_append_right _ <| List.mem_append_left _ <| List.mem_of_getElem? (i := 17) rfl) rfl
theorem x_258 : (Jvm.Cond.classLink "LevelRows" (67 : Nat) "java/lang/IllegalArgumentException") ∈ lw_ok := gd_in (List.mem_append_right _ <| List.mem_append_right _ <| List.mem_append_left _ <| List.mem_of_getElem? (i := 18) rfl) rfl
theorem x_259 : (Jvm.Cond.instantiable "java/lang/IllegalArgumentException" (6 : Nat)) ∈ lw_ok := gd_in (List.mem_append_right _ <| List.mem_append_right _ <| List.mem_append_left _ <| List.mem_of_getElem? (i := 19) rfl) rfl
theorem x_260 : (Jvm.Cond.castable "java/lang/IllegalArgumentException" "java/lang/IllegalArgumentException") ∈ lw_nw := nw_in (List.mem_append_right _ <| List.mem_append_right _ <| List.mem_append_left _ <| List.mem_of_getElem? (i := 20) rfl) rfl
theorem x_261 : (Jvm.Cond.selects "java/lang/IllegalArgumentException" ({ cls := "java/lang/Throwable", name := "fillInStackTrace", desc := "(I)Ljava/lang/Throwable;" } : Jvm.MethodName) ({ cls := "java/lang/Throwable", name := "fillInStackTrace", desc := "(I)Ljava/lang/Throwable;" } : Jvm.MethodName)) ∈ lw_ok := gd_in (List.mem_append_right _ <| List.mem_append_right _ <| List.mem_append_left _ <| List.mem_of_getElem? (i := 21) rfl) rfl
theorem x_267 : (Jvm.Cond.stringRef "LevelRows" (69 : Nat) "n is not 1 .. 10") ∈ lw_nw := nw_in (List.mem_append_right _ <| List.mem_append_right _ <| List.mem_append_left _ <| List.mem_of_getElem? (i := 27) rfl) rfl
theorem x_268 : (Jvm.Cond.methodLink "LevelRows" (71 : Nat) ({ cls := "java/lang/IllegalArgumentException", name := "<init>", desc := "(Ljava/lang/String;)V" } : Jvm.MethodName)) ∈ lw_ok := gd_in (List.mem_append_right _ <| List.mem_append_right _ <| List.mem_append_left _ <| List.mem_of_getElem? (i := 28) rfl) rfl
theorem x_269 : (Jvm.Cond.instanceMethod ({ cls := "java/lang/IllegalArgumentException", name := "<init>", desc := "(Ljava/lang/String;)V" } : Jvm.MethodName)) ∈ lw_ok := gd_in (List.mem_append_right _ <| List.mem_append_right _ <| List.mem_append_left _ <| List.mem_of_getElem? (i := 29) rfl) rfl
theorem x_270 : (Jvm.Cond.code ({ cls := "java/lang/IllegalArgumentException", name := "<init>", desc := "(Ljava/lang/String;)V" } : Jvm.MethodName) prog_7_method_2_code (2 : Nat) (Option.none : Option Jvm.ClassFile.FieldType)) ∈ lw_ok := gd_in (List.mem_append_right _ <| List.mem_append_right _ <| List.mem_append_left _ <| List.mem_of_getElem? (i := 30) rfl) rfl
theorem x_271 : (Jvm.Cond.methodLink "java/lang/IllegalArgumentException" (7 : Nat) ({ cls := "java/lang/RuntimeException", name := "<init>", desc := "(Ljava/lang/String;)V" } : Jvm.MethodName)) ∈ lw_ok := gd_in (List.mem_append_right _ <| List.mem_append_right _ <| List.mem_append_left _ <| List.mem_of_getElem? (i := 31) rfl) rfl
theorem x_273 : (Jvm.Cond.superclass "java/lang/IllegalArgumentException" "java/lang/RuntimeException") ∈ lw_ok := gd_in (List.mem_append_right _ <| List.mem_append_right _ <| List.mem_append_left _ <| List.mem_of_getElem? (i := 33) rfl) rfl
theorem x_274 : (Jvm.Cond.classLink "LevelRows" (80 : Nat) "java/lang/UnsupportedOperationException") ∈ lw_ok := gd_in (List.mem_append_right _ <| List.mem_append_right _ <| List.mem_append_left _ <| List.mem_of_getElem? (i := 34) rfl) rfl
theorem x_275 : (Jvm.Cond.instantiable "java/lang/UnsupportedOperationException" (6 : Nat)) ∈ lw_ok := gd_in (List.mem_append_right _ <| List.mem_append_right _ <| List.mem_append_left _ <| List.mem_of_getElem? (i := 35) rfl) rfl
theorem x_276 : (Jvm.Cond.castable "java/lang/UnsupportedOperationException" "java/lang/UnsupportedOperationException") ∈ lw_nw := nw_in (List.mem_append_right _ <| List.mem_append_right _ <| List.mem_append_left _ <| List.mem_of_getElem? (i := 36) rfl) rfl
theorem x_277 : (Jvm.Cond.selects "java/lang/UnsupportedOperationException" ({ cls := "java/lang/Throwable", name := "fillInStackTrace", desc := "(I)Ljava/lang/Throwable;" } : Jvm.MethodName) ({ cls := "java/lang/Throwable", name := "fillInStackTrace", desc := "(I)Ljava/lang/Throwable;" } : Jvm.MethodName)) ∈ lw_ok := gd_in (List.mem_append_right _ <| List.mem_append_right _ <| List.mem_append_left _ <| List.mem_of_getElem? (i := 37) rfl) rfl
theorem x_283 : (Jvm.Cond.stringRef "LevelRows" (82 : Nat) "more than 1000 symbols") ∈ lw_nw := nw_in (List.mem_append_right _ <| List.mem_append_right _ <| List.mem_append_left _ <| List.mem_of_getElem? (i := 43) rfl) rfl
theorem x_284 : (Jvm.Cond.methodLink "LevelRows" (84 : Nat) ({ cls := "java/lang/UnsupportedOperationException", name := "<init>", desc := "(Ljava/lang/String;)V" } : Jvm.MethodName)) ∈ lw_ok := gd_in (List.mem_append_right _ <| List.mem_append_right _ <| List.mem_append_left _ <| List.mem_of_getElem? (i := 44) rfl) rfl
theorem x_285 : (Jvm.Cond.instanceMethod ({ cls := "java/lang/UnsupportedOperationException", name := "<init>", desc := "(Ljava/lang/String;)V" } : Jvm.MethodName)) ∈ lw_ok := gd_in (List.mem_append_right _ <| List.mem_append_right _ <| List.mem_append_left _ <| List.mem_of_getElem? (i := 45) rfl) rfl
theorem x_286 : (Jvm.Cond.code ({ cls := "java/lang/UnsupportedOperationException", name := "<init>", desc := "(Ljava/lang/String;)V" } : Jvm.MethodName) prog_16_method_2_code (2 : Nat) (Option.none : Option Jvm.ClassFile.FieldType)) ∈ lw_ok := gd_in (List.mem_append_right _ <| List.mem_append_right _ <| List.mem_append_left _ <| List.mem_of_getElem? (i := 46) rfl) rfl
theorem x_287 : (Jvm.Cond.methodLink "java/lang/UnsupportedOperationException" (7 : Nat) ({ cls := "java/lang/RuntimeException", name := "<init>", desc := "(Ljava/lang/String;)V" } : Jvm.MethodName)) ∈ lw_ok := gd_in (List.mem_append_right _ <| List.mem_append_right _ <| List.mem_append_left _ <| List.mem_of_getElem? (i := 47) rfl) rfl
theorem x_289 : (Jvm.Cond.superclass "java/lang/UnsupportedOperationException" "java/lang/RuntimeException") ∈ lw_ok := gd_in (List.mem_append_right _ <| List.mem_append_right _ <| List.mem_append_left _ <| List.mem_of_getElem? (i := 49) rfl) rfl
theorem x_290 : (Jvm.Cond.methodLink "LevelRowsLaw" (77 : Nat) y_W_at) ∈ lw_ok := gd_in (List.mem_append_right _ <| List.mem_append_right _ <| List.mem_append_left _ <| List.mem_of_getElem? (i := 50) rfl) rfl
theorem x_291 : (Jvm.Cond.static y_W_at) ∈ lw_ok := gd_in (List.mem_append_right _ <| List.mem_append_right _ <| List.mem_append_left _ <| List.mem_of_getElem? (i := 51) rfl) rfl
theorem x_292 : (Jvm.Cond.codeWith y_W_at method_4_code (4 : Nat) (Option.some Jvm.ClassFile.FieldType.int) [((0 : Nat), (9 : Nat), (12 : Nat), (13 : Nat))]) ∈ lw_ok := gd_in (List.mem_append_right _ <| List.mem_append_right _ <| List.mem_append_left _ <| List.mem_of_getElem? (i := 52) rfl) rfl
theorem x_293 : (Jvm.Cond.methodLink "LevelRowsLaw" (19 : Nat) y_R_at) ∈ lw_ok := gd_in (List.mem_append_right _ <| List.mem_append_right _ <| List.mem_append_left _ <| List.mem_of_getElem? (i := 53) rfl) rfl
theorem x_294 : (Jvm.Cond.instanceMethod y_R_at) ∈ lw_ok := gd_in (List.mem_append_right _ <| List.mem_append_right _ <| List.mem_append_left _ <| List.mem_of_getElem? (i := 54) rfl) rfl
theorem x_295 : (Jvm.Cond.selects "LevelRows" y_R_at y_R_at) ∈ lw_ok := gd_in (List.mem_append_right _ <| List.mem_append_right _ <| List.mem_append_left _ <| List.mem_of_getElem? (i := 55) rfl) rfl
theorem x_296 : (Jvm.Cond.code y_R_at prog_1_method_4_code (2 : Nat) (Option.some Jvm.ClassFile.FieldType.int)) ∈ lw_ok := gd_in (List.mem_append_right _ <| List.mem_append_right _ <| List.mem_append_left _ <| List.mem_of_getElem? (i := 56) rfl) rfl
theorem x_297 : (Jvm.Cond.stringRef "LevelRows" (93 : Nat) "no such place") ∈ lw_nw := nw_in (List.mem_append_right _ <| List.mem_append_right _ <| List.mem_append_left _ <| List.mem_of_getElem? (i := 57) rfl) rfl
theorem x_298 : (Jvm.Cond.methodLink "LevelRowsLaw" (81 : Nat) y_W_rank) ∈ lw_ok := gd_in (List.mem_append_right _ <| List.mem_append_right _ <| List.mem_append_left _ <| List.mem_of_getElem? (i := 58) rfl) rfl
theorem x_299 : (Jvm.Cond.static y_W_rank) ∈ lw_ok := gd_in (List.mem_append_right _ <| List.mem_append_right _ <| List.mem_append_left _ <| List.mem_of_getElem? (i := 59) rfl) rfl
theorem x_300 : (Jvm.Cond.codeWith y_W_rank method_5_code (5 : Nat) (Option.some Jvm.ClassFile.FieldType.int) [((0 : Nat), (10 : Nat), (13 : Nat), (13 : Nat))]) ∈ lw_ok := gd_in (List.mem_append_right _ <| List.mem_append_right _ <| List.mem_append_left _ <| List.mem_of_getElem? (i := 60) rfl) rfl
theorem x_301 : (Jvm.Cond.methodLink "LevelRowsLaw" (23 : Nat) y_R_rank) ∈ lw_ok := gd_in (List.mem_append_right _ <| List.mem_append_right _ <| List.mem_append_left _ <| List.mem_of_getElem? (i := 61) rfl) rfl
theorem x_302 : (Jvm.Cond.instanceMethod y_R_rank) ∈ lw_ok := gd_in (List.mem_append_right _ <| List.mem_append_right _ <| List.mem_append_left _ <| List.mem_of_getElem? (i := 62) rfl) rfl
theorem x_303 : (Jvm.Cond.selects "LevelRows" y_R_rank y_R_rank) ∈ lw_ok := gd_in (List.mem_append_right _ <| List.mem_append_right _ <| List.mem_append_left _ <| List.mem_of_getElem? (i := 63) rfl) rfl
theorem x_304 : (Jvm.Cond.code y_R_rank prog_1_method_5_code (3 : Nat) (Option.some Jvm.ClassFile.FieldType.int)) ∈ lw_ok := gd_in (List.mem_append_right _ <| List.mem_append_right _ <| List.mem_append_left _ <| List.mem_of_getElem? (i := 64) rfl) rfl
theorem x_305 : (Jvm.Cond.methodLink "LevelRows" (96 : Nat) y_R_checkPart) ∈ lw_ok := gd_in (List.mem_append_right _ <| List.mem_append_right _ <| List.mem_append_left _ <| List.mem_of_getElem? (i := 65) rfl) rfl
theorem x_307 : (Jvm.Cond.instanceMethod y_R_checkPart) ∈ lw_ok := gd_in (List.mem_append_right _ <| List.mem_append_right _ <| List.mem_append_left _ <| List.mem_of_getElem? (i := 67) rfl) rfl
theorem x_308 : (Jvm.Cond.code y_R_checkPart prog_1_method_17_code (3 : Nat) (Option.none : Option Jvm.ClassFile.FieldType)) ∈ lw_ok := gd_in (List.mem_append_right _ <| List.mem_append_right _ <| List.mem_append_left _ <| List.mem_of_getElem? (i := 68) rfl) rfl
theorem x_309 : (Jvm.Cond.stringRef "LevelRows" (138 : Nat) "no such part") ∈ lw_nw := nw_in (List.mem_append_right _ <| List.mem_append_right _ <| List.mem_append_left _ <| List.mem_of_getElem? (i := 69) rfl) rfl
theorem x_310 : (Jvm.Cond.methodLink "LevelRows" (100 : Nat) y_P_span) ∈ lw_ok := gd_in (List.mem_append_right _ <| List.mem_append_right _ <| List.mem_append_left _ <| List.mem_of_getElem? (i := 70) rfl) rfl
theorem x_311 : (Jvm.Cond.instanceMethod y_P_span) ∈ lw_ok := gd_in (List.mem_append_right _ <| List.mem_append_right _ <| List.mem_append_left _ <| List.mem_of_getElem? (i := 71) rfl) rfl
theorem x_312 : (Jvm.Cond.selects "LevelRows$Part" y_P_span y_P_span) ∈ lw_ok := gd_in (List.mem_append_right _ <| List.mem_append_right _ <| List.mem_append_left _ <| List.mem_of_getElem? (i := 72) rfl) rfl
theorem x_313 : (Jvm.Cond.code y_P_span prog_3_method_2_code (3 : Nat) (Option.none : Option Jvm.ClassFile.FieldType)) ∈ lw_ok := gd_in (List.mem_append_right _ <| List.mem_append_right _ <| List.mem_append_left _ <| List.mem_of_getElem? (i := 73) rfl) rfl
theorem x_314 : (Jvm.Cond.methodLink "LevelRows" (103 : Nat) y_R_descendTo) ∈ lw_ok := gd_in (List.mem_append_right _ <| List.mem_append_right _ <| List.mem_append_left _ <| List.mem_of_getElem? (i := 74) rfl) rfl
theorem x_316 : (Jvm.Cond.instanceMethod y_R_descendTo) ∈ lw_ok := gd_in (List.mem_append_right _ <| List.mem_append_right _ <| List.mem_append_left _ <| List.mem_of_getElem? (i := 76) rfl) rfl
theorem x_317 : (Jvm.Cond.code y_R_descendTo prog_1_method_23_code (3 : Nat) (Option.none : Option Jvm.ClassFile.FieldType)) ∈ lw_ok := gd_in (List.mem_append_right _ <| List.mem_append_right _ <| List.mem_append_left _ <| List.mem_of_getElem? (i := 77) rfl) rfl
theorem x_318 : (Jvm.Cond.methodLink "LevelRows" (156 : Nat) y_P_split) ∈ lw_ok := gd_in (List.mem_append_right _ <| List.mem_append_right _ <| List.mem_append_left _ <| List.mem_of_getElem? (i := 78) rfl) rfl
theorem x_319 : (Jvm.Cond.instanceMethod y_P_split) ∈ lw_ok := gd_in (List.mem_append_right _ <| List.mem_append_right _ <| List.mem_append_left _ <| List.mem_of_getElem? (i := 79) rfl) rfl
theorem x_320 : (Jvm.Cond.selects "LevelRows$Part" y_P_split y_P_split) ∈ lw_ok := gd_in (List.mem_append_right _ <| List.mem_append_right _ <| List.mem_append_left _ <| List.mem_of_getElem? (i := 80) rfl) rfl
theorem x_321 : (Jvm.Cond.code y_P_split prog_3_method_4_code (2 : Nat) (Option.none : Option Jvm.ClassFile.FieldType)) ∈ lw_ok := gd_in (List.mem_append_right _ <| List.mem_append_right _ <| List.mem_append_left _ <| List.mem_of_getElem? (i := 81) rfl) rfl
theorem x_322 : (Jvm.Cond.methodLink "LevelRows$Part" (16 : Nat) y_L_zerosTo) ∈ lw_ok := gd_in (List.mem_append_right _ <| List.mem_append_right _ <| List.mem_append_left _ <| List.mem_of_getElem? (i := 82) rfl) rfl
theorem x_323 : (Jvm.Cond.methodLink "LevelRows" (160 : Nat) y_P_enter) ∈ lw_ok := gd_in (List.mem_append_right _ <| List.mem_append_right _ <| List.mem_append_left _ <| List.mem_of_getElem? (i := 83) rfl) rfl
theorem x_324 : (Jvm.Cond.instanceMethod y_P_enter) ∈ lw_ok := gd_in (List.mem_append_right _ <| List.mem_append_right _ <| List.mem_append_left _ <| List.mem_of_getElem? (i := 84) rfl) rfl
theorem x_325 : (Jvm.Cond.selects "LevelRows$Part" y_P_enter y_P_enter) ∈ lw_ok := gd_in (List.mem_append_right _ <| List.mem_append_right _ <| List.mem_append_left _ <| List.mem_of_getElem? (i := 85) rfl) rfl
theorem x_326 : (Jvm.Cond.code y_P_enter prog_3_method_6_code (2 : Nat) (Option.none : Option Jvm.ClassFile.FieldType)) ∈ lw_ok := gd_in (List.mem_append_right _ <| List.mem_append_right _ <| List.mem_append_left _ <| List.mem_of_getElem? (i := 86) rfl) rfl
theorem x_327 : (Jvm.Cond.methodLink "LevelRows" (106 : Nat) y_P_length) ∈ lw_ok := gd_in (List.mem_append_right _ <| List.mem_append_right _ <| List.mem_append_left _ <| List.mem_of_getElem? (i := 87) rfl) rfl
theorem x_328 : (Jvm.Cond.instanceMethod y_P_length) ∈ lw_ok := gd_in (List.mem_append_right _ <| List.mem_append_right _ <| List.mem_append_left _ <| List.mem_of_getElem? (i := 88) rfl) rfl
theorem x_329 : (Jvm.Cond.selects "LevelRows$Part" y_P_length y_P_length) ∈ lw_ok := gd_in (List.mem_append_right _ <| List.mem_append_right _ <| List.mem_append_left _ <| List.mem_of_getElem? (i := 89) rfl) rfl
theorem x_330 : (Jvm.Cond.code y_P_length prog_3_method_3_code (1 : Nat) (Option.some Jvm.ClassFile.FieldType.int)) ∈ lw_ok := gd_in (List.mem_append_right _ <| List.mem_append_right _ <| List.mem_append_left _ <| List.mem_of_getElem? (i := 90) rfl) rfl
theorem x_331 : (Jvm.Cond.methodLink "LevelRowsLaw" (85 : Nat) y_W_select) ∈ lw_ok := gd_in (List.mem_append_right _ <| List.mem_append_right _ <| List.mem_append_left _ <| List.mem_of_getElem? (i := 91) rfl) rfl
theorem x_332 : (Jvm.Cond.static y_W_select) ∈ lw_ok := gd_in (List.mem_append_right _ <| List.mem_append_right _ <| List.mem_append_left _ <| List.mem_of_getElem? (i := 92) rfl) rfl
theorem x_333 : (Jvm.Cond.codeWith y_W_select method_6_code (5 : Nat) (Option.some Jvm.ClassFile.FieldType.int) [((0 : Nat), (10 : Nat), (13 : Nat), (13 : Nat))]) ∈ lw_ok := gd_in (List.mem_append_right _ <| List.mem_append_right _ <| List.mem_append_left _ <| List.mem_of_getElem? (i := 93) rfl) rfl
theorem x_334 : (Jvm.Cond.methodLink "LevelRowsLaw" (27 : Nat) y_R_select) ∈ lw_ok := gd_in (List.mem_append_right _ <| List.mem_append_right _ <| List.mem_append_left _ <| List.mem_of_getElem? (i := 94) rfl) rfl
theorem x_335 : (Jvm.Cond.instanceMethod y_R_select) ∈ lw_ok := gd_in (List.mem_append_right _ <| List.mem_append_right _ <| List.mem_append_left _ <| List.mem_of_getElem? (i := 95) rfl) rfl
theorem x_336 : (Jvm.Cond.selects "LevelRows" y_R_select y_R_select) ∈ lw_ok := gd_in (List.mem_append_right _ <| List.mem_append_right _ <| List.mem_append_left _ <| List.mem_of_getElem? (i := 96) rfl) rfl
theorem x_337 : (Jvm.Cond.code y_R_select prog_1_method_6_code (3 : Nat) (Option.some Jvm.ClassFile.FieldType.int)) ∈ lw_ok := gd_in (List.mem_append_right _ <| List.mem_append_right _ <| List.mem_append_left _ <| List.mem_of_getElem? (i := 97) rfl) rfl
theorem x_338 : (Jvm.Cond.methodLink "LevelRows" (110 : Nat) y_R_checkNotNegative) ∈ lw_ok := gd_in (List.mem_append_right _ <| List.mem_append_right _ <| List.mem_append_left _ <| List.mem_of_getElem? (i := 98) rfl) rfl
theorem x_339 : (Jvm.Cond.static y_R_checkNotNegative) ∈ lw_ok := gd_in (List.mem_append_right _ <| List.mem_append_right _ <| List.mem_append_left _ <| List.mem_of_getElem? (i := 99) rfl) rfl
theorem x_340 : (Jvm.Cond.code y_R_checkNotNegative prog_1_method_18_code (1 : Nat) (Option.none : Option Jvm.ClassFile.FieldType)) ∈ lw_ok := gd_in (List.mem_append_right _ <| List.mem_append_right _ <| List.mem_append_left _ <| List.mem_of_getElem? (i := 100) rfl) rfl
theorem x_341 : (Jvm.Cond.stringRef "LevelRows" (140 : Nat) "k is below 0") ∈ lw_nw := nw_in (List.mem_append_right _ <| List.mem_append_right _ <| List.mem_append_left _ <| List.mem_of_getElem? (i := 101) rfl) rfl
theorem x_342 : (Jvm.Cond.methodLink "LevelRows" (116 : Nat) y_R_climbFrom) ∈ lw_ok := gd_in (List.mem_append_right _ <| List.mem_append_right _ <| List.mem_append_left _ <| List.mem_of_getElem? (i := 102) rfl) rfl
theorem x_344 : (Jvm.Cond.instanceMethod y_R_climbFrom) ∈ lw_ok := gd_in (List.mem_append_right _ <| List.mem_append_right _ <| List.mem_append_left _ <| List.mem_of_getElem? (i := 104) rfl) rfl
theorem x_345 : (Jvm.Cond.code y_R_climbFrom prog_1_method_24_code (4 : Nat) (Option.some Jvm.ClassFile.FieldType.int)) ∈ lw_ok := gd_in (List.mem_append_right _ <| List.mem_append_right _ <| List.mem_append_left _ <| List.mem_of_getElem? (i := 105) rfl) rfl
theorem x_346 : (Jvm.Cond.methodLink "LevelRows" (163 : Nat) y_L_placeAbove) ∈ lw_ok := gd_in (List.mem_append_right _ <| List.mem_append_right _ <| List.mem_append_left _ <| List.mem_of_getElem? (i := 106) rfl) rfl
theorem x_347 : (Jvm.Cond.instanceMethod y_L_placeAbove) ∈ lw_ok := gd_in (List.mem_append_right _ <| List.mem_append_right _ <| List.mem_append_left _ <| List.mem_of_getElem? (i := 107) rfl) rfl
theorem x_348 : (Jvm.Cond.selects "LevelRows$Level" y_L_placeAbove y_L_placeAbove) ∈ lw_ok := gd_in (List.mem_append_right _ <| List.mem_append_right _ <| List.mem_append_left _ <| List.mem_of_getElem? (i := 108) rfl) rfl
theorem x_349 : (Jvm.Cond.code y_L_placeAbove prog_2_method_7_code (8 : Nat) (Option.some Jvm.ClassFile.FieldType.int)) ∈ lw_ok := gd_in (List.mem_append_right _ <| List.mem_append_right _ <| List.mem_append_left _ <| List.mem_of_getElem? (i := 109) rfl) rfl
theorem x_350 : (Jvm.Cond.methodLink "LevelRows$Level" (48 : Nat) y_I_highestOneBit) ∈ lw_ok := gd_in (List.mem_append_right _ <| List.mem_append_right _ <| List.mem_append_left _ <| List.mem_of_getElem? (i := 110) rfl) rfl
theorem x_351 : (Jvm.Cond.static y_I_highestOneBit) ∈ lw_ok := gd_in (List.mem_append_right _ <| List.mem_append_right _ <| List.mem_append_left _ <| List.mem_of_getElem? (i := 111) rfl) rfl
theorem x_352 : (Jvm.Cond.code y_I_highestOneBit prog_9_method_45_code (1 : Nat) (Option.some Jvm.ClassFile.FieldType.int)) ∈ lw_ok := gd_in (List.mem_append_right _ <| List.mem_append_right _ <| List.mem_append_left _ <| List.mem_of_getElem? (i := 112) rfl) rfl
theorem x_353 : (Jvm.Cond.constant "java/lang/Integer" (127 : Nat) (-2147483648 : Int32)) ∈ lw_ok := gd_in (List.mem_append_right _ <| List.mem_append_right _ <| List.mem_append_left _ <| List.mem_of_getElem? (i := 113) rfl) rfl
theorem x_354 : (Jvm.Cond.methodLink "java/lang/Integer" (51 : Nat) y_I_numberOfLeadingZeros) ∈ lw_ok := gd_in (List.mem_append_right _ <| List.mem_append_right _ <| List.mem_append_left _ <| List.mem_of_getElem? (i := 114) rfl) rfl
theorem x_355 : (Jvm.Cond.methodLink "LevelRowsLaw" (88 : Nat) y_W_quantile) ∈ lw_ok := gd_in (List.mem_append_right _ <| List.mem_append_right _ <| List.mem_append_left _ <| List.mem_of_getElem? (i := 115) rfl) rfl
theorem x_356 : (Jvm.Cond.static y_W_quantile) ∈ lw_ok := gd_in (List.mem_append_right _ <| List.mem_append_right _ <| List.mem_append_left _ <| List.mem_of_getElem? (i := 116) rfl) rfl
theorem x_357 : (Jvm.Cond.codeWith y_W_quantile method_7_code (6 : Nat) (Option.some Jvm.ClassFile.FieldType.int) [((0 : Nat), (12 : Nat), (15 : Nat), (13 : Nat))]) ∈ lw_ok := gd_in (List.mem_append_right _ <| List.mem_append_right _ <| List.mem_append_left _ <| List.mem_of_getElem? (i := 117) rfl) rfl
theorem x_358 : (Jvm.Cond.methodLink "LevelRowsLaw" (30 : Nat) y_R_quantile) ∈ lw_ok := gd_in (List.mem_append_right _ <| List.mem_append_right _ <| List.mem_append_left _ <| List.mem_of_getElem? (i := 118) rfl) rfl
theorem x_359 : (Jvm.Cond.instanceMethod y_R_quantile) ∈ lw_ok := gd_in (List.mem_append_right _ <| List.mem_append_right _ <| List.mem_append_left _ <| List.mem_of_getElem? (i := 119) rfl) rfl
theorem x_360 : (Jvm.Cond.selects "LevelRows" y_R_quantile y_R_quantile) ∈ lw_ok := gd_in (List.mem_append_right _ <| List.mem_append_right _ <| List.mem_append_left _ <| List.mem_of_getElem? (i := 120) rfl) rfl
theorem x_361 : (Jvm.Cond.code y_R_quantile prog_1_method_7_code (4 : Nat) (Option.some Jvm.ClassFile.FieldType.int)) ∈ lw_ok := gd_in (List.mem_append_right _ <| List.mem_append_right _ <| List.mem_append_left _ <| List.mem_of_getElem? (i := 121) rfl) rfl
theorem x_362 : (Jvm.Cond.stringRef "LevelRows" (119 : Nat) "the part has not so many symbols") ∈ lw_nw := nw_in (List.mem_append_right _ <| List.mem_append_right _ <| List.mem_append_left _ <| List.mem_of_getElem? (i := 122) rfl) rfl
theorem x_363 : (Jvm.Cond.methodLink "LevelRows" (121 : Nat) y_R_kthLeast) ∈ lw_ok := gd_in (List.mem_append_right _ <| List.mem_append_right _ <| List.mem_append_left _ <| List.mem_of_getElem? (i := 123) rfl) rfl
theorem x_365 : (Jvm.Cond.instanceMethod y_R_kthLeast) ∈ lw_ok := gd_in (List.mem_append_right _ <| List.mem_append_right _ <| List.mem_append_left _ <| List.mem_of_getElem? (i := 125) rfl) rfl
theorem x_366 : (Jvm.Cond.code y_R_kthLeast prog_1_method_25_code (8 : Nat) (Option.some Jvm.ClassFile.FieldType.int)) ∈ lw_ok := gd_in (List.mem_append_right _ <| List.mem_append_right _ <| List.mem_append_left _ <| List.mem_of_getElem? (i := 126) rfl) rfl
theorem x_367 : (Jvm.Cond.methodLink "LevelRows" (166 : Nat) y_P_zeros) ∈ lw_ok := gd_in (List.mem_append_right _ <| List.mem_append_right _ <| List.mem_append_left _ <| List.mem_of_getElem? (i := 127) rfl) rfl
theorem x_368 : (Jvm.Cond.instanceMethod y_P_zeros) ∈ lw_ok := gd_in (List.mem_append_right _ <| List.mem_append_right _ <| List.mem_append_left _ <| List.mem_of_getElem? (i := 128) rfl) rfl
theorem x_369 : (Jvm.Cond.selects "LevelRows$Part" y_P_zeros y_P_zeros) ∈ lw_ok := gd_in (List.mem_append_right _ <| List.mem_append_right _ <| List.mem_append_left _ <| List.mem_of_getElem? (i := 129) rfl) rfl
theorem x_370 : (Jvm.Cond.code y_P_zeros prog_3_method_5_code (1 : Nat) (Option.some Jvm.ClassFile.FieldType.int)) ∈ lw_ok := gd_in (List.mem_append_right _ <| List.mem_append_right _ <| List.mem_append_left _ <| List.mem_of_getElem? (i := 130) rfl) rfl
theorem x_371 : (Jvm.Cond.methodLink "LevelRowsLaw" (92 : Nat) y_W_between) ∈ lw_ok := gd_in (List.mem_append_right _ <| List.mem_append_right _ <| List.mem_append_left _ <| List.mem_of_getElem? (i := 131) rfl) rfl
theorem x_372 : (Jvm.Cond.static y_W_between) ∈ lw_ok := gd_in (List.mem_append_right _ <| List.mem_append_right _ <| List.mem_append_left _ <| List.mem_of_getElem? (i := 132) rfl) rfl
theorem x_373 : (Jvm.Cond.codeWith y_W_between method_8_code (7 : Nat) (Option.some Jvm.ClassFile.FieldType.int) [((0 : Nat), (14 : Nat), (17 : Nat), (13 : Nat))]) ∈ lw_ok := gd_in (List.mem_append_right _ <| List.mem_append_right _ <| List.mem_append_left _ <| List.mem_of_getElem? (i := 133) rfl) rfl
theorem x_374 : (Jvm.Cond.methodLink "LevelRowsLaw" (34 : Nat) y_R_between) ∈ lw_ok := gd_in (List.mem_append_right _ <| List.mem_append_right _ <| List.mem_append_left _ <| List.mem_of_getElem? (i := 134) rfl) rfl
theorem x_375 : (Jvm.Cond.instanceMethod y_R_between) ∈ lw_ok := gd_in (List.mem_append_right _ <| List.mem_append_right _ <| List.mem_append_left _ <| List.mem_of_getElem? (i := 135) rfl) rfl
theorem x_376 : (Jvm.Cond.selects "LevelRows" y_R_between y_R_between) ∈ lw_ok := gd_in (List.mem_append_right _ <| List.mem_append_right _ <| List.mem_append_left _ <| List.mem_of_getElem? (i := 136) rfl) rfl
theorem x_377 : (Jvm.Cond.code y_R_between prog_1_method_8_code (5 : Nat) (Option.some Jvm.ClassFile.FieldType.int)) ∈ lw_ok := gd_in (List.mem_append_right _ <| List.mem_append_right _ <| List.mem_append_left _ <| List.mem_of_getElem? (i := 137) rfl) rfl
theorem x_378 : (Jvm.Cond.methodLink "LevelRows" (125 : Nat) y_R_howManyBelow) ∈ lw_ok := gd_in (List.mem_append_right _ <| List.mem_append_right _ <| List.mem_append_left _ <| List.mem_of_getElem? (i := 138) rfl) rfl
theorem x_380 : (Jvm.Cond.instanceMethod y_R_howManyBelow) ∈ lw_ok := gd_in (List.mem_append_right _ <| List.mem_append_right _ <| List.mem_append_left _ <| List.mem_of_getElem? (i := 140) rfl) rfl
theorem x_381 : (Jvm.Cond.code y_R_howManyBelow prog_1_method_26_code (7 : Nat) (Option.some Jvm.ClassFile.FieldType.int)) ∈ lw_ok := gd_in (List.mem_append_right _ <| List.mem_append_right _ <| List.mem_append_left _ <| List.mem_of_getElem? (i := 141) rfl) rfl
theorem x_382 : (Jvm.Cond.methodLink "LevelRowsLaw" (96 : Nat) y_W_below) ∈ lw_ok := gd_in (List.mem_append_right _ <| List.mem_append_right _ <| List.mem_append_left _ <| List.mem_of_getElem? (i := 142) rfl) rfl
theorem x_383 : (Jvm.Cond.static y_W_below) ∈ lw_ok := gd_in (List.mem_append_right _ <| List.mem_append_right _ <| List.mem_append_left _ <| List.mem_of_getElem? (i := 143) rfl) rfl
theorem x_384 : (Jvm.Cond.codeWith y_W_below method_9_code (6 : Nat) (Option.some Jvm.ClassFile.FieldType.int) [((0 : Nat), (12 : Nat), (15 : Nat), (13 : Nat))]) ∈ lw_ok := gd_in (List.mem_append_right _ <| List.mem_append_right _ <| List.mem_append_left _ <| List.mem_of_getElem? (i := 144) rfl) rfl
theorem x_385 : (Jvm.Cond.methodLink "LevelRowsLaw" (38 : Nat) y_R_below) ∈ lw_ok := gd_in (List.mem_append_right _ <| List.mem_append_right _ <| List.mem_append_left _ <| List.mem_of_getElem? (i := 145) rfl) rfl
theorem x_386 : (Jvm.Cond.instanceMethod y_R_below) ∈ lw_ok := gd_in (List.mem_append_right _ <| List.mem_append_right _ <| List.mem_append_left _ <| List.mem_of_getElem? (i := 146) rfl) rfl
theorem x_387 : (Jvm.Cond.selects "LevelRows" y_R_below y_R_below) ∈ lw_ok := gd_in (List.mem_append_right _ <| List.mem_append_right _ <| List.mem_append_left _ <| List.mem_of_getElem? (i := 147) rfl) rfl
theorem x_388 : (Jvm.Cond.code y_R_below prog_1_method_9_code (5 : Nat) (Option.some Jvm.ClassFile.FieldType.int)) ∈ lw_ok := gd_in (List.mem_append_right _ <| List.mem_append_right _ <| List.mem_append_left _ <| List.mem_of_getElem? (i := 148) rfl) rfl
theorem x_389 : (Jvm.Cond.methodLink "LevelRowsLaw" (99 : Nat) y_W_above) ∈ lw_ok := gd_in (List.mem_append_right _ <| List.mem_append_right _ <| List.mem_append_left _ <| List.mem_of_getElem? (i := 149) rfl) rfl
theorem x_390 : (Jvm.Cond.static y_W_above) ∈ lw_ok := gd_in (List.mem_append_right _ <| List.mem_append_right _ <| List.mem_append_left _ <| List.mem_of_getElem? (i := 150) rfl) rfl
theorem x_391 : (Jvm.Cond.codeWith y_W_above method_10_code (6 : Nat) (Option.some Jvm.ClassFile.FieldType.int) [((0 : Nat), (12 : Nat), (15 : Nat), (13 : Nat))]) ∈ lw_ok := gd_in (List.mem_append_right _ <| List.mem_append_right _ <| List.mem_append_left _ <| List.mem_of_getElem? (i := 151) rfl) rfl
theorem x_392 : (Jvm.Cond.methodLink "LevelRowsLaw" (41 : Nat) y_R_above) ∈ lw_ok := gd_in (List.mem_append_right _ <| List.mem_append_right _ <| List.mem_append_left _ <| List.mem_of_getElem? (i := 152) rfl) rfl
theorem x_393 : (Jvm.Cond.instanceMethod y_R_above) ∈ lw_ok := gd_in (List.mem_append_right _ <| List.mem_append_right _ <| List.mem_append_left _ <| List.mem_of_getElem? (i := 153) rfl) rfl
theorem x_394 : (Jvm.Cond.selects "LevelRows" y_R_above y_R_above) ∈ lw_ok := gd_in (List.mem_append_right _ <| List.mem_append_right _ <| List.mem_append_left _ <| List.mem_of_getElem? (i := 154) rfl) rfl
theorem x_395 : (Jvm.Cond.code y_R_above prog_1_method_10_code (5 : Nat) (Option.some Jvm.ClassFile.FieldType.int)) ∈ lw_ok := gd_in (List.mem_append_right _ <| List.mem_append_right _ <| List.mem_append_left _ <| List.mem_of_getElem? (i := 155) rfl) rfl
theorem x_396 : (Jvm.Cond.methodLink "LevelRowsLaw" (102 : Nat) y_W_different) ∈ lw_ok := gd_in (List.mem_append_right _ <| List.mem_append_right _ <| List.mem_append_left _ <| List.mem_of_getElem? (i := 156) rfl) rfl
theorem x_397 : (Jvm.Cond.static y_W_different) ∈ lw_ok := gd_in (List.mem_append_right _ <| List.mem_append_right _ <| List.mem_append_left _ <| List.mem_of_getElem? (i := 157) rfl) rfl
theorem x_398 : (Jvm.Cond.codeWith y_W_different method_11_code (5 : Nat) (Option.some Jvm.ClassFile.FieldType.int) [((0 : Nat), (10 : Nat), (13 : Nat), (13 : Nat))]) ∈ lw_ok := gd_in (List.mem_append_right _ <| List.mem_append_right _ <| List.mem_append_left _ <| List.mem_of_getElem? (i := 158) rfl) rfl
theorem x_399 : (Jvm.Cond.methodLink "LevelRowsLaw" (44 : Nat) y_R_different) ∈ lw_ok := gd_in (List.mem_append_right _ <| List.mem_append_right _ <| List.mem_append_left _ <| List.mem_of_getElem? (i := 159) rfl) rfl
theorem x_400 : (Jvm.Cond.instanceMethod y_R_different) ∈ lw_ok := gd_in (List.mem_append_right _ <| List.mem_append_right _ <| List.mem_append_left _ <| List.mem_of_getElem? (i := 160) rfl) rfl
theorem x_401 : (Jvm.Cond.selects "LevelRows" y_R_different y_R_different) ∈ lw_ok := gd_in (List.mem_append_right _ <| List.mem_append_right _ <| List.mem_append_left _ <| List.mem_of_getElem? (i := 161) rfl) rfl
theorem x_402 : (Jvm.Cond.code y_R_different prog_1_method_11_code (3 : Nat) (Option.some Jvm.ClassFile.FieldType.int)) ∈ lw_ok := gd_in (List.mem_append_right _ <| List.mem_append_right _ <| List.mem_append_left _ <| List.mem_of_getElem? (i := 162) rfl) rfl
theorem x_403 : (Jvm.Cond.methodLink "LevelRows" (128 : Nat) y_R_listSymbols) ∈ lw_ok := gd_in (List.mem_append_right _ <| List.mem_append_right _ <| List.mem_append_left _ <| List.mem_of_getElem? (i := 163) rfl) rfl
theorem x_405 : (Jvm.Cond.instanceMethod y_R_listSymbols) ∈ lw_ok := gd_in (List.mem_append_right _ <| List.mem_append_right _ <| List.mem_append_left _ <| List.mem_of_getElem? (i := 165) rfl) rfl
theorem x_406 : (Jvm.Cond.code y_R_listSymbols prog_1_method_27_code (5 : Nat) (Option.some Jvm.ClassFile.FieldType.int)) ∈ lw_ok := gd_in (List.mem_append_right _ <| List.mem_append_right _ <| List.mem_append_left _ <| List.mem_of_getElem? (i := 166) rfl) rfl
theorem x_407 : (Jvm.Cond.methodLink "LevelRowsLaw" (105 : Nat) y_W_frequent) ∈ lw_ok := gd_in (List.mem_append_right _ <| List.mem_append_right _ <| List.mem_append_left _ <| List.mem_of_getElem? (i := 167) rfl) rfl
theorem x_408 : (Jvm.Cond.static y_W_frequent) ∈ lw_ok := gd_in (List.mem_append_right _ <| List.mem_append_right _ <| List.mem_append_left _ <| List.mem_of_getElem? (i := 168) rfl) rfl
theorem x_409 : (Jvm.Cond.codeWith y_W_frequent method_12_code (6 : Nat) (Option.some Jvm.ClassFile.FieldType.int) [((0 : Nat), (12 : Nat), (15 : Nat), (13 : Nat))]) ∈ lw_ok := gd_in (List.mem_append_right _ <| List.mem_append_right _ <| List.mem_append_left _ <| List.mem_of_getElem? (i := 169) rfl) rfl
theorem x_410 : (Jvm.Cond.methodLink "LevelRowsLaw" (47 : Nat) y_R_frequent) ∈ lw_ok := gd_in (List.mem_append_right _ <| List.mem_append_right _ <| List.mem_append_left _ <| List.mem_of_getElem? (i := 170) rfl) rfl
theorem x_411 : (Jvm.Cond.instanceMethod y_R_frequent) ∈ lw_ok := gd_in (List.mem_append_right _ <| List.mem_append_right _ <| List.mem_append_left _ <| List.mem_of_getElem? (i := 171) rfl) rfl
theorem x_412 : (Jvm.Cond.selects "LevelRows" y_R_frequent y_R_frequent) ∈ lw_ok := gd_in (List.mem_append_right _ <| List.mem_append_right _ <| List.mem_append_left _ <| List.mem_of_getElem? (i := 172) rfl) rfl
theorem x_413 : (Jvm.Cond.code y_R_frequent prog_1_method_12_code (7 : Nat) (Option.some Jvm.ClassFile.FieldType.int)) ∈ lw_ok := gd_in (List.mem_append_right _ <| List.mem_append_right _ <| List.mem_append_left _ <| List.mem_of_getElem? (i := 173) rfl) rfl
theorem x_414 : (Jvm.Cond.methodLink "LevelRows" (131 : Nat) y_R_countAhead) ∈ lw_ok := gd_in (List.mem_append_right _ <| List.mem_append_right _ <| List.mem_append_left _ <| List.mem_of_getElem? (i := 174) rfl) rfl
theorem x_416 : (Jvm.Cond.instanceMethod y_R_countAhead) ∈ lw_ok := gd_in (List.mem_append_right _ <| List.mem_append_right _ <| List.mem_append_left _ <| List.mem_of_getElem? (i := 176) rfl) rfl
theorem x_417 : (Jvm.Cond.code y_R_countAhead prog_1_method_28_code (5 : Nat) (Option.none : Option Jvm.ClassFile.FieldType)) ∈ lw_ok := gd_in (List.mem_append_right _ <| List.mem_append_right _ <| List.mem_append_left _ <| List.mem_of_getElem? (i := 177) rfl) rfl
theorem x_418 : (Jvm.Cond.methodLink "LevelRows" (169 : Nat) y_A_fillI) ∈ lw_ok := gd_in (List.mem_append_right _ <| List.mem_append_right _ <| List.mem_append_left _ <| List.mem_of_getElem? (i := 178) rfl) rfl
theorem x_419 : (Jvm.Cond.static y_A_fillI) ∈ lw_ok := gd_in (List.mem_append_right _ <| List.mem_append_right _ <| List.mem_append_left _ <| List.mem_of_getElem? (i := 179) rfl) rfl
theorem x_420 : (Jvm.Cond.code y_A_fillI prog_17_method_103_code (4 : Nat) (Option.none : Option Jvm.ClassFile.FieldType)) ∈ lw_ok := gd_in (List.mem_append_right _ <| List.mem_append_right _ <| List.mem_append_left _ <| List.mem_of_getElem? (i := 180) rfl) rfl
theorem x_421 : (Jvm.Cond.methodLink "LevelRowsLaw" (112 : Nat) y_W_count) ∈ lw_ok := gd_in (List.mem_append_right _ <| List.mem_append_right _ <| List.mem_append_left _ <| List.mem_of_getElem? (i := 181) rfl) rfl
theorem x_422 : (Jvm.Cond.static y_W_count) ∈ lw_ok := gd_in (List.mem_append_right _ <| List.mem_append_right _ <| List.mem_append_left _ <| List.mem_of_getElem? (i := 182) rfl) rfl
theorem x_423 : (Jvm.Cond.codeWith y_W_count method_13_code (4 : Nat) (Option.some Jvm.ClassFile.FieldType.int) [((0 : Nat), (9 : Nat), (12 : Nat), (13 : Nat))]) ∈ lw_ok := gd_in (List.mem_append_right _ <| List.mem_append_right _ <| List.mem_append_left _ <| List.mem_of_getElem? (i := 183) rfl) rfl
theorem x_424 : (Jvm.Cond.methodLink "LevelRowsLaw" (50 : Nat) y_R_count) ∈ lw_ok := gd_in (List.mem_append_right _ <| List.mem_append_right _ <| List.mem_append_left _ <| List.mem_of_getElem? (i := 184) rfl) rfl
theorem x_425 : (Jvm.Cond.instanceMethod y_R_count) ∈ lw_ok := gd_in (List.mem_append_right _ <| List.mem_append_right _ <| List.mem_append_left _ <| List.mem_of_getElem? (i := 185) rfl) rfl
theorem x_426 : (Jvm.Cond.selects "LevelRows" y_R_count y_R_count) ∈ lw_ok := gd_in (List.mem_append_right _ <| List.mem_append_right _ <| List.mem_append_left _ <| List.mem_of_getElem? (i := 186) rfl) rfl
theorem x_427 : (Jvm.Cond.code y_R_count prog_1_method_14_code (2 : Nat) (Option.some Jvm.ClassFile.FieldType.int)) ∈ lw_ok := gd_in (List.mem_append_right _ <| List.mem_append_right _ <| List.mem_append_left _ <| List.mem_of_getElem? (i := 187) rfl) rfl
theorem x_428 : (Jvm.Cond.stringRef "LevelRows" (134 : Nat) "no such what") ∈ lw_nw := nw_in (List.mem_append_right _ <| List.mem_append_right _ <| List.mem_append_left _ <| List.mem_of_getElem? (i := 188) rfl) rfl
theorem x_429 : (Jvm.Cond.classLink "LevelRowsLaw" (62 : Nat) "LevelRowsModel") ∈ lw_ok := gd_in (List.mem_append_right _ <| List.mem_append_right _ <| List.mem_append_left _ <| List.mem_of_getElem? (i := 189) rfl) rfl
theorem x_430 : (Jvm.Cond.instantiable "LevelRowsModel" (7 : Nat)) ∈ lw_ok := gd_in (List.mem_append_right _ <| List.mem_append_right _ <| List.mem_append_left _ <| List.mem_of_getElem? (i := 190) rfl) rfl
theorem x_431 : (Jvm.Cond.methodLink "LevelRowsLaw" (64 : Nat) y_M_init) ∈ lw_ok := gd_in (List.mem_append_right _ <| List.mem_append_right _ <| List.mem_append_left _ <| List.mem_of_getElem? (i := 191) rfl) rfl
theorem x_432 : (Jvm.Cond.instanceMethod y_M_init) ∈ lw_ok := gd_in (List.mem_append_right _ <| List.mem_append_right _ <| List.mem_append_left _ <| List.mem_of_getElem? (i := 192) rfl) rfl
theorem x_433 : (Jvm.Cond.code y_M_init prog_5_method_1_code (2 : Nat) (Option.none : Option Jvm.ClassFile.FieldType)) ∈ lw_ok := gd_in (List.mem_append_right _ <| List.mem_append_right _ <| List.mem_append_left _ <| List.mem_of_getElem? (i := 193) rfl) rfl
theorem x_434 : (Jvm.Cond.methodLink "LevelRowsModel" (1 : Nat) ({ cls := "java/lang/Object", name := "<init>", desc := "()V" } : Jvm.MethodName)) ∈ lw_ok := gd_in (List.mem_append_right _ <| List.mem_append_right _ <| List.mem_append_left _ <| List.mem_of_getElem? (i := 194) rfl) rfl
theorem x_435 : (Jvm.Cond.constant "LevelRowsModel" (19 : Nat) (65536 : Int32)) ∈ lw_ok := gd_in (List.mem_append_right _ <| List.mem_append_right _ <| List.mem_append_left _ <| List.mem_of_getElem? (i := 195) rfl) rfl
theorem x_436 : (Jvm.Cond.fieldLink "LevelRowsModel" (24 : Nat) "LevelRowsModel" "thrown" "I") ∈ lw_ok := gd_in (List.mem_append_right _ <| List.mem_append_right _ <| List.mem_append_left _ <| List.mem_of_getElem? (i := 196) rfl) rfl
theorem x_437 : (Jvm.Cond.fieldLink "LevelRowsModel" (20 : Nat) "LevelRowsModel" "sigma" "I") ∈ lw_ok := gd_in (List.mem_append_right _ <| List.mem_append_right _ <| List.mem_append_left _ <| List.mem_of_getElem? (i := 197) rfl) rfl
theorem x_438 : (Jvm.Cond.fieldLink "LevelRowsModel" (7 : Nat) "LevelRowsModel" "row" "[I") ∈ lw_ok := gd_in (List.mem_append_right _ <| List.mem_append_right _ <| List.mem_append_left _ <| List.mem_of_getElem? (i := 198) rfl) rfl
theorem x_439 : (Jvm.Cond.fieldLink "LevelRowsModel" (35 : Nat) "LevelRowsModel" "built" "I") ∈ lw_ok := gd_in (List.mem_append_right _ <| List.mem_append_right _ <| List.mem_append_left _ <| List.mem_of_getElem? (i := 199) rfl) rfl
theorem x_440 : (Jvm.Cond.fieldLink "LevelRowsModel" (32 : Nat) "LevelRowsModel" "all" "I") ∈ lw_ok := gd_in (List.mem_append_right _ <| List.mem_append_right _ <| List.mem_append_left _ <| List.mem_of_getElem? (i := 200) rfl) rfl
theorem x_441 : (Jvm.Cond.fieldLink "LevelRowsModel" (13 : Nat) "LevelRowsModel" "symbols" "[I") ∈ lw_ok := gd_in (List.mem_append_right _ <| List.mem_append_right _ <| List.mem_append_left _ <| List.mem_of_getElem? (i := 201) rfl) rfl
theorem x_442 : (Jvm.Cond.fieldLink "LevelRowsModel" (16 : Nat) "LevelRowsModel" "often" "[I") ∈ lw_ok := gd_in (List.mem_append_right _ <| List.mem_append_right _ <| List.mem_append_left _ <| List.mem_of_getElem? (i := 202) rfl) rfl
theorem x_457 : (Jvm.Cond.superclass "LevelRowsModel" "java/lang/Object") ∈ lw_ok := gd_in (List.mem_append_right _ <| List.mem_append_right _ <| List.mem_append_left _ <| List.mem_of_getElem? (i := 217) rfl) rfl
theorem x_458 : (Jvm.Cond.methodLink "LevelRowsLaw" (69 : Nat) y_M_thrown) ∈ lw_ok := gd_in (List.mem_append_right _ <| List.mem_append_right _ <| List.mem_append_left _ <| List.mem_of_getElem? (i := 218) rfl) rfl
theorem x_459 : (Jvm.Cond.instanceMethod y_M_thrown) ∈ lw_ok := gd_in (List.mem_append_right _ <| List.mem_append_right _ <| List.mem_append_left _ <| List.mem_of_getElem? (i := 219) rfl) rfl
theorem x_460 : (Jvm.Cond.selects "LevelRowsModel" y_M_thrown y_M_thrown) ∈ lw_ok := gd_in (List.mem_append_right _ <| List.mem_append_right _ <| List.mem_append_left _ <| List.mem_of_getElem? (i := 220) rfl) rfl
theorem x_461 : (Jvm.Cond.code y_M_thrown prog_5_method_2_code (1 : Nat) (Option.some Jvm.ClassFile.FieldType.int)) ∈ lw_ok := gd_in (List.mem_append_right _ <| List.mem_append_right _ <| List.mem_append_left _ <| List.mem_of_getElem? (i := 221) rfl) rfl
theorem x_462 : (Jvm.Cond.methodLink "LevelRowsLaw" (68 : Nat) y_M_put) ∈ lw_ok := gd_in (List.mem_append_right _ <| List.mem_append_right _ <| List.mem_append_left _ <| List.mem_of_getElem? (i := 222) rfl) rfl
theorem x_463 : (Jvm.Cond.instanceMethod y_M_put) ∈ lw_ok := gd_in (List.mem_append_right _ <| List.mem_append_right _ <| List.mem_append_left _ <| List.mem_of_getElem? (i := 223) rfl) rfl
theorem x_464 : (Jvm.Cond.selects "LevelRowsModel" y_M_put y_M_put) ∈ lw_ok := gd_in (List.mem_append_right _ <| List.mem_append_right _ <| List.mem_append_left _ <| List.mem_of_getElem? (i := 224) rfl) rfl
theorem x_465 : (Jvm.Cond.code y_M_put prog_5_method_4_code (9 : Nat) (Option.some Jvm.ClassFile.FieldType.int)) ∈ lw_ok := gd_in (List.mem_append_right _ <| List.mem_append_right _ <| List.mem_append_left _ <| List.mem_of_getElem? (i := 225) rfl) rfl
theorem x_466 : (Jvm.Cond.methodLink "LevelRowsModel" (28 : Nat) y_M_given) ∈ lw_ok := gd_in (List.mem_append_right _ <| List.mem_append_right _ <| List.mem_append_left _ <| List.mem_of_getElem? (i := 226) rfl) rfl
theorem x_467 : (Jvm.Cond.static y_M_given) ∈ lw_ok := gd_in (List.mem_append_right _ <| List.mem_append_right _ <| List.mem_append_left _ <| List.mem_of_getElem? (i := 227) rfl) rfl
theorem x_468 : (Jvm.Cond.code y_M_given prog_5_method_3_code (7 : Nat) (Option.some Jvm.ClassFile.FieldType.int)) ∈ lw_ok := gd_in (List.mem_append_right _ <| List.mem_append_right _ <| List.mem_append_left _ <| List.mem_of_getElem? (i := 228) rfl) rfl
theorem x_469 : (Jvm.Cond.constant "LevelRowsModel" (27 : Nat) (65535 : Int32)) ∈ lw_ok := gd_in (List.mem_append_right _ <| List.mem_append_right _ <| List.mem_append_left _ <| List.mem_of_getElem? (i := 229) rfl) rfl
theorem x_470 : (Jvm.Cond.methodLink "LevelRowsLaw" (76 : Nat) y_M_build) ∈ lw_ok := gd_in (List.mem_append_right _ <| List.mem_append_right _ <| List.mem_append_left _ <| List.mem_of_getElem? (i := 230) rfl) rfl
theorem x_471 : (Jvm.Cond.instanceMethod y_M_build) ∈ lw_ok := gd_in (List.mem_append_right _ <| List.mem_append_right _ <| List.mem_append_left _ <| List.mem_of_getElem? (i := 231) rfl) rfl
theorem x_472 : (Jvm.Cond.selects "LevelRowsModel" y_M_build y_M_build) ∈ lw_ok := gd_in (List.mem_append_right _ <| List.mem_append_right _ <| List.mem_append_left _ <| List.mem_of_getElem? (i := 232) rfl) rfl
theorem x_473 : (Jvm.Cond.code y_M_build prog_5_method_5_code (1 : Nat) (Option.some Jvm.ClassFile.FieldType.int)) ∈ lw_ok := gd_in (List.mem_append_right _ <| List.mem_append_right _ <| List.mem_append_left _ <| List.mem_of_getElem? (i := 233) rfl) rfl
theorem x_474 : (Jvm.Cond.methodLink "LevelRowsLaw" (118 : Nat) y_M_clear) ∈ lw_ok := gd_in (List.mem_append_right _ <| List.mem_append_right _ <| List.mem_append_left _ <| List.mem_of_getElem? (i := 234) rfl) rfl
theorem x_475 : (Jvm.Cond.instanceMethod y_M_clear) ∈ lw_ok := gd_in (List.mem_append_right _ <| List.mem_append_right _ <| List.mem_append_left _ <| List.mem_of_getElem? (i := 235) rfl) rfl
theorem x_476 : (Jvm.Cond.selects "LevelRowsModel" y_M_clear y_M_clear) ∈ lw_ok := gd_in (List.mem_append_right _ <| List.mem_append_right _ <| List.mem_append_left _ <| List.mem_of_getElem? (i := 236) rfl) rfl
theorem x_477 : (Jvm.Cond.code y_M_clear prog_5_method_6_code (1 : Nat) (Option.none : Option Jvm.ClassFile.FieldType)) ∈ lw_ok := gd_in (List.mem_append_right _ <| List.mem_append_right _ <| List.mem_append_left _ <| List.mem_of_getElem? (i := 237) rfl) rfl
theorem x_478 : (Jvm.Cond.methodLink "LevelRowsLaw" (80 : Nat) y_M_at) ∈ lw_ok := gd_in (List.mem_append_right _ <| List.mem_append_right _ <| List.mem_append_left _ <| List.mem_of_getElem? (i := 238) rfl) rfl
theorem x_479 : (Jvm.Cond.instanceMethod y_M_at) ∈ lw_ok := gd_in (List.mem_append_right _ <| List.mem_append_right _ <| List.mem_append_left _ <| List.mem_of_getElem? (i := 239) rfl) rfl
theorem x_480 : (Jvm.Cond.selects "LevelRowsModel" y_M_at y_M_at) ∈ lw_ok := gd_in (List.mem_append_right _ <| List.mem_append_right _ <| List.mem_append_right _ <| List.mem_of_getElem? (i := 0) rfl) rfl
theorem x_481 : (Jvm.Cond.code y_M_at prog_5_method_7_code (2 : Nat) (Option.some Jvm.ClassFile.FieldType.int)) ∈ lw_ok := gd_in (List.mem_append_right _ <| List.mem_append_right _ <| List.mem_append_right _ <| List.mem_of_getElem? (i := 1) rfl) rfl
theorem x_482 : (Jvm.Cond.methodLink "LevelRowsLaw" (84 : Nat) y_M_rank) ∈ lw_ok := gd_in (List.mem_append_right _ <| List.mem_append_right _ <| List.mem_append_right _ <| List.mem_of_getElem? (i := 2) rfl) rfl
theorem x_483 : (Jvm.Cond.instanceMethod y_M_rank) ∈ lw_ok := gd_in (List.mem_append_right _ <| List.mem_append_right _ <| List.mem_append_right _ <| List.mem_of_getElem? (i := 3) rfl) rfl
theorem x_484 : (Jvm.Cond.selects "LevelRowsModel" y_M_rank y_M_rank) ∈ lw_ok := gd_in (List.mem_append_right _ <| List.mem_append_right _ <| List.mem_append_right _ <| List.mem_of_getElem? (i := 4) rfl) rfl
theorem x_485 : (Jvm.Cond.code y_M_rank prog_5_method_10_code (5 : Nat) (Option.some Jvm.ClassFile.FieldType.int)) ∈ lw_ok := gd_in (List.mem_append_right _ <| List.mem_append_right _ <| List.mem_append_right _ <| List.mem_of_getElem? (i := 5) rfl) rfl
theorem x_486 : (Jvm.Cond.methodLink "LevelRowsModel" (38 : Nat) y_M_isSymbol) ∈ lw_ok := gd_in (List.mem_append_right _ <| List.mem_append_right _ <| List.mem_append_right _ <| List.mem_of_getElem? (i := 6) rfl) rfl
theorem x_488 : (Jvm.Cond.instanceMethod y_M_isSymbol) ∈ lw_ok := gd_in (List.mem_append_right _ <| List.mem_append_right _ <| List.mem_append_right _ <| List.mem_of_getElem? (i := 8) rfl) rfl
theorem x_489 : (Jvm.Cond.code y_M_isSymbol prog_5_method_8_code (2 : Nat) (Option.some Jvm.ClassFile.FieldType.boolean)) ∈ lw_ok := gd_in (List.mem_append_right _ <| List.mem_append_right _ <| List.mem_append_right _ <| List.mem_of_getElem? (i := 9) rfl) rfl
theorem x_490 : (Jvm.Cond.methodLink "LevelRowsLaw" (87 : Nat) y_M_select) ∈ lw_ok := gd_in (List.mem_append_right _ <| List.mem_append_right _ <| List.mem_append_right _ <| List.mem_of_getElem? (i := 10) rfl) rfl
theorem x_491 : (Jvm.Cond.instanceMethod y_M_select) ∈ lw_ok := gd_in (List.mem_append_right _ <| List.mem_append_right _ <| List.mem_append_right _ <| List.mem_of_getElem? (i := 11) rfl) rfl
theorem x_492 : (Jvm.Cond.selects "LevelRowsModel" y_M_select y_M_select) ∈ lw_ok := gd_in (List.mem_append_right _ <| List.mem_append_right _ <| List.mem_append_right _ <| List.mem_of_getElem? (i := 12) rfl) rfl
theorem x_493 : (Jvm.Cond.code y_M_select prog_5_method_11_code (5 : Nat) (Option.some Jvm.ClassFile.FieldType.int)) ∈ lw_ok := gd_in (List.mem_append_right _ <| List.mem_append_right _ <| List.mem_append_right _ <| List.mem_of_getElem? (i := 13) rfl) rfl
theorem x_494 : (Jvm.Cond.methodLink "LevelRowsLaw" (91 : Nat) y_M_quantile) ∈ lw_ok := gd_in (List.mem_append_right _ <| List.mem_append_right _ <| List.mem_append_right _ <| List.mem_of_getElem? (i := 14) rfl) rfl
theorem x_495 : (Jvm.Cond.instanceMethod y_M_quantile) ∈ lw_ok := gd_in (List.mem_append_right _ <| List.mem_append_right _ <| List.mem_append_right _ <| List.mem_of_getElem? (i := 15) rfl) rfl
theorem x_496 : (Jvm.Cond.selects "LevelRowsModel" y_M_quantile y_M_quantile) ∈ lw_ok := gd_in (List.mem_append_right _ <| List.mem_append_right _ <| List.mem_append_right _ <| List.mem_of_getElem? (i := 16) rfl) rfl
theorem x_497 : (Jvm.Cond.code y_M_quantile prog_5_method_13_code (6 : Nat) (Option.some Jvm.ClassFile.FieldType.int)) ∈ lw_ok := gd_in (List.mem_append_right _ <| List.mem_append_right _ <| List.mem_append_right _ <| List.mem_of_getElem? (i := 17) rfl) rfl
theorem x_498 : (Jvm.Cond.methodLink "LevelRowsModel" (42 : Nat) y_M_isPart) ∈ lw_ok := gd_in (List.mem_append_right _ <| List.mem_append_right _ <| List.mem_append_right _ <| List.mem_of_getElem? (i := 18) rfl) rfl
theorem x_500 : (Jvm.Cond.instanceMethod y_M_isPart) ∈ lw_ok := gd_in (List.mem_append_right _ <| List.mem_append_right _ <| List.mem_append_right _ <| List.mem_of_getElem? (i := 20) rfl) rfl
theorem x_501 : (Jvm.Cond.code y_M_isPart prog_5_method_9_code (3 : Nat) (Option.some Jvm.ClassFile.FieldType.boolean)) ∈ lw_ok := gd_in (List.mem_append_right _ <| List.mem_append_right _ <| List.mem_append_right _ <| List.mem_of_getElem? (i := 21) rfl) rfl
theorem x_502 : (Jvm.Cond.methodLink "LevelRowsModel" (46 : Nat) y_M_gather) ∈ lw_ok := gd_in (List.mem_append_right _ <| List.mem_append_right _ <| List.mem_append_right _ <| List.mem_of_getElem? (i := 22) rfl) rfl
theorem x_504 : (Jvm.Cond.instanceMethod y_M_gather) ∈ lw_ok := gd_in (List.mem_append_right _ <| List.mem_append_right _ <| List.mem_append_right _ <| List.mem_of_getElem? (i := 24) rfl) rfl
theorem x_505 : (Jvm.Cond.code y_M_gather prog_5_method_12_code (7 : Nat) (Option.some Jvm.ClassFile.FieldType.int)) ∈ lw_ok := gd_in (List.mem_append_right _ <| List.mem_append_right _ <| List.mem_append_right _ <| List.mem_of_getElem? (i := 25) rfl) rfl
theorem x_506 : (Jvm.Cond.methodLink "LevelRowsLaw" (95 : Nat) y_M_between) ∈ lw_ok := gd_in (List.mem_append_right _ <| List.mem_append_right _ <| List.mem_append_right _ <| List.mem_of_getElem? (i := 26) rfl) rfl
theorem x_507 : (Jvm.Cond.instanceMethod y_M_between) ∈ lw_ok := gd_in (List.mem_append_right _ <| List.mem_append_right _ <| List.mem_append_right _ <| List.mem_of_getElem? (i := 27) rfl) rfl
theorem x_508 : (Jvm.Cond.selects "LevelRowsModel" y_M_between y_M_between) ∈ lw_ok := gd_in (List.mem_append_right _ <| List.mem_append_right _ <| List.mem_append_right _ <| List.mem_of_getElem? (i := 28) rfl) rfl
theorem x_509 : (Jvm.Cond.code y_M_between prog_5_method_14_code (7 : Nat) (Option.some Jvm.ClassFile.FieldType.int)) ∈ lw_ok := gd_in (List.mem_append_right _ <| List.mem_append_right _ <| List.mem_append_right _ <| List.mem_of_getElem? (i := 29) rfl) rfl
theorem x_510 : (Jvm.Cond.methodLink "LevelRowsLaw" (98 : Nat) y_M_below) ∈ lw_ok := gd_in (List.mem_append_right _ <| List.mem_append_right _ <| List.mem_append_right _ <| List.mem_of_getElem? (i := 30) rfl) rfl
theorem x_511 : (Jvm.Cond.instanceMethod y_M_below) ∈ lw_ok := gd_in (List.mem_append_right _ <| List.mem_append_right _ <| List.mem_append_right _ <| List.mem_of_getElem? (i := 31) rfl) rfl
theorem x_512 : (Jvm.Cond.selects "LevelRowsModel" y_M_below y_M_below) ∈ lw_ok := gd_in (List.mem_append_right _ <| List.mem_append_right _ <| List.mem_append_right _ <| List.mem_of_getElem? (i := 32) rfl) rfl
theorem x_513 : (Jvm.Cond.code y_M_below prog_5_method_15_code (6 : Nat) (Option.some Jvm.ClassFile.FieldType.int)) ∈ lw_ok := gd_in (List.mem_append_right _ <| List.mem_append_right _ <| List.mem_append_right _ <| List.mem_of_getElem? (i := 33) rfl) rfl
theorem x_514 : (Jvm.Cond.methodLink "LevelRowsLaw" (101 : Nat) y_M_above) ∈ lw_ok := gd_in (List.mem_append_right _ <| List.mem_append_right _ <| List.mem_append_right _ <| List.mem_of_getElem? (i := 34) rfl) rfl
theorem x_515 : (Jvm.Cond.instanceMethod y_M_above) ∈ lw_ok := gd_in (List.mem_append_right _ <| List.mem_append_right _ <| List.mem_append_right _ <| List.mem_of_getElem? (i := 35) rfl) rfl
theorem x_516 : (Jvm.Cond.selects "LevelRowsModel" y_M_above y_M_above) ∈ lw_ok := gd_in (List.mem_append_right _ <| List.mem_append_right _ <| List.mem_append_right _ <| List.mem_of_getElem? (i := 36) rfl) rfl
theorem x_517 : (Jvm.Cond.code y_M_above prog_5_method_16_code (6 : Nat) (Option.some Jvm.ClassFile.FieldType.int)) ∈ lw_ok := gd_in (List.mem_append_right _ <| List.mem_append_right _ <| List.mem_append_right _ <| List.mem_of_getElem? (i := 37) rfl) rfl
theorem x_518 : (Jvm.Cond.methodLink "LevelRowsLaw" (104 : Nat) y_M_different) ∈ lw_ok := gd_in (List.mem_append_right _ <| List.mem_append_right _ <| List.mem_append_right _ <| List.mem_of_getElem? (i := 38) rfl) rfl
theorem x_519 : (Jvm.Cond.instanceMethod y_M_different) ∈ lw_ok := gd_in (List.mem_append_right _ <| List.mem_append_right _ <| List.mem_append_right _ <| List.mem_of_getElem? (i := 39) rfl) rfl
theorem x_520 : (Jvm.Cond.selects "LevelRowsModel" y_M_different y_M_different) ∈ lw_ok := gd_in (List.mem_append_right _ <| List.mem_append_right _ <| List.mem_append_right _ <| List.mem_of_getElem? (i := 40) rfl) rfl
theorem x_521 : (Jvm.Cond.code y_M_different prog_5_method_17_code (3 : Nat) (Option.some Jvm.ClassFile.FieldType.int)) ∈ lw_ok := gd_in (List.mem_append_right _ <| List.mem_append_right _ <| List.mem_append_right _ <| List.mem_of_getElem? (i := 41) rfl) rfl
theorem x_522 : (Jvm.Cond.methodLink "LevelRowsLaw" (107 : Nat) y_M_frequent) ∈ lw_ok := gd_in (List.mem_append_right _ <| List.mem_append_right _ <| List.mem_append_right _ <| List.mem_of_getElem? (i := 42) rfl) rfl
theorem x_523 : (Jvm.Cond.instanceMethod y_M_frequent) ∈ lw_ok := gd_in (List.mem_append_right _ <| List.mem_append_right _ <| List.mem_append_right _ <| List.mem_of_getElem? (i := 43) rfl) rfl
theorem x_524 : (Jvm.Cond.selects "LevelRowsModel" y_M_frequent y_M_frequent) ∈ lw_ok := gd_in (List.mem_append_right _ <| List.mem_append_right _ <| List.mem_append_right _ <| List.mem_of_getElem? (i := 44) rfl) rfl
theorem x_525 : (Jvm.Cond.code y_M_frequent prog_5_method_18_code (8 : Nat) (Option.some Jvm.ClassFile.FieldType.int)) ∈ lw_ok := gd_in (List.mem_append_right _ <| List.mem_append_right _ <| List.mem_append_right _ <| List.mem_of_getElem? (i := 45) rfl) rfl
theorem x_526 : (Jvm.Cond.methodLink "LevelRowsLaw" (111 : Nat) y_M_bits) ∈ lw_ok := gd_in (List.mem_append_right _ <| List.mem_append_right _ <| List.mem_append_right _ <| List.mem_of_getElem? (i := 46) rfl) rfl
theorem x_527 : (Jvm.Cond.instanceMethod y_M_bits) ∈ lw_ok := gd_in (List.mem_append_right _ <| List.mem_append_right _ <| List.mem_append_right _ <| List.mem_of_getElem? (i := 47) rfl) rfl
theorem x_528 : (Jvm.Cond.selects "LevelRowsModel" y_M_bits y_M_bits) ∈ lw_ok := gd_in (List.mem_append_right _ <| List.mem_append_right _ <| List.mem_append_right _ <| List.mem_of_getElem? (i := 48) rfl) rfl
theorem x_529 : (Jvm.Cond.code y_M_bits prog_5_method_20_code (1 : Nat) (Option.some Jvm.ClassFile.FieldType.int)) ∈ lw_ok := gd_in (List.mem_append_right _ <| List.mem_append_right _ <| List.mem_append_right _ <| List.mem_of_getElem? (i := 49) rfl) rfl
theorem x_530 : (Jvm.Cond.methodLink "LevelRowsModel" (50 : Nat) y_M_levels) ∈ lw_ok := gd_in (List.mem_append_right _ <| List.mem_append_right _ <| List.mem_append_right _ <| List.mem_of_getElem? (i := 50) rfl) rfl
theorem x_532 : (Jvm.Cond.instanceMethod y_M_levels) ∈ lw_ok := gd_in (List.mem_append_right _ <| List.mem_append_right _ <| List.mem_append_right _ <| List.mem_of_getElem? (i := 52) rfl) rfl
theorem x_533 : (Jvm.Cond.code y_M_levels prog_5_method_19_code (2 : Nat) (Option.some Jvm.ClassFile.FieldType.int)) ∈ lw_ok := gd_in (List.mem_append_right _ <| List.mem_append_right _ <| List.mem_append_right _ <| List.mem_of_getElem? (i := 53) rfl) rfl
theorem x_534 : (Jvm.Cond.methodLink "LevelRowsLaw" (114 : Nat) y_M_count) ∈ lw_ok := gd_in (List.mem_append_right _ <| List.mem_append_right _ <| List.mem_append_right _ <| List.mem_of_getElem? (i := 54) rfl) rfl
theorem x_535 : (Jvm.Cond.instanceMethod y_M_count) ∈ lw_ok := gd_in (List.mem_append_right _ <| List.mem_append_right _ <| List.mem_append_right _ <| List.mem_of_getElem? (i := 55) rfl) rfl
theorem x_536 : (Jvm.Cond.selects "LevelRowsModel" y_M_count y_M_count) ∈ lw_ok := gd_in (List.mem_append_right _ <| List.mem_append_right _ <| List.mem_append_right _ <| List.mem_of_getElem? (i := 56) rfl) rfl
theorem x_537 : (Jvm.Cond.code y_M_count prog_5_method_21_code (2 : Nat) (Option.some Jvm.ClassFile.FieldType.int)) ∈ lw_ok := gd_in (List.mem_append_right _ <| List.mem_append_right _ <| List.mem_append_right _ <| List.mem_of_getElem? (i := 57) rfl) rfl
theorem x_538 : (Jvm.Cond.sameMethod "java/lang/Throwable" "java/lang/Throwable" "fillInStackTrace" "(I)Ljava/lang/Throwable;") ∈ lw_ok := gd_in (List.mem_append_right _ <| List.mem_append_right _ <| List.mem_append_right _ <| List.mem_of_getElem? (i := 58) rfl) rfl
theorem s_R_symbolAt : Cond.selects "LevelRows" y_R_symbolAt y_R_symbolAt ∈ lw_ok := gd_in (List.mem_append_left _ <| List.mem_of_getElem? (i := 0) rfl) rfl
theorem s_L_onesTo : Cond.selects "LevelRows$Level" y_L_onesTo y_L_onesTo ∈ lw_ok := gd_in (List.mem_append_left _ <| List.mem_of_getElem? (i := 1) rfl) rfl
theorem s_R_storeLevels : Cond.selects "LevelRows" y_R_storeLevels y_R_storeLevels ∈ lw_ok := gd_in (List.mem_append_left _ <| List.mem_of_getElem? (i := 2) rfl) rfl
theorem s_R_shiftOf : Cond.selects "LevelRows" y_R_shiftOf y_R_shiftOf ∈ lw_ok := gd_in (List.mem_append_left _ <| List.mem_of_getElem? (i := 3) rfl) rfl
theorem s_R_checkSymbol : Cond.selects "LevelRows" y_R_checkSymbol y_R_checkSymbol ∈ lw_ok := gd_in (List.mem_append_left _ <| List.mem_of_getElem? (i := 4) rfl) rfl
theorem s_R_checkPart : Cond.selects "LevelRows" y_R_checkPart y_R_checkPart ∈ lw_ok := gd_in (List.mem_append_left _ <| List.mem_of_getElem? (i := 6) rfl) rfl
theorem s_R_descendTo : Cond.selects "LevelRows" y_R_descendTo y_R_descendTo ∈ lw_ok := gd_in (List.mem_append_left _ <| List.mem_of_getElem? (i := 7) rfl) rfl
theorem s_R_climbFrom : Cond.selects "LevelRows" y_R_climbFrom y_R_climbFrom ∈ lw_ok := gd_in (List.mem_append_left _ <| List.mem_of_getElem? (i := 8) rfl) rfl
theorem s_R_kthLeast : Cond.selects "LevelRows" y_R_kthLeast y_R_kthLeast ∈ lw_ok := gd_in (List.mem_append_left _ <| List.mem_of_getElem? (i := 9) rfl) rfl
theorem s_R_howManyBelow : Cond.selects "LevelRows" y_R_howManyBelow y_R_howManyBelow ∈ lw_ok := gd_in (List.mem_append_left _ <| List.mem_of_getElem? (i := 10) rfl) rfl
theorem s_R_listSymbols : Cond.selects "LevelRows" y_R_listSymbols y_R_listSymbols ∈ lw_ok := gd_in (List.mem_append_left _ <| List.mem_of_getElem? (i := 11) rfl) rfl
theorem s_R_countAhead : Cond.selects "LevelRows" y_R_countAhead y_R_countAhead ∈ lw_ok := gd_in (List.mem_append_left _ <| List.mem_of_getElem? (i := 12) rfl) rfl
theorem s_M_isSymbol : Cond.selects "LevelRowsModel" y_M_isSymbol y_M_isSymbol ∈ lw_ok := gd_in (List.mem_append_left _ <| List.mem_of_getElem? (i := 13) rfl) rfl
theorem s_M_isPart : Cond.selects "LevelRowsModel" y_M_isPart y_M_isPart ∈ lw_ok := gd_in (List.mem_append_left _ <| List.mem_of_getElem? (i := 14) rfl) rfl
theorem s_M_gather : Cond.selects "LevelRowsModel" y_M_gather y_M_gather ∈ lw_ok := gd_in (List.mem_append_left _ <| List.mem_of_getElem? (i := 15) rfl) rfl
theorem s_M_levels : Cond.selects "LevelRowsModel" y_M_levels y_M_levels ∈ lw_ok := gd_in (List.mem_append_left _ <| List.mem_of_getElem? (i := 16) rfl) rfl
set_option maxRecDepth 20000 in
theorem in_L : ∀ w ∈ u_ws n_L f_L 3, w ∈ lw_ok := by decide +kernel
set_option maxRecDepth 20000 in
theorem in_P : ∀ w ∈ u_ws n_P f_P 6, w ∈ lw_ok := by decide +kernel
set_option maxRecDepth 20000 in
theorem in_R : ∀ w ∈ u_ws n_R f_R 10, w ∈ lw_ok := by decide +kernel
set_option maxRecDepth 20000 in
theorem in_M : ∀ w ∈ u_ws n_M f_M 7, w ∈ lw_ok := by decide +kernel
end
section
theorem d_P_init_0 : decode c_P_init 0 = .ok (.aload_n 0, 1) := by decide +kernel
theorem d_P_init_1 : decode c_P_init 1 = .ok (.invokespecial 1, 3) := by decide +kernel
theorem d_P_init_4 : decode c_P_init 4 = .ok (.return_, 1) := by decide +kernel
theorem d_I_numberOfLeadingZeros_0 : decode c_I_numberOfLeadingZeros 0 = .ok (.iload_n 0, 1) := by decide +kernel
theorem d_I_numberOfLeadingZeros_1 : decode c_I_numberOfLeadingZeros 1 = .ok (.ifCond .gt 14, 3) := by decide +kernel
theorem d_I_numberOfLeadingZeros_4 : decode c_I_numberOfLeadingZeros 4 = .ok (.iload_n 0, 1) := by decide +kernel
theorem d_I_numberOfLeadingZeros_5 : decode c_I_numberOfLeadingZeros 5 = .ok (.ifCond .ne 8, 3) := by decide +kernel
theorem d_I_numberOfLeadingZeros_8 : decode c_I_numberOfLeadingZeros 8 = .ok (.bipush 32, 2) := by decide +kernel
theorem d_I_numberOfLeadingZeros_10 : decode c_I_numberOfLeadingZeros 10 = .ok (.goto 4, 3) := by decide +kernel
theorem d_I_numberOfLeadingZeros_13 : decode c_I_numberOfLeadingZeros 13 = .ok (.iconst 0, 1) := by decide +kernel
theorem d_I_numberOfLeadingZeros_14 : decode c_I_numberOfLeadingZeros 14 = .ok (.ireturn, 1) := by decide +kernel
theorem d_I_numberOfLeadingZeros_15 : decode c_I_numberOfLeadingZeros 15 = .ok (.bipush 31, 2) := by decide +kernel
theorem d_I_numberOfLeadingZeros_17 : decode c_I_numberOfLeadingZeros 17 = .ok (.istore_n 1, 1) := by decide +kernel
theorem d_I_numberOfLeadingZeros_18 : decode c_I_numberOfLeadingZeros 18 = .ok (.iload_n 0, 1) := by decide +kernel
theorem d_I_numberOfLeadingZeros_19 : decode c_I_numberOfLeadingZeros 19 = .ok (.ldc_w 264, 3) := by decide +kernel
theorem d_I_numberOfLeadingZeros_22 : decode c_I_numberOfLeadingZeros 22 = .ok (.if_icmp .lt 11, 3) := by decide +kernel
theorem d_I_numberOfLeadingZeros_25 : decode c_I_numberOfLeadingZeros 25 = .ok (.iinc 1 (-16), 3) := by decide +kernel
theorem d_I_numberOfLeadingZeros_28 : decode c_I_numberOfLeadingZeros 28 = .ok (.iload_n 0, 1) := by decide +kernel
theorem d_I_numberOfLeadingZeros_29 : decode c_I_numberOfLeadingZeros 29 = .ok (.bipush 16, 2) := by decide +kernel
theorem d_I_numberOfLeadingZeros_31 : decode c_I_numberOfLeadingZeros 31 = .ok (.iushr, 1) := by decide +kernel
theorem d_I_numberOfLeadingZeros_32 : decode c_I_numberOfLeadingZeros 32 = .ok (.istore_n 0, 1) := by decide +kernel
theorem d_I_numberOfLeadingZeros_33 : decode c_I_numberOfLeadingZeros 33 = .ok (.iload_n 0, 1) := by decide +kernel
theorem d_I_numberOfLeadingZeros_34 : decode c_I_numberOfLeadingZeros 34 = .ok (.sipush 256, 3) := by decide +kernel
theorem d_I_numberOfLeadingZeros_37 : decode c_I_numberOfLeadingZeros 37 = .ok (.if_icmp .lt 11, 3) := by decide +kernel
theorem d_I_numberOfLeadingZeros_40 : decode c_I_numberOfLeadingZeros 40 = .ok (.iinc 1 (-8), 3) := by decide +kernel
theorem d_I_numberOfLeadingZeros_43 : decode c_I_numberOfLeadingZeros 43 = .ok (.iload_n 0, 1) := by decide +kernel
theorem d_I_numberOfLeadingZeros_44 : decode c_I_numberOfLeadingZeros 44 = .ok (.bipush 8, 2) := by decide +kernel
theorem d_I_numberOfLeadingZeros_46 : decode c_I_numberOfLeadingZeros 46 = .ok (.iushr, 1) := by decide +kernel
theorem d_I_numberOfLeadingZeros_47 : decode c_I_numberOfLeadingZeros 47 = .ok (.istore_n 0, 1) := by decide +kernel
theorem d_I_numberOfLeadingZeros_48 : decode c_I_numberOfLeadingZeros 48 = .ok (.iload_n 0, 1) := by decide +kernel
theorem d_I_numberOfLeadingZeros_49 : decode c_I_numberOfLeadingZeros 49 = .ok (.bipush 16, 2) := by decide +kernel
theorem d_I_numberOfLeadingZeros_51 : decode c_I_numberOfLeadingZeros 51 = .ok (.if_icmp .lt 10, 3) := by decide +kernel
theorem d_I_numberOfLeadingZeros_54 : decode c_I_numberOfLeadingZeros 54 = .ok (.iinc 1 (-4), 3) := by decide +kernel
theorem d_I_numberOfLeadingZeros_57 : decode c_I_numberOfLeadingZeros 57 = .ok (.iload_n 0, 1) := by decide +kernel
theorem d_I_numberOfLeadingZeros_58 : decode c_I_numberOfLeadingZeros 58 = .ok (.iconst 4, 1) := by decide +kernel
theorem d_I_numberOfLeadingZeros_59 : decode c_I_numberOfLeadingZeros 59 = .ok (.iushr, 1) := by decide +kernel
theorem d_I_numberOfLeadingZeros_60 : decode c_I_numberOfLeadingZeros 60 = .ok (.istore_n 0, 1) := by decide +kernel
theorem d_I_numberOfLeadingZeros_61 : decode c_I_numberOfLeadingZeros 61 = .ok (.iload_n 0, 1) := by decide +kernel
theorem d_I_numberOfLeadingZeros_62 : decode c_I_numberOfLeadingZeros 62 = .ok (.iconst 4, 1) := by decide +kernel
theorem d_I_numberOfLeadingZeros_63 : decode c_I_numberOfLeadingZeros 63 = .ok (.if_icmp .lt 10, 3) := by decide +kernel
theorem d_I_numberOfLeadingZeros_66 : decode c_I_numberOfLeadingZeros 66 = .ok (.iinc 1 (-2), 3) := by decide +kernel
theorem d_I_numberOfLeadingZeros_69 : decode c_I_numberOfLeadingZeros 69 = .ok (.iload_n 0, 1) := by decide +kernel
theorem d_I_numberOfLeadingZeros_70 : decode c_I_numberOfLeadingZeros 70 = .ok (.iconst 2, 1) := by decide +kernel
theorem d_I_numberOfLeadingZeros_71 : decode c_I_numberOfLeadingZeros 71 = .ok (.iushr, 1) := by decide +kernel
theorem d_I_numberOfLeadingZeros_72 : decode c_I_numberOfLeadingZeros 72 = .ok (.istore_n 0, 1) := by decide +kernel
theorem d_I_numberOfLeadingZeros_73 : decode c_I_numberOfLeadingZeros 73 = .ok (.iload_n 1, 1) := by decide +kernel
theorem d_I_numberOfLeadingZeros_74 : decode c_I_numberOfLeadingZeros 74 = .ok (.iload_n 0, 1) := by decide +kernel
theorem d_I_numberOfLeadingZeros_75 : decode c_I_numberOfLeadingZeros 75 = .ok (.iconst 1, 1) := by decide +kernel
theorem d_I_numberOfLeadingZeros_76 : decode c_I_numberOfLeadingZeros 76 = .ok (.iushr, 1) := by decide +kernel
theorem d_I_numberOfLeadingZeros_77 : decode c_I_numberOfLeadingZeros 77 = .ok (.isub, 1) := by decide +kernel
theorem d_I_numberOfLeadingZeros_78 : decode c_I_numberOfLeadingZeros 78 = .ok (.ireturn, 1) := by decide +kernel
theorem d_L_init_0 : decode c_L_init 0 = .ok (.aload_n 0, 1) := by decide +kernel
theorem d_L_init_1 : decode c_L_init 1 = .ok (.invokespecial 3, 3) := by decide +kernel
theorem d_L_init_4 : decode c_L_init 4 = .ok (.aload_n 0, 1) := by decide +kernel
theorem d_L_init_5 : decode c_L_init 5 = .ok (.bipush 16, 2) := by decide +kernel
theorem d_L_init_7 : decode c_L_init 7 = .ok (.newarray .long, 2) := by decide +kernel
theorem d_L_init_9 : decode c_L_init 9 = .ok (.putfield 9, 3) := by decide +kernel
theorem d_L_init_12 : decode c_L_init 12 = .ok (.aload_n 0, 1) := by decide +kernel
theorem d_L_init_13 : decode c_L_init 13 = .ok (.bipush 16, 2) := by decide +kernel
theorem d_L_init_15 : decode c_L_init 15 = .ok (.newarray .short, 2) := by decide +kernel
theorem d_L_init_17 : decode c_L_init 17 = .ok (.putfield 15, 3) := by decide +kernel
theorem d_L_init_20 : decode c_L_init 20 = .ok (.return_, 1) := by decide +kernel
theorem d_L_bitAt_0 : decode c_L_bitAt 0 = .ok (.aload_n 0, 1) := by decide +kernel
theorem d_L_bitAt_1 : decode c_L_bitAt 1 = .ok (.getfield 9, 3) := by decide +kernel
theorem d_L_bitAt_4 : decode c_L_bitAt 4 = .ok (.iload_n 1, 1) := by decide +kernel
theorem d_L_bitAt_5 : decode c_L_bitAt 5 = .ok (.bipush 6, 2) := by decide +kernel
theorem d_L_bitAt_7 : decode c_L_bitAt 7 = .ok (.ishr, 1) := by decide +kernel
theorem d_L_bitAt_8 : decode c_L_bitAt 8 = .ok (.laload, 1) := by decide +kernel
theorem d_L_bitAt_9 : decode c_L_bitAt 9 = .ok (.iload_n 1, 1) := by decide +kernel
theorem d_L_bitAt_10 : decode c_L_bitAt 10 = .ok (.bipush 64, 2) := by decide +kernel
theorem d_L_bitAt_12 : decode c_L_bitAt 12 = .ok (.irem, 1) := by decide +kernel
theorem d_L_bitAt_13 : decode c_L_bitAt 13 = .ok (.lushr, 1) := by decide +kernel
theorem d_L_bitAt_14 : decode c_L_bitAt 14 = .ok (.l2i, 1) := by decide +kernel
theorem d_L_bitAt_15 : decode c_L_bitAt 15 = .ok (.iconst 1, 1) := by decide +kernel
theorem d_L_bitAt_16 : decode c_L_bitAt 16 = .ok (.iand, 1) := by decide +kernel
theorem d_L_bitAt_17 : decode c_L_bitAt 17 = .ok (.ireturn, 1) := by decide +kernel
theorem d_L_placeBelow_0 : decode c_L_placeBelow 0 = .ok (.iload_n 1, 1) := by decide +kernel
theorem d_L_placeBelow_1 : decode c_L_placeBelow 1 = .ok (.ifCond .ne 11, 3) := by decide +kernel
theorem d_L_placeBelow_4 : decode c_L_placeBelow 4 = .ok (.aload_n 0, 1) := by decide +kernel
theorem d_L_placeBelow_5 : decode c_L_placeBelow 5 = .ok (.iload_n 2, 1) := by decide +kernel
theorem d_L_placeBelow_6 : decode c_L_placeBelow 6 = .ok (.invokevirtual 45, 3) := by decide +kernel
theorem d_L_placeBelow_9 : decode c_L_placeBelow 9 = .ok (.goto 13, 3) := by decide +kernel
theorem d_L_placeBelow_12 : decode c_L_placeBelow 12 = .ok (.aload_n 0, 1) := by decide +kernel
theorem d_L_placeBelow_13 : decode c_L_placeBelow 13 = .ok (.getfield 25, 3) := by decide +kernel
theorem d_L_placeBelow_16 : decode c_L_placeBelow 16 = .ok (.aload_n 0, 1) := by decide +kernel
theorem d_L_placeBelow_17 : decode c_L_placeBelow 17 = .ok (.iload_n 2, 1) := by decide +kernel
theorem d_L_placeBelow_18 : decode c_L_placeBelow 18 = .ok (.invokevirtual 35, 3) := by decide +kernel
theorem d_L_placeBelow_21 : decode c_L_placeBelow 21 = .ok (.iadd, 1) := by decide +kernel
theorem d_L_placeBelow_22 : decode c_L_placeBelow 22 = .ok (.ireturn, 1) := by decide +kernel
theorem d_L_zerosTo_0 : decode c_L_zerosTo 0 = .ok (.iload_n 1, 1) := by decide +kernel
theorem d_L_zerosTo_1 : decode c_L_zerosTo 1 = .ok (.aload_n 0, 1) := by decide +kernel
theorem d_L_zerosTo_2 : decode c_L_zerosTo 2 = .ok (.iload_n 1, 1) := by decide +kernel
theorem d_L_zerosTo_3 : decode c_L_zerosTo 3 = .ok (.invokevirtual 35, 3) := by decide +kernel
theorem d_L_zerosTo_6 : decode c_L_zerosTo 6 = .ok (.isub, 1) := by decide +kernel
theorem d_L_zerosTo_7 : decode c_L_zerosTo 7 = .ok (.ireturn, 1) := by decide +kernel
theorem d_L_onesTo_0 : decode c_L_onesTo 0 = .ok (.iload_n 1, 1) := by decide +kernel
theorem d_L_onesTo_1 : decode c_L_onesTo 1 = .ok (.ifCond .gt 5, 3) := by decide +kernel
theorem d_L_onesTo_4 : decode c_L_onesTo 4 = .ok (.iconst 0, 1) := by decide +kernel
theorem d_L_onesTo_5 : decode c_L_onesTo 5 = .ok (.ireturn, 1) := by decide +kernel
theorem d_L_onesTo_6 : decode c_L_onesTo 6 = .ok (.iload_n 1, 1) := by decide +kernel
theorem d_L_onesTo_7 : decode c_L_onesTo 7 = .ok (.iconst 1, 1) := by decide +kernel
theorem d_L_onesTo_8 : decode c_L_onesTo 8 = .ok (.isub, 1) := by decide +kernel
theorem d_L_onesTo_9 : decode c_L_onesTo 9 = .ok (.istore_n 2, 1) := by decide +kernel
theorem d_L_onesTo_10 : decode c_L_onesTo 10 = .ok (.iload_n 2, 1) := by decide +kernel
theorem d_L_onesTo_11 : decode c_L_onesTo 11 = .ok (.bipush 6, 2) := by decide +kernel
theorem d_L_onesTo_13 : decode c_L_onesTo 13 = .ok (.ishr, 1) := by decide +kernel
theorem d_L_onesTo_14 : decode c_L_onesTo 14 = .ok (.istore_n 3, 1) := by decide +kernel
theorem d_L_onesTo_15 : decode c_L_onesTo 15 = .ok (.aload_n 0, 1) := by decide +kernel
theorem d_L_onesTo_16 : decode c_L_onesTo 16 = .ok (.getfield 9, 3) := by decide +kernel
theorem d_L_onesTo_19 : decode c_L_onesTo 19 = .ok (.iload_n 3, 1) := by decide +kernel
theorem d_L_onesTo_20 : decode c_L_onesTo 20 = .ok (.laload, 1) := by decide +kernel
theorem d_L_onesTo_21 : decode c_L_onesTo 21 = .ok (.bipush 63, 2) := by decide +kernel
theorem d_L_onesTo_23 : decode c_L_onesTo 23 = .ok (.iload_n 2, 1) := by decide +kernel
theorem d_L_onesTo_24 : decode c_L_onesTo 24 = .ok (.bipush 64, 2) := by decide +kernel
theorem d_L_onesTo_26 : decode c_L_onesTo 26 = .ok (.irem, 1) := by decide +kernel
theorem d_L_onesTo_27 : decode c_L_onesTo 27 = .ok (.isub, 1) := by decide +kernel
theorem d_L_onesTo_28 : decode c_L_onesTo 28 = .ok (.lshl, 1) := by decide +kernel
theorem d_L_onesTo_29 : decode c_L_onesTo 29 = .ok (.lstore 4, 2) := by decide +kernel
theorem d_L_onesTo_31 : decode c_L_onesTo 31 = .ok (.aload_n 0, 1) := by decide +kernel
theorem d_L_onesTo_32 : decode c_L_onesTo 32 = .ok (.getfield 15, 3) := by decide +kernel
theorem d_L_onesTo_35 : decode c_L_onesTo 35 = .ok (.iload_n 3, 1) := by decide +kernel
theorem d_L_onesTo_36 : decode c_L_onesTo 36 = .ok (.saload, 1) := by decide +kernel
theorem d_L_onesTo_37 : decode c_L_onesTo 37 = .ok (.lload 4, 2) := by decide +kernel
theorem d_L_onesTo_39 : decode c_L_onesTo 39 = .ok (.invokestatic 39, 3) := by decide +kernel
theorem d_L_onesTo_42 : decode c_L_onesTo 42 = .ok (.iadd, 1) := by decide +kernel
theorem d_L_onesTo_43 : decode c_L_onesTo 43 = .ok (.ireturn, 1) := by decide +kernel
theorem d_J_bitCount_0 : decode c_J_bitCount 0 = .ok (.lload_n 0, 1) := by decide +kernel
theorem d_J_bitCount_1 : decode c_J_bitCount 1 = .ok (.lload_n 0, 1) := by decide +kernel
theorem d_J_bitCount_2 : decode c_J_bitCount 2 = .ok (.iconst 1, 1) := by decide +kernel
theorem d_J_bitCount_3 : decode c_J_bitCount 3 = .ok (.lushr, 1) := by decide +kernel
theorem d_J_bitCount_4 : decode c_J_bitCount 4 = .ok (.ldc2_w 314, 3) := by decide +kernel
theorem d_J_bitCount_7 : decode c_J_bitCount 7 = .ok (.land, 1) := by decide +kernel
theorem d_J_bitCount_8 : decode c_J_bitCount 8 = .ok (.lsub, 1) := by decide +kernel
theorem d_J_bitCount_9 : decode c_J_bitCount 9 = .ok (.lstore_n 0, 1) := by decide +kernel
theorem d_J_bitCount_10 : decode c_J_bitCount 10 = .ok (.lload_n 0, 1) := by decide +kernel
theorem d_J_bitCount_11 : decode c_J_bitCount 11 = .ok (.ldc2_w 316, 3) := by decide +kernel
theorem d_J_bitCount_14 : decode c_J_bitCount 14 = .ok (.land, 1) := by decide +kernel
theorem d_J_bitCount_15 : decode c_J_bitCount 15 = .ok (.lload_n 0, 1) := by decide +kernel
theorem d_J_bitCount_16 : decode c_J_bitCount 16 = .ok (.iconst 2, 1) := by decide +kernel
theorem d_J_bitCount_17 : decode c_J_bitCount 17 = .ok (.lushr, 1) := by decide +kernel
theorem d_J_bitCount_18 : decode c_J_bitCount 18 = .ok (.ldc2_w 316, 3) := by decide +kernel
theorem d_J_bitCount_21 : decode c_J_bitCount 21 = .ok (.land, 1) := by decide +kernel
theorem d_J_bitCount_22 : decode c_J_bitCount 22 = .ok (.ladd, 1) := by decide +kernel
theorem d_J_bitCount_23 : decode c_J_bitCount 23 = .ok (.lstore_n 0, 1) := by decide +kernel
theorem d_J_bitCount_24 : decode c_J_bitCount 24 = .ok (.lload_n 0, 1) := by decide +kernel
theorem d_J_bitCount_25 : decode c_J_bitCount 25 = .ok (.lload_n 0, 1) := by decide +kernel
theorem d_J_bitCount_26 : decode c_J_bitCount 26 = .ok (.iconst 4, 1) := by decide +kernel
theorem d_J_bitCount_27 : decode c_J_bitCount 27 = .ok (.lushr, 1) := by decide +kernel
theorem d_J_bitCount_28 : decode c_J_bitCount 28 = .ok (.ladd, 1) := by decide +kernel
theorem d_J_bitCount_29 : decode c_J_bitCount 29 = .ok (.ldc2_w 318, 3) := by decide +kernel
theorem d_J_bitCount_32 : decode c_J_bitCount 32 = .ok (.land, 1) := by decide +kernel
theorem d_J_bitCount_33 : decode c_J_bitCount 33 = .ok (.lstore_n 0, 1) := by decide +kernel
theorem d_J_bitCount_34 : decode c_J_bitCount 34 = .ok (.lload_n 0, 1) := by decide +kernel
theorem d_J_bitCount_35 : decode c_J_bitCount 35 = .ok (.lload_n 0, 1) := by decide +kernel
theorem d_J_bitCount_36 : decode c_J_bitCount 36 = .ok (.bipush 8, 2) := by decide +kernel
theorem d_J_bitCount_38 : decode c_J_bitCount 38 = .ok (.lushr, 1) := by decide +kernel
theorem d_J_bitCount_39 : decode c_J_bitCount 39 = .ok (.ladd, 1) := by decide +kernel
theorem d_J_bitCount_40 : decode c_J_bitCount 40 = .ok (.lstore_n 0, 1) := by decide +kernel
theorem d_J_bitCount_41 : decode c_J_bitCount 41 = .ok (.lload_n 0, 1) := by decide +kernel
theorem d_J_bitCount_42 : decode c_J_bitCount 42 = .ok (.lload_n 0, 1) := by decide +kernel
theorem d_J_bitCount_43 : decode c_J_bitCount 43 = .ok (.bipush 16, 2) := by decide +kernel
theorem d_J_bitCount_45 : decode c_J_bitCount 45 = .ok (.lushr, 1) := by decide +kernel
theorem d_J_bitCount_46 : decode c_J_bitCount 46 = .ok (.ladd, 1) := by decide +kernel
theorem d_J_bitCount_47 : decode c_J_bitCount 47 = .ok (.lstore_n 0, 1) := by decide +kernel
theorem d_J_bitCount_48 : decode c_J_bitCount 48 = .ok (.lload_n 0, 1) := by decide +kernel
theorem d_J_bitCount_49 : decode c_J_bitCount 49 = .ok (.lload_n 0, 1) := by decide +kernel
theorem d_J_bitCount_50 : decode c_J_bitCount 50 = .ok (.bipush 32, 2) := by decide +kernel
theorem d_J_bitCount_52 : decode c_J_bitCount 52 = .ok (.lushr, 1) := by decide +kernel
theorem d_J_bitCount_53 : decode c_J_bitCount 53 = .ok (.ladd, 1) := by decide +kernel
theorem d_J_bitCount_54 : decode c_J_bitCount 54 = .ok (.lstore_n 0, 1) := by decide +kernel
theorem d_J_bitCount_55 : decode c_J_bitCount 55 = .ok (.lload_n 0, 1) := by decide +kernel
theorem d_J_bitCount_56 : decode c_J_bitCount 56 = .ok (.l2i, 1) := by decide +kernel
theorem d_J_bitCount_57 : decode c_J_bitCount 57 = .ok (.bipush 127, 2) := by decide +kernel
theorem d_J_bitCount_59 : decode c_J_bitCount 59 = .ok (.iand, 1) := by decide +kernel
theorem d_J_bitCount_60 : decode c_J_bitCount 60 = .ok (.ireturn, 1) := by decide +kernel
theorem d_L_store_0 : decode c_L_store 0 = .ok (.aload_n 0, 1) := by decide +kernel
theorem d_L_store_1 : decode c_L_store 1 = .ok (.getfield 9, 3) := by decide +kernel
theorem d_L_store_4 : decode c_L_store 4 = .ok (.lconst 0, 1) := by decide +kernel
theorem d_L_store_5 : decode c_L_store 5 = .ok (.invokestatic 19, 3) := by decide +kernel
theorem d_L_store_8 : decode c_L_store 8 = .ok (.aload_n 0, 1) := by decide +kernel
theorem d_L_store_9 : decode c_L_store 9 = .ok (.iconst 0, 1) := by decide +kernel
theorem d_L_store_10 : decode c_L_store 10 = .ok (.putfield 25, 3) := by decide +kernel
theorem d_L_store_13 : decode c_L_store 13 = .ok (.iconst 0, 1) := by decide +kernel
theorem d_L_store_14 : decode c_L_store 14 = .ok (.istore 5, 2) := by decide +kernel
theorem d_L_store_16 : decode c_L_store 16 = .ok (.iconst 0, 1) := by decide +kernel
theorem d_L_store_17 : decode c_L_store 17 = .ok (.istore 6, 2) := by decide +kernel
theorem d_L_store_19 : decode c_L_store 19 = .ok (.iload 6, 2) := by decide +kernel
theorem d_L_store_21 : decode c_L_store 21 = .ok (.iload_n 2, 1) := by decide +kernel
theorem d_L_store_22 : decode c_L_store 22 = .ok (.if_icmp .ge 97, 3) := by decide +kernel
theorem d_L_store_25 : decode c_L_store 25 = .ok (.iload 6, 2) := by decide +kernel
theorem d_L_store_27 : decode c_L_store 27 = .ok (.bipush 6, 2) := by decide +kernel
theorem d_L_store_29 : decode c_L_store 29 = .ok (.ishr, 1) := by decide +kernel
theorem d_L_store_30 : decode c_L_store 30 = .ok (.istore 7, 2) := by decide +kernel
theorem d_L_store_32 : decode c_L_store 32 = .ok (.iload 6, 2) := by decide +kernel
theorem d_L_store_34 : decode c_L_store 34 = .ok (.bipush 64, 2) := by decide +kernel
theorem d_L_store_36 : decode c_L_store 36 = .ok (.irem, 1) := by decide +kernel
theorem d_L_store_37 : decode c_L_store 37 = .ok (.ifCond .ne 13, 3) := by decide +kernel
theorem d_L_store_40 : decode c_L_store 40 = .ok (.aload_n 0, 1) := by decide +kernel
theorem d_L_store_41 : decode c_L_store 41 = .ok (.getfield 15, 3) := by decide +kernel
theorem d_L_store_44 : decode c_L_store 44 = .ok (.iload 7, 2) := by decide +kernel
theorem d_L_store_46 : decode c_L_store 46 = .ok (.iload 5, 2) := by decide +kernel
theorem d_L_store_48 : decode c_L_store 48 = .ok (.i2s, 1) := by decide +kernel
theorem d_L_store_49 : decode c_L_store 49 = .ok (.sastore, 1) := by decide +kernel
theorem d_L_store_50 : decode c_L_store 50 = .ok (.aload_n 1, 1) := by decide +kernel
theorem d_L_store_51 : decode c_L_store 51 = .ok (.iload 6, 2) := by decide +kernel
theorem d_L_store_53 : decode c_L_store 53 = .ok (.iaload, 1) := by decide +kernel
theorem d_L_store_54 : decode c_L_store 54 = .ok (.istore 8, 2) := by decide +kernel
theorem d_L_store_56 : decode c_L_store 56 = .ok (.iload 8, 2) := by decide +kernel
theorem d_L_store_58 : decode c_L_store 58 = .ok (.iload_n 3, 1) := by decide +kernel
theorem d_L_store_59 : decode c_L_store 59 = .ok (.ishr, 1) := by decide +kernel
theorem d_L_store_60 : decode c_L_store 60 = .ok (.iconst 1, 1) := by decide +kernel
theorem d_L_store_61 : decode c_L_store 61 = .ok (.iand, 1) := by decide +kernel
theorem d_L_store_62 : decode c_L_store 62 = .ok (.ifCond .ne 24, 3) := by decide +kernel
theorem d_L_store_65 : decode c_L_store 65 = .ok (.aload_n 1, 1) := by decide +kernel
theorem d_L_store_66 : decode c_L_store 66 = .ok (.aload_n 0, 1) := by decide +kernel
theorem d_L_store_67 : decode c_L_store 67 = .ok (.getfield 25, 3) := by decide +kernel
theorem d_L_store_70 : decode c_L_store 70 = .ok (.iload 8, 2) := by decide +kernel
theorem d_L_store_72 : decode c_L_store 72 = .ok (.iastore, 1) := by decide +kernel
theorem d_L_store_73 : decode c_L_store 73 = .ok (.aload_n 0, 1) := by decide +kernel
theorem d_L_store_74 : decode c_L_store 74 = .ok (.dup, 1) := by decide +kernel
theorem d_L_store_75 : decode c_L_store 75 = .ok (.getfield 25, 3) := by decide +kernel
theorem d_L_store_78 : decode c_L_store 78 = .ok (.iconst 1, 1) := by decide +kernel
theorem d_L_store_79 : decode c_L_store 79 = .ok (.iadd, 1) := by decide +kernel
theorem d_L_store_80 : decode c_L_store 80 = .ok (.putfield 25, 3) := by decide +kernel
theorem d_L_store_83 : decode c_L_store 83 = .ok (.goto 30, 3) := by decide +kernel
theorem d_L_store_86 : decode c_L_store 86 = .ok (.aload_n 0, 1) := by decide +kernel
theorem d_L_store_87 : decode c_L_store 87 = .ok (.getfield 9, 3) := by decide +kernel
theorem d_L_store_90 : decode c_L_store 90 = .ok (.iload 7, 2) := by decide +kernel
theorem d_L_store_92 : decode c_L_store 92 = .ok (.dup2, 1) := by decide +kernel
theorem d_L_store_93 : decode c_L_store 93 = .ok (.laload, 1) := by decide +kernel
theorem d_L_store_94 : decode c_L_store 94 = .ok (.lconst 1, 1) := by decide +kernel
theorem d_L_store_95 : decode c_L_store 95 = .ok (.iload 6, 2) := by decide +kernel
theorem d_L_store_97 : decode c_L_store 97 = .ok (.bipush 64, 2) := by decide +kernel
theorem d_L_store_99 : decode c_L_store 99 = .ok (.irem, 1) := by decide +kernel
theorem d_L_store_100 : decode c_L_store 100 = .ok (.lshl, 1) := by decide +kernel
theorem d_L_store_101 : decode c_L_store 101 = .ok (.lor, 1) := by decide +kernel
theorem d_L_store_102 : decode c_L_store 102 = .ok (.lastore, 1) := by decide +kernel
theorem d_L_store_103 : decode c_L_store 103 = .ok (.aload 4, 2) := by decide +kernel
theorem d_L_store_105 : decode c_L_store 105 = .ok (.iload 5, 2) := by decide +kernel
theorem d_L_store_107 : decode c_L_store 107 = .ok (.iload 8, 2) := by decide +kernel
theorem d_L_store_109 : decode c_L_store 109 = .ok (.iastore, 1) := by decide +kernel
theorem d_L_store_110 : decode c_L_store 110 = .ok (.iinc 5 1, 3) := by decide +kernel
theorem d_L_store_113 : decode c_L_store 113 = .ok (.iinc 6 1, 3) := by decide +kernel
theorem d_L_store_116 : decode c_L_store 116 = .ok (.goto (-97), 3) := by decide +kernel
theorem d_L_store_119 : decode c_L_store 119 = .ok (.aload 4, 2) := by decide +kernel
theorem d_L_store_121 : decode c_L_store 121 = .ok (.iconst 0, 1) := by decide +kernel
theorem d_L_store_122 : decode c_L_store 122 = .ok (.aload_n 1, 1) := by decide +kernel
theorem d_L_store_123 : decode c_L_store 123 = .ok (.aload_n 0, 1) := by decide +kernel
theorem d_L_store_124 : decode c_L_store 124 = .ok (.getfield 25, 3) := by decide +kernel
theorem d_L_store_127 : decode c_L_store 127 = .ok (.iload 5, 2) := by decide +kernel
theorem d_L_store_129 : decode c_L_store 129 = .ok (.invokestatic 29, 3) := by decide +kernel
theorem d_L_store_132 : decode c_L_store 132 = .ok (.return_, 1) := by decide +kernel
theorem d_A_fillJ_0 : decode c_A_fillJ 0 = .ok (.iconst 0, 1) := by decide +kernel
theorem d_A_fillJ_1 : decode c_A_fillJ 1 = .ok (.istore_n 3, 1) := by decide +kernel
theorem d_A_fillJ_2 : decode c_A_fillJ 2 = .ok (.aload_n 0, 1) := by decide +kernel
theorem d_A_fillJ_3 : decode c_A_fillJ 3 = .ok (.arraylength, 1) := by decide +kernel
theorem d_A_fillJ_4 : decode c_A_fillJ 4 = .ok (.istore 4, 2) := by decide +kernel
theorem d_A_fillJ_6 : decode c_A_fillJ 6 = .ok (.iload_n 3, 1) := by decide +kernel
theorem d_A_fillJ_7 : decode c_A_fillJ 7 = .ok (.iload 4, 2) := by decide +kernel
theorem d_A_fillJ_9 : decode c_A_fillJ 9 = .ok (.if_icmp .ge 13, 3) := by decide +kernel
theorem d_A_fillJ_12 : decode c_A_fillJ 12 = .ok (.aload_n 0, 1) := by decide +kernel
theorem d_A_fillJ_13 : decode c_A_fillJ 13 = .ok (.iload_n 3, 1) := by decide +kernel
theorem d_A_fillJ_14 : decode c_A_fillJ 14 = .ok (.lload_n 1, 1) := by decide +kernel
theorem d_A_fillJ_15 : decode c_A_fillJ 15 = .ok (.lastore, 1) := by decide +kernel
theorem d_A_fillJ_16 : decode c_A_fillJ 16 = .ok (.iinc 3 1, 3) := by decide +kernel
theorem d_A_fillJ_19 : decode c_A_fillJ 19 = .ok (.goto (-13), 3) := by decide +kernel
theorem d_A_fillJ_22 : decode c_A_fillJ 22 = .ok (.return_, 1) := by decide +kernel
theorem d_P_span_0 : decode c_P_span 0 = .ok (.aload_n 0, 1) := by decide +kernel
theorem d_P_span_1 : decode c_P_span 1 = .ok (.iload_n 1, 1) := by decide +kernel
theorem d_P_span_2 : decode c_P_span 2 = .ok (.putfield 7, 3) := by decide +kernel
theorem d_P_span_5 : decode c_P_span 5 = .ok (.aload_n 0, 1) := by decide +kernel
theorem d_P_span_6 : decode c_P_span 6 = .ok (.iload_n 2, 1) := by decide +kernel
theorem d_P_span_7 : decode c_P_span 7 = .ok (.putfield 13, 3) := by decide +kernel
theorem d_P_span_10 : decode c_P_span 10 = .ok (.return_, 1) := by decide +kernel
theorem d_P_split_0 : decode c_P_split 0 = .ok (.aload_n 0, 1) := by decide +kernel
theorem d_P_split_1 : decode c_P_split 1 = .ok (.aload_n 1, 1) := by decide +kernel
theorem d_P_split_2 : decode c_P_split 2 = .ok (.aload_n 0, 1) := by decide +kernel
theorem d_P_split_3 : decode c_P_split 3 = .ok (.getfield 7, 3) := by decide +kernel
theorem d_P_split_6 : decode c_P_split 6 = .ok (.invokevirtual 16, 3) := by decide +kernel
theorem d_P_split_9 : decode c_P_split 9 = .ok (.putfield 22, 3) := by decide +kernel
theorem d_P_split_12 : decode c_P_split 12 = .ok (.aload_n 0, 1) := by decide +kernel
theorem d_P_split_13 : decode c_P_split 13 = .ok (.aload_n 1, 1) := by decide +kernel
theorem d_P_split_14 : decode c_P_split 14 = .ok (.aload_n 0, 1) := by decide +kernel
theorem d_P_split_15 : decode c_P_split 15 = .ok (.getfield 13, 3) := by decide +kernel
theorem d_P_split_18 : decode c_P_split 18 = .ok (.invokevirtual 16, 3) := by decide +kernel
theorem d_P_split_21 : decode c_P_split 21 = .ok (.putfield 25, 3) := by decide +kernel
theorem d_P_split_24 : decode c_P_split 24 = .ok (.aload_n 0, 1) := by decide +kernel
theorem d_P_split_25 : decode c_P_split 25 = .ok (.aload_n 1, 1) := by decide +kernel
theorem d_P_split_26 : decode c_P_split 26 = .ok (.getfield 27, 3) := by decide +kernel
theorem d_P_split_29 : decode c_P_split 29 = .ok (.aload_n 0, 1) := by decide +kernel
theorem d_P_split_30 : decode c_P_split 30 = .ok (.getfield 7, 3) := by decide +kernel
theorem d_P_split_33 : decode c_P_split 33 = .ok (.iadd, 1) := by decide +kernel
theorem d_P_split_34 : decode c_P_split 34 = .ok (.aload_n 0, 1) := by decide +kernel
theorem d_P_split_35 : decode c_P_split 35 = .ok (.getfield 22, 3) := by decide +kernel
theorem d_P_split_38 : decode c_P_split 38 = .ok (.isub, 1) := by decide +kernel
theorem d_P_split_39 : decode c_P_split 39 = .ok (.putfield 30, 3) := by decide +kernel
theorem d_P_split_42 : decode c_P_split 42 = .ok (.aload_n 0, 1) := by decide +kernel
theorem d_P_split_43 : decode c_P_split 43 = .ok (.aload_n 1, 1) := by decide +kernel
theorem d_P_split_44 : decode c_P_split 44 = .ok (.getfield 27, 3) := by decide +kernel
theorem d_P_split_47 : decode c_P_split 47 = .ok (.aload_n 0, 1) := by decide +kernel
theorem d_P_split_48 : decode c_P_split 48 = .ok (.getfield 13, 3) := by decide +kernel
theorem d_P_split_51 : decode c_P_split 51 = .ok (.iadd, 1) := by decide +kernel
theorem d_P_split_52 : decode c_P_split 52 = .ok (.aload_n 0, 1) := by decide +kernel
theorem d_P_split_53 : decode c_P_split 53 = .ok (.getfield 25, 3) := by decide +kernel
theorem d_P_split_56 : decode c_P_split 56 = .ok (.isub, 1) := by decide +kernel
theorem d_P_split_57 : decode c_P_split 57 = .ok (.putfield 33, 3) := by decide +kernel
theorem d_P_split_60 : decode c_P_split 60 = .ok (.return_, 1) := by decide +kernel
theorem d_P_enter_0 : decode c_P_enter 0 = .ok (.aload_n 0, 1) := by decide +kernel
theorem d_P_enter_1 : decode c_P_enter 1 = .ok (.iload_n 1, 1) := by decide +kernel
theorem d_P_enter_2 : decode c_P_enter 2 = .ok (.ifCond .ne 10, 3) := by decide +kernel
theorem d_P_enter_5 : decode c_P_enter 5 = .ok (.aload_n 0, 1) := by decide +kernel
theorem d_P_enter_6 : decode c_P_enter 6 = .ok (.getfield 22, 3) := by decide +kernel
theorem d_P_enter_9 : decode c_P_enter 9 = .ok (.goto 7, 3) := by decide +kernel
theorem d_P_enter_12 : decode c_P_enter 12 = .ok (.aload_n 0, 1) := by decide +kernel
theorem d_P_enter_13 : decode c_P_enter 13 = .ok (.getfield 30, 3) := by decide +kernel
theorem d_P_enter_16 : decode c_P_enter 16 = .ok (.putfield 7, 3) := by decide +kernel
theorem d_P_enter_19 : decode c_P_enter 19 = .ok (.aload_n 0, 1) := by decide +kernel
theorem d_P_enter_20 : decode c_P_enter 20 = .ok (.iload_n 1, 1) := by decide +kernel
theorem d_P_enter_21 : decode c_P_enter 21 = .ok (.ifCond .ne 10, 3) := by decide +kernel
theorem d_P_enter_24 : decode c_P_enter 24 = .ok (.aload_n 0, 1) := by decide +kernel
theorem d_P_enter_25 : decode c_P_enter 25 = .ok (.getfield 25, 3) := by decide +kernel
theorem d_P_enter_28 : decode c_P_enter 28 = .ok (.goto 7, 3) := by decide +kernel
theorem d_P_enter_31 : decode c_P_enter 31 = .ok (.aload_n 0, 1) := by decide +kernel
theorem d_P_enter_32 : decode c_P_enter 32 = .ok (.getfield 33, 3) := by decide +kernel
theorem d_P_enter_35 : decode c_P_enter 35 = .ok (.putfield 13, 3) := by decide +kernel
theorem d_P_enter_38 : decode c_P_enter 38 = .ok (.return_, 1) := by decide +kernel
theorem d_P_length_0 : decode c_P_length 0 = .ok (.aload_n 0, 1) := by decide +kernel
theorem d_P_length_1 : decode c_P_length 1 = .ok (.getfield 13, 3) := by decide +kernel
theorem d_P_length_4 : decode c_P_length 4 = .ok (.aload_n 0, 1) := by decide +kernel
theorem d_P_length_5 : decode c_P_length 5 = .ok (.getfield 7, 3) := by decide +kernel
theorem d_P_length_8 : decode c_P_length 8 = .ok (.isub, 1) := by decide +kernel
theorem d_P_length_9 : decode c_P_length 9 = .ok (.ireturn, 1) := by decide +kernel
theorem d_L_placeAbove_0 : decode c_L_placeAbove 0 = .ok (.iload_n 1, 1) := by decide +kernel
theorem d_L_placeAbove_1 : decode c_L_placeAbove 1 = .ok (.aload_n 0, 1) := by decide +kernel
theorem d_L_placeAbove_2 : decode c_L_placeAbove 2 = .ok (.getfield 25, 3) := by decide +kernel
theorem d_L_placeAbove_5 : decode c_L_placeAbove 5 = .ok (.if_icmp .lt 7, 3) := by decide +kernel
theorem d_L_placeAbove_8 : decode c_L_placeAbove 8 = .ok (.iconst 1, 1) := by decide +kernel
theorem d_L_placeAbove_9 : decode c_L_placeAbove 9 = .ok (.goto 4, 3) := by decide +kernel
theorem d_L_placeAbove_12 : decode c_L_placeAbove 12 = .ok (.iconst 0, 1) := by decide +kernel
theorem d_L_placeAbove_13 : decode c_L_placeAbove 13 = .ok (.istore_n 3, 1) := by decide +kernel
theorem d_L_placeAbove_14 : decode c_L_placeAbove 14 = .ok (.iload_n 3, 1) := by decide +kernel
theorem d_L_placeAbove_15 : decode c_L_placeAbove 15 = .ok (.ifCond .eq 12, 3) := by decide +kernel
theorem d_L_placeAbove_18 : decode c_L_placeAbove 18 = .ok (.iload_n 1, 1) := by decide +kernel
theorem d_L_placeAbove_19 : decode c_L_placeAbove 19 = .ok (.aload_n 0, 1) := by decide +kernel
theorem d_L_placeAbove_20 : decode c_L_placeAbove 20 = .ok (.getfield 25, 3) := by decide +kernel
theorem d_L_placeAbove_23 : decode c_L_placeAbove 23 = .ok (.isub, 1) := by decide +kernel
theorem d_L_placeAbove_24 : decode c_L_placeAbove 24 = .ok (.goto 4, 3) := by decide +kernel
theorem d_L_placeAbove_27 : decode c_L_placeAbove 27 = .ok (.iload_n 1, 1) := by decide +kernel
theorem d_L_placeAbove_28 : decode c_L_placeAbove 28 = .ok (.istore 4, 2) := by decide +kernel
theorem d_L_placeAbove_30 : decode c_L_placeAbove 30 = .ok (.iconst 0, 1) := by decide +kernel
theorem d_L_placeAbove_31 : decode c_L_placeAbove 31 = .ok (.istore 5, 2) := by decide +kernel
theorem d_L_placeAbove_33 : decode c_L_placeAbove 33 = .ok (.sipush 1000, 3) := by decide +kernel
theorem d_L_placeAbove_36 : decode c_L_placeAbove 36 = .ok (.invokestatic 48, 3) := by decide +kernel
theorem d_L_placeAbove_39 : decode c_L_placeAbove 39 = .ok (.istore 6, 2) := by decide +kernel
theorem d_L_placeAbove_41 : decode c_L_placeAbove 41 = .ok (.iload 6, 2) := by decide +kernel
theorem d_L_placeAbove_43 : decode c_L_placeAbove 43 = .ok (.ifCond .le 53, 3) := by decide +kernel
theorem d_L_placeAbove_46 : decode c_L_placeAbove 46 = .ok (.iload 5, 2) := by decide +kernel
theorem d_L_placeAbove_48 : decode c_L_placeAbove 48 = .ok (.iload 6, 2) := by decide +kernel
theorem d_L_placeAbove_50 : decode c_L_placeAbove 50 = .ok (.iadd, 1) := by decide +kernel
theorem d_L_placeAbove_51 : decode c_L_placeAbove 51 = .ok (.istore 7, 2) := by decide +kernel
theorem d_L_placeAbove_53 : decode c_L_placeAbove 53 = .ok (.iload 7, 2) := by decide +kernel
theorem d_L_placeAbove_55 : decode c_L_placeAbove 55 = .ok (.iload_n 2, 1) := by decide +kernel
theorem d_L_placeAbove_56 : decode c_L_placeAbove 56 = .ok (.if_icmp .gt 31, 3) := by decide +kernel
theorem d_L_placeAbove_59 : decode c_L_placeAbove 59 = .ok (.iload_n 3, 1) := by decide +kernel
theorem d_L_placeAbove_60 : decode c_L_placeAbove 60 = .ok (.ifCond .eq 12, 3) := by decide +kernel
theorem d_L_placeAbove_63 : decode c_L_placeAbove 63 = .ok (.aload_n 0, 1) := by decide +kernel
theorem d_L_placeAbove_64 : decode c_L_placeAbove 64 = .ok (.iload 7, 2) := by decide +kernel
theorem d_L_placeAbove_66 : decode c_L_placeAbove 66 = .ok (.invokevirtual 35, 3) := by decide +kernel
theorem d_L_placeAbove_69 : decode c_L_placeAbove 69 = .ok (.goto 9, 3) := by decide +kernel
theorem d_L_placeAbove_72 : decode c_L_placeAbove 72 = .ok (.aload_n 0, 1) := by decide +kernel
theorem d_L_placeAbove_73 : decode c_L_placeAbove 73 = .ok (.iload 7, 2) := by decide +kernel
theorem d_L_placeAbove_75 : decode c_L_placeAbove 75 = .ok (.invokevirtual 45, 3) := by decide +kernel
theorem d_L_placeAbove_78 : decode c_L_placeAbove 78 = .ok (.iload 4, 2) := by decide +kernel
theorem d_L_placeAbove_80 : decode c_L_placeAbove 80 = .ok (.if_icmp .gt 7, 3) := by decide +kernel
theorem d_L_placeAbove_83 : decode c_L_placeAbove 83 = .ok (.iload 7, 2) := by decide +kernel
theorem d_L_placeAbove_85 : decode c_L_placeAbove 85 = .ok (.istore 5, 2) := by decide +kernel
theorem d_L_placeAbove_87 : decode c_L_placeAbove 87 = .ok (.iload 6, 2) := by decide +kernel
theorem d_L_placeAbove_89 : decode c_L_placeAbove 89 = .ok (.iconst 2, 1) := by decide +kernel
theorem d_L_placeAbove_90 : decode c_L_placeAbove 90 = .ok (.idiv, 1) := by decide +kernel
theorem d_L_placeAbove_91 : decode c_L_placeAbove 91 = .ok (.istore 6, 2) := by decide +kernel
theorem d_L_placeAbove_93 : decode c_L_placeAbove 93 = .ok (.goto (-52), 3) := by decide +kernel
theorem d_L_placeAbove_96 : decode c_L_placeAbove 96 = .ok (.iload 5, 2) := by decide +kernel
theorem d_L_placeAbove_98 : decode c_L_placeAbove 98 = .ok (.ireturn, 1) := by decide +kernel
theorem d_I_highestOneBit_0 : decode c_I_highestOneBit 0 = .ok (.iload_n 0, 1) := by decide +kernel
theorem d_I_highestOneBit_1 : decode c_I_highestOneBit 1 = .ok (.ldc 127, 2) := by decide +kernel
theorem d_I_highestOneBit_3 : decode c_I_highestOneBit 3 = .ok (.iload_n 0, 1) := by decide +kernel
theorem d_I_highestOneBit_4 : decode c_I_highestOneBit 4 = .ok (.invokestatic 51, 3) := by decide +kernel
theorem d_I_highestOneBit_7 : decode c_I_highestOneBit 7 = .ok (.iushr, 1) := by decide +kernel
theorem d_I_highestOneBit_8 : decode c_I_highestOneBit 8 = .ok (.iand, 1) := by decide +kernel
theorem d_I_highestOneBit_9 : decode c_I_highestOneBit 9 = .ok (.ireturn, 1) := by decide +kernel
theorem d_P_zeros_0 : decode c_P_zeros 0 = .ok (.aload_n 0, 1) := by decide +kernel
theorem d_P_zeros_1 : decode c_P_zeros 1 = .ok (.getfield 25, 3) := by decide +kernel
theorem d_P_zeros_4 : decode c_P_zeros 4 = .ok (.aload_n 0, 1) := by decide +kernel
theorem d_P_zeros_5 : decode c_P_zeros 5 = .ok (.getfield 22, 3) := by decide +kernel
theorem d_P_zeros_8 : decode c_P_zeros 8 = .ok (.isub, 1) := by decide +kernel
theorem d_P_zeros_9 : decode c_P_zeros 9 = .ok (.ireturn, 1) := by decide +kernel
theorem d_A_fillI_0 : decode c_A_fillI 0 = .ok (.iconst 0, 1) := by decide +kernel
theorem d_A_fillI_1 : decode c_A_fillI 1 = .ok (.istore_n 2, 1) := by decide +kernel
theorem d_A_fillI_2 : decode c_A_fillI 2 = .ok (.aload_n 0, 1) := by decide +kernel
theorem d_A_fillI_3 : decode c_A_fillI 3 = .ok (.arraylength, 1) := by decide +kernel
theorem d_A_fillI_4 : decode c_A_fillI 4 = .ok (.istore_n 3, 1) := by decide +kernel
theorem d_A_fillI_5 : decode c_A_fillI 5 = .ok (.iload_n 2, 1) := by decide +kernel
theorem d_A_fillI_6 : decode c_A_fillI 6 = .ok (.iload_n 3, 1) := by decide +kernel
theorem d_A_fillI_7 : decode c_A_fillI 7 = .ok (.if_icmp .ge 13, 3) := by decide +kernel
theorem d_A_fillI_10 : decode c_A_fillI 10 = .ok (.aload_n 0, 1) := by decide +kernel
theorem d_A_fillI_11 : decode c_A_fillI 11 = .ok (.iload_n 2, 1) := by decide +kernel
theorem d_A_fillI_12 : decode c_A_fillI 12 = .ok (.iload_n 1, 1) := by decide +kernel
theorem d_A_fillI_13 : decode c_A_fillI 13 = .ok (.iastore, 1) := by decide +kernel
theorem d_A_fillI_14 : decode c_A_fillI 14 = .ok (.iinc 2 1, 3) := by decide +kernel
theorem d_A_fillI_17 : decode c_A_fillI 17 = .ok (.goto (-12), 3) := by decide +kernel
theorem d_A_fillI_20 : decode c_A_fillI 20 = .ok (.return_, 1) := by decide +kernel
end
section
theorem d_R_init_0 : decode c_R_init 0 = .ok (.aload_n 0, 1) := by decide +kernel
theorem d_R_init_1 : decode c_R_init 1 = .ok (.invokespecial 3, 3) := by decide +kernel
theorem d_R_init_4 : decode c_R_init 4 = .ok (.aload_n 0, 1) := by decide +kernel
theorem d_R_init_5 : decode c_R_init 5 = .ok (.sipush 1000, 3) := by decide +kernel
theorem d_R_init_8 : decode c_R_init 8 = .ok (.newarray .int, 2) := by decide +kernel
theorem d_R_init_10 : decode c_R_init 10 = .ok (.putfield 9, 3) := by decide +kernel
theorem d_R_init_13 : decode c_R_init 13 = .ok (.aload_n 0, 1) := by decide +kernel
theorem d_R_init_14 : decode c_R_init 14 = .ok (.sipush 1000, 3) := by decide +kernel
theorem d_R_init_17 : decode c_R_init 17 = .ok (.newarray .int, 2) := by decide +kernel
theorem d_R_init_19 : decode c_R_init 19 = .ok (.putfield 13, 3) := by decide +kernel
theorem d_R_init_22 : decode c_R_init 22 = .ok (.aload_n 0, 1) := by decide +kernel
theorem d_R_init_23 : decode c_R_init 23 = .ok (.new 16, 3) := by decide +kernel
theorem d_R_init_26 : decode c_R_init 26 = .ok (.dup, 1) := by decide +kernel
theorem d_R_init_27 : decode c_R_init 27 = .ok (.invokespecial 18, 3) := by decide +kernel
theorem d_R_init_30 : decode c_R_init 30 = .ok (.putfield 19, 3) := by decide +kernel
theorem d_R_init_33 : decode c_R_init 33 = .ok (.aload_n 0, 1) := by decide +kernel
theorem d_R_init_34 : decode c_R_init 34 = .ok (.sipush 1000, 3) := by decide +kernel
theorem d_R_init_37 : decode c_R_init 37 = .ok (.newarray .int, 2) := by decide +kernel
theorem d_R_init_39 : decode c_R_init 39 = .ok (.putfield 23, 3) := by decide +kernel
theorem d_R_init_42 : decode c_R_init 42 = .ok (.aload_n 0, 1) := by decide +kernel
theorem d_R_init_43 : decode c_R_init 43 = .ok (.sipush 1000, 3) := by decide +kernel
theorem d_R_init_46 : decode c_R_init 46 = .ok (.newarray .int, 2) := by decide +kernel
theorem d_R_init_48 : decode c_R_init 48 = .ok (.putfield 26, 3) := by decide +kernel
theorem d_R_init_51 : decode c_R_init 51 = .ok (.aload_n 0, 1) := by decide +kernel
theorem d_R_init_52 : decode c_R_init 52 = .ok (.sipush 1001, 3) := by decide +kernel
theorem d_R_init_55 : decode c_R_init 55 = .ok (.newarray .int, 2) := by decide +kernel
theorem d_R_init_57 : decode c_R_init 57 = .ok (.putfield 29, 3) := by decide +kernel
theorem d_R_init_60 : decode c_R_init 60 = .ok (.aload_n 0, 1) := by decide +kernel
theorem d_R_init_61 : decode c_R_init 61 = .ok (.iconst 1, 1) := by decide +kernel
theorem d_R_init_62 : decode c_R_init 62 = .ok (.ldc 32, 2) := by decide +kernel
theorem d_R_init_64 : decode c_R_init 64 = .ok (.iload_n 1, 1) := by decide +kernel
theorem d_R_init_65 : decode c_R_init 65 = .ok (.invokestatic 33, 3) := by decide +kernel
theorem d_R_init_68 : decode c_R_init 68 = .ok (.invokestatic 39, 3) := by decide +kernel
theorem d_R_init_71 : decode c_R_init 71 = .ok (.putfield 42, 3) := by decide +kernel
theorem d_R_init_74 : decode c_R_init 74 = .ok (.bipush 32, 2) := by decide +kernel
theorem d_R_init_76 : decode c_R_init 76 = .ok (.aload_n 0, 1) := by decide +kernel
theorem d_R_init_77 : decode c_R_init 77 = .ok (.getfield 42, 3) := by decide +kernel
theorem d_R_init_80 : decode c_R_init 80 = .ok (.iconst 1, 1) := by decide +kernel
theorem d_R_init_81 : decode c_R_init 81 = .ok (.isub, 1) := by decide +kernel
theorem d_R_init_82 : decode c_R_init 82 = .ok (.invokestatic 46, 3) := by decide +kernel
theorem d_R_init_85 : decode c_R_init 85 = .ok (.isub, 1) := by decide +kernel
theorem d_R_init_86 : decode c_R_init 86 = .ok (.istore_n 2, 1) := by decide +kernel
theorem d_R_init_87 : decode c_R_init 87 = .ok (.aload_n 0, 1) := by decide +kernel
theorem d_R_init_88 : decode c_R_init 88 = .ok (.iload_n 2, 1) := by decide +kernel
theorem d_R_init_89 : decode c_R_init 89 = .ok (.anewarray 52, 3) := by decide +kernel
theorem d_R_init_92 : decode c_R_init 92 = .ok (.putfield 54, 3) := by decide +kernel
theorem d_R_init_95 : decode c_R_init 95 = .ok (.iconst 0, 1) := by decide +kernel
theorem d_R_init_96 : decode c_R_init 96 = .ok (.istore_n 3, 1) := by decide +kernel
theorem d_R_init_97 : decode c_R_init 97 = .ok (.iload_n 3, 1) := by decide +kernel
theorem d_R_init_98 : decode c_R_init 98 = .ok (.iload_n 2, 1) := by decide +kernel
theorem d_R_init_99 : decode c_R_init 99 = .ok (.if_icmp .ge 22, 3) := by decide +kernel
theorem d_R_init_102 : decode c_R_init 102 = .ok (.aload_n 0, 1) := by decide +kernel
theorem d_R_init_103 : decode c_R_init 103 = .ok (.getfield 54, 3) := by decide +kernel
theorem d_R_init_106 : decode c_R_init 106 = .ok (.iload_n 3, 1) := by decide +kernel
theorem d_R_init_107 : decode c_R_init 107 = .ok (.new 52, 3) := by decide +kernel
theorem d_R_init_110 : decode c_R_init 110 = .ok (.dup, 1) := by decide +kernel
theorem d_R_init_111 : decode c_R_init 111 = .ok (.invokespecial 58, 3) := by decide +kernel
theorem d_R_init_114 : decode c_R_init 114 = .ok (.aastore, 1) := by decide +kernel
theorem d_R_init_115 : decode c_R_init 115 = .ok (.iinc 3 1, 3) := by decide +kernel
theorem d_R_init_118 : decode c_R_init 118 = .ok (.goto (-21), 3) := by decide +kernel
theorem d_R_init_121 : decode c_R_init 121 = .ok (.return_, 1) := by decide +kernel
theorem d_R_build_0 : decode c_R_build 0 = .ok (.aload_n 0, 1) := by decide +kernel
theorem d_R_build_1 : decode c_R_build 1 = .ok (.getfield 77, 3) := by decide +kernel
theorem d_R_build_4 : decode c_R_build 4 = .ok (.ifCond .le 52, 3) := by decide +kernel
theorem d_R_build_7 : decode c_R_build 7 = .ok (.iconst 0, 1) := by decide +kernel
theorem d_R_build_8 : decode c_R_build 8 = .ok (.istore_n 1, 1) := by decide +kernel
theorem d_R_build_9 : decode c_R_build 9 = .ok (.iload_n 1, 1) := by decide +kernel
theorem d_R_build_10 : decode c_R_build 10 = .ok (.aload_n 0, 1) := by decide +kernel
theorem d_R_build_11 : decode c_R_build 11 = .ok (.getfield 74, 3) := by decide +kernel
theorem d_R_build_14 : decode c_R_build 14 = .ok (.if_icmp .ge 20, 3) := by decide +kernel
theorem d_R_build_17 : decode c_R_build 17 = .ok (.aload_n 0, 1) := by decide +kernel
theorem d_R_build_18 : decode c_R_build 18 = .ok (.getfield 9, 3) := by decide +kernel
theorem d_R_build_21 : decode c_R_build 21 = .ok (.iload_n 1, 1) := by decide +kernel
theorem d_R_build_22 : decode c_R_build 22 = .ok (.aload_n 0, 1) := by decide +kernel
theorem d_R_build_23 : decode c_R_build 23 = .ok (.iload_n 1, 1) := by decide +kernel
theorem d_R_build_24 : decode c_R_build 24 = .ok (.invokevirtual 85, 3) := by decide +kernel
theorem d_R_build_27 : decode c_R_build 27 = .ok (.iastore, 1) := by decide +kernel
theorem d_R_build_28 : decode c_R_build 28 = .ok (.iinc 1 1, 3) := by decide +kernel
theorem d_R_build_31 : decode c_R_build 31 = .ok (.goto (-22), 3) := by decide +kernel
theorem d_R_build_34 : decode c_R_build 34 = .ok (.aload_n 0, 1) := by decide +kernel
theorem d_R_build_35 : decode c_R_build 35 = .ok (.dup, 1) := by decide +kernel
theorem d_R_build_36 : decode c_R_build 36 = .ok (.getfield 74, 3) := by decide +kernel
theorem d_R_build_39 : decode c_R_build 39 = .ok (.aload_n 0, 1) := by decide +kernel
theorem d_R_build_40 : decode c_R_build 40 = .ok (.getfield 77, 3) := by decide +kernel
theorem d_R_build_43 : decode c_R_build 43 = .ok (.iadd, 1) := by decide +kernel
theorem d_R_build_44 : decode c_R_build 44 = .ok (.putfield 74, 3) := by decide +kernel
theorem d_R_build_47 : decode c_R_build 47 = .ok (.aload_n 0, 1) := by decide +kernel
theorem d_R_build_48 : decode c_R_build 48 = .ok (.iconst 0, 1) := by decide +kernel
theorem d_R_build_49 : decode c_R_build 49 = .ok (.putfield 77, 3) := by decide +kernel
theorem d_R_build_52 : decode c_R_build 52 = .ok (.aload_n 0, 1) := by decide +kernel
theorem d_R_build_53 : decode c_R_build 53 = .ok (.invokevirtual 88, 3) := by decide +kernel
theorem d_R_build_56 : decode c_R_build 56 = .ok (.aload_n 0, 1) := by decide +kernel
theorem d_R_build_57 : decode c_R_build 57 = .ok (.getfield 74, 3) := by decide +kernel
theorem d_R_build_60 : decode c_R_build 60 = .ok (.ireturn, 1) := by decide +kernel
theorem d_R_symbolAt_0 : decode c_R_symbolAt 0 = .ok (.iconst 0, 1) := by decide +kernel
theorem d_R_symbolAt_1 : decode c_R_symbolAt 1 = .ok (.istore_n 2, 1) := by decide +kernel
theorem d_R_symbolAt_2 : decode c_R_symbolAt 2 = .ok (.iload_n 1, 1) := by decide +kernel
theorem d_R_symbolAt_3 : decode c_R_symbolAt 3 = .ok (.istore_n 3, 1) := by decide +kernel
theorem d_R_symbolAt_4 : decode c_R_symbolAt 4 = .ok (.iconst 0, 1) := by decide +kernel
theorem d_R_symbolAt_5 : decode c_R_symbolAt 5 = .ok (.istore 4, 2) := by decide +kernel
theorem d_R_symbolAt_7 : decode c_R_symbolAt 7 = .ok (.iload 4, 2) := by decide +kernel
theorem d_R_symbolAt_9 : decode c_R_symbolAt 9 = .ok (.aload_n 0, 1) := by decide +kernel
theorem d_R_symbolAt_10 : decode c_R_symbolAt 10 = .ok (.getfield 54, 3) := by decide +kernel
theorem d_R_symbolAt_13 : decode c_R_symbolAt 13 = .ok (.arraylength, 1) := by decide +kernel
theorem d_R_symbolAt_14 : decode c_R_symbolAt 14 = .ok (.if_icmp .ge 43, 3) := by decide +kernel
theorem d_R_symbolAt_17 : decode c_R_symbolAt 17 = .ok (.aload_n 0, 1) := by decide +kernel
theorem d_R_symbolAt_18 : decode c_R_symbolAt 18 = .ok (.getfield 54, 3) := by decide +kernel
theorem d_R_symbolAt_21 : decode c_R_symbolAt 21 = .ok (.iload 4, 2) := by decide +kernel
theorem d_R_symbolAt_23 : decode c_R_symbolAt 23 = .ok (.aaload, 1) := by decide +kernel
theorem d_R_symbolAt_24 : decode c_R_symbolAt 24 = .ok (.iload_n 3, 1) := by decide +kernel
theorem d_R_symbolAt_25 : decode c_R_symbolAt 25 = .ok (.invokevirtual 150, 3) := by decide +kernel
theorem d_R_symbolAt_28 : decode c_R_symbolAt 28 = .ok (.istore 5, 2) := by decide +kernel
theorem d_R_symbolAt_30 : decode c_R_symbolAt 30 = .ok (.iload_n 2, 1) := by decide +kernel
theorem d_R_symbolAt_31 : decode c_R_symbolAt 31 = .ok (.iconst 1, 1) := by decide +kernel
theorem d_R_symbolAt_32 : decode c_R_symbolAt 32 = .ok (.ishl, 1) := by decide +kernel
theorem d_R_symbolAt_33 : decode c_R_symbolAt 33 = .ok (.iload 5, 2) := by decide +kernel
theorem d_R_symbolAt_35 : decode c_R_symbolAt 35 = .ok (.ior, 1) := by decide +kernel
theorem d_R_symbolAt_36 : decode c_R_symbolAt 36 = .ok (.istore_n 2, 1) := by decide +kernel
theorem d_R_symbolAt_37 : decode c_R_symbolAt 37 = .ok (.aload_n 0, 1) := by decide +kernel
theorem d_R_symbolAt_38 : decode c_R_symbolAt 38 = .ok (.getfield 54, 3) := by decide +kernel
theorem d_R_symbolAt_41 : decode c_R_symbolAt 41 = .ok (.iload 4, 2) := by decide +kernel
theorem d_R_symbolAt_43 : decode c_R_symbolAt 43 = .ok (.aaload, 1) := by decide +kernel
theorem d_R_symbolAt_44 : decode c_R_symbolAt 44 = .ok (.iload 5, 2) := by decide +kernel
theorem d_R_symbolAt_46 : decode c_R_symbolAt 46 = .ok (.iload_n 3, 1) := by decide +kernel
theorem d_R_symbolAt_47 : decode c_R_symbolAt 47 = .ok (.invokevirtual 153, 3) := by decide +kernel
theorem d_R_symbolAt_50 : decode c_R_symbolAt 50 = .ok (.istore_n 3, 1) := by decide +kernel
theorem d_R_symbolAt_51 : decode c_R_symbolAt 51 = .ok (.iinc 4 1, 3) := by decide +kernel
theorem d_R_symbolAt_54 : decode c_R_symbolAt 54 = .ok (.goto (-47), 3) := by decide +kernel
theorem d_R_symbolAt_57 : decode c_R_symbolAt 57 = .ok (.iload_n 2, 1) := by decide +kernel
theorem d_R_symbolAt_58 : decode c_R_symbolAt 58 = .ok (.ireturn, 1) := by decide +kernel
theorem d_R_storeLevels_0 : decode c_R_storeLevels 0 = .ok (.iconst 0, 1) := by decide +kernel
theorem d_R_storeLevels_1 : decode c_R_storeLevels 1 = .ok (.istore_n 1, 1) := by decide +kernel
theorem d_R_storeLevels_2 : decode c_R_storeLevels 2 = .ok (.iload_n 1, 1) := by decide +kernel
theorem d_R_storeLevels_3 : decode c_R_storeLevels 3 = .ok (.aload_n 0, 1) := by decide +kernel
theorem d_R_storeLevels_4 : decode c_R_storeLevels 4 = .ok (.getfield 54, 3) := by decide +kernel
theorem d_R_storeLevels_7 : decode c_R_storeLevels 7 = .ok (.arraylength, 1) := by decide +kernel
theorem d_R_storeLevels_8 : decode c_R_storeLevels 8 = .ok (.if_icmp .ge 35, 3) := by decide +kernel
theorem d_R_storeLevels_11 : decode c_R_storeLevels 11 = .ok (.aload_n 0, 1) := by decide +kernel
theorem d_R_storeLevels_12 : decode c_R_storeLevels 12 = .ok (.getfield 54, 3) := by decide +kernel
theorem d_R_storeLevels_15 : decode c_R_storeLevels 15 = .ok (.iload_n 1, 1) := by decide +kernel
theorem d_R_storeLevels_16 : decode c_R_storeLevels 16 = .ok (.aaload, 1) := by decide +kernel
theorem d_R_storeLevels_17 : decode c_R_storeLevels 17 = .ok (.aload_n 0, 1) := by decide +kernel
theorem d_R_storeLevels_18 : decode c_R_storeLevels 18 = .ok (.getfield 9, 3) := by decide +kernel
theorem d_R_storeLevels_21 : decode c_R_storeLevels 21 = .ok (.aload_n 0, 1) := by decide +kernel
theorem d_R_storeLevels_22 : decode c_R_storeLevels 22 = .ok (.getfield 74, 3) := by decide +kernel
theorem d_R_storeLevels_25 : decode c_R_storeLevels 25 = .ok (.aload_n 0, 1) := by decide +kernel
theorem d_R_storeLevels_26 : decode c_R_storeLevels 26 = .ok (.iload_n 1, 1) := by decide +kernel
theorem d_R_storeLevels_27 : decode c_R_storeLevels 27 = .ok (.invokevirtual 143, 3) := by decide +kernel
theorem d_R_storeLevels_30 : decode c_R_storeLevels 30 = .ok (.aload_n 0, 1) := by decide +kernel
theorem d_R_storeLevels_31 : decode c_R_storeLevels 31 = .ok (.getfield 13, 3) := by decide +kernel
theorem d_R_storeLevels_34 : decode c_R_storeLevels 34 = .ok (.invokevirtual 146, 3) := by decide +kernel
theorem d_R_storeLevels_37 : decode c_R_storeLevels 37 = .ok (.iinc 1 1, 3) := by decide +kernel
theorem d_R_storeLevels_40 : decode c_R_storeLevels 40 = .ok (.goto (-38), 3) := by decide +kernel
theorem d_R_storeLevels_43 : decode c_R_storeLevels 43 = .ok (.return_, 1) := by decide +kernel
theorem d_R_shiftOf_0 : decode c_R_shiftOf 0 = .ok (.aload_n 0, 1) := by decide +kernel
theorem d_R_shiftOf_1 : decode c_R_shiftOf 1 = .ok (.getfield 54, 3) := by decide +kernel
theorem d_R_shiftOf_4 : decode c_R_shiftOf 4 = .ok (.arraylength, 1) := by decide +kernel
theorem d_R_shiftOf_5 : decode c_R_shiftOf 5 = .ok (.iconst 1, 1) := by decide +kernel
theorem d_R_shiftOf_6 : decode c_R_shiftOf 6 = .ok (.isub, 1) := by decide +kernel
theorem d_R_shiftOf_7 : decode c_R_shiftOf 7 = .ok (.iload_n 1, 1) := by decide +kernel
theorem d_R_shiftOf_8 : decode c_R_shiftOf 8 = .ok (.isub, 1) := by decide +kernel
theorem d_R_shiftOf_9 : decode c_R_shiftOf 9 = .ok (.ireturn, 1) := by decide +kernel
theorem d_R_bits_0 : decode c_R_bits 0 = .ok (.aload_n 0, 1) := by decide +kernel
theorem d_R_bits_1 : decode c_R_bits 1 = .ok (.getfield 74, 3) := by decide +kernel
theorem d_R_bits_4 : decode c_R_bits 4 = .ok (.bipush 64, 2) := by decide +kernel
theorem d_R_bits_6 : decode c_R_bits 6 = .ok (.iadd, 1) := by decide +kernel
theorem d_R_bits_7 : decode c_R_bits 7 = .ok (.iconst 1, 1) := by decide +kernel
theorem d_R_bits_8 : decode c_R_bits 8 = .ok (.isub, 1) := by decide +kernel
theorem d_R_bits_9 : decode c_R_bits 9 = .ok (.bipush 64, 2) := by decide +kernel
theorem d_R_bits_11 : decode c_R_bits 11 = .ok (.idiv, 1) := by decide +kernel
theorem d_R_bits_12 : decode c_R_bits 12 = .ok (.istore_n 1, 1) := by decide +kernel
theorem d_R_bits_13 : decode c_R_bits 13 = .ok (.aload_n 0, 1) := by decide +kernel
theorem d_R_bits_14 : decode c_R_bits 14 = .ok (.getfield 54, 3) := by decide +kernel
theorem d_R_bits_17 : decode c_R_bits 17 = .ok (.arraylength, 1) := by decide +kernel
theorem d_R_bits_18 : decode c_R_bits 18 = .ok (.iload_n 1, 1) := by decide +kernel
theorem d_R_bits_19 : decode c_R_bits 19 = .ok (.bipush 80, 2) := by decide +kernel
theorem d_R_bits_21 : decode c_R_bits 21 = .ok (.imul, 1) := by decide +kernel
theorem d_R_bits_22 : decode c_R_bits 22 = .ok (.bipush 32, 2) := by decide +kernel
theorem d_R_bits_24 : decode c_R_bits 24 = .ok (.iadd, 1) := by decide +kernel
theorem d_R_bits_25 : decode c_R_bits 25 = .ok (.imul, 1) := by decide +kernel
theorem d_R_bits_26 : decode c_R_bits 26 = .ok (.ireturn, 1) := by decide +kernel
theorem d_R_clear_0 : decode c_R_clear 0 = .ok (.aload_n 0, 1) := by decide +kernel
theorem d_R_clear_1 : decode c_R_clear 1 = .ok (.iconst 0, 1) := by decide +kernel
theorem d_R_clear_2 : decode c_R_clear 2 = .ok (.putfield 74, 3) := by decide +kernel
theorem d_R_clear_5 : decode c_R_clear 5 = .ok (.aload_n 0, 1) := by decide +kernel
theorem d_R_clear_6 : decode c_R_clear 6 = .ok (.iconst 0, 1) := by decide +kernel
theorem d_R_clear_7 : decode c_R_clear 7 = .ok (.putfield 77, 3) := by decide +kernel
theorem d_R_clear_10 : decode c_R_clear 10 = .ok (.aload_n 0, 1) := by decide +kernel
theorem d_R_clear_11 : decode c_R_clear 11 = .ok (.invokevirtual 88, 3) := by decide +kernel
theorem d_R_clear_14 : decode c_R_clear 14 = .ok (.return_, 1) := by decide +kernel
theorem d_R_put_0 : decode c_R_put 0 = .ok (.iload 6, 2) := by decide +kernel
theorem d_R_put_2 : decode c_R_put 2 = .ok (.bipush 10, 2) := by decide +kernel
theorem d_R_put_4 : decode c_R_put 4 = .ok (.invokestatic 33, 3) := by decide +kernel
theorem d_R_put_7 : decode c_R_put 7 = .ok (.istore 7, 2) := by decide +kernel
theorem d_R_put_9 : decode c_R_put 9 = .ok (.iconst 0, 1) := by decide +kernel
theorem d_R_put_10 : decode c_R_put 10 = .ok (.istore 8, 2) := by decide +kernel
theorem d_R_put_12 : decode c_R_put 12 = .ok (.iload 8, 2) := by decide +kernel
theorem d_R_put_14 : decode c_R_put 14 = .ok (.iload 7, 2) := by decide +kernel
theorem d_R_put_16 : decode c_R_put 16 = .ok (.if_icmp .ge 25, 3) := by decide +kernel
theorem d_R_put_19 : decode c_R_put 19 = .ok (.aload_n 0, 1) := by decide +kernel
theorem d_R_put_20 : decode c_R_put 20 = .ok (.iload 8, 2) := by decide +kernel
theorem d_R_put_22 : decode c_R_put 22 = .ok (.iload_n 1, 1) := by decide +kernel
theorem d_R_put_23 : decode c_R_put 23 = .ok (.iload_n 2, 1) := by decide +kernel
theorem d_R_put_24 : decode c_R_put 24 = .ok (.iload_n 3, 1) := by decide +kernel
theorem d_R_put_25 : decode c_R_put 25 = .ok (.iload 4, 2) := by decide +kernel
theorem d_R_put_27 : decode c_R_put 27 = .ok (.iload 5, 2) := by decide +kernel
theorem d_R_put_29 : decode c_R_put 29 = .ok (.invokestatic 59, 3) := by decide +kernel
theorem d_R_put_32 : decode c_R_put 32 = .ok (.invokevirtual 63, 3) := by decide +kernel
theorem d_R_put_35 : decode c_R_put 35 = .ok (.iinc 8 1, 3) := by decide +kernel
theorem d_R_put_38 : decode c_R_put 38 = .ok (.goto (-26), 3) := by decide +kernel
theorem d_R_put_41 : decode c_R_put 41 = .ok (.iload 6, 2) := by decide +kernel
theorem d_R_put_43 : decode c_R_put 43 = .ok (.iconst 1, 1) := by decide +kernel
theorem d_R_put_44 : decode c_R_put 44 = .ok (.if_icmp .lt 10, 3) := by decide +kernel
theorem d_R_put_47 : decode c_R_put 47 = .ok (.iload 6, 2) := by decide +kernel
theorem d_R_put_49 : decode c_R_put 49 = .ok (.bipush 10, 2) := by decide +kernel
theorem d_R_put_51 : decode c_R_put 51 = .ok (.if_icmp .le 13, 3) := by decide +kernel
theorem d_R_put_54 : decode c_R_put 54 = .ok (.new 67, 3) := by decide +kernel
theorem d_R_put_57 : decode c_R_put 57 = .ok (.dup, 1) := by decide +kernel
theorem d_R_put_58 : decode c_R_put 58 = .ok (.ldc 69, 2) := by decide +kernel
theorem d_R_put_60 : decode c_R_put 60 = .ok (.invokespecial 71, 3) := by decide +kernel
theorem d_R_put_63 : decode c_R_put 63 = .ok (.athrow, 1) := by decide +kernel
theorem d_R_put_64 : decode c_R_put 64 = .ok (.iload 6, 2) := by decide +kernel
theorem d_R_put_66 : decode c_R_put 66 = .ok (.sipush 1000, 3) := by decide +kernel
theorem d_R_put_69 : decode c_R_put 69 = .ok (.aload_n 0, 1) := by decide +kernel
theorem d_R_put_70 : decode c_R_put 70 = .ok (.getfield 74, 3) := by decide +kernel
theorem d_R_put_73 : decode c_R_put 73 = .ok (.isub, 1) := by decide +kernel
theorem d_R_put_74 : decode c_R_put 74 = .ok (.aload_n 0, 1) := by decide +kernel
theorem d_R_put_75 : decode c_R_put 75 = .ok (.getfield 77, 3) := by decide +kernel
theorem d_R_put_78 : decode c_R_put 78 = .ok (.isub, 1) := by decide +kernel
theorem d_R_put_79 : decode c_R_put 79 = .ok (.if_icmp .le 13, 3) := by decide +kernel
theorem d_R_put_82 : decode c_R_put 82 = .ok (.new 80, 3) := by decide +kernel
theorem d_R_put_85 : decode c_R_put 85 = .ok (.dup, 1) := by decide +kernel
theorem d_R_put_86 : decode c_R_put 86 = .ok (.ldc 82, 2) := by decide +kernel
theorem d_R_put_88 : decode c_R_put 88 = .ok (.invokespecial 84, 3) := by decide +kernel
theorem d_R_put_91 : decode c_R_put 91 = .ok (.athrow, 1) := by decide +kernel
theorem d_R_put_92 : decode c_R_put 92 = .ok (.iconst 0, 1) := by decide +kernel
theorem d_R_put_93 : decode c_R_put 93 = .ok (.istore 8, 2) := by decide +kernel
theorem d_R_put_95 : decode c_R_put 95 = .ok (.iload 8, 2) := by decide +kernel
theorem d_R_put_97 : decode c_R_put 97 = .ok (.iload 6, 2) := by decide +kernel
theorem d_R_put_99 : decode c_R_put 99 = .ok (.if_icmp .ge 38, 3) := by decide +kernel
theorem d_R_put_102 : decode c_R_put 102 = .ok (.aload_n 0, 1) := by decide +kernel
theorem d_R_put_103 : decode c_R_put 103 = .ok (.getfield 9, 3) := by decide +kernel
theorem d_R_put_106 : decode c_R_put 106 = .ok (.aload_n 0, 1) := by decide +kernel
theorem d_R_put_107 : decode c_R_put 107 = .ok (.getfield 74, 3) := by decide +kernel
theorem d_R_put_110 : decode c_R_put 110 = .ok (.aload_n 0, 1) := by decide +kernel
theorem d_R_put_111 : decode c_R_put 111 = .ok (.getfield 77, 3) := by decide +kernel
theorem d_R_put_114 : decode c_R_put 114 = .ok (.iadd, 1) := by decide +kernel
theorem d_R_put_115 : decode c_R_put 115 = .ok (.iload 8, 2) := by decide +kernel
theorem d_R_put_117 : decode c_R_put 117 = .ok (.iadd, 1) := by decide +kernel
theorem d_R_put_118 : decode c_R_put 118 = .ok (.iload 8, 2) := by decide +kernel
theorem d_R_put_120 : decode c_R_put 120 = .ok (.iload_n 1, 1) := by decide +kernel
theorem d_R_put_121 : decode c_R_put 121 = .ok (.iload_n 2, 1) := by decide +kernel
theorem d_R_put_122 : decode c_R_put 122 = .ok (.iload_n 3, 1) := by decide +kernel
theorem d_R_put_123 : decode c_R_put 123 = .ok (.iload 4, 2) := by decide +kernel
theorem d_R_put_125 : decode c_R_put 125 = .ok (.iload 5, 2) := by decide +kernel
theorem d_R_put_127 : decode c_R_put 127 = .ok (.invokestatic 59, 3) := by decide +kernel
theorem d_R_put_130 : decode c_R_put 130 = .ok (.iastore, 1) := by decide +kernel
theorem d_R_put_131 : decode c_R_put 131 = .ok (.iinc 8 1, 3) := by decide +kernel
theorem d_R_put_134 : decode c_R_put 134 = .ok (.goto (-39), 3) := by decide +kernel
theorem d_R_put_137 : decode c_R_put 137 = .ok (.aload_n 0, 1) := by decide +kernel
theorem d_R_put_138 : decode c_R_put 138 = .ok (.dup, 1) := by decide +kernel
theorem d_R_put_139 : decode c_R_put 139 = .ok (.getfield 77, 3) := by decide +kernel
theorem d_R_put_142 : decode c_R_put 142 = .ok (.iload 6, 2) := by decide +kernel
theorem d_R_put_144 : decode c_R_put 144 = .ok (.iadd, 1) := by decide +kernel
theorem d_R_put_145 : decode c_R_put 145 = .ok (.putfield 77, 3) := by decide +kernel
theorem d_R_put_148 : decode c_R_put 148 = .ok (.aload_n 0, 1) := by decide +kernel
theorem d_R_put_149 : decode c_R_put 149 = .ok (.getfield 77, 3) := by decide +kernel
theorem d_R_put_152 : decode c_R_put 152 = .ok (.ireturn, 1) := by decide +kernel
theorem d_R_symbolInPut_0 : decode c_R_symbolInPut 0 = .ok (.iload_n 0, 1) := by decide +kernel
theorem d_R_symbolInPut_1 : decode c_R_symbolInPut 1 = .ok (.iconst 2, 1) := by decide +kernel
theorem d_R_symbolInPut_2 : decode c_R_symbolInPut 2 = .ok (.idiv, 1) := by decide +kernel
theorem d_R_symbolInPut_3 : decode c_R_symbolInPut 3 = .ok (.tableswitch 54 0 3 #[29, 35, 41, 47], 29) := by decide +kernel
theorem d_R_symbolInPut_32 : decode c_R_symbolInPut 32 = .ok (.iload_n 1, 1) := by decide +kernel
theorem d_R_symbolInPut_33 : decode c_R_symbolInPut 33 = .ok (.istore 6, 2) := by decide +kernel
theorem d_R_symbolInPut_35 : decode c_R_symbolInPut 35 = .ok (.goto 26, 3) := by decide +kernel
theorem d_R_symbolInPut_38 : decode c_R_symbolInPut 38 = .ok (.iload_n 2, 1) := by decide +kernel
theorem d_R_symbolInPut_39 : decode c_R_symbolInPut 39 = .ok (.istore 6, 2) := by decide +kernel
theorem d_R_symbolInPut_41 : decode c_R_symbolInPut 41 = .ok (.goto 20, 3) := by decide +kernel
theorem d_R_symbolInPut_44 : decode c_R_symbolInPut 44 = .ok (.iload_n 3, 1) := by decide +kernel
theorem d_R_symbolInPut_45 : decode c_R_symbolInPut 45 = .ok (.istore 6, 2) := by decide +kernel
theorem d_R_symbolInPut_47 : decode c_R_symbolInPut 47 = .ok (.goto 14, 3) := by decide +kernel
theorem d_R_symbolInPut_50 : decode c_R_symbolInPut 50 = .ok (.iload 4, 2) := by decide +kernel
theorem d_R_symbolInPut_52 : decode c_R_symbolInPut 52 = .ok (.istore 6, 2) := by decide +kernel
theorem d_R_symbolInPut_54 : decode c_R_symbolInPut 54 = .ok (.goto 7, 3) := by decide +kernel
theorem d_R_symbolInPut_57 : decode c_R_symbolInPut 57 = .ok (.iload 5, 2) := by decide +kernel
theorem d_R_symbolInPut_59 : decode c_R_symbolInPut 59 = .ok (.istore 6, 2) := by decide +kernel
theorem d_R_symbolInPut_61 : decode c_R_symbolInPut 61 = .ok (.iload_n 0, 1) := by decide +kernel
theorem d_R_symbolInPut_62 : decode c_R_symbolInPut 62 = .ok (.iconst 2, 1) := by decide +kernel
theorem d_R_symbolInPut_63 : decode c_R_symbolInPut 63 = .ok (.irem, 1) := by decide +kernel
theorem d_R_symbolInPut_64 : decode c_R_symbolInPut 64 = .ok (.ifCond .ne 11, 3) := by decide +kernel
theorem d_R_symbolInPut_67 : decode c_R_symbolInPut 67 = .ok (.iload 6, 2) := by decide +kernel
theorem d_R_symbolInPut_69 : decode c_R_symbolInPut 69 = .ok (.bipush 16, 2) := by decide +kernel
theorem d_R_symbolInPut_71 : decode c_R_symbolInPut 71 = .ok (.iushr, 1) := by decide +kernel
theorem d_R_symbolInPut_72 : decode c_R_symbolInPut 72 = .ok (.goto 8, 3) := by decide +kernel
theorem d_R_symbolInPut_75 : decode c_R_symbolInPut 75 = .ok (.iload 6, 2) := by decide +kernel
theorem d_R_symbolInPut_77 : decode c_R_symbolInPut 77 = .ok (.ldc 142, 2) := by decide +kernel
theorem d_R_symbolInPut_79 : decode c_R_symbolInPut 79 = .ok (.iand, 1) := by decide +kernel
theorem d_R_symbolInPut_80 : decode c_R_symbolInPut 80 = .ok (.ireturn, 1) := by decide +kernel
theorem d_R_checkSymbol_0 : decode c_R_checkSymbol 0 = .ok (.iload_n 1, 1) := by decide +kernel
theorem d_R_checkSymbol_1 : decode c_R_checkSymbol 1 = .ok (.ifCond .lt 11, 3) := by decide +kernel
theorem d_R_checkSymbol_4 : decode c_R_checkSymbol 4 = .ok (.iload_n 1, 1) := by decide +kernel
theorem d_R_checkSymbol_5 : decode c_R_checkSymbol 5 = .ok (.aload_n 0, 1) := by decide +kernel
theorem d_R_checkSymbol_6 : decode c_R_checkSymbol 6 = .ok (.getfield 42, 3) := by decide +kernel
theorem d_R_checkSymbol_9 : decode c_R_checkSymbol 9 = .ok (.if_icmp .lt 13, 3) := by decide +kernel
theorem d_R_checkSymbol_12 : decode c_R_checkSymbol 12 = .ok (.new 91, 3) := by decide +kernel
theorem d_R_checkSymbol_15 : decode c_R_checkSymbol 15 = .ok (.dup, 1) := by decide +kernel
theorem d_R_checkSymbol_16 : decode c_R_checkSymbol 16 = .ok (.ldc 136, 2) := by decide +kernel
theorem d_R_checkSymbol_18 : decode c_R_checkSymbol 18 = .ok (.invokespecial 95, 3) := by decide +kernel
theorem d_R_checkSymbol_21 : decode c_R_checkSymbol 21 = .ok (.athrow, 1) := by decide +kernel
theorem d_R_checkSymbol_22 : decode c_R_checkSymbol 22 = .ok (.return_, 1) := by decide +kernel
theorem d_R_at_0 : decode c_R_at 0 = .ok (.iload_n 1, 1) := by decide +kernel
theorem d_R_at_1 : decode c_R_at 1 = .ok (.ifCond .lt 11, 3) := by decide +kernel
theorem d_R_at_4 : decode c_R_at 4 = .ok (.iload_n 1, 1) := by decide +kernel
theorem d_R_at_5 : decode c_R_at 5 = .ok (.aload_n 0, 1) := by decide +kernel
theorem d_R_at_6 : decode c_R_at 6 = .ok (.getfield 74, 3) := by decide +kernel
theorem d_R_at_9 : decode c_R_at 9 = .ok (.if_icmp .lt 13, 3) := by decide +kernel
theorem d_R_at_12 : decode c_R_at 12 = .ok (.new 91, 3) := by decide +kernel
theorem d_R_at_15 : decode c_R_at 15 = .ok (.dup, 1) := by decide +kernel
theorem d_R_at_16 : decode c_R_at 16 = .ok (.ldc 93, 2) := by decide +kernel
theorem d_R_at_18 : decode c_R_at 18 = .ok (.invokespecial 95, 3) := by decide +kernel
theorem d_R_at_21 : decode c_R_at 21 = .ok (.athrow, 1) := by decide +kernel
theorem d_R_at_22 : decode c_R_at 22 = .ok (.aload_n 0, 1) := by decide +kernel
theorem d_R_at_23 : decode c_R_at 23 = .ok (.iload_n 1, 1) := by decide +kernel
theorem d_R_at_24 : decode c_R_at 24 = .ok (.invokevirtual 85, 3) := by decide +kernel
theorem d_R_at_27 : decode c_R_at 27 = .ok (.ireturn, 1) := by decide +kernel
theorem d_R_rank_0 : decode c_R_rank 0 = .ok (.aload_n 0, 1) := by decide +kernel
theorem d_R_rank_1 : decode c_R_rank 1 = .ok (.iload_n 1, 1) := by decide +kernel
theorem d_R_rank_2 : decode c_R_rank 2 = .ok (.invokevirtual 63, 3) := by decide +kernel
theorem d_R_rank_5 : decode c_R_rank 5 = .ok (.aload_n 0, 1) := by decide +kernel
theorem d_R_rank_6 : decode c_R_rank 6 = .ok (.iconst 0, 1) := by decide +kernel
theorem d_R_rank_7 : decode c_R_rank 7 = .ok (.iload_n 2, 1) := by decide +kernel
theorem d_R_rank_8 : decode c_R_rank 8 = .ok (.invokevirtual 96, 3) := by decide +kernel
theorem d_R_rank_11 : decode c_R_rank 11 = .ok (.aload_n 0, 1) := by decide +kernel
theorem d_R_rank_12 : decode c_R_rank 12 = .ok (.getfield 19, 3) := by decide +kernel
theorem d_R_rank_15 : decode c_R_rank 15 = .ok (.iconst 0, 1) := by decide +kernel
theorem d_R_rank_16 : decode c_R_rank 16 = .ok (.iload_n 2, 1) := by decide +kernel
theorem d_R_rank_17 : decode c_R_rank 17 = .ok (.invokevirtual 100, 3) := by decide +kernel
theorem d_R_rank_20 : decode c_R_rank 20 = .ok (.aload_n 0, 1) := by decide +kernel
theorem d_R_rank_21 : decode c_R_rank 21 = .ok (.iload_n 1, 1) := by decide +kernel
theorem d_R_rank_22 : decode c_R_rank 22 = .ok (.invokevirtual 103, 3) := by decide +kernel
theorem d_R_rank_25 : decode c_R_rank 25 = .ok (.aload_n 0, 1) := by decide +kernel
theorem d_R_rank_26 : decode c_R_rank 26 = .ok (.getfield 19, 3) := by decide +kernel
theorem d_R_rank_29 : decode c_R_rank 29 = .ok (.invokevirtual 106, 3) := by decide +kernel
theorem d_R_rank_32 : decode c_R_rank 32 = .ok (.ireturn, 1) := by decide +kernel
theorem d_R_checkPart_0 : decode c_R_checkPart 0 = .ok (.iload_n 1, 1) := by decide +kernel
theorem d_R_checkPart_1 : decode c_R_checkPart 1 = .ok (.ifCond .lt 16, 3) := by decide +kernel
theorem d_R_checkPart_4 : decode c_R_checkPart 4 = .ok (.iload_n 2, 1) := by decide +kernel
theorem d_R_checkPart_5 : decode c_R_checkPart 5 = .ok (.iload_n 1, 1) := by decide +kernel
theorem d_R_checkPart_6 : decode c_R_checkPart 6 = .ok (.if_icmp .lt 11, 3) := by decide +kernel
theorem d_R_checkPart_9 : decode c_R_checkPart 9 = .ok (.iload_n 2, 1) := by decide +kernel
theorem d_R_checkPart_10 : decode c_R_checkPart 10 = .ok (.aload_n 0, 1) := by decide +kernel
theorem d_R_checkPart_11 : decode c_R_checkPart 11 = .ok (.getfield 74, 3) := by decide +kernel
theorem d_R_checkPart_14 : decode c_R_checkPart 14 = .ok (.if_icmp .le 13, 3) := by decide +kernel
theorem d_R_checkPart_17 : decode c_R_checkPart 17 = .ok (.new 91, 3) := by decide +kernel
theorem d_R_checkPart_20 : decode c_R_checkPart 20 = .ok (.dup, 1) := by decide +kernel
theorem d_R_checkPart_21 : decode c_R_checkPart 21 = .ok (.ldc 138, 2) := by decide +kernel
theorem d_R_checkPart_23 : decode c_R_checkPart 23 = .ok (.invokespecial 95, 3) := by decide +kernel
theorem d_R_checkPart_26 : decode c_R_checkPart 26 = .ok (.athrow, 1) := by decide +kernel
theorem d_R_checkPart_27 : decode c_R_checkPart 27 = .ok (.return_, 1) := by decide +kernel
theorem d_R_descendTo_0 : decode c_R_descendTo 0 = .ok (.iconst 0, 1) := by decide +kernel
theorem d_R_descendTo_1 : decode c_R_descendTo 1 = .ok (.istore_n 2, 1) := by decide +kernel
theorem d_R_descendTo_2 : decode c_R_descendTo 2 = .ok (.iload_n 2, 1) := by decide +kernel
theorem d_R_descendTo_3 : decode c_R_descendTo 3 = .ok (.aload_n 0, 1) := by decide +kernel
theorem d_R_descendTo_4 : decode c_R_descendTo 4 = .ok (.getfield 54, 3) := by decide +kernel
theorem d_R_descendTo_7 : decode c_R_descendTo 7 = .ok (.arraylength, 1) := by decide +kernel
theorem d_R_descendTo_8 : decode c_R_descendTo 8 = .ok (.if_icmp .ge 38, 3) := by decide +kernel
theorem d_R_descendTo_11 : decode c_R_descendTo 11 = .ok (.aload_n 0, 1) := by decide +kernel
theorem d_R_descendTo_12 : decode c_R_descendTo 12 = .ok (.getfield 19, 3) := by decide +kernel
theorem d_R_descendTo_15 : decode c_R_descendTo 15 = .ok (.aload_n 0, 1) := by decide +kernel
theorem d_R_descendTo_16 : decode c_R_descendTo 16 = .ok (.getfield 54, 3) := by decide +kernel
theorem d_R_descendTo_19 : decode c_R_descendTo 19 = .ok (.iload_n 2, 1) := by decide +kernel
theorem d_R_descendTo_20 : decode c_R_descendTo 20 = .ok (.aaload, 1) := by decide +kernel
theorem d_R_descendTo_21 : decode c_R_descendTo 21 = .ok (.invokevirtual 156, 3) := by decide +kernel
theorem d_R_descendTo_24 : decode c_R_descendTo 24 = .ok (.aload_n 0, 1) := by decide +kernel
theorem d_R_descendTo_25 : decode c_R_descendTo 25 = .ok (.getfield 19, 3) := by decide +kernel
theorem d_R_descendTo_28 : decode c_R_descendTo 28 = .ok (.iload_n 1, 1) := by decide +kernel
theorem d_R_descendTo_29 : decode c_R_descendTo 29 = .ok (.aload_n 0, 1) := by decide +kernel
theorem d_R_descendTo_30 : decode c_R_descendTo 30 = .ok (.iload_n 2, 1) := by decide +kernel
theorem d_R_descendTo_31 : decode c_R_descendTo 31 = .ok (.invokevirtual 143, 3) := by decide +kernel
theorem d_R_descendTo_34 : decode c_R_descendTo 34 = .ok (.ishr, 1) := by decide +kernel
theorem d_R_descendTo_35 : decode c_R_descendTo 35 = .ok (.iconst 1, 1) := by decide +kernel
theorem d_R_descendTo_36 : decode c_R_descendTo 36 = .ok (.iand, 1) := by decide +kernel
theorem d_R_descendTo_37 : decode c_R_descendTo 37 = .ok (.invokevirtual 160, 3) := by decide +kernel
theorem d_R_descendTo_40 : decode c_R_descendTo 40 = .ok (.iinc 2 1, 3) := by decide +kernel
theorem d_R_descendTo_43 : decode c_R_descendTo 43 = .ok (.goto (-41), 3) := by decide +kernel
theorem d_R_descendTo_46 : decode c_R_descendTo 46 = .ok (.return_, 1) := by decide +kernel
theorem d_R_select_0 : decode c_R_select 0 = .ok (.aload_n 0, 1) := by decide +kernel
theorem d_R_select_1 : decode c_R_select 1 = .ok (.iload_n 1, 1) := by decide +kernel
theorem d_R_select_2 : decode c_R_select 2 = .ok (.invokevirtual 63, 3) := by decide +kernel
theorem d_R_select_5 : decode c_R_select 5 = .ok (.iload_n 2, 1) := by decide +kernel
theorem d_R_select_6 : decode c_R_select 6 = .ok (.invokestatic 110, 3) := by decide +kernel
theorem d_R_select_9 : decode c_R_select 9 = .ok (.aload_n 0, 1) := by decide +kernel
theorem d_R_select_10 : decode c_R_select 10 = .ok (.getfield 19, 3) := by decide +kernel
theorem d_R_select_13 : decode c_R_select 13 = .ok (.iconst 0, 1) := by decide +kernel
theorem d_R_select_14 : decode c_R_select 14 = .ok (.aload_n 0, 1) := by decide +kernel
theorem d_R_select_15 : decode c_R_select 15 = .ok (.getfield 74, 3) := by decide +kernel
theorem d_R_select_18 : decode c_R_select 18 = .ok (.invokevirtual 100, 3) := by decide +kernel
theorem d_R_select_21 : decode c_R_select 21 = .ok (.aload_n 0, 1) := by decide +kernel
theorem d_R_select_22 : decode c_R_select 22 = .ok (.iload_n 1, 1) := by decide +kernel
theorem d_R_select_23 : decode c_R_select 23 = .ok (.invokevirtual 103, 3) := by decide +kernel
theorem d_R_select_26 : decode c_R_select 26 = .ok (.iload_n 2, 1) := by decide +kernel
theorem d_R_select_27 : decode c_R_select 27 = .ok (.aload_n 0, 1) := by decide +kernel
theorem d_R_select_28 : decode c_R_select 28 = .ok (.getfield 19, 3) := by decide +kernel
theorem d_R_select_31 : decode c_R_select 31 = .ok (.invokevirtual 106, 3) := by decide +kernel
theorem d_R_select_34 : decode c_R_select 34 = .ok (.if_icmp .ge 19, 3) := by decide +kernel
theorem d_R_select_37 : decode c_R_select 37 = .ok (.aload_n 0, 1) := by decide +kernel
theorem d_R_select_38 : decode c_R_select 38 = .ok (.aload_n 0, 1) := by decide +kernel
theorem d_R_select_39 : decode c_R_select 39 = .ok (.getfield 19, 3) := by decide +kernel
theorem d_R_select_42 : decode c_R_select 42 = .ok (.getfield 113, 3) := by decide +kernel
theorem d_R_select_45 : decode c_R_select 45 = .ok (.iload_n 2, 1) := by decide +kernel
theorem d_R_select_46 : decode c_R_select 46 = .ok (.iadd, 1) := by decide +kernel
theorem d_R_select_47 : decode c_R_select 47 = .ok (.invokevirtual 116, 3) := by decide +kernel
theorem d_R_select_50 : decode c_R_select 50 = .ok (.goto 4, 3) := by decide +kernel
theorem d_R_select_53 : decode c_R_select 53 = .ok (.iconst (-1), 1) := by decide +kernel
theorem d_R_select_54 : decode c_R_select 54 = .ok (.ireturn, 1) := by decide +kernel
theorem d_R_checkNotNegative_0 : decode c_R_checkNotNegative 0 = .ok (.iload_n 0, 1) := by decide +kernel
theorem d_R_checkNotNegative_1 : decode c_R_checkNotNegative 1 = .ok (.ifCond .ge 13, 3) := by decide +kernel
theorem d_R_checkNotNegative_4 : decode c_R_checkNotNegative 4 = .ok (.new 91, 3) := by decide +kernel
theorem d_R_checkNotNegative_7 : decode c_R_checkNotNegative 7 = .ok (.dup, 1) := by decide +kernel
theorem d_R_checkNotNegative_8 : decode c_R_checkNotNegative 8 = .ok (.ldc 140, 2) := by decide +kernel
theorem d_R_checkNotNegative_10 : decode c_R_checkNotNegative 10 = .ok (.invokespecial 95, 3) := by decide +kernel
theorem d_R_checkNotNegative_13 : decode c_R_checkNotNegative 13 = .ok (.athrow, 1) := by decide +kernel
theorem d_R_checkNotNegative_14 : decode c_R_checkNotNegative 14 = .ok (.return_, 1) := by decide +kernel
theorem d_R_climbFrom_0 : decode c_R_climbFrom 0 = .ok (.iload_n 1, 1) := by decide +kernel
theorem d_R_climbFrom_1 : decode c_R_climbFrom 1 = .ok (.istore_n 2, 1) := by decide +kernel
theorem d_R_climbFrom_2 : decode c_R_climbFrom 2 = .ok (.aload_n 0, 1) := by decide +kernel
theorem d_R_climbFrom_3 : decode c_R_climbFrom 3 = .ok (.getfield 54, 3) := by decide +kernel
theorem d_R_climbFrom_6 : decode c_R_climbFrom 6 = .ok (.arraylength, 1) := by decide +kernel
theorem d_R_climbFrom_7 : decode c_R_climbFrom 7 = .ok (.iconst 1, 1) := by decide +kernel
theorem d_R_climbFrom_8 : decode c_R_climbFrom 8 = .ok (.isub, 1) := by decide +kernel
theorem d_R_climbFrom_9 : decode c_R_climbFrom 9 = .ok (.istore_n 3, 1) := by decide +kernel
theorem d_R_climbFrom_10 : decode c_R_climbFrom 10 = .ok (.iload_n 3, 1) := by decide +kernel
theorem d_R_climbFrom_11 : decode c_R_climbFrom 11 = .ok (.ifCond .lt 24, 3) := by decide +kernel
theorem d_R_climbFrom_14 : decode c_R_climbFrom 14 = .ok (.aload_n 0, 1) := by decide +kernel
theorem d_R_climbFrom_15 : decode c_R_climbFrom 15 = .ok (.getfield 54, 3) := by decide +kernel
theorem d_R_climbFrom_18 : decode c_R_climbFrom 18 = .ok (.iload_n 3, 1) := by decide +kernel
theorem d_R_climbFrom_19 : decode c_R_climbFrom 19 = .ok (.aaload, 1) := by decide +kernel
theorem d_R_climbFrom_20 : decode c_R_climbFrom 20 = .ok (.iload_n 2, 1) := by decide +kernel
theorem d_R_climbFrom_21 : decode c_R_climbFrom 21 = .ok (.aload_n 0, 1) := by decide +kernel
theorem d_R_climbFrom_22 : decode c_R_climbFrom 22 = .ok (.getfield 74, 3) := by decide +kernel
theorem d_R_climbFrom_25 : decode c_R_climbFrom 25 = .ok (.invokevirtual 163, 3) := by decide +kernel
theorem d_R_climbFrom_28 : decode c_R_climbFrom 28 = .ok (.istore_n 2, 1) := by decide +kernel
theorem d_R_climbFrom_29 : decode c_R_climbFrom 29 = .ok (.iinc 3 (-1), 3) := by decide +kernel
theorem d_R_climbFrom_32 : decode c_R_climbFrom 32 = .ok (.goto (-22), 3) := by decide +kernel
theorem d_R_climbFrom_35 : decode c_R_climbFrom 35 = .ok (.iload_n 2, 1) := by decide +kernel
theorem d_R_climbFrom_36 : decode c_R_climbFrom 36 = .ok (.ireturn, 1) := by decide +kernel
theorem d_R_quantile_0 : decode c_R_quantile 0 = .ok (.aload_n 0, 1) := by decide +kernel
theorem d_R_quantile_1 : decode c_R_quantile 1 = .ok (.iload_n 1, 1) := by decide +kernel
theorem d_R_quantile_2 : decode c_R_quantile 2 = .ok (.iload_n 2, 1) := by decide +kernel
theorem d_R_quantile_3 : decode c_R_quantile 3 = .ok (.invokevirtual 96, 3) := by decide +kernel
theorem d_R_quantile_6 : decode c_R_quantile 6 = .ok (.iload_n 3, 1) := by decide +kernel
theorem d_R_quantile_7 : decode c_R_quantile 7 = .ok (.invokestatic 110, 3) := by decide +kernel
theorem d_R_quantile_10 : decode c_R_quantile 10 = .ok (.iload_n 3, 1) := by decide +kernel
theorem d_R_quantile_11 : decode c_R_quantile 11 = .ok (.iload_n 2, 1) := by decide +kernel
theorem d_R_quantile_12 : decode c_R_quantile 12 = .ok (.iload_n 1, 1) := by decide +kernel
theorem d_R_quantile_13 : decode c_R_quantile 13 = .ok (.isub, 1) := by decide +kernel
theorem d_R_quantile_14 : decode c_R_quantile 14 = .ok (.if_icmp .lt 13, 3) := by decide +kernel
theorem d_R_quantile_17 : decode c_R_quantile 17 = .ok (.new 91, 3) := by decide +kernel
theorem d_R_quantile_20 : decode c_R_quantile 20 = .ok (.dup, 1) := by decide +kernel
theorem d_R_quantile_21 : decode c_R_quantile 21 = .ok (.ldc 119, 2) := by decide +kernel
theorem d_R_quantile_23 : decode c_R_quantile 23 = .ok (.invokespecial 95, 3) := by decide +kernel
theorem d_R_quantile_26 : decode c_R_quantile 26 = .ok (.athrow, 1) := by decide +kernel
theorem d_R_quantile_27 : decode c_R_quantile 27 = .ok (.aload_n 0, 1) := by decide +kernel
theorem d_R_quantile_28 : decode c_R_quantile 28 = .ok (.iload_n 1, 1) := by decide +kernel
theorem d_R_quantile_29 : decode c_R_quantile 29 = .ok (.iload_n 2, 1) := by decide +kernel
theorem d_R_quantile_30 : decode c_R_quantile 30 = .ok (.iload_n 3, 1) := by decide +kernel
theorem d_R_quantile_31 : decode c_R_quantile 31 = .ok (.invokevirtual 121, 3) := by decide +kernel
theorem d_R_quantile_34 : decode c_R_quantile 34 = .ok (.ireturn, 1) := by decide +kernel
theorem d_R_kthLeast_0 : decode c_R_kthLeast 0 = .ok (.aload_n 0, 1) := by decide +kernel
theorem d_R_kthLeast_1 : decode c_R_kthLeast 1 = .ok (.getfield 19, 3) := by decide +kernel
theorem d_R_kthLeast_4 : decode c_R_kthLeast 4 = .ok (.iload_n 1, 1) := by decide +kernel
theorem d_R_kthLeast_5 : decode c_R_kthLeast 5 = .ok (.iload_n 2, 1) := by decide +kernel
theorem d_R_kthLeast_6 : decode c_R_kthLeast 6 = .ok (.invokevirtual 100, 3) := by decide +kernel
theorem d_R_kthLeast_9 : decode c_R_kthLeast 9 = .ok (.iload_n 3, 1) := by decide +kernel
theorem d_R_kthLeast_10 : decode c_R_kthLeast 10 = .ok (.istore 4, 2) := by decide +kernel
theorem d_R_kthLeast_12 : decode c_R_kthLeast 12 = .ok (.iconst 0, 1) := by decide +kernel
theorem d_R_kthLeast_13 : decode c_R_kthLeast 13 = .ok (.istore 5, 2) := by decide +kernel
theorem d_R_kthLeast_15 : decode c_R_kthLeast 15 = .ok (.iconst 0, 1) := by decide +kernel
theorem d_R_kthLeast_16 : decode c_R_kthLeast 16 = .ok (.istore 6, 2) := by decide +kernel
theorem d_R_kthLeast_18 : decode c_R_kthLeast 18 = .ok (.iload 6, 2) := by decide +kernel
theorem d_R_kthLeast_20 : decode c_R_kthLeast 20 = .ok (.aload_n 0, 1) := by decide +kernel
theorem d_R_kthLeast_21 : decode c_R_kthLeast 21 = .ok (.getfield 54, 3) := by decide +kernel
theorem d_R_kthLeast_24 : decode c_R_kthLeast 24 = .ok (.arraylength, 1) := by decide +kernel
theorem d_R_kthLeast_25 : decode c_R_kthLeast 25 = .ok (.if_icmp .ge 81, 3) := by decide +kernel
theorem d_R_kthLeast_28 : decode c_R_kthLeast 28 = .ok (.aload_n 0, 1) := by decide +kernel
theorem d_R_kthLeast_29 : decode c_R_kthLeast 29 = .ok (.getfield 19, 3) := by decide +kernel
theorem d_R_kthLeast_32 : decode c_R_kthLeast 32 = .ok (.aload_n 0, 1) := by decide +kernel
theorem d_R_kthLeast_33 : decode c_R_kthLeast 33 = .ok (.getfield 54, 3) := by decide +kernel
theorem d_R_kthLeast_36 : decode c_R_kthLeast 36 = .ok (.iload 6, 2) := by decide +kernel
theorem d_R_kthLeast_38 : decode c_R_kthLeast 38 = .ok (.aaload, 1) := by decide +kernel
theorem d_R_kthLeast_39 : decode c_R_kthLeast 39 = .ok (.invokevirtual 156, 3) := by decide +kernel
theorem d_R_kthLeast_42 : decode c_R_kthLeast 42 = .ok (.iload 4, 2) := by decide +kernel
theorem d_R_kthLeast_44 : decode c_R_kthLeast 44 = .ok (.aload_n 0, 1) := by decide +kernel
theorem d_R_kthLeast_45 : decode c_R_kthLeast 45 = .ok (.getfield 19, 3) := by decide +kernel
theorem d_R_kthLeast_48 : decode c_R_kthLeast 48 = .ok (.invokevirtual 166, 3) := by decide +kernel
theorem d_R_kthLeast_51 : decode c_R_kthLeast 51 = .ok (.if_icmp .ge 7, 3) := by decide +kernel
theorem d_R_kthLeast_54 : decode c_R_kthLeast 54 = .ok (.iconst 0, 1) := by decide +kernel
theorem d_R_kthLeast_55 : decode c_R_kthLeast 55 = .ok (.goto 4, 3) := by decide +kernel
theorem d_R_kthLeast_58 : decode c_R_kthLeast 58 = .ok (.iconst 1, 1) := by decide +kernel
theorem d_R_kthLeast_59 : decode c_R_kthLeast 59 = .ok (.istore 7, 2) := by decide +kernel
theorem d_R_kthLeast_61 : decode c_R_kthLeast 61 = .ok (.iload 4, 2) := by decide +kernel
theorem d_R_kthLeast_63 : decode c_R_kthLeast 63 = .ok (.iload 7, 2) := by decide +kernel
theorem d_R_kthLeast_65 : decode c_R_kthLeast 65 = .ok (.ifCond .ne 7, 3) := by decide +kernel
theorem d_R_kthLeast_68 : decode c_R_kthLeast 68 = .ok (.iconst 0, 1) := by decide +kernel
theorem d_R_kthLeast_69 : decode c_R_kthLeast 69 = .ok (.goto 10, 3) := by decide +kernel
theorem d_R_kthLeast_72 : decode c_R_kthLeast 72 = .ok (.aload_n 0, 1) := by decide +kernel
theorem d_R_kthLeast_73 : decode c_R_kthLeast 73 = .ok (.getfield 19, 3) := by decide +kernel
theorem d_R_kthLeast_76 : decode c_R_kthLeast 76 = .ok (.invokevirtual 166, 3) := by decide +kernel
theorem d_R_kthLeast_79 : decode c_R_kthLeast 79 = .ok (.isub, 1) := by decide +kernel
theorem d_R_kthLeast_80 : decode c_R_kthLeast 80 = .ok (.istore 4, 2) := by decide +kernel
theorem d_R_kthLeast_82 : decode c_R_kthLeast 82 = .ok (.aload_n 0, 1) := by decide +kernel
theorem d_R_kthLeast_83 : decode c_R_kthLeast 83 = .ok (.getfield 19, 3) := by decide +kernel
theorem d_R_kthLeast_86 : decode c_R_kthLeast 86 = .ok (.iload 7, 2) := by decide +kernel
theorem d_R_kthLeast_88 : decode c_R_kthLeast 88 = .ok (.invokevirtual 160, 3) := by decide +kernel
theorem d_R_kthLeast_91 : decode c_R_kthLeast 91 = .ok (.iload 5, 2) := by decide +kernel
theorem d_R_kthLeast_93 : decode c_R_kthLeast 93 = .ok (.iconst 1, 1) := by decide +kernel
theorem d_R_kthLeast_94 : decode c_R_kthLeast 94 = .ok (.ishl, 1) := by decide +kernel
theorem d_R_kthLeast_95 : decode c_R_kthLeast 95 = .ok (.iload 7, 2) := by decide +kernel
theorem d_R_kthLeast_97 : decode c_R_kthLeast 97 = .ok (.ior, 1) := by decide +kernel
theorem d_R_kthLeast_98 : decode c_R_kthLeast 98 = .ok (.istore 5, 2) := by decide +kernel
theorem d_R_kthLeast_100 : decode c_R_kthLeast 100 = .ok (.iinc 6 1, 3) := by decide +kernel
theorem d_R_kthLeast_103 : decode c_R_kthLeast 103 = .ok (.goto (-85), 3) := by decide +kernel
theorem d_R_kthLeast_106 : decode c_R_kthLeast 106 = .ok (.iload 5, 2) := by decide +kernel
theorem d_R_kthLeast_108 : decode c_R_kthLeast 108 = .ok (.ireturn, 1) := by decide +kernel
theorem d_R_between_0 : decode c_R_between 0 = .ok (.aload_n 0, 1) := by decide +kernel
theorem d_R_between_1 : decode c_R_between 1 = .ok (.iload_n 1, 1) := by decide +kernel
theorem d_R_between_2 : decode c_R_between 2 = .ok (.iload_n 2, 1) := by decide +kernel
theorem d_R_between_3 : decode c_R_between 3 = .ok (.invokevirtual 96, 3) := by decide +kernel
theorem d_R_between_6 : decode c_R_between 6 = .ok (.iload_n 3, 1) := by decide +kernel
theorem d_R_between_7 : decode c_R_between 7 = .ok (.iload 4, 2) := by decide +kernel
theorem d_R_between_9 : decode c_R_between 9 = .ok (.if_icmp .ge 22, 3) := by decide +kernel
theorem d_R_between_12 : decode c_R_between 12 = .ok (.aload_n 0, 1) := by decide +kernel
theorem d_R_between_13 : decode c_R_between 13 = .ok (.iload_n 1, 1) := by decide +kernel
theorem d_R_between_14 : decode c_R_between 14 = .ok (.iload_n 2, 1) := by decide +kernel
theorem d_R_between_15 : decode c_R_between 15 = .ok (.iload 4, 2) := by decide +kernel
theorem d_R_between_17 : decode c_R_between 17 = .ok (.invokevirtual 125, 3) := by decide +kernel
theorem d_R_between_20 : decode c_R_between 20 = .ok (.aload_n 0, 1) := by decide +kernel
theorem d_R_between_21 : decode c_R_between 21 = .ok (.iload_n 1, 1) := by decide +kernel
theorem d_R_between_22 : decode c_R_between 22 = .ok (.iload_n 2, 1) := by decide +kernel
theorem d_R_between_23 : decode c_R_between 23 = .ok (.iload_n 3, 1) := by decide +kernel
theorem d_R_between_24 : decode c_R_between 24 = .ok (.invokevirtual 125, 3) := by decide +kernel
theorem d_R_between_27 : decode c_R_between 27 = .ok (.isub, 1) := by decide +kernel
theorem d_R_between_28 : decode c_R_between 28 = .ok (.goto 4, 3) := by decide +kernel
theorem d_R_between_31 : decode c_R_between 31 = .ok (.iconst 0, 1) := by decide +kernel
theorem d_R_between_32 : decode c_R_between 32 = .ok (.ireturn, 1) := by decide +kernel
theorem d_R_howManyBelow_0 : decode c_R_howManyBelow 0 = .ok (.iload_n 3, 1) := by decide +kernel
theorem d_R_howManyBelow_1 : decode c_R_howManyBelow 1 = .ok (.ifCond .gt 5, 3) := by decide +kernel
theorem d_R_howManyBelow_4 : decode c_R_howManyBelow 4 = .ok (.iconst 0, 1) := by decide +kernel
theorem d_R_howManyBelow_5 : decode c_R_howManyBelow 5 = .ok (.ireturn, 1) := by decide +kernel
theorem d_R_howManyBelow_6 : decode c_R_howManyBelow 6 = .ok (.iload_n 3, 1) := by decide +kernel
theorem d_R_howManyBelow_7 : decode c_R_howManyBelow 7 = .ok (.aload_n 0, 1) := by decide +kernel
theorem d_R_howManyBelow_8 : decode c_R_howManyBelow 8 = .ok (.getfield 42, 3) := by decide +kernel
theorem d_R_howManyBelow_11 : decode c_R_howManyBelow 11 = .ok (.if_icmp .lt 7, 3) := by decide +kernel
theorem d_R_howManyBelow_14 : decode c_R_howManyBelow 14 = .ok (.iload_n 2, 1) := by decide +kernel
theorem d_R_howManyBelow_15 : decode c_R_howManyBelow 15 = .ok (.iload_n 1, 1) := by decide +kernel
theorem d_R_howManyBelow_16 : decode c_R_howManyBelow 16 = .ok (.isub, 1) := by decide +kernel
theorem d_R_howManyBelow_17 : decode c_R_howManyBelow 17 = .ok (.ireturn, 1) := by decide +kernel
theorem d_R_howManyBelow_18 : decode c_R_howManyBelow 18 = .ok (.aload_n 0, 1) := by decide +kernel
theorem d_R_howManyBelow_19 : decode c_R_howManyBelow 19 = .ok (.getfield 19, 3) := by decide +kernel
theorem d_R_howManyBelow_22 : decode c_R_howManyBelow 22 = .ok (.iload_n 1, 1) := by decide +kernel
theorem d_R_howManyBelow_23 : decode c_R_howManyBelow 23 = .ok (.iload_n 2, 1) := by decide +kernel
theorem d_R_howManyBelow_24 : decode c_R_howManyBelow 24 = .ok (.invokevirtual 100, 3) := by decide +kernel
theorem d_R_howManyBelow_27 : decode c_R_howManyBelow 27 = .ok (.iconst 0, 1) := by decide +kernel
theorem d_R_howManyBelow_28 : decode c_R_howManyBelow 28 = .ok (.istore 4, 2) := by decide +kernel
theorem d_R_howManyBelow_30 : decode c_R_howManyBelow 30 = .ok (.iconst 0, 1) := by decide +kernel
theorem d_R_howManyBelow_31 : decode c_R_howManyBelow 31 = .ok (.istore 5, 2) := by decide +kernel
theorem d_R_howManyBelow_33 : decode c_R_howManyBelow 33 = .ok (.iload 5, 2) := by decide +kernel
theorem d_R_howManyBelow_35 : decode c_R_howManyBelow 35 = .ok (.aload_n 0, 1) := by decide +kernel
theorem d_R_howManyBelow_36 : decode c_R_howManyBelow 36 = .ok (.getfield 54, 3) := by decide +kernel
theorem d_R_howManyBelow_39 : decode c_R_howManyBelow 39 = .ok (.arraylength, 1) := by decide +kernel
theorem d_R_howManyBelow_40 : decode c_R_howManyBelow 40 = .ok (.if_icmp .ge 65, 3) := by decide +kernel
theorem d_R_howManyBelow_43 : decode c_R_howManyBelow 43 = .ok (.aload_n 0, 1) := by decide +kernel
theorem d_R_howManyBelow_44 : decode c_R_howManyBelow 44 = .ok (.getfield 19, 3) := by decide +kernel
theorem d_R_howManyBelow_47 : decode c_R_howManyBelow 47 = .ok (.aload_n 0, 1) := by decide +kernel
theorem d_R_howManyBelow_48 : decode c_R_howManyBelow 48 = .ok (.getfield 54, 3) := by decide +kernel
theorem d_R_howManyBelow_51 : decode c_R_howManyBelow 51 = .ok (.iload 5, 2) := by decide +kernel
theorem d_R_howManyBelow_53 : decode c_R_howManyBelow 53 = .ok (.aaload, 1) := by decide +kernel
theorem d_R_howManyBelow_54 : decode c_R_howManyBelow 54 = .ok (.invokevirtual 156, 3) := by decide +kernel
theorem d_R_howManyBelow_57 : decode c_R_howManyBelow 57 = .ok (.iload_n 3, 1) := by decide +kernel
theorem d_R_howManyBelow_58 : decode c_R_howManyBelow 58 = .ok (.aload_n 0, 1) := by decide +kernel
theorem d_R_howManyBelow_59 : decode c_R_howManyBelow 59 = .ok (.iload 5, 2) := by decide +kernel
theorem d_R_howManyBelow_61 : decode c_R_howManyBelow 61 = .ok (.invokevirtual 143, 3) := by decide +kernel
theorem d_R_howManyBelow_64 : decode c_R_howManyBelow 64 = .ok (.ishr, 1) := by decide +kernel
theorem d_R_howManyBelow_65 : decode c_R_howManyBelow 65 = .ok (.iconst 1, 1) := by decide +kernel
theorem d_R_howManyBelow_66 : decode c_R_howManyBelow 66 = .ok (.iand, 1) := by decide +kernel
theorem d_R_howManyBelow_67 : decode c_R_howManyBelow 67 = .ok (.istore 6, 2) := by decide +kernel
theorem d_R_howManyBelow_69 : decode c_R_howManyBelow 69 = .ok (.iload 4, 2) := by decide +kernel
theorem d_R_howManyBelow_71 : decode c_R_howManyBelow 71 = .ok (.iload 6, 2) := by decide +kernel
theorem d_R_howManyBelow_73 : decode c_R_howManyBelow 73 = .ok (.ifCond .ne 7, 3) := by decide +kernel
theorem d_R_howManyBelow_76 : decode c_R_howManyBelow 76 = .ok (.iconst 0, 1) := by decide +kernel
theorem d_R_howManyBelow_77 : decode c_R_howManyBelow 77 = .ok (.goto 10, 3) := by decide +kernel
theorem d_R_howManyBelow_80 : decode c_R_howManyBelow 80 = .ok (.aload_n 0, 1) := by decide +kernel
theorem d_R_howManyBelow_81 : decode c_R_howManyBelow 81 = .ok (.getfield 19, 3) := by decide +kernel
theorem d_R_howManyBelow_84 : decode c_R_howManyBelow 84 = .ok (.invokevirtual 166, 3) := by decide +kernel
theorem d_R_howManyBelow_87 : decode c_R_howManyBelow 87 = .ok (.iadd, 1) := by decide +kernel
theorem d_R_howManyBelow_88 : decode c_R_howManyBelow 88 = .ok (.istore 4, 2) := by decide +kernel
theorem d_R_howManyBelow_90 : decode c_R_howManyBelow 90 = .ok (.aload_n 0, 1) := by decide +kernel
theorem d_R_howManyBelow_91 : decode c_R_howManyBelow 91 = .ok (.getfield 19, 3) := by decide +kernel
theorem d_R_howManyBelow_94 : decode c_R_howManyBelow 94 = .ok (.iload 6, 2) := by decide +kernel
theorem d_R_howManyBelow_96 : decode c_R_howManyBelow 96 = .ok (.invokevirtual 160, 3) := by decide +kernel
theorem d_R_howManyBelow_99 : decode c_R_howManyBelow 99 = .ok (.iinc 5 1, 3) := by decide +kernel
theorem d_R_howManyBelow_102 : decode c_R_howManyBelow 102 = .ok (.goto (-69), 3) := by decide +kernel
theorem d_R_howManyBelow_105 : decode c_R_howManyBelow 105 = .ok (.iload 4, 2) := by decide +kernel
theorem d_R_howManyBelow_107 : decode c_R_howManyBelow 107 = .ok (.ireturn, 1) := by decide +kernel
theorem d_R_below_0 : decode c_R_below 0 = .ok (.aload_n 0, 1) := by decide +kernel
theorem d_R_below_1 : decode c_R_below 1 = .ok (.iload_n 1, 1) := by decide +kernel
theorem d_R_below_2 : decode c_R_below 2 = .ok (.iload_n 2, 1) := by decide +kernel
theorem d_R_below_3 : decode c_R_below 3 = .ok (.invokevirtual 96, 3) := by decide +kernel
theorem d_R_below_6 : decode c_R_below 6 = .ok (.aload_n 0, 1) := by decide +kernel
theorem d_R_below_7 : decode c_R_below 7 = .ok (.iload_n 1, 1) := by decide +kernel
theorem d_R_below_8 : decode c_R_below 8 = .ok (.iload_n 2, 1) := by decide +kernel
theorem d_R_below_9 : decode c_R_below 9 = .ok (.iload_n 3, 1) := by decide +kernel
theorem d_R_below_10 : decode c_R_below 10 = .ok (.invokevirtual 125, 3) := by decide +kernel
theorem d_R_below_13 : decode c_R_below 13 = .ok (.istore 4, 2) := by decide +kernel
theorem d_R_below_15 : decode c_R_below 15 = .ok (.iload 4, 2) := by decide +kernel
theorem d_R_below_17 : decode c_R_below 17 = .ok (.ifCond .le 16, 3) := by decide +kernel
theorem d_R_below_20 : decode c_R_below 20 = .ok (.aload_n 0, 1) := by decide +kernel
theorem d_R_below_21 : decode c_R_below 21 = .ok (.iload_n 1, 1) := by decide +kernel
theorem d_R_below_22 : decode c_R_below 22 = .ok (.iload_n 2, 1) := by decide +kernel
theorem d_R_below_23 : decode c_R_below 23 = .ok (.iload 4, 2) := by decide +kernel
theorem d_R_below_25 : decode c_R_below 25 = .ok (.iconst 1, 1) := by decide +kernel
theorem d_R_below_26 : decode c_R_below 26 = .ok (.isub, 1) := by decide +kernel
theorem d_R_below_27 : decode c_R_below 27 = .ok (.invokevirtual 121, 3) := by decide +kernel
theorem d_R_below_30 : decode c_R_below 30 = .ok (.goto 4, 3) := by decide +kernel
theorem d_R_below_33 : decode c_R_below 33 = .ok (.iconst (-1), 1) := by decide +kernel
theorem d_R_below_34 : decode c_R_below 34 = .ok (.ireturn, 1) := by decide +kernel
theorem d_R_above_0 : decode c_R_above 0 = .ok (.aload_n 0, 1) := by decide +kernel
theorem d_R_above_1 : decode c_R_above 1 = .ok (.iload_n 1, 1) := by decide +kernel
theorem d_R_above_2 : decode c_R_above 2 = .ok (.iload_n 2, 1) := by decide +kernel
theorem d_R_above_3 : decode c_R_above 3 = .ok (.invokevirtual 96, 3) := by decide +kernel
theorem d_R_above_6 : decode c_R_above 6 = .ok (.aload_n 0, 1) := by decide +kernel
theorem d_R_above_7 : decode c_R_above 7 = .ok (.iload_n 1, 1) := by decide +kernel
theorem d_R_above_8 : decode c_R_above 8 = .ok (.iload_n 2, 1) := by decide +kernel
theorem d_R_above_9 : decode c_R_above 9 = .ok (.iload_n 3, 1) := by decide +kernel
theorem d_R_above_10 : decode c_R_above 10 = .ok (.invokevirtual 125, 3) := by decide +kernel
theorem d_R_above_13 : decode c_R_above 13 = .ok (.istore 4, 2) := by decide +kernel
theorem d_R_above_15 : decode c_R_above 15 = .ok (.iload 4, 2) := by decide +kernel
theorem d_R_above_17 : decode c_R_above 17 = .ok (.iload_n 2, 1) := by decide +kernel
theorem d_R_above_18 : decode c_R_above 18 = .ok (.iload_n 1, 1) := by decide +kernel
theorem d_R_above_19 : decode c_R_above 19 = .ok (.isub, 1) := by decide +kernel
theorem d_R_above_20 : decode c_R_above 20 = .ok (.if_icmp .ge 14, 3) := by decide +kernel
theorem d_R_above_23 : decode c_R_above 23 = .ok (.aload_n 0, 1) := by decide +kernel
theorem d_R_above_24 : decode c_R_above 24 = .ok (.iload_n 1, 1) := by decide +kernel
theorem d_R_above_25 : decode c_R_above 25 = .ok (.iload_n 2, 1) := by decide +kernel
theorem d_R_above_26 : decode c_R_above 26 = .ok (.iload 4, 2) := by decide +kernel
theorem d_R_above_28 : decode c_R_above 28 = .ok (.invokevirtual 121, 3) := by decide +kernel
theorem d_R_above_31 : decode c_R_above 31 = .ok (.goto 4, 3) := by decide +kernel
theorem d_R_above_34 : decode c_R_above 34 = .ok (.iconst (-1), 1) := by decide +kernel
theorem d_R_above_35 : decode c_R_above 35 = .ok (.ireturn, 1) := by decide +kernel
theorem d_R_different_0 : decode c_R_different 0 = .ok (.aload_n 0, 1) := by decide +kernel
theorem d_R_different_1 : decode c_R_different 1 = .ok (.iload_n 1, 1) := by decide +kernel
theorem d_R_different_2 : decode c_R_different 2 = .ok (.iload_n 2, 1) := by decide +kernel
theorem d_R_different_3 : decode c_R_different 3 = .ok (.invokevirtual 96, 3) := by decide +kernel
theorem d_R_different_6 : decode c_R_different 6 = .ok (.aload_n 0, 1) := by decide +kernel
theorem d_R_different_7 : decode c_R_different 7 = .ok (.iload_n 1, 1) := by decide +kernel
theorem d_R_different_8 : decode c_R_different 8 = .ok (.iload_n 2, 1) := by decide +kernel
theorem d_R_different_9 : decode c_R_different 9 = .ok (.invokevirtual 128, 3) := by decide +kernel
theorem d_R_different_12 : decode c_R_different 12 = .ok (.ireturn, 1) := by decide +kernel
theorem d_R_listSymbols_0 : decode c_R_listSymbols 0 = .ok (.iconst 0, 1) := by decide +kernel
theorem d_R_listSymbols_1 : decode c_R_listSymbols 1 = .ok (.istore_n 3, 1) := by decide +kernel
theorem d_R_listSymbols_2 : decode c_R_listSymbols 2 = .ok (.iconst 0, 1) := by decide +kernel
theorem d_R_listSymbols_3 : decode c_R_listSymbols 3 = .ok (.istore 4, 2) := by decide +kernel
theorem d_R_listSymbols_5 : decode c_R_listSymbols 5 = .ok (.iload 4, 2) := by decide +kernel
theorem d_R_listSymbols_7 : decode c_R_listSymbols 7 = .ok (.iload_n 2, 1) := by decide +kernel
theorem d_R_listSymbols_8 : decode c_R_listSymbols 8 = .ok (.iload_n 1, 1) := by decide +kernel
theorem d_R_listSymbols_9 : decode c_R_listSymbols 9 = .ok (.isub, 1) := by decide +kernel
theorem d_R_listSymbols_10 : decode c_R_listSymbols 10 = .ok (.if_icmp .ge 52, 3) := by decide +kernel
theorem d_R_listSymbols_13 : decode c_R_listSymbols 13 = .ok (.aload_n 0, 1) := by decide +kernel
theorem d_R_listSymbols_14 : decode c_R_listSymbols 14 = .ok (.getfield 23, 3) := by decide +kernel
theorem d_R_listSymbols_17 : decode c_R_listSymbols 17 = .ok (.iload_n 3, 1) := by decide +kernel
theorem d_R_listSymbols_18 : decode c_R_listSymbols 18 = .ok (.aload_n 0, 1) := by decide +kernel
theorem d_R_listSymbols_19 : decode c_R_listSymbols 19 = .ok (.iload_n 1, 1) := by decide +kernel
theorem d_R_listSymbols_20 : decode c_R_listSymbols 20 = .ok (.iload_n 2, 1) := by decide +kernel
theorem d_R_listSymbols_21 : decode c_R_listSymbols 21 = .ok (.iload 4, 2) := by decide +kernel
theorem d_R_listSymbols_23 : decode c_R_listSymbols 23 = .ok (.invokevirtual 121, 3) := by decide +kernel
theorem d_R_listSymbols_26 : decode c_R_listSymbols 26 = .ok (.iastore, 1) := by decide +kernel
theorem d_R_listSymbols_27 : decode c_R_listSymbols 27 = .ok (.aload_n 0, 1) := by decide +kernel
theorem d_R_listSymbols_28 : decode c_R_listSymbols 28 = .ok (.getfield 26, 3) := by decide +kernel
theorem d_R_listSymbols_31 : decode c_R_listSymbols 31 = .ok (.iload_n 3, 1) := by decide +kernel
theorem d_R_listSymbols_32 : decode c_R_listSymbols 32 = .ok (.aload_n 0, 1) := by decide +kernel
theorem d_R_listSymbols_33 : decode c_R_listSymbols 33 = .ok (.getfield 19, 3) := by decide +kernel
theorem d_R_listSymbols_36 : decode c_R_listSymbols 36 = .ok (.invokevirtual 106, 3) := by decide +kernel
theorem d_R_listSymbols_39 : decode c_R_listSymbols 39 = .ok (.iastore, 1) := by decide +kernel
theorem d_R_listSymbols_40 : decode c_R_listSymbols 40 = .ok (.iload 4, 2) := by decide +kernel
theorem d_R_listSymbols_42 : decode c_R_listSymbols 42 = .ok (.iconst 1, 1) := by decide +kernel
theorem d_R_listSymbols_43 : decode c_R_listSymbols 43 = .ok (.aload_n 0, 1) := by decide +kernel
theorem d_R_listSymbols_44 : decode c_R_listSymbols 44 = .ok (.getfield 19, 3) := by decide +kernel
theorem d_R_listSymbols_47 : decode c_R_listSymbols 47 = .ok (.invokevirtual 106, 3) := by decide +kernel
theorem d_R_listSymbols_50 : decode c_R_listSymbols 50 = .ok (.invokestatic 39, 3) := by decide +kernel
theorem d_R_listSymbols_53 : decode c_R_listSymbols 53 = .ok (.iadd, 1) := by decide +kernel
theorem d_R_listSymbols_54 : decode c_R_listSymbols 54 = .ok (.istore 4, 2) := by decide +kernel
theorem d_R_listSymbols_56 : decode c_R_listSymbols 56 = .ok (.iinc 3 1, 3) := by decide +kernel
theorem d_R_listSymbols_59 : decode c_R_listSymbols 59 = .ok (.goto (-54), 3) := by decide +kernel
theorem d_R_listSymbols_62 : decode c_R_listSymbols 62 = .ok (.iload_n 3, 1) := by decide +kernel
theorem d_R_listSymbols_63 : decode c_R_listSymbols 63 = .ok (.ireturn, 1) := by decide +kernel
theorem d_R_frequent_0 : decode c_R_frequent 0 = .ok (.aload_n 0, 1) := by decide +kernel
theorem d_R_frequent_1 : decode c_R_frequent 1 = .ok (.iload_n 1, 1) := by decide +kernel
theorem d_R_frequent_2 : decode c_R_frequent 2 = .ok (.iload_n 2, 1) := by decide +kernel
theorem d_R_frequent_3 : decode c_R_frequent 3 = .ok (.invokevirtual 96, 3) := by decide +kernel
theorem d_R_frequent_6 : decode c_R_frequent 6 = .ok (.iload_n 3, 1) := by decide +kernel
theorem d_R_frequent_7 : decode c_R_frequent 7 = .ok (.invokestatic 110, 3) := by decide +kernel
theorem d_R_frequent_10 : decode c_R_frequent 10 = .ok (.aload_n 0, 1) := by decide +kernel
theorem d_R_frequent_11 : decode c_R_frequent 11 = .ok (.iload_n 1, 1) := by decide +kernel
theorem d_R_frequent_12 : decode c_R_frequent 12 = .ok (.iload_n 2, 1) := by decide +kernel
theorem d_R_frequent_13 : decode c_R_frequent 13 = .ok (.invokevirtual 128, 3) := by decide +kernel
theorem d_R_frequent_16 : decode c_R_frequent 16 = .ok (.istore 4, 2) := by decide +kernel
theorem d_R_frequent_18 : decode c_R_frequent 18 = .ok (.aload_n 0, 1) := by decide +kernel
theorem d_R_frequent_19 : decode c_R_frequent 19 = .ok (.iload 4, 2) := by decide +kernel
theorem d_R_frequent_21 : decode c_R_frequent 21 = .ok (.invokevirtual 131, 3) := by decide +kernel
theorem d_R_frequent_24 : decode c_R_frequent 24 = .ok (.iconst 0, 1) := by decide +kernel
theorem d_R_frequent_25 : decode c_R_frequent 25 = .ok (.istore 5, 2) := by decide +kernel
theorem d_R_frequent_27 : decode c_R_frequent 27 = .ok (.iload 5, 2) := by decide +kernel
theorem d_R_frequent_29 : decode c_R_frequent 29 = .ok (.iload 4, 2) := by decide +kernel
theorem d_R_frequent_31 : decode c_R_frequent 31 = .ok (.if_icmp .ge 42, 3) := by decide +kernel
theorem d_R_frequent_34 : decode c_R_frequent 34 = .ok (.aload_n 0, 1) := by decide +kernel
theorem d_R_frequent_35 : decode c_R_frequent 35 = .ok (.getfield 29, 3) := by decide +kernel
theorem d_R_frequent_38 : decode c_R_frequent 38 = .ok (.aload_n 0, 1) := by decide +kernel
theorem d_R_frequent_39 : decode c_R_frequent 39 = .ok (.getfield 26, 3) := by decide +kernel
theorem d_R_frequent_42 : decode c_R_frequent 42 = .ok (.iload 5, 2) := by decide +kernel
theorem d_R_frequent_44 : decode c_R_frequent 44 = .ok (.iaload, 1) := by decide +kernel
theorem d_R_frequent_45 : decode c_R_frequent 45 = .ok (.dup2, 1) := by decide +kernel
theorem d_R_frequent_46 : decode c_R_frequent 46 = .ok (.iaload, 1) := by decide +kernel
theorem d_R_frequent_47 : decode c_R_frequent 47 = .ok (.dup_x2, 1) := by decide +kernel
theorem d_R_frequent_48 : decode c_R_frequent 48 = .ok (.iconst 1, 1) := by decide +kernel
theorem d_R_frequent_49 : decode c_R_frequent 49 = .ok (.iadd, 1) := by decide +kernel
theorem d_R_frequent_50 : decode c_R_frequent 50 = .ok (.iastore, 1) := by decide +kernel
theorem d_R_frequent_51 : decode c_R_frequent 51 = .ok (.istore 6, 2) := by decide +kernel
theorem d_R_frequent_53 : decode c_R_frequent 53 = .ok (.iload 6, 2) := by decide +kernel
theorem d_R_frequent_55 : decode c_R_frequent 55 = .ok (.iload_n 3, 1) := by decide +kernel
theorem d_R_frequent_56 : decode c_R_frequent 56 = .ok (.if_icmp .ne 11, 3) := by decide +kernel
theorem d_R_frequent_59 : decode c_R_frequent 59 = .ok (.aload_n 0, 1) := by decide +kernel
theorem d_R_frequent_60 : decode c_R_frequent 60 = .ok (.getfield 23, 3) := by decide +kernel
theorem d_R_frequent_63 : decode c_R_frequent 63 = .ok (.iload 5, 2) := by decide +kernel
theorem d_R_frequent_65 : decode c_R_frequent 65 = .ok (.iaload, 1) := by decide +kernel
theorem d_R_frequent_66 : decode c_R_frequent 66 = .ok (.ireturn, 1) := by decide +kernel
theorem d_R_frequent_67 : decode c_R_frequent 67 = .ok (.iinc 5 1, 3) := by decide +kernel
theorem d_R_frequent_70 : decode c_R_frequent 70 = .ok (.goto (-43), 3) := by decide +kernel
theorem d_R_frequent_73 : decode c_R_frequent 73 = .ok (.iconst (-1), 1) := by decide +kernel
theorem d_R_frequent_74 : decode c_R_frequent 74 = .ok (.ireturn, 1) := by decide +kernel
theorem d_R_countAhead_0 : decode c_R_countAhead 0 = .ok (.aload_n 0, 1) := by decide +kernel
theorem d_R_countAhead_1 : decode c_R_countAhead 1 = .ok (.getfield 29, 3) := by decide +kernel
theorem d_R_countAhead_4 : decode c_R_countAhead 4 = .ok (.iconst 0, 1) := by decide +kernel
theorem d_R_countAhead_5 : decode c_R_countAhead 5 = .ok (.invokestatic 169, 3) := by decide +kernel
theorem d_R_countAhead_8 : decode c_R_countAhead 8 = .ok (.iconst 0, 1) := by decide +kernel
theorem d_R_countAhead_9 : decode c_R_countAhead 9 = .ok (.istore_n 2, 1) := by decide +kernel
theorem d_R_countAhead_10 : decode c_R_countAhead 10 = .ok (.iload_n 2, 1) := by decide +kernel
theorem d_R_countAhead_11 : decode c_R_countAhead 11 = .ok (.iload_n 1, 1) := by decide +kernel
theorem d_R_countAhead_12 : decode c_R_countAhead 12 = .ok (.if_icmp .ge 24, 3) := by decide +kernel
theorem d_R_countAhead_15 : decode c_R_countAhead 15 = .ok (.aload_n 0, 1) := by decide +kernel
theorem d_R_countAhead_16 : decode c_R_countAhead 16 = .ok (.getfield 29, 3) := by decide +kernel
theorem d_R_countAhead_19 : decode c_R_countAhead 19 = .ok (.aload_n 0, 1) := by decide +kernel
theorem d_R_countAhead_20 : decode c_R_countAhead 20 = .ok (.getfield 26, 3) := by decide +kernel
theorem d_R_countAhead_23 : decode c_R_countAhead 23 = .ok (.iload_n 2, 1) := by decide +kernel
theorem d_R_countAhead_24 : decode c_R_countAhead 24 = .ok (.iaload, 1) := by decide +kernel
theorem d_R_countAhead_25 : decode c_R_countAhead 25 = .ok (.dup2, 1) := by decide +kernel
theorem d_R_countAhead_26 : decode c_R_countAhead 26 = .ok (.iaload, 1) := by decide +kernel
theorem d_R_countAhead_27 : decode c_R_countAhead 27 = .ok (.iconst 1, 1) := by decide +kernel
theorem d_R_countAhead_28 : decode c_R_countAhead 28 = .ok (.iadd, 1) := by decide +kernel
theorem d_R_countAhead_29 : decode c_R_countAhead 29 = .ok (.iastore, 1) := by decide +kernel
theorem d_R_countAhead_30 : decode c_R_countAhead 30 = .ok (.iinc 2 1, 3) := by decide +kernel
theorem d_R_countAhead_33 : decode c_R_countAhead 33 = .ok (.goto (-23), 3) := by decide +kernel
theorem d_R_countAhead_36 : decode c_R_countAhead 36 = .ok (.iconst 0, 1) := by decide +kernel
theorem d_R_countAhead_37 : decode c_R_countAhead 37 = .ok (.istore_n 2, 1) := by decide +kernel
theorem d_R_countAhead_38 : decode c_R_countAhead 38 = .ok (.sipush 1000, 3) := by decide +kernel
theorem d_R_countAhead_41 : decode c_R_countAhead 41 = .ok (.istore_n 3, 1) := by decide +kernel
theorem d_R_countAhead_42 : decode c_R_countAhead 42 = .ok (.iload_n 3, 1) := by decide +kernel
theorem d_R_countAhead_43 : decode c_R_countAhead 43 = .ok (.ifCond .lt 29, 3) := by decide +kernel
theorem d_R_countAhead_46 : decode c_R_countAhead 46 = .ok (.aload_n 0, 1) := by decide +kernel
theorem d_R_countAhead_47 : decode c_R_countAhead 47 = .ok (.getfield 29, 3) := by decide +kernel
theorem d_R_countAhead_50 : decode c_R_countAhead 50 = .ok (.iload_n 3, 1) := by decide +kernel
theorem d_R_countAhead_51 : decode c_R_countAhead 51 = .ok (.iaload, 1) := by decide +kernel
theorem d_R_countAhead_52 : decode c_R_countAhead 52 = .ok (.istore 4, 2) := by decide +kernel
theorem d_R_countAhead_54 : decode c_R_countAhead 54 = .ok (.aload_n 0, 1) := by decide +kernel
theorem d_R_countAhead_55 : decode c_R_countAhead 55 = .ok (.getfield 29, 3) := by decide +kernel
theorem d_R_countAhead_58 : decode c_R_countAhead 58 = .ok (.iload_n 3, 1) := by decide +kernel
theorem d_R_countAhead_59 : decode c_R_countAhead 59 = .ok (.iload_n 2, 1) := by decide +kernel
theorem d_R_countAhead_60 : decode c_R_countAhead 60 = .ok (.iastore, 1) := by decide +kernel
theorem d_R_countAhead_61 : decode c_R_countAhead 61 = .ok (.iload_n 2, 1) := by decide +kernel
theorem d_R_countAhead_62 : decode c_R_countAhead 62 = .ok (.iload 4, 2) := by decide +kernel
theorem d_R_countAhead_64 : decode c_R_countAhead 64 = .ok (.iadd, 1) := by decide +kernel
theorem d_R_countAhead_65 : decode c_R_countAhead 65 = .ok (.istore_n 2, 1) := by decide +kernel
theorem d_R_countAhead_66 : decode c_R_countAhead 66 = .ok (.iinc 3 (-1), 3) := by decide +kernel
theorem d_R_countAhead_69 : decode c_R_countAhead 69 = .ok (.goto (-27), 3) := by decide +kernel
theorem d_R_countAhead_72 : decode c_R_countAhead 72 = .ok (.return_, 1) := by decide +kernel
theorem d_R_count_0 : decode c_R_count 0 = .ok (.iload_n 1, 1) := by decide +kernel
theorem d_R_count_1 : decode c_R_count 1 = .ok (.tableswitch 52 0 3 #[31, 36, 41, 47], 31) := by decide +kernel
theorem d_R_count_32 : decode c_R_count 32 = .ok (.aload_n 0, 1) := by decide +kernel
theorem d_R_count_33 : decode c_R_count 33 = .ok (.getfield 74, 3) := by decide +kernel
theorem d_R_count_36 : decode c_R_count 36 = .ok (.ireturn, 1) := by decide +kernel
theorem d_R_count_37 : decode c_R_count 37 = .ok (.aload_n 0, 1) := by decide +kernel
theorem d_R_count_38 : decode c_R_count 38 = .ok (.getfield 77, 3) := by decide +kernel
theorem d_R_count_41 : decode c_R_count 41 = .ok (.ireturn, 1) := by decide +kernel
theorem d_R_count_42 : decode c_R_count 42 = .ok (.aload_n 0, 1) := by decide +kernel
theorem d_R_count_43 : decode c_R_count 43 = .ok (.getfield 54, 3) := by decide +kernel
theorem d_R_count_46 : decode c_R_count 46 = .ok (.arraylength, 1) := by decide +kernel
theorem d_R_count_47 : decode c_R_count 47 = .ok (.ireturn, 1) := by decide +kernel
theorem d_R_count_48 : decode c_R_count 48 = .ok (.aload_n 0, 1) := by decide +kernel
theorem d_R_count_49 : decode c_R_count 49 = .ok (.getfield 42, 3) := by decide +kernel
theorem d_R_count_52 : decode c_R_count 52 = .ok (.ireturn, 1) := by decide +kernel
theorem d_R_count_53 : decode c_R_count 53 = .ok (.new 91, 3) := by decide +kernel
theorem d_R_count_56 : decode c_R_count 56 = .ok (.dup, 1) := by decide +kernel
theorem d_R_count_57 : decode c_R_count 57 = .ok (.ldc 134, 2) := by decide +kernel
theorem d_R_count_59 : decode c_R_count 59 = .ok (.invokespecial 95, 3) := by decide +kernel
theorem d_R_count_62 : decode c_R_count 62 = .ok (.athrow, 1) := by decide +kernel
end
section
theorem d_M_init_0 : decode c_M_init 0 = .ok (.aload_n 0, 1) := by decide +kernel
theorem d_M_init_1 : decode c_M_init 1 = .ok (.invokespecial 1, 3) := by decide +kernel
theorem d_M_init_4 : decode c_M_init 4 = .ok (.aload_n 0, 1) := by decide +kernel
theorem d_M_init_5 : decode c_M_init 5 = .ok (.sipush 1000, 3) := by decide +kernel
theorem d_M_init_8 : decode c_M_init 8 = .ok (.newarray .int, 2) := by decide +kernel
theorem d_M_init_10 : decode c_M_init 10 = .ok (.putfield 7, 3) := by decide +kernel
theorem d_M_init_13 : decode c_M_init 13 = .ok (.aload_n 0, 1) := by decide +kernel
theorem d_M_init_14 : decode c_M_init 14 = .ok (.sipush 1000, 3) := by decide +kernel
theorem d_M_init_17 : decode c_M_init 17 = .ok (.newarray .int, 2) := by decide +kernel
theorem d_M_init_19 : decode c_M_init 19 = .ok (.putfield 13, 3) := by decide +kernel
theorem d_M_init_22 : decode c_M_init 22 = .ok (.aload_n 0, 1) := by decide +kernel
theorem d_M_init_23 : decode c_M_init 23 = .ok (.sipush 1000, 3) := by decide +kernel
theorem d_M_init_26 : decode c_M_init 26 = .ok (.newarray .int, 2) := by decide +kernel
theorem d_M_init_28 : decode c_M_init 28 = .ok (.putfield 16, 3) := by decide +kernel
theorem d_M_init_31 : decode c_M_init 31 = .ok (.aload_n 0, 1) := by decide +kernel
theorem d_M_init_32 : decode c_M_init 32 = .ok (.iload_n 1, 1) := by decide +kernel
theorem d_M_init_33 : decode c_M_init 33 = .ok (.iconst 1, 1) := by decide +kernel
theorem d_M_init_34 : decode c_M_init 34 = .ok (.if_icmp .ge 7, 3) := by decide +kernel
theorem d_M_init_37 : decode c_M_init 37 = .ok (.iconst 1, 1) := by decide +kernel
theorem d_M_init_38 : decode c_M_init 38 = .ok (.goto 15, 3) := by decide +kernel
theorem d_M_init_41 : decode c_M_init 41 = .ok (.iload_n 1, 1) := by decide +kernel
theorem d_M_init_42 : decode c_M_init 42 = .ok (.ldc 19, 2) := by decide +kernel
theorem d_M_init_44 : decode c_M_init 44 = .ok (.if_icmp .le 8, 3) := by decide +kernel
theorem d_M_init_47 : decode c_M_init 47 = .ok (.ldc 19, 2) := by decide +kernel
theorem d_M_init_49 : decode c_M_init 49 = .ok (.goto 4, 3) := by decide +kernel
theorem d_M_init_52 : decode c_M_init 52 = .ok (.iload_n 1, 1) := by decide +kernel
theorem d_M_init_53 : decode c_M_init 53 = .ok (.putfield 20, 3) := by decide +kernel
theorem d_M_init_56 : decode c_M_init 56 = .ok (.return_, 1) := by decide +kernel
theorem d_M_thrown_0 : decode c_M_thrown 0 = .ok (.aload_n 0, 1) := by decide +kernel
theorem d_M_thrown_1 : decode c_M_thrown 1 = .ok (.getfield 24, 3) := by decide +kernel
theorem d_M_thrown_4 : decode c_M_thrown 4 = .ok (.ireturn, 1) := by decide +kernel
theorem d_M_put_0 : decode c_M_put 0 = .ok (.iconst 1, 1) := by decide +kernel
theorem d_M_put_1 : decode c_M_put 1 = .ok (.istore 7, 2) := by decide +kernel
theorem d_M_put_3 : decode c_M_put 3 = .ok (.iconst 0, 1) := by decide +kernel
theorem d_M_put_4 : decode c_M_put 4 = .ok (.istore 8, 2) := by decide +kernel
theorem d_M_put_6 : decode c_M_put 6 = .ok (.iload 8, 2) := by decide +kernel
theorem d_M_put_8 : decode c_M_put 8 = .ok (.iload 6, 2) := by decide +kernel
theorem d_M_put_10 : decode c_M_put 10 = .ok (.if_icmp .ge 47, 3) := by decide +kernel
theorem d_M_put_13 : decode c_M_put 13 = .ok (.iload 8, 2) := by decide +kernel
theorem d_M_put_15 : decode c_M_put 15 = .ok (.bipush 10, 2) := by decide +kernel
theorem d_M_put_17 : decode c_M_put 17 = .ok (.if_icmp .ge 40, 3) := by decide +kernel
theorem d_M_put_20 : decode c_M_put 20 = .ok (.iload 7, 2) := by decide +kernel
theorem d_M_put_22 : decode c_M_put 22 = .ok (.ifCond .eq 26, 3) := by decide +kernel
theorem d_M_put_25 : decode c_M_put 25 = .ok (.iload_n 1, 1) := by decide +kernel
theorem d_M_put_26 : decode c_M_put 26 = .ok (.iload_n 2, 1) := by decide +kernel
theorem d_M_put_27 : decode c_M_put 27 = .ok (.iload_n 3, 1) := by decide +kernel
theorem d_M_put_28 : decode c_M_put 28 = .ok (.iload 4, 2) := by decide +kernel
theorem d_M_put_30 : decode c_M_put 30 = .ok (.iload 5, 2) := by decide +kernel
theorem d_M_put_32 : decode c_M_put 32 = .ok (.iload 8, 2) := by decide +kernel
theorem d_M_put_34 : decode c_M_put 34 = .ok (.invokestatic 28, 3) := by decide +kernel
theorem d_M_put_37 : decode c_M_put 37 = .ok (.aload_n 0, 1) := by decide +kernel
theorem d_M_put_38 : decode c_M_put 38 = .ok (.getfield 20, 3) := by decide +kernel
theorem d_M_put_41 : decode c_M_put 41 = .ok (.if_icmp .ge 7, 3) := by decide +kernel
theorem d_M_put_44 : decode c_M_put 44 = .ok (.iconst 1, 1) := by decide +kernel
theorem d_M_put_45 : decode c_M_put 45 = .ok (.goto 4, 3) := by decide +kernel
theorem d_M_put_48 : decode c_M_put 48 = .ok (.iconst 0, 1) := by decide +kernel
theorem d_M_put_49 : decode c_M_put 49 = .ok (.istore 7, 2) := by decide +kernel
theorem d_M_put_51 : decode c_M_put 51 = .ok (.iinc 8 1, 3) := by decide +kernel
theorem d_M_put_54 : decode c_M_put 54 = .ok (.goto (-48), 3) := by decide +kernel
theorem d_M_put_57 : decode c_M_put 57 = .ok (.aload_n 0, 1) := by decide +kernel
theorem d_M_put_58 : decode c_M_put 58 = .ok (.iload 7, 2) := by decide +kernel
theorem d_M_put_60 : decode c_M_put 60 = .ok (.ifCond .ne 7, 3) := by decide +kernel
theorem d_M_put_63 : decode c_M_put 63 = .ok (.iconst 1, 1) := by decide +kernel
theorem d_M_put_64 : decode c_M_put 64 = .ok (.goto 38, 3) := by decide +kernel
theorem d_M_put_67 : decode c_M_put 67 = .ok (.iload 6, 2) := by decide +kernel
theorem d_M_put_69 : decode c_M_put 69 = .ok (.iconst 1, 1) := by decide +kernel
theorem d_M_put_70 : decode c_M_put 70 = .ok (.if_icmp .lt 10, 3) := by decide +kernel
theorem d_M_put_73 : decode c_M_put 73 = .ok (.iload 6, 2) := by decide +kernel
theorem d_M_put_75 : decode c_M_put 75 = .ok (.bipush 10, 2) := by decide +kernel
theorem d_M_put_77 : decode c_M_put 77 = .ok (.if_icmp .le 7, 3) := by decide +kernel
theorem d_M_put_80 : decode c_M_put 80 = .ok (.iconst 2, 1) := by decide +kernel
theorem d_M_put_81 : decode c_M_put 81 = .ok (.goto 21, 3) := by decide +kernel
theorem d_M_put_84 : decode c_M_put 84 = .ok (.aload_n 0, 1) := by decide +kernel
theorem d_M_put_85 : decode c_M_put 85 = .ok (.getfield 32, 3) := by decide +kernel
theorem d_M_put_88 : decode c_M_put 88 = .ok (.iload 6, 2) := by decide +kernel
theorem d_M_put_90 : decode c_M_put 90 = .ok (.iadd, 1) := by decide +kernel
theorem d_M_put_91 : decode c_M_put 91 = .ok (.sipush 1000, 3) := by decide +kernel
theorem d_M_put_94 : decode c_M_put 94 = .ok (.if_icmp .le 7, 3) := by decide +kernel
theorem d_M_put_97 : decode c_M_put 97 = .ok (.iconst 3, 1) := by decide +kernel
theorem d_M_put_98 : decode c_M_put 98 = .ok (.goto 4, 3) := by decide +kernel
theorem d_M_put_101 : decode c_M_put 101 = .ok (.iconst 0, 1) := by decide +kernel
theorem d_M_put_102 : decode c_M_put 102 = .ok (.putfield 24, 3) := by decide +kernel
theorem d_M_put_105 : decode c_M_put 105 = .ok (.aload_n 0, 1) := by decide +kernel
theorem d_M_put_106 : decode c_M_put 106 = .ok (.getfield 24, 3) := by decide +kernel
theorem d_M_put_109 : decode c_M_put 109 = .ok (.ifCond .le 5, 3) := by decide +kernel
theorem d_M_put_112 : decode c_M_put 112 = .ok (.iconst 0, 1) := by decide +kernel
theorem d_M_put_113 : decode c_M_put 113 = .ok (.ireturn, 1) := by decide +kernel
theorem d_M_put_114 : decode c_M_put 114 = .ok (.iconst 0, 1) := by decide +kernel
theorem d_M_put_115 : decode c_M_put 115 = .ok (.istore 8, 2) := by decide +kernel
theorem d_M_put_117 : decode c_M_put 117 = .ok (.iload 8, 2) := by decide +kernel
theorem d_M_put_119 : decode c_M_put 119 = .ok (.iload 6, 2) := by decide +kernel
theorem d_M_put_121 : decode c_M_put 121 = .ok (.if_icmp .ge 40, 3) := by decide +kernel
theorem d_M_put_124 : decode c_M_put 124 = .ok (.aload_n 0, 1) := by decide +kernel
theorem d_M_put_125 : decode c_M_put 125 = .ok (.getfield 7, 3) := by decide +kernel
theorem d_M_put_128 : decode c_M_put 128 = .ok (.aload_n 0, 1) := by decide +kernel
theorem d_M_put_129 : decode c_M_put 129 = .ok (.getfield 32, 3) := by decide +kernel
theorem d_M_put_132 : decode c_M_put 132 = .ok (.iload_n 1, 1) := by decide +kernel
theorem d_M_put_133 : decode c_M_put 133 = .ok (.iload_n 2, 1) := by decide +kernel
theorem d_M_put_134 : decode c_M_put 134 = .ok (.iload_n 3, 1) := by decide +kernel
theorem d_M_put_135 : decode c_M_put 135 = .ok (.iload 4, 2) := by decide +kernel
theorem d_M_put_137 : decode c_M_put 137 = .ok (.iload 5, 2) := by decide +kernel
theorem d_M_put_139 : decode c_M_put 139 = .ok (.iload 8, 2) := by decide +kernel
theorem d_M_put_141 : decode c_M_put 141 = .ok (.invokestatic 28, 3) := by decide +kernel
theorem d_M_put_144 : decode c_M_put 144 = .ok (.iastore, 1) := by decide +kernel
theorem d_M_put_145 : decode c_M_put 145 = .ok (.aload_n 0, 1) := by decide +kernel
theorem d_M_put_146 : decode c_M_put 146 = .ok (.dup, 1) := by decide +kernel
theorem d_M_put_147 : decode c_M_put 147 = .ok (.getfield 32, 3) := by decide +kernel
theorem d_M_put_150 : decode c_M_put 150 = .ok (.iconst 1, 1) := by decide +kernel
theorem d_M_put_151 : decode c_M_put 151 = .ok (.iadd, 1) := by decide +kernel
theorem d_M_put_152 : decode c_M_put 152 = .ok (.putfield 32, 3) := by decide +kernel
theorem d_M_put_155 : decode c_M_put 155 = .ok (.iinc 8 1, 3) := by decide +kernel
theorem d_M_put_158 : decode c_M_put 158 = .ok (.goto (-41), 3) := by decide +kernel
theorem d_M_put_161 : decode c_M_put 161 = .ok (.aload_n 0, 1) := by decide +kernel
theorem d_M_put_162 : decode c_M_put 162 = .ok (.getfield 32, 3) := by decide +kernel
theorem d_M_put_165 : decode c_M_put 165 = .ok (.aload_n 0, 1) := by decide +kernel
theorem d_M_put_166 : decode c_M_put 166 = .ok (.getfield 35, 3) := by decide +kernel
theorem d_M_put_169 : decode c_M_put 169 = .ok (.isub, 1) := by decide +kernel
theorem d_M_put_170 : decode c_M_put 170 = .ok (.ireturn, 1) := by decide +kernel
theorem d_M_given_0 : decode c_M_given 0 = .ok (.iload 5, 2) := by decide +kernel
theorem d_M_given_2 : decode c_M_given 2 = .ok (.iconst 2, 1) := by decide +kernel
theorem d_M_given_3 : decode c_M_given 3 = .ok (.if_icmp .ge 7, 3) := by decide +kernel
theorem d_M_given_6 : decode c_M_given 6 = .ok (.iload_n 0, 1) := by decide +kernel
theorem d_M_given_7 : decode c_M_given 7 = .ok (.goto 37, 3) := by decide +kernel
theorem d_M_given_10 : decode c_M_given 10 = .ok (.iload 5, 2) := by decide +kernel
theorem d_M_given_12 : decode c_M_given 12 = .ok (.iconst 4, 1) := by decide +kernel
theorem d_M_given_13 : decode c_M_given 13 = .ok (.if_icmp .ge 7, 3) := by decide +kernel
theorem d_M_given_16 : decode c_M_given 16 = .ok (.iload_n 1, 1) := by decide +kernel
theorem d_M_given_17 : decode c_M_given 17 = .ok (.goto 27, 3) := by decide +kernel
theorem d_M_given_20 : decode c_M_given 20 = .ok (.iload 5, 2) := by decide +kernel
theorem d_M_given_22 : decode c_M_given 22 = .ok (.bipush 6, 2) := by decide +kernel
theorem d_M_given_24 : decode c_M_given 24 = .ok (.if_icmp .ge 7, 3) := by decide +kernel
theorem d_M_given_27 : decode c_M_given 27 = .ok (.iload_n 2, 1) := by decide +kernel
theorem d_M_given_28 : decode c_M_given 28 = .ok (.goto 16, 3) := by decide +kernel
theorem d_M_given_31 : decode c_M_given 31 = .ok (.iload 5, 2) := by decide +kernel
theorem d_M_given_33 : decode c_M_given 33 = .ok (.bipush 8, 2) := by decide +kernel
theorem d_M_given_35 : decode c_M_given 35 = .ok (.if_icmp .ge 7, 3) := by decide +kernel
theorem d_M_given_38 : decode c_M_given 38 = .ok (.iload_n 3, 1) := by decide +kernel
theorem d_M_given_39 : decode c_M_given 39 = .ok (.goto 5, 3) := by decide +kernel
theorem d_M_given_42 : decode c_M_given 42 = .ok (.iload 4, 2) := by decide +kernel
theorem d_M_given_44 : decode c_M_given 44 = .ok (.istore 6, 2) := by decide +kernel
theorem d_M_given_46 : decode c_M_given 46 = .ok (.iload 5, 2) := by decide +kernel
theorem d_M_given_48 : decode c_M_given 48 = .ok (.iconst 2, 1) := by decide +kernel
theorem d_M_given_49 : decode c_M_given 49 = .ok (.irem, 1) := by decide +kernel
theorem d_M_given_50 : decode c_M_given 50 = .ok (.ifCond .ne 11, 3) := by decide +kernel
theorem d_M_given_53 : decode c_M_given 53 = .ok (.iload 6, 2) := by decide +kernel
theorem d_M_given_55 : decode c_M_given 55 = .ok (.bipush 16, 2) := by decide +kernel
theorem d_M_given_57 : decode c_M_given 57 = .ok (.iushr, 1) := by decide +kernel
theorem d_M_given_58 : decode c_M_given 58 = .ok (.goto 8, 3) := by decide +kernel
theorem d_M_given_61 : decode c_M_given 61 = .ok (.iload 6, 2) := by decide +kernel
theorem d_M_given_63 : decode c_M_given 63 = .ok (.ldc 27, 2) := by decide +kernel
theorem d_M_given_65 : decode c_M_given 65 = .ok (.iand, 1) := by decide +kernel
theorem d_M_given_66 : decode c_M_given 66 = .ok (.ireturn, 1) := by decide +kernel
theorem d_M_build_0 : decode c_M_build 0 = .ok (.aload_n 0, 1) := by decide +kernel
theorem d_M_build_1 : decode c_M_build 1 = .ok (.iconst 0, 1) := by decide +kernel
theorem d_M_build_2 : decode c_M_build 2 = .ok (.putfield 24, 3) := by decide +kernel
theorem d_M_build_5 : decode c_M_build 5 = .ok (.aload_n 0, 1) := by decide +kernel
theorem d_M_build_6 : decode c_M_build 6 = .ok (.aload_n 0, 1) := by decide +kernel
theorem d_M_build_7 : decode c_M_build 7 = .ok (.getfield 32, 3) := by decide +kernel
theorem d_M_build_10 : decode c_M_build 10 = .ok (.putfield 35, 3) := by decide +kernel
theorem d_M_build_13 : decode c_M_build 13 = .ok (.aload_n 0, 1) := by decide +kernel
theorem d_M_build_14 : decode c_M_build 14 = .ok (.getfield 35, 3) := by decide +kernel
theorem d_M_build_17 : decode c_M_build 17 = .ok (.ireturn, 1) := by decide +kernel
theorem d_M_clear_0 : decode c_M_clear 0 = .ok (.aload_n 0, 1) := by decide +kernel
theorem d_M_clear_1 : decode c_M_clear 1 = .ok (.iconst 0, 1) := by decide +kernel
theorem d_M_clear_2 : decode c_M_clear 2 = .ok (.putfield 24, 3) := by decide +kernel
theorem d_M_clear_5 : decode c_M_clear 5 = .ok (.aload_n 0, 1) := by decide +kernel
theorem d_M_clear_6 : decode c_M_clear 6 = .ok (.iconst 0, 1) := by decide +kernel
theorem d_M_clear_7 : decode c_M_clear 7 = .ok (.putfield 35, 3) := by decide +kernel
theorem d_M_clear_10 : decode c_M_clear 10 = .ok (.aload_n 0, 1) := by decide +kernel
theorem d_M_clear_11 : decode c_M_clear 11 = .ok (.iconst 0, 1) := by decide +kernel
theorem d_M_clear_12 : decode c_M_clear 12 = .ok (.putfield 32, 3) := by decide +kernel
theorem d_M_clear_15 : decode c_M_clear 15 = .ok (.return_, 1) := by decide +kernel
theorem d_M_at_0 : decode c_M_at 0 = .ok (.aload_n 0, 1) := by decide +kernel
theorem d_M_at_1 : decode c_M_at 1 = .ok (.iload_n 1, 1) := by decide +kernel
theorem d_M_at_2 : decode c_M_at 2 = .ok (.ifCond .lt 15, 3) := by decide +kernel
theorem d_M_at_5 : decode c_M_at 5 = .ok (.iload_n 1, 1) := by decide +kernel
theorem d_M_at_6 : decode c_M_at 6 = .ok (.aload_n 0, 1) := by decide +kernel
theorem d_M_at_7 : decode c_M_at 7 = .ok (.getfield 35, 3) := by decide +kernel
theorem d_M_at_10 : decode c_M_at 10 = .ok (.if_icmp .ge 7, 3) := by decide +kernel
theorem d_M_at_13 : decode c_M_at 13 = .ok (.iconst 0, 1) := by decide +kernel
theorem d_M_at_14 : decode c_M_at 14 = .ok (.goto 4, 3) := by decide +kernel
theorem d_M_at_17 : decode c_M_at 17 = .ok (.iconst 1, 1) := by decide +kernel
theorem d_M_at_18 : decode c_M_at 18 = .ok (.putfield 24, 3) := by decide +kernel
theorem d_M_at_21 : decode c_M_at 21 = .ok (.aload_n 0, 1) := by decide +kernel
theorem d_M_at_22 : decode c_M_at 22 = .ok (.getfield 24, 3) := by decide +kernel
theorem d_M_at_25 : decode c_M_at 25 = .ok (.ifCond .le 7, 3) := by decide +kernel
theorem d_M_at_28 : decode c_M_at 28 = .ok (.iconst 0, 1) := by decide +kernel
theorem d_M_at_29 : decode c_M_at 29 = .ok (.goto 9, 3) := by decide +kernel
theorem d_M_at_32 : decode c_M_at 32 = .ok (.aload_n 0, 1) := by decide +kernel
theorem d_M_at_33 : decode c_M_at 33 = .ok (.getfield 7, 3) := by decide +kernel
theorem d_M_at_36 : decode c_M_at 36 = .ok (.iload_n 1, 1) := by decide +kernel
theorem d_M_at_37 : decode c_M_at 37 = .ok (.iaload, 1) := by decide +kernel
theorem d_M_at_38 : decode c_M_at 38 = .ok (.ireturn, 1) := by decide +kernel
theorem d_M_rank_0 : decode c_M_rank 0 = .ok (.aload_n 0, 1) := by decide +kernel
theorem d_M_rank_1 : decode c_M_rank 1 = .ok (.aload_n 0, 1) := by decide +kernel
theorem d_M_rank_2 : decode c_M_rank 2 = .ok (.iload_n 1, 1) := by decide +kernel
theorem d_M_rank_3 : decode c_M_rank 3 = .ok (.invokevirtual 38, 3) := by decide +kernel
theorem d_M_rank_6 : decode c_M_rank 6 = .ok (.ifCond .eq 19, 3) := by decide +kernel
theorem d_M_rank_9 : decode c_M_rank 9 = .ok (.iload_n 2, 1) := by decide +kernel
theorem d_M_rank_10 : decode c_M_rank 10 = .ok (.ifCond .lt 15, 3) := by decide +kernel
theorem d_M_rank_13 : decode c_M_rank 13 = .ok (.iload_n 2, 1) := by decide +kernel
theorem d_M_rank_14 : decode c_M_rank 14 = .ok (.aload_n 0, 1) := by decide +kernel
theorem d_M_rank_15 : decode c_M_rank 15 = .ok (.getfield 35, 3) := by decide +kernel
theorem d_M_rank_18 : decode c_M_rank 18 = .ok (.if_icmp .gt 7, 3) := by decide +kernel
theorem d_M_rank_21 : decode c_M_rank 21 = .ok (.iconst 0, 1) := by decide +kernel
theorem d_M_rank_22 : decode c_M_rank 22 = .ok (.goto 4, 3) := by decide +kernel
theorem d_M_rank_25 : decode c_M_rank 25 = .ok (.iconst 1, 1) := by decide +kernel
theorem d_M_rank_26 : decode c_M_rank 26 = .ok (.putfield 24, 3) := by decide +kernel
theorem d_M_rank_29 : decode c_M_rank 29 = .ok (.iconst 0, 1) := by decide +kernel
theorem d_M_rank_30 : decode c_M_rank 30 = .ok (.istore_n 3, 1) := by decide +kernel
theorem d_M_rank_31 : decode c_M_rank 31 = .ok (.iconst 0, 1) := by decide +kernel
theorem d_M_rank_32 : decode c_M_rank 32 = .ok (.istore 4, 2) := by decide +kernel
theorem d_M_rank_34 : decode c_M_rank 34 = .ok (.iload 4, 2) := by decide +kernel
theorem d_M_rank_36 : decode c_M_rank 36 = .ok (.iload_n 2, 1) := by decide +kernel
theorem d_M_rank_37 : decode c_M_rank 37 = .ok (.if_icmp .ge 35, 3) := by decide +kernel
theorem d_M_rank_40 : decode c_M_rank 40 = .ok (.aload_n 0, 1) := by decide +kernel
theorem d_M_rank_41 : decode c_M_rank 41 = .ok (.getfield 24, 3) := by decide +kernel
theorem d_M_rank_44 : decode c_M_rank 44 = .ok (.ifCond .ne 28, 3) := by decide +kernel
theorem d_M_rank_47 : decode c_M_rank 47 = .ok (.aload_n 0, 1) := by decide +kernel
theorem d_M_rank_48 : decode c_M_rank 48 = .ok (.getfield 7, 3) := by decide +kernel
theorem d_M_rank_51 : decode c_M_rank 51 = .ok (.iload 4, 2) := by decide +kernel
theorem d_M_rank_53 : decode c_M_rank 53 = .ok (.iaload, 1) := by decide +kernel
theorem d_M_rank_54 : decode c_M_rank 54 = .ok (.iload_n 1, 1) := by decide +kernel
theorem d_M_rank_55 : decode c_M_rank 55 = .ok (.if_icmp .ne 9, 3) := by decide +kernel
theorem d_M_rank_58 : decode c_M_rank 58 = .ok (.iload_n 3, 1) := by decide +kernel
theorem d_M_rank_59 : decode c_M_rank 59 = .ok (.iconst 1, 1) := by decide +kernel
theorem d_M_rank_60 : decode c_M_rank 60 = .ok (.iadd, 1) := by decide +kernel
theorem d_M_rank_61 : decode c_M_rank 61 = .ok (.goto 4, 3) := by decide +kernel
theorem d_M_rank_64 : decode c_M_rank 64 = .ok (.iload_n 3, 1) := by decide +kernel
theorem d_M_rank_65 : decode c_M_rank 65 = .ok (.istore_n 3, 1) := by decide +kernel
theorem d_M_rank_66 : decode c_M_rank 66 = .ok (.iinc 4 1, 3) := by decide +kernel
theorem d_M_rank_69 : decode c_M_rank 69 = .ok (.goto (-35), 3) := by decide +kernel
theorem d_M_rank_72 : decode c_M_rank 72 = .ok (.iload_n 3, 1) := by decide +kernel
theorem d_M_rank_73 : decode c_M_rank 73 = .ok (.ireturn, 1) := by decide +kernel
theorem d_M_isSymbol_0 : decode c_M_isSymbol 0 = .ok (.iload_n 1, 1) := by decide +kernel
theorem d_M_isSymbol_1 : decode c_M_isSymbol 1 = .ok (.ifCond .lt 15, 3) := by decide +kernel
theorem d_M_isSymbol_4 : decode c_M_isSymbol 4 = .ok (.iload_n 1, 1) := by decide +kernel
theorem d_M_isSymbol_5 : decode c_M_isSymbol 5 = .ok (.aload_n 0, 1) := by decide +kernel
theorem d_M_isSymbol_6 : decode c_M_isSymbol 6 = .ok (.getfield 20, 3) := by decide +kernel
theorem d_M_isSymbol_9 : decode c_M_isSymbol 9 = .ok (.if_icmp .ge 7, 3) := by decide +kernel
theorem d_M_isSymbol_12 : decode c_M_isSymbol 12 = .ok (.iconst 1, 1) := by decide +kernel
theorem d_M_isSymbol_13 : decode c_M_isSymbol 13 = .ok (.goto 4, 3) := by decide +kernel
theorem d_M_isSymbol_16 : decode c_M_isSymbol 16 = .ok (.iconst 0, 1) := by decide +kernel
theorem d_M_isSymbol_17 : decode c_M_isSymbol 17 = .ok (.ireturn, 1) := by decide +kernel
theorem d_M_select_0 : decode c_M_select 0 = .ok (.aload_n 0, 1) := by decide +kernel
theorem d_M_select_1 : decode c_M_select 1 = .ok (.aload_n 0, 1) := by decide +kernel
theorem d_M_select_2 : decode c_M_select 2 = .ok (.iload_n 1, 1) := by decide +kernel
theorem d_M_select_3 : decode c_M_select 3 = .ok (.invokevirtual 38, 3) := by decide +kernel
theorem d_M_select_6 : decode c_M_select 6 = .ok (.ifCond .eq 11, 3) := by decide +kernel
theorem d_M_select_9 : decode c_M_select 9 = .ok (.iload_n 2, 1) := by decide +kernel
theorem d_M_select_10 : decode c_M_select 10 = .ok (.ifCond .lt 7, 3) := by decide +kernel
theorem d_M_select_13 : decode c_M_select 13 = .ok (.iconst 0, 1) := by decide +kernel
theorem d_M_select_14 : decode c_M_select 14 = .ok (.goto 4, 3) := by decide +kernel
theorem d_M_select_17 : decode c_M_select 17 = .ok (.iconst 1, 1) := by decide +kernel
theorem d_M_select_18 : decode c_M_select 18 = .ok (.putfield 24, 3) := by decide +kernel
theorem d_M_select_21 : decode c_M_select 21 = .ok (.iload_n 2, 1) := by decide +kernel
theorem d_M_select_22 : decode c_M_select 22 = .ok (.istore_n 3, 1) := by decide +kernel
theorem d_M_select_23 : decode c_M_select 23 = .ok (.iconst 0, 1) := by decide +kernel
theorem d_M_select_24 : decode c_M_select 24 = .ok (.istore 4, 2) := by decide +kernel
theorem d_M_select_26 : decode c_M_select 26 = .ok (.iload 4, 2) := by decide +kernel
theorem d_M_select_28 : decode c_M_select 28 = .ok (.aload_n 0, 1) := by decide +kernel
theorem d_M_select_29 : decode c_M_select 29 = .ok (.getfield 35, 3) := by decide +kernel
theorem d_M_select_32 : decode c_M_select 32 = .ok (.if_icmp .ge 37, 3) := by decide +kernel
theorem d_M_select_35 : decode c_M_select 35 = .ok (.aload_n 0, 1) := by decide +kernel
theorem d_M_select_36 : decode c_M_select 36 = .ok (.getfield 24, 3) := by decide +kernel
theorem d_M_select_39 : decode c_M_select 39 = .ok (.ifCond .ne 30, 3) := by decide +kernel
theorem d_M_select_42 : decode c_M_select 42 = .ok (.aload_n 0, 1) := by decide +kernel
theorem d_M_select_43 : decode c_M_select 43 = .ok (.getfield 7, 3) := by decide +kernel
theorem d_M_select_46 : decode c_M_select 46 = .ok (.iload 4, 2) := by decide +kernel
theorem d_M_select_48 : decode c_M_select 48 = .ok (.iaload, 1) := by decide +kernel
theorem d_M_select_49 : decode c_M_select 49 = .ok (.iload_n 1, 1) := by decide +kernel
theorem d_M_select_50 : decode c_M_select 50 = .ok (.if_icmp .ne 13, 3) := by decide +kernel
theorem d_M_select_53 : decode c_M_select 53 = .ok (.iload_n 3, 1) := by decide +kernel
theorem d_M_select_54 : decode c_M_select 54 = .ok (.ifCond .ne 6, 3) := by decide +kernel
theorem d_M_select_57 : decode c_M_select 57 = .ok (.iload 4, 2) := by decide +kernel
theorem d_M_select_59 : decode c_M_select 59 = .ok (.ireturn, 1) := by decide +kernel
theorem d_M_select_60 : decode c_M_select 60 = .ok (.iinc 3 (-1), 3) := by decide +kernel
theorem d_M_select_63 : decode c_M_select 63 = .ok (.iinc 4 1, 3) := by decide +kernel
theorem d_M_select_66 : decode c_M_select 66 = .ok (.goto (-40), 3) := by decide +kernel
theorem d_M_select_69 : decode c_M_select 69 = .ok (.aload_n 0, 1) := by decide +kernel
theorem d_M_select_70 : decode c_M_select 70 = .ok (.getfield 24, 3) := by decide +kernel
theorem d_M_select_73 : decode c_M_select 73 = .ok (.ifCond .le 7, 3) := by decide +kernel
theorem d_M_select_76 : decode c_M_select 76 = .ok (.iconst 0, 1) := by decide +kernel
theorem d_M_select_77 : decode c_M_select 77 = .ok (.goto 4, 3) := by decide +kernel
theorem d_M_select_80 : decode c_M_select 80 = .ok (.iconst (-1), 1) := by decide +kernel
theorem d_M_select_81 : decode c_M_select 81 = .ok (.ireturn, 1) := by decide +kernel
theorem d_M_quantile_0 : decode c_M_quantile 0 = .ok (.aload_n 0, 1) := by decide +kernel
theorem d_M_quantile_1 : decode c_M_quantile 1 = .ok (.aload_n 0, 1) := by decide +kernel
theorem d_M_quantile_2 : decode c_M_quantile 2 = .ok (.iload_n 1, 1) := by decide +kernel
theorem d_M_quantile_3 : decode c_M_quantile 3 = .ok (.iload_n 2, 1) := by decide +kernel
theorem d_M_quantile_4 : decode c_M_quantile 4 = .ok (.invokevirtual 42, 3) := by decide +kernel
theorem d_M_quantile_7 : decode c_M_quantile 7 = .ok (.ifCond .eq 18, 3) := by decide +kernel
theorem d_M_quantile_10 : decode c_M_quantile 10 = .ok (.iload_n 3, 1) := by decide +kernel
theorem d_M_quantile_11 : decode c_M_quantile 11 = .ok (.ifCond .lt 14, 3) := by decide +kernel
theorem d_M_quantile_14 : decode c_M_quantile 14 = .ok (.iload_n 3, 1) := by decide +kernel
theorem d_M_quantile_15 : decode c_M_quantile 15 = .ok (.iload_n 2, 1) := by decide +kernel
theorem d_M_quantile_16 : decode c_M_quantile 16 = .ok (.iload_n 1, 1) := by decide +kernel
theorem d_M_quantile_17 : decode c_M_quantile 17 = .ok (.isub, 1) := by decide +kernel
theorem d_M_quantile_18 : decode c_M_quantile 18 = .ok (.if_icmp .ge 7, 3) := by decide +kernel
theorem d_M_quantile_21 : decode c_M_quantile 21 = .ok (.iconst 0, 1) := by decide +kernel
theorem d_M_quantile_22 : decode c_M_quantile 22 = .ok (.goto 4, 3) := by decide +kernel
theorem d_M_quantile_25 : decode c_M_quantile 25 = .ok (.iconst 1, 1) := by decide +kernel
theorem d_M_quantile_26 : decode c_M_quantile 26 = .ok (.putfield 24, 3) := by decide +kernel
theorem d_M_quantile_29 : decode c_M_quantile 29 = .ok (.aload_n 0, 1) := by decide +kernel
theorem d_M_quantile_30 : decode c_M_quantile 30 = .ok (.getfield 24, 3) := by decide +kernel
theorem d_M_quantile_33 : decode c_M_quantile 33 = .ok (.ifCond .le 5, 3) := by decide +kernel
theorem d_M_quantile_36 : decode c_M_quantile 36 = .ok (.iconst 0, 1) := by decide +kernel
theorem d_M_quantile_37 : decode c_M_quantile 37 = .ok (.ireturn, 1) := by decide +kernel
theorem d_M_quantile_38 : decode c_M_quantile 38 = .ok (.aload_n 0, 1) := by decide +kernel
theorem d_M_quantile_39 : decode c_M_quantile 39 = .ok (.iload_n 1, 1) := by decide +kernel
theorem d_M_quantile_40 : decode c_M_quantile 40 = .ok (.iload_n 2, 1) := by decide +kernel
theorem d_M_quantile_41 : decode c_M_quantile 41 = .ok (.invokevirtual 46, 3) := by decide +kernel
theorem d_M_quantile_44 : decode c_M_quantile 44 = .ok (.pop, 1) := by decide +kernel
theorem d_M_quantile_45 : decode c_M_quantile 45 = .ok (.iconst 0, 1) := by decide +kernel
theorem d_M_quantile_46 : decode c_M_quantile 46 = .ok (.istore 4, 2) := by decide +kernel
theorem d_M_quantile_48 : decode c_M_quantile 48 = .ok (.aload_n 0, 1) := by decide +kernel
theorem d_M_quantile_49 : decode c_M_quantile 49 = .ok (.getfield 16, 3) := by decide +kernel
theorem d_M_quantile_52 : decode c_M_quantile 52 = .ok (.iconst 0, 1) := by decide +kernel
theorem d_M_quantile_53 : decode c_M_quantile 53 = .ok (.iaload, 1) := by decide +kernel
theorem d_M_quantile_54 : decode c_M_quantile 54 = .ok (.istore 5, 2) := by decide +kernel
theorem d_M_quantile_56 : decode c_M_quantile 56 = .ok (.iload 5, 2) := by decide +kernel
theorem d_M_quantile_58 : decode c_M_quantile 58 = .ok (.iload_n 3, 1) := by decide +kernel
theorem d_M_quantile_59 : decode c_M_quantile 59 = .ok (.if_icmp .gt 21, 3) := by decide +kernel
theorem d_M_quantile_62 : decode c_M_quantile 62 = .ok (.iinc 4 1, 3) := by decide +kernel
theorem d_M_quantile_65 : decode c_M_quantile 65 = .ok (.iload 5, 2) := by decide +kernel
theorem d_M_quantile_67 : decode c_M_quantile 67 = .ok (.aload_n 0, 1) := by decide +kernel
theorem d_M_quantile_68 : decode c_M_quantile 68 = .ok (.getfield 16, 3) := by decide +kernel
theorem d_M_quantile_71 : decode c_M_quantile 71 = .ok (.iload 4, 2) := by decide +kernel
theorem d_M_quantile_73 : decode c_M_quantile 73 = .ok (.iaload, 1) := by decide +kernel
theorem d_M_quantile_74 : decode c_M_quantile 74 = .ok (.iadd, 1) := by decide +kernel
theorem d_M_quantile_75 : decode c_M_quantile 75 = .ok (.istore 5, 2) := by decide +kernel
theorem d_M_quantile_77 : decode c_M_quantile 77 = .ok (.goto (-21), 3) := by decide +kernel
theorem d_M_quantile_80 : decode c_M_quantile 80 = .ok (.aload_n 0, 1) := by decide +kernel
theorem d_M_quantile_81 : decode c_M_quantile 81 = .ok (.getfield 13, 3) := by decide +kernel
theorem d_M_quantile_84 : decode c_M_quantile 84 = .ok (.iload 4, 2) := by decide +kernel
theorem d_M_quantile_86 : decode c_M_quantile 86 = .ok (.iaload, 1) := by decide +kernel
theorem d_M_quantile_87 : decode c_M_quantile 87 = .ok (.ireturn, 1) := by decide +kernel
theorem d_M_isPart_0 : decode c_M_isPart 0 = .ok (.iload_n 1, 1) := by decide +kernel
theorem d_M_isPart_1 : decode c_M_isPart 1 = .ok (.ifCond .lt 20, 3) := by decide +kernel
theorem d_M_isPart_4 : decode c_M_isPart 4 = .ok (.iload_n 1, 1) := by decide +kernel
theorem d_M_isPart_5 : decode c_M_isPart 5 = .ok (.iload_n 2, 1) := by decide +kernel
theorem d_M_isPart_6 : decode c_M_isPart 6 = .ok (.if_icmp .gt 15, 3) := by decide +kernel
theorem d_M_isPart_9 : decode c_M_isPart 9 = .ok (.iload_n 2, 1) := by decide +kernel
theorem d_M_isPart_10 : decode c_M_isPart 10 = .ok (.aload_n 0, 1) := by decide +kernel
theorem d_M_isPart_11 : decode c_M_isPart 11 = .ok (.getfield 35, 3) := by decide +kernel
theorem d_M_isPart_14 : decode c_M_isPart 14 = .ok (.if_icmp .gt 7, 3) := by decide +kernel
theorem d_M_isPart_17 : decode c_M_isPart 17 = .ok (.iconst 1, 1) := by decide +kernel
theorem d_M_isPart_18 : decode c_M_isPart 18 = .ok (.goto 4, 3) := by decide +kernel
theorem d_M_isPart_21 : decode c_M_isPart 21 = .ok (.iconst 0, 1) := by decide +kernel
theorem d_M_isPart_22 : decode c_M_isPart 22 = .ok (.ireturn, 1) := by decide +kernel
theorem d_M_gather_0 : decode c_M_gather 0 = .ok (.iconst 0, 1) := by decide +kernel
theorem d_M_gather_1 : decode c_M_gather 1 = .ok (.istore_n 3, 1) := by decide +kernel
theorem d_M_gather_2 : decode c_M_gather 2 = .ok (.iload_n 1, 1) := by decide +kernel
theorem d_M_gather_3 : decode c_M_gather 3 = .ok (.istore 4, 2) := by decide +kernel
theorem d_M_gather_5 : decode c_M_gather 5 = .ok (.iload 4, 2) := by decide +kernel
theorem d_M_gather_7 : decode c_M_gather 7 = .ok (.iload_n 2, 1) := by decide +kernel
theorem d_M_gather_8 : decode c_M_gather 8 = .ok (.if_icmp .ge 151, 3) := by decide +kernel
theorem d_M_gather_11 : decode c_M_gather 11 = .ok (.iconst 0, 1) := by decide +kernel
theorem d_M_gather_12 : decode c_M_gather 12 = .ok (.istore 5, 2) := by decide +kernel
theorem d_M_gather_14 : decode c_M_gather 14 = .ok (.iload 5, 2) := by decide +kernel
theorem d_M_gather_16 : decode c_M_gather 16 = .ok (.iload_n 3, 1) := by decide +kernel
theorem d_M_gather_17 : decode c_M_gather 17 = .ok (.if_icmp .ge 26, 3) := by decide +kernel
theorem d_M_gather_20 : decode c_M_gather 20 = .ok (.aload_n 0, 1) := by decide +kernel
theorem d_M_gather_21 : decode c_M_gather 21 = .ok (.getfield 13, 3) := by decide +kernel
theorem d_M_gather_24 : decode c_M_gather 24 = .ok (.iload 5, 2) := by decide +kernel
theorem d_M_gather_26 : decode c_M_gather 26 = .ok (.iaload, 1) := by decide +kernel
theorem d_M_gather_27 : decode c_M_gather 27 = .ok (.aload_n 0, 1) := by decide +kernel
theorem d_M_gather_28 : decode c_M_gather 28 = .ok (.getfield 7, 3) := by decide +kernel
theorem d_M_gather_31 : decode c_M_gather 31 = .ok (.iload 4, 2) := by decide +kernel
theorem d_M_gather_33 : decode c_M_gather 33 = .ok (.iaload, 1) := by decide +kernel
theorem d_M_gather_34 : decode c_M_gather 34 = .ok (.if_icmp .ge 9, 3) := by decide +kernel
theorem d_M_gather_37 : decode c_M_gather 37 = .ok (.iinc 5 1, 3) := by decide +kernel
theorem d_M_gather_40 : decode c_M_gather 40 = .ok (.goto (-26), 3) := by decide +kernel
theorem d_M_gather_43 : decode c_M_gather 43 = .ok (.iload 5, 2) := by decide +kernel
theorem d_M_gather_45 : decode c_M_gather 45 = .ok (.iload_n 3, 1) := by decide +kernel
theorem d_M_gather_46 : decode c_M_gather 46 = .ok (.if_icmp .ge 34, 3) := by decide +kernel
theorem d_M_gather_49 : decode c_M_gather 49 = .ok (.aload_n 0, 1) := by decide +kernel
theorem d_M_gather_50 : decode c_M_gather 50 = .ok (.getfield 13, 3) := by decide +kernel
theorem d_M_gather_53 : decode c_M_gather 53 = .ok (.iload 5, 2) := by decide +kernel
theorem d_M_gather_55 : decode c_M_gather 55 = .ok (.iaload, 1) := by decide +kernel
theorem d_M_gather_56 : decode c_M_gather 56 = .ok (.aload_n 0, 1) := by decide +kernel
theorem d_M_gather_57 : decode c_M_gather 57 = .ok (.getfield 7, 3) := by decide +kernel
theorem d_M_gather_60 : decode c_M_gather 60 = .ok (.iload 4, 2) := by decide +kernel
theorem d_M_gather_62 : decode c_M_gather 62 = .ok (.iaload, 1) := by decide +kernel
theorem d_M_gather_63 : decode c_M_gather 63 = .ok (.if_icmp .ne 17, 3) := by decide +kernel
theorem d_M_gather_66 : decode c_M_gather 66 = .ok (.aload_n 0, 1) := by decide +kernel
theorem d_M_gather_67 : decode c_M_gather 67 = .ok (.getfield 16, 3) := by decide +kernel
theorem d_M_gather_70 : decode c_M_gather 70 = .ok (.iload 5, 2) := by decide +kernel
theorem d_M_gather_72 : decode c_M_gather 72 = .ok (.dup2, 1) := by decide +kernel
theorem d_M_gather_73 : decode c_M_gather 73 = .ok (.iaload, 1) := by decide +kernel
theorem d_M_gather_74 : decode c_M_gather 74 = .ok (.iconst 1, 1) := by decide +kernel
theorem d_M_gather_75 : decode c_M_gather 75 = .ok (.iadd, 1) := by decide +kernel
theorem d_M_gather_76 : decode c_M_gather 76 = .ok (.iastore, 1) := by decide +kernel
theorem d_M_gather_77 : decode c_M_gather 77 = .ok (.goto 76, 3) := by decide +kernel
theorem d_M_gather_80 : decode c_M_gather 80 = .ok (.iload_n 3, 1) := by decide +kernel
theorem d_M_gather_81 : decode c_M_gather 81 = .ok (.istore 6, 2) := by decide +kernel
theorem d_M_gather_83 : decode c_M_gather 83 = .ok (.iload 6, 2) := by decide +kernel
theorem d_M_gather_85 : decode c_M_gather 85 = .ok (.iload 5, 2) := by decide +kernel
theorem d_M_gather_87 : decode c_M_gather 87 = .ok (.if_icmp .le 41, 3) := by decide +kernel
theorem d_M_gather_90 : decode c_M_gather 90 = .ok (.aload_n 0, 1) := by decide +kernel
theorem d_M_gather_91 : decode c_M_gather 91 = .ok (.getfield 13, 3) := by decide +kernel
theorem d_M_gather_94 : decode c_M_gather 94 = .ok (.iload 6, 2) := by decide +kernel
theorem d_M_gather_96 : decode c_M_gather 96 = .ok (.aload_n 0, 1) := by decide +kernel
theorem d_M_gather_97 : decode c_M_gather 97 = .ok (.getfield 13, 3) := by decide +kernel
theorem d_M_gather_100 : decode c_M_gather 100 = .ok (.iload 6, 2) := by decide +kernel
theorem d_M_gather_102 : decode c_M_gather 102 = .ok (.iconst 1, 1) := by decide +kernel
theorem d_M_gather_103 : decode c_M_gather 103 = .ok (.isub, 1) := by decide +kernel
theorem d_M_gather_104 : decode c_M_gather 104 = .ok (.iaload, 1) := by decide +kernel
theorem d_M_gather_105 : decode c_M_gather 105 = .ok (.iastore, 1) := by decide +kernel
theorem d_M_gather_106 : decode c_M_gather 106 = .ok (.aload_n 0, 1) := by decide +kernel
theorem d_M_gather_107 : decode c_M_gather 107 = .ok (.getfield 16, 3) := by decide +kernel
theorem d_M_gather_110 : decode c_M_gather 110 = .ok (.iload 6, 2) := by decide +kernel
theorem d_M_gather_112 : decode c_M_gather 112 = .ok (.aload_n 0, 1) := by decide +kernel
theorem d_M_gather_113 : decode c_M_gather 113 = .ok (.getfield 16, 3) := by decide +kernel
theorem d_M_gather_116 : decode c_M_gather 116 = .ok (.iload 6, 2) := by decide +kernel
theorem d_M_gather_118 : decode c_M_gather 118 = .ok (.iconst 1, 1) := by decide +kernel
theorem d_M_gather_119 : decode c_M_gather 119 = .ok (.isub, 1) := by decide +kernel
theorem d_M_gather_120 : decode c_M_gather 120 = .ok (.iaload, 1) := by decide +kernel
theorem d_M_gather_121 : decode c_M_gather 121 = .ok (.iastore, 1) := by decide +kernel
theorem d_M_gather_122 : decode c_M_gather 122 = .ok (.iinc 6 (-1), 3) := by decide +kernel
theorem d_M_gather_125 : decode c_M_gather 125 = .ok (.goto (-42), 3) := by decide +kernel
theorem d_M_gather_128 : decode c_M_gather 128 = .ok (.aload_n 0, 1) := by decide +kernel
theorem d_M_gather_129 : decode c_M_gather 129 = .ok (.getfield 13, 3) := by decide +kernel
theorem d_M_gather_132 : decode c_M_gather 132 = .ok (.iload 5, 2) := by decide +kernel
theorem d_M_gather_134 : decode c_M_gather 134 = .ok (.aload_n 0, 1) := by decide +kernel
theorem d_M_gather_135 : decode c_M_gather 135 = .ok (.getfield 7, 3) := by decide +kernel
theorem d_M_gather_138 : decode c_M_gather 138 = .ok (.iload 4, 2) := by decide +kernel
theorem d_M_gather_140 : decode c_M_gather 140 = .ok (.iaload, 1) := by decide +kernel
theorem d_M_gather_141 : decode c_M_gather 141 = .ok (.iastore, 1) := by decide +kernel
theorem d_M_gather_142 : decode c_M_gather 142 = .ok (.aload_n 0, 1) := by decide +kernel
theorem d_M_gather_143 : decode c_M_gather 143 = .ok (.getfield 16, 3) := by decide +kernel
theorem d_M_gather_146 : decode c_M_gather 146 = .ok (.iload 5, 2) := by decide +kernel
theorem d_M_gather_148 : decode c_M_gather 148 = .ok (.iconst 1, 1) := by decide +kernel
theorem d_M_gather_149 : decode c_M_gather 149 = .ok (.iastore, 1) := by decide +kernel
theorem d_M_gather_150 : decode c_M_gather 150 = .ok (.iinc 3 1, 3) := by decide +kernel
theorem d_M_gather_153 : decode c_M_gather 153 = .ok (.iinc 4 1, 3) := by decide +kernel
theorem d_M_gather_156 : decode c_M_gather 156 = .ok (.goto (-151), 3) := by decide +kernel
theorem d_M_gather_159 : decode c_M_gather 159 = .ok (.iload_n 3, 1) := by decide +kernel
theorem d_M_gather_160 : decode c_M_gather 160 = .ok (.ireturn, 1) := by decide +kernel
theorem d_M_between_0 : decode c_M_between 0 = .ok (.aload_n 0, 1) := by decide +kernel
theorem d_M_between_1 : decode c_M_between 1 = .ok (.aload_n 0, 1) := by decide +kernel
theorem d_M_between_2 : decode c_M_between 2 = .ok (.iload_n 1, 1) := by decide +kernel
theorem d_M_between_3 : decode c_M_between 3 = .ok (.iload_n 2, 1) := by decide +kernel
theorem d_M_between_4 : decode c_M_between 4 = .ok (.invokevirtual 42, 3) := by decide +kernel
theorem d_M_between_7 : decode c_M_between 7 = .ok (.ifCond .eq 7, 3) := by decide +kernel
theorem d_M_between_10 : decode c_M_between 10 = .ok (.iconst 0, 1) := by decide +kernel
theorem d_M_between_11 : decode c_M_between 11 = .ok (.goto 4, 3) := by decide +kernel
theorem d_M_between_14 : decode c_M_between 14 = .ok (.iconst 1, 1) := by decide +kernel
theorem d_M_between_15 : decode c_M_between 15 = .ok (.putfield 24, 3) := by decide +kernel
theorem d_M_between_18 : decode c_M_between 18 = .ok (.iconst 0, 1) := by decide +kernel
theorem d_M_between_19 : decode c_M_between 19 = .ok (.istore 5, 2) := by decide +kernel
theorem d_M_between_21 : decode c_M_between 21 = .ok (.iload_n 1, 1) := by decide +kernel
theorem d_M_between_22 : decode c_M_between 22 = .ok (.istore 6, 2) := by decide +kernel
theorem d_M_between_24 : decode c_M_between 24 = .ok (.iload 6, 2) := by decide +kernel
theorem d_M_between_26 : decode c_M_between 26 = .ok (.iload_n 2, 1) := by decide +kernel
theorem d_M_between_27 : decode c_M_between 27 = .ok (.if_icmp .ge 50, 3) := by decide +kernel
theorem d_M_between_30 : decode c_M_between 30 = .ok (.aload_n 0, 1) := by decide +kernel
theorem d_M_between_31 : decode c_M_between 31 = .ok (.getfield 24, 3) := by decide +kernel
theorem d_M_between_34 : decode c_M_between 34 = .ok (.ifCond .ne 43, 3) := by decide +kernel
theorem d_M_between_37 : decode c_M_between 37 = .ok (.aload_n 0, 1) := by decide +kernel
theorem d_M_between_38 : decode c_M_between 38 = .ok (.getfield 7, 3) := by decide +kernel
theorem d_M_between_41 : decode c_M_between 41 = .ok (.iload 6, 2) := by decide +kernel
theorem d_M_between_43 : decode c_M_between 43 = .ok (.iaload, 1) := by decide +kernel
theorem d_M_between_44 : decode c_M_between 44 = .ok (.iload_n 3, 1) := by decide +kernel
theorem d_M_between_45 : decode c_M_between 45 = .ok (.if_icmp .lt 22, 3) := by decide +kernel
theorem d_M_between_48 : decode c_M_between 48 = .ok (.aload_n 0, 1) := by decide +kernel
theorem d_M_between_49 : decode c_M_between 49 = .ok (.getfield 7, 3) := by decide +kernel
theorem d_M_between_52 : decode c_M_between 52 = .ok (.iload 6, 2) := by decide +kernel
theorem d_M_between_54 : decode c_M_between 54 = .ok (.iaload, 1) := by decide +kernel
theorem d_M_between_55 : decode c_M_between 55 = .ok (.iload 4, 2) := by decide +kernel
theorem d_M_between_57 : decode c_M_between 57 = .ok (.if_icmp .ge 10, 3) := by decide +kernel
theorem d_M_between_60 : decode c_M_between 60 = .ok (.iload 5, 2) := by decide +kernel
theorem d_M_between_62 : decode c_M_between 62 = .ok (.iconst 1, 1) := by decide +kernel
theorem d_M_between_63 : decode c_M_between 63 = .ok (.iadd, 1) := by decide +kernel
theorem d_M_between_64 : decode c_M_between 64 = .ok (.goto 5, 3) := by decide +kernel
theorem d_M_between_67 : decode c_M_between 67 = .ok (.iload 5, 2) := by decide +kernel
theorem d_M_between_69 : decode c_M_between 69 = .ok (.istore 5, 2) := by decide +kernel
theorem d_M_between_71 : decode c_M_between 71 = .ok (.iinc 6 1, 3) := by decide +kernel
theorem d_M_between_74 : decode c_M_between 74 = .ok (.goto (-50), 3) := by decide +kernel
theorem d_M_between_77 : decode c_M_between 77 = .ok (.iload 5, 2) := by decide +kernel
theorem d_M_between_79 : decode c_M_between 79 = .ok (.ireturn, 1) := by decide +kernel
theorem d_M_below_0 : decode c_M_below 0 = .ok (.aload_n 0, 1) := by decide +kernel
theorem d_M_below_1 : decode c_M_below 1 = .ok (.aload_n 0, 1) := by decide +kernel
theorem d_M_below_2 : decode c_M_below 2 = .ok (.iload_n 1, 1) := by decide +kernel
theorem d_M_below_3 : decode c_M_below 3 = .ok (.iload_n 2, 1) := by decide +kernel
theorem d_M_below_4 : decode c_M_below 4 = .ok (.invokevirtual 42, 3) := by decide +kernel
theorem d_M_below_7 : decode c_M_below 7 = .ok (.ifCond .eq 7, 3) := by decide +kernel
theorem d_M_below_10 : decode c_M_below 10 = .ok (.iconst 0, 1) := by decide +kernel
theorem d_M_below_11 : decode c_M_below 11 = .ok (.goto 4, 3) := by decide +kernel
theorem d_M_below_14 : decode c_M_below 14 = .ok (.iconst 1, 1) := by decide +kernel
theorem d_M_below_15 : decode c_M_below 15 = .ok (.putfield 24, 3) := by decide +kernel
theorem d_M_below_18 : decode c_M_below 18 = .ok (.iconst (-1), 1) := by decide +kernel
theorem d_M_below_19 : decode c_M_below 19 = .ok (.istore 4, 2) := by decide +kernel
theorem d_M_below_21 : decode c_M_below 21 = .ok (.iload_n 1, 1) := by decide +kernel
theorem d_M_below_22 : decode c_M_below 22 = .ok (.istore 5, 2) := by decide +kernel
theorem d_M_below_24 : decode c_M_below 24 = .ok (.iload 5, 2) := by decide +kernel
theorem d_M_below_26 : decode c_M_below 26 = .ok (.iload_n 2, 1) := by decide +kernel
theorem d_M_below_27 : decode c_M_below 27 = .ok (.if_icmp .ge 53, 3) := by decide +kernel
theorem d_M_below_30 : decode c_M_below 30 = .ok (.aload_n 0, 1) := by decide +kernel
theorem d_M_below_31 : decode c_M_below 31 = .ok (.getfield 24, 3) := by decide +kernel
theorem d_M_below_34 : decode c_M_below 34 = .ok (.ifCond .ne 46, 3) := by decide +kernel
theorem d_M_below_37 : decode c_M_below 37 = .ok (.aload_n 0, 1) := by decide +kernel
theorem d_M_below_38 : decode c_M_below 38 = .ok (.getfield 7, 3) := by decide +kernel
theorem d_M_below_41 : decode c_M_below 41 = .ok (.iload 5, 2) := by decide +kernel
theorem d_M_below_43 : decode c_M_below 43 = .ok (.iaload, 1) := by decide +kernel
theorem d_M_below_44 : decode c_M_below 44 = .ok (.iload_n 3, 1) := by decide +kernel
theorem d_M_below_45 : decode c_M_below 45 = .ok (.if_icmp .ge 25, 3) := by decide +kernel
theorem d_M_below_48 : decode c_M_below 48 = .ok (.aload_n 0, 1) := by decide +kernel
theorem d_M_below_49 : decode c_M_below 49 = .ok (.getfield 7, 3) := by decide +kernel
theorem d_M_below_52 : decode c_M_below 52 = .ok (.iload 5, 2) := by decide +kernel
theorem d_M_below_54 : decode c_M_below 54 = .ok (.iaload, 1) := by decide +kernel
theorem d_M_below_55 : decode c_M_below 55 = .ok (.iload 4, 2) := by decide +kernel
theorem d_M_below_57 : decode c_M_below 57 = .ok (.if_icmp .le 13, 3) := by decide +kernel
theorem d_M_below_60 : decode c_M_below 60 = .ok (.aload_n 0, 1) := by decide +kernel
theorem d_M_below_61 : decode c_M_below 61 = .ok (.getfield 7, 3) := by decide +kernel
theorem d_M_below_64 : decode c_M_below 64 = .ok (.iload 5, 2) := by decide +kernel
theorem d_M_below_66 : decode c_M_below 66 = .ok (.iaload, 1) := by decide +kernel
theorem d_M_below_67 : decode c_M_below 67 = .ok (.goto 5, 3) := by decide +kernel
theorem d_M_below_70 : decode c_M_below 70 = .ok (.iload 4, 2) := by decide +kernel
theorem d_M_below_72 : decode c_M_below 72 = .ok (.istore 4, 2) := by decide +kernel
theorem d_M_below_74 : decode c_M_below 74 = .ok (.iinc 5 1, 3) := by decide +kernel
theorem d_M_below_77 : decode c_M_below 77 = .ok (.goto (-53), 3) := by decide +kernel
theorem d_M_below_80 : decode c_M_below 80 = .ok (.aload_n 0, 1) := by decide +kernel
theorem d_M_below_81 : decode c_M_below 81 = .ok (.getfield 24, 3) := by decide +kernel
theorem d_M_below_84 : decode c_M_below 84 = .ok (.ifCond .le 7, 3) := by decide +kernel
theorem d_M_below_87 : decode c_M_below 87 = .ok (.iconst 0, 1) := by decide +kernel
theorem d_M_below_88 : decode c_M_below 88 = .ok (.goto 5, 3) := by decide +kernel
theorem d_M_below_91 : decode c_M_below 91 = .ok (.iload 4, 2) := by decide +kernel
theorem d_M_below_93 : decode c_M_below 93 = .ok (.ireturn, 1) := by decide +kernel
theorem d_M_above_0 : decode c_M_above 0 = .ok (.aload_n 0, 1) := by decide +kernel
theorem d_M_above_1 : decode c_M_above 1 = .ok (.aload_n 0, 1) := by decide +kernel
theorem d_M_above_2 : decode c_M_above 2 = .ok (.iload_n 1, 1) := by decide +kernel
theorem d_M_above_3 : decode c_M_above 3 = .ok (.iload_n 2, 1) := by decide +kernel
theorem d_M_above_4 : decode c_M_above 4 = .ok (.invokevirtual 42, 3) := by decide +kernel
theorem d_M_above_7 : decode c_M_above 7 = .ok (.ifCond .eq 7, 3) := by decide +kernel
theorem d_M_above_10 : decode c_M_above 10 = .ok (.iconst 0, 1) := by decide +kernel
theorem d_M_above_11 : decode c_M_above 11 = .ok (.goto 4, 3) := by decide +kernel
theorem d_M_above_14 : decode c_M_above 14 = .ok (.iconst 1, 1) := by decide +kernel
theorem d_M_above_15 : decode c_M_above 15 = .ok (.putfield 24, 3) := by decide +kernel
theorem d_M_above_18 : decode c_M_above 18 = .ok (.iconst (-1), 1) := by decide +kernel
theorem d_M_above_19 : decode c_M_above 19 = .ok (.istore 4, 2) := by decide +kernel
theorem d_M_above_21 : decode c_M_above 21 = .ok (.iload_n 1, 1) := by decide +kernel
theorem d_M_above_22 : decode c_M_above 22 = .ok (.istore 5, 2) := by decide +kernel
theorem d_M_above_24 : decode c_M_above 24 = .ok (.iload 5, 2) := by decide +kernel
theorem d_M_above_26 : decode c_M_above 26 = .ok (.iload_n 2, 1) := by decide +kernel
theorem d_M_above_27 : decode c_M_above 27 = .ok (.if_icmp .ge 59, 3) := by decide +kernel
theorem d_M_above_30 : decode c_M_above 30 = .ok (.aload_n 0, 1) := by decide +kernel
theorem d_M_above_31 : decode c_M_above 31 = .ok (.getfield 24, 3) := by decide +kernel
theorem d_M_above_34 : decode c_M_above 34 = .ok (.ifCond .ne 52, 3) := by decide +kernel
theorem d_M_above_37 : decode c_M_above 37 = .ok (.aload_n 0, 1) := by decide +kernel
theorem d_M_above_38 : decode c_M_above 38 = .ok (.getfield 7, 3) := by decide +kernel
theorem d_M_above_41 : decode c_M_above 41 = .ok (.iload 5, 2) := by decide +kernel
theorem d_M_above_43 : decode c_M_above 43 = .ok (.iaload, 1) := by decide +kernel
theorem d_M_above_44 : decode c_M_above 44 = .ok (.iload_n 3, 1) := by decide +kernel
theorem d_M_above_45 : decode c_M_above 45 = .ok (.if_icmp .lt 31, 3) := by decide +kernel
theorem d_M_above_48 : decode c_M_above 48 = .ok (.iload 4, 2) := by decide +kernel
theorem d_M_above_50 : decode c_M_above 50 = .ok (.iconst (-1), 1) := by decide +kernel
theorem d_M_above_51 : decode c_M_above 51 = .ok (.if_icmp .eq 15, 3) := by decide +kernel
theorem d_M_above_54 : decode c_M_above 54 = .ok (.aload_n 0, 1) := by decide +kernel
theorem d_M_above_55 : decode c_M_above 55 = .ok (.getfield 7, 3) := by decide +kernel
theorem d_M_above_58 : decode c_M_above 58 = .ok (.iload 5, 2) := by decide +kernel
theorem d_M_above_60 : decode c_M_above 60 = .ok (.iaload, 1) := by decide +kernel
theorem d_M_above_61 : decode c_M_above 61 = .ok (.iload 4, 2) := by decide +kernel
theorem d_M_above_63 : decode c_M_above 63 = .ok (.if_icmp .ge 13, 3) := by decide +kernel
theorem d_M_above_66 : decode c_M_above 66 = .ok (.aload_n 0, 1) := by decide +kernel
theorem d_M_above_67 : decode c_M_above 67 = .ok (.getfield 7, 3) := by decide +kernel
theorem d_M_above_70 : decode c_M_above 70 = .ok (.iload 5, 2) := by decide +kernel
theorem d_M_above_72 : decode c_M_above 72 = .ok (.iaload, 1) := by decide +kernel
theorem d_M_above_73 : decode c_M_above 73 = .ok (.goto 5, 3) := by decide +kernel
theorem d_M_above_76 : decode c_M_above 76 = .ok (.iload 4, 2) := by decide +kernel
theorem d_M_above_78 : decode c_M_above 78 = .ok (.istore 4, 2) := by decide +kernel
theorem d_M_above_80 : decode c_M_above 80 = .ok (.iinc 5 1, 3) := by decide +kernel
theorem d_M_above_83 : decode c_M_above 83 = .ok (.goto (-59), 3) := by decide +kernel
theorem d_M_above_86 : decode c_M_above 86 = .ok (.aload_n 0, 1) := by decide +kernel
theorem d_M_above_87 : decode c_M_above 87 = .ok (.getfield 24, 3) := by decide +kernel
theorem d_M_above_90 : decode c_M_above 90 = .ok (.ifCond .le 7, 3) := by decide +kernel
theorem d_M_above_93 : decode c_M_above 93 = .ok (.iconst 0, 1) := by decide +kernel
theorem d_M_above_94 : decode c_M_above 94 = .ok (.goto 5, 3) := by decide +kernel
theorem d_M_above_97 : decode c_M_above 97 = .ok (.iload 4, 2) := by decide +kernel
theorem d_M_above_99 : decode c_M_above 99 = .ok (.ireturn, 1) := by decide +kernel
theorem d_M_different_0 : decode c_M_different 0 = .ok (.aload_n 0, 1) := by decide +kernel
theorem d_M_different_1 : decode c_M_different 1 = .ok (.aload_n 0, 1) := by decide +kernel
theorem d_M_different_2 : decode c_M_different 2 = .ok (.iload_n 1, 1) := by decide +kernel
theorem d_M_different_3 : decode c_M_different 3 = .ok (.iload_n 2, 1) := by decide +kernel
theorem d_M_different_4 : decode c_M_different 4 = .ok (.invokevirtual 42, 3) := by decide +kernel
theorem d_M_different_7 : decode c_M_different 7 = .ok (.ifCond .eq 7, 3) := by decide +kernel
theorem d_M_different_10 : decode c_M_different 10 = .ok (.iconst 0, 1) := by decide +kernel
theorem d_M_different_11 : decode c_M_different 11 = .ok (.goto 4, 3) := by decide +kernel
theorem d_M_different_14 : decode c_M_different 14 = .ok (.iconst 1, 1) := by decide +kernel
theorem d_M_different_15 : decode c_M_different 15 = .ok (.putfield 24, 3) := by decide +kernel
theorem d_M_different_18 : decode c_M_different 18 = .ok (.aload_n 0, 1) := by decide +kernel
theorem d_M_different_19 : decode c_M_different 19 = .ok (.getfield 24, 3) := by decide +kernel
theorem d_M_different_22 : decode c_M_different 22 = .ok (.ifCond .le 7, 3) := by decide +kernel
theorem d_M_different_25 : decode c_M_different 25 = .ok (.iconst 0, 1) := by decide +kernel
theorem d_M_different_26 : decode c_M_different 26 = .ok (.goto 9, 3) := by decide +kernel
theorem d_M_different_29 : decode c_M_different 29 = .ok (.aload_n 0, 1) := by decide +kernel
theorem d_M_different_30 : decode c_M_different 30 = .ok (.iload_n 1, 1) := by decide +kernel
theorem d_M_different_31 : decode c_M_different 31 = .ok (.iload_n 2, 1) := by decide +kernel
theorem d_M_different_32 : decode c_M_different 32 = .ok (.invokevirtual 46, 3) := by decide +kernel
theorem d_M_different_35 : decode c_M_different 35 = .ok (.ireturn, 1) := by decide +kernel
theorem d_M_frequent_0 : decode c_M_frequent 0 = .ok (.aload_n 0, 1) := by decide +kernel
theorem d_M_frequent_1 : decode c_M_frequent 1 = .ok (.aload_n 0, 1) := by decide +kernel
theorem d_M_frequent_2 : decode c_M_frequent 2 = .ok (.iload_n 1, 1) := by decide +kernel
theorem d_M_frequent_3 : decode c_M_frequent 3 = .ok (.iload_n 2, 1) := by decide +kernel
theorem d_M_frequent_4 : decode c_M_frequent 4 = .ok (.invokevirtual 42, 3) := by decide +kernel
theorem d_M_frequent_7 : decode c_M_frequent 7 = .ok (.ifCond .eq 11, 3) := by decide +kernel
theorem d_M_frequent_10 : decode c_M_frequent 10 = .ok (.iload_n 3, 1) := by decide +kernel
theorem d_M_frequent_11 : decode c_M_frequent 11 = .ok (.ifCond .lt 7, 3) := by decide +kernel
theorem d_M_frequent_14 : decode c_M_frequent 14 = .ok (.iconst 0, 1) := by decide +kernel
theorem d_M_frequent_15 : decode c_M_frequent 15 = .ok (.goto 4, 3) := by decide +kernel
theorem d_M_frequent_18 : decode c_M_frequent 18 = .ok (.iconst 1, 1) := by decide +kernel
theorem d_M_frequent_19 : decode c_M_frequent 19 = .ok (.putfield 24, 3) := by decide +kernel
theorem d_M_frequent_22 : decode c_M_frequent 22 = .ok (.aload_n 0, 1) := by decide +kernel
theorem d_M_frequent_23 : decode c_M_frequent 23 = .ok (.getfield 24, 3) := by decide +kernel
theorem d_M_frequent_26 : decode c_M_frequent 26 = .ok (.ifCond .le 5, 3) := by decide +kernel
theorem d_M_frequent_29 : decode c_M_frequent 29 = .ok (.iconst 0, 1) := by decide +kernel
theorem d_M_frequent_30 : decode c_M_frequent 30 = .ok (.ireturn, 1) := by decide +kernel
theorem d_M_frequent_31 : decode c_M_frequent 31 = .ok (.aload_n 0, 1) := by decide +kernel
theorem d_M_frequent_32 : decode c_M_frequent 32 = .ok (.iload_n 1, 1) := by decide +kernel
theorem d_M_frequent_33 : decode c_M_frequent 33 = .ok (.iload_n 2, 1) := by decide +kernel
theorem d_M_frequent_34 : decode c_M_frequent 34 = .ok (.invokevirtual 46, 3) := by decide +kernel
theorem d_M_frequent_37 : decode c_M_frequent 37 = .ok (.istore 4, 2) := by decide +kernel
theorem d_M_frequent_39 : decode c_M_frequent 39 = .ok (.iconst 0, 1) := by decide +kernel
theorem d_M_frequent_40 : decode c_M_frequent 40 = .ok (.istore 5, 2) := by decide +kernel
theorem d_M_frequent_42 : decode c_M_frequent 42 = .ok (.iload 5, 2) := by decide +kernel
theorem d_M_frequent_44 : decode c_M_frequent 44 = .ok (.iload 4, 2) := by decide +kernel
theorem d_M_frequent_46 : decode c_M_frequent 46 = .ok (.if_icmp .ge 94, 3) := by decide +kernel
theorem d_M_frequent_49 : decode c_M_frequent 49 = .ok (.iconst 0, 1) := by decide +kernel
theorem d_M_frequent_50 : decode c_M_frequent 50 = .ok (.istore 6, 2) := by decide +kernel
theorem d_M_frequent_52 : decode c_M_frequent 52 = .ok (.iconst 0, 1) := by decide +kernel
theorem d_M_frequent_53 : decode c_M_frequent 53 = .ok (.istore 7, 2) := by decide +kernel
theorem d_M_frequent_55 : decode c_M_frequent 55 = .ok (.iload 7, 2) := by decide +kernel
theorem d_M_frequent_57 : decode c_M_frequent 57 = .ok (.iload 4, 2) := by decide +kernel
theorem d_M_frequent_59 : decode c_M_frequent 59 = .ok (.if_icmp .ge 61, 3) := by decide +kernel
theorem d_M_frequent_62 : decode c_M_frequent 62 = .ok (.aload_n 0, 1) := by decide +kernel
theorem d_M_frequent_63 : decode c_M_frequent 63 = .ok (.getfield 16, 3) := by decide +kernel
theorem d_M_frequent_66 : decode c_M_frequent 66 = .ok (.iload 7, 2) := by decide +kernel
theorem d_M_frequent_68 : decode c_M_frequent 68 = .ok (.iaload, 1) := by decide +kernel
theorem d_M_frequent_69 : decode c_M_frequent 69 = .ok (.aload_n 0, 1) := by decide +kernel
theorem d_M_frequent_70 : decode c_M_frequent 70 = .ok (.getfield 16, 3) := by decide +kernel
theorem d_M_frequent_73 : decode c_M_frequent 73 = .ok (.iload 5, 2) := by decide +kernel
theorem d_M_frequent_75 : decode c_M_frequent 75 = .ok (.iaload, 1) := by decide +kernel
theorem d_M_frequent_76 : decode c_M_frequent 76 = .ok (.if_icmp .gt 27, 3) := by decide +kernel
theorem d_M_frequent_79 : decode c_M_frequent 79 = .ok (.aload_n 0, 1) := by decide +kernel
theorem d_M_frequent_80 : decode c_M_frequent 80 = .ok (.getfield 16, 3) := by decide +kernel
theorem d_M_frequent_83 : decode c_M_frequent 83 = .ok (.iload 7, 2) := by decide +kernel
theorem d_M_frequent_85 : decode c_M_frequent 85 = .ok (.iaload, 1) := by decide +kernel
theorem d_M_frequent_86 : decode c_M_frequent 86 = .ok (.aload_n 0, 1) := by decide +kernel
theorem d_M_frequent_87 : decode c_M_frequent 87 = .ok (.getfield 16, 3) := by decide +kernel
theorem d_M_frequent_90 : decode c_M_frequent 90 = .ok (.iload 5, 2) := by decide +kernel
theorem d_M_frequent_92 : decode c_M_frequent 92 = .ok (.iaload, 1) := by decide +kernel
theorem d_M_frequent_93 : decode c_M_frequent 93 = .ok (.if_icmp .ne 17, 3) := by decide +kernel
theorem d_M_frequent_96 : decode c_M_frequent 96 = .ok (.iload 7, 2) := by decide +kernel
theorem d_M_frequent_98 : decode c_M_frequent 98 = .ok (.iload 5, 2) := by decide +kernel
theorem d_M_frequent_100 : decode c_M_frequent 100 = .ok (.if_icmp .ge 10, 3) := by decide +kernel
theorem d_M_frequent_103 : decode c_M_frequent 103 = .ok (.iload 6, 2) := by decide +kernel
theorem d_M_frequent_105 : decode c_M_frequent 105 = .ok (.iconst 1, 1) := by decide +kernel
theorem d_M_frequent_106 : decode c_M_frequent 106 = .ok (.iadd, 1) := by decide +kernel
theorem d_M_frequent_107 : decode c_M_frequent 107 = .ok (.goto 5, 3) := by decide +kernel
theorem d_M_frequent_110 : decode c_M_frequent 110 = .ok (.iload 6, 2) := by decide +kernel
theorem d_M_frequent_112 : decode c_M_frequent 112 = .ok (.istore 6, 2) := by decide +kernel
theorem d_M_frequent_114 : decode c_M_frequent 114 = .ok (.iinc 7 1, 3) := by decide +kernel
theorem d_M_frequent_117 : decode c_M_frequent 117 = .ok (.goto (-62), 3) := by decide +kernel
theorem d_M_frequent_120 : decode c_M_frequent 120 = .ok (.iload 6, 2) := by decide +kernel
theorem d_M_frequent_122 : decode c_M_frequent 122 = .ok (.iload_n 3, 1) := by decide +kernel
theorem d_M_frequent_123 : decode c_M_frequent 123 = .ok (.if_icmp .ne 11, 3) := by decide +kernel
theorem d_M_frequent_126 : decode c_M_frequent 126 = .ok (.aload_n 0, 1) := by decide +kernel
theorem d_M_frequent_127 : decode c_M_frequent 127 = .ok (.getfield 13, 3) := by decide +kernel
theorem d_M_frequent_130 : decode c_M_frequent 130 = .ok (.iload 5, 2) := by decide +kernel
theorem d_M_frequent_132 : decode c_M_frequent 132 = .ok (.iaload, 1) := by decide +kernel
theorem d_M_frequent_133 : decode c_M_frequent 133 = .ok (.ireturn, 1) := by decide +kernel
theorem d_M_frequent_134 : decode c_M_frequent 134 = .ok (.iinc 5 1, 3) := by decide +kernel
theorem d_M_frequent_137 : decode c_M_frequent 137 = .ok (.goto (-95), 3) := by decide +kernel
theorem d_M_frequent_140 : decode c_M_frequent 140 = .ok (.iconst (-1), 1) := by decide +kernel
theorem d_M_frequent_141 : decode c_M_frequent 141 = .ok (.ireturn, 1) := by decide +kernel
theorem d_M_bits_0 : decode c_M_bits 0 = .ok (.aload_n 0, 1) := by decide +kernel
theorem d_M_bits_1 : decode c_M_bits 1 = .ok (.iconst 0, 1) := by decide +kernel
theorem d_M_bits_2 : decode c_M_bits 2 = .ok (.putfield 24, 3) := by decide +kernel
theorem d_M_bits_5 : decode c_M_bits 5 = .ok (.aload_n 0, 1) := by decide +kernel
theorem d_M_bits_6 : decode c_M_bits 6 = .ok (.invokevirtual 50, 3) := by decide +kernel
theorem d_M_bits_9 : decode c_M_bits 9 = .ok (.aload_n 0, 1) := by decide +kernel
theorem d_M_bits_10 : decode c_M_bits 10 = .ok (.getfield 35, 3) := by decide +kernel
theorem d_M_bits_13 : decode c_M_bits 13 = .ok (.bipush 63, 2) := by decide +kernel
theorem d_M_bits_15 : decode c_M_bits 15 = .ok (.iadd, 1) := by decide +kernel
theorem d_M_bits_16 : decode c_M_bits 16 = .ok (.bipush 64, 2) := by decide +kernel
theorem d_M_bits_18 : decode c_M_bits 18 = .ok (.idiv, 1) := by decide +kernel
theorem d_M_bits_19 : decode c_M_bits 19 = .ok (.bipush 80, 2) := by decide +kernel
theorem d_M_bits_21 : decode c_M_bits 21 = .ok (.imul, 1) := by decide +kernel
theorem d_M_bits_22 : decode c_M_bits 22 = .ok (.bipush 32, 2) := by decide +kernel
theorem d_M_bits_24 : decode c_M_bits 24 = .ok (.iadd, 1) := by decide +kernel
theorem d_M_bits_25 : decode c_M_bits 25 = .ok (.imul, 1) := by decide +kernel
theorem d_M_bits_26 : decode c_M_bits 26 = .ok (.ireturn, 1) := by decide +kernel
theorem d_M_levels_0 : decode c_M_levels 0 = .ok (.iconst 0, 1) := by decide +kernel
theorem d_M_levels_1 : decode c_M_levels 1 = .ok (.istore_n 1, 1) := by decide +kernel
theorem d_M_levels_2 : decode c_M_levels 2 = .ok (.aload_n 0, 1) := by decide +kernel
theorem d_M_levels_3 : decode c_M_levels 3 = .ok (.getfield 20, 3) := by decide +kernel
theorem d_M_levels_6 : decode c_M_levels 6 = .ok (.iconst 1, 1) := by decide +kernel
theorem d_M_levels_7 : decode c_M_levels 7 = .ok (.isub, 1) := by decide +kernel
theorem d_M_levels_8 : decode c_M_levels 8 = .ok (.iload_n 1, 1) := by decide +kernel
theorem d_M_levels_9 : decode c_M_levels 9 = .ok (.ishr, 1) := by decide +kernel
theorem d_M_levels_10 : decode c_M_levels 10 = .ok (.ifCond .le 9, 3) := by decide +kernel
theorem d_M_levels_13 : decode c_M_levels 13 = .ok (.iinc 1 1, 3) := by decide +kernel
theorem d_M_levels_16 : decode c_M_levels 16 = .ok (.goto (-14), 3) := by decide +kernel
theorem d_M_levels_19 : decode c_M_levels 19 = .ok (.iload_n 1, 1) := by decide +kernel
theorem d_M_levels_20 : decode c_M_levels 20 = .ok (.ireturn, 1) := by decide +kernel
theorem d_M_count_0 : decode c_M_count 0 = .ok (.aload_n 0, 1) := by decide +kernel
theorem d_M_count_1 : decode c_M_count 1 = .ok (.iload_n 1, 1) := by decide +kernel
theorem d_M_count_2 : decode c_M_count 2 = .ok (.ifCond .lt 12, 3) := by decide +kernel
theorem d_M_count_5 : decode c_M_count 5 = .ok (.iload_n 1, 1) := by decide +kernel
theorem d_M_count_6 : decode c_M_count 6 = .ok (.iconst 3, 1) := by decide +kernel
theorem d_M_count_7 : decode c_M_count 7 = .ok (.if_icmp .gt 7, 3) := by decide +kernel
theorem d_M_count_10 : decode c_M_count 10 = .ok (.iconst 0, 1) := by decide +kernel
theorem d_M_count_11 : decode c_M_count 11 = .ok (.goto 4, 3) := by decide +kernel
theorem d_M_count_14 : decode c_M_count 14 = .ok (.iconst 1, 1) := by decide +kernel
theorem d_M_count_15 : decode c_M_count 15 = .ok (.putfield 24, 3) := by decide +kernel
theorem d_M_count_18 : decode c_M_count 18 = .ok (.aload_n 0, 1) := by decide +kernel
theorem d_M_count_19 : decode c_M_count 19 = .ok (.getfield 24, 3) := by decide +kernel
theorem d_M_count_22 : decode c_M_count 22 = .ok (.ifCond .le 5, 3) := by decide +kernel
theorem d_M_count_25 : decode c_M_count 25 = .ok (.iconst 0, 1) := by decide +kernel
theorem d_M_count_26 : decode c_M_count 26 = .ok (.ireturn, 1) := by decide +kernel
theorem d_M_count_27 : decode c_M_count 27 = .ok (.iload_n 1, 1) := by decide +kernel
theorem d_M_count_28 : decode c_M_count 28 = .ok (.ifCond .ne 10, 3) := by decide +kernel
theorem d_M_count_31 : decode c_M_count 31 = .ok (.aload_n 0, 1) := by decide +kernel
theorem d_M_count_32 : decode c_M_count 32 = .ok (.getfield 35, 3) := by decide +kernel
theorem d_M_count_35 : decode c_M_count 35 = .ok (.goto 36, 3) := by decide +kernel
theorem d_M_count_38 : decode c_M_count 38 = .ok (.iload_n 1, 1) := by decide +kernel
theorem d_M_count_39 : decode c_M_count 39 = .ok (.iconst 1, 1) := by decide +kernel
theorem d_M_count_40 : decode c_M_count 40 = .ok (.if_icmp .ne 15, 3) := by decide +kernel
theorem d_M_count_43 : decode c_M_count 43 = .ok (.aload_n 0, 1) := by decide +kernel
theorem d_M_count_44 : decode c_M_count 44 = .ok (.getfield 32, 3) := by decide +kernel
theorem d_M_count_47 : decode c_M_count 47 = .ok (.aload_n 0, 1) := by decide +kernel
theorem d_M_count_48 : decode c_M_count 48 = .ok (.getfield 35, 3) := by decide +kernel
theorem d_M_count_51 : decode c_M_count 51 = .ok (.isub, 1) := by decide +kernel
theorem d_M_count_52 : decode c_M_count 52 = .ok (.goto 19, 3) := by decide +kernel
theorem d_M_count_55 : decode c_M_count 55 = .ok (.iload_n 1, 1) := by decide +kernel
theorem d_M_count_56 : decode c_M_count 56 = .ok (.iconst 2, 1) := by decide +kernel
theorem d_M_count_57 : decode c_M_count 57 = .ok (.if_icmp .ne 10, 3) := by decide +kernel
theorem d_M_count_60 : decode c_M_count 60 = .ok (.aload_n 0, 1) := by decide +kernel
theorem d_M_count_61 : decode c_M_count 61 = .ok (.invokevirtual 50, 3) := by decide +kernel
theorem d_M_count_64 : decode c_M_count 64 = .ok (.goto 7, 3) := by decide +kernel
theorem d_M_count_67 : decode c_M_count 67 = .ok (.aload_n 0, 1) := by decide +kernel
theorem d_M_count_68 : decode c_M_count 68 = .ok (.getfield 20, 3) := by decide +kernel
theorem d_M_count_71 : decode c_M_count 71 = .ok (.ireturn, 1) := by decide +kernel
end
section
theorem d_W_cell_0 : decode c_W_cell 0 = .ok (.iload_n 1, 1) := by decide +kernel
theorem d_W_cell_1 : decode c_W_cell 1 = .ok (.aload_n 0, 1) := by decide +kernel
theorem d_W_cell_2 : decode c_W_cell 2 = .ok (.arraylength, 1) := by decide +kernel
theorem d_W_cell_3 : decode c_W_cell 3 = .ok (.if_icmp .ge 9, 3) := by decide +kernel
theorem d_W_cell_6 : decode c_W_cell 6 = .ok (.aload_n 0, 1) := by decide +kernel
theorem d_W_cell_7 : decode c_W_cell 7 = .ok (.iload_n 1, 1) := by decide +kernel
theorem d_W_cell_8 : decode c_W_cell 8 = .ok (.iaload, 1) := by decide +kernel
theorem d_W_cell_9 : decode c_W_cell 9 = .ok (.goto 4, 3) := by decide +kernel
theorem d_W_cell_12 : decode c_W_cell 12 = .ok (.iconst 0, 1) := by decide +kernel
theorem d_W_cell_13 : decode c_W_cell 13 = .ok (.ireturn, 1) := by decide +kernel
theorem d_W_put_0 : decode c_W_put 0 = .ok (.aload 7, 2) := by decide +kernel
theorem d_W_put_2 : decode c_W_put 2 = .ok (.iconst 0, 1) := by decide +kernel
theorem d_W_put_3 : decode c_W_put 3 = .ok (.aload_n 0, 1) := by decide +kernel
theorem d_W_put_4 : decode c_W_put 4 = .ok (.iload_n 1, 1) := by decide +kernel
theorem d_W_put_5 : decode c_W_put 5 = .ok (.iload_n 2, 1) := by decide +kernel
theorem d_W_put_6 : decode c_W_put 6 = .ok (.iload_n 3, 1) := by decide +kernel
theorem d_W_put_7 : decode c_W_put 7 = .ok (.iload 4, 2) := by decide +kernel
theorem d_W_put_9 : decode c_W_put 9 = .ok (.iload 5, 2) := by decide +kernel
theorem d_W_put_11 : decode c_W_put 11 = .ok (.iload 6, 2) := by decide +kernel
theorem d_W_put_13 : decode c_W_put 13 = .ok (.invokevirtual 7, 3) := by decide +kernel
theorem d_W_put_16 : decode c_W_put 16 = .ok (.i2l, 1) := by decide +kernel
theorem d_W_put_17 : decode c_W_put 17 = .ok (.lastore, 1) := by decide +kernel
theorem d_W_put_18 : decode c_W_put 18 = .ok (.goto 15, 3) := by decide +kernel
theorem d_W_put_21 : decode c_W_put 21 = .ok (.astore 8, 2) := by decide +kernel
theorem d_W_put_23 : decode c_W_put 23 = .ok (.iconst 1, 1) := by decide +kernel
theorem d_W_put_24 : decode c_W_put 24 = .ok (.ireturn, 1) := by decide +kernel
theorem d_W_put_25 : decode c_W_put 25 = .ok (.astore 8, 2) := by decide +kernel
theorem d_W_put_27 : decode c_W_put 27 = .ok (.iconst 2, 1) := by decide +kernel
theorem d_W_put_28 : decode c_W_put 28 = .ok (.ireturn, 1) := by decide +kernel
theorem d_W_put_29 : decode c_W_put 29 = .ok (.astore 8, 2) := by decide +kernel
theorem d_W_put_31 : decode c_W_put 31 = .ok (.iconst 3, 1) := by decide +kernel
theorem d_W_put_32 : decode c_W_put 32 = .ok (.ireturn, 1) := by decide +kernel
theorem d_W_put_33 : decode c_W_put 33 = .ok (.iconst 0, 1) := by decide +kernel
theorem d_W_put_34 : decode c_W_put 34 = .ok (.ireturn, 1) := by decide +kernel
theorem d_W_at_0 : decode c_W_at 0 = .ok (.aload_n 2, 1) := by decide +kernel
theorem d_W_at_1 : decode c_W_at 1 = .ok (.iconst 0, 1) := by decide +kernel
theorem d_W_at_2 : decode c_W_at 2 = .ok (.aload_n 0, 1) := by decide +kernel
theorem d_W_at_3 : decode c_W_at 3 = .ok (.iload_n 1, 1) := by decide +kernel
theorem d_W_at_4 : decode c_W_at 4 = .ok (.invokevirtual 19, 3) := by decide +kernel
theorem d_W_at_7 : decode c_W_at 7 = .ok (.i2l, 1) := by decide +kernel
theorem d_W_at_8 : decode c_W_at 8 = .ok (.lastore, 1) := by decide +kernel
theorem d_W_at_9 : decode c_W_at 9 = .ok (.goto 6, 3) := by decide +kernel
theorem d_W_at_12 : decode c_W_at 12 = .ok (.astore_n 3, 1) := by decide +kernel
theorem d_W_at_13 : decode c_W_at 13 = .ok (.iconst 1, 1) := by decide +kernel
theorem d_W_at_14 : decode c_W_at 14 = .ok (.ireturn, 1) := by decide +kernel
theorem d_W_at_15 : decode c_W_at 15 = .ok (.iconst 0, 1) := by decide +kernel
theorem d_W_at_16 : decode c_W_at 16 = .ok (.ireturn, 1) := by decide +kernel
theorem d_W_rank_0 : decode c_W_rank 0 = .ok (.aload_n 3, 1) := by decide +kernel
theorem d_W_rank_1 : decode c_W_rank 1 = .ok (.iconst 0, 1) := by decide +kernel
theorem d_W_rank_2 : decode c_W_rank 2 = .ok (.aload_n 0, 1) := by decide +kernel
theorem d_W_rank_3 : decode c_W_rank 3 = .ok (.iload_n 1, 1) := by decide +kernel
theorem d_W_rank_4 : decode c_W_rank 4 = .ok (.iload_n 2, 1) := by decide +kernel
theorem d_W_rank_5 : decode c_W_rank 5 = .ok (.invokevirtual 23, 3) := by decide +kernel
theorem d_W_rank_8 : decode c_W_rank 8 = .ok (.i2l, 1) := by decide +kernel
theorem d_W_rank_9 : decode c_W_rank 9 = .ok (.lastore, 1) := by decide +kernel
theorem d_W_rank_10 : decode c_W_rank 10 = .ok (.goto 7, 3) := by decide +kernel
theorem d_W_rank_13 : decode c_W_rank 13 = .ok (.astore 4, 2) := by decide +kernel
theorem d_W_rank_15 : decode c_W_rank 15 = .ok (.iconst 1, 1) := by decide +kernel
theorem d_W_rank_16 : decode c_W_rank 16 = .ok (.ireturn, 1) := by decide +kernel
theorem d_W_rank_17 : decode c_W_rank 17 = .ok (.iconst 0, 1) := by decide +kernel
theorem d_W_rank_18 : decode c_W_rank 18 = .ok (.ireturn, 1) := by decide +kernel
theorem d_W_select_0 : decode c_W_select 0 = .ok (.aload_n 3, 1) := by decide +kernel
theorem d_W_select_1 : decode c_W_select 1 = .ok (.iconst 0, 1) := by decide +kernel
theorem d_W_select_2 : decode c_W_select 2 = .ok (.aload_n 0, 1) := by decide +kernel
theorem d_W_select_3 : decode c_W_select 3 = .ok (.iload_n 1, 1) := by decide +kernel
theorem d_W_select_4 : decode c_W_select 4 = .ok (.iload_n 2, 1) := by decide +kernel
theorem d_W_select_5 : decode c_W_select 5 = .ok (.invokevirtual 27, 3) := by decide +kernel
theorem d_W_select_8 : decode c_W_select 8 = .ok (.i2l, 1) := by decide +kernel
theorem d_W_select_9 : decode c_W_select 9 = .ok (.lastore, 1) := by decide +kernel
theorem d_W_select_10 : decode c_W_select 10 = .ok (.goto 7, 3) := by decide +kernel
theorem d_W_select_13 : decode c_W_select 13 = .ok (.astore 4, 2) := by decide +kernel
theorem d_W_select_15 : decode c_W_select 15 = .ok (.iconst 1, 1) := by decide +kernel
theorem d_W_select_16 : decode c_W_select 16 = .ok (.ireturn, 1) := by decide +kernel
theorem d_W_select_17 : decode c_W_select 17 = .ok (.iconst 0, 1) := by decide +kernel
theorem d_W_select_18 : decode c_W_select 18 = .ok (.ireturn, 1) := by decide +kernel
theorem d_W_quantile_0 : decode c_W_quantile 0 = .ok (.aload 4, 2) := by decide +kernel
theorem d_W_quantile_2 : decode c_W_quantile 2 = .ok (.iconst 0, 1) := by decide +kernel
theorem d_W_quantile_3 : decode c_W_quantile 3 = .ok (.aload_n 0, 1) := by decide +kernel
theorem d_W_quantile_4 : decode c_W_quantile 4 = .ok (.iload_n 1, 1) := by decide +kernel
theorem d_W_quantile_5 : decode c_W_quantile 5 = .ok (.iload_n 2, 1) := by decide +kernel
theorem d_W_quantile_6 : decode c_W_quantile 6 = .ok (.iload_n 3, 1) := by decide +kernel
theorem d_W_quantile_7 : decode c_W_quantile 7 = .ok (.invokevirtual 30, 3) := by decide +kernel
theorem d_W_quantile_10 : decode c_W_quantile 10 = .ok (.i2l, 1) := by decide +kernel
theorem d_W_quantile_11 : decode c_W_quantile 11 = .ok (.lastore, 1) := by decide +kernel
theorem d_W_quantile_12 : decode c_W_quantile 12 = .ok (.goto 7, 3) := by decide +kernel
theorem d_W_quantile_15 : decode c_W_quantile 15 = .ok (.astore 5, 2) := by decide +kernel
theorem d_W_quantile_17 : decode c_W_quantile 17 = .ok (.iconst 1, 1) := by decide +kernel
theorem d_W_quantile_18 : decode c_W_quantile 18 = .ok (.ireturn, 1) := by decide +kernel
theorem d_W_quantile_19 : decode c_W_quantile 19 = .ok (.iconst 0, 1) := by decide +kernel
theorem d_W_quantile_20 : decode c_W_quantile 20 = .ok (.ireturn, 1) := by decide +kernel
theorem d_W_between_0 : decode c_W_between 0 = .ok (.aload 5, 2) := by decide +kernel
theorem d_W_between_2 : decode c_W_between 2 = .ok (.iconst 0, 1) := by decide +kernel
theorem d_W_between_3 : decode c_W_between 3 = .ok (.aload_n 0, 1) := by decide +kernel
theorem d_W_between_4 : decode c_W_between 4 = .ok (.iload_n 1, 1) := by decide +kernel
theorem d_W_between_5 : decode c_W_between 5 = .ok (.iload_n 2, 1) := by decide +kernel
theorem d_W_between_6 : decode c_W_between 6 = .ok (.iload_n 3, 1) := by decide +kernel
theorem d_W_between_7 : decode c_W_between 7 = .ok (.iload 4, 2) := by decide +kernel
theorem d_W_between_9 : decode c_W_between 9 = .ok (.invokevirtual 34, 3) := by decide +kernel
theorem d_W_between_12 : decode c_W_between 12 = .ok (.i2l, 1) := by decide +kernel
theorem d_W_between_13 : decode c_W_between 13 = .ok (.lastore, 1) := by decide +kernel
theorem d_W_between_14 : decode c_W_between 14 = .ok (.goto 7, 3) := by decide +kernel
theorem d_W_between_17 : decode c_W_between 17 = .ok (.astore 6, 2) := by decide +kernel
theorem d_W_between_19 : decode c_W_between 19 = .ok (.iconst 1, 1) := by decide +kernel
theorem d_W_between_20 : decode c_W_between 20 = .ok (.ireturn, 1) := by decide +kernel
theorem d_W_between_21 : decode c_W_between 21 = .ok (.iconst 0, 1) := by decide +kernel
theorem d_W_between_22 : decode c_W_between 22 = .ok (.ireturn, 1) := by decide +kernel
theorem d_W_below_0 : decode c_W_below 0 = .ok (.aload 4, 2) := by decide +kernel
theorem d_W_below_2 : decode c_W_below 2 = .ok (.iconst 0, 1) := by decide +kernel
theorem d_W_below_3 : decode c_W_below 3 = .ok (.aload_n 0, 1) := by decide +kernel
theorem d_W_below_4 : decode c_W_below 4 = .ok (.iload_n 1, 1) := by decide +kernel
theorem d_W_below_5 : decode c_W_below 5 = .ok (.iload_n 2, 1) := by decide +kernel
theorem d_W_below_6 : decode c_W_below 6 = .ok (.iload_n 3, 1) := by decide +kernel
theorem d_W_below_7 : decode c_W_below 7 = .ok (.invokevirtual 38, 3) := by decide +kernel
theorem d_W_below_10 : decode c_W_below 10 = .ok (.i2l, 1) := by decide +kernel
theorem d_W_below_11 : decode c_W_below 11 = .ok (.lastore, 1) := by decide +kernel
theorem d_W_below_12 : decode c_W_below 12 = .ok (.goto 7, 3) := by decide +kernel
theorem d_W_below_15 : decode c_W_below 15 = .ok (.astore 5, 2) := by decide +kernel
theorem d_W_below_17 : decode c_W_below 17 = .ok (.iconst 1, 1) := by decide +kernel
theorem d_W_below_18 : decode c_W_below 18 = .ok (.ireturn, 1) := by decide +kernel
theorem d_W_below_19 : decode c_W_below 19 = .ok (.iconst 0, 1) := by decide +kernel
theorem d_W_below_20 : decode c_W_below 20 = .ok (.ireturn, 1) := by decide +kernel
theorem d_W_above_0 : decode c_W_above 0 = .ok (.aload 4, 2) := by decide +kernel
theorem d_W_above_2 : decode c_W_above 2 = .ok (.iconst 0, 1) := by decide +kernel
theorem d_W_above_3 : decode c_W_above 3 = .ok (.aload_n 0, 1) := by decide +kernel
theorem d_W_above_4 : decode c_W_above 4 = .ok (.iload_n 1, 1) := by decide +kernel
theorem d_W_above_5 : decode c_W_above 5 = .ok (.iload_n 2, 1) := by decide +kernel
theorem d_W_above_6 : decode c_W_above 6 = .ok (.iload_n 3, 1) := by decide +kernel
theorem d_W_above_7 : decode c_W_above 7 = .ok (.invokevirtual 41, 3) := by decide +kernel
theorem d_W_above_10 : decode c_W_above 10 = .ok (.i2l, 1) := by decide +kernel
theorem d_W_above_11 : decode c_W_above 11 = .ok (.lastore, 1) := by decide +kernel
theorem d_W_above_12 : decode c_W_above 12 = .ok (.goto 7, 3) := by decide +kernel
theorem d_W_above_15 : decode c_W_above 15 = .ok (.astore 5, 2) := by decide +kernel
theorem d_W_above_17 : decode c_W_above 17 = .ok (.iconst 1, 1) := by decide +kernel
theorem d_W_above_18 : decode c_W_above 18 = .ok (.ireturn, 1) := by decide +kernel
theorem d_W_above_19 : decode c_W_above 19 = .ok (.iconst 0, 1) := by decide +kernel
theorem d_W_above_20 : decode c_W_above 20 = .ok (.ireturn, 1) := by decide +kernel
theorem d_W_different_0 : decode c_W_different 0 = .ok (.aload_n 3, 1) := by decide +kernel
theorem d_W_different_1 : decode c_W_different 1 = .ok (.iconst 0, 1) := by decide +kernel
theorem d_W_different_2 : decode c_W_different 2 = .ok (.aload_n 0, 1) := by decide +kernel
theorem d_W_different_3 : decode c_W_different 3 = .ok (.iload_n 1, 1) := by decide +kernel
theorem d_W_different_4 : decode c_W_different 4 = .ok (.iload_n 2, 1) := by decide +kernel
theorem d_W_different_5 : decode c_W_different 5 = .ok (.invokevirtual 44, 3) := by decide +kernel
theorem d_W_different_8 : decode c_W_different 8 = .ok (.i2l, 1) := by decide +kernel
theorem d_W_different_9 : decode c_W_different 9 = .ok (.lastore, 1) := by decide +kernel
theorem d_W_different_10 : decode c_W_different 10 = .ok (.goto 7, 3) := by decide +kernel
theorem d_W_different_13 : decode c_W_different 13 = .ok (.astore 4, 2) := by decide +kernel
theorem d_W_different_15 : decode c_W_different 15 = .ok (.iconst 1, 1) := by decide +kernel
theorem d_W_different_16 : decode c_W_different 16 = .ok (.ireturn, 1) := by decide +kernel
theorem d_W_different_17 : decode c_W_different 17 = .ok (.iconst 0, 1) := by decide +kernel
theorem d_W_different_18 : decode c_W_different 18 = .ok (.ireturn, 1) := by decide +kernel
theorem d_W_frequent_0 : decode c_W_frequent 0 = .ok (.aload 4, 2) := by decide +kernel
theorem d_W_frequent_2 : decode c_W_frequent 2 = .ok (.iconst 0, 1) := by decide +kernel
theorem d_W_frequent_3 : decode c_W_frequent 3 = .ok (.aload_n 0, 1) := by decide +kernel
theorem d_W_frequent_4 : decode c_W_frequent 4 = .ok (.iload_n 1, 1) := by decide +kernel
theorem d_W_frequent_5 : decode c_W_frequent 5 = .ok (.iload_n 2, 1) := by decide +kernel
theorem d_W_frequent_6 : decode c_W_frequent 6 = .ok (.iload_n 3, 1) := by decide +kernel
theorem d_W_frequent_7 : decode c_W_frequent 7 = .ok (.invokevirtual 47, 3) := by decide +kernel
theorem d_W_frequent_10 : decode c_W_frequent 10 = .ok (.i2l, 1) := by decide +kernel
theorem d_W_frequent_11 : decode c_W_frequent 11 = .ok (.lastore, 1) := by decide +kernel
theorem d_W_frequent_12 : decode c_W_frequent 12 = .ok (.goto 7, 3) := by decide +kernel
theorem d_W_frequent_15 : decode c_W_frequent 15 = .ok (.astore 5, 2) := by decide +kernel
theorem d_W_frequent_17 : decode c_W_frequent 17 = .ok (.iconst 1, 1) := by decide +kernel
theorem d_W_frequent_18 : decode c_W_frequent 18 = .ok (.ireturn, 1) := by decide +kernel
theorem d_W_frequent_19 : decode c_W_frequent 19 = .ok (.iconst 0, 1) := by decide +kernel
theorem d_W_frequent_20 : decode c_W_frequent 20 = .ok (.ireturn, 1) := by decide +kernel
theorem d_W_count_0 : decode c_W_count 0 = .ok (.aload_n 2, 1) := by decide +kernel
theorem d_W_count_1 : decode c_W_count 1 = .ok (.iconst 0, 1) := by decide +kernel
theorem d_W_count_2 : decode c_W_count 2 = .ok (.aload_n 0, 1) := by decide +kernel
theorem d_W_count_3 : decode c_W_count 3 = .ok (.iload_n 1, 1) := by decide +kernel
theorem d_W_count_4 : decode c_W_count 4 = .ok (.invokevirtual 50, 3) := by decide +kernel
theorem d_W_count_7 : decode c_W_count 7 = .ok (.i2l, 1) := by decide +kernel
theorem d_W_count_8 : decode c_W_count 8 = .ok (.lastore, 1) := by decide +kernel
theorem d_W_count_9 : decode c_W_count 9 = .ok (.goto 6, 3) := by decide +kernel
theorem d_W_count_12 : decode c_W_count 12 = .ok (.astore_n 3, 1) := by decide +kernel
theorem d_W_count_13 : decode c_W_count 13 = .ok (.iconst 1, 1) := by decide +kernel
theorem d_W_count_14 : decode c_W_count 14 = .ok (.ireturn, 1) := by decide +kernel
theorem d_W_count_15 : decode c_W_count 15 = .ok (.iconst 0, 1) := by decide +kernel
theorem d_W_count_16 : decode c_W_count 16 = .ok (.ireturn, 1) := by decide +kernel
end
section
/-! HOW MANY ONES a number has in its low n bits, and that the adding side by side finds it. -/
section PC
def pcl (u : Nat) : Nat → Nat
  | 0 => 0
  | n + 1 => u % 2 + pcl (u / 2) n
theorem pcl_add (m n : Nat) : ∀ u, pcl u (m + n) = pcl u m + pcl (u / 2 ^ m) n := by
  induction m with
  | zero => intro u; rw [Nat.zero_add, Nat.pow_zero, Nat.div_one]; simp [pcl]
  | succ m ih =>
    intro u
    rw [show m + 1 + n = (m + n) + 1 by omega, pcl, pcl, ih, Nat.pow_succ, Nat.mul_comm, ← Nat.div_div_eq_div_mul]
    omega
theorem pcl_le (n : Nat) : ∀ u, pcl u n ≤ n := by
  induction n with
  | zero => intro u; exact Nat.le_refl 0
  | succ n ih => intro u; rw [pcl]; have := ih (u / 2); omega
theorem pcl_succ (u n : Nat) : pcl u (n + 1) = pcl u n + u / 2 ^ n % 2 := by
  rw [pcl_add n 1]; simp [pcl]
theorem pcl_0 (n : Nat) : pcl 0 n = 0 := by
  induction n with
  | zero => rfl
  | succ n ih => rw [pcl, Nat.zero_div, ih]
theorem pcl_mod (n : Nat) : ∀ u, pcl (u % 2 ^ n) n = pcl u n := by
  induction n with
  | zero => intro u; rfl
  | succ n ih =>
    intro u
    rw [pcl, pcl, ← ih (u / 2)]
    have h1 : u % 2 ^ (n + 1) / 2 = u / 2 % 2 ^ n := by
      rw [Nat.pow_succ, Nat.mul_comm, Nat.mod_mul_right_div_self]
    have h2 : u % 2 ^ (n + 1) % 2 = u % 2 := by
      rw [Nat.pow_succ, Nat.mul_comm, Nat.mod_mul_right_mod]
    rw [h1, h2]
theorem pcl_shl (u m n : Nat) : pcl (u * 2 ^ m) (m + n) = pcl u n := by
  rw [pcl_add, Nat.mul_div_cancel _ (Nat.two_pow_pos m)]
  have h : pcl (u * 2 ^ m) m = 0 := by
    rw [← pcl_mod, Nat.mul_mod_left, pcl_0]
  omega
/-- a number by its bytes, the lowest first -/
def byts : List Nat → Nat
  | [] => 0
  | b :: l => b + 256 * byts l
theorem and256 {u v c e : Nat} (hu : u < 256) (hc : c < 256) : (u + 256 * v) &&& (c + 256 * e) = (u &&& c) + 256 * (v &&& e) := by
  have h1 : ((u + 256 * v) &&& (c + 256 * e)) / 2 ^ 8 = v &&& e := by
    rw [Nat.and_div_two_pow]
    congr 1 <;> omega
  have h2 : ((u + 256 * v) &&& (c + 256 * e)) % 2 ^ 8 = u &&& c := by
    rw [Nat.and_mod_two_pow]
    congr 1 <;> omega
  have h3 := Nat.div_add_mod ((u + 256 * v) &&& (c + 256 * e)) (2 ^ 8)
  rw [h1, h2] at h3
  omega
def pf1 (b : Nat) : Nat := b - (b / 2 &&& 85)
def pf2 (b : Nat) : Nat := (b &&& 51) + (b / 4 &&& 51)
def pf3 (b : Nat) : Nat := (b + b / 16) % 16
theorem pc_a1 : ∀ b, b < 256 → ∀ r, r < 2 → (b / 2 + 128 * r) &&& 85 = b / 2 &&& 85 := by decide +kernel
theorem pc_a2 : ∀ b, b < 256 → ∀ r, r < 4 → (b / 4 + 64 * r) &&& 51 = b / 4 &&& 51 := by decide +kernel
theorem pc_b1 : ∀ b, b < 256 → pf1 b < 256 := by decide +kernel
theorem pc_b2 : ∀ b, b < 256 → pf2 (pf1 b) % 16 ≤ 4 ∧ pf2 (pf1 b) / 16 ≤ 4 := by decide +kernel
theorem pc_b3 : ∀ b, b < 256 → pf3 (pf2 (pf1 b)) = pcl b 8 := by decide +kernel
theorem pc_s1 : ∀ l : List Nat, (∀ b ∈ l, b < 256) → byts l - (byts l / 2 &&& byts (l.map fun _ => 85)) = byts (l.map pf1) := by
  intro l
  induction l with
  | nil => intro _; rfl
  | cons b l ih =>
    intro h
    have hb := h b List.mem_cons_self
    have ih := ih (fun x hx => h x (List.mem_cons_of_mem _ hx))
    simp only [List.map_cons, byts]
    generalize byts l = v at ih ⊢
    generalize byts (l.map fun _ => 85) = e at ih ⊢
    rw [show (b + 256 * v) / 2 = (b / 2 + 128 * (v % 2)) + 256 * (v / 2) by omega, and256 (by omega) (by omega), pc_a1 b hb _ (Nat.mod_lt _ (by omega)), ← ih, pf1]
    have h1 : b / 2 &&& 85 ≤ b / 2 := Nat.and_le_left
    have h2 : v / 2 &&& e ≤ v / 2 := Nat.and_le_left
    omega
theorem pc_s2 : ∀ l : List Nat, (∀ b ∈ l, b < 256) → (byts l &&& byts (l.map fun _ => 51)) + (byts l / 4 &&& byts (l.map fun _ => 51)) = byts (l.map pf2) := by
  intro l
  induction l with
  | nil => intro _; rfl
  | cons b l ih =>
    intro h
    have hb := h b List.mem_cons_self
    have ih := ih (fun x hx => h x (List.mem_cons_of_mem _ hx))
    simp only [List.map_cons, byts]
    generalize byts l = v at ih ⊢
    generalize byts (l.map fun _ => 51) = e at ih ⊢
    rw [show (b + 256 * v) / 4 = (b / 4 + 64 * (v % 4)) + 256 * (v / 4) by omega, and256 hb (by omega), and256 (u := b / 4 + 64 * (v % 4)) (by omega) (by omega), pc_a2 b hb _ (Nat.mod_lt _ (by omega)), ← ih, pf2]
    omega
theorem pc_s3 : ∀ l : List Nat, (∀ b ∈ l, b % 16 ≤ 4 ∧ b / 16 ≤ 4) → byts l % 16 ≤ 4 ∧ (byts l + byts l / 16) &&& byts (l.map fun _ => 15) = byts (l.map pf3) := by
  intro l
  induction l with
  | nil => intro _; exact ⟨Nat.zero_le _, rfl⟩
  | cons b l ih =>
    intro h
    have hb := h b List.mem_cons_self
    obtain ⟨ih1, ih⟩ := ih (fun x hx => h x (List.mem_cons_of_mem _ hx))
    simp only [List.map_cons, byts]
    generalize byts l = v at ih ih1 ⊢
    generalize byts (l.map fun _ => 15) = e at ih ⊢
    refine ⟨by omega, ?_⟩
    rw [show (b + 256 * v) + (b + 256 * v) / 16 = (b + b / 16 + 16 * (v % 16)) + 256 * (v + v / 16) by omega, and256 (by omega) (by omega), ih, pf3]
    have h1 : (b + b / 16 + 16 * (v % 16)) &&& 15 = (b + b / 16 + 16 * (v % 16)) % 16 := Nat.and_two_pow_sub_one_eq_mod _ 4
    rw [h1]
    omega
theorem pc_lin {c0 c1 c2 c3 c4 c5 c6 c7 z z1 z2 z3 : Nat} (h0 : c0 ≤ 8) (h1 : c1 ≤ 8) (h2 : c2 ≤ 8) (h3 : c3 ≤ 8) (h4 : c4 ≤ 8) (h5 : c5 ≤ 8) (h6 : c6 ≤ 8) (h7 : c7 ≤ 8)
    (hz : z = byts [c0, c1, c2, c3, c4, c5, c6, c7]) (e1 : z1 = z + z / 256) (e2 : z2 = z1 + z1 / 65536) (e3 : z3 = z2 + z2 / 4294967296) :
    z3 % 128 = c0 + c1 + c2 + c3 + c4 + c5 + c6 + c7 ∧ z1 < 2 ^ 63 ∧ z2 < 2 ^ 63 ∧ z3 < 2 ^ 63 := by
  simp only [byts] at hz
  obtain ⟨X7, x7⟩ : ∃ x, x = c7 + 256 * 0 := ⟨_, rfl⟩
  obtain ⟨X6, x6⟩ : ∃ x, x = c6 + 256 * X7 := ⟨_, rfl⟩
  obtain ⟨X5, x5⟩ : ∃ x, x = c5 + 256 * X6 := ⟨_, rfl⟩
  obtain ⟨X4, x4⟩ : ∃ x, x = c4 + 256 * X5 := ⟨_, rfl⟩
  obtain ⟨X3, x3⟩ : ∃ x, x = c3 + 256 * X4 := ⟨_, rfl⟩
  obtain ⟨X2, x2⟩ : ∃ x, x = c2 + 256 * X3 := ⟨_, rfl⟩
  obtain ⟨X1, x1⟩ : ∃ x, x = c1 + 256 * X2 := ⟨_, rfl⟩
  rw [← x7, ← x6, ← x5, ← x4, ← x3, ← x2, ← x1] at hz
  have q1 : z / 256 = X1 := by clear e1 e2 e3 x1 x2 x3 x4 x5 x6 x7; omega
  have b7 : X7 ≤ 8 := by omega
  have b6 : X6 ≤ 2056 := by clear hz e1 e2 e3 x1 x2 x3 x4 x5 x7 q1; omega
  have b5 : X5 ≤ 526344 := by clear hz e1 e2 e3 x1 x2 x3 x4 x6 x7 q1 b7; omega
  have b4 : X4 ≤ 134744072 := by clear hz e1 e2 e3 x1 x2 x3 x5 x6 x7 q1 b7 b6; omega
  have b3 : X3 ≤ 34494482440 := by clear hz e1 e2 e3 x1 x2 x4 x5 x6 x7 q1 b7 b6 b5; omega
  have b2 : X2 ≤ 8830587504648 := by clear hz e1 e2 e3 x1 x3 x4 x5 x6 x7 q1 b7 b6 b5 b4; omega
  have b1 : X1 ≤ 2260630401189896 := by clear hz e1 e2 e3 x2 x3 x4 x5 x6 x7 q1 b7 b6 b5 b4 b3; omega
  have b0 : z ≤ 578721382704613384 := by clear e1 e2 e3 x1 x2 x3 x4 x5 x6 x7 q1 b7 b6 b5 b4 b3 b2; omega
  rw [q1] at e1
  have q2 : z1 / 65536 = X2 + X3 := by
    have r1 : z1 = (c0 + c1) + 256 * ((c1 + c2) + 256 * (X2 + X3)) := by rw [e1, hz, x1, x2]; clear e1 hz x1 x2; omega
    clear e1 e2 e3 hz x1 x2 x3 x4 x5 x6 x7 q1 b0 b1 b2 b3 b4 b5 b6 b7
    omega
  rw [q2] at e2
  have r2 : z2 = (c0 + c1 + c2 + c3) + 256 * ((c1 + c2 + c3 + c4) + 256 * ((c2 + c3 + c4 + c5) + 256 * ((c3 + c4 + c5 + c6) + 256 * (X4 + X5 + X6 + X7)))) := by
    rw [e2, e1, hz, x1, x2, x3, x4, x5, x6, x7]
    clear e1 e2 e3 hz x1 x2 x3 x4 x5 x6 x7 q1 q2 b0 b1 b2 b3 b4 b5 b6 b7
    omega
  have q3 : z2 / 4294967296 = X4 + X5 + X6 + X7 := by
    clear e1 e2 e3 hz x1 x2 x3 x4 x5 x6 x7 q1 q2 b0 b1 b2 b3 b4 b5 b6 b7
    omega
  rw [q3] at e3
  have b8 : z1 < 2 ^ 63 := by clear e2 e3 hz x1 x2 x3 x4 x5 x6 x7 q1 q2 q3 r2; omega
  have b9 : z2 < 2 ^ 62 := by clear e3 hz x1 x2 x3 x4 x5 x6 x7 q1 q2 q3 r2 b8; omega
  refine ⟨?_, b8, by omega, ?_⟩
  · have r3 : X4 + X5 + X6 + X7 = (c4 + c5 + c6 + c7) + 256 * (X5 + X6 + X7) := by rw [x4, x5, x6, x7]; clear e1 e2 e3 hz x1 x2 x3 x4 x5 x6 x7 q1 q2 q3 r2 b0 b1 b2 b3 b4 b5 b6 b7 b8 b9; omega
    obtain ⟨V, v⟩ : ∃ v, v = (c1 + c2 + c3 + c4) + 256 * ((c2 + c3 + c4 + c5) + 256 * ((c3 + c4 + c5 + c6) + 256 * (X4 + X5 + X6 + X7))) := ⟨_, rfl⟩
    rw [← v] at r2
    clear e1 e2 hz x1 x2 x3 x4 x5 x6 x7 q1 q2 q3 b0 b1 b2 b3 b4 b5 b6 b7 b8 b9 v
    omega
  · clear e1 e2 hz x1 x2 x3 x4 x5 x6 x7 q1 q2 q3 r2 b8
    omega
theorem byts_of : ∀ (n u : Nat), u < 256 ^ n → ∃ l : List Nat, l.length = n ∧ (∀ b ∈ l, b < 256) ∧ byts l = u ∧ (l.map fun b => pcl b 8).sum = pcl u (8 * n) := by
  intro n
  induction n with
  | zero =>
    intro u h
    exact ⟨[], rfl, fun _ h => by simp at h, by simp [byts]; omega, rfl⟩
  | succ n ih =>
    intro u h
    obtain ⟨l, h1, h2, h3, h4⟩ := ih (u / 256) (by rw [Nat.pow_succ] at h; omega)
    refine ⟨u % 256 :: l, by simp [h1], ?_, by simp only [byts, h3]; omega, ?_⟩
    · intro b hb
      rcases List.mem_cons.mp hb with rfl | hb
      · exact Nat.mod_lt _ (by omega)
      · exact h2 b hb
    · rw [List.map_cons, List.sum_cons, h4, show 8 * (n + 1) = 8 + 8 * n by omega, pcl_add 8]
      have e := pcl_mod 8 u
      rw [show (2 : Nat) ^ 8 = 256 from rfl] at e ⊢
      rw [e]
end PC
end
section
/-! THE LEVELS: pure rows on lists of numbers. wt d k x: the bit of x that level k keeps; wL d xs k: the row as level k has it. -/
section WM
def wt (d k x : Nat) : Bool := decide (x / 2 ^ (d - 1 - k) % 2 = 1)
def wpart (t : Nat → Bool) (L : List Nat) : List Nat := L.filter (fun x => !t x) ++ L.filter t
def wL (d : Nat) (xs : List Nat) : Nat → List Nat
  | 0 => xs
  | k + 1 => wpart (wt d k) (wL d xs k)
theorem flt_len (t : Nat → Bool) (L : List Nat) : (L.filter (fun x => !t x)).length + (L.filter t).length = L.length := by
  induction L with
  | nil => rfl
  | cons a L ih =>
    cases h : t a <;> simp [List.filter_cons, h] <;> omega
theorem wpart_len (t : Nat → Bool) (L : List Nat) : (wpart t L).length = L.length := by
  rw [wpart, List.length_append]; exact flt_len t L
theorem wL_len (d : Nat) (xs : List Nat) : ∀ k, (wL d xs k).length = xs.length
  | 0 => rfl
  | k + 1 => by rw [wL, wpart_len]; exact wL_len d xs k
theorem wpart_mem {t : Nat → Bool} {L : List Nat} {x : Nat} : x ∈ wpart t L ↔ x ∈ L := by
  simp only [wpart, List.mem_append, List.mem_filter]
  cases h : t x <;> simp
theorem wL_mem {d : Nat} {xs : List Nat} {x : Nat} : ∀ k, x ∈ wL d xs k ↔ x ∈ xs
  | 0 => Iff.rfl
  | k + 1 => by rw [wL, wpart_mem]; exact wL_mem k
/-- how many zeros, ones stand before a place -/
def z0 (t : Nat → Bool) (L : List Nat) (i : Nat) : Nat := ((L.take i).filter (fun x => !t x)).length
def z1 (t : Nat → Bool) (L : List Nat) (i : Nat) : Nat := ((L.take i).filter t).length
theorem z01 (t : Nat → Bool) {L : List Nat} {i : Nat} (h : i ≤ L.length) : z0 t L i + z1 t L i = i := by
  have h1 := flt_len t (L.take i)
  rw [List.length_take, Nat.min_eq_left h] at h1
  exact h1
theorem z0_0 (t : Nat → Bool) (L : List Nat) : z0 t L 0 = 0 := rfl
theorem z1_0 (t : Nat → Bool) (L : List Nat) : z1 t L 0 = 0 := rfl
theorem z1_succ (t : Nat → Bool) {L : List Nat} {i x : Nat} (h : L[i]? = some x) : z1 t L (i + 1) = z1 t L i + (if t x then 1 else 0) := by
  have h1 : L.take (i + 1) = L.take i ++ [x] := by rw [List.take_add_one, h]; rfl
  unfold z1
  rw [h1, List.filter_append, List.length_append]
  cases h2 : t x <;> simp [List.filter_cons, h2]
theorem z0_succ (t : Nat → Bool) {L : List Nat} {i x : Nat} (h : L[i]? = some x) : z0 t L (i + 1) = z0 t L i + (if t x then 0 else 1) := by
  have h1 : L.take (i + 1) = L.take i ++ [x] := by rw [List.take_add_one, h]; rfl
  unfold z0
  rw [h1, List.filter_append, List.length_append]
  cases h2 : t x <;> simp [List.filter_cons, h2]
theorem z1_mono (t : Nat → Bool) (L : List Nat) {i j : Nat} (h : i ≤ j) : z1 t L i ≤ z1 t L j := by
  unfold z1
  exact (List.Sublist.filter t (List.take_sublist_take_left h)).length_le
theorem z0_mono (t : Nat → Bool) (L : List Nat) {i j : Nat} (h : i ≤ j) : z0 t L i ≤ z0 t L j := by
  unfold z0
  exact (List.Sublist.filter _ (List.take_sublist_take_left h)).length_le
theorem z0_le (t : Nat → Bool) (L : List Nat) (i : Nat) : z0 t L i ≤ i := by
  unfold z0
  exact Nat.le_trans (List.length_filter_le _ _) (by rw [List.length_take]; exact Nat.min_le_left _ _)
theorem z1_le (t : Nat → Bool) (L : List Nat) (i : Nat) : z1 t L i ≤ i := by
  unfold z1
  exact Nat.le_trans (List.length_filter_le _ _) (by rw [List.length_take]; exact Nat.min_le_left _ _)
/-- the places a .. b of L hold B -/
def IV (L : List Nat) (a b : Nat) (B : List Nat) : Prop := ∃ A C, L = A ++ B ++ C ∧ A.length = a ∧ a + B.length = b
theorem IV.len {L : List Nat} {a b : Nat} {B : List Nat} (h : IV L a b B) : a + B.length = b ∧ b ≤ L.length := by
  obtain ⟨A, C, rfl, rfl, rfl⟩ := h
  refine ⟨rfl, ?_⟩
  simp only [List.length_append]
  omega
theorem IV.of {L : List Nat} {a b : Nat} (h1 : a ≤ b) (h2 : b ≤ L.length) : IV L a b ((L.drop a).take (b - a)) := by
  refine ⟨L.take a, L.drop b, ?_, by rw [List.length_take]; omega, by rw [List.length_take, List.length_drop]; omega⟩
  have e1 : L.drop b = (L.drop a).drop (b - a) := by rw [List.drop_drop]; congr 1; omega
  rw [e1, List.append_assoc, List.take_append_drop, List.take_append_drop]
theorem IV.takes {A B C : List Nat} : (A ++ B ++ C).take A.length = A ∧ (A ++ B ++ C).take (A.length + B.length) = A ++ B := by
  constructor
  · rw [List.append_assoc]; exact List.take_left
  · rw [← List.length_append]; exact List.take_left
theorem IV.zero (t : Nat → Bool) {L : List Nat} {a b : Nat} {B : List Nat} (h : IV L a b B) : IV (wpart t L) (z0 t L a) (z0 t L b) (B.filter (fun x => !t x)) := by
  obtain ⟨A, C, rfl, rfl, rfl⟩ := h
  obtain ⟨e1, e2⟩ := IV.takes (A := A) (B := B) (C := C)
  refine ⟨A.filter (fun x => !t x), C.filter (fun x => !t x) ++ (A ++ B ++ C).filter t, ?_, ?_, ?_⟩
  · simp only [wpart, List.filter_append, List.append_assoc]
  · rw [z0, e1]
  · rw [z0, z0, e1, e2, List.filter_append, List.length_append]
theorem IV.one (t : Nat → Bool) {L : List Nat} {a b : Nat} {B : List Nat} (h : IV L a b B) : IV (wpart t L) (z0 t L L.length + z1 t L a) (z0 t L L.length + z1 t L b) (B.filter t) := by
  obtain ⟨A, C, rfl, rfl, rfl⟩ := h
  obtain ⟨e1, e2⟩ := IV.takes (A := A) (B := B) (C := C)
  refine ⟨(A ++ B ++ C).filter (fun x => !t x) ++ A.filter t, C.filter t, ?_, ?_, ?_⟩
  · simp only [wpart, List.filter_append, List.append_assoc]
  · rw [z0, z1, e1, List.take_length, List.length_append]
  · rw [z1, z1, e1, e2, List.filter_append, List.length_append (as := A.filter t)]; omega
theorem IV.at {L : List Nat} {a x : Nat} (h : IV L a (a + 1) [x]) : L[a]? = some x := by
  obtain ⟨A, C, rfl, rfl, -⟩ := h
  simp
theorem IV.one_of {L : List Nat} {a x : Nat} (h : L[a]? = some x) : IV L a (a + 1) [x] := by
  obtain ⟨hl, hx⟩ := List.getElem?_eq_some_iff.mp h
  have h1 := IV.of (L := L) (a := a) (b := a + 1) (by omega) (by omega)
  have h2 : (L.drop a).take (a + 1 - a) = [x] := by
    rw [show a + 1 - a = 1 by omega, List.drop_eq_getElem_cons hl, hx]
    rfl
  rw [h2] at h1
  exact h1
/-- one symbol goes down a level -/
theorem wm_next (t : Nat → Bool) {L : List Nat} {q x : Nat} (h : L[q]? = some x) : (wpart t L)[if t x then z0 t L L.length + z1 t L q else z0 t L q]? = some x := by
  have h1 := IV.one_of h
  cases ht : t x
  · have h2 := h1.zero t
    rw [z0_succ t h, ht] at h2
    simp only [List.filter_cons, ht, Bool.not_false, List.filter_nil, Bool.false_eq_true, if_false, if_true] at h2
    exact h2.at
  · have h2 := h1.one t
    rw [z1_succ t h, ht] at h2
    simp only [List.filter_cons, ht, List.filter_nil, if_true] at h2
    exact IV.at h2
theorem wt_zero {d k x p : Nat} (hk : k < d) : (!wt d k x && (x / 2 ^ (d - k) == p)) = (x / 2 ^ (d - (k + 1)) == 2 * p) := by
  obtain ⟨e, rfl⟩ : ∃ e, d = k + 1 + e := ⟨d - (k + 1), by omega⟩
  have h4 : x / 2 ^ (e + 1) = x / 2 ^ e / 2 := by rw [Nat.pow_succ, Nat.div_div_eq_div_mul]
  rw [wt, show k + 1 + e - k = e + 1 by omega, show k + 1 + e - (k + 1) = e by omega, show k + 1 + e - 1 - k = e by omega, h4]
  generalize x / 2 ^ e = y
  rw [Bool.eq_iff_iff]
  simp only [Bool.and_eq_true, Bool.not_eq_true', decide_eq_false_iff_not, beq_iff_eq]
  omega
theorem wt_one {d k x p : Nat} (hk : k < d) : (wt d k x && (x / 2 ^ (d - k) == p)) = (x / 2 ^ (d - (k + 1)) == 2 * p + 1) := by
  obtain ⟨e, rfl⟩ : ∃ e, d = k + 1 + e := ⟨d - (k + 1), by omega⟩
  have h4 : x / 2 ^ (e + 1) = x / 2 ^ e / 2 := by rw [Nat.pow_succ, Nat.div_div_eq_div_mul]
  rw [wt, show k + 1 + e - k = e + 1 by omega, show k + 1 + e - (k + 1) = e by omega, show k + 1 + e - 1 - k = e by omega, h4]
  generalize x / 2 ^ e = y
  rw [Bool.eq_iff_iff]
  simp only [Bool.and_eq_true, decide_eq_true_eq, beq_iff_eq]
  omega
/-- the symbols of B whose first k bits are p -/
def wpre (d k p : Nat) (B : List Nat) : List Nat := B.filter (fun x => x / 2 ^ (d - k) == p)
theorem wpre_zero {d k p : Nat} (hk : k < d) (B : List Nat) : (wpre d k p B).filter (fun x => !wt d k x) = wpre d (k + 1) (2 * p) B := by
  rw [wpre, wpre, List.filter_filter]
  exact List.filter_congr (fun x _ => wt_zero hk)
theorem wpre_one {d k p : Nat} (hk : k < d) (B : List Nat) : (wpre d k p B).filter (wt d k) = wpre d (k + 1) (2 * p + 1) B := by
  rw [wpre, wpre, List.filter_filter]
  exact List.filter_congr (fun x _ => wt_one hk)
theorem wpre_0 {d : Nat} {B : List Nat} (hB : ∀ x ∈ B, x < 2 ^ d) : wpre d 0 0 B = B := by
  rw [wpre]
  refine List.filter_eq_self.mpr (fun x hx => ?_)
  rw [beq_iff_eq]
  exact Nat.div_eq_of_lt (hB x hx)
theorem wpre_d {d p : Nat} (B : List Nat) : wpre d d p B = B.filter (fun x => x == p) := by
  rw [wpre]
  exact List.filter_congr (fun x _ => by rw [Nat.sub_self, Nat.pow_zero, Nat.div_one])
/-- a part at level k, p the bits that it went -/
def wI (d : Nat) (xs : List Nat) (k p a b : Nat) (B : List Nat) : Prop := IV (wL d xs k) a b (wpre d k p B)
theorem wI.start {d : Nat} {xs : List Nat} {a b : Nat} (h1 : a ≤ b) (h2 : b ≤ xs.length) (hx : ∀ x ∈ xs, x < 2 ^ d) : wI d xs 0 0 a b ((xs.drop a).take (b - a)) := by
  rw [wI, wpre_0 (fun x h => hx x (List.mem_of_mem_drop (List.mem_of_mem_take h)))]
  exact IV.of h1 h2
theorem wI.zero {d : Nat} {xs : List Nat} {k p a b : Nat} {B : List Nat} (hk : k < d) (h : wI d xs k p a b B) : wI d xs (k + 1) (2 * p) (z0 (wt d k) (wL d xs k) a) (z0 (wt d k) (wL d xs k) b) B := by
  have h1 := IV.zero (wt d k) h
  rw [wpre_zero hk] at h1
  exact h1
theorem wI.one {d : Nat} {xs : List Nat} {k p a b : Nat} {B : List Nat} (hk : k < d) (h : wI d xs k p a b B) : wI d xs (k + 1) (2 * p + 1) (z0 (wt d k) (wL d xs k) xs.length + z1 (wt d k) (wL d xs k) a) (z0 (wt d k) (wL d xs k) xs.length + z1 (wt d k) (wL d xs k) b) B := by
  have h1 := IV.one (wt d k) h
  rw [wpre_one hk, wL_len] at h1
  exact h1
/-- how many symbols of B begin with less than p -/
def wlt (d k p : Nat) (B : List Nat) : Nat := (B.filter (fun x => decide (x / 2 ^ (d - k) < p))).length
theorem wlt_zero {d k p : Nat} (hk : k < d) (B : List Nat) : wlt d (k + 1) (2 * p) B = wlt d k p B := by
  unfold wlt
  congr 1
  refine List.filter_congr (fun x _ => ?_)
  obtain ⟨e, rfl⟩ : ∃ e, d = k + 1 + e := ⟨d - (k + 1), by omega⟩
  have h4 : x / 2 ^ (e + 1) = x / 2 ^ e / 2 := by rw [Nat.pow_succ, Nat.div_div_eq_div_mul]
  rw [show k + 1 + e - k = e + 1 by omega, show k + 1 + e - (k + 1) = e by omega, h4]
  generalize x / 2 ^ e = y
  rw [decide_eq_decide]
  omega
theorem wlt_one {d k p : Nat} (hk : k < d) (B : List Nat) : wlt d (k + 1) (2 * p + 1) B = wlt d k p B + (wpre d (k + 1) (2 * p) B).length := by
  rw [← wlt_zero hk]
  unfold wlt wpre
  generalize d - (k + 1) = e
  induction B with
  | nil => rfl
  | cons x B ih =>
    generalize hy : x / 2 ^ e = y
    simp only [List.filter_cons, hy]
    rcases Nat.lt_trichotomy y (2 * p) with h | h | h
    · have h1 : y < 2 * p + 1 := by omega
      have h2 : (y == 2 * p) = false := by rw [beq_eq_false_iff_ne]; omega
      simp only [h, h1, h2, decide_true, if_true, Bool.false_eq_true, if_false, List.length_cons]
      omega
    · have h1 : y < 2 * p + 1 := by omega
      have h2 : (y == 2 * p) = true := by rw [beq_iff_eq]; exact h
      have h3 : ¬ y < 2 * p := by omega
      simp only [h1, h2, h3, decide_true, decide_false, if_true, Bool.false_eq_true, if_false, List.length_cons]
      omega
    · have h1 : ¬ y < 2 * p + 1 := by omega
      have h2 : (y == 2 * p) = false := by rw [beq_eq_false_iff_ne]; omega
      have h3 : ¬ y < 2 * p := by omega
      simp only [h1, h2, h3, decide_false, Bool.false_eq_true, if_false]
      exact ih
theorem wlt_0 {d : Nat} (B : List Nat) : wlt d 0 0 B = 0 := by
  unfold wlt
  rw [List.length_eq_zero_iff, List.filter_eq_nil_iff]
  intro x _
  simp
theorem wlt_d {d p : Nat} (B : List Nat) : wlt d d p B = (B.filter (fun x => decide (x < p))).length := by
  unfold wlt
  rw [Nat.sub_self, Nat.pow_zero]
  simp only [Nat.div_one]
/-- a place goes down along the bits of s -/
def wdn (d : Nat) (xs : List Nat) (s : Nat) : Nat → Nat → Nat
  | 0, q => q
  | k + 1, q => if wt d k s then z0 (wt d k) (wL d xs k) xs.length + z1 (wt d k) (wL d xs k) (wdn d xs s k q) else z0 (wt d k) (wL d xs k) (wdn d xs s k q)
theorem wt_bit {d k x : Nat} (hk : k < d) : x / 2 ^ (d - (k + 1)) = 2 * (x / 2 ^ (d - k)) + (if wt d k x then 1 else 0) := by
  obtain ⟨e, rfl⟩ : ∃ e, d = k + 1 + e := ⟨d - (k + 1), by omega⟩
  have h4 : x / 2 ^ (e + 1) = x / 2 ^ e / 2 := by rw [Nat.pow_succ, Nat.div_div_eq_div_mul]
  rw [wt, show k + 1 + e - k = e + 1 by omega, show k + 1 + e - (k + 1) = e by omega, show k + 1 + e - 1 - k = e by omega, h4]
  generalize x / 2 ^ e = y
  by_cases h : y % 2 = 1
  · rw [decide_eq_true h, if_pos rfl]; omega
  · rw [decide_eq_false h, if_neg Bool.false_ne_true]; omega
theorem wdn_I {d : Nat} {xs : List Nat} {s a b : Nat} (hs : s < 2 ^ d) (h1 : a ≤ b) (h2 : b ≤ xs.length) (hx : ∀ x ∈ xs, x < 2 ^ d) :
    ∀ k, k ≤ d → wI d xs k (s / 2 ^ (d - k)) (wdn d xs s k a) (wdn d xs s k b) ((xs.drop a).take (b - a)) := by
  intro k
  induction k with
  | zero =>
    intro _
    have e : s / 2 ^ (d - 0) = 0 := Nat.div_eq_of_lt hs
    rw [e]
    exact wI.start h1 h2 hx
  | succ k ih =>
    intro hk
    have hI := ih (by omega)
    rw [wt_bit (by omega : k < d)]
    cases hb : wt d k s
    · have h3 := wI.zero (by omega : k < d) hI
      simp only [wdn, hb, Bool.false_eq_true, if_false]
      exact h3
    · have h3 := wI.one (by omega : k < d) hI
      simp only [wdn, hb, if_true]
      exact h3
/-- what stands at a place goes down with its bits -/
theorem wdn_at {d : Nat} {xs : List Nat} {s q : Nat} (hq : xs[q]? = some s) : ∀ k, (wL d xs k)[wdn d xs s k q]? = some s
  | 0 => hq
  | k + 1 => by
    have h1 := wm_next (wt d k) (wdn_at (d := d) hq k)
    rw [wL_len] at h1
    exact h1
end WM
end
section
/-! A LEVEL'S NUMBERS: the words hold the bits of L by t, the short numbers how many ones stand before each word. -/
section LVM
def uN64 (x : Int64) : Nat := x.toBitVec.toNat
def LvOk (t : Nat → Bool) (L : List Nat) (ja : Nat → Int64) (oa : Nat → Int32) (z : Int32) : Prop :=
  (∀ i x, L[i]? = some x → uN64 (ja (i / 64)) / 2 ^ (i % 64) % 2 = if t x then 1 else 0) ∧ (∀ w, 64 * w < L.length → oa w = nI (z1 t L (64 * w))) ∧ z = nI (z0 t L L.length)
theorem lv_ones {t : Nat → Bool} {L : List Nat} {u w : Nat} (hb : ∀ i x, L[i]? = some x → i / 64 = w → u / 2 ^ (i % 64) % 2 = if t x then 1 else 0) :
    ∀ n, n ≤ 64 → 64 * w + n ≤ L.length → z1 t L (64 * w + n) = z1 t L (64 * w) + pcl u n := by
  intro n
  induction n with
  | zero => intro _ _; rfl
  | succ n ih =>
    intro h1 h2
    have ih := ih (by omega) (by omega)
    have hlt : 64 * w + n < L.length := by omega
    have hx : L[64 * w + n]? = some L[64 * w + n] := List.getElem?_eq_getElem hlt
    have hbit := hb _ _ hx (by omega)
    rw [show (64 * w + n) % 64 = n by omega] at hbit
    rw [show 64 * w + (n + 1) = (64 * w + n) + 1 by omega, z1_succ t hx, ih, pcl_succ, hbit]
    omega
theorem LvOk.bit {t : Nat → Bool} {L : List Nat} {ja : Nat → Int64} {oa : Nat → Int32} {z : Int32} (h : LvOk t L ja oa z) {i x : Nat} (hx : L[i]? = some x) : uN64 (ja (i / 64)) / 2 ^ (i % 64) % 2 = if t x then 1 else 0 := h.1 i x hx
theorem LvOk.ones {t : Nat → Bool} {L : List Nat} {ja : Nat → Int64} {oa : Nat → Int32} {z : Int32} (h : LvOk t L ja oa z) {p : Nat} (h0 : p < L.length) :
    oa (p / 64) = nI (z1 t L (64 * (p / 64))) ∧ z1 t L (p + 1) = z1 t L (64 * (p / 64)) + pcl (uN64 (ja (p / 64))) (p % 64 + 1) := by
  refine ⟨h.2.1 _ (by omega), ?_⟩
  have h1 := lv_ones (t := t) (L := L) (u := uN64 (ja (p / 64))) (w := p / 64) (fun i x hx hw => by rw [← hw]; exact h.1 i x hx) (p % 64 + 1) (by omega) (by omega)
  rw [← h1]
  congr 1
  omega
/-- where a place of the level below stood: the last place with no more of its kind before it -/
theorem lv_above0 {t : Nat → Bool} {L : List Nat} {q x i : Nat} (hx : L[q]? = some x) (ht : t x = false) (hi : i ≤ L.length) : z0 t L i ≤ z0 t L q ↔ i ≤ q := by
  constructor
  · intro h
    rcases Nat.lt_or_ge q i with h1 | h1
    · have h2 := z0_mono t L (show q + 1 ≤ i from h1)
      rw [z0_succ t hx, ht] at h2
      simp at h2
      omega
    · exact h1
  · intro h
    exact z0_mono t L h
theorem lv_above1 {t : Nat → Bool} {L : List Nat} {q x i : Nat} (hx : L[q]? = some x) (ht : t x = true) (hi : i ≤ L.length) : z1 t L i ≤ z1 t L q ↔ i ≤ q := by
  constructor
  · intro h
    rcases Nat.lt_or_ge q i with h1 | h1
    · have h2 := z1_mono t L (show q + 1 ≤ i from h1)
      rw [z1_succ t hx, ht] at h2
      simp at h2
      omega
    · exact h1
  · intro h
    exact z1_mono t L h
theorem lv_side {t : Nat → Bool} {L : List Nat} {q x : Nat} (hx : L[q]? = some x) (ht : t x = false) : z0 t L q < z0 t L L.length := by
  have h1 : q < L.length := (List.getElem?_eq_some_iff.mp hx).1
  have h2 := z0_mono t L (show q + 1 ≤ L.length from h1)
  rw [z0_succ t hx, ht] at h2
  simp at h2
  omega
end LVM
end
section
/-! WHAT THE QUESTIONS ASK OF A PART (a list B), and what the way down the levels finds. -/
section WQ
def cLt (B : List Nat) (v : Nat) : Nat := (B.filter (fun x => decide (x < v))).length
def cEq (B : List Nat) (v : Nat) : Nat := (B.filter (fun x => x == v)).length
theorem cLt_succ (B : List Nat) (v : Nat) : cLt B (v + 1) = cLt B v + cEq B v := by
  unfold cLt cEq
  induction B with
  | nil => rfl
  | cons x B ih =>
    simp only [List.filter_cons]
    rcases Nat.lt_trichotomy x v with h | h | h
    · have h1 : x < v + 1 := by omega
      have h2 : (x == v) = false := by rw [beq_eq_false_iff_ne]; omega
      simp only [h, h1, h2, decide_true, if_true, Bool.false_eq_true, if_false, List.length_cons]
      omega
    · have h1 : x < v + 1 := by omega
      have h2 : (x == v) = true := by rw [beq_iff_eq]; exact h
      have h3 : ¬ x < v := by omega
      simp only [h1, h2, h3, decide_true, decide_false, if_true, Bool.false_eq_true, if_false, List.length_cons]
      omega
    · have h1 : ¬ x < v + 1 := by omega
      have h2 : (x == v) = false := by rw [beq_eq_false_iff_ne]; omega
      have h3 : ¬ x < v := by omega
      simp only [h1, h2, h3, decide_false, Bool.false_eq_true, if_false]
      exact ih
theorem cLt_mono (B : List Nat) {v w : Nat} (h : v ≤ w) : cLt B v ≤ cLt B w := by
  induction h with
  | refl => exact Nat.le_refl _
  | step _ ih => exact Nat.le_trans ih (by rw [cLt_succ]; omega)
theorem cLt_le (B : List Nat) (v : Nat) : cLt B v ≤ B.length := List.length_filter_le _ _
theorem cLt_0 (B : List Nat) : cLt B 0 = 0 := by
  unfold cLt
  rw [List.length_eq_zero_iff, List.filter_eq_nil_iff]
  intro x _
  simp
theorem cLt_all {B : List Nat} {v : Nat} (h : ∀ x ∈ B, x < v) : cLt B v = B.length := by
  unfold cLt
  rw [List.filter_eq_self.mpr (fun x hx => by simpa using h x hx)]
/-- r is the k-th least of B -/
def kth (B : List Nat) (k r : Nat) : Prop := cLt B r ≤ k ∧ k < cLt B (r + 1)
theorem kth.uniq {B : List Nat} {k r r' : Nat} (h : kth B k r) (h' : kth B k r') : r = r' := by
  rcases Nat.lt_trichotomy r r' with q | q | q
  · have := cLt_mono B (show r + 1 ≤ r' from q)
    have h1 := h.2
    have h2 := h'.1
    omega
  · exact q
  · have := cLt_mono B (show r' + 1 ≤ r from q)
    have h1 := h'.2
    have h2 := h.1
    omega
theorem cEq_pos {B : List Nat} {v : Nat} : 0 < cEq B v ↔ v ∈ B := by
  unfold cEq
  rw [List.length_pos_iff_exists_mem]
  constructor
  · rintro ⟨x, hx⟩
    obtain ⟨h1, h2⟩ := List.mem_filter.mp hx
    rw [beq_iff_eq] at h2
    rw [← h2]; exact h1
  · intro h
    exact ⟨v, List.mem_filter.mpr ⟨h, by simp⟩⟩
theorem kth.mem {B : List Nat} {k r : Nat} (h : kth B k r) : r ∈ B := by
  have h1 := h.1
  have h2 := h.2
  rw [cLt_succ] at h2
  exact cEq_pos.mp (by omega)
theorem wpre_split {d k p : Nat} (hk : k < d) (B : List Nat) : (wpre d (k + 1) (2 * p) B).length + (wpre d (k + 1) (2 * p + 1) B).length = (wpre d k p B).length := by
  rw [← wpre_zero hk, ← wpre_one hk]
  exact flt_len (wt d k) (wpre d k p B)
theorem wI.cnt {d : Nat} {xs : List Nat} {k p a b : Nat} {B : List Nat} (hk : k < d) (h : wI d xs k p a b B) : z0 (wt d k) (wL d xs k) a + (wpre d (k + 1) (2 * p) B).length = z0 (wt d k) (wL d xs k) b := (IV.len (wI.zero hk h)).1
theorem wI.len {d : Nat} {xs : List Nat} {k p a b : Nat} {B : List Nat} (h : wI d xs k p a b B) : a + (wpre d k p B).length = b ∧ b ≤ xs.length := by
  have h1 := IV.len h
  rw [wL_len] at h1
  exact h1
/-- the k-th time that s stands in xs -/
theorem occ_ex (s : Nat) : ∀ (xs : List Nat) (k : Nat), k < cEq xs s → ∃ i, xs[i]? = some s ∧ cEq (xs.take i) s = k := by
  intro xs
  induction xs with
  | nil => intro k h; exact absurd h (Nat.not_lt_zero k)
  | cons x xs ih =>
    intro k h
    by_cases hx : x = s
    · subst hx
      cases k with
      | zero => exact ⟨0, rfl, rfl⟩
      | succ k =>
        have h1 : k < cEq xs x := by
          simp only [cEq, List.filter_cons, beq_self_eq_true, if_true, List.length_cons] at h ⊢
          omega
        obtain ⟨i, h2, h3⟩ := ih k h1
        refine ⟨i + 1, h2, ?_⟩
        rw [List.take_succ_cons]
        simp only [cEq, List.filter_cons, beq_self_eq_true, if_true, List.length_cons] at h3 ⊢
        omega
    · have hb : (x == s) = false := by rw [beq_eq_false_iff_ne]; exact hx
      have h1 : k < cEq xs s := by
        simp only [cEq, List.filter_cons, hb, Bool.false_eq_true, if_false] at h ⊢
        exact h
      obtain ⟨i, h2, h3⟩ := ih k h1
      refine ⟨i + 1, h2, ?_⟩
      rw [List.take_succ_cons]
      simp only [cEq, List.filter_cons, hb, Bool.false_eq_true, if_false] at h3 ⊢
      exact h3
/-- the different symbols of B below m, ascending -/
def dis (B : List Nat) (m : Nat) : List Nat := (List.range m).filter (fun v => decide (0 < cEq B v))
theorem dis_0 (B : List Nat) : dis B 0 = [] := rfl
theorem dis_succ (B : List Nat) (m : Nat) : dis B (m + 1) = dis B m ++ (if 0 < cEq B m then [m] else []) := by
  unfold dis
  rw [List.range_succ, List.filter_append]
  congr 1
  by_cases h : 0 < cEq B m
  · simp [List.filter_cons, h]
  · simp [List.filter_cons, h]
theorem dis_same {B : List Nat} {m r : Nat} (hmr : m ≤ r) (h : cLt B r = cLt B m) : dis B r = dis B m := by
  induction hmr with
  | refl => rfl
  | @step r hmr ih =>
    have h1 := cLt_succ B r
    have h2 := cLt_mono B hmr
    have h3 : cLt B (r + 1) = cLt B m := h
    have h4 : ¬ 0 < cEq B r := by omega
    show dis B (r + 1) = _
    rw [dis_succ, if_neg h4, List.append_nil]
    exact ih (by omega)
/-- the next symbol that is there -/
theorem kth_next {B : List Nat} {m r : Nat} (h : kth B (cLt B m) r) : m ≤ r ∧ cLt B r = cLt B m ∧ dis B (r + 1) = dis B m ++ [r] ∧ cLt B (r + 1) = cLt B m + cEq B r := by
  have hmr : m ≤ r := by
    rcases Nat.lt_or_ge r m with q | q
    · have h1 := cLt_mono B (show r + 1 ≤ m from q)
      have h2 := h.2
      omega
    · exact q
  have h1 : cLt B r = cLt B m := Nat.le_antisymm h.1 (cLt_mono B hmr)
  have h2 := h.2
  have h3 := cLt_succ B r
  have h4 : 0 < cEq B r := by omega
  refine ⟨hmr, h1, ?_, by omega⟩
  rw [dis_succ, if_pos h4, dis_same hmr h1]
end WQ
end
section
/-! ===== lN n to 2^64: shifts, and, or, masks, one bit ===== -/
theorem wb_tb (n : Nat) : (lN n).toBitVec = BitVec.ofNat 64 n := rfl
theorem wb_inj {a b : Int64} (h : a.toBitVec = b.toBitVec) : a = b := Int64.toBitVec_inj.mp h
theorem wb_tn {n : Nat} (h : n < 2 ^ 64) : (lN n).toBitVec.toNat = n := by rw [wb_tb, BitVec.toNat_ofNat, Nat.mod_eq_of_lt h]
theorem wb_of (x : Int64) : ∃ n, n < 2 ^ 64 ∧ x = lN n := ⟨x.toBitVec.toNat, x.toBitVec.isLt, wb_inj (by rw [wb_tb]; simp)⟩
theorem wb_of32 (x : Int32) : ∃ n, n < 2 ^ 32 ∧ x = nI n := ⟨x.toBitVec.toNat, x.toBitVec.isLt, Int32.toBitVec_inj.mp (by show _ = BitVec.ofNat 32 _; simp)⟩
theorem wb_c : ∀ k, k < 64 → ((nI k).toInt64 &&& 63) = lN k := by decide +kernel
theorem wb_cu : ∀ k, k < 64 → ((nI k).toInt64.toUInt64 &&& Int64.toUInt64 63) = UInt64.ofNat k := by decide +kernel
theorem wb_sm : ∀ k, k < 64 → (BitVec.ofNat 64 k).smod 64 = BitVec.ofNat 64 k := by decide +kernel
theorem wb_pw {a b : Nat} (h : a ≤ b) : 2 ^ b = 2 ^ a * 2 ^ (b - a) := by rw [← Nat.pow_add]; congr 1; omega
theorem wb_lt2 {a b : Nat} (h : a < b) : 2 ^ a < 2 ^ b := Nat.pow_lt_pow_right (by decide) h
theorem wb_mod (n : Nat) : lN n = lN (n % 2 ^ 64) := wb_inj (by rw [wb_tb, wb_tb]; apply BitVec.eq_of_toNat_eq; rw [BitVec.toNat_ofNat, BitVec.toNat_ofNat, Nat.mod_mod])
theorem wb_shr {n k : Nat} (hn : n < 2 ^ 64) (hk : k < 64) : ((lN n).toUInt64 >>> ((nI k).toInt64.toUInt64 &&& Int64.toUInt64 63)).toInt64 = lN (n / 2 ^ k) := by
  rw [wb_cu k hk]
  apply wb_inj
  apply BitVec.eq_of_toNat_eq
  show ((lN n).toUInt64 >>> UInt64.ofNat k).toNat = (BitVec.ofNat 64 _).toNat
  have h1 : (UInt64.ofNat k).toNat = k := by
    show (BitVec.ofNat 64 k).toNat = k
    rw [BitVec.toNat_ofNat, Nat.mod_eq_of_lt (by omega)]
  have h2 : (lN n).toUInt64.toNat = n := wb_tn hn
  rw [UInt64.toNat_shiftRight, h1, h2, Nat.mod_eq_of_lt hk, Nat.shiftRight_eq_div_pow, BitVec.toNat_ofNat, Nat.mod_eq_of_lt (Nat.lt_of_le_of_lt (Nat.div_le_self _ _) hn)]
theorem wb_shl (n : Nat) {k : Nat} (hk : k < 64) : lN n <<< ((nI k).toInt64 &&& 63) = lN (n * 2 ^ k) := by
  rw [wb_c k hk]
  apply wb_inj
  rw [Int64.toBitVec_shiftLeft, wb_tb, wb_tb, wb_tb, wb_sm k hk]
  apply BitVec.eq_of_toNat_eq
  rw [BitVec.shiftLeft_eq', BitVec.toNat_shiftLeft, BitVec.toNat_ofNat, BitVec.toNat_ofNat, BitVec.toNat_ofNat, Nat.mod_eq_of_lt (show k < 2 ^ 64 by omega), Nat.shiftLeft_eq, Nat.mul_mod, Nat.mod_mod, ← Nat.mul_mod]
theorem wb_and {a b : Nat} (ha : a < 2 ^ 64) (hb : b < 2 ^ 64) : lN a &&& lN b = lN (a &&& b) := by
  apply wb_inj
  rw [Int64.toBitVec_and, wb_tb, wb_tb, wb_tb]
  apply BitVec.eq_of_toNat_eq
  rw [BitVec.toNat_and, BitVec.toNat_ofNat, BitVec.toNat_ofNat, BitVec.toNat_ofNat, Nat.mod_eq_of_lt ha, Nat.mod_eq_of_lt hb, Nat.mod_eq_of_lt (Nat.and_lt_two_pow _ hb)]
theorem wb_or {a b : Nat} (ha : a < 2 ^ 64) (hb : b < 2 ^ 64) : lN a ||| lN b = lN (a ||| b) := by
  apply wb_inj
  rw [Int64.toBitVec_or, wb_tb, wb_tb, wb_tb]
  apply BitVec.eq_of_toNat_eq
  rw [BitVec.toNat_or, BitVec.toNat_ofNat, BitVec.toNat_ofNat, BitVec.toNat_ofNat, Nat.mod_eq_of_lt ha, Nat.mod_eq_of_lt hb, Nat.mod_eq_of_lt (Nat.or_lt_two_pow ha hb)]
theorem wb_mask {n k : Nat} (hn : n < 2 ^ 64) (hk : k < 64) : lN n &&& lN (2 ^ k - 1) = lN (n % 2 ^ k) := by
  rw [wb_and hn (by have := wb_lt2 hk; omega), Nat.and_two_pow_sub_one_eq_mod]
theorem wb_a1 {n : Nat} (hn : n < 2 ^ 64) : lN n &&& 1 = lN (n % 2) := wb_mask (k := 1) hn (by decide)
theorem wb_bit {n k : Nat} (hn : n < 2 ^ 64) (hk : k < 64) : ((lN n).toUInt64 >>> ((nI k).toInt64.toUInt64 &&& Int64.toUInt64 63)).toInt64 &&& 1 = lN (n / 2 ^ k % 2) := by
  rw [wb_shr hn hk, wb_a1 (Nat.lt_of_le_of_lt (Nat.div_le_self _ _) hn)]
theorem wb_xor {q k : Nat} (hk : k < 63) (h : 2 ^ k ≤ q) (h2 : q < 2 ^ (k + 1)) : lN q ^^^ lN (2 ^ k) = lN (q - 2 ^ k) := by
  obtain ⟨r, rfl⟩ : ∃ r, q = 2 ^ k + r := ⟨q - 2 ^ k, by omega⟩
  have hr : r < 2 ^ k := by rw [Nat.pow_succ] at h2; omega
  have hx : (2 ^ k + r) ^^^ 2 ^ k = r := by
    apply Nat.eq_of_testBit_eq
    intro i
    rw [Nat.testBit_xor, Nat.testBit_two_pow]
    rcases Nat.lt_trichotomy i k with h | h | h
    · rw [Nat.testBit_two_pow_add_gt h]
      simp [show ¬ k = i by omega]
    · subst h
      rw [Nat.testBit_two_pow_add_eq]
      simp
    · have a1 : 2 ^ (k + 1) ≤ 2 ^ i := Nat.pow_le_pow_right (by decide) h
      rw [Nat.testBit_lt_two_pow (show 2 ^ k + r < 2 ^ i by omega), Nat.testBit_lt_two_pow (show r < 2 ^ i by omega)]
      simp [show ¬ k = i by omega]
  have b1 := wb_lt2 (show k + 1 < 64 by omega)
  have b2 := wb_lt2 (show k < 64 by omega)
  apply wb_inj
  rw [Int64.toBitVec_xor, wb_tb, wb_tb, wb_tb]
  apply BitVec.eq_of_toNat_eq
  rw [BitVec.toNat_xor, BitVec.toNat_ofNat, BitVec.toNat_ofNat, BitVec.toNat_ofNat, Nat.mod_eq_of_lt (by omega : 2 ^ k + r < 2 ^ 64), Nat.mod_eq_of_lt b2, hx, Nat.add_sub_cancel_left, Nat.mod_eq_of_lt (by omega)]
/-! ===== nI under and, xor, >>>, one bit, 65535 ===== -/
theorem nx_and (a b : Nat) : nI a &&& nI b = nI (a &&& b) := by
  apply Int32.toBitVec_inj.1
  show BitVec.ofNat 32 a &&& BitVec.ofNat 32 b = BitVec.ofNat 32 (a &&& b)
  apply BitVec.eq_of_getLsbD_eq
  intro i hi
  simp [hi]
theorem nx_xor (a b : Nat) : nI a ^^^ nI b = nI (a ^^^ b) := by
  apply Int32.toBitVec_inj.1
  show BitVec.ofNat 32 a ^^^ BitVec.ofNat 32 b = BitVec.ofNat 32 (a ^^^ b)
  apply BitVec.eq_of_getLsbD_eq
  intro i hi
  simp [hi]
theorem nx_cnt : ∀ j : Fin 32, (UInt32.ofNat j.val &&& Int32.toUInt32 31).toNat % 32 = j.val := by decide +kernel
theorem nx_ush {k j : Nat} (hk : k < 65536) (hj : j < 32) : ((nI k).toUInt32 >>> ((nI j).toUInt32 &&& Int32.toUInt32 31)).toInt32 = nI (k >>> j) := by
  have hs : k >>> j ≤ k := by
    rw [Nat.shiftRight_eq_div_pow]
    exact Nat.div_le_self _ _
  have e2 : UInt32.ofNat k >>> (UInt32.ofNat j &&& Int32.toUInt32 31) = UInt32.ofNat (k >>> j) := by
    apply UInt32.toNat_inj.1
    have h1 : (UInt32.ofNat k).toNat = k := Nat.mod_eq_of_lt (by omega)
    have h2 : (UInt32.ofNat (k >>> j)).toNat = k >>> j := Nat.mod_eq_of_lt (by omega)
    rw [UInt32.toNat_shiftRight, nx_cnt ⟨j, hj⟩, h1, h2]
  show (UInt32.ofNat k >>> (UInt32.ofNat j &&& Int32.toUInt32 31)).toInt32 = _
  rw [e2]
  rfl
theorem nx_bit {k j : Nat} (hk : k < 65536) (hj : j < 16) : (((nI k).toUInt32 >>> ((nI j).toUInt32 &&& Int32.toUInt32 31)).toInt32 &&& 1) = 0 ↔ k.testBit j = false := by
  rw [nx_ush hk (by omega)]
  show nI (k >>> j) &&& nI 1 = 0 ↔ _
  rw [nx_and, Nat.and_one_is_mod, ← nI_0, nI_eq (by omega) (by omega), Nat.testBit_eq_decide_div_mod_eq, Nat.shiftRight_eq_div_pow, decide_eq_false_iff_not]
  generalize k / 2 ^ j = z
  omega
theorem nx_mod (k : Nat) : nI k &&& 65535 = nI (k % 65536) := by
  show nI k &&& nI 65535 = _
  rw [nx_and, show (65535 : Nat) = 2 ^ 16 - 1 from rfl, Nat.and_two_pow_sub_one_eq_mod]
theorem nx_m16 {k : Nat} (h : k < 65536) : nI k &&& 65535 = nI k := by rw [nx_mod, Nat.mod_eq_of_lt h]
theorem nx_mask (x : Int32) : ∃ k, k < 65536 ∧ x &&& 65535 = nI k := by
  have e : x = nI x.toBitVec.toNat := by
    apply Int32.toBitVec_inj.1
    show x.toBitVec = BitVec.ofNat 32 x.toBitVec.toNat
    simp
  refine ⟨x.toBitVec.toNat % 65536, Nat.mod_lt _ (by omega), ?_⟩
  rw [← nx_mod, ← e]
end
section
/-! LONG.BITCOUNT, its numbers. -/
section BCM
theorem byts_lt : ∀ l : List Nat, (∀ b ∈ l, b < 256) → byts l < 256 ^ l.length := by
  intro l
  induction l with
  | nil => intro _; exact Nat.one_pos
  | cons b l ih =>
    intro h
    have hb := h b List.mem_cons_self
    have ih := ih (fun x hx => h x (List.mem_cons_of_mem _ hx))
    rw [byts, List.length_cons, Nat.pow_succ]
    omega
theorem byts_le (m : Nat) : ∀ l : List Nat, (∀ b ∈ l, b ≤ m) → byts l ≤ m * byts (l.map fun _ => 1) := by
  intro l
  induction l with
  | nil => intro _; exact Nat.zero_le _
  | cons b l ih =>
    intro h
    have hb := h b List.mem_cons_self
    have ih := ih (fun x hx => h x (List.mem_cons_of_mem _ hx))
    rw [byts, List.map_cons, byts, Nat.mul_add, Nat.mul_one, Nat.mul_left_comm]
    omega
theorem byts_lt8 {l : List Nat} (h8 : l.length = 8) (h : ∀ b ∈ l, b < 256) : byts l < 2 ^ 64 := by
  have h1 := byts_lt l h
  rw [h8] at h1
  exact Nat.lt_of_lt_of_eq h1 (by decide +kernel)
theorem byts_c8 (m v : Nat) (hv : byts [m, m, m, m, m, m, m, m] = v) : ∀ {l : List Nat}, l.length = 8 → byts (l.map fun _ => m) = v
  | [_, _, _, _, _, _, _, _], _ => hv
theorem bc_math {u y1 y2 y3 z1 z2 z3 : Nat} (hu : u < 2 ^ 64) (e1 : y1 = u - (u / 2 &&& 6148914691236517205)) (e2 : y2 = (y1 &&& 3689348814741910323) + (y1 / 4 &&& 3689348814741910323)) (e3 : y3 = (y2 + y2 / 16) &&& 1085102592571150095)
    (f1 : z1 = y3 + y3 / 256) (f2 : z2 = z1 + z1 / 65536) (f3 : z3 = z2 + z2 / 4294967296) :
    (u / 2 &&& 6148914691236517205) ≤ u ∧ y1 < 2 ^ 64 ∧ y2 < 2 ^ 63 ∧ y2 + y2 / 16 < 2 ^ 64 ∧ y3 < 2 ^ 64 ∧ z1 < 2 ^ 63 ∧ z2 < 2 ^ 63 ∧ z3 < 2 ^ 63 ∧ z3 % 128 = pcl u 64 := by
  obtain ⟨l, hlen, hb, rfl, hsum⟩ := byts_of 8 u (by rw [show (256 : Nat) ^ 8 = 2 ^ 64 by decide]; exact hu)
  have a1 : (byts l / 2 &&& 6148914691236517205) ≤ byts l := Nat.le_trans Nat.and_le_left (Nat.div_le_self _ _)
  match l, hlen with
  | [b0, b1, b2, b3, b4, b5, b6, b7], _ =>
    have s1 := pc_s1 [b0, b1, b2, b3, b4, b5, b6, b7] hb
    rw [byts_c8 85 6148914691236517205 (by decide +kernel) rfl, ← e1] at s1
    have hb1 : ∀ b ∈ [b0, b1, b2, b3, b4, b5, b6, b7].map pf1, b < 256 := by
      intro b h
      obtain ⟨x, hx, rfl⟩ := List.mem_map.mp h
      exact pc_b1 x (hb x hx)
    have a2 : y1 < 2 ^ 64 := by
      rw [s1]
      exact byts_lt8 rfl hb1
    have s2 := pc_s2 _ hb1
    rw [byts_c8 51 3689348814741910323 (by decide +kernel) rfl, ← s1, ← e2] at s2
    have hb2 : ∀ b ∈ ([b0, b1, b2, b3, b4, b5, b6, b7].map pf1).map pf2, b % 16 ≤ 4 ∧ b / 16 ≤ 4 := by
      intro b h
      obtain ⟨x, hx, rfl⟩ := List.mem_map.mp h
      obtain ⟨w, hw, rfl⟩ := List.mem_map.mp hx
      exact pc_b2 w (hb w hw)
    have a3 : y2 ≤ 68 * 72340172838076673 := by
      have h := byts_le 68 _ (fun b h => by have := hb2 b h; omega)
      rw [← s2, byts_c8 1 72340172838076673 (by decide +kernel) rfl] at h
      exact h
    have s3 := (pc_s3 _ hb2).2
    rw [byts_c8 15 1085102592571150095 (by decide +kernel) rfl, ← s2, ← e3] at s3
    have c0 : ∀ b ∈ [b0, b1, b2, b3, b4, b5, b6, b7], pf3 (pf2 (pf1 b)) = pcl b 8 := fun b h => pc_b3 b (hb b h)
    have s4 : y3 = byts [pcl b0 8, pcl b1 8, pcl b2 8, pcl b3 8, pcl b4 8, pcl b5 8, pcl b6 8, pcl b7 8] := by
      rw [s3]
      simp only [List.map_cons, List.map_nil]
      rw [c0 b0 (by simp), c0 b1 (by simp), c0 b2 (by simp), c0 b3 (by simp), c0 b4 (by simp), c0 b5 (by simp), c0 b6 (by simp), c0 b7 (by simp)]
    obtain ⟨g1, g2, g3, g4⟩ := pc_lin (pcl_le 8 b0) (pcl_le 8 b1) (pcl_le 8 b2) (pcl_le 8 b3) (pcl_le 8 b4) (pcl_le 8 b5) (pcl_le 8 b6) (pcl_le 8 b7) s4 f1 f2 f3
    have a4 : y3 < 2 ^ 64 := by
      rw [s4]
      refine byts_lt8 rfl (fun b h => ?_)
      have h9 : ∀ x, pcl x 8 < 256 := fun x => Nat.lt_of_le_of_lt (pcl_le 8 x) (by decide)
      simp only [List.mem_cons, List.not_mem_nil, or_false] at h
      rcases h with rfl | rfl | rfl | rfl | rfl | rfl | rfl | rfl <;> exact h9 _
    refine ⟨a1, a2, by omega, by omega, a4, g2, g3, g4, ?_⟩
    rw [g1, ← hsum]
    simp only [List.map_cons, List.map_nil, List.sum_cons, List.sum_nil]
    omega
end BCM
end
section
/-! How many bits a number has. -/
section NLZ
theorem nlz_u {u d c v : Nat} (hd : u < 2 ^ d) (hlo : ∀ e, e < d → 2 ^ e ≤ u) (hv : u / 2 ^ c = v) (h1 : 1 ≤ v) (h2 : v < 4) : d = c + 1 + v / 2 := by
  have hp : 0 < 2 ^ c := Nat.pos_of_ne_zero (by simp)
  have e1 : 2 ^ c * v ≤ u := by rw [← hv]; exact Nat.mul_div_le u (2 ^ c)
  have e2 : u < 2 ^ c * (v + 1) := by rw [← hv]; exact Nat.lt_mul_div_succ u hp
  have h3 : v = 1 ∨ v = 2 ∨ v = 3 := by omega
  have key : ∀ e, 2 ^ e ≤ u → u < 2 ^ (e + 1) → d = e + 1 := by
    intro e a b
    have g1 : ¬ d ≤ e := fun h => by
      have := Nat.pow_le_pow_right (n := 2) (by omega) h
      omega
    have g2 : ¬ e + 1 < d := fun h => by
      have := hlo _ h
      omega
    omega
  have p1 : 2 ^ (c + 1) = 2 ^ c * 2 := Nat.pow_succ 2 c
  have p2 : 2 ^ (c + 1 + 1) = 2 ^ c * 2 * 2 := by rw [Nat.pow_succ, p1]
  rcases h3 with rfl | rfl | rfl
  · exact key c (by omega) (by omega)
  · have := key (c + 1) (by omega) (by omega)
    omega
  · have := key (c + 1) (by omega) (by omega)
    omega
end NLZ
end
section
/-! STORING A LEVEL: what holds when p symbols are kept. -/
section STM
theorem uN64_or (a b : Int64) : uN64 (a ||| b) = uN64 a ||| uN64 b := by simp [uN64]
def StI (t : Nat → Bool) (L : List Nat) (p ow : Nat) (ja : Nat → Int64) (oa rf sf : Nat → Int32) : Prop :=
  (∀ i x, i < p → L[i]? = some x → (uN64 (ja (i / 64))).testBit (i % 64) = t x) ∧
  (∀ i, p ≤ i → i < 1024 → (uN64 (ja (i / 64))).testBit (i % 64) = false) ∧
  (∀ w, 64 * w < ow → oa w = nI (z1 t L (64 * w))) ∧
  (∀ i x, ((L.take p).filter (fun x => !t x))[i]? = some x → rf i = nI x) ∧
  (∀ i x, p ≤ i → L[i]? = some x → rf i = nI x) ∧
  (∀ i x, ((L.take p).filter t)[i]? = some x → sf i = nI x)
theorem StI.start {t : Nat → Bool} {L : List Nat} {ja : Nat → Int64} {oa rf sf : Nat → Int32} (hj : ∀ i, i < 16 → ja i = 0) (hr : ∀ i x, L[i]? = some x → rf i = nI x) : StI t L 0 0 ja oa rf sf := by
  refine ⟨fun i x h => absurd h (Nat.not_lt_zero i), fun i _ h => ?_, fun w h => absurd h (Nat.not_lt_zero _), fun i x h => ?_, fun i x _ h => hr i x h, fun i x h => ?_⟩
  · rw [hj _ (by omega), show uN64 0 = 0 from rfl]; exact Nat.zero_testBit _
  · simp at h
  · simp at h
theorem StI.put {t : Nat → Bool} {L : List Nat} {p : Nat} {ja : Nat → Int64} {oa rf sf : Nat → Int32} (h : StI t L p p ja oa rf sf) (hp : p % 64 = 0) : StI t L p (p + 1) ja (upd oa (p / 64) (nI (z1 t L p))) rf sf := by
  obtain ⟨h1, h2, h3, h4, h5, h6⟩ := h
  refine ⟨h1, h2, fun w hw => ?_, h4, h5, h6⟩
  by_cases e : w = p / 64
  · subst e
    simp only [upd, if_true]
    congr 2
    omega
  · simp only [upd, if_neg e]
    exact h3 w (by omega)
theorem StI.skip {t : Nat → Bool} {L : List Nat} {p : Nat} {ja : Nat → Int64} {oa rf sf : Nat → Int32} (h : StI t L p p ja oa rf sf) (hp : p % 64 ≠ 0) : StI t L p (p + 1) ja oa rf sf := by
  obtain ⟨h1, h2, h3, h4, h5, h6⟩ := h
  exact ⟨h1, h2, fun w hw => h3 w (by omega), h4, h5, h6⟩
theorem take_one {L : List Nat} {p x : Nat} (hx : L[p]? = some x) : L.take (p + 1) = L.take p ++ [x] := by rw [List.take_add_one, hx]; rfl
theorem app_at {B : List Nat} {x i y : Nat} (h : (B ++ [x])[i]? = some y) : (i = B.length ∧ y = x) ∨ (i ≠ B.length ∧ B[i]? = some y) := by
  by_cases e : i < B.length
  · rw [List.getElem?_append_left e] at h
    exact Or.inr ⟨by omega, h⟩
  · rw [List.getElem?_append_right (by omega)] at h
    have h2 := (List.getElem?_eq_some_iff.mp h).1
    simp only [List.length_cons, List.length_nil] at h2
    have h3 : i - B.length = 0 := by omega
    rw [h3] at h
    simp at h
    exact Or.inl ⟨by omega, h.symm⟩
theorem StI.zero {t : Nat → Bool} {L : List Nat} (hL : L.length ≤ 1000) {p x : Nat} {ja : Nat → Int64} {oa rf sf : Nat → Int32} (h : StI t L p (p + 1) ja oa rf sf) (hx : L[p]? = some x) (ht : t x = false) : StI t L (p + 1) (p + 1) ja oa (upd rf (z0 t L p) (nI x)) sf := by
  obtain ⟨h1, h2, h3, h4, h5, h6⟩ := h
  have hz := z0_le t L p
  have hl := (List.getElem?_eq_some_iff.mp hx).1
  refine ⟨fun i y hi hy => ?_, fun i hi hi2 => h2 i (by omega) hi2, h3, fun i y hy => ?_, fun i y hi hy => ?_, fun i y hy => ?_⟩
  · by_cases e : i = p
    · subst e
      rw [hx] at hy
      cases hy
      rw [ht]
      exact h2 i (Nat.le_refl _) (by omega)
    · exact h1 i y (by omega) hy
  · rw [take_one hx, List.filter_append] at hy
    simp only [List.filter_cons, ht, Bool.not_false, if_true, List.filter_nil] at hy
    rcases app_at hy with ⟨e, rfl⟩ | ⟨e, hy⟩
    · have e2 : i = z0 t L p := e
      simp only [upd, e2, if_true]
    · have e2 : i ≠ z0 t L p := e
      simp only [upd, if_neg e2]
      exact h4 i y hy
  · have e2 : i ≠ z0 t L p := by omega
    simp only [upd, if_neg e2]
    exact h5 i y (by omega) hy
  · rw [take_one hx, List.filter_append] at hy
    simp only [List.filter_cons, ht, Bool.false_eq_true, if_false, List.filter_nil, List.append_nil] at hy
    exact h6 i y hy
theorem StI.one {t : Nat → Bool} {L : List Nat} (hL : L.length ≤ 1000) {p x : Nat} {ja : Nat → Int64} {oa rf sf : Nat → Int32} (h : StI t L p (p + 1) ja oa rf sf) (hx : L[p]? = some x) (ht : t x = true) : StI t L (p + 1) (p + 1) (vp_updL ja (p / 64) (ja (p / 64) ||| lN (2 ^ (p % 64)))) oa rf (upd sf (z1 t L p) (nI x)) := by
  obtain ⟨h1, h2, h3, h4, h5, h6⟩ := h
  have hl := (List.getElem?_eq_some_iff.mp hx).1
  have hw : uN64 (ja (p / 64) ||| lN (2 ^ (p % 64))) = uN64 (ja (p / 64)) ||| 2 ^ (p % 64) := by
    rw [uN64_or]
    congr 1
    exact wb_tn (Nat.pow_lt_pow_right (by decide) (by omega))
  have hbit : ∀ i, (uN64 (vp_updL ja (p / 64) (ja (p / 64) ||| lN (2 ^ (p % 64))) (i / 64))).testBit (i % 64) = ((uN64 (ja (i / 64))).testBit (i % 64) || decide (i = p)) := by
    intro i
    by_cases e : i / 64 = p / 64
    · simp only [vp_updL, e, if_true]
      rw [hw, Nat.testBit_or, Nat.testBit_two_pow]
      congr 1
      rw [decide_eq_decide]
      omega
    · simp only [vp_updL, if_neg e]
      have e2 : i ≠ p := fun z => e (by rw [z])
      rw [decide_eq_false e2, Bool.or_false]
  refine ⟨fun i y hi hy => ?_, fun i hi hi2 => ?_, h3, fun i y hy => ?_, fun i y hi hy => h5 i y (by omega) hy, fun i y hy => ?_⟩
  · rw [hbit]
    by_cases e : i = p
    · subst e
      rw [hx] at hy
      cases hy
      rw [ht, decide_eq_true rfl, Bool.or_true]
    · rw [decide_eq_false e, Bool.or_false]
      exact h1 i y (by omega) hy
  · rw [hbit, h2 i (by omega) hi2, decide_eq_false (by omega)]
    rfl
  · rw [take_one hx, List.filter_append] at hy
    simp only [List.filter_cons, ht, Bool.not_true, Bool.false_eq_true, if_false, List.filter_nil, List.append_nil] at hy
    exact h4 i y hy
  · rw [take_one hx, List.filter_append] at hy
    simp only [List.filter_cons, ht, if_true, List.filter_nil] at hy
    rcases app_at hy with ⟨e, rfl⟩ | ⟨e, hy⟩
    · have e2 : i = z1 t L p := e
      simp only [upd, e2, if_true]
    · have e2 : i ≠ z1 t L p := e
      simp only [upd, if_neg e2]
      exact h6 i y hy
theorem StI.done {t : Nat → Bool} {L : List Nat} {ja : Nat → Int64} {oa rf sf : Nat → Int32} (h : StI t L L.length L.length ja oa rf sf) :
    LvOk t L ja oa (nI (z0 t L L.length)) ∧ ∀ i x, (wpart t L)[i]? = some x → va_cpy sf rf 0 (z0 t L L.length) (z1 t L L.length) i = nI x := by
  obtain ⟨h1, h2, h3, h4, h5, h6⟩ := h
  rw [List.take_length] at h4 h6
  have e0 : z0 t L L.length = (L.filter (fun x => !t x)).length := by rw [z0, List.take_length]
  have e1 : z1 t L L.length = (L.filter t).length := by rw [z1, List.take_length]
  refine ⟨⟨fun i x hx => ?_, h3, rfl⟩, fun i x hx => ?_⟩
  · have h7 := h1 i x (List.getElem?_eq_some_iff.mp hx).1 hx
    rw [Nat.testBit_eq_decide_div_mod_eq] at h7
    have h8 := Nat.mod_two_eq_zero_or_one (uN64 (ja (i / 64)) / 2 ^ (i % 64))
    cases ht : t x
    · rw [ht] at h7
      have := of_decide_eq_false h7
      simp only [Bool.false_eq_true, if_false]
      omega
    · rw [ht] at h7
      simp only [if_true]
      exact of_decide_eq_true h7
  · rw [wpart] at hx
    have hl := (List.getElem?_eq_some_iff.mp hx).1
    rw [List.length_append] at hl
    by_cases hi : i < (L.filter (fun x => !t x)).length
    · rw [List.getElem?_append_left hi] at hx
      rw [pk_cpy_out (by omega)]
      exact h4 i x hx
    · rw [List.getElem?_append_right (by omega)] at hx
      rw [pk_cpy_in (by omega) (by omega), Nat.zero_add, e0]
      exact h6 _ x hx
theorem sh31 : ∀ k, k < 32 → ((nI k &&& 31).toBitVec.smod 32).toNat = k := by decide +kernel
theorem sh_bit {x k : Nat} (hx : x < 2 ^ 31) (hk : k < 32) : nI x >>> (nI k &&& 31) = nI (x / 2 ^ k) := pk_shrN hx _ k (sh31 k hk)
theorem nI_and1 (x : Nat) : nI x &&& 1 = nI (x % 2) := by rw [show (1 : Int32) = nI 1 from rfl, nx_and, Nat.and_one_is_mod]
theorem short_nI {n : Nat} (h : n ≤ 1000) : (nI n).toInt16.toInt32 = nI n := by
  have : ∀ k : Fin 1001, (nI k.val).toInt16.toInt32 = nI k.val := by decide +kernel
  exact this ⟨n, by omega⟩
end STM
end
section
/-! WHAT EVERY METHOD'S START SAYS: the words that stay (lw_ok), those of the nest, of texts and of casts (lw_nw), the two statics of Throwable, and where the old heap ends (B0). Contracts speak of heaps alone: CM of a method that returns, CX of one that returns or throws. -/
section CTA
abbrev wsA (y : MethodName) (b : ByteArray) (n : Nat) (r : Option FieldType) : List Cond := .code y b n r :: lw_ok
abbrev wsH (y : MethodName) (b : ByteArray) (n : Nat) (r : Option FieldType) (hh : List (Nat × Nat × Nat × Nat)) : List Cond := .codeWith y b n r hh :: lw_ok
theorem gd_ws {y : MethodName} {b : ByteArray} {n : Nat} {r : Option FieldType} (h : Cond.code y b n r ∈ lw_ok) : GoodIn lw_ok (wsA y b n r) := by
  intro w hw
  rcases List.mem_cons.mp hw with rfl | hw
  · exact ⟨h, good_of_word (gd_ok h)⟩
  · exact ⟨hw, good_of_word (gd_ok hw)⟩
theorem gd_wsH {y : MethodName} {b : ByteArray} {n : Nat} {r : Option FieldType} {hh : List (Nat × Nat × Nat × Nat)} (h : Cond.codeWith y b n r hh ∈ lw_ok) : GoodIn lw_ok (wsH y b n r hh) := by
  intro w hw
  rcases List.mem_cons.mp hw with rfl | hw
  · exact ⟨h, good_of_word (gd_ok h)⟩
  · exact ⟨hw, good_of_word (gd_ok hw)⟩
theorem nw_str {own tx : String} {k : Nat} {s U : State} (hW : s.WarmedH U.vm) (h : va_Nw (.stringRef own k tx) s) : va_Nw (.stringRef own k tx) U := by
  have hcur : ∃ cur, s.vm.findClass own = some cur := by
    have h1 := h
    simp only [va_Nw, Cond.before, Cond.holds, Cond.value] at h1
    cases hc : s.vm.findClass own with
    | none => simp [hc] at h1
    | some cur => exact ⟨cur, rfl⟩
  obtain ⟨cur, hcur⟩ := hcur
  obtain ⟨_, _, _, a, _, _, _, _, _, hev⟩ := Cond.stringRef_spec hcur h
  exact (vk_R.warm hW ⟨h, hev⟩).1
theorem nw_warm {w : Cond} {s U : State} (hn : nword w = true) (hW : s.WarmedH U.vm) (h : va_Nw w s) : va_Nw w U := by
  cases w <;> first
    | (simp [nword] at hn; done)
    | exact va_Nw.warmF hW h
    | exact va_Nw.warmM hW h
    | exact va_Nw.warmD hW h
    | exact va_Nw.warmC hW h
    | exact nw_str hW h
    | (rename_i ty; cases ty <;> first | (simp [nword] at hn; done) | exact va_AO.moved hW.alike h)
/-- a static of Throwable: where it lies, and that it holds a reference or null; no cell from B0 on -/
def st_Z (n d : String) (B0 : Nat) (U : State) : Prop := vx_Zq Bundle.tN n d (fun q => B0 ≤ q) U U.heap
theorem st_Z.moved {n d : String} {B0 : Nat} {u U : State} (hvm : u.vm.Alike U.vm) (hq : ∀ a : Nat, a < B0 → U.heap[a]? = u.heap[a]?) (h : st_Z n d B0 u) : st_Z n d B0 U :=
  (vx_Zq.kept h (H1 := U.heap) (fun a _ ha => hq a (Nat.not_le.mp ha))).moved hvm
def Ev (D : va_G) (tys : List (ClassId × FieldType)) (B0 : Nat) (U : State) : Prop :=
  va_K D vwCl tys U ∧ (∀ w ∈ lw_nw, va_Nw w U) ∧ st_Z "UNASSIGNED_STACK" Bundle.steD B0 U ∧ st_Z "SUPPRESSED_SENTINEL" Bundle.listD B0 U ∧ B0 ≤ U.heap.size
theorem Ev.moved {D : va_G} {tys : List (ClassId × FieldType)} {B0 : Nat} {u U : State} (hW : u.WarmedH U.vm) (hq : ∀ a : Nat, a < B0 → U.heap[a]? = u.heap[a]?) (hz : u.heap.size ≤ U.heap.size) (h : Ev D tys B0 u) : Ev D tys B0 U := by
  obtain ⟨h1, h2, h3, h4, h5⟩ := h
  exact ⟨va_K.moved hW.alike h1, fun w hw => nw_warm (List.mem_filter.mp hw).2 hW (h2 w hw), h3.moved hW.alike hq, h4.moved hW.alike hq, Nat.le_trans h5 hz⟩
theorem Ev.at {D : va_G} {tys : List (ClassId × FieldType)} {B0 : Nat} {s U : State} {A : Nat → Prop} {H : Heap} {locs : List Loc} (h : Ev D tys B0 s) (hS : va_S A s.heap H locs) (hA : ∀ q, A q → B0 ≤ q) (hU : U.heap = H) (hW : s.WarmedH U.vm) : Ev D tys B0 U := by
  refine Ev.moved hW (fun a ha => ?_) (by rw [hU]; exact hS.1) h
  rw [hU]
  exact hS.2.1 a (Nat.lt_of_lt_of_le ha h.2.2.2.2) (fun z => Nat.not_lt.mpr (hA a z) ha)
theorem Ev.str {D : va_G} {tys : List (ClassId × FieldType)} {B0 cur : Nat} {s : State} {own tx : String} {k : Nat} (h : Ev D tys B0 s) (hw : Cond.stringRef own k tx ∈ lw_nw) (hcur : s.vm.findClass own = some cur) : ∃ a, vk_R own k tx a s := by
  have h1 : (Cond.stringRef own k tx).before #[] s = true := h.2.1 _ hw
  obtain ⟨_, _, _, a, _, _, _, _, _, hev⟩ := Cond.stringRef_spec hcur h1
  exact ⟨a, h1, hev⟩
/-- the start of a method -/
def stP (D : va_G) (tys : List (ClassId × FieldType)) (B0 : Nat) (As : List Value) (pre : Heap → Prop) : Array Value → State → Prop := fun v U => v = As.toArray ∧ Ev D tys B0 U ∧ pre U.heap
def stQ (post : Option Value → Heap → Heap → Prop) : Array Value → State → Outcome → State → Prop := fun _ st o t => ∃ v, o = .returned v ∧ post v st.heap t.heap
def stX (px : String → Heap → Heap → Prop) : String → State → State → Prop := fun E st t => px E st.heap t.heap
def CM (l : Launch) (D : va_G) (tys : List (ClassId × FieldType)) (B0 : Nat) (y : MethodName) (b : ByteArray) (n : Nat) (r : Option FieldType) (rm : Room) (As : List Value) (pre : Heap → Prop) (post : Option Value → Heap → Heap → Prop) (mc ms : Nat) (A : Nat → Prop) : Prop :=
  Met l y (wsA y b n r) rm (stP D tys B0 As pre) (stQ post) mc ms A
def CX (l : Launch) (D : va_G) (tys : List (ClassId × FieldType)) (B0 : Nat) (y : MethodName) (b : ByteArray) (n : Nat) (r : Option FieldType) (rm : Room) (As : List Value) (pre : Heap → Prop) (post : Option Value → Heap → Heap → Prop) (px : String → Heap → Heap → Prop) (mc ms : Nat) (A : Nat → Prop) : Prop :=
  vx_Met l y (wsA y b n r) rm (stP D tys B0 As pre) (stQ post) (stX px) mc ms A
variable {l : Launch} {D : va_G} {tys : List (ClassId × FieldType)} {B0 : Nat}
theorem st_blind {As : List Value} {pre : Heap → Prop} : FrameBlind (stP D tys B0 As pre) :=
  fun _ U _ _ h => ⟨h.1, Ev.moved (State.WarmedH.refl U) (fun _ _ => rfl) (Nat.le_refl _) h.2.1, h.2.2⟩
theorem cm_of {y : MethodName} {b : ByteArray} {n : Nat} {r : Option FieldType} {rm : Room} {As : List Value} {pre : Heap → Prop} {post : Option Value → Heap → Heap → Prop} {mc ms : Nat} {A : Nat → Prop} (hy : plainName y.cls = true) (hn : (lg_sl As).length ≤ n)
    (body : ∀ (p : Program) (e : Env) (s : State) (m : MethodId) (below : List Frame) (meth : Method) (c : Code) (ls : Array Slot), p.tables.exec = Jvm.exec → c.code = b → meth.sig.returnType = r → c.maxLocals = n → s.vm.findClass y.cls = some m.cls → (∀ w ∈ lw_ok, w.before As.toArray s = true) → meth.locks = false → meth.name = y.name →
      Ev D tys B0 s → pre s.heap → lv_has ls n (lv_args 0 As) → W p l e rm s m As.toArray below meth c s.heap [] 0 0 (MQ below (stQ post) As.toArray s mc ms A) (F0 m 0 ls [])) :
    CM l D tys B0 y b n r rm As pre post mc ms A := by
  refine Met.ofW (cc := b) (maxL := n) (ret := r) hy rfl ?_
  intro p e s m args below meth c s₁ B hml hv
  obtain ⟨rfl, hE, hp⟩ := hv
  have hts := atoms_spec (ws := wsA y b n r) B.pre
  have hl := lv_entry As (n := n) hn
  rw [lg_entry_eq]
  exact body p e s m below meth c _ B.exec B.bytes B.returns hml (findClass_of_methodNamed B.named) (fun w hw => hts w (List.mem_cons_of_mem _ hw)) B.notSynchronized (name_of_methodNamed B.named B.method).1 hE hp hl
theorem cx_of {y : MethodName} {b : ByteArray} {n : Nat} {r : Option FieldType} {rm : Room} {As : List Value} {pre : Heap → Prop} {post : Option Value → Heap → Heap → Prop} {px : String → Heap → Heap → Prop} {mc ms : Nat} {A : Nat → Prop} (hy : plainName y.cls = true) (hn : (lg_sl As).length ≤ n)
    (body : ∀ (p : Program) (e : Env) (s : State) (m : MethodId) (below : List Frame) (meth : Method) (c : Code) (ls : Array Slot), p.tables.exec = Jvm.exec → c.code = b → meth.sig.returnType = r → c.maxLocals = n → s.vm.findClass y.cls = some m.cls → (∀ w ∈ lw_ok, w.before As.toArray s = true) → meth.locks = false → (∀ x ∈ c.exceptionTable.toList, False) →
      Ev D tys B0 s → pre s.heap → lv_has ls n (lv_args 0 As) → W p l e rm s m As.toArray below meth c s.heap [] 0 0 (vx_MQ below (stQ post) (stX px) As.toArray s mc ms A) (F0 m 0 ls [])) :
    CX l D tys B0 y b n r rm As pre post px mc ms A := by
  refine vx_ofW (cc := b) (maxL := n) (ret := r) hy rfl ?_
  intro p e s m args below meth c s₁ B hml hout hv
  obtain ⟨rfl, hE, hp⟩ := hv
  have hts := atoms_spec (ws := wsA y b n r) B.pre
  have hl := lv_entry As (n := n) hn
  rw [lg_entry_eq]
  exact body p e s m below meth c _ B.exec B.bytes B.returns hml (findClass_of_methodNamed B.named) (fun w hw => hts w (List.mem_cons_of_mem _ hw)) B.notSynchronized hout hE hp hl
end CTA
section CTB
variable {p : Program} {l : Launch} {e : Env} {R : Room} {s : State} {m : MethodId} {args : Array Value} {below : List Frame} {meth : Method} {c : Code} {H : Heap} {locs : List Loc} {cells slots : Nat} {Q : State → Prop}
variable {D : va_G} {tys : List (ClassId × FieldType)} {B0 : Nat} {pc : Nat} {ls : Array Slot} {rest st0 : List Value} {A0 A1 : Nat → Prop} {H0 : Heap} {mc ms : Nat}
theorem ct_topi {x x' : Int32} (h : x = x') (k : W p l e R s m args below meth c H locs cells slots Q (F0 m pc ls (.int x' :: rest))) : W p l e R s m args below meth c H locs cells slots Q (F0 m pc ls (.int x :: rest)) := by rw [h]; exact k
theorem ct_topl {x x' : Int64} (h : x = x') (k : W p l e R s m args below meth c H locs cells slots Q (F0 m pc ls (.long x' :: rest))) : W p l e R s m args below meth c H locs cells slots Q (F0 m pc ls (.long x :: rest)) := by rw [h]; exact k
theorem ct_topv {v v' : Value} (h : v = v') (k : W p l e R s m args below meth c H locs cells slots Q (F0 m pc ls (v' :: rest))) : W p l e R s m args below meth c H locs cells slots Q (F0 m pc ls (v :: rest)) := by rw [h]; exact k
/-- what isn't A's stays -/
def fr (A : Nat → Prop) (H0 H1 : Heap) : Prop := H0.size ≤ H1.size ∧ ∀ q : Nat, q < H0.size → ¬ A q → H1[q]? = H0[q]?
theorem fr.rf {A : Nat → Prop} {H : Heap} : fr A H H := ⟨Nat.le_refl _, fun _ _ _ => rfl⟩
theorem fr.of {A : Nat → Prop} {H0 H1 : Heap} {L : List Loc} (h : va_S A H0 H1 L) : fr A H0 H1 := ⟨h.1, h.2.1⟩
theorem va_S.step {A B : Nat → Prop} {H0 H H1 : Heap} {locs L : List Loc} (hS : va_S A H0 H locs) (hf : fr B H H1) (hL : ∀ q ∈ L, B q.base) (hB : ∀ q, B q → A q) : va_S A H0 H1 (locs ++ L) := by
  refine ⟨Nat.le_trans hS.1 hf.1, fun q h1 h2 => ?_, fun q hq => ?_⟩
  · rw [hf.2 q (Nat.lt_of_lt_of_le h1 hS.1) (fun z => h2 (hB q z))]; exact hS.2.1 q h1 h2
  · rcases List.mem_append.mp hq with h | h
    · exact hS.2.2 q h
    · exact hB _ (hL q h)
/-- behind a call that returns -/
theorem cm_ret {post : Option Value → Heap → Heap → Prop} {a9 : Array Value} (hr : va_Run p l e R s m args below meth c H locs cells slots mc ms (F0 m pc ls st0) rest (stQ post a9) A1) (hS : va_S A0 H0 H locs) (hA : ∀ q, A1 q → A0 q) (hfr : ∀ v H1, post v H H1 → fr A1 H H1)
    (kk : ∀ (v : Option Value) (H1 : Heap) (locs1 : List Loc), post v H H1 → va_S A0 H0 H1 locs1 → W p l e R s m args below meth c H1 locs1 (cells + mc) (slots + ms) Q (F0 m (pc + 3) ls (v.toList ++ rest))) : W p l e R s m args below meth c H locs cells slots Q (F0 m pc ls st0) := by
  intro T hT X
  obtain ⟨v, st₀, t, T', L, h0, X', hL, e1, e2, ⟨v', hv, hq⟩, st⟩ := hr T hT X
  cases hv
  rw [h0] at hq
  obtain ⟨t2, a1, b1⟩ := kk v t.heap (locs ++ L) hq (hS.step (hfr _ _ hq) hL hA) T' e1 X'
  exact ⟨t2, st t2 a1, b1⟩
/-- behind a call that changes nothing -/
theorem cm_read {post : Option Value → Prop} {a9 : Array Value} (hr : va_Run p l e R s m args below meth c H locs cells slots 0 0 (F0 m pc ls st0) rest (stQ (fun v H0 H1 => post v ∧ H1 = H0) a9) (fun _ => False))
    (kk : ∀ (v : Option Value), post v → W p l e R s m args below meth c H locs cells slots Q (F0 m (pc + 3) ls (v.toList ++ rest))) : W p l e R s m args below meth c H locs cells slots Q (F0 m pc ls st0) := by
  intro T hT X
  obtain ⟨v, st₀, t, T', L, h0, X', hL, e1, e2, ⟨v', hv, hq, hh⟩, st⟩ := hr T hT X
  cases hv
  have hL0 : L = [] := by
    cases L with
    | nil => rfl
    | cons a L => exact (hL a List.mem_cons_self).elim
  subst hL0
  rw [List.append_nil] at X'
  obtain ⟨t2, a1, b1⟩ := kk v hq T' (by rw [e1, hh, h0]) X'
  exact ⟨t2, st t2 a1, b1⟩
/-- behind a call that returns or throws -/
theorem cx_ret {post : Option Value → Heap → Heap → Prop} {px : String → Heap → Heap → Prop} {a9 : Array Value} (hr : vx_Run p l e R s m args below meth c H locs cells slots mc ms (F0 m pc ls st0) rest (stQ post a9) (stX px) A1) (hS : va_S A0 H0 H locs) (hA : ∀ q, A1 q → A0 q) (hfr : ∀ v H1, post v H H1 → fr A1 H H1) (hfx : ∀ E H1, px E H H1 → fr A1 H H1)
    (kx : ∀ (E : String) (ce : Cell) (q : Addr) (H1 : Heap) (locs1 : List Loc), px E H H1 → va_S A0 H0 H1 locs1 → H1[q]? = some ce → ce.vm = .none → s.vm.findClass E = some ce.cls → vx_W p l e R s m args below meth c H1 locs1 (cells + mc) (slots + ms) Q (F0 m pc ls rest) q)
    (kk : ∀ (v : Option Value) (H1 : Heap) (locs1 : List Loc), post v H H1 → va_S A0 H0 H1 locs1 → W p l e R s m args below meth c H1 locs1 (cells + mc) (slots + ms) Q (F0 m (pc + 3) ls (v.toList ++ rest))) : W p l e R s m args below meth c H locs cells slots Q (F0 m pc ls st0) := by
  intro T hT X
  rcases hr T hT X with ⟨v, st₀, t, T', L, h0, X', hL, e1, e2, ⟨v', hv, hq⟩, st⟩ | ⟨q, st₀, t, T', L, E, ce, h0, X', hL, e1, e2, hq, hce, hcv, hcl, st⟩
  · cases hv
    rw [h0] at hq
    obtain ⟨t2, a1, b1⟩ := kk v t.heap (locs ++ L) hq (hS.step (hfr _ _ hq) hL hA) T' e1 X'
    exact ⟨t2, st t2 a1, b1⟩
  · have hq' : px E st₀.heap t.heap := hq
    rw [h0] at hq'
    obtain ⟨t2, a1, b1⟩ := kx E ce q t.heap (locs ++ L) hq' (hS.step (hfx _ _ hq') hL hA) hce hcv hcl T' e1 X'
    exact ⟨t2, st.trans a1, b1⟩
/-- the words of a call -/
theorem ct_cb {own : String} {index : Nat} {y : MethodName} {b : ByteArray} {maxL : Nat} {ret : Option FieldType} {rm : Room} (n : Nat) (ht : ∀ w ∈ lw_ok, w.before args s = true) (hcode : Cond.code y b maxL ret ∈ lw_ok) (hl : Cond.methodLink own index y ∈ lw_ok) (hini : Cond.initialized y.cls ∈ lw_ok) (hrc : rm.cells = mc) (hrs : rm.slots = ms)
    (hd : y.cls ≠ "java/lang/invoke/MethodHandle" ∧ y.cls ≠ "java/lang/invoke/VarHandle" ∧ (parseMethodDescriptor y.desc).map (fun d => d.parameters.length) = some n) (hR : rm.frames + 1 ≤ R.frames ∧ 8 + (maxL + 11) + rm.locals ≤ R.locals) : CallB R s args own index y b maxL ret (wsA y b maxL ret) rm mc ms n :=
  callB_of n ht (gd_ws hcode) rfl hrc hrs (ht _ hini) (ht _ hl) hd hR
end CTB
end
section
/-! WORLDS: a level's three cells; rooms by depth. -/
section WLD
abbrev tyL (cI cJ cS cO : ClassId) : List (ClassId × FieldType) := [(cI, .int), (cJ, .long), (cS, .short), (cO, .object "LevelRows$Level")]
abbrev rmK (k mc ms : Nat) : Room := { frames := k, cells := mc, slots := ms, locals := 40 * k }
abbrev Lw (cJ cS : ClassId) (a0 a1 a2 : Nat) (ja : Nat → Int64) (oa : Nat → Int32) (z : Int32) : va_W := [(a0, .inr (0, [.ref a1, .ref a2, .int z])), (a1, .inl (cJ, 16, .inr (.inl ja))), (a2, .inl (cS, 16, .inl oa))]
theorem uN64_lN {n : Nat} (h : n < 2 ^ 64) : uN64 (lN n) = n := wb_tn h
theorem uN64_of (x : Int64) : x = lN (uN64 x) ∧ uN64 x < 2 ^ 64 := ⟨wb_inj (by rw [wb_tb]; simp [uN64]), x.toBitVec.isLt⟩
theorem ush64 (x : Int64) {k : Nat} (hk : k < 64) : (x.toUInt64 >>> ((nI k).toInt64.toUInt64 &&& Int64.toUInt64 63)).toInt64 = lN (uN64 x / 2 ^ k) := by
  obtain ⟨h1, h2⟩ := uN64_of x
  conv => lhs; rw [h1]
  exact wb_shr h2 hk
theorem shl64 (x : Int64) {k : Nat} (hk : k < 64) : x <<< ((nI k).toInt64 &&& 63) = lN (uN64 x * 2 ^ k) := by
  obtain ⟨h1, h2⟩ := uN64_of x
  conv => lhs; rw [h1]
  exact wb_shl _ hk
theorem LvOk.sum {t : Nat → Bool} {L : List Nat} {ja : Nat → Int64} {oa : Nat → Int32} {z : Int32} (h : LvOk t L ja oa z) {i : Nat} (h0 : i < L.length) : oa (i / 64) + nI (pcl (uN64 (ja (i / 64)) * 2 ^ (63 - i % 64) % 2 ^ 64) 64) = nI (z1 t L (i + 1)) := by
  obtain ⟨h1, h2⟩ := h.ones h0
  have h3 := pcl_shl (uN64 (ja (i / 64))) (63 - i % 64) (i % 64 + 1)
  rw [show 63 - i % 64 + (i % 64 + 1) = 64 by omega] at h3
  rw [h1, h2, pcl_mod, h3, nI_add]
/-- one cell of a world was written by a callee -/
theorem va_P.wset {D : va_G} {cl : List vw_C} {A : Nat → Prop} {p : Nat} {ws : va_W} {a : Nat} {e0 e : va_E} {H H1 : Heap} (h : va_P D cl ws H) (hD : va_D A ws) (hp : ws[p]? = some (a, e0)) (he : va_P D cl [(a, e)] H1) (hf : fr (fun q => q = a) H H1) : va_P D cl (ws.set p (a, e)) H1 := by
  have hl := (List.getElem?_eq_some_iff.mp hp).1
  intro k q hk
  by_cases hkp : k = p
  · subst hkp
    rw [List.getElem?_set_self hl] at hk
    cases hk
    exact he 0 _ rfl
  · rw [List.getElem?_set_ne (Ne.symm hkp)] at hk
    exact (h k q hk).kept (hf.2 q.1 (h k q hk).lt (fun z => hkp (hD.1 k p q (a, e0) hk hp z)))
/-- cells that nobody writes -/
theorem va_P.rd {D : va_G} {cl : List vw_C} {A : Nat → Prop} {ws : va_W} {H0 H : Heap} {locs : List Loc} (h : va_P D cl ws H0) (hS : va_S A H0 H locs) (hd : ∀ (k : Nat) (q : Nat × va_E), ws[k]? = some q → ¬ A q.1) : va_P D cl ws H := fun k q hk => (h k q hk).kept (hS.2.1 q.1 (h k q hk).lt (hd k q hk))
theorem va_D.one {A : Nat → Prop} {a : Nat} {e : va_E} (h : A a) : va_D A [(a, e)] := by
  refine ⟨fun i j p q hi hj _ => ?_, fun k q hk => ?_⟩
  · have h1 := (List.getElem?_eq_some_iff.mp hi).1
    have h2 := (List.getElem?_eq_some_iff.mp hj).1
    simp only [List.length_cons, List.length_nil] at h1 h2
    omega
  · have h1 := (List.getElem?_eq_some_iff.mp hk).1
    simp only [List.length_cons, List.length_nil] at h1
    have h2 : k = 0 := by omega
    subst h2
    cases hk
    exact h
theorem Lw.off {cJ cS : ClassId} {a0 a1 a2 b : Nat} {ja : Nat → Int64} {oa : Nat → Int32} {z : Int32} (h0 : a0 ≠ b) (h1 : a1 ≠ b) (h2 : a2 ≠ b) (k : Nat) (q : Nat × va_E) (hk : (Lw cJ cS a0 a1 a2 ja oa z)[k]? = some q) : ¬ q.1 = b := by
  match k, hk with
  | 0, hk => cases hk; exact h0
  | 1, hk => cases hk; exact h1
  | 2, hk => cases hk; exact h2
  | k + 3, hk => simp at hk
def bn (b : Bool) : Nat := if b then 1 else 0
end WLD
section WLP
abbrev Pw (ap : Nat) (f t zf zt nf nt : Int32) : va_W := [(ap, .inr (1, [.int f, .int t, .int zf, .int zt, .int nf, .int nt]))]
theorem fr.trans {A B : Nat → Prop} {H0 H1 H2 : Heap} (h : fr A H0 H1) (h' : fr B H1 H2) (hB : ∀ q, B q → A q) : fr A H0 H2 :=
  ⟨Nat.le_trans h.1 h'.1, fun q hq hn => by rw [h'.2 q (Nat.lt_of_lt_of_le hq h.1) (fun z => hn (hB q z))]; exact h.2 q hq hn⟩
theorem va_P.fr {D : va_G} {cl : List vw_C} {A : Nat → Prop} {ws : va_W} {H0 H : Heap} (h : va_P D cl ws H0) (hS : fr A H0 H) (hd : ∀ (k : Nat) (q : Nat × va_E), ws[k]? = some q → ¬ A q.1) : va_P D cl ws H := fun k q hk => (h k q hk).kept (hS.2 q.1 (h k q hk).lt (hd k q hk))
end WLP
end
section
/-! LEAVES: Long.bitCount, Level.bitAt. -/
set_option maxHeartbeats 4000000 in
set_option maxRecDepth 100000 in
theorem m_J_bitCount {l : Launch} {D : va_G} {cI cJ cS cO : ClassId} {B0 : Nat} (u : Nat) (hu : u < 2 ^ 64) : CM l D (tyL cI cJ cS cO) B0 y_J_bitCount c_J_bitCount 2 (some .int) (rmK 0 0 0) [.long (lN u)] (fun _ => True) (fun v H0 H1 => v = some (.int (nI (pcl u 64))) ∧ H1 = H0) 0 0 (fun _ => False) := by
  refine cm_of (by decide) (Nat.le_of_ble_eq_true rfl) ?_
  intro p e s m below meth c ls hx hb hr hml hown hts hlocks hnm hE hpre hl
  have hown : s.vm.findClass "java/lang/Long" = some m.cls := hown
  have hK := hE.1
  have hl : lv_has ls 2 [(0, .long (lN u))] := hl
  obtain ⟨y1, e1⟩ : ∃ y, y = u - (u / 2 &&& 6148914691236517205) := ⟨_, rfl⟩
  obtain ⟨y2, e2⟩ : ∃ y, y = (y1 &&& 3689348814741910323) + (y1 / 4 &&& 3689348814741910323) := ⟨_, rfl⟩
  obtain ⟨y3, e3⟩ : ∃ y, y = (y2 + y2 / 16) &&& 1085102592571150095 := ⟨_, rfl⟩
  obtain ⟨z1, f1⟩ : ∃ y, y = y3 + y3 / 256 := ⟨_, rfl⟩
  obtain ⟨z2, f2⟩ : ∃ y, y = z1 + z1 / 65536 := ⟨_, rfl⟩
  obtain ⟨z3, f3⟩ : ∃ y, y = z2 + z2 / 4294967296 := ⟨_, rfl⟩
  obtain ⟨g1, g2, g3, g4, g5, g6, g7, g8, g9⟩ := bc_math hu e1 e2 e3 f1 f2 f3
  refine lv_lload_n hx hb d_J_bitCount_0 rfl (lv_at hl 0 rfl) ?_
  refine lv_lload_n hx hb d_J_bitCount_1 rfl (lv_at hl 0 rfl) ?_
  refine lv_iconst (v := 1) hx hb d_J_bitCount_2 (by decide) ?_
  refine lv_lushr hx hb d_J_bitCount_3 rfl ?_
  refine ct_topl (x' := lN (u / 2)) (wb_shr (k := 1) hu (by decide)) ?_
  refine lv_ldc2 (v := 6148914691236517205) hx hb hown (hts _ x_140) d_J_bitCount_4 ?_
  refine lv_land hx hb d_J_bitCount_7 ?_
  refine ct_topl (x' := lN (u / 2 &&& 6148914691236517205)) (wb_and (b := 6148914691236517205) (Nat.lt_of_le_of_lt (Nat.div_le_self _ _) hu) (by decide)) ?_
  refine lv_lsub hx hb d_J_bitCount_8 ?_
  refine ct_topl (x' := lN y1) (by rw [lN_sub g1, e1]) ?_
  refine lv_lstore_n (lv' := [(0, .long (lN y1))]) hx hb d_J_bitCount_9 rfl hl (by decide) rfl (fun ls hl => ?_)
  refine lv_lload_n hx hb d_J_bitCount_10 rfl (lv_at hl 0 rfl) ?_
  refine lv_ldc2 (v := 3689348814741910323) hx hb hown (hts _ x_141) d_J_bitCount_11 ?_
  refine lv_land hx hb d_J_bitCount_14 ?_
  refine ct_topl (x' := lN (y1 &&& 3689348814741910323)) (wb_and (b := 3689348814741910323) g2 (by decide)) ?_
  refine lv_lload_n hx hb d_J_bitCount_15 rfl (lv_at hl 0 rfl) ?_
  refine lv_iconst (v := 2) hx hb d_J_bitCount_16 (by decide) ?_
  refine lv_lushr hx hb d_J_bitCount_17 rfl ?_
  refine ct_topl (x' := lN (y1 / 4)) (wb_shr (k := 2) g2 (by decide)) ?_
  refine lv_ldc2 (v := 3689348814741910323) hx hb hown (hts _ x_141) d_J_bitCount_18 ?_
  refine lv_land hx hb d_J_bitCount_21 ?_
  refine ct_topl (x' := lN (y1 / 4 &&& 3689348814741910323)) (wb_and (b := 3689348814741910323) (Nat.lt_of_le_of_lt (Nat.div_le_self _ _) g2) (by decide)) ?_
  refine lv_ladd hx hb d_J_bitCount_22 ?_
  refine ct_topl (x' := lN y2) (by rw [lN_add, e2]) ?_
  refine lv_lstore_n (lv' := [(0, .long (lN y2))]) hx hb d_J_bitCount_23 rfl hl (by decide) rfl (fun ls hl => ?_)
  refine lv_lload_n hx hb d_J_bitCount_24 rfl (lv_at hl 0 rfl) ?_
  refine lv_lload_n hx hb d_J_bitCount_25 rfl (lv_at hl 0 rfl) ?_
  refine lv_iconst (v := 4) hx hb d_J_bitCount_26 (by decide) ?_
  refine lv_lushr hx hb d_J_bitCount_27 rfl ?_
  refine ct_topl (x' := lN (y2 / 16)) (wb_shr (k := 4) (by omega) (by decide)) ?_
  refine lv_ladd hx hb d_J_bitCount_28 ?_
  refine ct_topl (x' := lN (y2 + y2 / 16)) (lN_add _ _) ?_
  refine lv_ldc2 (v := 1085102592571150095) hx hb hown (hts _ x_142) d_J_bitCount_29 ?_
  refine lv_land hx hb d_J_bitCount_32 ?_
  refine ct_topl (x' := lN y3) (by rw [e3]; exact wb_and (b := 1085102592571150095) g4 (by decide)) ?_
  refine lv_lstore_n (lv' := [(0, .long (lN y3))]) hx hb d_J_bitCount_33 rfl hl (by decide) rfl (fun ls hl => ?_)
  refine lv_lload_n hx hb d_J_bitCount_34 rfl (lv_at hl 0 rfl) ?_
  refine lv_lload_n hx hb d_J_bitCount_35 rfl (lv_at hl 0 rfl) ?_
  refine lv_bipush (v := 8) hx hb d_J_bitCount_36 (by decide) ?_
  refine lv_lushr hx hb d_J_bitCount_38 rfl ?_
  refine ct_topl (x' := lN (y3 / 256)) (wb_shr (k := 8) g5 (by decide)) ?_
  refine lv_ladd hx hb d_J_bitCount_39 ?_
  refine ct_topl (x' := lN z1) (by rw [lN_add, f1]) ?_
  refine lv_lstore_n (lv' := [(0, .long (lN z1))]) hx hb d_J_bitCount_40 rfl hl (by decide) rfl (fun ls hl => ?_)
  refine lv_lload_n hx hb d_J_bitCount_41 rfl (lv_at hl 0 rfl) ?_
  refine lv_lload_n hx hb d_J_bitCount_42 rfl (lv_at hl 0 rfl) ?_
  refine lv_bipush (v := 16) hx hb d_J_bitCount_43 (by decide) ?_
  refine lv_lushr hx hb d_J_bitCount_45 rfl ?_
  refine ct_topl (x' := lN (z1 / 65536)) (wb_shr (k := 16) (by omega) (by decide)) ?_
  refine lv_ladd hx hb d_J_bitCount_46 ?_
  refine ct_topl (x' := lN z2) (by rw [lN_add, f2]) ?_
  refine lv_lstore_n (lv' := [(0, .long (lN z2))]) hx hb d_J_bitCount_47 rfl hl (by decide) rfl (fun ls hl => ?_)
  refine lv_lload_n hx hb d_J_bitCount_48 rfl (lv_at hl 0 rfl) ?_
  refine lv_lload_n hx hb d_J_bitCount_49 rfl (lv_at hl 0 rfl) ?_
  refine lv_bipush (v := 32) hx hb d_J_bitCount_50 (by decide) ?_
  refine lv_lushr hx hb d_J_bitCount_52 rfl ?_
  refine ct_topl (x' := lN (z2 / 4294967296)) (wb_shr (k := 32) (by omega) (by decide)) ?_
  refine lv_ladd hx hb d_J_bitCount_53 ?_
  refine ct_topl (x' := lN z3) (by rw [lN_add, f3]) ?_
  refine lv_lstore_n (lv' := [(0, .long (lN z3))]) hx hb d_J_bitCount_54 rfl hl (by decide) rfl (fun ls hl => ?_)
  refine lv_lload_n hx hb d_J_bitCount_55 rfl (lv_at hl 0 rfl) ?_
  refine lv_l2i hx hb d_J_bitCount_56 rfl ?_
  refine ct_topi (x' := nI z3) (lN_i z3) ?_
  refine lv_bipush (v := 127) hx hb d_J_bitCount_57 (by decide) ?_
  refine lv_iand hx hb d_J_bitCount_59 ?_
  refine ct_topi (x' := nI (pcl u 64)) (by rw [← g9, show (127 : Int32) = nI 127 from rfl, nx_and, show z3 &&& 127 = z3 % 128 from Nat.and_two_pow_sub_one_eq_mod _ 7]) ?_
  exact W.iret (v := nI (pcl u 64)) hx hb hr (fun t ht hW => ⟨_, rfl, rfl, ht⟩) (fun _ h => nomatch h) d_J_bitCount_60
set_option maxHeartbeats 4000000 in
set_option maxRecDepth 100000 in
theorem m_L_bitAt {l : Launch} {D : va_G} {cI cJ cS cO : ClassId} {B0 : Nat} {a0 a1 a2 : Nat} {ja : Nat → Int64} {oa : Nat → Int32} {z : Int32} (i : Nat) (hi : i < 1000) : CM l D (tyL cI cJ cS cO) B0 y_L_bitAt c_L_bitAt 2 (some .int) (rmK 0 0 0) [.ref a0, .int (nI i)] (fun H => va_P D vwCl (Lw cJ cS a0 a1 a2 ja oa z) H) (fun v H0 H1 => v = some (.int (nI (uN64 (ja (i / 64)) / 2 ^ (i % 64) % 2))) ∧ H1 = H0) 0 0 (fun _ => False) := by
  refine cm_of (by decide) (Nat.le_of_ble_eq_true rfl) ?_
  intro p e s m below meth c ls hx hb hr hml hown hts hlocks hnm hE hpre hl
  have hown : s.vm.findClass "LevelRows$Level" = some m.cls := hown
  have hK := hE.1
  have hP : va_P D vwCl [(a0, .inr (0, [.ref a1, .ref a2, .int z])), (a1, .inl (cJ, 16, .inr (.inl (ja)))), (a2, .inl (cS, 16, .inl (oa)))] s.heap := hpre
  have hl : lv_has ls 2 [(0, .ref a0), (1, .int (nI i))] := hl
  refine lv_aload_n hx hb d_L_bitAt_0 rfl (lv_at hl 0 rfl) ?_
  refine va_get (D := D) (ci := 0) (v := .ref a1) (C := n_L) (T := f_L) (N := 3) hx hb hts in_L hown hK hP 0 rfl rfl 0 (by decide) (hts _ x_69) (fun _ h9 => h9) rfl d_L_bitAt_1 ?_
  refine lv_iload_n hx hb d_L_bitAt_4 rfl (lv_at hl 1 rfl) ?_
  refine lv_bipush (v := 6) hx hb d_L_bitAt_5 (by decide) ?_
  refine lv_ishr hx hb d_L_bitAt_7 ?_
  refine ct_topi (x' := nI (i / 64)) (pk_shrN (by omega) _ 6 (by decide)) ?_
  refine va_lald hx hb hK hP 1 1 rfl rfl (vp_in_nI (by omega) (by decide)) d_L_bitAt_8 ?_
  refine ct_topl (x' := ja (i / 64)) (by rw [nI_clamp (by omega)]) ?_
  refine lv_iload_n hx hb d_L_bitAt_9 rfl (lv_at hl 1 rfl) ?_
  refine lv_bipush (v := 64) hx hb d_L_bitAt_10 (by decide) ?_
  refine lv_irem hx hb d_L_bitAt_12 (by decide) ?_
  refine ct_topi (x' := nI (i % 64)) (pk_rem (d := 64) (by omega) (by decide) (by decide)) ?_
  refine lv_lushr hx hb d_L_bitAt_13 rfl ?_
  refine ct_topl (x' := lN (uN64 (ja (i / 64)) / 2 ^ (i % 64))) (ush64 _ (by omega)) ?_
  refine lv_l2i hx hb d_L_bitAt_14 rfl ?_
  refine ct_topi (x' := nI (uN64 (ja (i / 64)) / 2 ^ (i % 64))) (lN_i _) ?_
  refine lv_iconst (v := 1) hx hb d_L_bitAt_15 (by decide) ?_
  refine lv_iand hx hb d_L_bitAt_16 ?_
  refine ct_topi (x' := nI (uN64 (ja (i / 64)) / 2 ^ (i % 64) % 2)) (by rw [show (1 : Int32) = nI 1 from rfl, nx_and, Nat.and_one_is_mod]) ?_
  exact W.iret (v := nI (uN64 (ja (i / 64)) / 2 ^ (i % 64) % 2)) hx hb hr (fun t ht hW => ⟨_, rfl, rfl, ht⟩) (fun _ h => nomatch h) d_L_bitAt_17
end
section
/-! LEVEL: onesTo, zerosTo, placeBelow. -/
set_option maxHeartbeats 4000000 in
set_option maxRecDepth 100000 in
theorem m_L_onesTo {l : Launch} {D : va_G} {cI cJ cS cO : ClassId} {B0 : Nat} {a0 a1 a2 : Nat} {ja : Nat → Int64} {oa : Nat → Int32} {z : Int32} {t : Nat → Bool} {L : List Nat} (ok : LvOk t L ja oa z) (hL : L.length ≤ 1000) (i : Nat) (hi : i ≤ L.length) : CM l D (tyL cI cJ cS cO) B0 y_L_onesTo c_L_onesTo 6 (some .int) (rmK 1 0 0) [.ref a0, .int (nI i)] (fun H => va_P D vwCl (Lw cJ cS a0 a1 a2 ja oa z) H) (fun v H0 H1 => v = some (.int (nI (z1 t L i))) ∧ H1 = H0) 0 0 (fun _ => False) := by
  refine cm_of (by decide) (Nat.le_of_ble_eq_true rfl) ?_
  intro p e s m below meth c ls hx hb hr hml hown hts hlocks hnm hE hpre hl
  have hown : s.vm.findClass "LevelRows$Level" = some m.cls := hown
  have hK := hE.1
  have hP : va_P D vwCl [(a0, .inr (0, [.ref a1, .ref a2, .int z])), (a1, .inl (cJ, 16, .inr (.inl (ja)))), (a2, .inl (cS, 16, .inl (oa)))] s.heap := hpre
  have hl : lv_has ls 6 [(0, .ref a0), (1, .int (nI i))] := hl
  have hS : va_S (fun _ => False) s.heap s.heap [] := va_S.rf
  have hAB : ∀ q : Nat, (fun _ : Nat => False) q → B0 ≤ q := fun _ h => h.elim
  refine lv_iload_n hx hb d_L_onesTo_0 rfl (lv_at hl 1 rfl) ?_
  rcases Nat.eq_zero_or_pos i with h0 | h0
  · subst h0
    refine lv_if_gt (tgt := 6) hx hb d_L_onesTo_1 (by decide) (fun c9 => absurd c9 (by rw [nI_0]; decide)) (fun _ => ?_)
    refine lv_iconst (v := 0) hx hb d_L_onesTo_4 (by decide) ?_
    exact W.iret (v := 0) hx hb hr (fun t ht hW => ⟨_, rfl, rfl, ht⟩) (fun _ h => nomatch h) d_L_onesTo_5
  · obtain ⟨i, rfl⟩ : ∃ j, i = j + 1 := ⟨i - 1, by omega⟩
    refine lv_if_gt (tgt := 6) hx hb d_L_onesTo_1 (by decide) (fun _ => ?_) (fun c9 => absurd (by rw [← nI_0]; exact nI_lt (by omega) (by omega)) c9)
    refine lv_iload_n hx hb d_L_onesTo_6 rfl (lv_at hl 1 rfl) ?_
    refine lv_iconst (v := 1) hx hb d_L_onesTo_7 (by decide) ?_
    refine lv_isub hx hb d_L_onesTo_8 ?_
    refine ct_topi (x' := nI i) (nI_pred i) ?_
    refine lv_istore_n (lv' := [(2, .int (nI i)), (0, .ref a0), (1, .int (nI (i + 1)))]) hx hb d_L_onesTo_9 rfl hl (by decide) rfl (fun ls hl => ?_)
    refine lv_iload_n hx hb d_L_onesTo_10 rfl (lv_at hl 0 rfl) ?_
    refine lv_bipush (v := 6) hx hb d_L_onesTo_11 (by decide) ?_
    refine lv_ishr hx hb d_L_onesTo_13 ?_
    refine ct_topi (x' := nI (i / 64)) (pk_shrN (by omega) _ 6 (by decide)) ?_
    refine lv_istore_n (lv' := [(3, .int (nI (i / 64))), (2, .int (nI i)), (0, .ref a0), (1, .int (nI (i + 1)))]) hx hb d_L_onesTo_14 rfl hl (by decide) rfl (fun ls hl => ?_)
    refine lv_aload_n hx hb d_L_onesTo_15 rfl (lv_at hl 2 rfl) ?_
    refine va_get (D := D) (ci := 0) (v := .ref a1) (C := n_L) (T := f_L) (N := 3) hx hb hts in_L hown hK hP 0 rfl rfl 0 (by decide) (hts _ x_69) (fun _ h9 => h9) rfl d_L_onesTo_16 ?_
    refine lv_iload_n hx hb d_L_onesTo_19 rfl (lv_at hl 0 rfl) ?_
    refine va_lald hx hb hK hP 1 1 rfl rfl (vp_in_nI (by omega) (by decide)) d_L_onesTo_20 ?_
    refine ct_topl (x' := ja (i / 64)) (by rw [nI_clamp (by omega)]) ?_
    refine lv_bipush (v := 63) hx hb d_L_onesTo_21 (by decide) ?_
    refine lv_iload_n hx hb d_L_onesTo_23 rfl (lv_at hl 1 rfl) ?_
    refine lv_bipush (v := 64) hx hb d_L_onesTo_24 (by decide) ?_
    refine lv_irem hx hb d_L_onesTo_26 (by decide) ?_
    refine ct_topi (x' := nI (i % 64)) (pk_rem (d := 64) (by omega) (by decide) (by decide)) ?_
    refine lv_isub hx hb d_L_onesTo_27 ?_
    refine ct_topi (x' := nI (63 - i % 64)) (pk_sub (a := 63) (by omega)) ?_
    refine lv_lshl hx hb d_L_onesTo_28 rfl ?_
    refine ct_topl (x' := lN (uN64 (ja (i / 64)) * 2 ^ (63 - i % 64) % 2 ^ 64)) ((shl64 _ (by omega)).trans (wb_mod _)) ?_
    refine lv_lstore (lv' := [(4, .long (lN (uN64 (ja (i / 64)) * 2 ^ (63 - i % 64) % 2 ^ 64))), (3, .int (nI (i / 64))), (2, .int (nI i)), (0, .ref a0), (1, .int (nI (i + 1)))]) hx hb d_L_onesTo_29 hl (by decide) rfl (fun ls hl => ?_)
    refine lv_aload_n hx hb d_L_onesTo_31 rfl (lv_at hl 3 rfl) ?_
    refine va_get (D := D) (ci := 0) (v := .ref a2) (C := n_L) (T := f_L) (N := 3) hx hb hts in_L hown hK hP 0 rfl rfl 1 (by decide) (hts _ x_70) (fun _ h9 => h9) rfl d_L_onesTo_32 ?_
    refine lv_iload_n hx hb d_L_onesTo_35 rfl (lv_at hl 1 rfl) ?_
    refine va_sald hx hb hK hP 2 2 rfl rfl (vp_in_nI (by omega) (by decide)) d_L_onesTo_36 ?_
    refine ct_topi (x' := oa (i / 64)) (by rw [nI_clamp (by omega)]) ?_
    refine lv_lload hx hb d_L_onesTo_37 (lv_at hl 0 rfl) ?_
    refine cm_read (va_runS (As := [.long (lN (uN64 (ja (i / 64)) * 2 ^ (63 - i % 64) % 2 ^ 64))]) (rest := [.int (oa (i / 64))]) ⟨hx, hb, hml, hown, hts⟩ (m_J_bitCount _ (Nat.mod_lt _ (by decide))) ⟨ct_cb 1 hts x_139 x_137 x_13 rfl rfl (by decide +kernel) ⟨by decide, by decide⟩, hts _ x_138⟩ ⟨st_blind, fun U hU hW => ⟨rfl, hE.at hS hAB hU hW, by rw [hU]; exact trivial⟩⟩ rfl rfl hl.1 rfl (lv_room (Nat.le_of_ble_eq_true rfl)) d_L_onesTo_39 ⟨by decide, by decide⟩) (fun v hv => ?_)
    subst hv
    refine W.eq (g2 := F0 m 42 ls [.int (nI (pcl (uN64 (ja (i / 64)) * 2 ^ (63 - i % 64) % 2 ^ 64) 64)), .int (oa (i / 64))]) rfl ?_
    refine lv_iadd hx hb d_L_onesTo_42 ?_
    refine ct_topi (x' := nI (z1 t L (i + 1))) (ok.sum (by omega)) ?_
    exact W.iret (v := nI (z1 t L (i + 1))) hx hb hr (fun t ht hW => ⟨_, rfl, rfl, ht⟩) (fun _ h => nomatch h) d_L_onesTo_43
set_option maxHeartbeats 4000000 in
set_option maxRecDepth 100000 in
theorem m_L_zerosTo {l : Launch} {D : va_G} {cI cJ cS cO : ClassId} {B0 : Nat} {a0 a1 a2 : Nat} {ja : Nat → Int64} {oa : Nat → Int32} {z : Int32} {t : Nat → Bool} {L : List Nat} (ok : LvOk t L ja oa z) (hL : L.length ≤ 1000) (i : Nat) (hi : i ≤ L.length) : CM l D (tyL cI cJ cS cO) B0 y_L_zerosTo c_L_zerosTo 2 (some .int) (rmK 2 0 0) [.ref a0, .int (nI i)] (fun H => va_P D vwCl (Lw cJ cS a0 a1 a2 ja oa z) H) (fun v H0 H1 => v = some (.int (nI (z0 t L i))) ∧ H1 = H0) 0 0 (fun _ => False) := by
  refine cm_of (by decide) (Nat.le_of_ble_eq_true rfl) ?_
  intro p e s m below meth c ls hx hb hr hml hown hts hlocks hnm hE hpre hl
  have hown : s.vm.findClass "LevelRows$Level" = some m.cls := hown
  have hK := hE.1
  have hP : va_P D vwCl [(a0, .inr (0, [.ref a1, .ref a2, .int z])), (a1, .inl (cJ, 16, .inr (.inl (ja)))), (a2, .inl (cS, 16, .inl (oa)))] s.heap := hpre
  have hl : lv_has ls 2 [(0, .ref a0), (1, .int (nI i))] := hl
  have hS : va_S (fun _ => False) s.heap s.heap [] := va_S.rf
  have hAB : ∀ q : Nat, (fun _ : Nat => False) q → B0 ≤ q := fun _ h => h.elim
  refine lv_iload_n hx hb d_L_zerosTo_0 rfl (lv_at hl 1 rfl) ?_
  refine lv_aload_n hx hb d_L_zerosTo_1 rfl (lv_at hl 0 rfl) ?_
  refine lv_iload_n hx hb d_L_zerosTo_2 rfl (lv_at hl 1 rfl) ?_
  refine cm_read (va_runV (As := [.int (nI i)]) (rest := [.int (nI i)]) ⟨hx, hb, hml, hown, hts⟩ (m_L_onesTo ok hL i hi) ⟨ct_cb 1 hts x_136 x_133 x_5 rfl rfl (by decide +kernel) ⟨by decide, by decide⟩, hts _ x_135, hts _ s_L_onesTo⟩ ⟨st_blind, va_recv hK hP (ci := 0) (q0 := 0) rfl rfl, fun U hU hW => ⟨rfl, hE.at hS hAB hU hW, by rw [hU]; exact hpre⟩⟩ rfl rfl hl.1 rfl (lv_room (Nat.le_of_ble_eq_true rfl)) d_L_zerosTo_3 ⟨by decide, by decide⟩) (fun v hv => ?_)
  subst hv
  refine W.eq (g2 := F0 m 6 ls [.int (nI (z1 t L i)), .int (nI i)]) rfl ?_
  refine lv_isub hx hb d_L_zerosTo_6 ?_
  refine ct_topi (x' := nI (z0 t L i)) (by rw [pk_sub (z1_le t L i)]; congr 1; have := z01 t hi; omega) ?_
  exact W.iret (v := nI (z0 t L i)) hx hb hr (fun t ht hW => ⟨_, rfl, rfl, ht⟩) (fun _ h => nomatch h) d_L_zerosTo_7
set_option maxHeartbeats 4000000 in
set_option maxRecDepth 100000 in
theorem m_L_placeBelow {l : Launch} {D : va_G} {cI cJ cS cO : ClassId} {B0 : Nat} {a0 a1 a2 : Nat} {ja : Nat → Int64} {oa : Nat → Int32} {z : Int32} {t : Nat → Bool} {L : List Nat} (ok : LvOk t L ja oa z) (hL : L.length ≤ 1000) (b : Bool) (i : Nat) (hi : i ≤ L.length) : CM l D (tyL cI cJ cS cO) B0 y_L_placeBelow c_L_placeBelow 3 (some .int) (rmK 3 0 0) [.ref a0, .int (nI (bn b)), .int (nI i)] (fun H => va_P D vwCl (Lw cJ cS a0 a1 a2 ja oa z) H) (fun v H0 H1 => v = some (.int (nI (if b then z0 t L L.length + z1 t L i else z0 t L i))) ∧ H1 = H0) 0 0 (fun _ => False) := by
  refine cm_of (by decide) (Nat.le_of_ble_eq_true rfl) ?_
  intro p e s m below meth c ls hx hb hr hml hown hts hlocks hnm hE hpre hl
  have hown : s.vm.findClass "LevelRows$Level" = some m.cls := hown
  have hK := hE.1
  have hP : va_P D vwCl [(a0, .inr (0, [.ref a1, .ref a2, .int z])), (a1, .inl (cJ, 16, .inr (.inl (ja)))), (a2, .inl (cS, 16, .inl (oa)))] s.heap := hpre
  have hl : lv_has ls 3 [(0, .ref a0), (1, .int (nI (bn b))), (2, .int (nI i))] := hl
  have hS : va_S (fun _ => False) s.heap s.heap [] := va_S.rf
  have hAB : ∀ q : Nat, (fun _ : Nat => False) q → B0 ≤ q := fun _ h => h.elim
  refine lv_iload_n hx hb d_L_placeBelow_0 rfl (lv_at hl 1 rfl) ?_
  cases b with
  | false =>
    refine lv_if_ne (tgt := 12) hx hb d_L_placeBelow_1 (by decide) (fun c9 => absurd (show nI 0 = 0 from nI_0) c9) (fun _ => ?_)
    refine lv_aload_n hx hb d_L_placeBelow_4 rfl (lv_at hl 0 rfl) ?_
    refine lv_iload_n hx hb d_L_placeBelow_5 rfl (lv_at hl 2 rfl) ?_
    refine cm_read (va_runV (As := [.int (nI i)]) (rest := []) ⟨hx, hb, hml, hown, hts⟩ (m_L_zerosTo ok hL i hi) ⟨ct_cb 1 hts x_132 x_129 x_5 rfl rfl (by decide +kernel) ⟨by decide, by decide⟩, hts _ x_130, hts _ x_131⟩ ⟨st_blind, va_recv hK hP (ci := 0) (q0 := 0) rfl rfl, fun U hU hW => ⟨rfl, hE.at hS hAB hU hW, by rw [hU]; exact hpre⟩⟩ rfl rfl hl.1 rfl (lv_room (Nat.le_of_ble_eq_true rfl)) d_L_placeBelow_6 ⟨by decide, by decide⟩) (fun v hv => ?_)
    subst hv
    refine W.eq (g2 := F0 m 9 ls [.int (nI (z0 t L i))]) rfl ?_
    refine lv_goto (tgt := 22) hx hb d_L_placeBelow_9 (by decide) ?_
    exact W.iret (v := nI (z0 t L i)) hx hb hr (fun t ht hW => ⟨_, rfl, rfl, ht⟩) (fun _ h => nomatch h) d_L_placeBelow_22
  | true =>
    refine lv_if_ne (tgt := 12) hx hb d_L_placeBelow_1 (by decide) (fun _ => ?_) (fun c9 => absurd c9 (show ¬ nI 1 = 0 by decide))
    refine lv_aload_n hx hb d_L_placeBelow_12 rfl (lv_at hl 0 rfl) ?_
    refine va_get (D := D) (ci := 0) (v := .int z) (C := n_L) (T := f_L) (N := 3) hx hb hts in_L hown hK hP 0 rfl rfl 2 (by decide) (hts _ x_71) (fun _ h9 => h9) rfl d_L_placeBelow_13 ?_
    refine lv_aload_n hx hb d_L_placeBelow_16 rfl (lv_at hl 0 rfl) ?_
    refine lv_iload_n hx hb d_L_placeBelow_17 rfl (lv_at hl 2 rfl) ?_
    refine cm_read (va_runV (As := [.int (nI i)]) (rest := [.int z]) ⟨hx, hb, hml, hown, hts⟩ (m_L_onesTo ok hL i hi) ⟨ct_cb 1 hts x_136 x_133 x_5 rfl rfl (by decide +kernel) ⟨by decide, by decide⟩, hts _ x_135, hts _ s_L_onesTo⟩ ⟨st_blind, va_recv hK hP (ci := 0) (q0 := 0) rfl rfl, fun U hU hW => ⟨rfl, hE.at hS hAB hU hW, by rw [hU]; exact hpre⟩⟩ rfl rfl hl.1 rfl (lv_room (Nat.le_of_ble_eq_true rfl)) d_L_placeBelow_18 ⟨by decide, by decide⟩) (fun v hv => ?_)
    subst hv
    refine W.eq (g2 := F0 m 21 ls [.int (nI (z1 t L i)), .int z]) rfl ?_
    refine lv_iadd hx hb d_L_placeBelow_21 ?_
    refine ct_topi (x' := nI (z0 t L L.length + z1 t L i)) (by rw [ok.2.2, nI_add]) ?_
    exact W.iret (v := nI (z0 t L L.length + z1 t L i)) hx hb hr (fun t ht hW => ⟨_, rfl, rfl, ht⟩) (fun _ h => nomatch h) d_L_placeBelow_22
end
section
/-! PART: span, length, zeros, enter, split. -/
set_option maxHeartbeats 4000000 in
set_option maxRecDepth 100000 in
theorem m_P_span {l : Launch} {D : va_G} {cI cJ cS cO : ClassId} {B0 : Nat} {ap : Nat} {f0 f1 f2 f3 f4 f5 : Int32} (x y : Int32) : CM l D (tyL cI cJ cS cO) B0 y_P_span c_P_span 3 none (rmK 0 0 0) [.ref ap, .int x, .int y] (fun H => va_P D vwCl (Pw ap f0 f1 f2 f3 f4 f5) H) (fun v H0 H1 => v = none ∧ fr (fun q => q = ap) H0 H1 ∧ va_P D vwCl (Pw ap x y f2 f3 f4 f5) H1) 0 0 (fun q => q = ap) := by
  refine cm_of (by decide) (Nat.le_of_ble_eq_true rfl) ?_
  intro p e s m below meth c ls hx hb hr hml hown hts hlocks hnm hE hpre hl
  have hown : s.vm.findClass "LevelRows$Part" = some m.cls := hown
  have hK := hE.1
  have hl : lv_has ls 3 [(0, .ref ap), (1, .int x), (2, .int y)] := hl
  have hS : va_S (fun q => q = ap) s.heap s.heap [] := va_S.rf
  have hP : va_P D vwCl [(ap, .inr (1, [.int f0, .int f1, .int f2, .int f3, .int f4, .int f5]))] s.heap := hpre
  have hD : va_D (fun q => q = ap) [(ap, .inr (1, [.int f0, .int f1, .int f2, .int f3, .int f4, .int f5]))] := va_D.one rfl
  refine lv_aload_n hx hb d_P_span_0 rfl (lv_at hl 0 rfl) ?_
  refine lv_iload_n hx hb d_P_span_1 rfl (lv_at hl 1 rfl) ?_
  refine va_put (D := D) (ci := 1) (v := .int x) (ty := .int) (C := n_P) (T := f_P) (N := 6) hx hb hts in_P t_P ty_P nm_P hown hK hP hD hS 0 rfl rfl 0 (by decide) (hts _ x_30) (fun _ h9 => h9) rfl (by decide +kernel) rfl rfl (Nat.le_of_ble_eq_true rfl) d_P_span_2 (fun H locs hP hD hS => ?_)
  have hP : va_P D vwCl [(ap, .inr (1, [.int x, .int f1, .int f2, .int f3, .int f4, .int f5]))] H := hP
  have hD : va_D (fun q => q = ap) [(ap, .inr (1, [.int x, .int f1, .int f2, .int f3, .int f4, .int f5]))] := hD
  refine lv_aload_n hx hb d_P_span_5 rfl (lv_at hl 0 rfl) ?_
  refine lv_iload_n hx hb d_P_span_6 rfl (lv_at hl 2 rfl) ?_
  refine va_put (D := D) (ci := 1) (v := .int y) (ty := .int) (C := n_P) (T := f_P) (N := 6) hx hb hts in_P t_P ty_P nm_P hown hK hP hD hS 0 rfl rfl 1 (by decide) (hts _ x_32) (fun _ h9 => h9) rfl (by decide +kernel) rfl rfl (Nat.le_of_ble_eq_true rfl) d_P_span_7 (fun H locs hP hD hS => ?_)
  have hP : va_P D vwCl [(ap, .inr (1, [.int x, .int y, .int f2, .int f3, .int f4, .int f5]))] H := hP
  have hD : va_D (fun q => q = ap) [(ap, .inr (1, [.int x, .int y, .int f2, .int f3, .int f4, .int f5]))] := hD
  exact W.vret hx hb hr (fun t ht hW => ⟨_, rfl, by rw [ht]; exact ⟨rfl, fr.of hS, hP⟩⟩) hS.2.2 d_P_span_10
set_option maxHeartbeats 4000000 in
set_option maxRecDepth 100000 in
theorem m_P_length {l : Launch} {D : va_G} {cI cJ cS cO : ClassId} {B0 : Nat} {ap : Nat} {f0 f1 f2 f3 f4 f5 : Int32} : CM l D (tyL cI cJ cS cO) B0 y_P_length c_P_length 1 (some .int) (rmK 0 0 0) [.ref ap] (fun H => va_P D vwCl (Pw ap f0 f1 f2 f3 f4 f5) H) (fun v H0 H1 => v = some (.int (f1 - f0)) ∧ H1 = H0) 0 0 (fun _ => False) := by
  refine cm_of (by decide) (Nat.le_of_ble_eq_true rfl) ?_
  intro p e s m below meth c ls hx hb hr hml hown hts hlocks hnm hE hpre hl
  have hown : s.vm.findClass "LevelRows$Part" = some m.cls := hown
  have hK := hE.1
  have hl : lv_has ls 1 [(0, .ref ap)] := hl
  have hP : va_P D vwCl [(ap, .inr (1, [.int f0, .int f1, .int f2, .int f3, .int f4, .int f5]))] s.heap := hpre
  refine lv_aload_n hx hb d_P_length_0 rfl (lv_at hl 0 rfl) ?_
  refine va_get (D := D) (ci := 1) (v := .int f1) (C := n_P) (T := f_P) (N := 6) hx hb hts in_P hown hK hP 0 rfl rfl 1 (by decide) (hts _ x_32) (fun _ h9 => h9) rfl d_P_length_1 ?_
  refine lv_aload_n hx hb d_P_length_4 rfl (lv_at hl 0 rfl) ?_
  refine va_get (D := D) (ci := 1) (v := .int f0) (C := n_P) (T := f_P) (N := 6) hx hb hts in_P hown hK hP 0 rfl rfl 0 (by decide) (hts _ x_30) (fun _ h9 => h9) rfl d_P_length_5 ?_
  refine lv_isub hx hb d_P_length_8 ?_
  exact W.iret (v := f1 - f0) hx hb hr (fun t ht hW => ⟨_, rfl, rfl, ht⟩) (fun _ h => nomatch h) d_P_length_9
set_option maxHeartbeats 4000000 in
set_option maxRecDepth 100000 in
theorem m_P_zeros {l : Launch} {D : va_G} {cI cJ cS cO : ClassId} {B0 : Nat} {ap : Nat} {f0 f1 f2 f3 f4 f5 : Int32} : CM l D (tyL cI cJ cS cO) B0 y_P_zeros c_P_zeros 1 (some .int) (rmK 0 0 0) [.ref ap] (fun H => va_P D vwCl (Pw ap f0 f1 f2 f3 f4 f5) H) (fun v H0 H1 => v = some (.int (f3 - f2)) ∧ H1 = H0) 0 0 (fun _ => False) := by
  refine cm_of (by decide) (Nat.le_of_ble_eq_true rfl) ?_
  intro p e s m below meth c ls hx hb hr hml hown hts hlocks hnm hE hpre hl
  have hown : s.vm.findClass "LevelRows$Part" = some m.cls := hown
  have hK := hE.1
  have hl : lv_has ls 1 [(0, .ref ap)] := hl
  have hP : va_P D vwCl [(ap, .inr (1, [.int f0, .int f1, .int f2, .int f3, .int f4, .int f5]))] s.heap := hpre
  refine lv_aload_n hx hb d_P_zeros_0 rfl (lv_at hl 0 rfl) ?_
  refine va_get (D := D) (ci := 1) (v := .int f3) (C := n_P) (T := f_P) (N := 6) hx hb hts in_P hown hK hP 0 rfl rfl 3 (by decide) (hts _ x_34) (fun _ h9 => h9) rfl d_P_zeros_1 ?_
  refine lv_aload_n hx hb d_P_zeros_4 rfl (lv_at hl 0 rfl) ?_
  refine va_get (D := D) (ci := 1) (v := .int f2) (C := n_P) (T := f_P) (N := 6) hx hb hts in_P hown hK hP 0 rfl rfl 2 (by decide) (hts _ x_33) (fun _ h9 => h9) rfl d_P_zeros_5 ?_
  refine lv_isub hx hb d_P_zeros_8 ?_
  exact W.iret (v := f3 - f2) hx hb hr (fun t ht hW => ⟨_, rfl, rfl, ht⟩) (fun _ h => nomatch h) d_P_zeros_9
set_option maxHeartbeats 4000000 in
set_option maxRecDepth 100000 in
theorem m_P_enter0 {l : Launch} {D : va_G} {cI cJ cS cO : ClassId} {B0 : Nat} {ap : Nat} {f0 f1 f2 f3 f4 f5 : Int32} : CM l D (tyL cI cJ cS cO) B0 y_P_enter c_P_enter 2 none (rmK 0 0 0) [.ref ap, .int (nI 0)] (fun H => va_P D vwCl (Pw ap f0 f1 f2 f3 f4 f5) H) (fun v H0 H1 => v = none ∧ fr (fun q => q = ap) H0 H1 ∧ va_P D vwCl (Pw ap f2 f3 f2 f3 f4 f5) H1) 0 0 (fun q => q = ap) := by
  refine cm_of (by decide) (Nat.le_of_ble_eq_true rfl) ?_
  intro p e s m below meth c ls hx hb hr hml hown hts hlocks hnm hE hpre hl
  have hown : s.vm.findClass "LevelRows$Part" = some m.cls := hown
  have hK := hE.1
  have hl : lv_has ls 2 [(0, .ref ap), (1, .int (nI 0))] := hl
  have hS : va_S (fun q => q = ap) s.heap s.heap [] := va_S.rf
  have hP : va_P D vwCl [(ap, .inr (1, [.int f0, .int f1, .int f2, .int f3, .int f4, .int f5]))] s.heap := hpre
  have hD : va_D (fun q => q = ap) [(ap, .inr (1, [.int f0, .int f1, .int f2, .int f3, .int f4, .int f5]))] := va_D.one rfl
  refine lv_aload_n hx hb d_P_enter_0 rfl (lv_at hl 0 rfl) ?_
  refine lv_iload_n hx hb d_P_enter_1 rfl (lv_at hl 1 rfl) ?_
  refine lv_if_ne (tgt := 12) hx hb d_P_enter_2 (by decide) (fun c9 => absurd (show nI 0 = 0 from nI_0) c9) (fun _ => ?_)
  refine lv_aload_n hx hb d_P_enter_5 rfl (lv_at hl 0 rfl) ?_
  refine va_get (D := D) (ci := 1) (v := .int f2) (C := n_P) (T := f_P) (N := 6) hx hb hts in_P hown hK hP 0 rfl rfl 2 (by decide) (hts _ x_33) (fun _ h9 => h9) rfl d_P_enter_6 ?_
  refine lv_goto (tgt := 16) hx hb d_P_enter_9 (by decide) ?_
  refine va_put (D := D) (ci := 1) (v := .int f2) (ty := .int) (C := n_P) (T := f_P) (N := 6) hx hb hts in_P t_P ty_P nm_P hown hK hP hD hS 0 rfl rfl 0 (by decide) (hts _ x_30) (fun _ h9 => h9) rfl (by decide +kernel) rfl rfl (Nat.le_of_ble_eq_true rfl) d_P_enter_16 (fun H locs hP hD hS => ?_)
  have hP : va_P D vwCl [(ap, .inr (1, [.int f2, .int f1, .int f2, .int f3, .int f4, .int f5]))] H := hP
  have hD : va_D (fun q => q = ap) [(ap, .inr (1, [.int f2, .int f1, .int f2, .int f3, .int f4, .int f5]))] := hD
  refine lv_aload_n hx hb d_P_enter_19 rfl (lv_at hl 0 rfl) ?_
  refine lv_iload_n hx hb d_P_enter_20 rfl (lv_at hl 1 rfl) ?_
  refine lv_if_ne (tgt := 31) hx hb d_P_enter_21 (by decide) (fun c9 => absurd (show nI 0 = 0 from nI_0) c9) (fun _ => ?_)
  refine lv_aload_n hx hb d_P_enter_24 rfl (lv_at hl 0 rfl) ?_
  refine va_get (D := D) (ci := 1) (v := .int f3) (C := n_P) (T := f_P) (N := 6) hx hb hts in_P hown hK hP 0 rfl rfl 3 (by decide) (hts _ x_34) (fun _ h9 => h9) rfl d_P_enter_25 ?_
  refine lv_goto (tgt := 35) hx hb d_P_enter_28 (by decide) ?_
  refine va_put (D := D) (ci := 1) (v := .int f3) (ty := .int) (C := n_P) (T := f_P) (N := 6) hx hb hts in_P t_P ty_P nm_P hown hK hP hD hS 0 rfl rfl 1 (by decide) (hts _ x_32) (fun _ h9 => h9) rfl (by decide +kernel) rfl rfl (Nat.le_of_ble_eq_true rfl) d_P_enter_35 (fun H locs hP hD hS => ?_)
  have hP : va_P D vwCl [(ap, .inr (1, [.int f2, .int f3, .int f2, .int f3, .int f4, .int f5]))] H := hP
  have hD : va_D (fun q => q = ap) [(ap, .inr (1, [.int f2, .int f3, .int f2, .int f3, .int f4, .int f5]))] := hD
  exact W.vret hx hb hr (fun t ht hW => ⟨_, rfl, by rw [ht]; exact ⟨rfl, fr.of hS, hP⟩⟩) hS.2.2 d_P_enter_38
set_option maxHeartbeats 4000000 in
set_option maxRecDepth 100000 in
theorem m_P_enter1 {l : Launch} {D : va_G} {cI cJ cS cO : ClassId} {B0 : Nat} {ap : Nat} {f0 f1 f2 f3 f4 f5 : Int32} : CM l D (tyL cI cJ cS cO) B0 y_P_enter c_P_enter 2 none (rmK 0 0 0) [.ref ap, .int (nI 1)] (fun H => va_P D vwCl (Pw ap f0 f1 f2 f3 f4 f5) H) (fun v H0 H1 => v = none ∧ fr (fun q => q = ap) H0 H1 ∧ va_P D vwCl (Pw ap f4 f5 f2 f3 f4 f5) H1) 0 0 (fun q => q = ap) := by
  refine cm_of (by decide) (Nat.le_of_ble_eq_true rfl) ?_
  intro p e s m below meth c ls hx hb hr hml hown hts hlocks hnm hE hpre hl
  have hown : s.vm.findClass "LevelRows$Part" = some m.cls := hown
  have hK := hE.1
  have hl : lv_has ls 2 [(0, .ref ap), (1, .int (nI 1))] := hl
  have hS : va_S (fun q => q = ap) s.heap s.heap [] := va_S.rf
  have hP : va_P D vwCl [(ap, .inr (1, [.int f0, .int f1, .int f2, .int f3, .int f4, .int f5]))] s.heap := hpre
  have hD : va_D (fun q => q = ap) [(ap, .inr (1, [.int f0, .int f1, .int f2, .int f3, .int f4, .int f5]))] := va_D.one rfl
  refine lv_aload_n hx hb d_P_enter_0 rfl (lv_at hl 0 rfl) ?_
  refine lv_iload_n hx hb d_P_enter_1 rfl (lv_at hl 1 rfl) ?_
  refine lv_if_ne (tgt := 12) hx hb d_P_enter_2 (by decide) (fun _ => ?_) (fun c9 => absurd c9 (show ¬ nI 1 = 0 by decide))
  refine lv_aload_n hx hb d_P_enter_12 rfl (lv_at hl 0 rfl) ?_
  refine va_get (D := D) (ci := 1) (v := .int f4) (C := n_P) (T := f_P) (N := 6) hx hb hts in_P hown hK hP 0 rfl rfl 4 (by decide) (hts _ x_35) (fun _ h9 => h9) rfl d_P_enter_13 ?_
  refine va_put (D := D) (ci := 1) (v := .int f4) (ty := .int) (C := n_P) (T := f_P) (N := 6) hx hb hts in_P t_P ty_P nm_P hown hK hP hD hS 0 rfl rfl 0 (by decide) (hts _ x_30) (fun _ h9 => h9) rfl (by decide +kernel) rfl rfl (Nat.le_of_ble_eq_true rfl) d_P_enter_16 (fun H locs hP hD hS => ?_)
  have hP : va_P D vwCl [(ap, .inr (1, [.int f4, .int f1, .int f2, .int f3, .int f4, .int f5]))] H := hP
  have hD : va_D (fun q => q = ap) [(ap, .inr (1, [.int f4, .int f1, .int f2, .int f3, .int f4, .int f5]))] := hD
  refine lv_aload_n hx hb d_P_enter_19 rfl (lv_at hl 0 rfl) ?_
  refine lv_iload_n hx hb d_P_enter_20 rfl (lv_at hl 1 rfl) ?_
  refine lv_if_ne (tgt := 31) hx hb d_P_enter_21 (by decide) (fun _ => ?_) (fun c9 => absurd c9 (show ¬ nI 1 = 0 by decide))
  refine lv_aload_n hx hb d_P_enter_31 rfl (lv_at hl 0 rfl) ?_
  refine va_get (D := D) (ci := 1) (v := .int f5) (C := n_P) (T := f_P) (N := 6) hx hb hts in_P hown hK hP 0 rfl rfl 5 (by decide) (hts _ x_36) (fun _ h9 => h9) rfl d_P_enter_32 ?_
  refine va_put (D := D) (ci := 1) (v := .int f5) (ty := .int) (C := n_P) (T := f_P) (N := 6) hx hb hts in_P t_P ty_P nm_P hown hK hP hD hS 0 rfl rfl 1 (by decide) (hts _ x_32) (fun _ h9 => h9) rfl (by decide +kernel) rfl rfl (Nat.le_of_ble_eq_true rfl) d_P_enter_35 (fun H locs hP hD hS => ?_)
  have hP : va_P D vwCl [(ap, .inr (1, [.int f4, .int f5, .int f2, .int f3, .int f4, .int f5]))] H := hP
  have hD : va_D (fun q => q = ap) [(ap, .inr (1, [.int f4, .int f5, .int f2, .int f3, .int f4, .int f5]))] := hD
  exact W.vret hx hb hr (fun t ht hW => ⟨_, rfl, by rw [ht]; exact ⟨rfl, fr.of hS, hP⟩⟩) hS.2.2 d_P_enter_38
set_option maxHeartbeats 4000000 in
set_option maxRecDepth 100000 in
theorem m_P_split {l : Launch} {D : va_G} {cI cJ cS cO : ClassId} {B0 : Nat} {ap : Nat} {f2 f3 f4 f5 : Int32} {a0 a1 a2 : Nat} {ja : Nat → Int64} {oa : Nat → Int32} {z : Int32} {t : Nat → Bool} {L : List Nat} (ok : LvOk t L ja oa z) (hL : L.length ≤ 1000) (x y : Nat) (hx0 : x ≤ L.length) (hy0 : y ≤ L.length) (hB : B0 ≤ ap) (h0 : a0 ≠ ap) (h1 : a1 ≠ ap) (h2 : a2 ≠ ap) : CM l D (tyL cI cJ cS cO) B0 y_P_split c_P_split 2 none (rmK 3 0 0) [.ref ap, .ref a0] (fun H => va_P D vwCl (Pw ap (nI x) (nI y) f2 f3 f4 f5) H ∧ va_P D vwCl (Lw cJ cS a0 a1 a2 ja oa z) H) (fun v H0 H1 => v = none ∧ fr (fun q => q = ap) H0 H1 ∧ va_P D vwCl (Pw ap (nI x) (nI y) (nI (z0 t L x)) (nI (z0 t L y)) (nI (z0 t L L.length + z1 t L x)) (nI (z0 t L L.length + z1 t L y))) H1) 0 0 (fun q => q = ap) := by
  refine cm_of (by decide) (Nat.le_of_ble_eq_true rfl) ?_
  intro p e s m below meth c ls hx hb hr hml hown hts hlocks hnm hE hpre hl
  have hown : s.vm.findClass "LevelRows$Part" = some m.cls := hown
  have hK := hE.1
  have hl : lv_has ls 2 [(0, .ref ap), (1, .ref a0)] := hl
  have hS : va_S (fun q => q = ap) s.heap s.heap [] := va_S.rf
  have hP : va_P D vwCl [(ap, .inr (1, [.int (nI x), .int (nI y), .int f2, .int f3, .int f4, .int f5]))] s.heap := hpre.1
  have hD : va_D (fun q => q = ap) [(ap, .inr (1, [.int (nI x), .int (nI y), .int f2, .int f3, .int f4, .int f5]))] := va_D.one rfl
  have hL9 := hL
  have hL0 := hpre.2
  have hLd : ∀ (k : Nat) (q : Nat × va_E), (Lw cJ cS a0 a1 a2 ja oa z)[k]? = some q → ¬ q.1 = ap := Lw.off h0 h1 h2
  have hL : va_P D vwCl (Lw cJ cS a0 a1 a2 ja oa z) s.heap := hL0
  have hAB : ∀ q : Nat, q = ap → B0 ≤ q := fun q h => by rw [h]; exact hB
  have hzx := z01 t hx0
  have hzy := z01 t hy0
  refine lv_aload_n hx hb d_P_split_0 rfl (lv_at hl 0 rfl) ?_
  refine lv_aload_n hx hb d_P_split_1 rfl (lv_at hl 1 rfl) ?_
  refine lv_aload_n hx hb d_P_split_2 rfl (lv_at hl 0 rfl) ?_
  refine va_get (D := D) (ci := 1) (v := .int (nI x)) (C := n_P) (T := f_P) (N := 6) hx hb hts in_P hown hK hP 0 rfl rfl 0 (by decide) (hts _ x_30) (fun _ h9 => h9) rfl d_P_split_3 ?_
  refine cm_read (va_runV (As := [.int (nI x)]) (rest := [.ref ap]) ⟨hx, hb, hml, hown, hts⟩ (m_L_zerosTo ok hL9 x hx0) ⟨ct_cb 1 hts x_132 x_322 x_5 rfl rfl (by decide +kernel) ⟨by decide, by decide⟩, hts _ x_130, hts _ x_131⟩ ⟨st_blind, va_recv hK hL (ci := 0) (q0 := 0) rfl rfl, fun U hU hW => ⟨rfl, hE.at hS hAB hU hW, by rw [hU]; exact hL⟩⟩ rfl rfl hl.1 rfl (lv_room (Nat.le_of_ble_eq_true rfl)) d_P_split_6 ⟨by decide, by decide⟩) (fun v hv => ?_)
  subst hv
  refine W.eq (g2 := F0 m 9 ls [.int (nI (z0 t L x)), .ref ap]) rfl ?_
  refine va_put (D := D) (ci := 1) (v := .int (nI (z0 t L x))) (ty := .int) (C := n_P) (T := f_P) (N := 6) hx hb hts in_P t_P ty_P nm_P hown hK hP hD hS 0 rfl rfl 2 (by decide) (hts _ x_33) (fun _ h9 => h9) rfl (by decide +kernel) rfl rfl (Nat.le_of_ble_eq_true rfl) d_P_split_9 (fun H locs hP hD hS => ?_)
  have hP : va_P D vwCl [(ap, .inr (1, [.int (nI x), .int (nI y), .int (nI (z0 t L x)), .int f3, .int f4, .int f5]))] H := hP
  have hD : va_D (fun q => q = ap) [(ap, .inr (1, [.int (nI x), .int (nI y), .int (nI (z0 t L x)), .int f3, .int f4, .int f5]))] := hD
  have hL := hL0.rd hS hLd
  refine lv_aload_n hx hb d_P_split_12 rfl (lv_at hl 0 rfl) ?_
  refine lv_aload_n hx hb d_P_split_13 rfl (lv_at hl 1 rfl) ?_
  refine lv_aload_n hx hb d_P_split_14 rfl (lv_at hl 0 rfl) ?_
  refine va_get (D := D) (ci := 1) (v := .int (nI y)) (C := n_P) (T := f_P) (N := 6) hx hb hts in_P hown hK hP 0 rfl rfl 1 (by decide) (hts _ x_32) (fun _ h9 => h9) rfl d_P_split_15 ?_
  refine cm_read (va_runV (As := [.int (nI y)]) (rest := [.ref ap]) ⟨hx, hb, hml, hown, hts⟩ (m_L_zerosTo ok hL9 y hy0) ⟨ct_cb 1 hts x_132 x_322 x_5 rfl rfl (by decide +kernel) ⟨by decide, by decide⟩, hts _ x_130, hts _ x_131⟩ ⟨st_blind, va_recv hK hL (ci := 0) (q0 := 0) rfl rfl, fun U hU hW => ⟨rfl, hE.at hS hAB hU hW, by rw [hU]; exact hL⟩⟩ rfl rfl hl.1 rfl (lv_room (Nat.le_of_ble_eq_true rfl)) d_P_split_18 ⟨by decide, by decide⟩) (fun v hv => ?_)
  subst hv
  refine W.eq (g2 := F0 m 21 ls [.int (nI (z0 t L y)), .ref ap]) rfl ?_
  refine va_put (D := D) (ci := 1) (v := .int (nI (z0 t L y))) (ty := .int) (C := n_P) (T := f_P) (N := 6) hx hb hts in_P t_P ty_P nm_P hown hK hP hD hS 0 rfl rfl 3 (by decide) (hts _ x_34) (fun _ h9 => h9) rfl (by decide +kernel) rfl rfl (Nat.le_of_ble_eq_true rfl) d_P_split_21 (fun H locs hP hD hS => ?_)
  have hP : va_P D vwCl [(ap, .inr (1, [.int (nI x), .int (nI y), .int (nI (z0 t L x)), .int (nI (z0 t L y)), .int f4, .int f5]))] H := hP
  have hD : va_D (fun q => q = ap) [(ap, .inr (1, [.int (nI x), .int (nI y), .int (nI (z0 t L x)), .int (nI (z0 t L y)), .int f4, .int f5]))] := hD
  have hL := hL0.rd hS hLd
  refine lv_aload_n hx hb d_P_split_24 rfl (lv_at hl 0 rfl) ?_
  refine lv_aload_n hx hb d_P_split_25 rfl (lv_at hl 1 rfl) ?_
  refine va_getN (D := D) (ci := 0) (v := .int z) (C := n_L) (T := f_L) (N := 3) hx hb hts in_L hown hK hL 0 rfl rfl 2 (by decide) (va_Nw.use rfl (hE.2.1 _ x_72)) (fun _ h9 => h9) rfl d_P_split_26 ?_
  refine lv_aload_n hx hb d_P_split_29 rfl (lv_at hl 0 rfl) ?_
  refine va_get (D := D) (ci := 1) (v := .int (nI x)) (C := n_P) (T := f_P) (N := 6) hx hb hts in_P hown hK hP 0 rfl rfl 0 (by decide) (hts _ x_30) (fun _ h9 => h9) rfl d_P_split_30 ?_
  refine lv_iadd hx hb d_P_split_33 ?_
  refine lv_aload_n hx hb d_P_split_34 rfl (lv_at hl 0 rfl) ?_
  refine va_get (D := D) (ci := 1) (v := .int (nI (z0 t L x))) (C := n_P) (T := f_P) (N := 6) hx hb hts in_P hown hK hP 0 rfl rfl 2 (by decide) (hts _ x_33) (fun _ h9 => h9) rfl d_P_split_35 ?_
  refine lv_isub hx hb d_P_split_38 ?_
  refine ct_topi (x' := nI (z0 t L L.length + z1 t L x)) (by rw [ok.2.2, nI_add, pk_sub (by omega)]; congr 1; omega) ?_
  refine va_put (D := D) (ci := 1) (v := .int (nI (z0 t L L.length + z1 t L x))) (ty := .int) (C := n_P) (T := f_P) (N := 6) hx hb hts in_P t_P ty_P nm_P hown hK hP hD hS 0 rfl rfl 4 (by decide) (hts _ x_35) (fun _ h9 => h9) rfl (by decide +kernel) rfl rfl (Nat.le_of_ble_eq_true rfl) d_P_split_39 (fun H locs hP hD hS => ?_)
  have hP : va_P D vwCl [(ap, .inr (1, [.int (nI x), .int (nI y), .int (nI (z0 t L x)), .int (nI (z0 t L y)), .int (nI (z0 t L L.length + z1 t L x)), .int f5]))] H := hP
  have hD : va_D (fun q => q = ap) [(ap, .inr (1, [.int (nI x), .int (nI y), .int (nI (z0 t L x)), .int (nI (z0 t L y)), .int (nI (z0 t L L.length + z1 t L x)), .int f5]))] := hD
  have hL := hL0.rd hS hLd
  refine lv_aload_n hx hb d_P_split_42 rfl (lv_at hl 0 rfl) ?_
  refine lv_aload_n hx hb d_P_split_43 rfl (lv_at hl 1 rfl) ?_
  refine va_getN (D := D) (ci := 0) (v := .int z) (C := n_L) (T := f_L) (N := 3) hx hb hts in_L hown hK hL 0 rfl rfl 2 (by decide) (va_Nw.use rfl (hE.2.1 _ x_72)) (fun _ h9 => h9) rfl d_P_split_44 ?_
  refine lv_aload_n hx hb d_P_split_47 rfl (lv_at hl 0 rfl) ?_
  refine va_get (D := D) (ci := 1) (v := .int (nI y)) (C := n_P) (T := f_P) (N := 6) hx hb hts in_P hown hK hP 0 rfl rfl 1 (by decide) (hts _ x_32) (fun _ h9 => h9) rfl d_P_split_48 ?_
  refine lv_iadd hx hb d_P_split_51 ?_
  refine lv_aload_n hx hb d_P_split_52 rfl (lv_at hl 0 rfl) ?_
  refine va_get (D := D) (ci := 1) (v := .int (nI (z0 t L y))) (C := n_P) (T := f_P) (N := 6) hx hb hts in_P hown hK hP 0 rfl rfl 3 (by decide) (hts _ x_34) (fun _ h9 => h9) rfl d_P_split_53 ?_
  refine lv_isub hx hb d_P_split_56 ?_
  refine ct_topi (x' := nI (z0 t L L.length + z1 t L y)) (by rw [ok.2.2, nI_add, pk_sub (by omega)]; congr 1; omega) ?_
  refine va_put (D := D) (ci := 1) (v := .int (nI (z0 t L L.length + z1 t L y))) (ty := .int) (C := n_P) (T := f_P) (N := 6) hx hb hts in_P t_P ty_P nm_P hown hK hP hD hS 0 rfl rfl 5 (by decide) (hts _ x_36) (fun _ h9 => h9) rfl (by decide +kernel) rfl rfl (Nat.le_of_ble_eq_true rfl) d_P_split_57 (fun H locs hP hD hS => ?_)
  have hP : va_P D vwCl [(ap, .inr (1, [.int (nI x), .int (nI y), .int (nI (z0 t L x)), .int (nI (z0 t L y)), .int (nI (z0 t L L.length + z1 t L x)), .int (nI (z0 t L L.length + z1 t L y))]))] H := hP
  have hD : va_D (fun q => q = ap) [(ap, .inr (1, [.int (nI x), .int (nI y), .int (nI (z0 t L x)), .int (nI (z0 t L y)), .int (nI (z0 t L L.length + z1 t L x)), .int (nI (z0 t L L.length + z1 t L y))]))] := hD
  have hL := hL0.rd hS hLd
  exact W.vret hx hb hr (fun t ht hW => ⟨_, rfl, by rw [ht]; exact ⟨rfl, fr.of hS, hP⟩⟩) hS.2.2 d_P_split_60
end
section
/-! numberOfLeadingZeros, highestOneBit, placeAbove. -/
set_option maxHeartbeats 4000000 in
set_option maxRecDepth 100000 in
theorem m_I_nlz {l : Launch} {D : va_G} {cI cJ cS cO : ClassId} {B0 : Nat} (u d : Nat) (hd : u < 2 ^ d) (hlo : ∀ e, e < d → 2 ^ e ≤ u) (h16 : d ≤ 16) : CM l D (tyL cI cJ cS cO) B0 y_I_numberOfLeadingZeros c_I_numberOfLeadingZeros 2 (some .int) (rmK 0 0 0) [.int (nI u)] (fun _ => True) (fun v H0 H1 => v = some (.int (nI (32 - d))) ∧ H1 = H0) 0 0 (fun _ => False) := by
  refine cm_of (by decide) (Nat.le_of_ble_eq_true rfl) ?_
  intro p e s m below meth c ls hx hb hr hml hown hts hlocks hnm hE hpre hl
  have hown : s.vm.findClass "java/lang/Integer" = some m.cls := hown
  have hK := hE.1
  have hl : lv_has ls 2 [(0, .int (nI u))] := hl
  have hu : u < 65536 := Nat.lt_of_lt_of_le hd (Nat.pow_le_pow_right (n := 2) (by omega) h16)
  refine lv_iload_n hx hb d_I_numberOfLeadingZeros_0 rfl (lv_at hl 0 rfl) ?_
  rcases Nat.eq_zero_or_pos u with h0 | h0
  · have hd0 : d = 0 := by
      rcases Nat.eq_zero_or_pos d with h | h
      · exact h
      · have := hlo 0 h; omega
    subst h0; subst hd0
    refine lv_if_gt (tgt := 15) hx hb d_I_numberOfLeadingZeros_1 (by decide) (fun c9 => absurd c9 (by rw [nI_0]; decide)) (fun _ => ?_)
    refine lv_iload_n hx hb d_I_numberOfLeadingZeros_4 rfl (lv_at hl 0 rfl) ?_
    refine lv_if_ne (tgt := 13) hx hb d_I_numberOfLeadingZeros_5 (by decide) (fun c9 => absurd (nI_0) c9) (fun _ => ?_)
    refine lv_bipush (v := 32) hx hb d_I_numberOfLeadingZeros_8 (by decide) ?_
    refine lv_goto (tgt := 14) hx hb d_I_numberOfLeadingZeros_10 (by decide) ?_
    exact W.iret (v := 32) hx hb hr (fun t ht hW => ⟨_, rfl, rfl, ht⟩) (fun _ h => nomatch h) d_I_numberOfLeadingZeros_14
  · refine lv_if_gt (tgt := 15) hx hb d_I_numberOfLeadingZeros_1 (by decide) (fun _ => ?_) (fun c9 => absurd (by rw [← nI_0]; exact nI_lt h0 (by omega)) c9)
    refine lv_bipush (v := 31) hx hb d_I_numberOfLeadingZeros_15 (by decide) ?_
    refine ct_topi (x' := nI 31) (rfl) ?_
    refine lv_istore_n (lv' := [(1, .int (nI 31)), (0, .int (nI u))]) hx hb d_I_numberOfLeadingZeros_17 rfl hl (by decide) rfl (fun ls hl => ?_)
    refine lv_iload_n hx hb d_I_numberOfLeadingZeros_18 rfl (lv_at hl 1 rfl) ?_
    refine lv_ldcw (v := 65536) hx hb hown (hts _ x_61) d_I_numberOfLeadingZeros_19 ?_
    refine lv_icmp_lt (tgt := 33) hx hb d_I_numberOfLeadingZeros_22 (by decide) (fun _ => ?_) (fun c9 => absurd (show nI u < nI 65536 from nI_lt hu (by decide)) c9)
    refine lv_iload_n hx hb d_I_numberOfLeadingZeros_33 rfl (lv_at hl 1 rfl) ?_
    refine lv_sipush (v := 256) hx hb d_I_numberOfLeadingZeros_34 (by decide) ?_
    rcases Nat.lt_or_ge (u) 256 with h37 | h37
    · refine lv_icmp_lt (tgt := 48) hx hb d_I_numberOfLeadingZeros_37 (by decide) (fun _ => ?_) (fun c9 => absurd (show nI (u) < nI 256 from nI_lt h37 (by decide)) c9)
      refine lv_iload_n hx hb d_I_numberOfLeadingZeros_48 rfl (lv_at hl 1 rfl) ?_
      refine lv_bipush (v := 16) hx hb d_I_numberOfLeadingZeros_49 (by decide) ?_
      rcases Nat.lt_or_ge (u) 16 with h51 | h51
      · refine lv_icmp_lt (tgt := 61) hx hb d_I_numberOfLeadingZeros_51 (by decide) (fun _ => ?_) (fun c9 => absurd (show nI (u) < nI 16 from nI_lt h51 (by decide)) c9)
        refine lv_iload_n hx hb d_I_numberOfLeadingZeros_61 rfl (lv_at hl 1 rfl) ?_
        refine lv_iconst (v := 4) hx hb d_I_numberOfLeadingZeros_62 (by decide) ?_
        rcases Nat.lt_or_ge (u) 4 with h63 | h63
        · refine lv_icmp_lt (tgt := 73) hx hb d_I_numberOfLeadingZeros_63 (by decide) (fun _ => ?_) (fun c9 => absurd (show nI (u) < nI 4 from nI_lt h63 (by decide)) c9)
          refine lv_iload_n hx hb d_I_numberOfLeadingZeros_73 rfl (lv_at hl 0 rfl) ?_
          refine lv_iload_n hx hb d_I_numberOfLeadingZeros_74 rfl (lv_at hl 1 rfl) ?_
          refine lv_iconst (v := 1) hx hb d_I_numberOfLeadingZeros_75 (by decide) ?_
          refine lv_iushr hx hb d_I_numberOfLeadingZeros_76 rfl ?_
          refine ct_topi (x' := nI (u / 2)) (pk_ushrN (by omega) _ 1 (by decide)) ?_
          refine lv_isub hx hb d_I_numberOfLeadingZeros_77 ?_
          refine ct_topi (x' := nI (32 - d)) (by rw [pk_sub (by omega)]; congr 1; have := nlz_u (c := 0) (v := u) hd hlo (by simp) (by omega) (by omega); omega) ?_
          exact W.iret (v := nI (32 - d)) hx hb hr (fun t ht hW => ⟨_, rfl, rfl, ht⟩) (fun _ h => nomatch h) d_I_numberOfLeadingZeros_78
        · refine lv_icmp_lt (tgt := 73) hx hb d_I_numberOfLeadingZeros_63 (by decide) (fun c9 => absurd c9 (show ¬ nI (u) < nI 4 from nI_nlt h63 (by omega))) (fun _ => ?_)
          refine lv_iinc (v := nI 29) (lv' := [(1, .int (nI 29)), (0, .int (nI u))]) hx hb d_I_numberOfLeadingZeros_66 hl (k := 0) rfl (by decide) (by decide) rfl (fun ls hl => ?_)
          refine lv_iload_n hx hb d_I_numberOfLeadingZeros_69 rfl (lv_at hl 1 rfl) ?_
          refine lv_iconst (v := 2) hx hb d_I_numberOfLeadingZeros_70 (by decide) ?_
          refine lv_iushr hx hb d_I_numberOfLeadingZeros_71 rfl ?_
          refine ct_topi (x' := nI (u / 4)) (pk_ushrN (by omega) _ 2 (by decide)) ?_
          refine lv_istore_n (lv' := [(0, .int (nI (u / 4))), (1, .int (nI 29))]) hx hb d_I_numberOfLeadingZeros_72 rfl hl (by decide) rfl (fun ls hl => ?_)
          refine lv_iload_n hx hb d_I_numberOfLeadingZeros_73 rfl (lv_at hl 1 rfl) ?_
          refine lv_iload_n hx hb d_I_numberOfLeadingZeros_74 rfl (lv_at hl 0 rfl) ?_
          refine lv_iconst (v := 1) hx hb d_I_numberOfLeadingZeros_75 (by decide) ?_
          refine lv_iushr hx hb d_I_numberOfLeadingZeros_76 rfl ?_
          refine ct_topi (x' := nI (u / 4 / 2)) (pk_ushrN (by omega) _ 1 (by decide)) ?_
          refine lv_isub hx hb d_I_numberOfLeadingZeros_77 ?_
          refine ct_topi (x' := nI (32 - d)) (by rw [pk_sub (by omega)]; congr 1; have := nlz_u (c := 2) (v := u / 4) hd hlo (by rfl) (by omega) (by omega); omega) ?_
          exact W.iret (v := nI (32 - d)) hx hb hr (fun t ht hW => ⟨_, rfl, rfl, ht⟩) (fun _ h => nomatch h) d_I_numberOfLeadingZeros_78
      · refine lv_icmp_lt (tgt := 61) hx hb d_I_numberOfLeadingZeros_51 (by decide) (fun c9 => absurd c9 (show ¬ nI (u) < nI 16 from nI_nlt h51 (by omega))) (fun _ => ?_)
        refine lv_iinc (v := nI 27) (lv' := [(1, .int (nI 27)), (0, .int (nI u))]) hx hb d_I_numberOfLeadingZeros_54 hl (k := 0) rfl (by decide) (by decide) rfl (fun ls hl => ?_)
        refine lv_iload_n hx hb d_I_numberOfLeadingZeros_57 rfl (lv_at hl 1 rfl) ?_
        refine lv_iconst (v := 4) hx hb d_I_numberOfLeadingZeros_58 (by decide) ?_
        refine lv_iushr hx hb d_I_numberOfLeadingZeros_59 rfl ?_
        refine ct_topi (x' := nI (u / 16)) (pk_ushrN (by omega) _ 4 (by decide)) ?_
        refine lv_istore_n (lv' := [(0, .int (nI (u / 16))), (1, .int (nI 27))]) hx hb d_I_numberOfLeadingZeros_60 rfl hl (by decide) rfl (fun ls hl => ?_)
        refine lv_iload_n hx hb d_I_numberOfLeadingZeros_61 rfl (lv_at hl 0 rfl) ?_
        refine lv_iconst (v := 4) hx hb d_I_numberOfLeadingZeros_62 (by decide) ?_
        rcases Nat.lt_or_ge (u / 16) 4 with h63 | h63
        · refine lv_icmp_lt (tgt := 73) hx hb d_I_numberOfLeadingZeros_63 (by decide) (fun _ => ?_) (fun c9 => absurd (show nI (u / 16) < nI 4 from nI_lt h63 (by decide)) c9)
          refine lv_iload_n hx hb d_I_numberOfLeadingZeros_73 rfl (lv_at hl 1 rfl) ?_
          refine lv_iload_n hx hb d_I_numberOfLeadingZeros_74 rfl (lv_at hl 0 rfl) ?_
          refine lv_iconst (v := 1) hx hb d_I_numberOfLeadingZeros_75 (by decide) ?_
          refine lv_iushr hx hb d_I_numberOfLeadingZeros_76 rfl ?_
          refine ct_topi (x' := nI (u / 16 / 2)) (pk_ushrN (by omega) _ 1 (by decide)) ?_
          refine lv_isub hx hb d_I_numberOfLeadingZeros_77 ?_
          refine ct_topi (x' := nI (32 - d)) (by rw [pk_sub (by omega)]; congr 1; have := nlz_u (c := 4) (v := u / 16) hd hlo (by rfl) (by omega) (by omega); omega) ?_
          exact W.iret (v := nI (32 - d)) hx hb hr (fun t ht hW => ⟨_, rfl, rfl, ht⟩) (fun _ h => nomatch h) d_I_numberOfLeadingZeros_78
        · refine lv_icmp_lt (tgt := 73) hx hb d_I_numberOfLeadingZeros_63 (by decide) (fun c9 => absurd c9 (show ¬ nI (u / 16) < nI 4 from nI_nlt h63 (by omega))) (fun _ => ?_)
          refine lv_iinc (v := nI 25) (lv' := [(1, .int (nI 25)), (0, .int (nI (u / 16)))]) hx hb d_I_numberOfLeadingZeros_66 hl (k := 1) rfl (by decide) (by decide) rfl (fun ls hl => ?_)
          refine lv_iload_n hx hb d_I_numberOfLeadingZeros_69 rfl (lv_at hl 1 rfl) ?_
          refine lv_iconst (v := 2) hx hb d_I_numberOfLeadingZeros_70 (by decide) ?_
          refine lv_iushr hx hb d_I_numberOfLeadingZeros_71 rfl ?_
          refine ct_topi (x' := nI (u / 16 / 4)) (pk_ushrN (by omega) _ 2 (by decide)) ?_
          refine lv_istore_n (lv' := [(0, .int (nI (u / 16 / 4))), (1, .int (nI 25))]) hx hb d_I_numberOfLeadingZeros_72 rfl hl (by decide) rfl (fun ls hl => ?_)
          refine lv_iload_n hx hb d_I_numberOfLeadingZeros_73 rfl (lv_at hl 1 rfl) ?_
          refine lv_iload_n hx hb d_I_numberOfLeadingZeros_74 rfl (lv_at hl 0 rfl) ?_
          refine lv_iconst (v := 1) hx hb d_I_numberOfLeadingZeros_75 (by decide) ?_
          refine lv_iushr hx hb d_I_numberOfLeadingZeros_76 rfl ?_
          refine ct_topi (x' := nI (u / 16 / 4 / 2)) (pk_ushrN (by omega) _ 1 (by decide)) ?_
          refine lv_isub hx hb d_I_numberOfLeadingZeros_77 ?_
          refine ct_topi (x' := nI (32 - d)) (by rw [pk_sub (by omega)]; congr 1; have := nlz_u (c := 6) (v := u / 16 / 4) hd hlo (by simp only [Nat.div_div_eq_div_mul]) (by omega) (by omega); omega) ?_
          exact W.iret (v := nI (32 - d)) hx hb hr (fun t ht hW => ⟨_, rfl, rfl, ht⟩) (fun _ h => nomatch h) d_I_numberOfLeadingZeros_78
    · refine lv_icmp_lt (tgt := 48) hx hb d_I_numberOfLeadingZeros_37 (by decide) (fun c9 => absurd c9 (show ¬ nI (u) < nI 256 from nI_nlt h37 (by omega))) (fun _ => ?_)
      refine lv_iinc (v := nI 23) (lv' := [(1, .int (nI 23)), (0, .int (nI u))]) hx hb d_I_numberOfLeadingZeros_40 hl (k := 0) rfl (by decide) (by decide) rfl (fun ls hl => ?_)
      refine lv_iload_n hx hb d_I_numberOfLeadingZeros_43 rfl (lv_at hl 1 rfl) ?_
      refine lv_bipush (v := 8) hx hb d_I_numberOfLeadingZeros_44 (by decide) ?_
      refine lv_iushr hx hb d_I_numberOfLeadingZeros_46 rfl ?_
      refine ct_topi (x' := nI (u / 256)) (pk_ushrN (by omega) _ 8 (by decide)) ?_
      refine lv_istore_n (lv' := [(0, .int (nI (u / 256))), (1, .int (nI 23))]) hx hb d_I_numberOfLeadingZeros_47 rfl hl (by decide) rfl (fun ls hl => ?_)
      refine lv_iload_n hx hb d_I_numberOfLeadingZeros_48 rfl (lv_at hl 0 rfl) ?_
      refine lv_bipush (v := 16) hx hb d_I_numberOfLeadingZeros_49 (by decide) ?_
      rcases Nat.lt_or_ge (u / 256) 16 with h51 | h51
      · refine lv_icmp_lt (tgt := 61) hx hb d_I_numberOfLeadingZeros_51 (by decide) (fun _ => ?_) (fun c9 => absurd (show nI (u / 256) < nI 16 from nI_lt h51 (by decide)) c9)
        refine lv_iload_n hx hb d_I_numberOfLeadingZeros_61 rfl (lv_at hl 0 rfl) ?_
        refine lv_iconst (v := 4) hx hb d_I_numberOfLeadingZeros_62 (by decide) ?_
        rcases Nat.lt_or_ge (u / 256) 4 with h63 | h63
        · refine lv_icmp_lt (tgt := 73) hx hb d_I_numberOfLeadingZeros_63 (by decide) (fun _ => ?_) (fun c9 => absurd (show nI (u / 256) < nI 4 from nI_lt h63 (by decide)) c9)
          refine lv_iload_n hx hb d_I_numberOfLeadingZeros_73 rfl (lv_at hl 1 rfl) ?_
          refine lv_iload_n hx hb d_I_numberOfLeadingZeros_74 rfl (lv_at hl 0 rfl) ?_
          refine lv_iconst (v := 1) hx hb d_I_numberOfLeadingZeros_75 (by decide) ?_
          refine lv_iushr hx hb d_I_numberOfLeadingZeros_76 rfl ?_
          refine ct_topi (x' := nI (u / 256 / 2)) (pk_ushrN (by omega) _ 1 (by decide)) ?_
          refine lv_isub hx hb d_I_numberOfLeadingZeros_77 ?_
          refine ct_topi (x' := nI (32 - d)) (by rw [pk_sub (by omega)]; congr 1; have := nlz_u (c := 8) (v := u / 256) hd hlo (by rfl) (by omega) (by omega); omega) ?_
          exact W.iret (v := nI (32 - d)) hx hb hr (fun t ht hW => ⟨_, rfl, rfl, ht⟩) (fun _ h => nomatch h) d_I_numberOfLeadingZeros_78
        · refine lv_icmp_lt (tgt := 73) hx hb d_I_numberOfLeadingZeros_63 (by decide) (fun c9 => absurd c9 (show ¬ nI (u / 256) < nI 4 from nI_nlt h63 (by omega))) (fun _ => ?_)
          refine lv_iinc (v := nI 21) (lv' := [(1, .int (nI 21)), (0, .int (nI (u / 256)))]) hx hb d_I_numberOfLeadingZeros_66 hl (k := 1) rfl (by decide) (by decide) rfl (fun ls hl => ?_)
          refine lv_iload_n hx hb d_I_numberOfLeadingZeros_69 rfl (lv_at hl 1 rfl) ?_
          refine lv_iconst (v := 2) hx hb d_I_numberOfLeadingZeros_70 (by decide) ?_
          refine lv_iushr hx hb d_I_numberOfLeadingZeros_71 rfl ?_
          refine ct_topi (x' := nI (u / 256 / 4)) (pk_ushrN (by omega) _ 2 (by decide)) ?_
          refine lv_istore_n (lv' := [(0, .int (nI (u / 256 / 4))), (1, .int (nI 21))]) hx hb d_I_numberOfLeadingZeros_72 rfl hl (by decide) rfl (fun ls hl => ?_)
          refine lv_iload_n hx hb d_I_numberOfLeadingZeros_73 rfl (lv_at hl 1 rfl) ?_
          refine lv_iload_n hx hb d_I_numberOfLeadingZeros_74 rfl (lv_at hl 0 rfl) ?_
          refine lv_iconst (v := 1) hx hb d_I_numberOfLeadingZeros_75 (by decide) ?_
          refine lv_iushr hx hb d_I_numberOfLeadingZeros_76 rfl ?_
          refine ct_topi (x' := nI (u / 256 / 4 / 2)) (pk_ushrN (by omega) _ 1 (by decide)) ?_
          refine lv_isub hx hb d_I_numberOfLeadingZeros_77 ?_
          refine ct_topi (x' := nI (32 - d)) (by rw [pk_sub (by omega)]; congr 1; have := nlz_u (c := 10) (v := u / 256 / 4) hd hlo (by simp only [Nat.div_div_eq_div_mul]) (by omega) (by omega); omega) ?_
          exact W.iret (v := nI (32 - d)) hx hb hr (fun t ht hW => ⟨_, rfl, rfl, ht⟩) (fun _ h => nomatch h) d_I_numberOfLeadingZeros_78
      · refine lv_icmp_lt (tgt := 61) hx hb d_I_numberOfLeadingZeros_51 (by decide) (fun c9 => absurd c9 (show ¬ nI (u / 256) < nI 16 from nI_nlt h51 (by omega))) (fun _ => ?_)
        refine lv_iinc (v := nI 19) (lv' := [(1, .int (nI 19)), (0, .int (nI (u / 256)))]) hx hb d_I_numberOfLeadingZeros_54 hl (k := 1) rfl (by decide) (by decide) rfl (fun ls hl => ?_)
        refine lv_iload_n hx hb d_I_numberOfLeadingZeros_57 rfl (lv_at hl 1 rfl) ?_
        refine lv_iconst (v := 4) hx hb d_I_numberOfLeadingZeros_58 (by decide) ?_
        refine lv_iushr hx hb d_I_numberOfLeadingZeros_59 rfl ?_
        refine ct_topi (x' := nI (u / 256 / 16)) (pk_ushrN (by omega) _ 4 (by decide)) ?_
        refine lv_istore_n (lv' := [(0, .int (nI (u / 256 / 16))), (1, .int (nI 19))]) hx hb d_I_numberOfLeadingZeros_60 rfl hl (by decide) rfl (fun ls hl => ?_)
        refine lv_iload_n hx hb d_I_numberOfLeadingZeros_61 rfl (lv_at hl 0 rfl) ?_
        refine lv_iconst (v := 4) hx hb d_I_numberOfLeadingZeros_62 (by decide) ?_
        rcases Nat.lt_or_ge (u / 256 / 16) 4 with h63 | h63
        · refine lv_icmp_lt (tgt := 73) hx hb d_I_numberOfLeadingZeros_63 (by decide) (fun _ => ?_) (fun c9 => absurd (show nI (u / 256 / 16) < nI 4 from nI_lt h63 (by decide)) c9)
          refine lv_iload_n hx hb d_I_numberOfLeadingZeros_73 rfl (lv_at hl 1 rfl) ?_
          refine lv_iload_n hx hb d_I_numberOfLeadingZeros_74 rfl (lv_at hl 0 rfl) ?_
          refine lv_iconst (v := 1) hx hb d_I_numberOfLeadingZeros_75 (by decide) ?_
          refine lv_iushr hx hb d_I_numberOfLeadingZeros_76 rfl ?_
          refine ct_topi (x' := nI (u / 256 / 16 / 2)) (pk_ushrN (by omega) _ 1 (by decide)) ?_
          refine lv_isub hx hb d_I_numberOfLeadingZeros_77 ?_
          refine ct_topi (x' := nI (32 - d)) (by rw [pk_sub (by omega)]; congr 1; have := nlz_u (c := 12) (v := u / 256 / 16) hd hlo (by simp only [Nat.div_div_eq_div_mul]) (by omega) (by omega); omega) ?_
          exact W.iret (v := nI (32 - d)) hx hb hr (fun t ht hW => ⟨_, rfl, rfl, ht⟩) (fun _ h => nomatch h) d_I_numberOfLeadingZeros_78
        · refine lv_icmp_lt (tgt := 73) hx hb d_I_numberOfLeadingZeros_63 (by decide) (fun c9 => absurd c9 (show ¬ nI (u / 256 / 16) < nI 4 from nI_nlt h63 (by omega))) (fun _ => ?_)
          refine lv_iinc (v := nI 17) (lv' := [(1, .int (nI 17)), (0, .int (nI (u / 256 / 16)))]) hx hb d_I_numberOfLeadingZeros_66 hl (k := 1) rfl (by decide) (by decide) rfl (fun ls hl => ?_)
          refine lv_iload_n hx hb d_I_numberOfLeadingZeros_69 rfl (lv_at hl 1 rfl) ?_
          refine lv_iconst (v := 2) hx hb d_I_numberOfLeadingZeros_70 (by decide) ?_
          refine lv_iushr hx hb d_I_numberOfLeadingZeros_71 rfl ?_
          refine ct_topi (x' := nI (u / 256 / 16 / 4)) (pk_ushrN (by omega) _ 2 (by decide)) ?_
          refine lv_istore_n (lv' := [(0, .int (nI (u / 256 / 16 / 4))), (1, .int (nI 17))]) hx hb d_I_numberOfLeadingZeros_72 rfl hl (by decide) rfl (fun ls hl => ?_)
          refine lv_iload_n hx hb d_I_numberOfLeadingZeros_73 rfl (lv_at hl 1 rfl) ?_
          refine lv_iload_n hx hb d_I_numberOfLeadingZeros_74 rfl (lv_at hl 0 rfl) ?_
          refine lv_iconst (v := 1) hx hb d_I_numberOfLeadingZeros_75 (by decide) ?_
          refine lv_iushr hx hb d_I_numberOfLeadingZeros_76 rfl ?_
          refine ct_topi (x' := nI (u / 256 / 16 / 4 / 2)) (pk_ushrN (by omega) _ 1 (by decide)) ?_
          refine lv_isub hx hb d_I_numberOfLeadingZeros_77 ?_
          refine ct_topi (x' := nI (32 - d)) (by rw [pk_sub (by omega)]; congr 1; have := nlz_u (c := 14) (v := u / 256 / 16 / 4) hd hlo (by simp only [Nat.div_div_eq_div_mul]) (by omega) (by omega); omega) ?_
          exact W.iret (v := nI (32 - d)) hx hb hr (fun t ht hW => ⟨_, rfl, rfl, ht⟩) (fun _ h => nomatch h) d_I_numberOfLeadingZeros_78
set_option maxHeartbeats 4000000 in
set_option maxRecDepth 100000 in
theorem m_I_hob {l : Launch} {D : va_G} {cI cJ cS cO : ClassId} {B0 : Nat}  : CM l D (tyL cI cJ cS cO) B0 y_I_highestOneBit c_I_highestOneBit 1 (some .int) (rmK 1 0 0) [.int 1000] (fun _ => True) (fun v H0 H1 => v = some (.int 512) ∧ H1 = H0) 0 0 (fun _ => False) := by
  refine cm_of (by decide) (Nat.le_of_ble_eq_true rfl) ?_
  intro p e s m below meth c ls hx hb hr hml hown hts hlocks hnm hE hpre hl
  have hown : s.vm.findClass "java/lang/Integer" = some m.cls := hown
  have hK := hE.1
  have hl : lv_has ls 1 [(0, .int 1000)] := hl
  have hS : va_S (fun _ => False) s.heap s.heap [] := va_S.rf
  have hAB : ∀ q : Nat, (fun _ : Nat => False) q → B0 ≤ q := fun _ h => h.elim
  refine lv_iload_n hx hb d_I_highestOneBit_0 rfl (lv_at hl 0 rfl) ?_
  refine lv_ldc (v := (-2147483648)) hx hb hown (hts _ x_353) d_I_highestOneBit_1 ?_
  refine lv_iload_n hx hb d_I_highestOneBit_3 rfl (lv_at hl 0 rfl) ?_
  refine cm_read (va_runS (As := [.int 1000]) (rest := [.int (-2147483648), .int 1000]) ⟨hx, hb, hml, hown, hts⟩ (m_I_nlz 1000 10 (by decide) (by decide) (by decide)) ⟨ct_cb 1 hts x_60 x_354 x_4 rfl rfl (by decide +kernel) ⟨by decide, by decide⟩, hts _ x_59⟩ ⟨st_blind, fun U hU hW => ⟨rfl, hE.at hS hAB hU hW, by rw [hU]; exact trivial⟩⟩ rfl rfl hl.1 rfl (lv_room (Nat.le_of_ble_eq_true rfl)) d_I_highestOneBit_4 ⟨by decide, by decide⟩) (fun v hv => ?_)
  subst hv
  refine W.eq (g2 := F0 m 7 ls [.int (nI 22), .int (-2147483648), .int 1000]) rfl ?_
  refine lv_iushr hx hb d_I_highestOneBit_7 rfl ?_
  refine lv_iand hx hb d_I_highestOneBit_8 ?_
  refine ct_topi (x' := 512) (by decide) ?_
  exact W.iret (v := 512) hx hb hr (fun t ht hW => ⟨_, rfl, rfl, ht⟩) (fun _ h => nomatch h) d_I_highestOneBit_9
set_option maxHeartbeats 4000000 in
set_option maxRecDepth 100000 in
theorem m_L_placeAbove_f {l : Launch} {D : va_G} {cI cJ cS cO : ClassId} {B0 : Nat} {a0 a1 a2 : Nat} {ja : Nat → Int64} {oa : Nat → Int32} {z : Int32} {t : Nat → Bool} {L : List Nat} (ok : LvOk t L ja oa z) (hL : L.length ≤ 1000) {q x : Nat} (hq : L[q]? = some x) (htx : t x = false) : CM l D (tyL cI cJ cS cO) B0 y_L_placeAbove c_L_placeAbove 8 (some .int) (rmK 3 0 0) [.ref a0, .int (nI (z0 t L q)), .int (nI L.length)] (fun H => va_P D vwCl (Lw cJ cS a0 a1 a2 ja oa z) H) (fun v H0 H1 => v = some (.int (nI q)) ∧ H1 = H0) 0 0 (fun _ => False) := by
  refine cm_of (by decide) (Nat.le_of_ble_eq_true rfl) ?_
  intro p e s m below meth c ls hx hb hr hml hown hts hlocks hnm hE hpre hl
  have hown : s.vm.findClass "LevelRows$Level" = some m.cls := hown
  have hK := hE.1
  have hl : lv_has ls 8 [(0, .ref a0), (1, .int (nI (z0 t L q))), (2, .int (nI L.length))] := hl
  have hP : va_P D vwCl [(a0, .inr (0, [.ref a1, .ref a2, .int z])), (a1, .inl (cJ, 16, .inr (.inl (ja)))), (a2, .inl (cS, 16, .inl (oa)))] s.heap := hpre
  have hS : va_S (fun _ => False) s.heap s.heap [] := va_S.rf
  have hAB : ∀ q : Nat, (fun _ : Nat => False) q → B0 ≤ q := fun _ h => h.elim
  have hql : q < L.length := (List.getElem?_eq_some_iff.mp hq).1
  have hza := z01 t (Nat.le_of_lt hql)
  have hzb := z01 t (Nat.le_refl L.length)
  refine lv_iload_n hx hb d_L_placeAbove_0 rfl (lv_at hl 1 rfl) ?_
  refine lv_aload_n hx hb d_L_placeAbove_1 rfl (lv_at hl 0 rfl) ?_
  refine va_get (D := D) (ci := 0) (v := .int z) (C := n_L) (T := f_L) (N := 3) hx hb hts in_L hown hK hP 0 rfl rfl 2 (by decide) (hts _ x_71) (fun _ h9 => h9) rfl d_L_placeAbove_2 ?_
  have hsd := lv_side hq htx
  refine lv_icmp_lt (tgt := 12) hx hb d_L_placeAbove_5 (by decide) (fun _ => ?_) (fun c9 => absurd (by rw [ok.2.2]; exact nI_lt hsd (by omega)) c9)
  refine lv_iconst (v := 0) hx hb d_L_placeAbove_12 (by decide) ?_
  refine lv_istore_n (lv' := [(3, .int 0), (0, .ref a0), (1, .int (nI (z0 t L q))), (2, .int (nI L.length))]) hx hb d_L_placeAbove_13 rfl hl (by decide) rfl (fun ls hl => ?_)
  refine lv_iload_n hx hb d_L_placeAbove_14 rfl (lv_at hl 0 rfl) ?_
  refine lv_if_eq (tgt := 27) hx hb d_L_placeAbove_15 (by decide) (fun _ => ?_) (fun c9 => absurd (rfl) c9)
  refine lv_iload_n hx hb d_L_placeAbove_27 rfl (lv_at hl 2 rfl) ?_
  refine lv_istore (lv' := [(4, .int (nI (z0 t L q))), (3, .int 0), (0, .ref a0), (1, .int (nI (z0 t L q))), (2, .int (nI L.length))]) hx hb d_L_placeAbove_28 hl (by decide) rfl (fun ls hl => ?_)
  refine lv_iconst (v := 0) hx hb d_L_placeAbove_30 (by decide) ?_
  refine lv_istore (lv' := [(5, .int 0), (4, .int (nI (z0 t L q))), (3, .int 0), (0, .ref a0), (1, .int (nI (z0 t L q))), (2, .int (nI L.length))]) hx hb d_L_placeAbove_31 hl (by decide) rfl (fun ls hl => ?_)
  refine lv_sipush (v := 1000) hx hb d_L_placeAbove_33 (by decide) ?_
  refine cm_read (va_runS (As := [.int 1000]) (rest := []) ⟨hx, hb, hml, hown, hts⟩ (m_I_hob) ⟨ct_cb 1 hts x_352 x_350 x_4 rfl rfl (by decide +kernel) ⟨by decide, by decide⟩, hts _ x_351⟩ ⟨st_blind, fun U hU hW => ⟨rfl, hE.at hS hAB hU hW, by rw [hU]; exact trivial⟩⟩ rfl rfl hl.1 rfl (lv_room (Nat.le_of_ble_eq_true rfl)) d_L_placeAbove_36 ⟨by decide, by decide⟩) (fun v hv => ?_)
  subst hv
  refine W.eq (g2 := F0 m 39 ls [.int 512]) rfl ?_
  refine lv_istore (lv' := [(6, .int 512), (5, .int 0), (4, .int (nI (z0 t L q))), (3, .int 0), (0, .ref a0), (1, .int (nI (z0 t L q))), (2, .int (nI L.length))]) hx hb d_L_placeAbove_39 hl (by decide) rfl (fun ls hl => ?_)
  have loop : ∀ (n found : Nat) (ls : Array Slot), n ≤ 10 → found ≤ q → q < found + 2 ^ n → lv_has ls 8 [(6, .int (nI (2 ^ n / 2))), (5, .int (nI found)), (0, .ref a0), (1, .int (nI (z0 t L q))), (2, .int (nI L.length)), (3, .int 0), (4, .int (nI (z0 t L q)))] → W p l e (rmK 3 0 0) s m [.ref a0, .int (nI (z0 t L q)), .int (nI L.length)].toArray below meth c s.heap [] (0) (0) (MQ below (stQ (fun v H0 H1 => v = some (.int (nI q)) ∧ H1 = H0)) [.ref a0, .int (nI (z0 t L q)), .int (nI L.length)].toArray s 0 0 (fun _ => False)) (F0 m 41 ls []) := by
    intro n
    induction n with
    | zero =>
      intro found ls hn hf1 hf2 hl
      have hfq : found = q := by omega
      subst hfq
      refine lv_iload hx hb d_L_placeAbove_41 (lv_at hl 0 rfl) ?_
      refine lv_if_le (tgt := 96) hx hb d_L_placeAbove_43 (by decide) (fun _ => ?_) (fun c9 => absurd (by decide) c9)
      refine lv_iload hx hb d_L_placeAbove_96 (lv_at hl 1 rfl) ?_
      exact W.iret (v := nI found) hx hb hr (fun t ht hW => ⟨_, rfl, rfl, ht⟩) (fun _ h => nomatch h) d_L_placeAbove_98
    | succ n ih =>
      intro found ls hn hf1 hf2 hl
      have hp : 2 ^ (n + 1) = 2 * 2 ^ n := by rw [Nat.pow_succ, Nat.mul_comm]
      have hp0 : 0 < 2 ^ n := Nat.pos_of_ne_zero (by simp)
      have hp9 : 2 ^ n ≤ 512 := show 2 ^ n ≤ 2 ^ 9 from Nat.pow_le_pow_right (by omega) (by omega)
      have hp2 : 2 ^ (n + 1) / 2 = 2 ^ n := by omega
      rw [hp2] at hl
      refine lv_iload hx hb d_L_placeAbove_41 (lv_at hl 0 rfl) ?_
      refine lv_if_le (tgt := 96) hx hb d_L_placeAbove_43 (by decide) (fun c9 => absurd c9 (nI_nle hp0 (by omega))) (fun _ => ?_)
      refine lv_iload hx hb d_L_placeAbove_46 (lv_at hl 1 rfl) ?_
      refine lv_iload hx hb d_L_placeAbove_48 (lv_at hl 0 rfl) ?_
      refine lv_iadd hx hb d_L_placeAbove_50 ?_
      refine ct_topi (x' := nI (found + 2 ^ n)) (nI_add _ _) ?_
      refine lv_istore (lv' := [(7, .int (nI (found + 2 ^ n))), (6, .int (nI (2 ^ n))), (5, .int (nI found)), (0, .ref a0), (1, .int (nI (z0 t L q))), (2, .int (nI L.length)), (3, .int 0), (4, .int (nI (z0 t L q)))]) hx hb d_L_placeAbove_51 hl (by decide) rfl (fun ls hl => ?_)
      refine lv_iload hx hb d_L_placeAbove_53 (lv_at hl 0 rfl) ?_
      refine lv_iload_n hx hb d_L_placeAbove_55 rfl (lv_at hl 5 rfl) ?_
      rcases Nat.lt_or_ge q (found + 2 ^ n) with hc | hc
      · rcases Nat.lt_or_ge L.length (found + 2 ^ n) with hd | hd
        · refine lv_icmp_gt (tgt := 87) hx hb d_L_placeAbove_56 (by decide) (fun _ => ?_) (fun c9 => absurd (nI_lt hd (by omega)) c9)
          refine lv_iload hx hb d_L_placeAbove_87 (lv_at hl 1 rfl) ?_
          refine lv_iconst (v := 2) hx hb d_L_placeAbove_89 (by decide) ?_
          refine lv_idiv hx hb d_L_placeAbove_90 (by decide) ?_
          refine ct_topi (x' := nI (2 ^ n / 2)) (pk_div (d := 2) (by omega) (by decide) (by decide)) ?_
          refine lv_istore (lv' := [(6, .int (nI (2 ^ n / 2))), (7, .int (nI (found + 2 ^ n))), (5, .int (nI found)), (0, .ref a0), (1, .int (nI (z0 t L q))), (2, .int (nI L.length)), (3, .int 0), (4, .int (nI (z0 t L q)))]) hx hb d_L_placeAbove_91 hl (by decide) rfl (fun ls hl => ?_)
          refine lv_goto (tgt := 41) hx hb d_L_placeAbove_93 (by decide) ?_
          exact ih (found) ls (by omega) (by omega) (by omega) (lv_sub hl [0, 2, 3, 4, 5, 6, 7] rfl)
        · refine lv_icmp_gt (tgt := 87) hx hb d_L_placeAbove_56 (by decide) (fun c9 => absurd c9 (nI_nlt (by omega) (by omega))) (fun _ => ?_)
          refine lv_iload_n hx hb d_L_placeAbove_59 rfl (lv_at hl 6 rfl) ?_
          refine lv_if_eq (tgt := 72) hx hb d_L_placeAbove_60 (by decide) (fun _ => ?_) (fun c9 => absurd (rfl) c9)
          refine lv_aload_n hx hb d_L_placeAbove_72 rfl (lv_at hl 3 rfl) ?_
          refine lv_iload hx hb d_L_placeAbove_73 (lv_at hl 0 rfl) ?_
          refine cm_read (va_runV (As := [.int (nI (found + 2 ^ n))]) (rest := []) ⟨hx, hb, hml, hown, hts⟩ (m_L_zerosTo ok hL (found + 2 ^ n) (by omega)) ⟨ct_cb 1 hts x_132 x_129 x_5 rfl rfl (by decide +kernel) ⟨by decide, by decide⟩, hts _ x_130, hts _ x_131⟩ ⟨st_blind, va_recv hK hP (ci := 0) (q0 := 0) rfl rfl, fun U hU hW => ⟨rfl, hE.at hS hAB hU hW, by rw [hU]; exact hpre⟩⟩ rfl rfl hl.1 rfl (lv_room (Nat.le_of_ble_eq_true rfl)) d_L_placeAbove_75 ⟨by decide, by decide⟩) (fun v hv => ?_)
          subst hv
          refine W.eq (g2 := F0 m 78 ls [.int (nI (z0 t L (found + 2 ^ n)))]) rfl ?_
          refine lv_iload hx hb d_L_placeAbove_78 (lv_at hl 7 rfl) ?_
          have hab := lv_above0 (i := found + 2 ^ n) hq htx (by omega)
          have hz9 := z0_le t L (found + 2 ^ n)
          have hz8 := z0_le t L q
          refine lv_icmp_gt (tgt := 87) hx hb d_L_placeAbove_80 (by decide) (fun _ => ?_) (fun c9 => absurd (nI_lt (by omega) (by omega)) c9)
          refine lv_iload hx hb d_L_placeAbove_87 (lv_at hl 1 rfl) ?_
          refine lv_iconst (v := 2) hx hb d_L_placeAbove_89 (by decide) ?_
          refine lv_idiv hx hb d_L_placeAbove_90 (by decide) ?_
          refine ct_topi (x' := nI (2 ^ n / 2)) (pk_div (d := 2) (by omega) (by decide) (by decide)) ?_
          refine lv_istore (lv' := [(6, .int (nI (2 ^ n / 2))), (7, .int (nI (found + 2 ^ n))), (5, .int (nI found)), (0, .ref a0), (1, .int (nI (z0 t L q))), (2, .int (nI L.length)), (3, .int 0), (4, .int (nI (z0 t L q)))]) hx hb d_L_placeAbove_91 hl (by decide) rfl (fun ls hl => ?_)
          refine lv_goto (tgt := 41) hx hb d_L_placeAbove_93 (by decide) ?_
          exact ih (found) ls (by omega) (by omega) (by omega) (lv_sub hl [0, 2, 3, 4, 5, 6, 7] rfl)
      · refine lv_icmp_gt (tgt := 87) hx hb d_L_placeAbove_56 (by decide) (fun c9 => absurd c9 (nI_nlt (by omega) (by omega))) (fun _ => ?_)
        refine lv_iload_n hx hb d_L_placeAbove_59 rfl (lv_at hl 6 rfl) ?_
        refine lv_if_eq (tgt := 72) hx hb d_L_placeAbove_60 (by decide) (fun _ => ?_) (fun c9 => absurd (rfl) c9)
        refine lv_aload_n hx hb d_L_placeAbove_72 rfl (lv_at hl 3 rfl) ?_
        refine lv_iload hx hb d_L_placeAbove_73 (lv_at hl 0 rfl) ?_
        refine cm_read (va_runV (As := [.int (nI (found + 2 ^ n))]) (rest := []) ⟨hx, hb, hml, hown, hts⟩ (m_L_zerosTo ok hL (found + 2 ^ n) (by omega)) ⟨ct_cb 1 hts x_132 x_129 x_5 rfl rfl (by decide +kernel) ⟨by decide, by decide⟩, hts _ x_130, hts _ x_131⟩ ⟨st_blind, va_recv hK hP (ci := 0) (q0 := 0) rfl rfl, fun U hU hW => ⟨rfl, hE.at hS hAB hU hW, by rw [hU]; exact hpre⟩⟩ rfl rfl hl.1 rfl (lv_room (Nat.le_of_ble_eq_true rfl)) d_L_placeAbove_75 ⟨by decide, by decide⟩) (fun v hv => ?_)
        subst hv
        refine W.eq (g2 := F0 m 78 ls [.int (nI (z0 t L (found + 2 ^ n)))]) rfl ?_
        refine lv_iload hx hb d_L_placeAbove_78 (lv_at hl 7 rfl) ?_
        have hab := lv_above0 (i := found + 2 ^ n) hq htx (by omega)
        have hz9 := z0_le t L (found + 2 ^ n)
        have hz8 := z0_le t L q
        refine lv_icmp_gt (tgt := 87) hx hb d_L_placeAbove_80 (by decide) (fun c9 => absurd c9 (nI_nlt (by omega) (by omega))) (fun _ => ?_)
        refine lv_iload hx hb d_L_placeAbove_83 (lv_at hl 0 rfl) ?_
        refine lv_istore (lv' := [(5, .int (nI (found + 2 ^ n))), (7, .int (nI (found + 2 ^ n))), (6, .int (nI (2 ^ n))), (0, .ref a0), (1, .int (nI (z0 t L q))), (2, .int (nI L.length)), (3, .int 0), (4, .int (nI (z0 t L q)))]) hx hb d_L_placeAbove_85 hl (by decide) rfl (fun ls hl => ?_)
        refine lv_iload hx hb d_L_placeAbove_87 (lv_at hl 2 rfl) ?_
        refine lv_iconst (v := 2) hx hb d_L_placeAbove_89 (by decide) ?_
        refine lv_idiv hx hb d_L_placeAbove_90 (by decide) ?_
        refine ct_topi (x' := nI (2 ^ n / 2)) (pk_div (d := 2) (by omega) (by decide) (by decide)) ?_
        refine lv_istore (lv' := [(6, .int (nI (2 ^ n / 2))), (5, .int (nI (found + 2 ^ n))), (7, .int (nI (found + 2 ^ n))), (0, .ref a0), (1, .int (nI (z0 t L q))), (2, .int (nI L.length)), (3, .int 0), (4, .int (nI (z0 t L q)))]) hx hb d_L_placeAbove_91 hl (by decide) rfl (fun ls hl => ?_)
        refine lv_goto (tgt := 41) hx hb d_L_placeAbove_93 (by decide) ?_
        exact ih (found + 2 ^ n) ls (by omega) (by omega) (by omega) (lv_sub hl [0, 1, 3, 4, 5, 6, 7] rfl)
  exact loop 10 0 ls (by omega) (by omega) (by omega) (lv_sub hl [0, 1, 4, 5, 6, 3, 2] rfl)
set_option maxHeartbeats 4000000 in
set_option maxRecDepth 100000 in
theorem m_L_placeAbove_t {l : Launch} {D : va_G} {cI cJ cS cO : ClassId} {B0 : Nat} {a0 a1 a2 : Nat} {ja : Nat → Int64} {oa : Nat → Int32} {z : Int32} {t : Nat → Bool} {L : List Nat} (ok : LvOk t L ja oa z) (hL : L.length ≤ 1000) {q x : Nat} (hq : L[q]? = some x) (htx : t x = true) : CM l D (tyL cI cJ cS cO) B0 y_L_placeAbove c_L_placeAbove 8 (some .int) (rmK 3 0 0) [.ref a0, .int (nI (z0 t L L.length + z1 t L q)), .int (nI L.length)] (fun H => va_P D vwCl (Lw cJ cS a0 a1 a2 ja oa z) H) (fun v H0 H1 => v = some (.int (nI q)) ∧ H1 = H0) 0 0 (fun _ => False) := by
  refine cm_of (by decide) (Nat.le_of_ble_eq_true rfl) ?_
  intro p e s m below meth c ls hx hb hr hml hown hts hlocks hnm hE hpre hl
  have hown : s.vm.findClass "LevelRows$Level" = some m.cls := hown
  have hK := hE.1
  have hl : lv_has ls 8 [(0, .ref a0), (1, .int (nI (z0 t L L.length + z1 t L q))), (2, .int (nI L.length))] := hl
  have hP : va_P D vwCl [(a0, .inr (0, [.ref a1, .ref a2, .int z])), (a1, .inl (cJ, 16, .inr (.inl (ja)))), (a2, .inl (cS, 16, .inl (oa)))] s.heap := hpre
  have hS : va_S (fun _ => False) s.heap s.heap [] := va_S.rf
  have hAB : ∀ q : Nat, (fun _ : Nat => False) q → B0 ≤ q := fun _ h => h.elim
  have hql : q < L.length := (List.getElem?_eq_some_iff.mp hq).1
  have hza := z01 t (Nat.le_of_lt hql)
  have hzb := z01 t (Nat.le_refl L.length)
  refine lv_iload_n hx hb d_L_placeAbove_0 rfl (lv_at hl 1 rfl) ?_
  refine lv_aload_n hx hb d_L_placeAbove_1 rfl (lv_at hl 0 rfl) ?_
  refine va_get (D := D) (ci := 0) (v := .int z) (C := n_L) (T := f_L) (N := 3) hx hb hts in_L hown hK hP 0 rfl rfl 2 (by decide) (hts _ x_71) (fun _ h9 => h9) rfl d_L_placeAbove_2 ?_
  refine lv_icmp_lt (tgt := 12) hx hb d_L_placeAbove_5 (by decide) (fun c9 => absurd c9 (by rw [ok.2.2]; exact nI_nlt (by omega) (by omega))) (fun _ => ?_)
  refine lv_iconst (v := 1) hx hb d_L_placeAbove_8 (by decide) ?_
  refine lv_goto (tgt := 13) hx hb d_L_placeAbove_9 (by decide) ?_
  refine lv_istore_n (lv' := [(3, .int 1), (0, .ref a0), (1, .int (nI (z0 t L L.length + z1 t L q))), (2, .int (nI L.length))]) hx hb d_L_placeAbove_13 rfl hl (by decide) rfl (fun ls hl => ?_)
  refine lv_iload_n hx hb d_L_placeAbove_14 rfl (lv_at hl 0 rfl) ?_
  refine lv_if_eq (tgt := 27) hx hb d_L_placeAbove_15 (by decide) (fun c9 => absurd c9 (by decide)) (fun _ => ?_)
  refine lv_iload_n hx hb d_L_placeAbove_18 rfl (lv_at hl 2 rfl) ?_
  refine lv_aload_n hx hb d_L_placeAbove_19 rfl (lv_at hl 1 rfl) ?_
  refine va_get (D := D) (ci := 0) (v := .int z) (C := n_L) (T := f_L) (N := 3) hx hb hts in_L hown hK hP 0 rfl rfl 2 (by decide) (hts _ x_71) (fun _ h9 => h9) rfl d_L_placeAbove_20 ?_
  refine lv_isub hx hb d_L_placeAbove_23 ?_
  refine ct_topi (x' := nI (z1 t L q)) (by rw [ok.2.2, pk_sub (by omega)]; congr 1; omega) ?_
  refine lv_goto (tgt := 28) hx hb d_L_placeAbove_24 (by decide) ?_
  refine lv_istore (lv' := [(4, .int (nI (z1 t L q))), (3, .int 1), (0, .ref a0), (1, .int (nI (z0 t L L.length + z1 t L q))), (2, .int (nI L.length))]) hx hb d_L_placeAbove_28 hl (by decide) rfl (fun ls hl => ?_)
  refine lv_iconst (v := 0) hx hb d_L_placeAbove_30 (by decide) ?_
  refine lv_istore (lv' := [(5, .int 0), (4, .int (nI (z1 t L q))), (3, .int 1), (0, .ref a0), (1, .int (nI (z0 t L L.length + z1 t L q))), (2, .int (nI L.length))]) hx hb d_L_placeAbove_31 hl (by decide) rfl (fun ls hl => ?_)
  refine lv_sipush (v := 1000) hx hb d_L_placeAbove_33 (by decide) ?_
  refine cm_read (va_runS (As := [.int 1000]) (rest := []) ⟨hx, hb, hml, hown, hts⟩ (m_I_hob) ⟨ct_cb 1 hts x_352 x_350 x_4 rfl rfl (by decide +kernel) ⟨by decide, by decide⟩, hts _ x_351⟩ ⟨st_blind, fun U hU hW => ⟨rfl, hE.at hS hAB hU hW, by rw [hU]; exact trivial⟩⟩ rfl rfl hl.1 rfl (lv_room (Nat.le_of_ble_eq_true rfl)) d_L_placeAbove_36 ⟨by decide, by decide⟩) (fun v hv => ?_)
  subst hv
  refine W.eq (g2 := F0 m 39 ls [.int 512]) rfl ?_
  refine lv_istore (lv' := [(6, .int 512), (5, .int 0), (4, .int (nI (z1 t L q))), (3, .int 1), (0, .ref a0), (1, .int (nI (z0 t L L.length + z1 t L q))), (2, .int (nI L.length))]) hx hb d_L_placeAbove_39 hl (by decide) rfl (fun ls hl => ?_)
  have loop : ∀ (n found : Nat) (ls : Array Slot), n ≤ 10 → found ≤ q → q < found + 2 ^ n → lv_has ls 8 [(6, .int (nI (2 ^ n / 2))), (5, .int (nI found)), (0, .ref a0), (1, .int (nI (z0 t L L.length + z1 t L q))), (2, .int (nI L.length)), (3, .int 1), (4, .int (nI (z1 t L q)))] → W p l e (rmK 3 0 0) s m [.ref a0, .int (nI (z0 t L L.length + z1 t L q)), .int (nI L.length)].toArray below meth c s.heap [] (0) (0) (MQ below (stQ (fun v H0 H1 => v = some (.int (nI q)) ∧ H1 = H0)) [.ref a0, .int (nI (z0 t L L.length + z1 t L q)), .int (nI L.length)].toArray s 0 0 (fun _ => False)) (F0 m 41 ls []) := by
    intro n
    induction n with
    | zero =>
      intro found ls hn hf1 hf2 hl
      have hfq : found = q := by omega
      subst hfq
      refine lv_iload hx hb d_L_placeAbove_41 (lv_at hl 0 rfl) ?_
      refine lv_if_le (tgt := 96) hx hb d_L_placeAbove_43 (by decide) (fun _ => ?_) (fun c9 => absurd (by decide) c9)
      refine lv_iload hx hb d_L_placeAbove_96 (lv_at hl 1 rfl) ?_
      exact W.iret (v := nI found) hx hb hr (fun t ht hW => ⟨_, rfl, rfl, ht⟩) (fun _ h => nomatch h) d_L_placeAbove_98
    | succ n ih =>
      intro found ls hn hf1 hf2 hl
      have hp : 2 ^ (n + 1) = 2 * 2 ^ n := by rw [Nat.pow_succ, Nat.mul_comm]
      have hp0 : 0 < 2 ^ n := Nat.pos_of_ne_zero (by simp)
      have hp9 : 2 ^ n ≤ 512 := show 2 ^ n ≤ 2 ^ 9 from Nat.pow_le_pow_right (by omega) (by omega)
      have hp2 : 2 ^ (n + 1) / 2 = 2 ^ n := by omega
      rw [hp2] at hl
      refine lv_iload hx hb d_L_placeAbove_41 (lv_at hl 0 rfl) ?_
      refine lv_if_le (tgt := 96) hx hb d_L_placeAbove_43 (by decide) (fun c9 => absurd c9 (nI_nle hp0 (by omega))) (fun _ => ?_)
      refine lv_iload hx hb d_L_placeAbove_46 (lv_at hl 1 rfl) ?_
      refine lv_iload hx hb d_L_placeAbove_48 (lv_at hl 0 rfl) ?_
      refine lv_iadd hx hb d_L_placeAbove_50 ?_
      refine ct_topi (x' := nI (found + 2 ^ n)) (nI_add _ _) ?_
      refine lv_istore (lv' := [(7, .int (nI (found + 2 ^ n))), (6, .int (nI (2 ^ n))), (5, .int (nI found)), (0, .ref a0), (1, .int (nI (z0 t L L.length + z1 t L q))), (2, .int (nI L.length)), (3, .int 1), (4, .int (nI (z1 t L q)))]) hx hb d_L_placeAbove_51 hl (by decide) rfl (fun ls hl => ?_)
      refine lv_iload hx hb d_L_placeAbove_53 (lv_at hl 0 rfl) ?_
      refine lv_iload_n hx hb d_L_placeAbove_55 rfl (lv_at hl 5 rfl) ?_
      rcases Nat.lt_or_ge q (found + 2 ^ n) with hc | hc
      · rcases Nat.lt_or_ge L.length (found + 2 ^ n) with hd | hd
        · refine lv_icmp_gt (tgt := 87) hx hb d_L_placeAbove_56 (by decide) (fun _ => ?_) (fun c9 => absurd (nI_lt hd (by omega)) c9)
          refine lv_iload hx hb d_L_placeAbove_87 (lv_at hl 1 rfl) ?_
          refine lv_iconst (v := 2) hx hb d_L_placeAbove_89 (by decide) ?_
          refine lv_idiv hx hb d_L_placeAbove_90 (by decide) ?_
          refine ct_topi (x' := nI (2 ^ n / 2)) (pk_div (d := 2) (by omega) (by decide) (by decide)) ?_
          refine lv_istore (lv' := [(6, .int (nI (2 ^ n / 2))), (7, .int (nI (found + 2 ^ n))), (5, .int (nI found)), (0, .ref a0), (1, .int (nI (z0 t L L.length + z1 t L q))), (2, .int (nI L.length)), (3, .int 1), (4, .int (nI (z1 t L q)))]) hx hb d_L_placeAbove_91 hl (by decide) rfl (fun ls hl => ?_)
          refine lv_goto (tgt := 41) hx hb d_L_placeAbove_93 (by decide) ?_
          exact ih (found) ls (by omega) (by omega) (by omega) (lv_sub hl [0, 2, 3, 4, 5, 6, 7] rfl)
        · refine lv_icmp_gt (tgt := 87) hx hb d_L_placeAbove_56 (by decide) (fun c9 => absurd c9 (nI_nlt (by omega) (by omega))) (fun _ => ?_)
          refine lv_iload_n hx hb d_L_placeAbove_59 rfl (lv_at hl 6 rfl) ?_
          refine lv_if_eq (tgt := 72) hx hb d_L_placeAbove_60 (by decide) (fun c9 => absurd c9 (by decide)) (fun _ => ?_)
          refine lv_aload_n hx hb d_L_placeAbove_63 rfl (lv_at hl 3 rfl) ?_
          refine lv_iload hx hb d_L_placeAbove_64 (lv_at hl 0 rfl) ?_
          refine cm_read (va_runV (As := [.int (nI (found + 2 ^ n))]) (rest := []) ⟨hx, hb, hml, hown, hts⟩ (m_L_onesTo ok hL (found + 2 ^ n) (by omega)) ⟨ct_cb 1 hts x_136 x_133 x_5 rfl rfl (by decide +kernel) ⟨by decide, by decide⟩, hts _ x_135, hts _ s_L_onesTo⟩ ⟨st_blind, va_recv hK hP (ci := 0) (q0 := 0) rfl rfl, fun U hU hW => ⟨rfl, hE.at hS hAB hU hW, by rw [hU]; exact hpre⟩⟩ rfl rfl hl.1 rfl (lv_room (Nat.le_of_ble_eq_true rfl)) d_L_placeAbove_66 ⟨by decide, by decide⟩) (fun v hv => ?_)
          subst hv
          refine W.eq (g2 := F0 m 69 ls [.int (nI (z1 t L (found + 2 ^ n)))]) rfl ?_
          refine lv_goto (tgt := 78) hx hb d_L_placeAbove_69 (by decide) ?_
          refine lv_iload hx hb d_L_placeAbove_78 (lv_at hl 7 rfl) ?_
          have hab := lv_above1 (i := found + 2 ^ n) hq htx (by omega)
          have hz9 := z1_le t L (found + 2 ^ n)
          have hz8 := z1_le t L q
          refine lv_icmp_gt (tgt := 87) hx hb d_L_placeAbove_80 (by decide) (fun _ => ?_) (fun c9 => absurd (nI_lt (by omega) (by omega)) c9)
          refine lv_iload hx hb d_L_placeAbove_87 (lv_at hl 1 rfl) ?_
          refine lv_iconst (v := 2) hx hb d_L_placeAbove_89 (by decide) ?_
          refine lv_idiv hx hb d_L_placeAbove_90 (by decide) ?_
          refine ct_topi (x' := nI (2 ^ n / 2)) (pk_div (d := 2) (by omega) (by decide) (by decide)) ?_
          refine lv_istore (lv' := [(6, .int (nI (2 ^ n / 2))), (7, .int (nI (found + 2 ^ n))), (5, .int (nI found)), (0, .ref a0), (1, .int (nI (z0 t L L.length + z1 t L q))), (2, .int (nI L.length)), (3, .int 1), (4, .int (nI (z1 t L q)))]) hx hb d_L_placeAbove_91 hl (by decide) rfl (fun ls hl => ?_)
          refine lv_goto (tgt := 41) hx hb d_L_placeAbove_93 (by decide) ?_
          exact ih (found) ls (by omega) (by omega) (by omega) (lv_sub hl [0, 2, 3, 4, 5, 6, 7] rfl)
      · refine lv_icmp_gt (tgt := 87) hx hb d_L_placeAbove_56 (by decide) (fun c9 => absurd c9 (nI_nlt (by omega) (by omega))) (fun _ => ?_)
        refine lv_iload_n hx hb d_L_placeAbove_59 rfl (lv_at hl 6 rfl) ?_
        refine lv_if_eq (tgt := 72) hx hb d_L_placeAbove_60 (by decide) (fun c9 => absurd c9 (by decide)) (fun _ => ?_)
        refine lv_aload_n hx hb d_L_placeAbove_63 rfl (lv_at hl 3 rfl) ?_
        refine lv_iload hx hb d_L_placeAbove_64 (lv_at hl 0 rfl) ?_
        refine cm_read (va_runV (As := [.int (nI (found + 2 ^ n))]) (rest := []) ⟨hx, hb, hml, hown, hts⟩ (m_L_onesTo ok hL (found + 2 ^ n) (by omega)) ⟨ct_cb 1 hts x_136 x_133 x_5 rfl rfl (by decide +kernel) ⟨by decide, by decide⟩, hts _ x_135, hts _ s_L_onesTo⟩ ⟨st_blind, va_recv hK hP (ci := 0) (q0 := 0) rfl rfl, fun U hU hW => ⟨rfl, hE.at hS hAB hU hW, by rw [hU]; exact hpre⟩⟩ rfl rfl hl.1 rfl (lv_room (Nat.le_of_ble_eq_true rfl)) d_L_placeAbove_66 ⟨by decide, by decide⟩) (fun v hv => ?_)
        subst hv
        refine W.eq (g2 := F0 m 69 ls [.int (nI (z1 t L (found + 2 ^ n)))]) rfl ?_
        refine lv_goto (tgt := 78) hx hb d_L_placeAbove_69 (by decide) ?_
        refine lv_iload hx hb d_L_placeAbove_78 (lv_at hl 7 rfl) ?_
        have hab := lv_above1 (i := found + 2 ^ n) hq htx (by omega)
        have hz9 := z1_le t L (found + 2 ^ n)
        have hz8 := z1_le t L q
        refine lv_icmp_gt (tgt := 87) hx hb d_L_placeAbove_80 (by decide) (fun c9 => absurd c9 (nI_nlt (by omega) (by omega))) (fun _ => ?_)
        refine lv_iload hx hb d_L_placeAbove_83 (lv_at hl 0 rfl) ?_
        refine lv_istore (lv' := [(5, .int (nI (found + 2 ^ n))), (7, .int (nI (found + 2 ^ n))), (6, .int (nI (2 ^ n))), (0, .ref a0), (1, .int (nI (z0 t L L.length + z1 t L q))), (2, .int (nI L.length)), (3, .int 1), (4, .int (nI (z1 t L q)))]) hx hb d_L_placeAbove_85 hl (by decide) rfl (fun ls hl => ?_)
        refine lv_iload hx hb d_L_placeAbove_87 (lv_at hl 2 rfl) ?_
        refine lv_iconst (v := 2) hx hb d_L_placeAbove_89 (by decide) ?_
        refine lv_idiv hx hb d_L_placeAbove_90 (by decide) ?_
        refine ct_topi (x' := nI (2 ^ n / 2)) (pk_div (d := 2) (by omega) (by decide) (by decide)) ?_
        refine lv_istore (lv' := [(6, .int (nI (2 ^ n / 2))), (5, .int (nI (found + 2 ^ n))), (7, .int (nI (found + 2 ^ n))), (0, .ref a0), (1, .int (nI (z0 t L L.length + z1 t L q))), (2, .int (nI L.length)), (3, .int 1), (4, .int (nI (z1 t L q)))]) hx hb d_L_placeAbove_91 hl (by decide) rfl (fun ls hl => ?_)
        refine lv_goto (tgt := 41) hx hb d_L_placeAbove_93 (by decide) ?_
        exact ih (found + 2 ^ n) ls (by omega) (by omega) (by omega) (lv_sub hl [0, 1, 3, 4, 5, 6, 7] rfl)
  exact loop 10 0 ls (by omega) (by omega) (by omega) (lv_sub hl [0, 1, 4, 5, 6, 3, 2] rfl)
end
section
/-! Arrays.fill, the constructors of Part and Level, min and max. -/
set_option maxHeartbeats 4000000 in
set_option maxRecDepth 100000 in
theorem m_A_fillJ {l : Launch} {D : va_G} {cI cJ cS cO : ClassId} {B0 : Nat} {a : Nat} {N : Nat} (hN : N < 2 ^ 31) {g : Nat → Int64} (x : Int64) : CM l D (tyL cI cJ cS cO) B0 y_A_fillJ c_A_fillJ 5 none (rmK 0 0 0) [.ref a, .long x] (fun H => va_P D vwCl [(a, .inl (cJ, N, .inr (.inl g)))] H) (fun v H0 H1 => v = none ∧ fr (fun q => q = a) H0 H1 ∧ ∃ g, (∀ i, i < N → g i = x) ∧ va_P D vwCl [(a, .inl (cJ, N, .inr (.inl g)))] H1) 0 0 (fun q => q = a) := by
  refine cm_of (by decide) (Nat.le_of_ble_eq_true rfl) ?_
  intro p e s m below meth c ls hx hb hr hml hown hts hlocks hnm hE hpre hl
  have hown : s.vm.findClass "java/util/Arrays" = some m.cls := hown
  have hK := hE.1
  have hl : lv_has ls 5 [(0, .ref a), (1, .long x)] := hl
  have hS : va_S (fun q => q = a) s.heap s.heap [] := va_S.rf
  have hP : va_P D vwCl [(a, .inl (cJ, N, .inr (.inl (g))))] s.heap := hpre
  have hD : va_D (fun q => q = a) [(a, .inl (cJ, N, .inr (.inl (g))))] := va_D.one rfl
  refine lv_iconst (v := 0) hx hb d_A_fillJ_0 (by decide) ?_
  refine lv_istore_n (lv' := [(3, .int 0), (0, .ref a), (1, .long x)]) hx hb d_A_fillJ_1 rfl hl (by decide) rfl (fun ls hl => ?_)
  refine lv_aload_n hx hb d_A_fillJ_2 rfl (lv_at hl 1 rfl) ?_
  refine va_alen hx hb hK hP 0 1 rfl rfl (v := nI (N)) rfl d_A_fillJ_3 ?_
  refine lv_istore (lv' := [(4, .int (nI (N))), (3, .int 0), (0, .ref a), (1, .long x)]) hx hb d_A_fillJ_4 hl (by decide) rfl (fun ls hl => ?_)
  have loop : ∀ (n : Nat) (i : Nat) (g : Nat → Int64) (H : Heap) (locs : List Loc) (ls : Array Slot), (i + n = N) → (∀ j, j < i → g j = x) → va_S (fun q => q = a) s.heap H locs → va_P D vwCl [(a, .inl (cJ, N, .inr (.inl (g))))] H → va_D (fun q => q = a) [(a, .inl (cJ, N, .inr (.inl (g))))] → lv_has ls 5 [(3, .int (nI i)), (4, .int (nI N)), (0, .ref a), (1, .long x)] → W p l e (rmK 0 0 0) s m [.ref a, .long x].toArray below meth c H locs (0) (0) (MQ below (stQ (fun v H0 H1 => v = none ∧ fr (fun q => q = a) H0 H1 ∧ ∃ g, (∀ i, i < N → g i = x) ∧ va_P D vwCl [(a, .inl (cJ, N, .inr (.inl g)))] H1)) [.ref a, .long x].toArray s 0 0 (fun q => q = a)) (F0 m 6 ls []) := by
    intro n
    induction n with
    | zero =>
      intro i g H locs ls hin hg hS hP hD hl
      have hi : i = N := by omega
      subst hi
      refine lv_iload_n hx hb d_A_fillJ_6 rfl (lv_at hl 0 rfl) ?_
      refine lv_iload hx hb d_A_fillJ_7 (lv_at hl 1 rfl) ?_
      refine lv_icmp_ge (tgt := 22) hx hb d_A_fillJ_9 (by decide) (fun _ => ?_) (fun c9 => absurd (nI_le (Nat.le_refl _) (by omega)) c9)
      exact W.vret hx hb hr (fun t ht hW => ⟨_, rfl, by rw [ht]; exact ⟨rfl, fr.of hS, _, hg, hP⟩⟩) hS.2.2 d_A_fillJ_22
    | succ n ih =>
      intro i g H locs ls hin hg hS hP hD hl
      refine lv_iload_n hx hb d_A_fillJ_6 rfl (lv_at hl 0 rfl) ?_
      refine lv_iload hx hb d_A_fillJ_7 (lv_at hl 1 rfl) ?_
      refine lv_icmp_ge (tgt := 22) hx hb d_A_fillJ_9 (by decide) (fun c9 => absurd c9 (nI_ge (by omega) (by omega))) (fun _ => ?_)
      refine lv_aload_n hx hb d_A_fillJ_12 rfl (lv_at hl 2 rfl) ?_
      refine lv_iload_n hx hb d_A_fillJ_13 rfl (lv_at hl 0 rfl) ?_
      refine lv_lload_n hx hb d_A_fillJ_14 rfl (lv_at hl 3 rfl) ?_
      refine va_last hx hb hK hP hD hS 0 1 rfl rfl (vp_in_nI (by omega) hN) d_A_fillJ_15 (fun H locs hP hD hS => ?_)
      have hP : va_P D vwCl [(a, .inl (cJ, N, .inr (.inl (vp_updL g (nI i).toNatClampNeg x))))] H := hP
      have hD : va_D (fun q => q = a) [(a, .inl (cJ, N, .inr (.inl (vp_updL g (nI i).toNatClampNeg x))))] := hD
      refine lv_iinc (v := nI (i + 1)) (lv' := [(3, .int (nI (i + 1))), (4, .int (nI N)), (0, .ref a), (1, .long x)]) hx hb d_A_fillJ_16 hl (k := 0) rfl ((nI_succ i).symm) (by decide) rfl (fun ls hl => ?_)
      refine lv_goto (tgt := 6) hx hb d_A_fillJ_19 (by decide) ?_
      refine ih (i + 1) _ H locs ls (by omega) (fun j hj => ?_) hS hP hD (lv_sub hl [0, 1, 2, 3] rfl)
      rw [nI_clamp (by omega)]
      by_cases e : j = i
      · simp only [vp_updL, e, if_true]
      · simp only [vp_updL, if_neg e]
        exact hg j (by omega)
  exact loop N 0 g s.heap [] ls (by omega) (fun j hj => absurd hj (Nat.not_lt_zero j)) hS hP hD (lv_sub hl [1, 0, 2, 3] rfl)
set_option maxHeartbeats 4000000 in
set_option maxRecDepth 100000 in
theorem m_A_fillI {l : Launch} {D : va_G} {cI cJ cS cO : ClassId} {B0 : Nat} {a : Nat} {N : Nat} (hN : N < 2 ^ 31) {g : Nat → Int32} (x : Int32) : CM l D (tyL cI cJ cS cO) B0 y_A_fillI c_A_fillI 4 none (rmK 0 0 0) [.ref a, .int x] (fun H => va_P D vwCl [(a, .inl (cI, N, .inl g))] H) (fun v H0 H1 => v = none ∧ fr (fun q => q = a) H0 H1 ∧ ∃ g, (∀ i, i < N → g i = x) ∧ va_P D vwCl [(a, .inl (cI, N, .inl g))] H1) 0 0 (fun q => q = a) := by
  refine cm_of (by decide) (Nat.le_of_ble_eq_true rfl) ?_
  intro p e s m below meth c ls hx hb hr hml hown hts hlocks hnm hE hpre hl
  have hown : s.vm.findClass "java/util/Arrays" = some m.cls := hown
  have hK := hE.1
  have hl : lv_has ls 4 [(0, .ref a), (1, .int x)] := hl
  have hS : va_S (fun q => q = a) s.heap s.heap [] := va_S.rf
  have hP : va_P D vwCl [(a, .inl (cI, N, .inl (g)))] s.heap := hpre
  have hD : va_D (fun q => q = a) [(a, .inl (cI, N, .inl (g)))] := va_D.one rfl
  refine lv_iconst (v := 0) hx hb d_A_fillI_0 (by decide) ?_
  refine lv_istore_n (lv' := [(2, .int 0), (0, .ref a), (1, .int x)]) hx hb d_A_fillI_1 rfl hl (by decide) rfl (fun ls hl => ?_)
  refine lv_aload_n hx hb d_A_fillI_2 rfl (lv_at hl 1 rfl) ?_
  refine va_alen hx hb hK hP 0 0 rfl rfl (v := nI (N)) rfl d_A_fillI_3 ?_
  refine lv_istore_n (lv' := [(3, .int (nI (N))), (2, .int 0), (0, .ref a), (1, .int x)]) hx hb d_A_fillI_4 rfl hl (by decide) rfl (fun ls hl => ?_)
  have loop : ∀ (n : Nat) (i : Nat) (g : Nat → Int32) (H : Heap) (locs : List Loc) (ls : Array Slot), (i + n = N) → (∀ j, j < i → g j = x) → va_S (fun q => q = a) s.heap H locs → va_P D vwCl [(a, .inl (cI, N, .inl (g)))] H → va_D (fun q => q = a) [(a, .inl (cI, N, .inl (g)))] → lv_has ls 4 [(2, .int (nI i)), (3, .int (nI N)), (0, .ref a), (1, .int x)] → W p l e (rmK 0 0 0) s m [.ref a, .int x].toArray below meth c H locs (0) (0) (MQ below (stQ (fun v H0 H1 => v = none ∧ fr (fun q => q = a) H0 H1 ∧ ∃ g, (∀ i, i < N → g i = x) ∧ va_P D vwCl [(a, .inl (cI, N, .inl g))] H1)) [.ref a, .int x].toArray s 0 0 (fun q => q = a)) (F0 m 5 ls []) := by
    intro n
    induction n with
    | zero =>
      intro i g H locs ls hin hg hS hP hD hl
      have hi : i = N := by omega
      subst hi
      refine lv_iload_n hx hb d_A_fillI_5 rfl (lv_at hl 0 rfl) ?_
      refine lv_iload_n hx hb d_A_fillI_6 rfl (lv_at hl 1 rfl) ?_
      refine lv_icmp_ge (tgt := 20) hx hb d_A_fillI_7 (by decide) (fun _ => ?_) (fun c9 => absurd (nI_le (Nat.le_refl _) (by omega)) c9)
      exact W.vret hx hb hr (fun t ht hW => ⟨_, rfl, by rw [ht]; exact ⟨rfl, fr.of hS, _, hg, hP⟩⟩) hS.2.2 d_A_fillI_20
    | succ n ih =>
      intro i g H locs ls hin hg hS hP hD hl
      refine lv_iload_n hx hb d_A_fillI_5 rfl (lv_at hl 0 rfl) ?_
      refine lv_iload_n hx hb d_A_fillI_6 rfl (lv_at hl 1 rfl) ?_
      refine lv_icmp_ge (tgt := 20) hx hb d_A_fillI_7 (by decide) (fun c9 => absurd c9 (nI_ge (by omega) (by omega))) (fun _ => ?_)
      refine lv_aload_n hx hb d_A_fillI_10 rfl (lv_at hl 2 rfl) ?_
      refine lv_iload_n hx hb d_A_fillI_11 rfl (lv_at hl 0 rfl) ?_
      refine lv_iload_n hx hb d_A_fillI_12 rfl (lv_at hl 3 rfl) ?_
      refine va_iast hx hb hK hP hD hS 0 0 rfl rfl (vp_in_nI (by omega) hN) d_A_fillI_13 (fun H locs hP hD hS => ?_)
      have hP : va_P D vwCl [(a, .inl (cI, N, .inl (upd g (nI i).toNatClampNeg x)))] H := hP
      have hD : va_D (fun q => q = a) [(a, .inl (cI, N, .inl (upd g (nI i).toNatClampNeg x)))] := hD
      refine lv_iinc (v := nI (i + 1)) (lv' := [(2, .int (nI (i + 1))), (3, .int (nI N)), (0, .ref a), (1, .int x)]) hx hb d_A_fillI_14 hl (k := 0) rfl ((nI_succ i).symm) (by decide) rfl (fun ls hl => ?_)
      refine lv_goto (tgt := 5) hx hb d_A_fillI_17 (by decide) ?_
      refine ih (i + 1) _ H locs ls (by omega) (fun j hj => ?_) hS hP hD (lv_sub hl [0, 1, 2, 3] rfl)
      rw [nI_clamp (by omega)]
      by_cases e : j = i
      · simp only [upd, e, if_true]
      · simp only [upd, if_neg e]
        exact hg j (by omega)
  exact loop N 0 g s.heap [] ls (by omega) (fun j hj => absurd hj (Nat.not_lt_zero j)) hS hP hD (lv_sub hl [1, 0, 2, 3] rfl)
set_option maxHeartbeats 4000000 in
set_option maxRecDepth 100000 in
theorem m_P_init {l : Launch} {D : va_G} {cI cJ cS cO : ClassId} {B0 : Nat} {ap : Nat} : CM l D (tyL cI cJ cS cO) B0 y_P_init c_P_init 1 none (rmK 1 0 0) [.ref ap] (fun _ => True) (fun v H0 H1 => v = none ∧ H1 = H0) 0 0 (fun _ => False) := by
  refine cm_of (by decide) (Nat.le_of_ble_eq_true rfl) ?_
  intro p e s m below meth c ls hx hb hr hml hown hts hlocks hnm hE hpre hl
  have hown : s.vm.findClass "LevelRows$Part" = some m.cls := hown
  have hK := hE.1
  have hl : lv_has ls 1 [(0, .ref ap)] := hl
  refine lv_aload_n hx hb d_P_init_0 rfl (lv_at hl 0 rfl) ?_
  refine W.objInit hx hb hown (hts _ x_29) (hts _ x_22) (hts _ x_23) rfl (by rw [hml]; exact hl.1) rfl d_P_init_1 (by decide) (Nat.le_of_ble_eq_true rfl) ?_
  refine W.eq (g2 := F0 m 4 ls []) rfl ?_
  exact W.vret hx hb hr (fun t ht hW => ⟨_, rfl, rfl, ht⟩) (fun _ h => nomatch h) d_P_init_4
set_option maxHeartbeats 4000000 in
set_option maxRecDepth 100000 in
theorem m_L_init {l : Launch} {D : va_G} {cI cJ cS cO : ClassId} {B0 : Nat} {a0 sz : Nat} : CM l D (tyL cI cJ cS cO) B0 y_L_init c_L_init 1 none (rmK 1 2 32) [.ref a0] (fun H => H.size = sz ∧ va_P D vwCl [(a0, .inr (0, [.null, .null, .int 0]))] H) (fun v H0 H1 => v = none ∧ fr (fun q => q = a0 ∨ sz ≤ q) H0 H1 ∧ ∃ a1 a2, sz ≤ a1 ∧ sz ≤ a2 ∧ a1 ≠ a2 ∧ va_P D vwCl (Lw cJ cS a0 a1 a2 (fun _ => 0) (fun _ => 0) 0) H1) 2 32 (fun q => q = a0 ∨ sz ≤ q) := by
  refine cm_of (by decide) (Nat.le_of_ble_eq_true rfl) ?_
  intro p e s m below meth c ls hx hb hr hml hown hts hlocks hnm hE hpre hl
  have hown : s.vm.findClass "LevelRows$Level" = some m.cls := hown
  have hK := hE.1
  have hl : lv_has ls 1 [(0, .ref a0)] := hl
  obtain ⟨hz, hpre⟩ := hpre
  subst hz
  have ha0 : a0 < s.heap.size := (hpre 0 _ rfl).lt
  have hA : ∀ q, s.heap.size ≤ q → (fun q => q = a0 ∨ s.heap.size ≤ q) q := fun q h => Or.inr h
  have hS : va_S (fun q => q = a0 ∨ s.heap.size ≤ q) s.heap s.heap [] := va_S.rf
  have hP : va_P D vwCl [(a0, .inr (0, [.null, .null, .int 0]))] s.heap := hpre
  have hD : va_D (fun q => q = a0 ∨ s.heap.size ≤ q) [(a0, .inr (0, [.null, .null, .int 0]))] := va_D.one (Or.inl rfl)
  refine lv_aload_n hx hb d_L_init_0 rfl (lv_at hl 0 rfl) ?_
  refine W.objInit hx hb hown (hts _ x_68) (hts _ x_22) (hts _ x_23) rfl (by rw [hml]; exact hl.1) rfl d_L_init_1 (by decide) (Nat.le_of_ble_eq_true rfl) ?_
  refine W.eq (g2 := F0 m 4 ls []) rfl ?_
  refine lv_aload_n hx hb d_L_init_4 rfl (lv_at hl 0 rfl) ?_
  refine lv_bipush (v := 16) hx hb d_L_init_5 (by decide) ?_
  refine va_newa (atype := .long) hx hb (hts _ x_80) rfl hK hP hD hS hA (a0 := (16, .inr (.inl (fun _ => 0)))) (fun _ => rfl) (by decide) rfl (by decide) (Nat.le_of_ble_eq_true rfl) (Nat.le_of_ble_eq_true rfl) d_L_init_7 (fun a1 cA H hK9 hP hD hS => ?_)
  have e9 : cA = cJ := Option.some.inj ((hK9.2 4 _ rfl).2.symm.trans (hK9.2 1 _ rfl).2)
  rw [e9] at hP hD
  have hP : va_P D vwCl [(a0, .inr (0, [.null, .null, .int 0])), (a1, .inl (cJ, 16, .inr (.inl (fun _ => 0))))] H := hP
  have hD : va_D (fun q => q = a0 ∨ s.heap.size ≤ q) [(a0, .inr (0, [.null, .null, .int 0])), (a1, .inl (cJ, 16, .inr (.inl (fun _ => 0))))] := hD
  refine va_putF (D := D) (ci := 0) (v := .ref a1) (ty := .array .long) (C := n_L) (T := f_L) (N := 3) hx hb hts in_L t_L ty_L nm_L hown hK hP hD hS 0 rfl rfl 0 (by decide) (hts _ x_69) (fun _ h9 => h9) rfl hnm rfl (by decide +kernel) rfl rfl (Nat.le_of_ble_eq_true rfl) d_L_init_9 (fun H locs hP hD hS => ?_)
  have hP : va_P D vwCl [(a0, .inr (0, [.ref a1, .null, .int 0])), (a1, .inl (cJ, 16, .inr (.inl (fun _ => 0))))] H := hP
  have hD : va_D (fun q => q = a0 ∨ s.heap.size ≤ q) [(a0, .inr (0, [.ref a1, .null, .int 0])), (a1, .inl (cJ, 16, .inr (.inl (fun _ => 0))))] := hD
  refine lv_aload_n hx hb d_L_init_12 rfl (lv_at hl 0 rfl) ?_
  refine lv_bipush (v := 16) hx hb d_L_init_13 (by decide) ?_
  refine va_newa (atype := .short) hx hb (hts _ x_81) rfl hK hP hD hS hA (a0 := (16, .inl (fun _ => 0))) (fun _ => rfl) (by decide) rfl (by decide) (Nat.le_of_ble_eq_true rfl) (Nat.le_of_ble_eq_true rfl) d_L_init_15 (fun a2 cA H hK9 hP hD hS => ?_)
  have e9 : cA = cS := Option.some.inj ((hK9.2 4 _ rfl).2.symm.trans (hK9.2 2 _ rfl).2)
  rw [e9] at hP hD
  have hP : va_P D vwCl [(a0, .inr (0, [.ref a1, .null, .int 0])), (a1, .inl (cJ, 16, .inr (.inl (fun _ => 0)))), (a2, .inl (cS, 16, .inl (fun _ => 0)))] H := hP
  have hD : va_D (fun q => q = a0 ∨ s.heap.size ≤ q) [(a0, .inr (0, [.ref a1, .null, .int 0])), (a1, .inl (cJ, 16, .inr (.inl (fun _ => 0)))), (a2, .inl (cS, 16, .inl (fun _ => 0)))] := hD
  refine va_putF (D := D) (ci := 0) (v := .ref a2) (ty := .array .short) (C := n_L) (T := f_L) (N := 3) hx hb hts in_L t_L ty_L nm_L hown hK hP hD hS 0 rfl rfl 1 (by decide) (hts _ x_70) (fun _ h9 => h9) rfl hnm rfl (by decide +kernel) rfl rfl (Nat.le_of_ble_eq_true rfl) d_L_init_17 (fun H locs hP hD hS => ?_)
  have hP : va_P D vwCl [(a0, .inr (0, [.ref a1, .ref a2, .int 0])), (a1, .inl (cJ, 16, .inr (.inl (fun _ => 0)))), (a2, .inl (cS, 16, .inl (fun _ => 0)))] H := hP
  have hD : va_D (fun q => q = a0 ∨ s.heap.size ≤ q) [(a0, .inr (0, [.ref a1, .ref a2, .int 0])), (a1, .inl (cJ, 16, .inr (.inl (fun _ => 0)))), (a2, .inl (cS, 16, .inl (fun _ => 0)))] := hD
  have e1 : a1 ≠ a0 := fun h => absurd (hD.1 1 0 _ _ rfl rfl h) (by decide)
  have e2 : a2 ≠ a0 := fun h => absurd (hD.1 2 0 _ _ rfl rfl h) (by decide)
  have e3 : a1 ≠ a2 := fun h => absurd (hD.1 1 2 _ _ rfl rfl h) (by decide)
  exact W.vret hx hb hr (fun t ht hW => ⟨_, rfl, by rw [ht]; exact ⟨rfl, fr.of hS, a1, a2, (hD.2 1 _ rfl).resolve_left e1, (hD.2 2 _ rfl).resolve_left e2, e3, hP⟩⟩) hS.2.2 d_L_init_20
end
section
/-! Level.store. -/
set_option maxHeartbeats 4000000 in
set_option maxRecDepth 100000 in
theorem m_L_store {l : Launch} {D : va_G} {cI cJ cS cO : ClassId} {B0 : Nat} {a0 a1 a2 ar ax : Nat} {ja : Nat → Int64} {oa : Nat → Int32} {z : Int32} {rf sf : Nat → Int32} {t : Nat → Bool} {L : List Nat} {sh : Nat} (hsh : sh < 16) (htt : ∀ x, t x = decide (x / 2 ^ sh % 2 = 1)) (hL : L.length ≤ 1000) (hx16 : ∀ x ∈ L, x < 65536) (hr0 : ∀ i x, L[i]? = some x → rf i = nI x) (hD : va_D (fun q => q = a0 ∨ q = a1 ∨ q = a2 ∨ q = ar ∨ q = ax) [(a0, .inr (0, [.ref a1, .ref a2, .int z])), (a1, .inl (cJ, 16, .inr (.inl (ja)))), (a2, .inl (cS, 16, .inl (oa))), (ar, .inl (cI, 1000, .inl (rf))), (ax, .inl (cI, 1000, .inl (sf)))]) (hAB : ∀ q, (fun q => q = a0 ∨ q = a1 ∨ q = a2 ∨ q = ar ∨ q = ax) q → B0 ≤ q) : CM l D (tyL cI cJ cS cO) B0 y_L_store c_L_store 9 none (rmK 1 0 0) [.ref a0, .ref ar, .int (nI L.length), .int (nI sh), .ref ax] (fun H => va_P D vwCl [(a0, .inr (0, [.ref a1, .ref a2, .int z])), (a1, .inl (cJ, 16, .inr (.inl (ja)))), (a2, .inl (cS, 16, .inl (oa))), (ar, .inl (cI, 1000, .inl (rf))), (ax, .inl (cI, 1000, .inl (sf)))] H) (fun v H0 H1 => v = none ∧ fr (fun q => q = a0 ∨ q = a1 ∨ q = a2 ∨ q = ar ∨ q = ax) H0 H1 ∧ ∃ ja oa rf sf, LvOk t L ja oa (nI (z0 t L L.length)) ∧ (∀ i x, (wpart t L)[i]? = some x → rf i = nI x) ∧ va_P D vwCl [(a0, .inr (0, [.ref a1, .ref a2, .int (nI (z0 t L L.length))])), (a1, .inl (cJ, 16, .inr (.inl (ja)))), (a2, .inl (cS, 16, .inl (oa))), (ar, .inl (cI, 1000, .inl (rf))), (ax, .inl (cI, 1000, .inl (sf)))] H1) 0 0 (fun q => q = a0 ∨ q = a1 ∨ q = a2 ∨ q = ar ∨ q = ax) := by
  refine cm_of (by decide) (Nat.le_of_ble_eq_true rfl) ?_
  intro p e s m below meth c ls hx hb hr hml hown hts hlocks hnm hE hpre hl
  have hown : s.vm.findClass "LevelRows$Level" = some m.cls := hown
  have hK := hE.1
  have hl : lv_has ls 9 [(0, .ref a0), (1, .ref ar), (2, .int (nI L.length)), (3, .int (nI sh)), (4, .ref ax)] := hl
  have hS : va_S (fun q => q = a0 ∨ q = a1 ∨ q = a2 ∨ q = ar ∨ q = ax) s.heap s.heap [] := va_S.rf
  have hP : va_P D vwCl [(a0, .inr (0, [.ref a1, .ref a2, .int z])), (a1, .inl (cJ, 16, .inr (.inl (ja)))), (a2, .inl (cS, 16, .inl (oa))), (ar, .inl (cI, 1000, .inl (rf))), (ax, .inl (cI, 1000, .inl (sf)))] s.heap := hpre
  refine lv_aload_n hx hb d_L_store_0 rfl (lv_at hl 0 rfl) ?_
  refine va_get (D := D) (ci := 0) (v := .ref a1) (C := n_L) (T := f_L) (N := 3) hx hb hts in_L hown hK hP 0 rfl rfl 0 (by decide) (hts _ x_69) (fun _ h9 => h9) rfl d_L_store_1 ?_
  refine lv_lconst (v := 0) hx hb d_L_store_4 (by decide) ?_
  refine cm_ret (va_runS (As := [.ref a1, .long 0]) (rest := []) ⟨hx, hb, hml, hown, hts⟩ (m_A_fillJ (N := 16) (g := ja) (by decide) 0) ⟨ct_cb 2 hts x_157 x_155 x_14 rfl rfl (by decide +kernel) ⟨by decide, by decide⟩, hts _ x_156⟩ ⟨st_blind, fun U hU hW => ⟨rfl, hE.at hS hAB hU hW, by rw [hU]; exact hP.sub [1] rfl⟩⟩ rfl rfl hl.1 rfl (lv_room (Nat.le_of_ble_eq_true rfl)) d_L_store_5 ⟨by decide, by decide⟩) hS (fun q h => Or.inr (Or.inl h)) (fun _ _ h => h.2.1) (fun v H locs hv hS => ?_)
  obtain ⟨rfl, hfr, g, hg, hP1⟩ := hv
  refine W.eq (g2 := F0 m 8 ls []) rfl ?_
  have hP : va_P D vwCl [(a0, .inr (0, [.ref a1, .ref a2, .int z])), (a1, .inl (cJ, 16, .inr (.inl (g)))), (a2, .inl (cS, 16, .inl (oa))), (ar, .inl (cI, 1000, .inl (rf))), (ax, .inl (cI, 1000, .inl (sf)))] H := va_P.wset (p := 1) hP hD rfl hP1 hfr
  have hD : va_D (fun q => q = a0 ∨ q = a1 ∨ q = a2 ∨ q = ar ∨ q = ax) [(a0, .inr (0, [.ref a1, .ref a2, .int z])), (a1, .inl (cJ, 16, .inr (.inl (g)))), (a2, .inl (cS, 16, .inl (oa))), (ar, .inl (cI, 1000, .inl (rf))), (ax, .inl (cI, 1000, .inl (sf)))] := va_D.set (p := 1) hD rfl
  refine lv_aload_n hx hb d_L_store_8 rfl (lv_at hl 0 rfl) ?_
  refine lv_iconst (v := 0) hx hb d_L_store_9 (by decide) ?_
  refine va_put (D := D) (ci := 0) (v := .int 0) (ty := .int) (C := n_L) (T := f_L) (N := 3) hx hb hts in_L t_L ty_L nm_L hown hK hP hD hS 0 rfl rfl 2 (by decide) (hts _ x_71) (fun _ h9 => h9) rfl (by decide +kernel) rfl rfl (Nat.le_of_ble_eq_true rfl) d_L_store_10 (fun H locs hP hD hS => ?_)
  have hP : va_P D vwCl [(a0, .inr (0, [.ref a1, .ref a2, .int 0])), (a1, .inl (cJ, 16, .inr (.inl (g)))), (a2, .inl (cS, 16, .inl (oa))), (ar, .inl (cI, 1000, .inl (rf))), (ax, .inl (cI, 1000, .inl (sf)))] H := hP
  have hD : va_D (fun q => q = a0 ∨ q = a1 ∨ q = a2 ∨ q = ar ∨ q = ax) [(a0, .inr (0, [.ref a1, .ref a2, .int 0])), (a1, .inl (cJ, 16, .inr (.inl (g)))), (a2, .inl (cS, 16, .inl (oa))), (ar, .inl (cI, 1000, .inl (rf))), (ax, .inl (cI, 1000, .inl (sf)))] := hD
  refine lv_iconst (v := 0) hx hb d_L_store_13 (by decide) ?_
  refine lv_istore (lv' := [(5, .int 0), (0, .ref a0), (1, .ref ar), (2, .int (nI L.length)), (3, .int (nI sh)), (4, .ref ax)]) hx hb d_L_store_14 hl (by decide) rfl (fun ls hl => ?_)
  refine lv_iconst (v := 0) hx hb d_L_store_16 (by decide) ?_
  refine lv_istore (lv' := [(6, .int 0), (5, .int 0), (0, .ref a0), (1, .ref ar), (2, .int (nI L.length)), (3, .int (nI sh)), (4, .ref ax)]) hx hb d_L_store_17 hl (by decide) rfl (fun ls hl => ?_)
  have loop : ∀ (n : Nat) (k : Nat) (ja : Nat → Int64) (oa : Nat → Int32) (rf : Nat → Int32) (sf : Nat → Int32) (H : Heap) (locs : List Loc) (ls : Array Slot), (k + n = L.length) → (StI t L k k ja oa rf sf) → va_S (fun q => q = a0 ∨ q = a1 ∨ q = a2 ∨ q = ar ∨ q = ax) s.heap H locs → va_P D vwCl [(a0, .inr (0, [.ref a1, .ref a2, .int (nI (z0 t L k))])), (a1, .inl (cJ, 16, .inr (.inl (ja)))), (a2, .inl (cS, 16, .inl (oa))), (ar, .inl (cI, 1000, .inl (rf))), (ax, .inl (cI, 1000, .inl (sf)))] H → va_D (fun q => q = a0 ∨ q = a1 ∨ q = a2 ∨ q = ar ∨ q = ax) [(a0, .inr (0, [.ref a1, .ref a2, .int (nI (z0 t L k))])), (a1, .inl (cJ, 16, .inr (.inl (ja)))), (a2, .inl (cS, 16, .inl (oa))), (ar, .inl (cI, 1000, .inl (rf))), (ax, .inl (cI, 1000, .inl (sf)))] → lv_has ls 9 [(6, .int (nI k)), (5, .int (nI (z1 t L k))), (0, .ref a0), (1, .ref ar), (2, .int (nI L.length)), (3, .int (nI sh)), (4, .ref ax)] → W p l e (rmK 1 0 0) s m [.ref a0, .ref ar, .int (nI L.length), .int (nI sh), .ref ax].toArray below meth c H locs (0) (0) (MQ below (stQ (fun v H0 H1 => v = none ∧ fr (fun q => q = a0 ∨ q = a1 ∨ q = a2 ∨ q = ar ∨ q = ax) H0 H1 ∧ ∃ ja oa rf sf, LvOk t L ja oa (nI (z0 t L L.length)) ∧ (∀ i x, (wpart t L)[i]? = some x → rf i = nI x) ∧ va_P D vwCl [(a0, .inr (0, [.ref a1, .ref a2, .int (nI (z0 t L L.length))])), (a1, .inl (cJ, 16, .inr (.inl (ja)))), (a2, .inl (cS, 16, .inl (oa))), (ar, .inl (cI, 1000, .inl (rf))), (ax, .inl (cI, 1000, .inl (sf)))] H1)) [.ref a0, .ref ar, .int (nI L.length), .int (nI sh), .ref ax].toArray s 0 0 (fun q => q = a0 ∨ q = a1 ∨ q = a2 ∨ q = ar ∨ q = ax)) (F0 m 19 ls []) := by
    intro n
    induction n with
    | zero =>
      intro k ja oa rf sf H locs ls hin hI hS hP hD hl
      have hpL : k = L.length := by omega
      have hz := z01 t (show k ≤ L.length by omega)
      refine lv_iload hx hb d_L_store_19 (lv_at hl 0 rfl) ?_
      refine lv_iload_n hx hb d_L_store_21 rfl (lv_at hl 4 rfl) ?_
      refine lv_icmp_ge (tgt := 119) hx hb d_L_store_22 (by decide) (fun _ => ?_) (fun c9 => absurd (nI_le (by omega) (by omega)) c9)
      refine lv_aload hx hb d_L_store_119 (lv_at hl 6 rfl) ?_
      refine lv_iconst (v := 0) hx hb d_L_store_121 (by decide) ?_
      refine lv_aload_n hx hb d_L_store_122 rfl (lv_at hl 3 rfl) ?_
      refine lv_aload_n hx hb d_L_store_123 rfl (lv_at hl 2 rfl) ?_
      refine va_get (D := D) (ci := 0) (v := .int (nI (z0 t L k))) (C := n_L) (T := f_L) (N := 3) hx hb hts in_L hown hK hP 0 rfl rfl 2 (by decide) (hts _ x_71) (fun _ h9 => h9) rfl d_L_store_124 ?_
      refine lv_iload hx hb d_L_store_127 (lv_at hl 1 rfl) ?_
      refine va_copyi hx hb (by rw [hml]; exact hl.1.symm) hown (hts _ x_158) (hts _ x_160) (hts _ x_159) (hts _ x_15) hK hP hD hS 4 3 0 0 rfl rfl rfl rfl rfl (by decide) (nI_pos (by omega)) (nI_pos (by omega)) (by rw [nI_clamp (by omega)]; show 0 + _ ≤ _; omega) (by rw [nI_clamp (by omega), nI_clamp (by omega)]; omega) (fun _ _ => rfl) (by decide) (Nat.le_of_ble_eq_true rfl) d_L_store_129 (fun H locs hP hD hS => ?_)
      rw [nI_clamp (by omega), nI_clamp (by omega)] at hP
      subst hpL
      refine W.eq (g2 := F0 m 132 ls []) rfl ?_
      exact W.vret hx hb hr (fun t ht hW => ⟨_, rfl, by rw [ht]; exact ⟨rfl, fr.of hS, _, _, _, _, hI.done.1, hI.done.2, hP⟩⟩) hS.2.2 d_L_store_132
    | succ n ih =>
      intro k ja oa rf sf H locs ls hin hI hS hP hD hl
      obtain ⟨x, hxp⟩ : ∃ x, L[k]? = some x := ⟨L[k], List.getElem?_eq_getElem (by omega)⟩
      have hx1 := hx16 x (List.mem_of_getElem? hxp)
      have hz := z01 t (show k ≤ L.length by omega)
      refine lv_iload hx hb d_L_store_19 (lv_at hl 0 rfl) ?_
      refine lv_iload_n hx hb d_L_store_21 rfl (lv_at hl 4 rfl) ?_
      refine lv_icmp_ge (tgt := 119) hx hb d_L_store_22 (by decide) (fun c9 => absurd c9 (nI_ge (by omega) (by omega))) (fun _ => ?_)
      refine lv_iload hx hb d_L_store_25 (lv_at hl 0 rfl) ?_
      refine lv_bipush (v := 6) hx hb d_L_store_27 (by decide) ?_
      refine lv_ishr hx hb d_L_store_29 ?_
      refine ct_topi (x' := nI (k / 64)) (pk_shrN (by omega) _ 6 (by decide)) ?_
      refine lv_istore (lv' := [(7, .int (nI (k / 64))), (6, .int (nI k)), (5, .int (nI (z1 t L k))), (0, .ref a0), (1, .ref ar), (2, .int (nI L.length)), (3, .int (nI sh)), (4, .ref ax)]) hx hb d_L_store_30 hl (by decide) rfl (fun ls hl => ?_)
      refine lv_iload hx hb d_L_store_32 (lv_at hl 1 rfl) ?_
      refine lv_bipush (v := 64) hx hb d_L_store_34 (by decide) ?_
      refine lv_irem hx hb d_L_store_36 (by decide) ?_
      refine ct_topi (x' := nI (k % 64)) (pk_rem (d := 64) (by omega) (by decide) (by decide)) ?_
      have rest : ∀ (oa : Nat → Int32) (H : Heap) (locs : List Loc) (ls : Array Slot), (StI t L k (k + 1) ja oa rf sf) → va_S (fun q => q = a0 ∨ q = a1 ∨ q = a2 ∨ q = ar ∨ q = ax) s.heap H locs → va_P D vwCl [(a0, .inr (0, [.ref a1, .ref a2, .int (nI (z0 t L k))])), (a1, .inl (cJ, 16, .inr (.inl (ja)))), (a2, .inl (cS, 16, .inl (oa))), (ar, .inl (cI, 1000, .inl (rf))), (ax, .inl (cI, 1000, .inl (sf)))] H → va_D (fun q => q = a0 ∨ q = a1 ∨ q = a2 ∨ q = ar ∨ q = ax) [(a0, .inr (0, [.ref a1, .ref a2, .int (nI (z0 t L k))])), (a1, .inl (cJ, 16, .inr (.inl (ja)))), (a2, .inl (cS, 16, .inl (oa))), (ar, .inl (cI, 1000, .inl (rf))), (ax, .inl (cI, 1000, .inl (sf)))] → lv_has ls 9 [(7, .int (nI (k / 64))), (6, .int (nI k)), (5, .int (nI (z1 t L k))), (0, .ref a0), (1, .ref ar), (2, .int (nI L.length)), (3, .int (nI sh)), (4, .ref ax)] → W p l e (rmK 1 0 0) s m [.ref a0, .ref ar, .int (nI L.length), .int (nI sh), .ref ax].toArray below meth c H locs (0) (0) (MQ below (stQ (fun v H0 H1 => v = none ∧ fr (fun q => q = a0 ∨ q = a1 ∨ q = a2 ∨ q = ar ∨ q = ax) H0 H1 ∧ ∃ ja oa rf sf, LvOk t L ja oa (nI (z0 t L L.length)) ∧ (∀ i x, (wpart t L)[i]? = some x → rf i = nI x) ∧ va_P D vwCl [(a0, .inr (0, [.ref a1, .ref a2, .int (nI (z0 t L L.length))])), (a1, .inl (cJ, 16, .inr (.inl (ja)))), (a2, .inl (cS, 16, .inl (oa))), (ar, .inl (cI, 1000, .inl (rf))), (ax, .inl (cI, 1000, .inl (sf)))] H1)) [.ref a0, .ref ar, .int (nI L.length), .int (nI sh), .ref ax].toArray s 0 0 (fun q => q = a0 ∨ q = a1 ∨ q = a2 ∨ q = ar ∨ q = ax)) (F0 m 50 ls []) := by
        intro oa H locs ls hI hS hP hD hl
        refine lv_aload_n hx hb d_L_store_50 rfl (lv_at hl 4 rfl) ?_
        refine lv_iload hx hb d_L_store_51 (lv_at hl 1 rfl) ?_
        refine va_iald hx hb hK hP 3 0 rfl rfl (vp_in_nI (by omega) (by decide)) d_L_store_53 ?_
        refine ct_topi (x' := nI x) (by rw [nI_clamp (by omega)]; exact hI.2.2.2.2.1 k x (Nat.le_refl _) hxp) ?_
        refine lv_istore (lv' := [(8, .int (nI x)), (7, .int (nI (k / 64))), (6, .int (nI k)), (5, .int (nI (z1 t L k))), (0, .ref a0), (1, .ref ar), (2, .int (nI L.length)), (3, .int (nI sh)), (4, .ref ax)]) hx hb d_L_store_54 hl (by decide) rfl (fun ls hl => ?_)
        refine lv_iload hx hb d_L_store_56 (lv_at hl 0 rfl) ?_
        refine lv_iload_n hx hb d_L_store_58 rfl (lv_at hl 7 rfl) ?_
        refine lv_ishr hx hb d_L_store_59 ?_
        refine ct_topi (x' := nI (x / 2 ^ sh)) (sh_bit (by omega) (by omega)) ?_
        refine lv_iconst (v := 1) hx hb d_L_store_60 (by decide) ?_
        refine lv_iand hx hb d_L_store_61 ?_
        refine ct_topi (x' := nI (x / 2 ^ sh % 2)) (nI_and1 _) ?_
        have hbx := htt x
        cases htx : t x with
        | false =>
          rw [htx] at hbx
          have hb0 : x / 2 ^ sh % 2 = 0 := by have := of_decide_eq_false hbx.symm; omega
          have e1 : z1 t L (k + 1) = z1 t L k := by rw [z1_succ t hxp, htx]; rfl
          refine lv_if_ne (tgt := 86) hx hb d_L_store_62 (by decide) (fun c9 => absurd (by rw [hb0]; rfl) c9) (fun _ => ?_)
          refine lv_aload_n hx hb d_L_store_65 rfl (lv_at hl 5 rfl) ?_
          refine lv_aload_n hx hb d_L_store_66 rfl (lv_at hl 4 rfl) ?_
          refine va_get (D := D) (ci := 0) (v := .int (nI (z0 t L k))) (C := n_L) (T := f_L) (N := 3) hx hb hts in_L hown hK hP 0 rfl rfl 2 (by decide) (hts _ x_71) (fun _ h9 => h9) rfl d_L_store_67 ?_
          refine lv_iload hx hb d_L_store_70 (lv_at hl 0 rfl) ?_
          refine va_iast hx hb hK hP hD hS 3 0 rfl rfl (vp_in_nI (by omega) (by decide)) d_L_store_72 (fun H locs hP hD hS => ?_)
          rw [nI_clamp (by omega)] at hP hD
          have hP : va_P D vwCl [(a0, .inr (0, [.ref a1, .ref a2, .int (nI (z0 t L k))])), (a1, .inl (cJ, 16, .inr (.inl (ja)))), (a2, .inl (cS, 16, .inl (oa))), (ar, .inl (cI, 1000, .inl (upd rf (z0 t L k) (nI x)))), (ax, .inl (cI, 1000, .inl (sf)))] H := hP
          have hD : va_D (fun q => q = a0 ∨ q = a1 ∨ q = a2 ∨ q = ar ∨ q = ax) [(a0, .inr (0, [.ref a1, .ref a2, .int (nI (z0 t L k))])), (a1, .inl (cJ, 16, .inr (.inl (ja)))), (a2, .inl (cS, 16, .inl (oa))), (ar, .inl (cI, 1000, .inl (upd rf (z0 t L k) (nI x)))), (ax, .inl (cI, 1000, .inl (sf)))] := hD
          refine lv_aload_n hx hb d_L_store_73 rfl (lv_at hl 4 rfl) ?_
          refine lv_dup hx hb d_L_store_74 rfl ?_
          refine va_get (D := D) (ci := 0) (v := .int (nI (z0 t L k))) (C := n_L) (T := f_L) (N := 3) hx hb hts in_L hown hK hP 0 rfl rfl 2 (by decide) (hts _ x_71) (fun _ h9 => h9) rfl d_L_store_75 ?_
          refine lv_iconst (v := 1) hx hb d_L_store_78 (by decide) ?_
          refine lv_iadd hx hb d_L_store_79 ?_
          refine ct_topi (x' := nI (z0 t L (k + 1))) (by rw [z0_succ t hxp, htx]; exact (nI_succ _).symm) ?_
          refine va_put (D := D) (ci := 0) (v := .int (nI (z0 t L (k + 1)))) (ty := .int) (C := n_L) (T := f_L) (N := 3) hx hb hts in_L t_L ty_L nm_L hown hK hP hD hS 0 rfl rfl 2 (by decide) (hts _ x_71) (fun _ h9 => h9) rfl (by decide +kernel) rfl rfl (Nat.le_of_ble_eq_true rfl) d_L_store_80 (fun H locs hP hD hS => ?_)
          have hP : va_P D vwCl [(a0, .inr (0, [.ref a1, .ref a2, .int (nI (z0 t L (k + 1)))])), (a1, .inl (cJ, 16, .inr (.inl (ja)))), (a2, .inl (cS, 16, .inl (oa))), (ar, .inl (cI, 1000, .inl (upd rf (z0 t L k) (nI x)))), (ax, .inl (cI, 1000, .inl (sf)))] H := hP
          have hD : va_D (fun q => q = a0 ∨ q = a1 ∨ q = a2 ∨ q = ar ∨ q = ax) [(a0, .inr (0, [.ref a1, .ref a2, .int (nI (z0 t L (k + 1)))])), (a1, .inl (cJ, 16, .inr (.inl (ja)))), (a2, .inl (cS, 16, .inl (oa))), (ar, .inl (cI, 1000, .inl (upd rf (z0 t L k) (nI x)))), (ax, .inl (cI, 1000, .inl (sf)))] := hD
          refine lv_goto (tgt := 113) hx hb d_L_store_83 (by decide) ?_
          refine lv_iinc (v := nI (k + 1)) (lv' := [(6, .int (nI (k + 1))), (8, .int (nI x)), (7, .int (nI (k / 64))), (5, .int (nI (z1 t L k))), (0, .ref a0), (1, .ref ar), (2, .int (nI L.length)), (3, .int (nI sh)), (4, .ref ax)]) hx hb d_L_store_113 hl (k := 2) rfl ((nI_succ k).symm) (by decide) rfl (fun ls hl => ?_)
          refine lv_goto (tgt := 19) hx hb d_L_store_116 (by decide) ?_
          exact ih (k + 1) ja oa _ sf H locs ls (by omega) (hI.zero hL hxp htx) hS hP hD (by rw [e1]; exact (lv_sub hl [0, 3, 4, 5, 6, 7, 8] rfl))
        | true =>
          rw [htx] at hbx
          have hb0 : x / 2 ^ sh % 2 = 1 := of_decide_eq_true hbx.symm
          have e0 : z0 t L (k + 1) = z0 t L k := by rw [z0_succ t hxp, htx]; rfl
          refine lv_if_ne (tgt := 86) hx hb d_L_store_62 (by decide) (fun _ => ?_) (fun c9 => absurd c9 (by rw [hb0]; decide))
          refine lv_aload_n hx hb d_L_store_86 rfl (lv_at hl 4 rfl) ?_
          refine va_get (D := D) (ci := 0) (v := .ref a1) (C := n_L) (T := f_L) (N := 3) hx hb hts in_L hown hK hP 0 rfl rfl 0 (by decide) (hts _ x_69) (fun _ h9 => h9) rfl d_L_store_87 ?_
          refine lv_iload hx hb d_L_store_90 (lv_at hl 1 rfl) ?_
          refine lv_dup2_11 hx hb d_L_store_92 rfl rfl ?_
          refine va_lald hx hb hK hP 1 1 rfl rfl (vp_in_nI (by omega) (by decide)) d_L_store_93 ?_
          refine ct_topl (x' := ja (k / 64)) (by rw [nI_clamp (by omega)]) ?_
          refine lv_lconst (v := 1) hx hb d_L_store_94 (by decide) ?_
          refine lv_iload hx hb d_L_store_95 (lv_at hl 2 rfl) ?_
          refine lv_bipush (v := 64) hx hb d_L_store_97 (by decide) ?_
          refine lv_irem hx hb d_L_store_99 (by decide) ?_
          refine ct_topi (x' := nI (k % 64)) (pk_rem (d := 64) (by omega) (by decide) (by decide)) ?_
          refine lv_lshl hx hb d_L_store_100 rfl ?_
          refine ct_topl (x' := lN (2 ^ (k % 64))) (by rw [show (1 : Int64) = lN 1 from rfl, wb_shl 1 (by omega), Nat.one_mul]) ?_
          refine lv_lor hx hb d_L_store_101 ?_
          refine va_last hx hb hK hP hD hS 1 1 rfl rfl (vp_in_nI (by omega) (by decide)) d_L_store_102 (fun H locs hP hD hS => ?_)
          rw [nI_clamp (by omega)] at hP hD
          have hP : va_P D vwCl [(a0, .inr (0, [.ref a1, .ref a2, .int (nI (z0 t L k))])), (a1, .inl (cJ, 16, .inr (.inl (vp_updL ja (k / 64) (ja (k / 64) ||| lN (2 ^ (k % 64))))))), (a2, .inl (cS, 16, .inl (oa))), (ar, .inl (cI, 1000, .inl (rf))), (ax, .inl (cI, 1000, .inl (sf)))] H := hP
          have hD : va_D (fun q => q = a0 ∨ q = a1 ∨ q = a2 ∨ q = ar ∨ q = ax) [(a0, .inr (0, [.ref a1, .ref a2, .int (nI (z0 t L k))])), (a1, .inl (cJ, 16, .inr (.inl (vp_updL ja (k / 64) (ja (k / 64) ||| lN (2 ^ (k % 64))))))), (a2, .inl (cS, 16, .inl (oa))), (ar, .inl (cI, 1000, .inl (rf))), (ax, .inl (cI, 1000, .inl (sf)))] := hD
          refine lv_aload hx hb d_L_store_103 (lv_at hl 8 rfl) ?_
          refine lv_iload hx hb d_L_store_105 (lv_at hl 3 rfl) ?_
          refine lv_iload hx hb d_L_store_107 (lv_at hl 0 rfl) ?_
          refine va_iast hx hb hK hP hD hS 4 0 rfl rfl (vp_in_nI (by omega) (by decide)) d_L_store_109 (fun H locs hP hD hS => ?_)
          rw [nI_clamp (by omega)] at hP hD
          have hP : va_P D vwCl [(a0, .inr (0, [.ref a1, .ref a2, .int (nI (z0 t L k))])), (a1, .inl (cJ, 16, .inr (.inl (vp_updL ja (k / 64) (ja (k / 64) ||| lN (2 ^ (k % 64))))))), (a2, .inl (cS, 16, .inl (oa))), (ar, .inl (cI, 1000, .inl (rf))), (ax, .inl (cI, 1000, .inl (upd sf (z1 t L k) (nI x))))] H := hP
          have hD : va_D (fun q => q = a0 ∨ q = a1 ∨ q = a2 ∨ q = ar ∨ q = ax) [(a0, .inr (0, [.ref a1, .ref a2, .int (nI (z0 t L k))])), (a1, .inl (cJ, 16, .inr (.inl (vp_updL ja (k / 64) (ja (k / 64) ||| lN (2 ^ (k % 64))))))), (a2, .inl (cS, 16, .inl (oa))), (ar, .inl (cI, 1000, .inl (rf))), (ax, .inl (cI, 1000, .inl (upd sf (z1 t L k) (nI x))))] := hD
          refine lv_iinc (v := nI (z1 t L (k + 1))) (lv' := [(5, .int (nI (z1 t L (k + 1)))), (8, .int (nI x)), (7, .int (nI (k / 64))), (6, .int (nI k)), (0, .ref a0), (1, .ref ar), (2, .int (nI L.length)), (3, .int (nI sh)), (4, .ref ax)]) hx hb d_L_store_110 hl (k := 3) rfl (by rw [z1_succ t hxp, htx]; exact (nI_succ _).symm) (by decide) rfl (fun ls hl => ?_)
          refine lv_iinc (v := nI (k + 1)) (lv' := [(6, .int (nI (k + 1))), (5, .int (nI (z1 t L (k + 1)))), (8, .int (nI x)), (7, .int (nI (k / 64))), (0, .ref a0), (1, .ref ar), (2, .int (nI L.length)), (3, .int (nI sh)), (4, .ref ax)]) hx hb d_L_store_113 hl (k := 3) rfl ((nI_succ k).symm) (by decide) rfl (fun ls hl => ?_)
          refine lv_goto (tgt := 19) hx hb d_L_store_116 (by decide) ?_
          exact ih (k + 1) _ oa rf _ H locs ls (by omega) (hI.one hL hxp htx) hS (by rw [e0]; exact hP) (by rw [e0]; exact hD) (lv_sub hl [0, 1, 4, 5, 6, 7, 8] rfl)
      by_cases hm : k % 64 = 0
      · refine lv_if_ne (tgt := 50) hx hb d_L_store_37 (by decide) (fun c9 => absurd (by rw [hm]; rfl) c9) (fun _ => ?_)
        refine lv_aload_n hx hb d_L_store_40 rfl (lv_at hl 3 rfl) ?_
        refine va_get (D := D) (ci := 0) (v := .ref a2) (C := n_L) (T := f_L) (N := 3) hx hb hts in_L hown hK hP 0 rfl rfl 1 (by decide) (hts _ x_70) (fun _ h9 => h9) rfl d_L_store_41 ?_
        refine lv_iload hx hb d_L_store_44 (lv_at hl 0 rfl) ?_
        refine lv_iload hx hb d_L_store_46 (lv_at hl 2 rfl) ?_
        refine lv_i2s hx hb d_L_store_48 rfl ?_
        refine ct_topi (x' := nI (z1 t L k)) (short_nI (by omega)) ?_
        refine va_sast hx hb hK hP hD hS 2 2 rfl rfl (vp_in_nI (by omega) (by decide)) d_L_store_49 (fun H locs hP hD hS => ?_)
        rw [nI_clamp (by omega), vp_nar_short, short_nI (by omega)] at hP hD
        have hP : va_P D vwCl [(a0, .inr (0, [.ref a1, .ref a2, .int (nI (z0 t L k))])), (a1, .inl (cJ, 16, .inr (.inl (ja)))), (a2, .inl (cS, 16, .inl (upd oa (k / 64) (nI (z1 t L k))))), (ar, .inl (cI, 1000, .inl (rf))), (ax, .inl (cI, 1000, .inl (sf)))] H := hP
        have hD : va_D (fun q => q = a0 ∨ q = a1 ∨ q = a2 ∨ q = ar ∨ q = ax) [(a0, .inr (0, [.ref a1, .ref a2, .int (nI (z0 t L k))])), (a1, .inl (cJ, 16, .inr (.inl (ja)))), (a2, .inl (cS, 16, .inl (upd oa (k / 64) (nI (z1 t L k))))), (ar, .inl (cI, 1000, .inl (rf))), (ax, .inl (cI, 1000, .inl (sf)))] := hD
        exact rest _ H locs ls (hI.put hm) hS hP hD (lv_sub hl [0, 1, 2, 3, 4, 5, 6, 7] rfl)
      · refine lv_if_ne (tgt := 50) hx hb d_L_store_37 (by decide) (fun _ => ?_) (fun c9 => absurd c9 (nI_ne0 (by omega) (by omega)))
        exact rest _ H locs ls (hI.skip hm) hS hP hD (lv_sub hl [0, 1, 2, 3, 4, 5, 6, 7] rfl)
  exact loop L.length 0 g oa rf sf H _ ls (by omega) (StI.start hg hr0) hS hP hD (lv_sub hl [0, 1, 2, 3, 4, 5, 6] rfl)
end
section
/-! THE CELLS OF A LevelRows: y 0 the object, y 1 row, y 2 spare, y 3 part, y 4 listed, y 5 listedTimes, y 6 ahead, y 7 levels, from y 8 on three cells a level. -/
section LRW
def yI (B0 : Nat) (y : Nat → Nat) (d : Nat) : Prop := (∀ i j, i < 8 + 3 * d → j < 8 + 3 * d → y i = y j → i = j) ∧ ∀ i, i < 8 + 3 * d → B0 ≤ y i
abbrev Rw (cO : ClassId) (y : Nat → Nat) (sg : Int32) (d : Nat) (bu wa : Int32) : va_W := [(y 0, .inr (2, [.int sg, .ref (y 7), .int bu, .int wa, .ref (y 1), .ref (y 2), .ref (y 3), .ref (y 4), .ref (y 5), .ref (y 6)])), (y 7, .inl (cO, d, .inr (.inr (.inr (.inr (fun i => some (y (8 + 3 * i))))))))]
def Lk (D : va_G) (cJ cS : ClassId) (y : Nat → Nat) (d : Nat) (xs : List Nat) (k : Nat) (H : Heap) : Prop := ∃ ja oa z, LvOk (wt d k) (wL d xs k) ja oa z ∧ va_P D vwCl (Lw cJ cS (y (8 + 3 * k)) (y (9 + 3 * k)) (y (10 + 3 * k)) ja oa z) H
def RL (D : va_G) (cJ cS cO : ClassId) (y : Nat → Nat) (sg d : Nat) (xs : List Nat) (wa : Nat) (H : Heap) : Prop := va_P D vwCl (Rw cO y (nI sg) d (nI xs.length) (nI wa)) H ∧ ∀ k, k < d → Lk D cJ cS y d xs k H
def PP (D : va_G) (a : Nat) (H : Heap) : Prop := ∃ f0 f1 f2 f3 f4 f5, va_P D vwCl (Pw a f0 f1 f2 f3 f4 f5) H
/-- what a row is -/
def Ok (sg d : Nat) (xs ws : List Nat) : Prop := 1 ≤ sg ∧ sg ≤ 65536 ∧ sg ≤ 2 ^ d ∧ (∀ e, e < d → 2 ^ e ≤ sg - 1) ∧ d ≤ 16 ∧ xs.length + ws.length ≤ 1000 ∧ (∀ x ∈ xs, x < sg) ∧ ∀ x ∈ ws, x < sg
theorem va_D.ones {A : Nat → Prop} {y : Nat → Nat} {B0 d : Nat} (hy : yI B0 y d) (ws : va_W) (f : Nat → Nat) (hf : ∀ (k : Nat) (q : Nat × va_E), ws[k]? = some q → q.1 = y (f k) ∧ f k < 8 + 3 * d) (hi : ∀ i j, i < ws.length → j < ws.length → f i = f j → i = j) (hA : ∀ (k : Nat) (q : Nat × va_E), ws[k]? = some q → A q.1) : va_D A ws := by
  refine ⟨fun i j p q h1 h2 h3 => ?_, hA⟩
  have e1 := hf i p h1
  have e2 := hf j q h2
  rw [e1.1, e2.1] at h3
  exact hi i j (List.getElem?_eq_some_iff.mp h1).1 (List.getElem?_eq_some_iff.mp h2).1 (hy.1 _ _ e1.2 e2.2 h3)
theorem yI.ne {B0 : Nat} {y : Nat → Nat} {d i j : Nat} (hy : yI B0 y d) (hi : i < 8 + 3 * d) (hj : j < 8 + 3 * d) (h : i ≠ j) : y i ≠ y j := fun e => h (hy.1 i j hi hj e)
theorem Rw.off {cO : ClassId} {y : Nat → Nat} {sg bu wa : Int32} {d B0 : Nat} (hy : yI B0 y d) {i : Nat} (h1 : 1 ≤ i) (h2 : i ≤ 6) (k : Nat) (q : Nat × va_E) (hk : (Rw cO y sg d bu wa)[k]? = some q) : ¬ q.1 = y i := by
  match k, hk with
  | 0, hk => cases hk; exact hy.ne (by omega) (by omega) (by omega)
  | 1, hk => cases hk; exact hy.ne (by omega) (by omega) (by omega)
  | k + 2, hk => simp at hk
theorem Lk.off {cJ cS : ClassId} {y : Nat → Nat} {d B0 : Nat} {ja : Nat → Int64} {oa : Nat → Int32} {z : Int32} (hy : yI B0 y d) {i j : Nat} (hj : j < d) (hi : i < 8) (k : Nat) (q : Nat × va_E) (hk : (Lw cJ cS (y (8 + 3 * j)) (y (9 + 3 * j)) (y (10 + 3 * j)) ja oa z)[k]? = some q) : ¬ q.1 = y i :=
  Lw.off (hy.ne (by omega) (by omega) (by omega)) (hy.ne (by omega) (by omega) (by omega)) (hy.ne (by omega) (by omega) (by omega)) k q hk
theorem RL.fr {D : va_G} {cJ cS cO : ClassId} {y : Nat → Nat} {sg d wa B0 : Nat} {xs : List Nat} {H0 H1 : Heap} {A : Nat → Prop} (hy : yI B0 y d) (h : RL D cJ cS cO y sg d xs wa H0) (hf : fr A H0 H1) (hA : ∀ q, q < H0.size → A q → ∃ i, 1 ≤ i ∧ i ≤ 6 ∧ q = y i) : RL D cJ cS cO y sg d xs wa H1 := by
  refine ⟨fun k q hk => ?_, fun k hk => ?_⟩
  · refine (h.1 k q hk).kept (hf.2 q.1 (h.1 k q hk).lt (fun ha => ?_))
    obtain ⟨i, h1, h2, h3⟩ := hA _ (h.1 k q hk).lt ha
    exact Rw.off hy h1 h2 k q hk h3
  · obtain ⟨ja, oa, z, ok, hP⟩ := h.2 k hk
    refine ⟨ja, oa, z, ok, fun k' q hk' => ?_⟩
    refine (hP k' q hk').kept (hf.2 q.1 (hP k' q hk').lt (fun ha => ?_))
    obtain ⟨i, h1, h2, h3⟩ := hA _ (hP k' q hk').lt ha
    exact Lk.off hy hk (by omega) k' q hk' h3
theorem nI_or1 {s b : Nat} (hs : s < 2 ^ 30) (hb : b < 2) : nI s <<< (1 &&& 31) ||| nI b = nI (2 * s + b) := by
  rw [pk_shlN (n := s) (1 &&& 31) 1 (by decide) (by omega)]
  apply Int32.toBitVec_inj.mp
  show BitVec.ofNat 32 _ ||| BitVec.ofNat 32 _ = BitVec.ofNat 32 _
  apply BitVec.eq_of_toNat_eq
  rw [BitVec.toNat_or, BitVec.toNat_ofNat, BitVec.toNat_ofNat, BitVec.toNat_ofNat, Nat.mod_eq_of_lt (by omega), Nat.mod_eq_of_lt (by omega), Nat.mod_eq_of_lt (by omega)]
  have h := Nat.two_pow_add_eq_or_of_lt (i := 1) (b := b) (by omega) s
  rw [show s * 2 ^ 1 = 2 ^ 1 * s by omega, ← h]
theorem bn_eq {b : Bool} : (if b then 1 else 0 : Nat) = bn b := rfl
end LRW
section LRX
theorem kth_ex {B : List Nat} {k : Nat} : ∀ M, k < cLt B M → ∃ r, r < M ∧ kth B k r
  | 0 => fun h => by rw [cLt_0] at h; exact absurd h (Nat.not_lt_zero k)
  | M + 1 => fun h => by
    rcases Nat.lt_or_ge k (cLt B M) with h1 | h1
    · obtain ⟨r, h2, h3⟩ := kth_ex M h1
      exact ⟨r, by omega, h3⟩
    · exact ⟨M, by omega, h1, h⟩
theorem Ok.lt {sg d : Nat} {xs ws : List Nat} (h : Ok sg d xs ws) : ∀ x ∈ xs, x < 2 ^ d := fun x hx => Nat.lt_of_lt_of_le (h.2.2.2.2.2.2.1 x hx) h.2.2.1
theorem Ok.d16 {sg d : Nat} {xs ws : List Nat} (h : Ok sg d xs ws) : d ≤ 16 := h.2.2.2.2.1
theorem Ok.p16 {sg d : Nat} {xs ws : List Nat} (h : Ok sg d xs ws) : 2 ^ d ≤ 65536 := Nat.pow_le_pow_right (n := 2) (by omega) h.d16
theorem Ok.len {sg d : Nat} {xs ws : List Nat} (h : Ok sg d xs ws) : xs.length ≤ 1000 := by have := h.2.2.2.2.2.1; omega
theorem kth.of_pre {d k pp lf : Nat} {B : List Nat} (h1 : k = wlt d d pp B + lf) (h2 : lf < (wpre d d pp B).length) : kth B k pp := by
  rw [wlt_d] at h1
  rw [wpre_d] at h2
  have h3 := cLt_succ B pp
  refine ⟨?_, ?_⟩
  · show (B.filter (fun x => decide (x < pp))).length ≤ k
    omega
  · rw [h3]
    show k < (B.filter (fun x => decide (x < pp))).length + (B.filter (fun x => x == pp)).length
    omega
end LRX
end
section
/-! LevelRows: shiftOf, symbolAt, climbFrom. -/
set_option maxHeartbeats 4000000 in
set_option maxRecDepth 100000 in
theorem m_R_shiftOf {l : Launch} {D : va_G} {cI cJ cS cO : ClassId} {B0 : Nat} {y : Nat → Nat} {sg d wa i : Nat} {xs : List Nat} (hi : i < d) (hd : d ≤ 16) : CM l D (tyL cI cJ cS cO) B0 y_R_shiftOf c_R_shiftOf 2 (some .int) (rmK 0 0 0) [.ref (y 0), .int (nI i)] (fun H => RL D cJ cS cO y sg d xs wa H) (fun v H0 H1 => v = some (.int (nI (d - 1 - i))) ∧ H1 = H0) 0 0 (fun _ => False) := by
  refine cm_of (by decide) (Nat.le_of_ble_eq_true rfl) ?_
  intro p e s m below meth c ls hx hb hr hml hown hts hlocks hnm hE hpre hl
  have hown : s.vm.findClass "LevelRows" = some m.cls := hown
  have hK := hE.1
  have hl : lv_has ls 2 [(0, .ref (y 0)), (1, .int (nI i))] := hl
  have hP : va_P D vwCl [(y 0, .inr (2, [.int (nI sg), .ref (y 7), .int (nI xs.length), .int (nI wa), .ref (y 1), .ref (y 2), .ref (y 3), .ref (y 4), .ref (y 5), .ref (y 6)])), (y 7, .inl (cO, d, .inr (.inr (.inr (.inr (fun i => some (y (8 + 3 * i))))))))] s.heap := hpre.1
  have hS : va_S (fun _ => False) s.heap s.heap [] := va_S.rf
  have hAB : ∀ q : Nat, (fun _ : Nat => False) q → B0 ≤ q := fun _ h => h.elim
  refine lv_aload_n hx hb d_R_shiftOf_0 rfl (lv_at hl 0 rfl) ?_
  refine va_get (D := D) (ci := 2) (v := .ref (y 7)) (C := n_R) (T := f_R) (N := 10) hx hb hts in_R hown hK hP 0 rfl rfl 1 (by decide) (hts _ x_83) (fun _ h9 => h9) rfl d_R_shiftOf_1 ?_
  refine va_alen hx hb hK hP 1 3 rfl rfl (v := nI (d)) rfl d_R_shiftOf_4 ?_
  refine lv_iconst (v := 1) hx hb d_R_shiftOf_5 (by decide) ?_
  refine lv_isub hx hb d_R_shiftOf_6 ?_
  refine ct_topi (x' := nI (d - 1)) (pk_sub (b := 1) (by omega)) ?_
  refine lv_iload_n hx hb d_R_shiftOf_7 rfl (lv_at hl 1 rfl) ?_
  refine lv_isub hx hb d_R_shiftOf_8 ?_
  refine ct_topi (x' := nI (d - 1 - i)) (pk_sub (by omega)) ?_
  exact W.iret (v := nI (d - 1 - i)) hx hb hr (fun t ht hW => ⟨_, rfl, rfl, ht⟩) (fun _ h => nomatch h) d_R_shiftOf_9
set_option maxHeartbeats 4000000 in
set_option maxRecDepth 100000 in
theorem m_R_symbolAt {l : Launch} {D : va_G} {cI cJ cS cO : ClassId} {B0 : Nat} {y : Nat → Nat} {sg d wa : Nat} {xs : List Nat} {q x : Nat} (hq : xs[q]? = some x) (hxd : x < 2 ^ d) (hd : d ≤ 16) (hx9 : xs.length ≤ 1000) : CM l D (tyL cI cJ cS cO) B0 y_R_symbolAt c_R_symbolAt 6 (some .int) (rmK 4 0 0) [.ref (y 0), .int (nI q)] (fun H => RL D cJ cS cO y sg d xs wa H) (fun v H0 H1 => v = some (.int (nI x)) ∧ H1 = H0) 0 0 (fun _ => False) := by
  refine cm_of (by decide) (Nat.le_of_ble_eq_true rfl) ?_
  intro p e s m below meth c ls hx hb hr hml hown hts hlocks hnm hE hpre hl
  have hown : s.vm.findClass "LevelRows" = some m.cls := hown
  have hK := hE.1
  have hl : lv_has ls 6 [(0, .ref (y 0)), (1, .int (nI q))] := hl
  have hP : va_P D vwCl [(y 0, .inr (2, [.int (nI sg), .ref (y 7), .int (nI xs.length), .int (nI wa), .ref (y 1), .ref (y 2), .ref (y 3), .ref (y 4), .ref (y 5), .ref (y 6)])), (y 7, .inl (cO, d, .inr (.inr (.inr (.inr (fun i => some (y (8 + 3 * i))))))))] s.heap := hpre.1
  have hS : va_S (fun _ => False) s.heap s.heap [] := va_S.rf
  have hAB : ∀ q : Nat, (fun _ : Nat => False) q → B0 ≤ q := fun _ h => h.elim
  have hql : q < xs.length := (List.getElem?_eq_some_iff.mp hq).1
  have hx16 : x < 65536 := Nat.lt_of_lt_of_le hxd (Nat.pow_le_pow_right (n := 2) (by omega) hd)
  refine lv_iconst (v := 0) hx hb d_R_symbolAt_0 (by decide) ?_
  refine lv_istore_n (lv' := [(2, .int 0), (0, .ref (y 0)), (1, .int (nI q))]) hx hb d_R_symbolAt_1 rfl hl (by decide) rfl (fun ls hl => ?_)
  refine lv_iload_n hx hb d_R_symbolAt_2 rfl (lv_at hl 2 rfl) ?_
  refine lv_istore_n (lv' := [(3, .int (nI q)), (2, .int 0), (0, .ref (y 0)), (1, .int (nI q))]) hx hb d_R_symbolAt_3 rfl hl (by decide) rfl (fun ls hl => ?_)
  refine lv_iconst (v := 0) hx hb d_R_symbolAt_4 (by decide) ?_
  refine lv_istore (lv' := [(4, .int 0), (3, .int (nI q)), (2, .int 0), (0, .ref (y 0)), (1, .int (nI q))]) hx hb d_R_symbolAt_5 hl (by decide) rfl (fun ls hl => ?_)
  have loop : ∀ (n : Nat) (i : Nat) (ls : Array Slot), (i + n = d) → lv_has ls 6 [(4, .int (nI i)), (3, .int (nI (wdn d xs x i q))), (2, .int (nI (x / 2 ^ (d - i)))), (0, .ref (y 0)), (1, .int (nI q))] → W p l e (rmK 4 0 0) s m [.ref (y 0), .int (nI q)].toArray below meth c s.heap [] (0) (0) (MQ below (stQ (fun v H0 H1 => v = some (.int (nI x)) ∧ H1 = H0)) [.ref (y 0), .int (nI q)].toArray s 0 0 (fun _ => False)) (F0 m 7 ls []) := by
    intro n
    induction n with
    | zero =>
      intro i ls hin hl
      have hid : i = d := by omega
      refine lv_iload hx hb d_R_symbolAt_7 (lv_at hl 0 rfl) ?_
      refine lv_aload_n hx hb d_R_symbolAt_9 rfl (lv_at hl 3 rfl) ?_
      refine va_get (D := D) (ci := 2) (v := .ref (y 7)) (C := n_R) (T := f_R) (N := 10) hx hb hts in_R hown hK hP 0 rfl rfl 1 (by decide) (hts _ x_83) (fun _ h9 => h9) rfl d_R_symbolAt_10 ?_
      refine va_alen hx hb hK hP 1 3 rfl rfl (v := nI (d)) rfl d_R_symbolAt_13 ?_
      refine lv_icmp_ge (tgt := 57) hx hb d_R_symbolAt_14 (by decide) (fun _ => ?_) (fun c9 => absurd (nI_le (by omega) (by omega)) c9)
      refine lv_iload_n hx hb d_R_symbolAt_57 rfl (lv_at hl 2 rfl) ?_
      refine ct_topi (x' := nI x) (by rw [hid, Nat.sub_self, Nat.pow_zero, Nat.div_one]) ?_
      exact W.iret (v := nI x) hx hb hr (fun t ht hW => ⟨_, rfl, rfl, ht⟩) (fun _ h => nomatch h) d_R_symbolAt_58
    | succ n ih =>
      intro i ls hin hl
      have hid : i < d := by omega
      obtain ⟨ja, oa, z, ok, hL⟩ := hpre.2 i hid
      have hat := wdn_at (d := d) hq i
      have hlt : wdn d xs x i q < (wL d xs i).length := (List.getElem?_eq_some_iff.mp hat).1
      have hlt2 := hlt
      rw [wL_len] at hlt2
      have hbit : uN64 (ja (wdn d xs x i q / 64)) / 2 ^ (wdn d xs x i q % 64) % 2 = bn (wt d i x) := ok.bit hat
      refine lv_iload hx hb d_R_symbolAt_7 (lv_at hl 0 rfl) ?_
      refine lv_aload_n hx hb d_R_symbolAt_9 rfl (lv_at hl 3 rfl) ?_
      refine va_get (D := D) (ci := 2) (v := .ref (y 7)) (C := n_R) (T := f_R) (N := 10) hx hb hts in_R hown hK hP 0 rfl rfl 1 (by decide) (hts _ x_83) (fun _ h9 => h9) rfl d_R_symbolAt_10 ?_
      refine va_alen hx hb hK hP 1 3 rfl rfl (v := nI (d)) rfl d_R_symbolAt_13 ?_
      refine lv_icmp_ge (tgt := 57) hx hb d_R_symbolAt_14 (by decide) (fun c9 => absurd c9 (nI_ge (by omega) (by omega))) (fun _ => ?_)
      refine lv_aload_n hx hb d_R_symbolAt_17 rfl (lv_at hl 3 rfl) ?_
      refine va_get (D := D) (ci := 2) (v := .ref (y 7)) (C := n_R) (T := f_R) (N := 10) hx hb hts in_R hown hK hP 0 rfl rfl 1 (by decide) (hts _ x_83) (fun _ h9 => h9) rfl d_R_symbolAt_18 ?_
      refine lv_iload hx hb d_R_symbolAt_21 (lv_at hl 0 rfl) ?_
      refine va_aldq hx hb hK hP 1 3 rfl rfl (vp_in_nI (by omega) (by omega)) d_R_symbolAt_23 ?_
      refine ct_topv (v' := .ref (y (8 + 3 * i))) (congrArg (fun j => Value.ref (y (8 + 3 * j))) (nI_clamp (by omega))) ?_
      refine lv_iload_n hx hb d_R_symbolAt_24 rfl (lv_at hl 1 rfl) ?_
      refine cm_read (va_runV (As := [.int (nI (wdn d xs x i q))]) (rest := []) ⟨hx, hb, hml, hown, hts⟩ (m_L_bitAt (wdn d xs x i q) (by omega)) ⟨ct_cb 1 hts x_124 x_121 x_5 rfl rfl (by decide +kernel) ⟨by decide, by decide⟩, hts _ x_122, hts _ x_123⟩ ⟨st_blind, va_recv hK hL (ci := 0) (q0 := 0) rfl rfl, fun U hU hW => ⟨rfl, hE.at hS hAB hU hW, by rw [hU]; exact hL⟩⟩ rfl rfl hl.1 rfl (lv_room (Nat.le_of_ble_eq_true rfl)) d_R_symbolAt_25 ⟨by decide, by decide⟩) (fun v hv => ?_)
      subst hv
      refine W.eq (g2 := F0 m 28 ls [.int (nI (uN64 (ja (wdn d xs x i q / 64)) / 2 ^ (wdn d xs x i q % 64) % 2))]) rfl ?_
      refine ct_topi (x' := nI (bn (wt d i x))) (by rw [hbit]) ?_
      have hbn : bn (wt d i x) < 2 := by unfold bn; split <;> omega
      have hxx : x / 2 ^ (d - i) < 2 ^ 30 := Nat.lt_of_le_of_lt (Nat.div_le_self _ _) (by omega)
      refine lv_istore (lv' := [(5, .int (nI (bn (wt d i x)))), (4, .int (nI i)), (3, .int (nI (wdn d xs x i q))), (2, .int (nI (x / 2 ^ (d - i)))), (0, .ref (y 0)), (1, .int (nI q))]) hx hb d_R_symbolAt_28 hl (by decide) rfl (fun ls hl => ?_)
      refine lv_iload_n hx hb d_R_symbolAt_30 rfl (lv_at hl 3 rfl) ?_
      refine lv_iconst (v := 1) hx hb d_R_symbolAt_31 (by decide) ?_
      refine lv_ishl hx hb d_R_symbolAt_32 ?_
      refine lv_iload hx hb d_R_symbolAt_33 (lv_at hl 0 rfl) ?_
      refine lv_ior hx hb d_R_symbolAt_35 ?_
      refine ct_topi (x' := nI (x / 2 ^ (d - (i + 1)))) ((nI_or1 hxx hbn).trans (by rw [wt_bit hid]; rfl)) ?_
      refine lv_istore_n (lv' := [(2, .int (nI (x / 2 ^ (d - (i + 1))))), (5, .int (nI (bn (wt d i x)))), (4, .int (nI i)), (3, .int (nI (wdn d xs x i q))), (0, .ref (y 0)), (1, .int (nI q))]) hx hb d_R_symbolAt_36 rfl hl (by decide) rfl (fun ls hl => ?_)
      refine lv_aload_n hx hb d_R_symbolAt_37 rfl (lv_at hl 4 rfl) ?_
      refine va_get (D := D) (ci := 2) (v := .ref (y 7)) (C := n_R) (T := f_R) (N := 10) hx hb hts in_R hown hK hP 0 rfl rfl 1 (by decide) (hts _ x_83) (fun _ h9 => h9) rfl d_R_symbolAt_38 ?_
      refine lv_iload hx hb d_R_symbolAt_41 (lv_at hl 2 rfl) ?_
      refine va_aldq hx hb hK hP 1 3 rfl rfl (vp_in_nI (by omega) (by omega)) d_R_symbolAt_43 ?_
      refine ct_topv (v' := .ref (y (8 + 3 * i))) (congrArg (fun j => Value.ref (y (8 + 3 * j))) (nI_clamp (by omega))) ?_
      refine lv_iload hx hb d_R_symbolAt_44 (lv_at hl 1 rfl) ?_
      refine lv_iload_n hx hb d_R_symbolAt_46 rfl (lv_at hl 3 rfl) ?_
      refine cm_read (va_runV (As := [.int (nI (bn (wt d i x))), .int (nI (wdn d xs x i q))]) (rest := []) ⟨hx, hb, hml, hown, hts⟩ (m_L_placeBelow ok (by rw [wL_len]; exact hx9) (wt d i x) (wdn d xs x i q) (Nat.le_of_lt hlt)) ⟨ct_cb 2 hts x_128 x_125 x_5 rfl rfl (by decide +kernel) ⟨by decide, by decide⟩, hts _ x_126, hts _ x_127⟩ ⟨st_blind, va_recv hK hL (ci := 0) (q0 := 0) rfl rfl, fun U hU hW => ⟨rfl, hE.at hS hAB hU hW, by rw [hU]; exact hL⟩⟩ rfl rfl hl.1 rfl (lv_room (Nat.le_of_ble_eq_true rfl)) d_R_symbolAt_47 ⟨by decide, by decide⟩) (fun v hv => ?_)
      subst hv
      refine W.eq (g2 := F0 m 50 ls [.int (nI (if wt d i x then z0 (wt d i) (wL d xs i) (wL d xs i).length + z1 (wt d i) (wL d xs i) (wdn d xs x i q) else z0 (wt d i) (wL d xs i) (wdn d xs x i q)))]) rfl ?_
      refine ct_topi (x' := nI (wdn d xs x (i + 1) q)) (by rw [wL_len]; rfl) ?_
      refine lv_istore_n (lv' := [(3, .int (nI (wdn d xs x (i + 1) q))), (2, .int (nI (x / 2 ^ (d - (i + 1))))), (5, .int (nI (bn (wt d i x)))), (4, .int (nI i)), (0, .ref (y 0)), (1, .int (nI q))]) hx hb d_R_symbolAt_50 rfl hl (by decide) rfl (fun ls hl => ?_)
      refine lv_iinc (v := nI (i + 1)) (lv' := [(4, .int (nI (i + 1))), (3, .int (nI (wdn d xs x (i + 1) q))), (2, .int (nI (x / 2 ^ (d - (i + 1))))), (5, .int (nI (bn (wt d i x)))), (0, .ref (y 0)), (1, .int (nI q))]) hx hb d_R_symbolAt_51 hl (k := 3) rfl ((nI_succ i).symm) (by decide) rfl (fun ls hl => ?_)
      refine lv_goto (tgt := 7) hx hb d_R_symbolAt_54 (by decide) ?_
      exact ih (i + 1) ls (by omega) (lv_sub hl [0, 1, 2, 4, 5] rfl)
  have e0 : x / 2 ^ (d - 0) = 0 := Nat.div_eq_of_lt hxd
  exact loop d 0 ls (by omega) (by rw [e0]; exact (lv_sub hl [0, 1, 2, 3, 4] rfl))
set_option maxHeartbeats 4000000 in
set_option maxRecDepth 100000 in
theorem m_R_climbFrom {l : Launch} {D : va_G} {cI cJ cS cO : ClassId} {B0 : Nat} {y : Nat → Nat} {sg d wa : Nat} {xs : List Nat} {q x : Nat} (hq : xs[q]? = some x) (hd : d ≤ 16) (hx9 : xs.length ≤ 1000) : CM l D (tyL cI cJ cS cO) B0 y_R_climbFrom c_R_climbFrom 4 (some .int) (rmK 4 0 0) [.ref (y 0), .int (nI (wdn d xs x d q))] (fun H => RL D cJ cS cO y sg d xs wa H) (fun v H0 H1 => v = some (.int (nI q)) ∧ H1 = H0) 0 0 (fun _ => False) := by
  refine cm_of (by decide) (Nat.le_of_ble_eq_true rfl) ?_
  intro p e s m below meth c ls hx hb hr hml hown hts hlocks hnm hE hpre hl
  have hown : s.vm.findClass "LevelRows" = some m.cls := hown
  have hK := hE.1
  have hl : lv_has ls 4 [(0, .ref (y 0)), (1, .int (nI (wdn d xs x d q)))] := hl
  have hP : va_P D vwCl [(y 0, .inr (2, [.int (nI sg), .ref (y 7), .int (nI xs.length), .int (nI wa), .ref (y 1), .ref (y 2), .ref (y 3), .ref (y 4), .ref (y 5), .ref (y 6)])), (y 7, .inl (cO, d, .inr (.inr (.inr (.inr (fun i => some (y (8 + 3 * i))))))))] s.heap := hpre.1
  have hS : va_S (fun _ => False) s.heap s.heap [] := va_S.rf
  have hAB : ∀ q : Nat, (fun _ : Nat => False) q → B0 ≤ q := fun _ h => h.elim
  refine lv_iload_n hx hb d_R_climbFrom_0 rfl (lv_at hl 1 rfl) ?_
  refine lv_istore_n (lv' := [(2, .int (nI (wdn d xs x d q))), (0, .ref (y 0)), (1, .int (nI (wdn d xs x d q)))]) hx hb d_R_climbFrom_1 rfl hl (by decide) rfl (fun ls hl => ?_)
  refine lv_aload_n hx hb d_R_climbFrom_2 rfl (lv_at hl 1 rfl) ?_
  refine va_get (D := D) (ci := 2) (v := .ref (y 7)) (C := n_R) (T := f_R) (N := 10) hx hb hts in_R hown hK hP 0 rfl rfl 1 (by decide) (hts _ x_83) (fun _ h9 => h9) rfl d_R_climbFrom_3 ?_
  refine va_alen hx hb hK hP 1 3 rfl rfl (v := nI (d)) rfl d_R_climbFrom_6 ?_
  refine lv_iconst (v := 1) hx hb d_R_climbFrom_7 (by decide) ?_
  refine lv_isub hx hb d_R_climbFrom_8 ?_
  refine lv_istore_n (lv' := [(3, .int ((nI (d)) - 1)), (2, .int (nI (wdn d xs x d q))), (0, .ref (y 0)), (1, .int (nI (wdn d xs x d q)))]) hx hb d_R_climbFrom_9 rfl hl (by decide) rfl (fun ls hl => ?_)
  have loop : ∀ (n : Nat) (ls : Array Slot), (n ≤ d) → lv_has ls 4 [(3, .int (nI n - 1)), (2, .int (nI (wdn d xs x n q))), (0, .ref (y 0)), (1, .int (nI (wdn d xs x d q)))] → W p l e (rmK 4 0 0) s m [.ref (y 0), .int (nI (wdn d xs x d q))].toArray below meth c s.heap [] (0) (0) (MQ below (stQ (fun v H0 H1 => v = some (.int (nI q)) ∧ H1 = H0)) [.ref (y 0), .int (nI (wdn d xs x d q))].toArray s 0 0 (fun _ => False)) (F0 m 10 ls []) := by
    intro n
    induction n with
    | zero =>
      intro  ls hin hl
      refine lv_iload_n hx hb d_R_climbFrom_10 rfl (lv_at hl 0 rfl) ?_
      refine lv_if_lt (tgt := 35) hx hb d_R_climbFrom_11 (by decide) (fun _ => ?_) (fun c9 => absurd (by decide) c9)
      refine lv_iload_n hx hb d_R_climbFrom_35 rfl (lv_at hl 1 rfl) ?_
      exact W.iret (v := nI q) hx hb hr (fun t ht hW => ⟨_, rfl, rfl, ht⟩) (fun _ h => nomatch h) d_R_climbFrom_36
    | succ n ih =>
      intro  ls hin hl
      rw [show nI (n + 1) - 1 = nI n from nI_pred n] at hl
      obtain ⟨ja, oa, z, ok, hL⟩ := hpre.2 n (by omega)
      have hat := wdn_at (d := d) hq n
      refine lv_iload_n hx hb d_R_climbFrom_10 rfl (lv_at hl 0 rfl) ?_
      refine lv_if_lt (tgt := 35) hx hb d_R_climbFrom_11 (by decide) (fun c9 => absurd c9 (nI_pos (by omega))) (fun _ => ?_)
      refine lv_aload_n hx hb d_R_climbFrom_14 rfl (lv_at hl 2 rfl) ?_
      refine va_get (D := D) (ci := 2) (v := .ref (y 7)) (C := n_R) (T := f_R) (N := 10) hx hb hts in_R hown hK hP 0 rfl rfl 1 (by decide) (hts _ x_83) (fun _ h9 => h9) rfl d_R_climbFrom_15 ?_
      refine lv_iload_n hx hb d_R_climbFrom_18 rfl (lv_at hl 0 rfl) ?_
      refine va_aldq hx hb hK hP 1 3 rfl rfl (vp_in_nI (by omega) (by omega)) d_R_climbFrom_19 ?_
      refine ct_topv (v' := .ref (y (8 + 3 * n))) (congrArg (fun j => Value.ref (y (8 + 3 * j))) (nI_clamp (by omega))) ?_
      refine lv_iload_n hx hb d_R_climbFrom_20 rfl (lv_at hl 1 rfl) ?_
      refine lv_aload_n hx hb d_R_climbFrom_21 rfl (lv_at hl 2 rfl) ?_
      refine va_get (D := D) (ci := 2) (v := .int (nI xs.length)) (C := n_R) (T := f_R) (N := 10) hx hb hts in_R hown hK hP 0 rfl rfl 2 (by decide) (hts _ x_84) (fun _ h9 => h9) rfl d_R_climbFrom_22 ?_
      have hlen := wL_len d xs n
      cases htx : wt d n x with
      | false =>
        have e1 : wdn d xs x (n + 1) q = z0 (wt d n) (wL d xs n) (wdn d xs x n q) := by simp only [wdn, htx, hlen, if_true, Bool.false_eq_true, if_false]
        rw [e1, ← hlen]
        refine W.eq (g2 := F0 m 25 ls [.int (nI (wL d xs n).length), .int (nI (z0 (wt d n) (wL d xs n) (wdn d xs x n q))), .ref (y (8 + 3 * n))]) rfl ?_
        refine cm_read (va_runV (As := [.int (nI (z0 (wt d n) (wL d xs n) (wdn d xs x n q))), .int (nI (wL d xs n).length)]) (rest := []) ⟨hx, hb, hml, hown, hts⟩ (m_L_placeAbove_f ok (by rw [hlen]; exact hx9) hat htx) ⟨ct_cb 2 hts x_349 x_346 x_5 rfl rfl (by decide +kernel) ⟨by decide, by decide⟩, hts _ x_347, hts _ x_348⟩ ⟨st_blind, va_recv hK hL (ci := 0) (q0 := 0) rfl rfl, fun U hU hW => ⟨rfl, hE.at hS hAB hU hW, by rw [hU]; exact hL⟩⟩ rfl rfl hl.1 rfl (lv_room (Nat.le_of_ble_eq_true rfl)) d_R_climbFrom_25 ⟨by decide, by decide⟩) (fun v hv => ?_)
        subst hv
        refine W.eq (g2 := F0 m 28 ls [.int (nI (wdn d xs x n q))]) rfl ?_
        refine lv_istore_n (lv' := [(2, .int (nI (wdn d xs x n q))), (3, .int (nI n)), (0, .ref (y 0)), (1, .int (nI (wdn d xs x d q)))]) hx hb d_R_climbFrom_28 rfl hl (by decide) rfl (fun ls hl => ?_)
        refine lv_iinc (v := nI n - 1) (lv' := [(3, .int (nI n - 1)), (2, .int (nI (wdn d xs x n q))), (0, .ref (y 0)), (1, .int (nI (wdn d xs x d q)))]) hx hb d_R_climbFrom_29 hl (k := 1) rfl (by rw [Int32.sub_eq_add_neg]; rfl) (by decide) rfl (fun ls hl => ?_)
        refine lv_goto (tgt := 10) hx hb d_R_climbFrom_32 (by decide) ?_
        exact ih ls (by omega) (lv_sub hl [0, 1, 2, 3] rfl)
      | true =>
        have e1 : wdn d xs x (n + 1) q = z0 (wt d n) (wL d xs n) (wL d xs n).length + z1 (wt d n) (wL d xs n) (wdn d xs x n q) := by simp only [wdn, htx, hlen, if_true, Bool.false_eq_true, if_false]
        rw [e1, ← hlen]
        refine W.eq (g2 := F0 m 25 ls [.int (nI (wL d xs n).length), .int (nI (z0 (wt d n) (wL d xs n) (wL d xs n).length + z1 (wt d n) (wL d xs n) (wdn d xs x n q))), .ref (y (8 + 3 * n))]) rfl ?_
        refine cm_read (va_runV (As := [.int (nI (z0 (wt d n) (wL d xs n) (wL d xs n).length + z1 (wt d n) (wL d xs n) (wdn d xs x n q))), .int (nI (wL d xs n).length)]) (rest := []) ⟨hx, hb, hml, hown, hts⟩ (m_L_placeAbove_t ok (by rw [hlen]; exact hx9) hat htx) ⟨ct_cb 2 hts x_349 x_346 x_5 rfl rfl (by decide +kernel) ⟨by decide, by decide⟩, hts _ x_347, hts _ x_348⟩ ⟨st_blind, va_recv hK hL (ci := 0) (q0 := 0) rfl rfl, fun U hU hW => ⟨rfl, hE.at hS hAB hU hW, by rw [hU]; exact hL⟩⟩ rfl rfl hl.1 rfl (lv_room (Nat.le_of_ble_eq_true rfl)) d_R_climbFrom_25 ⟨by decide, by decide⟩) (fun v hv => ?_)
        subst hv
        refine W.eq (g2 := F0 m 28 ls [.int (nI (wdn d xs x n q))]) rfl ?_
        refine lv_istore_n (lv' := [(2, .int (nI (wdn d xs x n q))), (3, .int (nI n)), (0, .ref (y 0)), (1, .int (nI (wdn d xs x d q)))]) hx hb d_R_climbFrom_28 rfl hl (by decide) rfl (fun ls hl => ?_)
        refine lv_iinc (v := nI n - 1) (lv' := [(3, .int (nI n - 1)), (2, .int (nI (wdn d xs x n q))), (0, .ref (y 0)), (1, .int (nI (wdn d xs x d q)))]) hx hb d_R_climbFrom_29 hl (k := 1) rfl (by rw [Int32.sub_eq_add_neg]; rfl) (by decide) rfl (fun ls hl => ?_)
        refine lv_goto (tgt := 10) hx hb d_R_climbFrom_32 (by decide) ?_
        exact ih ls (by omega) (lv_sub hl [0, 1, 2, 3] rfl)
  exact loop d ls (Nat.le_refl d) (lv_sub hl [0, 1, 2, 3] rfl)
end
section
/-! LevelRows: descendTo, kthLeast, howManyBelow. -/
set_option maxHeartbeats 4000000 in
set_option maxRecDepth 100000 in
theorem m_R_descendTo {l : Launch} {D : va_G} {cI cJ cS cO : ClassId} {B0 : Nat} {y : Nat → Nat} {sg d : Nat} {xs ws : List Nat} (hy : yI B0 y d) (ok0 : Ok sg d xs ws) {a b sy : Nat} (hab : a ≤ b) (hbx : b ≤ xs.length) (hsy : sy < 2 ^ d) {f2 f3 f4 f5 : Int32} : CM l D (tyL cI cJ cS cO) B0 y_R_descendTo c_R_descendTo 3 none (rmK 4 0 0) [.ref (y 0), .int (nI sy)] (fun H => RL D cJ cS cO y sg d xs ws.length H ∧ va_P D vwCl (Pw (y 3) (nI a) (nI b) f2 f3 f4 f5) H) (fun v H0 H1 => v = none ∧ fr (fun q => q = y 3) H0 H1 ∧ ∃ g2 g3 g4 g5, va_P D vwCl (Pw (y 3) (nI (wdn d xs sy d a)) (nI (wdn d xs sy d b)) g2 g3 g4 g5) H1) 0 0 (fun q => q = y 3) := by
  refine cm_of (by decide) (Nat.le_of_ble_eq_true rfl) ?_
  intro p e s m below meth c ls hx hb hr hml hown hts hlocks hnm hE hpre hl
  have hown : s.vm.findClass "LevelRows" = some m.cls := hown
  have hK := hE.1
  have hl : lv_has ls 3 [(0, .ref (y 0)), (1, .int (nI sy))] := hl
  have hS : va_S (fun q => q = y 3) s.heap s.heap [] := va_S.rf
  have hR0 := hpre.1.1
  have hRd : ∀ (k : Nat) (q : Nat × va_E), (Rw cO y (nI sg) d (nI xs.length) (nI ws.length))[k]? = some q → ¬ q.1 = y 3 := Rw.off hy (by omega) (by omega)
  have hR := hR0
  have hAB : ∀ q : Nat, q = y 3 → B0 ≤ q := fun q h => by rw [h]; exact hy.2 3 (by omega)
  have hd16 := ok0.d16
  have hx9 := ok0.len
  have hp16 := ok0.p16
  have hP : va_P D vwCl [(y 3, .inr (1, [.int (nI a), .int (nI b), .int f2, .int f3, .int f4, .int f5]))] s.heap := hpre.2
  have hD : va_D (fun q => q = y 3) [(y 3, .inr (1, [.int (nI a), .int (nI b), .int f2, .int f3, .int f4, .int f5]))] := va_D.one rfl
  refine lv_iconst (v := 0) hx hb d_R_descendTo_0 (by decide) ?_
  refine lv_istore_n (lv' := [(2, .int 0), (0, .ref (y 0)), (1, .int (nI sy))]) hx hb d_R_descendTo_1 rfl hl (by decide) rfl (fun ls hl => ?_)
  have loop : ∀ (n : Nat) (i : Nat) (g2 : Int32) (g3 : Int32) (g4 : Int32) (g5 : Int32) (H : Heap) (locs : List Loc) (ls : Array Slot), (i + n = d) → va_S (fun q => q = y 3) s.heap H locs → va_P D vwCl [(y 3, .inr (1, [.int (nI (wdn d xs sy i a)), .int (nI (wdn d xs sy i b)), .int g2, .int g3, .int g4, .int g5]))] H → va_D (fun q => q = y 3) [(y 3, .inr (1, [.int (nI (wdn d xs sy i a)), .int (nI (wdn d xs sy i b)), .int g2, .int g3, .int g4, .int g5]))] → lv_has ls 3 [(2, .int (nI i)), (0, .ref (y 0)), (1, .int (nI sy))] → W p l e (rmK 4 0 0) s m [.ref (y 0), .int (nI sy)].toArray below meth c H locs (0) (0) (MQ below (stQ (fun v H0 H1 => v = none ∧ fr (fun q => q = y 3) H0 H1 ∧ ∃ g2 g3 g4 g5, va_P D vwCl (Pw (y 3) (nI (wdn d xs sy d a)) (nI (wdn d xs sy d b)) g2 g3 g4 g5) H1)) [.ref (y 0), .int (nI sy)].toArray s 0 0 (fun q => q = y 3)) (F0 m 2 ls []) := by
    intro n
    induction n with
    | zero =>
      intro i g2 g3 g4 g5 H locs ls hin hS hP hD hl
      have hR := hR0.rd hS hRd
      have hid : i = d := by omega
      refine lv_iload_n hx hb d_R_descendTo_2 rfl (lv_at hl 0 rfl) ?_
      refine lv_aload_n hx hb d_R_descendTo_3 rfl (lv_at hl 1 rfl) ?_
      refine va_get (D := D) (ci := 2) (v := .ref (y 7)) (C := n_R) (T := f_R) (N := 10) hx hb hts in_R hown hK hR 0 rfl rfl 1 (by decide) (hts _ x_83) (fun _ h9 => h9) rfl d_R_descendTo_4 ?_
      refine va_alen hx hb hK hR 1 3 rfl rfl (v := nI (d)) rfl d_R_descendTo_7 ?_
      refine lv_icmp_ge (tgt := 46) hx hb d_R_descendTo_8 (by decide) (fun _ => ?_) (fun c9 => absurd (nI_le (by omega) (by omega)) c9)
      subst hid
      exact W.vret hx hb hr (fun t ht hW => ⟨_, rfl, by rw [ht]; exact ⟨rfl, fr.of hS, _, _, _, _, hP⟩⟩) hS.2.2 d_R_descendTo_46
    | succ n ih =>
      intro i g2 g3 g4 g5 H locs ls hin hS hP hD hl
      have hR := hR0.rd hS hRd
      have hid : i < d := by omega
      obtain ⟨ja, oa, z, ok, hL0⟩ := hpre.1.2 i hid
      have hlen := wL_len d xs i
      have hLd : ∀ (k : Nat) (q : Nat × va_E), (Lw cJ cS (y (8 + 3 * i)) (y (9 + 3 * i)) (y (10 + 3 * i)) ja oa z)[k]? = some q → ¬ q.1 = y 3 := Lk.off hy hid (by omega)
      have hL := hL0.rd hS hLd
      have hI := wdn_I hsy hab hbx ok0.lt i (by omega)
      have hI2 := hI.len
      refine lv_iload_n hx hb d_R_descendTo_2 rfl (lv_at hl 0 rfl) ?_
      refine lv_aload_n hx hb d_R_descendTo_3 rfl (lv_at hl 1 rfl) ?_
      refine va_get (D := D) (ci := 2) (v := .ref (y 7)) (C := n_R) (T := f_R) (N := 10) hx hb hts in_R hown hK hR 0 rfl rfl 1 (by decide) (hts _ x_83) (fun _ h9 => h9) rfl d_R_descendTo_4 ?_
      refine va_alen hx hb hK hR 1 3 rfl rfl (v := nI (d)) rfl d_R_descendTo_7 ?_
      refine lv_icmp_ge (tgt := 46) hx hb d_R_descendTo_8 (by decide) (fun c9 => absurd c9 (nI_ge (by omega) (by omega))) (fun _ => ?_)
      refine lv_aload_n hx hb d_R_descendTo_11 rfl (lv_at hl 1 rfl) ?_
      refine va_get (D := D) (ci := 2) (v := .ref (y 3)) (C := n_R) (T := f_R) (N := 10) hx hb hts in_R hown hK hR 0 rfl rfl 6 (by decide) (hts _ x_88) (fun _ h9 => h9) rfl d_R_descendTo_12 ?_
      refine lv_aload_n hx hb d_R_descendTo_15 rfl (lv_at hl 1 rfl) ?_
      refine va_get (D := D) (ci := 2) (v := .ref (y 7)) (C := n_R) (T := f_R) (N := 10) hx hb hts in_R hown hK hR 0 rfl rfl 1 (by decide) (hts _ x_83) (fun _ h9 => h9) rfl d_R_descendTo_16 ?_
      refine lv_iload_n hx hb d_R_descendTo_19 rfl (lv_at hl 0 rfl) ?_
      refine va_aldq hx hb hK hR 1 3 rfl rfl (vp_in_nI (by omega) (by omega)) d_R_descendTo_20 ?_
      refine ct_topv (v' := .ref (y (8 + 3 * i))) (congrArg (fun j => Value.ref (y (8 + 3 * j))) (nI_clamp (by omega))) ?_
      refine cm_ret (va_runV (As := [.ref (y (8 + 3 * i))]) (rest := []) ⟨hx, hb, hml, hown, hts⟩ (m_P_split ok (by rw [hlen]; exact hx9) (wdn d xs sy i a) (wdn d xs sy i b) (by rw [hlen]; omega) (by rw [hlen]; omega) (hy.2 3 (by omega)) (hy.ne (i := 8 + 3 * i) (j := 3) (by omega) (by omega) (by omega)) (hy.ne (i := 9 + 3 * i) (j := 3) (by omega) (by omega) (by omega)) (hy.ne (i := 10 + 3 * i) (j := 3) (by omega) (by omega) (by omega))) ⟨ct_cb 1 hts x_321 x_318 x_2 rfl rfl (by decide +kernel) ⟨by decide, by decide⟩, hts _ x_319, hts _ x_320⟩ ⟨st_blind, va_recv hK hP (ci := 1) (q0 := 0) rfl rfl, fun U hU hW => ⟨rfl, hE.at hS hAB hU hW, by rw [hU]; exact ⟨hP, hL⟩⟩⟩ rfl rfl hl.1 rfl (lv_room (Nat.le_of_ble_eq_true rfl)) d_R_descendTo_21 ⟨by decide, by decide⟩) hS (fun q h => h) (fun _ _ h => h.2.1) (fun v H locs hv hS => ?_)
      obtain ⟨rfl, hfr, hP⟩ := hv
      refine W.eq (g2 := F0 m 24 ls []) rfl ?_
      rw [hlen] at hP
      have hP : va_P D vwCl [(y 3, .inr (1, [.int (nI (wdn d xs sy i a)), .int (nI (wdn d xs sy i b)), .int (nI (z0 (wt d i) (wL d xs i) (wdn d xs sy i a))), .int (nI (z0 (wt d i) (wL d xs i) (wdn d xs sy i b))), .int (nI (z0 (wt d i) (wL d xs i) xs.length + z1 (wt d i) (wL d xs i) (wdn d xs sy i a))), .int (nI (z0 (wt d i) (wL d xs i) xs.length + z1 (wt d i) (wL d xs i) (wdn d xs sy i b)))]))] H := hP
      have hD : va_D (fun q => q = y 3) [(y 3, .inr (1, [.int (nI (wdn d xs sy i a)), .int (nI (wdn d xs sy i b)), .int (nI (z0 (wt d i) (wL d xs i) (wdn d xs sy i a))), .int (nI (z0 (wt d i) (wL d xs i) (wdn d xs sy i b))), .int (nI (z0 (wt d i) (wL d xs i) xs.length + z1 (wt d i) (wL d xs i) (wdn d xs sy i a))), .int (nI (z0 (wt d i) (wL d xs i) xs.length + z1 (wt d i) (wL d xs i) (wdn d xs sy i b)))]))] := va_D.one rfl
      have hR := hR0.rd hS hRd
      have hL := hL0.rd hS hLd
      refine lv_aload_n hx hb d_R_descendTo_24 rfl (lv_at hl 1 rfl) ?_
      refine va_get (D := D) (ci := 2) (v := .ref (y 3)) (C := n_R) (T := f_R) (N := 10) hx hb hts in_R hown hK hR 0 rfl rfl 6 (by decide) (hts _ x_88) (fun _ h9 => h9) rfl d_R_descendTo_25 ?_
      refine lv_iload_n hx hb d_R_descendTo_28 rfl (lv_at hl 2 rfl) ?_
      refine lv_aload_n hx hb d_R_descendTo_29 rfl (lv_at hl 1 rfl) ?_
      refine lv_iload_n hx hb d_R_descendTo_30 rfl (lv_at hl 0 rfl) ?_
      refine cm_read (va_runV (As := [.int (nI i)]) (rest := [.int (nI sy), .ref (y 3)]) ⟨hx, hb, hml, hown, hts⟩ (m_R_shiftOf (xs := xs) (sg := sg) (wa := ws.length) hid hd16) ⟨ct_cb 1 hts x_150 x_147 x_1 rfl rfl (by decide +kernel) ⟨by decide, by decide⟩, hts _ x_149, hts _ s_R_shiftOf⟩ ⟨st_blind, va_recv hK hR (ci := 2) (q0 := 0) rfl rfl, fun U hU hW => ⟨rfl, hE.at hS hAB hU hW, by rw [hU]; exact RL.fr hy hpre.1 (fr.of hS) (fun q _ h => ⟨3, by omega, by omega, h⟩)⟩⟩ rfl rfl hl.1 rfl (lv_room (Nat.le_of_ble_eq_true rfl)) d_R_descendTo_31 ⟨by decide, by decide⟩) (fun v hv => ?_)
      subst hv
      refine W.eq (g2 := F0 m 34 ls [.int (nI (d - 1 - i)), .int (nI sy), .ref (y 3)]) rfl ?_
      refine lv_ishr hx hb d_R_descendTo_34 ?_
      refine ct_topi (x' := nI (sy / 2 ^ (d - 1 - i))) (sh_bit (by omega) (by omega)) ?_
      refine lv_iconst (v := 1) hx hb d_R_descendTo_35 (by decide) ?_
      refine lv_iand hx hb d_R_descendTo_36 ?_
      refine ct_topi (x' := nI (sy / 2 ^ (d - 1 - i) % 2)) (nI_and1 _) ?_
      cases hbt : wt d i sy with
      | false =>
        have hb0 : sy / 2 ^ (d - 1 - i) % 2 = 0 := by have := of_decide_eq_false hbt; omega
        refine ct_topi (x' := nI 0) (by rw [hb0]) ?_
        refine cm_ret (va_runV (As := [.int (nI 0)]) (rest := []) ⟨hx, hb, hml, hown, hts⟩ (m_P_enter0) ⟨ct_cb 1 hts x_326 x_323 x_2 rfl rfl (by decide +kernel) ⟨by decide, by decide⟩, hts _ x_324, hts _ x_325⟩ ⟨st_blind, va_recv hK hP (ci := 1) (q0 := 0) rfl rfl, fun U hU hW => ⟨rfl, hE.at hS hAB hU hW, by rw [hU]; exact hP⟩⟩ rfl rfl hl.1 rfl (lv_room (Nat.le_of_ble_eq_true rfl)) d_R_descendTo_37 ⟨by decide, by decide⟩) hS (fun q h => h) (fun _ _ h => h.2.1) (fun v H locs hv hS => ?_)
        obtain ⟨rfl, hfr, hP⟩ := hv
        refine W.eq (g2 := F0 m 40 ls []) rfl ?_
        have hP : va_P D vwCl [(y 3, .inr (1, [.int (nI (z0 (wt d i) (wL d xs i) (wdn d xs sy i a))), .int (nI (z0 (wt d i) (wL d xs i) (wdn d xs sy i b))), .int (nI (z0 (wt d i) (wL d xs i) (wdn d xs sy i a))), .int (nI (z0 (wt d i) (wL d xs i) (wdn d xs sy i b))), .int (nI (z0 (wt d i) (wL d xs i) xs.length + z1 (wt d i) (wL d xs i) (wdn d xs sy i a))), .int (nI (z0 (wt d i) (wL d xs i) xs.length + z1 (wt d i) (wL d xs i) (wdn d xs sy i b)))]))] H := hP
        have hD : va_D (fun q => q = y 3) [(y 3, .inr (1, [.int (nI (z0 (wt d i) (wL d xs i) (wdn d xs sy i a))), .int (nI (z0 (wt d i) (wL d xs i) (wdn d xs sy i b))), .int (nI (z0 (wt d i) (wL d xs i) (wdn d xs sy i a))), .int (nI (z0 (wt d i) (wL d xs i) (wdn d xs sy i b))), .int (nI (z0 (wt d i) (wL d xs i) xs.length + z1 (wt d i) (wL d xs i) (wdn d xs sy i a))), .int (nI (z0 (wt d i) (wL d xs i) xs.length + z1 (wt d i) (wL d xs i) (wdn d xs sy i b)))]))] := va_D.one rfl
        have hR := hR0.rd hS hRd
        have hL := hL0.rd hS hLd
        have ea : nI (wdn d xs sy (i + 1) a) = nI (z0 (wt d i) (wL d xs i) (wdn d xs sy i a)) := by simp only [wdn, hbt, if_true, Bool.false_eq_true, if_false]
        have eb : nI (wdn d xs sy (i + 1) b) = nI (z0 (wt d i) (wL d xs i) (wdn d xs sy i b)) := by simp only [wdn, hbt, if_true, Bool.false_eq_true, if_false]
        refine lv_iinc (v := nI (i + 1)) (lv' := [(2, .int (nI (i + 1))), (0, .ref (y 0)), (1, .int (nI sy))]) hx hb d_R_descendTo_40 hl (k := 0) rfl ((nI_succ i).symm) (by decide) rfl (fun ls hl => ?_)
        refine lv_goto (tgt := 2) hx hb d_R_descendTo_43 (by decide) ?_
        exact ih (i + 1) _ _ _ _ H _ ls (by omega) hS (by rw [ea, eb]; exact hP) (va_D.one rfl) (lv_sub hl [0, 1, 2] rfl)
      | true =>
        have hb0 : sy / 2 ^ (d - 1 - i) % 2 = 1 := of_decide_eq_true hbt
        refine ct_topi (x' := nI 1) (by rw [hb0]) ?_
        refine cm_ret (va_runV (As := [.int (nI 1)]) (rest := []) ⟨hx, hb, hml, hown, hts⟩ (m_P_enter1) ⟨ct_cb 1 hts x_326 x_323 x_2 rfl rfl (by decide +kernel) ⟨by decide, by decide⟩, hts _ x_324, hts _ x_325⟩ ⟨st_blind, va_recv hK hP (ci := 1) (q0 := 0) rfl rfl, fun U hU hW => ⟨rfl, hE.at hS hAB hU hW, by rw [hU]; exact hP⟩⟩ rfl rfl hl.1 rfl (lv_room (Nat.le_of_ble_eq_true rfl)) d_R_descendTo_37 ⟨by decide, by decide⟩) hS (fun q h => h) (fun _ _ h => h.2.1) (fun v H locs hv hS => ?_)
        obtain ⟨rfl, hfr, hP⟩ := hv
        refine W.eq (g2 := F0 m 40 ls []) rfl ?_
        have hP : va_P D vwCl [(y 3, .inr (1, [.int (nI (z0 (wt d i) (wL d xs i) xs.length + z1 (wt d i) (wL d xs i) (wdn d xs sy i a))), .int (nI (z0 (wt d i) (wL d xs i) xs.length + z1 (wt d i) (wL d xs i) (wdn d xs sy i b))), .int (nI (z0 (wt d i) (wL d xs i) (wdn d xs sy i a))), .int (nI (z0 (wt d i) (wL d xs i) (wdn d xs sy i b))), .int (nI (z0 (wt d i) (wL d xs i) xs.length + z1 (wt d i) (wL d xs i) (wdn d xs sy i a))), .int (nI (z0 (wt d i) (wL d xs i) xs.length + z1 (wt d i) (wL d xs i) (wdn d xs sy i b)))]))] H := hP
        have hD : va_D (fun q => q = y 3) [(y 3, .inr (1, [.int (nI (z0 (wt d i) (wL d xs i) xs.length + z1 (wt d i) (wL d xs i) (wdn d xs sy i a))), .int (nI (z0 (wt d i) (wL d xs i) xs.length + z1 (wt d i) (wL d xs i) (wdn d xs sy i b))), .int (nI (z0 (wt d i) (wL d xs i) (wdn d xs sy i a))), .int (nI (z0 (wt d i) (wL d xs i) (wdn d xs sy i b))), .int (nI (z0 (wt d i) (wL d xs i) xs.length + z1 (wt d i) (wL d xs i) (wdn d xs sy i a))), .int (nI (z0 (wt d i) (wL d xs i) xs.length + z1 (wt d i) (wL d xs i) (wdn d xs sy i b)))]))] := va_D.one rfl
        have hR := hR0.rd hS hRd
        have hL := hL0.rd hS hLd
        have ea : nI (wdn d xs sy (i + 1) a) = nI (z0 (wt d i) (wL d xs i) xs.length + z1 (wt d i) (wL d xs i) (wdn d xs sy i a)) := by simp only [wdn, hbt, if_true, Bool.false_eq_true, if_false]
        have eb : nI (wdn d xs sy (i + 1) b) = nI (z0 (wt d i) (wL d xs i) xs.length + z1 (wt d i) (wL d xs i) (wdn d xs sy i b)) := by simp only [wdn, hbt, if_true, Bool.false_eq_true, if_false]
        refine lv_iinc (v := nI (i + 1)) (lv' := [(2, .int (nI (i + 1))), (0, .ref (y 0)), (1, .int (nI sy))]) hx hb d_R_descendTo_40 hl (k := 0) rfl ((nI_succ i).symm) (by decide) rfl (fun ls hl => ?_)
        refine lv_goto (tgt := 2) hx hb d_R_descendTo_43 (by decide) ?_
        exact ih (i + 1) _ _ _ _ H _ ls (by omega) hS (by rw [ea, eb]; exact hP) (va_D.one rfl) (lv_sub hl [0, 1, 2] rfl)
  exact loop d 0 _ _ _ _ s.heap [] ls (by omega) hS hP hD (lv_sub hl [0, 1, 2] rfl)
set_option maxHeartbeats 4000000 in
set_option maxRecDepth 100000 in
theorem m_R_kthLeast {l : Launch} {D : va_G} {cI cJ cS cO : ClassId} {B0 : Nat} {y : Nat → Nat} {sg d : Nat} {xs ws : List Nat} (hy : yI B0 y d) (ok0 : Ok sg d xs ws) {a b : Nat} (hab : a ≤ b) (hbx : b ≤ xs.length) {B : List Nat} (hB : B = (xs.drop a).take (b - a)) {k r : Nat} (hkr : kth B k r) : CM l D (tyL cI cJ cS cO) B0 y_R_kthLeast c_R_kthLeast 8 (some .int) (rmK 4 0 0) [.ref (y 0), .int (nI a), .int (nI b), .int (nI k)] (fun H => RL D cJ cS cO y sg d xs ws.length H ∧ PP D (y 3) H) (fun v H0 H1 => v = some (.int (nI r)) ∧ fr (fun q => q = y 3) H0 H1 ∧ ∃ u g2 g3 g4 g5, u + cEq B r ≤ 1000 ∧ va_P D vwCl (Pw (y 3) (nI u) (nI (u + cEq B r)) g2 g3 g4 g5) H1) 0 0 (fun q => q = y 3) := by
  refine cm_of (by decide) (Nat.le_of_ble_eq_true rfl) ?_
  intro p e s m below meth c ls hx hb hr hml hown hts hlocks hnm hE hpre hl
  have hown : s.vm.findClass "LevelRows" = some m.cls := hown
  have hK := hE.1
  have hl : lv_has ls 8 [(0, .ref (y 0)), (1, .int (nI a)), (2, .int (nI b)), (3, .int (nI k))] := hl
  have hS : va_S (fun q => q = y 3) s.heap s.heap [] := va_S.rf
  have hR0 := hpre.1.1
  have hRd : ∀ (k : Nat) (q : Nat × va_E), (Rw cO y (nI sg) d (nI xs.length) (nI ws.length))[k]? = some q → ¬ q.1 = y 3 := Rw.off hy (by omega) (by omega)
  have hR := hR0
  have hAB : ∀ q : Nat, q = y 3 → B0 ≤ q := fun q h => by rw [h]; exact hy.2 3 (by omega)
  have hd16 := ok0.d16
  have hx9 := ok0.len
  have hp16 := ok0.p16
  obtain ⟨f0, f1, f2, f3, f4, f5, hP⟩ := hpre.2
  have hkl : k < B.length := Nat.lt_of_lt_of_le hkr.2 (cLt_le B _)
  have hBl : B.length = b - a := by rw [hB, List.length_take, List.length_drop]; omega
  have hP : va_P D vwCl [(y 3, .inr (1, [.int f0, .int f1, .int f2, .int f3, .int f4, .int f5]))] s.heap := hP
  have hD : va_D (fun q => q = y 3) [(y 3, .inr (1, [.int f0, .int f1, .int f2, .int f3, .int f4, .int f5]))] := va_D.one rfl
  refine lv_aload_n hx hb d_R_kthLeast_0 rfl (lv_at hl 0 rfl) ?_
  refine va_get (D := D) (ci := 2) (v := .ref (y 3)) (C := n_R) (T := f_R) (N := 10) hx hb hts in_R hown hK hR 0 rfl rfl 6 (by decide) (hts _ x_88) (fun _ h9 => h9) rfl d_R_kthLeast_1 ?_
  refine lv_iload_n hx hb d_R_kthLeast_4 rfl (lv_at hl 1 rfl) ?_
  refine lv_iload_n hx hb d_R_kthLeast_5 rfl (lv_at hl 2 rfl) ?_
  refine cm_ret (va_runV (As := [.int (nI a), .int (nI b)]) (rest := []) ⟨hx, hb, hml, hown, hts⟩ (m_P_span (nI a) (nI b)) ⟨ct_cb 2 hts x_313 x_310 x_2 rfl rfl (by decide +kernel) ⟨by decide, by decide⟩, hts _ x_311, hts _ x_312⟩ ⟨st_blind, va_recv hK hP (ci := 1) (q0 := 0) rfl rfl, fun U hU hW => ⟨rfl, hE.at hS hAB hU hW, by rw [hU]; exact hP⟩⟩ rfl rfl hl.1 rfl (lv_room (Nat.le_of_ble_eq_true rfl)) d_R_kthLeast_6 ⟨by decide, by decide⟩) hS (fun q h => h) (fun _ _ h => h.2.1) (fun v H locs hv hS => ?_)
  obtain ⟨rfl, hfr, hP⟩ := hv
  refine W.eq (g2 := F0 m 9 ls []) rfl ?_
  have hP : va_P D vwCl [(y 3, .inr (1, [.int (nI a), .int (nI b), .int f2, .int f3, .int f4, .int f5]))] H := hP
  have hD : va_D (fun q => q = y 3) [(y 3, .inr (1, [.int (nI a), .int (nI b), .int f2, .int f3, .int f4, .int f5]))] := va_D.one rfl
  have hR := hR0.rd hS hRd
  refine lv_iload_n hx hb d_R_kthLeast_9 rfl (lv_at hl 3 rfl) ?_
  refine lv_istore (lv' := [(4, .int (nI k)), (0, .ref (y 0)), (1, .int (nI a)), (2, .int (nI b)), (3, .int (nI k))]) hx hb d_R_kthLeast_10 hl (by decide) rfl (fun ls hl => ?_)
  refine lv_iconst (v := 0) hx hb d_R_kthLeast_12 (by decide) ?_
  refine lv_istore (lv' := [(5, .int 0), (4, .int (nI k)), (0, .ref (y 0)), (1, .int (nI a)), (2, .int (nI b)), (3, .int (nI k))]) hx hb d_R_kthLeast_13 hl (by decide) rfl (fun ls hl => ?_)
  refine lv_iconst (v := 0) hx hb d_R_kthLeast_15 (by decide) ?_
  refine lv_istore (lv' := [(6, .int 0), (5, .int 0), (4, .int (nI k)), (0, .ref (y 0)), (1, .int (nI a)), (2, .int (nI b)), (3, .int (nI k))]) hx hb d_R_kthLeast_16 hl (by decide) rfl (fun ls hl => ?_)
  have loop : ∀ (n : Nat) (i : Nat) (pp : Nat) (u : Nat) (w : Nat) (lf : Nat) (g2 : Int32) (g3 : Int32) (g4 : Int32) (g5 : Int32) (H : Heap) (locs : List Loc) (ls : Array Slot), (i + n = d) → (wI d xs i pp u w B) → (k = wlt d i pp B + lf) → (lf < (wpre d i pp B).length) → (pp < 2 ^ i) → va_S (fun q => q = y 3) s.heap H locs → va_P D vwCl [(y 3, .inr (1, [.int (nI u), .int (nI w), .int g2, .int g3, .int g4, .int g5]))] H → va_D (fun q => q = y 3) [(y 3, .inr (1, [.int (nI u), .int (nI w), .int g2, .int g3, .int g4, .int g5]))] → lv_has ls 8 [(6, .int (nI i)), (5, .int (nI pp)), (4, .int (nI lf)), (0, .ref (y 0)), (1, .int (nI a)), (2, .int (nI b)), (3, .int (nI k))] → W p l e (rmK 4 0 0) s m [.ref (y 0), .int (nI a), .int (nI b), .int (nI k)].toArray below meth c H locs (0) (0) (MQ below (stQ (fun v H0 H1 => v = some (.int (nI r)) ∧ fr (fun q => q = y 3) H0 H1 ∧ ∃ u g2 g3 g4 g5, u + cEq B r ≤ 1000 ∧ va_P D vwCl (Pw (y 3) (nI u) (nI (u + cEq B r)) g2 g3 g4 g5) H1)) [.ref (y 0), .int (nI a), .int (nI b), .int (nI k)].toArray s 0 0 (fun q => q = y 3)) (F0 m 18 ls []) := by
    intro n
    induction n with
    | zero =>
      intro i pp u w lf g2 g3 g4 g5 H locs ls hin hI hk1 hk2 hpp hS hP hD hl
      have hR := hR0.rd hS hRd
      have hid : i = d := by omega
      refine lv_iload hx hb d_R_kthLeast_18 (lv_at hl 0 rfl) ?_
      refine lv_aload_n hx hb d_R_kthLeast_20 rfl (lv_at hl 3 rfl) ?_
      refine va_get (D := D) (ci := 2) (v := .ref (y 7)) (C := n_R) (T := f_R) (N := 10) hx hb hts in_R hown hK hR 0 rfl rfl 1 (by decide) (hts _ x_83) (fun _ h9 => h9) rfl d_R_kthLeast_21 ?_
      refine va_alen hx hb hK hR 1 3 rfl rfl (v := nI (d)) rfl d_R_kthLeast_24 ?_
      refine lv_icmp_ge (tgt := 106) hx hb d_R_kthLeast_25 (by decide) (fun _ => ?_) (fun c9 => absurd (nI_le (by omega) (by omega)) c9)
      subst hid
      have hr2 : r = pp := hkr.uniq (kth.of_pre hk1 hk2)
      subst hr2
      have hI2 := hI.len
      rw [wpre_d] at hI2
      have hw : va_P D vwCl (Pw (y 3) (nI u) (nI (u + cEq B r)) g2 g3 g4 g5) H := by
        have e9 : u + cEq B r = w := hI2.1
        rw [e9]; exact hP
      have hle : u + cEq B r ≤ 1000 := by have e9 : u + cEq B r = w := hI2.1; omega
      refine lv_iload hx hb d_R_kthLeast_106 (lv_at hl 1 rfl) ?_
      exact W.iret (v := nI r) hx hb hr (fun t ht hW => ⟨_, rfl, by rw [ht]; exact ⟨rfl, fr.of hS, u, g2, g3, g4, g5, hle, hw⟩⟩) hS.2.2 d_R_kthLeast_108
    | succ n ih =>
      intro i pp u w lf g2 g3 g4 g5 H locs ls hin hI hk1 hk2 hpp hS hP hD hl
      have hR := hR0.rd hS hRd
      have hid : i < d := by omega
      obtain ⟨ja, oa, z, ok, hL0⟩ := hpre.1.2 i hid
      have hlen := wL_len d xs i
      have hLd : ∀ (k : Nat) (q : Nat × va_E), (Lw cJ cS (y (8 + 3 * i)) (y (9 + 3 * i)) (y (10 + 3 * i)) ja oa z)[k]? = some q → ¬ q.1 = y 3 := Lk.off hy hid (by omega)
      have hL := hL0.rd hS hLd
      have hI2 := hI.len
      have hcnt := hI.cnt hid
      have hsp := wpre_split (p := pp) hid B
      have h2i : 2 ^ (i + 1) = 2 * 2 ^ i := by rw [Nat.pow_succ, Nat.mul_comm]
      have h2j : 2 ^ i ≤ 65536 := show 2 ^ i ≤ 2 ^ 16 from Nat.pow_le_pow_right (by omega) (by omega)
      have hwl : (wpre d i pp B).length ≤ B.length := List.length_filter_le _ _
      refine lv_iload hx hb d_R_kthLeast_18 (lv_at hl 0 rfl) ?_
      refine lv_aload_n hx hb d_R_kthLeast_20 rfl (lv_at hl 3 rfl) ?_
      refine va_get (D := D) (ci := 2) (v := .ref (y 7)) (C := n_R) (T := f_R) (N := 10) hx hb hts in_R hown hK hR 0 rfl rfl 1 (by decide) (hts _ x_83) (fun _ h9 => h9) rfl d_R_kthLeast_21 ?_
      refine va_alen hx hb hK hR 1 3 rfl rfl (v := nI (d)) rfl d_R_kthLeast_24 ?_
      refine lv_icmp_ge (tgt := 106) hx hb d_R_kthLeast_25 (by decide) (fun c9 => absurd c9 (nI_ge (by omega) (by omega))) (fun _ => ?_)
      refine lv_aload_n hx hb d_R_kthLeast_28 rfl (lv_at hl 3 rfl) ?_
      refine va_get (D := D) (ci := 2) (v := .ref (y 3)) (C := n_R) (T := f_R) (N := 10) hx hb hts in_R hown hK hR 0 rfl rfl 6 (by decide) (hts _ x_88) (fun _ h9 => h9) rfl d_R_kthLeast_29 ?_
      refine lv_aload_n hx hb d_R_kthLeast_32 rfl (lv_at hl 3 rfl) ?_
      refine va_get (D := D) (ci := 2) (v := .ref (y 7)) (C := n_R) (T := f_R) (N := 10) hx hb hts in_R hown hK hR 0 rfl rfl 1 (by decide) (hts _ x_83) (fun _ h9 => h9) rfl d_R_kthLeast_33 ?_
      refine lv_iload hx hb d_R_kthLeast_36 (lv_at hl 0 rfl) ?_
      refine va_aldq hx hb hK hR 1 3 rfl rfl (vp_in_nI (by omega) (by omega)) d_R_kthLeast_38 ?_
      refine ct_topv (v' := .ref (y (8 + 3 * i))) (congrArg (fun j => Value.ref (y (8 + 3 * j))) (nI_clamp (by omega))) ?_
      refine cm_ret (va_runV (As := [.ref (y (8 + 3 * i))]) (rest := []) ⟨hx, hb, hml, hown, hts⟩ (m_P_split ok (by rw [hlen]; exact hx9) (u) (w) (by rw [hlen]; omega) (by rw [hlen]; omega) (hy.2 3 (by omega)) (hy.ne (i := 8 + 3 * i) (j := 3) (by omega) (by omega) (by omega)) (hy.ne (i := 9 + 3 * i) (j := 3) (by omega) (by omega) (by omega)) (hy.ne (i := 10 + 3 * i) (j := 3) (by omega) (by omega) (by omega))) ⟨ct_cb 1 hts x_321 x_318 x_2 rfl rfl (by decide +kernel) ⟨by decide, by decide⟩, hts _ x_319, hts _ x_320⟩ ⟨st_blind, va_recv hK hP (ci := 1) (q0 := 0) rfl rfl, fun U hU hW => ⟨rfl, hE.at hS hAB hU hW, by rw [hU]; exact ⟨hP, hL⟩⟩⟩ rfl rfl hl.1 rfl (lv_room (Nat.le_of_ble_eq_true rfl)) d_R_kthLeast_39 ⟨by decide, by decide⟩) hS (fun q h => h) (fun _ _ h => h.2.1) (fun v H locs hv hS => ?_)
      obtain ⟨rfl, hfr, hP⟩ := hv
      refine W.eq (g2 := F0 m 42 ls []) rfl ?_
      rw [hlen] at hP
      have hP : va_P D vwCl [(y 3, .inr (1, [.int (nI (u)), .int (nI (w)), .int (nI (z0 (wt d i) (wL d xs i) (u))), .int (nI (z0 (wt d i) (wL d xs i) (w))), .int (nI (z0 (wt d i) (wL d xs i) xs.length + z1 (wt d i) (wL d xs i) (u))), .int (nI (z0 (wt d i) (wL d xs i) xs.length + z1 (wt d i) (wL d xs i) (w)))]))] H := hP
      have hD : va_D (fun q => q = y 3) [(y 3, .inr (1, [.int (nI (u)), .int (nI (w)), .int (nI (z0 (wt d i) (wL d xs i) (u))), .int (nI (z0 (wt d i) (wL d xs i) (w))), .int (nI (z0 (wt d i) (wL d xs i) xs.length + z1 (wt d i) (wL d xs i) (u))), .int (nI (z0 (wt d i) (wL d xs i) xs.length + z1 (wt d i) (wL d xs i) (w)))]))] := va_D.one rfl
      have hR := hR0.rd hS hRd
      have hL := hL0.rd hS hLd
      refine lv_iload hx hb d_R_kthLeast_42 (lv_at hl 2 rfl) ?_
      refine lv_aload_n hx hb d_R_kthLeast_44 rfl (lv_at hl 3 rfl) ?_
      refine va_get (D := D) (ci := 2) (v := .ref (y 3)) (C := n_R) (T := f_R) (N := 10) hx hb hts in_R hown hK hR 0 rfl rfl 6 (by decide) (hts _ x_88) (fun _ h9 => h9) rfl d_R_kthLeast_45 ?_
      refine cm_read (va_runV (As := []) (rest := [.int (nI lf)]) ⟨hx, hb, hml, hown, hts⟩ (m_P_zeros) ⟨ct_cb 0 hts x_370 x_367 x_2 rfl rfl (by decide +kernel) ⟨by decide, by decide⟩, hts _ x_368, hts _ x_369⟩ ⟨st_blind, va_recv hK hP (ci := 1) (q0 := 0) rfl rfl, fun U hU hW => ⟨rfl, hE.at hS hAB hU hW, by rw [hU]; exact hP⟩⟩ rfl rfl hl.1 rfl (lv_room (Nat.le_of_ble_eq_true rfl)) d_R_kthLeast_48 ⟨by decide, by decide⟩) (fun v hv => ?_)
      subst hv
      refine W.eq (g2 := F0 m 51 ls [.int (nI (z0 (wt d i) (wL d xs i) (w)) - nI (z0 (wt d i) (wL d xs i) (u))), .int (nI lf)]) rfl ?_
      refine ct_topi (x' := nI (wpre d (i + 1) (2 * pp) B).length) (by rw [pk_sub (by omega)]; congr 1; omega) ?_
      rcases Nat.lt_or_ge lf (wpre d (i + 1) (2 * pp) B).length with hlt | hge
      · refine lv_icmp_ge (tgt := 58) hx hb d_R_kthLeast_51 (by decide) (fun c9 => absurd c9 (nI_ge hlt (by omega))) (fun _ => ?_)
        refine lv_iconst (v := 0) hx hb d_R_kthLeast_54 (by decide) ?_
        refine ct_topi (x' := nI 0) (nI_0.symm) ?_
        refine lv_goto (tgt := 59) hx hb d_R_kthLeast_55 (by decide) ?_
        refine lv_istore (lv' := [(7, .int (nI 0)), (6, .int (nI i)), (5, .int (nI pp)), (4, .int (nI lf)), (0, .ref (y 0)), (1, .int (nI a)), (2, .int (nI b)), (3, .int (nI k))]) hx hb d_R_kthLeast_59 hl (by decide) rfl (fun ls hl => ?_)
        refine lv_iload hx hb d_R_kthLeast_61 (lv_at hl 3 rfl) ?_
        refine lv_iload hx hb d_R_kthLeast_63 (lv_at hl 0 rfl) ?_
        refine lv_if_ne (tgt := 72) hx hb d_R_kthLeast_65 (by decide) (fun c9 => absurd (nI_0) c9) (fun _ => ?_)
        refine lv_iconst (v := 0) hx hb d_R_kthLeast_68 (by decide) ?_
        refine lv_goto (tgt := 79) hx hb d_R_kthLeast_69 (by decide) ?_
        refine lv_isub hx hb d_R_kthLeast_79 ?_
        refine ct_topi (x' := nI lf) (Int32.sub_zero _) ?_
        refine lv_istore (lv' := [(4, .int (nI lf)), (7, .int (nI 0)), (6, .int (nI i)), (5, .int (nI pp)), (0, .ref (y 0)), (1, .int (nI a)), (2, .int (nI b)), (3, .int (nI k))]) hx hb d_R_kthLeast_80 hl (by decide) rfl (fun ls hl => ?_)
        refine lv_aload_n hx hb d_R_kthLeast_82 rfl (lv_at hl 4 rfl) ?_
        refine va_get (D := D) (ci := 2) (v := .ref (y 3)) (C := n_R) (T := f_R) (N := 10) hx hb hts in_R hown hK hR 0 rfl rfl 6 (by decide) (hts _ x_88) (fun _ h9 => h9) rfl d_R_kthLeast_83 ?_
        refine lv_iload hx hb d_R_kthLeast_86 (lv_at hl 1 rfl) ?_
        refine cm_ret (va_runV (As := [.int (nI 0)]) (rest := []) ⟨hx, hb, hml, hown, hts⟩ (m_P_enter0) ⟨ct_cb 1 hts x_326 x_323 x_2 rfl rfl (by decide +kernel) ⟨by decide, by decide⟩, hts _ x_324, hts _ x_325⟩ ⟨st_blind, va_recv hK hP (ci := 1) (q0 := 0) rfl rfl, fun U hU hW => ⟨rfl, hE.at hS hAB hU hW, by rw [hU]; exact hP⟩⟩ rfl rfl hl.1 rfl (lv_room (Nat.le_of_ble_eq_true rfl)) d_R_kthLeast_88 ⟨by decide, by decide⟩) hS (fun q h => h) (fun _ _ h => h.2.1) (fun v H locs hv hS => ?_)
        obtain ⟨rfl, hfr, hP⟩ := hv
        refine W.eq (g2 := F0 m 91 ls []) rfl ?_
        have hP : va_P D vwCl [(y 3, .inr (1, [.int (nI (z0 (wt d i) (wL d xs i) (u))), .int (nI (z0 (wt d i) (wL d xs i) (w))), .int (nI (z0 (wt d i) (wL d xs i) (u))), .int (nI (z0 (wt d i) (wL d xs i) (w))), .int (nI (z0 (wt d i) (wL d xs i) xs.length + z1 (wt d i) (wL d xs i) (u))), .int (nI (z0 (wt d i) (wL d xs i) xs.length + z1 (wt d i) (wL d xs i) (w)))]))] H := hP
        have hD : va_D (fun q => q = y 3) [(y 3, .inr (1, [.int (nI (z0 (wt d i) (wL d xs i) (u))), .int (nI (z0 (wt d i) (wL d xs i) (w))), .int (nI (z0 (wt d i) (wL d xs i) (u))), .int (nI (z0 (wt d i) (wL d xs i) (w))), .int (nI (z0 (wt d i) (wL d xs i) xs.length + z1 (wt d i) (wL d xs i) (u))), .int (nI (z0 (wt d i) (wL d xs i) xs.length + z1 (wt d i) (wL d xs i) (w)))]))] := va_D.one rfl
        have hR := hR0.rd hS hRd
        have hL := hL0.rd hS hLd
        refine lv_iload hx hb d_R_kthLeast_91 (lv_at hl 3 rfl) ?_
        refine lv_iconst (v := 1) hx hb d_R_kthLeast_93 (by decide) ?_
        refine lv_ishl hx hb d_R_kthLeast_94 ?_
        refine lv_iload hx hb d_R_kthLeast_95 (lv_at hl 1 rfl) ?_
        refine lv_ior hx hb d_R_kthLeast_97 ?_
        refine ct_topi (x' := nI (2 * pp + 0)) (nI_or1 (by omega) (by omega)) ?_
        refine lv_istore (lv' := [(5, .int (nI (2 * pp + 0))), (4, .int (nI lf)), (7, .int (nI 0)), (6, .int (nI i)), (0, .ref (y 0)), (1, .int (nI a)), (2, .int (nI b)), (3, .int (nI k))]) hx hb d_R_kthLeast_98 hl (by decide) rfl (fun ls hl => ?_)
        refine lv_iinc (v := nI (i + 1)) (lv' := [(6, .int (nI (i + 1))), (5, .int (nI (2 * pp + 0))), (4, .int (nI lf)), (7, .int (nI 0)), (0, .ref (y 0)), (1, .int (nI a)), (2, .int (nI b)), (3, .int (nI k))]) hx hb d_R_kthLeast_100 hl (k := 3) rfl ((nI_succ i).symm) (by decide) rfl (fun ls hl => ?_)
        refine lv_goto (tgt := 18) hx hb d_R_kthLeast_103 (by decide) ?_
        exact ih (i + 1) (2 * pp + 0) _ _ (lf) _ _ _ _ H _ ls (by omega) (hI.zero hid) (by rw [show 2 * pp + 0 = 2 * pp from rfl, wlt_zero hid]; exact hk1) (hlt) (by omega) hS hP hD (lv_sub hl [0, 1, 2, 4, 5, 6, 7] rfl)
      · refine lv_icmp_ge (tgt := 58) hx hb d_R_kthLeast_51 (by decide) (fun _ => ?_) (fun c9 => absurd (nI_le hge (by omega)) c9)
        refine lv_iconst (v := 1) hx hb d_R_kthLeast_58 (by decide) ?_
        refine ct_topi (x' := nI 1) (rfl) ?_
        refine lv_istore (lv' := [(7, .int (nI 1)), (6, .int (nI i)), (5, .int (nI pp)), (4, .int (nI lf)), (0, .ref (y 0)), (1, .int (nI a)), (2, .int (nI b)), (3, .int (nI k))]) hx hb d_R_kthLeast_59 hl (by decide) rfl (fun ls hl => ?_)
        refine lv_iload hx hb d_R_kthLeast_61 (lv_at hl 3 rfl) ?_
        refine lv_iload hx hb d_R_kthLeast_63 (lv_at hl 0 rfl) ?_
        refine lv_if_ne (tgt := 72) hx hb d_R_kthLeast_65 (by decide) (fun _ => ?_) (fun c9 => absurd c9 (by decide))
        refine lv_aload_n hx hb d_R_kthLeast_72 rfl (lv_at hl 4 rfl) ?_
        refine va_get (D := D) (ci := 2) (v := .ref (y 3)) (C := n_R) (T := f_R) (N := 10) hx hb hts in_R hown hK hR 0 rfl rfl 6 (by decide) (hts _ x_88) (fun _ h9 => h9) rfl d_R_kthLeast_73 ?_
        refine cm_read (va_runV (As := []) (rest := [.int (nI lf)]) ⟨hx, hb, hml, hown, hts⟩ (m_P_zeros) ⟨ct_cb 0 hts x_370 x_367 x_2 rfl rfl (by decide +kernel) ⟨by decide, by decide⟩, hts _ x_368, hts _ x_369⟩ ⟨st_blind, va_recv hK hP (ci := 1) (q0 := 0) rfl rfl, fun U hU hW => ⟨rfl, hE.at hS hAB hU hW, by rw [hU]; exact hP⟩⟩ rfl rfl hl.1 rfl (lv_room (Nat.le_of_ble_eq_true rfl)) d_R_kthLeast_76 ⟨by decide, by decide⟩) (fun v hv => ?_)
        subst hv
        refine W.eq (g2 := F0 m 79 ls [.int (nI (z0 (wt d i) (wL d xs i) (w)) - nI (z0 (wt d i) (wL d xs i) (u))), .int (nI lf)]) rfl ?_
        refine ct_topi (x' := nI (wpre d (i + 1) (2 * pp) B).length) (by rw [pk_sub (by omega)]; congr 1; omega) ?_
        refine lv_isub hx hb d_R_kthLeast_79 ?_
        refine ct_topi (x' := nI (lf - (wpre d (i + 1) (2 * pp) B).length)) (pk_sub hge) ?_
        refine lv_istore (lv' := [(4, .int (nI (lf - (wpre d (i + 1) (2 * pp) B).length))), (7, .int (nI 1)), (6, .int (nI i)), (5, .int (nI pp)), (0, .ref (y 0)), (1, .int (nI a)), (2, .int (nI b)), (3, .int (nI k))]) hx hb d_R_kthLeast_80 hl (by decide) rfl (fun ls hl => ?_)
        refine lv_aload_n hx hb d_R_kthLeast_82 rfl (lv_at hl 4 rfl) ?_
        refine va_get (D := D) (ci := 2) (v := .ref (y 3)) (C := n_R) (T := f_R) (N := 10) hx hb hts in_R hown hK hR 0 rfl rfl 6 (by decide) (hts _ x_88) (fun _ h9 => h9) rfl d_R_kthLeast_83 ?_
        refine lv_iload hx hb d_R_kthLeast_86 (lv_at hl 1 rfl) ?_
        refine cm_ret (va_runV (As := [.int (nI 1)]) (rest := []) ⟨hx, hb, hml, hown, hts⟩ (m_P_enter1) ⟨ct_cb 1 hts x_326 x_323 x_2 rfl rfl (by decide +kernel) ⟨by decide, by decide⟩, hts _ x_324, hts _ x_325⟩ ⟨st_blind, va_recv hK hP (ci := 1) (q0 := 0) rfl rfl, fun U hU hW => ⟨rfl, hE.at hS hAB hU hW, by rw [hU]; exact hP⟩⟩ rfl rfl hl.1 rfl (lv_room (Nat.le_of_ble_eq_true rfl)) d_R_kthLeast_88 ⟨by decide, by decide⟩) hS (fun q h => h) (fun _ _ h => h.2.1) (fun v H locs hv hS => ?_)
        obtain ⟨rfl, hfr, hP⟩ := hv
        refine W.eq (g2 := F0 m 91 ls []) rfl ?_
        have hP : va_P D vwCl [(y 3, .inr (1, [.int (nI (z0 (wt d i) (wL d xs i) xs.length + z1 (wt d i) (wL d xs i) (u))), .int (nI (z0 (wt d i) (wL d xs i) xs.length + z1 (wt d i) (wL d xs i) (w))), .int (nI (z0 (wt d i) (wL d xs i) (u))), .int (nI (z0 (wt d i) (wL d xs i) (w))), .int (nI (z0 (wt d i) (wL d xs i) xs.length + z1 (wt d i) (wL d xs i) (u))), .int (nI (z0 (wt d i) (wL d xs i) xs.length + z1 (wt d i) (wL d xs i) (w)))]))] H := hP
        have hD : va_D (fun q => q = y 3) [(y 3, .inr (1, [.int (nI (z0 (wt d i) (wL d xs i) xs.length + z1 (wt d i) (wL d xs i) (u))), .int (nI (z0 (wt d i) (wL d xs i) xs.length + z1 (wt d i) (wL d xs i) (w))), .int (nI (z0 (wt d i) (wL d xs i) (u))), .int (nI (z0 (wt d i) (wL d xs i) (w))), .int (nI (z0 (wt d i) (wL d xs i) xs.length + z1 (wt d i) (wL d xs i) (u))), .int (nI (z0 (wt d i) (wL d xs i) xs.length + z1 (wt d i) (wL d xs i) (w)))]))] := va_D.one rfl
        have hR := hR0.rd hS hRd
        have hL := hL0.rd hS hLd
        refine lv_iload hx hb d_R_kthLeast_91 (lv_at hl 3 rfl) ?_
        refine lv_iconst (v := 1) hx hb d_R_kthLeast_93 (by decide) ?_
        refine lv_ishl hx hb d_R_kthLeast_94 ?_
        refine lv_iload hx hb d_R_kthLeast_95 (lv_at hl 1 rfl) ?_
        refine lv_ior hx hb d_R_kthLeast_97 ?_
        refine ct_topi (x' := nI (2 * pp + 1)) (nI_or1 (by omega) (by omega)) ?_
        refine lv_istore (lv' := [(5, .int (nI (2 * pp + 1))), (4, .int (nI (lf - (wpre d (i + 1) (2 * pp) B).length))), (7, .int (nI 1)), (6, .int (nI i)), (0, .ref (y 0)), (1, .int (nI a)), (2, .int (nI b)), (3, .int (nI k))]) hx hb d_R_kthLeast_98 hl (by decide) rfl (fun ls hl => ?_)
        refine lv_iinc (v := nI (i + 1)) (lv' := [(6, .int (nI (i + 1))), (5, .int (nI (2 * pp + 1))), (4, .int (nI (lf - (wpre d (i + 1) (2 * pp) B).length))), (7, .int (nI 1)), (0, .ref (y 0)), (1, .int (nI a)), (2, .int (nI b)), (3, .int (nI k))]) hx hb d_R_kthLeast_100 hl (k := 3) rfl ((nI_succ i).symm) (by decide) rfl (fun ls hl => ?_)
        refine lv_goto (tgt := 18) hx hb d_R_kthLeast_103 (by decide) ?_
        exact ih (i + 1) (2 * pp + 1) _ _ (lf - (wpre d (i + 1) (2 * pp) B).length) _ _ _ _ H _ ls (by omega) (hI.one hid) (by rw [wlt_one hid]; omega) (by omega) (by omega) hS hP hD (lv_sub hl [0, 1, 2, 4, 5, 6, 7] rfl)
  exact loop d 0 0 a b k _ _ _ _ H _ ls (by omega) (by rw [hB]; exact wI.start hab hbx ok0.lt) (by rw [wlt_0]; omega) (by rw [wpre_0 (fun x h => ok0.lt x (List.mem_of_mem_drop (List.mem_of_mem_take (hB ▸ h))))]; exact hkl) (by decide) hS hP hD (lv_sub hl [0, 1, 2, 3, 4, 5, 6] rfl)
set_option maxHeartbeats 4000000 in
set_option maxRecDepth 100000 in
theorem m_R_howManyBelow {l : Launch} {D : va_G} {cI cJ cS cO : ClassId} {B0 : Nat} {y : Nat → Nat} {sg d : Nat} {xs ws : List Nat} (hy : yI B0 y d) (ok0 : Ok sg d xs ws) {a b : Nat} (hab : a ≤ b) (hbx : b ≤ xs.length) {B : List Nat} (hB : B = (xs.drop a).take (b - a)) (x : Int32) : CM l D (tyL cI cJ cS cO) B0 y_R_howManyBelow c_R_howManyBelow 7 (some .int) (rmK 4 0 0) [.ref (y 0), .int (nI a), .int (nI b), .int x] (fun H => RL D cJ cS cO y sg d xs ws.length H ∧ PP D (y 3) H) (fun v H0 H1 => v = some (.int (nI (cLt B x.toNatClampNeg))) ∧ fr (fun q => q = y 3) H0 H1 ∧ PP D (y 3) H1) 0 0 (fun q => q = y 3) := by
  refine cm_of (by decide) (Nat.le_of_ble_eq_true rfl) ?_
  intro p e s m below meth c ls hx hb hr hml hown hts hlocks hnm hE hpre hl
  have hown : s.vm.findClass "LevelRows" = some m.cls := hown
  have hK := hE.1
  have hl : lv_has ls 7 [(0, .ref (y 0)), (1, .int (nI a)), (2, .int (nI b)), (3, .int x)] := hl
  have hS : va_S (fun q => q = y 3) s.heap s.heap [] := va_S.rf
  have hR0 := hpre.1.1
  have hRd : ∀ (k : Nat) (q : Nat × va_E), (Rw cO y (nI sg) d (nI xs.length) (nI ws.length))[k]? = some q → ¬ q.1 = y 3 := Rw.off hy (by omega) (by omega)
  have hR := hR0
  have hAB : ∀ q : Nat, q = y 3 → B0 ≤ q := fun q h => by rw [h]; exact hy.2 3 (by omega)
  have hd16 := ok0.d16
  have hx9 := ok0.len
  have hp16 := ok0.p16
  have hBl : B.length = b - a := by rw [hB, List.length_take, List.length_drop]; omega
  have hBm : ∀ x ∈ B, x ∈ xs := fun x h => List.mem_of_mem_drop (List.mem_of_mem_take (hB ▸ h))
  have hsg := ok0.2.1
  obtain ⟨f0, f1, f2, f3, f4, f5, hP⟩ := hpre.2
  have hP : va_P D vwCl [(y 3, .inr (1, [.int f0, .int f1, .int f2, .int f3, .int f4, .int f5]))] s.heap := hP
  have hD : va_D (fun q => q = y 3) [(y 3, .inr (1, [.int f0, .int f1, .int f2, .int f3, .int f4, .int f5]))] := va_D.one rfl
  refine lv_iload_n hx hb d_R_howManyBelow_0 rfl (lv_at hl 3 rfl) ?_
  refine lv_if_gt (tgt := 6) hx hb d_R_howManyBelow_1 (by decide) (fun hx0 => ?_) (fun hx0 => ?_)
  · obtain ⟨vv, hv31, rfl⟩ : ∃ j : Nat, j < 2 ^ 31 ∧ x = nI j := nI_of (fun h => absurd hx0 (Int32.not_lt.mpr (Int32.le_of_lt h)))
    refine lv_iload_n hx hb d_R_howManyBelow_6 rfl (lv_at hl 3 rfl) ?_
    refine lv_aload_n hx hb d_R_howManyBelow_7 rfl (lv_at hl 0 rfl) ?_
    refine va_get (D := D) (ci := 2) (v := .int (nI sg)) (C := n_R) (T := f_R) (N := 10) hx hb hts in_R hown hK hR 0 rfl rfl 0 (by decide) (hts _ x_82) (fun _ h9 => h9) rfl d_R_howManyBelow_8 ?_
    rcases Nat.lt_or_ge vv sg with hvs | hvs
    · refine lv_icmp_lt (tgt := 18) hx hb d_R_howManyBelow_11 (by decide) (fun _ => ?_) (fun c9 => absurd (nI_lt hvs (by omega)) c9)
      have hvd : vv < 2 ^ d := Nat.lt_of_lt_of_le hvs ok0.2.2.1
      refine lv_aload_n hx hb d_R_howManyBelow_18 rfl (lv_at hl 0 rfl) ?_
      refine va_get (D := D) (ci := 2) (v := .ref (y 3)) (C := n_R) (T := f_R) (N := 10) hx hb hts in_R hown hK hR 0 rfl rfl 6 (by decide) (hts _ x_88) (fun _ h9 => h9) rfl d_R_howManyBelow_19 ?_
      refine lv_iload_n hx hb d_R_howManyBelow_22 rfl (lv_at hl 1 rfl) ?_
      refine lv_iload_n hx hb d_R_howManyBelow_23 rfl (lv_at hl 2 rfl) ?_
      refine cm_ret (va_runV (As := [.int (nI a), .int (nI b)]) (rest := []) ⟨hx, hb, hml, hown, hts⟩ (m_P_span (nI a) (nI b)) ⟨ct_cb 2 hts x_313 x_310 x_2 rfl rfl (by decide +kernel) ⟨by decide, by decide⟩, hts _ x_311, hts _ x_312⟩ ⟨st_blind, va_recv hK hP (ci := 1) (q0 := 0) rfl rfl, fun U hU hW => ⟨rfl, hE.at hS hAB hU hW, by rw [hU]; exact hP⟩⟩ rfl rfl hl.1 rfl (lv_room (Nat.le_of_ble_eq_true rfl)) d_R_howManyBelow_24 ⟨by decide, by decide⟩) hS (fun q h => h) (fun _ _ h => h.2.1) (fun v H locs hv hS => ?_)
      obtain ⟨rfl, hfr, hP⟩ := hv
      refine W.eq (g2 := F0 m 27 ls []) rfl ?_
      have hP : va_P D vwCl [(y 3, .inr (1, [.int (nI a), .int (nI b), .int f2, .int f3, .int f4, .int f5]))] H := hP
      have hD : va_D (fun q => q = y 3) [(y 3, .inr (1, [.int (nI a), .int (nI b), .int f2, .int f3, .int f4, .int f5]))] := va_D.one rfl
      have hR := hR0.rd hS hRd
      refine lv_iconst (v := 0) hx hb d_R_howManyBelow_27 (by decide) ?_
      refine lv_istore (lv' := [(4, .int 0), (0, .ref (y 0)), (1, .int (nI a)), (2, .int (nI b)), (3, .int (nI vv))]) hx hb d_R_howManyBelow_28 hl (by decide) rfl (fun ls hl => ?_)
      refine lv_iconst (v := 0) hx hb d_R_howManyBelow_30 (by decide) ?_
      refine lv_istore (lv' := [(5, .int 0), (4, .int 0), (0, .ref (y 0)), (1, .int (nI a)), (2, .int (nI b)), (3, .int (nI vv))]) hx hb d_R_howManyBelow_31 hl (by decide) rfl (fun ls hl => ?_)
      have loop : ∀ (n : Nat) (i : Nat) (g2 : Int32) (g3 : Int32) (g4 : Int32) (g5 : Int32) (H : Heap) (locs : List Loc) (ls : Array Slot), (i + n = d) → va_S (fun q => q = y 3) s.heap H locs → va_P D vwCl [(y 3, .inr (1, [.int (nI (wdn d xs vv i a)), .int (nI (wdn d xs vv i b)), .int g2, .int g3, .int g4, .int g5]))] H → va_D (fun q => q = y 3) [(y 3, .inr (1, [.int (nI (wdn d xs vv i a)), .int (nI (wdn d xs vv i b)), .int g2, .int g3, .int g4, .int g5]))] → lv_has ls 7 [(5, .int (nI i)), (4, .int (nI (wlt d i (vv / 2 ^ (d - i)) B))), (0, .ref (y 0)), (1, .int (nI a)), (2, .int (nI b)), (3, .int (nI vv))] → W p l e (rmK 4 0 0) s m [.ref (y 0), .int (nI a), .int (nI b), .int (nI vv)].toArray below meth c H locs (0) (0) (MQ below (stQ (fun v H0 H1 => v = some (.int (nI (cLt B (nI vv).toNatClampNeg))) ∧ fr (fun q => q = y 3) H0 H1 ∧ PP D (y 3) H1)) [.ref (y 0), .int (nI a), .int (nI b), .int (nI vv)].toArray s 0 0 (fun q => q = y 3)) (F0 m 33 ls []) := by
        intro n
        induction n with
        | zero =>
          intro i g2 g3 g4 g5 H locs ls hin hS hP hD hl
          have hR := hR0.rd hS hRd
          have hid : i = d := by omega
          refine lv_iload hx hb d_R_howManyBelow_33 (lv_at hl 0 rfl) ?_
          refine lv_aload_n hx hb d_R_howManyBelow_35 rfl (lv_at hl 2 rfl) ?_
          refine va_get (D := D) (ci := 2) (v := .ref (y 7)) (C := n_R) (T := f_R) (N := 10) hx hb hts in_R hown hK hR 0 rfl rfl 1 (by decide) (hts _ x_83) (fun _ h9 => h9) rfl d_R_howManyBelow_36 ?_
          refine va_alen hx hb hK hR 1 3 rfl rfl (v := nI (d)) rfl d_R_howManyBelow_39 ?_
          refine lv_icmp_ge (tgt := 105) hx hb d_R_howManyBelow_40 (by decide) (fun _ => ?_) (fun c9 => absurd (nI_le (by omega) (by omega)) c9)
          subst hid
          refine lv_iload hx hb d_R_howManyBelow_105 (lv_at hl 1 rfl) ?_
          refine ct_topi (x' := nI (cLt B (nI vv).toNatClampNeg)) (by rw [nI_clamp hv31, wlt_d, Nat.sub_self, Nat.pow_zero, Nat.div_one]; rfl) ?_
          exact W.iret (v := nI (cLt B (nI vv).toNatClampNeg)) hx hb hr (fun t ht hW => ⟨_, rfl, by rw [ht]; exact ⟨rfl, fr.of hS, _, _, _, _, _, _, hP⟩⟩) hS.2.2 d_R_howManyBelow_107
        | succ n ih =>
          intro i g2 g3 g4 g5 H locs ls hin hS hP hD hl
          have hR := hR0.rd hS hRd
          have hid : i < d := by omega
          obtain ⟨ja, oa, z, ok, hL0⟩ := hpre.1.2 i hid
          have hlen := wL_len d xs i
          have hLd : ∀ (k : Nat) (q : Nat × va_E), (Lw cJ cS (y (8 + 3 * i)) (y (9 + 3 * i)) (y (10 + 3 * i)) ja oa z)[k]? = some q → ¬ q.1 = y 3 := Lk.off hy hid (by omega)
          have hL := hL0.rd hS hLd
          have hI := wdn_I hvd hab hbx ok0.lt i (by omega)
          have hI2 := hI.len
          rw [← hB] at hI
          have hcnt := hI.cnt hid
          refine lv_iload hx hb d_R_howManyBelow_33 (lv_at hl 0 rfl) ?_
          refine lv_aload_n hx hb d_R_howManyBelow_35 rfl (lv_at hl 2 rfl) ?_
          refine va_get (D := D) (ci := 2) (v := .ref (y 7)) (C := n_R) (T := f_R) (N := 10) hx hb hts in_R hown hK hR 0 rfl rfl 1 (by decide) (hts _ x_83) (fun _ h9 => h9) rfl d_R_howManyBelow_36 ?_
          refine va_alen hx hb hK hR 1 3 rfl rfl (v := nI (d)) rfl d_R_howManyBelow_39 ?_
          refine lv_icmp_ge (tgt := 105) hx hb d_R_howManyBelow_40 (by decide) (fun c9 => absurd c9 (nI_ge (by omega) (by omega))) (fun _ => ?_)
          refine lv_aload_n hx hb d_R_howManyBelow_43 rfl (lv_at hl 2 rfl) ?_
          refine va_get (D := D) (ci := 2) (v := .ref (y 3)) (C := n_R) (T := f_R) (N := 10) hx hb hts in_R hown hK hR 0 rfl rfl 6 (by decide) (hts _ x_88) (fun _ h9 => h9) rfl d_R_howManyBelow_44 ?_
          refine lv_aload_n hx hb d_R_howManyBelow_47 rfl (lv_at hl 2 rfl) ?_
          refine va_get (D := D) (ci := 2) (v := .ref (y 7)) (C := n_R) (T := f_R) (N := 10) hx hb hts in_R hown hK hR 0 rfl rfl 1 (by decide) (hts _ x_83) (fun _ h9 => h9) rfl d_R_howManyBelow_48 ?_
          refine lv_iload hx hb d_R_howManyBelow_51 (lv_at hl 0 rfl) ?_
          refine va_aldq hx hb hK hR 1 3 rfl rfl (vp_in_nI (by omega) (by omega)) d_R_howManyBelow_53 ?_
          refine ct_topv (v' := .ref (y (8 + 3 * i))) (congrArg (fun j => Value.ref (y (8 + 3 * j))) (nI_clamp (by omega))) ?_
          refine cm_ret (va_runV (As := [.ref (y (8 + 3 * i))]) (rest := []) ⟨hx, hb, hml, hown, hts⟩ (m_P_split ok (by rw [hlen]; exact hx9) (wdn d xs vv i a) (wdn d xs vv i b) (by rw [hlen]; omega) (by rw [hlen]; omega) (hy.2 3 (by omega)) (hy.ne (i := 8 + 3 * i) (j := 3) (by omega) (by omega) (by omega)) (hy.ne (i := 9 + 3 * i) (j := 3) (by omega) (by omega) (by omega)) (hy.ne (i := 10 + 3 * i) (j := 3) (by omega) (by omega) (by omega))) ⟨ct_cb 1 hts x_321 x_318 x_2 rfl rfl (by decide +kernel) ⟨by decide, by decide⟩, hts _ x_319, hts _ x_320⟩ ⟨st_blind, va_recv hK hP (ci := 1) (q0 := 0) rfl rfl, fun U hU hW => ⟨rfl, hE.at hS hAB hU hW, by rw [hU]; exact ⟨hP, hL⟩⟩⟩ rfl rfl hl.1 rfl (lv_room (Nat.le_of_ble_eq_true rfl)) d_R_howManyBelow_54 ⟨by decide, by decide⟩) hS (fun q h => h) (fun _ _ h => h.2.1) (fun v H locs hv hS => ?_)
          obtain ⟨rfl, hfr, hP⟩ := hv
          refine W.eq (g2 := F0 m 57 ls []) rfl ?_
          rw [hlen] at hP
          have hP : va_P D vwCl [(y 3, .inr (1, [.int (nI (wdn d xs vv i a)), .int (nI (wdn d xs vv i b)), .int (nI (z0 (wt d i) (wL d xs i) (wdn d xs vv i a))), .int (nI (z0 (wt d i) (wL d xs i) (wdn d xs vv i b))), .int (nI (z0 (wt d i) (wL d xs i) xs.length + z1 (wt d i) (wL d xs i) (wdn d xs vv i a))), .int (nI (z0 (wt d i) (wL d xs i) xs.length + z1 (wt d i) (wL d xs i) (wdn d xs vv i b)))]))] H := hP
          have hD : va_D (fun q => q = y 3) [(y 3, .inr (1, [.int (nI (wdn d xs vv i a)), .int (nI (wdn d xs vv i b)), .int (nI (z0 (wt d i) (wL d xs i) (wdn d xs vv i a))), .int (nI (z0 (wt d i) (wL d xs i) (wdn d xs vv i b))), .int (nI (z0 (wt d i) (wL d xs i) xs.length + z1 (wt d i) (wL d xs i) (wdn d xs vv i a))), .int (nI (z0 (wt d i) (wL d xs i) xs.length + z1 (wt d i) (wL d xs i) (wdn d xs vv i b)))]))] := va_D.one rfl
          have hR := hR0.rd hS hRd
          have hL := hL0.rd hS hLd
          refine lv_iload_n hx hb d_R_howManyBelow_57 rfl (lv_at hl 5 rfl) ?_
          refine lv_aload_n hx hb d_R_howManyBelow_58 rfl (lv_at hl 2 rfl) ?_
          refine lv_iload hx hb d_R_howManyBelow_59 (lv_at hl 0 rfl) ?_
          refine cm_read (va_runV (As := [.int (nI i)]) (rest := [.int (nI vv)]) ⟨hx, hb, hml, hown, hts⟩ (m_R_shiftOf (xs := xs) (sg := sg) (wa := ws.length) hid hd16) ⟨ct_cb 1 hts x_150 x_147 x_1 rfl rfl (by decide +kernel) ⟨by decide, by decide⟩, hts _ x_149, hts _ s_R_shiftOf⟩ ⟨st_blind, va_recv hK hR (ci := 2) (q0 := 0) rfl rfl, fun U hU hW => ⟨rfl, hE.at hS hAB hU hW, by rw [hU]; exact RL.fr hy hpre.1 (fr.of hS) (fun q _ h => ⟨3, by omega, by omega, h⟩)⟩⟩ rfl rfl hl.1 rfl (lv_room (Nat.le_of_ble_eq_true rfl)) d_R_howManyBelow_61 ⟨by decide, by decide⟩) (fun v hv => ?_)
          subst hv
          refine W.eq (g2 := F0 m 64 ls [.int (nI (d - 1 - i)), .int (nI vv)]) rfl ?_
          refine lv_ishr hx hb d_R_howManyBelow_64 ?_
          refine ct_topi (x' := nI (vv / 2 ^ (d - 1 - i))) (sh_bit (by omega) (by omega)) ?_
          refine lv_iconst (v := 1) hx hb d_R_howManyBelow_65 (by decide) ?_
          refine lv_iand hx hb d_R_howManyBelow_66 ?_
          refine ct_topi (x' := nI (vv / 2 ^ (d - 1 - i) % 2)) (nI_and1 _) ?_
          have hwb := wt_bit (x := vv) hid
          cases hbt : wt d i vv with
          | false =>
            rw [hbt] at hwb
            have hb0 : vv / 2 ^ (d - 1 - i) % 2 = 0 := by have := of_decide_eq_false hbt; omega
            refine ct_topi (x' := nI 0) (by rw [hb0]) ?_
            refine lv_istore (lv' := [(6, .int (nI 0)), (5, .int (nI i)), (4, .int (nI (wlt d i (vv / 2 ^ (d - i)) B))), (0, .ref (y 0)), (1, .int (nI a)), (2, .int (nI b)), (3, .int (nI vv))]) hx hb d_R_howManyBelow_67 hl (by decide) rfl (fun ls hl => ?_)
            refine lv_iload hx hb d_R_howManyBelow_69 (lv_at hl 2 rfl) ?_
            refine lv_iload hx hb d_R_howManyBelow_71 (lv_at hl 0 rfl) ?_
            refine lv_if_ne (tgt := 80) hx hb d_R_howManyBelow_73 (by decide) (fun c9 => absurd (nI_0) c9) (fun _ => ?_)
            refine lv_iconst (v := 0) hx hb d_R_howManyBelow_76 (by decide) ?_
            refine lv_goto (tgt := 87) hx hb d_R_howManyBelow_77 (by decide) ?_
            refine lv_iadd hx hb d_R_howManyBelow_87 ?_
            refine ct_topi (x' := nI (wlt d (i + 1) (vv / 2 ^ (d - (i + 1))) B)) ((Int32.add_zero _).trans (congrArg nI (by rw [hwb, if_neg Bool.false_ne_true]; exact (wlt_zero hid B).symm))) ?_
            refine lv_istore (lv' := [(4, .int (nI (wlt d (i + 1) (vv / 2 ^ (d - (i + 1))) B))), (6, .int (nI 0)), (5, .int (nI i)), (0, .ref (y 0)), (1, .int (nI a)), (2, .int (nI b)), (3, .int (nI vv))]) hx hb d_R_howManyBelow_88 hl (by decide) rfl (fun ls hl => ?_)
            refine lv_aload_n hx hb d_R_howManyBelow_90 rfl (lv_at hl 3 rfl) ?_
            refine va_get (D := D) (ci := 2) (v := .ref (y 3)) (C := n_R) (T := f_R) (N := 10) hx hb hts in_R hown hK hR 0 rfl rfl 6 (by decide) (hts _ x_88) (fun _ h9 => h9) rfl d_R_howManyBelow_91 ?_
            refine lv_iload hx hb d_R_howManyBelow_94 (lv_at hl 1 rfl) ?_
            refine cm_ret (va_runV (As := [.int (nI 0)]) (rest := []) ⟨hx, hb, hml, hown, hts⟩ (m_P_enter0) ⟨ct_cb 1 hts x_326 x_323 x_2 rfl rfl (by decide +kernel) ⟨by decide, by decide⟩, hts _ x_324, hts _ x_325⟩ ⟨st_blind, va_recv hK hP (ci := 1) (q0 := 0) rfl rfl, fun U hU hW => ⟨rfl, hE.at hS hAB hU hW, by rw [hU]; exact hP⟩⟩ rfl rfl hl.1 rfl (lv_room (Nat.le_of_ble_eq_true rfl)) d_R_howManyBelow_96 ⟨by decide, by decide⟩) hS (fun q h => h) (fun _ _ h => h.2.1) (fun v H locs hv hS => ?_)
            obtain ⟨rfl, hfr, hP⟩ := hv
            refine W.eq (g2 := F0 m 99 ls []) rfl ?_
            have hP : va_P D vwCl [(y 3, .inr (1, [.int (nI (z0 (wt d i) (wL d xs i) (wdn d xs vv i a))), .int (nI (z0 (wt d i) (wL d xs i) (wdn d xs vv i b))), .int (nI (z0 (wt d i) (wL d xs i) (wdn d xs vv i a))), .int (nI (z0 (wt d i) (wL d xs i) (wdn d xs vv i b))), .int (nI (z0 (wt d i) (wL d xs i) xs.length + z1 (wt d i) (wL d xs i) (wdn d xs vv i a))), .int (nI (z0 (wt d i) (wL d xs i) xs.length + z1 (wt d i) (wL d xs i) (wdn d xs vv i b)))]))] H := hP
            have hD : va_D (fun q => q = y 3) [(y 3, .inr (1, [.int (nI (z0 (wt d i) (wL d xs i) (wdn d xs vv i a))), .int (nI (z0 (wt d i) (wL d xs i) (wdn d xs vv i b))), .int (nI (z0 (wt d i) (wL d xs i) (wdn d xs vv i a))), .int (nI (z0 (wt d i) (wL d xs i) (wdn d xs vv i b))), .int (nI (z0 (wt d i) (wL d xs i) xs.length + z1 (wt d i) (wL d xs i) (wdn d xs vv i a))), .int (nI (z0 (wt d i) (wL d xs i) xs.length + z1 (wt d i) (wL d xs i) (wdn d xs vv i b)))]))] := va_D.one rfl
            have hR := hR0.rd hS hRd
            have hL := hL0.rd hS hLd
            have ea : nI (wdn d xs vv (i + 1) a) = nI (z0 (wt d i) (wL d xs i) (wdn d xs vv i a)) := by simp only [wdn, hbt, if_true, Bool.false_eq_true, if_false]
            have eb : nI (wdn d xs vv (i + 1) b) = nI (z0 (wt d i) (wL d xs i) (wdn d xs vv i b)) := by simp only [wdn, hbt, if_true, Bool.false_eq_true, if_false]
            refine lv_iinc (v := nI (i + 1)) (lv' := [(5, .int (nI (i + 1))), (4, .int (nI (wlt d (i + 1) (vv / 2 ^ (d - (i + 1))) B))), (6, .int (nI 0)), (0, .ref (y 0)), (1, .int (nI a)), (2, .int (nI b)), (3, .int (nI vv))]) hx hb d_R_howManyBelow_99 hl (k := 2) rfl ((nI_succ i).symm) (by decide) rfl (fun ls hl => ?_)
            refine lv_goto (tgt := 33) hx hb d_R_howManyBelow_102 (by decide) ?_
            exact ih (i + 1) _ _ _ _ H _ ls (by omega) hS (by rw [ea, eb]; exact hP) (va_D.one rfl) (lv_sub hl [0, 1, 3, 4, 5, 6] rfl)
          | true =>
            rw [hbt] at hwb
            have hb0 : vv / 2 ^ (d - 1 - i) % 2 = 1 := of_decide_eq_true hbt
            refine ct_topi (x' := nI 1) (by rw [hb0]) ?_
            refine lv_istore (lv' := [(6, .int (nI 1)), (5, .int (nI i)), (4, .int (nI (wlt d i (vv / 2 ^ (d - i)) B))), (0, .ref (y 0)), (1, .int (nI a)), (2, .int (nI b)), (3, .int (nI vv))]) hx hb d_R_howManyBelow_67 hl (by decide) rfl (fun ls hl => ?_)
            refine lv_iload hx hb d_R_howManyBelow_69 (lv_at hl 2 rfl) ?_
            refine lv_iload hx hb d_R_howManyBelow_71 (lv_at hl 0 rfl) ?_
            refine lv_if_ne (tgt := 80) hx hb d_R_howManyBelow_73 (by decide) (fun _ => ?_) (fun c9 => absurd c9 (by decide))
            refine lv_aload_n hx hb d_R_howManyBelow_80 rfl (lv_at hl 3 rfl) ?_
            refine va_get (D := D) (ci := 2) (v := .ref (y 3)) (C := n_R) (T := f_R) (N := 10) hx hb hts in_R hown hK hR 0 rfl rfl 6 (by decide) (hts _ x_88) (fun _ h9 => h9) rfl d_R_howManyBelow_81 ?_
            refine cm_read (va_runV (As := []) (rest := [.int (nI (wlt d i (vv / 2 ^ (d - i)) B))]) ⟨hx, hb, hml, hown, hts⟩ (m_P_zeros) ⟨ct_cb 0 hts x_370 x_367 x_2 rfl rfl (by decide +kernel) ⟨by decide, by decide⟩, hts _ x_368, hts _ x_369⟩ ⟨st_blind, va_recv hK hP (ci := 1) (q0 := 0) rfl rfl, fun U hU hW => ⟨rfl, hE.at hS hAB hU hW, by rw [hU]; exact hP⟩⟩ rfl rfl hl.1 rfl (lv_room (Nat.le_of_ble_eq_true rfl)) d_R_howManyBelow_84 ⟨by decide, by decide⟩) (fun v hv => ?_)
            subst hv
            refine W.eq (g2 := F0 m 87 ls [.int (nI (z0 (wt d i) (wL d xs i) (wdn d xs vv i b)) - nI (z0 (wt d i) (wL d xs i) (wdn d xs vv i a))), .int (nI (wlt d i (vv / 2 ^ (d - i)) B))]) rfl ?_
            refine ct_topi (x' := nI (wpre d (i + 1) (2 * (vv / 2 ^ (d - i))) B).length) (by rw [pk_sub (by omega)]; congr 1; omega) ?_
            refine lv_iadd hx hb d_R_howManyBelow_87 ?_
            refine ct_topi (x' := nI (wlt d (i + 1) (vv / 2 ^ (d - (i + 1))) B)) (by rw [hwb, if_pos rfl, wlt_one hid]; exact nI_add _ _) ?_
            refine lv_istore (lv' := [(4, .int (nI (wlt d (i + 1) (vv / 2 ^ (d - (i + 1))) B))), (6, .int (nI 1)), (5, .int (nI i)), (0, .ref (y 0)), (1, .int (nI a)), (2, .int (nI b)), (3, .int (nI vv))]) hx hb d_R_howManyBelow_88 hl (by decide) rfl (fun ls hl => ?_)
            refine lv_aload_n hx hb d_R_howManyBelow_90 rfl (lv_at hl 3 rfl) ?_
            refine va_get (D := D) (ci := 2) (v := .ref (y 3)) (C := n_R) (T := f_R) (N := 10) hx hb hts in_R hown hK hR 0 rfl rfl 6 (by decide) (hts _ x_88) (fun _ h9 => h9) rfl d_R_howManyBelow_91 ?_
            refine lv_iload hx hb d_R_howManyBelow_94 (lv_at hl 1 rfl) ?_
            refine cm_ret (va_runV (As := [.int (nI 1)]) (rest := []) ⟨hx, hb, hml, hown, hts⟩ (m_P_enter1) ⟨ct_cb 1 hts x_326 x_323 x_2 rfl rfl (by decide +kernel) ⟨by decide, by decide⟩, hts _ x_324, hts _ x_325⟩ ⟨st_blind, va_recv hK hP (ci := 1) (q0 := 0) rfl rfl, fun U hU hW => ⟨rfl, hE.at hS hAB hU hW, by rw [hU]; exact hP⟩⟩ rfl rfl hl.1 rfl (lv_room (Nat.le_of_ble_eq_true rfl)) d_R_howManyBelow_96 ⟨by decide, by decide⟩) hS (fun q h => h) (fun _ _ h => h.2.1) (fun v H locs hv hS => ?_)
            obtain ⟨rfl, hfr, hP⟩ := hv
            refine W.eq (g2 := F0 m 99 ls []) rfl ?_
            have hP : va_P D vwCl [(y 3, .inr (1, [.int (nI (z0 (wt d i) (wL d xs i) xs.length + z1 (wt d i) (wL d xs i) (wdn d xs vv i a))), .int (nI (z0 (wt d i) (wL d xs i) xs.length + z1 (wt d i) (wL d xs i) (wdn d xs vv i b))), .int (nI (z0 (wt d i) (wL d xs i) (wdn d xs vv i a))), .int (nI (z0 (wt d i) (wL d xs i) (wdn d xs vv i b))), .int (nI (z0 (wt d i) (wL d xs i) xs.length + z1 (wt d i) (wL d xs i) (wdn d xs vv i a))), .int (nI (z0 (wt d i) (wL d xs i) xs.length + z1 (wt d i) (wL d xs i) (wdn d xs vv i b)))]))] H := hP
            have hD : va_D (fun q => q = y 3) [(y 3, .inr (1, [.int (nI (z0 (wt d i) (wL d xs i) xs.length + z1 (wt d i) (wL d xs i) (wdn d xs vv i a))), .int (nI (z0 (wt d i) (wL d xs i) xs.length + z1 (wt d i) (wL d xs i) (wdn d xs vv i b))), .int (nI (z0 (wt d i) (wL d xs i) (wdn d xs vv i a))), .int (nI (z0 (wt d i) (wL d xs i) (wdn d xs vv i b))), .int (nI (z0 (wt d i) (wL d xs i) xs.length + z1 (wt d i) (wL d xs i) (wdn d xs vv i a))), .int (nI (z0 (wt d i) (wL d xs i) xs.length + z1 (wt d i) (wL d xs i) (wdn d xs vv i b)))]))] := va_D.one rfl
            have hR := hR0.rd hS hRd
            have hL := hL0.rd hS hLd
            have ea : nI (wdn d xs vv (i + 1) a) = nI (z0 (wt d i) (wL d xs i) xs.length + z1 (wt d i) (wL d xs i) (wdn d xs vv i a)) := by simp only [wdn, hbt, if_true, Bool.false_eq_true, if_false]
            have eb : nI (wdn d xs vv (i + 1) b) = nI (z0 (wt d i) (wL d xs i) xs.length + z1 (wt d i) (wL d xs i) (wdn d xs vv i b)) := by simp only [wdn, hbt, if_true, Bool.false_eq_true, if_false]
            refine lv_iinc (v := nI (i + 1)) (lv' := [(5, .int (nI (i + 1))), (4, .int (nI (wlt d (i + 1) (vv / 2 ^ (d - (i + 1))) B))), (6, .int (nI 1)), (0, .ref (y 0)), (1, .int (nI a)), (2, .int (nI b)), (3, .int (nI vv))]) hx hb d_R_howManyBelow_99 hl (k := 2) rfl ((nI_succ i).symm) (by decide) rfl (fun ls hl => ?_)
            refine lv_goto (tgt := 33) hx hb d_R_howManyBelow_102 (by decide) ?_
            exact ih (i + 1) _ _ _ _ H _ ls (by omega) hS (by rw [ea, eb]; exact hP) (va_D.one rfl) (lv_sub hl [0, 1, 3, 4, 5, 6] rfl)
      have e0 : vv / 2 ^ (d - 0) = 0 := Nat.div_eq_of_lt hvd
      exact loop d 0 _ _ _ _ H _ ls (by omega) hS hP hD (by rw [e0, wlt_0]; exact (lv_sub hl [0, 1, 2, 3, 4, 5] rfl))
    · refine lv_icmp_lt (tgt := 18) hx hb d_R_howManyBelow_11 (by decide) (fun c9 => absurd c9 (nI_nlt hvs (by omega))) (fun _ => ?_)
      refine lv_iload_n hx hb d_R_howManyBelow_14 rfl (lv_at hl 2 rfl) ?_
      refine lv_iload_n hx hb d_R_howManyBelow_15 rfl (lv_at hl 1 rfl) ?_
      refine lv_isub hx hb d_R_howManyBelow_16 ?_
      refine ct_topi (x' := nI (b - a)) (pk_sub hab) ?_
      exact W.iret (v := nI (b - a)) hx hb hr (fun t ht hW => ⟨_, rfl, by rw [ht]; exact ⟨by rw [nI_clamp hv31, cLt_all (fun x h => Nat.lt_of_lt_of_le (ok0.2.2.2.2.2.2.1 x (hBm x h)) hvs), hBl], fr.of hS, _, _, _, _, _, _, hP⟩⟩) hS.2.2 d_R_howManyBelow_17
  · refine lv_iconst (v := 0) hx hb d_R_howManyBelow_4 (by decide) ?_
    have hz : x.toNatClampNeg = 0 := by
      have h1 := Int32.not_lt.mp hx0
      have h2 := Int32.le_iff_toInt_le.mp h1
      have h3 : (0 : Int32).toInt = 0 := by decide
      show x.toInt.toNat = 0
      omega
    exact W.iret (v := 0) hx hb hr (fun t ht hW => ⟨_, rfl, by rw [ht]; exact ⟨by rw [hz, cLt_0]; rfl, fr.of hS, _, _, _, _, _, _, hP⟩⟩) hS.2.2 d_R_howManyBelow_5
end
section
/-! Counting: how many stand at least so often; distinct symbols; five cells apart. -/
section CNT
theorem dis_len (B : List Nat) : ∀ m, (dis B m).length ≤ cLt B m
  | 0 => Nat.zero_le _
  | m + 1 => by
    have h := dis_len B m
    rw [dis_succ, List.length_append, cLt_succ]
    split
    · simp only [List.length_cons, List.length_nil]; omega
    · simp only [List.length_nil]; omega
theorem max1 {c : Nat} (h : 1 ≤ c) (h2 : c < 2 ^ 31) : (if (1 : Int32) < nI c then nI c else 1) = nI c := by
  rcases Nat.lt_or_ge 1 c with h1 | h1
  · exact if_pos (show nI 1 < nI c from nI_lt h1 h2)
  · have : c = 1 := by omega
    subst this
    rw [if_neg (by decide)]
    rfl
def cGe (T : List Nat) (n : Nat) : Nat := (T.filter (fun x => decide (n ≤ x))).length
theorem cGe_step (T : List Nat) (n : Nat) : cGe T n = cGe T (n + 1) + cEq T n := by
  unfold cGe cEq
  induction T with
  | nil => rfl
  | cons x T ih =>
    simp only [List.filter_cons]
    rcases Nat.lt_trichotomy x n with h | h | h
    · have h1 : ¬ n ≤ x := by omega
      have h2 : ¬ n + 1 ≤ x := by omega
      have h3 : (x == n) = false := by rw [beq_eq_false_iff_ne]; omega
      simp only [h1, h2, h3, decide_false, Bool.false_eq_true, if_false]
      exact ih
    · have h1 : n ≤ x := by omega
      have h2 : ¬ n + 1 ≤ x := by omega
      have h3 : (x == n) = true := by rw [beq_iff_eq]; omega
      simp only [h1, h2, h3, decide_true, decide_false, Bool.false_eq_true, if_false, if_true, List.length_cons]
      omega
    · have h1 : n ≤ x := by omega
      have h2 : n + 1 ≤ x := by omega
      have h3 : (x == n) = false := by rw [beq_eq_false_iff_ne]; omega
      simp only [h1, h2, h3, decide_true, Bool.false_eq_true, if_false, if_true, List.length_cons]
      omega
theorem cGe_all {T : List Nat} {n : Nat} (h : ∀ x ∈ T, x < n) : cGe T n = 0 := by
  unfold cGe
  rw [List.length_eq_zero_iff, List.filter_eq_nil_iff]
  intro x hx
  have := h x hx
  simp only [decide_eq_true_eq]
  omega
theorem cEq_take {T : List Nat} {i x : Nat} (h : T[i]? = some x) (t : Nat) : cEq (T.take (i + 1)) t = cEq (T.take i) t + (if x = t then 1 else 0) := by
  rw [take_one h]
  unfold cEq
  rw [List.filter_append, List.length_append]
  congr 1
  by_cases e : x = t
  · simp [List.filter_cons, e]
  · simp [List.filter_cons, e]
theorem cEq_le (T : List Nat) (t : Nat) : cEq T t ≤ T.length := List.length_filter_le _ _
theorem cGe_le (T : List Nat) (t : Nat) : cGe T t ≤ T.length := List.length_filter_le _ _
theorem va_D.five {A : Nat → Prop} {y : Nat → Nat} {B0 d i : Nat} (hy : yI B0 y d) (hi : i < d) {e0 e1 e2 e3 e4 : va_E} (hA : ∀ j, j = 8 + 3 * i ∨ j = 9 + 3 * i ∨ j = 10 + 3 * i ∨ j = 1 ∨ j = 2 → A (y j)) : va_D A [(y (8 + 3 * i), e0), (y (9 + 3 * i), e1), (y (10 + 3 * i), e2), (y 1, e3), (y 2, e4)] := by
  refine va_D.ones hy _ (fun k => match k with | 0 => 8 + 3 * i | 1 => 9 + 3 * i | 2 => 10 + 3 * i | 3 => 1 | _ => 2) ?_ ?_ ?_
  · intro k q hk
    match k, hk with
    | 0, hk => cases hk; exact ⟨rfl, show 8 + 3 * i < _ by omega⟩
    | 1, hk => cases hk; exact ⟨rfl, show 9 + 3 * i < _ by omega⟩
    | 2, hk => cases hk; exact ⟨rfl, show 10 + 3 * i < _ by omega⟩
    | 3, hk => cases hk; exact ⟨rfl, show 1 < _ by omega⟩
    | 4, hk => cases hk; exact ⟨rfl, show 2 < _ by omega⟩
    | k + 5, hk => simp at hk
  · intro a b ha hb hab
    simp only [List.length_cons, List.length_nil] at ha hb
    have ha' : a = 0 ∨ a = 1 ∨ a = 2 ∨ a = 3 ∨ a = 4 := by omega
    have hb' : b = 0 ∨ b = 1 ∨ b = 2 ∨ b = 3 ∨ b = 4 := by omega
    rcases ha' with rfl | rfl | rfl | rfl | rfl <;> rcases hb' with rfl | rfl | rfl | rfl | rfl <;> first | rfl | (simp only at hab; omega)
  · intro k q hk
    match k, hk with
    | 0, hk => cases hk; exact hA _ (by omega)
    | 1, hk => cases hk; exact hA _ (by omega)
    | 2, hk => cases hk; exact hA _ (by omega)
    | 3, hk => cases hk; exact hA _ (by omega)
    | 4, hk => cases hk; exact hA _ (by omega)
    | k + 5, hk => simp at hk
theorem va_D.two {A : Nat → Prop} {a b : Nat} {e0 e1 : va_E} (h : a ≠ b) (ha : A a) (hb : A b) : va_D A [(a, e0), (b, e1)] := by
  refine ⟨fun i j p q hi hj hpq => ?_, fun k q hk => ?_⟩
  · match i, j, hi, hj with
    | 0, 0, _, _ => rfl
    | 1, 1, _, _ => rfl
    | 0, 1, hi, hj => cases hi; cases hj; exact absurd hpq h
    | 1, 0, hi, hj => cases hi; cases hj; exact absurd hpq.symm h
    | 0, j + 2, _, hj => simp at hj
    | 1, j + 2, _, hj => simp at hj
    | i + 2, _, hi, _ => simp at hi
  · match k, hk with
    | 0, hk => cases hk; exact ha
    | 1, hk => cases hk; exact hb
    | k + 2, hk => simp at hk
theorem va_D.three {A : Nat → Prop} {a b c : Nat} {e0 e1 e2 : va_E} (h1 : a ≠ b) (h2 : a ≠ c) (h3 : b ≠ c) (ha : A a) (hb : A b) (hc : A c) : va_D A [(a, e0), (b, e1), (c, e2)] := by
  refine ⟨fun i j p q hi hj hpq => ?_, fun k q hk => ?_⟩
  · match i, j, hi, hj with
    | 0, 0, _, _ => rfl
    | 1, 1, _, _ => rfl
    | 2, 2, _, _ => rfl
    | 0, 1, hi, hj => cases hi; cases hj; exact absurd hpq h1
    | 1, 0, hi, hj => cases hi; cases hj; exact absurd hpq.symm h1
    | 0, 2, hi, hj => cases hi; cases hj; exact absurd hpq h2
    | 2, 0, hi, hj => cases hi; cases hj; exact absurd hpq.symm h2
    | 1, 2, hi, hj => cases hi; cases hj; exact absurd hpq h3
    | 2, 1, hi, hj => cases hi; cases hj; exact absurd hpq.symm h3
    | 0, j + 3, _, hj => simp at hj
    | 1, j + 3, _, hj => simp at hj
    | 2, j + 3, _, hj => simp at hj
    | i + 3, _, hi, _ => simp at hi
  · match k, hk with
    | 0, hk => cases hk; exact ha
    | 1, hk => cases hk; exact hb
    | 2, hk => cases hk; exact hc
    | k + 3, hk => simp at hk
theorem Lk.off5 {cJ cS : ClassId} {y : Nat → Nat} {d B0 : Nat} {ja : Nat → Int64} {oa : Nat → Int32} {z : Int32} (hy : yI B0 y d) {i j : Nat} (hj : j < d) (hi : i < d) (hij : j ≠ i) (k : Nat) (q : Nat × va_E) (hk : (Lw cJ cS (y (8 + 3 * j)) (y (9 + 3 * j)) (y (10 + 3 * j)) ja oa z)[k]? = some q) : ¬ (q.1 = y (8 + 3 * i) ∨ q.1 = y (9 + 3 * i) ∨ q.1 = y (10 + 3 * i) ∨ q.1 = y 1 ∨ q.1 = y 2) := by
  have key : ∀ b, b < 8 + 3 * d → (b ≠ 8 + 3 * j ∧ b ≠ 9 + 3 * j ∧ b ≠ 10 + 3 * j) → ¬ q.1 = y b := fun b hb hn =>
    Lw.off (hy.ne (by omega) hb (by omega)) (hy.ne (by omega) hb (by omega)) (hy.ne (by omega) hb (by omega)) k q hk
  rintro (h | h | h | h | h)
  · exact key _ (by omega) (by omega) h
  · exact key _ (by omega) (by omega) h
  · exact key _ (by omega) (by omega) h
  · exact key 1 (by omega) (by omega) h
  · exact key 2 (by omega) (by omega) h
end CNT
end
section
/-! LevelRows: listSymbols, countAhead, storeLevels. -/
set_option maxHeartbeats 4000000 in
set_option maxRecDepth 100000 in
theorem m_R_listSymbols {l : Launch} {D : va_G} {cI cJ cS cO : ClassId} {B0 : Nat} {y : Nat → Nat} {sg d : Nat} {xs ws : List Nat} (hy : yI B0 y d) (ok0 : Ok sg d xs ws) {a b : Nat} (hab : a ≤ b) (hbx : b ≤ xs.length) {B : List Nat} (hB : B = (xs.drop a).take (b - a)) {lf tf : Nat → Int32} : CM l D (tyL cI cJ cS cO) B0 y_R_listSymbols c_R_listSymbols 5 (some .int) (rmK 5 0 0) [.ref (y 0), .int (nI a), .int (nI b)] (fun H => RL D cJ cS cO y sg d xs ws.length H ∧ PP D (y 3) H ∧ va_P D vwCl [(y 4, .inl (cI, 1000, .inl lf)), (y 5, .inl (cI, 1000, .inl tf))] H) (fun v H0 H1 => v = some (.int (nI (dis B 65536).length)) ∧ fr (fun q => q = y 3 ∨ q = y 4 ∨ q = y 5) H0 H1 ∧ PP D (y 3) H1 ∧ ∃ lf tf, (∀ i x, (dis B 65536)[i]? = some x → lf i = nI x ∧ tf i = nI (cEq B x)) ∧ va_P D vwCl [(y 4, .inl (cI, 1000, .inl lf)), (y 5, .inl (cI, 1000, .inl tf))] H1) 0 0 (fun q => q = y 3 ∨ q = y 4 ∨ q = y 5) := by
  refine cm_of (by decide) (Nat.le_of_ble_eq_true rfl) ?_
  intro p e s m below meth c ls hx hb hr hml hown hts hlocks hnm hE hpre hl
  have hown : s.vm.findClass "LevelRows" = some m.cls := hown
  have hK := hE.1
  have hl : lv_has ls 5 [(0, .ref (y 0)), (1, .int (nI a)), (2, .int (nI b))] := hl
  have hS : va_S (fun q => q = y 3 ∨ q = y 4 ∨ q = y 5) s.heap s.heap [] := va_S.rf
  have hR0 := hpre.1.1
  have hRd : ∀ (k : Nat) (q : Nat × va_E), (Rw cO y (nI sg) d (nI xs.length) (nI ws.length))[k]? = some q → ¬ (q.1 = y 3 ∨ q.1 = y 4 ∨ q.1 = y 5) := fun k q hk h => h.elim (Rw.off hy (by omega) (by omega) k q hk) (fun h => h.elim (Rw.off hy (by omega) (by omega) k q hk) (Rw.off hy (by omega) (by omega) k q hk))
  have hR := hR0
  have hA3 : ∀ q : Nat, (q = y 3 ∨ q = y 4 ∨ q = y 5) → ∃ i, 1 ≤ i ∧ i ≤ 6 ∧ q = y i := fun q h => h.elim (fun h => ⟨3, by omega, by omega, h⟩) (fun h => h.elim (fun h => ⟨4, by omega, by omega, h⟩) (fun h => ⟨5, by omega, by omega, h⟩))
  have hAB : ∀ q : Nat, (q = y 3 ∨ q = y 4 ∨ q = y 5) → B0 ≤ q := fun q h => by obtain ⟨i, _, _, rfl⟩ := hA3 q h; exact hy.2 i (by omega)
  have hd16 := ok0.d16
  have hx9 := ok0.len
  have hp16 := ok0.p16
  have hBl : B.length = b - a := by rw [hB, List.length_take, List.length_drop]; omega
  have hB6 : ∀ x ∈ B, x < 65536 := fun x h => Nat.lt_of_lt_of_le (ok0.lt x (List.mem_of_mem_drop (List.mem_of_mem_take (hB ▸ h)))) hp16
  have hcA := cLt_all hB6
  obtain ⟨f0, f1, f2, f3, f4, f5, hP⟩ := hpre.2.1
  have hP : va_P D vwCl [(y 3, .inr (1, [.int f0, .int f1, .int f2, .int f3, .int f4, .int f5])), (y 4, .inl (cI, 1000, .inl (lf))), (y 5, .inl (cI, 1000, .inl (tf)))] s.heap := hP.app hpre.2.2
  have hD : va_D (fun q => q = y 3 ∨ q = y 4 ∨ q = y 5) [(y 3, .inr (1, [.int f0, .int f1, .int f2, .int f3, .int f4, .int f5])), (y 4, .inl (cI, 1000, .inl (lf))), (y 5, .inl (cI, 1000, .inl (tf)))] := va_D.three (hy.ne (by omega) (by omega) (by omega)) (hy.ne (by omega) (by omega) (by omega)) (hy.ne (by omega) (by omega) (by omega)) (Or.inl rfl) (Or.inr (Or.inl rfl)) (Or.inr (Or.inr rfl))
  refine lv_iconst (v := 0) hx hb d_R_listSymbols_0 (by decide) ?_
  refine lv_istore_n (lv' := [(3, .int 0), (0, .ref (y 0)), (1, .int (nI a)), (2, .int (nI b))]) hx hb d_R_listSymbols_1 rfl hl (by decide) rfl (fun ls hl => ?_)
  refine lv_iconst (v := 0) hx hb d_R_listSymbols_2 (by decide) ?_
  refine lv_istore (lv' := [(4, .int 0), (3, .int 0), (0, .ref (y 0)), (1, .int (nI a)), (2, .int (nI b))]) hx hb d_R_listSymbols_3 hl (by decide) rfl (fun ls hl => ?_)
  have loop : ∀ (n : Nat) (mm : Nat) (lf : Nat → Int32) (tf : Nat → Int32) (f0 : Int32) (f1 : Int32) (f2 : Int32) (f3 : Int32) (f4 : Int32) (f5 : Int32) (H : Heap) (locs : List Loc) (ls : Array Slot), (B.length ≤ cLt B mm + n) → (mm ≤ 65536) → ((∀ i x, (dis B mm)[i]? = some x → lf i = nI x ∧ tf i = nI (cEq B x))) → va_S (fun q => q = y 3 ∨ q = y 4 ∨ q = y 5) s.heap H locs → va_P D vwCl [(y 3, .inr (1, [.int f0, .int f1, .int f2, .int f3, .int f4, .int f5])), (y 4, .inl (cI, 1000, .inl (lf))), (y 5, .inl (cI, 1000, .inl (tf)))] H → va_D (fun q => q = y 3 ∨ q = y 4 ∨ q = y 5) [(y 3, .inr (1, [.int f0, .int f1, .int f2, .int f3, .int f4, .int f5])), (y 4, .inl (cI, 1000, .inl (lf))), (y 5, .inl (cI, 1000, .inl (tf)))] → lv_has ls 5 [(3, .int (nI (dis B mm).length)), (4, .int (nI (cLt B mm))), (0, .ref (y 0)), (1, .int (nI a)), (2, .int (nI b))] → W p l e (rmK 5 0 0) s m [.ref (y 0), .int (nI a), .int (nI b)].toArray below meth c H locs (0) (0) (MQ below (stQ (fun v H0 H1 => v = some (.int (nI (dis B 65536).length)) ∧ fr (fun q => q = y 3 ∨ q = y 4 ∨ q = y 5) H0 H1 ∧ PP D (y 3) H1 ∧ ∃ lf tf, (∀ i x, (dis B 65536)[i]? = some x → lf i = nI x ∧ tf i = nI (cEq B x)) ∧ va_P D vwCl [(y 4, .inl (cI, 1000, .inl lf)), (y 5, .inl (cI, 1000, .inl tf))] H1)) [.ref (y 0), .int (nI a), .int (nI b)].toArray s 0 0 (fun q => q = y 3 ∨ q = y 4 ∨ q = y 5)) (F0 m 5 ls []) := by
    intro n
    induction n with
    | zero =>
      intro mm lf tf f0 f1 f2 f3 f4 f5 H locs ls hin hm6 hlt hS hP hD hl
      have hR := hR0.rd hS hRd
      have hcm := cLt_le B mm
      refine lv_iload hx hb d_R_listSymbols_5 (lv_at hl 1 rfl) ?_
      refine lv_iload_n hx hb d_R_listSymbols_7 rfl (lv_at hl 4 rfl) ?_
      refine lv_iload_n hx hb d_R_listSymbols_8 rfl (lv_at hl 3 rfl) ?_
      refine lv_isub hx hb d_R_listSymbols_9 ?_
      refine ct_topi (x' := nI (b - a)) (pk_sub hab) ?_
      refine lv_icmp_ge (tgt := 62) hx hb d_R_listSymbols_10 (by decide) (fun _ => ?_) (fun c9 => absurd (nI_le (by omega) (by omega)) c9)
      refine lv_iload_n hx hb d_R_listSymbols_62 rfl (lv_at hl 0 rfl) ?_
      have hds := dis_same hm6 (show cLt B 65536 = cLt B mm by omega)
      exact W.iret (v := nI (dis B mm).length) hx hb hr (fun t ht hW => ⟨_, rfl, by rw [ht, hds]; exact ⟨rfl, fr.of hS, ⟨_, _, _, _, _, _, hP.sub [0] rfl⟩, lf, tf, hlt, hP.sub [1, 2] rfl⟩⟩) hS.2.2 d_R_listSymbols_63
    | succ n ih =>
      intro mm lf tf f0 f1 f2 f3 f4 f5 H locs ls hin hm6 hlt hS hP hD hl
      have hR := hR0.rd hS hRd
      have hcm := cLt_le B mm
      have hdl := dis_len B mm
      rcases Nat.lt_or_ge (cLt B mm) B.length with hgo | hst
      · obtain ⟨r, hr6, hkr⟩ := kth_ex 65536 (show cLt B mm < cLt B 65536 by omega)
        obtain ⟨hm1, hm2, hm3, hm4⟩ := kth_next hkr
        have hcp : 0 < cEq B r := cEq_pos.mpr hkr.mem
        have hcl := cLt_le B (r + 1)
        refine lv_iload hx hb d_R_listSymbols_5 (lv_at hl 1 rfl) ?_
        refine lv_iload_n hx hb d_R_listSymbols_7 rfl (lv_at hl 4 rfl) ?_
        refine lv_iload_n hx hb d_R_listSymbols_8 rfl (lv_at hl 3 rfl) ?_
        refine lv_isub hx hb d_R_listSymbols_9 ?_
        refine ct_topi (x' := nI (b - a)) (pk_sub hab) ?_
        refine lv_icmp_ge (tgt := 62) hx hb d_R_listSymbols_10 (by decide) (fun c9 => absurd c9 (nI_ge (by omega) (by omega))) (fun _ => ?_)
        refine lv_aload_n hx hb d_R_listSymbols_13 rfl (lv_at hl 2 rfl) ?_
        refine va_get (D := D) (ci := 2) (v := .ref (y 4)) (C := n_R) (T := f_R) (N := 10) hx hb hts in_R hown hK hR 0 rfl rfl 7 (by decide) (hts _ x_89) (fun _ h9 => h9) rfl d_R_listSymbols_14 ?_
        refine lv_iload_n hx hb d_R_listSymbols_17 rfl (lv_at hl 0 rfl) ?_
        refine lv_aload_n hx hb d_R_listSymbols_18 rfl (lv_at hl 2 rfl) ?_
        refine lv_iload_n hx hb d_R_listSymbols_19 rfl (lv_at hl 3 rfl) ?_
        refine lv_iload_n hx hb d_R_listSymbols_20 rfl (lv_at hl 4 rfl) ?_
        refine lv_iload hx hb d_R_listSymbols_21 (lv_at hl 1 rfl) ?_
        refine cm_ret (va_runV (As := [.int (nI a), .int (nI b), .int (nI (cLt B mm))]) (rest := [.int (nI (dis B mm).length), .ref (y 4)]) ⟨hx, hb, hml, hown, hts⟩ (m_R_kthLeast hy ok0 hab hbx hB hkr) ⟨ct_cb 3 hts x_366 x_363 x_1 rfl rfl (by decide +kernel) ⟨by decide, by decide⟩, hts _ x_365, hts _ s_R_kthLeast⟩ ⟨st_blind, va_recv hK hR (ci := 2) (q0 := 0) rfl rfl, fun U hU hW => ⟨rfl, hE.at hS hAB hU hW, by rw [hU]; exact ⟨RL.fr hy hpre.1 (fr.of hS) (fun q _ h => hA3 q h), _, _, _, _, _, _, hP.sub [0] rfl⟩⟩⟩ rfl rfl hl.1 rfl (lv_room (Nat.le_of_ble_eq_true rfl)) d_R_listSymbols_23 ⟨by decide, by decide⟩) hS (fun q h => Or.inl h) (fun _ _ h => h.2.1) (fun v H locs hv hS => ?_)
        obtain ⟨rfl, hfr, u, g2, g3, g4, g5, hu, hP1⟩ := hv
        refine W.eq (g2 := F0 m 26 ls [.int (nI r), .int (nI (dis B mm).length), .ref (y 4)]) rfl ?_
        have hP : va_P D vwCl [(y 3, .inr (1, [.int (nI u), .int (nI (u + cEq B r)), .int g2, .int g3, .int g4, .int g5])), (y 4, .inl (cI, 1000, .inl (lf))), (y 5, .inl (cI, 1000, .inl (tf)))] H := va_P.wset (p := 0) hP hD rfl hP1 hfr
        have hD : va_D (fun q => q = y 3 ∨ q = y 4 ∨ q = y 5) [(y 3, .inr (1, [.int (nI u), .int (nI (u + cEq B r)), .int g2, .int g3, .int g4, .int g5])), (y 4, .inl (cI, 1000, .inl (lf))), (y 5, .inl (cI, 1000, .inl (tf)))] := va_D.set (p := 0) hD rfl
        have hR := hR0.rd hS hRd
        refine va_iast hx hb hK hP hD hS 1 0 rfl rfl (vp_in_nI (by omega) (by decide)) d_R_listSymbols_26 (fun H locs hP hD hS => ?_)
        rw [nI_clamp (by omega)] at hP hD
        have hP : va_P D vwCl [(y 3, .inr (1, [.int (nI u), .int (nI (u + cEq B r)), .int g2, .int g3, .int g4, .int g5])), (y 4, .inl (cI, 1000, .inl (upd lf (dis B mm).length (nI r)))), (y 5, .inl (cI, 1000, .inl (tf)))] H := hP
        have hD : va_D (fun q => q = y 3 ∨ q = y 4 ∨ q = y 5) [(y 3, .inr (1, [.int (nI u), .int (nI (u + cEq B r)), .int g2, .int g3, .int g4, .int g5])), (y 4, .inl (cI, 1000, .inl (upd lf (dis B mm).length (nI r)))), (y 5, .inl (cI, 1000, .inl (tf)))] := hD
        have hR := hR0.rd hS hRd
        refine lv_aload_n hx hb d_R_listSymbols_27 rfl (lv_at hl 2 rfl) ?_
        refine va_get (D := D) (ci := 2) (v := .ref (y 5)) (C := n_R) (T := f_R) (N := 10) hx hb hts in_R hown hK hR 0 rfl rfl 8 (by decide) (hts _ x_90) (fun _ h9 => h9) rfl d_R_listSymbols_28 ?_
        refine lv_iload_n hx hb d_R_listSymbols_31 rfl (lv_at hl 0 rfl) ?_
        refine lv_aload_n hx hb d_R_listSymbols_32 rfl (lv_at hl 2 rfl) ?_
        refine va_get (D := D) (ci := 2) (v := .ref (y 3)) (C := n_R) (T := f_R) (N := 10) hx hb hts in_R hown hK hR 0 rfl rfl 6 (by decide) (hts _ x_88) (fun _ h9 => h9) rfl d_R_listSymbols_33 ?_
        refine cm_read (va_runV (As := []) (rest := [.int (nI (dis B mm).length), .ref (y 5)]) ⟨hx, hb, hml, hown, hts⟩ (m_P_length) ⟨ct_cb 0 hts x_330 x_327 x_2 rfl rfl (by decide +kernel) ⟨by decide, by decide⟩, hts _ x_328, hts _ x_329⟩ ⟨st_blind, va_recv hK hP (ci := 1) (q0 := 0) rfl rfl, fun U hU hW => ⟨rfl, hE.at hS hAB hU hW, by rw [hU]; exact hP.sub [0] rfl⟩⟩ rfl rfl hl.1 rfl (lv_room (Nat.le_of_ble_eq_true rfl)) d_R_listSymbols_36 ⟨by decide, by decide⟩) (fun v hv => ?_)
        subst hv
        refine W.eq (g2 := F0 m 39 ls [.int (nI (u + cEq B r) - nI u), .int (nI (dis B mm).length), .ref (y 5)]) rfl ?_
        refine ct_topi (x' := nI (cEq B r)) (by rw [pk_sub (by omega)]; congr 1; omega) ?_
        refine va_iast hx hb hK hP hD hS 2 0 rfl rfl (vp_in_nI (by omega) (by decide)) d_R_listSymbols_39 (fun H locs hP hD hS => ?_)
        rw [nI_clamp (by omega)] at hP hD
        have hP : va_P D vwCl [(y 3, .inr (1, [.int (nI u), .int (nI (u + cEq B r)), .int g2, .int g3, .int g4, .int g5])), (y 4, .inl (cI, 1000, .inl (upd lf (dis B mm).length (nI r)))), (y 5, .inl (cI, 1000, .inl (upd tf (dis B mm).length (nI (cEq B r)))))] H := hP
        have hD : va_D (fun q => q = y 3 ∨ q = y 4 ∨ q = y 5) [(y 3, .inr (1, [.int (nI u), .int (nI (u + cEq B r)), .int g2, .int g3, .int g4, .int g5])), (y 4, .inl (cI, 1000, .inl (upd lf (dis B mm).length (nI r)))), (y 5, .inl (cI, 1000, .inl (upd tf (dis B mm).length (nI (cEq B r)))))] := hD
        have hR := hR0.rd hS hRd
        refine lv_iload hx hb d_R_listSymbols_40 (lv_at hl 1 rfl) ?_
        refine lv_iconst (v := 1) hx hb d_R_listSymbols_42 (by decide) ?_
        refine lv_aload_n hx hb d_R_listSymbols_43 rfl (lv_at hl 2 rfl) ?_
        refine va_get (D := D) (ci := 2) (v := .ref (y 3)) (C := n_R) (T := f_R) (N := 10) hx hb hts in_R hown hK hR 0 rfl rfl 6 (by decide) (hts _ x_88) (fun _ h9 => h9) rfl d_R_listSymbols_44 ?_
        refine cm_read (va_runV (As := []) (rest := [.int 1, .int (nI (cLt B mm))]) ⟨hx, hb, hml, hown, hts⟩ (m_P_length) ⟨ct_cb 0 hts x_330 x_327 x_2 rfl rfl (by decide +kernel) ⟨by decide, by decide⟩, hts _ x_328, hts _ x_329⟩ ⟨st_blind, va_recv hK hP (ci := 1) (q0 := 0) rfl rfl, fun U hU hW => ⟨rfl, hE.at hS hAB hU hW, by rw [hU]; exact hP.sub [0] rfl⟩⟩ rfl rfl hl.1 rfl (lv_room (Nat.le_of_ble_eq_true rfl)) d_R_listSymbols_47 ⟨by decide, by decide⟩) (fun v hv => ?_)
        subst hv
        refine W.eq (g2 := F0 m 50 ls [.int (nI (u + cEq B r) - nI u), .int 1, .int (nI (cLt B mm))]) rfl ?_
        refine ct_topi (x' := nI (cEq B r)) (by rw [pk_sub (by omega)]; congr 1; omega) ?_
        refine va_mmax hx hb (by rw [hml]; exact hl.1.symm) hown (hts _ x_55) (hts _ x_56) (hts _ x_3) (hts _ x_57) (by decide) (Nat.le_of_ble_eq_true rfl) (by decide) (by decide) d_R_listSymbols_50 ?_
        refine ct_topi (x' := nI (cEq B r)) (max1 hcp (by omega)) ?_
        refine lv_iadd hx hb d_R_listSymbols_53 ?_
        refine ct_topi (x' := nI (cLt B (r + 1))) (by rw [hm4]; exact nI_add _ _) ?_
        refine lv_istore (lv' := [(4, .int (nI (cLt B (r + 1)))), (3, .int (nI (dis B mm).length)), (0, .ref (y 0)), (1, .int (nI a)), (2, .int (nI b))]) hx hb d_R_listSymbols_54 hl (by decide) rfl (fun ls hl => ?_)
        refine lv_iinc (v := nI (dis B (r + 1)).length) (lv' := [(3, .int (nI (dis B (r + 1)).length)), (4, .int (nI (cLt B (r + 1)))), (0, .ref (y 0)), (1, .int (nI a)), (2, .int (nI b))]) hx hb d_R_listSymbols_56 hl (k := 1) rfl (by rw [hm3, List.length_append]; exact (nI_succ _).symm) (by decide) rfl (fun ls hl => ?_)
        refine lv_goto (tgt := 5) hx hb d_R_listSymbols_59 (by decide) ?_
        refine ih (r + 1) _ _ _ _ _ _ _ _ H _ ls (by omega) (by omega) (fun i x hi => ?_) hS hP hD (lv_sub hl [0, 1, 2, 3, 4] rfl)
        rw [hm3] at hi
        rcases app_at hi with ⟨e9, rfl⟩ | ⟨e9, hi⟩
        · simp only [upd, e9, if_true, and_self]
        · simp only [upd, if_neg e9]; exact hlt i x hi
      · refine lv_iload hx hb d_R_listSymbols_5 (lv_at hl 1 rfl) ?_
        refine lv_iload_n hx hb d_R_listSymbols_7 rfl (lv_at hl 4 rfl) ?_
        refine lv_iload_n hx hb d_R_listSymbols_8 rfl (lv_at hl 3 rfl) ?_
        refine lv_isub hx hb d_R_listSymbols_9 ?_
        refine ct_topi (x' := nI (b - a)) (pk_sub hab) ?_
        refine lv_icmp_ge (tgt := 62) hx hb d_R_listSymbols_10 (by decide) (fun _ => ?_) (fun c9 => absurd (nI_le (by omega) (by omega)) c9)
        refine lv_iload_n hx hb d_R_listSymbols_62 rfl (lv_at hl 0 rfl) ?_
        have hds := dis_same hm6 (show cLt B 65536 = cLt B mm by omega)
        exact W.iret (v := nI (dis B mm).length) hx hb hr (fun t ht hW => ⟨_, rfl, by rw [ht, hds]; exact ⟨rfl, fr.of hS, ⟨_, _, _, _, _, _, hP.sub [0] rfl⟩, lf, tf, hlt, hP.sub [1, 2] rfl⟩⟩) hS.2.2 d_R_listSymbols_63
  exact loop B.length 0 lf tf f0 f1 f2 f3 f4 f5 s.heap [] ls (by omega) (by omega) (fun i x h => by simp [dis_0] at h) hS hP hD (by rw [cLt_0]; exact (lv_sub hl [1, 0, 2, 3, 4] rfl))
set_option maxHeartbeats 4000000 in
set_option maxRecDepth 100000 in
theorem m_R_countAhead {l : Launch} {D : va_G} {cI cJ cS cO : ClassId} {B0 : Nat} {y : Nat → Nat} {sg d : Nat} {xs ws : List Nat} (hy : yI B0 y d) (ok0 : Ok sg d xs ws) {T : List Nat} (hT : T.length ≤ 1000) (hT2 : ∀ x ∈ T, x ≤ 1000) {tf g : Nat → Int32} (htf : ∀ i x, T[i]? = some x → tf i = nI x) : CM l D (tyL cI cJ cS cO) B0 y_R_countAhead c_R_countAhead 5 none (rmK 5 0 0) [.ref (y 0), .int (nI T.length)] (fun H => RL D cJ cS cO y sg d xs ws.length H ∧ va_P D vwCl [(y 5, .inl (cI, 1000, .inl tf))] H ∧ va_P D vwCl [(y 6, .inl (cI, 1001, .inl g))] H) (fun v H0 H1 => v = none ∧ fr (fun q => q = y 6) H0 H1 ∧ ∃ g, (∀ t, t ≤ 1000 → g t = nI (cGe T (t + 1))) ∧ va_P D vwCl [(y 6, .inl (cI, 1001, .inl g))] H1) 0 0 (fun q => q = y 6) := by
  refine cm_of (by decide) (Nat.le_of_ble_eq_true rfl) ?_
  intro p e s m below meth c ls hx hb hr hml hown hts hlocks hnm hE hpre hl
  have hown : s.vm.findClass "LevelRows" = some m.cls := hown
  have hK := hE.1
  have hl : lv_has ls 5 [(0, .ref (y 0)), (1, .int (nI T.length))] := hl
  have hS : va_S (fun q => q = y 6) s.heap s.heap [] := va_S.rf
  have hR0 := hpre.1.1
  have hF0 := hpre.2.1
  have hRd : ∀ (k : Nat) (q : Nat × va_E), (Rw cO y (nI sg) d (nI xs.length) (nI ws.length))[k]? = some q → ¬ q.1 = y 6 := Rw.off hy (by omega) (by omega)
  have hFd : ∀ (k : Nat) (q : Nat × va_E), ([(y 5, .inl (cI, 1000, .inl tf))] : va_W)[k]? = some q → ¬ q.1 = y 6 := by
    intro k q hk
    match k, hk with
    | 0, hk => cases hk; exact hy.ne (by omega) (by omega) (by omega)
    | k + 1, hk => simp at hk
  have hR := hR0
  have hF := hF0
  have hAB : ∀ q : Nat, q = y 6 → B0 ≤ q := fun q h => by rw [h]; exact hy.2 6 (by omega)
  have hP : va_P D vwCl [(y 6, .inl (cI, 1001, .inl (g)))] s.heap := hpre.2.2
  refine lv_aload_n hx hb d_R_countAhead_0 rfl (lv_at hl 0 rfl) ?_
  refine va_get (D := D) (ci := 2) (v := .ref (y 6)) (C := n_R) (T := f_R) (N := 10) hx hb hts in_R hown hK hR 0 rfl rfl 9 (by decide) (hts _ x_91) (fun _ h9 => h9) rfl d_R_countAhead_1 ?_
  refine lv_iconst (v := 0) hx hb d_R_countAhead_4 (by decide) ?_
  refine cm_ret (va_runS (As := [.ref (y 6), .int 0]) (rest := []) ⟨hx, hb, hml, hown, hts⟩ (m_A_fillI (N := 1001) (g := g) (by decide) 0) ⟨ct_cb 2 hts x_420 x_418 x_14 rfl rfl (by decide +kernel) ⟨by decide, by decide⟩, hts _ x_419⟩ ⟨st_blind, fun U hU hW => ⟨rfl, hE.at hS hAB hU hW, by rw [hU]; exact hP⟩⟩ rfl rfl hl.1 rfl (lv_room (Nat.le_of_ble_eq_true rfl)) d_R_countAhead_5 ⟨by decide, by decide⟩) hS (fun q h => h) (fun _ _ h => h.2.1) (fun v H locs hv hS => ?_)
  obtain ⟨rfl, hfr, g9, hg, hP⟩ := hv
  refine W.eq (g2 := F0 m 8 ls []) rfl ?_
  have hP : va_P D vwCl [(y 6, .inl (cI, 1001, .inl (g9)))] H := hP
  have hD : va_D (fun q => q = y 6) [(y 6, .inl (cI, 1001, .inl (g9)))] := va_D.one rfl
  have hR := hR0.rd hS hRd
  have hF := hF0.rd hS hFd
  refine lv_iconst (v := 0) hx hb d_R_countAhead_8 (by decide) ?_
  refine lv_istore_n (lv' := [(2, .int 0), (0, .ref (y 0)), (1, .int (nI T.length))]) hx hb d_R_countAhead_9 rfl hl (by decide) rfl (fun ls hl => ?_)
  have loop2 : ∀ (n : Nat) (g : Nat → Int32) (H : Heap) (locs : List Loc) (ls : Array Slot), (n ≤ 1001) → (∀ t, t < n → g t = nI (cEq T t)) → (∀ t, n ≤ t → t ≤ 1000 → g t = nI (cGe T (t + 1))) → va_S (fun q => q = y 6) s.heap H locs → va_P D vwCl [(y 6, .inl (cI, 1001, .inl (g)))] H → va_D (fun q => q = y 6) [(y 6, .inl (cI, 1001, .inl (g)))] → lv_has ls 5 [(3, .int (nI n - 1)), (2, .int (nI (cGe T n))), (0, .ref (y 0)), (1, .int (nI T.length))] → W p l e (rmK 5 0 0) s m [.ref (y 0), .int (nI T.length)].toArray below meth c H locs (0) (0) (MQ below (stQ (fun v H0 H1 => v = none ∧ fr (fun q => q = y 6) H0 H1 ∧ ∃ g, (∀ t, t ≤ 1000 → g t = nI (cGe T (t + 1))) ∧ va_P D vwCl [(y 6, .inl (cI, 1001, .inl g))] H1)) [.ref (y 0), .int (nI T.length)].toArray s 0 0 (fun q => q = y 6)) (F0 m 42 ls []) := by
    intro n
    induction n with
    | zero =>
      intro g H locs ls hn1 h1 h2 hS hP hD hl
      have hR := hR0.rd hS hRd
      have hF := hF0.rd hS hFd
      refine lv_iload_n hx hb d_R_countAhead_42 rfl (lv_at hl 0 rfl) ?_
      refine lv_if_lt (tgt := 72) hx hb d_R_countAhead_43 (by decide) (fun _ => ?_) (fun c9 => absurd (by decide) c9)
      exact W.vret hx hb hr (fun t ht hW => ⟨_, rfl, by rw [ht]; exact ⟨rfl, fr.of hS, _, (fun t h9 => h2 t (Nat.zero_le t) h9), hP⟩⟩) hS.2.2 d_R_countAhead_72
    | succ n ih =>
      intro g H locs ls hn1 h1 h2 hS hP hD hl
      have hR := hR0.rd hS hRd
      have hF := hF0.rd hS hFd
      rw [show nI (n + 1) - 1 = nI n from nI_pred n] at hl
      refine lv_iload_n hx hb d_R_countAhead_42 rfl (lv_at hl 0 rfl) ?_
      refine lv_if_lt (tgt := 72) hx hb d_R_countAhead_43 (by decide) (fun c9 => absurd c9 (nI_pos (by omega))) (fun _ => ?_)
      refine lv_aload_n hx hb d_R_countAhead_46 rfl (lv_at hl 2 rfl) ?_
      refine va_get (D := D) (ci := 2) (v := .ref (y 6)) (C := n_R) (T := f_R) (N := 10) hx hb hts in_R hown hK hR 0 rfl rfl 9 (by decide) (hts _ x_91) (fun _ h9 => h9) rfl d_R_countAhead_47 ?_
      refine lv_iload_n hx hb d_R_countAhead_50 rfl (lv_at hl 0 rfl) ?_
      refine va_iald hx hb hK hP 0 0 rfl rfl (vp_in_nI (by omega) (by decide)) d_R_countAhead_51 ?_
      refine ct_topi (x' := nI (cEq T n)) (by rw [nI_clamp (by omega)]; exact h1 n (by omega)) ?_
      refine lv_istore (lv' := [(4, .int (nI (cEq T n))), (3, .int (nI n)), (2, .int (nI (cGe T (n + 1)))), (0, .ref (y 0)), (1, .int (nI T.length))]) hx hb d_R_countAhead_52 hl (by decide) rfl (fun ls hl => ?_)
      refine lv_aload_n hx hb d_R_countAhead_54 rfl (lv_at hl 3 rfl) ?_
      refine va_get (D := D) (ci := 2) (v := .ref (y 6)) (C := n_R) (T := f_R) (N := 10) hx hb hts in_R hown hK hR 0 rfl rfl 9 (by decide) (hts _ x_91) (fun _ h9 => h9) rfl d_R_countAhead_55 ?_
      refine lv_iload_n hx hb d_R_countAhead_58 rfl (lv_at hl 1 rfl) ?_
      refine lv_iload_n hx hb d_R_countAhead_59 rfl (lv_at hl 2 rfl) ?_
      refine va_iast hx hb hK hP hD hS 0 0 rfl rfl (vp_in_nI (by omega) (by decide)) d_R_countAhead_60 (fun H locs hP hD hS => ?_)
      rw [nI_clamp (by omega)] at hP hD
      have hP : va_P D vwCl [(y 6, .inl (cI, 1001, .inl (upd g n (nI (cGe T (n + 1))))))] H := hP
      have hD : va_D (fun q => q = y 6) [(y 6, .inl (cI, 1001, .inl (upd g n (nI (cGe T (n + 1))))))] := hD
      have hR := hR0.rd hS hRd
      have hF := hF0.rd hS hFd
      refine lv_iload_n hx hb d_R_countAhead_61 rfl (lv_at hl 2 rfl) ?_
      refine lv_iload hx hb d_R_countAhead_62 (lv_at hl 0 rfl) ?_
      refine lv_iadd hx hb d_R_countAhead_64 ?_
      refine ct_topi (x' := nI (cGe T n)) (by rw [cGe_step T n]; exact nI_add _ _) ?_
      refine lv_istore_n (lv' := [(2, .int (nI (cGe T n))), (4, .int (nI (cEq T n))), (3, .int (nI n)), (0, .ref (y 0)), (1, .int (nI T.length))]) hx hb d_R_countAhead_65 rfl hl (by decide) rfl (fun ls hl => ?_)
      refine lv_iinc (v := nI n - 1) (lv' := [(3, .int (nI n - 1)), (2, .int (nI (cGe T n))), (4, .int (nI (cEq T n))), (0, .ref (y 0)), (1, .int (nI T.length))]) hx hb d_R_countAhead_66 hl (k := 2) rfl (by rw [Int32.sub_eq_add_neg]; rfl) (by decide) rfl (fun ls hl => ?_)
      refine lv_goto (tgt := 42) hx hb d_R_countAhead_69 (by decide) ?_
      refine ih _ H _ ls (by omega) (fun t h9 => ?_) (fun t h8 h9 => ?_) hS hP hD (lv_sub hl [0, 1, 3, 4] rfl)
      · have e9 : t ≠ n := by omega
        simp only [upd, if_neg e9]; exact h1 t (by omega)
      · by_cases e9 : t = n
        · simp only [upd, e9, if_true]
        · simp only [upd, if_neg e9]; exact h2 t (by omega) h9
  have loop : ∀ (n : Nat) (i : Nat) (g : Nat → Int32) (H : Heap) (locs : List Loc) (ls : Array Slot), (i + n = T.length) → (∀ t, t < 1001 → g t = nI (cEq (T.take i) t)) → va_S (fun q => q = y 6) s.heap H locs → va_P D vwCl [(y 6, .inl (cI, 1001, .inl (g)))] H → va_D (fun q => q = y 6) [(y 6, .inl (cI, 1001, .inl (g)))] → lv_has ls 5 [(2, .int (nI i)), (0, .ref (y 0)), (1, .int (nI T.length))] → W p l e (rmK 5 0 0) s m [.ref (y 0), .int (nI T.length)].toArray below meth c H locs (0) (0) (MQ below (stQ (fun v H0 H1 => v = none ∧ fr (fun q => q = y 6) H0 H1 ∧ ∃ g, (∀ t, t ≤ 1000 → g t = nI (cGe T (t + 1))) ∧ va_P D vwCl [(y 6, .inl (cI, 1001, .inl g))] H1)) [.ref (y 0), .int (nI T.length)].toArray s 0 0 (fun q => q = y 6)) (F0 m 10 ls []) := by
    intro n
    induction n with
    | zero =>
      intro i g H locs ls hin hg1 hS hP hD hl
      have hR := hR0.rd hS hRd
      have hF := hF0.rd hS hFd
      have hiT : i = T.length := by omega
      refine lv_iload_n hx hb d_R_countAhead_10 rfl (lv_at hl 0 rfl) ?_
      refine lv_iload_n hx hb d_R_countAhead_11 rfl (lv_at hl 2 rfl) ?_
      refine lv_icmp_ge (tgt := 36) hx hb d_R_countAhead_12 (by decide) (fun _ => ?_) (fun c9 => absurd (nI_le (by omega) (by omega)) c9)
      refine lv_iconst (v := 0) hx hb d_R_countAhead_36 (by decide) ?_
      refine lv_istore_n (lv' := [(2, .int 0), (0, .ref (y 0)), (1, .int (nI T.length))]) hx hb d_R_countAhead_37 rfl hl (by decide) rfl (fun ls hl => ?_)
      refine lv_sipush (v := 1000) hx hb d_R_countAhead_38 (by decide) ?_
      refine lv_istore_n (lv' := [(3, .int 1000), (2, .int 0), (0, .ref (y 0)), (1, .int (nI T.length))]) hx hb d_R_countAhead_41 rfl hl (by decide) rfl (fun ls hl => ?_)
      refine loop2 1001 g H _ ls (by omega) (fun t h9 => ?_) (fun t h8 h9 => by omega) hS hP hD (by rw [cGe_all (fun x h => Nat.lt_succ_of_le (hT2 x h))]; exact (lv_sub hl [0, 1, 2, 3] rfl))
      rw [hg1 t (by omega), hiT, List.take_length]
    | succ n ih =>
      intro i g H locs ls hin hg1 hS hP hD hl
      have hR := hR0.rd hS hRd
      have hF := hF0.rd hS hFd
      obtain ⟨x, hxi⟩ : ∃ x, T[i]? = some x := ⟨T[i], List.getElem?_eq_getElem (by omega)⟩
      have hx2 := hT2 x (List.mem_of_getElem? hxi)
      refine lv_iload_n hx hb d_R_countAhead_10 rfl (lv_at hl 0 rfl) ?_
      refine lv_iload_n hx hb d_R_countAhead_11 rfl (lv_at hl 2 rfl) ?_
      refine lv_icmp_ge (tgt := 36) hx hb d_R_countAhead_12 (by decide) (fun c9 => absurd c9 (nI_ge (by omega) (by omega))) (fun _ => ?_)
      refine lv_aload_n hx hb d_R_countAhead_15 rfl (lv_at hl 1 rfl) ?_
      refine va_get (D := D) (ci := 2) (v := .ref (y 6)) (C := n_R) (T := f_R) (N := 10) hx hb hts in_R hown hK hR 0 rfl rfl 9 (by decide) (hts _ x_91) (fun _ h9 => h9) rfl d_R_countAhead_16 ?_
      refine lv_aload_n hx hb d_R_countAhead_19 rfl (lv_at hl 1 rfl) ?_
      refine va_get (D := D) (ci := 2) (v := .ref (y 5)) (C := n_R) (T := f_R) (N := 10) hx hb hts in_R hown hK hR 0 rfl rfl 8 (by decide) (hts _ x_90) (fun _ h9 => h9) rfl d_R_countAhead_20 ?_
      refine lv_iload_n hx hb d_R_countAhead_23 rfl (lv_at hl 0 rfl) ?_
      refine va_iald hx hb hK hF 0 0 rfl rfl (vp_in_nI (by omega) (by decide)) d_R_countAhead_24 ?_
      refine ct_topi (x' := nI x) (by rw [nI_clamp (by omega)]; exact htf i x hxi) ?_
      refine lv_dup2_11 hx hb d_R_countAhead_25 rfl rfl ?_
      refine va_iald hx hb hK hP 0 0 rfl rfl (vp_in_nI (by omega) (by decide)) d_R_countAhead_26 ?_
      refine ct_topi (x' := nI (cEq (T.take i) x)) (by rw [nI_clamp (by omega)]; exact hg1 x (by omega)) ?_
      refine lv_iconst (v := 1) hx hb d_R_countAhead_27 (by decide) ?_
      refine lv_iadd hx hb d_R_countAhead_28 ?_
      refine ct_topi (x' := nI (cEq (T.take i) x + 1)) ((nI_succ _).symm) ?_
      refine va_iast hx hb hK hP hD hS 0 0 rfl rfl (vp_in_nI (by omega) (by decide)) d_R_countAhead_29 (fun H locs hP hD hS => ?_)
      rw [nI_clamp (by omega)] at hP hD
      have hP : va_P D vwCl [(y 6, .inl (cI, 1001, .inl (upd g x (nI (cEq (T.take i) x + 1)))))] H := hP
      have hD : va_D (fun q => q = y 6) [(y 6, .inl (cI, 1001, .inl (upd g x (nI (cEq (T.take i) x + 1)))))] := hD
      have hR := hR0.rd hS hRd
      have hF := hF0.rd hS hFd
      refine lv_iinc (v := nI (i + 1)) (lv' := [(2, .int (nI (i + 1))), (0, .ref (y 0)), (1, .int (nI T.length))]) hx hb d_R_countAhead_30 hl (k := 0) rfl ((nI_succ i).symm) (by decide) rfl (fun ls hl => ?_)
      refine lv_goto (tgt := 10) hx hb d_R_countAhead_33 (by decide) ?_
      refine ih (i + 1) _ H _ ls (by omega) (fun t h9 => ?_) hS hP hD (lv_sub hl [0, 1, 2] rfl)
      rw [cEq_take hxi t]
      by_cases e9 : t = x
      · subst e9; simp only [upd, if_true]
      · have e8 : ¬ x = t := fun h => e9 h.symm
        simp only [upd, if_neg e9, if_neg e8, Nat.add_zero]; exact hg1 t h9
  exact loop T.length 0 g9 H _ ls (by omega) (fun t h9 => by rw [hg t h9]; rfl) hS hP hD (lv_sub hl [0, 1, 2] rfl)
set_option maxHeartbeats 4000000 in
set_option maxRecDepth 100000 in
theorem m_R_shiftOfG {l : Launch} {D : va_G} {cI cJ cS cO : ClassId} {B0 : Nat} {y : Nat → Nat} {d i : Nat} {sg bu wa : Int32} (hi : i < d) (hd : d ≤ 16) : CM l D (tyL cI cJ cS cO) B0 y_R_shiftOf c_R_shiftOf 2 (some .int) (rmK 0 0 0) [.ref (y 0), .int (nI i)] (fun H => va_P D vwCl (Rw cO y sg d bu wa) H) (fun v H0 H1 => v = some (.int (nI (d - 1 - i))) ∧ H1 = H0) 0 0 (fun _ => False) := by
  refine cm_of (by decide) (Nat.le_of_ble_eq_true rfl) ?_
  intro p e s m below meth c ls hx hb hr hml hown hts hlocks hnm hE hpre hl
  have hown : s.vm.findClass "LevelRows" = some m.cls := hown
  have hK := hE.1
  have hl : lv_has ls 2 [(0, .ref (y 0)), (1, .int (nI i))] := hl
  have hP : va_P D vwCl [(y 0, .inr (2, [.int sg, .ref (y 7), .int bu, .int wa, .ref (y 1), .ref (y 2), .ref (y 3), .ref (y 4), .ref (y 5), .ref (y 6)])), (y 7, .inl (cO, d, .inr (.inr (.inr (.inr (fun i => some (y (8 + 3 * i))))))))] s.heap := hpre
  refine lv_aload_n hx hb d_R_shiftOf_0 rfl (lv_at hl 0 rfl) ?_
  refine va_get (D := D) (ci := 2) (v := .ref (y 7)) (C := n_R) (T := f_R) (N := 10) hx hb hts in_R hown hK hP 0 rfl rfl 1 (by decide) (hts _ x_83) (fun _ h9 => h9) rfl d_R_shiftOf_1 ?_
  refine va_alen hx hb hK hP 1 3 rfl rfl (v := nI (d)) rfl d_R_shiftOf_4 ?_
  refine lv_iconst (v := 1) hx hb d_R_shiftOf_5 (by decide) ?_
  refine lv_isub hx hb d_R_shiftOf_6 ?_
  refine ct_topi (x' := nI (d - 1)) (pk_sub (b := 1) (by omega)) ?_
  refine lv_iload_n hx hb d_R_shiftOf_7 rfl (lv_at hl 1 rfl) ?_
  refine lv_isub hx hb d_R_shiftOf_8 ?_
  refine ct_topi (x' := nI (d - 1 - i)) (pk_sub (by omega)) ?_
  exact W.iret (v := nI (d - 1 - i)) hx hb hr (fun t ht hW => ⟨_, rfl, rfl, ht⟩) (fun _ h => nomatch h) d_R_shiftOf_9
set_option maxHeartbeats 4000000 in
set_option maxRecDepth 100000 in
theorem m_R_storeLevels {l : Launch} {D : va_G} {cI cJ cS cO : ClassId} {B0 : Nat} {y : Nat → Nat} {d : Nat} {sg wa : Int32} {xs : List Nat} (hy : yI B0 y d) (hd16 : d ≤ 16) (hx9 : xs.length ≤ 1000) (hx6 : ∀ x ∈ xs, x < 65536) {rf sf : Nat → Int32} (hrf : ∀ i x, xs[i]? = some x → rf i = nI x) : CM l D (tyL cI cJ cS cO) B0 y_R_storeLevels c_R_storeLevels 2 none (rmK 4 0 0) [.ref (y 0)] (fun H => va_P D vwCl (Rw cO y sg d (nI xs.length) wa) H ∧ va_P D vwCl [(y 1, .inl (cI, 1000, .inl rf)), (y 2, .inl (cI, 1000, .inl sf))] H ∧ ∀ k, k < d → ∃ ja oa z, va_P D vwCl (Lw cJ cS (y (8 + 3 * k)) (y (9 + 3 * k)) (y (10 + 3 * k)) ja oa z) H) (fun v H0 H1 => v = none ∧ fr (fun q => q = y 1 ∨ q = y 2 ∨ ∃ i, 8 ≤ i ∧ i < 8 + 3 * d ∧ q = y i) H0 H1 ∧ (∀ k, k < d → Lk D cJ cS y d xs k H1) ∧ ∃ rf sf, va_P D vwCl [(y 1, .inl (cI, 1000, .inl rf)), (y 2, .inl (cI, 1000, .inl sf))] H1) 0 0 (fun q => q = y 1 ∨ q = y 2 ∨ ∃ i, 8 ≤ i ∧ i < 8 + 3 * d ∧ q = y i) := by
  refine cm_of (by decide) (Nat.le_of_ble_eq_true rfl) ?_
  intro p e s m below meth c ls hx hb hr hml hown hts hlocks hnm hE hpre hl
  have hown : s.vm.findClass "LevelRows" = some m.cls := hown
  have hK := hE.1
  have hl : lv_has ls 2 [(0, .ref (y 0))] := hl
  have hS : va_S (fun q => q = y 1 ∨ q = y 2 ∨ ∃ i, 8 ≤ i ∧ i < 8 + 3 * d ∧ q = y i) s.heap s.heap [] := va_S.rf
  have hR0 := hpre.1
  have hRd : ∀ (k : Nat) (q : Nat × va_E), (Rw cO y sg d (nI xs.length) wa)[k]? = some q → ¬ (q.1 = y 1 ∨ q.1 = y 2 ∨ ∃ i, 8 ≤ i ∧ i < 8 + 3 * d ∧ q.1 = y i) := by
    rintro k q hk (h | h | ⟨i, h1, h2, h⟩)
    · exact Rw.off hy (by omega) (by omega) k q hk h
    · exact Rw.off hy (by omega) (by omega) k q hk h
    · match k, hk with
      | 0, hk => cases hk; exact hy.ne (by omega) h2 (by omega) h
      | 1, hk => cases hk; exact hy.ne (by omega) h2 (by omega) h
      | k + 2, hk => simp at hk
  have hR := hR0
  have hAB : ∀ q : Nat, (q = y 1 ∨ q = y 2 ∨ ∃ i, 8 ≤ i ∧ i < 8 + 3 * d ∧ q = y i) → B0 ≤ q := by
    rintro q (rfl | rfl | ⟨i, h1, h2, rfl⟩)
    · exact hy.2 _ (by omega)
    · exact hy.2 _ (by omega)
    · exact hy.2 _ h2
  have hP : va_P D vwCl [(y 1, .inl (cI, 1000, .inl (rf))), (y 2, .inl (cI, 1000, .inl (sf)))] s.heap := hpre.2.1
  have hD : va_D (fun q => q = y 1 ∨ q = y 2 ∨ ∃ i, 8 ≤ i ∧ i < 8 + 3 * d ∧ q = y i) [(y 1, .inl (cI, 1000, .inl (rf))), (y 2, .inl (cI, 1000, .inl (sf)))] := va_D.two (hy.ne (by omega) (by omega) (by omega)) (Or.inl rfl) (Or.inr (Or.inl rfl))
  refine lv_iconst (v := 0) hx hb d_R_storeLevels_0 (by decide) ?_
  refine lv_istore_n (lv' := [(1, .int 0), (0, .ref (y 0))]) hx hb d_R_storeLevels_1 rfl hl (by decide) rfl (fun ls hl => ?_)
  have loop : ∀ (n : Nat) (i : Nat) (rf : Nat → Int32) (sf : Nat → Int32) (H : Heap) (locs : List Loc) (ls : Array Slot), (i + n = d) → (∀ j x, (wL d xs i)[j]? = some x → rf j = nI x) → (∀ k, k < i → Lk D cJ cS y d xs k H) → (∀ k, i ≤ k → k < d → ∃ ja oa z, va_P D vwCl (Lw cJ cS (y (8 + 3 * k)) (y (9 + 3 * k)) (y (10 + 3 * k)) ja oa z) H) → va_S (fun q => q = y 1 ∨ q = y 2 ∨ ∃ i, 8 ≤ i ∧ i < 8 + 3 * d ∧ q = y i) s.heap H locs → va_P D vwCl [(y 1, .inl (cI, 1000, .inl (rf))), (y 2, .inl (cI, 1000, .inl (sf)))] H → va_D (fun q => q = y 1 ∨ q = y 2 ∨ ∃ i, 8 ≤ i ∧ i < 8 + 3 * d ∧ q = y i) [(y 1, .inl (cI, 1000, .inl (rf))), (y 2, .inl (cI, 1000, .inl (sf)))] → lv_has ls 2 [(1, .int (nI i)), (0, .ref (y 0))] → W p l e (rmK 4 0 0) s m [.ref (y 0)].toArray below meth c H locs (0) (0) (MQ below (stQ (fun v H0 H1 => v = none ∧ fr (fun q => q = y 1 ∨ q = y 2 ∨ ∃ i, 8 ≤ i ∧ i < 8 + 3 * d ∧ q = y i) H0 H1 ∧ (∀ k, k < d → Lk D cJ cS y d xs k H1) ∧ ∃ rf sf, va_P D vwCl [(y 1, .inl (cI, 1000, .inl rf)), (y 2, .inl (cI, 1000, .inl sf))] H1)) [.ref (y 0)].toArray s 0 0 (fun q => q = y 1 ∨ q = y 2 ∨ ∃ i, 8 ≤ i ∧ i < 8 + 3 * d ∧ q = y i)) (F0 m 2 ls []) := by
    intro n
    induction n with
    | zero =>
      intro i rf sf H locs ls hin hrf h2 h3 hS hP hD hl
      have hR := hR0.rd hS hRd
      have hid : i = d := by omega
      refine lv_iload_n hx hb d_R_storeLevels_2 rfl (lv_at hl 0 rfl) ?_
      refine lv_aload_n hx hb d_R_storeLevels_3 rfl (lv_at hl 1 rfl) ?_
      refine va_get (D := D) (ci := 2) (v := .ref (y 7)) (C := n_R) (T := f_R) (N := 10) hx hb hts in_R hown hK hR 0 rfl rfl 1 (by decide) (hts _ x_83) (fun _ h9 => h9) rfl d_R_storeLevels_4 ?_
      refine va_alen hx hb hK hR 1 3 rfl rfl (v := nI (d)) rfl d_R_storeLevels_7 ?_
      refine lv_icmp_ge (tgt := 43) hx hb d_R_storeLevels_8 (by decide) (fun _ => ?_) (fun c9 => absurd (nI_le (by omega) (by omega)) c9)
      subst hid
      exact W.vret hx hb hr (fun t ht hW => ⟨_, rfl, by rw [ht]; exact ⟨rfl, fr.of hS, h2, rf, sf, hP⟩⟩) hS.2.2 d_R_storeLevels_43
    | succ n ih =>
      intro i rf sf H locs ls hin hrf h2 h3 hS hP hD hl
      have hR := hR0.rd hS hRd
      have hid : i < d := by omega
      obtain ⟨ja, oa, z, hL⟩ := h3 i (Nat.le_refl i) hid
      have hlen := wL_len d xs i
      refine lv_iload_n hx hb d_R_storeLevels_2 rfl (lv_at hl 0 rfl) ?_
      refine lv_aload_n hx hb d_R_storeLevels_3 rfl (lv_at hl 1 rfl) ?_
      refine va_get (D := D) (ci := 2) (v := .ref (y 7)) (C := n_R) (T := f_R) (N := 10) hx hb hts in_R hown hK hR 0 rfl rfl 1 (by decide) (hts _ x_83) (fun _ h9 => h9) rfl d_R_storeLevels_4 ?_
      refine va_alen hx hb hK hR 1 3 rfl rfl (v := nI (d)) rfl d_R_storeLevels_7 ?_
      refine lv_icmp_ge (tgt := 43) hx hb d_R_storeLevels_8 (by decide) (fun c9 => absurd c9 (nI_ge (by omega) (by omega))) (fun _ => ?_)
      refine lv_aload_n hx hb d_R_storeLevels_11 rfl (lv_at hl 1 rfl) ?_
      refine va_get (D := D) (ci := 2) (v := .ref (y 7)) (C := n_R) (T := f_R) (N := 10) hx hb hts in_R hown hK hR 0 rfl rfl 1 (by decide) (hts _ x_83) (fun _ h9 => h9) rfl d_R_storeLevels_12 ?_
      refine lv_iload_n hx hb d_R_storeLevels_15 rfl (lv_at hl 0 rfl) ?_
      refine va_aldq hx hb hK hR 1 3 rfl rfl (vp_in_nI (by omega) (by omega)) d_R_storeLevels_16 ?_
      refine ct_topv (v' := .ref (y (8 + 3 * i))) (congrArg (fun j => Value.ref (y (8 + 3 * j))) (nI_clamp (by omega))) ?_
      refine lv_aload_n hx hb d_R_storeLevels_17 rfl (lv_at hl 1 rfl) ?_
      refine va_get (D := D) (ci := 2) (v := .ref (y 1)) (C := n_R) (T := f_R) (N := 10) hx hb hts in_R hown hK hR 0 rfl rfl 4 (by decide) (hts _ x_86) (fun _ h9 => h9) rfl d_R_storeLevels_18 ?_
      refine lv_aload_n hx hb d_R_storeLevels_21 rfl (lv_at hl 1 rfl) ?_
      refine va_get (D := D) (ci := 2) (v := .int (nI xs.length)) (C := n_R) (T := f_R) (N := 10) hx hb hts in_R hown hK hR 0 rfl rfl 2 (by decide) (hts _ x_84) (fun _ h9 => h9) rfl d_R_storeLevels_22 ?_
      refine lv_aload_n hx hb d_R_storeLevels_25 rfl (lv_at hl 1 rfl) ?_
      refine lv_iload_n hx hb d_R_storeLevels_26 rfl (lv_at hl 0 rfl) ?_
      refine cm_read (va_runV (As := [.int (nI i)]) (rest := [.int (nI xs.length), .ref (y 1), .ref (y (8 + 3 * i))]) ⟨hx, hb, hml, hown, hts⟩ (m_R_shiftOfG hid hd16) ⟨ct_cb 1 hts x_150 x_147 x_1 rfl rfl (by decide +kernel) ⟨by decide, by decide⟩, hts _ x_149, hts _ s_R_shiftOf⟩ ⟨st_blind, va_recv hK hR (ci := 2) (q0 := 0) rfl rfl, fun U hU hW => ⟨rfl, hE.at hS hAB hU hW, by rw [hU]; exact hR⟩⟩ rfl rfl hl.1 rfl (lv_room (Nat.le_of_ble_eq_true rfl)) d_R_storeLevels_27 ⟨by decide, by decide⟩) (fun v hv => ?_)
      subst hv
      refine W.eq (g2 := F0 m 30 ls [.int (nI (d - 1 - i)), .int (nI xs.length), .ref (y 1), .ref (y (8 + 3 * i))]) rfl ?_
      refine lv_aload_n hx hb d_R_storeLevels_30 rfl (lv_at hl 1 rfl) ?_
      refine va_get (D := D) (ci := 2) (v := .ref (y 2)) (C := n_R) (T := f_R) (N := 10) hx hb hts in_R hown hK hR 0 rfl rfl 5 (by decide) (hts _ x_87) (fun _ h9 => h9) rfl d_R_storeLevels_31 ?_
      rw [← hlen]
      refine W.eq (g2 := F0 m 34 ls [.ref (y 2), .int (nI (d - 1 - i)), .int (nI (wL d xs i).length), .ref (y 1), .ref (y (8 + 3 * i))]) rfl ?_
      have hD5 : ∀ (e0 e1 e2 e3 e4 : va_E), va_D (fun q => q = y (8 + 3 * i) ∨ q = y (9 + 3 * i) ∨ q = y (10 + 3 * i) ∨ q = y 1 ∨ q = y 2) [(y (8 + 3 * i), e0), (y (9 + 3 * i), e1), (y (10 + 3 * i), e2), (y 1, e3), (y 2, e4)] := fun e0 e1 e2 e3 e4 => va_D.five hy hid (fun j hj => by rcases hj with rfl | rfl | rfl | rfl | rfl <;> simp)
      have hA5 : ∀ q : Nat, (q = y (8 + 3 * i) ∨ q = y (9 + 3 * i) ∨ q = y (10 + 3 * i) ∨ q = y 1 ∨ q = y 2) → (q = y 1 ∨ q = y 2 ∨ ∃ i, 8 ≤ i ∧ i < 8 + 3 * d ∧ q = y i) := by
        rintro q (h | h | h | h | h)
        · exact Or.inr (Or.inr ⟨_, by omega, by omega, h⟩)
        · exact Or.inr (Or.inr ⟨_, by omega, by omega, h⟩)
        · exact Or.inr (Or.inr ⟨_, by omega, by omega, h⟩)
        · exact Or.inl h
        · exact Or.inr (Or.inl h)
      refine cm_ret (va_runV (As := [.ref (y 1), .int (nI (wL d xs i).length), .int (nI (d - 1 - i)), .ref (y 2)]) (rest := []) ⟨hx, hb, hml, hown, hts⟩ (m_L_store (t := wt d i) (L := wL d xs i) (sh := d - 1 - i) (by omega) (fun _ => rfl) (by rw [hlen]; exact hx9) (fun x h => hx6 x ((wL_mem i).mp h)) hrf (hD5 _ _ _ _ _) (by rintro q (rfl | rfl | rfl | rfl | rfl) <;> exact hy.2 _ (by omega))) ⟨ct_cb 4 hts x_154 x_151 x_5 rfl rfl (by decide +kernel) ⟨by decide, by decide⟩, hts _ x_152, hts _ x_153⟩ ⟨st_blind, va_recv hK hL (ci := 0) (q0 := 0) rfl rfl, fun U hU hW => ⟨rfl, hE.at hS hAB hU hW, by rw [hU]; exact hL.app hP⟩⟩ rfl rfl hl.1 rfl (lv_room (Nat.le_of_ble_eq_true rfl)) d_R_storeLevels_34 ⟨by decide, by decide⟩) hS (hA5) (fun _ _ h => h.2.1) (fun v H locs hv hS => ?_)
      obtain ⟨rfl, hfr, ja2, oa2, rf2, sf2, hok, hrf2, hP5⟩ := hv
      refine W.eq (g2 := F0 m 37 ls []) rfl ?_
      refine lv_iinc (v := nI (i + 1)) (lv' := [(1, .int (nI (i + 1))), (0, .ref (y 0))]) hx hb d_R_storeLevels_37 hl (k := 0) rfl ((nI_succ i).symm) (by decide) rfl (fun ls hl => ?_)
      refine lv_goto (tgt := 2) hx hb d_R_storeLevels_40 (by decide) ?_
      refine ih (i + 1) rf2 sf2 H _ ls (by omega) hrf2 (fun k hk => ?_) (fun k hk1 hk2 => ?_) hS (hP5.sub [3, 4] rfl) (va_D.two (hy.ne (by omega) (by omega) (by omega)) (Or.inl rfl) (Or.inr (Or.inl rfl))) (lv_sub hl [0, 1] rfl)
      · by_cases e9 : k = i
        · subst e9; exact ⟨_, _, _, hok, hP5.sub [0, 1, 2] rfl⟩
        · obtain ⟨ja3, oa3, z3, hok3, hP3⟩ := h2 k (by omega)
          exact ⟨_, _, _, hok3, hP3.fr hfr (Lk.off5 hy (by omega) hid e9)⟩
      · obtain ⟨ja3, oa3, z3, hP3⟩ := h3 k (by omega) hk2
        exact ⟨_, _, _, hP3.fr hfr (Lk.off5 hy hk2 hid (by omega))⟩
  exact loop d 0 rf sf s.heap [] ls (by omega) hrf (fun k hk => absurd hk (Nat.not_lt_zero k)) (fun k _ hk => hpre.2.2 k hk) hS hP hD (lv_sub hl [0, 1] rfl)
end
section
/-! THROWING out of LevelRows, and what a row is when nobody works at it. -/
section THR
abbrev nmX : List String := ["java/lang/RuntimeException", "java/lang/Exception"]
abbrev e_I : String := "java/lang/IndexOutOfBoundsException"
theorem tb_I : ∀ w ∈ (vx_atS "LevelRows" 95 e_I nmX).filter goodWord, w ∈ lw_tbl := by decide +kernel
theorem nb_I : ∀ w ∈ (vx_atS "LevelRows" 95 e_I nmX).filter (fun w => !goodWord w), w ∈ lw_tbl ∧ nword w = true ∧ w.onTables = true := by decide +kernel
theorem ot_I : ∀ w ∈ Cond.classLink "LevelRows" 91 e_I :: Cond.initialized e_I :: vx_atS "LevelRows" 95 e_I nmX, vx_ot w = true := by decide +kernel
theorem at_I {args : Array Value} {s : State} (hts : ∀ w ∈ lw_ok, w.before args s = true) (hnw : ∀ w ∈ lw_nw, va_Nw w s) : ∀ w ∈ vx_atS "LevelRows" 95 e_I nmX, w.before args s = true := vx_hat (fun w hw => hts w (gd_in (tb_I w hw) (List.mem_filter.mp hw).2)) (fun w hw => hw) (fun w hw => va_Nw.use (nb_I w hw).2.2 (hnw _ (nw_in (nb_I w hw).1 (nb_I w hw).2.1)))
abbrev e_A : String := "java/lang/IllegalArgumentException"
theorem tb_A : ∀ w ∈ (vx_atS "LevelRows" 71 e_A nmX).filter goodWord, w ∈ lw_tbl := by decide +kernel
theorem nb_A : ∀ w ∈ (vx_atS "LevelRows" 71 e_A nmX).filter (fun w => !goodWord w), w ∈ lw_tbl ∧ nword w = true ∧ w.onTables = true := by decide +kernel
theorem ot_A : ∀ w ∈ Cond.classLink "LevelRows" 67 e_A :: Cond.initialized e_A :: vx_atS "LevelRows" 71 e_A nmX, vx_ot w = true := by decide +kernel
theorem at_A {args : Array Value} {s : State} (hts : ∀ w ∈ lw_ok, w.before args s = true) (hnw : ∀ w ∈ lw_nw, va_Nw w s) : ∀ w ∈ vx_atS "LevelRows" 71 e_A nmX, w.before args s = true := vx_hat (fun w hw => hts w (gd_in (tb_A w hw) (List.mem_filter.mp hw).2)) (fun w hw => hw) (fun w hw => va_Nw.use (nb_A w hw).2.2 (hnw _ (nw_in (nb_A w hw).1 (nb_A w hw).2.1)))
abbrev e_U : String := "java/lang/UnsupportedOperationException"
theorem tb_U : ∀ w ∈ (vx_atS "LevelRows" 84 e_U nmX).filter goodWord, w ∈ lw_tbl := by decide +kernel
theorem nb_U : ∀ w ∈ (vx_atS "LevelRows" 84 e_U nmX).filter (fun w => !goodWord w), w ∈ lw_tbl ∧ nword w = true ∧ w.onTables = true := by decide +kernel
theorem ot_U : ∀ w ∈ Cond.classLink "LevelRows" 80 e_U :: Cond.initialized e_U :: vx_atS "LevelRows" 84 e_U nmX, vx_ot w = true := by decide +kernel
theorem at_U {args : Array Value} {s : State} (hts : ∀ w ∈ lw_ok, w.before args s = true) (hnw : ∀ w ∈ lw_nw, va_Nw w s) : ∀ w ∈ vx_atS "LevelRows" 84 e_U nmX, w.before args s = true := vx_hat (fun w hw => hts w (gd_in (tb_U w hw) (List.mem_filter.mp hw).2)) (fun w hw => hw) (fun w hw => va_Nw.use (nb_U w hw).2.2 (hnw _ (nw_in (nb_U w hw).1 (nb_U w hw).2.1)))
variable {p : Program} {l : Launch} {e : Env} {R : Room} {s : State} {m : MethodId} {args : Array Value} {below : List Frame} {meth : Method} {c : Code} {H : Heap} {locs : List Loc} {cells slots mc ms : Nat} {free : Nat → Prop}
variable {D : va_G} {tys : List (ClassId × FieldType)} {B0 pc : Nat} {ls : Array Slot} {rest : List Value} {A : Nat → Prop}
theorem ct_thr {cc : ByteArray} {cls text : String} {ik is ic : Nat} {post : Option Value → Heap → Heap → Prop} {px : String → Heap → Heap → Prop} (hx : p.tables.exec = Jvm.exec) (hb : c.code = cc) (hl9 : l.stackTraces = false) (hown : s.vm.findClass "LevelRows" = some m.cls) (hts : ∀ w ∈ lw_ok, w.before args s = true) (hE : Ev D tys B0 s) (hS : va_S A s.heap H locs) (hAB : ∀ q, A q → B0 ≤ q) (hsz : ls.size = c.maxLocals)
    (hfit : Bundle.fit cls = true) (hat : ∀ w ∈ vx_atS "LevelRows" ic cls nmX, w.before args s = true) (hot : ∀ w ∈ Cond.classLink "LevelRows" ik cls :: Cond.initialized cls :: vx_atS "LevelRows" ic cls nmX, vx_ot w = true) (hk : Cond.classLink "LevelRows" ik cls ∈ lw_ok) (hini : Cond.initialized cls ∈ lw_ok) (hstr : Cond.stringRef "LevelRows" is text ∈ lw_nw)
    (d0 : decode cc pc = .ok (.new ik, 3)) (d3 : decode cc (pc + 3) = .ok (.dup, 1)) (d4 : decode cc (pc + 4) = .ok (.ldc is, 2)) (d6 : decode cc (pc + 6) = .ok (.invokespecial ic, 3)) (d9 : decode cc (pc + 9) = .ok (.athrow, 1)) (hout : ∀ x ∈ c.exceptionTable.toList, False)
    (hf1 : 5 < R.frames) (hf2 : (rest.map fun v => v.category).sum + 82 ≤ R.locals) (hf3 : cells + 1 ≤ R.cells) (hf4 : slots + 6 ≤ R.slots) (hlocks : meth.locks = false) (hpx : ∀ H1, fr (fun _ => False) H H1 → px cls s.heap H1) (hfl : ∀ z ∈ locs, free z.base) (hc : cells + 1 ≤ mc) (hs : slots + 6 ≤ ms) :
    W p l e R s m args below meth c H locs cells slots (vx_MQ below (stQ post) (stX px) args s mc ms free) (F0 m pc ls rest) := by
  obtain ⟨sa, hsa⟩ := hE.str hstr hown
  have hS2 : va_S (fun q => B0 ≤ q) s.heap H locs := ⟨hS.1, fun q h1 h2 => hS.2.1 q h1 (fun z => h2 (hAB q z)), fun z hz => hAB _ (hS.2.2 z hz)⟩
  exact vx_throwS (names := nmX) hx hb hl9 hown hfit (by decide +kernel) (hts _ hk) (hts _ hini) hsa hat hot hE.2.2.1 hE.2.2.2.1 hS2 hsz d0 d3 d4 d6 d9 (fun x hx => (hout x hx).elim) hf1 hf2 hf3 hf4 hlocks (fun t _ h2 h3 => hpx t.heap ⟨h2, fun q hq _ => h3 q hq⟩) hfl hc hs
end THR
section LRZ
def LRx (D : va_G) (cI cJ cS cO : ClassId) (y : Nat → Nat) (sg d : Nat) (xs ws : List Nat) (H : Heap) : Prop :=
  RL D cJ cS cO y sg d xs ws.length H ∧ PP D (y 3) H ∧ (∃ lf tf, va_P D vwCl [(y 4, .inl (cI, 1000, .inl lf)), (y 5, .inl (cI, 1000, .inl tf))] H) ∧ (∃ g, va_P D vwCl [(y 6, .inl (cI, 1001, .inl g))] H) ∧ ∃ rf sf, (∀ i x, ws[i]? = some x → rf (xs.length + i) = nI x) ∧ va_P D vwCl [(y 1, .inl (cI, 1000, .inl rf)), (y 2, .inl (cI, 1000, .inl sf))] H
theorem va_P.off1 {a b : Nat} {e0 : va_E} {A : Nat → Prop} (h : ¬ A a) (k : Nat) (q : Nat × va_E) (hk : ([(a, e0)] : va_W)[k]? = some q) : ¬ A q.1 := by
  match k, hk with
  | 0, hk => cases hk; exact h
  | k + 1, hk => simp at hk
theorem va_P.off2 {a b : Nat} {e0 e1 : va_E} {A : Nat → Prop} (h : ¬ A a) (h' : ¬ A b) (k : Nat) (q : Nat × va_E) (hk : ([(a, e0), (b, e1)] : va_W)[k]? = some q) : ¬ A q.1 := by
  match k, hk with
  | 0, hk => cases hk; exact h
  | 1, hk => cases hk; exact h'
  | k + 2, hk => simp at hk
/-- a change that meets none of its cells, or its scratch cells alone -/
theorem rl_kept {D : va_G} {cJ cS cO : ClassId} {y : Nat → Nat} {sg d wa : Nat} {xs : List Nat} {H0 H1 : Heap} {A : Nat → Prop} (h : RL D cJ cS cO y sg d xs wa H0) (hf : fr A H0 H1) (h0 : ¬ A (y 0)) (h7 : ¬ A (y 7)) (hA : ∀ i, 8 ≤ i → i < 8 + 3 * d → ¬ A (y i)) : RL D cJ cS cO y sg d xs wa H1 := by
  refine ⟨h.1.fr hf (va_P.off2 (a := y 0) (b := y 7) h0 h7), fun k hk => ?_⟩
  obtain ⟨ja, oa, z, ok, hP⟩ := h.2 k hk
  refine ⟨ja, oa, z, ok, hP.fr hf (fun j q hj => ?_)⟩
  match j, hj with
  | 0, hj => cases hj; exact hA _ (by omega) (by omega)
  | 1, hj => cases hj; exact hA _ (by omega) (by omega)
  | 2, hj => cases hj; exact hA _ (by omega) (by omega)
  | j + 3, hj => simp at hj
theorem lrx_kept {D : va_G} {cI cJ cS cO : ClassId} {y : Nat → Nat} {sg d : Nat} {xs ws : List Nat} {H0 H1 : Heap} {A : Nat → Prop} (h : LRx D cI cJ cS cO y sg d xs ws H0) (hf : fr A H0 H1) (hA : ∀ i, i < 8 + 3 * d → ¬ A (y i)) : LRx D cI cJ cS cO y sg d xs ws H1 := by
  obtain ⟨h1, ⟨f0, f1, f2, f3, f4, f5, h2⟩, ⟨lf, tf, h3⟩, ⟨g, h4⟩, rf, sf, h5, h6⟩ := h
  exact ⟨rl_kept h1 hf (hA 0 (by omega)) (hA 7 (by omega)) (fun i _ h => hA i h), ⟨f0, f1, f2, f3, f4, f5, h2.fr hf (va_P.off1 (b := 0) (hA 3 (by omega)))⟩, ⟨lf, tf, h3.fr hf (va_P.off2 (hA 4 (by omega)) (hA 5 (by omega)))⟩, ⟨g, h4.fr hf (va_P.off1 (b := 0) (hA 6 (by omega)))⟩, rf, sf, h5, h6.fr hf (va_P.off2 (hA 1 (by omega)) (hA 2 (by omega)))⟩
/-- nothing of it is written but the part -/
theorem lrx_part {D : va_G} {cI cJ cS cO : ClassId} {y : Nat → Nat} {sg d B0 : Nat} {xs ws : List Nat} {H0 H1 : Heap} (hy : yI B0 y d) (h : LRx D cI cJ cS cO y sg d xs ws H0) (hf : fr (fun q => q = y 3) H0 H1) (hp : PP D (y 3) H1) : LRx D cI cJ cS cO y sg d xs ws H1 := by
  obtain ⟨h1, -, ⟨lf, tf, h3⟩, ⟨g, h4⟩, rf, sf, h5, h6⟩ := h
  have hn : ∀ i, i < 8 + 3 * d → i ≠ 3 → ¬ y i = y 3 := fun i h h' => hy.ne h (by omega) h'
  exact ⟨rl_kept h1 hf (hn 0 (by omega) (by omega)) (hn 7 (by omega) (by omega)) (fun i h8 h => hn i h (by omega)), hp, ⟨lf, tf, h3.fr hf (va_P.off2 (A := fun q => q = y 3) (hn 4 (by omega) (by omega)) (hn 5 (by omega) (by omega)))⟩, ⟨g, h4.fr hf (va_P.off1 (b := 0) (A := fun q => q = y 3) (hn 6 (by omega) (by omega)))⟩, rf, sf, h5, h6.fr hf (va_P.off2 (A := fun q => q = y 3) (hn 1 (by omega) (by omega)) (hn 2 (by omega) (by omega)))⟩
/-- the cells that a question may write -/
abbrev AQ (y : Nat → Nat) : Nat → Prop := fun q => q = y 3 ∨ q = y 4 ∨ q = y 5 ∨ q = y 6
def isS (sg : Nat) (x : Int32) : Prop := ¬ x < 0 ∧ x < nI sg
def isPt (n : Nat) (a b : Int32) : Prop := ¬ a < 0 ∧ ¬ b < a ∧ ¬ nI n < b
theorem isPt.of {n : Nat} {a b : Int32} (hn : n ≤ 1000) (h : isPt n a b) : ∃ i j, a = nI i ∧ b = nI j ∧ i ≤ j ∧ j ≤ n := by
  obtain ⟨i, hi, rfl⟩ := nI_of h.1
  have h2 : nI i ≤ b := Int32.not_lt.mp h.2.1
  have hb0 : ¬ b < 0 := fun z => h.1 (Int32.lt_of_le_of_lt h2 z)
  obtain ⟨j, hj, rfl⟩ := nI_of hb0
  have h3 : nI j ≤ nI n := Int32.not_lt.mp h.2.2
  exact ⟨i, j, rfl, rfl, (nI_leI hi hj).mp h2, (nI_leI hj (by omega)).mp h3⟩
theorem isS.of {sg : Nat} {x : Int32} (hs : sg ≤ 65536) (h : isS sg x) : ∃ i, x = nI i ∧ i < sg := by
  obtain ⟨i, hi, rfl⟩ := nI_of h.1
  exact ⟨i, rfl, (nI_ltI hi (by omega)).mp h.2⟩
end LRZ
section PXI
abbrev pxI (cond : Prop) : String → Heap → Heap → Prop := fun E H0 H1 => E = e_I ∧ ¬ cond ∧ fr (fun _ => False) H0 H1
end PXI
section CST
variable {p : Program} {l : Launch} {e : Env} {R : Room} {s : State} {m : MethodId} {args : Array Value} {below : List Frame} {meth : Method} {c : Code} {H : Heap} {locs : List Loc} {cells slots : Nat} {Q : State → Prop} {pc : Nat} {ls : Array Slot}
theorem ct_st {st st' : List Value} (h : st = st') (k : W p l e R s m args below meth c H locs cells slots Q (F0 m pc ls st')) : W p l e R s m args below meth c H locs cells slots Q (F0 m pc ls st) := by rw [h]; exact k
end CST
end
section
/-! LevelRows: the checks. -/
set_option maxHeartbeats 4000000 in
set_option maxRecDepth 100000 in
theorem m_R_checkSymbol {l : Launch} {D : va_G} {cI cJ cS cO : ClassId} {B0 : Nat} (hl9 : l.stackTraces = false) {y : Nat → Nat} {d : Nat} {sg : Nat} {bu wa : Int32} (x : Int32) : CX l D (tyL cI cJ cS cO) B0 y_R_checkSymbol c_R_checkSymbol 2 none (rmK 6 1 6) [.ref (y 0), .int x] (fun H => va_P D vwCl (Rw cO y (nI sg) d bu wa) H) (fun v H0 H1 => v = none ∧ H1 = H0 ∧ isS sg x) (pxI (isS sg x)) 1 6 (fun _ => False) := by
  refine cx_of (by decide) (Nat.le_of_ble_eq_true rfl) ?_
  intro p e s m below meth c ls hx hb hr hml hown hts hlocks hout hE hpre hl
  have hown : s.vm.findClass "LevelRows" = some m.cls := hown
  have hK := hE.1
  have hl : lv_has ls 2 [(0, .ref (y 0)), (1, .int x)] := hl
  have hP : va_P D vwCl [(y 0, .inr (2, [.int (nI sg), .ref (y 7), .int bu, .int wa, .ref (y 1), .ref (y 2), .ref (y 3), .ref (y 4), .ref (y 5), .ref (y 6)])), (y 7, .inl (cO, d, .inr (.inr (.inr (.inr (fun i => some (y (8 + 3 * i))))))))] s.heap := hpre
  have hS : va_S (fun _ => False) s.heap s.heap [] := va_S.rf
  have hAB : ∀ q : Nat, (fun _ : Nat => False) q → B0 ≤ q := fun _ h => h.elim
  refine lv_iload_n hx hb d_R_checkSymbol_0 rfl (lv_at hl 1 rfl) ?_
  refine lv_if_lt (tgt := 12) hx hb d_R_checkSymbol_1 (by decide) (fun h1 => ?_) (fun h1 => ?_)
  · exact ct_thr hx hb hl9 hown hts hE hS hAB (by rw [hml]; exact hl.1) (by decide +kernel) (at_I hts hE.2.1) ot_I x_190 x_10 x_231 d_R_checkSymbol_12 d_R_checkSymbol_15 d_R_checkSymbol_16 d_R_checkSymbol_18 d_R_checkSymbol_21 hout (by decide) (Nat.le_of_ble_eq_true rfl) (by decide) (by decide) hlocks (fun H1 hf => ⟨rfl, fun h => h.1 h1, hf⟩) hS.2.2 (by decide) (by decide)
  · refine lv_iload_n hx hb d_R_checkSymbol_4 rfl (lv_at hl 1 rfl) ?_
    refine lv_aload_n hx hb d_R_checkSymbol_5 rfl (lv_at hl 0 rfl) ?_
    refine va_get (D := D) (ci := 2) (v := .int (nI sg)) (C := n_R) (T := f_R) (N := 10) hx hb hts in_R hown hK hP 0 rfl rfl 0 (by decide) (hts _ x_82) (fun _ h9 => h9) rfl d_R_checkSymbol_6 ?_
    refine lv_icmp_lt (tgt := 22) hx hb d_R_checkSymbol_9 (by decide) (fun h2 => ?_) (fun h2 => ?_)
    · refine vx_ret (W.widen (k := 1) (n := 6) (by decide) (by decide) ?_)
      exact W.vret hx hb hr (fun t ht hW => ⟨_, rfl, rfl, ht, h1, h2⟩) (fun _ h => nomatch h) d_R_checkSymbol_22
    · exact ct_thr hx hb hl9 hown hts hE hS hAB (by rw [hml]; exact hl.1) (by decide +kernel) (at_I hts hE.2.1) ot_I x_190 x_10 x_231 d_R_checkSymbol_12 d_R_checkSymbol_15 d_R_checkSymbol_16 d_R_checkSymbol_18 d_R_checkSymbol_21 hout (by decide) (Nat.le_of_ble_eq_true rfl) (by decide) (by decide) hlocks (fun H1 hf => ⟨rfl, fun h => h2 h.2, hf⟩) hS.2.2 (by decide) (by decide)
set_option maxHeartbeats 4000000 in
set_option maxRecDepth 100000 in
theorem m_R_checkPart {l : Launch} {D : va_G} {cI cJ cS cO : ClassId} {B0 : Nat} (hl9 : l.stackTraces = false) {y : Nat → Nat} {d : Nat} {n : Nat} {sg wa : Int32} (x z : Int32) : CX l D (tyL cI cJ cS cO) B0 y_R_checkPart c_R_checkPart 3 none (rmK 6 1 6) [.ref (y 0), .int x, .int z] (fun H => va_P D vwCl (Rw cO y sg d (nI n) wa) H) (fun v H0 H1 => v = none ∧ H1 = H0 ∧ isPt n x z) (pxI (isPt n x z)) 1 6 (fun _ => False) := by
  refine cx_of (by decide) (Nat.le_of_ble_eq_true rfl) ?_
  intro p e s m below meth c ls hx hb hr hml hown hts hlocks hout hE hpre hl
  have hown : s.vm.findClass "LevelRows" = some m.cls := hown
  have hK := hE.1
  have hl : lv_has ls 3 [(0, .ref (y 0)), (1, .int x), (2, .int z)] := hl
  have hP : va_P D vwCl [(y 0, .inr (2, [.int sg, .ref (y 7), .int (nI n), .int wa, .ref (y 1), .ref (y 2), .ref (y 3), .ref (y 4), .ref (y 5), .ref (y 6)])), (y 7, .inl (cO, d, .inr (.inr (.inr (.inr (fun i => some (y (8 + 3 * i))))))))] s.heap := hpre
  have hS : va_S (fun _ => False) s.heap s.heap [] := va_S.rf
  have hAB : ∀ q : Nat, (fun _ : Nat => False) q → B0 ≤ q := fun _ h => h.elim
  refine lv_iload_n hx hb d_R_checkPart_0 rfl (lv_at hl 1 rfl) ?_
  refine lv_if_lt (tgt := 17) hx hb d_R_checkPart_1 (by decide) (fun h1 => ?_) (fun h1 => ?_)
  · exact ct_thr hx hb hl9 hown hts hE hS hAB (by rw [hml]; exact hl.1) (by decide +kernel) (at_I hts hE.2.1) ot_I x_190 x_10 x_309 d_R_checkPart_17 d_R_checkPart_20 d_R_checkPart_21 d_R_checkPart_23 d_R_checkPart_26 hout (by decide) (Nat.le_of_ble_eq_true rfl) (by decide) (by decide) hlocks (fun H1 hf => ⟨rfl, fun h => h.1 h1, hf⟩) hS.2.2 (by decide) (by decide)
  · refine lv_iload_n hx hb d_R_checkPart_4 rfl (lv_at hl 2 rfl) ?_
    refine lv_iload_n hx hb d_R_checkPart_5 rfl (lv_at hl 1 rfl) ?_
    refine lv_icmp_lt (tgt := 17) hx hb d_R_checkPart_6 (by decide) (fun h2 => ?_) (fun h2 => ?_)
    · exact ct_thr hx hb hl9 hown hts hE hS hAB (by rw [hml]; exact hl.1) (by decide +kernel) (at_I hts hE.2.1) ot_I x_190 x_10 x_309 d_R_checkPart_17 d_R_checkPart_20 d_R_checkPart_21 d_R_checkPart_23 d_R_checkPart_26 hout (by decide) (Nat.le_of_ble_eq_true rfl) (by decide) (by decide) hlocks (fun H1 hf => ⟨rfl, fun h => h.2.1 h2, hf⟩) hS.2.2 (by decide) (by decide)
    · refine lv_iload_n hx hb d_R_checkPart_9 rfl (lv_at hl 2 rfl) ?_
      refine lv_aload_n hx hb d_R_checkPart_10 rfl (lv_at hl 0 rfl) ?_
      refine va_get (D := D) (ci := 2) (v := .int (nI n)) (C := n_R) (T := f_R) (N := 10) hx hb hts in_R hown hK hP 0 rfl rfl 2 (by decide) (hts _ x_84) (fun _ h9 => h9) rfl d_R_checkPart_11 ?_
      refine lv_icmp_le (tgt := 27) hx hb d_R_checkPart_14 (by decide) (fun h3 => ?_) (fun h3 => ?_)
      · refine vx_ret (W.widen (k := 1) (n := 6) (by decide) (by decide) ?_)
        exact W.vret hx hb hr (fun t ht hW => ⟨_, rfl, rfl, ht, h1, h2, Int32.not_lt.mpr h3⟩) (fun _ h => nomatch h) d_R_checkPart_27
      · exact ct_thr hx hb hl9 hown hts hE hS hAB (by rw [hml]; exact hl.1) (by decide +kernel) (at_I hts hE.2.1) ot_I x_190 x_10 x_309 d_R_checkPart_17 d_R_checkPart_20 d_R_checkPart_21 d_R_checkPart_23 d_R_checkPart_26 hout (by decide) (Nat.le_of_ble_eq_true rfl) (by decide) (by decide) hlocks (fun H1 hf => ⟨rfl, fun h => h3 (Int32.not_lt.mp h.2.2), hf⟩) hS.2.2 (by decide) (by decide)
set_option maxHeartbeats 4000000 in
set_option maxRecDepth 100000 in
theorem m_R_checkNotNegative {l : Launch} {D : va_G} {cI cJ cS cO : ClassId} {B0 : Nat} (hl9 : l.stackTraces = false) (x : Int32) : CX l D (tyL cI cJ cS cO) B0 y_R_checkNotNegative c_R_checkNotNegative 1 none (rmK 6 1 6) [.int x] (fun _ => True) (fun v H0 H1 => v = none ∧ H1 = H0 ∧ ¬ x < 0) (pxI (¬ x < 0)) 1 6 (fun _ => False) := by
  refine cx_of (by decide) (Nat.le_of_ble_eq_true rfl) ?_
  intro p e s m below meth c ls hx hb hr hml hown hts hlocks hout hE hpre hl
  have hown : s.vm.findClass "LevelRows" = some m.cls := hown
  have hK := hE.1
  have hl : lv_has ls 1 [(0, .int x)] := hl
  have hS : va_S (fun _ => False) s.heap s.heap [] := va_S.rf
  have hAB : ∀ q : Nat, (fun _ : Nat => False) q → B0 ≤ q := fun _ h => h.elim
  refine lv_iload_n hx hb d_R_checkNotNegative_0 rfl (lv_at hl 0 rfl) ?_
  refine lv_if_ge (tgt := 14) hx hb d_R_checkNotNegative_1 (by decide) (fun h1 => ?_) (fun h1 => ?_)
  · refine vx_ret (W.widen (k := 1) (n := 6) (by decide) (by decide) ?_)
    exact W.vret hx hb hr (fun t ht hW => ⟨_, rfl, rfl, ht, Int32.not_lt.mpr h1⟩) (fun _ h => nomatch h) d_R_checkNotNegative_14
  · exact ct_thr hx hb hl9 hown hts hE hS hAB (by rw [hml]; exact hl.1) (by decide +kernel) (at_I hts hE.2.1) ot_I x_190 x_10 x_341 d_R_checkNotNegative_4 d_R_checkNotNegative_7 d_R_checkNotNegative_8 d_R_checkNotNegative_10 d_R_checkNotNegative_13 hout (by decide) (Nat.le_of_ble_eq_true rfl) (by decide) (by decide) hlocks (fun H1 hf => ⟨rfl, fun h => h1 (Int32.not_lt.mp h), hf⟩) hS.2.2 (by decide) (by decide)
end
section
/-! WHAT EACH QUESTION ANSWERS, for class and reference alike. -/
section ASK
abbrev cn (x : Int32) : Nat := x.toNatClampNeg
abbrev bk (xs : List Nat) (a b : Int32) : List Nat := (xs.drop (cn a)).take (cn b - cn a)
def aSel (xs : List Nat) (x k v : Int32) : Prop := (∃ i, xs[i]? = some (cn x) ∧ cEq (xs.take i) (cn x) = cn k ∧ v = nI i) ∨ (cEq xs (cn x) ≤ cn k ∧ v = -1)
def aQua (B : List Nat) (k v : Int32) : Prop := ∃ r, kth B (cn k) r ∧ v = nI r
def aBtw (B : List Nat) (lo hi : Int32) : Int32 := if lo < hi then nI (cLt B (cn hi)) - nI (cLt B (cn lo)) else 0
def aBel (B : List Nat) (x v : Int32) : Prop := (∃ r, r ∈ B ∧ r < cn x ∧ (∀ z ∈ B, z < cn x → z ≤ r) ∧ v = nI r) ∨ ((∀ z ∈ B, ¬ z < cn x) ∧ v = -1)
def aAbv (B : List Nat) (x v : Int32) : Prop := (∃ r, r ∈ B ∧ cn x ≤ r ∧ (∀ z ∈ B, cn x ≤ z → r ≤ z) ∧ v = nI r) ∨ ((∀ z ∈ B, ¬ cn x ≤ z) ∧ v = -1)
def aFrq (S T : List Nat) (k v : Int32) : Prop := (∃ i s t, S[i]? = some s ∧ T[i]? = some t ∧ cGe T (t + 1) + cEq (T.take i) t = cn k ∧ (∀ j t', j < i → T[j]? = some t' → cGe T (t' + 1) + cEq (T.take j) t' ≠ cn k) ∧ v = nI s) ∨ ((∀ j t', T[j]? = some t' → cGe T (t' + 1) + cEq (T.take j) t' ≠ cn k) ∧ v = -1)
theorem cEq_take_le {xs : List Nat} {s i j : Nat} (h : i ≤ j) : cEq (xs.take i) s ≤ cEq (xs.take j) s := (List.Sublist.filter _ (List.take_sublist_take_left h)).length_le
theorem cEq_take_lt {xs : List Nat} {s i j : Nat} (hi : xs[i]? = some s) (h : i < j) : cEq (xs.take i) s < cEq (xs.take j) s := by
  have h1 := cEq_take hi s
  rw [if_pos rfl] at h1
  have h2 := cEq_take_le (xs := xs) (s := s) (show i + 1 ≤ j from h)
  omega
theorem cEq_take_all {xs : List Nat} {s i : Nat} (hi : xs[i]? = some s) : cEq (xs.take i) s < cEq xs s := by
  have h := cEq_take_lt hi (List.getElem?_eq_some_iff.mp hi).1
  rwa [List.take_length] at h
theorem aSel.uniq {xs : List Nat} {x k v w : Int32} (h : aSel xs x k v) (h' : aSel xs x k w) : v = w := by
  rcases h with ⟨i, h1, h2, rfl⟩ | ⟨h1, rfl⟩ <;> rcases h' with ⟨j, g1, g2, rfl⟩ | ⟨g1, rfl⟩
  · rcases Nat.lt_trichotomy i j with h | h | h
    · have := cEq_take_lt h1 h; omega
    · rw [h]
    · have := cEq_take_lt g1 h; omega
  · have := cEq_take_all h1; omega
  · have := cEq_take_all g1; omega
  · rfl
theorem aQua.uniq {B : List Nat} {k v w : Int32} (h : aQua B k v) (h' : aQua B k w) : v = w := by
  obtain ⟨r, h1, rfl⟩ := h
  obtain ⟨r', h2, rfl⟩ := h'
  rw [h1.uniq h2]
theorem aBel.uniq {B : List Nat} {x v w : Int32} (h : aBel B x v) (h' : aBel B x w) : v = w := by
  rcases h with ⟨r, h1, h2, h3, rfl⟩ | ⟨h1, rfl⟩ <;> rcases h' with ⟨r', g1, g2, g3, rfl⟩ | ⟨g1, rfl⟩
  · rw [Nat.le_antisymm (g3 r h1 h2) (h3 r' g1 g2)]
  · exact absurd h2 (g1 r h1)
  · exact absurd g2 (h1 r' g1)
  · rfl
theorem aAbv.uniq {B : List Nat} {x v w : Int32} (h : aAbv B x v) (h' : aAbv B x w) : v = w := by
  rcases h with ⟨r, h1, h2, h3, rfl⟩ | ⟨h1, rfl⟩ <;> rcases h' with ⟨r', g1, g2, g3, rfl⟩ | ⟨g1, rfl⟩
  · rw [Nat.le_antisymm (h3 r' g1 g2) (g3 r h1 h2)]
  · exact absurd h2 (g1 r h1)
  · exact absurd g2 (h1 r' g1)
  · rfl
theorem aFrq.uniq {S T : List Nat} {k v w : Int32} (h : aFrq S T k v) (h' : aFrq S T k w) : v = w := by
  rcases h with ⟨i, s, t, h1, h2, h3, h4, rfl⟩ | ⟨h1, rfl⟩ <;> rcases h' with ⟨j, s', t', g1, g2, g3, g4, rfl⟩ | ⟨g1, rfl⟩
  · rcases Nat.lt_trichotomy i j with h | h | h
    · exact absurd h3 (g4 i t h h2)
    · subst h
      rw [h1] at g1
      cases g1
      rfl
    · exact absurd g3 (h4 j t' h g2)
  · exact absurd h3 (g1 i t h2)
  · exact absurd g3 (h1 j t' g2)
  · rfl
theorem cLt_mem {B : List Nat} {x v : Nat} (hx : x ∈ B) (h : x < v) : cLt B x < cLt B v := by
  have h1 := cLt_succ B x
  have h2 := cLt_mono B (show x + 1 ≤ v from h)
  have h3 := cEq_pos.mpr hx
  omega
theorem aBel_some {B : List Nat} {x : Int32} {r : Nat} (h0 : 0 < cLt B (cn x)) (h : kth B (cLt B (cn x) - 1) r) : aBel B x (nI r) := by
  refine Or.inl ⟨r, h.mem, ?_, fun z hz hzx => ?_, rfl⟩
  · rcases Nat.lt_or_ge r (cn x) with h1 | h1
    · exact h1
    · have h2 := cLt_mono B h1
      have h3 := h.1
      omega
  · rcases Nat.lt_or_ge r z with h1 | h1
    · have h2 := cLt_mono B (show r + 1 ≤ z from h1)
      have h3 := cLt_mem hz hzx
      have h4 := h.2
      omega
    · exact h1
theorem aBel_none {B : List Nat} {x : Int32} (h0 : cLt B (cn x) = 0) : aBel B x (-1) :=
  Or.inr ⟨fun z hz hzx => by have := cLt_mem hz hzx; omega, rfl⟩
theorem aAbv_some {B : List Nat} {x : Int32} {r : Nat} (h : kth B (cLt B (cn x)) r) : aAbv B x (nI r) := by
  refine Or.inl ⟨r, h.mem, (kth_next h).1, fun z hz hzx => ?_, rfl⟩
  rcases Nat.lt_or_ge z r with h1 | h1
  · have h2 := cLt_mem hz h1
    have h3 := cLt_mono B hzx
    have h4 := h.1
    omega
  · exact h1
theorem aAbv_none {B : List Nat} {x : Int32} (h0 : cLt B (cn x) = B.length) : aAbv B x (-1) :=
  Or.inr ⟨fun z hz hzx => by
    have h1 := cLt_succ B z
    have h2 := cEq_pos.mpr hz
    have h3 := cLt_mono B hzx
    have h4 := cLt_le B (z + 1)
    omega, rfl⟩
theorem kth_of_lt {B : List Nat} {k : Nat} (h : k < B.length) (hB : ∀ x ∈ B, x < 65536) : ∃ r, kth B k r := by
  obtain ⟨r, -, h2⟩ := kth_ex 65536 (show k < cLt B 65536 by rw [cLt_all hB]; exact h)
  exact ⟨r, h2⟩
theorem bk_len {xs : List Nat} {i j : Nat} (h1 : i ≤ j) (h2 : j ≤ xs.length) : ((xs.drop i).take (j - i)).length = j - i := by
  rw [List.length_take, List.length_drop]; omega
theorem bk_mem {xs : List Nat} {i j x : Nat} (h : x ∈ (xs.drop i).take (j - i)) : x ∈ xs := List.mem_of_mem_drop (List.mem_of_mem_take h)
theorem wdn_len {d : Nat} {xs : List Nat} {s a b : Nat} (hs : s < 2 ^ d) (h1 : a ≤ b) (h2 : b ≤ xs.length) (hx : ∀ x ∈ xs, x < 2 ^ d) : wdn d xs s d a + cEq ((xs.drop a).take (b - a)) s = wdn d xs s d b ∧ wdn d xs s d b ≤ xs.length := by
  have h := (wdn_I hs h1 h2 hx d (Nat.le_refl d)).len
  rw [Nat.sub_self, Nat.pow_zero, Nat.div_one, wpre_d] at h
  exact h
theorem isPt.ints {n : Nat} {a b : Int32} (hn : n ≤ 1000) (h : isPt n a b) : a = nI (cn a) ∧ b = nI (cn b) ∧ cn a ≤ cn b ∧ cn b ≤ n := by
  obtain ⟨i, j, rfl, rfl, h1, h2⟩ := h.of hn
  simp only [cn]
  rw [nI_clamp (by omega), nI_clamp (by omega)]
  exact ⟨rfl, rfl, h1, h2⟩
theorem isS.ints {sg : Nat} {x : Int32} (hs : sg ≤ 65536) (h : isS sg x) : x = nI (cn x) ∧ cn x < sg := by
  obtain ⟨i, rfl, h1⟩ := h.of hs
  simp only [cn]
  rw [nI_clamp (by omega)]
  exact ⟨rfl, h1⟩
theorem nn_ints {x : Int32} (h : ¬ x < 0) : x = nI (cn x) ∧ cn x < 2 ^ 31 := by
  obtain ⟨i, hi, rfl⟩ := nI_of h
  simp only [cn]
  rw [nI_clamp hi]
  exact ⟨rfl, hi⟩
end ASK
end
section
/-! LevelRows: at, rank, select, quantile, between, below, above. -/
set_option maxHeartbeats 4000000 in
set_option maxRecDepth 100000 in
theorem m_R_at {l : Launch} {D : va_G} {cI cJ cS cO : ClassId} {B0 : Nat} (hl9 : l.stackTraces = false) {y : Nat → Nat} {sg d : Nat} {xs ws : List Nat} (hy : yI B0 y d) (ok0 : Ok sg d xs ws) (x : Int32) : CX l D (tyL cI cJ cS cO) B0 y_R_at c_R_at 2 (some .int) (rmK 7 1 6) [.ref (y 0), .int x] (fun H => LRx D cI cJ cS cO y sg d xs ws H) (fun v H0 H1 => v = some (.int (nI (xs.getD (cn x) 0))) ∧ H1 = H0 ∧ (¬ x < 0 ∧ x < nI xs.length)) (pxI (¬ x < 0 ∧ x < nI xs.length)) 1 6 (fun _ => False) := by
  refine cx_of (by decide) (Nat.le_of_ble_eq_true rfl) ?_
  intro p e s m below meth c ls hx hb hr hml hown hts hlocks hout hE hpre hl
  have hown : s.vm.findClass "LevelRows" = some m.cls := hown
  have hK := hE.1
  have hl : lv_has ls 2 [(0, .ref (y 0)), (1, .int x)] := hl
  have hS : va_S (fun _ => False) s.heap s.heap [] := va_S.rf
  have hR0 := hpre.1.1
  have hRd : ∀ (k : Nat) (q : Nat × va_E), (Rw cO y (nI sg) d (nI xs.length) (nI ws.length))[k]? = some q → ¬ (fun _ : Nat => False) q.1 := fun _ _ _ h => h
  have hAB : ∀ q : Nat, (fun _ : Nat => False) q → B0 ≤ q := fun _ h => h.elim
  have hR := hR0
  have hd16 := ok0.d16
  have hx9 := ok0.len
  have hp16 := ok0.p16
  have hsg6 := ok0.2.1
  refine lv_iload_n hx hb d_R_at_0 rfl (lv_at hl 1 rfl) ?_
  refine lv_if_lt (tgt := 12) hx hb d_R_at_1 (by decide) (fun h1 => ?_) (fun h1 => ?_)
  · exact ct_thr hx hb hl9 hown hts hE hS hAB (by rw [hml]; exact hl.1) (by decide +kernel) (at_I hts hE.2.1) ot_I x_190 x_10 x_297 d_R_at_12 d_R_at_15 d_R_at_16 d_R_at_18 d_R_at_21 hout (by decide) (Nat.le_of_ble_eq_true rfl) (by decide) (by decide) hlocks (fun H1 hf => ⟨rfl, fun h => h.1 h1, hf⟩) hS.2.2 (by decide) (by decide)
  · refine lv_iload_n hx hb d_R_at_4 rfl (lv_at hl 1 rfl) ?_
    refine lv_aload_n hx hb d_R_at_5 rfl (lv_at hl 0 rfl) ?_
    refine va_get (D := D) (ci := 2) (v := .int (nI xs.length)) (C := n_R) (T := f_R) (N := 10) hx hb hts in_R hown hK hR 0 rfl rfl 2 (by decide) (hts _ x_84) (fun _ h9 => h9) rfl d_R_at_6 ?_
    refine lv_icmp_lt (tgt := 22) hx hb d_R_at_9 (by decide) (fun h2 => ?_) (fun h2 => ?_)
    · obtain ⟨i, hi31, hxi⟩ := nI_of h1
      have hil : i < xs.length := by rw [hxi] at h2; exact (nI_ltI hi31 (by omega)).mp h2
      have hq : xs[i]? = some xs[i] := List.getElem?_eq_getElem hil
      have hgd : xs.getD (cn x) 0 = xs[i] := by simp only [cn, hxi]; rw [nI_clamp hi31, List.getD_eq_getElem?_getD, hq]; rfl
      refine lv_aload_n hx hb d_R_at_22 rfl (lv_at hl 0 rfl) ?_
      refine lv_iload_n hx hb d_R_at_23 rfl (lv_at hl 1 rfl) ?_
      refine ct_st (st' := [.int (nI i), .ref (y 0)]) (by rw [hxi]) ?_
      refine cm_read (va_runV (As := [.int (nI i)]) (rest := []) ⟨hx, hb, hml, hown, hts⟩ (m_R_symbolAt hq (ok0.lt _ (List.mem_of_getElem? hq)) hd16 hx9) ⟨ct_cb 1 hts x_120 x_117 x_1 rfl rfl (by decide +kernel) ⟨by decide, by decide⟩, hts _ x_119, hts _ s_R_symbolAt⟩ ⟨st_blind, va_recv hK hR (ci := 2) (q0 := 0) rfl rfl, fun U hU hW => ⟨rfl, hE.at hS hAB hU hW, by rw [hU]; exact hpre.1⟩⟩ rfl rfl hl.1 rfl (lv_room (Nat.le_of_ble_eq_true rfl)) d_R_at_24 ⟨by decide, by decide⟩) (fun v hv => ?_)
      subst hv
      refine W.eq (g2 := F0 m 27 ls [.int (nI xs[i])]) rfl ?_
      refine vx_ret (W.widen (k := 1) (n := 6) (by decide) (by decide) ?_)
      exact W.iret (v := nI xs[i]) hx hb hr (fun t ht hW => ⟨_, rfl, by rw [hgd], ht, h1, h2⟩) (fun _ h => nomatch h) d_R_at_27
    · exact ct_thr hx hb hl9 hown hts hE hS hAB (by rw [hml]; exact hl.1) (by decide +kernel) (at_I hts hE.2.1) ot_I x_190 x_10 x_297 d_R_at_12 d_R_at_15 d_R_at_16 d_R_at_18 d_R_at_21 hout (by decide) (Nat.le_of_ble_eq_true rfl) (by decide) (by decide) hlocks (fun H1 hf => ⟨rfl, fun h => h2 h.2, hf⟩) hS.2.2 (by decide) (by decide)
set_option maxHeartbeats 4000000 in
set_option maxRecDepth 100000 in
theorem m_R_rank {l : Launch} {D : va_G} {cI cJ cS cO : ClassId} {B0 : Nat} (hl9 : l.stackTraces = false) {y : Nat → Nat} {sg d : Nat} {xs ws : List Nat} (hy : yI B0 y d) (ok0 : Ok sg d xs ws) (x z : Int32) : CX l D (tyL cI cJ cS cO) B0 y_R_rank c_R_rank 3 (some .int) (rmK 7 2 12) [.ref (y 0), .int x, .int z] (fun H => LRx D cI cJ cS cO y sg d xs ws H) (fun v H0 H1 => v = some (.int (nI (cEq (xs.take (cn z)) (cn x)))) ∧ fr (fun q => q = y 3) H0 H1 ∧ LRx D cI cJ cS cO y sg d xs ws H1 ∧ (isS sg x ∧ isPt xs.length 0 z)) (pxI (isS sg x ∧ isPt xs.length 0 z)) 2 12 (fun q => q = y 3) := by
  refine cx_of (by decide) (Nat.le_of_ble_eq_true rfl) ?_
  intro p e s m below meth c ls hx hb hr hml hown hts hlocks hout hE hpre hl
  have hown : s.vm.findClass "LevelRows" = some m.cls := hown
  have hK := hE.1
  have hl : lv_has ls 3 [(0, .ref (y 0)), (1, .int x), (2, .int z)] := hl
  have hS : va_S (fun q => q = y 3) s.heap s.heap [] := va_S.rf
  have hR0 := hpre.1.1
  have hRd : ∀ (k : Nat) (q : Nat × va_E), (Rw cO y (nI sg) d (nI xs.length) (nI ws.length))[k]? = some q → ¬ q.1 = y 3 := Rw.off hy (by omega) (by omega)
  have hAB : ∀ q : Nat, q = y 3 → B0 ≤ q := fun q h => by rw [h]; exact hy.2 3 (by omega)
  have hR := hR0
  have hd16 := ok0.d16
  have hx9 := ok0.len
  have hp16 := ok0.p16
  have hsg6 := ok0.2.1
  refine lv_aload_n hx hb d_R_rank_0 rfl (lv_at hl 0 rfl) ?_
  refine lv_iload_n hx hb d_R_rank_1 rfl (lv_at hl 1 rfl) ?_
  refine cx_ret (vx_runV (As := [.int x]) (rest := []) ⟨hx, hb, hml, hown, hts⟩ (m_R_checkSymbol hl9 x) ⟨ct_cb 1 hts x_189 x_186 x_1 rfl rfl (by decide +kernel) ⟨by decide, by decide⟩, hts _ x_188, hts _ s_R_checkSymbol⟩ ⟨st_blind, va_recv hK hR (ci := 2) (q0 := 0) rfl rfl, fun U hU hW => ⟨rfl, hE.at hS hAB hU hW, by rw [hU]; exact hR⟩⟩ rfl rfl hl.1 rfl (lv_room (Nat.le_of_ble_eq_true rfl)) d_R_rank_2 ⟨by decide, by decide⟩) hS (fun q h => h.elim) (fun _ _ h => by rw [h.2.1]; exact fr.rf) (fun _ _ h => h.2.2) (fun E ce q H locs hxx hS hce hcv hcl => ?_) (fun v H locs hv hS => ?_)
  · obtain ⟨rfl, hn9, hf9⟩ := hxx
    exact vx_out (fun x hx => (hout x hx).elim) hlocks hce hcv hcl (fun t ht _ => by show (pxI (isS sg x ∧ isPt xs.length 0 z)) _ s.heap t.heap; rw [ht]; exact ⟨rfl, fun h => hn9 h.1, hf9⟩) hS.2.2 (by decide) (by decide)
  obtain ⟨rfl, rfl, hcs⟩ := hv
  refine W.eq (g2 := F0 m 5 ls []) rfl ?_
  refine lv_aload_n hx hb d_R_rank_5 rfl (lv_at hl 0 rfl) ?_
  refine lv_iconst (v := 0) hx hb d_R_rank_6 (by decide) ?_
  refine lv_iload_n hx hb d_R_rank_7 rfl (lv_at hl 2 rfl) ?_
  refine cx_ret (vx_runV (As := [.int 0, .int z]) (rest := []) ⟨hx, hb, hml, hown, hts⟩ (m_R_checkPart hl9 0 z) ⟨ct_cb 2 hts x_308 x_305 x_1 rfl rfl (by decide +kernel) ⟨by decide, by decide⟩, hts _ x_307, hts _ s_R_checkPart⟩ ⟨st_blind, va_recv hK hR (ci := 2) (q0 := 0) rfl rfl, fun U hU hW => ⟨rfl, hE.at hS hAB hU hW, by rw [hU]; exact hR⟩⟩ rfl rfl hl.1 rfl (lv_room (Nat.le_of_ble_eq_true rfl)) d_R_rank_8 ⟨by decide, by decide⟩) hS (fun q h => h.elim) (fun _ _ h => by rw [h.2.1]; exact fr.rf) (fun _ _ h => h.2.2) (fun E ce q H locs hxx hS hce hcv hcl => ?_) (fun v H locs hv hS => ?_)
  · obtain ⟨rfl, hn9, hf9⟩ := hxx
    exact vx_out (fun x hx => (hout x hx).elim) hlocks hce hcv hcl (fun t ht _ => by show (pxI (isS sg x ∧ isPt xs.length 0 z)) _ s.heap t.heap; rw [ht]; exact ⟨rfl, fun h => hn9 h.2, hf9⟩) hS.2.2 (by decide) (by decide)
  obtain ⟨rfl, rfl, hcp⟩ := hv
  refine W.eq (g2 := F0 m 11 ls []) rfl ?_
  obtain ⟨f0, f1, f2, f3, f4, f5, hP⟩ := hpre.2.1
  obtain ⟨hxe, hxs⟩ := hcs.ints hsg6
  obtain ⟨-, hze, -, hzl⟩ := hcp.ints hx9
  have hxd : cn x < 2 ^ d := Nat.lt_of_lt_of_le hxs ok0.2.2.1
  refine lv_aload_n hx hb d_R_rank_11 rfl (lv_at hl 0 rfl) ?_
  refine va_get (D := D) (ci := 2) (v := .ref (y 3)) (C := n_R) (T := f_R) (N := 10) hx hb hts in_R hown hK hR 0 rfl rfl 6 (by decide) (hts _ x_88) (fun _ h9 => h9) rfl d_R_rank_12 ?_
  refine lv_iconst (v := 0) hx hb d_R_rank_15 (by decide) ?_
  refine lv_iload_n hx hb d_R_rank_16 rfl (lv_at hl 2 rfl) ?_
  refine cm_ret (va_runV (As := [.int 0, .int z]) (rest := []) ⟨hx, hb, hml, hown, hts⟩ (m_P_span 0 z) ⟨ct_cb 2 hts x_313 x_310 x_2 rfl rfl (by decide +kernel) ⟨by decide, by decide⟩, hts _ x_311, hts _ x_312⟩ ⟨st_blind, va_recv hK hP (ci := 1) (q0 := 0) rfl rfl, fun U hU hW => ⟨rfl, hE.at hS hAB hU hW, by rw [hU]; exact hP⟩⟩ rfl rfl hl.1 rfl (lv_room (Nat.le_of_ble_eq_true rfl)) d_R_rank_17 ⟨by decide, by decide⟩) hS (fun q h => h) (fun _ _ h => h.2.1) (fun v H locs hv hS => ?_)
  obtain ⟨rfl, hfr1, hP⟩ := hv
  refine W.eq (g2 := F0 m 20 ls []) rfl ?_
  have hR := hR0.rd hS hRd
  rw [hze, show (0 : Int32) = nI 0 from rfl] at hP
  have hRL := RL.fr hy hpre.1 hfr1 (fun q _ h => ⟨3, by omega, by omega, h⟩)
  refine lv_aload_n hx hb d_R_rank_20 rfl (lv_at hl 0 rfl) ?_
  refine lv_iload_n hx hb d_R_rank_21 rfl (lv_at hl 1 rfl) ?_
  refine ct_st (st' := [.int (nI (cn x)), .ref (y 0)]) (by rw [← hxe]) ?_
  refine cm_ret (va_runV (As := [.int (nI (cn x))]) (rest := []) ⟨hx, hb, hml, hown, hts⟩ (m_R_descendTo hy ok0 (Nat.zero_le _) hzl hxd) ⟨ct_cb 1 hts x_317 x_314 x_1 rfl rfl (by decide +kernel) ⟨by decide, by decide⟩, hts _ x_316, hts _ s_R_descendTo⟩ ⟨st_blind, va_recv hK hR (ci := 2) (q0 := 0) rfl rfl, fun U hU hW => ⟨rfl, hE.at hS hAB hU hW, by rw [hU]; exact ⟨hRL, hP⟩⟩⟩ rfl rfl hl.1 rfl (lv_room (Nat.le_of_ble_eq_true rfl)) d_R_rank_22 ⟨by decide, by decide⟩) hS (fun q h => h) (fun _ _ h => h.2.1) (fun v H locs hv hS => ?_)
  obtain ⟨rfl, hfr2, g2, g3, g4, g5, hP⟩ := hv
  refine W.eq (g2 := F0 m 25 ls []) rfl ?_
  have hR := hR0.rd hS hRd
  have hwl := wdn_len hxd (Nat.zero_le (cn z)) hzl ok0.lt
  rw [List.drop_zero, Nat.sub_zero] at hwl
  refine lv_aload_n hx hb d_R_rank_25 rfl (lv_at hl 0 rfl) ?_
  refine va_get (D := D) (ci := 2) (v := .ref (y 3)) (C := n_R) (T := f_R) (N := 10) hx hb hts in_R hown hK hR 0 rfl rfl 6 (by decide) (hts _ x_88) (fun _ h9 => h9) rfl d_R_rank_26 ?_
  refine cm_read (va_runV (As := []) (rest := []) ⟨hx, hb, hml, hown, hts⟩ (m_P_length) ⟨ct_cb 0 hts x_330 x_327 x_2 rfl rfl (by decide +kernel) ⟨by decide, by decide⟩, hts _ x_328, hts _ x_329⟩ ⟨st_blind, va_recv hK hP (ci := 1) (q0 := 0) rfl rfl, fun U hU hW => ⟨rfl, hE.at hS hAB hU hW, by rw [hU]; exact hP⟩⟩ rfl rfl hl.1 rfl (lv_room (Nat.le_of_ble_eq_true rfl)) d_R_rank_29 ⟨by decide, by decide⟩) (fun v hv => ?_)
  subst hv
  refine W.eq (g2 := F0 m 32 ls [.int (nI (wdn d xs (cn x) d (cn z)) - nI (wdn d xs (cn x) d 0))]) rfl ?_
  refine ct_topi (x' := nI (cEq (xs.take (cn z)) (cn x))) (by rw [pk_sub (by omega)]; congr 1; omega) ?_
  refine vx_ret (W.widen (k := 2) (n := 12) (by decide) (by decide) ?_)
  exact W.iret (v := nI (cEq (xs.take (cn z)) (cn x))) hx hb hr (fun t ht hW => ⟨_, rfl, by rw [ht]; exact ⟨rfl, fr.of hS, lrx_part hy hpre (hfr1.trans hfr2 (fun q h => h)) ⟨_, _, _, _, _, _, hP⟩, hcs, hcp⟩⟩) hS.2.2 d_R_rank_32
set_option maxHeartbeats 4000000 in
set_option maxRecDepth 100000 in
theorem m_R_select {l : Launch} {D : va_G} {cI cJ cS cO : ClassId} {B0 : Nat} (hl9 : l.stackTraces = false) {y : Nat → Nat} {sg d : Nat} {xs ws : List Nat} (hy : yI B0 y d) (ok0 : Ok sg d xs ws) (x k : Int32) : CX l D (tyL cI cJ cS cO) B0 y_R_select c_R_select 3 (some .int) (rmK 7 2 12) [.ref (y 0), .int x, .int k] (fun H => LRx D cI cJ cS cO y sg d xs ws H) (fun v H0 H1 => ∃ w, v = some (.int w) ∧ aSel xs x k w ∧ fr (fun q => q = y 3) H0 H1 ∧ LRx D cI cJ cS cO y sg d xs ws H1 ∧ (isS sg x ∧ ¬ k < 0)) (pxI (isS sg x ∧ ¬ k < 0)) 2 12 (fun q => q = y 3) := by
  refine cx_of (by decide) (Nat.le_of_ble_eq_true rfl) ?_
  intro p e s m below meth c ls hx hb hr hml hown hts hlocks hout hE hpre hl
  have hown : s.vm.findClass "LevelRows" = some m.cls := hown
  have hK := hE.1
  have hl : lv_has ls 3 [(0, .ref (y 0)), (1, .int x), (2, .int k)] := hl
  have hS : va_S (fun q => q = y 3) s.heap s.heap [] := va_S.rf
  have hR0 := hpre.1.1
  have hRd : ∀ (k : Nat) (q : Nat × va_E), (Rw cO y (nI sg) d (nI xs.length) (nI ws.length))[k]? = some q → ¬ q.1 = y 3 := Rw.off hy (by omega) (by omega)
  have hAB : ∀ q : Nat, q = y 3 → B0 ≤ q := fun q h => by rw [h]; exact hy.2 3 (by omega)
  have hR := hR0
  have hd16 := ok0.d16
  have hx9 := ok0.len
  have hp16 := ok0.p16
  have hsg6 := ok0.2.1
  refine lv_aload_n hx hb d_R_select_0 rfl (lv_at hl 0 rfl) ?_
  refine lv_iload_n hx hb d_R_select_1 rfl (lv_at hl 1 rfl) ?_
  refine cx_ret (vx_runV (As := [.int x]) (rest := []) ⟨hx, hb, hml, hown, hts⟩ (m_R_checkSymbol hl9 x) ⟨ct_cb 1 hts x_189 x_186 x_1 rfl rfl (by decide +kernel) ⟨by decide, by decide⟩, hts _ x_188, hts _ s_R_checkSymbol⟩ ⟨st_blind, va_recv hK hR (ci := 2) (q0 := 0) rfl rfl, fun U hU hW => ⟨rfl, hE.at hS hAB hU hW, by rw [hU]; exact hR⟩⟩ rfl rfl hl.1 rfl (lv_room (Nat.le_of_ble_eq_true rfl)) d_R_select_2 ⟨by decide, by decide⟩) hS (fun q h => h.elim) (fun _ _ h => by rw [h.2.1]; exact fr.rf) (fun _ _ h => h.2.2) (fun E ce q H locs hxx hS hce hcv hcl => ?_) (fun v H locs hv hS => ?_)
  · obtain ⟨rfl, hn9, hf9⟩ := hxx
    exact vx_out (fun x hx => (hout x hx).elim) hlocks hce hcv hcl (fun t ht _ => by show (pxI (isS sg x ∧ ¬ k < 0)) _ s.heap t.heap; rw [ht]; exact ⟨rfl, fun h => hn9 h.1, hf9⟩) hS.2.2 (by decide) (by decide)
  obtain ⟨rfl, rfl, hcs⟩ := hv
  refine W.eq (g2 := F0 m 5 ls []) rfl ?_
  refine lv_iload_n hx hb d_R_select_5 rfl (lv_at hl 2 rfl) ?_
  refine cx_ret (vx_runS (As := [.int k]) (rest := []) ⟨hx, hb, hml, hown, hts⟩ (m_R_checkNotNegative hl9 k) ⟨ct_cb 1 hts x_340 x_338 x_1 rfl rfl (by decide +kernel) ⟨by decide, by decide⟩, hts _ x_339⟩ ⟨st_blind, fun U hU hW => ⟨rfl, hE.at hS hAB hU hW, by rw [hU]; exact trivial⟩⟩ rfl rfl hl.1 rfl (lv_room (Nat.le_of_ble_eq_true rfl)) d_R_select_6 ⟨by decide, by decide⟩) hS (fun q h => h.elim) (fun _ _ h => by rw [h.2.1]; exact fr.rf) (fun _ _ h => h.2.2) (fun E ce q H locs hxx hS hce hcv hcl => ?_) (fun v H locs hv hS => ?_)
  · obtain ⟨rfl, hn9, hf9⟩ := hxx
    exact vx_out (fun x hx => (hout x hx).elim) hlocks hce hcv hcl (fun t ht _ => by show (pxI (isS sg x ∧ ¬ k < 0)) _ s.heap t.heap; rw [ht]; exact ⟨rfl, fun h => hn9 h.2, hf9⟩) hS.2.2 (by decide) (by decide)
  obtain ⟨rfl, rfl, hcn⟩ := hv
  refine W.eq (g2 := F0 m 9 ls []) rfl ?_
  obtain ⟨f0, f1, f2, f3, f4, f5, hP⟩ := hpre.2.1
  obtain ⟨hxe, hxs⟩ := hcs.ints hsg6
  obtain ⟨hke, hk31⟩ := nn_ints hcn
  have hxd : cn x < 2 ^ d := Nat.lt_of_lt_of_le hxs ok0.2.2.1
  refine lv_aload_n hx hb d_R_select_9 rfl (lv_at hl 0 rfl) ?_
  refine va_get (D := D) (ci := 2) (v := .ref (y 3)) (C := n_R) (T := f_R) (N := 10) hx hb hts in_R hown hK hR 0 rfl rfl 6 (by decide) (hts _ x_88) (fun _ h9 => h9) rfl d_R_select_10 ?_
  refine lv_iconst (v := 0) hx hb d_R_select_13 (by decide) ?_
  refine lv_aload_n hx hb d_R_select_14 rfl (lv_at hl 0 rfl) ?_
  refine va_get (D := D) (ci := 2) (v := .int (nI xs.length)) (C := n_R) (T := f_R) (N := 10) hx hb hts in_R hown hK hR 0 rfl rfl 2 (by decide) (hts _ x_84) (fun _ h9 => h9) rfl d_R_select_15 ?_
  refine cm_ret (va_runV (As := [.int 0, .int (nI xs.length)]) (rest := []) ⟨hx, hb, hml, hown, hts⟩ (m_P_span 0 (nI xs.length)) ⟨ct_cb 2 hts x_313 x_310 x_2 rfl rfl (by decide +kernel) ⟨by decide, by decide⟩, hts _ x_311, hts _ x_312⟩ ⟨st_blind, va_recv hK hP (ci := 1) (q0 := 0) rfl rfl, fun U hU hW => ⟨rfl, hE.at hS hAB hU hW, by rw [hU]; exact hP⟩⟩ rfl rfl hl.1 rfl (lv_room (Nat.le_of_ble_eq_true rfl)) d_R_select_18 ⟨by decide, by decide⟩) hS (fun q h => h) (fun _ _ h => h.2.1) (fun v H locs hv hS => ?_)
  obtain ⟨rfl, hfr1, hP⟩ := hv
  refine W.eq (g2 := F0 m 21 ls []) rfl ?_
  have hR := hR0.rd hS hRd
  rw [show (0 : Int32) = nI 0 from rfl] at hP
  have hRL := RL.fr hy hpre.1 hfr1 (fun q _ h => ⟨3, by omega, by omega, h⟩)
  refine lv_aload_n hx hb d_R_select_21 rfl (lv_at hl 0 rfl) ?_
  refine lv_iload_n hx hb d_R_select_22 rfl (lv_at hl 1 rfl) ?_
  refine ct_st (st' := [.int (nI (cn x)), .ref (y 0)]) (by rw [← hxe]) ?_
  refine cm_ret (va_runV (As := [.int (nI (cn x))]) (rest := []) ⟨hx, hb, hml, hown, hts⟩ (m_R_descendTo hy ok0 (Nat.zero_le _) (Nat.le_refl xs.length) hxd) ⟨ct_cb 1 hts x_317 x_314 x_1 rfl rfl (by decide +kernel) ⟨by decide, by decide⟩, hts _ x_316, hts _ s_R_descendTo⟩ ⟨st_blind, va_recv hK hR (ci := 2) (q0 := 0) rfl rfl, fun U hU hW => ⟨rfl, hE.at hS hAB hU hW, by rw [hU]; exact ⟨hRL, hP⟩⟩⟩ rfl rfl hl.1 rfl (lv_room (Nat.le_of_ble_eq_true rfl)) d_R_select_23 ⟨by decide, by decide⟩) hS (fun q h => h) (fun _ _ h => h.2.1) (fun v H locs hv hS => ?_)
  obtain ⟨rfl, hfr2, g2, g3, g4, g5, hP⟩ := hv
  refine W.eq (g2 := F0 m 26 ls []) rfl ?_
  have hR := hR0.rd hS hRd
  have hwl := wdn_len hxd (Nat.zero_le xs.length) (Nat.le_refl _) ok0.lt
  rw [List.drop_zero, Nat.sub_zero, List.take_length] at hwl
  have hfr := hfr1.trans hfr2 (fun q h => h)
  have hLR := lrx_part hy hpre hfr ⟨_, _, _, _, _, _, hP⟩
  refine lv_iload_n hx hb d_R_select_26 rfl (lv_at hl 2 rfl) ?_
  refine lv_aload_n hx hb d_R_select_27 rfl (lv_at hl 0 rfl) ?_
  refine va_get (D := D) (ci := 2) (v := .ref (y 3)) (C := n_R) (T := f_R) (N := 10) hx hb hts in_R hown hK hR 0 rfl rfl 6 (by decide) (hts _ x_88) (fun _ h9 => h9) rfl d_R_select_28 ?_
  refine cm_read (va_runV (As := []) (rest := [.int k]) ⟨hx, hb, hml, hown, hts⟩ (m_P_length) ⟨ct_cb 0 hts x_330 x_327 x_2 rfl rfl (by decide +kernel) ⟨by decide, by decide⟩, hts _ x_328, hts _ x_329⟩ ⟨st_blind, va_recv hK hP (ci := 1) (q0 := 0) rfl rfl, fun U hU hW => ⟨rfl, hE.at hS hAB hU hW, by rw [hU]; exact hP⟩⟩ rfl rfl hl.1 rfl (lv_room (Nat.le_of_ble_eq_true rfl)) d_R_select_31 ⟨by decide, by decide⟩) (fun v hv => ?_)
  subst hv
  refine W.eq (g2 := F0 m 34 ls [.int (nI (wdn d xs (cn x) d xs.length) - nI (wdn d xs (cn x) d 0)), .int k]) rfl ?_
  refine ct_topi (x' := nI (cEq xs (cn x))) (by rw [pk_sub (by omega)]; congr 1; omega) ?_
  rcases Nat.lt_or_ge (cn k) (cEq xs (cn x)) with hlt | hge
  · refine lv_icmp_ge (tgt := 53) hx hb d_R_select_34 (by decide) (fun c9 => absurd c9 (by rw [hke]; exact nI_ge hlt (by have := cEq_le xs (cn x); omega))) (fun _ => ?_)
    obtain ⟨i, hi1, hi2⟩ := occ_ex (cn x) xs (cn k) hlt
    have hil := (List.getElem?_eq_some_iff.mp hi1).1
    have hwi := wdn_len hxd (Nat.zero_le i) (Nat.le_of_lt hil) ok0.lt
    rw [List.drop_zero, Nat.sub_zero, hi2] at hwi
    refine lv_aload_n hx hb d_R_select_37 rfl (lv_at hl 0 rfl) ?_
    refine lv_aload_n hx hb d_R_select_38 rfl (lv_at hl 0 rfl) ?_
    refine va_get (D := D) (ci := 2) (v := .ref (y 3)) (C := n_R) (T := f_R) (N := 10) hx hb hts in_R hown hK hR 0 rfl rfl 6 (by decide) (hts _ x_88) (fun _ h9 => h9) rfl d_R_select_39 ?_
    refine va_getN (D := D) (ci := 1) (v := .int (nI (wdn d xs (cn x) d 0))) (C := n_P) (T := f_P) (N := 6) hx hb hts in_P hown hK hP 0 rfl rfl 0 (by decide) (va_Nw.use rfl (hE.2.1 _ x_31)) (fun _ h9 => h9) rfl d_R_select_42 ?_
    refine lv_iload_n hx hb d_R_select_45 rfl (lv_at hl 2 rfl) ?_
    refine lv_iadd hx hb d_R_select_46 ?_
    refine ct_topi (x' := nI (wdn d xs (cn x) d i)) (by rw [show nI (wdn d xs (cn x) d 0) + k = nI (wdn d xs (cn x) d 0) + nI (cn k) by rw [← hke], nI_add, hwi.1]) ?_
    refine cm_read (va_runV (As := [.int (nI (wdn d xs (cn x) d i))]) (rest := []) ⟨hx, hb, hml, hown, hts⟩ (m_R_climbFrom hi1 hd16 hx9) ⟨ct_cb 1 hts x_345 x_342 x_1 rfl rfl (by decide +kernel) ⟨by decide, by decide⟩, hts _ x_344, hts _ s_R_climbFrom⟩ ⟨st_blind, va_recv hK hR (ci := 2) (q0 := 0) rfl rfl, fun U hU hW => ⟨rfl, hE.at hS hAB hU hW, by rw [hU]; exact hLR.1⟩⟩ rfl rfl hl.1 rfl (lv_room (Nat.le_of_ble_eq_true rfl)) d_R_select_47 ⟨by decide, by decide⟩) (fun v hv => ?_)
    subst hv
    refine W.eq (g2 := F0 m 50 ls [.int (nI i)]) rfl ?_
    refine lv_goto (tgt := 54) hx hb d_R_select_50 (by decide) ?_
    refine vx_ret (W.widen (k := 2) (n := 12) (by decide) (by decide) ?_)
    exact W.iret (v := nI i) hx hb hr (fun t ht hW => ⟨_, rfl, by rw [ht]; exact ⟨_, rfl, Or.inl ⟨i, hi1, hi2, rfl⟩, fr.of hS, hLR, hcs, hcn⟩⟩) hS.2.2 d_R_select_54
  · refine lv_icmp_ge (tgt := 53) hx hb d_R_select_34 (by decide) (fun _ => ?_) (fun c9 => absurd (by rw [hke]; exact nI_le hge (by omega)) c9)
    refine lv_iconst (v := (-1)) hx hb d_R_select_53 (by decide) ?_
    refine vx_ret (W.widen (k := 2) (n := 12) (by decide) (by decide) ?_)
    exact W.iret (v := -1) hx hb hr (fun t ht hW => ⟨_, rfl, by rw [ht]; exact ⟨_, rfl, Or.inr ⟨hge, rfl⟩, fr.of hS, hLR, hcs, hcn⟩⟩) hS.2.2 d_R_select_54
set_option maxHeartbeats 4000000 in
set_option maxRecDepth 100000 in
theorem m_R_quantile {l : Launch} {D : va_G} {cI cJ cS cO : ClassId} {B0 : Nat} (hl9 : l.stackTraces = false) {y : Nat → Nat} {sg d : Nat} {xs ws : List Nat} (hy : yI B0 y d) (ok0 : Ok sg d xs ws) (a b k : Int32) : CX l D (tyL cI cJ cS cO) B0 y_R_quantile c_R_quantile 4 (some .int) (rmK 7 3 18) [.ref (y 0), .int a, .int b, .int k] (fun H => LRx D cI cJ cS cO y sg d xs ws H) (fun v H0 H1 => ∃ w, v = some (.int w) ∧ aQua (bk xs a b) k w ∧ fr (fun q => q = y 3) H0 H1 ∧ LRx D cI cJ cS cO y sg d xs ws H1 ∧ (isPt xs.length a b ∧ ¬ k < 0 ∧ k < b - a)) (pxI (isPt xs.length a b ∧ ¬ k < 0 ∧ k < b - a)) 3 18 (fun q => q = y 3) := by
  refine cx_of (by decide) (Nat.le_of_ble_eq_true rfl) ?_
  intro p e s m below meth c ls hx hb hr hml hown hts hlocks hout hE hpre hl
  have hown : s.vm.findClass "LevelRows" = some m.cls := hown
  have hK := hE.1
  have hl : lv_has ls 4 [(0, .ref (y 0)), (1, .int a), (2, .int b), (3, .int k)] := hl
  have hS : va_S (fun q => q = y 3) s.heap s.heap [] := va_S.rf
  have hR0 := hpre.1.1
  have hRd : ∀ (k : Nat) (q : Nat × va_E), (Rw cO y (nI sg) d (nI xs.length) (nI ws.length))[k]? = some q → ¬ q.1 = y 3 := Rw.off hy (by omega) (by omega)
  have hAB : ∀ q : Nat, q = y 3 → B0 ≤ q := fun q h => by rw [h]; exact hy.2 3 (by omega)
  have hR := hR0
  have hd16 := ok0.d16
  have hx9 := ok0.len
  have hp16 := ok0.p16
  have hsg6 := ok0.2.1
  refine lv_aload_n hx hb d_R_quantile_0 rfl (lv_at hl 0 rfl) ?_
  refine lv_iload_n hx hb d_R_quantile_1 rfl (lv_at hl 1 rfl) ?_
  refine lv_iload_n hx hb d_R_quantile_2 rfl (lv_at hl 2 rfl) ?_
  refine cx_ret (vx_runV (As := [.int a, .int b]) (rest := []) ⟨hx, hb, hml, hown, hts⟩ (m_R_checkPart hl9 a b) ⟨ct_cb 2 hts x_308 x_305 x_1 rfl rfl (by decide +kernel) ⟨by decide, by decide⟩, hts _ x_307, hts _ s_R_checkPart⟩ ⟨st_blind, va_recv hK hR (ci := 2) (q0 := 0) rfl rfl, fun U hU hW => ⟨rfl, hE.at hS hAB hU hW, by rw [hU]; exact hR⟩⟩ rfl rfl hl.1 rfl (lv_room (Nat.le_of_ble_eq_true rfl)) d_R_quantile_3 ⟨by decide, by decide⟩) hS (fun q h => h.elim) (fun _ _ h => by rw [h.2.1]; exact fr.rf) (fun _ _ h => h.2.2) (fun E ce q H locs hxx hS hce hcv hcl => ?_) (fun v H locs hv hS => ?_)
  · obtain ⟨rfl, hn9, hf9⟩ := hxx
    exact vx_out (fun x hx => (hout x hx).elim) hlocks hce hcv hcl (fun t ht _ => by show (pxI (isPt xs.length a b ∧ ¬ k < 0 ∧ k < b - a)) _ s.heap t.heap; rw [ht]; exact ⟨rfl, fun h => hn9 h.1, hf9⟩) hS.2.2 (by decide) (by decide)
  obtain ⟨rfl, rfl, hcp⟩ := hv
  refine W.eq (g2 := F0 m 6 ls []) rfl ?_
  refine lv_iload_n hx hb d_R_quantile_6 rfl (lv_at hl 3 rfl) ?_
  refine cx_ret (vx_runS (As := [.int k]) (rest := []) ⟨hx, hb, hml, hown, hts⟩ (m_R_checkNotNegative hl9 k) ⟨ct_cb 1 hts x_340 x_338 x_1 rfl rfl (by decide +kernel) ⟨by decide, by decide⟩, hts _ x_339⟩ ⟨st_blind, fun U hU hW => ⟨rfl, hE.at hS hAB hU hW, by rw [hU]; exact trivial⟩⟩ rfl rfl hl.1 rfl (lv_room (Nat.le_of_ble_eq_true rfl)) d_R_quantile_7 ⟨by decide, by decide⟩) hS (fun q h => h.elim) (fun _ _ h => by rw [h.2.1]; exact fr.rf) (fun _ _ h => h.2.2) (fun E ce q H locs hxx hS hce hcv hcl => ?_) (fun v H locs hv hS => ?_)
  · obtain ⟨rfl, hn9, hf9⟩ := hxx
    exact vx_out (fun x hx => (hout x hx).elim) hlocks hce hcv hcl (fun t ht _ => by show (pxI (isPt xs.length a b ∧ ¬ k < 0 ∧ k < b - a)) _ s.heap t.heap; rw [ht]; exact ⟨rfl, fun h => hn9 h.2.1, hf9⟩) hS.2.2 (by decide) (by decide)
  obtain ⟨rfl, rfl, hcn⟩ := hv
  refine W.eq (g2 := F0 m 10 ls []) rfl ?_
  refine lv_iload_n hx hb d_R_quantile_10 rfl (lv_at hl 3 rfl) ?_
  refine lv_iload_n hx hb d_R_quantile_11 rfl (lv_at hl 2 rfl) ?_
  refine lv_iload_n hx hb d_R_quantile_12 rfl (lv_at hl 1 rfl) ?_
  refine lv_isub hx hb d_R_quantile_13 ?_
  refine lv_icmp_lt (tgt := 27) hx hb d_R_quantile_14 (by decide) (fun h1 => ?_) (fun h1 => ?_)
  · obtain ⟨hae, hbe, hab, hbx⟩ := hcp.ints hx9
    have hBl : (bk xs a b).length = cn b - cn a := bk_len hab hbx
    have hB6 : ∀ z ∈ bk xs a b, z < 65536 := fun z h => Nat.lt_of_lt_of_le (ok0.lt z (bk_mem h)) hp16
    obtain ⟨hke, hk31⟩ := nn_ints hcn
    have hkl : cn k < cn b - cn a := by
      have h2 : b - a = nI (cn b - cn a) := by rw [← pk_sub hab, ← hbe, ← hae]
      have h3 := h1
      rw [h2, hke] at h3
      exact (nI_ltI hk31 (by omega)).mp h3
    obtain ⟨r, hkr⟩ := kth_of_lt (k := cn k) (B := bk xs a b) (by rw [hBl]; exact hkl) hB6
    refine lv_aload_n hx hb d_R_quantile_27 rfl (lv_at hl 0 rfl) ?_
    refine lv_iload_n hx hb d_R_quantile_28 rfl (lv_at hl 1 rfl) ?_
    refine lv_iload_n hx hb d_R_quantile_29 rfl (lv_at hl 2 rfl) ?_
    refine lv_iload_n hx hb d_R_quantile_30 rfl (lv_at hl 3 rfl) ?_
    refine ct_st (st' := [.int (nI (cn k)), .int (nI (cn b)), .int (nI (cn a)), .ref (y 0)]) (by rw [← hke, ← hbe, ← hae]) ?_
    refine cm_ret (va_runV (As := [.int (nI (cn a)), .int (nI (cn b)), .int (nI (cn k))]) (rest := []) ⟨hx, hb, hml, hown, hts⟩ (m_R_kthLeast hy ok0 hab hbx rfl hkr) ⟨ct_cb 3 hts x_366 x_363 x_1 rfl rfl (by decide +kernel) ⟨by decide, by decide⟩, hts _ x_365, hts _ s_R_kthLeast⟩ ⟨st_blind, va_recv hK hR (ci := 2) (q0 := 0) rfl rfl, fun U hU hW => ⟨rfl, hE.at hS hAB hU hW, by rw [hU]; exact ⟨hpre.1, hpre.2.1⟩⟩⟩ rfl rfl hl.1 rfl (lv_room (Nat.le_of_ble_eq_true rfl)) d_R_quantile_31 ⟨by decide, by decide⟩) hS (fun q h => h) (fun _ _ h => h.2.1) (fun v H locs hv hS => ?_)
    obtain ⟨rfl, hfr, u, g2, g3, g4, g5, hu, hP⟩ := hv
    refine W.eq (g2 := F0 m 34 ls [.int (nI r)]) rfl ?_
    refine vx_ret (W.widen (k := 3) (n := 18) (by decide) (by decide) ?_)
    exact W.iret (v := nI r) hx hb hr (fun t ht hW => ⟨_, rfl, by rw [ht]; exact ⟨_, rfl, ⟨r, hkr, rfl⟩, hfr, lrx_part hy hpre hfr ⟨_, _, _, _, _, _, hP⟩, hcp, hcn, h1⟩⟩) hS.2.2 d_R_quantile_34
  · exact ct_thr hx hb hl9 hown hts hE hS hAB (by rw [hml]; exact hl.1) (by decide +kernel) (at_I hts hE.2.1) ot_I x_190 x_10 x_362 d_R_quantile_17 d_R_quantile_20 d_R_quantile_21 d_R_quantile_23 d_R_quantile_26 hout (by decide) (Nat.le_of_ble_eq_true rfl) (by decide) (by decide) hlocks (fun H1 hf => ⟨rfl, fun h => h1 h.2.2, hf⟩) hS.2.2 (by decide) (by decide)
set_option maxHeartbeats 4000000 in
set_option maxRecDepth 100000 in
theorem m_R_between {l : Launch} {D : va_G} {cI cJ cS cO : ClassId} {B0 : Nat} (hl9 : l.stackTraces = false) {y : Nat → Nat} {sg d : Nat} {xs ws : List Nat} (hy : yI B0 y d) (ok0 : Ok sg d xs ws) (a b lo hi : Int32) : CX l D (tyL cI cJ cS cO) B0 y_R_between c_R_between 5 (some .int) (rmK 7 1 6) [.ref (y 0), .int a, .int b, .int lo, .int hi] (fun H => LRx D cI cJ cS cO y sg d xs ws H) (fun v H0 H1 => v = some (.int (aBtw (bk xs a b) lo hi)) ∧ fr (fun q => q = y 3) H0 H1 ∧ LRx D cI cJ cS cO y sg d xs ws H1 ∧ isPt xs.length a b) (pxI (isPt xs.length a b)) 1 6 (fun q => q = y 3) := by
  refine cx_of (by decide) (Nat.le_of_ble_eq_true rfl) ?_
  intro p e s m below meth c ls hx hb hr hml hown hts hlocks hout hE hpre hl
  have hown : s.vm.findClass "LevelRows" = some m.cls := hown
  have hK := hE.1
  have hl : lv_has ls 5 [(0, .ref (y 0)), (1, .int a), (2, .int b), (3, .int lo), (4, .int hi)] := hl
  have hS : va_S (fun q => q = y 3) s.heap s.heap [] := va_S.rf
  have hR0 := hpre.1.1
  have hRd : ∀ (k : Nat) (q : Nat × va_E), (Rw cO y (nI sg) d (nI xs.length) (nI ws.length))[k]? = some q → ¬ q.1 = y 3 := Rw.off hy (by omega) (by omega)
  have hAB : ∀ q : Nat, q = y 3 → B0 ≤ q := fun q h => by rw [h]; exact hy.2 3 (by omega)
  have hR := hR0
  have hd16 := ok0.d16
  have hx9 := ok0.len
  have hp16 := ok0.p16
  have hsg6 := ok0.2.1
  refine lv_aload_n hx hb d_R_between_0 rfl (lv_at hl 0 rfl) ?_
  refine lv_iload_n hx hb d_R_between_1 rfl (lv_at hl 1 rfl) ?_
  refine lv_iload_n hx hb d_R_between_2 rfl (lv_at hl 2 rfl) ?_
  refine cx_ret (vx_runV (As := [.int a, .int b]) (rest := []) ⟨hx, hb, hml, hown, hts⟩ (m_R_checkPart hl9 a b) ⟨ct_cb 2 hts x_308 x_305 x_1 rfl rfl (by decide +kernel) ⟨by decide, by decide⟩, hts _ x_307, hts _ s_R_checkPart⟩ ⟨st_blind, va_recv hK hR (ci := 2) (q0 := 0) rfl rfl, fun U hU hW => ⟨rfl, hE.at hS hAB hU hW, by rw [hU]; exact hR⟩⟩ rfl rfl hl.1 rfl (lv_room (Nat.le_of_ble_eq_true rfl)) d_R_between_3 ⟨by decide, by decide⟩) hS (fun q h => h.elim) (fun _ _ h => by rw [h.2.1]; exact fr.rf) (fun _ _ h => h.2.2) (fun E ce q H locs hxx hS hce hcv hcl => ?_) (fun v H locs hv hS => ?_)
  · obtain ⟨rfl, hn9, hf9⟩ := hxx
    exact vx_out (fun x hx => (hout x hx).elim) hlocks hce hcv hcl (fun t ht _ => by show (pxI (isPt xs.length a b)) _ s.heap t.heap; rw [ht]; exact ⟨rfl, hn9, hf9⟩) hS.2.2 (by decide) (by decide)
  obtain ⟨rfl, rfl, hcp⟩ := hv
  refine W.eq (g2 := F0 m 6 ls []) rfl ?_
  obtain ⟨hae, hbe, hab, hbx⟩ := hcp.ints hx9
  have hBl : (bk xs a b).length = cn b - cn a := bk_len hab hbx
  have hB6 : ∀ z ∈ bk xs a b, z < 65536 := fun z h => Nat.lt_of_lt_of_le (ok0.lt z (bk_mem h)) hp16
  refine lv_iload_n hx hb d_R_between_6 rfl (lv_at hl 3 rfl) ?_
  refine lv_iload hx hb d_R_between_7 (lv_at hl 4 rfl) ?_
  refine lv_icmp_ge (tgt := 31) hx hb d_R_between_9 (by decide) (fun h1 => ?_) (fun h1 => ?_)
  · refine lv_iconst (v := 0) hx hb d_R_between_31 (by decide) ?_
    refine vx_ret (W.widen (k := 1) (n := 6) (by decide) (by decide) ?_)
    exact W.iret (v := 0) hx hb hr (fun t ht hW => ⟨_, rfl, by rw [ht]; exact ⟨by rw [aBtw, if_neg (Int32.not_lt.mpr h1)], fr.rf, hpre, hcp⟩⟩) hS.2.2 d_R_between_32
  · refine lv_aload_n hx hb d_R_between_12 rfl (lv_at hl 0 rfl) ?_
    refine lv_iload_n hx hb d_R_between_13 rfl (lv_at hl 1 rfl) ?_
    refine lv_iload_n hx hb d_R_between_14 rfl (lv_at hl 2 rfl) ?_
    refine lv_iload hx hb d_R_between_15 (lv_at hl 4 rfl) ?_
    refine ct_st (st' := [.int hi, .int (nI (cn b)), .int (nI (cn a)), .ref (y 0)]) (by rw [← hbe, ← hae]) ?_
    refine cm_ret (va_runV (As := [.int (nI (cn a)), .int (nI (cn b)), .int hi]) (rest := []) ⟨hx, hb, hml, hown, hts⟩ (m_R_howManyBelow hy ok0 hab hbx rfl hi) ⟨ct_cb 3 hts x_381 x_378 x_1 rfl rfl (by decide +kernel) ⟨by decide, by decide⟩, hts _ x_380, hts _ s_R_howManyBelow⟩ ⟨st_blind, va_recv hK hR (ci := 2) (q0 := 0) rfl rfl, fun U hU hW => ⟨rfl, hE.at hS hAB hU hW, by rw [hU]; exact ⟨hpre.1, hpre.2.1⟩⟩⟩ rfl rfl hl.1 rfl (lv_room (Nat.le_of_ble_eq_true rfl)) d_R_between_17 ⟨by decide, by decide⟩) hS (fun q h => h) (fun _ _ h => h.2.1) (fun v H locs hv hS => ?_)
    obtain ⟨rfl, hfr1, hPP1⟩ := hv
    refine W.eq (g2 := F0 m 20 ls [.int (nI (cLt (bk xs a b) (cn hi)))]) rfl ?_
    have hLR := lrx_part hy hpre hfr1 hPP1
    have hR := hR0.rd hS hRd
    refine lv_aload_n hx hb d_R_between_20 rfl (lv_at hl 0 rfl) ?_
    refine lv_iload_n hx hb d_R_between_21 rfl (lv_at hl 1 rfl) ?_
    refine lv_iload_n hx hb d_R_between_22 rfl (lv_at hl 2 rfl) ?_
    refine lv_iload_n hx hb d_R_between_23 rfl (lv_at hl 3 rfl) ?_
    refine ct_st (st' := [.int lo, .int (nI (cn b)), .int (nI (cn a)), .ref (y 0), .int (nI (cLt (bk xs a b) (cn hi)))]) (by rw [← hbe, ← hae]) ?_
    refine cm_ret (va_runV (As := [.int (nI (cn a)), .int (nI (cn b)), .int lo]) (rest := [.int (nI (cLt (bk xs a b) (cn hi)))]) ⟨hx, hb, hml, hown, hts⟩ (m_R_howManyBelow hy ok0 hab hbx rfl lo) ⟨ct_cb 3 hts x_381 x_378 x_1 rfl rfl (by decide +kernel) ⟨by decide, by decide⟩, hts _ x_380, hts _ s_R_howManyBelow⟩ ⟨st_blind, va_recv hK hR (ci := 2) (q0 := 0) rfl rfl, fun U hU hW => ⟨rfl, hE.at hS hAB hU hW, by rw [hU]; exact ⟨hLR.1, hLR.2.1⟩⟩⟩ rfl rfl hl.1 rfl (lv_room (Nat.le_of_ble_eq_true rfl)) d_R_between_24 ⟨by decide, by decide⟩) hS (fun q h => h) (fun _ _ h => h.2.1) (fun v H locs hv hS => ?_)
    obtain ⟨rfl, hfr2, hPP2⟩ := hv
    refine W.eq (g2 := F0 m 27 ls [.int (nI (cLt (bk xs a b) (cn lo))), .int (nI (cLt (bk xs a b) (cn hi)))]) rfl ?_
    refine lv_isub hx hb d_R_between_27 ?_
    refine lv_goto (tgt := 32) hx hb d_R_between_28 (by decide) ?_
    refine vx_ret (W.widen (k := 1) (n := 6) (by decide) (by decide) ?_)
    exact W.iret (v := nI (cLt (bk xs a b) (cn hi)) - nI (cLt (bk xs a b) (cn lo))) hx hb hr (fun t ht hW => ⟨_, rfl, by rw [ht]; exact ⟨by rw [aBtw, if_pos (Int32.not_le.mp h1)], fr.of hS, lrx_part hy hLR hfr2 hPP2, hcp⟩⟩) hS.2.2 d_R_between_32
set_option maxHeartbeats 4000000 in
set_option maxRecDepth 100000 in
theorem m_R_below {l : Launch} {D : va_G} {cI cJ cS cO : ClassId} {B0 : Nat} (hl9 : l.stackTraces = false) {y : Nat → Nat} {sg d : Nat} {xs ws : List Nat} (hy : yI B0 y d) (ok0 : Ok sg d xs ws) (a b x : Int32) : CX l D (tyL cI cJ cS cO) B0 y_R_below c_R_below 5 (some .int) (rmK 7 1 6) [.ref (y 0), .int a, .int b, .int x] (fun H => LRx D cI cJ cS cO y sg d xs ws H) (fun v H0 H1 => ∃ w, v = some (.int w) ∧ aBel (bk xs a b) x w ∧ fr (fun q => q = y 3) H0 H1 ∧ LRx D cI cJ cS cO y sg d xs ws H1 ∧ isPt xs.length a b) (pxI (isPt xs.length a b)) 1 6 (fun q => q = y 3) := by
  refine cx_of (by decide) (Nat.le_of_ble_eq_true rfl) ?_
  intro p e s m below meth c ls hx hb hr hml hown hts hlocks hout hE hpre hl
  have hown : s.vm.findClass "LevelRows" = some m.cls := hown
  have hK := hE.1
  have hl : lv_has ls 5 [(0, .ref (y 0)), (1, .int a), (2, .int b), (3, .int x)] := hl
  have hS : va_S (fun q => q = y 3) s.heap s.heap [] := va_S.rf
  have hR0 := hpre.1.1
  have hRd : ∀ (k : Nat) (q : Nat × va_E), (Rw cO y (nI sg) d (nI xs.length) (nI ws.length))[k]? = some q → ¬ q.1 = y 3 := Rw.off hy (by omega) (by omega)
  have hAB : ∀ q : Nat, q = y 3 → B0 ≤ q := fun q h => by rw [h]; exact hy.2 3 (by omega)
  have hR := hR0
  have hd16 := ok0.d16
  have hx9 := ok0.len
  have hp16 := ok0.p16
  have hsg6 := ok0.2.1
  refine lv_aload_n hx hb d_R_below_0 rfl (lv_at hl 0 rfl) ?_
  refine lv_iload_n hx hb d_R_below_1 rfl (lv_at hl 1 rfl) ?_
  refine lv_iload_n hx hb d_R_below_2 rfl (lv_at hl 2 rfl) ?_
  refine cx_ret (vx_runV (As := [.int a, .int b]) (rest := []) ⟨hx, hb, hml, hown, hts⟩ (m_R_checkPart hl9 a b) ⟨ct_cb 2 hts x_308 x_305 x_1 rfl rfl (by decide +kernel) ⟨by decide, by decide⟩, hts _ x_307, hts _ s_R_checkPart⟩ ⟨st_blind, va_recv hK hR (ci := 2) (q0 := 0) rfl rfl, fun U hU hW => ⟨rfl, hE.at hS hAB hU hW, by rw [hU]; exact hR⟩⟩ rfl rfl hl.1 rfl (lv_room (Nat.le_of_ble_eq_true rfl)) d_R_below_3 ⟨by decide, by decide⟩) hS (fun q h => h.elim) (fun _ _ h => by rw [h.2.1]; exact fr.rf) (fun _ _ h => h.2.2) (fun E ce q H locs hxx hS hce hcv hcl => ?_) (fun v H locs hv hS => ?_)
  · obtain ⟨rfl, hn9, hf9⟩ := hxx
    exact vx_out (fun x hx => (hout x hx).elim) hlocks hce hcv hcl (fun t ht _ => by show (pxI (isPt xs.length a b)) _ s.heap t.heap; rw [ht]; exact ⟨rfl, hn9, hf9⟩) hS.2.2 (by decide) (by decide)
  obtain ⟨rfl, rfl, hcp⟩ := hv
  refine W.eq (g2 := F0 m 6 ls []) rfl ?_
  obtain ⟨hae, hbe, hab, hbx⟩ := hcp.ints hx9
  have hBl : (bk xs a b).length = cn b - cn a := bk_len hab hbx
  have hB6 : ∀ z ∈ bk xs a b, z < 65536 := fun z h => Nat.lt_of_lt_of_le (ok0.lt z (bk_mem h)) hp16
  refine lv_aload_n hx hb d_R_below_6 rfl (lv_at hl 0 rfl) ?_
  refine lv_iload_n hx hb d_R_below_7 rfl (lv_at hl 1 rfl) ?_
  refine lv_iload_n hx hb d_R_below_8 rfl (lv_at hl 2 rfl) ?_
  refine lv_iload_n hx hb d_R_below_9 rfl (lv_at hl 3 rfl) ?_
  refine ct_st (st' := [.int x, .int (nI (cn b)), .int (nI (cn a)), .ref (y 0)]) (by rw [← hbe, ← hae]) ?_
  refine cm_ret (va_runV (As := [.int (nI (cn a)), .int (nI (cn b)), .int x]) (rest := []) ⟨hx, hb, hml, hown, hts⟩ (m_R_howManyBelow hy ok0 hab hbx rfl x) ⟨ct_cb 3 hts x_381 x_378 x_1 rfl rfl (by decide +kernel) ⟨by decide, by decide⟩, hts _ x_380, hts _ s_R_howManyBelow⟩ ⟨st_blind, va_recv hK hR (ci := 2) (q0 := 0) rfl rfl, fun U hU hW => ⟨rfl, hE.at hS hAB hU hW, by rw [hU]; exact ⟨hpre.1, hpre.2.1⟩⟩⟩ rfl rfl hl.1 rfl (lv_room (Nat.le_of_ble_eq_true rfl)) d_R_below_10 ⟨by decide, by decide⟩) hS (fun q h => h) (fun _ _ h => h.2.1) (fun v H locs hv hS => ?_)
  obtain ⟨rfl, hfr1, hPP1⟩ := hv
  refine W.eq (g2 := F0 m 13 ls [.int (nI (cLt (bk xs a b) (cn x)))]) rfl ?_
  have hLR := lrx_part hy hpre hfr1 hPP1
  have hR := hR0.rd hS hRd
  have hcl := cLt_le (bk xs a b) (cn x)
  refine lv_istore (lv' := [(4, .int (nI (cLt (bk xs a b) (cn x)))), (0, .ref (y 0)), (1, .int a), (2, .int b), (3, .int x)]) hx hb d_R_below_13 hl (by decide) rfl (fun ls hl => ?_)
  refine lv_iload hx hb d_R_below_15 (lv_at hl 0 rfl) ?_
  rcases Nat.eq_zero_or_pos (cLt (bk xs a b) (cn x)) with h0 | h0
  · refine lv_if_le (tgt := 33) hx hb d_R_below_17 (by decide) (fun _ => ?_) (fun c9 => absurd (by rw [h0]; decide) c9)
    refine lv_iconst (v := (-1)) hx hb d_R_below_33 (by decide) ?_
    refine vx_ret (W.widen (k := 1) (n := 6) (by decide) (by decide) ?_)
    exact W.iret (v := -1) hx hb hr (fun t ht hW => ⟨_, rfl, by rw [ht]; exact ⟨_, rfl, aBel_none h0, fr.of hS, hLR, hcp⟩⟩) hS.2.2 d_R_below_34
  · refine lv_if_le (tgt := 33) hx hb d_R_below_17 (by decide) (fun c9 => absurd c9 (nI_nle h0 (by omega))) (fun _ => ?_)
    obtain ⟨r, hkr⟩ := kth_of_lt (k := cLt (bk xs a b) (cn x) - 1) (B := bk xs a b) (by omega) hB6
    refine lv_aload_n hx hb d_R_below_20 rfl (lv_at hl 1 rfl) ?_
    refine lv_iload_n hx hb d_R_below_21 rfl (lv_at hl 2 rfl) ?_
    refine lv_iload_n hx hb d_R_below_22 rfl (lv_at hl 3 rfl) ?_
    refine lv_iload hx hb d_R_below_23 (lv_at hl 0 rfl) ?_
    refine lv_iconst (v := 1) hx hb d_R_below_25 (by decide) ?_
    refine lv_isub hx hb d_R_below_26 ?_
    refine ct_topi (x' := nI (cLt (bk xs a b) (cn x) - 1)) (pk_sub (b := 1) h0) ?_
    refine ct_st (st' := [.int (nI (cLt (bk xs a b) (cn x) - 1)), .int (nI (cn b)), .int (nI (cn a)), .ref (y 0)]) (by rw [← hbe, ← hae]) ?_
    refine cm_ret (va_runV (As := [.int (nI (cn a)), .int (nI (cn b)), .int (nI (cLt (bk xs a b) (cn x) - 1))]) (rest := []) ⟨hx, hb, hml, hown, hts⟩ (m_R_kthLeast hy ok0 hab hbx rfl hkr) ⟨ct_cb 3 hts x_366 x_363 x_1 rfl rfl (by decide +kernel) ⟨by decide, by decide⟩, hts _ x_365, hts _ s_R_kthLeast⟩ ⟨st_blind, va_recv hK hR (ci := 2) (q0 := 0) rfl rfl, fun U hU hW => ⟨rfl, hE.at hS hAB hU hW, by rw [hU]; exact ⟨hLR.1, hLR.2.1⟩⟩⟩ rfl rfl hl.1 rfl (lv_room (Nat.le_of_ble_eq_true rfl)) d_R_below_27 ⟨by decide, by decide⟩) hS (fun q h => h) (fun _ _ h => h.2.1) (fun v H locs hv hS => ?_)
    obtain ⟨rfl, hfr2, u, g2, g3, g4, g5, hu, hP⟩ := hv
    refine W.eq (g2 := F0 m 30 ls [.int (nI r)]) rfl ?_
    refine lv_goto (tgt := 34) hx hb d_R_below_30 (by decide) ?_
    refine vx_ret (W.widen (k := 1) (n := 6) (by decide) (by decide) ?_)
    exact W.iret (v := nI r) hx hb hr (fun t ht hW => ⟨_, rfl, by rw [ht]; exact ⟨_, rfl, aBel_some h0 hkr, fr.of hS, lrx_part hy hLR hfr2 ⟨_, _, _, _, _, _, hP⟩, hcp⟩⟩) hS.2.2 d_R_below_34
set_option maxHeartbeats 4000000 in
set_option maxRecDepth 100000 in
theorem m_R_above {l : Launch} {D : va_G} {cI cJ cS cO : ClassId} {B0 : Nat} (hl9 : l.stackTraces = false) {y : Nat → Nat} {sg d : Nat} {xs ws : List Nat} (hy : yI B0 y d) (ok0 : Ok sg d xs ws) (a b x : Int32) : CX l D (tyL cI cJ cS cO) B0 y_R_above c_R_above 5 (some .int) (rmK 7 1 6) [.ref (y 0), .int a, .int b, .int x] (fun H => LRx D cI cJ cS cO y sg d xs ws H) (fun v H0 H1 => ∃ w, v = some (.int w) ∧ aAbv (bk xs a b) x w ∧ fr (fun q => q = y 3) H0 H1 ∧ LRx D cI cJ cS cO y sg d xs ws H1 ∧ isPt xs.length a b) (pxI (isPt xs.length a b)) 1 6 (fun q => q = y 3) := by
  refine cx_of (by decide) (Nat.le_of_ble_eq_true rfl) ?_
  intro p e s m below meth c ls hx hb hr hml hown hts hlocks hout hE hpre hl
  have hown : s.vm.findClass "LevelRows" = some m.cls := hown
  have hK := hE.1
  have hl : lv_has ls 5 [(0, .ref (y 0)), (1, .int a), (2, .int b), (3, .int x)] := hl
  have hS : va_S (fun q => q = y 3) s.heap s.heap [] := va_S.rf
  have hR0 := hpre.1.1
  have hRd : ∀ (k : Nat) (q : Nat × va_E), (Rw cO y (nI sg) d (nI xs.length) (nI ws.length))[k]? = some q → ¬ q.1 = y 3 := Rw.off hy (by omega) (by omega)
  have hAB : ∀ q : Nat, q = y 3 → B0 ≤ q := fun q h => by rw [h]; exact hy.2 3 (by omega)
  have hR := hR0
  have hd16 := ok0.d16
  have hx9 := ok0.len
  have hp16 := ok0.p16
  have hsg6 := ok0.2.1
  refine lv_aload_n hx hb d_R_above_0 rfl (lv_at hl 0 rfl) ?_
  refine lv_iload_n hx hb d_R_above_1 rfl (lv_at hl 1 rfl) ?_
  refine lv_iload_n hx hb d_R_above_2 rfl (lv_at hl 2 rfl) ?_
  refine cx_ret (vx_runV (As := [.int a, .int b]) (rest := []) ⟨hx, hb, hml, hown, hts⟩ (m_R_checkPart hl9 a b) ⟨ct_cb 2 hts x_308 x_305 x_1 rfl rfl (by decide +kernel) ⟨by decide, by decide⟩, hts _ x_307, hts _ s_R_checkPart⟩ ⟨st_blind, va_recv hK hR (ci := 2) (q0 := 0) rfl rfl, fun U hU hW => ⟨rfl, hE.at hS hAB hU hW, by rw [hU]; exact hR⟩⟩ rfl rfl hl.1 rfl (lv_room (Nat.le_of_ble_eq_true rfl)) d_R_above_3 ⟨by decide, by decide⟩) hS (fun q h => h.elim) (fun _ _ h => by rw [h.2.1]; exact fr.rf) (fun _ _ h => h.2.2) (fun E ce q H locs hxx hS hce hcv hcl => ?_) (fun v H locs hv hS => ?_)
  · obtain ⟨rfl, hn9, hf9⟩ := hxx
    exact vx_out (fun x hx => (hout x hx).elim) hlocks hce hcv hcl (fun t ht _ => by show (pxI (isPt xs.length a b)) _ s.heap t.heap; rw [ht]; exact ⟨rfl, hn9, hf9⟩) hS.2.2 (by decide) (by decide)
  obtain ⟨rfl, rfl, hcp⟩ := hv
  refine W.eq (g2 := F0 m 6 ls []) rfl ?_
  obtain ⟨hae, hbe, hab, hbx⟩ := hcp.ints hx9
  have hBl : (bk xs a b).length = cn b - cn a := bk_len hab hbx
  have hB6 : ∀ z ∈ bk xs a b, z < 65536 := fun z h => Nat.lt_of_lt_of_le (ok0.lt z (bk_mem h)) hp16
  refine lv_aload_n hx hb d_R_above_6 rfl (lv_at hl 0 rfl) ?_
  refine lv_iload_n hx hb d_R_above_7 rfl (lv_at hl 1 rfl) ?_
  refine lv_iload_n hx hb d_R_above_8 rfl (lv_at hl 2 rfl) ?_
  refine lv_iload_n hx hb d_R_above_9 rfl (lv_at hl 3 rfl) ?_
  refine ct_st (st' := [.int x, .int (nI (cn b)), .int (nI (cn a)), .ref (y 0)]) (by rw [← hbe, ← hae]) ?_
  refine cm_ret (va_runV (As := [.int (nI (cn a)), .int (nI (cn b)), .int x]) (rest := []) ⟨hx, hb, hml, hown, hts⟩ (m_R_howManyBelow hy ok0 hab hbx rfl x) ⟨ct_cb 3 hts x_381 x_378 x_1 rfl rfl (by decide +kernel) ⟨by decide, by decide⟩, hts _ x_380, hts _ s_R_howManyBelow⟩ ⟨st_blind, va_recv hK hR (ci := 2) (q0 := 0) rfl rfl, fun U hU hW => ⟨rfl, hE.at hS hAB hU hW, by rw [hU]; exact ⟨hpre.1, hpre.2.1⟩⟩⟩ rfl rfl hl.1 rfl (lv_room (Nat.le_of_ble_eq_true rfl)) d_R_above_10 ⟨by decide, by decide⟩) hS (fun q h => h) (fun _ _ h => h.2.1) (fun v H locs hv hS => ?_)
  obtain ⟨rfl, hfr1, hPP1⟩ := hv
  refine W.eq (g2 := F0 m 13 ls [.int (nI (cLt (bk xs a b) (cn x)))]) rfl ?_
  have hLR := lrx_part hy hpre hfr1 hPP1
  have hR := hR0.rd hS hRd
  have hcl := cLt_le (bk xs a b) (cn x)
  refine lv_istore (lv' := [(4, .int (nI (cLt (bk xs a b) (cn x)))), (0, .ref (y 0)), (1, .int a), (2, .int b), (3, .int x)]) hx hb d_R_above_13 hl (by decide) rfl (fun ls hl => ?_)
  refine lv_iload hx hb d_R_above_15 (lv_at hl 0 rfl) ?_
  refine lv_iload_n hx hb d_R_above_17 rfl (lv_at hl 3 rfl) ?_
  refine lv_iload_n hx hb d_R_above_18 rfl (lv_at hl 2 rfl) ?_
  refine lv_isub hx hb d_R_above_19 ?_
  refine ct_topi (x' := nI (cn b - cn a)) (by rw [← pk_sub hab, ← hbe, ← hae]) ?_
  rcases Nat.lt_or_ge (cLt (bk xs a b) (cn x)) (cn b - cn a) with h0 | h0
  · refine lv_icmp_ge (tgt := 34) hx hb d_R_above_20 (by decide) (fun c9 => absurd c9 (nI_ge h0 (by omega))) (fun _ => ?_)
    obtain ⟨r, hkr⟩ := kth_of_lt (k := cLt (bk xs a b) (cn x)) (B := bk xs a b) (by omega) hB6
    refine lv_aload_n hx hb d_R_above_23 rfl (lv_at hl 1 rfl) ?_
    refine lv_iload_n hx hb d_R_above_24 rfl (lv_at hl 2 rfl) ?_
    refine lv_iload_n hx hb d_R_above_25 rfl (lv_at hl 3 rfl) ?_
    refine lv_iload hx hb d_R_above_26 (lv_at hl 0 rfl) ?_
    refine ct_st (st' := [.int (nI (cLt (bk xs a b) (cn x))), .int (nI (cn b)), .int (nI (cn a)), .ref (y 0)]) (by rw [← hbe, ← hae]) ?_
    refine cm_ret (va_runV (As := [.int (nI (cn a)), .int (nI (cn b)), .int (nI (cLt (bk xs a b) (cn x)))]) (rest := []) ⟨hx, hb, hml, hown, hts⟩ (m_R_kthLeast hy ok0 hab hbx rfl hkr) ⟨ct_cb 3 hts x_366 x_363 x_1 rfl rfl (by decide +kernel) ⟨by decide, by decide⟩, hts _ x_365, hts _ s_R_kthLeast⟩ ⟨st_blind, va_recv hK hR (ci := 2) (q0 := 0) rfl rfl, fun U hU hW => ⟨rfl, hE.at hS hAB hU hW, by rw [hU]; exact ⟨hLR.1, hLR.2.1⟩⟩⟩ rfl rfl hl.1 rfl (lv_room (Nat.le_of_ble_eq_true rfl)) d_R_above_28 ⟨by decide, by decide⟩) hS (fun q h => h) (fun _ _ h => h.2.1) (fun v H locs hv hS => ?_)
    obtain ⟨rfl, hfr2, u, g2, g3, g4, g5, hu, hP⟩ := hv
    refine W.eq (g2 := F0 m 31 ls [.int (nI r)]) rfl ?_
    refine lv_goto (tgt := 35) hx hb d_R_above_31 (by decide) ?_
    refine vx_ret (W.widen (k := 1) (n := 6) (by decide) (by decide) ?_)
    exact W.iret (v := nI r) hx hb hr (fun t ht hW => ⟨_, rfl, by rw [ht]; exact ⟨_, rfl, aAbv_some hkr, fr.of hS, lrx_part hy hLR hfr2 ⟨_, _, _, _, _, _, hP⟩, hcp⟩⟩) hS.2.2 d_R_above_35
  · refine lv_icmp_ge (tgt := 34) hx hb d_R_above_20 (by decide) (fun _ => ?_) (fun c9 => absurd (nI_le h0 (by omega)) c9)
    refine lv_iconst (v := (-1)) hx hb d_R_above_34 (by decide) ?_
    refine vx_ret (W.widen (k := 1) (n := 6) (by decide) (by decide) ?_)
    exact W.iret (v := -1) hx hb hr (fun t ht hW => ⟨_, rfl, by rw [ht]; exact ⟨_, rfl, aAbv_none (by omega), fr.of hS, hLR, hcp⟩⟩) hS.2.2 d_R_above_35
end
section
/-! What a row is again behind a listing, a building. -/
section LRB
theorem lrx_list {D : va_G} {cI cJ cS cO : ClassId} {y : Nat → Nat} {sg d B0 : Nat} {xs ws : List Nat} {H0 H1 : Heap} (hy : yI B0 y d) (h : LRx D cI cJ cS cO y sg d xs ws H0) (hf : fr (fun q => q = y 3 ∨ q = y 4 ∨ q = y 5) H0 H1) (hp : PP D (y 3) H1) (hl : ∃ lf tf, va_P D vwCl [(y 4, .inl (cI, 1000, .inl lf)), (y 5, .inl (cI, 1000, .inl tf))] H1) : LRx D cI cJ cS cO y sg d xs ws H1 := by
  obtain ⟨h1, -, -, ⟨g, h4⟩, rf, sf, h5, h6⟩ := h
  have hn : ∀ i, i < 8 + 3 * d → i ≠ 3 → i ≠ 4 → i ≠ 5 → ¬ (y i = y 3 ∨ y i = y 4 ∨ y i = y 5) := by
    rintro i h h3 h4 h5 (e | e | e)
    · exact hy.ne h (by omega) h3 e
    · exact hy.ne h (by omega) h4 e
    · exact hy.ne h (by omega) h5 e
  exact ⟨rl_kept h1 hf (hn 0 (by omega) (by omega) (by omega) (by omega)) (hn 7 (by omega) (by omega) (by omega) (by omega)) (fun i h8 h => hn i h (by omega) (by omega) (by omega)), hp, hl, ⟨g, h4.fr hf (va_P.off1 (b := 0) (A := fun q => q = y 3 ∨ q = y 4 ∨ q = y 5) (hn 6 (by omega) (by omega) (by omega) (by omega)))⟩, rf, sf, h5, h6.fr hf (va_P.off2 (A := fun q => q = y 3 ∨ q = y 4 ∨ q = y 5) (hn 1 (by omega) (by omega) (by omega) (by omega)) (hn 2 (by omega) (by omega) (by omega) (by omega)))⟩
theorem lrx_q {D : va_G} {cI cJ cS cO : ClassId} {y : Nat → Nat} {sg d B0 : Nat} {xs ws : List Nat} {H0 H1 : Heap} (hy : yI B0 y d) (h : LRx D cI cJ cS cO y sg d xs ws H0) (hf : fr (AQ y) H0 H1) (hp : PP D (y 3) H1) (hl : ∃ lf tf, va_P D vwCl [(y 4, .inl (cI, 1000, .inl lf)), (y 5, .inl (cI, 1000, .inl tf))] H1) (hg : ∃ g, va_P D vwCl [(y 6, .inl (cI, 1001, .inl g))] H1) : LRx D cI cJ cS cO y sg d xs ws H1 := by
  obtain ⟨h1, -, -, -, rf, sf, h5, h6⟩ := h
  have hn : ∀ i, i < 8 + 3 * d → i ≠ 3 → i ≠ 4 → i ≠ 5 → i ≠ 6 → ¬ AQ y (y i) := by
    rintro i h h3 h4 h5 h6 (e | e | e | e)
    · exact hy.ne h (by omega) h3 e
    · exact hy.ne h (by omega) h4 e
    · exact hy.ne h (by omega) h5 e
    · exact hy.ne h (by omega) h6 e
  exact ⟨rl_kept h1 hf (hn 0 (by omega) (by omega) (by omega) (by omega) (by omega)) (hn 7 (by omega) (by omega) (by omega) (by omega) (by omega)) (fun i h8 h => hn i h (by omega) (by omega) (by omega) (by omega)), hp, hl, hg, rf, sf, h5, h6.fr hf (va_P.off2 (A := AQ y) (hn 1 (by omega) (by omega) (by omega) (by omega) (by omega)) (hn 2 (by omega) (by omega) (by omega) (by omega) (by omega)))⟩
theorem va_S.mono {A B : Nat → Prop} {H0 H : Heap} {locs : List Loc} (h : va_S A H0 H locs) (hAB : ∀ q, A q → B q) : va_S B H0 H locs := ⟨h.1, fun q h1 h2 => h.2.1 q h1 (fun z => h2 (hAB q z)), fun z hz => hAB _ (h.2.2 z hz)⟩
def aCnt (sg d n w : Nat) (x : Int32) : Int32 := if x = 0 then nI n else if x = 1 then nI w else if x = 2 then nI d else nI sg
theorem isCnt {x : Int32} (h : ¬ x < 0 ∧ x ≤ 3) : x = 0 ∨ x = 1 ∨ x = 2 ∨ x = 3 := by
  obtain ⟨j, hj, rfl⟩ := nI_of h.1
  have h2 : j ≤ 3 := (nI_leI hj (by decide)).mp (show nI j ≤ nI 3 from h.2)
  rcases (show j = 0 ∨ j = 1 ∨ j = 2 ∨ j = 3 by omega) with rfl | rfl | rfl | rfl
  · exact Or.inl rfl
  · exact Or.inr (Or.inl rfl)
  · exact Or.inr (Or.inr (Or.inl rfl))
  · exact Or.inr (Or.inr (Or.inr rfl))
theorem notCnt {x : Int32} (h : ¬ (¬ x < 0 ∧ x ≤ 3)) : x.toInt < 0 ∨ 3 < x.toInt := by
  by_cases h0 : x < 0
  · exact Or.inl (by have := Int32.lt_iff_toInt_lt.mp h0; simpa using this)
  · refine Or.inr ?_
    have h1 : ¬ x ≤ 3 := fun z => h ⟨h0, z⟩
    have h2 := Int32.lt_iff_toInt_lt.mp (Int32.not_le.mp h1)
    simpa using h2
/-- the cells that building and clearing write -/
abbrev AB (y : Nat → Nat) (d : Nat) : Nat → Prop := fun q => q = y 0 ∨ q = y 1 ∨ q = y 2 ∨ ∃ i, 8 ≤ i ∧ i < 8 + 3 * d ∧ q = y i
abbrev AS (y : Nat → Nat) (d : Nat) : Nat → Prop := fun q => q = y 1 ∨ q = y 2 ∨ ∃ i, 8 ≤ i ∧ i < 8 + 3 * d ∧ q = y i
theorem AS.not {B0 : Nat} {y : Nat → Nat} {d i : Nat} (hy : yI B0 y d) (h : i < 8) (h1 : i ≠ 1) (h2 : i ≠ 2) : ¬ AS y d (y i) := by
  rintro (e | e | ⟨j, g1, g2, e⟩)
  · exact hy.ne (by omega) (by omega) h1 e
  · exact hy.ne (by omega) (by omega) h2 e
  · exact hy.ne (by omega) g2 (by omega) e
/-- a row, its object written to, its levels kept anew -/
theorem lrx_built {D : va_G} {cI cJ cS cO : ClassId} {y : Nat → Nat} {sg d B0 : Nat} {xs ws zs : List Nat} {H0 H1 H2 : Heap} {A : Nat → Prop} (hy : yI B0 y d) (h : LRx D cI cJ cS cO y sg d xs ws H0) (hf : fr A H0 H1) (hA : ∀ q, A q → q = y 0 ∨ q = y 1) (hf2 : fr (AS y d) H1 H2)
    (hR : va_P D vwCl (Rw cO y (nI sg) d (nI zs.length) 0) H1) (hL : ∀ k, k < d → Lk D cJ cS y d zs k H2) (hr : ∃ rf sf, va_P D vwCl [(y 1, .inl (cI, 1000, .inl rf)), (y 2, .inl (cI, 1000, .inl sf))] H2) : LRx D cI cJ cS cO y sg d zs [] H2 := by
  obtain ⟨-, ⟨f0, f1, f2, f3, f4, f5, h2⟩, ⟨lf, tf, h3⟩, ⟨g, h4⟩, -⟩ := h
  obtain ⟨rf, sf, h6⟩ := hr
  have hn : ∀ i, i < 8 → i ≠ 0 → i ≠ 1 → ¬ A (y i) := fun i h h0 h1 z => (hA _ z).elim (hy.ne (by omega) (by omega) h0) (hy.ne (by omega) (by omega) h1)
  refine ⟨⟨hR.fr hf2 (va_P.off2 (a := y 0) (b := y 7) (AS.not hy (by omega) (by omega) (by omega)) (AS.not hy (by omega) (by omega) (by omega))), hL⟩, ?_, ?_, ?_, rf, sf, fun i x h => by simp at h, h6⟩
  · exact ⟨f0, f1, f2, f3, f4, f5, (h2.fr hf (va_P.off1 (b := 0) (hn 3 (by omega) (by omega) (by omega)))).fr hf2 (va_P.off1 (b := 0) (AS.not hy (by omega) (by omega) (by omega)))⟩
  · exact ⟨lf, tf, (h3.fr hf (va_P.off2 (hn 4 (by omega) (by omega) (by omega)) (hn 5 (by omega) (by omega) (by omega)))).fr hf2 (va_P.off2 (AS.not hy (by omega) (by omega) (by omega)) (AS.not hy (by omega) (by omega) (by omega)))⟩
  · exact ⟨g, (h4.fr hf (va_P.off1 (b := 0) (hn 6 (by omega) (by omega) (by omega)))).fr hf2 (va_P.off1 (b := 0) (AS.not hy (by omega) (by omega) (by omega)))⟩
/-- the levels, where the object and its row alone were written -/
theorem lk_kept {D : va_G} {cJ cS cO : ClassId} {y : Nat → Nat} {sg d wa B0 : Nat} {xs : List Nat} {H0 H1 : Heap} {A : Nat → Prop} (hy : yI B0 y d) (h : RL D cJ cS cO y sg d xs wa H0) (hf : fr A H0 H1) (hA : ∀ q, A q → q = y 0 ∨ q = y 1) : ∀ k, k < d → Lk D cJ cS y d xs k H1 := by
  intro k hk
  obtain ⟨ja, oa, z, ok, hP⟩ := h.2 k hk
  refine ⟨ja, oa, z, ok, hP.fr hf (fun j q hj hA' => ?_)⟩
  rcases hA _ hA' with e | e
  · exact Lk.off hy hk (by omega) j q hj e
  · exact Lk.off hy hk (by omega) j q hj e
end LRB
end
section
/-! LevelRows: different, frequent, bits, count, clear, build. -/
set_option maxHeartbeats 4000000 in
set_option maxRecDepth 100000 in
theorem m_R_different {l : Launch} {D : va_G} {cI cJ cS cO : ClassId} {B0 : Nat} (hl9 : l.stackTraces = false) {y : Nat → Nat} {sg d : Nat} {xs ws : List Nat} (hy : yI B0 y d) (ok0 : Ok sg d xs ws) (a b : Int32) : CX l D (tyL cI cJ cS cO) B0 y_R_different c_R_different 3 (some .int) (rmK 7 1 6) [.ref (y 0), .int a, .int b] (fun H => LRx D cI cJ cS cO y sg d xs ws H) (fun v H0 H1 => v = some (.int (nI (dis (bk xs a b) 65536).length)) ∧ fr (fun q => q = y 3 ∨ q = y 4 ∨ q = y 5) H0 H1 ∧ LRx D cI cJ cS cO y sg d xs ws H1 ∧ isPt xs.length a b) (pxI (isPt xs.length a b)) 1 6 (fun q => q = y 3 ∨ q = y 4 ∨ q = y 5) := by
  refine cx_of (by decide) (Nat.le_of_ble_eq_true rfl) ?_
  intro p e s m below meth c ls hx hb hr hml hown hts hlocks hout hE hpre hl
  have hown : s.vm.findClass "LevelRows" = some m.cls := hown
  have hK := hE.1
  have hl : lv_has ls 3 [(0, .ref (y 0)), (1, .int a), (2, .int b)] := hl
  have hS : va_S (fun q => q = y 3 ∨ q = y 4 ∨ q = y 5) s.heap s.heap [] := va_S.rf
  have hR0 := hpre.1.1
  have hA3 : ∀ q : Nat, (fun q => q = y 3 ∨ q = y 4 ∨ q = y 5) q → ∃ i, 1 ≤ i ∧ i ≤ 6 ∧ q = y i := by
    rintro q (h | h | h)
    · exact ⟨3, by omega, by omega, h⟩
    · exact ⟨4, by omega, by omega, h⟩
    · exact ⟨5, by omega, by omega, h⟩
  have hRd : ∀ (k : Nat) (q : Nat × va_E), (Rw cO y (nI sg) d (nI xs.length) (nI ws.length))[k]? = some q → ¬ (fun q => q = y 3 ∨ q = y 4 ∨ q = y 5) q.1 := fun k q hk h => by obtain ⟨i, h1, h2, h3⟩ := hA3 q.1 h; exact Rw.off hy h1 h2 k q hk h3
  have hAB : ∀ q : Nat, (fun q => q = y 3 ∨ q = y 4 ∨ q = y 5) q → B0 ≤ q := fun q h => by obtain ⟨i, _, _, rfl⟩ := hA3 q h; exact hy.2 i (by omega)
  have hR := hR0
  have hd16 := ok0.d16
  have hx9 := ok0.len
  have hp16 := ok0.p16
  have hsg6 := ok0.2.1
  refine lv_aload_n hx hb d_R_different_0 rfl (lv_at hl 0 rfl) ?_
  refine lv_iload_n hx hb d_R_different_1 rfl (lv_at hl 1 rfl) ?_
  refine lv_iload_n hx hb d_R_different_2 rfl (lv_at hl 2 rfl) ?_
  refine cx_ret (vx_runV (As := [.int a, .int b]) (rest := []) ⟨hx, hb, hml, hown, hts⟩ (m_R_checkPart hl9 a b) ⟨ct_cb 2 hts x_308 x_305 x_1 rfl rfl (by decide +kernel) ⟨by decide, by decide⟩, hts _ x_307, hts _ s_R_checkPart⟩ ⟨st_blind, va_recv hK hR (ci := 2) (q0 := 0) rfl rfl, fun U hU hW => ⟨rfl, hE.at hS hAB hU hW, by rw [hU]; exact hR⟩⟩ rfl rfl hl.1 rfl (lv_room (Nat.le_of_ble_eq_true rfl)) d_R_different_3 ⟨by decide, by decide⟩) hS (fun q h => h.elim) (fun _ _ h => by rw [h.2.1]; exact fr.rf) (fun _ _ h => h.2.2) (fun E ce q H locs hxx hS hce hcv hcl => ?_) (fun v H locs hv hS => ?_)
  · obtain ⟨rfl, hn9, hf9⟩ := hxx
    exact vx_out (fun x hx => (hout x hx).elim) hlocks hce hcv hcl (fun t ht _ => by show (pxI (isPt xs.length a b)) _ s.heap t.heap; rw [ht]; exact ⟨rfl, hn9, hf9⟩) hS.2.2 (by decide) (by decide)
  obtain ⟨rfl, rfl, hcp⟩ := hv
  refine W.eq (g2 := F0 m 6 ls []) rfl ?_
  obtain ⟨hae, hbe, hab, hbx⟩ := hcp.ints hx9
  have hBl : (bk xs a b).length = cn b - cn a := bk_len hab hbx
  have hB6 : ∀ z ∈ bk xs a b, z < 65536 := fun z h => Nat.lt_of_lt_of_le (ok0.lt z (bk_mem h)) hp16
  obtain ⟨lf, tf, hlt0⟩ := hpre.2.2.1
  refine lv_aload_n hx hb d_R_different_6 rfl (lv_at hl 0 rfl) ?_
  refine lv_iload_n hx hb d_R_different_7 rfl (lv_at hl 1 rfl) ?_
  refine lv_iload_n hx hb d_R_different_8 rfl (lv_at hl 2 rfl) ?_
  refine ct_st (st' := [.int (nI (cn b)), .int (nI (cn a)), .ref (y 0)]) (by rw [← hbe, ← hae]) ?_
  refine cm_ret (va_runV (As := [.int (nI (cn a)), .int (nI (cn b))]) (rest := []) ⟨hx, hb, hml, hown, hts⟩ (m_R_listSymbols hy ok0 hab hbx rfl) ⟨ct_cb 2 hts x_406 x_403 x_1 rfl rfl (by decide +kernel) ⟨by decide, by decide⟩, hts _ x_405, hts _ s_R_listSymbols⟩ ⟨st_blind, va_recv hK hR (ci := 2) (q0 := 0) rfl rfl, fun U hU hW => ⟨rfl, hE.at hS hAB hU hW, by rw [hU]; exact ⟨hpre.1, hpre.2.1, hlt0⟩⟩⟩ rfl rfl hl.1 rfl (lv_room (Nat.le_of_ble_eq_true rfl)) d_R_different_9 ⟨by decide, by decide⟩) hS (fun q h => h) (fun _ _ h => h.2.1) (fun v H locs hv hS => ?_)
  obtain ⟨rfl, hfr, hPP, lf2, tf2, hlt, hP⟩ := hv
  refine W.eq (g2 := F0 m 12 ls [.int (nI (dis (bk xs a b) 65536).length)]) rfl ?_
  refine vx_ret (W.widen (k := 1) (n := 6) (by decide) (by decide) ?_)
  exact W.iret (v := nI (dis (bk xs a b) 65536).length) hx hb hr (fun t ht hW => ⟨_, rfl, by rw [ht]; exact ⟨rfl, hfr, lrx_list hy hpre hfr hPP ⟨_, _, hP⟩, hcp⟩⟩) hS.2.2 d_R_different_12
set_option maxHeartbeats 4000000 in
set_option maxRecDepth 100000 in
theorem m_R_frequent {l : Launch} {D : va_G} {cI cJ cS cO : ClassId} {B0 : Nat} (hl9 : l.stackTraces = false) {y : Nat → Nat} {sg d : Nat} {xs ws : List Nat} (hy : yI B0 y d) (ok0 : Ok sg d xs ws) (a b k : Int32) : CX l D (tyL cI cJ cS cO) B0 y_R_frequent c_R_frequent 7 (some .int) (rmK 7 2 12) [.ref (y 0), .int a, .int b, .int k] (fun H => LRx D cI cJ cS cO y sg d xs ws H) (fun v H0 H1 => ∃ w, v = some (.int w) ∧ aFrq (dis (bk xs a b) 65536) ((dis (bk xs a b) 65536).map (cEq (bk xs a b))) k w ∧ fr (fun q => q = y 3 ∨ q = y 4 ∨ q = y 5 ∨ q = y 6) H0 H1 ∧ LRx D cI cJ cS cO y sg d xs ws H1 ∧ (isPt xs.length a b ∧ ¬ k < 0)) (pxI (isPt xs.length a b ∧ ¬ k < 0)) 2 12 (fun q => q = y 3 ∨ q = y 4 ∨ q = y 5 ∨ q = y 6) := by
  refine cx_of (by decide) (Nat.le_of_ble_eq_true rfl) ?_
  intro p e s m below meth c ls hx hb hr hml hown hts hlocks hout hE hpre hl
  have hown : s.vm.findClass "LevelRows" = some m.cls := hown
  have hK := hE.1
  have hl : lv_has ls 7 [(0, .ref (y 0)), (1, .int a), (2, .int b), (3, .int k)] := hl
  have hS : va_S (fun q => q = y 3 ∨ q = y 4 ∨ q = y 5 ∨ q = y 6) s.heap s.heap [] := va_S.rf
  have hR0 := hpre.1.1
  have hA3 : ∀ q : Nat, (fun q => q = y 3 ∨ q = y 4 ∨ q = y 5 ∨ q = y 6) q → ∃ i, 1 ≤ i ∧ i ≤ 6 ∧ q = y i := by
    rintro q (h | h | h | h)
    · exact ⟨3, by omega, by omega, h⟩
    · exact ⟨4, by omega, by omega, h⟩
    · exact ⟨5, by omega, by omega, h⟩
    · exact ⟨6, by omega, by omega, h⟩
  have hRd : ∀ (k : Nat) (q : Nat × va_E), (Rw cO y (nI sg) d (nI xs.length) (nI ws.length))[k]? = some q → ¬ (fun q => q = y 3 ∨ q = y 4 ∨ q = y 5 ∨ q = y 6) q.1 := fun k q hk h => by obtain ⟨i, h1, h2, h3⟩ := hA3 q.1 h; exact Rw.off hy h1 h2 k q hk h3
  have hAB : ∀ q : Nat, (fun q => q = y 3 ∨ q = y 4 ∨ q = y 5 ∨ q = y 6) q → B0 ≤ q := fun q h => by obtain ⟨i, _, _, rfl⟩ := hA3 q h; exact hy.2 i (by omega)
  have hR := hR0
  have hd16 := ok0.d16
  have hx9 := ok0.len
  have hp16 := ok0.p16
  have hsg6 := ok0.2.1
  refine lv_aload_n hx hb d_R_frequent_0 rfl (lv_at hl 0 rfl) ?_
  refine lv_iload_n hx hb d_R_frequent_1 rfl (lv_at hl 1 rfl) ?_
  refine lv_iload_n hx hb d_R_frequent_2 rfl (lv_at hl 2 rfl) ?_
  refine cx_ret (vx_runV (As := [.int a, .int b]) (rest := []) ⟨hx, hb, hml, hown, hts⟩ (m_R_checkPart hl9 a b) ⟨ct_cb 2 hts x_308 x_305 x_1 rfl rfl (by decide +kernel) ⟨by decide, by decide⟩, hts _ x_307, hts _ s_R_checkPart⟩ ⟨st_blind, va_recv hK hR (ci := 2) (q0 := 0) rfl rfl, fun U hU hW => ⟨rfl, hE.at hS hAB hU hW, by rw [hU]; exact hR⟩⟩ rfl rfl hl.1 rfl (lv_room (Nat.le_of_ble_eq_true rfl)) d_R_frequent_3 ⟨by decide, by decide⟩) hS (fun q h => h.elim) (fun _ _ h => by rw [h.2.1]; exact fr.rf) (fun _ _ h => h.2.2) (fun E ce q H locs hxx hS hce hcv hcl => ?_) (fun v H locs hv hS => ?_)
  · obtain ⟨rfl, hn9, hf9⟩ := hxx
    exact vx_out (fun x hx => (hout x hx).elim) hlocks hce hcv hcl (fun t ht _ => by show (pxI (isPt xs.length a b ∧ ¬ k < 0)) _ s.heap t.heap; rw [ht]; exact ⟨rfl, fun h => hn9 h.1, hf9⟩) hS.2.2 (by decide) (by decide)
  obtain ⟨rfl, rfl, hcp⟩ := hv
  refine W.eq (g2 := F0 m 6 ls []) rfl ?_
  refine lv_iload_n hx hb d_R_frequent_6 rfl (lv_at hl 3 rfl) ?_
  refine cx_ret (vx_runS (As := [.int k]) (rest := []) ⟨hx, hb, hml, hown, hts⟩ (m_R_checkNotNegative hl9 k) ⟨ct_cb 1 hts x_340 x_338 x_1 rfl rfl (by decide +kernel) ⟨by decide, by decide⟩, hts _ x_339⟩ ⟨st_blind, fun U hU hW => ⟨rfl, hE.at hS hAB hU hW, by rw [hU]; exact trivial⟩⟩ rfl rfl hl.1 rfl (lv_room (Nat.le_of_ble_eq_true rfl)) d_R_frequent_7 ⟨by decide, by decide⟩) hS (fun q h => h.elim) (fun _ _ h => by rw [h.2.1]; exact fr.rf) (fun _ _ h => h.2.2) (fun E ce q H locs hxx hS hce hcv hcl => ?_) (fun v H locs hv hS => ?_)
  · obtain ⟨rfl, hn9, hf9⟩ := hxx
    exact vx_out (fun x hx => (hout x hx).elim) hlocks hce hcv hcl (fun t ht _ => by show (pxI (isPt xs.length a b ∧ ¬ k < 0)) _ s.heap t.heap; rw [ht]; exact ⟨rfl, fun h => hn9 h.2, hf9⟩) hS.2.2 (by decide) (by decide)
  obtain ⟨rfl, rfl, hcn⟩ := hv
  refine W.eq (g2 := F0 m 10 ls []) rfl ?_
  obtain ⟨hae, hbe, hab, hbx⟩ := hcp.ints hx9
  have hBl : (bk xs a b).length = cn b - cn a := bk_len hab hbx
  have hB6 : ∀ z ∈ bk xs a b, z < 65536 := fun z h => Nat.lt_of_lt_of_le (ok0.lt z (bk_mem h)) hp16
  obtain ⟨hke, hk31⟩ := nn_ints hcn
  obtain ⟨lf0, tf0, hlt0⟩ := hpre.2.2.1
  obtain ⟨g0, hg0⟩ := hpre.2.2.2.1
  refine lv_aload_n hx hb d_R_frequent_10 rfl (lv_at hl 0 rfl) ?_
  refine lv_iload_n hx hb d_R_frequent_11 rfl (lv_at hl 1 rfl) ?_
  refine lv_iload_n hx hb d_R_frequent_12 rfl (lv_at hl 2 rfl) ?_
  refine ct_st (st' := [.int (nI (cn b)), .int (nI (cn a)), .ref (y 0)]) (by rw [← hbe, ← hae]) ?_
  refine cm_ret (va_runV (As := [.int (nI (cn a)), .int (nI (cn b))]) (rest := []) ⟨hx, hb, hml, hown, hts⟩ (m_R_listSymbols hy ok0 hab hbx rfl) ⟨ct_cb 2 hts x_406 x_403 x_1 rfl rfl (by decide +kernel) ⟨by decide, by decide⟩, hts _ x_405, hts _ s_R_listSymbols⟩ ⟨st_blind, va_recv hK hR (ci := 2) (q0 := 0) rfl rfl, fun U hU hW => ⟨rfl, hE.at hS hAB hU hW, by rw [hU]; exact ⟨hpre.1, hpre.2.1, hlt0⟩⟩⟩ rfl rfl hl.1 rfl (lv_room (Nat.le_of_ble_eq_true rfl)) d_R_frequent_13 ⟨by decide, by decide⟩) hS (fun q h => h.elim Or.inl (fun h => Or.inr (h.elim Or.inl (fun h => Or.inr (Or.inl h))))) (fun _ _ h => h.2.1) (fun v H locs hv hS => ?_)
  obtain ⟨rfl, hfr1, hPP, lf, tf, hlt, hP⟩ := hv
  refine W.eq (g2 := F0 m 16 ls [.int (nI (dis (bk xs a b) 65536).length)]) rfl ?_
  have hR := hR0.rd hS hRd
  have hLR := lrx_list hy hpre hfr1 hPP ⟨_, _, hP⟩
  obtain ⟨S, hS9⟩ : ∃ S, S = dis (bk xs a b) 65536 := ⟨_, rfl⟩
  obtain ⟨T, hT9⟩ : ∃ T, T = S.map (cEq (bk xs a b)) := ⟨_, rfl⟩
  rw [← hS9] at hlt ⊢
  rw [← hT9]
  have hSl : S.length ≤ 1000 := by rw [hS9]; have h1 := dis_len (bk xs a b) 65536; have h2 := cLt_le (bk xs a b) 65536; omega
  have hTl : S.length = T.length := by rw [hT9, List.length_map]
  have hT2 : ∀ z ∈ T, z ≤ 1000 := by
    intro z hz
    rw [hT9] at hz
    obtain ⟨u, -, rfl⟩ := List.mem_map.mp hz
    have := cEq_le (bk xs a b) u
    omega
  have htf : ∀ i z, T[i]? = some z → tf i = nI z := by
    intro i z hz
    rw [hT9, List.getElem?_map] at hz
    obtain ⟨u, hu, rfl⟩ := Option.map_eq_some_iff.mp hz
    exact (hlt i u hu).2
  have hgk : va_P D vwCl [(y 6, .inl (cI, 1001, .inl g0))] H := hg0.fr hfr1 (va_P.off1 (b := 0) (A := fun q => q = y 3 ∨ q = y 4 ∨ q = y 5) (by rintro (h | h | h); exact hy.ne (by omega) (by omega) (by omega) h; exact hy.ne (by omega) (by omega) (by omega) h; exact hy.ne (by omega) (by omega) (by omega) h))
  rw [hTl]
  refine W.eq (g2 := F0 m 16 ls [.int (nI T.length)]) rfl ?_
  refine lv_istore (lv' := [(4, .int (nI T.length)), (0, .ref (y 0)), (1, .int a), (2, .int b), (3, .int k)]) hx hb d_R_frequent_16 hl (by decide) rfl (fun ls hl => ?_)
  refine lv_aload_n hx hb d_R_frequent_18 rfl (lv_at hl 1 rfl) ?_
  refine lv_iload hx hb d_R_frequent_19 (lv_at hl 0 rfl) ?_
  refine cm_ret (va_runV (As := [.int (nI T.length)]) (rest := []) ⟨hx, hb, hml, hown, hts⟩ (m_R_countAhead hy ok0 (by omega) hT2 htf) ⟨ct_cb 1 hts x_417 x_414 x_1 rfl rfl (by decide +kernel) ⟨by decide, by decide⟩, hts _ x_416, hts _ s_R_countAhead⟩ ⟨st_blind, va_recv hK hR (ci := 2) (q0 := 0) rfl rfl, fun U hU hW => ⟨rfl, hE.at hS hAB hU hW, by rw [hU]; exact ⟨hLR.1, hP.sub [1] rfl, hgk⟩⟩⟩ rfl rfl hl.1 rfl (lv_room (Nat.le_of_ble_eq_true rfl)) d_R_frequent_21 ⟨by decide, by decide⟩) hS (fun q h => Or.inr (Or.inr (Or.inr h))) (fun _ _ h => h.2.1) (fun v H locs hv hS => ?_)
  obtain ⟨rfl, hfr2, g, hg, hP6⟩ := hv
  refine W.eq (g2 := F0 m 24 ls []) rfl ?_
  have hn6 : ∀ i, i < 8 + 3 * d → i ≠ 6 → ¬ y i = y 6 := fun i h h' => hy.ne h (by omega) h'
  have hP : va_P D vwCl [(y 4, .inl (cI, 1000, .inl (lf))), (y 5, .inl (cI, 1000, .inl (tf))), (y 6, .inl (cI, 1001, .inl (g)))] H := (hP.fr hfr2 (va_P.off2 (A := fun q => q = y 6) (hn6 4 (by omega) (by omega)) (hn6 5 (by omega) (by omega)))).app hP6
  have hD : ∀ e0 e1 e2 : va_E, va_D (fun q => q = y 3 ∨ q = y 4 ∨ q = y 5 ∨ q = y 6) [(y 4, e0), (y 5, e1), (y 6, e2)] := fun e0 e1 e2 => va_D.three (hy.ne (by omega) (by omega) (by omega)) (hn6 4 (by omega) (by omega)) (hn6 5 (by omega) (by omega)) (Or.inr (Or.inl rfl)) (Or.inr (Or.inr (Or.inl rfl))) (Or.inr (Or.inr (Or.inr rfl)))
  obtain ⟨p0, p1, p2, p3, p4, p5, hPP⟩ := hPP
  have hPP : va_P D vwCl (Pw (y 3) p0 p1 p2 p3 p4 p5) H := hPP.fr hfr2 (va_P.off1 (b := 0) (A := fun q => q = y 6) (hn6 3 (by omega) (by omega)))
  have hR := hR0.rd hS hRd
  have hP : va_P D vwCl [(y 3, .inr (1, [.int p0, .int p1, .int p2, .int p3, .int p4, .int p5])), (y 4, .inl (cI, 1000, .inl (lf))), (y 5, .inl (cI, 1000, .inl (tf))), (y 6, .inl (cI, 1001, .inl (g)))] H := hPP.app hP
  have hD : va_D (fun q => q = y 3 ∨ q = y 4 ∨ q = y 5 ∨ q = y 6) [(y 3, .inr (1, [.int p0, .int p1, .int p2, .int p3, .int p4, .int p5])), (y 4, .inl (cI, 1000, .inl (lf))), (y 5, .inl (cI, 1000, .inl (tf))), (y 6, .inl (cI, 1001, .inl (g)))] := va_D.app (va_D.one (Or.inl rfl)) (hD _ _ _) (fun i j p q hi hj => by
    have h0 : p.1 = y 3 := by
      match i, hi with
      | 0, hi => cases hi; rfl
      | i + 1, hi => simp at hi
    rw [h0]
    match j, hj with
    | 0, hj => cases hj; exact hy.ne (by omega) (by omega) (by omega)
    | 1, hj => cases hj; exact hy.ne (by omega) (by omega) (by omega)
    | 2, hj => cases hj; exact hy.ne (by omega) (by omega) (by omega)
    | j + 3, hj => simp at hj)
  refine lv_iconst (v := 0) hx hb d_R_frequent_24 (by decide) ?_
  refine lv_istore (lv' := [(5, .int 0), (4, .int (nI T.length)), (0, .ref (y 0)), (1, .int a), (2, .int b), (3, .int k)]) hx hb d_R_frequent_25 hl (by decide) rfl (fun ls hl => ?_)
  have loop : ∀ (n : Nat) (i : Nat) (g : Nat → Int32) (H : Heap) (locs : List Loc) (ls : Array Slot), (i + n = T.length) → (∀ t, t ≤ 1000 → g t = nI (cGe T (t + 1) + cEq (T.take i) t)) → (∀ j t', j < i → T[j]? = some t' → cGe T (t' + 1) + cEq (T.take j) t' ≠ cn k) → va_S (fun q => q = y 3 ∨ q = y 4 ∨ q = y 5 ∨ q = y 6) s.heap H locs → va_P D vwCl [(y 3, .inr (1, [.int p0, .int p1, .int p2, .int p3, .int p4, .int p5])), (y 4, .inl (cI, 1000, .inl (lf))), (y 5, .inl (cI, 1000, .inl (tf))), (y 6, .inl (cI, 1001, .inl (g)))] H → va_D (fun q => q = y 3 ∨ q = y 4 ∨ q = y 5 ∨ q = y 6) [(y 3, .inr (1, [.int p0, .int p1, .int p2, .int p3, .int p4, .int p5])), (y 4, .inl (cI, 1000, .inl (lf))), (y 5, .inl (cI, 1000, .inl (tf))), (y 6, .inl (cI, 1001, .inl (g)))] → lv_has ls 7 [(5, .int (nI i)), (4, .int (nI T.length)), (0, .ref (y 0)), (1, .int a), (2, .int b), (3, .int k)] → W p l e (rmK 7 2 12) s m [.ref (y 0), .int a, .int b, .int k].toArray below meth c H locs (2) (12) (vx_MQ below (stQ (fun v H0 H1 => ∃ w, v = some (.int w) ∧ aFrq S T k w ∧ fr (fun q => q = y 3 ∨ q = y 4 ∨ q = y 5 ∨ q = y 6) H0 H1 ∧ LRx D cI cJ cS cO y sg d xs ws H1 ∧ (isPt xs.length a b ∧ ¬ k < 0))) (stX (pxI (isPt xs.length a b ∧ ¬ k < 0))) [.ref (y 0), .int a, .int b, .int k].toArray s 2 12 (fun q => q = y 3 ∨ q = y 4 ∨ q = y 5 ∨ q = y 6)) (F0 m 27 ls []) := by
    intro n
    induction n with
    | zero =>
      intro i g H locs ls hin hg1 hno hS hP hD hl
      have hR := hR0.rd hS hRd
      have hiT : i = T.length := by omega
      refine lv_iload hx hb d_R_frequent_27 (lv_at hl 0 rfl) ?_
      refine lv_iload hx hb d_R_frequent_29 (lv_at hl 1 rfl) ?_
      refine lv_icmp_ge (tgt := 73) hx hb d_R_frequent_31 (by decide) (fun _ => ?_) (fun c9 => absurd (nI_le (by omega) (by omega)) c9)
      refine lv_iconst (v := (-1)) hx hb d_R_frequent_73 (by decide) ?_
      refine vx_ret (W.widen (k := 2) (n := 12) (by decide) (by decide) ?_)
      exact W.iret (v := -1) hx hb hr (fun t ht hW => ⟨_, rfl, by rw [ht]; exact ⟨_, rfl, Or.inr ⟨fun j t' h => hno j t' (by have := (List.getElem?_eq_some_iff.mp h).1; omega) h, rfl⟩, fr.of hS, lrx_q hy hpre (fr.of hS) ⟨_, _, _, _, _, _, hP.sub [0] rfl⟩ ⟨_, _, hP.sub [1, 2] rfl⟩ ⟨_, hP.sub [3] rfl⟩, hcp, hcn⟩⟩) hS.2.2 d_R_frequent_74
    | succ n ih =>
      intro i g H locs ls hin hg1 hno hS hP hD hl
      have hR := hR0.rd hS hRd
      obtain ⟨tt, hti⟩ : ∃ x, T[i]? = some x := ⟨T[i], List.getElem?_eq_getElem (by omega)⟩
      obtain ⟨sy, hsi⟩ : ∃ x, S[i]? = some x := ⟨S[i], List.getElem?_eq_getElem (by omega)⟩
      have ht2 := hT2 tt (List.mem_of_getElem? hti)
      have hb1 := cGe_le T (tt + 1)
      have hb2 := cEq_le (T.take i) tt
      rw [List.length_take] at hb2
      refine lv_iload hx hb d_R_frequent_27 (lv_at hl 0 rfl) ?_
      refine lv_iload hx hb d_R_frequent_29 (lv_at hl 1 rfl) ?_
      refine lv_icmp_ge (tgt := 73) hx hb d_R_frequent_31 (by decide) (fun c9 => absurd c9 (nI_ge (by omega) (by omega))) (fun _ => ?_)
      refine lv_aload_n hx hb d_R_frequent_34 rfl (lv_at hl 2 rfl) ?_
      refine va_get (D := D) (ci := 2) (v := .ref (y 6)) (C := n_R) (T := f_R) (N := 10) hx hb hts in_R hown hK hR 0 rfl rfl 9 (by decide) (hts _ x_91) (fun _ h9 => h9) rfl d_R_frequent_35 ?_
      refine lv_aload_n hx hb d_R_frequent_38 rfl (lv_at hl 2 rfl) ?_
      refine va_get (D := D) (ci := 2) (v := .ref (y 5)) (C := n_R) (T := f_R) (N := 10) hx hb hts in_R hown hK hR 0 rfl rfl 8 (by decide) (hts _ x_90) (fun _ h9 => h9) rfl d_R_frequent_39 ?_
      refine lv_iload hx hb d_R_frequent_42 (lv_at hl 0 rfl) ?_
      refine va_iald hx hb hK hP 2 0 rfl rfl (vp_in_nI (by omega) (by decide)) d_R_frequent_44 ?_
      refine ct_topi (x' := nI tt) (by rw [nI_clamp (by omega)]; exact htf i tt hti) ?_
      refine lv_dup2_11 hx hb d_R_frequent_45 rfl rfl ?_
      refine va_iald hx hb hK hP 3 0 rfl rfl (vp_in_nI (by omega) (by decide)) d_R_frequent_46 ?_
      refine ct_topi (x' := nI (cGe T (tt + 1) + cEq (T.take i) tt)) (by rw [nI_clamp (by omega)]; exact hg1 tt (by omega)) ?_
      refine lv_dup_x2 hx hb d_R_frequent_47 rfl rfl rfl ?_
      refine lv_iconst (v := 1) hx hb d_R_frequent_48 (by decide) ?_
      refine lv_iadd hx hb d_R_frequent_49 ?_
      refine ct_topi (x' := nI (cGe T (tt + 1) + cEq (T.take i) tt + 1)) ((nI_succ _).symm) ?_
      refine va_iast hx hb hK hP hD hS 3 0 rfl rfl (vp_in_nI (by omega) (by decide)) d_R_frequent_50 (fun H locs hP hD hS => ?_)
      rw [nI_clamp (by omega)] at hP hD
      have hP : va_P D vwCl [(y 3, .inr (1, [.int p0, .int p1, .int p2, .int p3, .int p4, .int p5])), (y 4, .inl (cI, 1000, .inl (lf))), (y 5, .inl (cI, 1000, .inl (tf))), (y 6, .inl (cI, 1001, .inl (upd g tt (nI (cGe T (tt + 1) + cEq (T.take i) tt + 1)))))] H := hP
      have hD : va_D (fun q => q = y 3 ∨ q = y 4 ∨ q = y 5 ∨ q = y 6) [(y 3, .inr (1, [.int p0, .int p1, .int p2, .int p3, .int p4, .int p5])), (y 4, .inl (cI, 1000, .inl (lf))), (y 5, .inl (cI, 1000, .inl (tf))), (y 6, .inl (cI, 1001, .inl (upd g tt (nI (cGe T (tt + 1) + cEq (T.take i) tt + 1)))))] := hD
      have hR := hR0.rd hS hRd
      refine lv_istore (lv' := [(6, .int (nI (cGe T (tt + 1) + cEq (T.take i) tt))), (5, .int (nI i)), (4, .int (nI T.length)), (0, .ref (y 0)), (1, .int a), (2, .int b), (3, .int k)]) hx hb d_R_frequent_51 hl (by decide) rfl (fun ls hl => ?_)
      refine lv_iload hx hb d_R_frequent_53 (lv_at hl 0 rfl) ?_
      refine lv_iload_n hx hb d_R_frequent_55 rfl (lv_at hl 6 rfl) ?_
      by_cases hkt : cGe T (tt + 1) + cEq (T.take i) tt = cn k
      · refine lv_icmp_ne (tgt := 67) hx hb d_R_frequent_56 (by decide) (fun c9 => absurd (by rw [hke, ← hkt]) c9) (fun _ => ?_)
        refine lv_aload_n hx hb d_R_frequent_59 rfl (lv_at hl 3 rfl) ?_
        refine va_get (D := D) (ci := 2) (v := .ref (y 4)) (C := n_R) (T := f_R) (N := 10) hx hb hts in_R hown hK hR 0 rfl rfl 7 (by decide) (hts _ x_89) (fun _ h9 => h9) rfl d_R_frequent_60 ?_
        refine lv_iload hx hb d_R_frequent_63 (lv_at hl 1 rfl) ?_
        refine va_iald hx hb hK hP 1 0 rfl rfl (vp_in_nI (by omega) (by decide)) d_R_frequent_65 ?_
        refine ct_topi (x' := nI sy) (by rw [nI_clamp (by omega)]; exact (hlt i sy hsi).1) ?_
        refine vx_ret (W.widen (k := 2) (n := 12) (by decide) (by decide) ?_)
        exact W.iret (v := nI sy) hx hb hr (fun t ht hW => ⟨_, rfl, by rw [ht]; exact ⟨_, rfl, Or.inl ⟨i, sy, tt, hsi, hti, hkt, hno, rfl⟩, fr.of hS, lrx_q hy hpre (fr.of hS) ⟨_, _, _, _, _, _, hP.sub [0] rfl⟩ ⟨_, _, hP.sub [1, 2] rfl⟩ ⟨_, hP.sub [3] rfl⟩, hcp, hcn⟩⟩) hS.2.2 d_R_frequent_66
      · refine lv_icmp_ne (tgt := 67) hx hb d_R_frequent_56 (by decide) (fun _ => ?_) (fun c9 => absurd c9 (fun h9 => hkt ((nI_eq (by omega) hk31).mp (h9.trans hke))))
        refine lv_iinc (v := nI (i + 1)) (lv' := [(5, .int (nI (i + 1))), (6, .int (nI (cGe T (tt + 1) + cEq (T.take i) tt))), (4, .int (nI T.length)), (0, .ref (y 0)), (1, .int a), (2, .int b), (3, .int k)]) hx hb d_R_frequent_67 hl (k := 1) rfl ((nI_succ i).symm) (by decide) rfl (fun ls hl => ?_)
        refine lv_goto (tgt := 27) hx hb d_R_frequent_70 (by decide) ?_
        refine ih (i + 1) _ H _ ls (by omega) (fun t h9 => ?_) (fun j t' hj htj => ?_) hS hP hD (lv_sub hl [0, 2, 3, 4, 5, 6] rfl)
        · rw [cEq_take hti t]
          by_cases e9 : t = tt
          · subst e9; simp only [upd, if_true]; rfl
          · have e8 : ¬ tt = t := fun h => e9 h.symm
            simp only [upd, if_neg e9, if_neg e8, Nat.add_zero]; exact hg1 t h9
        · rcases Nat.lt_or_ge j i with h8 | h8
          · exact hno j t' h8 htj
          · have e9 : j = i := by omega
            subst e9
            rw [hti] at htj
            cases htj
            exact hkt
  refine W.widen (k := 2) (n := 12) (by decide) (by decide) ?_
  exact loop T.length 0 g H _ ls (by omega) (fun t h9 => hg t h9) (fun j t' hj => absurd hj (Nat.not_lt_zero j)) hS hP hD (lv_sub hl [0, 1, 2, 3, 4, 5] rfl)
set_option maxHeartbeats 4000000 in
set_option maxRecDepth 100000 in
theorem m_R_bits {l : Launch} {D : va_G} {cI cJ cS cO : ClassId} {B0 : Nat} {y : Nat → Nat} {sg d : Nat} {xs ws : List Nat} (hy : yI B0 y d) (ok0 : Ok sg d xs ws) : CM l D (tyL cI cJ cS cO) B0 y_R_bits c_R_bits 2 (some .int) (rmK 0 0 0) [.ref (y 0)] (fun H => LRx D cI cJ cS cO y sg d xs ws H) (fun v H0 H1 => v = some (.int (nI (d * ((xs.length + 63) / 64 * 80 + 32)))) ∧ H1 = H0) 0 0 (fun _ => False) := by
  refine cm_of (by decide) (Nat.le_of_ble_eq_true rfl) ?_
  intro p e s m below meth c ls hx hb hr hml hown hts hlocks hnm hE hpre hl
  have hown : s.vm.findClass "LevelRows" = some m.cls := hown
  have hK := hE.1
  have hl : lv_has ls 2 [(0, .ref (y 0))] := hl
  have hP : va_P D vwCl [(y 0, .inr (2, [.int (nI sg), .ref (y 7), .int (nI xs.length), .int (nI ws.length), .ref (y 1), .ref (y 2), .ref (y 3), .ref (y 4), .ref (y 5), .ref (y 6)])), (y 7, .inl (cO, d, .inr (.inr (.inr (.inr (fun i => some (y (8 + 3 * i))))))))] s.heap := hpre.1.1
  have hx9 := ok0.len
  refine lv_aload_n hx hb d_R_bits_0 rfl (lv_at hl 0 rfl) ?_
  refine va_get (D := D) (ci := 2) (v := .int (nI xs.length)) (C := n_R) (T := f_R) (N := 10) hx hb hts in_R hown hK hP 0 rfl rfl 2 (by decide) (hts _ x_84) (fun _ h9 => h9) rfl d_R_bits_1 ?_
  refine lv_bipush (v := 64) hx hb d_R_bits_4 (by decide) ?_
  refine lv_iadd hx hb d_R_bits_6 ?_
  refine ct_topi (x' := nI (xs.length + 64)) (nI_add _ 64) ?_
  refine lv_iconst (v := 1) hx hb d_R_bits_7 (by decide) ?_
  refine lv_isub hx hb d_R_bits_8 ?_
  refine ct_topi (x' := nI (xs.length + 63)) (pk_sub (a := xs.length + 64) (b := 1) (by omega)) ?_
  refine lv_bipush (v := 64) hx hb d_R_bits_9 (by decide) ?_
  refine lv_idiv hx hb d_R_bits_11 (by decide) ?_
  refine ct_topi (x' := nI ((xs.length + 63) / 64)) (pk_div (d := 64) (by omega) (by decide) (by decide)) ?_
  refine lv_istore_n (lv' := [(1, .int (nI ((xs.length + 63) / 64))), (0, .ref (y 0))]) hx hb d_R_bits_12 rfl hl (by decide) rfl (fun ls hl => ?_)
  refine lv_aload_n hx hb d_R_bits_13 rfl (lv_at hl 1 rfl) ?_
  refine va_get (D := D) (ci := 2) (v := .ref (y 7)) (C := n_R) (T := f_R) (N := 10) hx hb hts in_R hown hK hP 0 rfl rfl 1 (by decide) (hts _ x_83) (fun _ h9 => h9) rfl d_R_bits_14 ?_
  refine va_alen hx hb hK hP 1 3 rfl rfl (v := nI (d)) rfl d_R_bits_17 ?_
  refine lv_iload_n hx hb d_R_bits_18 rfl (lv_at hl 0 rfl) ?_
  refine lv_bipush (v := 80) hx hb d_R_bits_19 (by decide) ?_
  refine lv_imul hx hb d_R_bits_21 ?_
  refine ct_topi (x' := nI ((xs.length + 63) / 64 * 80)) (pk_mul _ 80) ?_
  refine lv_bipush (v := 32) hx hb d_R_bits_22 (by decide) ?_
  refine lv_iadd hx hb d_R_bits_24 ?_
  refine ct_topi (x' := nI ((xs.length + 63) / 64 * 80 + 32)) (nI_add _ 32) ?_
  refine lv_imul hx hb d_R_bits_25 ?_
  refine ct_topi (x' := nI (d * ((xs.length + 63) / 64 * 80 + 32))) (pk_mul _ _) ?_
  exact W.iret (v := nI (d * ((xs.length + 63) / 64 * 80 + 32))) hx hb hr (fun t ht hW => ⟨_, rfl, rfl, ht⟩) (fun _ h => nomatch h) d_R_bits_26
set_option maxHeartbeats 4000000 in
set_option maxRecDepth 100000 in
theorem m_R_count {l : Launch} {D : va_G} {cI cJ cS cO : ClassId} {B0 : Nat} (hl9 : l.stackTraces = false) {y : Nat → Nat} {sg d : Nat} {xs ws : List Nat} (hy : yI B0 y d) (ok0 : Ok sg d xs ws) (x : Int32) : CX l D (tyL cI cJ cS cO) B0 y_R_count c_R_count 2 (some .int) (rmK 7 1 6) [.ref (y 0), .int x] (fun H => LRx D cI cJ cS cO y sg d xs ws H) (fun v H0 H1 => v = some (.int (aCnt sg d xs.length ws.length x)) ∧ H1 = H0 ∧ (¬ x < 0 ∧ x ≤ 3)) (pxI (¬ x < 0 ∧ x ≤ 3)) 1 6 (fun _ => False) := by
  refine cx_of (by decide) (Nat.le_of_ble_eq_true rfl) ?_
  intro p e s m below meth c ls hx hb hr hml hown hts hlocks hout hE hpre hl
  have hown : s.vm.findClass "LevelRows" = some m.cls := hown
  have hK := hE.1
  have hl : lv_has ls 2 [(0, .ref (y 0)), (1, .int x)] := hl
  have hS : va_S (fun _ => False) s.heap s.heap [] := va_S.rf
  have hR0 := hpre.1.1
  have hRd : ∀ (k : Nat) (q : Nat × va_E), (Rw cO y (nI sg) d (nI xs.length) (nI ws.length))[k]? = some q → ¬ (fun _ : Nat => False) q.1 := fun _ _ _ h => h
  have hAB : ∀ q : Nat, (fun _ : Nat => False) q → B0 ≤ q := fun _ h => h.elim
  have hR := hR0
  have hd16 := ok0.d16
  have hx9 := ok0.len
  have hp16 := ok0.p16
  have hsg6 := ok0.2.1
  refine lv_iload_n hx hb d_R_count_0 rfl (lv_at hl 1 rfl) ?_
  by_cases hcd : ¬ x < 0 ∧ x ≤ 3
  · rcases isCnt hcd with h0 | h0 | h0 | h0
    · refine lv_tableIn (off := 31) (tgt := 32) hx hb d_R_count_1 (by rw [h0]; decide) (by rw [h0]; decide) (by rw [h0]; rfl) (by decide) ?_
      refine lv_aload_n hx hb d_R_count_32 rfl (lv_at hl 0 rfl) ?_
      refine va_get (D := D) (ci := 2) (v := .int (nI xs.length)) (C := n_R) (T := f_R) (N := 10) hx hb hts in_R hown hK hR 0 rfl rfl 2 (by decide) (hts _ x_84) (fun _ h9 => h9) rfl d_R_count_33 ?_
      refine vx_ret (W.widen (k := 1) (n := 6) (by decide) (by decide) ?_)
      exact W.iret (v := nI xs.length) hx hb hr (fun t ht hW => ⟨_, rfl, by rw [h0]; rfl, ht, hcd⟩) (fun _ h => nomatch h) d_R_count_36
    · refine lv_tableIn (off := 36) (tgt := 37) hx hb d_R_count_1 (by rw [h0]; decide) (by rw [h0]; decide) (by rw [h0]; rfl) (by decide) ?_
      refine lv_aload_n hx hb d_R_count_37 rfl (lv_at hl 0 rfl) ?_
      refine va_get (D := D) (ci := 2) (v := .int (nI ws.length)) (C := n_R) (T := f_R) (N := 10) hx hb hts in_R hown hK hR 0 rfl rfl 3 (by decide) (hts _ x_85) (fun _ h9 => h9) rfl d_R_count_38 ?_
      refine vx_ret (W.widen (k := 1) (n := 6) (by decide) (by decide) ?_)
      exact W.iret (v := nI ws.length) hx hb hr (fun t ht hW => ⟨_, rfl, by rw [h0]; rfl, ht, hcd⟩) (fun _ h => nomatch h) d_R_count_41
    · refine lv_tableIn (off := 41) (tgt := 42) hx hb d_R_count_1 (by rw [h0]; decide) (by rw [h0]; decide) (by rw [h0]; rfl) (by decide) ?_
      refine lv_aload_n hx hb d_R_count_42 rfl (lv_at hl 0 rfl) ?_
      refine va_get (D := D) (ci := 2) (v := .ref (y 7)) (C := n_R) (T := f_R) (N := 10) hx hb hts in_R hown hK hR 0 rfl rfl 1 (by decide) (hts _ x_83) (fun _ h9 => h9) rfl d_R_count_43 ?_
      refine va_alen hx hb hK hR 1 3 rfl rfl (v := nI (d)) rfl d_R_count_46 ?_
      refine vx_ret (W.widen (k := 1) (n := 6) (by decide) (by decide) ?_)
      exact W.iret (v := nI d) hx hb hr (fun t ht hW => ⟨_, rfl, by rw [h0]; rfl, ht, hcd⟩) (fun _ h => nomatch h) d_R_count_47
    · refine lv_tableIn (off := 47) (tgt := 48) hx hb d_R_count_1 (by rw [h0]; decide) (by rw [h0]; decide) (by rw [h0]; rfl) (by decide) ?_
      refine lv_aload_n hx hb d_R_count_48 rfl (lv_at hl 0 rfl) ?_
      refine va_get (D := D) (ci := 2) (v := .int (nI sg)) (C := n_R) (T := f_R) (N := 10) hx hb hts in_R hown hK hR 0 rfl rfl 0 (by decide) (hts _ x_82) (fun _ h9 => h9) rfl d_R_count_49 ?_
      refine vx_ret (W.widen (k := 1) (n := 6) (by decide) (by decide) ?_)
      exact W.iret (v := nI sg) hx hb hr (fun t ht hW => ⟨_, rfl, by rw [h0]; rfl, ht, hcd⟩) (fun _ h => nomatch h) d_R_count_52
  · refine lv_tableOut (tgt := 53) hx hb d_R_count_1 (notCnt hcd) (by decide) ?_
    exact ct_thr hx hb hl9 hown hts hE hS hAB (by rw [hml]; exact hl.1) (by decide +kernel) (at_I hts hE.2.1) ot_I x_190 x_10 x_428 d_R_count_53 d_R_count_56 d_R_count_57 d_R_count_59 d_R_count_62 hout (by decide) (Nat.le_of_ble_eq_true rfl) (by decide) (by decide) hlocks (fun H1 hf => ⟨rfl, hcd, hf⟩) hS.2.2 (by decide) (by decide)
set_option maxHeartbeats 4000000 in
set_option maxRecDepth 100000 in
theorem m_R_clear {l : Launch} {D : va_G} {cI cJ cS cO : ClassId} {B0 : Nat} {y : Nat → Nat} {sg d : Nat} {xs ws : List Nat} (hy : yI B0 y d) (ok0 : Ok sg d xs ws) : CM l D (tyL cI cJ cS cO) B0 y_R_clear c_R_clear 1 none (rmK 5 0 0) [.ref (y 0)] (fun H => LRx D cI cJ cS cO y sg d xs ws H) (fun v H0 H1 => v = none ∧ fr (AB y d) H0 H1 ∧ LRx D cI cJ cS cO y sg d [] [] H1) 0 0 (AB y d) := by
  refine cm_of (by decide) (Nat.le_of_ble_eq_true rfl) ?_
  intro p e s m below meth c ls hx hb hr hml hown hts hlocks hnm hE hpre hl
  have hown : s.vm.findClass "LevelRows" = some m.cls := hown
  have hK := hE.1
  have hl : lv_has ls 1 [(0, .ref (y 0))] := hl
  have hd16 := ok0.d16
  have hx9 := ok0.len
  have hp16 := ok0.p16
  have hA9 : ∀ q : Nat, AB y d q → B0 ≤ q := by
    rintro q (rfl | rfl | rfl | ⟨i, h1, h2, rfl⟩)
    · exact hy.2 _ (by omega)
    · exact hy.2 _ (by omega)
    · exact hy.2 _ (by omega)
    · exact hy.2 _ h2
  have hA8 : ∀ q : Nat, (q = y 0 ∨ q = y 1) → AB y d q := fun q h => h.elim Or.inl (fun h => Or.inr (Or.inl h))
  have hAB : ∀ q : Nat, (q = y 0 ∨ q = y 1) → B0 ≤ q := fun q h => hA9 q (hA8 q h)
  have hV0 : va_P D vwCl [(y 7, .inl (cO, d, .inr (.inr (.inr (.inr (fun i => some (y (8 + 3 * i))))))))] s.heap := hpre.1.1.sub [1] rfl
  have hVd : ∀ (k : Nat) (q : Nat × va_E), ([(y 7, .inl (cO, d, .inr (.inr (.inr (.inr (fun i => some (y (8 + 3 * i))))))))] : va_W)[k]? = some q → ¬ (q.1 = y 0 ∨ q.1 = y 1) := va_P.off1 (b := 0) (A := fun q => q = y 0 ∨ q = y 1) (fun h => h.elim (hy.ne (by omega) (by omega) (by omega)) (hy.ne (by omega) (by omega) (by omega)))
  have hV := hV0
  obtain ⟨rf, sf, hrw, hrs⟩ := hpre.2.2.2.2
  have hS : va_S (fun q => q = y 0 ∨ q = y 1) s.heap s.heap [] := va_S.rf
  have hZ0 : va_P D vwCl [(y 2, .inl (cI, 1000, .inl sf))] s.heap := hrs.sub [1] rfl
  have hZd : ∀ (k : Nat) (q : Nat × va_E), ([(y 2, .inl (cI, 1000, .inl sf))] : va_W)[k]? = some q → ¬ (q.1 = y 0 ∨ q.1 = y 1) := va_P.off1 (b := 0) (A := fun q => q = y 0 ∨ q = y 1) (fun h => h.elim (hy.ne (by omega) (by omega) (by omega)) (hy.ne (by omega) (by omega) (by omega)))
  have hP : va_P D vwCl [(y 0, .inr (2, [.int (nI sg), .ref (y 7), .int (nI xs.length), .int (nI ws.length), .ref (y 1), .ref (y 2), .ref (y 3), .ref (y 4), .ref (y 5), .ref (y 6)])), (y 1, .inl (cI, 1000, .inl (rf)))] s.heap := (hpre.1.1.sub [0] rfl).app (hrs.sub [0] rfl)
  have hD : va_D (fun q => q = y 0 ∨ q = y 1) [(y 0, .inr (2, [.int (nI sg), .ref (y 7), .int (nI xs.length), .int (nI ws.length), .ref (y 1), .ref (y 2), .ref (y 3), .ref (y 4), .ref (y 5), .ref (y 6)])), (y 1, .inl (cI, 1000, .inl (rf)))] := va_D.two (hy.ne (by omega) (by omega) (by omega)) (Or.inl rfl) (Or.inr rfl)
  refine lv_aload_n hx hb d_R_clear_0 rfl (lv_at hl 0 rfl) ?_
  refine lv_iconst (v := 0) hx hb d_R_clear_1 (by decide) ?_
  refine va_put (D := D) (ci := 2) (v := .int 0) (ty := .int) (C := n_R) (T := f_R) (N := 10) hx hb hts in_R t_R ty_R nm_R hown hK hP hD hS 0 rfl rfl 2 (by decide) (hts _ x_84) (fun _ h9 => h9) rfl (by decide +kernel) rfl rfl (Nat.le_of_ble_eq_true rfl) d_R_clear_2 (fun H locs hP hD hS => ?_)
  have hP : va_P D vwCl [(y 0, .inr (2, [.int (nI sg), .ref (y 7), .int 0, .int (nI ws.length), .ref (y 1), .ref (y 2), .ref (y 3), .ref (y 4), .ref (y 5), .ref (y 6)])), (y 1, .inl (cI, 1000, .inl (rf)))] H := hP
  have hD : va_D (fun q => q = y 0 ∨ q = y 1) [(y 0, .inr (2, [.int (nI sg), .ref (y 7), .int 0, .int (nI ws.length), .ref (y 1), .ref (y 2), .ref (y 3), .ref (y 4), .ref (y 5), .ref (y 6)])), (y 1, .inl (cI, 1000, .inl (rf)))] := hD
  have hV := hV0.rd hS hVd
  refine lv_aload_n hx hb d_R_clear_5 rfl (lv_at hl 0 rfl) ?_
  refine lv_iconst (v := 0) hx hb d_R_clear_6 (by decide) ?_
  refine va_put (D := D) (ci := 2) (v := .int 0) (ty := .int) (C := n_R) (T := f_R) (N := 10) hx hb hts in_R t_R ty_R nm_R hown hK hP hD hS 0 rfl rfl 3 (by decide) (hts _ x_85) (fun _ h9 => h9) rfl (by decide +kernel) rfl rfl (Nat.le_of_ble_eq_true rfl) d_R_clear_7 (fun H locs hP hD hS => ?_)
  have hP : va_P D vwCl [(y 0, .inr (2, [.int (nI sg), .ref (y 7), .int 0, .int 0, .ref (y 1), .ref (y 2), .ref (y 3), .ref (y 4), .ref (y 5), .ref (y 6)])), (y 1, .inl (cI, 1000, .inl (rf)))] H := hP
  have hD : va_D (fun q => q = y 0 ∨ q = y 1) [(y 0, .inr (2, [.int (nI sg), .ref (y 7), .int 0, .int 0, .ref (y 1), .ref (y 2), .ref (y 3), .ref (y 4), .ref (y 5), .ref (y 6)])), (y 1, .inl (cI, 1000, .inl (rf)))] := hD
  have hV := hV0.rd hS hVd
  refine lv_aload_n hx hb d_R_clear_10 rfl (lv_at hl 0 rfl) ?_
  have hLk := lk_kept hy hpre.1 (fr.of hS) (fun q h => h)
  have hfr1 := fr.of hS
  have hZ := hZ0.rd hS hZd
  have hS : va_S (AB y d) s.heap H _ := hS.mono hA8
  have hRw : va_P D vwCl (Rw cO y (nI sg) d (nI (([] : List Nat)).length) 0) H := (hP.sub [0] rfl).app hV
  refine cm_ret (va_runV (As := []) (rest := []) ⟨hx, hb, hml, hown, hts⟩ (m_R_storeLevels (xs := ([] : List Nat)) hy hd16 (Nat.zero_le _) (fun x h => nomatch h) (fun i x h => by simp at h)) ⟨ct_cb 0 hts x_146 x_143 x_1 rfl rfl (by decide +kernel) ⟨by decide, by decide⟩, hts _ x_145, hts _ s_R_storeLevels⟩ ⟨st_blind, va_recv hK hP (ci := 2) (q0 := 0) rfl rfl, fun U hU hW => ⟨rfl, hE.at hS hA9 hU hW, by rw [hU]; exact ⟨hRw, (hP.sub [1] rfl).app hZ, fun k hk => by obtain ⟨ja, oa, z, _, h⟩ := hLk k hk; exact ⟨ja, oa, z, h⟩⟩⟩⟩ rfl rfl hl.1 rfl (lv_room (Nat.le_of_ble_eq_true rfl)) d_R_clear_11 ⟨by decide, by decide⟩) hS (fun q h => Or.inr h) (fun _ _ h => h.2.1) (fun v H locs hv hS => ?_)
  obtain ⟨rfl, hfr2, hLk2, hr2⟩ := hv
  refine W.eq (g2 := F0 m 14 ls []) rfl ?_
  exact W.vret hx hb hr (fun t ht hW => ⟨_, rfl, by rw [ht]; exact ⟨rfl, fr.of hS, lrx_built hy hpre hfr1 (fun q h => h) hfr2 hRw hLk2 hr2⟩⟩) hS.2.2 d_R_clear_14
set_option maxHeartbeats 4000000 in
set_option maxRecDepth 100000 in
theorem m_R_build {l : Launch} {D : va_G} {cI cJ cS cO : ClassId} {B0 : Nat} {y : Nat → Nat} {sg d : Nat} {xs ws : List Nat} (hy : yI B0 y d) (ok0 : Ok sg d xs ws) : CM l D (tyL cI cJ cS cO) B0 y_R_build c_R_build 2 (some .int) (rmK 5 0 0) [.ref (y 0)] (fun H => LRx D cI cJ cS cO y sg d xs ws H) (fun v H0 H1 => v = some (.int (nI (xs.length + ws.length))) ∧ fr (AB y d) H0 H1 ∧ LRx D cI cJ cS cO y sg d (xs ++ ws) [] H1) 0 0 (AB y d) := by
  refine cm_of (by decide) (Nat.le_of_ble_eq_true rfl) ?_
  intro p e s m below meth c ls hx hb hr hml hown hts hlocks hnm hE hpre hl
  have hown : s.vm.findClass "LevelRows" = some m.cls := hown
  have hK := hE.1
  have hl : lv_has ls 2 [(0, .ref (y 0))] := hl
  have hd16 := ok0.d16
  have hx9 := ok0.len
  have hp16 := ok0.p16
  have hA9 : ∀ q : Nat, AB y d q → B0 ≤ q := by
    rintro q (rfl | rfl | rfl | ⟨i, h1, h2, rfl⟩)
    · exact hy.2 _ (by omega)
    · exact hy.2 _ (by omega)
    · exact hy.2 _ (by omega)
    · exact hy.2 _ h2
  have hA8 : ∀ q : Nat, (q = y 0 ∨ q = y 1) → AB y d q := fun q h => h.elim Or.inl (fun h => Or.inr (Or.inl h))
  have hAB : ∀ q : Nat, (q = y 0 ∨ q = y 1) → B0 ≤ q := fun q h => hA9 q (hA8 q h)
  have hV0 : va_P D vwCl [(y 7, .inl (cO, d, .inr (.inr (.inr (.inr (fun i => some (y (8 + 3 * i))))))))] s.heap := hpre.1.1.sub [1] rfl
  have hVd : ∀ (k : Nat) (q : Nat × va_E), ([(y 7, .inl (cO, d, .inr (.inr (.inr (.inr (fun i => some (y (8 + 3 * i))))))))] : va_W)[k]? = some q → ¬ (q.1 = y 0 ∨ q.1 = y 1) := va_P.off1 (b := 0) (A := fun q => q = y 0 ∨ q = y 1) (fun h => h.elim (hy.ne (by omega) (by omega) (by omega)) (hy.ne (by omega) (by omega) (by omega)))
  have hV := hV0
  obtain ⟨rf, sf, hrw, hrs⟩ := hpre.2.2.2.2
  have hS : va_S (fun q => q = y 0 ∨ q = y 1) s.heap s.heap [] := va_S.rf
  have hZ0 : va_P D vwCl [(y 2, .inl (cI, 1000, .inl sf))] s.heap := hrs.sub [1] rfl
  have hZd : ∀ (k : Nat) (q : Nat × va_E), ([(y 2, .inl (cI, 1000, .inl sf))] : va_W)[k]? = some q → ¬ (q.1 = y 0 ∨ q.1 = y 1) := va_P.off1 (b := 0) (A := fun q => q = y 0 ∨ q = y 1) (fun h => h.elim (hy.ne (by omega) (by omega) (by omega)) (hy.ne (by omega) (by omega) (by omega)))
  have hP : va_P D vwCl [(y 0, .inr (2, [.int (nI sg), .ref (y 7), .int (nI xs.length), .int (nI ws.length), .ref (y 1), .ref (y 2), .ref (y 3), .ref (y 4), .ref (y 5), .ref (y 6)])), (y 1, .inl (cI, 1000, .inl (rf)))] s.heap := (hpre.1.1.sub [0] rfl).app (hrs.sub [0] rfl)
  have hD : va_D (fun q => q = y 0 ∨ q = y 1) [(y 0, .inr (2, [.int (nI sg), .ref (y 7), .int (nI xs.length), .int (nI ws.length), .ref (y 1), .ref (y 2), .ref (y 3), .ref (y 4), .ref (y 5), .ref (y 6)])), (y 1, .inl (cI, 1000, .inl (rf)))] := va_D.two (hy.ne (by omega) (by omega) (by omega)) (Or.inl rfl) (Or.inr rfl)
  have hsum := ok0.2.2.2.2.2.1
  refine lv_aload_n hx hb d_R_build_0 rfl (lv_at hl 0 rfl) ?_
  refine va_get (D := D) (ci := 2) (v := .int (nI ws.length)) (C := n_R) (T := f_R) (N := 10) hx hb hts in_R hown hK hP 0 rfl rfl 3 (by decide) (hts _ x_85) (fun _ h9 => h9) rfl d_R_build_1 ?_
  rcases Nat.eq_zero_or_pos ws.length with h0 | h0
  · refine lv_if_le (tgt := 56) hx hb d_R_build_4 (by decide) (fun _ => ?_) (fun c9 => absurd (by rw [h0]; decide) c9)
    refine lv_aload_n hx hb d_R_build_56 rfl (lv_at hl 0 rfl) ?_
    refine va_get (D := D) (ci := 2) (v := .int (nI xs.length)) (C := n_R) (T := f_R) (N := 10) hx hb hts in_R hown hK hP 0 rfl rfl 2 (by decide) (hts _ x_84) (fun _ h9 => h9) rfl d_R_build_57 ?_
    have hw0 : ws = [] := List.length_eq_zero_iff.mp h0
    exact W.iret (v := nI xs.length) hx hb hr (fun t ht hW => ⟨_, rfl, by rw [ht, h0, hw0, List.append_nil]; exact ⟨rfl, fr.rf, by rw [hw0] at hpre; exact hpre⟩⟩) (fun _ h => nomatch h) d_R_build_60
  · refine lv_if_le (tgt := 56) hx hb d_R_build_4 (by decide) (fun c9 => absurd c9 (nI_nle h0 (by omega))) (fun _ => ?_)
    refine lv_iconst (v := 0) hx hb d_R_build_7 (by decide) ?_
    refine lv_istore_n (lv' := [(1, .int 0), (0, .ref (y 0))]) hx hb d_R_build_8 rfl hl (by decide) rfl (fun ls hl => ?_)
    have loop : ∀ (n : Nat) (i : Nat) (rf : Nat → Int32) (H : Heap) (locs : List Loc) (ls : Array Slot), (i + n = xs.length) → (∀ j x, j < i → xs[j]? = some x → rf j = nI x) → (∀ j x, ws[j]? = some x → rf (xs.length + j) = nI x) → va_S (fun q => q = y 0 ∨ q = y 1) s.heap H locs → va_P D vwCl [(y 0, .inr (2, [.int (nI sg), .ref (y 7), .int (nI xs.length), .int (nI ws.length), .ref (y 1), .ref (y 2), .ref (y 3), .ref (y 4), .ref (y 5), .ref (y 6)])), (y 1, .inl (cI, 1000, .inl (rf)))] H → va_D (fun q => q = y 0 ∨ q = y 1) [(y 0, .inr (2, [.int (nI sg), .ref (y 7), .int (nI xs.length), .int (nI ws.length), .ref (y 1), .ref (y 2), .ref (y 3), .ref (y 4), .ref (y 5), .ref (y 6)])), (y 1, .inl (cI, 1000, .inl (rf)))] → lv_has ls 2 [(1, .int (nI i)), (0, .ref (y 0))] → W p l e (rmK 5 0 0) s m [.ref (y 0)].toArray below meth c H locs (0) (0) (MQ below (stQ (fun v H0 H1 => v = some (.int (nI (xs.length + ws.length))) ∧ fr (AB y d) H0 H1 ∧ LRx D cI cJ cS cO y sg d (xs ++ ws) [] H1)) [.ref (y 0)].toArray s 0 0 (AB y d)) (F0 m 9 ls []) := by
      intro n
      induction n with
      | zero =>
        intro i rf H locs ls hin hr1 hr2 hS hP hD hl
        have hV := hV0.rd hS hVd
        have hix : i = xs.length := by omega
        refine lv_iload_n hx hb d_R_build_9 rfl (lv_at hl 0 rfl) ?_
        refine lv_aload_n hx hb d_R_build_10 rfl (lv_at hl 1 rfl) ?_
        refine va_get (D := D) (ci := 2) (v := .int (nI xs.length)) (C := n_R) (T := f_R) (N := 10) hx hb hts in_R hown hK hP 0 rfl rfl 2 (by decide) (hts _ x_84) (fun _ h9 => h9) rfl d_R_build_11 ?_
        refine lv_icmp_ge (tgt := 34) hx hb d_R_build_14 (by decide) (fun _ => ?_) (fun c9 => absurd (nI_le (by omega) (by omega)) c9)
        refine lv_aload_n hx hb d_R_build_34 rfl (lv_at hl 1 rfl) ?_
        refine lv_dup hx hb d_R_build_35 rfl ?_
        refine va_get (D := D) (ci := 2) (v := .int (nI xs.length)) (C := n_R) (T := f_R) (N := 10) hx hb hts in_R hown hK hP 0 rfl rfl 2 (by decide) (hts _ x_84) (fun _ h9 => h9) rfl d_R_build_36 ?_
        refine lv_aload_n hx hb d_R_build_39 rfl (lv_at hl 1 rfl) ?_
        refine va_get (D := D) (ci := 2) (v := .int (nI ws.length)) (C := n_R) (T := f_R) (N := 10) hx hb hts in_R hown hK hP 0 rfl rfl 3 (by decide) (hts _ x_85) (fun _ h9 => h9) rfl d_R_build_40 ?_
        refine lv_iadd hx hb d_R_build_43 ?_
        refine ct_topi (x' := nI (xs ++ ws).length) (by rw [List.length_append]; exact nI_add _ _) ?_
        refine va_put (D := D) (ci := 2) (v := .int (nI (xs ++ ws).length)) (ty := .int) (C := n_R) (T := f_R) (N := 10) hx hb hts in_R t_R ty_R nm_R hown hK hP hD hS 0 rfl rfl 2 (by decide) (hts _ x_84) (fun _ h9 => h9) rfl (by decide +kernel) rfl rfl (Nat.le_of_ble_eq_true rfl) d_R_build_44 (fun H locs hP hD hS => ?_)
        have hP : va_P D vwCl [(y 0, .inr (2, [.int (nI sg), .ref (y 7), .int (nI (xs ++ ws).length), .int (nI ws.length), .ref (y 1), .ref (y 2), .ref (y 3), .ref (y 4), .ref (y 5), .ref (y 6)])), (y 1, .inl (cI, 1000, .inl (rf)))] H := hP
        have hD : va_D (fun q => q = y 0 ∨ q = y 1) [(y 0, .inr (2, [.int (nI sg), .ref (y 7), .int (nI (xs ++ ws).length), .int (nI ws.length), .ref (y 1), .ref (y 2), .ref (y 3), .ref (y 4), .ref (y 5), .ref (y 6)])), (y 1, .inl (cI, 1000, .inl (rf)))] := hD
        have hV := hV0.rd hS hVd
        refine lv_aload_n hx hb d_R_build_47 rfl (lv_at hl 1 rfl) ?_
        refine lv_iconst (v := 0) hx hb d_R_build_48 (by decide) ?_
        refine va_put (D := D) (ci := 2) (v := .int 0) (ty := .int) (C := n_R) (T := f_R) (N := 10) hx hb hts in_R t_R ty_R nm_R hown hK hP hD hS 0 rfl rfl 3 (by decide) (hts _ x_85) (fun _ h9 => h9) rfl (by decide +kernel) rfl rfl (Nat.le_of_ble_eq_true rfl) d_R_build_49 (fun H locs hP hD hS => ?_)
        have hP : va_P D vwCl [(y 0, .inr (2, [.int (nI sg), .ref (y 7), .int (nI (xs ++ ws).length), .int 0, .ref (y 1), .ref (y 2), .ref (y 3), .ref (y 4), .ref (y 5), .ref (y 6)])), (y 1, .inl (cI, 1000, .inl (rf)))] H := hP
        have hD : va_D (fun q => q = y 0 ∨ q = y 1) [(y 0, .inr (2, [.int (nI sg), .ref (y 7), .int (nI (xs ++ ws).length), .int 0, .ref (y 1), .ref (y 2), .ref (y 3), .ref (y 4), .ref (y 5), .ref (y 6)])), (y 1, .inl (cI, 1000, .inl (rf)))] := hD
        have hV := hV0.rd hS hVd
        refine lv_aload_n hx hb d_R_build_52 rfl (lv_at hl 1 rfl) ?_
        have hrf : ∀ j x, (xs ++ ws)[j]? = some x → rf j = nI x := by
          intro j x hj
          rcases Nat.lt_or_ge j xs.length with h1 | h1
          · rw [List.getElem?_append_left h1] at hj; exact hr1 j x (by omega) hj
          · rw [List.getElem?_append_right h1] at hj; have := hr2 (j - xs.length) x hj; rwa [Nat.add_sub_cancel' h1] at this
        have hLk := lk_kept hy hpre.1 (fr.of hS) (fun q h => h)
        have hfr1 := fr.of hS
        have hZ := hZ0.rd hS hZd
        have hS : va_S (AB y d) s.heap H _ := hS.mono hA8
        have hRw : va_P D vwCl (Rw cO y (nI sg) d (nI (xs ++ ws).length) 0) H := (hP.sub [0] rfl).app hV
        refine cm_ret (va_runV (As := []) (rest := []) ⟨hx, hb, hml, hown, hts⟩ (m_R_storeLevels (xs := xs ++ ws) hy hd16 (by rw [List.length_append]; exact hsum) (fun x h => by rcases List.mem_append.mp h with h | h; exact Nat.lt_of_lt_of_le (ok0.2.2.2.2.2.2.1 x h) ok0.2.1; exact Nat.lt_of_lt_of_le (ok0.2.2.2.2.2.2.2 x h) ok0.2.1) (hrf)) ⟨ct_cb 0 hts x_146 x_143 x_1 rfl rfl (by decide +kernel) ⟨by decide, by decide⟩, hts _ x_145, hts _ s_R_storeLevels⟩ ⟨st_blind, va_recv hK hP (ci := 2) (q0 := 0) rfl rfl, fun U hU hW => ⟨rfl, hE.at hS hA9 hU hW, by rw [hU]; exact ⟨hRw, (hP.sub [1] rfl).app hZ, fun k hk => by obtain ⟨ja, oa, z, _, h⟩ := hLk k hk; exact ⟨ja, oa, z, h⟩⟩⟩⟩ rfl rfl hl.1 rfl (lv_room (Nat.le_of_ble_eq_true rfl)) d_R_build_53 ⟨by decide, by decide⟩) hS (fun q h => Or.inr h) (fun _ _ h => h.2.1) (fun v H locs hv hS => ?_)
        obtain ⟨rfl, hfr2, hLk2, hr2⟩ := hv
        refine W.eq (g2 := F0 m 56 ls []) rfl ?_
        have hLR := lrx_built hy hpre hfr1 (fun q h => h) hfr2 hRw hLk2 hr2
        have hP : va_P D vwCl [(y 0, .inr (2, [.int (nI sg), .ref (y 7), .int (nI (xs ++ ws).length), .int 0, .ref (y 1), .ref (y 2), .ref (y 3), .ref (y 4), .ref (y 5), .ref (y 6)]))] H := hLR.1.1.sub [0] rfl
        refine lv_aload_n hx hb d_R_build_56 rfl (lv_at hl 1 rfl) ?_
        refine va_get (D := D) (ci := 2) (v := .int (nI (xs ++ ws).length)) (C := n_R) (T := f_R) (N := 10) hx hb hts in_R hown hK hP 0 rfl rfl 2 (by decide) (hts _ x_84) (fun _ h9 => h9) rfl d_R_build_57 ?_
        exact W.iret (v := nI (xs ++ ws).length) hx hb hr (fun t ht hW => ⟨_, rfl, by rw [ht]; exact ⟨by rw [List.length_append], fr.of hS, hLR⟩⟩) hS.2.2 d_R_build_60
      | succ n ih =>
        intro i rf H locs ls hin hr1 hr2 hS hP hD hl
        have hV := hV0.rd hS hVd
        have hq : xs[i]? = some xs[i] := List.getElem?_eq_getElem (by omega)
        have hRL : RL D cJ cS cO y sg d xs ws.length H := ⟨(hP.sub [0] rfl).app hV, lk_kept hy hpre.1 (fr.of hS) (fun q h => h)⟩
        refine lv_iload_n hx hb d_R_build_9 rfl (lv_at hl 0 rfl) ?_
        refine lv_aload_n hx hb d_R_build_10 rfl (lv_at hl 1 rfl) ?_
        refine va_get (D := D) (ci := 2) (v := .int (nI xs.length)) (C := n_R) (T := f_R) (N := 10) hx hb hts in_R hown hK hP 0 rfl rfl 2 (by decide) (hts _ x_84) (fun _ h9 => h9) rfl d_R_build_11 ?_
        refine lv_icmp_ge (tgt := 34) hx hb d_R_build_14 (by decide) (fun c9 => absurd c9 (nI_ge (by omega) (by omega))) (fun _ => ?_)
        refine lv_aload_n hx hb d_R_build_17 rfl (lv_at hl 1 rfl) ?_
        refine va_get (D := D) (ci := 2) (v := .ref (y 1)) (C := n_R) (T := f_R) (N := 10) hx hb hts in_R hown hK hP 0 rfl rfl 4 (by decide) (hts _ x_86) (fun _ h9 => h9) rfl d_R_build_18 ?_
        refine lv_iload_n hx hb d_R_build_21 rfl (lv_at hl 0 rfl) ?_
        refine lv_aload_n hx hb d_R_build_22 rfl (lv_at hl 1 rfl) ?_
        refine lv_iload_n hx hb d_R_build_23 rfl (lv_at hl 0 rfl) ?_
        refine cm_read (va_runV (As := [.int (nI i)]) (rest := [.int (nI i), .ref (y 1)]) ⟨hx, hb, hml, hown, hts⟩ (m_R_symbolAt hq (ok0.lt _ (List.mem_of_getElem? hq)) hd16 hx9) ⟨ct_cb 1 hts x_120 x_117 x_1 rfl rfl (by decide +kernel) ⟨by decide, by decide⟩, hts _ x_119, hts _ s_R_symbolAt⟩ ⟨st_blind, va_recv hK hP (ci := 2) (q0 := 0) rfl rfl, fun U hU hW => ⟨rfl, hE.at hS hAB hU hW, by rw [hU]; exact hRL⟩⟩ rfl rfl hl.1 rfl (lv_room (Nat.le_of_ble_eq_true rfl)) d_R_build_24 ⟨by decide, by decide⟩) (fun v hv => ?_)
        subst hv
        refine W.eq (g2 := F0 m 27 ls [.int (nI xs[i]), .int (nI i), .ref (y 1)]) rfl ?_
        refine va_iast hx hb hK hP hD hS 1 0 rfl rfl (vp_in_nI (by omega) (by decide)) d_R_build_27 (fun H locs hP hD hS => ?_)
        rw [nI_clamp (by omega)] at hP hD
        have hP : va_P D vwCl [(y 0, .inr (2, [.int (nI sg), .ref (y 7), .int (nI xs.length), .int (nI ws.length), .ref (y 1), .ref (y 2), .ref (y 3), .ref (y 4), .ref (y 5), .ref (y 6)])), (y 1, .inl (cI, 1000, .inl (upd rf i (nI xs[i]))))] H := hP
        have hD : va_D (fun q => q = y 0 ∨ q = y 1) [(y 0, .inr (2, [.int (nI sg), .ref (y 7), .int (nI xs.length), .int (nI ws.length), .ref (y 1), .ref (y 2), .ref (y 3), .ref (y 4), .ref (y 5), .ref (y 6)])), (y 1, .inl (cI, 1000, .inl (upd rf i (nI xs[i]))))] := hD
        have hV := hV0.rd hS hVd
        refine lv_iinc (v := nI (i + 1)) (lv' := [(1, .int (nI (i + 1))), (0, .ref (y 0))]) hx hb d_R_build_28 hl (k := 0) rfl ((nI_succ i).symm) (by decide) rfl (fun ls hl => ?_)
        refine lv_goto (tgt := 9) hx hb d_R_build_31 (by decide) ?_
        refine ih (i + 1) _ H _ ls (by omega) (fun j x hj hjx => ?_) (fun j x hjx => ?_) hS hP hD (lv_sub hl [0, 1] rfl)
        · by_cases e9 : j = i
          · subst e9; simp only [upd, if_true]; rw [hq] at hjx; cases hjx; rfl
          · simp only [upd, if_neg e9]; exact hr1 j x (by omega) hjx
        · have e9 : xs.length + j ≠ i := by omega
          simp only [upd, if_neg e9]; exact hr2 j x hjx
    exact loop xs.length 0 rf s.heap [] ls (by omega) (fun j x hj => absurd hj (Nat.not_lt_zero j)) hrw hS hP hD (lv_sub hl [0, 1] rfl)
end
section
/-! What put reads out of its five numbers. -/
section PUT
def pv (p0 p1 p2 p3 p4 : Int32) (j : Nat) : Int32 := match j with
  | 0 => p0
  | 1 => p1
  | 2 => p2
  | 3 => p3
  | _ => p4
def gv (p0 p1 p2 p3 p4 : Int32) (i : Nat) : Nat := if i % 2 = 0 then (pv p0 p1 p2 p3 p4 (i / 2)).toBitVec.toNat / 65536 else (pv p0 p1 p2 p3 p4 (i / 2)).toBitVec.toNat % 65536
theorem gv_lt (p0 p1 p2 p3 p4 : Int32) (i : Nat) : gv p0 p1 p2 p3 p4 i < 65536 := by
  unfold gv
  have h := (pv p0 p1 p2 p3 p4 (i / 2)).toBitVec.isLt
  split <;> omega
theorem i32_of (x : Int32) : x = nI x.toBitVec.toNat := Int32.toBitVec_inj.mp (by show _ = BitVec.ofNat 32 _; simp)
theorem hi16 (x : Int32) : (x.toUInt32 >>> (Int32.toUInt32 16 &&& Int32.toUInt32 31)).toInt32 = nI (x.toBitVec.toNat / 65536) := by
  rw [i32_of (x.toUInt32 >>> (Int32.toUInt32 16 &&& Int32.toUInt32 31)).toInt32, pk_ushr x 16 16 (by decide)]
theorem lo16 (x : Int32) : x &&& 65535 = nI (x.toBitVec.toNat % 65536) := pk_and x (m := 65535) 16 (by decide)
theorem min10 {N : Nat} (h : N < 2 ^ 31) : (if (10 : Int32) < nI N then 10 else nI N) = nI (min N 10) := by
  rcases Nat.lt_or_ge 10 N with h1 | h1
  · rw [Nat.min_eq_right (by omega)]
    exact if_pos (show nI 10 < nI N from nI_lt h1 h)
  · rw [Nat.min_eq_left h1]
    exact if_neg (show ¬ nI 10 < nI N from nI_nlt h1 (by omega))
def symsOk (sg : Nat) (p0 p1 p2 p3 p4 n : Int32) : Prop := ∀ i, i < min (cn n) 10 → gv p0 p1 p2 p3 p4 i < sg
def rngOk (n : Int32) : Prop := ¬ n < 1 ∧ ¬ 10 < n
def pxP (a b c : Prop) : String → Heap → Heap → Prop := fun E H0 H1 => ((E = e_I ∧ ¬ a) ∨ (E = e_A ∧ a ∧ ¬ b) ∨ (E = e_U ∧ a ∧ b ∧ ¬ c)) ∧ fr (fun _ => False) H0 H1
abbrev gvs (p0 p1 p2 p3 p4 n : Int32) : List Nat := (List.range (cn n)).map (gv p0 p1 p2 p3 p4)
theorem lrx_put {D : va_G} {cI cJ cS cO : ClassId} {y : Nat → Nat} {sg d B0 : Nat} {xs ws zs : List Nat} {H0 H1 : Heap} {rf : Nat → Int32} (hy : yI B0 y d) (h : LRx D cI cJ cS cO y sg d xs ws H0) (hf : fr (fun q => q = y 0 ∨ q = y 1) H0 H1)
    (hP : va_P D vwCl [(y 0, .inr (2, [.int (nI sg), .ref (y 7), .int (nI xs.length), .int (nI zs.length), .ref (y 1), .ref (y 2), .ref (y 3), .ref (y 4), .ref (y 5), .ref (y 6)])), (y 1, .inl (cI, 1000, .inl rf))] H1) (hr : ∀ i x, zs[i]? = some x → rf (xs.length + i) = nI x) : LRx D cI cJ cS cO y sg d xs zs H1 := by
  obtain ⟨h1, ⟨f0, f1, f2, f3, f4, f5, h2⟩, ⟨lf, tf, h3⟩, ⟨g, h4⟩, rf0, sf, h5, h6⟩ := h
  have hn : ∀ i, i < 8 + 3 * d → i ≠ 0 → i ≠ 1 → ¬ (y i = y 0 ∨ y i = y 1) := fun i h h0 h1 z => z.elim (hy.ne h (by omega) h0) (hy.ne h (by omega) h1)
  have hR7 : va_P D vwCl [(y 7, .inl (cO, d, .inr (.inr (.inr (.inr (fun i => some (y (8 + 3 * i))))))))] H1 := (h1.1.sub [1] rfl).fr hf (va_P.off1 (b := 0) (A := fun q => q = y 0 ∨ q = y 1) (hn 7 (by omega) (by omega) (by omega)))
  refine ⟨⟨(hP.sub [0] rfl).app hR7, lk_kept hy h1 hf (fun q h => h)⟩, ?_, ?_, ?_, rf, sf, hr, (hP.sub [1] rfl).app ((h6.sub [1] rfl).fr hf (va_P.off1 (b := 0) (A := fun q => q = y 0 ∨ q = y 1) (hn 2 (by omega) (by omega) (by omega))))⟩
  · exact ⟨f0, f1, f2, f3, f4, f5, h2.fr hf (va_P.off1 (b := 0) (A := fun q => q = y 0 ∨ q = y 1) (hn 3 (by omega) (by omega) (by omega)))⟩
  · exact ⟨lf, tf, h3.fr hf (va_P.off2 (A := fun q => q = y 0 ∨ q = y 1) (hn 4 (by omega) (by omega) (by omega)) (hn 5 (by omega) (by omega) (by omega)))⟩
  · exact ⟨g, h4.fr hf (va_P.off1 (b := 0) (A := fun q => q = y 0 ∨ q = y 1) (hn 6 (by omega) (by omega) (by omega)))⟩
end PUT
end
section
/-! LevelRows: symbolInPut, put. -/
set_option maxHeartbeats 4000000 in
set_option maxRecDepth 100000 in
theorem m_R_symbolInPut {l : Launch} {D : va_G} {cI cJ cS cO : ClassId} {B0 : Nat} (p0 p1 p2 p3 p4 : Int32) (i : Nat) (hi : i < 10) : CM l D (tyL cI cJ cS cO) B0 y_R_symbolInPut c_R_symbolInPut 7 (some .int) (rmK 0 0 0) [.int (nI i), .int p0, .int p1, .int p2, .int p3, .int p4] (fun _ => True) (fun v H0 H1 => v = some (.int (nI (gv p0 p1 p2 p3 p4 i))) ∧ H1 = H0) 0 0 (fun _ => False) := by
  refine cm_of (by decide) (Nat.le_of_ble_eq_true rfl) ?_
  intro p e s m below meth c ls hx hb hr hml hown hts hlocks hnm hE hpre hl
  have hown : s.vm.findClass "LevelRows" = some m.cls := hown
  have hK := hE.1
  have hl : lv_has ls 7 [(0, .int (nI i)), (1, .int p0), (2, .int p1), (3, .int p2), (4, .int p3), (5, .int p4)] := hl
  refine lv_iload_n hx hb d_R_symbolInPut_0 rfl (lv_at hl 0 rfl) ?_
  refine lv_iconst (v := 2) hx hb d_R_symbolInPut_1 (by decide) ?_
  refine lv_idiv hx hb d_R_symbolInPut_2 (by decide) ?_
  refine ct_topi (x' := nI (i / 2)) (pk_div (d := 2) (by omega) (by decide) (by decide)) ?_
  rcases (show i / 2 = 0 ∨ i / 2 = 1 ∨ i / 2 = 2 ∨ i / 2 = 3 ∨ i / 2 = 4 by omega) with h2 | h2 | h2 | h2 | h2
  · refine lv_tableIn (off := 29) (tgt := 32) hx hb d_R_symbolInPut_3 (by rw [h2]; decide) (by rw [h2]; decide) (by rw [h2]; rfl) (by decide) ?_
    refine lv_iload_n hx hb d_R_symbolInPut_32 rfl (lv_at hl 1 rfl) ?_
    refine lv_istore (lv' := [(6, .int p0), (0, .int (nI i)), (1, .int p0), (2, .int p1), (3, .int p2), (4, .int p3), (5, .int p4)]) hx hb d_R_symbolInPut_33 hl (by decide) rfl (fun ls hl => ?_)
    refine lv_goto (tgt := 61) hx hb d_R_symbolInPut_35 (by decide) ?_
    refine lv_iload_n hx hb d_R_symbolInPut_61 rfl (lv_at hl 1 rfl) ?_
    refine lv_iconst (v := 2) hx hb d_R_symbolInPut_62 (by decide) ?_
    refine lv_irem hx hb d_R_symbolInPut_63 (by decide) ?_
    refine ct_topi (x' := nI (i % 2)) (pk_rem (d := 2) (by omega) (by decide) (by decide)) ?_
    by_cases hm : i % 2 = 0
    · refine lv_if_ne (tgt := 75) hx hb d_R_symbolInPut_64 (by decide) (fun c9 => absurd (by rw [hm]; rfl) c9) (fun _ => ?_)
      refine lv_iload hx hb d_R_symbolInPut_67 (lv_at hl 0 rfl) ?_
      refine lv_bipush (v := 16) hx hb d_R_symbolInPut_69 (by decide) ?_
      refine lv_iushr hx hb d_R_symbolInPut_71 rfl ?_
      refine ct_topi (x' := nI (gv p0 p1 p2 p3 p4 i)) ((hi16 _).trans (by unfold gv; rw [if_pos hm, h2]; rfl)) ?_
      refine lv_goto (tgt := 80) hx hb d_R_symbolInPut_72 (by decide) ?_
      exact W.iret (v := nI (gv p0 p1 p2 p3 p4 i)) hx hb hr (fun t ht hW => ⟨_, rfl, rfl, ht⟩) (fun _ h => nomatch h) d_R_symbolInPut_80
    · refine lv_if_ne (tgt := 75) hx hb d_R_symbolInPut_64 (by decide) (fun _ => ?_) (fun c9 => absurd c9 (nI_ne0 (by omega) (by omega)))
      refine lv_iload hx hb d_R_symbolInPut_75 (lv_at hl 0 rfl) ?_
      refine lv_ldc (v := 65535) hx hb hown (hts _ x_185) d_R_symbolInPut_77 ?_
      refine lv_iand hx hb d_R_symbolInPut_79 ?_
      refine ct_topi (x' := nI (gv p0 p1 p2 p3 p4 i)) ((lo16 _).trans (by unfold gv; rw [if_neg hm, h2]; rfl)) ?_
      exact W.iret (v := nI (gv p0 p1 p2 p3 p4 i)) hx hb hr (fun t ht hW => ⟨_, rfl, rfl, ht⟩) (fun _ h => nomatch h) d_R_symbolInPut_80
  · refine lv_tableIn (off := 35) (tgt := 38) hx hb d_R_symbolInPut_3 (by rw [h2]; decide) (by rw [h2]; decide) (by rw [h2]; rfl) (by decide) ?_
    refine lv_iload_n hx hb d_R_symbolInPut_38 rfl (lv_at hl 2 rfl) ?_
    refine lv_istore (lv' := [(6, .int p1), (0, .int (nI i)), (1, .int p0), (2, .int p1), (3, .int p2), (4, .int p3), (5, .int p4)]) hx hb d_R_symbolInPut_39 hl (by decide) rfl (fun ls hl => ?_)
    refine lv_goto (tgt := 61) hx hb d_R_symbolInPut_41 (by decide) ?_
    refine lv_iload_n hx hb d_R_symbolInPut_61 rfl (lv_at hl 1 rfl) ?_
    refine lv_iconst (v := 2) hx hb d_R_symbolInPut_62 (by decide) ?_
    refine lv_irem hx hb d_R_symbolInPut_63 (by decide) ?_
    refine ct_topi (x' := nI (i % 2)) (pk_rem (d := 2) (by omega) (by decide) (by decide)) ?_
    by_cases hm : i % 2 = 0
    · refine lv_if_ne (tgt := 75) hx hb d_R_symbolInPut_64 (by decide) (fun c9 => absurd (by rw [hm]; rfl) c9) (fun _ => ?_)
      refine lv_iload hx hb d_R_symbolInPut_67 (lv_at hl 0 rfl) ?_
      refine lv_bipush (v := 16) hx hb d_R_symbolInPut_69 (by decide) ?_
      refine lv_iushr hx hb d_R_symbolInPut_71 rfl ?_
      refine ct_topi (x' := nI (gv p0 p1 p2 p3 p4 i)) ((hi16 _).trans (by unfold gv; rw [if_pos hm, h2]; rfl)) ?_
      refine lv_goto (tgt := 80) hx hb d_R_symbolInPut_72 (by decide) ?_
      exact W.iret (v := nI (gv p0 p1 p2 p3 p4 i)) hx hb hr (fun t ht hW => ⟨_, rfl, rfl, ht⟩) (fun _ h => nomatch h) d_R_symbolInPut_80
    · refine lv_if_ne (tgt := 75) hx hb d_R_symbolInPut_64 (by decide) (fun _ => ?_) (fun c9 => absurd c9 (nI_ne0 (by omega) (by omega)))
      refine lv_iload hx hb d_R_symbolInPut_75 (lv_at hl 0 rfl) ?_
      refine lv_ldc (v := 65535) hx hb hown (hts _ x_185) d_R_symbolInPut_77 ?_
      refine lv_iand hx hb d_R_symbolInPut_79 ?_
      refine ct_topi (x' := nI (gv p0 p1 p2 p3 p4 i)) ((lo16 _).trans (by unfold gv; rw [if_neg hm, h2]; rfl)) ?_
      exact W.iret (v := nI (gv p0 p1 p2 p3 p4 i)) hx hb hr (fun t ht hW => ⟨_, rfl, rfl, ht⟩) (fun _ h => nomatch h) d_R_symbolInPut_80
  · refine lv_tableIn (off := 41) (tgt := 44) hx hb d_R_symbolInPut_3 (by rw [h2]; decide) (by rw [h2]; decide) (by rw [h2]; rfl) (by decide) ?_
    refine lv_iload_n hx hb d_R_symbolInPut_44 rfl (lv_at hl 3 rfl) ?_
    refine lv_istore (lv' := [(6, .int p2), (0, .int (nI i)), (1, .int p0), (2, .int p1), (3, .int p2), (4, .int p3), (5, .int p4)]) hx hb d_R_symbolInPut_45 hl (by decide) rfl (fun ls hl => ?_)
    refine lv_goto (tgt := 61) hx hb d_R_symbolInPut_47 (by decide) ?_
    refine lv_iload_n hx hb d_R_symbolInPut_61 rfl (lv_at hl 1 rfl) ?_
    refine lv_iconst (v := 2) hx hb d_R_symbolInPut_62 (by decide) ?_
    refine lv_irem hx hb d_R_symbolInPut_63 (by decide) ?_
    refine ct_topi (x' := nI (i % 2)) (pk_rem (d := 2) (by omega) (by decide) (by decide)) ?_
    by_cases hm : i % 2 = 0
    · refine lv_if_ne (tgt := 75) hx hb d_R_symbolInPut_64 (by decide) (fun c9 => absurd (by rw [hm]; rfl) c9) (fun _ => ?_)
      refine lv_iload hx hb d_R_symbolInPut_67 (lv_at hl 0 rfl) ?_
      refine lv_bipush (v := 16) hx hb d_R_symbolInPut_69 (by decide) ?_
      refine lv_iushr hx hb d_R_symbolInPut_71 rfl ?_
      refine ct_topi (x' := nI (gv p0 p1 p2 p3 p4 i)) ((hi16 _).trans (by unfold gv; rw [if_pos hm, h2]; rfl)) ?_
      refine lv_goto (tgt := 80) hx hb d_R_symbolInPut_72 (by decide) ?_
      exact W.iret (v := nI (gv p0 p1 p2 p3 p4 i)) hx hb hr (fun t ht hW => ⟨_, rfl, rfl, ht⟩) (fun _ h => nomatch h) d_R_symbolInPut_80
    · refine lv_if_ne (tgt := 75) hx hb d_R_symbolInPut_64 (by decide) (fun _ => ?_) (fun c9 => absurd c9 (nI_ne0 (by omega) (by omega)))
      refine lv_iload hx hb d_R_symbolInPut_75 (lv_at hl 0 rfl) ?_
      refine lv_ldc (v := 65535) hx hb hown (hts _ x_185) d_R_symbolInPut_77 ?_
      refine lv_iand hx hb d_R_symbolInPut_79 ?_
      refine ct_topi (x' := nI (gv p0 p1 p2 p3 p4 i)) ((lo16 _).trans (by unfold gv; rw [if_neg hm, h2]; rfl)) ?_
      exact W.iret (v := nI (gv p0 p1 p2 p3 p4 i)) hx hb hr (fun t ht hW => ⟨_, rfl, rfl, ht⟩) (fun _ h => nomatch h) d_R_symbolInPut_80
  · refine lv_tableIn (off := 47) (tgt := 50) hx hb d_R_symbolInPut_3 (by rw [h2]; decide) (by rw [h2]; decide) (by rw [h2]; rfl) (by decide) ?_
    refine lv_iload hx hb d_R_symbolInPut_50 (lv_at hl 4 rfl) ?_
    refine lv_istore (lv' := [(6, .int p3), (0, .int (nI i)), (1, .int p0), (2, .int p1), (3, .int p2), (4, .int p3), (5, .int p4)]) hx hb d_R_symbolInPut_52 hl (by decide) rfl (fun ls hl => ?_)
    refine lv_goto (tgt := 61) hx hb d_R_symbolInPut_54 (by decide) ?_
    refine lv_iload_n hx hb d_R_symbolInPut_61 rfl (lv_at hl 1 rfl) ?_
    refine lv_iconst (v := 2) hx hb d_R_symbolInPut_62 (by decide) ?_
    refine lv_irem hx hb d_R_symbolInPut_63 (by decide) ?_
    refine ct_topi (x' := nI (i % 2)) (pk_rem (d := 2) (by omega) (by decide) (by decide)) ?_
    by_cases hm : i % 2 = 0
    · refine lv_if_ne (tgt := 75) hx hb d_R_symbolInPut_64 (by decide) (fun c9 => absurd (by rw [hm]; rfl) c9) (fun _ => ?_)
      refine lv_iload hx hb d_R_symbolInPut_67 (lv_at hl 0 rfl) ?_
      refine lv_bipush (v := 16) hx hb d_R_symbolInPut_69 (by decide) ?_
      refine lv_iushr hx hb d_R_symbolInPut_71 rfl ?_
      refine ct_topi (x' := nI (gv p0 p1 p2 p3 p4 i)) ((hi16 _).trans (by unfold gv; rw [if_pos hm, h2]; rfl)) ?_
      refine lv_goto (tgt := 80) hx hb d_R_symbolInPut_72 (by decide) ?_
      exact W.iret (v := nI (gv p0 p1 p2 p3 p4 i)) hx hb hr (fun t ht hW => ⟨_, rfl, rfl, ht⟩) (fun _ h => nomatch h) d_R_symbolInPut_80
    · refine lv_if_ne (tgt := 75) hx hb d_R_symbolInPut_64 (by decide) (fun _ => ?_) (fun c9 => absurd c9 (nI_ne0 (by omega) (by omega)))
      refine lv_iload hx hb d_R_symbolInPut_75 (lv_at hl 0 rfl) ?_
      refine lv_ldc (v := 65535) hx hb hown (hts _ x_185) d_R_symbolInPut_77 ?_
      refine lv_iand hx hb d_R_symbolInPut_79 ?_
      refine ct_topi (x' := nI (gv p0 p1 p2 p3 p4 i)) ((lo16 _).trans (by unfold gv; rw [if_neg hm, h2]; rfl)) ?_
      exact W.iret (v := nI (gv p0 p1 p2 p3 p4 i)) hx hb hr (fun t ht hW => ⟨_, rfl, rfl, ht⟩) (fun _ h => nomatch h) d_R_symbolInPut_80
  · refine lv_tableOut (tgt := 57) hx hb d_R_symbolInPut_3 (Or.inr (by rw [h2]; decide)) (by decide) ?_
    refine lv_iload hx hb d_R_symbolInPut_57 (lv_at hl 5 rfl) ?_
    refine lv_istore (lv' := [(6, .int p4), (0, .int (nI i)), (1, .int p0), (2, .int p1), (3, .int p2), (4, .int p3), (5, .int p4)]) hx hb d_R_symbolInPut_59 hl (by decide) rfl (fun ls hl => ?_)
    refine lv_iload_n hx hb d_R_symbolInPut_61 rfl (lv_at hl 1 rfl) ?_
    refine lv_iconst (v := 2) hx hb d_R_symbolInPut_62 (by decide) ?_
    refine lv_irem hx hb d_R_symbolInPut_63 (by decide) ?_
    refine ct_topi (x' := nI (i % 2)) (pk_rem (d := 2) (by omega) (by decide) (by decide)) ?_
    by_cases hm : i % 2 = 0
    · refine lv_if_ne (tgt := 75) hx hb d_R_symbolInPut_64 (by decide) (fun c9 => absurd (by rw [hm]; rfl) c9) (fun _ => ?_)
      refine lv_iload hx hb d_R_symbolInPut_67 (lv_at hl 0 rfl) ?_
      refine lv_bipush (v := 16) hx hb d_R_symbolInPut_69 (by decide) ?_
      refine lv_iushr hx hb d_R_symbolInPut_71 rfl ?_
      refine ct_topi (x' := nI (gv p0 p1 p2 p3 p4 i)) ((hi16 _).trans (by unfold gv; rw [if_pos hm, h2]; rfl)) ?_
      refine lv_goto (tgt := 80) hx hb d_R_symbolInPut_72 (by decide) ?_
      exact W.iret (v := nI (gv p0 p1 p2 p3 p4 i)) hx hb hr (fun t ht hW => ⟨_, rfl, rfl, ht⟩) (fun _ h => nomatch h) d_R_symbolInPut_80
    · refine lv_if_ne (tgt := 75) hx hb d_R_symbolInPut_64 (by decide) (fun _ => ?_) (fun c9 => absurd c9 (nI_ne0 (by omega) (by omega)))
      refine lv_iload hx hb d_R_symbolInPut_75 (lv_at hl 0 rfl) ?_
      refine lv_ldc (v := 65535) hx hb hown (hts _ x_185) d_R_symbolInPut_77 ?_
      refine lv_iand hx hb d_R_symbolInPut_79 ?_
      refine ct_topi (x' := nI (gv p0 p1 p2 p3 p4 i)) ((lo16 _).trans (by unfold gv; rw [if_neg hm, h2]; rfl)) ?_
      exact W.iret (v := nI (gv p0 p1 p2 p3 p4 i)) hx hb hr (fun t ht hW => ⟨_, rfl, rfl, ht⟩) (fun _ h => nomatch h) d_R_symbolInPut_80
set_option maxHeartbeats 4000000 in
set_option maxRecDepth 100000 in
theorem m_R_put {l : Launch} {D : va_G} {cI cJ cS cO : ClassId} {B0 : Nat} (hl9 : l.stackTraces = false) {y : Nat → Nat} {sg d : Nat} {xs ws : List Nat} (hy : yI B0 y d) (ok0 : Ok sg d xs ws) (p0 p1 p2 p3 p4 nn : Int32) : CX l D (tyL cI cJ cS cO) B0 y_R_put c_R_put 9 (some .int) (rmK 7 11 66) [.ref (y 0), .int p0, .int p1, .int p2, .int p3, .int p4, .int nn] (fun H => LRx D cI cJ cS cO y sg d xs ws H) (fun v H0 H1 => v = some (.int (nI (ws.length + cn nn))) ∧ fr (fun q => q = y 0 ∨ q = y 1) H0 H1 ∧ LRx D cI cJ cS cO y sg d xs (ws ++ gvs p0 p1 p2 p3 p4 nn) H1 ∧ (symsOk sg p0 p1 p2 p3 p4 nn ∧ rngOk nn ∧ xs.length + ws.length + cn nn ≤ 1000)) (pxP (symsOk sg p0 p1 p2 p3 p4 nn) (rngOk nn) (xs.length + ws.length + cn nn ≤ 1000)) 11 66 (fun q => q = y 0 ∨ q = y 1) := by
  refine cx_of (by decide) (Nat.le_of_ble_eq_true rfl) ?_
  intro p e s m below meth c ls hx hb hr hml hown hts hlocks hout hE hpre hl
  have hown : s.vm.findClass "LevelRows" = some m.cls := hown
  have hK := hE.1
  have hl : lv_has ls 9 [(0, .ref (y 0)), (1, .int p0), (2, .int p1), (3, .int p2), (4, .int p3), (5, .int p4), (6, .int nn)] := hl
  have hAB : ∀ q : Nat, (q = y 0 ∨ q = y 1) → B0 ≤ q := by
    rintro q (rfl | rfl)
    · exact hy.2 _ (by omega)
    · exact hy.2 _ (by omega)
  have hS : va_S (fun q => q = y 0 ∨ q = y 1) s.heap s.heap [] := va_S.rf
  obtain ⟨rf, sf, hrw, hrs⟩ := hpre.2.2.2.2
  have hsum := ok0.2.2.2.2.2.1
  have hsg6 := ok0.2.1
  have hP : va_P D vwCl [(y 0, .inr (2, [.int (nI sg), .ref (y 7), .int (nI xs.length), .int (nI ws.length), .ref (y 1), .ref (y 2), .ref (y 3), .ref (y 4), .ref (y 5), .ref (y 6)])), (y 1, .inl (cI, 1000, .inl (rf)))] s.heap := (hpre.1.1.sub [0] rfl).app (hrs.sub [0] rfl)
  have hD : va_D (fun q => q = y 0 ∨ q = y 1) [(y 0, .inr (2, [.int (nI sg), .ref (y 7), .int (nI xs.length), .int (nI ws.length), .ref (y 1), .ref (y 2), .ref (y 3), .ref (y 4), .ref (y 5), .ref (y 6)])), (y 1, .inl (cI, 1000, .inl (rf)))] := va_D.two (hy.ne (by omega) (by omega) (by omega)) (Or.inl rfl) (Or.inr rfl)
  refine lv_iload hx hb d_R_put_0 (lv_at hl 6 rfl) ?_
  refine lv_bipush (v := 10) hx hb d_R_put_2 (by decide) ?_
  refine va_mmin hx hb (by rw [hml]; exact hl.1.symm) hown (hts _ x_52) (hts _ x_53) (hts _ x_3) (hts _ x_54) (by decide) (Nat.le_of_ble_eq_true rfl) (by decide) (by decide) d_R_put_4 ?_
  by_cases hneg : nn < 0
  · refine ct_topi (x' := nn) (if_neg (fun h => absurd (Int32.lt_trans h hneg) (by decide))) ?_
    refine lv_istore (lv' := [(7, .int nn), (0, .ref (y 0)), (1, .int p0), (2, .int p1), (3, .int p2), (4, .int p3), (5, .int p4), (6, .int nn)]) hx hb d_R_put_7 hl (by decide) rfl (fun ls hl => ?_)
    refine lv_iconst (v := 0) hx hb d_R_put_9 (by decide) ?_
    refine lv_istore (lv' := [(8, .int 0), (7, .int nn), (0, .ref (y 0)), (1, .int p0), (2, .int p1), (3, .int p2), (4, .int p3), (5, .int p4), (6, .int nn)]) hx hb d_R_put_10 hl (by decide) rfl (fun ls hl => ?_)
    refine lv_iload hx hb d_R_put_12 (lv_at hl 0 rfl) ?_
    refine lv_iload hx hb d_R_put_14 (lv_at hl 1 rfl) ?_
    refine lv_icmp_ge (tgt := 41) hx hb d_R_put_16 (by decide) (fun _ => ?_) (fun c9 => absurd (Int32.le_of_lt hneg) c9)
    refine lv_iload hx hb d_R_put_41 (lv_at hl 8 rfl) ?_
    refine lv_iconst (v := 1) hx hb d_R_put_43 (by decide) ?_
    refine lv_icmp_lt (tgt := 54) hx hb d_R_put_44 (by decide) (fun _ => ?_) (fun c9 => absurd (Int32.lt_trans hneg (by decide)) c9)
    have hc0 : cn nn = 0 := by
      have h2 := Int32.lt_iff_toInt_lt.mp hneg
      have h3 : (0 : Int32).toInt = 0 := by decide
      show nn.toInt.toNat = 0
      omega
    exact ct_thr hx hb hl9 hown hts hE hS hAB (by rw [hml]; exact hl.1) (by decide +kernel) (at_A hts hE.2.1) ot_A x_258 x_11 x_267 d_R_put_54 d_R_put_57 d_R_put_58 d_R_put_60 d_R_put_63 hout (by decide) (Nat.le_of_ble_eq_true rfl) (by decide) (by decide) hlocks (fun H1 hf => ⟨Or.inr (Or.inl ⟨rfl, fun i hi => by rw [hc0] at hi; omega, fun h => h.1 (Int32.lt_trans hneg (by decide))⟩), hf⟩) hS.2.2 (by decide) (by decide)
  · obtain ⟨hne, hn31⟩ := nn_ints hneg
    have hg9 : (if (10 : Int32) < nn then 10 else nn) = nI (min (cn nn) 10) := by rw [hne]; simp only [cn]; rw [nI_clamp hn31]; exact min10 hn31
    refine ct_topi (x' := nI (min (cn nn) 10)) (hg9) ?_
    refine lv_istore (lv' := [(7, .int (nI (min (cn nn) 10))), (0, .ref (y 0)), (1, .int p0), (2, .int p1), (3, .int p2), (4, .int p3), (5, .int p4), (6, .int nn)]) hx hb d_R_put_7 hl (by decide) rfl (fun ls hl => ?_)
    refine lv_iconst (v := 0) hx hb d_R_put_9 (by decide) ?_
    refine lv_istore (lv' := [(8, .int 0), (7, .int (nI (min (cn nn) 10))), (0, .ref (y 0)), (1, .int p0), (2, .int p1), (3, .int p2), (4, .int p3), (5, .int p4), (6, .int nn)]) hx hb d_R_put_10 hl (by decide) rfl (fun ls hl => ?_)
    have hm10 : min (cn nn) 10 ≤ 10 := Nat.min_le_right _ _
    have loop : ∀ (n : Nat) (i : Nat) (locs : List Loc) (ls : Array Slot), (i + n = min (cn nn) 10) → (∀ j, j < i → gv p0 p1 p2 p3 p4 j < sg) → va_S (fun q => q = y 0 ∨ q = y 1) s.heap s.heap locs → lv_has ls 9 [(8, .int (nI i)), (7, .int (nI (min (cn nn) 10))), (0, .ref (y 0)), (1, .int p0), (2, .int p1), (3, .int p2), (4, .int p3), (5, .int p4), (6, .int nn)] → W p l e (rmK 7 11 66) s m [.ref (y 0), .int p0, .int p1, .int p2, .int p3, .int p4, .int nn].toArray below meth c s.heap locs (i) (6 * i) (vx_MQ below (stQ (fun v H0 H1 => v = some (.int (nI (ws.length + cn nn))) ∧ fr (fun q => q = y 0 ∨ q = y 1) H0 H1 ∧ LRx D cI cJ cS cO y sg d xs (ws ++ gvs p0 p1 p2 p3 p4 nn) H1 ∧ (symsOk sg p0 p1 p2 p3 p4 nn ∧ rngOk nn ∧ xs.length + ws.length + cn nn ≤ 1000))) (stX (pxP (symsOk sg p0 p1 p2 p3 p4 nn) (rngOk nn) (xs.length + ws.length + cn nn ≤ 1000))) [.ref (y 0), .int p0, .int p1, .int p2, .int p3, .int p4, .int nn].toArray s 11 66 (fun q => q = y 0 ∨ q = y 1)) (F0 m 12 ls []) := by
      intro n
      induction n with
      | zero =>
        intro i locs ls hin hch hS hl
        have hiG : i = min (cn nn) 10 := by omega
        refine lv_iload hx hb d_R_put_12 (lv_at hl 0 rfl) ?_
        refine lv_iload hx hb d_R_put_14 (lv_at hl 1 rfl) ?_
        refine lv_icmp_ge (tgt := 41) hx hb d_R_put_16 (by decide) (fun _ => ?_) (fun c9 => absurd (nI_le (by omega) (by omega)) c9)
        have hsy : symsOk sg p0 p1 p2 p3 p4 nn := fun j hj => hch j (by omega)
        refine lv_iload hx hb d_R_put_41 (lv_at hl 8 rfl) ?_
        refine lv_iconst (v := 1) hx hb d_R_put_43 (by decide) ?_
        refine lv_icmp_lt (tgt := 54) hx hb d_R_put_44 (by decide) (fun h1 => ?_) (fun h1 => ?_)
        · exact ct_thr hx hb hl9 hown hts hE hS hAB (by rw [hml]; exact hl.1) (by decide +kernel) (at_A hts hE.2.1) ot_A x_258 x_11 x_267 d_R_put_54 d_R_put_57 d_R_put_58 d_R_put_60 d_R_put_63 hout (by decide) (Nat.le_of_ble_eq_true rfl) (show i + 1 ≤ 11 by omega) (show 6 * i + 6 ≤ 66 by omega) hlocks (fun H1 hf => ⟨Or.inr (Or.inl ⟨rfl, hsy, fun h => h.1 h1⟩), hf⟩) hS.2.2 (show i + 1 ≤ 11 by omega) (show 6 * i + 6 ≤ 66 by omega)
        · refine lv_iload hx hb d_R_put_47 (lv_at hl 8 rfl) ?_
          refine lv_bipush (v := 10) hx hb d_R_put_49 (by decide) ?_
          refine lv_icmp_le (tgt := 64) hx hb d_R_put_51 (by decide) (fun h2 => ?_) (fun h2 => ?_)
          · have hrg : rngOk nn := ⟨h1, Int32.not_lt.mpr h2⟩
            refine lv_iload hx hb d_R_put_64 (lv_at hl 8 rfl) ?_
            refine lv_sipush (v := 1000) hx hb d_R_put_66 (by decide) ?_
            refine lv_aload_n hx hb d_R_put_69 rfl (lv_at hl 2 rfl) ?_
            refine va_get (D := D) (ci := 2) (v := .int (nI xs.length)) (C := n_R) (T := f_R) (N := 10) hx hb hts in_R hown hK hP 0 rfl rfl 2 (by decide) (hts _ x_84) (fun _ h9 => h9) rfl d_R_put_70 ?_
            refine lv_isub hx hb d_R_put_73 ?_
            refine ct_topi (x' := nI (1000 - xs.length)) (pk_sub (a := 1000) (by omega)) ?_
            refine lv_aload_n hx hb d_R_put_74 rfl (lv_at hl 2 rfl) ?_
            refine va_get (D := D) (ci := 2) (v := .int (nI ws.length)) (C := n_R) (T := f_R) (N := 10) hx hb hts in_R hown hK hP 0 rfl rfl 3 (by decide) (hts _ x_85) (fun _ h9 => h9) rfl d_R_put_75 ?_
            refine lv_isub hx hb d_R_put_78 ?_
            refine ct_topi (x' := nI (1000 - xs.length - ws.length)) (pk_sub (by omega)) ?_
            rcases Nat.lt_or_ge 1000 (xs.length + ws.length + cn nn) with hov | hfit
            · refine lv_icmp_le (tgt := 92) hx hb d_R_put_79 (by decide) (fun c9 => absurd c9 (by rw [hne]; exact nI_ge (by omega) hn31)) (fun _ => ?_)
              exact ct_thr hx hb hl9 hown hts hE hS hAB (by rw [hml]; exact hl.1) (by decide +kernel) (at_U hts hE.2.1) ot_U x_274 x_12 x_283 d_R_put_82 d_R_put_85 d_R_put_86 d_R_put_88 d_R_put_91 hout (by decide) (Nat.le_of_ble_eq_true rfl) (show i + 1 ≤ 11 by omega) (show 6 * i + 6 ≤ 66 by omega) hlocks (fun H1 hf => ⟨Or.inr (Or.inr ⟨rfl, hsy, hrg, by omega⟩), hf⟩) hS.2.2 (show i + 1 ≤ 11 by omega) (show 6 * i + 6 ≤ 66 by omega)
            · refine lv_icmp_le (tgt := 92) hx hb d_R_put_79 (by decide) (fun _ => ?_) (fun c9 => absurd (by rw [hne]; exact nI_le (by omega) (by omega)) c9)
              refine lv_iconst (v := 0) hx hb d_R_put_92 (by decide) ?_
              refine lv_istore (lv' := [(8, .int 0), (7, .int (nI (min (cn nn) 10))), (0, .ref (y 0)), (1, .int p0), (2, .int p1), (3, .int p2), (4, .int p3), (5, .int p4), (6, .int nn)]) hx hb d_R_put_93 hl (by decide) rfl (fun ls hl => ?_)
              have loop2 : ∀ (n : Nat) (i : Nat) (rf : Nat → Int32) (H : Heap) (locs : List Loc) (ls : Array Slot), (i + n = cn nn) → (∀ j x, ws[j]? = some x → rf (xs.length + j) = nI x) → (∀ j, j < i → rf (xs.length + ws.length + j) = nI (gv p0 p1 p2 p3 p4 j)) → va_S (fun q => q = y 0 ∨ q = y 1) s.heap H locs → va_P D vwCl [(y 0, .inr (2, [.int (nI sg), .ref (y 7), .int (nI xs.length), .int (nI ws.length), .ref (y 1), .ref (y 2), .ref (y 3), .ref (y 4), .ref (y 5), .ref (y 6)])), (y 1, .inl (cI, 1000, .inl (rf)))] H → va_D (fun q => q = y 0 ∨ q = y 1) [(y 0, .inr (2, [.int (nI sg), .ref (y 7), .int (nI xs.length), .int (nI ws.length), .ref (y 1), .ref (y 2), .ref (y 3), .ref (y 4), .ref (y 5), .ref (y 6)])), (y 1, .inl (cI, 1000, .inl (rf)))] → lv_has ls 9 [(8, .int (nI i)), (0, .ref (y 0)), (1, .int p0), (2, .int p1), (3, .int p2), (4, .int p3), (5, .int p4), (6, .int nn)] → W p l e (rmK 7 11 66) s m [.ref (y 0), .int p0, .int p1, .int p2, .int p3, .int p4, .int nn].toArray below meth c H locs (11) (66) (vx_MQ below (stQ (fun v H0 H1 => v = some (.int (nI (ws.length + cn nn))) ∧ fr (fun q => q = y 0 ∨ q = y 1) H0 H1 ∧ LRx D cI cJ cS cO y sg d xs (ws ++ gvs p0 p1 p2 p3 p4 nn) H1 ∧ (symsOk sg p0 p1 p2 p3 p4 nn ∧ rngOk nn ∧ xs.length + ws.length + cn nn ≤ 1000))) (stX (pxP (symsOk sg p0 p1 p2 p3 p4 nn) (rngOk nn) (xs.length + ws.length + cn nn ≤ 1000))) [.ref (y 0), .int p0, .int p1, .int p2, .int p3, .int p4, .int nn].toArray s 11 66 (fun q => q = y 0 ∨ q = y 1)) (F0 m 95 ls []) := by
                intro n
                induction n with
                | zero =>
                  intro i rf H locs ls hin hr1 hr2 hS hP hD hl
                  have hiN : i = cn nn := by omega
                  refine lv_iload hx hb d_R_put_95 (lv_at hl 0 rfl) ?_
                  refine lv_iload hx hb d_R_put_97 (lv_at hl 7 rfl) ?_
                  refine lv_icmp_ge (tgt := 137) hx hb d_R_put_99 (by decide) (fun _ => ?_) (fun c9 => absurd (by rw [hne]; exact nI_le (by omega) (by omega)) c9)
                  refine lv_aload_n hx hb d_R_put_137 rfl (lv_at hl 1 rfl) ?_
                  refine lv_dup hx hb d_R_put_138 rfl ?_
                  refine va_get (D := D) (ci := 2) (v := .int (nI ws.length)) (C := n_R) (T := f_R) (N := 10) hx hb hts in_R hown hK hP 0 rfl rfl 3 (by decide) (hts _ x_85) (fun _ h9 => h9) rfl d_R_put_139 ?_
                  refine lv_iload hx hb d_R_put_142 (lv_at hl 7 rfl) ?_
                  refine lv_iadd hx hb d_R_put_144 ?_
                  refine ct_topi (x' := nI (ws ++ gvs p0 p1 p2 p3 p4 nn).length) (by rw [List.length_append, List.length_map, List.length_range, ← nI_add, ← hne]) ?_
                  refine va_put (D := D) (ci := 2) (v := .int (nI (ws ++ gvs p0 p1 p2 p3 p4 nn).length)) (ty := .int) (C := n_R) (T := f_R) (N := 10) hx hb hts in_R t_R ty_R nm_R hown hK hP hD hS 0 rfl rfl 3 (by decide) (hts _ x_85) (fun _ h9 => h9) rfl (by decide +kernel) rfl rfl (Nat.le_of_ble_eq_true rfl) d_R_put_145 (fun H locs hP hD hS => ?_)
                  have hP : va_P D vwCl [(y 0, .inr (2, [.int (nI sg), .ref (y 7), .int (nI xs.length), .int (nI (ws ++ gvs p0 p1 p2 p3 p4 nn).length), .ref (y 1), .ref (y 2), .ref (y 3), .ref (y 4), .ref (y 5), .ref (y 6)])), (y 1, .inl (cI, 1000, .inl (rf)))] H := hP
                  have hD : va_D (fun q => q = y 0 ∨ q = y 1) [(y 0, .inr (2, [.int (nI sg), .ref (y 7), .int (nI xs.length), .int (nI (ws ++ gvs p0 p1 p2 p3 p4 nn).length), .ref (y 1), .ref (y 2), .ref (y 3), .ref (y 4), .ref (y 5), .ref (y 6)])), (y 1, .inl (cI, 1000, .inl (rf)))] := hD
                  refine lv_aload_n hx hb d_R_put_148 rfl (lv_at hl 1 rfl) ?_
                  refine va_get (D := D) (ci := 2) (v := .int (nI (ws ++ gvs p0 p1 p2 p3 p4 nn).length)) (C := n_R) (T := f_R) (N := 10) hx hb hts in_R hown hK hP 0 rfl rfl 3 (by decide) (hts _ x_85) (fun _ h9 => h9) rfl d_R_put_149 ?_
                  have hzs : ∀ j x, (ws ++ gvs p0 p1 p2 p3 p4 nn)[j]? = some x → rf (xs.length + j) = nI x := by
                    intro j x hj
                    rcases Nat.lt_or_ge j ws.length with h1 | h1
                    · rw [List.getElem?_append_left h1] at hj; exact hr1 j x hj
                    · rw [List.getElem?_append_right h1, List.getElem?_map] at hj
                      obtain ⟨u, hu, rfl⟩ := Option.map_eq_some_iff.mp hj
                      obtain ⟨hu1, hu2⟩ := List.getElem?_eq_some_iff.mp hu
                      rw [List.length_range] at hu1
                      rw [List.getElem_range] at hu2
                      subst hu2
                      have h3 := hr2 (j - ws.length) (by omega)
                      rwa [show xs.length + ws.length + (j - ws.length) = xs.length + j by omega] at h3
                  refine vx_ret ?_
                  exact W.iret (v := nI (ws ++ gvs p0 p1 p2 p3 p4 nn).length) hx hb hr (fun t ht hW => ⟨_, rfl, by rw [ht]; exact ⟨by rw [List.length_append, List.length_map, List.length_range], fr.of hS, lrx_put hy hpre (fr.of hS) hP hzs, hsy, hrg, hfit⟩⟩) hS.2.2 d_R_put_152
                | succ n ih =>
                  intro i rf H locs ls hin hr1 hr2 hS hP hD hl
                  have hN10 : cn nn ≤ 10 := by
                    have h1 : ¬ nI 10 < nI (cn nn) := by rw [← hne]; exact hrg.2
                    rcases Nat.lt_or_ge 10 (cn nn) with h2 | h2
                    · exact absurd (nI_lt h2 hn31) h1
                    · exact h2
                  refine lv_iload hx hb d_R_put_95 (lv_at hl 0 rfl) ?_
                  refine lv_iload hx hb d_R_put_97 (lv_at hl 7 rfl) ?_
                  refine lv_icmp_ge (tgt := 137) hx hb d_R_put_99 (by decide) (fun c9 => absurd c9 (by rw [hne]; exact nI_ge (by omega) hn31)) (fun _ => ?_)
                  refine lv_aload_n hx hb d_R_put_102 rfl (lv_at hl 1 rfl) ?_
                  refine va_get (D := D) (ci := 2) (v := .ref (y 1)) (C := n_R) (T := f_R) (N := 10) hx hb hts in_R hown hK hP 0 rfl rfl 4 (by decide) (hts _ x_86) (fun _ h9 => h9) rfl d_R_put_103 ?_
                  refine lv_aload_n hx hb d_R_put_106 rfl (lv_at hl 1 rfl) ?_
                  refine va_get (D := D) (ci := 2) (v := .int (nI xs.length)) (C := n_R) (T := f_R) (N := 10) hx hb hts in_R hown hK hP 0 rfl rfl 2 (by decide) (hts _ x_84) (fun _ h9 => h9) rfl d_R_put_107 ?_
                  refine lv_aload_n hx hb d_R_put_110 rfl (lv_at hl 1 rfl) ?_
                  refine va_get (D := D) (ci := 2) (v := .int (nI ws.length)) (C := n_R) (T := f_R) (N := 10) hx hb hts in_R hown hK hP 0 rfl rfl 3 (by decide) (hts _ x_85) (fun _ h9 => h9) rfl d_R_put_111 ?_
                  refine lv_iadd hx hb d_R_put_114 ?_
                  refine lv_iload hx hb d_R_put_115 (lv_at hl 0 rfl) ?_
                  refine lv_iadd hx hb d_R_put_117 ?_
                  refine ct_topi (x' := nI (xs.length + ws.length + i)) (by rw [nI_add, nI_add]) ?_
                  refine lv_iload hx hb d_R_put_118 (lv_at hl 0 rfl) ?_
                  refine lv_iload_n hx hb d_R_put_120 rfl (lv_at hl 2 rfl) ?_
                  refine lv_iload_n hx hb d_R_put_121 rfl (lv_at hl 3 rfl) ?_
                  refine lv_iload_n hx hb d_R_put_122 rfl (lv_at hl 4 rfl) ?_
                  refine lv_iload hx hb d_R_put_123 (lv_at hl 5 rfl) ?_
                  refine lv_iload hx hb d_R_put_125 (lv_at hl 6 rfl) ?_
                  refine cm_read (va_runS (As := [.int (nI i), .int p0, .int p1, .int p2, .int p3, .int p4]) (rest := [.int (nI (xs.length + ws.length + i)), .ref (y 1)]) ⟨hx, hb, hml, hown, hts⟩ (m_R_symbolInPut p0 p1 p2 p3 p4 i (by omega)) ⟨ct_cb 6 hts x_184 x_182 x_1 rfl rfl (by decide +kernel) ⟨by decide, by decide⟩, hts _ x_183⟩ ⟨st_blind, fun U hU hW => ⟨rfl, hE.at hS hAB hU hW, by rw [hU]; exact trivial⟩⟩ rfl rfl hl.1 rfl (lv_room (Nat.le_of_ble_eq_true rfl)) d_R_put_127 ⟨by decide, by decide⟩) (fun v hv => ?_)
                  subst hv
                  refine W.eq (g2 := F0 m 130 ls [.int (nI (gv p0 p1 p2 p3 p4 i)), .int (nI (xs.length + ws.length + i)), .ref (y 1)]) rfl ?_
                  refine va_iast hx hb hK hP hD hS 1 0 rfl rfl (vp_in_nI (by omega) (by decide)) d_R_put_130 (fun H locs hP hD hS => ?_)
                  rw [nI_clamp (by omega)] at hP hD
                  have hP : va_P D vwCl [(y 0, .inr (2, [.int (nI sg), .ref (y 7), .int (nI xs.length), .int (nI ws.length), .ref (y 1), .ref (y 2), .ref (y 3), .ref (y 4), .ref (y 5), .ref (y 6)])), (y 1, .inl (cI, 1000, .inl (upd rf (xs.length + ws.length + i) (nI (gv p0 p1 p2 p3 p4 i)))))] H := hP
                  have hD : va_D (fun q => q = y 0 ∨ q = y 1) [(y 0, .inr (2, [.int (nI sg), .ref (y 7), .int (nI xs.length), .int (nI ws.length), .ref (y 1), .ref (y 2), .ref (y 3), .ref (y 4), .ref (y 5), .ref (y 6)])), (y 1, .inl (cI, 1000, .inl (upd rf (xs.length + ws.length + i) (nI (gv p0 p1 p2 p3 p4 i)))))] := hD
                  refine lv_iinc (v := nI (i + 1)) (lv' := [(8, .int (nI (i + 1))), (0, .ref (y 0)), (1, .int p0), (2, .int p1), (3, .int p2), (4, .int p3), (5, .int p4), (6, .int nn)]) hx hb d_R_put_131 hl (k := 0) rfl ((nI_succ i).symm) (by decide) rfl (fun ls hl => ?_)
                  refine lv_goto (tgt := 95) hx hb d_R_put_134 (by decide) ?_
                  refine ih (i + 1) _ H _ ls (by omega) (fun j x hj => ?_) (fun j hj => ?_) hS hP hD (lv_sub hl [0, 1, 2, 3, 4, 5, 6, 7] rfl)
                  · have e9 : xs.length + j ≠ xs.length + ws.length + i := by have := (List.getElem?_eq_some_iff.mp hj).1; omega
                    simp only [upd, if_neg e9]; exact hr1 j x hj
                  · by_cases e9 : j = i
                    · subst e9; simp only [upd, if_true]
                    · have e8 : xs.length + ws.length + j ≠ xs.length + ws.length + i := by omega
                      simp only [upd, if_neg e8]; exact hr2 j (by omega)
              refine W.widen (k := 11) (n := 66) (by omega) (by omega) ?_
              exact loop2 (cn nn) 0 rf s.heap _ ls (by omega) hrw (fun j hj => absurd hj (Nat.not_lt_zero j)) hS hP hD (lv_sub hl [0, 2, 3, 4, 5, 6, 7, 8] rfl)
          · exact ct_thr hx hb hl9 hown hts hE hS hAB (by rw [hml]; exact hl.1) (by decide +kernel) (at_A hts hE.2.1) ot_A x_258 x_11 x_267 d_R_put_54 d_R_put_57 d_R_put_58 d_R_put_60 d_R_put_63 hout (by decide) (Nat.le_of_ble_eq_true rfl) (show i + 1 ≤ 11 by omega) (show 6 * i + 6 ≤ 66 by omega) hlocks (fun H1 hf => ⟨Or.inr (Or.inl ⟨rfl, hsy, fun h => h2 (Int32.not_lt.mp h.2)⟩), hf⟩) hS.2.2 (show i + 1 ≤ 11 by omega) (show 6 * i + 6 ≤ 66 by omega)
      | succ n ih =>
        intro i locs ls hin hch hS hl
        refine lv_iload hx hb d_R_put_12 (lv_at hl 0 rfl) ?_
        refine lv_iload hx hb d_R_put_14 (lv_at hl 1 rfl) ?_
        refine lv_icmp_ge (tgt := 41) hx hb d_R_put_16 (by decide) (fun c9 => absurd c9 (nI_ge (by omega) (by omega))) (fun _ => ?_)
        refine lv_aload_n hx hb d_R_put_19 rfl (lv_at hl 2 rfl) ?_
        refine lv_iload hx hb d_R_put_20 (lv_at hl 0 rfl) ?_
        refine lv_iload_n hx hb d_R_put_22 rfl (lv_at hl 3 rfl) ?_
        refine lv_iload_n hx hb d_R_put_23 rfl (lv_at hl 4 rfl) ?_
        refine lv_iload_n hx hb d_R_put_24 rfl (lv_at hl 5 rfl) ?_
        refine lv_iload hx hb d_R_put_25 (lv_at hl 6 rfl) ?_
        refine lv_iload hx hb d_R_put_27 (lv_at hl 7 rfl) ?_
        refine cm_read (va_runS (As := [.int (nI i), .int p0, .int p1, .int p2, .int p3, .int p4]) (rest := [.ref (y 0)]) ⟨hx, hb, hml, hown, hts⟩ (m_R_symbolInPut p0 p1 p2 p3 p4 i (by omega)) ⟨ct_cb 6 hts x_184 x_182 x_1 rfl rfl (by decide +kernel) ⟨by decide, by decide⟩, hts _ x_183⟩ ⟨st_blind, fun U hU hW => ⟨rfl, hE.at hS hAB hU hW, by rw [hU]; exact trivial⟩⟩ rfl rfl hl.1 rfl (lv_room (Nat.le_of_ble_eq_true rfl)) d_R_put_29 ⟨show i + 0 ≤ 11 by omega, show 6 * i + 0 ≤ 66 by omega⟩) (fun v hv => ?_)
        subst hv
        refine W.eq (g2 := F0 m 32 ls [.int (nI (gv p0 p1 p2 p3 p4 i)), .ref (y 0)]) rfl ?_
        have hgl := gv_lt p0 p1 p2 p3 p4 i
        refine cx_ret (vx_runV (As := [.int (nI (gv p0 p1 p2 p3 p4 i))]) (rest := []) ⟨hx, hb, hml, hown, hts⟩ (m_R_checkSymbol hl9 (nI (gv p0 p1 p2 p3 p4 i))) ⟨ct_cb 1 hts x_189 x_186 x_1 rfl rfl (by decide +kernel) ⟨by decide, by decide⟩, hts _ x_188, hts _ s_R_checkSymbol⟩ ⟨st_blind, va_recv hK hP (ci := 2) (q0 := 0) rfl rfl, fun U hU hW => ⟨rfl, hE.at hS hAB hU hW, by rw [hU]; exact hpre.1.1⟩⟩ rfl rfl hl.1 rfl (lv_room (Nat.le_of_ble_eq_true rfl)) d_R_put_32 ⟨show i + 1 ≤ 11 by omega, show 6 * i + 6 ≤ 66 by omega⟩) hS (fun q h => h.elim) (fun _ _ h => by rw [h.2.1]; exact fr.rf) (fun _ _ h => h.2.2) (fun E ce q H locs hxx hS hce hcv hcl => ?_) (fun v H locs hv hS => ?_)
        · obtain ⟨rfl, hn9, hf9⟩ := hxx
          exact vx_out (fun x hx => (hout x hx).elim) hlocks hce hcv hcl (fun t ht _ => by show (pxP (symsOk sg p0 p1 p2 p3 p4 nn) (rngOk nn) (xs.length + ws.length + cn nn ≤ 1000)) _ s.heap t.heap; rw [ht]; exact ⟨Or.inl ⟨rfl, fun h => hn9 ⟨nI_pos (by omega), nI_lt (h i (by omega)) (by omega)⟩⟩, hf9⟩) hS.2.2 (show i + 1 ≤ 11 by omega) (show 6 * i + 6 ≤ 66 by omega)
        obtain ⟨rfl, rfl, hcs⟩ := hv
        refine W.eq (g2 := F0 m 35 ls []) rfl ?_
        have hgs : gv p0 p1 p2 p3 p4 i < sg := (nI_ltI (by omega) (by omega)).mp hcs.2
        refine lv_iinc (v := nI (i + 1)) (lv' := [(8, .int (nI (i + 1))), (7, .int (nI (min (cn nn) 10))), (0, .ref (y 0)), (1, .int p0), (2, .int p1), (3, .int p2), (4, .int p3), (5, .int p4), (6, .int nn)]) hx hb d_R_put_35 hl (k := 0) rfl ((nI_succ i).symm) (by decide) rfl (fun ls hl => ?_)
        refine lv_goto (tgt := 12) hx hb d_R_put_38 (by decide) ?_
        exact ih (i + 1) _ ls (by omega) (fun j hj => by rcases Nat.lt_or_ge j i with h8 | h8; exact hch j h8; rw [show j = i by omega]; exact hgs) hS (lv_sub hl [0, 1, 2, 3, 4, 5, 6, 7, 8] rfl)
    exact loop (min (cn nn) 10) 0 [] ls (by omega) (fun j hj => absurd hj (Nat.not_lt_zero j)) hS (lv_sub hl [0, 1, 2, 3, 4, 5, 6, 7, 8] rfl)
end
section
/-! MAKING a row: the depth, addresses that grow, an array of references by its contents. -/
section MKR
theorem arrV_congr {c : ClassId} {N : Nat} {f g : Nat → Value} (h : ∀ j, j < N → f j = g j) : arrV c N f = arrV c N g := by
  unfold arrV
  congr 2
  funext j
  exact h j.val j.isLt
theorem va_P.objs {D : va_G} {cl : List vw_C} {a N : Nat} {cA : ClassId} {f g : Nat → Option Nat} {H : Heap} (h : va_P D cl [(a, .inl (cA, N, .inr (.inr (.inr (.inr f)))))] H) (e : ∀ j, j < N → f j = g j) : va_P D cl [(a, .inl (cA, N, .inr (.inr (.inr (.inr g)))))] H := by
  intro k q hk
  match k, hk with
  | 0, hk =>
    cases hk
    have h1 : H[a]? = some (vp_cell cA (N, .inr (.inr (.inr (.inr f))))) := h 0 _ rfl
    show H[a]? = some (vp_cell cA (N, .inr (.inr (.inr (.inr g)))))
    rw [h1, vp_cell_q, vp_cell_q]
    exact congrArg some (arrV_congr (fun j hj => by rw [e j hj]))
  | k + 1, hk => simp at hk
theorem bl_ex {u : Nat} : ∀ k, u < 2 ^ k → ∃ d, d ≤ k ∧ u < 2 ^ d ∧ ∀ e, e < d → 2 ^ e ≤ u
  | 0 => fun h => ⟨0, Nat.le_refl _, h, fun e he => absurd he (Nat.not_lt_zero e)⟩
  | k + 1 => fun h => by
    rcases Nat.lt_or_ge u (2 ^ k) with h1 | h1
    · obtain ⟨d, h2, h3⟩ := bl_ex k h1
      exact ⟨d, by omega, h3⟩
    · exact ⟨k + 1, Nat.le_refl _, h, fun e he => Nat.le_trans (Nat.pow_le_pow_right (by omega) (by omega)) h1⟩
def sgOf (x : Int32) : Nat := if x < 1 then 1 else if 65536 < x then 65536 else cn x
theorem sgOf_b (x : Int32) : 1 ≤ sgOf x ∧ sgOf x ≤ 65536 := by
  unfold sgOf
  split
  · omega
  · split
    · omega
    · rename_i h1 h2
      have h3 : ¬ x < 0 := fun z => h1 (Int32.lt_trans z (by decide))
      obtain ⟨j, hj, rfl⟩ := nI_of h3
      simp only [cn]
      rw [nI_clamp hj]
      refine ⟨?_, (nI_leI hj (by decide)).mp (Int32.not_lt.mp h2)⟩
      exact (nI_leI (by decide) hj).mp (Int32.not_lt.mp h1)
theorem sgOf_R (x : Int32) : (if (1 : Int32) < (if x < 65536 then x else 65536) then (if x < 65536 then x else 65536) else 1) = nI (sgOf x) := by
  unfold sgOf
  by_cases h1 : x < 1
  · rw [if_pos h1, if_pos (Int32.lt_trans h1 (by decide)), if_neg (fun z => absurd (Int32.lt_trans z h1) (by decide))]
    rfl
  · rw [if_neg h1]
    by_cases h2 : 65536 < x
    · rw [if_pos h2, if_neg (fun z => Int32.lt_irrefl (Int32.lt_trans z h2)), if_pos (by decide)]
      rfl
    · rw [if_neg h2]
      obtain ⟨j, hj, rfl⟩ := nI_of (fun z => h1 (Int32.lt_trans z (by decide)) : ¬ x < 0)
      simp only [cn]
      rw [nI_clamp hj]
      have h3 : j ≤ 65536 := (nI_leI hj (by decide)).mp (Int32.not_lt.mp h2)
      have h4 : 1 ≤ j := (nI_leI (by decide) hj).mp (Int32.not_lt.mp h1)
      have h5 : (if nI j < 65536 then nI j else 65536) = nI j := by
        rcases Nat.lt_or_ge j 65536 with h | h
        · exact if_pos (show nI j < nI 65536 from nI_lt h (by decide))
        · have : j = 65536 := by omega
          subst this
          exact if_neg (by decide)
      rw [h5]
      exact max1 h4 hj
def ext (y : Nat → Nat) (i b0 b1 b2 : Nat) : Nat → Nat := fun j => if j = 8 + 3 * i then b0 else if j = 9 + 3 * i then b1 else if j = 10 + 3 * i then b2 else y j
theorem ext_lt {y : Nat → Nat} {i b0 b1 b2 j : Nat} (h : j < 8 + 3 * i) : ext y i b0 b1 b2 j = y j := by
  unfold ext
  rw [if_neg (by omega), if_neg (by omega), if_neg (by omega)]
theorem ext_0 {y : Nat → Nat} {i b0 b1 b2 : Nat} : ext y i b0 b1 b2 (8 + 3 * i) = b0 := if_pos rfl
theorem ext_1 {y : Nat → Nat} {i b0 b1 b2 : Nat} : ext y i b0 b1 b2 (9 + 3 * i) = b1 := by unfold ext; rw [if_neg (by omega), if_pos rfl]
theorem ext_2 {y : Nat → Nat} {i b0 b1 b2 : Nat} : ext y i b0 b1 b2 (10 + 3 * i) = b2 := by unfold ext; rw [if_neg (by omega), if_neg (by omega), if_pos rfl]
theorem ext_inj {y : Nat → Nat} {i b0 b1 b2 z : Nat} (h : ∀ a b, a < 8 + 3 * i → b < 8 + 3 * i → y a = y b → a = b) (hz : ∀ j, j < 8 + 3 * i → y j < z) (h0 : z ≤ b0) (h1 : z ≤ b1) (h2 : z ≤ b2) (h01 : b0 ≠ b1) (h02 : b0 ≠ b2) (h12 : b1 ≠ b2) :
    ∀ a b, a < 8 + 3 * (i + 1) → b < 8 + 3 * (i + 1) → ext y i b0 b1 b2 a = ext y i b0 b1 b2 b → a = b := by
  have key : ∀ a, a < 8 + 3 * (i + 1) → (a < 8 + 3 * i ∧ ext y i b0 b1 b2 a = y a) ∨ (a = 8 + 3 * i ∧ ext y i b0 b1 b2 a = b0) ∨ (a = 9 + 3 * i ∧ ext y i b0 b1 b2 a = b1) ∨ (a = 10 + 3 * i ∧ ext y i b0 b1 b2 a = b2) := by
    intro a ha
    rcases Nat.lt_or_ge a (8 + 3 * i) with g | g
    · exact Or.inl ⟨g, ext_lt g⟩
    · rcases (show a = 8 + 3 * i ∨ a = 9 + 3 * i ∨ a = 10 + 3 * i by omega) with rfl | rfl | rfl
      · exact Or.inr (Or.inl ⟨rfl, ext_0⟩)
      · exact Or.inr (Or.inr (Or.inl ⟨rfl, ext_1⟩))
      · exact Or.inr (Or.inr (Or.inr ⟨rfl, ext_2⟩))
  intro a b ha hb e
  rcases key a ha with ⟨a1, a2⟩ | ⟨a1, a2⟩ | ⟨a1, a2⟩ | ⟨a1, a2⟩ <;> rcases key b hb with ⟨c1, c2⟩ | ⟨c1, c2⟩ | ⟨c1, c2⟩ | ⟨c1, c2⟩ <;> rw [a2, c2] at e
  · exact h a b a1 c1 e
  · have := hz a a1; omega
  · have := hz a a1; omega
  · have := hz a a1; omega
  · have := hz b c1; omega
  · omega
  · exact absurd e h01
  · exact absurd e h02
  · have := hz b c1; omega
  · exact absurd e.symm h01
  · omega
  · exact absurd e h12
  · have := hz b c1; omega
  · exact absurd e.symm h02
  · exact absurd e.symm h12
  · omega
def gy (a0 a1 a2 a3 a4 a5 a6 a7 : Nat) : Nat → Nat := fun j => match j with
  | 0 => a0
  | 1 => a1
  | 2 => a2
  | 3 => a3
  | 4 => a4
  | 5 => a5
  | 6 => a6
  | _ => a7
theorem LvOk.nil {t : Nat → Bool} {L : List Nat} (h : L.length = 0) : LvOk t L (fun _ => 0) (fun _ => 0) 0 := by
  have h1 : L = [] := List.length_eq_zero_iff.mp h
  subst h1
  exact ⟨fun i x hx => by simp at hx, fun w hw => absurd hw (Nat.not_lt_zero _), rfl⟩
section CON
variable {p : Program} {l : Launch} {e : Env} {R : Room} {s : State} {m : MethodId} {args : Array Value} {below : List Frame} {meth : Method} {c : Code} {H : Heap} {locs : List Loc} {cells slots : Nat} {Q : State → Prop} {g : JFrame}
/-- what was written to new cells need not be kept in mind -/
theorem ct_only {a0 : Nat} (h : ∀ z ∈ locs, z.base = a0 ∨ s.heap.size ≤ z.base) (kk : ∀ locs' : List Loc, (∀ z ∈ locs', z.base = a0) → W p l e R s m args below meth c H locs' cells slots Q g) : W p l e R s m args below meth c H locs cells slots Q g := by
  intro T hT X
  refine kk (locs.filter (fun z => z.base == a0)) (fun z hz => by have := (List.mem_filter.mp hz).2; rwa [beq_iff_eq] at this) T hT { X with same := X.same.weaken (fun y hy hlt => ?_) (Nat.le_refl _) (Nat.le_refl _) }
  rcases h y hy with h1 | h1
  · exact List.mem_filter.mpr ⟨hy, by rw [beq_iff_eq]; exact h1⟩
  · exact absurd hlt (Nat.not_lt.mpr h1)
end CON
end MKR
end
section
/-! LevelRows.<init>. -/
set_option maxHeartbeats 4000000 in
set_option maxRecDepth 100000 in
theorem m_R_init {l : Launch} {D : va_G} {cI cJ cS cO : ClassId} {B0 : Nat} {a0 sz : Nat} (x : Int32) (hB : B0 ≤ a0) : CM l D (tyL cI cJ cS cO) B0 y_R_init c_R_init 4 none (rmK 2 55 5583) [.ref a0, .int x] (fun H => H.size = sz ∧ va_P D vwCl [(a0, .inr (2, [.int 0, .null, .int 0, .int 0, .null, .null, .null, .null, .null, .null]))] H) (fun v H0 H1 => v = none ∧ fr (fun q => q = a0 ∨ sz ≤ q) H0 H1 ∧ ∃ (y : Nat → Nat) (d : Nat), y 0 = a0 ∧ yI B0 y d ∧ (∀ i, 1 ≤ i → i < 8 + 3 * d → sz ≤ y i) ∧ Ok (sgOf x) d [] [] ∧ LRx D cI cJ cS cO y (sgOf x) d [] [] H1) 55 5583 (fun q => q = a0 ∨ sz ≤ q) := by
  refine cm_of (by decide) (Nat.le_of_ble_eq_true rfl) ?_
  intro p e s m below meth c ls hx hb hr hml hown hts hlocks hnm hE hpre hl
  have hown : s.vm.findClass "LevelRows" = some m.cls := hown
  have hK := hE.1
  have hl : lv_has ls 4 [(0, .ref a0), (1, .int x)] := hl
  obtain ⟨hz, hpre⟩ := hpre
  have ha0 : a0 < sz := by rw [← hz]; exact (hpre 0 _ rfl).lt
  have hBz : B0 ≤ sz := by rw [← hz]; exact hE.2.2.2.2
  have hA : ∀ q, s.heap.size ≤ q → (fun q => q = a0 ∨ sz ≤ q) q := fun q h => Or.inr (by rw [← hz]; exact h)
  have hAB : ∀ q : Nat, (q = a0 ∨ sz ≤ q) → B0 ≤ q := fun q h => h.elim (fun h => by rw [h]; exact hB) (fun h => Nat.le_trans hBz h)
  have hS : va_S (fun q => q = a0 ∨ sz ≤ q) s.heap s.heap [] := va_S.rf
  have hP : va_P D vwCl [(a0, .inr (2, [.int 0, .null, .int 0, .int 0, .null, .null, .null, .null, .null, .null]))] s.heap := hpre
  have hD : va_D (fun q => q = a0 ∨ sz ≤ q) [(a0, .inr (2, [.int 0, .null, .int 0, .int 0, .null, .null, .null, .null, .null, .null]))] := va_D.one (Or.inl rfl)
  refine lv_aload_n hx hb d_R_init_0 rfl (lv_at hl 0 rfl) ?_
  refine W.objInit hx hb hown (hts _ x_21) (hts _ x_22) (hts _ x_23) rfl (by rw [hml]; exact hl.1) rfl d_R_init_1 (by decide) (Nat.le_of_ble_eq_true rfl) ?_
  refine W.eq (g2 := F0 m 4 ls []) rfl ?_
  refine lv_aload_n hx hb d_R_init_4 rfl (lv_at hl 0 rfl) ?_
  refine lv_sipush (v := 1000) hx hb d_R_init_5 (by decide) ?_
  refine va_newa (atype := .int) hx hb (hts _ x_50) rfl hK hP hD hS hA (a0 := (1000, .inl (fun _ => 0))) (fun _ => rfl) (by decide) rfl (by decide) (Nat.le_of_ble_eq_true rfl) (Nat.le_of_ble_eq_true rfl) d_R_init_8 (fun a1 cA H hK9 hP hD hS => ?_)
  have e9 : cA = cI := Option.some.inj ((hK9.2 4 _ rfl).2.symm.trans (hK9.2 0 _ rfl).2)
  rw [e9] at hP hD
  have hP : va_P D vwCl [(a0, .inr (2, [.int 0, .null, .int 0, .int 0, .null, .null, .null, .null, .null, .null])), (a1, .inl (cI, 1000, .inl (fun _ => 0)))] H := hP
  have hD : va_D (fun q => q = a0 ∨ sz ≤ q) [(a0, .inr (2, [.int 0, .null, .int 0, .int 0, .null, .null, .null, .null, .null, .null])), (a1, .inl (cI, 1000, .inl (fun _ => 0)))] := hD
  refine va_putF (D := D) (ci := 2) (v := .ref a1) (ty := .array .int) (C := n_R) (T := f_R) (N := 10) hx hb hts in_R t_R ty_R nm_R hown hK hP hD hS 0 rfl rfl 4 (by decide) (hts _ x_86) (fun _ h9 => h9) rfl hnm rfl (by decide +kernel) rfl rfl (Nat.le_of_ble_eq_true rfl) d_R_init_10 (fun H locs hP hD hS => ?_)
  have hP : va_P D vwCl [(a0, .inr (2, [.int 0, .null, .int 0, .int 0, .ref a1, .null, .null, .null, .null, .null])), (a1, .inl (cI, 1000, .inl (fun _ => 0)))] H := hP
  have hD : va_D (fun q => q = a0 ∨ sz ≤ q) [(a0, .inr (2, [.int 0, .null, .int 0, .int 0, .ref a1, .null, .null, .null, .null, .null])), (a1, .inl (cI, 1000, .inl (fun _ => 0)))] := hD
  refine lv_aload_n hx hb d_R_init_13 rfl (lv_at hl 0 rfl) ?_
  refine lv_sipush (v := 1000) hx hb d_R_init_14 (by decide) ?_
  refine va_newa (atype := .int) hx hb (hts _ x_50) rfl hK hP hD hS hA (a0 := (1000, .inl (fun _ => 0))) (fun _ => rfl) (by decide) rfl (by decide) (Nat.le_of_ble_eq_true rfl) (Nat.le_of_ble_eq_true rfl) d_R_init_17 (fun a2 cA H hK9 hP hD hS => ?_)
  have e9 : cA = cI := Option.some.inj ((hK9.2 4 _ rfl).2.symm.trans (hK9.2 0 _ rfl).2)
  rw [e9] at hP hD
  have hP : va_P D vwCl [(a0, .inr (2, [.int 0, .null, .int 0, .int 0, .ref a1, .null, .null, .null, .null, .null])), (a1, .inl (cI, 1000, .inl (fun _ => 0))), (a2, .inl (cI, 1000, .inl (fun _ => 0)))] H := hP
  have hD : va_D (fun q => q = a0 ∨ sz ≤ q) [(a0, .inr (2, [.int 0, .null, .int 0, .int 0, .ref a1, .null, .null, .null, .null, .null])), (a1, .inl (cI, 1000, .inl (fun _ => 0))), (a2, .inl (cI, 1000, .inl (fun _ => 0)))] := hD
  refine va_putF (D := D) (ci := 2) (v := .ref a2) (ty := .array .int) (C := n_R) (T := f_R) (N := 10) hx hb hts in_R t_R ty_R nm_R hown hK hP hD hS 0 rfl rfl 5 (by decide) (hts _ x_87) (fun _ h9 => h9) rfl hnm rfl (by decide +kernel) rfl rfl (Nat.le_of_ble_eq_true rfl) d_R_init_19 (fun H locs hP hD hS => ?_)
  have hP : va_P D vwCl [(a0, .inr (2, [.int 0, .null, .int 0, .int 0, .ref a1, .ref a2, .null, .null, .null, .null])), (a1, .inl (cI, 1000, .inl (fun _ => 0))), (a2, .inl (cI, 1000, .inl (fun _ => 0)))] H := hP
  have hD : va_D (fun q => q = a0 ∨ sz ≤ q) [(a0, .inr (2, [.int 0, .null, .int 0, .int 0, .ref a1, .ref a2, .null, .null, .null, .null])), (a1, .inl (cI, 1000, .inl (fun _ => 0))), (a2, .inl (cI, 1000, .inl (fun _ => 0)))] := hD
  refine lv_aload_n hx hb d_R_init_22 rfl (lv_at hl 0 rfl) ?_
  refine va_new (ci := 1) (fs := [.int 0, .int 0, .int 0, .int 0, .int 0, .int 0]) (C := n_P) (T := f_P) (N := 6) hx hb hts in_P t_P ty_P hown (hts _ x_24) (hts _ x_25) (hts _ x_2) hK hP hD hS hA rfl (fun j hj => by rcases (show j = 0 ∨ j = 1 ∨ j = 2 ∨ j = 3 ∨ j = 4 ∨ j = 5 by omega) with rfl | rfl | rfl | rfl | rfl | rfl <;> rfl) (Nat.le_of_ble_eq_true rfl) (Nat.le_of_ble_eq_true rfl) d_R_init_23 (fun a3 H hP hD hS => ?_)
  have hP : va_P D vwCl [(a0, .inr (2, [.int 0, .null, .int 0, .int 0, .ref a1, .ref a2, .null, .null, .null, .null])), (a1, .inl (cI, 1000, .inl (fun _ => 0))), (a2, .inl (cI, 1000, .inl (fun _ => 0))), (a3, .inr (1, [.int 0, .int 0, .int 0, .int 0, .int 0, .int 0]))] H := hP
  have hD : va_D (fun q => q = a0 ∨ sz ≤ q) [(a0, .inr (2, [.int 0, .null, .int 0, .int 0, .ref a1, .ref a2, .null, .null, .null, .null])), (a1, .inl (cI, 1000, .inl (fun _ => 0))), (a2, .inl (cI, 1000, .inl (fun _ => 0))), (a3, .inr (1, [.int 0, .int 0, .int 0, .int 0, .int 0, .int 0]))] := hD
  refine lv_dup hx hb d_R_init_26 rfl ?_
  refine cm_read (va_runIN (As := []) (rest := [.ref a3, .ref a0]) (b := a3) ⟨hx, hb, hml, hown, hts⟩ (m_P_init) ⟨va_cnB 0 hts (gd_ws x_28) rfl rfl rfl (hE.2.1 _ x_26) (hts _ x_2) (by decide +kernel) ⟨by decide, by decide⟩, rfl, hts _ x_27⟩ ⟨st_blind, fun U hU hW => ⟨rfl, hE.at hS hAB hU hW, by rw [hU]; exact trivial⟩⟩ rfl rfl hl.1 rfl (lv_room (Nat.le_of_ble_eq_true rfl)) d_R_init_27 ⟨by decide, by decide⟩) (fun v hv => ?_)
  subst hv
  refine W.eq (g2 := F0 m 30 ls [.ref a3, .ref a0]) rfl ?_
  refine va_putF (D := D) (ci := 2) (v := .ref a3) (ty := .object "LevelRows$Part") (C := n_R) (T := f_R) (N := 10) hx hb hts in_R t_R ty_R nm_R hown hK hP hD hS 0 rfl rfl 6 (by decide) (hts _ x_88) (fun _ h9 => h9) rfl hnm rfl (by decide +kernel) rfl rfl (Nat.le_of_ble_eq_true rfl) d_R_init_30 (fun H locs hP hD hS => ?_)
  have hP : va_P D vwCl [(a0, .inr (2, [.int 0, .null, .int 0, .int 0, .ref a1, .ref a2, .ref a3, .null, .null, .null])), (a1, .inl (cI, 1000, .inl (fun _ => 0))), (a2, .inl (cI, 1000, .inl (fun _ => 0))), (a3, .inr (1, [.int 0, .int 0, .int 0, .int 0, .int 0, .int 0]))] H := hP
  have hD : va_D (fun q => q = a0 ∨ sz ≤ q) [(a0, .inr (2, [.int 0, .null, .int 0, .int 0, .ref a1, .ref a2, .ref a3, .null, .null, .null])), (a1, .inl (cI, 1000, .inl (fun _ => 0))), (a2, .inl (cI, 1000, .inl (fun _ => 0))), (a3, .inr (1, [.int 0, .int 0, .int 0, .int 0, .int 0, .int 0]))] := hD
  refine lv_aload_n hx hb d_R_init_33 rfl (lv_at hl 0 rfl) ?_
  refine lv_sipush (v := 1000) hx hb d_R_init_34 (by decide) ?_
  refine va_newa (atype := .int) hx hb (hts _ x_50) rfl hK hP hD hS hA (a0 := (1000, .inl (fun _ => 0))) (fun _ => rfl) (by decide) rfl (by decide) (Nat.le_of_ble_eq_true rfl) (Nat.le_of_ble_eq_true rfl) d_R_init_37 (fun a4 cA H hK9 hP hD hS => ?_)
  have e9 : cA = cI := Option.some.inj ((hK9.2 4 _ rfl).2.symm.trans (hK9.2 0 _ rfl).2)
  rw [e9] at hP hD
  have hP : va_P D vwCl [(a0, .inr (2, [.int 0, .null, .int 0, .int 0, .ref a1, .ref a2, .ref a3, .null, .null, .null])), (a1, .inl (cI, 1000, .inl (fun _ => 0))), (a2, .inl (cI, 1000, .inl (fun _ => 0))), (a3, .inr (1, [.int 0, .int 0, .int 0, .int 0, .int 0, .int 0])), (a4, .inl (cI, 1000, .inl (fun _ => 0)))] H := hP
  have hD : va_D (fun q => q = a0 ∨ sz ≤ q) [(a0, .inr (2, [.int 0, .null, .int 0, .int 0, .ref a1, .ref a2, .ref a3, .null, .null, .null])), (a1, .inl (cI, 1000, .inl (fun _ => 0))), (a2, .inl (cI, 1000, .inl (fun _ => 0))), (a3, .inr (1, [.int 0, .int 0, .int 0, .int 0, .int 0, .int 0])), (a4, .inl (cI, 1000, .inl (fun _ => 0)))] := hD
  refine va_putF (D := D) (ci := 2) (v := .ref a4) (ty := .array .int) (C := n_R) (T := f_R) (N := 10) hx hb hts in_R t_R ty_R nm_R hown hK hP hD hS 0 rfl rfl 7 (by decide) (hts _ x_89) (fun _ h9 => h9) rfl hnm rfl (by decide +kernel) rfl rfl (Nat.le_of_ble_eq_true rfl) d_R_init_39 (fun H locs hP hD hS => ?_)
  have hP : va_P D vwCl [(a0, .inr (2, [.int 0, .null, .int 0, .int 0, .ref a1, .ref a2, .ref a3, .ref a4, .null, .null])), (a1, .inl (cI, 1000, .inl (fun _ => 0))), (a2, .inl (cI, 1000, .inl (fun _ => 0))), (a3, .inr (1, [.int 0, .int 0, .int 0, .int 0, .int 0, .int 0])), (a4, .inl (cI, 1000, .inl (fun _ => 0)))] H := hP
  have hD : va_D (fun q => q = a0 ∨ sz ≤ q) [(a0, .inr (2, [.int 0, .null, .int 0, .int 0, .ref a1, .ref a2, .ref a3, .ref a4, .null, .null])), (a1, .inl (cI, 1000, .inl (fun _ => 0))), (a2, .inl (cI, 1000, .inl (fun _ => 0))), (a3, .inr (1, [.int 0, .int 0, .int 0, .int 0, .int 0, .int 0])), (a4, .inl (cI, 1000, .inl (fun _ => 0)))] := hD
  refine lv_aload_n hx hb d_R_init_42 rfl (lv_at hl 0 rfl) ?_
  refine lv_sipush (v := 1000) hx hb d_R_init_43 (by decide) ?_
  refine va_newa (atype := .int) hx hb (hts _ x_50) rfl hK hP hD hS hA (a0 := (1000, .inl (fun _ => 0))) (fun _ => rfl) (by decide) rfl (by decide) (Nat.le_of_ble_eq_true rfl) (Nat.le_of_ble_eq_true rfl) d_R_init_46 (fun a5 cA H hK9 hP hD hS => ?_)
  have e9 : cA = cI := Option.some.inj ((hK9.2 4 _ rfl).2.symm.trans (hK9.2 0 _ rfl).2)
  rw [e9] at hP hD
  have hP : va_P D vwCl [(a0, .inr (2, [.int 0, .null, .int 0, .int 0, .ref a1, .ref a2, .ref a3, .ref a4, .null, .null])), (a1, .inl (cI, 1000, .inl (fun _ => 0))), (a2, .inl (cI, 1000, .inl (fun _ => 0))), (a3, .inr (1, [.int 0, .int 0, .int 0, .int 0, .int 0, .int 0])), (a4, .inl (cI, 1000, .inl (fun _ => 0))), (a5, .inl (cI, 1000, .inl (fun _ => 0)))] H := hP
  have hD : va_D (fun q => q = a0 ∨ sz ≤ q) [(a0, .inr (2, [.int 0, .null, .int 0, .int 0, .ref a1, .ref a2, .ref a3, .ref a4, .null, .null])), (a1, .inl (cI, 1000, .inl (fun _ => 0))), (a2, .inl (cI, 1000, .inl (fun _ => 0))), (a3, .inr (1, [.int 0, .int 0, .int 0, .int 0, .int 0, .int 0])), (a4, .inl (cI, 1000, .inl (fun _ => 0))), (a5, .inl (cI, 1000, .inl (fun _ => 0)))] := hD
  refine va_putF (D := D) (ci := 2) (v := .ref a5) (ty := .array .int) (C := n_R) (T := f_R) (N := 10) hx hb hts in_R t_R ty_R nm_R hown hK hP hD hS 0 rfl rfl 8 (by decide) (hts _ x_90) (fun _ h9 => h9) rfl hnm rfl (by decide +kernel) rfl rfl (Nat.le_of_ble_eq_true rfl) d_R_init_48 (fun H locs hP hD hS => ?_)
  have hP : va_P D vwCl [(a0, .inr (2, [.int 0, .null, .int 0, .int 0, .ref a1, .ref a2, .ref a3, .ref a4, .ref a5, .null])), (a1, .inl (cI, 1000, .inl (fun _ => 0))), (a2, .inl (cI, 1000, .inl (fun _ => 0))), (a3, .inr (1, [.int 0, .int 0, .int 0, .int 0, .int 0, .int 0])), (a4, .inl (cI, 1000, .inl (fun _ => 0))), (a5, .inl (cI, 1000, .inl (fun _ => 0)))] H := hP
  have hD : va_D (fun q => q = a0 ∨ sz ≤ q) [(a0, .inr (2, [.int 0, .null, .int 0, .int 0, .ref a1, .ref a2, .ref a3, .ref a4, .ref a5, .null])), (a1, .inl (cI, 1000, .inl (fun _ => 0))), (a2, .inl (cI, 1000, .inl (fun _ => 0))), (a3, .inr (1, [.int 0, .int 0, .int 0, .int 0, .int 0, .int 0])), (a4, .inl (cI, 1000, .inl (fun _ => 0))), (a5, .inl (cI, 1000, .inl (fun _ => 0)))] := hD
  refine lv_aload_n hx hb d_R_init_51 rfl (lv_at hl 0 rfl) ?_
  refine lv_sipush (v := 1001) hx hb d_R_init_52 (by decide) ?_
  refine va_newa (atype := .int) hx hb (hts _ x_50) rfl hK hP hD hS hA (a0 := (1001, .inl (fun _ => 0))) (fun _ => rfl) (by decide) rfl (by decide) (Nat.le_of_ble_eq_true rfl) (Nat.le_of_ble_eq_true rfl) d_R_init_55 (fun a6 cA H hK9 hP hD hS => ?_)
  have e9 : cA = cI := Option.some.inj ((hK9.2 4 _ rfl).2.symm.trans (hK9.2 0 _ rfl).2)
  rw [e9] at hP hD
  have hP : va_P D vwCl [(a0, .inr (2, [.int 0, .null, .int 0, .int 0, .ref a1, .ref a2, .ref a3, .ref a4, .ref a5, .null])), (a1, .inl (cI, 1000, .inl (fun _ => 0))), (a2, .inl (cI, 1000, .inl (fun _ => 0))), (a3, .inr (1, [.int 0, .int 0, .int 0, .int 0, .int 0, .int 0])), (a4, .inl (cI, 1000, .inl (fun _ => 0))), (a5, .inl (cI, 1000, .inl (fun _ => 0))), (a6, .inl (cI, 1001, .inl (fun _ => 0)))] H := hP
  have hD : va_D (fun q => q = a0 ∨ sz ≤ q) [(a0, .inr (2, [.int 0, .null, .int 0, .int 0, .ref a1, .ref a2, .ref a3, .ref a4, .ref a5, .null])), (a1, .inl (cI, 1000, .inl (fun _ => 0))), (a2, .inl (cI, 1000, .inl (fun _ => 0))), (a3, .inr (1, [.int 0, .int 0, .int 0, .int 0, .int 0, .int 0])), (a4, .inl (cI, 1000, .inl (fun _ => 0))), (a5, .inl (cI, 1000, .inl (fun _ => 0))), (a6, .inl (cI, 1001, .inl (fun _ => 0)))] := hD
  refine va_putF (D := D) (ci := 2) (v := .ref a6) (ty := .array .int) (C := n_R) (T := f_R) (N := 10) hx hb hts in_R t_R ty_R nm_R hown hK hP hD hS 0 rfl rfl 9 (by decide) (hts _ x_91) (fun _ h9 => h9) rfl hnm rfl (by decide +kernel) rfl rfl (Nat.le_of_ble_eq_true rfl) d_R_init_57 (fun H locs hP hD hS => ?_)
  have hP : va_P D vwCl [(a0, .inr (2, [.int 0, .null, .int 0, .int 0, .ref a1, .ref a2, .ref a3, .ref a4, .ref a5, .ref a6])), (a1, .inl (cI, 1000, .inl (fun _ => 0))), (a2, .inl (cI, 1000, .inl (fun _ => 0))), (a3, .inr (1, [.int 0, .int 0, .int 0, .int 0, .int 0, .int 0])), (a4, .inl (cI, 1000, .inl (fun _ => 0))), (a5, .inl (cI, 1000, .inl (fun _ => 0))), (a6, .inl (cI, 1001, .inl (fun _ => 0)))] H := hP
  have hD : va_D (fun q => q = a0 ∨ sz ≤ q) [(a0, .inr (2, [.int 0, .null, .int 0, .int 0, .ref a1, .ref a2, .ref a3, .ref a4, .ref a5, .ref a6])), (a1, .inl (cI, 1000, .inl (fun _ => 0))), (a2, .inl (cI, 1000, .inl (fun _ => 0))), (a3, .inr (1, [.int 0, .int 0, .int 0, .int 0, .int 0, .int 0])), (a4, .inl (cI, 1000, .inl (fun _ => 0))), (a5, .inl (cI, 1000, .inl (fun _ => 0))), (a6, .inl (cI, 1001, .inl (fun _ => 0)))] := hD
  refine lv_aload_n hx hb d_R_init_60 rfl (lv_at hl 0 rfl) ?_
  refine lv_iconst (v := 1) hx hb d_R_init_61 (by decide) ?_
  refine lv_ldc (v := 65536) hx hb hown (hts _ x_51) d_R_init_62 ?_
  refine lv_iload_n hx hb d_R_init_64 rfl (lv_at hl 1 rfl) ?_
  refine va_mmin hx hb (by rw [hml]; exact hl.1.symm) hown (hts _ x_52) (hts _ x_53) (hts _ x_3) (hts _ x_54) (by decide) (Nat.le_of_ble_eq_true rfl) (by decide) (by decide) d_R_init_65 ?_
  refine va_mmax hx hb (by rw [hml]; exact hl.1.symm) hown (hts _ x_55) (hts _ x_56) (hts _ x_3) (hts _ x_57) (by decide) (Nat.le_of_ble_eq_true rfl) (by decide) (by decide) d_R_init_68 ?_
  refine ct_topi (x' := nI (sgOf x)) (sgOf_R x) ?_
  refine va_putF (D := D) (ci := 2) (v := .int (nI (sgOf x))) (ty := .int) (C := n_R) (T := f_R) (N := 10) hx hb hts in_R t_R ty_R nm_R hown hK hP hD hS 0 rfl rfl 0 (by decide) (hts _ x_82) (fun _ h9 => h9) rfl hnm rfl (by decide +kernel) rfl rfl (Nat.le_of_ble_eq_true rfl) d_R_init_71 (fun H locs hP hD hS => ?_)
  have hP : va_P D vwCl [(a0, .inr (2, [.int (nI (sgOf x)), .null, .int 0, .int 0, .ref a1, .ref a2, .ref a3, .ref a4, .ref a5, .ref a6])), (a1, .inl (cI, 1000, .inl (fun _ => 0))), (a2, .inl (cI, 1000, .inl (fun _ => 0))), (a3, .inr (1, [.int 0, .int 0, .int 0, .int 0, .int 0, .int 0])), (a4, .inl (cI, 1000, .inl (fun _ => 0))), (a5, .inl (cI, 1000, .inl (fun _ => 0))), (a6, .inl (cI, 1001, .inl (fun _ => 0)))] H := hP
  have hD : va_D (fun q => q = a0 ∨ sz ≤ q) [(a0, .inr (2, [.int (nI (sgOf x)), .null, .int 0, .int 0, .ref a1, .ref a2, .ref a3, .ref a4, .ref a5, .ref a6])), (a1, .inl (cI, 1000, .inl (fun _ => 0))), (a2, .inl (cI, 1000, .inl (fun _ => 0))), (a3, .inr (1, [.int 0, .int 0, .int 0, .int 0, .int 0, .int 0])), (a4, .inl (cI, 1000, .inl (fun _ => 0))), (a5, .inl (cI, 1000, .inl (fun _ => 0))), (a6, .inl (cI, 1001, .inl (fun _ => 0)))] := hD
  refine lv_bipush (v := 32) hx hb d_R_init_74 (by decide) ?_
  refine lv_aload_n hx hb d_R_init_76 rfl (lv_at hl 0 rfl) ?_
  refine va_get (D := D) (ci := 2) (v := .int (nI (sgOf x))) (C := n_R) (T := f_R) (N := 10) hx hb hts in_R hown hK hP 0 rfl rfl 0 (by decide) (hts _ x_82) (fun _ h9 => h9) rfl d_R_init_77 ?_
  refine lv_iconst (v := 1) hx hb d_R_init_80 (by decide) ?_
  refine lv_isub hx hb d_R_init_81 ?_
  obtain ⟨hg1, hg2⟩ := sgOf_b x
  refine ct_topi (x' := nI (sgOf x - 1)) (pk_sub (b := 1) hg1) ?_
  obtain ⟨d, hd16, hdu, hdl⟩ := bl_ex (u := sgOf x - 1) 16 (by omega)
  refine cm_read (va_runS (As := [.int (nI (sgOf x - 1))]) (rest := [.int 32]) ⟨hx, hb, hml, hown, hts⟩ (m_I_nlz (sgOf x - 1) d hdu hdl hd16) ⟨ct_cb 1 hts x_60 x_58 x_4 rfl rfl (by decide +kernel) ⟨by decide, by decide⟩, hts _ x_59⟩ ⟨st_blind, fun U hU hW => ⟨rfl, hE.at hS hAB hU hW, by rw [hU]; exact trivial⟩⟩ rfl rfl hl.1 rfl (lv_room (Nat.le_of_ble_eq_true rfl)) d_R_init_82 ⟨by decide, by decide⟩) (fun v hv => ?_)
  subst hv
  refine W.eq (g2 := F0 m 85 ls [.int (nI (32 - d)), .int 32]) rfl ?_
  refine lv_isub hx hb d_R_init_85 ?_
  refine ct_topi (x' := nI d) (by rw [show (32 : Int32) = nI 32 from rfl, pk_sub (by omega)]; congr 1; omega) ?_
  refine lv_istore_n (lv' := [(2, .int (nI d)), (0, .ref a0), (1, .int x)]) hx hb d_R_init_86 rfl hl (by decide) rfl (fun ls hl => ?_)
  refine lv_aload_n hx hb d_R_init_87 rfl (lv_at hl 1 rfl) ?_
  refine lv_iload_n hx hb d_R_init_88 rfl (lv_at hl 0 rfl) ?_
  refine va_newq hx hb hown (hts _ x_62) (hE.2.1 _ x_63) hK hP hD hS hA (N' := d) (nI_pos (by omega)) (nI_clamp (by omega)) (by omega) (Nat.le_of_ble_eq_true rfl) (show _ + d ≤ 5583 by omega) d_R_init_89 (fun a7 cA H hK9 hP hD hS => ?_)
  have e9 : cA = cO := Option.some.inj ((va_nmO (hK9.2 4 _ rfl).2 rfl).symm.trans (va_nmO (hK9.2 3 _ rfl).2 rfl))
  rw [e9] at hP hD
  have hP : va_P D vwCl [(a0, .inr (2, [.int (nI (sgOf x)), .null, .int 0, .int 0, .ref a1, .ref a2, .ref a3, .ref a4, .ref a5, .ref a6])), (a1, .inl (cI, 1000, .inl (fun _ => 0))), (a2, .inl (cI, 1000, .inl (fun _ => 0))), (a3, .inr (1, [.int 0, .int 0, .int 0, .int 0, .int 0, .int 0])), (a4, .inl (cI, 1000, .inl (fun _ => 0))), (a5, .inl (cI, 1000, .inl (fun _ => 0))), (a6, .inl (cI, 1001, .inl (fun _ => 0))), (a7, .inl (cO, d, .inr (.inr (.inr (.inr (fun _ => none))))))] H := hP
  have hD : va_D (fun q => q = a0 ∨ sz ≤ q) [(a0, .inr (2, [.int (nI (sgOf x)), .null, .int 0, .int 0, .ref a1, .ref a2, .ref a3, .ref a4, .ref a5, .ref a6])), (a1, .inl (cI, 1000, .inl (fun _ => 0))), (a2, .inl (cI, 1000, .inl (fun _ => 0))), (a3, .inr (1, [.int 0, .int 0, .int 0, .int 0, .int 0, .int 0])), (a4, .inl (cI, 1000, .inl (fun _ => 0))), (a5, .inl (cI, 1000, .inl (fun _ => 0))), (a6, .inl (cI, 1001, .inl (fun _ => 0))), (a7, .inl (cO, d, .inr (.inr (.inr (.inr (fun _ => none))))))] := hD
  refine va_putF (D := D) (ci := 2) (v := .ref a7) (ty := .array (.object "LevelRows$Level")) (C := n_R) (T := f_R) (N := 10) hx hb hts in_R t_R ty_R nm_R hown hK hP hD hS 0 rfl rfl 1 (by decide) (hts _ x_83) (fun _ h9 => h9) rfl hnm rfl (by decide +kernel) rfl rfl (Nat.le_of_ble_eq_true rfl) d_R_init_92 (fun H locs hP hD hS => ?_)
  have hP : va_P D vwCl [(a0, .inr (2, [.int (nI (sgOf x)), .ref a7, .int 0, .int 0, .ref a1, .ref a2, .ref a3, .ref a4, .ref a5, .ref a6])), (a1, .inl (cI, 1000, .inl (fun _ => 0))), (a2, .inl (cI, 1000, .inl (fun _ => 0))), (a3, .inr (1, [.int 0, .int 0, .int 0, .int 0, .int 0, .int 0])), (a4, .inl (cI, 1000, .inl (fun _ => 0))), (a5, .inl (cI, 1000, .inl (fun _ => 0))), (a6, .inl (cI, 1001, .inl (fun _ => 0))), (a7, .inl (cO, d, .inr (.inr (.inr (.inr (fun _ => none))))))] H := hP
  have hD : va_D (fun q => q = a0 ∨ sz ≤ q) [(a0, .inr (2, [.int (nI (sgOf x)), .ref a7, .int 0, .int 0, .ref a1, .ref a2, .ref a3, .ref a4, .ref a5, .ref a6])), (a1, .inl (cI, 1000, .inl (fun _ => 0))), (a2, .inl (cI, 1000, .inl (fun _ => 0))), (a3, .inr (1, [.int 0, .int 0, .int 0, .int 0, .int 0, .int 0])), (a4, .inl (cI, 1000, .inl (fun _ => 0))), (a5, .inl (cI, 1000, .inl (fun _ => 0))), (a6, .inl (cI, 1001, .inl (fun _ => 0))), (a7, .inl (cO, d, .inr (.inr (.inr (.inr (fun _ => none))))))] := hD
  refine lv_iconst (v := 0) hx hb d_R_init_95 (by decide) ?_
  refine lv_istore_n (lv' := [(3, .int 0), (2, .int (nI d)), (0, .ref a0), (1, .int x)]) hx hb d_R_init_96 rfl hl (by decide) rfl (fun ls hl => ?_)
  obtain ⟨y, hy⟩ : ∃ y, y = gy a0 a1 a2 a3 a4 a5 a6 a7 := ⟨_, rfl⟩
  have loop : ∀ (n i : Nat) (y : Nat → Nat) (f : Nat → Option Nat) (Hi : Heap) (locs : List Loc) (ls : Array Slot), (i + n = d) → (y 0 = a0) → (∀ a b, a < 8 + 3 * i → b < 8 + 3 * i → y a = y b → a = b) → (∀ j, 1 ≤ j → j < 8 + 3 * i → sz ≤ y j) → (fr (fun q => q = a0 ∨ sz ≤ q) s.heap Hi) → (∀ z ∈ locs, z.base = a0) → (va_P D vwCl [(y 0, .inr (2, [.int (nI (sgOf x)), .ref (y 7), .int 0, .int 0, .ref (y 1), .ref (y 2), .ref (y 3), .ref (y 4), .ref (y 5), .ref (y 6)])), (y 7, .inl (cO, d, .inr (.inr (.inr (.inr (f))))))] Hi) → (va_P D vwCl [(y 1, .inl (cI, 1000, .inl (fun _ => 0))), (y 2, .inl (cI, 1000, .inl (fun _ => 0))), (y 3, .inr (1, [.int 0, .int 0, .int 0, .int 0, .int 0, .int 0])), (y 4, .inl (cI, 1000, .inl (fun _ => 0))), (y 5, .inl (cI, 1000, .inl (fun _ => 0))), (y 6, .inl (cI, 1001, .inl (fun _ => 0)))] Hi) → (∀ j, j < i → f j = some (y (8 + 3 * j))) → (∀ k, k < i → va_P D vwCl (Lw cJ cS (y (8 + 3 * k)) (y (9 + 3 * k)) (y (10 + 3 * k)) (fun _ => 0) (fun _ => 0) 0) Hi) → (lv_has ls 4 [(3, .int (nI i)), (2, .int (nI d)), (0, .ref (y 0)), (1, .int x)]) → W p l e (rmK 2 55 5583) s m [.ref a0, .int x].toArray below meth c Hi locs (7 + 3 * i) (5007 + d + 35 * i) (MQ below (stQ (fun v H0 H1 => v = none ∧ fr (fun q => q = a0 ∨ sz ≤ q) H0 H1 ∧ ∃ (y : Nat → Nat) (d : Nat), y 0 = a0 ∧ yI B0 y d ∧ (∀ i, 1 ≤ i → i < 8 + 3 * d → sz ≤ y i) ∧ Ok (sgOf x) d [] [] ∧ LRx D cI cJ cS cO y (sgOf x) d [] [] H1)) [.ref a0, .int x].toArray s 55 5583 (fun q => q = a0 ∨ sz ≤ q)) (F0 m 97 ls []) := by
    intro n
    induction n with
    | zero =>
      intro i y f Hi locs ls hin h0 hinj hge hfr hlo hP hO hf hLv hl
      have hid : i = d := by omega
      refine lv_iload_n hx hb d_R_init_97 rfl (lv_at hl 0 rfl) ?_
      refine lv_iload_n hx hb d_R_init_98 rfl (lv_at hl 1 rfl) ?_
      refine lv_icmp_ge (tgt := 121) hx hb d_R_init_99 (by decide) (fun _ => ?_) (fun c9 => absurd (nI_le (by omega) (by omega)) c9)
      subst hid
      have hok : Ok (sgOf x) i [] [] := ⟨hg1, hg2, by omega, hdl, hd16, by decide, (fun x h => nomatch h), (fun x h => nomatch h)⟩
      have hyI : yI B0 y i := ⟨hinj, fun j hj => by rcases Nat.eq_zero_or_pos j with h | h; rw [h, h0]; exact hB; exact Nat.le_trans hBz (hge j h hj)⟩
      have hP7 : va_P D vwCl [(y 7, .inl (cO, i, .inr (.inr (.inr (.inr (fun j => some (y (8 + 3 * j))))))))] Hi := va_P.objs (hP.sub [1] rfl) hf
      have hLR : LRx D cI cJ cS cO y (sgOf x) i [] [] Hi := by
        refine ⟨⟨(hP.sub [0] rfl).app hP7, fun k hk => ⟨_, _, _, LvOk.nil (wL_len i [] k), hLv k hk⟩⟩, ⟨_, _, _, _, _, _, hO.sub [2] rfl⟩, ⟨_, _, hO.sub [3, 4] rfl⟩, ⟨_, hO.sub [5] rfl⟩, _, _, fun i x h => by simp at h, hO.sub [0, 1] rfl⟩
      refine W.widen (k := 55) (n := 5583) (by omega) (by omega) ?_
      exact W.vret hx hb hr (fun t ht hW => ⟨_, rfl, by rw [ht]; exact ⟨rfl, hfr, y, i, h0, hyI, hge, hok, hLR⟩⟩) (fun z hz => Or.inl (hlo z hz)) d_R_init_121
    | succ n ih =>
      intro i y f Hi locs ls hin h0 hinj hge hfr hlo hP hO hf hLv hl
      have hid : i < d := by omega
      have hzi : sz ≤ Hi.size := by rw [← hz]; exact hfr.1
      have hlt : ∀ j, j < 8 + 3 * i → y j < Hi.size := by
        intro j hj
        rcases Nat.lt_or_ge j 8 with h8 | h8
        · rcases (show j = 0 ∨ j = 1 ∨ j = 2 ∨ j = 3 ∨ j = 4 ∨ j = 5 ∨ j = 6 ∨ j = 7 by omega) with rfl | rfl | rfl | rfl | rfl | rfl | rfl | rfl
          · exact (hP 0 _ rfl).lt
          · exact (hO 0 _ rfl).lt
          · exact (hO 1 _ rfl).lt
          · exact (hO 2 _ rfl).lt
          · exact (hO 3 _ rfl).lt
          · exact (hO 4 _ rfl).lt
          · exact (hO 5 _ rfl).lt
          · exact (hP 1 _ rfl).lt
        · obtain ⟨k, hk⟩ : ∃ k, j = 8 + 3 * k ∨ j = 9 + 3 * k ∨ j = 10 + 3 * k := ⟨(j - 8) / 3, by omega⟩
          have hki : k < i := by omega
          rcases hk with rfl | rfl | rfl
          · exact (hLv k hki 0 _ rfl).lt
          · exact (hLv k hki 1 _ rfl).lt
          · exact (hLv k hki 2 _ rfl).lt
      have hA : ∀ q, Hi.size ≤ q → (fun q => q = a0 ∨ q = y 7 ∨ Hi.size ≤ q) q := fun q h => Or.inr (Or.inr h)
      have hS : va_S (fun q => q = a0 ∨ q = y 7 ∨ Hi.size ≤ q) Hi Hi locs := ⟨Nat.le_refl _, fun _ _ _ => rfl, fun z hz => Or.inl (hlo z hz)⟩
      have hD : va_D (fun q => q = a0 ∨ q = y 7 ∨ Hi.size ≤ q) [(y 0, .inr (2, [.int (nI (sgOf x)), .ref (y 7), .int 0, .int 0, .ref (y 1), .ref (y 2), .ref (y 3), .ref (y 4), .ref (y 5), .ref (y 6)])), (y 7, .inl (cO, d, .inr (.inr (.inr (.inr (f))))))] := va_D.two (fun h => absurd (hinj 0 7 (by omega) (by omega) h) (by omega)) (Or.inl h0) (Or.inr (Or.inl rfl))
      refine lv_iload_n hx hb d_R_init_97 rfl (lv_at hl 0 rfl) ?_
      refine lv_iload_n hx hb d_R_init_98 rfl (lv_at hl 1 rfl) ?_
      refine lv_icmp_ge (tgt := 121) hx hb d_R_init_99 (by decide) (fun c9 => absurd c9 (nI_ge (by omega) (by omega))) (fun _ => ?_)
      refine lv_aload_n hx hb d_R_init_102 rfl (lv_at hl 2 rfl) ?_
      refine va_get (D := D) (ci := 2) (v := .ref (y 7)) (C := n_R) (T := f_R) (N := 10) hx hb hts in_R hown hK hP 0 rfl rfl 1 (by decide) (hts _ x_83) (fun _ h9 => h9) rfl d_R_init_103 ?_
      refine lv_iload_n hx hb d_R_init_106 rfl (lv_at hl 0 rfl) ?_
      refine va_new (ci := 0) (fs := [.null, .null, .int 0]) (C := n_L) (T := f_L) (N := 3) hx hb hts in_L t_L ty_L hown (hts _ x_62) (hts _ x_64) (hts _ x_5) hK hP hD hS hA rfl (fun j hj => by rcases (show j = 0 ∨ j = 1 ∨ j = 2 by omega) with rfl | rfl | rfl <;> rfl) (show 7 + 3 * i + 1 ≤ 55 by omega) (show 5007 + d + 35 * i + 3 ≤ 5583 by omega) d_R_init_107 (fun b0 H hP hD hS => ?_)
      have hP : va_P D vwCl [(y 0, .inr (2, [.int (nI (sgOf x)), .ref (y 7), .int 0, .int 0, .ref (y 1), .ref (y 2), .ref (y 3), .ref (y 4), .ref (y 5), .ref (y 6)])), (y 7, .inl (cO, d, .inr (.inr (.inr (.inr (f)))))), (b0, .inr (0, [.null, .null, .int 0]))] H := hP
      have hD : va_D (fun q => q = a0 ∨ q = y 7 ∨ Hi.size ≤ q) [(y 0, .inr (2, [.int (nI (sgOf x)), .ref (y 7), .int 0, .int 0, .ref (y 1), .ref (y 2), .ref (y 3), .ref (y 4), .ref (y 5), .ref (y 6)])), (y 7, .inl (cO, d, .inr (.inr (.inr (.inr (f)))))), (b0, .inr (0, [.null, .null, .int 0]))] := hD
      refine lv_dup hx hb d_R_init_110 rfl ?_
      have hAi : ∀ q, (fun q => q = a0 ∨ q = y 7 ∨ Hi.size ≤ q) q → (fun q => q = a0 ∨ sz ≤ q) q := fun q h => h.elim Or.inl (fun h => Or.inr (h.elim (fun h => by rw [h]; exact hge 7 (by omega) (by omega)) (fun h => Nat.le_trans hzi h)))
      have hSg : va_S (fun q => q = a0 ∨ sz ≤ q) s.heap H locs := ⟨(hfr.trans (fr.of hS) hAi).1, (hfr.trans (fr.of hS) hAi).2, fun z hz => Or.inl (hlo z hz)⟩
      have hb0 : Hi.size ≤ b0 := by
        rcases hD.2 2 _ rfl with h | h | h
        · exact absurd (hD.1 2 0 _ _ rfl rfl (h.trans h0.symm)) (by decide)
        · exact absurd (hD.1 2 1 _ _ rfl rfl h) (by decide)
        · exact h
      have hz1 : Hi.size ≤ H.size := hS.1
      have hb0l : b0 < H.size := (hP 2 _ rfl).lt
      refine cm_ret (va_runIN (As := []) (rest := [.ref b0, .int (nI i), .ref (y 7)]) (b := b0) ⟨hx, hb, hml, hown, hts⟩ (m_L_init (sz := H.size)) ⟨va_cnB 0 hts (gd_ws x_67) rfl rfl rfl (hE.2.1 _ x_65) (hts _ x_5) (by decide +kernel) ⟨by decide, by decide⟩, rfl, hts _ x_66⟩ ⟨st_blind, fun U hU hW => ⟨rfl, hE.at hSg hAB hU hW, by rw [hU]; exact ⟨rfl, hP.sub [2] rfl⟩⟩⟩ rfl rfl hl.1 rfl (lv_room (Nat.le_of_ble_eq_true rfl)) d_R_init_111 ⟨show 7 + 3 * i + 1 + 2 ≤ 55 by omega, show 5007 + d + 35 * i + 3 + 32 ≤ 5583 by omega⟩) hS (fun q h => Or.inr (Or.inr (h.elim (fun h => by rw [h]; exact hb0) (fun h => Nat.le_trans hz1 h)))) (fun _ _ h => h.2.1) (fun v H2 locs hv hS => ?_)
      obtain ⟨rfl, hfr2, b1, b2, hb1, hb2, hb12, hPL⟩ := hv
      refine W.eq (g2 := F0 m 114 ls [.ref b0, .int (nI i), .ref (y 7)]) rfl ?_
      have hk2 : ∀ j, j < 8 + 3 * i → ¬ (y j = b0 ∨ H.size ≤ y j) := fun j hj h => by have := hlt j hj; rcases h with h | h <;> omega
      have hP : va_P D vwCl [(b0, .inr (0, [.ref b1, .ref b2, .int 0])), (b1, .inl (cJ, 16, .inr (.inl (fun _ => 0)))), (b2, .inl (cS, 16, .inl (fun _ => 0))), (y 0, .inr (2, [.int (nI (sgOf x)), .ref (y 7), .int 0, .int 0, .ref (y 1), .ref (y 2), .ref (y 3), .ref (y 4), .ref (y 5), .ref (y 6)])), (y 7, .inl (cO, d, .inr (.inr (.inr (.inr (f))))))] H2 := hPL.app ((hP.sub [0, 1] rfl).fr hfr2 (va_P.off2 (A := fun q => q = b0 ∨ H.size ≤ q) (hk2 0 (by omega)) (hk2 7 (by omega))))
      have hlt0 := hlt 0 (by omega)
      have hlt7 := hlt 7 (by omega)
      have hD : va_D (fun q => q = a0 ∨ q = y 7 ∨ Hi.size ≤ q) [(b0, .inr (0, [.ref b1, .ref b2, .int 0])), (b1, .inl (cJ, 16, .inr (.inl (fun _ => 0)))), (b2, .inl (cS, 16, .inl (fun _ => 0))), (y 0, .inr (2, [.int (nI (sgOf x)), .ref (y 7), .int 0, .int 0, .ref (y 1), .ref (y 2), .ref (y 3), .ref (y 4), .ref (y 5), .ref (y 6)])), (y 7, .inl (cO, d, .inr (.inr (.inr (.inr (f))))))] := va_D.app (va_D.three (by omega) (by omega) hb12 (Or.inr (Or.inr hb0)) (Or.inr (Or.inr (by omega))) (Or.inr (Or.inr (by omega)))) (va_D.two (fun h => absurd (hinj 0 7 (by omega) (by omega) h) (by omega)) (Or.inl h0) (Or.inr (Or.inl rfl))) (fun i j p q hi hj => by
        have h1 : Hi.size ≤ p.1 := by
          match i, hi with
          | 0, hi => cases hi; exact hb0
          | 1, hi => cases hi; show Hi.size ≤ b1; omega
          | 2, hi => cases hi; show Hi.size ≤ b2; omega
          | i + 3, hi => simp at hi
        have h2 : q.1 < Hi.size := by
          match j, hj with
          | 0, hj => cases hj; exact hlt0
          | 1, hj => cases hj; exact hlt7
          | j + 2, hj => simp at hj
        omega)
      refine va_astq hx hb hK hP hD hS 4 3 0 0 rfl rfl rfl rfl (vp_in_nI (by omega) (by omega)) d_R_init_114 (fun H3 locs hP hD hS => ?_)
      rw [nI_clamp (by omega)] at hP
      refine lv_iinc (v := nI (i + 1)) (lv' := [(3, .int (nI (i + 1))), (2, .int (nI d)), (0, .ref (y 0)), (1, .int x)]) hx hb d_R_init_115 hl (k := 0) rfl ((nI_succ i).symm) (by decide) rfl (fun ls hl => ?_)
      refine lv_goto (tgt := 97) hx hb d_R_init_118 (by decide) ?_
      have hfr3 : fr (fun q => q = a0 ∨ q = y 7 ∨ Hi.size ≤ q) Hi H3 := fr.of hS
      refine ct_only (a0 := a0) (fun z hz9 => (hS.2.2 z hz9).elim Or.inl (fun h => Or.inr (by rw [hz]; exact h.elim (fun h => by rw [h]; exact hge 7 (by omega) (by omega)) (fun h => Nat.le_trans hzi h)))) (fun locs hlo => ?_)
      have hx8 : ∀ j, j < 8 → ext y i b0 b1 b2 j = y j := fun j hj => ext_lt (by omega)
      have hk3 : ∀ j, 1 ≤ j → j < 8 + 3 * i → j ≠ 7 → ¬ (y j = a0 ∨ y j = y 7 ∨ Hi.size ≤ y j) := by
        rintro j hj1 hj hj7 (h | h | h)
        · have := hge j hj1 hj; omega
        · exact hj7 (hinj j 7 hj (by omega) h)
        · have := hlt j hj; omega
      refine ih (i + 1) (ext y i b0 b1 b2) (va_up f i (some b0)) H3 locs ls (by omega) ?_ ?_ ?_ (hfr.trans hfr3 hAi) hlo ?_ ?_ ?_ ?_ ?_
      · rw [hx8 0 (by omega)]; exact h0
      · exact ext_inj hinj hlt hb0 (by omega) (by omega) (by omega) (by omega) hb12
      · intro j hj1 hj
        rcases Nat.lt_or_ge j (8 + 3 * i) with g | g
        · rw [ext_lt g]; exact hge j hj1 g
        · rcases (show j = 8 + 3 * i ∨ j = 9 + 3 * i ∨ j = 10 + 3 * i by omega) with rfl | rfl | rfl
          · rw [ext_0]; omega
          · rw [ext_1]; omega
          · rw [ext_2]; omega
      · rw [hx8 0 (by omega), hx8 1 (by omega), hx8 2 (by omega), hx8 3 (by omega), hx8 4 (by omega), hx8 5 (by omega), hx8 6 (by omega), hx8 7 (by omega)]; exact hP.sub [3, 4] rfl
      · rw [hx8 1 (by omega), hx8 2 (by omega), hx8 3 (by omega), hx8 4 (by omega), hx8 5 (by omega), hx8 6 (by omega)]
        refine hO.fr hfr3 (fun k q hk => ?_)
        match k, hk with
        | 0, hk => cases hk; exact hk3 1 (by omega) (by omega) (by omega)
        | 1, hk => cases hk; exact hk3 2 (by omega) (by omega) (by omega)
        | 2, hk => cases hk; exact hk3 3 (by omega) (by omega) (by omega)
        | 3, hk => cases hk; exact hk3 4 (by omega) (by omega) (by omega)
        | 4, hk => cases hk; exact hk3 5 (by omega) (by omega) (by omega)
        | 5, hk => cases hk; exact hk3 6 (by omega) (by omega) (by omega)
        | k + 6, hk => simp at hk
      · intro j hj
        by_cases e8 : j = i
        · subst e8; rw [ext_0]; simp only [va_up, if_true]
        · rw [ext_lt (by omega)]; simp only [va_up, if_neg e8]; exact hf j (by omega)
      · intro k hk
        by_cases e8 : k = i
        · subst e8; rw [ext_0, ext_1, ext_2]; exact hP.sub [0, 1, 2] rfl
        · rw [ext_lt (by omega), ext_lt (by omega), ext_lt (by omega)]
          refine (hLv k (by omega)).fr hfr3 (fun j q hj => ?_)
          match j, hj with
          | 0, hj => cases hj; exact hk3 _ (by omega) (by omega) (by omega)
          | 1, hj => cases hj; exact hk3 _ (by omega) (by omega) (by omega)
          | 2, hj => cases hj; exact hk3 _ (by omega) (by omega) (by omega)
          | j + 3, hj => simp at hj
      · rw [hx8 0 (by omega)]; exact (lv_sub hl [0, 1, 2, 3] rfl)
  have hne : ∀ i j : Nat, i < 8 → j < 8 → gy a0 a1 a2 a3 a4 a5 a6 a7 i = gy a0 a1 a2 a3 a4 a5 a6 a7 j → i = j := by
    intro i j hi hj h
    have hg : ∀ k : Nat, k < 8 → ∃ e9 : va_E, ([(a0, .inr (2, [.int (nI (sgOf x)), .ref a7, .int 0, .int 0, .ref a1, .ref a2, .ref a3, .ref a4, .ref a5, .ref a6])), (a1, .inl (cI, 1000, .inl (fun _ => 0))), (a2, .inl (cI, 1000, .inl (fun _ => 0))), (a3, .inr (1, [.int 0, .int 0, .int 0, .int 0, .int 0, .int 0])), (a4, .inl (cI, 1000, .inl (fun _ => 0))), (a5, .inl (cI, 1000, .inl (fun _ => 0))), (a6, .inl (cI, 1001, .inl (fun _ => 0))), (a7, .inl (cO, d, .inr (.inr (.inr (.inr (fun _ => none))))))] : va_W)[k]? = some (gy a0 a1 a2 a3 a4 a5 a6 a7 k, e9) := by
      intro k hk
      rcases (show k = 0 ∨ k = 1 ∨ k = 2 ∨ k = 3 ∨ k = 4 ∨ k = 5 ∨ k = 6 ∨ k = 7 by omega) with rfl | rfl | rfl | rfl | rfl | rfl | rfl | rfl <;> exact ⟨_, rfl⟩
    obtain ⟨e1, g1⟩ := hg i hi
    obtain ⟨e2, g2⟩ := hg j hj
    exact hD.1 i j _ _ g1 g2 h
  have hgeq : ∀ j, 1 ≤ j → j < 8 + 3 * 0 → sz ≤ gy a0 a1 a2 a3 a4 a5 a6 a7 j := by
    intro j h1 h2
    rcases (show j = 1 ∨ j = 2 ∨ j = 3 ∨ j = 4 ∨ j = 5 ∨ j = 6 ∨ j = 7 by omega) with rfl | rfl | rfl | rfl | rfl | rfl | rfl
    · exact (hD.2 1 _ rfl).resolve_left (fun h => absurd (hD.1 1 0 _ _ rfl rfl h) (by decide))
    · exact (hD.2 2 _ rfl).resolve_left (fun h => absurd (hD.1 2 0 _ _ rfl rfl h) (by decide))
    · exact (hD.2 3 _ rfl).resolve_left (fun h => absurd (hD.1 3 0 _ _ rfl rfl h) (by decide))
    · exact (hD.2 4 _ rfl).resolve_left (fun h => absurd (hD.1 4 0 _ _ rfl rfl h) (by decide))
    · exact (hD.2 5 _ rfl).resolve_left (fun h => absurd (hD.1 5 0 _ _ rfl rfl h) (by decide))
    · exact (hD.2 6 _ rfl).resolve_left (fun h => absurd (hD.1 6 0 _ _ rfl rfl h) (by decide))
    · exact (hD.2 7 _ rfl).resolve_left (fun h => absurd (hD.1 7 0 _ _ rfl rfl h) (by decide))
  refine ct_only (a0 := a0) (fun z hz9 => (hS.2.2 z hz9).elim Or.inl (fun h => Or.inr (by rw [hz]; exact h))) (fun locs hlo => ?_)
  refine W.widen (k := 7 + 3 * 0) (n := 5007 + d + 35 * 0) (by omega) (by omega) ?_
  exact loop d 0 (gy a0 a1 a2 a3 a4 a5 a6 a7) (fun _ => none) H locs ls (by omega) rfl (fun a b ha hb => hne a b (by omega) (by omega)) hgeq (fr.of hS) hlo (hP.sub [0, 7] rfl) (hP.sub [1, 2, 3, 4, 5, 6] rfl) (fun j hj => absurd hj (Nat.not_lt_zero j)) (fun k hk => absurd hk (Nat.not_lt_zero k)) (lv_sub hl [0, 1, 2, 3] rfl)
end
