/-! WHAT EVERY METHOD'S START SAYS: the words that stay (lw_ok), those of the nest, of texts and of casts (lw_nw), the two statics of Throwable, and where the old heap ends (B0). Contracts speak of heaps alone: CM of a method that returns, CX of one that returns or throws. -/
section CTA
abbrev wsA (y : MethodName) (b : ByteArray) (n : Nat) (r : Option FieldType) : List Cond := .code y b n r :: lw_ok
abbrev wsH (y : MethodName) (b : ByteArray) (n : Nat) (r : Option FieldType) (hh : List (Nat × Nat × Nat × Nat)) : List Cond := .codeWith y b n r hh :: lw_ok
theorem gd_ws {y : MethodName} {b : ByteArray} {n : Nat} {r : Option FieldType} (h : Cond.code y b n r ∈ lw_ok) : GoodIn lw_ok (wsA y b n r) := by
  intro w hw
  rcases List.mem_cons.mp hw with rfl | hw
  · exact ⟨h, good_of_word (gd_ok h)⟩
  · exact ⟨hw, good_of_word (gd_ok hw)⟩
theorem gd_wsH {y : MethodName} {b : ByteArray} {n : Nat} {r : Option FieldType} {hh : List (Nat × Nat × Nat × Nat)} (h : Cond.codeWith y b n r hh ∈ lw_ok) : GoodIn lw_ok (wsH y b n r hh) := by
  intro w hw
  rcases List.mem_cons.mp hw with rfl | hw
  · exact ⟨h, good_of_word (gd_ok h)⟩
  · exact ⟨hw, good_of_word (gd_ok hw)⟩
theorem nw_str {own tx : String} {k : Nat} {s U : State} (hW : s.WarmedH U.vm) (h : va_Nw (.stringRef own k tx) s) : va_Nw (.stringRef own k tx) U := by
  have hcur : ∃ cur, s.vm.findClass own = some cur := by
    have h1 := h
    simp only [va_Nw, Cond.before, Cond.holds, Cond.value] at h1
    cases hc : s.vm.findClass own with
    | none => simp [hc] at h1
    | some cur => exact ⟨cur, rfl⟩
  obtain ⟨cur, hcur⟩ := hcur
  obtain ⟨_, _, _, a, _, _, _, _, _, hev⟩ := Cond.stringRef_spec hcur h
  exact (vk_R.warm hW ⟨h, hev⟩).1
theorem nw_warm {w : Cond} {s U : State} (hn : nword w = true) (hW : s.WarmedH U.vm) (h : va_Nw w s) : va_Nw w U := by
  cases w <;> first
    | (simp [nword] at hn; done)
    | exact va_Nw.warmF hW h
    | exact va_Nw.warmM hW h
    | exact va_Nw.warmD hW h
    | exact va_Nw.warmC hW h
    | exact nw_str hW h
    | (rename_i ty; cases ty <;> first | (simp [nword] at hn; done) | exact va_AO.moved hW.alike h)
/-- a static of Throwable: where it lies, and that it holds a reference or null; no cell from B0 on -/
def st_Z (n d : String) (B0 : Nat) (U : State) : Prop := vx_Zq Bundle.tN n d (fun q => B0 ≤ q) U U.heap
theorem st_Z.moved {n d : String} {B0 : Nat} {u U : State} (hvm : u.vm.Alike U.vm) (hq : ∀ a : Nat, a < B0 → U.heap[a]? = u.heap[a]?) (h : st_Z n d B0 u) : st_Z n d B0 U :=
  (vx_Zq.kept h (H1 := U.heap) (fun a _ ha => hq a (Nat.not_le.mp ha))).moved hvm
def Ev (D : va_G) (tys : List (ClassId × FieldType)) (B0 : Nat) (U : State) : Prop :=
  va_K D vwCl tys U ∧ (∀ w ∈ lw_nw, va_Nw w U) ∧ st_Z "UNASSIGNED_STACK" Bundle.steD B0 U ∧ st_Z "SUPPRESSED_SENTINEL" Bundle.listD B0 U ∧ B0 ≤ U.heap.size
theorem Ev.moved {D : va_G} {tys : List (ClassId × FieldType)} {B0 : Nat} {u U : State} (hW : u.WarmedH U.vm) (hq : ∀ a : Nat, a < B0 → U.heap[a]? = u.heap[a]?) (hz : u.heap.size ≤ U.heap.size) (h : Ev D tys B0 u) : Ev D tys B0 U := by
  obtain ⟨h1, h2, h3, h4, h5⟩ := h
  exact ⟨va_K.moved hW.alike h1, fun w hw => nw_warm (List.mem_filter.mp hw).2 hW (h2 w hw), h3.moved hW.alike hq, h4.moved hW.alike hq, Nat.le_trans h5 hz⟩
theorem Ev.at {D : va_G} {tys : List (ClassId × FieldType)} {B0 : Nat} {s U : State} {A : Nat → Prop} {H : Heap} {locs : List Loc} (h : Ev D tys B0 s) (hS : va_S A s.heap H locs) (hA : ∀ q, A q → B0 ≤ q) (hU : U.heap = H) (hW : s.WarmedH U.vm) : Ev D tys B0 U := by
  refine Ev.moved hW (fun a ha => ?_) (by rw [hU]; exact hS.1) h
  rw [hU]
  exact hS.2.1 a (Nat.lt_of_lt_of_le ha h.2.2.2.2) (fun z => Nat.not_lt.mpr (hA a z) ha)
theorem Ev.str {D : va_G} {tys : List (ClassId × FieldType)} {B0 cur : Nat} {s : State} {own tx : String} {k : Nat} (h : Ev D tys B0 s) (hw : Cond.stringRef own k tx ∈ lw_nw) (hcur : s.vm.findClass own = some cur) : ∃ a, vk_R own k tx a s := by
  have h1 : (Cond.stringRef own k tx).before #[] s = true := h.2.1 _ hw
  obtain ⟨_, _, _, a, _, _, _, _, _, hev⟩ := Cond.stringRef_spec hcur h1
  exact ⟨a, h1, hev⟩
/-- the start of a method -/
def stP (D : va_G) (tys : List (ClassId × FieldType)) (B0 : Nat) (As : List Value) (pre : Heap → Prop) : Array Value → State → Prop := fun v U => v = As.toArray ∧ Ev D tys B0 U ∧ pre U.heap
def stQ (post : Option Value → Heap → Heap → Prop) : Array Value → State → Outcome → State → Prop := fun _ st o t => ∃ v, o = .returned v ∧ post v st.heap t.heap
def stX (px : String → Heap → Heap → Prop) : String → State → State → Prop := fun E st t => px E st.heap t.heap
def CM (l : Launch) (D : va_G) (tys : List (ClassId × FieldType)) (B0 : Nat) (y : MethodName) (b : ByteArray) (n : Nat) (r : Option FieldType) (rm : Room) (As : List Value) (pre : Heap → Prop) (post : Option Value → Heap → Heap → Prop) (mc ms : Nat) (A : Nat → Prop) : Prop :=
  Met l y (wsA y b n r) rm (stP D tys B0 As pre) (stQ post) mc ms A
def CX (l : Launch) (D : va_G) (tys : List (ClassId × FieldType)) (B0 : Nat) (y : MethodName) (b : ByteArray) (n : Nat) (r : Option FieldType) (rm : Room) (As : List Value) (pre : Heap → Prop) (post : Option Value → Heap → Heap → Prop) (px : String → Heap → Heap → Prop) (mc ms : Nat) (A : Nat → Prop) : Prop :=
  vx_Met l y (wsA y b n r) rm (stP D tys B0 As pre) (stQ post) (stX px) mc ms A
variable {l : Launch} {D : va_G} {tys : List (ClassId × FieldType)} {B0 : Nat}
theorem st_blind {As : List Value} {pre : Heap → Prop} : FrameBlind (stP D tys B0 As pre) :=
  fun _ U _ _ h => ⟨h.1, Ev.moved (State.WarmedH.refl U) (fun _ _ => rfl) (Nat.le_refl _) h.2.1, h.2.2⟩
theorem cm_of {y : MethodName} {b : ByteArray} {n : Nat} {r : Option FieldType} {rm : Room} {As : List Value} {pre : Heap → Prop} {post : Option Value → Heap → Heap → Prop} {mc ms : Nat} {A : Nat → Prop} (hy : plainName y.cls = true) (hn : (lg_sl As).length ≤ n)
    (body : ∀ (p : Program) (e : Env) (s : State) (m : MethodId) (below : List Frame) (meth : Method) (c : Code) (ls : Array Slot), p.tables.exec = Jvm.exec → c.code = b → meth.sig.returnType = r → c.maxLocals = n → s.vm.findClass y.cls = some m.cls → (∀ w ∈ lw_ok, w.before As.toArray s = true) → meth.locks = false → meth.name = y.name →
      Ev D tys B0 s → pre s.heap → lv_has ls n (lv_args 0 As) → W p l e rm s m As.toArray below meth c s.heap [] 0 0 (MQ below (stQ post) As.toArray s mc ms A) (F0 m 0 ls [])) :
    CM l D tys B0 y b n r rm As pre post mc ms A := by
  refine Met.ofW (cc := b) (maxL := n) (ret := r) hy rfl ?_
  intro p e s m args below meth c s₁ B hml hv
  obtain ⟨rfl, hE, hp⟩ := hv
  have hts := atoms_spec (ws := wsA y b n r) B.pre
  have hl := lv_entry As (n := n) hn
  rw [lg_entry_eq]
  exact body p e s m below meth c _ B.exec B.bytes B.returns hml (findClass_of_methodNamed B.named) (fun w hw => hts w (List.mem_cons_of_mem _ hw)) B.notSynchronized (name_of_methodNamed B.named B.method).1 hE hp hl
theorem cx_of {y : MethodName} {b : ByteArray} {n : Nat} {r : Option FieldType} {rm : Room} {As : List Value} {pre : Heap → Prop} {post : Option Value → Heap → Heap → Prop} {px : String → Heap → Heap → Prop} {mc ms : Nat} {A : Nat → Prop} (hy : plainName y.cls = true) (hn : (lg_sl As).length ≤ n)
    (body : ∀ (p : Program) (e : Env) (s : State) (m : MethodId) (below : List Frame) (meth : Method) (c : Code) (ls : Array Slot), p.tables.exec = Jvm.exec → c.code = b → meth.sig.returnType = r → c.maxLocals = n → s.vm.findClass y.cls = some m.cls → (∀ w ∈ lw_ok, w.before As.toArray s = true) → meth.locks = false → (∀ x ∈ c.exceptionTable.toList, False) →
      Ev D tys B0 s → pre s.heap → lv_has ls n (lv_args 0 As) → W p l e rm s m As.toArray below meth c s.heap [] 0 0 (vx_MQ below (stQ post) (stX px) As.toArray s mc ms A) (F0 m 0 ls [])) :
    CX l D tys B0 y b n r rm As pre post px mc ms A := by
  refine vx_ofW (cc := b) (maxL := n) (ret := r) hy rfl ?_
  intro p e s m args below meth c s₁ B hml hout hv
  obtain ⟨rfl, hE, hp⟩ := hv
  have hts := atoms_spec (ws := wsA y b n r) B.pre
  have hl := lv_entry As (n := n) hn
  rw [lg_entry_eq]
  exact body p e s m below meth c _ B.exec B.bytes B.returns hml (findClass_of_methodNamed B.named) (fun w hw => hts w (List.mem_cons_of_mem _ hw)) B.notSynchronized hout hE hp hl
end CTA
section CTB
variable {p : Program} {l : Launch} {e : Env} {R : Room} {s : State} {m : MethodId} {args : Array Value} {below : List Frame} {meth : Method} {c : Code} {H : Heap} {locs : List Loc} {cells slots : Nat} {Q : State → Prop}
variable {D : va_G} {tys : List (ClassId × FieldType)} {B0 : Nat} {pc : Nat} {ls : Array Slot} {rest st0 : List Value} {A0 A1 : Nat → Prop} {H0 : Heap} {mc ms : Nat}
theorem ct_topi {x x' : Int32} (h : x = x') (k : W p l e R s m args below meth c H locs cells slots Q (F0 m pc ls (.int x' :: rest))) : W p l e R s m args below meth c H locs cells slots Q (F0 m pc ls (.int x :: rest)) := by rw [h]; exact k
theorem ct_topl {x x' : Int64} (h : x = x') (k : W p l e R s m args below meth c H locs cells slots Q (F0 m pc ls (.long x' :: rest))) : W p l e R s m args below meth c H locs cells slots Q (F0 m pc ls (.long x :: rest)) := by rw [h]; exact k
theorem ct_topv {v v' : Value} (h : v = v') (k : W p l e R s m args below meth c H locs cells slots Q (F0 m pc ls (v' :: rest))) : W p l e R s m args below meth c H locs cells slots Q (F0 m pc ls (v :: rest)) := by rw [h]; exact k
/-- what isn't A's stays -/
def fr (A : Nat → Prop) (H0 H1 : Heap) : Prop := H0.size ≤ H1.size ∧ ∀ q : Nat, q < H0.size → ¬ A q → H1[q]? = H0[q]?
theorem fr.rf {A : Nat → Prop} {H : Heap} : fr A H H := ⟨Nat.le_refl _, fun _ _ _ => rfl⟩
theorem fr.of {A : Nat → Prop} {H0 H1 : Heap} {L : List Loc} (h : va_S A H0 H1 L) : fr A H0 H1 := ⟨h.1, h.2.1⟩
theorem va_S.step {A B : Nat → Prop} {H0 H H1 : Heap} {locs L : List Loc} (hS : va_S A H0 H locs) (hf : fr B H H1) (hL : ∀ q ∈ L, B q.base) (hB : ∀ q, B q → A q) : va_S A H0 H1 (locs ++ L) := by
  refine ⟨Nat.le_trans hS.1 hf.1, fun q h1 h2 => ?_, fun q hq => ?_⟩
  · rw [hf.2 q (Nat.lt_of_lt_of_le h1 hS.1) (fun z => h2 (hB q z))]; exact hS.2.1 q h1 h2
  · rcases List.mem_append.mp hq with h | h
    · exact hS.2.2 q h
    · exact hB _ (hL q h)
/-- behind a call that returns -/
theorem cm_ret {post : Option Value → Heap → Heap → Prop} {a9 : Array Value} (hr : va_Run p l e R s m args below meth c H locs cells slots mc ms (F0 m pc ls st0) rest (stQ post a9) A1) (hS : va_S A0 H0 H locs) (hA : ∀ q, A1 q → A0 q) (hfr : ∀ v H1, post v H H1 → fr A1 H H1)
    (kk : ∀ (v : Option Value) (H1 : Heap) (locs1 : List Loc), post v H H1 → va_S A0 H0 H1 locs1 → W p l e R s m args below meth c H1 locs1 (cells + mc) (slots + ms) Q (F0 m (pc + 3) ls (v.toList ++ rest))) : W p l e R s m args below meth c H locs cells slots Q (F0 m pc ls st0) := by
  intro T hT X
  obtain ⟨v, st₀, t, T', L, h0, X', hL, e1, e2, ⟨v', hv, hq⟩, st⟩ := hr T hT X
  cases hv
  rw [h0] at hq
  obtain ⟨t2, a1, b1⟩ := kk v t.heap (locs ++ L) hq (hS.step (hfr _ _ hq) hL hA) T' e1 X'
  exact ⟨t2, st t2 a1, b1⟩
/-- behind a call that changes nothing -/
theorem cm_read {post : Option Value → Prop} {a9 : Array Value} (hr : va_Run p l e R s m args below meth c H locs cells slots 0 0 (F0 m pc ls st0) rest (stQ (fun v H0 H1 => post v ∧ H1 = H0) a9) (fun _ => False))
    (kk : ∀ (v : Option Value), post v → W p l e R s m args below meth c H locs cells slots Q (F0 m (pc + 3) ls (v.toList ++ rest))) : W p l e R s m args below meth c H locs cells slots Q (F0 m pc ls st0) := by
  intro T hT X
  obtain ⟨v, st₀, t, T', L, h0, X', hL, e1, e2, ⟨v', hv, hq, hh⟩, st⟩ := hr T hT X
  cases hv
  have hL0 : L = [] := by
    cases L with
    | nil => rfl
    | cons a L => exact (hL a List.mem_cons_self).elim
  subst hL0
  rw [List.append_nil] at X'
  obtain ⟨t2, a1, b1⟩ := kk v hq T' (by rw [e1, hh, h0]) X'
  exact ⟨t2, st t2 a1, b1⟩
/-- behind a call that returns or throws -/
theorem cx_ret {post : Option Value → Heap → Heap → Prop} {px : String → Heap → Heap → Prop} {a9 : Array Value} (hr : vx_Run p l e R s m args below meth c H locs cells slots mc ms (F0 m pc ls st0) rest (stQ post a9) (stX px) A1) (hS : va_S A0 H0 H locs) (hA : ∀ q, A1 q → A0 q) (hfr : ∀ v H1, post v H H1 → fr A1 H H1) (hfx : ∀ E H1, px E H H1 → fr A1 H H1)
    (kx : ∀ (E : String) (ce : Cell) (q : Addr) (H1 : Heap) (locs1 : List Loc), px E H H1 → va_S A0 H0 H1 locs1 → H1[q]? = some ce → ce.vm = .none → s.vm.findClass E = some ce.cls → vx_W p l e R s m args below meth c H1 locs1 (cells + mc) (slots + ms) Q (F0 m pc ls rest) q)
    (kk : ∀ (v : Option Value) (H1 : Heap) (locs1 : List Loc), post v H H1 → va_S A0 H0 H1 locs1 → W p l e R s m args below meth c H1 locs1 (cells + mc) (slots + ms) Q (F0 m (pc + 3) ls (v.toList ++ rest))) : W p l e R s m args below meth c H locs cells slots Q (F0 m pc ls st0) := by
  intro T hT X
  rcases hr T hT X with ⟨v, st₀, t, T', L, h0, X', hL, e1, e2, ⟨v', hv, hq⟩, st⟩ | ⟨q, st₀, t, T', L, E, ce, h0, X', hL, e1, e2, hq, hce, hcv, hcl, st⟩
  · cases hv
    rw [h0] at hq
    obtain ⟨t2, a1, b1⟩ := kk v t.heap (locs ++ L) hq (hS.step (hfr _ _ hq) hL hA) T' e1 X'
    exact ⟨t2, st t2 a1, b1⟩
  · have hq' : px E st₀.heap t.heap := hq
    rw [h0] at hq'
    obtain ⟨t2, a1, b1⟩ := kx E ce q t.heap (locs ++ L) hq' (hS.step (hfx _ _ hq') hL hA) hce hcv hcl T' e1 X'
    exact ⟨t2, st.trans a1, b1⟩
/-- the words of a call -/
theorem ct_cb {own : String} {index : Nat} {y : MethodName} {b : ByteArray} {maxL : Nat} {ret : Option FieldType} {rm : Room} (n : Nat) (ht : ∀ w ∈ lw_ok, w.before args s = true) (hcode : Cond.code y b maxL ret ∈ lw_ok) (hl : Cond.methodLink own index y ∈ lw_ok) (hini : Cond.initialized y.cls ∈ lw_ok) (hrc : rm.cells = mc) (hrs : rm.slots = ms)
    (hd : y.cls ≠ "java/lang/invoke/MethodHandle" ∧ y.cls ≠ "java/lang/invoke/VarHandle" ∧ (parseMethodDescriptor y.desc).map (fun d => d.parameters.length) = some n) (hR : rm.frames + 1 ≤ R.frames ∧ 8 + (maxL + 11) + rm.locals ≤ R.locals) : CallB R s args own index y b maxL ret (wsA y b maxL ret) rm mc ms n :=
  callB_of n ht (gd_ws hcode) rfl hrc hrs (ht _ hini) (ht _ hl) hd hR
end CTB
