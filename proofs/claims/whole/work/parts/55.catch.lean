/-! METHODS THAT CATCH: their starts, their calls; one long kept. -/
section CHA
def NC (U : State) : Prop := va_Nc e_A e_I U ∧ va_Nc e_U e_I U ∧ va_Nc e_U e_A U
theorem NC.moved {u U : State} (h : u.vm.Alike U.vm) (hn : NC u) : NC U := ⟨va_Nc.moved h hn.1, va_Nc.moved h hn.2.1, va_Nc.moved h hn.2.2⟩
def stH (D : va_G) (tys : List (ClassId × FieldType)) (B0 : Nat) (As : List Value) (pre : Heap → Prop) : Array Value → State → Prop := fun v U => stP D tys B0 As pre v U ∧ NC U
def CH (l : Launch) (D : va_G) (tys : List (ClassId × FieldType)) (B0 : Nat) (y : MethodName) (b : ByteArray) (n : Nat) (r : Option FieldType) (hh : List (Nat × Nat × Nat × Nat)) (rm : Room) (As : List Value) (pre : Heap → Prop) (post : Option Value → Heap → Heap → Prop) (mc ms : Nat) (A : Nat → Prop) : Prop :=
  vx_Met l y (wsH y b n r hh) rm (stH D tys B0 As pre) (stQ post) (stX (fun _ _ _ => False)) mc ms A
variable {l : Launch} {D : va_G} {tys : List (ClassId × FieldType)} {B0 : Nat}
theorem sh_blind {As : List Value} {pre : Heap → Prop} : FrameBlind (stH D tys B0 As pre) :=
  fun _ U _ _ h => ⟨⟨h.1.1, Ev.moved (State.WarmedH.refl U) (fun _ _ => rfl) (Nat.le_refl _) h.1.2.1, h.1.2.2⟩, h.2⟩
theorem ch_of {y : MethodName} {b : ByteArray} {n : Nat} {r : Option FieldType} {hh : List (Nat × Nat × Nat × Nat)} {rm : Room} {As : List Value} {pre : Heap → Prop} {post : Option Value → Heap → Heap → Prop} {mc ms : Nat} {A : Nat → Prop} (hy : plainName y.cls = true) (hn : (lg_sl As).length ≤ n)
    (body : ∀ (p : Program) (e : Env) (s : State) (m : MethodId) (below : List Frame) (meth : Method) (c : Code) (ls : Array Slot), p.tables.exec = Jvm.exec → c.code = b → meth.sig.returnType = r → c.maxLocals = n → s.vm.findClass y.cls = some m.cls → (∀ w ∈ lw_ok, w.before As.toArray s = true) → meth.locks = false → c.exceptionTable.toList = tableOf hh →
      Ev D tys B0 s → NC s → pre s.heap → lv_has ls n (lv_args 0 As) → W p l e rm s m As.toArray below meth c s.heap [] 0 0 (vx_MQ below (stQ post) (stX (fun _ _ _ => False)) As.toArray s mc ms A) (F0 m 0 ls [])) :
    CH l D tys B0 y b n r hh rm As pre post mc ms A := by
  refine vx_ofWH (cc := b) (maxL := n) (ret := r) (hh := hh) hy rfl ?_
  intro p e s m args below meth c s₁ B hml hv
  obtain ⟨⟨rfl, hE, hp⟩, hN⟩ := hv
  have hts := atoms_spec (ws := wsH y b n r hh) B.pre
  have hl := lv_entry As (n := n) hn
  rw [lg_entry_eq]
  exact body p e s m below meth c _ B.exec B.bytes B.returns hml (findClass_of_methodNamed B.named) (fun w hw => hts w (List.mem_cons_of_mem _ hw)) B.notSynchronized (vx_table (x := y) B (hts _ List.mem_cons_self)) hE hN hp hl
end CHA
section CHB
variable {p : Program} {l : Launch} {e : Env} {R : Room} {s : State} {m : MethodId} {args : Array Value} {below : List Frame} {meth : Method} {c : Code} {H : Heap} {locs : List Loc} {cells slots : Nat} {Q : State → Prop}
variable {D : va_G} {cl : List vw_C} {tys : List (ClassId × FieldType)} {pc : Nat} {ls : Array Slot} {rest : List Value} {cc : ByteArray} {a : Nat}
theorem ct_last (hexec : p.tables.exec = Jvm.exec) (hb : c.code = cc) (hK : va_K D cl tys s) (t0 : Nat) {cA : ClassId} {n : Nat} {f : Nat → Int64} (hP : va_P D cl [(a, .inl (cA, n, .inr (.inl f)))] H) (ht : tys[t0]? = some (cA, .long)) {i : Int32} {x : Int64} (hin : vp_in i n) (hdg : decode cc pc = .ok (.lastore, 1))
    (kk : ∀ (H1 : Heap) (locs1 : List Loc), fr (fun q => q = a) H H1 → va_P D cl [(a, .inl (cA, n, .inr (.inl (vp_updL f i.toNatClampNeg x))))] H1 → (∀ z ∈ locs1, z ∈ locs ∨ z.base = a) → W p l e R s m args below meth c H1 locs1 cells slots Q (F0 m (pc + 1) ls rest)) : W p l e R s m args below meth c H locs cells slots Q (F0 m pc ls (.long x :: .int i :: .ref a :: rest)) := by
  have hD : va_D (fun q => q = a) [(a, (.inl (cA, n, .inr (.inl f)) : va_E))] := va_D.one rfl
  refine W.last hexec hb (hP 0 _ rfl) ((hK.2 t0 _ ht).1 n (fun j => .long (f j))) (fun q => by cases q) (by show ¬ (i < 0 ∨ (arrV _ _ _).slots.size ≤ _); rw [arrV_size]; exact hin) rfl rfl hdg fun H1 e z oq => ?_
  refine kk H1 _ ⟨by rw [z]; exact Nat.le_refl _, fun q _ h => oq q h⟩ (va_P.set (p := 0) hP hD rfl ?_ oq) (fun y hy => (List.mem_append.mp hy).imp id (fun h => by rw [List.mem_singleton.mp h]))
  show H1[a]? = some (vp_cell _ _)
  rw [e]
  rw [vp_cell_l, vp_cell_l, arrV_store]
  congr 2
  funext q
  by_cases hq : q = i.toNatClampNeg
  · subst hq
    simp [updV, vp_updL]
  · simp [updV, vp_updL, hq]
end CHB
section CHC
theorem fr.mono {A B : Nat → Prop} {H0 H1 : Heap} (h : fr A H0 H1) (hAB : ∀ q, A q → B q) : fr B H0 H1 := ⟨h.1, fun q h1 h2 => h.2 q h1 (fun z => h2 (hAB q z))⟩
theorem gi_csw {own : String} {index : Nat} {y : MethodName} {b : ByteArray} {n : Nat} {r : Option FieldType} {hh : List (Nat × Nat × Nat × Nat)} (h1 : Cond.methodLink own index y ∈ lw_ok) (h2 : Cond.static y ∈ lw_ok) (h3 : Cond.initialized y.cls ∈ lw_ok) (h4 : Cond.codeWith y b n r hh ∈ lw_ok) : GoodIn lw_ok (va_wsS own index y (wsH y b n r hh)) := by
  intro w hw
  unfold va_wsS at hw
  rcases List.mem_append.mp hw with h | h
  · simp only [List.mem_cons, List.not_mem_nil, or_false] at h
    rcases h with rfl | rfl | rfl
    · exact ⟨h1, good_of_word (gd_ok h1)⟩
    · exact ⟨h2, good_of_word (gd_ok h2)⟩
    · exact ⟨h3, good_of_word (gd_ok h3)⟩
  · exact gd_wsH h4 w h
end CHC
