/-! LevelRows.<init>. -/
set_option maxHeartbeats 4000000 in
set_option maxRecDepth 100000 in
theorem m_R_init {l : Launch} {D : va_G} {cI cJ cS cO : ClassId} {B0 : Nat} {a0 sz : Nat} (x : Int32) (hB : B0 ≤ a0) : CM l D (tyL cI cJ cS cO) B0 y_R_init c_R_init 4 none (rmK 2 55 5583) [.ref a0, .int x] (fun H => H.size = sz ∧ va_P D vwCl [(a0, .inr (2, [.int 0, .null, .int 0, .int 0, .null, .null, .null, .null, .null, .null]))] H) (fun v H0 H1 => v = none ∧ fr (fun q => q = a0 ∨ sz ≤ q) H0 H1 ∧ ∃ (y : Nat → Nat) (d : Nat), y 0 = a0 ∧ yI B0 y d ∧ (∀ i, 1 ≤ i → i < 8 + 3 * d → sz ≤ y i) ∧ Ok (sgOf x) d [] [] ∧ LRx D cI cJ cS cO y (sgOf x) d [] [] H1) 55 5583 (fun q => q = a0 ∨ sz ≤ q) := by
  refine cm_of (by decide) (Nat.le_of_ble_eq_true rfl) ?_
  intro p e s m below meth c ls hx hb hr hml hown hts hlocks hnm hE hpre hl
  have hown : s.vm.findClass "LevelRows" = some m.cls := hown
  have hK := hE.1
  have hl : lv_has ls 4 [(0, .ref a0), (1, .int x)] := hl
  obtain ⟨hz, hpre⟩ := hpre
  have ha0 : a0 < sz := by rw [← hz]; exact (hpre 0 _ rfl).lt
  have hBz : B0 ≤ sz := by rw [← hz]; exact hE.2.2.2.2
  have hA : ∀ q, s.heap.size ≤ q → (fun q => q = a0 ∨ sz ≤ q) q := fun q h => Or.inr (by rw [← hz]; exact h)
  have hAB : ∀ q : Nat, (q = a0 ∨ sz ≤ q) → B0 ≤ q := fun q h => h.elim (fun h => by rw [h]; exact hB) (fun h => Nat.le_trans hBz h)
  have hS : va_S (fun q => q = a0 ∨ sz ≤ q) s.heap s.heap [] := va_S.rf
  have hP : va_P D vwCl [(a0, .inr (2, [.int 0, .null, .int 0, .int 0, .null, .null, .null, .null, .null, .null]))] s.heap := hpre
  have hD : va_D (fun q => q = a0 ∨ sz ≤ q) [(a0, .inr (2, [.int 0, .null, .int 0, .int 0, .null, .null, .null, .null, .null, .null]))] := va_D.one (Or.inl rfl)
  refine lv_aload_n hx hb d_R_init_0 rfl (lv_at hl 0 rfl) ?_
  refine W.objInit hx hb hown (hts _ x_21) (hts _ x_22) (hts _ x_23) rfl (by rw [hml]; exact hl.1) rfl d_R_init_1 (by decide) (Nat.le_of_ble_eq_true rfl) ?_
  refine W.eq (g2 := F0 m 4 ls []) rfl ?_
  refine lv_aload_n hx hb d_R_init_4 rfl (lv_at hl 0 rfl) ?_
  refine lv_sipush (v := 1000) hx hb d_R_init_5 (by decide) ?_
  refine va_newa (atype := .int) hx hb (hts _ x_50) rfl hK hP hD hS hA (a0 := (1000, .inl (fun _ => 0))) (fun _ => rfl) (by decide) rfl (by decide) (Nat.le_of_ble_eq_true rfl) (Nat.le_of_ble_eq_true rfl) d_R_init_8 (fun a1 cA H hK9 hP hD hS => ?_)
  have e9 : cA = cI := Option.some.inj ((hK9.2 4 _ rfl).2.symm.trans (hK9.2 0 _ rfl).2)
  rw [e9] at hP hD
  have hP : va_P D vwCl [(a0, .inr (2, [.int 0, .null, .int 0, .int 0, .null, .null, .null, .null, .null, .null])), (a1, .inl (cI, 1000, .inl (fun _ => 0)))] H := hP
  have hD : va_D (fun q => q = a0 ∨ sz ≤ q) [(a0, .inr (2, [.int 0, .null, .int 0, .int 0, .null, .null, .null, .null, .null, .null])), (a1, .inl (cI, 1000, .inl (fun _ => 0)))] := hD
  refine va_putF (D := D) (ci := 2) (v := .ref a1) (ty := .array .int) (C := n_R) (T := f_R) (N := 10) hx hb hts in_R t_R ty_R nm_R hown hK hP hD hS 0 rfl rfl 4 (by decide) (hts _ x_86) (fun _ h9 => h9) rfl hnm rfl (by decide +kernel) rfl rfl (Nat.le_of_ble_eq_true rfl) d_R_init_10 (fun H locs hP hD hS => ?_)
  have hP : va_P D vwCl [(a0, .inr (2, [.int 0, .null, .int 0, .int 0, .ref a1, .null, .null, .null, .null, .null])), (a1, .inl (cI, 1000, .inl (fun _ => 0)))] H := hP
  have hD : va_D (fun q => q = a0 ∨ sz ≤ q) [(a0, .inr (2, [.int 0, .null, .int 0, .int 0, .ref a1, .null, .null, .null, .null, .null])), (a1, .inl (cI, 1000, .inl (fun _ => 0)))] := hD
  refine lv_aload_n hx hb d_R_init_13 rfl (lv_at hl 0 rfl) ?_
  refine lv_sipush (v := 1000) hx hb d_R_init_14 (by decide) ?_
  refine va_newa (atype := .int) hx hb (hts _ x_50) rfl hK hP hD hS hA (a0 := (1000, .inl (fun _ => 0))) (fun _ => rfl) (by decide) rfl (by decide) (Nat.le_of_ble_eq_true rfl) (Nat.le_of_ble_eq_true rfl) d_R_init_17 (fun a2 cA H hK9 hP hD hS => ?_)
  have e9 : cA = cI := Option.some.inj ((hK9.2 4 _ rfl).2.symm.trans (hK9.2 0 _ rfl).2)
  rw [e9] at hP hD
  have hP : va_P D vwCl [(a0, .inr (2, [.int 0, .null, .int 0, .int 0, .ref a1, .null, .null, .null, .null, .null])), (a1, .inl (cI, 1000, .inl (fun _ => 0))), (a2, .inl (cI, 1000, .inl (fun _ => 0)))] H := hP
  have hD : va_D (fun q => q = a0 ∨ sz ≤ q) [(a0, .inr (2, [.int 0, .null, .int 0, .int 0, .ref a1, .null, .null, .null, .null, .null])), (a1, .inl (cI, 1000, .inl (fun _ => 0))), (a2, .inl (cI, 1000, .inl (fun _ => 0)))] := hD
  refine va_putF (D := D) (ci := 2) (v := .ref a2) (ty := .array .int) (C := n_R) (T := f_R) (N := 10) hx hb hts in_R t_R ty_R nm_R hown hK hP hD hS 0 rfl rfl 5 (by decide) (hts _ x_87) (fun _ h9 => h9) rfl hnm rfl (by decide +kernel) rfl rfl (Nat.le_of_ble_eq_true rfl) d_R_init_19 (fun H locs hP hD hS => ?_)
  have hP : va_P D vwCl [(a0, .inr (2, [.int 0, .null, .int 0, .int 0, .ref a1, .ref a2, .null, .null, .null, .null])), (a1, .inl (cI, 1000, .inl (fun _ => 0))), (a2, .inl (cI, 1000, .inl (fun _ => 0)))] H := hP
  have hD : va_D (fun q => q = a0 ∨ sz ≤ q) [(a0, .inr (2, [.int 0, .null, .int 0, .int 0, .ref a1, .ref a2, .null, .null, .null, .null])), (a1, .inl (cI, 1000, .inl (fun _ => 0))), (a2, .inl (cI, 1000, .inl (fun _ => 0)))] := hD
  refine lv_aload_n hx hb d_R_init_22 rfl (lv_at hl 0 rfl) ?_
  refine va_new (ci := 1) (fs := [.int 0, .int 0, .int 0, .int 0, .int 0, .int 0]) (C := n_P) (T := f_P) (N := 6) hx hb hts in_P t_P ty_P hown (hts _ x_24) (hts _ x_25) (hts _ x_2) hK hP hD hS hA rfl (fun j hj => by rcases (show j = 0 ∨ j = 1 ∨ j = 2 ∨ j = 3 ∨ j = 4 ∨ j = 5 by omega) with rfl | rfl | rfl | rfl | rfl | rfl <;> rfl) (Nat.le_of_ble_eq_true rfl) (Nat.le_of_ble_eq_true rfl) d_R_init_23 (fun a3 H hP hD hS => ?_)
  have hP : va_P D vwCl [(a0, .inr (2, [.int 0, .null, .int 0, .int 0, .ref a1, .ref a2, .null, .null, .null, .null])), (a1, .inl (cI, 1000, .inl (fun _ => 0))), (a2, .inl (cI, 1000, .inl (fun _ => 0))), (a3, .inr (1, [.int 0, .int 0, .int 0, .int 0, .int 0, .int 0]))] H := hP
  have hD : va_D (fun q => q = a0 ∨ sz ≤ q) [(a0, .inr (2, [.int 0, .null, .int 0, .int 0, .ref a1, .ref a2, .null, .null, .null, .null])), (a1, .inl (cI, 1000, .inl (fun _ => 0))), (a2, .inl (cI, 1000, .inl (fun _ => 0))), (a3, .inr (1, [.int 0, .int 0, .int 0, .int 0, .int 0, .int 0]))] := hD
  refine lv_dup hx hb d_R_init_26 rfl ?_
  refine cm_read (va_runIN (As := []) (rest := [.ref a3, .ref a0]) (b := a3) ⟨hx, hb, hml, hown, hts⟩ (m_P_init) ⟨va_cnB 0 hts (gd_ws x_28) rfl rfl rfl (hE.2.1 _ x_26) (hts _ x_2) (by decide +kernel) ⟨by decide, by decide⟩, rfl, hts _ x_27⟩ ⟨st_blind, fun U hU hW => ⟨rfl, hE.at hS hAB hU hW, by rw [hU]; exact trivial⟩⟩ rfl rfl hl.1 rfl (lv_room (Nat.le_of_ble_eq_true rfl)) d_R_init_27 ⟨by decide, by decide⟩) (fun v hv => ?_)
  subst hv
  refine W.eq (g2 := F0 m 30 ls [.ref a3, .ref a0]) rfl ?_
  refine va_putF (D := D) (ci := 2) (v := .ref a3) (ty := .object "LevelRows$Part") (C := n_R) (T := f_R) (N := 10) hx hb hts in_R t_R ty_R nm_R hown hK hP hD hS 0 rfl rfl 6 (by decide) (hts _ x_88) (fun _ h9 => h9) rfl hnm rfl (by decide +kernel) rfl rfl (Nat.le_of_ble_eq_true rfl) d_R_init_30 (fun H locs hP hD hS => ?_)
  have hP : va_P D vwCl [(a0, .inr (2, [.int 0, .null, .int 0, .int 0, .ref a1, .ref a2, .ref a3, .null, .null, .null])), (a1, .inl (cI, 1000, .inl (fun _ => 0))), (a2, .inl (cI, 1000, .inl (fun _ => 0))), (a3, .inr (1, [.int 0, .int 0, .int 0, .int 0, .int 0, .int 0]))] H := hP
  have hD : va_D (fun q => q = a0 ∨ sz ≤ q) [(a0, .inr (2, [.int 0, .null, .int 0, .int 0, .ref a1, .ref a2, .ref a3, .null, .null, .null])), (a1, .inl (cI, 1000, .inl (fun _ => 0))), (a2, .inl (cI, 1000, .inl (fun _ => 0))), (a3, .inr (1, [.int 0, .int 0, .int 0, .int 0, .int 0, .int 0]))] := hD
  refine lv_aload_n hx hb d_R_init_33 rfl (lv_at hl 0 rfl) ?_
  refine lv_sipush (v := 1000) hx hb d_R_init_34 (by decide) ?_
  refine va_newa (atype := .int) hx hb (hts _ x_50) rfl hK hP hD hS hA (a0 := (1000, .inl (fun _ => 0))) (fun _ => rfl) (by decide) rfl (by decide) (Nat.le_of_ble_eq_true rfl) (Nat.le_of_ble_eq_true rfl) d_R_init_37 (fun a4 cA H hK9 hP hD hS => ?_)
  have e9 : cA = cI := Option.some.inj ((hK9.2 4 _ rfl).2.symm.trans (hK9.2 0 _ rfl).2)
  rw [e9] at hP hD
  have hP : va_P D vwCl [(a0, .inr (2, [.int 0, .null, .int 0, .int 0, .ref a1, .ref a2, .ref a3, .null, .null, .null])), (a1, .inl (cI, 1000, .inl (fun _ => 0))), (a2, .inl (cI, 1000, .inl (fun _ => 0))), (a3, .inr (1, [.int 0, .int 0, .int 0, .int 0, .int 0, .int 0])), (a4, .inl (cI, 1000, .inl (fun _ => 0)))] H := hP
  have hD : va_D (fun q => q = a0 ∨ sz ≤ q) [(a0, .inr (2, [.int 0, .null, .int 0, .int 0, .ref a1, .ref a2, .ref a3, .null, .null, .null])), (a1, .inl (cI, 1000, .inl (fun _ => 0))), (a2, .inl (cI, 1000, .inl (fun _ => 0))), (a3, .inr (1, [.int 0, .int 0, .int 0, .int 0, .int 0, .int 0])), (a4, .inl (cI, 1000, .inl (fun _ => 0)))] := hD
  refine va_putF (D := D) (ci := 2) (v := .ref a4) (ty := .array .int) (C := n_R) (T := f_R) (N := 10) hx hb hts in_R t_R ty_R nm_R hown hK hP hD hS 0 rfl rfl 7 (by decide) (hts _ x_89) (fun _ h9 => h9) rfl hnm rfl (by decide +kernel) rfl rfl (Nat.le_of_ble_eq_true rfl) d_R_init_39 (fun H locs hP hD hS => ?_)
  have hP : va_P D vwCl [(a0, .inr (2, [.int 0, .null, .int 0, .int 0, .ref a1, .ref a2, .ref a3, .ref a4, .null, .null])), (a1, .inl (cI, 1000, .inl (fun _ => 0))), (a2, .inl (cI, 1000, .inl (fun _ => 0))), (a3, .inr (1, [.int 0, .int 0, .int 0, .int 0, .int 0, .int 0])), (a4, .inl (cI, 1000, .inl (fun _ => 0)))] H := hP
  have hD : va_D (fun q => q = a0 ∨ sz ≤ q) [(a0, .inr (2, [.int 0, .null, .int 0, .int 0, .ref a1, .ref a2, .ref a3, .ref a4, .null, .null])), (a1, .inl (cI, 1000, .inl (fun _ => 0))), (a2, .inl (cI, 1000, .inl (fun _ => 0))), (a3, .inr (1, [.int 0, .int 0, .int 0, .int 0, .int 0, .int 0])), (a4, .inl (cI, 1000, .inl (fun _ => 0)))] := hD
  refine lv_aload_n hx hb d_R_init_42 rfl (lv_at hl 0 rfl) ?_
  refine lv_sipush (v := 1000) hx hb d_R_init_43 (by decide) ?_
  refine va_newa (atype := .int) hx hb (hts _ x_50) rfl hK hP hD hS hA (a0 := (1000, .inl (fun _ => 0))) (fun _ => rfl) (by decide) rfl (by decide) (Nat.le_of_ble_eq_true rfl) (Nat.le_of_ble_eq_true rfl) d_R_init_46 (fun a5 cA H hK9 hP hD hS => ?_)
  have e9 : cA = cI := Option.some.inj ((hK9.2 4 _ rfl).2.symm.trans (hK9.2 0 _ rfl).2)
  rw [e9] at hP hD
  have hP : va_P D vwCl [(a0, .inr (2, [.int 0, .null, .int 0, .int 0, .ref a1, .ref a2, .ref a3, .ref a4, .null, .null])), (a1, .inl (cI, 1000, .inl (fun _ => 0))), (a2, .inl (cI, 1000, .inl (fun _ => 0))), (a3, .inr (1, [.int 0, .int 0, .int 0, .int 0, .int 0, .int 0])), (a4, .inl (cI, 1000, .inl (fun _ => 0))), (a5, .inl (cI, 1000, .inl (fun _ => 0)))] H := hP
  have hD : va_D (fun q => q = a0 ∨ sz ≤ q) [(a0, .inr (2, [.int 0, .null, .int 0, .int 0, .ref a1, .ref a2, .ref a3, .ref a4, .null, .null])), (a1, .inl (cI, 1000, .inl (fun _ => 0))), (a2, .inl (cI, 1000, .inl (fun _ => 0))), (a3, .inr (1, [.int 0, .int 0, .int 0, .int 0, .int 0, .int 0])), (a4, .inl (cI, 1000, .inl (fun _ => 0))), (a5, .inl (cI, 1000, .inl (fun _ => 0)))] := hD
  refine va_putF (D := D) (ci := 2) (v := .ref a5) (ty := .array .int) (C := n_R) (T := f_R) (N := 10) hx hb hts in_R t_R ty_R nm_R hown hK hP hD hS 0 rfl rfl 8 (by decide) (hts _ x_90) (fun _ h9 => h9) rfl hnm rfl (by decide +kernel) rfl rfl (Nat.le_of_ble_eq_true rfl) d_R_init_48 (fun H locs hP hD hS => ?_)
  have hP : va_P D vwCl [(a0, .inr (2, [.int 0, .null, .int 0, .int 0, .ref a1, .ref a2, .ref a3, .ref a4, .ref a5, .null])), (a1, .inl (cI, 1000, .inl (fun _ => 0))), (a2, .inl (cI, 1000, .inl (fun _ => 0))), (a3, .inr (1, [.int 0, .int 0, .int 0, .int 0, .int 0, .int 0])), (a4, .inl (cI, 1000, .inl (fun _ => 0))), (a5, .inl (cI, 1000, .inl (fun _ => 0)))] H := hP
  have hD : va_D (fun q => q = a0 ∨ sz ≤ q) [(a0, .inr (2, [.int 0, .null, .int 0, .int 0, .ref a1, .ref a2, .ref a3, .ref a4, .ref a5, .null])), (a1, .inl (cI, 1000, .inl (fun _ => 0))), (a2, .inl (cI, 1000, .inl (fun _ => 0))), (a3, .inr (1, [.int 0, .int 0, .int 0, .int 0, .int 0, .int 0])), (a4, .inl (cI, 1000, .inl (fun _ => 0))), (a5, .inl (cI, 1000, .inl (fun _ => 0)))] := hD
  refine lv_aload_n hx hb d_R_init_51 rfl (lv_at hl 0 rfl) ?_
  refine lv_sipush (v := 1001) hx hb d_R_init_52 (by decide) ?_
  refine va_newa (atype := .int) hx hb (hts _ x_50) rfl hK hP hD hS hA (a0 := (1001, .inl (fun _ => 0))) (fun _ => rfl) (by decide) rfl (by decide) (Nat.le_of_ble_eq_true rfl) (Nat.le_of_ble_eq_true rfl) d_R_init_55 (fun a6 cA H hK9 hP hD hS => ?_)
  have e9 : cA = cI := Option.some.inj ((hK9.2 4 _ rfl).2.symm.trans (hK9.2 0 _ rfl).2)
  rw [e9] at hP hD
  have hP : va_P D vwCl [(a0, .inr (2, [.int 0, .null, .int 0, .int 0, .ref a1, .ref a2, .ref a3, .ref a4, .ref a5, .null])), (a1, .inl (cI, 1000, .inl (fun _ => 0))), (a2, .inl (cI, 1000, .inl (fun _ => 0))), (a3, .inr (1, [.int 0, .int 0, .int 0, .int 0, .int 0, .int 0])), (a4, .inl (cI, 1000, .inl (fun _ => 0))), (a5, .inl (cI, 1000, .inl (fun _ => 0))), (a6, .inl (cI, 1001, .inl (fun _ => 0)))] H := hP
  have hD : va_D (fun q => q = a0 ∨ sz ≤ q) [(a0, .inr (2, [.int 0, .null, .int 0, .int 0, .ref a1, .ref a2, .ref a3, .ref a4, .ref a5, .null])), (a1, .inl (cI, 1000, .inl (fun _ => 0))), (a2, .inl (cI, 1000, .inl (fun _ => 0))), (a3, .inr (1, [.int 0, .int 0, .int 0, .int 0, .int 0, .int 0])), (a4, .inl (cI, 1000, .inl (fun _ => 0))), (a5, .inl (cI, 1000, .inl (fun _ => 0))), (a6, .inl (cI, 1001, .inl (fun _ => 0)))] := hD
  refine va_putF (D := D) (ci := 2) (v := .ref a6) (ty := .array .int) (C := n_R) (T := f_R) (N := 10) hx hb hts in_R t_R ty_R nm_R hown hK hP hD hS 0 rfl rfl 9 (by decide) (hts _ x_91) (fun _ h9 => h9) rfl hnm rfl (by decide +kernel) rfl rfl (Nat.le_of_ble_eq_true rfl) d_R_init_57 (fun H locs hP hD hS => ?_)
  have hP : va_P D vwCl [(a0, .inr (2, [.int 0, .null, .int 0, .int 0, .ref a1, .ref a2, .ref a3, .ref a4, .ref a5, .ref a6])), (a1, .inl (cI, 1000, .inl (fun _ => 0))), (a2, .inl (cI, 1000, .inl (fun _ => 0))), (a3, .inr (1, [.int 0, .int 0, .int 0, .int 0, .int 0, .int 0])), (a4, .inl (cI, 1000, .inl (fun _ => 0))), (a5, .inl (cI, 1000, .inl (fun _ => 0))), (a6, .inl (cI, 1001, .inl (fun _ => 0)))] H := hP
  have hD : va_D (fun q => q = a0 ∨ sz ≤ q) [(a0, .inr (2, [.int 0, .null, .int 0, .int 0, .ref a1, .ref a2, .ref a3, .ref a4, .ref a5, .ref a6])), (a1, .inl (cI, 1000, .inl (fun _ => 0))), (a2, .inl (cI, 1000, .inl (fun _ => 0))), (a3, .inr (1, [.int 0, .int 0, .int 0, .int 0, .int 0, .int 0])), (a4, .inl (cI, 1000, .inl (fun _ => 0))), (a5, .inl (cI, 1000, .inl (fun _ => 0))), (a6, .inl (cI, 1001, .inl (fun _ => 0)))] := hD
  refine lv_aload_n hx hb d_R_init_60 rfl (lv_at hl 0 rfl) ?_
  refine lv_iconst (v := 1) hx hb d_R_init_61 (by decide) ?_
  refine lv_ldc (v := 65536) hx hb hown (hts _ x_51) d_R_init_62 ?_
  refine lv_iload_n hx hb d_R_init_64 rfl (lv_at hl 1 rfl) ?_
  refine va_mmin hx hb (by rw [hml]; exact hl.1.symm) hown (hts _ x_52) (hts _ x_53) (hts _ x_3) (hts _ x_54) (by decide) (Nat.le_of_ble_eq_true rfl) (by decide) (by decide) d_R_init_65 ?_
  refine va_mmax hx hb (by rw [hml]; exact hl.1.symm) hown (hts _ x_55) (hts _ x_56) (hts _ x_3) (hts _ x_57) (by decide) (Nat.le_of_ble_eq_true rfl) (by decide) (by decide) d_R_init_68 ?_
  refine ct_topi (x' := nI (sgOf x)) (sgOf_R x) ?_
  refine va_putF (D := D) (ci := 2) (v := .int (nI (sgOf x))) (ty := .int) (C := n_R) (T := f_R) (N := 10) hx hb hts in_R t_R ty_R nm_R hown hK hP hD hS 0 rfl rfl 0 (by decide) (hts _ x_82) (fun _ h9 => h9) rfl hnm rfl (by decide +kernel) rfl rfl (Nat.le_of_ble_eq_true rfl) d_R_init_71 (fun H locs hP hD hS => ?_)
  have hP : va_P D vwCl [(a0, .inr (2, [.int (nI (sgOf x)), .null, .int 0, .int 0, .ref a1, .ref a2, .ref a3, .ref a4, .ref a5, .ref a6])), (a1, .inl (cI, 1000, .inl (fun _ => 0))), (a2, .inl (cI, 1000, .inl (fun _ => 0))), (a3, .inr (1, [.int 0, .int 0, .int 0, .int 0, .int 0, .int 0])), (a4, .inl (cI, 1000, .inl (fun _ => 0))), (a5, .inl (cI, 1000, .inl (fun _ => 0))), (a6, .inl (cI, 1001, .inl (fun _ => 0)))] H := hP
  have hD : va_D (fun q => q = a0 ∨ sz ≤ q) [(a0, .inr (2, [.int (nI (sgOf x)), .null, .int 0, .int 0, .ref a1, .ref a2, .ref a3, .ref a4, .ref a5, .ref a6])), (a1, .inl (cI, 1000, .inl (fun _ => 0))), (a2, .inl (cI, 1000, .inl (fun _ => 0))), (a3, .inr (1, [.int 0, .int 0, .int 0, .int 0, .int 0, .int 0])), (a4, .inl (cI, 1000, .inl (fun _ => 0))), (a5, .inl (cI, 1000, .inl (fun _ => 0))), (a6, .inl (cI, 1001, .inl (fun _ => 0)))] := hD
  refine lv_bipush (v := 32) hx hb d_R_init_74 (by decide) ?_
  refine lv_aload_n hx hb d_R_init_76 rfl (lv_at hl 0 rfl) ?_
  refine va_get (D := D) (ci := 2) (v := .int (nI (sgOf x))) (C := n_R) (T := f_R) (N := 10) hx hb hts in_R hown hK hP 0 rfl rfl 0 (by decide) (hts _ x_82) (fun _ h9 => h9) rfl d_R_init_77 ?_
  refine lv_iconst (v := 1) hx hb d_R_init_80 (by decide) ?_
  refine lv_isub hx hb d_R_init_81 ?_
  obtain ⟨hg1, hg2⟩ := sgOf_b x
  refine ct_topi (x' := nI (sgOf x - 1)) (pk_sub (b := 1) hg1) ?_
  obtain ⟨d, hd16, hdu, hdl⟩ := bl_ex (u := sgOf x - 1) 16 (by omega)
  refine cm_read (va_runS (As := [.int (nI (sgOf x - 1))]) (rest := [.int 32]) ⟨hx, hb, hml, hown, hts⟩ (m_I_nlz (sgOf x - 1) d hdu hdl hd16) ⟨ct_cb 1 hts x_60 x_58 x_4 rfl rfl (by decide +kernel) ⟨by decide, by decide⟩, hts _ x_59⟩ ⟨st_blind, fun U hU hW => ⟨rfl, hE.at hS hAB hU hW, by rw [hU]; exact trivial⟩⟩ rfl rfl hl.1 rfl (lv_room (Nat.le_of_ble_eq_true rfl)) d_R_init_82 ⟨by decide, by decide⟩) (fun v hv => ?_)
  subst hv
  refine W.eq (g2 := F0 m 85 ls [.int (nI (32 - d)), .int 32]) rfl ?_
  refine lv_isub hx hb d_R_init_85 ?_
  refine ct_topi (x' := nI d) (by rw [show (32 : Int32) = nI 32 from rfl, pk_sub (by omega)]; congr 1; omega) ?_
  refine lv_istore_n (lv' := [(2, .int (nI d)), (0, .ref a0), (1, .int x)]) hx hb d_R_init_86 rfl hl (by decide) rfl (fun ls hl => ?_)
  refine lv_aload_n hx hb d_R_init_87 rfl (lv_at hl 1 rfl) ?_
  refine lv_iload_n hx hb d_R_init_88 rfl (lv_at hl 0 rfl) ?_
  refine va_newq hx hb hown (hts _ x_62) (hE.2.1 _ x_63) hK hP hD hS hA (N' := d) (nI_pos (by omega)) (nI_clamp (by omega)) (by omega) (Nat.le_of_ble_eq_true rfl) (show _ + d ≤ 5583 by omega) d_R_init_89 (fun a7 cA H hK9 hP hD hS => ?_)
  have e9 : cA = cO := Option.some.inj ((va_nmO (hK9.2 4 _ rfl).2 rfl).symm.trans (va_nmO (hK9.2 3 _ rfl).2 rfl))
  rw [e9] at hP hD
  have hP : va_P D vwCl [(a0, .inr (2, [.int (nI (sgOf x)), .null, .int 0, .int 0, .ref a1, .ref a2, .ref a3, .ref a4, .ref a5, .ref a6])), (a1, .inl (cI, 1000, .inl (fun _ => 0))), (a2, .inl (cI, 1000, .inl (fun _ => 0))), (a3, .inr (1, [.int 0, .int 0, .int 0, .int 0, .int 0, .int 0])), (a4, .inl (cI, 1000, .inl (fun _ => 0))), (a5, .inl (cI, 1000, .inl (fun _ => 0))), (a6, .inl (cI, 1001, .inl (fun _ => 0))), (a7, .inl (cO, d, .inr (.inr (.inr (.inr (fun _ => none))))))] H := hP
  have hD : va_D (fun q => q = a0 ∨ sz ≤ q) [(a0, .inr (2, [.int (nI (sgOf x)), .null, .int 0, .int 0, .ref a1, .ref a2, .ref a3, .ref a4, .ref a5, .ref a6])), (a1, .inl (cI, 1000, .inl (fun _ => 0))), (a2, .inl (cI, 1000, .inl (fun _ => 0))), (a3, .inr (1, [.int 0, .int 0, .int 0, .int 0, .int 0, .int 0])), (a4, .inl (cI, 1000, .inl (fun _ => 0))), (a5, .inl (cI, 1000, .inl (fun _ => 0))), (a6, .inl (cI, 1001, .inl (fun _ => 0))), (a7, .inl (cO, d, .inr (.inr (.inr (.inr (fun _ => none))))))] := hD
  refine va_putF (D := D) (ci := 2) (v := .ref a7) (ty := .array (.object "LevelRows$Level")) (C := n_R) (T := f_R) (N := 10) hx hb hts in_R t_R ty_R nm_R hown hK hP hD hS 0 rfl rfl 1 (by decide) (hts _ x_83) (fun _ h9 => h9) rfl hnm rfl (by decide +kernel) rfl rfl (Nat.le_of_ble_eq_true rfl) d_R_init_92 (fun H locs hP hD hS => ?_)
  have hP : va_P D vwCl [(a0, .inr (2, [.int (nI (sgOf x)), .ref a7, .int 0, .int 0, .ref a1, .ref a2, .ref a3, .ref a4, .ref a5, .ref a6])), (a1, .inl (cI, 1000, .inl (fun _ => 0))), (a2, .inl (cI, 1000, .inl (fun _ => 0))), (a3, .inr (1, [.int 0, .int 0, .int 0, .int 0, .int 0, .int 0])), (a4, .inl (cI, 1000, .inl (fun _ => 0))), (a5, .inl (cI, 1000, .inl (fun _ => 0))), (a6, .inl (cI, 1001, .inl (fun _ => 0))), (a7, .inl (cO, d, .inr (.inr (.inr (.inr (fun _ => none))))))] H := hP
  have hD : va_D (fun q => q = a0 ∨ sz ≤ q) [(a0, .inr (2, [.int (nI (sgOf x)), .ref a7, .int 0, .int 0, .ref a1, .ref a2, .ref a3, .ref a4, .ref a5, .ref a6])), (a1, .inl (cI, 1000, .inl (fun _ => 0))), (a2, .inl (cI, 1000, .inl (fun _ => 0))), (a3, .inr (1, [.int 0, .int 0, .int 0, .int 0, .int 0, .int 0])), (a4, .inl (cI, 1000, .inl (fun _ => 0))), (a5, .inl (cI, 1000, .inl (fun _ => 0))), (a6, .inl (cI, 1001, .inl (fun _ => 0))), (a7, .inl (cO, d, .inr (.inr (.inr (.inr (fun _ => none))))))] := hD
  refine lv_iconst (v := 0) hx hb d_R_init_95 (by decide) ?_
  refine lv_istore_n (lv' := [(3, .int 0), (2, .int (nI d)), (0, .ref a0), (1, .int x)]) hx hb d_R_init_96 rfl hl (by decide) rfl (fun ls hl => ?_)
  obtain ⟨y, hy⟩ : ∃ y, y = gy a0 a1 a2 a3 a4 a5 a6 a7 := ⟨_, rfl⟩
  have loop : ∀ (n i : Nat) (y : Nat → Nat) (f : Nat → Option Nat) (Hi : Heap) (locs : List Loc) (ls : Array Slot), (i + n = d) → (y 0 = a0) → (∀ a b, a < 8 + 3 * i → b < 8 + 3 * i → y a = y b → a = b) → (∀ j, 1 ≤ j → j < 8 + 3 * i → sz ≤ y j) → (fr (fun q => q = a0 ∨ sz ≤ q) s.heap Hi) → (∀ z ∈ locs, z.base = a0) → (va_P D vwCl [(y 0, .inr (2, [.int (nI (sgOf x)), .ref (y 7), .int 0, .int 0, .ref (y 1), .ref (y 2), .ref (y 3), .ref (y 4), .ref (y 5), .ref (y 6)])), (y 7, .inl (cO, d, .inr (.inr (.inr (.inr (f))))))] Hi) → (va_P D vwCl [(y 1, .inl (cI, 1000, .inl (fun _ => 0))), (y 2, .inl (cI, 1000, .inl (fun _ => 0))), (y 3, .inr (1, [.int 0, .int 0, .int 0, .int 0, .int 0, .int 0])), (y 4, .inl (cI, 1000, .inl (fun _ => 0))), (y 5, .inl (cI, 1000, .inl (fun _ => 0))), (y 6, .inl (cI, 1001, .inl (fun _ => 0)))] Hi) → (∀ j, j < i → f j = some (y (8 + 3 * j))) → (∀ k, k < i → va_P D vwCl (Lw cJ cS (y (8 + 3 * k)) (y (9 + 3 * k)) (y (10 + 3 * k)) (fun _ => 0) (fun _ => 0) 0) Hi) → (lv_has ls 4 [(3, .int (nI i)), (2, .int (nI d)), (0, .ref (y 0)), (1, .int x)]) → W p l e (rmK 2 55 5583) s m [.ref a0, .int x].toArray below meth c Hi locs (7 + 3 * i) (5007 + d + 35 * i) (MQ below (stQ (fun v H0 H1 => v = none ∧ fr (fun q => q = a0 ∨ sz ≤ q) H0 H1 ∧ ∃ (y : Nat → Nat) (d : Nat), y 0 = a0 ∧ yI B0 y d ∧ (∀ i, 1 ≤ i → i < 8 + 3 * d → sz ≤ y i) ∧ Ok (sgOf x) d [] [] ∧ LRx D cI cJ cS cO y (sgOf x) d [] [] H1)) [.ref a0, .int x].toArray s 55 5583 (fun q => q = a0 ∨ sz ≤ q)) (F0 m 97 ls []) := by
    intro n
    induction n with
    | zero =>
      intro i y f Hi locs ls hin h0 hinj hge hfr hlo hP hO hf hLv hl
      have hid : i = d := by omega
      refine lv_iload_n hx hb d_R_init_97 rfl (lv_at hl 0 rfl) ?_
      refine lv_iload_n hx hb d_R_init_98 rfl (lv_at hl 1 rfl) ?_
      refine lv_icmp_ge (tgt := 121) hx hb d_R_init_99 (by decide) (fun _ => ?_) (fun c9 => absurd (nI_le (by omega) (by omega)) c9)
      subst hid
      have hok : Ok (sgOf x) i [] [] := ⟨hg1, hg2, by omega, hdl, hd16, by decide, (fun x h => nomatch h), (fun x h => nomatch h)⟩
      have hyI : yI B0 y i := ⟨hinj, fun j hj => by rcases Nat.eq_zero_or_pos j with h | h; rw [h, h0]; exact hB; exact Nat.le_trans hBz (hge j h hj)⟩
      have hP7 : va_P D vwCl [(y 7, .inl (cO, i, .inr (.inr (.inr (.inr (fun j => some (y (8 + 3 * j))))))))] Hi := va_P.objs (hP.sub [1] rfl) hf
      have hLR : LRx D cI cJ cS cO y (sgOf x) i [] [] Hi := by
        refine ⟨⟨(hP.sub [0] rfl).app hP7, fun k hk => ⟨_, _, _, LvOk.nil (wL_len i [] k), hLv k hk⟩⟩, ⟨_, _, _, _, _, _, hO.sub [2] rfl⟩, ⟨_, _, hO.sub [3, 4] rfl⟩, ⟨_, hO.sub [5] rfl⟩, _, _, fun i x h => by simp at h, hO.sub [0, 1] rfl⟩
      refine W.widen (k := 55) (n := 5583) (by omega) (by omega) ?_
      exact W.vret hx hb hr (fun t ht hW => ⟨_, rfl, by rw [ht]; exact ⟨rfl, hfr, y, i, h0, hyI, hge, hok, hLR⟩⟩) (fun z hz => Or.inl (hlo z hz)) d_R_init_121
    | succ n ih =>
      intro i y f Hi locs ls hin h0 hinj hge hfr hlo hP hO hf hLv hl
      have hid : i < d := by omega
      have hzi : sz ≤ Hi.size := by rw [← hz]; exact hfr.1
      have hlt : ∀ j, j < 8 + 3 * i → y j < Hi.size := by
        intro j hj
        rcases Nat.lt_or_ge j 8 with h8 | h8
        · rcases (show j = 0 ∨ j = 1 ∨ j = 2 ∨ j = 3 ∨ j = 4 ∨ j = 5 ∨ j = 6 ∨ j = 7 by omega) with rfl | rfl | rfl | rfl | rfl | rfl | rfl | rfl
          · exact (hP 0 _ rfl).lt
          · exact (hO 0 _ rfl).lt
          · exact (hO 1 _ rfl).lt
          · exact (hO 2 _ rfl).lt
          · exact (hO 3 _ rfl).lt
          · exact (hO 4 _ rfl).lt
          · exact (hO 5 _ rfl).lt
          · exact (hP 1 _ rfl).lt
        · obtain ⟨k, hk⟩ : ∃ k, j = 8 + 3 * k ∨ j = 9 + 3 * k ∨ j = 10 + 3 * k := ⟨(j - 8) / 3, by omega⟩
          have hki : k < i := by omega
          rcases hk with rfl | rfl | rfl
          · exact (hLv k hki 0 _ rfl).lt
          · exact (hLv k hki 1 _ rfl).lt
          · exact (hLv k hki 2 _ rfl).lt
      have hA : ∀ q, Hi.size ≤ q → (fun q => q = a0 ∨ q = y 7 ∨ Hi.size ≤ q) q := fun q h => Or.inr (Or.inr h)
      have hS : va_S (fun q => q = a0 ∨ q = y 7 ∨ Hi.size ≤ q) Hi Hi locs := ⟨Nat.le_refl _, fun _ _ _ => rfl, fun z hz => Or.inl (hlo z hz)⟩
      have hD : va_D (fun q => q = a0 ∨ q = y 7 ∨ Hi.size ≤ q) [(y 0, .inr (2, [.int (nI (sgOf x)), .ref (y 7), .int 0, .int 0, .ref (y 1), .ref (y 2), .ref (y 3), .ref (y 4), .ref (y 5), .ref (y 6)])), (y 7, .inl (cO, d, .inr (.inr (.inr (.inr (f))))))] := va_D.two (fun h => absurd (hinj 0 7 (by omega) (by omega) h) (by omega)) (Or.inl h0) (Or.inr (Or.inl rfl))
      refine lv_iload_n hx hb d_R_init_97 rfl (lv_at hl 0 rfl) ?_
      refine lv_iload_n hx hb d_R_init_98 rfl (lv_at hl 1 rfl) ?_
      refine lv_icmp_ge (tgt := 121) hx hb d_R_init_99 (by decide) (fun c9 => absurd c9 (nI_ge (by omega) (by omega))) (fun _ => ?_)
      refine lv_aload_n hx hb d_R_init_102 rfl (lv_at hl 2 rfl) ?_
      refine va_get (D := D) (ci := 2) (v := .ref (y 7)) (C := n_R) (T := f_R) (N := 10) hx hb hts in_R hown hK hP 0 rfl rfl 1 (by decide) (hts _ x_83) (fun _ h9 => h9) rfl d_R_init_103 ?_
      refine lv_iload_n hx hb d_R_init_106 rfl (lv_at hl 0 rfl) ?_
      refine va_new (ci := 0) (fs := [.null, .null, .int 0]) (C := n_L) (T := f_L) (N := 3) hx hb hts in_L t_L ty_L hown (hts _ x_62) (hts _ x_64) (hts _ x_5) hK hP hD hS hA rfl (fun j hj => by rcases (show j = 0 ∨ j = 1 ∨ j = 2 by omega) with rfl | rfl | rfl <;> rfl) (show 7 + 3 * i + 1 ≤ 55 by omega) (show 5007 + d + 35 * i + 3 ≤ 5583 by omega) d_R_init_107 (fun b0 H hP hD hS => ?_)
      have hP : va_P D vwCl [(y 0, .inr (2, [.int (nI (sgOf x)), .ref (y 7), .int 0, .int 0, .ref (y 1), .ref (y 2), .ref (y 3), .ref (y 4), .ref (y 5), .ref (y 6)])), (y 7, .inl (cO, d, .inr (.inr (.inr (.inr (f)))))), (b0, .inr (0, [.null, .null, .int 0]))] H := hP
      have hD : va_D (fun q => q = a0 ∨ q = y 7 ∨ Hi.size ≤ q) [(y 0, .inr (2, [.int (nI (sgOf x)), .ref (y 7), .int 0, .int 0, .ref (y 1), .ref (y 2), .ref (y 3), .ref (y 4), .ref (y 5), .ref (y 6)])), (y 7, .inl (cO, d, .inr (.inr (.inr (.inr (f)))))), (b0, .inr (0, [.null, .null, .int 0]))] := hD
      refine lv_dup hx hb d_R_init_110 rfl ?_
      have hAi : ∀ q, (fun q => q = a0 ∨ q = y 7 ∨ Hi.size ≤ q) q → (fun q => q = a0 ∨ sz ≤ q) q := fun q h => h.elim Or.inl (fun h => Or.inr (h.elim (fun h => by rw [h]; exact hge 7 (by omega) (by omega)) (fun h => Nat.le_trans hzi h)))
      have hSg : va_S (fun q => q = a0 ∨ sz ≤ q) s.heap H locs := ⟨(hfr.trans (fr.of hS) hAi).1, (hfr.trans (fr.of hS) hAi).2, fun z hz => Or.inl (hlo z hz)⟩
      have hb0 : Hi.size ≤ b0 := by
        rcases hD.2 2 _ rfl with h | h | h
        · exact absurd (hD.1 2 0 _ _ rfl rfl (h.trans h0.symm)) (by decide)
        · exact absurd (hD.1 2 1 _ _ rfl rfl h) (by decide)
        · exact h
      have hz1 : Hi.size ≤ H.size := hS.1
      have hb0l : b0 < H.size := (hP 2 _ rfl).lt
      refine cm_ret (va_runIN (As := []) (rest := [.ref b0, .int (nI i), .ref (y 7)]) (b := b0) ⟨hx, hb, hml, hown, hts⟩ (m_L_init (sz := H.size)) ⟨va_cnB 0 hts (gd_ws x_67) rfl rfl rfl (hE.2.1 _ x_65) (hts _ x_5) (by decide +kernel) ⟨by decide, by decide⟩, rfl, hts _ x_66⟩ ⟨st_blind, fun U hU hW => ⟨rfl, hE.at hSg hAB hU hW, by rw [hU]; exact ⟨rfl, hP.sub [2] rfl⟩⟩⟩ rfl rfl hl.1 rfl (lv_room (Nat.le_of_ble_eq_true rfl)) d_R_init_111 ⟨show 7 + 3 * i + 1 + 2 ≤ 55 by omega, show 5007 + d + 35 * i + 3 + 32 ≤ 5583 by omega⟩) hS (fun q h => Or.inr (Or.inr (h.elim (fun h => by rw [h]; exact hb0) (fun h => Nat.le_trans hz1 h)))) (fun _ _ h => h.2.1) (fun v H2 locs hv hS => ?_)
      obtain ⟨rfl, hfr2, b1, b2, hb1, hb2, hb12, hPL⟩ := hv
      refine W.eq (g2 := F0 m 114 ls [.ref b0, .int (nI i), .ref (y 7)]) rfl ?_
      have hk2 : ∀ j, j < 8 + 3 * i → ¬ (y j = b0 ∨ H.size ≤ y j) := fun j hj h => by have := hlt j hj; rcases h with h | h <;> omega
      have hP : va_P D vwCl [(b0, .inr (0, [.ref b1, .ref b2, .int 0])), (b1, .inl (cJ, 16, .inr (.inl (fun _ => 0)))), (b2, .inl (cS, 16, .inl (fun _ => 0))), (y 0, .inr (2, [.int (nI (sgOf x)), .ref (y 7), .int 0, .int 0, .ref (y 1), .ref (y 2), .ref (y 3), .ref (y 4), .ref (y 5), .ref (y 6)])), (y 7, .inl (cO, d, .inr (.inr (.inr (.inr (f))))))] H2 := hPL.app ((hP.sub [0, 1] rfl).fr hfr2 (va_P.off2 (A := fun q => q = b0 ∨ H.size ≤ q) (hk2 0 (by omega)) (hk2 7 (by omega))))
      have hlt0 := hlt 0 (by omega)
      have hlt7 := hlt 7 (by omega)
      have hD : va_D (fun q => q = a0 ∨ q = y 7 ∨ Hi.size ≤ q) [(b0, .inr (0, [.ref b1, .ref b2, .int 0])), (b1, .inl (cJ, 16, .inr (.inl (fun _ => 0)))), (b2, .inl (cS, 16, .inl (fun _ => 0))), (y 0, .inr (2, [.int (nI (sgOf x)), .ref (y 7), .int 0, .int 0, .ref (y 1), .ref (y 2), .ref (y 3), .ref (y 4), .ref (y 5), .ref (y 6)])), (y 7, .inl (cO, d, .inr (.inr (.inr (.inr (f))))))] := va_D.app (va_D.three (by omega) (by omega) hb12 (Or.inr (Or.inr hb0)) (Or.inr (Or.inr (by omega))) (Or.inr (Or.inr (by omega)))) (va_D.two (fun h => absurd (hinj 0 7 (by omega) (by omega) h) (by omega)) (Or.inl h0) (Or.inr (Or.inl rfl))) (fun i j p q hi hj => by
        have h1 : Hi.size ≤ p.1 := by
          match i, hi with
          | 0, hi => cases hi; exact hb0
          | 1, hi => cases hi; show Hi.size ≤ b1; omega
          | 2, hi => cases hi; show Hi.size ≤ b2; omega
          | i + 3, hi => simp at hi
        have h2 : q.1 < Hi.size := by
          match j, hj with
          | 0, hj => cases hj; exact hlt0
          | 1, hj => cases hj; exact hlt7
          | j + 2, hj => simp at hj
        omega)
      refine va_astq hx hb hK hP hD hS 4 3 0 0 rfl rfl rfl rfl (vp_in_nI (by omega) (by omega)) d_R_init_114 (fun H3 locs hP hD hS => ?_)
      rw [nI_clamp (by omega)] at hP
      refine lv_iinc (v := nI (i + 1)) (lv' := [(3, .int (nI (i + 1))), (2, .int (nI d)), (0, .ref (y 0)), (1, .int x)]) hx hb d_R_init_115 hl (k := 0) rfl ((nI_succ i).symm) (by decide) rfl (fun ls hl => ?_)
      refine lv_goto (tgt := 97) hx hb d_R_init_118 (by decide) ?_
      have hfr3 : fr (fun q => q = a0 ∨ q = y 7 ∨ Hi.size ≤ q) Hi H3 := fr.of hS
      refine ct_only (a0 := a0) (fun z hz9 => (hS.2.2 z hz9).elim Or.inl (fun h => Or.inr (by rw [hz]; exact h.elim (fun h => by rw [h]; exact hge 7 (by omega) (by omega)) (fun h => Nat.le_trans hzi h)))) (fun locs hlo => ?_)
      have hx8 : ∀ j, j < 8 → ext y i b0 b1 b2 j = y j := fun j hj => ext_lt (by omega)
      have hk3 : ∀ j, 1 ≤ j → j < 8 + 3 * i → j ≠ 7 → ¬ (y j = a0 ∨ y j = y 7 ∨ Hi.size ≤ y j) := by
        rintro j hj1 hj hj7 (h | h | h)
        · have := hge j hj1 hj; omega
        · exact hj7 (hinj j 7 hj (by omega) h)
        · have := hlt j hj; omega
      refine ih (i + 1) (ext y i b0 b1 b2) (va_up f i (some b0)) H3 locs ls (by omega) ?_ ?_ ?_ (hfr.trans hfr3 hAi) hlo ?_ ?_ ?_ ?_ ?_
      · rw [hx8 0 (by omega)]; exact h0
      · exact ext_inj hinj hlt hb0 (by omega) (by omega) (by omega) (by omega) hb12
      · intro j hj1 hj
        rcases Nat.lt_or_ge j (8 + 3 * i) with g | g
        · rw [ext_lt g]; exact hge j hj1 g
        · rcases (show j = 8 + 3 * i ∨ j = 9 + 3 * i ∨ j = 10 + 3 * i by omega) with rfl | rfl | rfl
          · rw [ext_0]; omega
          · rw [ext_1]; omega
          · rw [ext_2]; omega
      · rw [hx8 0 (by omega), hx8 1 (by omega), hx8 2 (by omega), hx8 3 (by omega), hx8 4 (by omega), hx8 5 (by omega), hx8 6 (by omega), hx8 7 (by omega)]; exact hP.sub [3, 4] rfl
      · rw [hx8 1 (by omega), hx8 2 (by omega), hx8 3 (by omega), hx8 4 (by omega), hx8 5 (by omega), hx8 6 (by omega)]
        refine hO.fr hfr3 (fun k q hk => ?_)
        match k, hk with
        | 0, hk => cases hk; exact hk3 1 (by omega) (by omega) (by omega)
        | 1, hk => cases hk; exact hk3 2 (by omega) (by omega) (by omega)
        | 2, hk => cases hk; exact hk3 3 (by omega) (by omega) (by omega)
        | 3, hk => cases hk; exact hk3 4 (by omega) (by omega) (by omega)
        | 4, hk => cases hk; exact hk3 5 (by omega) (by omega) (by omega)
        | 5, hk => cases hk; exact hk3 6 (by omega) (by omega) (by omega)
        | k + 6, hk => simp at hk
      · intro j hj
        by_cases e8 : j = i
        · subst e8; rw [ext_0]; simp only [va_up, if_true]
        · rw [ext_lt (by omega)]; simp only [va_up, if_neg e8]; exact hf j (by omega)
      · intro k hk
        by_cases e8 : k = i
        · subst e8; rw [ext_0, ext_1, ext_2]; exact hP.sub [0, 1, 2] rfl
        · rw [ext_lt (by omega), ext_lt (by omega), ext_lt (by omega)]
          refine (hLv k (by omega)).fr hfr3 (fun j q hj => ?_)
          match j, hj with
          | 0, hj => cases hj; exact hk3 _ (by omega) (by omega) (by omega)
          | 1, hj => cases hj; exact hk3 _ (by omega) (by omega) (by omega)
          | 2, hj => cases hj; exact hk3 _ (by omega) (by omega) (by omega)
          | j + 3, hj => simp at hj
      · rw [hx8 0 (by omega)]; exact (lv_sub hl [0, 1, 2, 3] rfl)
  have hne : ∀ i j : Nat, i < 8 → j < 8 → gy a0 a1 a2 a3 a4 a5 a6 a7 i = gy a0 a1 a2 a3 a4 a5 a6 a7 j → i = j := by
    intro i j hi hj h
    have hg : ∀ k : Nat, k < 8 → ∃ e9 : va_E, ([(a0, .inr (2, [.int (nI (sgOf x)), .ref a7, .int 0, .int 0, .ref a1, .ref a2, .ref a3, .ref a4, .ref a5, .ref a6])), (a1, .inl (cI, 1000, .inl (fun _ => 0))), (a2, .inl (cI, 1000, .inl (fun _ => 0))), (a3, .inr (1, [.int 0, .int 0, .int 0, .int 0, .int 0, .int 0])), (a4, .inl (cI, 1000, .inl (fun _ => 0))), (a5, .inl (cI, 1000, .inl (fun _ => 0))), (a6, .inl (cI, 1001, .inl (fun _ => 0))), (a7, .inl (cO, d, .inr (.inr (.inr (.inr (fun _ => none))))))] : va_W)[k]? = some (gy a0 a1 a2 a3 a4 a5 a6 a7 k, e9) := by
      intro k hk
      rcases (show k = 0 ∨ k = 1 ∨ k = 2 ∨ k = 3 ∨ k = 4 ∨ k = 5 ∨ k = 6 ∨ k = 7 by omega) with rfl | rfl | rfl | rfl | rfl | rfl | rfl | rfl <;> exact ⟨_, rfl⟩
    obtain ⟨e1, g1⟩ := hg i hi
    obtain ⟨e2, g2⟩ := hg j hj
    exact hD.1 i j _ _ g1 g2 h
  have hgeq : ∀ j, 1 ≤ j → j < 8 + 3 * 0 → sz ≤ gy a0 a1 a2 a3 a4 a5 a6 a7 j := by
    intro j h1 h2
    rcases (show j = 1 ∨ j = 2 ∨ j = 3 ∨ j = 4 ∨ j = 5 ∨ j = 6 ∨ j = 7 by omega) with rfl | rfl | rfl | rfl | rfl | rfl | rfl
    · exact (hD.2 1 _ rfl).resolve_left (fun h => absurd (hD.1 1 0 _ _ rfl rfl h) (by decide))
    · exact (hD.2 2 _ rfl).resolve_left (fun h => absurd (hD.1 2 0 _ _ rfl rfl h) (by decide))
    · exact (hD.2 3 _ rfl).resolve_left (fun h => absurd (hD.1 3 0 _ _ rfl rfl h) (by decide))
    · exact (hD.2 4 _ rfl).resolve_left (fun h => absurd (hD.1 4 0 _ _ rfl rfl h) (by decide))
    · exact (hD.2 5 _ rfl).resolve_left (fun h => absurd (hD.1 5 0 _ _ rfl rfl h) (by decide))
    · exact (hD.2 6 _ rfl).resolve_left (fun h => absurd (hD.1 6 0 _ _ rfl rfl h) (by decide))
    · exact (hD.2 7 _ rfl).resolve_left (fun h => absurd (hD.1 7 0 _ _ rfl rfl h) (by decide))
  refine ct_only (a0 := a0) (fun z hz9 => (hS.2.2 z hz9).elim Or.inl (fun h => Or.inr (by rw [hz]; exact h))) (fun locs hlo => ?_)
  refine W.widen (k := 7 + 3 * 0) (n := 5007 + d + 35 * 0) (by omega) (by omega) ?_
  exact loop d 0 (gy a0 a1 a2 a3 a4 a5 a6 a7) (fun _ => none) H locs ls (by omega) rfl (fun a b ha hb => hne a b (by omega) (by omega)) hgeq (fr.of hS) hlo (hP.sub [0, 7] rfl) (hP.sub [1, 2, 3, 4, 5, 6] rfl) (fun j hj => absurd hj (Nat.not_lt_zero j)) (fun k hk => absurd hk (Nat.not_lt_zero k)) (lv_sub hl [0, 1, 2, 3] rfl)
