/-! numberOfLeadingZeros, highestOneBit, placeAbove. -/
set_option maxHeartbeats 4000000 in
set_option maxRecDepth 100000 in
theorem m_I_nlz {l : Launch} {D : va_G} {cI cJ cS cO : ClassId} {B0 : Nat} (u d : Nat) (hd : u < 2 ^ d) (hlo : ∀ e, e < d → 2 ^ e ≤ u) (h16 : d ≤ 16) : CM l D (tyL cI cJ cS cO) B0 y_I_numberOfLeadingZeros c_I_numberOfLeadingZeros 2 (some .int) (rmK 0 0 0) [.int (nI u)] (fun _ => True) (fun v H0 H1 => v = some (.int (nI (32 - d))) ∧ H1 = H0) 0 0 (fun _ => False) := by
  refine cm_of (by decide) (Nat.le_of_ble_eq_true rfl) ?_
  intro p e s m below meth c ls hx hb hr hml hown hts hlocks hnm hE hpre hl
  have hown : s.vm.findClass "java/lang/Integer" = some m.cls := hown
  have hK := hE.1
  have hl : lv_has ls 2 [(0, .int (nI u))] := hl
  have hu : u < 65536 := Nat.lt_of_lt_of_le hd (Nat.pow_le_pow_right (n := 2) (by omega) h16)
  refine lv_iload_n hx hb d_I_numberOfLeadingZeros_0 rfl (lv_at hl 0 rfl) ?_
  rcases Nat.eq_zero_or_pos u with h0 | h0
  · have hd0 : d = 0 := by
      rcases Nat.eq_zero_or_pos d with h | h
      · exact h
      · have := hlo 0 h; omega
    subst h0; subst hd0
    refine lv_if_gt (tgt := 15) hx hb d_I_numberOfLeadingZeros_1 (by decide) (fun c9 => absurd c9 (by rw [nI_0]; decide)) (fun _ => ?_)
    refine lv_iload_n hx hb d_I_numberOfLeadingZeros_4 rfl (lv_at hl 0 rfl) ?_
    refine lv_if_ne (tgt := 13) hx hb d_I_numberOfLeadingZeros_5 (by decide) (fun c9 => absurd (nI_0) c9) (fun _ => ?_)
    refine lv_bipush (v := 32) hx hb d_I_numberOfLeadingZeros_8 (by decide) ?_
    refine lv_goto (tgt := 14) hx hb d_I_numberOfLeadingZeros_10 (by decide) ?_
    exact W.iret (v := 32) hx hb hr (fun t ht hW => ⟨_, rfl, rfl, ht⟩) (fun _ h => nomatch h) d_I_numberOfLeadingZeros_14
  · refine lv_if_gt (tgt := 15) hx hb d_I_numberOfLeadingZeros_1 (by decide) (fun _ => ?_) (fun c9 => absurd (by rw [← nI_0]; exact nI_lt h0 (by omega)) c9)
    refine lv_bipush (v := 31) hx hb d_I_numberOfLeadingZeros_15 (by decide) ?_
    refine ct_topi (x' := nI 31) (rfl) ?_
    refine lv_istore_n (lv' := [(1, .int (nI 31)), (0, .int (nI u))]) hx hb d_I_numberOfLeadingZeros_17 rfl hl (by decide) rfl (fun ls hl => ?_)
    refine lv_iload_n hx hb d_I_numberOfLeadingZeros_18 rfl (lv_at hl 1 rfl) ?_
    refine lv_ldcw (v := 65536) hx hb hown (hts _ x_61) d_I_numberOfLeadingZeros_19 ?_
    refine lv_icmp_lt (tgt := 33) hx hb d_I_numberOfLeadingZeros_22 (by decide) (fun _ => ?_) (fun c9 => absurd (show nI u < nI 65536 from nI_lt hu (by decide)) c9)
    refine lv_iload_n hx hb d_I_numberOfLeadingZeros_33 rfl (lv_at hl 1 rfl) ?_
    refine lv_sipush (v := 256) hx hb d_I_numberOfLeadingZeros_34 (by decide) ?_
    rcases Nat.lt_or_ge (u) 256 with h37 | h37
    · refine lv_icmp_lt (tgt := 48) hx hb d_I_numberOfLeadingZeros_37 (by decide) (fun _ => ?_) (fun c9 => absurd (show nI (u) < nI 256 from nI_lt h37 (by decide)) c9)
      refine lv_iload_n hx hb d_I_numberOfLeadingZeros_48 rfl (lv_at hl 1 rfl) ?_
      refine lv_bipush (v := 16) hx hb d_I_numberOfLeadingZeros_49 (by decide) ?_
      rcases Nat.lt_or_ge (u) 16 with h51 | h51
      · refine lv_icmp_lt (tgt := 61) hx hb d_I_numberOfLeadingZeros_51 (by decide) (fun _ => ?_) (fun c9 => absurd (show nI (u) < nI 16 from nI_lt h51 (by decide)) c9)
        refine lv_iload_n hx hb d_I_numberOfLeadingZeros_61 rfl (lv_at hl 1 rfl) ?_
        refine lv_iconst (v := 4) hx hb d_I_numberOfLeadingZeros_62 (by decide) ?_
        rcases Nat.lt_or_ge (u) 4 with h63 | h63
        · refine lv_icmp_lt (tgt := 73) hx hb d_I_numberOfLeadingZeros_63 (by decide) (fun _ => ?_) (fun c9 => absurd (show nI (u) < nI 4 from nI_lt h63 (by decide)) c9)
          refine lv_iload_n hx hb d_I_numberOfLeadingZeros_73 rfl (lv_at hl 0 rfl) ?_
          refine lv_iload_n hx hb d_I_numberOfLeadingZeros_74 rfl (lv_at hl 1 rfl) ?_
          refine lv_iconst (v := 1) hx hb d_I_numberOfLeadingZeros_75 (by decide) ?_
          refine lv_iushr hx hb d_I_numberOfLeadingZeros_76 rfl ?_
          refine ct_topi (x' := nI (u / 2)) (pk_ushrN (by omega) _ 1 (by decide)) ?_
          refine lv_isub hx hb d_I_numberOfLeadingZeros_77 ?_
          refine ct_topi (x' := nI (32 - d)) (by rw [pk_sub (by omega)]; congr 1; have := nlz_u (c := 0) (v := u) hd hlo (by simp) (by omega) (by omega); omega) ?_
          exact W.iret (v := nI (32 - d)) hx hb hr (fun t ht hW => ⟨_, rfl, rfl, ht⟩) (fun _ h => nomatch h) d_I_numberOfLeadingZeros_78
        · refine lv_icmp_lt (tgt := 73) hx hb d_I_numberOfLeadingZeros_63 (by decide) (fun c9 => absurd c9 (show ¬ nI (u) < nI 4 from nI_nlt h63 (by omega))) (fun _ => ?_)
          refine lv_iinc (v := nI 29) (lv' := [(1, .int (nI 29)), (0, .int (nI u))]) hx hb d_I_numberOfLeadingZeros_66 hl (k := 0) rfl (by decide) (by decide) rfl (fun ls hl => ?_)
          refine lv_iload_n hx hb d_I_numberOfLeadingZeros_69 rfl (lv_at hl 1 rfl) ?_
          refine lv_iconst (v := 2) hx hb d_I_numberOfLeadingZeros_70 (by decide) ?_
          refine lv_iushr hx hb d_I_numberOfLeadingZeros_71 rfl ?_
          refine ct_topi (x' := nI (u / 4)) (pk_ushrN (by omega) _ 2 (by decide)) ?_
          refine lv_istore_n (lv' := [(0, .int (nI (u / 4))), (1, .int (nI 29))]) hx hb d_I_numberOfLeadingZeros_72 rfl hl (by decide) rfl (fun ls hl => ?_)
          refine lv_iload_n hx hb d_I_numberOfLeadingZeros_73 rfl (lv_at hl 1 rfl) ?_
          refine lv_iload_n hx hb d_I_numberOfLeadingZeros_74 rfl (lv_at hl 0 rfl) ?_
          refine lv_iconst (v := 1) hx hb d_I_numberOfLeadingZeros_75 (by decide) ?_
          refine lv_iushr hx hb d_I_numberOfLeadingZeros_76 rfl ?_
          refine ct_topi (x' := nI (u / 4 / 2)) (pk_ushrN (by omega) _ 1 (by decide)) ?_
          refine lv_isub hx hb d_I_numberOfLeadingZeros_77 ?_
          refine ct_topi (x' := nI (32 - d)) (by rw [pk_sub (by omega)]; congr 1; have := nlz_u (c := 2) (v := u / 4) hd hlo (by rfl) (by omega) (by omega); omega) ?_
          exact W.iret (v := nI (32 - d)) hx hb hr (fun t ht hW => ⟨_, rfl, rfl, ht⟩) (fun _ h => nomatch h) d_I_numberOfLeadingZeros_78
      · refine lv_icmp_lt (tgt := 61) hx hb d_I_numberOfLeadingZeros_51 (by decide) (fun c9 => absurd c9 (show ¬ nI (u) < nI 16 from nI_nlt h51 (by omega))) (fun _ => ?_)
        refine lv_iinc (v := nI 27) (lv' := [(1, .int (nI 27)), (0, .int (nI u))]) hx hb d_I_numberOfLeadingZeros_54 hl (k := 0) rfl (by decide) (by decide) rfl (fun ls hl => ?_)
        refine lv_iload_n hx hb d_I_numberOfLeadingZeros_57 rfl (lv_at hl 1 rfl) ?_
        refine lv_iconst (v := 4) hx hb d_I_numberOfLeadingZeros_58 (by decide) ?_
        refine lv_iushr hx hb d_I_numberOfLeadingZeros_59 rfl ?_
        refine ct_topi (x' := nI (u / 16)) (pk_ushrN (by omega) _ 4 (by decide)) ?_
        refine lv_istore_n (lv' := [(0, .int (nI (u / 16))), (1, .int (nI 27))]) hx hb d_I_numberOfLeadingZeros_60 rfl hl (by decide) rfl (fun ls hl => ?_)
        refine lv_iload_n hx hb d_I_numberOfLeadingZeros_61 rfl (lv_at hl 0 rfl) ?_
        refine lv_iconst (v := 4) hx hb d_I_numberOfLeadingZeros_62 (by decide) ?_
        rcases Nat.lt_or_ge (u / 16) 4 with h63 | h63
        · refine lv_icmp_lt (tgt := 73) hx hb d_I_numberOfLeadingZeros_63 (by decide) (fun _ => ?_) (fun c9 => absurd (show nI (u / 16) < nI 4 from nI_lt h63 (by decide)) c9)
          refine lv_iload_n hx hb d_I_numberOfLeadingZeros_73 rfl (lv_at hl 1 rfl) ?_
          refine lv_iload_n hx hb d_I_numberOfLeadingZeros_74 rfl (lv_at hl 0 rfl) ?_
          refine lv_iconst (v := 1) hx hb d_I_numberOfLeadingZeros_75 (by decide) ?_
          refine lv_iushr hx hb d_I_numberOfLeadingZeros_76 rfl ?_
          refine ct_topi (x' := nI (u / 16 / 2)) (pk_ushrN (by omega) _ 1 (by decide)) ?_
          refine lv_isub hx hb d_I_numberOfLeadingZeros_77 ?_
          refine ct_topi (x' := nI (32 - d)) (by rw [pk_sub (by omega)]; congr 1; have := nlz_u (c := 4) (v := u / 16) hd hlo (by rfl) (by omega) (by omega); omega) ?_
          exact W.iret (v := nI (32 - d)) hx hb hr (fun t ht hW => ⟨_, rfl, rfl, ht⟩) (fun _ h => nomatch h) d_I_numberOfLeadingZeros_78
        · refine lv_icmp_lt (tgt := 73) hx hb d_I_numberOfLeadingZeros_63 (by decide) (fun c9 => absurd c9 (show ¬ nI (u / 16) < nI 4 from nI_nlt h63 (by omega))) (fun _ => ?_)
          refine lv_iinc (v := nI 25) (lv' := [(1, .int (nI 25)), (0, .int (nI (u / 16)))]) hx hb d_I_numberOfLeadingZeros_66 hl (k := 1) rfl (by decide) (by decide) rfl (fun ls hl => ?_)
          refine lv_iload_n hx hb d_I_numberOfLeadingZeros_69 rfl (lv_at hl 1 rfl) ?_
          refine lv_iconst (v := 2) hx hb d_I_numberOfLeadingZeros_70 (by decide) ?_
          refine lv_iushr hx hb d_I_numberOfLeadingZeros_71 rfl ?_
          refine ct_topi (x' := nI (u / 16 / 4)) (pk_ushrN (by omega) _ 2 (by decide)) ?_
          refine lv_istore_n (lv' := [(0, .int (nI (u / 16 / 4))), (1, .int (nI 25))]) hx hb d_I_numberOfLeadingZeros_72 rfl hl (by decide) rfl (fun ls hl => ?_)
          refine lv_iload_n hx hb d_I_numberOfLeadingZeros_73 rfl (lv_at hl 1 rfl) ?_
          refine lv_iload_n hx hb d_I_numberOfLeadingZeros_74 rfl (lv_at hl 0 rfl) ?_
          refine lv_iconst (v := 1) hx hb d_I_numberOfLeadingZeros_75 (by decide) ?_
          refine lv_iushr hx hb d_I_numberOfLeadingZeros_76 rfl ?_
          refine ct_topi (x' := nI (u / 16 / 4 / 2)) (pk_ushrN (by omega) _ 1 (by decide)) ?_
          refine lv_isub hx hb d_I_numberOfLeadingZeros_77 ?_
          refine ct_topi (x' := nI (32 - d)) (by rw [pk_sub (by omega)]; congr 1; have := nlz_u (c := 6) (v := u / 16 / 4) hd hlo (by simp only [Nat.div_div_eq_div_mul]) (by omega) (by omega); omega) ?_
          exact W.iret (v := nI (32 - d)) hx hb hr (fun t ht hW => ⟨_, rfl, rfl, ht⟩) (fun _ h => nomatch h) d_I_numberOfLeadingZeros_78
    · refine lv_icmp_lt (tgt := 48) hx hb d_I_numberOfLeadingZeros_37 (by decide) (fun c9 => absurd c9 (show ¬ nI (u) < nI 256 from nI_nlt h37 (by omega))) (fun _ => ?_)
      refine lv_iinc (v := nI 23) (lv' := [(1, .int (nI 23)), (0, .int (nI u))]) hx hb d_I_numberOfLeadingZeros_40 hl (k := 0) rfl (by decide) (by decide) rfl (fun ls hl => ?_)
      refine lv_iload_n hx hb d_I_numberOfLeadingZeros_43 rfl (lv_at hl 1 rfl) ?_
      refine lv_bipush (v := 8) hx hb d_I_numberOfLeadingZeros_44 (by decide) ?_
      refine lv_iushr hx hb d_I_numberOfLeadingZeros_46 rfl ?_
      refine ct_topi (x' := nI (u / 256)) (pk_ushrN (by omega) _ 8 (by decide)) ?_
      refine lv_istore_n (lv' := [(0, .int (nI (u / 256))), (1, .int (nI 23))]) hx hb d_I_numberOfLeadingZeros_47 rfl hl (by decide) rfl (fun ls hl => ?_)
      refine lv_iload_n hx hb d_I_numberOfLeadingZeros_48 rfl (lv_at hl 0 rfl) ?_
      refine lv_bipush (v := 16) hx hb d_I_numberOfLeadingZeros_49 (by decide) ?_
      rcases Nat.lt_or_ge (u / 256) 16 with h51 | h51
      · refine lv_icmp_lt (tgt := 61) hx hb d_I_numberOfLeadingZeros_51 (by decide) (fun _ => ?_) (fun c9 => absurd (show nI (u / 256) < nI 16 from nI_lt h51 (by decide)) c9)
        refine lv_iload_n hx hb d_I_numberOfLeadingZeros_61 rfl (lv_at hl 0 rfl) ?_
        refine lv_iconst (v := 4) hx hb d_I_numberOfLeadingZeros_62 (by decide) ?_
        rcases Nat.lt_or_ge (u / 256) 4 with h63 | h63
        · refine lv_icmp_lt (tgt := 73) hx hb d_I_numberOfLeadingZeros_63 (by decide) (fun _ => ?_) (fun c9 => absurd (show nI (u / 256) < nI 4 from nI_lt h63 (by decide)) c9)
          refine lv_iload_n hx hb d_I_numberOfLeadingZeros_73 rfl (lv_at hl 1 rfl) ?_
          refine lv_iload_n hx hb d_I_numberOfLeadingZeros_74 rfl (lv_at hl 0 rfl) ?_
          refine lv_iconst (v := 1) hx hb d_I_numberOfLeadingZeros_75 (by decide) ?_
          refine lv_iushr hx hb d_I_numberOfLeadingZeros_76 rfl ?_
          refine ct_topi (x' := nI (u / 256 / 2)) (pk_ushrN (by omega) _ 1 (by decide)) ?_
          refine lv_isub hx hb d_I_numberOfLeadingZeros_77 ?_
          refine ct_topi (x' := nI (32 - d)) (by rw [pk_sub (by omega)]; congr 1; have := nlz_u (c := 8) (v := u / 256) hd hlo (by rfl) (by omega) (by omega); omega) ?_
          exact W.iret (v := nI (32 - d)) hx hb hr (fun t ht hW => ⟨_, rfl, rfl, ht⟩) (fun _ h => nomatch h) d_I_numberOfLeadingZeros_78
        · refine lv_icmp_lt (tgt := 73) hx hb d_I_numberOfLeadingZeros_63 (by decide) (fun c9 => absurd c9 (show ¬ nI (u / 256) < nI 4 from nI_nlt h63 (by omega))) (fun _ => ?_)
          refine lv_iinc (v := nI 21) (lv' := [(1, .int (nI 21)), (0, .int (nI (u / 256)))]) hx hb d_I_numberOfLeadingZeros_66 hl (k := 1) rfl (by decide) (by decide) rfl (fun ls hl => ?_)
          refine lv_iload_n hx hb d_I_numberOfLeadingZeros_69 rfl (lv_at hl 1 rfl) ?_
          refine lv_iconst (v := 2) hx hb d_I_numberOfLeadingZeros_70 (by decide) ?_
          refine lv_iushr hx hb d_I_numberOfLeadingZeros_71 rfl ?_
          refine ct_topi (x' := nI (u / 256 / 4)) (pk_ushrN (by omega) _ 2 (by decide)) ?_
          refine lv_istore_n (lv' := [(0, .int (nI (u / 256 / 4))), (1, .int (nI 21))]) hx hb d_I_numberOfLeadingZeros_72 rfl hl (by decide) rfl (fun ls hl => ?_)
          refine lv_iload_n hx hb d_I_numberOfLeadingZeros_73 rfl (lv_at hl 1 rfl) ?_
          refine lv_iload_n hx hb d_I_numberOfLeadingZeros_74 rfl (lv_at hl 0 rfl) ?_
          refine lv_iconst (v := 1) hx hb d_I_numberOfLeadingZeros_75 (by decide) ?_
          refine lv_iushr hx hb d_I_numberOfLeadingZeros_76 rfl ?_
          refine ct_topi (x' := nI (u / 256 / 4 / 2)) (pk_ushrN (by omega) _ 1 (by decide)) ?_
          refine lv_isub hx hb d_I_numberOfLeadingZeros_77 ?_
          refine ct_topi (x' := nI (32 - d)) (by rw [pk_sub (by omega)]; congr 1; have := nlz_u (c := 10) (v := u / 256 / 4) hd hlo (by simp only [Nat.div_div_eq_div_mul]) (by omega) (by omega); omega) ?_
          exact W.iret (v := nI (32 - d)) hx hb hr (fun t ht hW => ⟨_, rfl, rfl, ht⟩) (fun _ h => nomatch h) d_I_numberOfLeadingZeros_78
      · refine lv_icmp_lt (tgt := 61) hx hb d_I_numberOfLeadingZeros_51 (by decide) (fun c9 => absurd c9 (show ¬ nI (u / 256) < nI 16 from nI_nlt h51 (by omega))) (fun _ => ?_)
        refine lv_iinc (v := nI 19) (lv' := [(1, .int (nI 19)), (0, .int (nI (u / 256)))]) hx hb d_I_numberOfLeadingZeros_54 hl (k := 1) rfl (by decide) (by decide) rfl (fun ls hl => ?_)
        refine lv_iload_n hx hb d_I_numberOfLeadingZeros_57 rfl (lv_at hl 1 rfl) ?_
        refine lv_iconst (v := 4) hx hb d_I_numberOfLeadingZeros_58 (by decide) ?_
        refine lv_iushr hx hb d_I_numberOfLeadingZeros_59 rfl ?_
        refine ct_topi (x' := nI (u / 256 / 16)) (pk_ushrN (by omega) _ 4 (by decide)) ?_
        refine lv_istore_n (lv' := [(0, .int (nI (u / 256 / 16))), (1, .int (nI 19))]) hx hb d_I_numberOfLeadingZeros_60 rfl hl (by decide) rfl (fun ls hl => ?_)
        refine lv_iload_n hx hb d_I_numberOfLeadingZeros_61 rfl (lv_at hl 0 rfl) ?_
        refine lv_iconst (v := 4) hx hb d_I_numberOfLeadingZeros_62 (by decide) ?_
        rcases Nat.lt_or_ge (u / 256 / 16) 4 with h63 | h63
        · refine lv_icmp_lt (tgt := 73) hx hb d_I_numberOfLeadingZeros_63 (by decide) (fun _ => ?_) (fun c9 => absurd (show nI (u / 256 / 16) < nI 4 from nI_lt h63 (by decide)) c9)
          refine lv_iload_n hx hb d_I_numberOfLeadingZeros_73 rfl (lv_at hl 1 rfl) ?_
          refine lv_iload_n hx hb d_I_numberOfLeadingZeros_74 rfl (lv_at hl 0 rfl) ?_
          refine lv_iconst (v := 1) hx hb d_I_numberOfLeadingZeros_75 (by decide) ?_
          refine lv_iushr hx hb d_I_numberOfLeadingZeros_76 rfl ?_
          refine ct_topi (x' := nI (u / 256 / 16 / 2)) (pk_ushrN (by omega) _ 1 (by decide)) ?_
          refine lv_isub hx hb d_I_numberOfLeadingZeros_77 ?_
          refine ct_topi (x' := nI (32 - d)) (by rw [pk_sub (by omega)]; congr 1; have := nlz_u (c := 12) (v := u / 256 / 16) hd hlo (by simp only [Nat.div_div_eq_div_mul]) (by omega) (by omega); omega) ?_
          exact W.iret (v := nI (32 - d)) hx hb hr (fun t ht hW => ⟨_, rfl, rfl, ht⟩) (fun _ h => nomatch h) d_I_numberOfLeadingZeros_78
        · refine lv_icmp_lt (tgt := 73) hx hb d_I_numberOfLeadingZeros_63 (by decide) (fun c9 => absurd c9 (show ¬ nI (u / 256 / 16) < nI 4 from nI_nlt h63 (by omega))) (fun _ => ?_)
          refine lv_iinc (v := nI 17) (lv' := [(1, .int (nI 17)), (0, .int (nI (u / 256 / 16)))]) hx hb d_I_numberOfLeadingZeros_66 hl (k := 1) rfl (by decide) (by decide) rfl (fun ls hl => ?_)
          refine lv_iload_n hx hb d_I_numberOfLeadingZeros_69 rfl (lv_at hl 1 rfl) ?_
          refine lv_iconst (v := 2) hx hb d_I_numberOfLeadingZeros_70 (by decide) ?_
          refine lv_iushr hx hb d_I_numberOfLeadingZeros_71 rfl ?_
          refine ct_topi (x' := nI (u / 256 / 16 / 4)) (pk_ushrN (by omega) _ 2 (by decide)) ?_
          refine lv_istore_n (lv' := [(0, .int (nI (u / 256 / 16 / 4))), (1, .int (nI 17))]) hx hb d_I_numberOfLeadingZeros_72 rfl hl (by decide) rfl (fun ls hl => ?_)
          refine lv_iload_n hx hb d_I_numberOfLeadingZeros_73 rfl (lv_at hl 1 rfl) ?_
          refine lv_iload_n hx hb d_I_numberOfLeadingZeros_74 rfl (lv_at hl 0 rfl) ?_
          refine lv_iconst (v := 1) hx hb d_I_numberOfLeadingZeros_75 (by decide) ?_
          refine lv_iushr hx hb d_I_numberOfLeadingZeros_76 rfl ?_
          refine ct_topi (x' := nI (u / 256 / 16 / 4 / 2)) (pk_ushrN (by omega) _ 1 (by decide)) ?_
          refine lv_isub hx hb d_I_numberOfLeadingZeros_77 ?_
          refine ct_topi (x' := nI (32 - d)) (by rw [pk_sub (by omega)]; congr 1; have := nlz_u (c := 14) (v := u / 256 / 16 / 4) hd hlo (by simp only [Nat.div_div_eq_div_mul]) (by omega) (by omega); omega) ?_
          exact W.iret (v := nI (32 - d)) hx hb hr (fun t ht hW => ⟨_, rfl, rfl, ht⟩) (fun _ h => nomatch h) d_I_numberOfLeadingZeros_78
set_option maxHeartbeats 4000000 in
set_option maxRecDepth 100000 in
theorem m_I_hob {l : Launch} {D : va_G} {cI cJ cS cO : ClassId} {B0 : Nat}  : CM l D (tyL cI cJ cS cO) B0 y_I_highestOneBit c_I_highestOneBit 1 (some .int) (rmK 1 0 0) [.int 1000] (fun _ => True) (fun v H0 H1 => v = some (.int 512) ∧ H1 = H0) 0 0 (fun _ => False) := by
  refine cm_of (by decide) (Nat.le_of_ble_eq_true rfl) ?_
  intro p e s m below meth c ls hx hb hr hml hown hts hlocks hnm hE hpre hl
  have hown : s.vm.findClass "java/lang/Integer" = some m.cls := hown
  have hK := hE.1
  have hl : lv_has ls 1 [(0, .int 1000)] := hl
  have hS : va_S (fun _ => False) s.heap s.heap [] := va_S.rf
  have hAB : ∀ q : Nat, (fun _ : Nat => False) q → B0 ≤ q := fun _ h => h.elim
  refine lv_iload_n hx hb d_I_highestOneBit_0 rfl (lv_at hl 0 rfl) ?_
  refine lv_ldc (v := (-2147483648)) hx hb hown (hts _ x_354) d_I_highestOneBit_1 ?_
  refine lv_iload_n hx hb d_I_highestOneBit_3 rfl (lv_at hl 0 rfl) ?_
  refine cm_read (va_runS (As := [.int 1000]) (rest := [.int (-2147483648), .int 1000]) ⟨hx, hb, hml, hown, hts⟩ (m_I_nlz 1000 10 (by decide) (by decide) (by decide)) ⟨ct_cb 1 hts x_60 x_355 x_4 rfl rfl (by decide +kernel) ⟨by decide, by decide⟩, hts _ x_59⟩ ⟨st_blind, fun U hU hW => ⟨rfl, hE.at hS hAB hU hW, by rw [hU]; exact trivial⟩⟩ rfl rfl hl.1 rfl (lv_room (Nat.le_of_ble_eq_true rfl)) d_I_highestOneBit_4 ⟨by decide, by decide⟩) (fun v hv => ?_)
  subst hv
  refine W.eq (g2 := F0 m 7 ls [.int (nI 22), .int (-2147483648), .int 1000]) rfl ?_
  refine lv_iushr hx hb d_I_highestOneBit_7 rfl ?_
  refine lv_iand hx hb d_I_highestOneBit_8 ?_
  refine ct_topi (x' := 512) (by decide) ?_
  exact W.iret (v := 512) hx hb hr (fun t ht hW => ⟨_, rfl, rfl, ht⟩) (fun _ h => nomatch h) d_I_highestOneBit_9
set_option maxHeartbeats 4000000 in
set_option maxRecDepth 100000 in
theorem m_L_placeAbove_f {l : Launch} {D : va_G} {cI cJ cS cO : ClassId} {B0 : Nat} {a0 a1 a2 : Nat} {ja : Nat → Int64} {oa : Nat → Int32} {z : Int32} {t : Nat → Bool} {L : List Nat} (ok : LvOk t L ja oa z) (hL : L.length ≤ 1000) {q x : Nat} (hq : L[q]? = some x) (htx : t x = false) : CM l D (tyL cI cJ cS cO) B0 y_L_placeAbove c_L_placeAbove 8 (some .int) (rmK 3 0 0) [.ref a0, .int (nI (z0 t L q)), .int (nI L.length)] (fun H => va_P D vwCl (Lw cJ cS a0 a1 a2 ja oa z) H) (fun v H0 H1 => v = some (.int (nI q)) ∧ H1 = H0) 0 0 (fun _ => False) := by
  refine cm_of (by decide) (Nat.le_of_ble_eq_true rfl) ?_
  intro p e s m below meth c ls hx hb hr hml hown hts hlocks hnm hE hpre hl
  have hown : s.vm.findClass "LevelRows$Level" = some m.cls := hown
  have hK := hE.1
  have hl : lv_has ls 8 [(0, .ref a0), (1, .int (nI (z0 t L q))), (2, .int (nI L.length))] := hl
  have hP : va_P D vwCl [(a0, .inr (0, [.ref a1, .ref a2, .int z])), (a1, .inl (cJ, 16, .inr (.inl (ja)))), (a2, .inl (cS, 16, .inl (oa)))] s.heap := hpre
  have hS : va_S (fun _ => False) s.heap s.heap [] := va_S.rf
  have hAB : ∀ q : Nat, (fun _ : Nat => False) q → B0 ≤ q := fun _ h => h.elim
  have hql : q < L.length := (List.getElem?_eq_some_iff.mp hq).1
  have hza := z01 t (Nat.le_of_lt hql)
  have hzb := z01 t (Nat.le_refl L.length)
  refine lv_iload_n hx hb d_L_placeAbove_0 rfl (lv_at hl 1 rfl) ?_
  refine lv_aload_n hx hb d_L_placeAbove_1 rfl (lv_at hl 0 rfl) ?_
  refine va_get (D := D) (ci := 0) (v := .int z) (C := n_L) (T := f_L) (N := 3) hx hb hts in_L hown hK hP 0 rfl rfl 2 (by decide) (hts _ x_71) (fun _ h9 => h9) rfl d_L_placeAbove_2 ?_
  have hsd := lv_side hq htx
  refine lv_icmp_lt (tgt := 12) hx hb d_L_placeAbove_5 (by decide) (fun _ => ?_) (fun c9 => absurd (by rw [ok.2.2]; exact nI_lt hsd (by omega)) c9)
  refine lv_iconst (v := 0) hx hb d_L_placeAbove_12 (by decide) ?_
  refine lv_istore_n (lv' := [(3, .int 0), (0, .ref a0), (1, .int (nI (z0 t L q))), (2, .int (nI L.length))]) hx hb d_L_placeAbove_13 rfl hl (by decide) rfl (fun ls hl => ?_)
  refine lv_iload_n hx hb d_L_placeAbove_14 rfl (lv_at hl 0 rfl) ?_
  refine lv_if_eq (tgt := 27) hx hb d_L_placeAbove_15 (by decide) (fun _ => ?_) (fun c9 => absurd (rfl) c9)
  refine lv_iload_n hx hb d_L_placeAbove_27 rfl (lv_at hl 2 rfl) ?_
  refine lv_istore (lv' := [(4, .int (nI (z0 t L q))), (3, .int 0), (0, .ref a0), (1, .int (nI (z0 t L q))), (2, .int (nI L.length))]) hx hb d_L_placeAbove_28 hl (by decide) rfl (fun ls hl => ?_)
  refine lv_iconst (v := 0) hx hb d_L_placeAbove_30 (by decide) ?_
  refine lv_istore (lv' := [(5, .int 0), (4, .int (nI (z0 t L q))), (3, .int 0), (0, .ref a0), (1, .int (nI (z0 t L q))), (2, .int (nI L.length))]) hx hb d_L_placeAbove_31 hl (by decide) rfl (fun ls hl => ?_)
  refine lv_sipush (v := 1000) hx hb d_L_placeAbove_33 (by decide) ?_
  refine cm_read (va_runS (As := [.int 1000]) (rest := []) ⟨hx, hb, hml, hown, hts⟩ (m_I_hob) ⟨ct_cb 1 hts x_353 x_351 x_4 rfl rfl (by decide +kernel) ⟨by decide, by decide⟩, hts _ x_352⟩ ⟨st_blind, fun U hU hW => ⟨rfl, hE.at hS hAB hU hW, by rw [hU]; exact trivial⟩⟩ rfl rfl hl.1 rfl (lv_room (Nat.le_of_ble_eq_true rfl)) d_L_placeAbove_36 ⟨by decide, by decide⟩) (fun v hv => ?_)
  subst hv
  refine W.eq (g2 := F0 m 39 ls [.int 512]) rfl ?_
  refine lv_istore (lv' := [(6, .int 512), (5, .int 0), (4, .int (nI (z0 t L q))), (3, .int 0), (0, .ref a0), (1, .int (nI (z0 t L q))), (2, .int (nI L.length))]) hx hb d_L_placeAbove_39 hl (by decide) rfl (fun ls hl => ?_)
  have loop : ∀ (n found : Nat) (ls : Array Slot), n ≤ 10 → found ≤ q → q < found + 2 ^ n → lv_has ls 8 [(6, .int (nI (2 ^ n / 2))), (5, .int (nI found)), (0, .ref a0), (1, .int (nI (z0 t L q))), (2, .int (nI L.length)), (3, .int 0), (4, .int (nI (z0 t L q)))] → W p l e (rmK 3 0 0) s m [.ref a0, .int (nI (z0 t L q)), .int (nI L.length)].toArray below meth c s.heap [] (0) (0) (MQ below (stQ (fun v H0 H1 => v = some (.int (nI q)) ∧ H1 = H0)) [.ref a0, .int (nI (z0 t L q)), .int (nI L.length)].toArray s 0 0 (fun _ => False)) (F0 m 41 ls []) := by
    intro n
    induction n with
    | zero =>
      intro found ls hn hf1 hf2 hl
      have hfq : found = q := by omega
      subst hfq
      refine lv_iload hx hb d_L_placeAbove_41 (lv_at hl 0 rfl) ?_
      refine lv_if_le (tgt := 96) hx hb d_L_placeAbove_43 (by decide) (fun _ => ?_) (fun c9 => absurd (by decide) c9)
      refine lv_iload hx hb d_L_placeAbove_96 (lv_at hl 1 rfl) ?_
      exact W.iret (v := nI found) hx hb hr (fun t ht hW => ⟨_, rfl, rfl, ht⟩) (fun _ h => nomatch h) d_L_placeAbove_98
    | succ n ih =>
      intro found ls hn hf1 hf2 hl
      have hp : 2 ^ (n + 1) = 2 * 2 ^ n := by rw [Nat.pow_succ, Nat.mul_comm]
      have hp0 : 0 < 2 ^ n := Nat.pos_of_ne_zero (by simp)
      have hp9 : 2 ^ n ≤ 512 := show 2 ^ n ≤ 2 ^ 9 from Nat.pow_le_pow_right (by omega) (by omega)
      have hp2 : 2 ^ (n + 1) / 2 = 2 ^ n := by omega
      rw [hp2] at hl
      refine lv_iload hx hb d_L_placeAbove_41 (lv_at hl 0 rfl) ?_
      refine lv_if_le (tgt := 96) hx hb d_L_placeAbove_43 (by decide) (fun c9 => absurd c9 (nI_nle hp0 (by omega))) (fun _ => ?_)
      refine lv_iload hx hb d_L_placeAbove_46 (lv_at hl 1 rfl) ?_
      refine lv_iload hx hb d_L_placeAbove_48 (lv_at hl 0 rfl) ?_
      refine lv_iadd hx hb d_L_placeAbove_50 ?_
      refine ct_topi (x' := nI (found + 2 ^ n)) (nI_add _ _) ?_
      refine lv_istore (lv' := [(7, .int (nI (found + 2 ^ n))), (6, .int (nI (2 ^ n))), (5, .int (nI found)), (0, .ref a0), (1, .int (nI (z0 t L q))), (2, .int (nI L.length)), (3, .int 0), (4, .int (nI (z0 t L q)))]) hx hb d_L_placeAbove_51 hl (by decide) rfl (fun ls hl => ?_)
      refine lv_iload hx hb d_L_placeAbove_53 (lv_at hl 0 rfl) ?_
      refine lv_iload_n hx hb d_L_placeAbove_55 rfl (lv_at hl 5 rfl) ?_
      rcases Nat.lt_or_ge q (found + 2 ^ n) with hc | hc
      · rcases Nat.lt_or_ge L.length (found + 2 ^ n) with hd | hd
        · refine lv_icmp_gt (tgt := 87) hx hb d_L_placeAbove_56 (by decide) (fun _ => ?_) (fun c9 => absurd (nI_lt hd (by omega)) c9)
          refine lv_iload hx hb d_L_placeAbove_87 (lv_at hl 1 rfl) ?_
          refine lv_iconst (v := 2) hx hb d_L_placeAbove_89 (by decide) ?_
          refine lv_idiv hx hb d_L_placeAbove_90 (by decide) ?_
          refine ct_topi (x' := nI (2 ^ n / 2)) (pk_div (d := 2) (by omega) (by decide) (by decide)) ?_
          refine lv_istore (lv' := [(6, .int (nI (2 ^ n / 2))), (7, .int (nI (found + 2 ^ n))), (5, .int (nI found)), (0, .ref a0), (1, .int (nI (z0 t L q))), (2, .int (nI L.length)), (3, .int 0), (4, .int (nI (z0 t L q)))]) hx hb d_L_placeAbove_91 hl (by decide) rfl (fun ls hl => ?_)
          refine lv_goto (tgt := 41) hx hb d_L_placeAbove_93 (by decide) ?_
          exact ih (found) ls (by omega) (by omega) (by omega) (lv_sub hl [0, 2, 3, 4, 5, 6, 7] rfl)
        · refine lv_icmp_gt (tgt := 87) hx hb d_L_placeAbove_56 (by decide) (fun c9 => absurd c9 (nI_nlt (by omega) (by omega))) (fun _ => ?_)
          refine lv_iload_n hx hb d_L_placeAbove_59 rfl (lv_at hl 6 rfl) ?_
          refine lv_if_eq (tgt := 72) hx hb d_L_placeAbove_60 (by decide) (fun _ => ?_) (fun c9 => absurd (rfl) c9)
          refine lv_aload_n hx hb d_L_placeAbove_72 rfl (lv_at hl 3 rfl) ?_
          refine lv_iload hx hb d_L_placeAbove_73 (lv_at hl 0 rfl) ?_
          refine cm_read (va_runV (As := [.int (nI (found + 2 ^ n))]) (rest := []) ⟨hx, hb, hml, hown, hts⟩ (m_L_zerosTo ok hL (found + 2 ^ n) (by omega)) ⟨ct_cb 1 hts x_132 x_129 x_5 rfl rfl (by decide +kernel) ⟨by decide, by decide⟩, hts _ x_130, hts _ x_131⟩ ⟨st_blind, va_recv hK hP (ci := 0) (q0 := 0) rfl rfl, fun U hU hW => ⟨rfl, hE.at hS hAB hU hW, by rw [hU]; exact hpre⟩⟩ rfl rfl hl.1 rfl (lv_room (Nat.le_of_ble_eq_true rfl)) d_L_placeAbove_75 ⟨by decide, by decide⟩) (fun v hv => ?_)
          subst hv
          refine W.eq (g2 := F0 m 78 ls [.int (nI (z0 t L (found + 2 ^ n)))]) rfl ?_
          refine lv_iload hx hb d_L_placeAbove_78 (lv_at hl 7 rfl) ?_
          have hab := lv_above0 (i := found + 2 ^ n) hq htx (by omega)
          have hz9 := z0_le t L (found + 2 ^ n)
          have hz8 := z0_le t L q
          refine lv_icmp_gt (tgt := 87) hx hb d_L_placeAbove_80 (by decide) (fun _ => ?_) (fun c9 => absurd (nI_lt (by omega) (by omega)) c9)
          refine lv_iload hx hb d_L_placeAbove_87 (lv_at hl 1 rfl) ?_
          refine lv_iconst (v := 2) hx hb d_L_placeAbove_89 (by decide) ?_
          refine lv_idiv hx hb d_L_placeAbove_90 (by decide) ?_
          refine ct_topi (x' := nI (2 ^ n / 2)) (pk_div (d := 2) (by omega) (by decide) (by decide)) ?_
          refine lv_istore (lv' := [(6, .int (nI (2 ^ n / 2))), (7, .int (nI (found + 2 ^ n))), (5, .int (nI found)), (0, .ref a0), (1, .int (nI (z0 t L q))), (2, .int (nI L.length)), (3, .int 0), (4, .int (nI (z0 t L q)))]) hx hb d_L_placeAbove_91 hl (by decide) rfl (fun ls hl => ?_)
          refine lv_goto (tgt := 41) hx hb d_L_placeAbove_93 (by decide) ?_
          exact ih (found) ls (by omega) (by omega) (by omega) (lv_sub hl [0, 2, 3, 4, 5, 6, 7] rfl)
      · refine lv_icmp_gt (tgt := 87) hx hb d_L_placeAbove_56 (by decide) (fun c9 => absurd c9 (nI_nlt (by omega) (by omega))) (fun _ => ?_)
        refine lv_iload_n hx hb d_L_placeAbove_59 rfl (lv_at hl 6 rfl) ?_
        refine lv_if_eq (tgt := 72) hx hb d_L_placeAbove_60 (by decide) (fun _ => ?_) (fun c9 => absurd (rfl) c9)
        refine lv_aload_n hx hb d_L_placeAbove_72 rfl (lv_at hl 3 rfl) ?_
        refine lv_iload hx hb d_L_placeAbove_73 (lv_at hl 0 rfl) ?_
        refine cm_read (va_runV (As := [.int (nI (found + 2 ^ n))]) (rest := []) ⟨hx, hb, hml, hown, hts⟩ (m_L_zerosTo ok hL (found + 2 ^ n) (by omega)) ⟨ct_cb 1 hts x_132 x_129 x_5 rfl rfl (by decide +kernel) ⟨by decide, by decide⟩, hts _ x_130, hts _ x_131⟩ ⟨st_blind, va_recv hK hP (ci := 0) (q0 := 0) rfl rfl, fun U hU hW => ⟨rfl, hE.at hS hAB hU hW, by rw [hU]; exact hpre⟩⟩ rfl rfl hl.1 rfl (lv_room (Nat.le_of_ble_eq_true rfl)) d_L_placeAbove_75 ⟨by decide, by decide⟩) (fun v hv => ?_)
        subst hv
        refine W.eq (g2 := F0 m 78 ls [.int (nI (z0 t L (found + 2 ^ n)))]) rfl ?_
        refine lv_iload hx hb d_L_placeAbove_78 (lv_at hl 7 rfl) ?_
        have hab := lv_above0 (i := found + 2 ^ n) hq htx (by omega)
        have hz9 := z0_le t L (found + 2 ^ n)
        have hz8 := z0_le t L q
        refine lv_icmp_gt (tgt := 87) hx hb d_L_placeAbove_80 (by decide) (fun c9 => absurd c9 (nI_nlt (by omega) (by omega))) (fun _ => ?_)
        refine lv_iload hx hb d_L_placeAbove_83 (lv_at hl 0 rfl) ?_
        refine lv_istore (lv' := [(5, .int (nI (found + 2 ^ n))), (7, .int (nI (found + 2 ^ n))), (6, .int (nI (2 ^ n))), (0, .ref a0), (1, .int (nI (z0 t L q))), (2, .int (nI L.length)), (3, .int 0), (4, .int (nI (z0 t L q)))]) hx hb d_L_placeAbove_85 hl (by decide) rfl (fun ls hl => ?_)
        refine lv_iload hx hb d_L_placeAbove_87 (lv_at hl 2 rfl) ?_
        refine lv_iconst (v := 2) hx hb d_L_placeAbove_89 (by decide) ?_
        refine lv_idiv hx hb d_L_placeAbove_90 (by decide) ?_
        refine ct_topi (x' := nI (2 ^ n / 2)) (pk_div (d := 2) (by omega) (by decide) (by decide)) ?_
        refine lv_istore (lv' := [(6, .int (nI (2 ^ n / 2))), (5, .int (nI (found + 2 ^ n))), (7, .int (nI (found + 2 ^ n))), (0, .ref a0), (1, .int (nI (z0 t L q))), (2, .int (nI L.length)), (3, .int 0), (4, .int (nI (z0 t L q)))]) hx hb d_L_placeAbove_91 hl (by decide) rfl (fun ls hl => ?_)
        refine lv_goto (tgt := 41) hx hb d_L_placeAbove_93 (by decide) ?_
        exact ih (found + 2 ^ n) ls (by omega) (by omega) (by omega) (lv_sub hl [0, 1, 3, 4, 5, 6, 7] rfl)
  exact loop 10 0 ls (by omega) (by omega) (by omega) (lv_sub hl [0, 1, 4, 5, 6, 3, 2] rfl)
set_option maxHeartbeats 4000000 in
set_option maxRecDepth 100000 in
theorem m_L_placeAbove_t {l : Launch} {D : va_G} {cI cJ cS cO : ClassId} {B0 : Nat} {a0 a1 a2 : Nat} {ja : Nat → Int64} {oa : Nat → Int32} {z : Int32} {t : Nat → Bool} {L : List Nat} (ok : LvOk t L ja oa z) (hL : L.length ≤ 1000) {q x : Nat} (hq : L[q]? = some x) (htx : t x = true) : CM l D (tyL cI cJ cS cO) B0 y_L_placeAbove c_L_placeAbove 8 (some .int) (rmK 3 0 0) [.ref a0, .int (nI (z0 t L L.length + z1 t L q)), .int (nI L.length)] (fun H => va_P D vwCl (Lw cJ cS a0 a1 a2 ja oa z) H) (fun v H0 H1 => v = some (.int (nI q)) ∧ H1 = H0) 0 0 (fun _ => False) := by
  refine cm_of (by decide) (Nat.le_of_ble_eq_true rfl) ?_
  intro p e s m below meth c ls hx hb hr hml hown hts hlocks hnm hE hpre hl
  have hown : s.vm.findClass "LevelRows$Level" = some m.cls := hown
  have hK := hE.1
  have hl : lv_has ls 8 [(0, .ref a0), (1, .int (nI (z0 t L L.length + z1 t L q))), (2, .int (nI L.length))] := hl
  have hP : va_P D vwCl [(a0, .inr (0, [.ref a1, .ref a2, .int z])), (a1, .inl (cJ, 16, .inr (.inl (ja)))), (a2, .inl (cS, 16, .inl (oa)))] s.heap := hpre
  have hS : va_S (fun _ => False) s.heap s.heap [] := va_S.rf
  have hAB : ∀ q : Nat, (fun _ : Nat => False) q → B0 ≤ q := fun _ h => h.elim
  have hql : q < L.length := (List.getElem?_eq_some_iff.mp hq).1
  have hza := z01 t (Nat.le_of_lt hql)
  have hzb := z01 t (Nat.le_refl L.length)
  refine lv_iload_n hx hb d_L_placeAbove_0 rfl (lv_at hl 1 rfl) ?_
  refine lv_aload_n hx hb d_L_placeAbove_1 rfl (lv_at hl 0 rfl) ?_
  refine va_get (D := D) (ci := 0) (v := .int z) (C := n_L) (T := f_L) (N := 3) hx hb hts in_L hown hK hP 0 rfl rfl 2 (by decide) (hts _ x_71) (fun _ h9 => h9) rfl d_L_placeAbove_2 ?_
  refine lv_icmp_lt (tgt := 12) hx hb d_L_placeAbove_5 (by decide) (fun c9 => absurd c9 (by rw [ok.2.2]; exact nI_nlt (by omega) (by omega))) (fun _ => ?_)
  refine lv_iconst (v := 1) hx hb d_L_placeAbove_8 (by decide) ?_
  refine lv_goto (tgt := 13) hx hb d_L_placeAbove_9 (by decide) ?_
  refine lv_istore_n (lv' := [(3, .int 1), (0, .ref a0), (1, .int (nI (z0 t L L.length + z1 t L q))), (2, .int (nI L.length))]) hx hb d_L_placeAbove_13 rfl hl (by decide) rfl (fun ls hl => ?_)
  refine lv_iload_n hx hb d_L_placeAbove_14 rfl (lv_at hl 0 rfl) ?_
  refine lv_if_eq (tgt := 27) hx hb d_L_placeAbove_15 (by decide) (fun c9 => absurd c9 (by decide)) (fun _ => ?_)
  refine lv_iload_n hx hb d_L_placeAbove_18 rfl (lv_at hl 2 rfl) ?_
  refine lv_aload_n hx hb d_L_placeAbove_19 rfl (lv_at hl 1 rfl) ?_
  refine va_get (D := D) (ci := 0) (v := .int z) (C := n_L) (T := f_L) (N := 3) hx hb hts in_L hown hK hP 0 rfl rfl 2 (by decide) (hts _ x_71) (fun _ h9 => h9) rfl d_L_placeAbove_20 ?_
  refine lv_isub hx hb d_L_placeAbove_23 ?_
  refine ct_topi (x' := nI (z1 t L q)) (by rw [ok.2.2, pk_sub (by omega)]; congr 1; omega) ?_
  refine lv_goto (tgt := 28) hx hb d_L_placeAbove_24 (by decide) ?_
  refine lv_istore (lv' := [(4, .int (nI (z1 t L q))), (3, .int 1), (0, .ref a0), (1, .int (nI (z0 t L L.length + z1 t L q))), (2, .int (nI L.length))]) hx hb d_L_placeAbove_28 hl (by decide) rfl (fun ls hl => ?_)
  refine lv_iconst (v := 0) hx hb d_L_placeAbove_30 (by decide) ?_
  refine lv_istore (lv' := [(5, .int 0), (4, .int (nI (z1 t L q))), (3, .int 1), (0, .ref a0), (1, .int (nI (z0 t L L.length + z1 t L q))), (2, .int (nI L.length))]) hx hb d_L_placeAbove_31 hl (by decide) rfl (fun ls hl => ?_)
  refine lv_sipush (v := 1000) hx hb d_L_placeAbove_33 (by decide) ?_
  refine cm_read (va_runS (As := [.int 1000]) (rest := []) ⟨hx, hb, hml, hown, hts⟩ (m_I_hob) ⟨ct_cb 1 hts x_353 x_351 x_4 rfl rfl (by decide +kernel) ⟨by decide, by decide⟩, hts _ x_352⟩ ⟨st_blind, fun U hU hW => ⟨rfl, hE.at hS hAB hU hW, by rw [hU]; exact trivial⟩⟩ rfl rfl hl.1 rfl (lv_room (Nat.le_of_ble_eq_true rfl)) d_L_placeAbove_36 ⟨by decide, by decide⟩) (fun v hv => ?_)
  subst hv
  refine W.eq (g2 := F0 m 39 ls [.int 512]) rfl ?_
  refine lv_istore (lv' := [(6, .int 512), (5, .int 0), (4, .int (nI (z1 t L q))), (3, .int 1), (0, .ref a0), (1, .int (nI (z0 t L L.length + z1 t L q))), (2, .int (nI L.length))]) hx hb d_L_placeAbove_39 hl (by decide) rfl (fun ls hl => ?_)
  have loop : ∀ (n found : Nat) (ls : Array Slot), n ≤ 10 → found ≤ q → q < found + 2 ^ n → lv_has ls 8 [(6, .int (nI (2 ^ n / 2))), (5, .int (nI found)), (0, .ref a0), (1, .int (nI (z0 t L L.length + z1 t L q))), (2, .int (nI L.length)), (3, .int 1), (4, .int (nI (z1 t L q)))] → W p l e (rmK 3 0 0) s m [.ref a0, .int (nI (z0 t L L.length + z1 t L q)), .int (nI L.length)].toArray below meth c s.heap [] (0) (0) (MQ below (stQ (fun v H0 H1 => v = some (.int (nI q)) ∧ H1 = H0)) [.ref a0, .int (nI (z0 t L L.length + z1 t L q)), .int (nI L.length)].toArray s 0 0 (fun _ => False)) (F0 m 41 ls []) := by
    intro n
    induction n with
    | zero =>
      intro found ls hn hf1 hf2 hl
      have hfq : found = q := by omega
      subst hfq
      refine lv_iload hx hb d_L_placeAbove_41 (lv_at hl 0 rfl) ?_
      refine lv_if_le (tgt := 96) hx hb d_L_placeAbove_43 (by decide) (fun _ => ?_) (fun c9 => absurd (by decide) c9)
      refine lv_iload hx hb d_L_placeAbove_96 (lv_at hl 1 rfl) ?_
      exact W.iret (v := nI found) hx hb hr (fun t ht hW => ⟨_, rfl, rfl, ht⟩) (fun _ h => nomatch h) d_L_placeAbove_98
    | succ n ih =>
      intro found ls hn hf1 hf2 hl
      have hp : 2 ^ (n + 1) = 2 * 2 ^ n := by rw [Nat.pow_succ, Nat.mul_comm]
      have hp0 : 0 < 2 ^ n := Nat.pos_of_ne_zero (by simp)
      have hp9 : 2 ^ n ≤ 512 := show 2 ^ n ≤ 2 ^ 9 from Nat.pow_le_pow_right (by omega) (by omega)
      have hp2 : 2 ^ (n + 1) / 2 = 2 ^ n := by omega
      rw [hp2] at hl
      refine lv_iload hx hb d_L_placeAbove_41 (lv_at hl 0 rfl) ?_
      refine lv_if_le (tgt := 96) hx hb d_L_placeAbove_43 (by decide) (fun c9 => absurd c9 (nI_nle hp0 (by omega))) (fun _ => ?_)
      refine lv_iload hx hb d_L_placeAbove_46 (lv_at hl 1 rfl) ?_
      refine lv_iload hx hb d_L_placeAbove_48 (lv_at hl 0 rfl) ?_
      refine lv_iadd hx hb d_L_placeAbove_50 ?_
      refine ct_topi (x' := nI (found + 2 ^ n)) (nI_add _ _) ?_
      refine lv_istore (lv' := [(7, .int (nI (found + 2 ^ n))), (6, .int (nI (2 ^ n))), (5, .int (nI found)), (0, .ref a0), (1, .int (nI (z0 t L L.length + z1 t L q))), (2, .int (nI L.length)), (3, .int 1), (4, .int (nI (z1 t L q)))]) hx hb d_L_placeAbove_51 hl (by decide) rfl (fun ls hl => ?_)
      refine lv_iload hx hb d_L_placeAbove_53 (lv_at hl 0 rfl) ?_
      refine lv_iload_n hx hb d_L_placeAbove_55 rfl (lv_at hl 5 rfl) ?_
      rcases Nat.lt_or_ge q (found + 2 ^ n) with hc | hc
      · rcases Nat.lt_or_ge L.length (found + 2 ^ n) with hd | hd
        · refine lv_icmp_gt (tgt := 87) hx hb d_L_placeAbove_56 (by decide) (fun _ => ?_) (fun c9 => absurd (nI_lt hd (by omega)) c9)
          refine lv_iload hx hb d_L_placeAbove_87 (lv_at hl 1 rfl) ?_
          refine lv_iconst (v := 2) hx hb d_L_placeAbove_89 (by decide) ?_
          refine lv_idiv hx hb d_L_placeAbove_90 (by decide) ?_
          refine ct_topi (x' := nI (2 ^ n / 2)) (pk_div (d := 2) (by omega) (by decide) (by decide)) ?_
          refine lv_istore (lv' := [(6, .int (nI (2 ^ n / 2))), (7, .int (nI (found + 2 ^ n))), (5, .int (nI found)), (0, .ref a0), (1, .int (nI (z0 t L L.length + z1 t L q))), (2, .int (nI L.length)), (3, .int 1), (4, .int (nI (z1 t L q)))]) hx hb d_L_placeAbove_91 hl (by decide) rfl (fun ls hl => ?_)
          refine lv_goto (tgt := 41) hx hb d_L_placeAbove_93 (by decide) ?_
          exact ih (found) ls (by omega) (by omega) (by omega) (lv_sub hl [0, 2, 3, 4, 5, 6, 7] rfl)
        · refine lv_icmp_gt (tgt := 87) hx hb d_L_placeAbove_56 (by decide) (fun c9 => absurd c9 (nI_nlt (by omega) (by omega))) (fun _ => ?_)
          refine lv_iload_n hx hb d_L_placeAbove_59 rfl (lv_at hl 6 rfl) ?_
          refine lv_if_eq (tgt := 72) hx hb d_L_placeAbove_60 (by decide) (fun c9 => absurd c9 (by decide)) (fun _ => ?_)
          refine lv_aload_n hx hb d_L_placeAbove_63 rfl (lv_at hl 3 rfl) ?_
          refine lv_iload hx hb d_L_placeAbove_64 (lv_at hl 0 rfl) ?_
          refine cm_read (va_runV (As := [.int (nI (found + 2 ^ n))]) (rest := []) ⟨hx, hb, hml, hown, hts⟩ (m_L_onesTo ok hL (found + 2 ^ n) (by omega)) ⟨ct_cb 1 hts x_136 x_133 x_5 rfl rfl (by decide +kernel) ⟨by decide, by decide⟩, hts _ x_135, hts _ s_L_onesTo⟩ ⟨st_blind, va_recv hK hP (ci := 0) (q0 := 0) rfl rfl, fun U hU hW => ⟨rfl, hE.at hS hAB hU hW, by rw [hU]; exact hpre⟩⟩ rfl rfl hl.1 rfl (lv_room (Nat.le_of_ble_eq_true rfl)) d_L_placeAbove_66 ⟨by decide, by decide⟩) (fun v hv => ?_)
          subst hv
          refine W.eq (g2 := F0 m 69 ls [.int (nI (z1 t L (found + 2 ^ n)))]) rfl ?_
          refine lv_goto (tgt := 78) hx hb d_L_placeAbove_69 (by decide) ?_
          refine lv_iload hx hb d_L_placeAbove_78 (lv_at hl 7 rfl) ?_
          have hab := lv_above1 (i := found + 2 ^ n) hq htx (by omega)
          have hz9 := z1_le t L (found + 2 ^ n)
          have hz8 := z1_le t L q
          refine lv_icmp_gt (tgt := 87) hx hb d_L_placeAbove_80 (by decide) (fun _ => ?_) (fun c9 => absurd (nI_lt (by omega) (by omega)) c9)
          refine lv_iload hx hb d_L_placeAbove_87 (lv_at hl 1 rfl) ?_
          refine lv_iconst (v := 2) hx hb d_L_placeAbove_89 (by decide) ?_
          refine lv_idiv hx hb d_L_placeAbove_90 (by decide) ?_
          refine ct_topi (x' := nI (2 ^ n / 2)) (pk_div (d := 2) (by omega) (by decide) (by decide)) ?_
          refine lv_istore (lv' := [(6, .int (nI (2 ^ n / 2))), (7, .int (nI (found + 2 ^ n))), (5, .int (nI found)), (0, .ref a0), (1, .int (nI (z0 t L L.length + z1 t L q))), (2, .int (nI L.length)), (3, .int 1), (4, .int (nI (z1 t L q)))]) hx hb d_L_placeAbove_91 hl (by decide) rfl (fun ls hl => ?_)
          refine lv_goto (tgt := 41) hx hb d_L_placeAbove_93 (by decide) ?_
          exact ih (found) ls (by omega) (by omega) (by omega) (lv_sub hl [0, 2, 3, 4, 5, 6, 7] rfl)
      · refine lv_icmp_gt (tgt := 87) hx hb d_L_placeAbove_56 (by decide) (fun c9 => absurd c9 (nI_nlt (by omega) (by omega))) (fun _ => ?_)
        refine lv_iload_n hx hb d_L_placeAbove_59 rfl (lv_at hl 6 rfl) ?_
        refine lv_if_eq (tgt := 72) hx hb d_L_placeAbove_60 (by decide) (fun c9 => absurd c9 (by decide)) (fun _ => ?_)
        refine lv_aload_n hx hb d_L_placeAbove_63 rfl (lv_at hl 3 rfl) ?_
        refine lv_iload hx hb d_L_placeAbove_64 (lv_at hl 0 rfl) ?_
        refine cm_read (va_runV (As := [.int (nI (found + 2 ^ n))]) (rest := []) ⟨hx, hb, hml, hown, hts⟩ (m_L_onesTo ok hL (found + 2 ^ n) (by omega)) ⟨ct_cb 1 hts x_136 x_133 x_5 rfl rfl (by decide +kernel) ⟨by decide, by decide⟩, hts _ x_135, hts _ s_L_onesTo⟩ ⟨st_blind, va_recv hK hP (ci := 0) (q0 := 0) rfl rfl, fun U hU hW => ⟨rfl, hE.at hS hAB hU hW, by rw [hU]; exact hpre⟩⟩ rfl rfl hl.1 rfl (lv_room (Nat.le_of_ble_eq_true rfl)) d_L_placeAbove_66 ⟨by decide, by decide⟩) (fun v hv => ?_)
        subst hv
        refine W.eq (g2 := F0 m 69 ls [.int (nI (z1 t L (found + 2 ^ n)))]) rfl ?_
        refine lv_goto (tgt := 78) hx hb d_L_placeAbove_69 (by decide) ?_
        refine lv_iload hx hb d_L_placeAbove_78 (lv_at hl 7 rfl) ?_
        have hab := lv_above1 (i := found + 2 ^ n) hq htx (by omega)
        have hz9 := z1_le t L (found + 2 ^ n)
        have hz8 := z1_le t L q
        refine lv_icmp_gt (tgt := 87) hx hb d_L_placeAbove_80 (by decide) (fun c9 => absurd c9 (nI_nlt (by omega) (by omega))) (fun _ => ?_)
        refine lv_iload hx hb d_L_placeAbove_83 (lv_at hl 0 rfl) ?_
        refine lv_istore (lv' := [(5, .int (nI (found + 2 ^ n))), (7, .int (nI (found + 2 ^ n))), (6, .int (nI (2 ^ n))), (0, .ref a0), (1, .int (nI (z0 t L L.length + z1 t L q))), (2, .int (nI L.length)), (3, .int 1), (4, .int (nI (z1 t L q)))]) hx hb d_L_placeAbove_85 hl (by decide) rfl (fun ls hl => ?_)
        refine lv_iload hx hb d_L_placeAbove_87 (lv_at hl 2 rfl) ?_
        refine lv_iconst (v := 2) hx hb d_L_placeAbove_89 (by decide) ?_
        refine lv_idiv hx hb d_L_placeAbove_90 (by decide) ?_
        refine ct_topi (x' := nI (2 ^ n / 2)) (pk_div (d := 2) (by omega) (by decide) (by decide)) ?_
        refine lv_istore (lv' := [(6, .int (nI (2 ^ n / 2))), (5, .int (nI (found + 2 ^ n))), (7, .int (nI (found + 2 ^ n))), (0, .ref a0), (1, .int (nI (z0 t L L.length + z1 t L q))), (2, .int (nI L.length)), (3, .int 1), (4, .int (nI (z1 t L q)))]) hx hb d_L_placeAbove_91 hl (by decide) rfl (fun ls hl => ?_)
        refine lv_goto (tgt := 41) hx hb d_L_placeAbove_93 (by decide) ?_
        exact ih (found + 2 ^ n) ls (by omega) (by omega) (by omega) (lv_sub hl [0, 1, 3, 4, 5, 6, 7] rfl)
  exact loop 10 0 ls (by omega) (by omega) (by omega) (lv_sub hl [0, 1, 4, 5, 6, 3, 2] rfl)
