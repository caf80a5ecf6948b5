/-! THE REFERENCE: lengths, bytes of files, titles -/
theorem zAt.k0 {μ : zM} {k : Int} {bs : List Int} (h : zAt μ k bs) (hB : zisB (some bs)) : 1 ≤ bs.length ∧ zknd (some bs) = zp_byte (some bs) 0 ∧ (0 ≤ zknd (some bs) ∧ zknd (some bs) ≤ 3) := by
  refine ⟨?_, rfl, ?_⟩
  · rcases hB.sh with q | q | q | q <;> omega
  · rcases hB.sh with q | q | q | q <;> omega
theorem zAt.sum {μ : zM} {k : Int} {bs : List Int} (h : zAt μ k bs) {n : Nat} (hn : 2 + 4 * n ≤ bs.length) : 0 ≤ zsum (zpsz (some bs)) n ∧ zsum (zpsz (some bs)) n ≤ 65535 * n := by
  induction n with
  | zero => simp [zsum]
  | succ n ih =>
    have a := h.pr (i := 2 + 4 * n) (by omega) (by omega)
    have e8 : zpsz (some bs) n = zp_pair (some bs) (2 + 4 * n) := by unfold zpsz; congr 1; omega
    have := ih (by omega)
    simp only [zsum]
    omega
set_option maxRecDepth 100000 in
set_option maxHeartbeats 4000000 in
theorem c_X11_lengthOf {d : Nat} {μ : zM} {k : Int} {bs : List Int} (hd : 2 ≤ d) (h : zAt μ k bs) (hB : zisB (some bs)) : zCt d mX11_lengthOf [.inr (some 56), .inl k] μ (zR (.inl (zlen (some bs))) μ) := by
  have hk := h.1
  have h18 := h.2.2.1
  obtain ⟨z1, z2, z3⟩ := h.k0 hB
  have hsh := hB.sh
  obtain ⟨o, ho⟩ : ∃ o, o = some bs := ⟨_, rfl⟩
  refine of_X11_lengthOf (by omega) (fun G hG => s_X11_lengthOf_0 hG ?_)
  simp only [b_X11_lengthOf_0, b_X11_lengthOf_9, b_X11_lengthOf_18, b_X11_lengthOf_28, b_X11_lengthOf_30, b_X11_lengthOf_34, b_X11_lengthOf_44, b_X11_lengthOf_63, o_c, o_il, o_al, o_is, o_as, o_inc, o_add, o_sub, o_mul, o_and, o_or, o_xor, o_shl, o_shr, o_ush, o_rem, o_dup, o_dup2, o_gf, o_pf, o_pz, o_iald, o_iast, o_zald, o_zast, o_aald, o_gs, o_min, o_acp, o_call, o_callv, zgf, zpf, zia_, zza_, zra_, zrd_, zcp_, zpop, zsm8_0, zsm8_1, zsm8_2, zsm8_3, zsm8_4, zsm8_5, zrc, zisob, t_ieq, t_ilt, t_igt, t_zeq, t_zlt, t_zgt, t_sw, zsw, t_iret, t_zret, t_aret, t_vret, zrg, List.getElem?_cons_zero, List.getElem?_cons_succ, List.set_cons_zero, List.set_cons_succ, List.length_cons, List.length_nil, Option.toList_some, Option.toList_none, List.nil_append, List.cons_append, true_and, and_true, true_or, or_true, Int.cast_ofNat_Int, Int.natCast_zero, Int.natCast_one, zsh_56, zsh_57, zsh_58, zsh_59, zsh_60, zsh_61, zsh_62, zsh_63, zsh_64, zsh_65, zsh_66, zsh_67, zsh_68, zsh_69, zsh_70, zsh_71, zsh_72, zsh_73, zsh_74, zsh_75, zsh_76, zsh_77, zsh_78, zsh_79, zsh_80, zsh_81, zsh_82, zsh_83, zsh_84, zsh_85, zsh_86, zsh_87, zup_ne, zup_eq, zup_nf, ne_eq, not_false_eq_true]
  refine zcall (c_X11_cell h (i := 0) (by omega) (by omega)) ?_
  simp only [b_X11_lengthOf_0, b_X11_lengthOf_9, b_X11_lengthOf_18, b_X11_lengthOf_28, b_X11_lengthOf_30, b_X11_lengthOf_34, b_X11_lengthOf_44, b_X11_lengthOf_63, o_c, o_il, o_al, o_is, o_as, o_inc, o_add, o_sub, o_mul, o_and, o_or, o_xor, o_shl, o_shr, o_ush, o_rem, o_dup, o_dup2, o_gf, o_pf, o_pz, o_iald, o_iast, o_zald, o_zast, o_aald, o_gs, o_min, o_acp, o_call, o_callv, zgf, zpf, zia_, zza_, zra_, zrd_, zcp_, zpop, zsm8_0, zsm8_1, zsm8_2, zsm8_3, zsm8_4, zsm8_5, zrc, zisob, t_ieq, t_ilt, t_igt, t_zeq, t_zlt, t_zgt, t_sw, zsw, t_iret, t_zret, t_aret, t_vret, zrg, List.getElem?_cons_zero, List.getElem?_cons_succ, List.set_cons_zero, List.set_cons_succ, List.length_cons, List.length_nil, Option.toList_some, Option.toList_none, List.nil_append, List.cons_append, true_and, and_true, true_or, or_true, Int.cast_ofNat_Int, Int.natCast_zero, Int.natCast_one, zsh_56, zsh_57, zsh_58, zsh_59, zsh_60, zsh_61, zsh_62, zsh_63, zsh_64, zsh_65, zsh_66, zsh_67, zsh_68, zsh_69, zsh_70, zsh_71, zsh_72, zsh_73, zsh_74, zsh_75, zsh_76, zsh_77, zsh_78, zsh_79, zsh_80, zsh_81, zsh_82, zsh_83, zsh_84, zsh_85, zsh_86, zsh_87, zup_ne, zup_eq, zup_nf, ne_eq, not_false_eq_true]
  rw [← z2]
  refine ⟨by omega, fun w => ?_, fun w => ?_⟩
  · rw [h.2.1]
    have e : zlen (some bs) = (bs.length : Int) - 1 := by unfold zlen; rw [if_pos w]; rfl
    rw [e]
    exact ⟨by omega, rfl, rfl⟩
  · refine zcall (c_X11_cell h (i := 0) (by omega) (by omega)) ?_
    simp only [b_X11_lengthOf_0, b_X11_lengthOf_9, b_X11_lengthOf_18, b_X11_lengthOf_28, b_X11_lengthOf_30, b_X11_lengthOf_34, b_X11_lengthOf_44, b_X11_lengthOf_63, o_c, o_il, o_al, o_is, o_as, o_inc, o_add, o_sub, o_mul, o_and, o_or, o_xor, o_shl, o_shr, o_ush, o_rem, o_dup, o_dup2, o_gf, o_pf, o_pz, o_iald, o_iast, o_zald, o_zast, o_aald, o_gs, o_min, o_acp, o_call, o_callv, zgf, zpf, zia_, zza_, zra_, zrd_, zcp_, zpop, zsm8_0, zsm8_1, zsm8_2, zsm8_3, zsm8_4, zsm8_5, zrc, zisob, t_ieq, t_ilt, t_igt, t_zeq, t_zlt, t_zgt, t_sw, zsw, t_iret, t_zret, t_aret, t_vret, zrg, List.getElem?_cons_zero, List.getElem?_cons_succ, List.set_cons_zero, List.set_cons_succ, List.length_cons, List.length_nil, Option.toList_some, Option.toList_none, List.nil_append, List.cons_append, true_and, and_true, true_or, or_true, Int.cast_ofNat_Int, Int.natCast_zero, Int.natCast_one, zsh_56, zsh_57, zsh_58, zsh_59, zsh_60, zsh_61, zsh_62, zsh_63, zsh_64, zsh_65, zsh_66, zsh_67, zsh_68, zsh_69, zsh_70, zsh_71, zsh_72, zsh_73, zsh_74, zsh_75, zsh_76, zsh_77, zsh_78, zsh_79, zsh_80, zsh_81, zsh_82, zsh_83, zsh_84, zsh_85, zsh_86, zsh_87, zup_ne, zup_eq, zup_nf, ne_eq, not_false_eq_true]
    rw [← z2]
    refine ⟨by omega, by omega, fun w2 => ?_, fun w2 => ?_⟩
    · have e : zlen (some bs) = -1 := by unfold zlen; rw [if_neg w, if_neg (by omega)]
      rw [e]
      exact ⟨rfl, rfl⟩
    · have hk1 : zknd (some bs) = 1 := by omega
      obtain ⟨b1, hb1⟩ : ∃ b1 : Nat, zp_byte (some bs) 1 = b1 := ⟨(zp_byte (some bs) 1).toNat, by omega⟩
      have e : zlen (some bs) = zsum (zpsz (some bs)) b1 := by unfold zlen; rw [if_neg w, if_pos hk1, hb1, Int.toNat_natCast]
      have loop : ∀ (r j : Nat), j + r = b1 → G 34 [.inr (some 56), .inl k, .inl (zsum (zpsz (some bs)) j), .inl (j : Int)] [] μ := by
        intro r
        induction r with
        | zero =>
          intro j k1
          refine s_X11_lengthOf_34 hG ?_
          simp only [b_X11_lengthOf_0, b_X11_lengthOf_9, b_X11_lengthOf_18, b_X11_lengthOf_28, b_X11_lengthOf_30, b_X11_lengthOf_34, b_X11_lengthOf_44, b_X11_lengthOf_63, o_c, o_il, o_al, o_is, o_as, o_inc, o_add, o_sub, o_mul, o_and, o_or, o_xor, o_shl, o_shr, o_ush, o_rem, o_dup, o_dup2, o_gf, o_pf, o_pz, o_iald, o_iast, o_zald, o_zast, o_aald, o_gs, o_min, o_acp, o_call, o_callv, zgf, zpf, zia_, zza_, zra_, zrd_, zcp_, zpop, zsm8_0, zsm8_1, zsm8_2, zsm8_3, zsm8_4, zsm8_5, zrc, zisob, t_ieq, t_ilt, t_igt, t_zeq, t_zlt, t_zgt, t_sw, zsw, t_iret, t_zret, t_aret, t_vret, zrg, List.getElem?_cons_zero, List.getElem?_cons_succ, List.set_cons_zero, List.set_cons_succ, List.length_cons, List.length_nil, Option.toList_some, Option.toList_none, List.nil_append, List.cons_append, true_and, and_true, true_or, or_true, Int.cast_ofNat_Int, Int.natCast_zero, Int.natCast_one, zsh_56, zsh_57, zsh_58, zsh_59, zsh_60, zsh_61, zsh_62, zsh_63, zsh_64, zsh_65, zsh_66, zsh_67, zsh_68, zsh_69, zsh_70, zsh_71, zsh_72, zsh_73, zsh_74, zsh_75, zsh_76, zsh_77, zsh_78, zsh_79, zsh_80, zsh_81, zsh_82, zsh_83, zsh_84, zsh_85, zsh_86, zsh_87, zup_ne, zup_eq, zup_nf, ne_eq, not_false_eq_true]
          refine zcall (c_X11_cell h (i := 1) (by omega) (by omega)) ?_
          simp only [b_X11_lengthOf_0, b_X11_lengthOf_9, b_X11_lengthOf_18, b_X11_lengthOf_28, b_X11_lengthOf_30, b_X11_lengthOf_34, b_X11_lengthOf_44, b_X11_lengthOf_63, o_c, o_il, o_al, o_is, o_as, o_inc, o_add, o_sub, o_mul, o_and, o_or, o_xor, o_shl, o_shr, o_ush, o_rem, o_dup, o_dup2, o_gf, o_pf, o_pz, o_iald, o_iast, o_zald, o_zast, o_aald, o_gs, o_min, o_acp, o_call, o_callv, zgf, zpf, zia_, zza_, zra_, zrd_, zcp_, zpop, zsm8_0, zsm8_1, zsm8_2, zsm8_3, zsm8_4, zsm8_5, zrc, zisob, t_ieq, t_ilt, t_igt, t_zeq, t_zlt, t_zgt, t_sw, zsw, t_iret, t_zret, t_aret, t_vret, zrg, List.getElem?_cons_zero, List.getElem?_cons_succ, List.set_cons_zero, List.set_cons_succ, List.length_cons, List.length_nil, Option.toList_some, Option.toList_none, List.nil_append, List.cons_append, true_and, and_true, true_or, or_true, Int.cast_ofNat_Int, Int.natCast_zero, Int.natCast_one, zsh_56, zsh_57, zsh_58, zsh_59, zsh_60, zsh_61, zsh_62, zsh_63, zsh_64, zsh_65, zsh_66, zsh_67, zsh_68, zsh_69, zsh_70, zsh_71, zsh_72, zsh_73, zsh_74, zsh_75, zsh_76, zsh_77, zsh_78, zsh_79, zsh_80, zsh_81, zsh_82, zsh_83, zsh_84, zsh_85, zsh_86, zsh_87, zup_ne, zup_eq, zup_nf, ne_eq, not_false_eq_true]
          rw [hb1, e]
          have ej : j = b1 := by omega
          rw [ej]
          exact ⟨by omega, by omega, fun w => by omega, fun _ => ⟨rfl, rfl⟩⟩
        | succ r ih =>
          intro j k1
          refine s_X11_lengthOf_34 hG ?_
          simp only [b_X11_lengthOf_0, b_X11_lengthOf_9, b_X11_lengthOf_18, b_X11_lengthOf_28, b_X11_lengthOf_30, b_X11_lengthOf_34, b_X11_lengthOf_44, b_X11_lengthOf_63, o_c, o_il, o_al, o_is, o_as, o_inc, o_add, o_sub, o_mul, o_and, o_or, o_xor, o_shl, o_shr, o_ush, o_rem, o_dup, o_dup2, o_gf, o_pf, o_pz, o_iald, o_iast, o_zald, o_zast, o_aald, o_gs, o_min, o_acp, o_call, o_callv, zgf, zpf, zia_, zza_, zra_, zrd_, zcp_, zpop, zsm8_0, zsm8_1, zsm8_2, zsm8_3, zsm8_4, zsm8_5, zrc, zisob, t_ieq, t_ilt, t_igt, t_zeq, t_zlt, t_zgt, t_sw, zsw, t_iret, t_zret, t_aret, t_vret, zrg, List.getElem?_cons_zero, List.getElem?_cons_succ, List.set_cons_zero, List.set_cons_succ, List.length_cons, List.length_nil, Option.toList_some, Option.toList_none, List.nil_append, List.cons_append, true_and, and_true, true_or, or_true, Int.cast_ofNat_Int, Int.natCast_zero, Int.natCast_one, zsh_56, zsh_57, zsh_58, zsh_59, zsh_60, zsh_61, zsh_62, zsh_63, zsh_64, zsh_65, zsh_66, zsh_67, zsh_68, zsh_69, zsh_70, zsh_71, zsh_72, zsh_73, zsh_74, zsh_75, zsh_76, zsh_77, zsh_78, zsh_79, zsh_80, zsh_81, zsh_82, zsh_83, zsh_84, zsh_85, zsh_86, zsh_87, zup_ne, zup_eq, zup_nf, ne_eq, not_false_eq_true]
          refine zcall (c_X11_cell h (i := 1) (by omega) (by omega)) ?_
          simp only [b_X11_lengthOf_0, b_X11_lengthOf_9, b_X11_lengthOf_18, b_X11_lengthOf_28, b_X11_lengthOf_30, b_X11_lengthOf_34, b_X11_lengthOf_44, b_X11_lengthOf_63, o_c, o_il, o_al, o_is, o_as, o_inc, o_add, o_sub, o_mul, o_and, o_or, o_xor, o_shl, o_shr, o_ush, o_rem, o_dup, o_dup2, o_gf, o_pf, o_pz, o_iald, o_iast, o_zald, o_zast, o_aald, o_gs, o_min, o_acp, o_call, o_callv, zgf, zpf, zia_, zza_, zra_, zrd_, zcp_, zpop, zsm8_0, zsm8_1, zsm8_2, zsm8_3, zsm8_4, zsm8_5, zrc, zisob, t_ieq, t_ilt, t_igt, t_zeq, t_zlt, t_zgt, t_sw, zsw, t_iret, t_zret, t_aret, t_vret, zrg, List.getElem?_cons_zero, List.getElem?_cons_succ, List.set_cons_zero, List.set_cons_succ, List.length_cons, List.length_nil, Option.toList_some, Option.toList_none, List.nil_append, List.cons_append, true_and, and_true, true_or, or_true, Int.cast_ofNat_Int, Int.natCast_zero, Int.natCast_one, zsh_56, zsh_57, zsh_58, zsh_59, zsh_60, zsh_61, zsh_62, zsh_63, zsh_64, zsh_65, zsh_66, zsh_67, zsh_68, zsh_69, zsh_70, zsh_71, zsh_72, zsh_73, zsh_74, zsh_75, zsh_76, zsh_77, zsh_78, zsh_79, zsh_80, zsh_81, zsh_82, zsh_83, zsh_84, zsh_85, zsh_86, zsh_87, zup_ne, zup_eq, zup_nf, ne_eq, not_false_eq_true]
          rw [hb1]
          have a := h.pr (i := 2 + 4 * j) (by omega) (by omega)
          have sj := h.sum (n := j) (by omega)
          have e8 : zpsz (some bs) j = zp_pair (some bs) (2 + 4 * j) := by unfold zpsz; congr 1; omega
          refine ⟨by omega, by omega, fun _ => ?_, fun w => by omega⟩
          refine zcall (c_X11_pair (by omega) h (i := 2 + 4 * j) (by omega) (by omega)) ?_
          simp only [b_X11_lengthOf_0, b_X11_lengthOf_9, b_X11_lengthOf_18, b_X11_lengthOf_28, b_X11_lengthOf_30, b_X11_lengthOf_34, b_X11_lengthOf_44, b_X11_lengthOf_63, o_c, o_il, o_al, o_is, o_as, o_inc, o_add, o_sub, o_mul, o_and, o_or, o_xor, o_shl, o_shr, o_ush, o_rem, o_dup, o_dup2, o_gf, o_pf, o_pz, o_iald, o_iast, o_zald, o_zast, o_aald, o_gs, o_min, o_acp, o_call, o_callv, zgf, zpf, zia_, zza_, zra_, zrd_, zcp_, zpop, zsm8_0, zsm8_1, zsm8_2, zsm8_3, zsm8_4, zsm8_5, zrc, zisob, t_ieq, t_ilt, t_igt, t_zeq, t_zlt, t_zgt, t_sw, zsw, t_iret, t_zret, t_aret, t_vret, zrg, List.getElem?_cons_zero, List.getElem?_cons_succ, List.set_cons_zero, List.set_cons_succ, List.length_cons, List.length_nil, Option.toList_some, Option.toList_none, List.nil_append, List.cons_append, true_and, and_true, true_or, or_true, Int.cast_ofNat_Int, Int.natCast_zero, Int.natCast_one, zsh_56, zsh_57, zsh_58, zsh_59, zsh_60, zsh_61, zsh_62, zsh_63, zsh_64, zsh_65, zsh_66, zsh_67, zsh_68, zsh_69, zsh_70, zsh_71, zsh_72, zsh_73, zsh_74, zsh_75, zsh_76, zsh_77, zsh_78, zsh_79, zsh_80, zsh_81, zsh_82, zsh_83, zsh_84, zsh_85, zsh_86, zsh_87, zup_ne, zup_eq, zup_nf, ne_eq, not_false_eq_true]
          have := ih (j + 1) (by omega)
          simp only [zsum] at this
          rw [e8] at this
          exact this
      exact loop b1 0 (by omega)
set_option maxRecDepth 100000 in
set_option maxHeartbeats 4000000 in
theorem c_X11_length {d : Nat} {μ : zM} {store nm : Int} {Lf : Nat → List zBk} (hd : 3 ≤ d) (h : ∀ s, s < 3 → zmL μ s (Lf s)) (hV : ∀ s, s < 3 → zVB (Lf s)) (hs : zrg store) (hn : zrg nm) : zCt d mX11_length [.inr (some 56), .inl store, .inl nm] μ (zR (.inl (zlen (zlks3 Lf store nm))) μ) := by
  refine of_X11_length (by omega) (fun G hG => s_X11_length_0 hG ?_)
  simp only [b_X11_length_0, b_X11_length_11, b_X11_length_15, b_X11_length_20, o_c, o_il, o_al, o_is, o_as, o_inc, o_add, o_sub, o_mul, o_and, o_or, o_xor, o_shl, o_shr, o_ush, o_rem, o_dup, o_dup2, o_gf, o_pf, o_pz, o_iald, o_iast, o_zald, o_zast, o_aald, o_gs, o_min, o_acp, o_call, o_callv, zgf, zpf, zia_, zza_, zra_, zrd_, zcp_, zpop, zsm8_0, zsm8_1, zsm8_2, zsm8_3, zsm8_4, zsm8_5, zrc, zisob, t_ieq, t_ilt, t_igt, t_zeq, t_zlt, t_zgt, t_sw, zsw, t_iret, t_zret, t_aret, t_vret, zrg, List.getElem?_cons_zero, List.getElem?_cons_succ, List.set_cons_zero, List.set_cons_succ, List.length_cons, List.length_nil, Option.toList_some, Option.toList_none, List.nil_append, List.cons_append, true_and, and_true, true_or, or_true, Int.cast_ofNat_Int, Int.natCast_zero, Int.natCast_one, zsh_56, zsh_57, zsh_58, zsh_59, zsh_60, zsh_61, zsh_62, zsh_63, zsh_64, zsh_65, zsh_66, zsh_67, zsh_68, zsh_69, zsh_70, zsh_71, zsh_72, zsh_73, zsh_74, zsh_75, zsh_76, zsh_77, zsh_78, zsh_79, zsh_80, zsh_81, zsh_82, zsh_83, zsh_84, zsh_85, zsh_86, zsh_87, zup_ne, zup_eq, zup_nf, ne_eq, not_false_eq_true]
  refine zcall (c_X11_blockAt (by omega) h hs hn) ?_
  rcases zbAt h store nm with ⟨e1, e2⟩ | ⟨k, bs, hc, e2, ha, e1, hm⟩
  · rw [e1, e2]
    simp only [b_X11_length_0, b_X11_length_11, b_X11_length_15, b_X11_length_20, o_c, o_il, o_al, o_is, o_as, o_inc, o_add, o_sub, o_mul, o_and, o_or, o_xor, o_shl, o_shr, o_ush, o_rem, o_dup, o_dup2, o_gf, o_pf, o_pz, o_iald, o_iast, o_zald, o_zast, o_aald, o_gs, o_min, o_acp, o_call, o_callv, zgf, zpf, zia_, zza_, zra_, zrd_, zcp_, zpop, zsm8_0, zsm8_1, zsm8_2, zsm8_3, zsm8_4, zsm8_5, zrc, zisob, t_ieq, t_ilt, t_igt, t_zeq, t_zlt, t_zgt, t_sw, zsw, t_iret, t_zret, t_aret, t_vret, zrg, List.getElem?_cons_zero, List.getElem?_cons_succ, List.set_cons_zero, List.set_cons_succ, List.length_cons, List.length_nil, Option.toList_some, Option.toList_none, List.nil_append, List.cons_append, true_and, and_true, true_or, or_true, Int.cast_ofNat_Int, Int.natCast_zero, Int.natCast_one, zsh_56, zsh_57, zsh_58, zsh_59, zsh_60, zsh_61, zsh_62, zsh_63, zsh_64, zsh_65, zsh_66, zsh_67, zsh_68, zsh_69, zsh_70, zsh_71, zsh_72, zsh_73, zsh_74, zsh_75, zsh_76, zsh_77, zsh_78, zsh_79, zsh_80, zsh_81, zsh_82, zsh_83, zsh_84, zsh_85, zsh_86, zsh_87, zup_ne, zup_eq, zup_nf, ne_eq, not_false_eq_true]
    exact ⟨by omega, fun _ => ⟨rfl, rfl⟩, fun w => by omega⟩
  · rw [e1, e2]
    simp only [b_X11_length_0, b_X11_length_11, b_X11_length_15, b_X11_length_20, o_c, o_il, o_al, o_is, o_as, o_inc, o_add, o_sub, o_mul, o_and, o_or, o_xor, o_shl, o_shr, o_ush, o_rem, o_dup, o_dup2, o_gf, o_pf, o_pz, o_iald, o_iast, o_zald, o_zast, o_aald, o_gs, o_min, o_acp, o_call, o_callv, zgf, zpf, zia_, zza_, zra_, zrd_, zcp_, zpop, zsm8_0, zsm8_1, zsm8_2, zsm8_3, zsm8_4, zsm8_5, zrc, zisob, t_ieq, t_ilt, t_igt, t_zeq, t_zlt, t_zgt, t_sw, zsw, t_iret, t_zret, t_aret, t_vret, zrg, List.getElem?_cons_zero, List.getElem?_cons_succ, List.set_cons_zero, List.set_cons_succ, List.length_cons, List.length_nil, Option.toList_some, Option.toList_none, List.nil_append, List.cons_append, true_and, and_true, true_or, or_true, Int.cast_ofNat_Int, Int.natCast_zero, Int.natCast_one, zsh_56, zsh_57, zsh_58, zsh_59, zsh_60, zsh_61, zsh_62, zsh_63, zsh_64, zsh_65, zsh_66, zsh_67, zsh_68, zsh_69, zsh_70, zsh_71, zsh_72, zsh_73, zsh_74, zsh_75, zsh_76, zsh_77, zsh_78, zsh_79, zsh_80, zsh_81, zsh_82, zsh_83, zsh_84, zsh_85, zsh_86, zsh_87, zup_ne, zup_eq, zup_nf, ne_eq, not_false_eq_true]
    have h1 := ha.1
    refine ⟨by omega, fun w => by omega, fun _ => ?_⟩
    refine zcall (c_X11_lengthOf (by omega) ha (hV _ (by omega) _ hm)) ?_
    simp only [b_X11_length_0, b_X11_length_11, b_X11_length_15, b_X11_length_20, o_c, o_il, o_al, o_is, o_as, o_inc, o_add, o_sub, o_mul, o_and, o_or, o_xor, o_shl, o_shr, o_ush, o_rem, o_dup, o_dup2, o_gf, o_pf, o_pz, o_iald, o_iast, o_zald, o_zast, o_aald, o_gs, o_min, o_acp, o_call, o_callv, zgf, zpf, zia_, zza_, zra_, zrd_, zcp_, zpop, zsm8_0, zsm8_1, zsm8_2, zsm8_3, zsm8_4, zsm8_5, zrc, zisob, t_ieq, t_ilt, t_igt, t_zeq, t_zlt, t_zgt, t_sw, zsw, t_iret, t_zret, t_aret, t_vret, zrg, List.getElem?_cons_zero, List.getElem?_cons_succ, List.set_cons_zero, List.set_cons_succ, List.length_cons, List.length_nil, Option.toList_some, Option.toList_none, List.nil_append, List.cons_append, true_and, and_true, true_or, or_true, Int.cast_ofNat_Int, Int.natCast_zero, Int.natCast_one, zsh_56, zsh_57, zsh_58, zsh_59, zsh_60, zsh_61, zsh_62, zsh_63, zsh_64, zsh_65, zsh_66, zsh_67, zsh_68, zsh_69, zsh_70, zsh_71, zsh_72, zsh_73, zsh_74, zsh_75, zsh_76, zsh_77, zsh_78, zsh_79, zsh_80, zsh_81, zsh_82, zsh_83, zsh_84, zsh_85, zsh_86, zsh_87, zup_ne, zup_eq, zup_nf, ne_eq, not_false_eq_true]
    exact ⟨rfl, rfl⟩
theorem zlen_bd {μ : zM} {k : Int} {bs : List Int} (h : zAt μ k bs) (hB : zisB (some bs)) : -1 ≤ zlen (some bs) ∧ zlen (some bs) ≤ 300000 := by
  have h18 := h.2.2.1
  have hsz : zp_size (some bs) = bs.length := rfl
  unfold zlen
  rw [hsz]
  rcases hB.sh with q | q | q | q
  · rw [if_pos q.1]; omega
  · rw [if_neg (by omega), if_pos q.1]
    have := h.sum (n := (zp_byte (some bs) 1).toNat) (by omega)
    omega
  · rw [if_neg (by omega), if_neg (by omega)]; omega
  · rw [if_neg (by omega), if_neg (by omega)]; omega
set_option maxRecDepth 100000 in
set_option maxHeartbeats 4000000 in
theorem c_X11_read {d : Nat} {μ : zM} {store nm p : Int} {Lf : Nat → List zBk} (hd : 3 ≤ d) (h : ∀ s, s < 3 → zmL μ s (Lf s)) (hV : ∀ s, s < 3 → zVB (Lf s)) (hs : zrg store) (hn : zrg nm) (hp : zrg p) : zCt d mX11_read [.inr (some 56), .inl store, .inl nm, .inl p] μ (zR (.inl (if 0 ≤ store ∧ store ≤ 2 then zrdf (Lf store.toNat) nm p else -1)) μ) := by
  unfold zrg at hp
  refine of_X11_read (by omega) (fun G hG => s_X11_read_0 hG ?_)
  simp only [b_X11_read_0, b_X11_read_13, b_X11_read_17, b_X11_read_27, b_X11_read_29, b_X11_read_35, b_X11_read_42, b_X11_read_52, b_X11_read_63, b_X11_read_66, b_X11_read_83, b_X11_read_106, b_X11_read_144, b_X11_read_155, b_X11_read_158, b_X11_read_164, o_c, o_il, o_al, o_is, o_as, o_inc, o_add, o_sub, o_mul, o_and, o_or, o_xor, o_shl, o_shr, o_ush, o_rem, o_dup, o_dup2, o_gf, o_pf, o_pz, o_iald, o_iast, o_zald, o_zast, o_aald, o_gs, o_min, o_acp, o_call, o_callv, zgf, zpf, zia_, zza_, zra_, zrd_, zcp_, zpop, zsm8_0, zsm8_1, zsm8_2, zsm8_3, zsm8_4, zsm8_5, zrc, zisob, t_ieq, t_ilt, t_igt, t_zeq, t_zlt, t_zgt, t_sw, zsw, t_iret, t_zret, t_aret, t_vret, zrg, List.getElem?_cons_zero, List.getElem?_cons_succ, List.set_cons_zero, List.set_cons_succ, List.length_cons, List.length_nil, Option.toList_some, Option.toList_none, List.nil_append, List.cons_append, true_and, and_true, true_or, or_true, Int.cast_ofNat_Int, Int.natCast_zero, Int.natCast_one, zsh_56, zsh_57, zsh_58, zsh_59, zsh_60, zsh_61, zsh_62, zsh_63, zsh_64, zsh_65, zsh_66, zsh_67, zsh_68, zsh_69, zsh_70, zsh_71, zsh_72, zsh_73, zsh_74, zsh_75, zsh_76, zsh_77, zsh_78, zsh_79, zsh_80, zsh_81, zsh_82, zsh_83, zsh_84, zsh_85, zsh_86, zsh_87, zup_ne, zup_eq, zup_nf, ne_eq, not_false_eq_true]
  refine zcall (c_X11_blockAt (by omega) h hs hn) ?_
  rcases zbAt h store nm with ⟨e1, e2⟩ | ⟨k, bs, hc, e2, ha, e1, hm⟩
  · rw [e2]
    have er : (if 0 ≤ store ∧ store ≤ 2 then zrdf (Lf store.toNat) nm p else -1) = -1 := by
      split
      · rename_i hc
        unfold zlks3 at e1
        rw [if_pos hc] at e1
        unfold zrdf
        rw [e1]
        have : zlen none = -1 := rfl
        rw [this, if_pos (by omega)]
      · rfl
    rw [er]
    simp only [b_X11_read_0, b_X11_read_13, b_X11_read_17, b_X11_read_27, b_X11_read_29, b_X11_read_35, b_X11_read_42, b_X11_read_52, b_X11_read_63, b_X11_read_66, b_X11_read_83, b_X11_read_106, b_X11_read_144, b_X11_read_155, b_X11_read_158, b_X11_read_164, o_c, o_il, o_al, o_is, o_as, o_inc, o_add, o_sub, o_mul, o_and, o_or, o_xor, o_shl, o_shr, o_ush, o_rem, o_dup, o_dup2, o_gf, o_pf, o_pz, o_iald, o_iast, o_zald, o_zast, o_aald, o_gs, o_min, o_acp, o_call, o_callv, zgf, zpf, zia_, zza_, zra_, zrd_, zcp_, zpop, zsm8_0, zsm8_1, zsm8_2, zsm8_3, zsm8_4, zsm8_5, zrc, zisob, t_ieq, t_ilt, t_igt, t_zeq, t_zlt, t_zgt, t_sw, zsw, t_iret, t_zret, t_aret, t_vret, zrg, List.getElem?_cons_zero, List.getElem?_cons_succ, List.set_cons_zero, List.set_cons_succ, List.length_cons, List.length_nil, Option.toList_some, Option.toList_none, List.nil_append, List.cons_append, true_and, and_true, true_or, or_true, Int.cast_ofNat_Int, Int.natCast_zero, Int.natCast_one, zsh_56, zsh_57, zsh_58, zsh_59, zsh_60, zsh_61, zsh_62, zsh_63, zsh_64, zsh_65, zsh_66, zsh_67, zsh_68, zsh_69, zsh_70, zsh_71, zsh_72, zsh_73, zsh_74, zsh_75, zsh_76, zsh_77, zsh_78, zsh_79, zsh_80, zsh_81, zsh_82, zsh_83, zsh_84, zsh_85, zsh_86, zsh_87, zup_ne, zup_eq, zup_nf, ne_eq, not_false_eq_true]
    exact ⟨by omega, fun _ => ⟨rfl, rfl⟩, fun w => by omega⟩
  · rw [e2]
    obtain ⟨s, rfl, h3⟩ := zs3 hc
    unfold zlks3 at e1
    rw [if_pos hc, Int.toNat_natCast] at e1
    have er : (if 0 ≤ (s : Int) ∧ (s : Int) ≤ 2 then zrdf (Lf (s : Int).toNat) nm p else -1) = zrdf (Lf s) nm p := by rw [if_pos hc, Int.toNat_natCast]
    obtain ⟨L, hL⟩ : ∃ L, L = Lf s := ⟨_, rfl⟩
    rw [er]
    simp only [b_X11_read_0, b_X11_read_13, b_X11_read_17, b_X11_read_27, b_X11_read_29, b_X11_read_35, b_X11_read_42, b_X11_read_52, b_X11_read_63, b_X11_read_66, b_X11_read_83, b_X11_read_106, b_X11_read_144, b_X11_read_155, b_X11_read_158, b_X11_read_164, o_c, o_il, o_al, o_is, o_as, o_inc, o_add, o_sub, o_mul, o_and, o_or, o_xor, o_shl, o_shr, o_ush, o_rem, o_dup, o_dup2, o_gf, o_pf, o_pz, o_iald, o_iast, o_zald, o_zast, o_aald, o_gs, o_min, o_acp, o_call, o_callv, zgf, zpf, zia_, zza_, zra_, zrd_, zcp_, zpop, zsm8_0, zsm8_1, zsm8_2, zsm8_3, zsm8_4, zsm8_5, zrc, zisob, t_ieq, t_ilt, t_igt, t_zeq, t_zlt, t_zgt, t_sw, zsw, t_iret, t_zret, t_aret, t_vret, zrg, List.getElem?_cons_zero, List.getElem?_cons_succ, List.set_cons_zero, List.set_cons_succ, List.length_cons, List.length_nil, Option.toList_some, Option.toList_none, List.nil_append, List.cons_append, true_and, and_true, true_or, or_true, Int.cast_ofNat_Int, Int.natCast_zero, Int.natCast_one, zsh_56, zsh_57, zsh_58, zsh_59, zsh_60, zsh_61, zsh_62, zsh_63, zsh_64, zsh_65, zsh_66, zsh_67, zsh_68, zsh_69, zsh_70, zsh_71, zsh_72, zsh_73, zsh_74, zsh_75, zsh_76, zsh_77, zsh_78, zsh_79, zsh_80, zsh_81, zsh_82, zsh_83, zsh_84, zsh_85, zsh_86, zsh_87, zup_ne, zup_eq, zup_nf, ne_eq, not_false_eq_true]
    have h1 := ha.1
    have hBk := hV s h3 _ hm
    have hlb := zlen_bd ha hBk
    refine ⟨by omega, fun w => by omega, fun _ => ⟨by omega, fun w => ?_, fun w => ?_⟩⟩
    · have : zrdf (Lf s) nm p = -1 := by unfold zrdf; rw [if_pos (Or.inl w)]
      rw [this]
      exact ⟨rfl, rfl⟩
    · refine zcall (c_X11_lengthOf (by omega) ha hBk) ?_
      simp only [b_X11_read_0, b_X11_read_13, b_X11_read_17, b_X11_read_27, b_X11_read_29, b_X11_read_35, b_X11_read_42, b_X11_read_52, b_X11_read_63, b_X11_read_66, b_X11_read_83, b_X11_read_106, b_X11_read_144, b_X11_read_155, b_X11_read_158, b_X11_read_164, o_c, o_il, o_al, o_is, o_as, o_inc, o_add, o_sub, o_mul, o_and, o_or, o_xor, o_shl, o_shr, o_ush, o_rem, o_dup, o_dup2, o_gf, o_pf, o_pz, o_iald, o_iast, o_zald, o_zast, o_aald, o_gs, o_min, o_acp, o_call, o_callv, zgf, zpf, zia_, zza_, zra_, zrd_, zcp_, zpop, zsm8_0, zsm8_1, zsm8_2, zsm8_3, zsm8_4, zsm8_5, zrc, zisob, t_ieq, t_ilt, t_igt, t_zeq, t_zlt, t_zgt, t_sw, zsw, t_iret, t_zret, t_aret, t_vret, zrg, List.getElem?_cons_zero, List.getElem?_cons_succ, List.set_cons_zero, List.set_cons_succ, List.length_cons, List.length_nil, Option.toList_some, Option.toList_none, List.nil_append, List.cons_append, true_and, and_true, true_or, or_true, Int.cast_ofNat_Int, Int.natCast_zero, Int.natCast_one, zsh_56, zsh_57, zsh_58, zsh_59, zsh_60, zsh_61, zsh_62, zsh_63, zsh_64, zsh_65, zsh_66, zsh_67, zsh_68, zsh_69, zsh_70, zsh_71, zsh_72, zsh_73, zsh_74, zsh_75, zsh_76, zsh_77, zsh_78, zsh_79, zsh_80, zsh_81, zsh_82, zsh_83, zsh_84, zsh_85, zsh_86, zsh_87, zup_ne, zup_eq, zup_nf, ne_eq, not_false_eq_true]
      refine ⟨by omega, by omega, fun w2 => ?_, fun w2 => ?_⟩
      · have e0 : zrdf (Lf s) nm p = zrdp (Lf s) 11 (some bs) p := by unfold zrdf; rw [e1, if_neg (by omega)]
        have loop : ∀ (r l : Nat) (k : Int) (bs : List Int) (pl : Int) (x7 x8 : zV), l + r = 11 → zAt μ k bs → zisB (some bs) → 0 ≤ pl → pl < zlen (some bs) → zrdf (Lf s) nm p = zrdp (Lf s) r (some bs) pl → G 35 [.inr (some 56), .inl (s : Int), .inl nm, .inl p, .inl k, .inl pl, .inl (l : Int), x7, x8] [] μ := by
          intro r
          induction r with
          | zero =>
            intro l k bs pl x7 x8 k1 k2 k3 k4 k5 k6
            refine s_X11_read_35 hG ?_
            simp only [b_X11_read_0, b_X11_read_13, b_X11_read_17, b_X11_read_27, b_X11_read_29, b_X11_read_35, b_X11_read_42, b_X11_read_52, b_X11_read_63, b_X11_read_66, b_X11_read_83, b_X11_read_106, b_X11_read_144, b_X11_read_155, b_X11_read_158, b_X11_read_164, o_c, o_il, o_al, o_is, o_as, o_inc, o_add, o_sub, o_mul, o_and, o_or, o_xor, o_shl, o_shr, o_ush, o_rem, o_dup, o_dup2, o_gf, o_pf, o_pz, o_iald, o_iast, o_zald, o_zast, o_aald, o_gs, o_min, o_acp, o_call, o_callv, zgf, zpf, zia_, zza_, zra_, zrd_, zcp_, zpop, zsm8_0, zsm8_1, zsm8_2, zsm8_3, zsm8_4, zsm8_5, zrc, zisob, t_ieq, t_ilt, t_igt, t_zeq, t_zlt, t_zgt, t_sw, zsw, t_iret, t_zret, t_aret, t_vret, zrg, List.getElem?_cons_zero, List.getElem?_cons_succ, List.set_cons_zero, List.set_cons_succ, List.length_cons, List.length_nil, Option.toList_some, Option.toList_none, List.nil_append, List.cons_append, true_and, and_true, true_or, or_true, Int.cast_ofNat_Int, Int.natCast_zero, Int.natCast_one, zsh_56, zsh_57, zsh_58, zsh_59, zsh_60, zsh_61, zsh_62, zsh_63, zsh_64, zsh_65, zsh_66, zsh_67, zsh_68, zsh_69, zsh_70, zsh_71, zsh_72, zsh_73, zsh_74, zsh_75, zsh_76, zsh_77, zsh_78, zsh_79, zsh_80, zsh_81, zsh_82, zsh_83, zsh_84, zsh_85, zsh_86, zsh_87, zup_ne, zup_eq, zup_nf, ne_eq, not_false_eq_true]
            refine ⟨by omega, by omega, fun _ => ?_, fun w => by omega⟩
            rw [er, k6]
            exact ⟨rfl, rfl⟩
          | succ r ih =>
            intro l k bs pl x7 x8 k1 k2 k3 k4 k5 k6
            have q1 := k2.1
            have q18 := k2.2.2.1
            obtain ⟨z1, z2, z3⟩ := k2.k0 k3
            have hsh := k3.sh
            have hlb := zlen_bd k2 k3
            have hsz : zp_size (some bs) = bs.length := rfl
            refine s_X11_read_35 hG ?_
            simp only [b_X11_read_0, b_X11_read_13, b_X11_read_17, b_X11_read_27, b_X11_read_29, b_X11_read_35, b_X11_read_42, b_X11_read_52, b_X11_read_63, b_X11_read_66, b_X11_read_83, b_X11_read_106, b_X11_read_144, b_X11_read_155, b_X11_read_158, b_X11_read_164, o_c, o_il, o_al, o_is, o_as, o_inc, o_add, o_sub, o_mul, o_and, o_or, o_xor, o_shl, o_shr, o_ush, o_rem, o_dup, o_dup2, o_gf, o_pf, o_pz, o_iald, o_iast, o_zald, o_zast, o_aald, o_gs, o_min, o_acp, o_call, o_callv, zgf, zpf, zia_, zza_, zra_, zrd_, zcp_, zpop, zsm8_0, zsm8_1, zsm8_2, zsm8_3, zsm8_4, zsm8_5, zrc, zisob, t_ieq, t_ilt, t_igt, t_zeq, t_zlt, t_zgt, t_sw, zsw, t_iret, t_zret, t_aret, t_vret, zrg, List.getElem?_cons_zero, List.getElem?_cons_succ, List.set_cons_zero, List.set_cons_succ, List.length_cons, List.length_nil, Option.toList_some, Option.toList_none, List.nil_append, List.cons_append, true_and, and_true, true_or, or_true, Int.cast_ofNat_Int, Int.natCast_zero, Int.natCast_one, zsh_56, zsh_57, zsh_58, zsh_59, zsh_60, zsh_61, zsh_62, zsh_63, zsh_64, zsh_65, zsh_66, zsh_67, zsh_68, zsh_69, zsh_70, zsh_71, zsh_72, zsh_73, zsh_74, zsh_75, zsh_76, zsh_77, zsh_78, zsh_79, zsh_80, zsh_81, zsh_82, zsh_83, zsh_84, zsh_85, zsh_86, zsh_87, zup_ne, zup_eq, zup_nf, ne_eq, not_false_eq_true]
            refine ⟨by omega, by omega, fun w => by omega, fun _ => ?_⟩
            refine zcall (c_X11_cell k2 (i := 0) (by omega) (by omega)) ?_
            simp only [b_X11_read_0, b_X11_read_13, b_X11_read_17, b_X11_read_27, b_X11_read_29, b_X11_read_35, b_X11_read_42, b_X11_read_52, b_X11_read_63, b_X11_read_66, b_X11_read_83, b_X11_read_106, b_X11_read_144, b_X11_read_155, b_X11_read_158, b_X11_read_164, o_c, o_il, o_al, o_is, o_as, o_inc, o_add, o_sub, o_mul, o_and, o_or, o_xor, o_shl, o_shr, o_ush, o_rem, o_dup, o_dup2, o_gf, o_pf, o_pz, o_iald, o_iast, o_zald, o_zast, o_aald, o_gs, o_min, o_acp, o_call, o_callv, zgf, zpf, zia_, zza_, zra_, zrd_, zcp_, zpop, zsm8_0, zsm8_1, zsm8_2, zsm8_3, zsm8_4, zsm8_5, zrc, zisob, t_ieq, t_ilt, t_igt, t_zeq, t_zlt, t_zgt, t_sw, zsw, t_iret, t_zret, t_aret, t_vret, zrg, List.getElem?_cons_zero, List.getElem?_cons_succ, List.set_cons_zero, List.set_cons_succ, List.length_cons, List.length_nil, Option.toList_some, Option.toList_none, List.nil_append, List.cons_append, true_and, and_true, true_or, or_true, Int.cast_ofNat_Int, Int.natCast_zero, Int.natCast_one, zsh_56, zsh_57, zsh_58, zsh_59, zsh_60, zsh_61, zsh_62, zsh_63, zsh_64, zsh_65, zsh_66, zsh_67, zsh_68, zsh_69, zsh_70, zsh_71, zsh_72, zsh_73, zsh_74, zsh_75, zsh_76, zsh_77, zsh_78, zsh_79, zsh_80, zsh_81, zsh_82, zsh_83, zsh_84, zsh_85, zsh_86, zsh_87, zup_ne, zup_eq, zup_nf, ne_eq, not_false_eq_true]
            rw [← z2]
            refine ⟨by omega, fun w3 => ?_, fun w3 => ?_⟩
            · have e5 : zlen (some bs) = (bs.length : Int) - 1 := by unfold zlen; rw [if_pos w3]; rfl
              refine zcall (c_X11_cell k2 (i := 1 + pl) (by omega) (by omega)) ?_
              simp only [b_X11_read_0, b_X11_read_13, b_X11_read_17, b_X11_read_27, b_X11_read_29, b_X11_read_35, b_X11_read_42, b_X11_read_52, b_X11_read_63, b_X11_read_66, b_X11_read_83, b_X11_read_106, b_X11_read_144, b_X11_read_155, b_X11_read_158, b_X11_read_164, o_c, o_il, o_al, o_is, o_as, o_inc, o_add, o_sub, o_mul, o_and, o_or, o_xor, o_shl, o_shr, o_ush, o_rem, o_dup, o_dup2, o_gf, o_pf, o_pz, o_iald, o_iast, o_zald, o_zast, o_aald, o_gs, o_min, o_acp, o_call, o_callv, zgf, zpf, zia_, zza_, zra_, zrd_, zcp_, zpop, zsm8_0, zsm8_1, zsm8_2, zsm8_3, zsm8_4, zsm8_5, zrc, zisob, t_ieq, t_ilt, t_igt, t_zeq, t_zlt, t_zgt, t_sw, zsw, t_iret, t_zret, t_aret, t_vret, zrg, List.getElem?_cons_zero, List.getElem?_cons_succ, List.set_cons_zero, List.set_cons_succ, List.length_cons, List.length_nil, Option.toList_some, Option.toList_none, List.nil_append, List.cons_append, true_and, and_true, true_or, or_true, Int.cast_ofNat_Int, Int.natCast_zero, Int.natCast_one, zsh_56, zsh_57, zsh_58, zsh_59, zsh_60, zsh_61, zsh_62, zsh_63, zsh_64, zsh_65, zsh_66, zsh_67, zsh_68, zsh_69, zsh_70, zsh_71, zsh_72, zsh_73, zsh_74, zsh_75, zsh_76, zsh_77, zsh_78, zsh_79, zsh_80, zsh_81, zsh_82, zsh_83, zsh_84, zsh_85, zsh_86, zsh_87, zup_ne, zup_eq, zup_nf, ne_eq, not_false_eq_true]
              rw [er, k6]
              simp only [zrdp]
              rw [if_pos w3]
              exact ⟨rfl, rfl⟩
            · have hk1 : zknd (some bs) = 1 := by
                unfold zlen at k5
                rw [if_neg w3] at k5
                by_cases q : zknd (some bs) = 1
                · exact q
                · rw [if_neg q] at k5; omega
              obtain ⟨n, hn1⟩ : ∃ n : Nat, zp_byte (some bs) 1 = n := ⟨(zp_byte (some bs) 1).toNat, by omega⟩
              have e5 : zlen (some bs) = zsum (zpsz (some bs)) n := by unfold zlen; rw [if_neg w3, if_pos hk1, hn1, Int.toNat_natCast]
              have hcnt : zcnt (some bs) = n := by omega
              have hlen : (bs.length : Int) = 2 + 4 * n := by omega
              have hn4 : 1 ≤ n ∧ n ≤ 4 := by omega
              simp only [zrdp] at k6
              rw [if_neg w3] at k6
              obtain ⟨Z, hZ⟩ : ∃ Z, Z = zprt (some bs) 256 0 pl := ⟨_, rfl⟩
              rw [← hZ] at k6
              have inner : ∀ (q j F : Nat) (rst : Int) (y8 : zV), j + q + 1 = n → q < F → 0 ≤ rst → rst ≤ 300000 → rst < zsum (zpsz (some bs)) n - zsum (zpsz (some bs)) j → Z = zprt (some bs) F j rst → G 66 [.inr (some 56), .inl (s : Int), .inl nm, .inl p, .inl k, .inl rst, .inl (l : Int), .inl (j : Int), y8] [] μ := by
                intro q
                induction q with
                | zero =>
                  intro j F rst y8 i1 i2 i3 i3' i4 i5
                  have a1 := k2.pr (i := 2 + 4 * j) (by omega) (by omega)
                  have a2 := k2.pr (i := 4 + 4 * j) (by omega) (by omega)
                  have e8 : zpsz (some bs) j = zp_pair (some bs) (2 + 4 * j) := by unfold zpsz; congr 1; omega
                  have e9 : zlnk (some bs) j = zp_pair (some bs) (4 + 4 * j) := by
                    unfold zlnk
                    rw [hk1, if_pos (by omega)]
                    congr 1
                    simp only [zpw]; simp; omega
                  have hnj : n = j + 1 := by omega
                  rw [hnj] at i4
                  simp only [zsum] at i4
                  have hZ2 : Z = ((j : Int), rst) := by
                    rw [i5]
                    cases F with
                    | zero => rfl
                    | succ F => simp only [zprt]; rw [if_neg (by omega)]
                  rw [hZ2] at k6
                  simp only [] at k6
                  refine s_X11_read_66 hG ?_
                  simp only [b_X11_read_0, b_X11_read_13, b_X11_read_17, b_X11_read_27, b_X11_read_29, b_X11_read_35, b_X11_read_42, b_X11_read_52, b_X11_read_63, b_X11_read_66, b_X11_read_83, b_X11_read_106, b_X11_read_144, b_X11_read_155, b_X11_read_158, b_X11_read_164, o_c, o_il, o_al, o_is, o_as, o_inc, o_add, o_sub, o_mul, o_and, o_or, o_xor, o_shl, o_shr, o_ush, o_rem, o_dup, o_dup2, o_gf, o_pf, o_pz, o_iald, o_iast, o_zald, o_zast, o_aald, o_gs, o_min, o_acp, o_call, o_callv, zgf, zpf, zia_, zza_, zra_, zrd_, zcp_, zpop, zsm8_0, zsm8_1, zsm8_2, zsm8_3, zsm8_4, zsm8_5, zrc, zisob, t_ieq, t_ilt, t_igt, t_zeq, t_zlt, t_zgt, t_sw, zsw, t_iret, t_zret, t_aret, t_vret, zrg, List.getElem?_cons_zero, List.getElem?_cons_succ, List.set_cons_zero, List.set_cons_succ, List.length_cons, List.length_nil, Option.toList_some, Option.toList_none, List.nil_append, List.cons_append, true_and, and_true, true_or, or_true, Int.cast_ofNat_Int, Int.natCast_zero, Int.natCast_one, zsh_56, zsh_57, zsh_58, zsh_59, zsh_60, zsh_61, zsh_62, zsh_63, zsh_64, zsh_65, zsh_66, zsh_67, zsh_68, zsh_69, zsh_70, zsh_71, zsh_72, zsh_73, zsh_74, zsh_75, zsh_76, zsh_77, zsh_78, zsh_79, zsh_80, zsh_81, zsh_82, zsh_83, zsh_84, zsh_85, zsh_86, zsh_87, zup_ne, zup_eq, zup_nf, ne_eq, not_false_eq_true]
                  refine zcall (c_X11_pair (by omega) k2 (i := 2 + 4 * j) (by omega) (by omega)) ?_
                  simp only [b_X11_read_0, b_X11_read_13, b_X11_read_17, b_X11_read_27, b_X11_read_29, b_X11_read_35, b_X11_read_42, b_X11_read_52, b_X11_read_63, b_X11_read_66, b_X11_read_83, b_X11_read_106, b_X11_read_144, b_X11_read_155, b_X11_read_158, b_X11_read_164, o_c, o_il, o_al, o_is, o_as, o_inc, o_add, o_sub, o_mul, o_and, o_or, o_xor, o_shl, o_shr, o_ush, o_rem, o_dup, o_dup2, o_gf, o_pf, o_pz, o_iald, o_iast, o_zald, o_zast, o_aald, o_gs, o_min, o_acp, o_call, o_callv, zgf, zpf, zia_, zza_, zra_, zrd_, zcp_, zpop, zsm8_0, zsm8_1, zsm8_2, zsm8_3, zsm8_4, zsm8_5, zrc, zisob, t_ieq, t_ilt, t_igt, t_zeq, t_zlt, t_zgt, t_sw, zsw, t_iret, t_zret, t_aret, t_vret, zrg, List.getElem?_cons_zero, List.getElem?_cons_succ, List.set_cons_zero, List.set_cons_succ, List.length_cons, List.length_nil, Option.toList_some, Option.toList_none, List.nil_append, List.cons_append, true_and, and_true, true_or, or_true, Int.cast_ofNat_Int, Int.natCast_zero, Int.natCast_one, zsh_56, zsh_57, zsh_58, zsh_59, zsh_60, zsh_61, zsh_62, zsh_63, zsh_64, zsh_65, zsh_66, zsh_67, zsh_68, zsh_69, zsh_70, zsh_71, zsh_72, zsh_73, zsh_74, zsh_75, zsh_76, zsh_77, zsh_78, zsh_79, zsh_80, zsh_81, zsh_82, zsh_83, zsh_84, zsh_85, zsh_86, zsh_87, zup_ne, zup_eq, zup_nf, ne_eq, not_false_eq_true]
                  refine ⟨by omega, by omega, fun _ => ?_, fun w => by omega⟩
                  refine zcall (c_X11_pair (by omega) k2 (i := 2 + 4 * j) (by omega) (by omega)) ?_
                  simp only [b_X11_read_0, b_X11_read_13, b_X11_read_17, b_X11_read_27, b_X11_read_29, b_X11_read_35, b_X11_read_42, b_X11_read_52, b_X11_read_63, b_X11_read_66, b_X11_read_83, b_X11_read_106, b_X11_read_144, b_X11_read_155, b_X11_read_158, b_X11_read_164, o_c, o_il, o_al, o_is, o_as, o_inc, o_add, o_sub, o_mul, o_and, o_or, o_xor, o_shl, o_shr, o_ush, o_rem, o_dup, o_dup2, o_gf, o_pf, o_pz, o_iald, o_iast, o_zald, o_zast, o_aald, o_gs, o_min, o_acp, o_call, o_callv, zgf, zpf, zia_, zza_, zra_, zrd_, zcp_, zpop, zsm8_0, zsm8_1, zsm8_2, zsm8_3, zsm8_4, zsm8_5, zrc, zisob, t_ieq, t_ilt, t_igt, t_zeq, t_zlt, t_zgt, t_sw, zsw, t_iret, t_zret, t_aret, t_vret, zrg, List.getElem?_cons_zero, List.getElem?_cons_succ, List.set_cons_zero, List.set_cons_succ, List.length_cons, List.length_nil, Option.toList_some, Option.toList_none, List.nil_append, List.cons_append, true_and, and_true, true_or, or_true, Int.cast_ofNat_Int, Int.natCast_zero, Int.natCast_one, zsh_56, zsh_57, zsh_58, zsh_59, zsh_60, zsh_61, zsh_62, zsh_63, zsh_64, zsh_65, zsh_66, zsh_67, zsh_68, zsh_69, zsh_70, zsh_71, zsh_72, zsh_73, zsh_74, zsh_75, zsh_76, zsh_77, zsh_78, zsh_79, zsh_80, zsh_81, zsh_82, zsh_83, zsh_84, zsh_85, zsh_86, zsh_87, zup_ne, zup_eq, zup_nf, ne_eq, not_false_eq_true]
                  refine zcall (c_X11_pair (by omega) k2 (i := 4 + 4 * j) (by omega) (by omega)) ?_
                  simp only [b_X11_read_0, b_X11_read_13, b_X11_read_17, b_X11_read_27, b_X11_read_29, b_X11_read_35, b_X11_read_42, b_X11_read_52, b_X11_read_63, b_X11_read_66, b_X11_read_83, b_X11_read_106, b_X11_read_144, b_X11_read_155, b_X11_read_158, b_X11_read_164, o_c, o_il, o_al, o_is, o_as, o_inc, o_add, o_sub, o_mul, o_and, o_or, o_xor, o_shl, o_shr, o_ush, o_rem, o_dup, o_dup2, o_gf, o_pf, o_pz, o_iald, o_iast, o_zald, o_zast, o_aald, o_gs, o_min, o_acp, o_call, o_callv, zgf, zpf, zia_, zza_, zra_, zrd_, zcp_, zpop, zsm8_0, zsm8_1, zsm8_2, zsm8_3, zsm8_4, zsm8_5, zrc, zisob, t_ieq, t_ilt, t_igt, t_zeq, t_zlt, t_zgt, t_sw, zsw, t_iret, t_zret, t_aret, t_vret, zrg, List.getElem?_cons_zero, List.getElem?_cons_succ, List.set_cons_zero, List.set_cons_succ, List.length_cons, List.length_nil, Option.toList_some, Option.toList_none, List.nil_append, List.cons_append, true_and, and_true, true_or, or_true, Int.cast_ofNat_Int, Int.natCast_zero, Int.natCast_one, zsh_56, zsh_57, zsh_58, zsh_59, zsh_60, zsh_61, zsh_62, zsh_63, zsh_64, zsh_65, zsh_66, zsh_67, zsh_68, zsh_69, zsh_70, zsh_71, zsh_72, zsh_73, zsh_74, zsh_75, zsh_76, zsh_77, zsh_78, zsh_79, zsh_80, zsh_81, zsh_82, zsh_83, zsh_84, zsh_85, zsh_86, zsh_87, zup_ne, zup_eq, zup_nf, ne_eq, not_false_eq_true]
                  refine zcall (c_X11_where (h s h3) h3 (by unfold zrg; omega)) ?_
                  simp only [b_X11_read_0, b_X11_read_13, b_X11_read_17, b_X11_read_27, b_X11_read_29, b_X11_read_35, b_X11_read_42, b_X11_read_52, b_X11_read_63, b_X11_read_66, b_X11_read_83, b_X11_read_106, b_X11_read_144, b_X11_read_155, b_X11_read_158, b_X11_read_164, o_c, o_il, o_al, o_is, o_as, o_inc, o_add, o_sub, o_mul, o_and, o_or, o_xor, o_shl, o_shr, o_ush, o_rem, o_dup, o_dup2, o_gf, o_pf, o_pz, o_iald, o_iast, o_zald, o_zast, o_aald, o_gs, o_min, o_acp, o_call, o_callv, zgf, zpf, zia_, zza_, zra_, zrd_, zcp_, zpop, zsm8_0, zsm8_1, zsm8_2, zsm8_3, zsm8_4, zsm8_5, zrc, zisob, t_ieq, t_ilt, t_igt, t_zeq, t_zlt, t_zgt, t_sw, zsw, t_iret, t_zret, t_aret, t_vret, zrg, List.getElem?_cons_zero, List.getElem?_cons_succ, List.set_cons_zero, List.set_cons_succ, List.length_cons, List.length_nil, Option.toList_some, Option.toList_none, List.nil_append, List.cons_append, true_and, and_true, true_or, or_true, Int.cast_ofNat_Int, Int.natCast_zero, Int.natCast_one, zsh_56, zsh_57, zsh_58, zsh_59, zsh_60, zsh_61, zsh_62, zsh_63, zsh_64, zsh_65, zsh_66, zsh_67, zsh_68, zsh_69, zsh_70, zsh_71, zsh_72, zsh_73, zsh_74, zsh_75, zsh_76, zsh_77, zsh_78, zsh_79, zsh_80, zsh_81, zsh_82, zsh_83, zsh_84, zsh_85, zsh_86, zsh_87, zup_ne, zup_eq, zup_nf, ne_eq, not_false_eq_true]
                  rw [e9, e8] at k6
                  rcases (h s h3).wr h3 (zp_pair (some bs) (4 + 4 * j)) with ⟨u1, _, u2⟩ | ⟨bs2, i2, u1, u3, _, u4, u5⟩
                  · rw [u1] at k6
                    have un : zlen none = -1 := rfl
                    rw [un, if_neg (by omega)] at k6
                    rw [u2, er, k6]
                    exact ⟨by omega, fun _ => ⟨rfl, rfl⟩, fun w => by omega⟩
                  · rw [u1] at k6
                    have hB2 := hV s h3 _ (List.mem_of_getElem? u3)
                    have lb2 := zlen_bd u5 hB2
                    have u51 := u5.1
                    refine ⟨by omega, fun w => by omega, fun _ => ?_⟩
                    refine zcall (c_X11_lengthOf (by omega) u5 hB2) ?_
                    simp only [b_X11_read_0, b_X11_read_13, b_X11_read_17, b_X11_read_27, b_X11_read_29, b_X11_read_35, b_X11_read_42, b_X11_read_52, b_X11_read_63, b_X11_read_66, b_X11_read_83, b_X11_read_106, b_X11_read_144, b_X11_read_155, b_X11_read_158, b_X11_read_164, o_c, o_il, o_al, o_is, o_as, o_inc, o_add, o_sub, o_mul, o_and, o_or, o_xor, o_shl, o_shr, o_ush, o_rem, o_dup, o_dup2, o_gf, o_pf, o_pz, o_iald, o_iast, o_zald, o_zast, o_aald, o_gs, o_min, o_acp, o_call, o_callv, zgf, zpf, zia_, zza_, zra_, zrd_, zcp_, zpop, zsm8_0, zsm8_1, zsm8_2, zsm8_3, zsm8_4, zsm8_5, zrc, zisob, t_ieq, t_ilt, t_igt, t_zeq, t_zlt, t_zgt, t_sw, zsw, t_iret, t_zret, t_aret, t_vret, zrg, List.getElem?_cons_zero, List.getElem?_cons_succ, List.set_cons_zero, List.set_cons_succ, List.length_cons, List.length_nil, Option.toList_some, Option.toList_none, List.nil_append, List.cons_append, true_and, and_true, true_or, or_true, Int.cast_ofNat_Int, Int.natCast_zero, Int.natCast_one, zsh_56, zsh_57, zsh_58, zsh_59, zsh_60, zsh_61, zsh_62, zsh_63, zsh_64, zsh_65, zsh_66, zsh_67, zsh_68, zsh_69, zsh_70, zsh_71, zsh_72, zsh_73, zsh_74, zsh_75, zsh_76, zsh_77, zsh_78, zsh_79, zsh_80, zsh_81, zsh_82, zsh_83, zsh_84, zsh_85, zsh_86, zsh_87, zup_ne, zup_eq, zup_nf, ne_eq, not_false_eq_true]
                    refine ⟨by omega, by omega, fun w5 => ?_, fun w5 => ?_⟩
                    · rw [if_pos w5] at k6
                      exact ih (l + 1) _ bs2 rst _ _ (by omega) u5 hB2 i3 (by omega) k6
                    · rw [if_neg w5] at k6
                      rw [er, k6]
                      exact ⟨rfl, rfl⟩
                | succ q ihq =>
                  intro j F rst y8 i1 i2 i3 i3' i4 i5
                  have a1 := k2.pr (i := 2 + 4 * j) (by omega) (by omega)
                  have a2 := k2.pr (i := 4 + 4 * j) (by omega) (by omega)
                  have e8 : zpsz (some bs) j = zp_pair (some bs) (2 + 4 * j) := by unfold zpsz; congr 1; omega
                  have e9 : zlnk (some bs) j = zp_pair (some bs) (4 + 4 * j) := by
                    unfold zlnk
                    rw [hk1, if_pos (by omega)]
                    congr 1
                    simp only [zpw]; simp; omega
                  obtain ⟨F, rfl⟩ : ∃ F', F = F' + 1 := ⟨F - 1, by omega⟩
                  simp only [zprt] at i5
                  refine s_X11_read_66 hG ?_
                  simp only [b_X11_read_0, b_X11_read_13, b_X11_read_17, b_X11_read_27, b_X11_read_29, b_X11_read_35, b_X11_read_42, b_X11_read_52, b_X11_read_63, b_X11_read_66, b_X11_read_83, b_X11_read_106, b_X11_read_144, b_X11_read_155, b_X11_read_158, b_X11_read_164, o_c, o_il, o_al, o_is, o_as, o_inc, o_add, o_sub, o_mul, o_and, o_or, o_xor, o_shl, o_shr, o_ush, o_rem, o_dup, o_dup2, o_gf, o_pf, o_pz, o_iald, o_iast, o_zald, o_zast, o_aald, o_gs, o_min, o_acp, o_call, o_callv, zgf, zpf, zia_, zza_, zra_, zrd_, zcp_, zpop, zsm8_0, zsm8_1, zsm8_2, zsm8_3, zsm8_4, zsm8_5, zrc, zisob, t_ieq, t_ilt, t_igt, t_zeq, t_zlt, t_zgt, t_sw, zsw, t_iret, t_zret, t_aret, t_vret, zrg, List.getElem?_cons_zero, List.getElem?_cons_succ, List.set_cons_zero, List.set_cons_succ, List.length_cons, List.length_nil, Option.toList_some, Option.toList_none, List.nil_append, List.cons_append, true_and, and_true, true_or, or_true, Int.cast_ofNat_Int, Int.natCast_zero, Int.natCast_one, zsh_56, zsh_57, zsh_58, zsh_59, zsh_60, zsh_61, zsh_62, zsh_63, zsh_64, zsh_65, zsh_66, zsh_67, zsh_68, zsh_69, zsh_70, zsh_71, zsh_72, zsh_73, zsh_74, zsh_75, zsh_76, zsh_77, zsh_78, zsh_79, zsh_80, zsh_81, zsh_82, zsh_83, zsh_84, zsh_85, zsh_86, zsh_87, zup_ne, zup_eq, zup_nf, ne_eq, not_false_eq_true]
                  refine zcall (c_X11_pair (by omega) k2 (i := 2 + 4 * j) (by omega) (by omega)) ?_
                  simp only [b_X11_read_0, b_X11_read_13, b_X11_read_17, b_X11_read_27, b_X11_read_29, b_X11_read_35, b_X11_read_42, b_X11_read_52, b_X11_read_63, b_X11_read_66, b_X11_read_83, b_X11_read_106, b_X11_read_144, b_X11_read_155, b_X11_read_158, b_X11_read_164, o_c, o_il, o_al, o_is, o_as, o_inc, o_add, o_sub, o_mul, o_and, o_or, o_xor, o_shl, o_shr, o_ush, o_rem, o_dup, o_dup2, o_gf, o_pf, o_pz, o_iald, o_iast, o_zald, o_zast, o_aald, o_gs, o_min, o_acp, o_call, o_callv, zgf, zpf, zia_, zza_, zra_, zrd_, zcp_, zpop, zsm8_0, zsm8_1, zsm8_2, zsm8_3, zsm8_4, zsm8_5, zrc, zisob, t_ieq, t_ilt, t_igt, t_zeq, t_zlt, t_zgt, t_sw, zsw, t_iret, t_zret, t_aret, t_vret, zrg, List.getElem?_cons_zero, List.getElem?_cons_succ, List.set_cons_zero, List.set_cons_succ, List.length_cons, List.length_nil, Option.toList_some, Option.toList_none, List.nil_append, List.cons_append, true_and, and_true, true_or, or_true, Int.cast_ofNat_Int, Int.natCast_zero, Int.natCast_one, zsh_56, zsh_57, zsh_58, zsh_59, zsh_60, zsh_61, zsh_62, zsh_63, zsh_64, zsh_65, zsh_66, zsh_67, zsh_68, zsh_69, zsh_70, zsh_71, zsh_72, zsh_73, zsh_74, zsh_75, zsh_76, zsh_77, zsh_78, zsh_79, zsh_80, zsh_81, zsh_82, zsh_83, zsh_84, zsh_85, zsh_86, zsh_87, zup_ne, zup_eq, zup_nf, ne_eq, not_false_eq_true]
                  refine ⟨by omega, by omega, fun wa => ?_, fun wa => ?_⟩
                  · rw [if_neg (by omega)] at i5
                    rw [i5] at k6
                    simp only [] at k6
                    refine zcall (c_X11_pair (by omega) k2 (i := 2 + 4 * j) (by omega) (by omega)) ?_
                    simp only [b_X11_read_0, b_X11_read_13, b_X11_read_17, b_X11_read_27, b_X11_read_29, b_X11_read_35, b_X11_read_42, b_X11_read_52, b_X11_read_63, b_X11_read_66, b_X11_read_83, b_X11_read_106, b_X11_read_144, b_X11_read_155, b_X11_read_158, b_X11_read_164, o_c, o_il, o_al, o_is, o_as, o_inc, o_add, o_sub, o_mul, o_and, o_or, o_xor, o_shl, o_shr, o_ush, o_rem, o_dup, o_dup2, o_gf, o_pf, o_pz, o_iald, o_iast, o_zald, o_zast, o_aald, o_gs, o_min, o_acp, o_call, o_callv, zgf, zpf, zia_, zza_, zra_, zrd_, zcp_, zpop, zsm8_0, zsm8_1, zsm8_2, zsm8_3, zsm8_4, zsm8_5, zrc, zisob, t_ieq, t_ilt, t_igt, t_zeq, t_zlt, t_zgt, t_sw, zsw, t_iret, t_zret, t_aret, t_vret, zrg, List.getElem?_cons_zero, List.getElem?_cons_succ, List.set_cons_zero, List.set_cons_succ, List.length_cons, List.length_nil, Option.toList_some, Option.toList_none, List.nil_append, List.cons_append, true_and, and_true, true_or, or_true, Int.cast_ofNat_Int, Int.natCast_zero, Int.natCast_one, zsh_56, zsh_57, zsh_58, zsh_59, zsh_60, zsh_61, zsh_62, zsh_63, zsh_64, zsh_65, zsh_66, zsh_67, zsh_68, zsh_69, zsh_70, zsh_71, zsh_72, zsh_73, zsh_74, zsh_75, zsh_76, zsh_77, zsh_78, zsh_79, zsh_80, zsh_81, zsh_82, zsh_83, zsh_84, zsh_85, zsh_86, zsh_87, zup_ne, zup_eq, zup_nf, ne_eq, not_false_eq_true]
                    refine zcall (c_X11_pair (by omega) k2 (i := 4 + 4 * j) (by omega) (by omega)) ?_
                    simp only [b_X11_read_0, b_X11_read_13, b_X11_read_17, b_X11_read_27, b_X11_read_29, b_X11_read_35, b_X11_read_42, b_X11_read_52, b_X11_read_63, b_X11_read_66, b_X11_read_83, b_X11_read_106, b_X11_read_144, b_X11_read_155, b_X11_read_158, b_X11_read_164, o_c, o_il, o_al, o_is, o_as, o_inc, o_add, o_sub, o_mul, o_and, o_or, o_xor, o_shl, o_shr, o_ush, o_rem, o_dup, o_dup2, o_gf, o_pf, o_pz, o_iald, o_iast, o_zald, o_zast, o_aald, o_gs, o_min, o_acp, o_call, o_callv, zgf, zpf, zia_, zza_, zra_, zrd_, zcp_, zpop, zsm8_0, zsm8_1, zsm8_2, zsm8_3, zsm8_4, zsm8_5, zrc, zisob, t_ieq, t_ilt, t_igt, t_zeq, t_zlt, t_zgt, t_sw, zsw, t_iret, t_zret, t_aret, t_vret, zrg, List.getElem?_cons_zero, List.getElem?_cons_succ, List.set_cons_zero, List.set_cons_succ, List.length_cons, List.length_nil, Option.toList_some, Option.toList_none, List.nil_append, List.cons_append, true_and, and_true, true_or, or_true, Int.cast_ofNat_Int, Int.natCast_zero, Int.natCast_one, zsh_56, zsh_57, zsh_58, zsh_59, zsh_60, zsh_61, zsh_62, zsh_63, zsh_64, zsh_65, zsh_66, zsh_67, zsh_68, zsh_69, zsh_70, zsh_71, zsh_72, zsh_73, zsh_74, zsh_75, zsh_76, zsh_77, zsh_78, zsh_79, zsh_80, zsh_81, zsh_82, zsh_83, zsh_84, zsh_85, zsh_86, zsh_87, zup_ne, zup_eq, zup_nf, ne_eq, not_false_eq_true]
                    refine zcall (c_X11_where (h s h3) h3 (by unfold zrg; omega)) ?_
                    simp only [b_X11_read_0, b_X11_read_13, b_X11_read_17, b_X11_read_27, b_X11_read_29, b_X11_read_35, b_X11_read_42, b_X11_read_52, b_X11_read_63, b_X11_read_66, b_X11_read_83, b_X11_read_106, b_X11_read_144, b_X11_read_155, b_X11_read_158, b_X11_read_164, o_c, o_il, o_al, o_is, o_as, o_inc, o_add, o_sub, o_mul, o_and, o_or, o_xor, o_shl, o_shr, o_ush, o_rem, o_dup, o_dup2, o_gf, o_pf, o_pz, o_iald, o_iast, o_zald, o_zast, o_aald, o_gs, o_min, o_acp, o_call, o_callv, zgf, zpf, zia_, zza_, zra_, zrd_, zcp_, zpop, zsm8_0, zsm8_1, zsm8_2, zsm8_3, zsm8_4, zsm8_5, zrc, zisob, t_ieq, t_ilt, t_igt, t_zeq, t_zlt, t_zgt, t_sw, zsw, t_iret, t_zret, t_aret, t_vret, zrg, List.getElem?_cons_zero, List.getElem?_cons_succ, List.set_cons_zero, List.set_cons_succ, List.length_cons, List.length_nil, Option.toList_some, Option.toList_none, List.nil_append, List.cons_append, true_and, and_true, true_or, or_true, Int.cast_ofNat_Int, Int.natCast_zero, Int.natCast_one, zsh_56, zsh_57, zsh_58, zsh_59, zsh_60, zsh_61, zsh_62, zsh_63, zsh_64, zsh_65, zsh_66, zsh_67, zsh_68, zsh_69, zsh_70, zsh_71, zsh_72, zsh_73, zsh_74, zsh_75, zsh_76, zsh_77, zsh_78, zsh_79, zsh_80, zsh_81, zsh_82, zsh_83, zsh_84, zsh_85, zsh_86, zsh_87, zup_ne, zup_eq, zup_nf, ne_eq, not_false_eq_true]
                    rw [e9, e8] at k6
                    rcases (h s h3).wr h3 (zp_pair (some bs) (4 + 4 * j)) with ⟨u1, _, u2⟩ | ⟨bs2, i2, u1, u3, _, u4, u5⟩
                    · rw [u1] at k6
                      have un : zlen none = -1 := rfl
                      rw [un, if_neg (by omega)] at k6
                      rw [u2, er, k6]
                      exact ⟨by omega, fun _ => ⟨rfl, rfl⟩, fun w => by omega⟩
                    · rw [u1] at k6
                      have hB2 := hV s h3 _ (List.mem_of_getElem? u3)
                      have lb2 := zlen_bd u5 hB2
                      have u51 := u5.1
                      refine ⟨by omega, fun w => by omega, fun _ => ?_⟩
                      refine zcall (c_X11_lengthOf (by omega) u5 hB2) ?_
                      simp only [b_X11_read_0, b_X11_read_13, b_X11_read_17, b_X11_read_27, b_X11_read_29, b_X11_read_35, b_X11_read_42, b_X11_read_52, b_X11_read_63, b_X11_read_66, b_X11_read_83, b_X11_read_106, b_X11_read_144, b_X11_read_155, b_X11_read_158, b_X11_read_164, o_c, o_il, o_al, o_is, o_as, o_inc, o_add, o_sub, o_mul, o_and, o_or, o_xor, o_shl, o_shr, o_ush, o_rem, o_dup, o_dup2, o_gf, o_pf, o_pz, o_iald, o_iast, o_zald, o_zast, o_aald, o_gs, o_min, o_acp, o_call, o_callv, zgf, zpf, zia_, zza_, zra_, zrd_, zcp_, zpop, zsm8_0, zsm8_1, zsm8_2, zsm8_3, zsm8_4, zsm8_5, zrc, zisob, t_ieq, t_ilt, t_igt, t_zeq, t_zlt, t_zgt, t_sw, zsw, t_iret, t_zret, t_aret, t_vret, zrg, List.getElem?_cons_zero, List.getElem?_cons_succ, List.set_cons_zero, List.set_cons_succ, List.length_cons, List.length_nil, Option.toList_some, Option.toList_none, List.nil_append, List.cons_append, true_and, and_true, true_or, or_true, Int.cast_ofNat_Int, Int.natCast_zero, Int.natCast_one, zsh_56, zsh_57, zsh_58, zsh_59, zsh_60, zsh_61, zsh_62, zsh_63, zsh_64, zsh_65, zsh_66, zsh_67, zsh_68, zsh_69, zsh_70, zsh_71, zsh_72, zsh_73, zsh_74, zsh_75, zsh_76, zsh_77, zsh_78, zsh_79, zsh_80, zsh_81, zsh_82, zsh_83, zsh_84, zsh_85, zsh_86, zsh_87, zup_ne, zup_eq, zup_nf, ne_eq, not_false_eq_true]
                      refine ⟨by omega, by omega, fun w5 => ?_, fun w5 => ?_⟩
                      · rw [if_pos w5] at k6
                        exact ih (l + 1) _ bs2 rst _ _ (by omega) u5 hB2 i3 (by omega) k6
                      · rw [if_neg w5] at k6
                        rw [er, k6]
                        exact ⟨rfl, rfl⟩
                  · rw [if_pos (by omega)] at i5
                    refine zcall (c_X11_pair (by omega) k2 (i := 2 + 4 * j) (by omega) (by omega)) ?_
                    simp only [b_X11_read_0, b_X11_read_13, b_X11_read_17, b_X11_read_27, b_X11_read_29, b_X11_read_35, b_X11_read_42, b_X11_read_52, b_X11_read_63, b_X11_read_66, b_X11_read_83, b_X11_read_106, b_X11_read_144, b_X11_read_155, b_X11_read_158, b_X11_read_164, o_c, o_il, o_al, o_is, o_as, o_inc, o_add, o_sub, o_mul, o_and, o_or, o_xor, o_shl, o_shr, o_ush, o_rem, o_dup, o_dup2, o_gf, o_pf, o_pz, o_iald, o_iast, o_zald, o_zast, o_aald, o_gs, o_min, o_acp, o_call, o_callv, zgf, zpf, zia_, zza_, zra_, zrd_, zcp_, zpop, zsm8_0, zsm8_1, zsm8_2, zsm8_3, zsm8_4, zsm8_5, zrc, zisob, t_ieq, t_ilt, t_igt, t_zeq, t_zlt, t_zgt, t_sw, zsw, t_iret, t_zret, t_aret, t_vret, zrg, List.getElem?_cons_zero, List.getElem?_cons_succ, List.set_cons_zero, List.set_cons_succ, List.length_cons, List.length_nil, Option.toList_some, Option.toList_none, List.nil_append, List.cons_append, true_and, and_true, true_or, or_true, Int.cast_ofNat_Int, Int.natCast_zero, Int.natCast_one, zsh_56, zsh_57, zsh_58, zsh_59, zsh_60, zsh_61, zsh_62, zsh_63, zsh_64, zsh_65, zsh_66, zsh_67, zsh_68, zsh_69, zsh_70, zsh_71, zsh_72, zsh_73, zsh_74, zsh_75, zsh_76, zsh_77, zsh_78, zsh_79, zsh_80, zsh_81, zsh_82, zsh_83, zsh_84, zsh_85, zsh_86, zsh_87, zup_ne, zup_eq, zup_nf, ne_eq, not_false_eq_true]
                    rw [e8] at i5
                    refine ihq (j + 1) F _ _ (by omega) (by omega) (by omega) (by omega) ?_ i5
                    simp only [zsum]
                    omega
              exact inner (n - 1) 0 256 pl _ (by omega) (by omega) k4 (by omega) (by simp only [zsum]; omega) hZ
        exact loop 11 0 k bs p _ _ (by omega) ha hBk w (by omega) e0
      · have : zrdf (Lf s) nm p = -1 := by unfold zrdf; rw [e1, if_pos (Or.inr w2)]
        rw [this]
        exact ⟨rfl, rfl⟩
