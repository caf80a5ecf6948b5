/-! THE REFERENCE: is the row a block -/
theorem zrow_b {D : List Int} {i : Nat} (hi : i < D.length) : zp_byte (some D) i = D[i] := by simp [zp_byte, hi]
theorem zrow_bi {D : List Int} {i : Int} (h0 : 0 ≤ i) (hi : i < D.length) : ∃ j : Nat, i = j ∧ ∃ hj : j < D.length, zp_byte (some D) i = D[j] := ⟨i.toNat, by omega, by omega, by
  obtain ⟨n, rfl⟩ := Int.eq_ofNat_of_zero_le h0
  simp only [Int.toNat_natCast]
  exact zrow_b (by omega)⟩
theorem zmR.at {μ : zM} {D : List Int} {i : Int} (h : zmR μ D) (h0 : 0 ≤ i) (hi : i < D.length) : μ 77 i = zp_byte (some D) i ∧ 0 ≤ zp_byte (some D) i ∧ zp_byte (some D) i ≤ 255 := by
  obtain ⟨j, rfl, hj, e⟩ := zrow_bi h0 hi
  rw [e]
  exact ⟨h.2.2.1 j _ (List.getElem?_eq_getElem hj), h.2.2.2 _ (List.getElem_mem hj)⟩
theorem zmR.pr {μ : zM} {D : List Int} {i : Int} (h : zmR μ D) (h0 : 0 ≤ i) (hi : i + 1 < D.length) : zp_pair (some D) i = zp_byte (some D) i + 256 * zp_byte (some D) (i + 1) ∧ 0 ≤ zp_pair (some D) i ∧ zp_pair (some D) i ≤ 65535 := by
  have a := h.at h0 (by omega)
  have b := h.at (i := i + 1) (by omega) hi
  have e : zp_pair (some D) i = zp_byte (some D) i + 256 * zp_byte (some D) (i + 1) := by
    unfold zp_pair
    rw [if_pos ⟨h0, by simp only [zp_size]; omega⟩]
  rw [e]
  exact ⟨rfl, by omega, by omega⟩
set_option maxRecDepth 100000 in
set_option maxHeartbeats 4000000 in
theorem c_X11_two {d : Nat} {μ : zM} {D : List Int} {i : Int} (h : zmR μ D) (h0 : 0 ≤ i) (hi : i + 1 < D.length) : zCt d mX11_two [.inr (some 56), .inl i] μ (zR (.inl (zp_pair (some D) i)) μ) := by
  have a := h.at h0 (by omega)
  have b := h.at (i := i + 1) (by omega) hi
  have hl := h.2.1
  refine of_X11_two (fun G hG => s_X11_two_0 hG ?_)
  simp only [b_X11_two_0, o_c, o_il, o_al, o_is, o_as, o_inc, o_add, o_sub, o_mul, o_and, o_or, o_xor, o_shl, o_shr, o_ush, o_rem, o_dup, o_dup2, o_gf, o_pf, o_pz, o_iald, o_iast, o_zald, o_zast, o_aald, o_gs, o_min, o_acp, o_call, o_callv, zgf, zpf, zia_, zza_, zra_, zrd_, zcp_, zpop, zsm8_0, zsm8_1, zsm8_2, zsm8_3, zsm8_4, zsm8_5, zrc, zisob, t_ieq, t_ilt, t_igt, t_zeq, t_zlt, t_zgt, t_sw, zsw, t_iret, t_zret, t_aret, t_vret, zrg, List.getElem?_cons_zero, List.getElem?_cons_succ, List.set_cons_zero, List.set_cons_succ, List.length_cons, List.length_nil, Option.toList_some, Option.toList_none, List.nil_append, List.cons_append, true_and, and_true, true_or, or_true, Int.cast_ofNat_Int, Int.natCast_zero, Int.natCast_one, zsh_56, zsh_57, zsh_58, zsh_59, zsh_60, zsh_61, zsh_62, zsh_63, zsh_64, zsh_65, zsh_66, zsh_67, zsh_68, zsh_69, zsh_70, zsh_71, zsh_72, zsh_73, zsh_74, zsh_75, zsh_76, zsh_77, zsh_78, zsh_79, zsh_80, zsh_81, zsh_82, zsh_83, zsh_84, zsh_85, zsh_86, zsh_87, zup_ne, zup_eq, zup_nf, ne_eq, not_false_eq_true]
  rw [a.1, b.1, (h.pr h0 hi).1]
  exact ⟨by omega, by omega, rfl, rfl⟩
theorem zgp_step {P : Nat → Prop} {k : Nat} (h : ∀ i, i < k → P i) (hk : P k) : ∀ i, i < k + 1 → P i := fun i hi => by
  rcases Nat.lt_succ_iff_lt_or_eq.mp hi with q | q
  · exact h i q
  · rw [q]; exact hk
set_option maxRecDepth 100000 in
set_option maxHeartbeats 4000000 in
theorem c_X11_isBlock {d : Nat} {μ : zM} {D : List Int} (hd : 1 ≤ d) (h : zmR μ D) : zCt d mX11_isBlock [.inr (some 56)] μ (zR (.inl (zb (zisB (some D)))) μ) := by
  have h24 := h.1
  have hl := h.2.1
  obtain ⟨o, ho⟩ : ∃ o, o = some D := ⟨_, rfl⟩
  have hsz : zp_size o = D.length := by rw [ho]; rfl
  have hat := @zmR.at μ D
  have hpr := @zmR.pr μ D
  rw [← ho] at hat hpr ⊢
  obtain ⟨kd, hkd⟩ : ∃ kd, kd = zknd o := ⟨_, rfl⟩
  obtain ⟨n, hn⟩ : ∃ n, n = zp_byte o 1 := ⟨_, rfl⟩
  have hk0 : kd = zp_byte o 0 := by rw [hkd]; rfl
  refine of_X11_isBlock hd (fun G hG => s_X11_isBlock_0 hG ?_)
  -- the loops
  have loop1 : kd = 1 → (1 ≤ n ∧ n ≤ 4) → (D.length : Int) = 2 + 4 * n → ∀ (r k : Nat), (k : Int) + r = n → G 109 [.inr (some 56), .inl n, .inl (zb (∀ i : Nat, i < k → zgp1 o 1 i)), .inl (k : Int)] [] μ := by
    intro e1 e2 e3 r
    have ec : zcnt o = n := by unfold zcnt; rw [← hkd, e1, if_pos (Or.inl rfl), hn]
    induction r with
    | zero =>
      intro k k1
      refine s_X11_isBlock_109 hG ?_
      simp only [b_X11_isBlock_0, b_X11_isBlock_8, b_X11_isBlock_10, b_X11_isBlock_18, b_X11_isBlock_27, b_X11_isBlock_28, b_X11_isBlock_68, b_X11_isBlock_77, b_X11_isBlock_81, b_X11_isBlock_82, b_X11_isBlock_83, b_X11_isBlock_88, b_X11_isBlock_93, b_X11_isBlock_105, b_X11_isBlock_107, b_X11_isBlock_109, b_X11_isBlock_114, b_X11_isBlock_118, b_X11_isBlock_130, b_X11_isBlock_144, b_X11_isBlock_148, b_X11_isBlock_149, b_X11_isBlock_156, b_X11_isBlock_158, b_X11_isBlock_162, b_X11_isBlock_167, b_X11_isBlock_179, b_X11_isBlock_181, b_X11_isBlock_183, b_X11_isBlock_188, b_X11_isBlock_192, b_X11_isBlock_206, b_X11_isBlock_210, b_X11_isBlock_220, b_X11_isBlock_223, b_X11_isBlock_237, b_X11_isBlock_241, b_X11_isBlock_242, b_X11_isBlock_249, b_X11_isBlock_251, b_X11_isBlock_256, b_X11_isBlock_262, b_X11_isBlock_277, b_X11_isBlock_279, b_X11_isBlock_281, b_X11_isBlock_289, b_X11_isBlock_293, b_X11_isBlock_303, b_X11_isBlock_307, b_X11_isBlock_308, b_X11_isBlock_315, b_X11_isBlock_317, o_c, o_il, o_al, o_is, o_as, o_inc, o_add, o_sub, o_mul, o_and, o_or, o_xor, o_shl, o_shr, o_ush, o_rem, o_dup, o_dup2, o_gf, o_pf, o_pz, o_iald, o_iast, o_zald, o_zast, o_aald, o_gs, o_min, o_acp, o_call, o_callv, zgf, zpf, zia_, zza_, zra_, zrd_, zcp_, zpop, zsm8_0, zsm8_1, zsm8_2, zsm8_3, zsm8_4, zsm8_5, zrc, zisob, t_ieq, t_ilt, t_igt, t_zeq, t_zlt, t_zgt, t_sw, zsw, t_iret, t_zret, t_aret, t_vret, zrg, List.getElem?_cons_zero, List.getElem?_cons_succ, List.set_cons_zero, List.set_cons_succ, List.length_cons, List.length_nil, Option.toList_some, Option.toList_none, List.nil_append, List.cons_append, true_and, and_true, true_or, or_true, Int.cast_ofNat_Int, Int.natCast_zero, Int.natCast_one, zsh_56, zsh_57, zsh_58, zsh_59, zsh_60, zsh_61, zsh_62, zsh_63, zsh_64, zsh_65, zsh_66, zsh_67, zsh_68, zsh_69, zsh_70, zsh_71, zsh_72, zsh_73, zsh_74, zsh_75, zsh_76, zsh_77, zsh_78, zsh_79, zsh_80, zsh_81, zsh_82, zsh_83, zsh_84, zsh_85, zsh_86, zsh_87, zup_ne, zup_eq, zup_nf, ne_eq, not_false_eq_true]
      refine ⟨by omega, by omega, fun w => by omega, fun _ => ?_⟩
      have e : zb (∀ i : Nat, i < k → zgp1 o 1 i) = zb (zisB o) := by
        rcases zb_or (∀ i : Nat, i < k → zgp1 o 1 i) with ⟨q1, q2⟩ | ⟨q1, q2⟩
        · rw [q1]
          refine (zb_t (Or.inr ⟨by omega, ?_, ?_, ?_⟩)).symm
          · rw [← hkd, ← hn]; exact Or.inl ⟨e1, e2⟩
          · rw [hsz, ec, ← hkd, e1]; simp only [zpw]; simp; omega
          · rw [← hkd, e1]; intro i hi; exact q2 i (by omega)
        · rw [q1]
          refine (zb_f (fun w => q2 ?_)).symm
          rcases w with w | w
          · omega
          · intro i hi
            have := w.2.2.2 i (by omega)
            rw [← hkd, e1] at this
            exact this
      rw [e]
      exact ⟨zb_rg _, rfl, rfl⟩
    | succ r ih =>
      intro k k1
      refine s_X11_isBlock_109 hG ?_
      simp only [b_X11_isBlock_0, b_X11_isBlock_8, b_X11_isBlock_10, b_X11_isBlock_18, b_X11_isBlock_27, b_X11_isBlock_28, b_X11_isBlock_68, b_X11_isBlock_77, b_X11_isBlock_81, b_X11_isBlock_82, b_X11_isBlock_83, b_X11_isBlock_88, b_X11_isBlock_93, b_X11_isBlock_105, b_X11_isBlock_107, b_X11_isBlock_109, b_X11_isBlock_114, b_X11_isBlock_118, b_X11_isBlock_130, b_X11_isBlock_144, b_X11_isBlock_148, b_X11_isBlock_149, b_X11_isBlock_156, b_X11_isBlock_158, b_X11_isBlock_162, b_X11_isBlock_167, b_X11_isBlock_179, b_X11_isBlock_181, b_X11_isBlock_183, b_X11_isBlock_188, b_X11_isBlock_192, b_X11_isBlock_206, b_X11_isBlock_210, b_X11_isBlock_220, b_X11_isBlock_223, b_X11_isBlock_237, b_X11_isBlock_241, b_X11_isBlock_242, b_X11_isBlock_249, b_X11_isBlock_251, b_X11_isBlock_256, b_X11_isBlock_262, b_X11_isBlock_277, b_X11_isBlock_279, b_X11_isBlock_281, b_X11_isBlock_289, b_X11_isBlock_293, b_X11_isBlock_303, b_X11_isBlock_307, b_X11_isBlock_308, b_X11_isBlock_315, b_X11_isBlock_317, o_c, o_il, o_al, o_is, o_as, o_inc, o_add, o_sub, o_mul, o_and, o_or, o_xor, o_shl, o_shr, o_ush, o_rem, o_dup, o_dup2, o_gf, o_pf, o_pz, o_iald, o_iast, o_zald, o_zast, o_aald, o_gs, o_min, o_acp, o_call, o_callv, zgf, zpf, zia_, zza_, zra_, zrd_, zcp_, zpop, zsm8_0, zsm8_1, zsm8_2, zsm8_3, zsm8_4, zsm8_5, zrc, zisob, t_ieq, t_ilt, t_igt, t_zeq, t_zlt, t_zgt, t_sw, zsw, t_iret, t_zret, t_aret, t_vret, zrg, List.getElem?_cons_zero, List.getElem?_cons_succ, List.set_cons_zero, List.set_cons_succ, List.length_cons, List.length_nil, Option.toList_some, Option.toList_none, List.nil_append, List.cons_append, true_and, and_true, true_or, or_true, Int.cast_ofNat_Int, Int.natCast_zero, Int.natCast_one, zsh_56, zsh_57, zsh_58, zsh_59, zsh_60, zsh_61, zsh_62, zsh_63, zsh_64, zsh_65, zsh_66, zsh_67, zsh_68, zsh_69, zsh_70, zsh_71, zsh_72, zsh_73, zsh_74, zsh_75, zsh_76, zsh_77, zsh_78, zsh_79, zsh_80, zsh_81, zsh_82, zsh_83, zsh_84, zsh_85, zsh_86, zsh_87, zup_ne, zup_eq, zup_nf, ne_eq, not_false_eq_true]
      have e9 : zlnk o k = zp_pair o (4 + 4 * k) := by
        unfold zlnk
        rw [← hkd, e1, if_pos (by omega)]
        congr 1
        simp only [zpw]; simp; omega
      have e8 : zpsz o k = zp_pair o (2 + 4 * k) := by unfold zpsz; congr 1; omega
      have a1 := hpr (i := 4 + 4 * k) h (by omega) (by omega)
      have a2 := hpr (i := 2 + 4 * k) h (by omega) (by omega)
      refine ⟨by omega, by omega, fun _ => ?_, fun w => by omega⟩
      rcases zb_or (∀ i : Nat, i < k → zgp1 o 1 i) with ⟨q1, q2⟩ | ⟨q1, q2⟩
      · rw [q1]
        refine ⟨by omega, fun w => by omega, fun _ => ?_⟩
        refine zcall (c_X11_two h (by omega) (by omega)) ?_
        rw [← ho]
        simp only [b_X11_isBlock_0, b_X11_isBlock_8, b_X11_isBlock_10, b_X11_isBlock_18, b_X11_isBlock_27, b_X11_isBlock_28, b_X11_isBlock_68, b_X11_isBlock_77, b_X11_isBlock_81, b_X11_isBlock_82, b_X11_isBlock_83, b_X11_isBlock_88, b_X11_isBlock_93, b_X11_isBlock_105, b_X11_isBlock_107, b_X11_isBlock_109, b_X11_isBlock_114, b_X11_isBlock_118, b_X11_isBlock_130, b_X11_isBlock_144, b_X11_isBlock_148, b_X11_isBlock_149, b_X11_isBlock_156, b_X11_isBlock_158, b_X11_isBlock_162, b_X11_isBlock_167, b_X11_isBlock_179, b_X11_isBlock_181, b_X11_isBlock_183, b_X11_isBlock_188, b_X11_isBlock_192, b_X11_isBlock_206, b_X11_isBlock_210, b_X11_isBlock_220, b_X11_isBlock_223, b_X11_isBlock_237, b_X11_isBlock_241, b_X11_isBlock_242, b_X11_isBlock_249, b_X11_isBlock_251, b_X11_isBlock_256, b_X11_isBlock_262, b_X11_isBlock_277, b_X11_isBlock_279, b_X11_isBlock_281, b_X11_isBlock_289, b_X11_isBlock_293, b_X11_isBlock_303, b_X11_isBlock_307, b_X11_isBlock_308, b_X11_isBlock_315, b_X11_isBlock_317, o_c, o_il, o_al, o_is, o_as, o_inc, o_add, o_sub, o_mul, o_and, o_or, o_xor, o_shl, o_shr, o_ush, o_rem, o_dup, o_dup2, o_gf, o_pf, o_pz, o_iald, o_iast, o_zald, o_zast, o_aald, o_gs, o_min, o_acp, o_call, o_callv, zgf, zpf, zia_, zza_, zra_, zrd_, zcp_, zpop, zsm8_0, zsm8_1, zsm8_2, zsm8_3, zsm8_4, zsm8_5, zrc, zisob, t_ieq, t_ilt, t_igt, t_zeq, t_zlt, t_zgt, t_sw, zsw, t_iret, t_zret, t_aret, t_vret, zrg, List.getElem?_cons_zero, List.getElem?_cons_succ, List.set_cons_zero, List.set_cons_succ, List.length_cons, List.length_nil, Option.toList_some, Option.toList_none, List.nil_append, List.cons_append, true_and, and_true, true_or, or_true, Int.cast_ofNat_Int, Int.natCast_zero, Int.natCast_one, zsh_56, zsh_57, zsh_58, zsh_59, zsh_60, zsh_61, zsh_62, zsh_63, zsh_64, zsh_65, zsh_66, zsh_67, zsh_68, zsh_69, zsh_70, zsh_71, zsh_72, zsh_73, zsh_74, zsh_75, zsh_76, zsh_77, zsh_78, zsh_79, zsh_80, zsh_81, zsh_82, zsh_83, zsh_84, zsh_85, zsh_86, zsh_87, zup_ne, zup_eq, zup_nf, ne_eq, not_false_eq_true]
        refine ⟨by omega, fun w1 => ?_, fun w1 => ?_⟩
        · refine zcall (c_X11_two h (by omega) (by omega)) ?_
          rw [← ho]
          simp only [b_X11_isBlock_0, b_X11_isBlock_8, b_X11_isBlock_10, b_X11_isBlock_18, b_X11_isBlock_27, b_X11_isBlock_28, b_X11_isBlock_68, b_X11_isBlock_77, b_X11_isBlock_81, b_X11_isBlock_82, b_X11_isBlock_83, b_X11_isBlock_88, b_X11_isBlock_93, b_X11_isBlock_105, b_X11_isBlock_107, b_X11_isBlock_109, b_X11_isBlock_114, b_X11_isBlock_118, b_X11_isBlock_130, b_X11_isBlock_144, b_X11_isBlock_148, b_X11_isBlock_149, b_X11_isBlock_156, b_X11_isBlock_158, b_X11_isBlock_162, b_X11_isBlock_167, b_X11_isBlock_179, b_X11_isBlock_181, b_X11_isBlock_183, b_X11_isBlock_188, b_X11_isBlock_192, b_X11_isBlock_206, b_X11_isBlock_210, b_X11_isBlock_220, b_X11_isBlock_223, b_X11_isBlock_237, b_X11_isBlock_241, b_X11_isBlock_242, b_X11_isBlock_249, b_X11_isBlock_251, b_X11_isBlock_256, b_X11_isBlock_262, b_X11_isBlock_277, b_X11_isBlock_279, b_X11_isBlock_281, b_X11_isBlock_289, b_X11_isBlock_293, b_X11_isBlock_303, b_X11_isBlock_307, b_X11_isBlock_308, b_X11_isBlock_315, b_X11_isBlock_317, o_c, o_il, o_al, o_is, o_as, o_inc, o_add, o_sub, o_mul, o_and, o_or, o_xor, o_shl, o_shr, o_ush, o_rem, o_dup, o_dup2, o_gf, o_pf, o_pz, o_iald, o_iast, o_zald, o_zast, o_aald, o_gs, o_min, o_acp, o_call, o_callv, zgf, zpf, zia_, zza_, zra_, zrd_, zcp_, zpop, zsm8_0, zsm8_1, zsm8_2, zsm8_3, zsm8_4, zsm8_5, zrc, zisob, t_ieq, t_ilt, t_igt, t_zeq, t_zlt, t_zgt, t_sw, zsw, t_iret, t_zret, t_aret, t_vret, zrg, List.getElem?_cons_zero, List.getElem?_cons_succ, List.set_cons_zero, List.set_cons_succ, List.length_cons, List.length_nil, Option.toList_some, Option.toList_none, List.nil_append, List.cons_append, true_and, and_true, true_or, or_true, Int.cast_ofNat_Int, Int.natCast_zero, Int.natCast_one, zsh_56, zsh_57, zsh_58, zsh_59, zsh_60, zsh_61, zsh_62, zsh_63, zsh_64, zsh_65, zsh_66, zsh_67, zsh_68, zsh_69, zsh_70, zsh_71, zsh_72, zsh_73, zsh_74, zsh_75, zsh_76, zsh_77, zsh_78, zsh_79, zsh_80, zsh_81, zsh_82, zsh_83, zsh_84, zsh_85, zsh_86, zsh_87, zup_ne, zup_eq, zup_nf, ne_eq, not_false_eq_true]
          refine ⟨by omega, by omega, fun w2 => ?_, fun w2 => ?_⟩
          · have := ih (k + 1) (by omega)
            rw [zb_f (fun w => by have := (w k (by omega)).1.2; omega)] at this
            exact this
          · have := ih (k + 1) (by omega)
            rw [zb_t (zgp_step q2 ⟨by omega, fun _ => by omega, fun w => by omega⟩)] at this
            exact this
        · have := ih (k + 1) (by omega)
          rw [zb_f (fun w => by have := (w k (by omega)).2.1 rfl; omega)] at this
          exact this
      · rw [q1]
        refine ⟨by omega, fun _ => ?_, fun w => absurd rfl w⟩
        have := ih (k + 1) (by omega)
        rw [zb_f (fun w => q2 (fun i hi => w i (by omega)))] at this
        exact this
  have loop2 : kd = 2 → (0 ≤ n ∧ n ≤ 4) → (D.length : Int) = 2 + 3 * n → ∀ (r k : Nat), (k : Int) + r = n → G 183 [.inr (some 56), .inl n, .inl (zb (∀ i : Nat, i < k → zgp1 o 2 i)), .inl (k : Int)] [] μ := by
    intro e1 e2 e3 r
    have ec : zcnt o = n := by unfold zcnt; rw [← hkd, e1, if_pos (Or.inr rfl), hn]
    induction r with
    | zero =>
      intro k k1
      refine s_X11_isBlock_183 hG ?_
      simp only [b_X11_isBlock_0, b_X11_isBlock_8, b_X11_isBlock_10, b_X11_isBlock_18, b_X11_isBlock_27, b_X11_isBlock_28, b_X11_isBlock_68, b_X11_isBlock_77, b_X11_isBlock_81, b_X11_isBlock_82, b_X11_isBlock_83, b_X11_isBlock_88, b_X11_isBlock_93, b_X11_isBlock_105, b_X11_isBlock_107, b_X11_isBlock_109, b_X11_isBlock_114, b_X11_isBlock_118, b_X11_isBlock_130, b_X11_isBlock_144, b_X11_isBlock_148, b_X11_isBlock_149, b_X11_isBlock_156, b_X11_isBlock_158, b_X11_isBlock_162, b_X11_isBlock_167, b_X11_isBlock_179, b_X11_isBlock_181, b_X11_isBlock_183, b_X11_isBlock_188, b_X11_isBlock_192, b_X11_isBlock_206, b_X11_isBlock_210, b_X11_isBlock_220, b_X11_isBlock_223, b_X11_isBlock_237, b_X11_isBlock_241, b_X11_isBlock_242, b_X11_isBlock_249, b_X11_isBlock_251, b_X11_isBlock_256, b_X11_isBlock_262, b_X11_isBlock_277, b_X11_isBlock_279, b_X11_isBlock_281, b_X11_isBlock_289, b_X11_isBlock_293, b_X11_isBlock_303, b_X11_isBlock_307, b_X11_isBlock_308, b_X11_isBlock_315, b_X11_isBlock_317, o_c, o_il, o_al, o_is, o_as, o_inc, o_add, o_sub, o_mul, o_and, o_or, o_xor, o_shl, o_shr, o_ush, o_rem, o_dup, o_dup2, o_gf, o_pf, o_pz, o_iald, o_iast, o_zald, o_zast, o_aald, o_gs, o_min, o_acp, o_call, o_callv, zgf, zpf, zia_, zza_, zra_, zrd_, zcp_, zpop, zsm8_0, zsm8_1, zsm8_2, zsm8_3, zsm8_4, zsm8_5, zrc, zisob, t_ieq, t_ilt, t_igt, t_zeq, t_zlt, t_zgt, t_sw, zsw, t_iret, t_zret, t_aret, t_vret, zrg, List.getElem?_cons_zero, List.getElem?_cons_succ, List.set_cons_zero, List.set_cons_succ, List.length_cons, List.length_nil, Option.toList_some, Option.toList_none, List.nil_append, List.cons_append, true_and, and_true, true_or, or_true, Int.cast_ofNat_Int, Int.natCast_zero, Int.natCast_one, zsh_56, zsh_57, zsh_58, zsh_59, zsh_60, zsh_61, zsh_62, zsh_63, zsh_64, zsh_65, zsh_66, zsh_67, zsh_68, zsh_69, zsh_70, zsh_71, zsh_72, zsh_73, zsh_74, zsh_75, zsh_76, zsh_77, zsh_78, zsh_79, zsh_80, zsh_81, zsh_82, zsh_83, zsh_84, zsh_85, zsh_86, zsh_87, zup_ne, zup_eq, zup_nf, ne_eq, not_false_eq_true]
      refine ⟨by omega, by omega, fun w => by omega, fun _ => ?_⟩
      have e : zb (∀ i : Nat, i < k → zgp1 o 2 i) = zb (zisB o) := by
        rcases zb_or (∀ i : Nat, i < k → zgp1 o 2 i) with ⟨q1, q2⟩ | ⟨q1, q2⟩
        · rw [q1]
          refine (zb_t (Or.inr ⟨by omega, ?_, ?_, ?_⟩)).symm
          · rw [← hkd, ← hn]; exact Or.inr (Or.inl ⟨e1, e2⟩)
          · rw [hsz, ec, ← hkd, e1]; simp only [zpw]; simp; omega
          · rw [← hkd, e1]; intro i hi; exact q2 i (by omega)
        · rw [q1]
          refine (zb_f (fun w => q2 ?_)).symm
          rcases w with w | w
          · omega
          · intro i hi
            have := w.2.2.2 i (by omega)
            rw [← hkd, e1] at this
            exact this
      rw [e]
      exact ⟨zb_rg _, rfl, rfl⟩
    | succ r ih =>
      intro k k1
      refine s_X11_isBlock_183 hG ?_
      simp only [b_X11_isBlock_0, b_X11_isBlock_8, b_X11_isBlock_10, b_X11_isBlock_18, b_X11_isBlock_27, b_X11_isBlock_28, b_X11_isBlock_68, b_X11_isBlock_77, b_X11_isBlock_81, b_X11_isBlock_82, b_X11_isBlock_83, b_X11_isBlock_88, b_X11_isBlock_93, b_X11_isBlock_105, b_X11_isBlock_107, b_X11_isBlock_109, b_X11_isBlock_114, b_X11_isBlock_118, b_X11_isBlock_130, b_X11_isBlock_144, b_X11_isBlock_148, b_X11_isBlock_149, b_X11_isBlock_156, b_X11_isBlock_158, b_X11_isBlock_162, b_X11_isBlock_167, b_X11_isBlock_179, b_X11_isBlock_181, b_X11_isBlock_183, b_X11_isBlock_188, b_X11_isBlock_192, b_X11_isBlock_206, b_X11_isBlock_210, b_X11_isBlock_220, b_X11_isBlock_223, b_X11_isBlock_237, b_X11_isBlock_241, b_X11_isBlock_242, b_X11_isBlock_249, b_X11_isBlock_251, b_X11_isBlock_256, b_X11_isBlock_262, b_X11_isBlock_277, b_X11_isBlock_279, b_X11_isBlock_281, b_X11_isBlock_289, b_X11_isBlock_293, b_X11_isBlock_303, b_X11_isBlock_307, b_X11_isBlock_308, b_X11_isBlock_315, b_X11_isBlock_317, o_c, o_il, o_al, o_is, o_as, o_inc, o_add, o_sub, o_mul, o_and, o_or, o_xor, o_shl, o_shr, o_ush, o_rem, o_dup, o_dup2, o_gf, o_pf, o_pz, o_iald, o_iast, o_zald, o_zast, o_aald, o_gs, o_min, o_acp, o_call, o_callv, zgf, zpf, zia_, zza_, zra_, zrd_, zcp_, zpop, zsm8_0, zsm8_1, zsm8_2, zsm8_3, zsm8_4, zsm8_5, zrc, zisob, t_ieq, t_ilt, t_igt, t_zeq, t_zlt, t_zgt, t_sw, zsw, t_iret, t_zret, t_aret, t_vret, zrg, List.getElem?_cons_zero, List.getElem?_cons_succ, List.set_cons_zero, List.set_cons_succ, List.length_cons, List.length_nil, Option.toList_some, Option.toList_none, List.nil_append, List.cons_append, true_and, and_true, true_or, or_true, Int.cast_ofNat_Int, Int.natCast_zero, Int.natCast_one, zsh_56, zsh_57, zsh_58, zsh_59, zsh_60, zsh_61, zsh_62, zsh_63, zsh_64, zsh_65, zsh_66, zsh_67, zsh_68, zsh_69, zsh_70, zsh_71, zsh_72, zsh_73, zsh_74, zsh_75, zsh_76, zsh_77, zsh_78, zsh_79, zsh_80, zsh_81, zsh_82, zsh_83, zsh_84, zsh_85, zsh_86, zsh_87, zup_ne, zup_eq, zup_nf, ne_eq, not_false_eq_true]
      have e9 : zlnk o k = zp_pair o (3 + 3 * k) := by
        unfold zlnk
        rw [← hkd, e1, if_pos (by omega)]
        congr 1
        simp only [zpw]; simp; omega
      have e8 : zptt o k = zp_byte o (2 + 3 * k) := by unfold zptt; congr 1; omega
      have e7 : zptt o ((k : Int) - 1) = zp_byte o (3 * k - 1) := by unfold zptt; congr 1; omega
      have a1 := hpr (i := 3 + 3 * k) h (by omega) (by omega)
      have a2 := hat (i := 2 + 3 * k) h (by omega) (by omega)
      refine ⟨by omega, by omega, fun _ => ?_, fun w => by omega⟩
      rcases zb_or (∀ i : Nat, i < k → zgp1 o 2 i) with ⟨q1, q2⟩ | ⟨q1, q2⟩
      · rw [q1]
        have key : ∀ y : Int, (0 ≤ y ∧ y ≤ 255) → y = (if (k : Int) = 0 then 0 else zptt o ((k : Int) - 1)) → G 220 [.inr (some 56), .inl n, .inl 1, .inl (k : Int)] [.inl y, .inl (zp_byte o (2 + 3 * k))] μ := by
          intro y hy0 hy
          refine s_X11_isBlock_220 hG ?_
          simp only [b_X11_isBlock_0, b_X11_isBlock_8, b_X11_isBlock_10, b_X11_isBlock_18, b_X11_isBlock_27, b_X11_isBlock_28, b_X11_isBlock_68, b_X11_isBlock_77, b_X11_isBlock_81, b_X11_isBlock_82, b_X11_isBlock_83, b_X11_isBlock_88, b_X11_isBlock_93, b_X11_isBlock_105, b_X11_isBlock_107, b_X11_isBlock_109, b_X11_isBlock_114, b_X11_isBlock_118, b_X11_isBlock_130, b_X11_isBlock_144, b_X11_isBlock_148, b_X11_isBlock_149, b_X11_isBlock_156, b_X11_isBlock_158, b_X11_isBlock_162, b_X11_isBlock_167, b_X11_isBlock_179, b_X11_isBlock_181, b_X11_isBlock_183, b_X11_isBlock_188, b_X11_isBlock_192, b_X11_isBlock_206, b_X11_isBlock_210, b_X11_isBlock_220, b_X11_isBlock_223, b_X11_isBlock_237, b_X11_isBlock_241, b_X11_isBlock_242, b_X11_isBlock_249, b_X11_isBlock_251, b_X11_isBlock_256, b_X11_isBlock_262, b_X11_isBlock_277, b_X11_isBlock_279, b_X11_isBlock_281, b_X11_isBlock_289, b_X11_isBlock_293, b_X11_isBlock_303, b_X11_isBlock_307, b_X11_isBlock_308, b_X11_isBlock_315, b_X11_isBlock_317, o_c, o_il, o_al, o_is, o_as, o_inc, o_add, o_sub, o_mul, o_and, o_or, o_xor, o_shl, o_shr, o_ush, o_rem, o_dup, o_dup2, o_gf, o_pf, o_pz, o_iald, o_iast, o_zald, o_zast, o_aald, o_gs, o_min, o_acp, o_call, o_callv, zgf, zpf, zia_, zza_, zra_, zrd_, zcp_, zpop, zsm8_0, zsm8_1, zsm8_2, zsm8_3, zsm8_4, zsm8_5, zrc, zisob, t_ieq, t_ilt, t_igt, t_zeq, t_zlt, t_zgt, t_sw, zsw, t_iret, t_zret, t_aret, t_vret, zrg, List.getElem?_cons_zero, List.getElem?_cons_succ, List.set_cons_zero, List.set_cons_succ, List.length_cons, List.length_nil, Option.toList_some, Option.toList_none, List.nil_append, List.cons_append, true_and, and_true, true_or, or_true, Int.cast_ofNat_Int, Int.natCast_zero, Int.natCast_one, zsh_56, zsh_57, zsh_58, zsh_59, zsh_60, zsh_61, zsh_62, zsh_63, zsh_64, zsh_65, zsh_66, zsh_67, zsh_68, zsh_69, zsh_70, zsh_71, zsh_72, zsh_73, zsh_74, zsh_75, zsh_76, zsh_77, zsh_78, zsh_79, zsh_80, zsh_81, zsh_82, zsh_83, zsh_84, zsh_85, zsh_86, zsh_87, zup_ne, zup_eq, zup_nf, ne_eq, not_false_eq_true]
          refine ⟨by omega, by omega, fun w1 => ?_, fun w1 => ?_⟩
          · refine zcall (c_X11_two h (by omega) (by omega)) ?_
            rw [← ho]
            simp only [b_X11_isBlock_0, b_X11_isBlock_8, b_X11_isBlock_10, b_X11_isBlock_18, b_X11_isBlock_27, b_X11_isBlock_28, b_X11_isBlock_68, b_X11_isBlock_77, b_X11_isBlock_81, b_X11_isBlock_82, b_X11_isBlock_83, b_X11_isBlock_88, b_X11_isBlock_93, b_X11_isBlock_105, b_X11_isBlock_107, b_X11_isBlock_109, b_X11_isBlock_114, b_X11_isBlock_118, b_X11_isBlock_130, b_X11_isBlock_144, b_X11_isBlock_148, b_X11_isBlock_149, b_X11_isBlock_156, b_X11_isBlock_158, b_X11_isBlock_162, b_X11_isBlock_167, b_X11_isBlock_179, b_X11_isBlock_181, b_X11_isBlock_183, b_X11_isBlock_188, b_X11_isBlock_192, b_X11_isBlock_206, b_X11_isBlock_210, b_X11_isBlock_220, b_X11_isBlock_223, b_X11_isBlock_237, b_X11_isBlock_241, b_X11_isBlock_242, b_X11_isBlock_249, b_X11_isBlock_251, b_X11_isBlock_256, b_X11_isBlock_262, b_X11_isBlock_277, b_X11_isBlock_279, b_X11_isBlock_281, b_X11_isBlock_289, b_X11_isBlock_293, b_X11_isBlock_303, b_X11_isBlock_307, b_X11_isBlock_308, b_X11_isBlock_315, b_X11_isBlock_317, o_c, o_il, o_al, o_is, o_as, o_inc, o_add, o_sub, o_mul, o_and, o_or, o_xor, o_shl, o_shr, o_ush, o_rem, o_dup, o_dup2, o_gf, o_pf, o_pz, o_iald, o_iast, o_zald, o_zast, o_aald, o_gs, o_min, o_acp, o_call, o_callv, zgf, zpf, zia_, zza_, zra_, zrd_, zcp_, zpop, zsm8_0, zsm8_1, zsm8_2, zsm8_3, zsm8_4, zsm8_5, zrc, zisob, t_ieq, t_ilt, t_igt, t_zeq, t_zlt, t_zgt, t_sw, zsw, t_iret, t_zret, t_aret, t_vret, zrg, List.getElem?_cons_zero, List.getElem?_cons_succ, List.set_cons_zero, List.set_cons_succ, List.length_cons, List.length_nil, Option.toList_some, Option.toList_none, List.nil_append, List.cons_append, true_and, and_true, true_or, or_true, Int.cast_ofNat_Int, Int.natCast_zero, Int.natCast_one, zsh_56, zsh_57, zsh_58, zsh_59, zsh_60, zsh_61, zsh_62, zsh_63, zsh_64, zsh_65, zsh_66, zsh_67, zsh_68, zsh_69, zsh_70, zsh_71, zsh_72, zsh_73, zsh_74, zsh_75, zsh_76, zsh_77, zsh_78, zsh_79, zsh_80, zsh_81, zsh_82, zsh_83, zsh_84, zsh_85, zsh_86, zsh_87, zup_ne, zup_eq, zup_nf, ne_eq, not_false_eq_true]
            refine ⟨by omega, by omega, fun w2 => ?_, fun w2 => ?_⟩
            · have := ih (k + 1) (by omega)
              rw [zb_f (fun w => by have := (w k (by omega)).1.2; omega)] at this
              exact this
            · have := ih (k + 1) (by omega)
              rw [zb_t (zgp_step q2 ⟨by omega, fun w => by omega, fun _ => by rw [← hy, e8]; exact w1⟩)] at this
              exact this
          · have := ih (k + 1) (by omega)
            rw [zb_f (fun w => by have := (w k (by omega)).2.2 rfl; rw [← hy, e8] at this; omega)] at this
            exact this
        refine ⟨by omega, fun w => by omega, fun _ => ⟨by omega, by omega, fun w => ?_, fun w => ⟨by omega, ?_⟩⟩⟩
        · rw [a2.1]
          exact key 0 (by omega) (by rw [if_pos w])
        · have a3 := hat (i := 3 * k - 1) h (by omega) (by omega)
          rw [a2.1, a3.1]
          exact key _ (by omega) (by rw [if_neg w, e7])
      · rw [q1]
        refine ⟨by omega, fun _ => ?_, fun w => absurd rfl w⟩
        have := ih (k + 1) (by omega)
        rw [zb_f (fun w => q2 (fun i hi => w i (by omega)))] at this
        exact this
  have loop3 : kd = 3 → (1 ≤ n ∧ n ≤ 15) → (D.length : Int) = 2 + 2 * zpc n → ∀ (r k : Nat), (k : Int) + r = zpc n → G 281 [.inr (some 56), .inl n, .inl (zb (∀ i : Nat, i < k → zgp1 o 3 i)), .inl (2 + 2 * (k : Int))] [] μ := by
    intro e1 e2 e3 r
    have ec : zcnt o = zpc n := by unfold zcnt; rw [← hkd, e1, if_neg (by omega), if_pos rfl, hn]
    induction r with
    | zero =>
      intro k k1
      refine s_X11_isBlock_281 hG ?_
      simp only [b_X11_isBlock_0, b_X11_isBlock_8, b_X11_isBlock_10, b_X11_isBlock_18, b_X11_isBlock_27, b_X11_isBlock_28, b_X11_isBlock_68, b_X11_isBlock_77, b_X11_isBlock_81, b_X11_isBlock_82, b_X11_isBlock_83, b_X11_isBlock_88, b_X11_isBlock_93, b_X11_isBlock_105, b_X11_isBlock_107, b_X11_isBlock_109, b_X11_isBlock_114, b_X11_isBlock_118, b_X11_isBlock_130, b_X11_isBlock_144, b_X11_isBlock_148, b_X11_isBlock_149, b_X11_isBlock_156, b_X11_isBlock_158, b_X11_isBlock_162, b_X11_isBlock_167, b_X11_isBlock_179, b_X11_isBlock_181, b_X11_isBlock_183, b_X11_isBlock_188, b_X11_isBlock_192, b_X11_isBlock_206, b_X11_isBlock_210, b_X11_isBlock_220, b_X11_isBlock_223, b_X11_isBlock_237, b_X11_isBlock_241, b_X11_isBlock_242, b_X11_isBlock_249, b_X11_isBlock_251, b_X11_isBlock_256, b_X11_isBlock_262, b_X11_isBlock_277, b_X11_isBlock_279, b_X11_isBlock_281, b_X11_isBlock_289, b_X11_isBlock_293, b_X11_isBlock_303, b_X11_isBlock_307, b_X11_isBlock_308, b_X11_isBlock_315, b_X11_isBlock_317, o_c, o_il, o_al, o_is, o_as, o_inc, o_add, o_sub, o_mul, o_and, o_or, o_xor, o_shl, o_shr, o_ush, o_rem, o_dup, o_dup2, o_gf, o_pf, o_pz, o_iald, o_iast, o_zald, o_zast, o_aald, o_gs, o_min, o_acp, o_call, o_callv, zgf, zpf, zia_, zza_, zra_, zrd_, zcp_, zpop, zsm8_0, zsm8_1, zsm8_2, zsm8_3, zsm8_4, zsm8_5, zrc, zisob, t_ieq, t_ilt, t_igt, t_zeq, t_zlt, t_zgt, t_sw, zsw, t_iret, t_zret, t_aret, t_vret, zrg, List.getElem?_cons_zero, List.getElem?_cons_succ, List.set_cons_zero, List.set_cons_succ, List.length_cons, List.length_nil, Option.toList_some, Option.toList_none, List.nil_append, List.cons_append, true_and, and_true, true_or, or_true, Int.cast_ofNat_Int, Int.natCast_zero, Int.natCast_one, zsh_56, zsh_57, zsh_58, zsh_59, zsh_60, zsh_61, zsh_62, zsh_63, zsh_64, zsh_65, zsh_66, zsh_67, zsh_68, zsh_69, zsh_70, zsh_71, zsh_72, zsh_73, zsh_74, zsh_75, zsh_76, zsh_77, zsh_78, zsh_79, zsh_80, zsh_81, zsh_82, zsh_83, zsh_84, zsh_85, zsh_86, zsh_87, zup_ne, zup_eq, zup_nf, ne_eq, not_false_eq_true]
      refine ⟨by omega, by omega, fun w => by omega, fun _ => ?_⟩
      have e : zb (∀ i : Nat, i < k → zgp1 o 3 i) = zb (zisB o) := by
        rcases zb_or (∀ i : Nat, i < k → zgp1 o 3 i) with ⟨q1, q2⟩ | ⟨q1, q2⟩
        · rw [q1]
          refine (zb_t (Or.inr ⟨by omega, ?_, ?_, ?_⟩)).symm
          · rw [← hkd, ← hn]; exact Or.inr (Or.inr ⟨by omega, by omega, e2⟩)
          · rw [hsz, ec, ← hkd, e1]; simp only [zpw]; simp; omega
          · rw [← hkd, e1]; intro i hi; exact q2 i (by omega)
        · rw [q1]
          refine (zb_f (fun w => q2 ?_)).symm
          rcases w with w | w
          · omega
          · intro i hi
            have := w.2.2.2 i (by omega)
            rw [← hkd, e1] at this
            exact this
      rw [e]
      exact ⟨zb_rg _, rfl, rfl⟩
    | succ r ih =>
      intro k k1
      refine s_X11_isBlock_281 hG ?_
      simp only [b_X11_isBlock_0, b_X11_isBlock_8, b_X11_isBlock_10, b_X11_isBlock_18, b_X11_isBlock_27, b_X11_isBlock_28, b_X11_isBlock_68, b_X11_isBlock_77, b_X11_isBlock_81, b_X11_isBlock_82, b_X11_isBlock_83, b_X11_isBlock_88, b_X11_isBlock_93, b_X11_isBlock_105, b_X11_isBlock_107, b_X11_isBlock_109, b_X11_isBlock_114, b_X11_isBlock_118, b_X11_isBlock_130, b_X11_isBlock_144, b_X11_isBlock_148, b_X11_isBlock_149, b_X11_isBlock_156, b_X11_isBlock_158, b_X11_isBlock_162, b_X11_isBlock_167, b_X11_isBlock_179, b_X11_isBlock_181, b_X11_isBlock_183, b_X11_isBlock_188, b_X11_isBlock_192, b_X11_isBlock_206, b_X11_isBlock_210, b_X11_isBlock_220, b_X11_isBlock_223, b_X11_isBlock_237, b_X11_isBlock_241, b_X11_isBlock_242, b_X11_isBlock_249, b_X11_isBlock_251, b_X11_isBlock_256, b_X11_isBlock_262, b_X11_isBlock_277, b_X11_isBlock_279, b_X11_isBlock_281, b_X11_isBlock_289, b_X11_isBlock_293, b_X11_isBlock_303, b_X11_isBlock_307, b_X11_isBlock_308, b_X11_isBlock_315, b_X11_isBlock_317, o_c, o_il, o_al, o_is, o_as, o_inc, o_add, o_sub, o_mul, o_and, o_or, o_xor, o_shl, o_shr, o_ush, o_rem, o_dup, o_dup2, o_gf, o_pf, o_pz, o_iald, o_iast, o_zald, o_zast, o_aald, o_gs, o_min, o_acp, o_call, o_callv, zgf, zpf, zia_, zza_, zra_, zrd_, zcp_, zpop, zsm8_0, zsm8_1, zsm8_2, zsm8_3, zsm8_4, zsm8_5, zrc, zisob, t_ieq, t_ilt, t_igt, t_zeq, t_zlt, t_zgt, t_sw, zsw, t_iret, t_zret, t_aret, t_vret, zrg, List.getElem?_cons_zero, List.getElem?_cons_succ, List.set_cons_zero, List.set_cons_succ, List.length_cons, List.length_nil, Option.toList_some, Option.toList_none, List.nil_append, List.cons_append, true_and, and_true, true_or, or_true, Int.cast_ofNat_Int, Int.natCast_zero, Int.natCast_one, zsh_56, zsh_57, zsh_58, zsh_59, zsh_60, zsh_61, zsh_62, zsh_63, zsh_64, zsh_65, zsh_66, zsh_67, zsh_68, zsh_69, zsh_70, zsh_71, zsh_72, zsh_73, zsh_74, zsh_75, zsh_76, zsh_77, zsh_78, zsh_79, zsh_80, zsh_81, zsh_82, zsh_83, zsh_84, zsh_85, zsh_86, zsh_87, zup_ne, zup_eq, zup_nf, ne_eq, not_false_eq_true]
      have e9 : zlnk o k = zp_pair o (2 + 2 * k) := by
        unfold zlnk
        rw [← hkd, e1, if_pos (by omega)]
        congr 1
        simp only [zpw]; simp; omega
      have a1 := hpr (i := 2 + 2 * k) h (by omega) (by omega)
      have nx : (2 : Int) + 2 * k + 2 = 2 + 2 * ((k + 1 : Nat) : Int) := by omega
      refine ⟨by omega, by omega, fun _ => ?_, fun w => by omega⟩
      rcases zb_or (∀ i : Nat, i < k → zgp1 o 3 i) with ⟨q1, q2⟩ | ⟨q1, q2⟩
      · rw [q1]
        refine ⟨by omega, fun w => by omega, fun _ => ?_⟩
        refine zcall (c_X11_two h (by omega) (by omega)) ?_
        rw [← ho]
        simp only [b_X11_isBlock_0, b_X11_isBlock_8, b_X11_isBlock_10, b_X11_isBlock_18, b_X11_isBlock_27, b_X11_isBlock_28, b_X11_isBlock_68, b_X11_isBlock_77, b_X11_isBlock_81, b_X11_isBlock_82, b_X11_isBlock_83, b_X11_isBlock_88, b_X11_isBlock_93, b_X11_isBlock_105, b_X11_isBlock_107, b_X11_isBlock_109, b_X11_isBlock_114, b_X11_isBlock_118, b_X11_isBlock_130, b_X11_isBlock_144, b_X11_isBlock_148, b_X11_isBlock_149, b_X11_isBlock_156, b_X11_isBlock_158, b_X11_isBlock_162, b_X11_isBlock_167, b_X11_isBlock_179, b_X11_isBlock_181, b_X11_isBlock_183, b_X11_isBlock_188, b_X11_isBlock_192, b_X11_isBlock_206, b_X11_isBlock_210, b_X11_isBlock_220, b_X11_isBlock_223, b_X11_isBlock_237, b_X11_isBlock_241, b_X11_isBlock_242, b_X11_isBlock_249, b_X11_isBlock_251, b_X11_isBlock_256, b_X11_isBlock_262, b_X11_isBlock_277, b_X11_isBlock_279, b_X11_isBlock_281, b_X11_isBlock_289, b_X11_isBlock_293, b_X11_isBlock_303, b_X11_isBlock_307, b_X11_isBlock_308, b_X11_isBlock_315, b_X11_isBlock_317, o_c, o_il, o_al, o_is, o_as, o_inc, o_add, o_sub, o_mul, o_and, o_or, o_xor, o_shl, o_shr, o_ush, o_rem, o_dup, o_dup2, o_gf, o_pf, o_pz, o_iald, o_iast, o_zald, o_zast, o_aald, o_gs, o_min, o_acp, o_call, o_callv, zgf, zpf, zia_, zza_, zra_, zrd_, zcp_, zpop, zsm8_0, zsm8_1, zsm8_2, zsm8_3, zsm8_4, zsm8_5, zrc, zisob, t_ieq, t_ilt, t_igt, t_zeq, t_zlt, t_zgt, t_sw, zsw, t_iret, t_zret, t_aret, t_vret, zrg, List.getElem?_cons_zero, List.getElem?_cons_succ, List.set_cons_zero, List.set_cons_succ, List.length_cons, List.length_nil, Option.toList_some, Option.toList_none, List.nil_append, List.cons_append, true_and, and_true, true_or, or_true, Int.cast_ofNat_Int, Int.natCast_zero, Int.natCast_one, zsh_56, zsh_57, zsh_58, zsh_59, zsh_60, zsh_61, zsh_62, zsh_63, zsh_64, zsh_65, zsh_66, zsh_67, zsh_68, zsh_69, zsh_70, zsh_71, zsh_72, zsh_73, zsh_74, zsh_75, zsh_76, zsh_77, zsh_78, zsh_79, zsh_80, zsh_81, zsh_82, zsh_83, zsh_84, zsh_85, zsh_86, zsh_87, zup_ne, zup_eq, zup_nf, ne_eq, not_false_eq_true]
        rw [nx]
        refine ⟨by omega, by omega, fun w2 => ?_, fun w2 => ?_⟩
        · have := ih (k + 1) (by omega)
          rw [zb_f (fun w => by have := (w k (by omega)).1.2; omega)] at this
          exact this
        · have := ih (k + 1) (by omega)
          rw [zb_t (zgp_step q2 ⟨by omega, fun w => by omega, fun w => by omega⟩)] at this
          exact this
      · rw [q1, nx]
        refine ⟨by omega, fun _ => ?_, fun w => absurd rfl w⟩
        have := ih (k + 1) (by omega)
        rw [zb_f (fun w => q2 (fun i hi => w i (by omega)))] at this
        exact this
  have all0 : zb (∀ i : Nat, i < 0 → zgp1 o kd i) = 1 := zb_t (fun i hi => by omega)
  have hpc : (0 ≤ n ∧ n ≤ 15) → 0 ≤ zpc n ∧ zpc n ≤ 4 := fun hq => by
    obtain ⟨m, rfl⟩ := Int.eq_ofNat_of_zero_le hq.1
    have := zpc15 ⟨m, by omega⟩
    change zpcn 16 m ≤ 4 at this
    unfold zpc
    simp only [Int.toNat_natCast]
    omega
  have mid : 1 ≤ D.length → G 28 [.inr (some 56), .inr none, .inr none, .inr none] [.inl n] μ := by
    intro h1
    have a0 := hat (i := 0) h (by omega) (by omega)
    refine s_X11_isBlock_28 hG ?_
    simp only [b_X11_isBlock_0, b_X11_isBlock_8, b_X11_isBlock_10, b_X11_isBlock_18, b_X11_isBlock_27, b_X11_isBlock_28, b_X11_isBlock_68, b_X11_isBlock_77, b_X11_isBlock_81, b_X11_isBlock_82, b_X11_isBlock_83, b_X11_isBlock_88, b_X11_isBlock_93, b_X11_isBlock_105, b_X11_isBlock_107, b_X11_isBlock_109, b_X11_isBlock_114, b_X11_isBlock_118, b_X11_isBlock_130, b_X11_isBlock_144, b_X11_isBlock_148, b_X11_isBlock_149, b_X11_isBlock_156, b_X11_isBlock_158, b_X11_isBlock_162, b_X11_isBlock_167, b_X11_isBlock_179, b_X11_isBlock_181, b_X11_isBlock_183, b_X11_isBlock_188, b_X11_isBlock_192, b_X11_isBlock_206, b_X11_isBlock_210, b_X11_isBlock_220, b_X11_isBlock_223, b_X11_isBlock_237, b_X11_isBlock_241, b_X11_isBlock_242, b_X11_isBlock_249, b_X11_isBlock_251, b_X11_isBlock_256, b_X11_isBlock_262, b_X11_isBlock_277, b_X11_isBlock_279, b_X11_isBlock_281, b_X11_isBlock_289, b_X11_isBlock_293, b_X11_isBlock_303, b_X11_isBlock_307, b_X11_isBlock_308, b_X11_isBlock_315, b_X11_isBlock_317, o_c, o_il, o_al, o_is, o_as, o_inc, o_add, o_sub, o_mul, o_and, o_or, o_xor, o_shl, o_shr, o_ush, o_rem, o_dup, o_dup2, o_gf, o_pf, o_pz, o_iald, o_iast, o_zald, o_zast, o_aald, o_gs, o_min, o_acp, o_call, o_callv, zgf, zpf, zia_, zza_, zra_, zrd_, zcp_, zpop, zsm8_0, zsm8_1, zsm8_2, zsm8_3, zsm8_4, zsm8_5, zrc, zisob, t_ieq, t_ilt, t_igt, t_zeq, t_zlt, t_zgt, t_sw, zsw, t_iret, t_zret, t_aret, t_vret, zrg, List.getElem?_cons_zero, List.getElem?_cons_succ, List.set_cons_zero, List.set_cons_succ, List.length_cons, List.length_nil, Option.toList_some, Option.toList_none, List.nil_append, List.cons_append, true_and, and_true, true_or, or_true, Int.cast_ofNat_Int, Int.natCast_zero, Int.natCast_one, zsh_56, zsh_57, zsh_58, zsh_59, zsh_60, zsh_61, zsh_62, zsh_63, zsh_64, zsh_65, zsh_66, zsh_67, zsh_68, zsh_69, zsh_70, zsh_71, zsh_72, zsh_73, zsh_74, zsh_75, zsh_76, zsh_77, zsh_78, zsh_79, zsh_80, zsh_81, zsh_82, zsh_83, zsh_84, zsh_85, zsh_86, zsh_87, zup_ne, zup_eq, zup_nf, ne_eq, not_false_eq_true]
    rw [a0.1, ← hk0]
    have hnr : -1 ≤ n ∧ n ≤ 255 := by
      rw [hn, ho]
      exact zp_byte_rg (fun bs hbs x hx => h.2.2.2 x (by injection hbs with hbs; rw [hbs]; exact hx)) 1
    have no : ∀ {P : Prop}, P → ¬ zisB o → (some (Sum.inl 0 : zV) = some (.inl (zb (zisB o))) ∧ μ = μ) := fun _ w => ⟨by rw [zb_f w], rfl⟩
    refine ⟨by omega, by omega, fun w => ⟨by omega, by omega, fun w1 => ?_, fun w1 => ?_⟩, fun w0 => ⟨fun w => ⟨by omega, by omega, fun w1 => ?_, fun w1 => ⟨by omega, by omega, fun w2 => ?_, fun w2 => ⟨by omega, by omega, fun w3 => ?_, fun w3 => ?_⟩⟩⟩, fun w0' => ⟨fun w => ⟨by omega, fun w1 => ?_, fun w1 => ⟨by omega, by omega, fun w2 => ?_, fun w2 => ⟨by omega, by omega, fun w3 => ?_, fun w3 => ?_⟩⟩⟩, fun w0'' => ⟨fun w => ⟨by omega, by omega, fun w1 => ?_, fun w1 => ⟨by omega, by omega, fun w2 => ?_, fun w2 => ?_⟩⟩, fun w => ?_⟩⟩⟩⟩
    · rw [zb_f (P := zisB o) (fun q => by rcases q with q | q <;> omega)]
      exact ⟨rfl, rfl⟩
    · rw [zb_t (P := zisB o) (Or.inl ⟨by omega, by omega⟩)]
      exact ⟨rfl, rfl⟩
    · rw [zb_f (P := zisB o) (fun q => by rcases q with q | ⟨_, q, _⟩; · omega
                                          unfold zgs at q; rw [← hkd, ← hn] at q; omega)]
      exact ⟨rfl, rfl⟩
    · rw [zb_f (P := zisB o) (fun q => by rcases q with q | ⟨_, q, _⟩; · omega
                                          unfold zgs at q; rw [← hkd, ← hn] at q; omega)]
      exact ⟨rfl, rfl⟩
    · have := loop1 w (by omega) (by omega) n.toNat 0 (by omega)
      rw [w] at all0
      rw [all0] at this
      exact this
    · rw [zb_f (P := zisB o) (fun q => by
        rcases q with q | ⟨_, _, q, _⟩
        · omega
        · have ec : zcnt o = n := by unfold zcnt; rw [← hkd, w, if_pos (Or.inl rfl), hn]
          rw [hsz, ec, ← hkd, w] at q; simp only [zpw] at q; simp at q; omega)]
      exact ⟨rfl, rfl⟩
    · rw [zb_f (P := zisB o) (fun q => by rcases q with q | ⟨_, q, _⟩; · omega
                                          unfold zgs at q; rw [← hkd, ← hn] at q; omega)]
      exact ⟨rfl, rfl⟩
    · rw [zb_f (P := zisB o) (fun q => by rcases q with q | ⟨_, q, _⟩; · omega
                                          unfold zgs at q; rw [← hkd, ← hn] at q; omega)]
      exact ⟨rfl, rfl⟩
    · have := loop2 w (by omega) (by omega) n.toNat 0 (by omega)
      rw [w] at all0
      rw [all0] at this
      exact this
    · rw [zb_f (P := zisB o) (fun q => by
        rcases q with q | ⟨_, _, q, _⟩
        · omega
        · have ec : zcnt o = n := by unfold zcnt; rw [← hkd, w, if_pos (Or.inr rfl), hn]
          rw [hsz, ec, ← hkd, w] at q; simp only [zpw] at q; simp at q; omega)]
      exact ⟨rfl, rfl⟩
    · rw [zb_f (P := zisB o) (fun q => by rcases q with q | ⟨_, q, _⟩; · omega
                                          unfold zgs at q; rw [← hkd, ← hn] at q; omega)]
      exact ⟨rfl, rfl⟩
    · rw [zb_f (P := zisB o) (fun q => by rcases q with q | ⟨_, q, _⟩; · omega
                                          unfold zgs at q; rw [← hkd, ← hn] at q; omega)]
      exact ⟨rfl, rfl⟩
    · refine zcall (c_X11_bits ⟨by omega, by omega⟩) ?_
      simp only [b_X11_isBlock_0, b_X11_isBlock_8, b_X11_isBlock_10, b_X11_isBlock_18, b_X11_isBlock_27, b_X11_isBlock_28, b_X11_isBlock_68, b_X11_isBlock_77, b_X11_isBlock_81, b_X11_isBlock_82, b_X11_isBlock_83, b_X11_isBlock_88, b_X11_isBlock_93, b_X11_isBlock_105, b_X11_isBlock_107, b_X11_isBlock_109, b_X11_isBlock_114, b_X11_isBlock_118, b_X11_isBlock_130, b_X11_isBlock_144, b_X11_isBlock_148, b_X11_isBlock_149, b_X11_isBlock_156, b_X11_isBlock_158, b_X11_isBlock_162, b_X11_isBlock_167, b_X11_isBlock_179, b_X11_isBlock_181, b_X11_isBlock_183, b_X11_isBlock_188, b_X11_isBlock_192, b_X11_isBlock_206, b_X11_isBlock_210, b_X11_isBlock_220, b_X11_isBlock_223, b_X11_isBlock_237, b_X11_isBlock_241, b_X11_isBlock_242, b_X11_isBlock_249, b_X11_isBlock_251, b_X11_isBlock_256, b_X11_isBlock_262, b_X11_isBlock_277, b_X11_isBlock_279, b_X11_isBlock_281, b_X11_isBlock_289, b_X11_isBlock_293, b_X11_isBlock_303, b_X11_isBlock_307, b_X11_isBlock_308, b_X11_isBlock_315, b_X11_isBlock_317, o_c, o_il, o_al, o_is, o_as, o_inc, o_add, o_sub, o_mul, o_and, o_or, o_xor, o_shl, o_shr, o_ush, o_rem, o_dup, o_dup2, o_gf, o_pf, o_pz, o_iald, o_iast, o_zald, o_zast, o_aald, o_gs, o_min, o_acp, o_call, o_callv, zgf, zpf, zia_, zza_, zra_, zrd_, zcp_, zpop, zsm8_0, zsm8_1, zsm8_2, zsm8_3, zsm8_4, zsm8_5, zrc, zisob, t_ieq, t_ilt, t_igt, t_zeq, t_zlt, t_zgt, t_sw, zsw, t_iret, t_zret, t_aret, t_vret, zrg, List.getElem?_cons_zero, List.getElem?_cons_succ, List.set_cons_zero, List.set_cons_succ, List.length_cons, List.length_nil, Option.toList_some, Option.toList_none, List.nil_append, List.cons_append, true_and, and_true, true_or, or_true, Int.cast_ofNat_Int, Int.natCast_zero, Int.natCast_one, zsh_56, zsh_57, zsh_58, zsh_59, zsh_60, zsh_61, zsh_62, zsh_63, zsh_64, zsh_65, zsh_66, zsh_67, zsh_68, zsh_69, zsh_70, zsh_71, zsh_72, zsh_73, zsh_74, zsh_75, zsh_76, zsh_77, zsh_78, zsh_79, zsh_80, zsh_81, zsh_82, zsh_83, zsh_84, zsh_85, zsh_86, zsh_87, zup_ne, zup_eq, zup_nf, ne_eq, not_false_eq_true]
      have hp := hpc (by omega)
      refine ⟨by omega, by omega, fun w3 => ?_, fun w3 => ?_⟩
      · have := loop3 w (by omega) (by omega) (zpc n).toNat 0 (by omega)
        rw [w] at all0
        rw [all0] at this
        exact this
      · rw [zb_f (P := zisB o) (fun q => by
          rcases q with q | ⟨_, _, q, _⟩
          · omega
          · have ec : zcnt o = zpc n := by unfold zcnt; rw [← hkd, w, if_neg (by omega), if_pos rfl, hn]
            rw [hsz, ec, ← hkd, w] at q; simp only [zpw] at q; simp at q; omega)]
        exact ⟨rfl, rfl⟩
    · rw [zb_f (P := zisB o) (fun q => by rcases q with q | q <;> omega)]
      exact ⟨rfl, rfl⟩
  simp only [b_X11_isBlock_0, b_X11_isBlock_8, b_X11_isBlock_10, b_X11_isBlock_18, b_X11_isBlock_27, b_X11_isBlock_28, b_X11_isBlock_68, b_X11_isBlock_77, b_X11_isBlock_81, b_X11_isBlock_82, b_X11_isBlock_83, b_X11_isBlock_88, b_X11_isBlock_93, b_X11_isBlock_105, b_X11_isBlock_107, b_X11_isBlock_109, b_X11_isBlock_114, b_X11_isBlock_118, b_X11_isBlock_130, b_X11_isBlock_144, b_X11_isBlock_148, b_X11_isBlock_149, b_X11_isBlock_156, b_X11_isBlock_158, b_X11_isBlock_162, b_X11_isBlock_167, b_X11_isBlock_179, b_X11_isBlock_181, b_X11_isBlock_183, b_X11_isBlock_188, b_X11_isBlock_192, b_X11_isBlock_206, b_X11_isBlock_210, b_X11_isBlock_220, b_X11_isBlock_223, b_X11_isBlock_237, b_X11_isBlock_241, b_X11_isBlock_242, b_X11_isBlock_249, b_X11_isBlock_251, b_X11_isBlock_256, b_X11_isBlock_262, b_X11_isBlock_277, b_X11_isBlock_279, b_X11_isBlock_281, b_X11_isBlock_289, b_X11_isBlock_293, b_X11_isBlock_303, b_X11_isBlock_307, b_X11_isBlock_308, b_X11_isBlock_315, b_X11_isBlock_317, o_c, o_il, o_al, o_is, o_as, o_inc, o_add, o_sub, o_mul, o_and, o_or, o_xor, o_shl, o_shr, o_ush, o_rem, o_dup, o_dup2, o_gf, o_pf, o_pz, o_iald, o_iast, o_zald, o_zast, o_aald, o_gs, o_min, o_acp, o_call, o_callv, zgf, zpf, zia_, zza_, zra_, zrd_, zcp_, zpop, zsm8_0, zsm8_1, zsm8_2, zsm8_3, zsm8_4, zsm8_5, zrc, zisob, t_ieq, t_ilt, t_igt, t_zeq, t_zlt, t_zgt, t_sw, zsw, t_iret, t_zret, t_aret, t_vret, zrg, List.getElem?_cons_zero, List.getElem?_cons_succ, List.set_cons_zero, List.set_cons_succ, List.length_cons, List.length_nil, Option.toList_some, Option.toList_none, List.nil_append, List.cons_append, true_and, and_true, true_or, or_true, Int.cast_ofNat_Int, Int.natCast_zero, Int.natCast_one, zsh_56, zsh_57, zsh_58, zsh_59, zsh_60, zsh_61, zsh_62, zsh_63, zsh_64, zsh_65, zsh_66, zsh_67, zsh_68, zsh_69, zsh_70, zsh_71, zsh_72, zsh_73, zsh_74, zsh_75, zsh_76, zsh_77, zsh_78, zsh_79, zsh_80, zsh_81, zsh_82, zsh_83, zsh_84, zsh_85, zsh_86, zsh_87, zup_ne, zup_eq, zup_nf, ne_eq, not_false_eq_true]
  rw [h24]
  refine ⟨by omega, by omega, fun w => ?_, fun w => ⟨by omega, by omega, fun w1 => ⟨by omega, ?_⟩, fun w1 => ?_⟩⟩
  · have e0 : kd = -1 := by
      rw [hk0, ho]
      have : D = [] := List.length_eq_zero_iff.mp (by omega)
      rw [this]
      rfl
    rw [zb_f (P := zisB o) (fun q => by rcases q with q | q <;> omega)]
    exact ⟨rfl, rfl⟩
  · rw [(hat (i := 1) h (by omega) (by omega)).1, ← hn]
    exact mid (by omega)
  · have e0 : n = -1 := by
      rw [hn, ho]
      simp [zp_byte, List.getD]
      rw [List.getElem?_eq_none (by omega)]
      rfl
    have := mid (by omega)
    rw [e0] at this
    exact this
