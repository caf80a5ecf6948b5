/-! THE REFERENCE: staging -/
def zmG (μ : zM) (N : List zBk) (c : Int) : Prop := μ 56 25 = N.length ∧ N.length ≤ 80 ∧ μ 56 26 = c ∧ (c = 0 ∨ c = 1) ∧ (∀ b ∈ N, zBOK b) ∧ ∀ (i : Nat) (b : zBk), N[i]? = some b → μ 78 i = b.1 ∧ μ 79 i = b.2.length ∧ ∀ (j : Nat) (x : Int), b.2[j]? = some x → μ 80 (18 * i + j) = x
def zsg (L : List zBk) (p : List zBk × Int) (D : List Int) : List zBk × Int := if zix L (zhash D) < 0 then (if zix p.1 (zhash D) < 0 then (p.1 ++ [(zhash D, D)], p.2) else if zlk p.1 (zhash D) = some D then p else (p.1, 1)) else if zlk L (zhash D) = some D then p else (p.1, 1)
theorem zmG.f {μ μ' : zM} {N : List zBk} {c : Int} {C : List Nat} {F : List Int} (h : zmG μ N c) (f : zF C F μ μ') (hC : ∀ x ∈ C, x < 78 ∨ 80 < x) (hF : ∀ x ∈ F, x ≠ 25 ∧ x ≠ 26) : zmG μ' N c := by
  have e : ∀ x, 78 ≤ x → x ≤ 80 → μ' x = μ x := fun x h1 h2 => f.1 x (fun w => by have := hC x w; omega) (by omega)
  unfold zmG
  rw [f.2 25 (fun w => by have := hF _ w; omega), f.2 26 (fun w => by have := hF _ w; omega), e 78 (by omega) (by omega), e 79 (by omega) (by omega), e 80 (by omega) (by omega)]
  exact h
set_option maxRecDepth 100000 in
set_option maxHeartbeats 4000000 in
theorem c_X11_stage {d s : Nat} {μ : zM} {L N : List zBk} {D : List Int} {c : Int} (hd : 2 ≤ d) (h : zmL μ s L) (hs : s < 3) (hD : zmR μ D) (hD18 : D.length ≤ 18) (hG0 : zmG μ N c) (hN80 : N.length < 80) : zCt d mX11_stage [.inr (some 56), .inl (s : Int)] μ (fun v μ' => v = some (.inl (zhash D)) ∧ zmG μ' (zsg L (N, c) D).1 (zsg L (N, c) D).2 ∧ zF [78, 79, 80] [25, 26] μ μ') := by
  have hhr := zhash_rg D
  obtain ⟨g1, g2, g3, g4, g5, g6⟩ := hG0
  have hG1 : zmG μ N c := ⟨g1, g2, g3, g4, g5, g6⟩
  have hDD := hD
  obtain ⟨r1, r2, r3, r4⟩ := hD
  have clash : ∀ y : Int, (y = 0 ∨ y = 1) → zmG (zup μ 56 26 y) N y ∧ zF [78, 79, 80] [25, 26] μ (zup μ 56 26 y) := fun y hy => by
    refine ⟨⟨by rw [zup_nf (by decide)]; exact g1, g2, zup_eq, hy, g5, fun i b hb => ?_⟩, (zF.refl _ _ _).v (by simp)⟩
    rw [zup_ne 78 (by decide), zup_ne 79 (by decide), zup_ne 80 (by decide)]
    exact g6 i b hb
  refine of_X11_stage (by omega) (fun G hG => s_X11_stage_0 hG ?_)
  simp only [b_X11_stage_0, b_X11_stage_16, b_X11_stage_24, b_X11_stage_32, b_X11_stage_36, b_X11_stage_37, b_X11_stage_42, b_X11_stage_45, b_X11_stage_54, b_X11_stage_65, b_X11_stage_68, b_X11_stage_82, b_X11_stage_86, b_X11_stage_87, b_X11_stage_92, b_X11_stage_101, b_X11_stage_106, b_X11_stage_129, b_X11_stage_133, b_X11_stage_134, b_X11_stage_142, b_X11_stage_150, b_X11_stage_155, b_X11_stage_159, b_X11_stage_160, b_X11_stage_165, b_X11_stage_171, b_X11_stage_197, b_X11_stage_206, b_X11_stage_234, o_c, o_il, o_al, o_is, o_as, o_inc, o_add, o_sub, o_mul, o_and, o_or, o_xor, o_shl, o_shr, o_ush, o_rem, o_dup, o_dup2, o_gf, o_pf, o_pz, o_iald, o_iast, o_zald, o_zast, o_aald, o_gs, o_min, o_acp, o_call, o_callv, zgf, zpf, zia_, zza_, zra_, zrd_, zcp_, zpop, zsm8_0, zsm8_1, zsm8_2, zsm8_3, zsm8_4, zsm8_5, zrc, zisob, t_ieq, t_ilt, t_igt, t_zeq, t_zlt, t_zgt, t_sw, zsw, t_iret, t_zret, t_aret, t_vret, zrg, List.getElem?_cons_zero, List.getElem?_cons_succ, List.set_cons_zero, List.set_cons_succ, List.length_cons, List.length_nil, Option.toList_some, Option.toList_none, List.nil_append, List.cons_append, true_and, and_true, true_or, or_true, Int.cast_ofNat_Int, Int.natCast_zero, Int.natCast_one, zsh_56, zsh_57, zsh_58, zsh_59, zsh_60, zsh_61, zsh_62, zsh_63, zsh_64, zsh_65, zsh_66, zsh_67, zsh_68, zsh_69, zsh_70, zsh_71, zsh_72, zsh_73, zsh_74, zsh_75, zsh_76, zsh_77, zsh_78, zsh_79, zsh_80, zsh_81, zsh_82, zsh_83, zsh_84, zsh_85, zsh_86, zsh_87, zup_ne, zup_eq, zup_nf, ne_eq, not_false_eq_true]
  refine zcall (c_X11_rowName (by omega) hDD) ?_
  simp only [b_X11_stage_0, b_X11_stage_16, b_X11_stage_24, b_X11_stage_32, b_X11_stage_36, b_X11_stage_37, b_X11_stage_42, b_X11_stage_45, b_X11_stage_54, b_X11_stage_65, b_X11_stage_68, b_X11_stage_82, b_X11_stage_86, b_X11_stage_87, b_X11_stage_92, b_X11_stage_101, b_X11_stage_106, b_X11_stage_129, b_X11_stage_133, b_X11_stage_134, b_X11_stage_142, b_X11_stage_150, b_X11_stage_155, b_X11_stage_159, b_X11_stage_160, b_X11_stage_165, b_X11_stage_171, b_X11_stage_197, b_X11_stage_206, b_X11_stage_234, o_c, o_il, o_al, o_is, o_as, o_inc, o_add, o_sub, o_mul, o_and, o_or, o_xor, o_shl, o_shr, o_ush, o_rem, o_dup, o_dup2, o_gf, o_pf, o_pz, o_iald, o_iast, o_zald, o_zast, o_aald, o_gs, o_min, o_acp, o_call, o_callv, zgf, zpf, zia_, zza_, zra_, zrd_, zcp_, zpop, zsm8_0, zsm8_1, zsm8_2, zsm8_3, zsm8_4, zsm8_5, zrc, zisob, t_ieq, t_ilt, t_igt, t_zeq, t_zlt, t_zgt, t_sw, zsw, t_iret, t_zret, t_aret, t_vret, zrg, List.getElem?_cons_zero, List.getElem?_cons_succ, List.set_cons_zero, List.set_cons_succ, List.length_cons, List.length_nil, Option.toList_some, Option.toList_none, List.nil_append, List.cons_append, true_and, and_true, true_or, or_true, Int.cast_ofNat_Int, Int.natCast_zero, Int.natCast_one, zsh_56, zsh_57, zsh_58, zsh_59, zsh_60, zsh_61, zsh_62, zsh_63, zsh_64, zsh_65, zsh_66, zsh_67, zsh_68, zsh_69, zsh_70, zsh_71, zsh_72, zsh_73, zsh_74, zsh_75, zsh_76, zsh_77, zsh_78, zsh_79, zsh_80, zsh_81, zsh_82, zsh_83, zsh_84, zsh_85, zsh_86, zsh_87, zup_ne, zup_eq, zup_nf, ne_eq, not_false_eq_true]
  refine zcall (c_X11_where h hs (by unfold zrg; omega)) ?_
  simp only [b_X11_stage_0, b_X11_stage_16, b_X11_stage_24, b_X11_stage_32, b_X11_stage_36, b_X11_stage_37, b_X11_stage_42, b_X11_stage_45, b_X11_stage_54, b_X11_stage_65, b_X11_stage_68, b_X11_stage_82, b_X11_stage_86, b_X11_stage_87, b_X11_stage_92, b_X11_stage_101, b_X11_stage_106, b_X11_stage_129, b_X11_stage_133, b_X11_stage_134, b_X11_stage_142, b_X11_stage_150, b_X11_stage_155, b_X11_stage_159, b_X11_stage_160, b_X11_stage_165, b_X11_stage_171, b_X11_stage_197, b_X11_stage_206, b_X11_stage_234, o_c, o_il, o_al, o_is, o_as, o_inc, o_add, o_sub, o_mul, o_and, o_or, o_xor, o_shl, o_shr, o_ush, o_rem, o_dup, o_dup2, o_gf, o_pf, o_pz, o_iald, o_iast, o_zald, o_zast, o_aald, o_gs, o_min, o_acp, o_call, o_callv, zgf, zpf, zia_, zza_, zra_, zrd_, zcp_, zpop, zsm8_0, zsm8_1, zsm8_2, zsm8_3, zsm8_4, zsm8_5, zrc, zisob, t_ieq, t_ilt, t_igt, t_zeq, t_zlt, t_zgt, t_sw, zsw, t_iret, t_zret, t_aret, t_vret, zrg, List.getElem?_cons_zero, List.getElem?_cons_succ, List.set_cons_zero, List.set_cons_succ, List.length_cons, List.length_nil, Option.toList_some, Option.toList_none, List.nil_append, List.cons_append, true_and, and_true, true_or, or_true, Int.cast_ofNat_Int, Int.natCast_zero, Int.natCast_one, zsh_56, zsh_57, zsh_58, zsh_59, zsh_60, zsh_61, zsh_62, zsh_63, zsh_64, zsh_65, zsh_66, zsh_67, zsh_68, zsh_69, zsh_70, zsh_71, zsh_72, zsh_73, zsh_74, zsh_75, zsh_76, zsh_77, zsh_78, zsh_79, zsh_80, zsh_81, zsh_82, zsh_83, zsh_84, zsh_85, zsh_86, zsh_87, zup_ne, zup_eq, zup_nf, ne_eq, not_false_eq_true]
  rcases h.wr hs (zhash D) with ⟨u1, u2, u3⟩ | ⟨bs, i2, u1, u2, u3, u4, u5⟩
  · rw [u3]
    refine ⟨by omega, fun _ => ?_, fun w => by omega⟩
    -- it is not there yet
    have copy : zix N (zhash D) < 0 → ∀ (r i : Nat) (μ2 : zM) (x5 x6 : zV), i + r = D.length → (∀ k, k ≠ 80 → μ2 k = zup (zup μ 78 N.length (zhash D)) 79 N.length D.length k) → (∀ (j : Nat) (x : Int), j < i → D[j]? = some x → μ2 80 (18 * N.length + j) = x) → (∀ j : Int, j < 18 * N.length → μ2 80 j = μ 80 j) → G 197 [.inr (some 56), .inl (s : Int), .inl (zhash D), .inl (-1), .inl (i : Int), x5, x6] [] μ2 := by
      intro hz r
      have ez : zsg L (N, c) D = (N ++ [(zhash D, D)], c) := by unfold zsg; rw [if_pos u2, if_pos hz]
      induction r with
      | zero =>
        intro i μ2 x5 x6 k1 k2 k3 k4
        have e24 : μ2 56 24 = D.length := by rw [k2 56 (by decide), zup_ne 56 (by decide), zup_ne 56 (by decide)]; exact r1
        have e25 : μ2 56 25 = N.length := by rw [k2 56 (by decide), zup_ne 56 (by decide), zup_ne 56 (by decide)]; exact g1
        have e26 : μ2 56 26 = c := by rw [k2 56 (by decide), zup_ne 56 (by decide), zup_ne 56 (by decide)]; exact g3
        refine s_X11_stage_197 hG ?_
        simp only [b_X11_stage_0, b_X11_stage_16, b_X11_stage_24, b_X11_stage_32, b_X11_stage_36, b_X11_stage_37, b_X11_stage_42, b_X11_stage_45, b_X11_stage_54, b_X11_stage_65, b_X11_stage_68, b_X11_stage_82, b_X11_stage_86, b_X11_stage_87, b_X11_stage_92, b_X11_stage_101, b_X11_stage_106, b_X11_stage_129, b_X11_stage_133, b_X11_stage_134, b_X11_stage_142, b_X11_stage_150, b_X11_stage_155, b_X11_stage_159, b_X11_stage_160, b_X11_stage_165, b_X11_stage_171, b_X11_stage_197, b_X11_stage_206, b_X11_stage_234, o_c, o_il, o_al, o_is, o_as, o_inc, o_add, o_sub, o_mul, o_and, o_or, o_xor, o_shl, o_shr, o_ush, o_rem, o_dup, o_dup2, o_gf, o_pf, o_pz, o_iald, o_iast, o_zald, o_zast, o_aald, o_gs, o_min, o_acp, o_call, o_callv, zgf, zpf, zia_, zza_, zra_, zrd_, zcp_, zpop, zsm8_0, zsm8_1, zsm8_2, zsm8_3, zsm8_4, zsm8_5, zrc, zisob, t_ieq, t_ilt, t_igt, t_zeq, t_zlt, t_zgt, t_sw, zsw, t_iret, t_zret, t_aret, t_vret, zrg, List.getElem?_cons_zero, List.getElem?_cons_succ, List.set_cons_zero, List.set_cons_succ, List.length_cons, List.length_nil, Option.toList_some, Option.toList_none, List.nil_append, List.cons_append, true_and, and_true, true_or, or_true, Int.cast_ofNat_Int, Int.natCast_zero, Int.natCast_one, zsh_56, zsh_57, zsh_58, zsh_59, zsh_60, zsh_61, zsh_62, zsh_63, zsh_64, zsh_65, zsh_66, zsh_67, zsh_68, zsh_69, zsh_70, zsh_71, zsh_72, zsh_73, zsh_74, zsh_75, zsh_76, zsh_77, zsh_78, zsh_79, zsh_80, zsh_81, zsh_82, zsh_83, zsh_84, zsh_85, zsh_86, zsh_87, zup_ne, zup_eq, zup_nf, ne_eq, not_false_eq_true]
        rw [e24, e25, ez]
        refine ⟨by omega, by omega, fun w => by omega, fun _ => ⟨⟨by rw [zup_eq]; simp, by simp; omega, by rw [zup_nf (by decide)]; exact e26, g4, fun b hb => ?_, fun j b hb => ?_⟩, ?_, ?_⟩⟩
        · rcases List.mem_append.mp hb with q | q
          · exact g5 b q
          · rw [List.mem_singleton.mp q]
            exact ⟨hhr, hD18, r4⟩
        · rw [zup_ne 78 (by decide), zup_ne 79 (by decide), zup_ne 80 (by decide), k2 78 (by decide), k2 79 (by decide), zup_ne 78 (by decide)]
          rcases Nat.lt_trichotomy j N.length with q | q | q
          · rw [List.getElem?_append_left q] at hb
            obtain ⟨v1, v2, v3⟩ := g6 j b hb
            have hb18 := (g5 b (List.mem_of_getElem? hb)).2.1
            rw [zup_nf (by omega), zup_nf (by omega), zup_ne 79 (by decide)]
            refine ⟨v1, v2, fun z x hz => ?_⟩
            have := (List.getElem?_eq_some_iff.mp hz).1
            rw [k4 _ (by omega)]
            exact v3 z x hz
          · subst q
            rw [List.getElem?_append_right (Nat.le_refl _)] at hb
            simp at hb
            subst hb
            rw [zup_eq, zup_eq]
            refine ⟨rfl, rfl, fun z x hz => k3 z x ?_ hz⟩
            have := (List.getElem?_eq_some_iff.mp hz).1
            simp only at this
            omega
          · rw [List.getElem?_eq_none (by simp; omega)] at hb
            cases hb
        · intro k hk h56
          simp only [List.mem_cons, List.not_mem_nil, or_false, not_or] at hk
          rw [zup_ne _ h56, k2 k hk.2.2, zup_ne _ hk.2.1, zup_ne _ hk.1]
        · intro f hf
          simp only [List.mem_cons, List.not_mem_nil, or_false, not_or] at hf
          rw [zup_nf hf.1, k2 56 (by decide), zup_ne 56 (by decide), zup_ne 56 (by decide)]
      | succ r ih =>
        intro i μ2 x5 x6 k1 k2 k3 k4
        have hi : i < D.length := by omega
        have e24 : μ2 56 24 = D.length := by rw [k2 56 (by decide), zup_ne 56 (by decide), zup_ne 56 (by decide)]; exact r1
        have e25 : μ2 56 25 = N.length := by rw [k2 56 (by decide), zup_ne 56 (by decide), zup_ne 56 (by decide)]; exact g1
        have e77 : μ2 77 i = D[i] := by rw [k2 77 (by decide), zup_ne 77 (by decide), zup_ne 77 (by decide)]; exact r3 i _ (List.getElem?_eq_getElem hi)
        refine s_X11_stage_197 hG ?_
        simp only [b_X11_stage_0, b_X11_stage_16, b_X11_stage_24, b_X11_stage_32, b_X11_stage_36, b_X11_stage_37, b_X11_stage_42, b_X11_stage_45, b_X11_stage_54, b_X11_stage_65, b_X11_stage_68, b_X11_stage_82, b_X11_stage_86, b_X11_stage_87, b_X11_stage_92, b_X11_stage_101, b_X11_stage_106, b_X11_stage_129, b_X11_stage_133, b_X11_stage_134, b_X11_stage_142, b_X11_stage_150, b_X11_stage_155, b_X11_stage_159, b_X11_stage_160, b_X11_stage_165, b_X11_stage_171, b_X11_stage_197, b_X11_stage_206, b_X11_stage_234, o_c, o_il, o_al, o_is, o_as, o_inc, o_add, o_sub, o_mul, o_and, o_or, o_xor, o_shl, o_shr, o_ush, o_rem, o_dup, o_dup2, o_gf, o_pf, o_pz, o_iald, o_iast, o_zald, o_zast, o_aald, o_gs, o_min, o_acp, o_call, o_callv, zgf, zpf, zia_, zza_, zra_, zrd_, zcp_, zpop, zsm8_0, zsm8_1, zsm8_2, zsm8_3, zsm8_4, zsm8_5, zrc, zisob, t_ieq, t_ilt, t_igt, t_zeq, t_zlt, t_zgt, t_sw, zsw, t_iret, t_zret, t_aret, t_vret, zrg, List.getElem?_cons_zero, List.getElem?_cons_succ, List.set_cons_zero, List.set_cons_succ, List.length_cons, List.length_nil, Option.toList_some, Option.toList_none, List.nil_append, List.cons_append, true_and, and_true, true_or, or_true, Int.cast_ofNat_Int, Int.natCast_zero, Int.natCast_one, zsh_56, zsh_57, zsh_58, zsh_59, zsh_60, zsh_61, zsh_62, zsh_63, zsh_64, zsh_65, zsh_66, zsh_67, zsh_68, zsh_69, zsh_70, zsh_71, zsh_72, zsh_73, zsh_74, zsh_75, zsh_76, zsh_77, zsh_78, zsh_79, zsh_80, zsh_81, zsh_82, zsh_83, zsh_84, zsh_85, zsh_86, zsh_87, zup_ne, zup_eq, zup_nf, ne_eq, not_false_eq_true]
        rw [e24, e25, e77]
        refine ⟨by omega, by omega, fun _ => ⟨by omega, by omega, ?_⟩, fun w => by omega⟩
        refine ih (i + 1) _ _ _ (by omega) (fun k hk => by rw [zup_ne _ hk]; exact k2 k hk) (fun j x hj hx => ?_) (fun j hj => by rw [zup_nf (by omega)]; exact k4 j hj)
        by_cases e : j = i
        · subst e
          rw [zup_eq]
          rw [List.getElem?_eq_getElem hi] at hx
          exact Option.some.inj hx
        · rw [zup_nf (by omega)]; exact k3 j x (by omega) hx
    have scan : ∀ (r j : Nat) (x5 x6 : zV), j + r = N.length → zix N (zhash D) = zixf (zhash D) (N.drop j) j → G 45 [.inr (some 56), .inl (s : Int), .inl (zhash D), .inl (-1), .inl (j : Int), x5, x6] [] μ := by
      intro r
      induction r with
      | zero =>
        intro j x5 x6 k1 k2
        rw [List.drop_of_length_le (by omega)] at k2
        have hz : zix N (zhash D) < 0 := by rw [k2]; simp [zixf]
        refine s_X11_stage_45 hG ?_
        simp only [b_X11_stage_0, b_X11_stage_16, b_X11_stage_24, b_X11_stage_32, b_X11_stage_36, b_X11_stage_37, b_X11_stage_42, b_X11_stage_45, b_X11_stage_54, b_X11_stage_65, b_X11_stage_68, b_X11_stage_82, b_X11_stage_86, b_X11_stage_87, b_X11_stage_92, b_X11_stage_101, b_X11_stage_106, b_X11_stage_129, b_X11_stage_133, b_X11_stage_134, b_X11_stage_142, b_X11_stage_150, b_X11_stage_155, b_X11_stage_159, b_X11_stage_160, b_X11_stage_165, b_X11_stage_171, b_X11_stage_197, b_X11_stage_206, b_X11_stage_234, o_c, o_il, o_al, o_is, o_as, o_inc, o_add, o_sub, o_mul, o_and, o_or, o_xor, o_shl, o_shr, o_ush, o_rem, o_dup, o_dup2, o_gf, o_pf, o_pz, o_iald, o_iast, o_zald, o_zast, o_aald, o_gs, o_min, o_acp, o_call, o_callv, zgf, zpf, zia_, zza_, zra_, zrd_, zcp_, zpop, zsm8_0, zsm8_1, zsm8_2, zsm8_3, zsm8_4, zsm8_5, zrc, zisob, t_ieq, t_ilt, t_igt, t_zeq, t_zlt, t_zgt, t_sw, zsw, t_iret, t_zret, t_aret, t_vret, zrg, List.getElem?_cons_zero, List.getElem?_cons_succ, List.set_cons_zero, List.set_cons_succ, List.length_cons, List.length_nil, Option.toList_some, Option.toList_none, List.nil_append, List.cons_append, true_and, and_true, true_or, or_true, Int.cast_ofNat_Int, Int.natCast_zero, Int.natCast_one, zsh_56, zsh_57, zsh_58, zsh_59, zsh_60, zsh_61, zsh_62, zsh_63, zsh_64, zsh_65, zsh_66, zsh_67, zsh_68, zsh_69, zsh_70, zsh_71, zsh_72, zsh_73, zsh_74, zsh_75, zsh_76, zsh_77, zsh_78, zsh_79, zsh_80, zsh_81, zsh_82, zsh_83, zsh_84, zsh_85, zsh_86, zsh_87, zup_ne, zup_eq, zup_nf, ne_eq, not_false_eq_true, Nat.reduceEqDiff]
        rw [g1, r1]
        refine ⟨by omega, by omega, fun w => by omega, fun _ => ⟨by omega, by omega, ?_⟩⟩
        refine copy hz D.length 0 _ _ _ (by omega) (fun k hk => rfl) (fun j x hj hx => by omega) (fun j hj => ?_)
        rw [zup_ne 80 (by decide), zup_ne 80 (by decide)]
      | succ r ih =>
        intro j x5 x6 k1 k2
        have hj : j < N.length := by omega
        rw [List.drop_eq_getElem_cons hj] at k2
        simp only [zixf] at k2
        obtain ⟨v1, v2, v3⟩ := g6 j N[j] (List.getElem?_eq_getElem hj)
        obtain ⟨n1, n2, n3⟩ := g5 N[j] (List.getElem_mem hj)
        refine s_X11_stage_45 hG ?_
        simp only [b_X11_stage_0, b_X11_stage_16, b_X11_stage_24, b_X11_stage_32, b_X11_stage_36, b_X11_stage_37, b_X11_stage_42, b_X11_stage_45, b_X11_stage_54, b_X11_stage_65, b_X11_stage_68, b_X11_stage_82, b_X11_stage_86, b_X11_stage_87, b_X11_stage_92, b_X11_stage_101, b_X11_stage_106, b_X11_stage_129, b_X11_stage_133, b_X11_stage_134, b_X11_stage_142, b_X11_stage_150, b_X11_stage_155, b_X11_stage_159, b_X11_stage_160, b_X11_stage_165, b_X11_stage_171, b_X11_stage_197, b_X11_stage_206, b_X11_stage_234, o_c, o_il, o_al, o_is, o_as, o_inc, o_add, o_sub, o_mul, o_and, o_or, o_xor, o_shl, o_shr, o_ush, o_rem, o_dup, o_dup2, o_gf, o_pf, o_pz, o_iald, o_iast, o_zald, o_zast, o_aald, o_gs, o_min, o_acp, o_call, o_callv, zgf, zpf, zia_, zza_, zra_, zrd_, zcp_, zpop, zsm8_0, zsm8_1, zsm8_2, zsm8_3, zsm8_4, zsm8_5, zrc, zisob, t_ieq, t_ilt, t_igt, t_zeq, t_zlt, t_zgt, t_sw, zsw, t_iret, t_zret, t_aret, t_vret, zrg, List.getElem?_cons_zero, List.getElem?_cons_succ, List.set_cons_zero, List.set_cons_succ, List.length_cons, List.length_nil, Option.toList_some, Option.toList_none, List.nil_append, List.cons_append, true_and, and_true, true_or, or_true, Int.cast_ofNat_Int, Int.natCast_zero, Int.natCast_one, zsh_56, zsh_57, zsh_58, zsh_59, zsh_60, zsh_61, zsh_62, zsh_63, zsh_64, zsh_65, zsh_66, zsh_67, zsh_68, zsh_69, zsh_70, zsh_71, zsh_72, zsh_73, zsh_74, zsh_75, zsh_76, zsh_77, zsh_78, zsh_79, zsh_80, zsh_81, zsh_82, zsh_83, zsh_84, zsh_85, zsh_86, zsh_87, zup_ne, zup_eq, zup_nf, ne_eq, not_false_eq_true]
        rw [g1, v1, v2, r1]
        refine ⟨by omega, by omega, fun _ => ⟨by omega, by omega, by omega, fun w => ?_, fun w => ?_⟩, fun w => by omega⟩
        · rw [if_pos w] at k2
          have hlk : zlk N (zhash D) = some N[j].2 := by unfold zlk; rw [k2]; simp [zoat, hj]
          -- behind the comparison
          have fin : ∀ (y : Int) (x6 : zV), y = zb (N[j].2 = D) → G 142 [.inr (some 56), .inl (s : Int), .inl (zhash D), .inl (-1), .inl (j : Int), .inl y, x6] [] μ := by
            intro y x6 hy
            refine s_X11_stage_142 hG ?_
            simp only [b_X11_stage_0, b_X11_stage_16, b_X11_stage_24, b_X11_stage_32, b_X11_stage_36, b_X11_stage_37, b_X11_stage_42, b_X11_stage_45, b_X11_stage_54, b_X11_stage_65, b_X11_stage_68, b_X11_stage_82, b_X11_stage_86, b_X11_stage_87, b_X11_stage_92, b_X11_stage_101, b_X11_stage_106, b_X11_stage_129, b_X11_stage_133, b_X11_stage_134, b_X11_stage_142, b_X11_stage_150, b_X11_stage_155, b_X11_stage_159, b_X11_stage_160, b_X11_stage_165, b_X11_stage_171, b_X11_stage_197, b_X11_stage_206, b_X11_stage_234, o_c, o_il, o_al, o_is, o_as, o_inc, o_add, o_sub, o_mul, o_and, o_or, o_xor, o_shl, o_shr, o_ush, o_rem, o_dup, o_dup2, o_gf, o_pf, o_pz, o_iald, o_iast, o_zald, o_zast, o_aald, o_gs, o_min, o_acp, o_call, o_callv, zgf, zpf, zia_, zza_, zra_, zrd_, zcp_, zpop, zsm8_0, zsm8_1, zsm8_2, zsm8_3, zsm8_4, zsm8_5, zrc, zisob, t_ieq, t_ilt, t_igt, t_zeq, t_zlt, t_zgt, t_sw, zsw, t_iret, t_zret, t_aret, t_vret, zrg, List.getElem?_cons_zero, List.getElem?_cons_succ, List.set_cons_zero, List.set_cons_succ, List.length_cons, List.length_nil, Option.toList_some, Option.toList_none, List.nil_append, List.cons_append, true_and, and_true, true_or, or_true, Int.cast_ofNat_Int, Int.natCast_zero, Int.natCast_one, zsh_56, zsh_57, zsh_58, zsh_59, zsh_60, zsh_61, zsh_62, zsh_63, zsh_64, zsh_65, zsh_66, zsh_67, zsh_68, zsh_69, zsh_70, zsh_71, zsh_72, zsh_73, zsh_74, zsh_75, zsh_76, zsh_77, zsh_78, zsh_79, zsh_80, zsh_81, zsh_82, zsh_83, zsh_84, zsh_85, zsh_86, zsh_87, zup_ne, zup_eq, zup_nf, ne_eq, not_false_eq_true]
            rw [g3]
            have hzs : zsg L (N, c) D = if N[j].2 = D then (N, c) else (N, 1) := by
              have hnn : ¬ zix N (zhash D) < 0 := by omega
              unfold zsg
              simp only
              rw [if_pos u2, if_neg hnn, hlk]
              by_cases e : N[j].2 = D
              · rw [if_pos (by rw [e]), if_pos e]
              · rw [if_neg (fun q => e (Option.some.inj q)), if_neg e]
            have c0 := clash 0 (Or.inl rfl)
            have c1 := clash 1 (Or.inr rfl)
            rcases zb_or (N[j].2 = D) with ⟨t1, t2⟩ | ⟨t1, t2⟩
            · rw [hzs, if_pos t2]
              refine ⟨by omega, fun w0 => ⟨by omega, fun w1 => by omega, fun _ => ⟨?_, ?_⟩⟩, fun w0 => ⟨?_, ?_⟩⟩
              · rw [w0]; exact c0.1
              · exact c0.2
              · have : c = 1 := by omega
                rw [this]; exact c1.1
              · exact c1.2
            · rw [hzs, if_neg t2]
              exact ⟨by omega, fun w0 => ⟨by omega, fun _ => ⟨c1.1, c1.2⟩, fun w1 => by omega⟩, fun w0 => ⟨c1.1, c1.2⟩⟩
          have ex0 : N[j].2 ≠ D → ∀ (i : Nat), i ≤ D.length → G 92 [.inr (some 56), .inl (s : Int), .inl (zhash D), .inl (-1), .inl (j : Int), .inl 0, .inl (i : Int)] [] μ := by
            intro hne i hil
            refine s_X11_stage_92 hG ?_
            simp only [b_X11_stage_0, b_X11_stage_16, b_X11_stage_24, b_X11_stage_32, b_X11_stage_36, b_X11_stage_37, b_X11_stage_42, b_X11_stage_45, b_X11_stage_54, b_X11_stage_65, b_X11_stage_68, b_X11_stage_82, b_X11_stage_86, b_X11_stage_87, b_X11_stage_92, b_X11_stage_101, b_X11_stage_106, b_X11_stage_129, b_X11_stage_133, b_X11_stage_134, b_X11_stage_142, b_X11_stage_150, b_X11_stage_155, b_X11_stage_159, b_X11_stage_160, b_X11_stage_165, b_X11_stage_171, b_X11_stage_197, b_X11_stage_206, b_X11_stage_234, o_c, o_il, o_al, o_is, o_as, o_inc, o_add, o_sub, o_mul, o_and, o_or, o_xor, o_shl, o_shr, o_ush, o_rem, o_dup, o_dup2, o_gf, o_pf, o_pz, o_iald, o_iast, o_zald, o_zast, o_aald, o_gs, o_min, o_acp, o_call, o_callv, zgf, zpf, zia_, zza_, zra_, zrd_, zcp_, zpop, zsm8_0, zsm8_1, zsm8_2, zsm8_3, zsm8_4, zsm8_5, zrc, zisob, t_ieq, t_ilt, t_igt, t_zeq, t_zlt, t_zgt, t_sw, zsw, t_iret, t_zret, t_aret, t_vret, zrg, List.getElem?_cons_zero, List.getElem?_cons_succ, List.set_cons_zero, List.set_cons_succ, List.length_cons, List.length_nil, Option.toList_some, Option.toList_none, List.nil_append, List.cons_append, true_and, and_true, true_or, or_true, Int.cast_ofNat_Int, Int.natCast_zero, Int.natCast_one, zsh_56, zsh_57, zsh_58, zsh_59, zsh_60, zsh_61, zsh_62, zsh_63, zsh_64, zsh_65, zsh_66, zsh_67, zsh_68, zsh_69, zsh_70, zsh_71, zsh_72, zsh_73, zsh_74, zsh_75, zsh_76, zsh_77, zsh_78, zsh_79, zsh_80, zsh_81, zsh_82, zsh_83, zsh_84, zsh_85, zsh_86, zsh_87, zup_ne, zup_eq, zup_nf, ne_eq, not_false_eq_true]
            rw [r1]
            have ff := fin 0 (.inl (i : Int)) (by rw [zb_f hne])
            exact ⟨by omega, by omega, fun _ => ⟨by omega, fun _ => ff, fun w => absurd trivial w⟩, fun _ => ff⟩
          have cmp : N[j].2.length = D.length → ∀ (q i : Nat), i + q = D.length → (∀ z : Nat, z < i → N[j].2[z]? = D[z]?) → G 92 [.inr (some 56), .inl (s : Int), .inl (zhash D), .inl (-1), .inl (j : Int), .inl 1, .inl (i : Int)] [] μ := by
            intro hlen q
            induction q with
            | zero =>
              intro i i1 i2
              have : N[j].2 = D := List.ext_getElem? (fun z => by
                by_cases hz : z < i
                · exact i2 z hz
                · rw [List.getElem?_eq_none (by omega), List.getElem?_eq_none (by omega)])
              refine s_X11_stage_92 hG ?_
              simp only [b_X11_stage_0, b_X11_stage_16, b_X11_stage_24, b_X11_stage_32, b_X11_stage_36, b_X11_stage_37, b_X11_stage_42, b_X11_stage_45, b_X11_stage_54, b_X11_stage_65, b_X11_stage_68, b_X11_stage_82, b_X11_stage_86, b_X11_stage_87, b_X11_stage_92, b_X11_stage_101, b_X11_stage_106, b_X11_stage_129, b_X11_stage_133, b_X11_stage_134, b_X11_stage_142, b_X11_stage_150, b_X11_stage_155, b_X11_stage_159, b_X11_stage_160, b_X11_stage_165, b_X11_stage_171, b_X11_stage_197, b_X11_stage_206, b_X11_stage_234, o_c, o_il, o_al, o_is, o_as, o_inc, o_add, o_sub, o_mul, o_and, o_or, o_xor, o_shl, o_shr, o_ush, o_rem, o_dup, o_dup2, o_gf, o_pf, o_pz, o_iald, o_iast, o_zald, o_zast, o_aald, o_gs, o_min, o_acp, o_call, o_callv, zgf, zpf, zia_, zza_, zra_, zrd_, zcp_, zpop, zsm8_0, zsm8_1, zsm8_2, zsm8_3, zsm8_4, zsm8_5, zrc, zisob, t_ieq, t_ilt, t_igt, t_zeq, t_zlt, t_zgt, t_sw, zsw, t_iret, t_zret, t_aret, t_vret, zrg, List.getElem?_cons_zero, List.getElem?_cons_succ, List.set_cons_zero, List.set_cons_succ, List.length_cons, List.length_nil, Option.toList_some, Option.toList_none, List.nil_append, List.cons_append, true_and, and_true, true_or, or_true, Int.cast_ofNat_Int, Int.natCast_zero, Int.natCast_one, zsh_56, zsh_57, zsh_58, zsh_59, zsh_60, zsh_61, zsh_62, zsh_63, zsh_64, zsh_65, zsh_66, zsh_67, zsh_68, zsh_69, zsh_70, zsh_71, zsh_72, zsh_73, zsh_74, zsh_75, zsh_76, zsh_77, zsh_78, zsh_79, zsh_80, zsh_81, zsh_82, zsh_83, zsh_84, zsh_85, zsh_86, zsh_87, zup_ne, zup_eq, zup_nf, ne_eq, not_false_eq_true]
              rw [r1]
              exact ⟨by omega, by omega, fun w => by omega, fun _ => fin 1 _ (by rw [zb_t this])⟩
            | succ q ihq =>
              intro i i1 i2
              have hi : i < D.length := by omega
              have hib : i < N[j].2.length := by omega
              have a1 := v3 i _ (List.getElem?_eq_getElem hib)
              have a2 := r3 i _ (List.getElem?_eq_getElem hi)
              have a3 := n3 _ (List.getElem_mem hib)
              have a4 := r4 _ (List.getElem_mem hi)
              refine s_X11_stage_92 hG ?_
              simp only [b_X11_stage_0, b_X11_stage_16, b_X11_stage_24, b_X11_stage_32, b_X11_stage_36, b_X11_stage_37, b_X11_stage_42, b_X11_stage_45, b_X11_stage_54, b_X11_stage_65, b_X11_stage_68, b_X11_stage_82, b_X11_stage_86, b_X11_stage_87, b_X11_stage_92, b_X11_stage_101, b_X11_stage_106, b_X11_stage_129, b_X11_stage_133, b_X11_stage_134, b_X11_stage_142, b_X11_stage_150, b_X11_stage_155, b_X11_stage_159, b_X11_stage_160, b_X11_stage_165, b_X11_stage_171, b_X11_stage_197, b_X11_stage_206, b_X11_stage_234, o_c, o_il, o_al, o_is, o_as, o_inc, o_add, o_sub, o_mul, o_and, o_or, o_xor, o_shl, o_shr, o_ush, o_rem, o_dup, o_dup2, o_gf, o_pf, o_pz, o_iald, o_iast, o_zald, o_zast, o_aald, o_gs, o_min, o_acp, o_call, o_callv, zgf, zpf, zia_, zza_, zra_, zrd_, zcp_, zpop, zsm8_0, zsm8_1, zsm8_2, zsm8_3, zsm8_4, zsm8_5, zrc, zisob, t_ieq, t_ilt, t_igt, t_zeq, t_zlt, t_zgt, t_sw, zsw, t_iret, t_zret, t_aret, t_vret, zrg, List.getElem?_cons_zero, List.getElem?_cons_succ, List.set_cons_zero, List.set_cons_succ, List.length_cons, List.length_nil, Option.toList_some, Option.toList_none, List.nil_append, List.cons_append, true_and, and_true, true_or, or_true, Int.cast_ofNat_Int, Int.natCast_zero, Int.natCast_one, zsh_56, zsh_57, zsh_58, zsh_59, zsh_60, zsh_61, zsh_62, zsh_63, zsh_64, zsh_65, zsh_66, zsh_67, zsh_68, zsh_69, zsh_70, zsh_71, zsh_72, zsh_73, zsh_74, zsh_75, zsh_76, zsh_77, zsh_78, zsh_79, zsh_80, zsh_81, zsh_82, zsh_83, zsh_84, zsh_85, zsh_86, zsh_87, zup_ne, zup_eq, zup_nf, ne_eq, not_false_eq_true]
              rw [r1, a1, a2]
              refine ⟨by omega, by omega, fun _ => ⟨by omega, fun w => by omega, fun _ => ⟨by omega, by omega, by omega, by omega, fun w => ?_, fun w => ?_⟩⟩, fun w => by omega⟩
              · refine ihq (i + 1) (by omega) (fun z hz => ?_)
                rcases Nat.lt_succ_iff_lt_or_eq.mp hz with q | q
                · exact i2 z q
                · rw [q, List.getElem?_eq_getElem hib, List.getElem?_eq_getElem hi, w]
              · refine ex0 (fun q => w ?_) (i + 1) (by omega)
                have h9 : N[j].2[i]? = D[i]? := by rw [q]
                rw [List.getElem?_eq_getElem hib, List.getElem?_eq_getElem hi] at h9
                exact Option.some.inj h9
          refine ⟨by omega, by omega, by omega, fun w2 => ?_, fun w2 => ?_⟩
          · exact cmp (by omega) D.length 0 (by omega) (fun z hz => by omega)
          · exact ex0 (fun q => w2 (by rw [q])) 0 (by omega)
        · rw [if_neg w] at k2
          exact ih (j + 1) _ _ (by omega) (by rw [k2]; rfl)
    exact scan N.length 0 _ _ (by omega) rfl
  · have u51 := u5.1
    refine ⟨by omega, fun w => by omega, fun _ => ?_⟩
    rw [g3]
    have hzs : zsg L (N, c) D = if bs = D then (N, c) else (N, 1) := by
      unfold zsg
      rw [if_neg u3, u1]
      by_cases e : bs = D
      · rw [if_pos (by rw [e]), if_pos e]
      · rw [if_neg (fun q => e (Option.some.inj q)), if_neg e]
    have c0 := clash 0 (Or.inl rfl)
    have c1 := clash 1 (Or.inr rfl)
    refine ⟨by omega, fun w => ?_, fun w => ?_⟩
    · refine zcall (c_X11_sameAsRow u5 hDD) ?_
      rcases zb_or (bs = D) with ⟨t1, t2⟩ | ⟨t1, t2⟩
      · rw [t1]
        simp only [b_X11_stage_0, b_X11_stage_16, b_X11_stage_24, b_X11_stage_32, b_X11_stage_36, b_X11_stage_37, b_X11_stage_42, b_X11_stage_45, b_X11_stage_54, b_X11_stage_65, b_X11_stage_68, b_X11_stage_82, b_X11_stage_86, b_X11_stage_87, b_X11_stage_92, b_X11_stage_101, b_X11_stage_106, b_X11_stage_129, b_X11_stage_133, b_X11_stage_134, b_X11_stage_142, b_X11_stage_150, b_X11_stage_155, b_X11_stage_159, b_X11_stage_160, b_X11_stage_165, b_X11_stage_171, b_X11_stage_197, b_X11_stage_206, b_X11_stage_234, o_c, o_il, o_al, o_is, o_as, o_inc, o_add, o_sub, o_mul, o_and, o_or, o_xor, o_shl, o_shr, o_ush, o_rem, o_dup, o_dup2, o_gf, o_pf, o_pz, o_iald, o_iast, o_zald, o_zast, o_aald, o_gs, o_min, o_acp, o_call, o_callv, zgf, zpf, zia_, zza_, zra_, zrd_, zcp_, zpop, zsm8_0, zsm8_1, zsm8_2, zsm8_3, zsm8_4, zsm8_5, zrc, zisob, t_ieq, t_ilt, t_igt, t_zeq, t_zlt, t_zgt, t_sw, zsw, t_iret, t_zret, t_aret, t_vret, zrg, List.getElem?_cons_zero, List.getElem?_cons_succ, List.set_cons_zero, List.set_cons_succ, List.length_cons, List.length_nil, Option.toList_some, Option.toList_none, List.nil_append, List.cons_append, true_and, and_true, true_or, or_true, Int.cast_ofNat_Int, Int.natCast_zero, Int.natCast_one, zsh_56, zsh_57, zsh_58, zsh_59, zsh_60, zsh_61, zsh_62, zsh_63, zsh_64, zsh_65, zsh_66, zsh_67, zsh_68, zsh_69, zsh_70, zsh_71, zsh_72, zsh_73, zsh_74, zsh_75, zsh_76, zsh_77, zsh_78, zsh_79, zsh_80, zsh_81, zsh_82, zsh_83, zsh_84, zsh_85, zsh_86, zsh_87, zup_ne, zup_eq, zup_nf, ne_eq, not_false_eq_true]
        rw [hzs, if_pos t2]
        refine ⟨by omega, fun w => by omega, fun _ => ⟨?_, c0.2⟩⟩
        rw [w]
        exact c0.1
      · rw [t1]
        simp only [b_X11_stage_0, b_X11_stage_16, b_X11_stage_24, b_X11_stage_32, b_X11_stage_36, b_X11_stage_37, b_X11_stage_42, b_X11_stage_45, b_X11_stage_54, b_X11_stage_65, b_X11_stage_68, b_X11_stage_82, b_X11_stage_86, b_X11_stage_87, b_X11_stage_92, b_X11_stage_101, b_X11_stage_106, b_X11_stage_129, b_X11_stage_133, b_X11_stage_134, b_X11_stage_142, b_X11_stage_150, b_X11_stage_155, b_X11_stage_159, b_X11_stage_160, b_X11_stage_165, b_X11_stage_171, b_X11_stage_197, b_X11_stage_206, b_X11_stage_234, o_c, o_il, o_al, o_is, o_as, o_inc, o_add, o_sub, o_mul, o_and, o_or, o_xor, o_shl, o_shr, o_ush, o_rem, o_dup, o_dup2, o_gf, o_pf, o_pz, o_iald, o_iast, o_zald, o_zast, o_aald, o_gs, o_min, o_acp, o_call, o_callv, zgf, zpf, zia_, zza_, zra_, zrd_, zcp_, zpop, zsm8_0, zsm8_1, zsm8_2, zsm8_3, zsm8_4, zsm8_5, zrc, zisob, t_ieq, t_ilt, t_igt, t_zeq, t_zlt, t_zgt, t_sw, zsw, t_iret, t_zret, t_aret, t_vret, zrg, List.getElem?_cons_zero, List.getElem?_cons_succ, List.set_cons_zero, List.set_cons_succ, List.length_cons, List.length_nil, Option.toList_some, Option.toList_none, List.nil_append, List.cons_append, true_and, and_true, true_or, or_true, Int.cast_ofNat_Int, Int.natCast_zero, Int.natCast_one, zsh_56, zsh_57, zsh_58, zsh_59, zsh_60, zsh_61, zsh_62, zsh_63, zsh_64, zsh_65, zsh_66, zsh_67, zsh_68, zsh_69, zsh_70, zsh_71, zsh_72, zsh_73, zsh_74, zsh_75, zsh_76, zsh_77, zsh_78, zsh_79, zsh_80, zsh_81, zsh_82, zsh_83, zsh_84, zsh_85, zsh_86, zsh_87, zup_ne, zup_eq, zup_nf, ne_eq, not_false_eq_true]
        rw [hzs, if_neg t2]
        exact ⟨by omega, fun _ => ⟨c1.1, c1.2⟩, fun w => absurd trivial w⟩
    · rw [hzs]
      have e1 : c = 1 := by omega
      have : (if bs = D then (N, c) else (N, 1)) = (N, 1) := by rw [e1]; split <;> rfl
      rw [this]
      exact ⟨c1.1, c1.2⟩
