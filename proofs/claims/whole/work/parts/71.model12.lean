/-! THE REFERENCE: what was given, delivering, harming -/
theorem zms_out {x : zStt} {y : Int} (h : y ∈ zms x) : zix x.1 y < 0 := by
  unfold zms zmis at h
  exact of_decide_eq_true (List.mem_filter.mp h).2
theorem ztk_one {L : List zBk} {b : zBk} (h : zix L b.1 < 0) : zfre L [b] = [b] ∧ ztkc L [b] 0 = if 64 < L.length + 1 then -3 else 0 := by
  have e : zfre L [b] = [b] := by unfold zfre; simp [h]
  refine ⟨e, ?_⟩
  unfold ztkc
  rw [zb_f (P := zcls L [b] 0) (fun q => by
    rcases q with q | ⟨c, hc, q, _⟩
    · omega
    · rw [List.mem_singleton.mp hc] at q; exact q h), if_neg (by decide), e]
  rfl
set_option maxRecDepth 100000 in
set_option maxHeartbeats 4000000 in
theorem c_X11_given {d s : Nat} {μ : zM} {B D : List Int} {T : List zPp} {Ms : List zMg} {Sm : Nat → zStt} (hd : 5 ≤ d) (h : zRN μ B T Ms Sm) (hs : s < 3) (hV : zVS (Sm s)) (hD : zmR μ D) (hD18 : D.length ≤ 18) (hf : (Sm s).2.2.1 = 1) (h1 : μ 56 34 = ((zms (Sm s)).length : Nat)) (h2 : zAR μ 83 (zms (Sm s))) (h3 : zNm (zms (Sm s))) (h4 : (zms (Sm s)).length ≤ 300) : zCt d mX11_given [.inr (some 56), .inl (s : Int)] μ (fun v μ' => v = none ∧ zRN μ' B T (zgvM Ms s (Sm s) (Sm s).2.2.2.1 (zhash D, D)) (zSu Sm s (zgvS (Sm s) (Sm s).2.2.2.1 (zhash D, D))) ∧ zlo μ μ') := by
  have hst := h.2.2.2 s hs
  have hhr := zhash_rg D
  have hbad : ¬ zgvC (Sm s) (Sm s).2.2.2.1 (zhash D, D) → zgvM Ms s (Sm s) (Sm s).2.2.2.1 (zhash D, D) = Ms ∧ zSu Sm s (zgvS (Sm s) (Sm s).2.2.2.1 (zhash D, D)) = Sm := fun q => by
    unfold zgvM zgvS
    rw [if_neg (by rw [zb_f (fun r => q r.1)]; decide), if_neg (by rw [zb_f q]; decide), zSu_id]
    exact ⟨rfl, rfl⟩
  refine of_X11_given (by omega) (fun G hG => s_X11_given_0 hG ?_)
  simp only [b_X11_given_0, b_X11_given_7, b_X11_given_8, b_X11_given_21, b_X11_given_22, b_X11_given_33, b_X11_given_41, b_X11_given_51, b_X11_given_59, b_X11_given_77, b_X11_given_90, b_X11_given_98, b_X11_given_104, b_X11_given_113, b_X11_given_118, b_X11_given_134, b_X11_given_138, b_X11_given_139, b_X11_given_147, b_X11_given_152, b_X11_given_170, b_X11_given_176, b_X11_given_183, b_X11_given_190, o_c, o_il, o_al, o_is, o_as, o_inc, o_add, o_sub, o_mul, o_and, o_or, o_xor, o_shl, o_shr, o_ush, o_rem, o_dup, o_dup2, o_gf, o_pf, o_pz, o_iald, o_iast, o_zald, o_zast, o_aald, o_gs, o_min, o_acp, o_call, o_callv, zgf, zpf, zia_, zza_, zra_, zrd_, zcp_, zpop, zsm8_0, zsm8_1, zsm8_2, zsm8_3, zsm8_4, zsm8_5, zrc, zisob, t_ieq, t_ilt, t_igt, t_zeq, t_zlt, t_zgt, t_sw, zsw, t_iret, t_zret, t_aret, t_vret, zrg, List.getElem?_cons_zero, List.getElem?_cons_succ, List.set_cons_zero, List.set_cons_succ, List.length_cons, List.length_nil, Option.toList_some, Option.toList_none, List.nil_append, List.cons_append, true_and, and_true, true_or, or_true, Int.cast_ofNat_Int, Int.natCast_zero, Int.natCast_one, zsh_56, zsh_57, zsh_58, zsh_59, zsh_60, zsh_61, zsh_62, zsh_63, zsh_64, zsh_65, zsh_66, zsh_67, zsh_68, zsh_69, zsh_70, zsh_71, zsh_72, zsh_73, zsh_74, zsh_75, zsh_76, zsh_77, zsh_78, zsh_79, zsh_80, zsh_81, zsh_82, zsh_83, zsh_84, zsh_85, zsh_86, zsh_87, zup_ne, zup_eq, zup_nf, ne_eq, not_false_eq_true]
  refine zcall (c_X11_isBlock (by omega) hD) ?_
  rcases zb_or (zisB (some D)) with ⟨q1, q2⟩ | ⟨q1, q2⟩
  · rw [q1]
    simp only [b_X11_given_0, b_X11_given_7, b_X11_given_8, b_X11_given_21, b_X11_given_22, b_X11_given_33, b_X11_given_41, b_X11_given_51, b_X11_given_59, b_X11_given_77, b_X11_given_90, b_X11_given_98, b_X11_given_104, b_X11_given_113, b_X11_given_118, b_X11_given_134, b_X11_given_138, b_X11_given_139, b_X11_given_147, b_X11_given_152, b_X11_given_170, b_X11_given_176, b_X11_given_183, b_X11_given_190, o_c, o_il, o_al, o_is, o_as, o_inc, o_add, o_sub, o_mul, o_and, o_or, o_xor, o_shl, o_shr, o_ush, o_rem, o_dup, o_dup2, o_gf, o_pf, o_pz, o_iald, o_iast, o_zald, o_zast, o_aald, o_gs, o_min, o_acp, o_call, o_callv, zgf, zpf, zia_, zza_, zra_, zrd_, zcp_, zpop, zsm8_0, zsm8_1, zsm8_2, zsm8_3, zsm8_4, zsm8_5, zrc, zisob, t_ieq, t_ilt, t_igt, t_zeq, t_zlt, t_zgt, t_sw, zsw, t_iret, t_zret, t_aret, t_vret, zrg, List.getElem?_cons_zero, List.getElem?_cons_succ, List.set_cons_zero, List.set_cons_succ, List.length_cons, List.length_nil, Option.toList_some, Option.toList_none, List.nil_append, List.cons_append, true_and, and_true, true_or, or_true, Int.cast_ofNat_Int, Int.natCast_zero, Int.natCast_one, zsh_56, zsh_57, zsh_58, zsh_59, zsh_60, zsh_61, zsh_62, zsh_63, zsh_64, zsh_65, zsh_66, zsh_67, zsh_68, zsh_69, zsh_70, zsh_71, zsh_72, zsh_73, zsh_74, zsh_75, zsh_76, zsh_77, zsh_78, zsh_79, zsh_80, zsh_81, zsh_82, zsh_83, zsh_84, zsh_85, zsh_86, zsh_87, zup_ne, zup_eq, zup_nf, ne_eq, not_false_eq_true]
    refine ⟨by omega, fun w => by omega, fun _ => ?_⟩
    refine zcall (c_X11_rowName (by omega) hD) ?_
    simp only [b_X11_given_0, b_X11_given_7, b_X11_given_8, b_X11_given_21, b_X11_given_22, b_X11_given_33, b_X11_given_41, b_X11_given_51, b_X11_given_59, b_X11_given_77, b_X11_given_90, b_X11_given_98, b_X11_given_104, b_X11_given_113, b_X11_given_118, b_X11_given_134, b_X11_given_138, b_X11_given_139, b_X11_given_147, b_X11_given_152, b_X11_given_170, b_X11_given_176, b_X11_given_183, b_X11_given_190, o_c, o_il, o_al, o_is, o_as, o_inc, o_add, o_sub, o_mul, o_and, o_or, o_xor, o_shl, o_shr, o_ush, o_rem, o_dup, o_dup2, o_gf, o_pf, o_pz, o_iald, o_iast, o_zald, o_zast, o_aald, o_gs, o_min, o_acp, o_call, o_callv, zgf, zpf, zia_, zza_, zra_, zrd_, zcp_, zpop, zsm8_0, zsm8_1, zsm8_2, zsm8_3, zsm8_4, zsm8_5, zrc, zisob, t_ieq, t_ilt, t_igt, t_zeq, t_zlt, t_zgt, t_sw, zsw, t_iret, t_zret, t_aret, t_vret, zrg, List.getElem?_cons_zero, List.getElem?_cons_succ, List.set_cons_zero, List.set_cons_succ, List.length_cons, List.length_nil, Option.toList_some, Option.toList_none, List.nil_append, List.cons_append, true_and, and_true, true_or, or_true, Int.cast_ofNat_Int, Int.natCast_zero, Int.natCast_one, zsh_56, zsh_57, zsh_58, zsh_59, zsh_60, zsh_61, zsh_62, zsh_63, zsh_64, zsh_65, zsh_66, zsh_67, zsh_68, zsh_69, zsh_70, zsh_71, zsh_72, zsh_73, zsh_74, zsh_75, zsh_76, zsh_77, zsh_78, zsh_79, zsh_80, zsh_81, zsh_82, zsh_83, zsh_84, zsh_85, zsh_86, zsh_87, zup_ne, zup_eq, zup_nf, ne_eq, not_false_eq_true]
    refine zcall (c_X11_isMissing h1 h2 h3 (by omega) (by unfold zrg; omega)) ?_
    rcases zb_or (zhash D ∈ zms (Sm s)) with ⟨r1, r2⟩ | ⟨r1, r2⟩
    · rw [r1]
      simp only [b_X11_given_0, b_X11_given_7, b_X11_given_8, b_X11_given_21, b_X11_given_22, b_X11_given_33, b_X11_given_41, b_X11_given_51, b_X11_given_59, b_X11_given_77, b_X11_given_90, b_X11_given_98, b_X11_given_104, b_X11_given_113, b_X11_given_118, b_X11_given_134, b_X11_given_138, b_X11_given_139, b_X11_given_147, b_X11_given_152, b_X11_given_170, b_X11_given_176, b_X11_given_183, b_X11_given_190, o_c, o_il, o_al, o_is, o_as, o_inc, o_add, o_sub, o_mul, o_and, o_or, o_xor, o_shl, o_shr, o_ush, o_rem, o_dup, o_dup2, o_gf, o_pf, o_pz, o_iald, o_iast, o_zald, o_zast, o_aald, o_gs, o_min, o_acp, o_call, o_callv, zgf, zpf, zia_, zza_, zra_, zrd_, zcp_, zpop, zsm8_0, zsm8_1, zsm8_2, zsm8_3, zsm8_4, zsm8_5, zrc, zisob, t_ieq, t_ilt, t_igt, t_zeq, t_zlt, t_zgt, t_sw, zsw, t_iret, t_zret, t_aret, t_vret, zrg, List.getElem?_cons_zero, List.getElem?_cons_succ, List.set_cons_zero, List.set_cons_succ, List.length_cons, List.length_nil, Option.toList_some, Option.toList_none, List.nil_append, List.cons_append, true_and, and_true, true_or, or_true, Int.cast_ofNat_Int, Int.natCast_zero, Int.natCast_one, zsh_56, zsh_57, zsh_58, zsh_59, zsh_60, zsh_61, zsh_62, zsh_63, zsh_64, zsh_65, zsh_66, zsh_67, zsh_68, zsh_69, zsh_70, zsh_71, zsh_72, zsh_73, zsh_74, zsh_75, zsh_76, zsh_77, zsh_78, zsh_79, zsh_80, zsh_81, zsh_82, zsh_83, zsh_84, zsh_85, zsh_86, zsh_87, zup_ne, zup_eq, zup_nf, ne_eq, not_false_eq_true]
      have hC : zgvC (Sm s) (Sm s).2.2.2.1 (zhash D, D) := ⟨⟨hf, rfl⟩, q2, r2⟩
      obtain ⟨ef, ek⟩ := ztk_one (L := (Sm s).1) (b := (zhash D, D)) (zms_out r2)
      have eS : zgvS (Sm s) (Sm s).2.2.2.1 (zhash D, D) = zgvX (Sm s) (zhash D, D) := by unfold zgvS; rw [if_pos (zb_t hC)]
      rw [hst.1.1]
      have hl64 := hst.1.2.1
      refine ⟨by omega, fun w => by omega, fun _ => ⟨by omega, by omega, by omega, fun w => ⟨by omega, ?_⟩, fun w => ?_⟩⟩
      · rw [if_pos (by omega)] at ek
        have eX : zgvX (Sm s) (zhash D, D) = zfai (Sm s) := by unfold zgvX; rw [if_neg (by rw [ek]; decide)]
        have eM : zgvM Ms s (Sm s) (Sm s).2.2.2.1 (zhash D, D) = Ms := by unfold zgvM; rw [if_neg (by rw [zb_f (fun r => by have := r.2; rw [ek] at this; exact absurd this (by decide))]; decide)]
        rw [eS, eX, eM]
        have f2 : zF [65] [] μ (zup μ 65 s 3) := (zF.refl _ _ _).u (by simp) (by decide)
        have hr := hst.2.2.2.2.2
        refine ⟨h.ft ⟨zup_eq, by rw [zup_ne 67 (by decide)]; exact hst.2.2.2.1, by rw [zup_ne 66 (by decide)]; exact hst.2.2.2.2.1, by omega, hr.2.1, hr.2.2⟩ f2 (by simp) (by simp) (fun t ht => by rw [zup_nf ht, zup_ne 66 (by decide), zup_ne 67 (by decide)]; exact ⟨rfl, rfl, rfl⟩), f2.lo (by simp)⟩
      · rw [if_neg (by omega)] at ek
        obtain ⟨x2, hx2⟩ : ∃ x2 : zStt, x2 = ((Sm s).1 ++ [(zhash D, D)], (Sm s).2) := ⟨_, rfl⟩
        obtain ⟨M0, hM0⟩ : ∃ M0, M0 = zms (Sm s) := ⟨_, rfl⟩
        have eX : zgvX (Sm s) (zhash D, D) = zwst x2 := by unfold zgvX; rw [if_pos ek, ef, hx2]
        have eM : zgvM Ms s (Sm s) (Sm s).2.2.2.1 (zhash D, D) = zwnt Ms s (Sm s).2.2.2.1 ((zms x2).filter (fun y => decide (y ∉ M0))) := by
          unfold zgvM
          rw [if_pos (zb_t ⟨hC, ek⟩), eX, hM0]
          rfl
        have hV2 : zVS x2 := by
          rw [hx2]
          have := hV.take (Lb := [(zhash D, D)]) (fun y hy => by rw [List.mem_singleton.mp hy]; exact q2) (zNd_one _)
          rw [ef] at this
          exact this
        have fx2 : x2.2 = (Sm s).2 := by rw [hx2]
        rw [← hM0] at h1 h2 h3 h4
        obtain ⟨fp, hfp⟩ : ∃ fp, fp = (Sm s).2.2.2.1 := ⟨_, rfl⟩
        have hfpr := hst.2.2.2.2.2.2.1
        rw [← hfp] at hfpr
        -- the last loop
        have last : ∀ (μb : zM) (x4 x5 : zV), zRN μb B T Ms (zSu Sm s x2) → (μb 56 34 = ((zms x2).length : Nat) ∧ zAR μb 83 (zms x2) ∧ zNm (zms x2) ∧ (zms x2).length ≤ 300) → (μb 56 36 = M0.length ∧ zAR μb 84 M0) → zlo μ μb → G 90 [.inr (some 56), .inl (s : Int), .inl (zhash D), .inl 0, x4, x5] [] μb := by
          intro μb x4 x5 hRb hMb h0b hlb
          obtain ⟨M1, hM1⟩ : ∃ M1, M1 = zms x2 := ⟨_, rfl⟩
          rw [← hM1] at hMb
          obtain ⟨m1, m2, m3, m4⟩ := hMb
          have loop : ∀ (r i : Nat) (μ2 : zM) (y4 y5 : zV), i + r = M1.length → zRN μ2 B T (zwnt Ms s fp ((M1.take i).filter (fun y => decide (y ∉ M0)))) (zSu Sm s x2) → zF [68, 69, 70, 71, 72] [11] μb μ2 → G 90 [.inr (some 56), .inl (s : Int), .inl (zhash D), .inl (i : Int), y4, y5] [] μ2 := by
            intro r
            induction r with
            | zero =>
              intro i μ2 y4 y5 k1 k2 k3
              rw [List.take_of_length_le (by omega)] at k2
              have hd2 := k2.2.2.2 s hs
              rw [zSu_at] at hd2
              have e34 : μ2 56 34 = M1.length := by rw [k3.2 34 (by simp)]; exact m1
              refine s_X11_given_90 hG ?_
              simp only [b_X11_given_0, b_X11_given_7, b_X11_given_8, b_X11_given_21, b_X11_given_22, b_X11_given_33, b_X11_given_41, b_X11_given_51, b_X11_given_59, b_X11_given_77, b_X11_given_90, b_X11_given_98, b_X11_given_104, b_X11_given_113, b_X11_given_118, b_X11_given_134, b_X11_given_138, b_X11_given_139, b_X11_given_147, b_X11_given_152, b_X11_given_170, b_X11_given_176, b_X11_given_183, b_X11_given_190, o_c, o_il, o_al, o_is, o_as, o_inc, o_add, o_sub, o_mul, o_and, o_or, o_xor, o_shl, o_shr, o_ush, o_rem, o_dup, o_dup2, o_gf, o_pf, o_pz, o_iald, o_iast, o_zald, o_zast, o_aald, o_gs, o_min, o_acp, o_call, o_callv, zgf, zpf, zia_, zza_, zra_, zrd_, zcp_, zpop, zsm8_0, zsm8_1, zsm8_2, zsm8_3, zsm8_4, zsm8_5, zrc, zisob, t_ieq, t_ilt, t_igt, t_zeq, t_zlt, t_zgt, t_sw, zsw, t_iret, t_zret, t_aret, t_vret, zrg, List.getElem?_cons_zero, List.getElem?_cons_succ, List.set_cons_zero, List.set_cons_succ, List.length_cons, List.length_nil, Option.toList_some, Option.toList_none, List.nil_append, List.cons_append, true_and, and_true, true_or, or_true, Int.cast_ofNat_Int, Int.natCast_zero, Int.natCast_one, zsh_56, zsh_57, zsh_58, zsh_59, zsh_60, zsh_61, zsh_62, zsh_63, zsh_64, zsh_65, zsh_66, zsh_67, zsh_68, zsh_69, zsh_70, zsh_71, zsh_72, zsh_73, zsh_74, zsh_75, zsh_76, zsh_77, zsh_78, zsh_79, zsh_80, zsh_81, zsh_82, zsh_83, zsh_84, zsh_85, zsh_86, zsh_87, zup_ne, zup_eq, zup_nf, ne_eq, not_false_eq_true]
              rw [e34]
              rw [eS, eX, eM, ← hfp]
              refine ⟨by omega, by omega, fun w => by omega, fun _ => ⟨by omega, fun w => ⟨by omega, ?_⟩, fun w => ?_⟩⟩
              · have f2 : zF [65] [] μ2 (zup μ2 65 s 2) := (zF.refl _ _ _).u (by simp) (by decide)
                have hr := hd2.2.2.2.2.2
                have hz : zms x2 = [] := List.length_eq_zero_iff.mp (by rw [← hM1]; omega)
                have e : zwst x2 = (x2.1, x2.2.1, (2, x2.2.2.2.1, x2.2.2.2.2)) := by
                  unfold zwst zwfs
                  rw [if_pos ⟨by rw [fx2]; exact hf, hz⟩]
                have := k2.ft (μ' := zup μ2 65 s 2) (s := s) (fs := 2) (fp := x2.2.2.2.1) (fr := x2.2.2.2.2) ⟨zup_eq, by rw [zup_ne 67 (by decide)]; exact hd2.2.2.2.1, by rw [zup_ne 66 (by decide)]; exact hd2.2.2.2.2.1, by omega, hr.2.1, hr.2.2⟩ f2 (by simp) (by simp) (fun t ht => by rw [zup_nf ht, zup_ne 66 (by decide), zup_ne 67 (by decide)]; exact ⟨rfl, rfl, rfl⟩)
                rw [zSu_at, zSu_su, ← e, hM1] at this
                exact ⟨this, (hlb.trans (k3.lo (by simp))).trans (f2.lo (by simp))⟩
              · have e : zwst x2 = x2 := zrnI.w (fun _ hz => by rw [hM1, hz] at w; simp at w)
                rw [e, ← hM1]
                exact ⟨k2, hlb.trans (k3.lo (by simp))⟩
            | succ r ih =>
              intro i μ2 y4 y5 k1 k2 k3
              have hi : i < M1.length := by omega
              have e34 : μ2 56 34 = M1.length := by rw [k3.2 34 (by simp)]; exact m1
              have e36 : μ2 56 36 = M0.length := by rw [k3.2 36 (by simp)]; exact h0b.1
              have e83 : μ2 83 i = M1[i] := by rw [k3.1 83 (by simp) (by decide)]; exact m2 i _ (List.getElem?_eq_getElem hi)
              have hmr := m3 _ (List.getElem_mem hi)
              have e9 : M1.take (i + 1) = M1.take i ++ [M1[i]] := by rw [List.take_succ]; simp [hi]
              have hd2 := k2.2.2.2 s hs
              rw [zSu_at] at hd2
              have scan : ∀ (q j : Nat), j + q = M0.length → G 104 [.inr (some 56), .inl (s : Int), .inl (zhash D), .inl (i : Int), .inl (zb (M1[i] ∈ M0.take j)), .inl (j : Int)] [] μ2 := by
                intro q
                induction q with
                | zero =>
                  intro j j1
                  rw [List.take_of_length_le (by omega)]
                  refine s_X11_given_104 hG ?_
                  simp only [b_X11_given_0, b_X11_given_7, b_X11_given_8, b_X11_given_21, b_X11_given_22, b_X11_given_33, b_X11_given_41, b_X11_given_51, b_X11_given_59, b_X11_given_77, b_X11_given_90, b_X11_given_98, b_X11_given_104, b_X11_given_113, b_X11_given_118, b_X11_given_134, b_X11_given_138, b_X11_given_139, b_X11_given_147, b_X11_given_152, b_X11_given_170, b_X11_given_176, b_X11_given_183, b_X11_given_190, o_c, o_il, o_al, o_is, o_as, o_inc, o_add, o_sub, o_mul, o_and, o_or, o_xor, o_shl, o_shr, o_ush, o_rem, o_dup, o_dup2, o_gf, o_pf, o_pz, o_iald, o_iast, o_zald, o_zast, o_aald, o_gs, o_min, o_acp, o_call, o_callv, zgf, zpf, zia_, zza_, zra_, zrd_, zcp_, zpop, zsm8_0, zsm8_1, zsm8_2, zsm8_3, zsm8_4, zsm8_5, zrc, zisob, t_ieq, t_ilt, t_igt, t_zeq, t_zlt, t_zgt, t_sw, zsw, t_iret, t_zret, t_aret, t_vret, zrg, List.getElem?_cons_zero, List.getElem?_cons_succ, List.set_cons_zero, List.set_cons_succ, List.length_cons, List.length_nil, Option.toList_some, Option.toList_none, List.nil_append, List.cons_append, true_and, and_true, true_or, or_true, Int.cast_ofNat_Int, Int.natCast_zero, Int.natCast_one, zsh_56, zsh_57, zsh_58, zsh_59, zsh_60, zsh_61, zsh_62, zsh_63, zsh_64, zsh_65, zsh_66, zsh_67, zsh_68, zsh_69, zsh_70, zsh_71, zsh_72, zsh_73, zsh_74, zsh_75, zsh_76, zsh_77, zsh_78, zsh_79, zsh_80, zsh_81, zsh_82, zsh_83, zsh_84, zsh_85, zsh_86, zsh_87, zup_ne, zup_eq, zup_nf, ne_eq, not_false_eq_true]
                  rw [e36, e83]
                  refine ⟨by omega, by omega, fun w => by omega, fun _ => ?_⟩
                  rcases zb_or (M1[i] ∈ M0) with ⟨t1, t2⟩ | ⟨t1, t2⟩
                  · rw [t1]
                    refine ⟨by omega, fun w => by omega, fun _ => ?_⟩
                    refine ih (i + 1) μ2 _ _ (by omega) ?_ k3
                    rw [e9, List.filter_append]
                    simpa [t2] using k2
                  · rw [t1, hd2.2.2.2.1]
                    refine ⟨by omega, fun _ => ⟨by omega, by omega, ?_⟩, fun w => absurd rfl w⟩
                    have efp : x2.2.2.2.1 = fp := by rw [fx2, hfp]
                    rw [efp]
                    refine ⟨_, c_X11_send k2.2.2.1 (Or.inl rfl) ⟨by omega, by omega⟩ hfpr hmr, ?_⟩
                    rintro v μ3 ⟨rfl, g1, g2⟩
                    simp only [b_X11_given_0, b_X11_given_7, b_X11_given_8, b_X11_given_21, b_X11_given_22, b_X11_given_33, b_X11_given_41, b_X11_given_51, b_X11_given_59, b_X11_given_77, b_X11_given_90, b_X11_given_98, b_X11_given_104, b_X11_given_113, b_X11_given_118, b_X11_given_134, b_X11_given_138, b_X11_given_139, b_X11_given_147, b_X11_given_152, b_X11_given_170, b_X11_given_176, b_X11_given_183, b_X11_given_190, o_c, o_il, o_al, o_is, o_as, o_inc, o_add, o_sub, o_mul, o_and, o_or, o_xor, o_shl, o_shr, o_ush, o_rem, o_dup, o_dup2, o_gf, o_pf, o_pz, o_iald, o_iast, o_zald, o_zast, o_aald, o_gs, o_min, o_acp, o_call, o_callv, zgf, zpf, zia_, zza_, zra_, zrd_, zcp_, zpop, zsm8_0, zsm8_1, zsm8_2, zsm8_3, zsm8_4, zsm8_5, zrc, zisob, t_ieq, t_ilt, t_igt, t_zeq, t_zlt, t_zgt, t_sw, zsw, t_iret, t_zret, t_aret, t_vret, zrg, List.getElem?_cons_zero, List.getElem?_cons_succ, List.set_cons_zero, List.set_cons_succ, List.length_cons, List.length_nil, Option.toList_some, Option.toList_none, List.nil_append, List.cons_append, true_and, and_true, true_or, or_true, Int.cast_ofNat_Int, Int.natCast_zero, Int.natCast_one, zsh_56, zsh_57, zsh_58, zsh_59, zsh_60, zsh_61, zsh_62, zsh_63, zsh_64, zsh_65, zsh_66, zsh_67, zsh_68, zsh_69, zsh_70, zsh_71, zsh_72, zsh_73, zsh_74, zsh_75, zsh_76, zsh_77, zsh_78, zsh_79, zsh_80, zsh_81, zsh_82, zsh_83, zsh_84, zsh_85, zsh_86, zsh_87, zup_ne, zup_eq, zup_nf, ne_eq, not_false_eq_true]
                    refine ih (i + 1) μ3 _ _ (by omega) ?_ (k3.trans g2)
                    have e8 : (M1.take (i + 1)).filter (fun y => decide (y ∉ M0)) = (M1.take i).filter (fun y => decide (y ∉ M0)) ++ [M1[i]] := by
                      rw [e9, List.filter_append]; simp [t2]
                    rw [e8]
                    unfold zwnt
                    rw [List.foldl_append]
                    exact k2.ms g1 g2 (by simp) (by simp)
                | succ q ihq =>
                  intro j j1
                  have hj : j < M0.length := by omega
                  have e84 : μ2 84 j = M0[j] := by rw [k3.1 84 (by simp) (by decide)]; exact h0b.2 j _ (List.getElem?_eq_getElem hj)
                  have hsj := h3 _ (List.getElem_mem hj)
                  have e9' : M0.take (j + 1) = M0.take j ++ [M0[j]] := by rw [List.take_succ]; simp [hj]
                  have nx := ihq (j + 1) (by omega)
                  refine s_X11_given_104 hG ?_
                  simp only [b_X11_given_0, b_X11_given_7, b_X11_given_8, b_X11_given_21, b_X11_given_22, b_X11_given_33, b_X11_given_41, b_X11_given_51, b_X11_given_59, b_X11_given_77, b_X11_given_90, b_X11_given_98, b_X11_given_104, b_X11_given_113, b_X11_given_118, b_X11_given_134, b_X11_given_138, b_X11_given_139, b_X11_given_147, b_X11_given_152, b_X11_given_170, b_X11_given_176, b_X11_given_183, b_X11_given_190, o_c, o_il, o_al, o_is, o_as, o_inc, o_add, o_sub, o_mul, o_and, o_or, o_xor, o_shl, o_shr, o_ush, o_rem, o_dup, o_dup2, o_gf, o_pf, o_pz, o_iald, o_iast, o_zald, o_zast, o_aald, o_gs, o_min, o_acp, o_call, o_callv, zgf, zpf, zia_, zza_, zra_, zrd_, zcp_, zpop, zsm8_0, zsm8_1, zsm8_2, zsm8_3, zsm8_4, zsm8_5, zrc, zisob, t_ieq, t_ilt, t_igt, t_zeq, t_zlt, t_zgt, t_sw, zsw, t_iret, t_zret, t_aret, t_vret, zrg, List.getElem?_cons_zero, List.getElem?_cons_succ, List.set_cons_zero, List.set_cons_succ, List.length_cons, List.length_nil, Option.toList_some, Option.toList_none, List.nil_append, List.cons_append, true_and, and_true, true_or, or_true, Int.cast_ofNat_Int, Int.natCast_zero, Int.natCast_one, zsh_56, zsh_57, zsh_58, zsh_59, zsh_60, zsh_61, zsh_62, zsh_63, zsh_64, zsh_65, zsh_66, zsh_67, zsh_68, zsh_69, zsh_70, zsh_71, zsh_72, zsh_73, zsh_74, zsh_75, zsh_76, zsh_77, zsh_78, zsh_79, zsh_80, zsh_81, zsh_82, zsh_83, zsh_84, zsh_85, zsh_86, zsh_87, zup_ne, zup_eq, zup_nf, ne_eq, not_false_eq_true]
                  rw [e36, e83, e84]
                  refine ⟨by omega, by omega, fun _ => ?_, fun w => by omega⟩
                  rcases zb_or (M1[i] ∈ M0.take j) with ⟨t1, t2⟩ | ⟨t1, t2⟩
                  · rw [t1]
                    refine ⟨by omega, fun w => by omega, fun _ => ?_⟩
                    rw [zb_t (by rw [e9']; exact List.mem_append_left _ t2)] at nx
                    exact nx
                  · rw [t1]
                    refine ⟨by omega, fun _ => ⟨by omega, by omega, by omega, by omega, fun w => ?_, fun w => ?_⟩, fun w => absurd rfl w⟩
                    · rw [zb_t (by rw [e9', w]; simp)] at nx
                      exact nx
                    · rw [zb_f (fun u => by rw [e9'] at u; simp only [List.mem_append, List.mem_singleton] at u; rcases u with u | u; exact t2 u; exact w u.symm)] at nx
                      exact nx
              refine s_X11_given_90 hG ?_
              simp only [b_X11_given_0, b_X11_given_7, b_X11_given_8, b_X11_given_21, b_X11_given_22, b_X11_given_33, b_X11_given_41, b_X11_given_51, b_X11_given_59, b_X11_given_77, b_X11_given_90, b_X11_given_98, b_X11_given_104, b_X11_given_113, b_X11_given_118, b_X11_given_134, b_X11_given_138, b_X11_given_139, b_X11_given_147, b_X11_given_152, b_X11_given_170, b_X11_given_176, b_X11_given_183, b_X11_given_190, o_c, o_il, o_al, o_is, o_as, o_inc, o_add, o_sub, o_mul, o_and, o_or, o_xor, o_shl, o_shr, o_ush, o_rem, o_dup, o_dup2, o_gf, o_pf, o_pz, o_iald, o_iast, o_zald, o_zast, o_aald, o_gs, o_min, o_acp, o_call, o_callv, zgf, zpf, zia_, zza_, zra_, zrd_, zcp_, zpop, zsm8_0, zsm8_1, zsm8_2, zsm8_3, zsm8_4, zsm8_5, zrc, zisob, t_ieq, t_ilt, t_igt, t_zeq, t_zlt, t_zgt, t_sw, zsw, t_iret, t_zret, t_aret, t_vret, zrg, List.getElem?_cons_zero, List.getElem?_cons_succ, List.set_cons_zero, List.set_cons_succ, List.length_cons, List.length_nil, Option.toList_some, Option.toList_none, List.nil_append, List.cons_append, true_and, and_true, true_or, or_true, Int.cast_ofNat_Int, Int.natCast_zero, Int.natCast_one, zsh_56, zsh_57, zsh_58, zsh_59, zsh_60, zsh_61, zsh_62, zsh_63, zsh_64, zsh_65, zsh_66, zsh_67, zsh_68, zsh_69, zsh_70, zsh_71, zsh_72, zsh_73, zsh_74, zsh_75, zsh_76, zsh_77, zsh_78, zsh_79, zsh_80, zsh_81, zsh_82, zsh_83, zsh_84, zsh_85, zsh_86, zsh_87, zup_ne, zup_eq, zup_nf, ne_eq, not_false_eq_true]
              rw [e34]
              refine ⟨by omega, by omega, fun _ => ?_, fun w => by omega⟩
              have := scan M0.length 0 (by omega)
              rw [zb_f (by simp)] at this
              exact this
          exact loop M1.length 0 μb x4 x5 (by omega) (by simpa [zwnt] using hRb) (zF.refl _ _ _)
        -- what was missing is kept
        have keep : ∀ (r i : Nat) (μ2 : zM) (x4 x5 : zV), i + r = M0.length → zF [84] [36] μ μ2 → μ2 56 36 = M0.length → (∀ (j : Nat) (y : Int), j < i → M0[j]? = some y → μ2 84 j = y) → G 51 [.inr (some 56), .inl (s : Int), .inl (zhash D), .inl (i : Int), x4, x5] [] μ2 := by
          intro r
          induction r with
          | zero =>
            intro i μ2 x4 x5 k1 k2 k3 k4
            refine s_X11_given_51 hG ?_
            simp only [b_X11_given_0, b_X11_given_7, b_X11_given_8, b_X11_given_21, b_X11_given_22, b_X11_given_33, b_X11_given_41, b_X11_given_51, b_X11_given_59, b_X11_given_77, b_X11_given_90, b_X11_given_98, b_X11_given_104, b_X11_given_113, b_X11_given_118, b_X11_given_134, b_X11_given_138, b_X11_given_139, b_X11_given_147, b_X11_given_152, b_X11_given_170, b_X11_given_176, b_X11_given_183, b_X11_given_190, o_c, o_il, o_al, o_is, o_as, o_inc, o_add, o_sub, o_mul, o_and, o_or, o_xor, o_shl, o_shr, o_ush, o_rem, o_dup, o_dup2, o_gf, o_pf, o_pz, o_iald, o_iast, o_zald, o_zast, o_aald, o_gs, o_min, o_acp, o_call, o_callv, zgf, zpf, zia_, zza_, zra_, zrd_, zcp_, zpop, zsm8_0, zsm8_1, zsm8_2, zsm8_3, zsm8_4, zsm8_5, zrc, zisob, t_ieq, t_ilt, t_igt, t_zeq, t_zlt, t_zgt, t_sw, zsw, t_iret, t_zret, t_aret, t_vret, zrg, List.getElem?_cons_zero, List.getElem?_cons_succ, List.set_cons_zero, List.set_cons_succ, List.length_cons, List.length_nil, Option.toList_some, Option.toList_none, List.nil_append, List.cons_append, true_and, and_true, true_or, or_true, Int.cast_ofNat_Int, Int.natCast_zero, Int.natCast_one, zsh_56, zsh_57, zsh_58, zsh_59, zsh_60, zsh_61, zsh_62, zsh_63, zsh_64, zsh_65, zsh_66, zsh_67, zsh_68, zsh_69, zsh_70, zsh_71, zsh_72, zsh_73, zsh_74, zsh_75, zsh_76, zsh_77, zsh_78, zsh_79, zsh_80, zsh_81, zsh_82, zsh_83, zsh_84, zsh_85, zsh_86, zsh_87, zup_ne, zup_eq, zup_nf, ne_eq, not_false_eq_true]
            rw [k3]
            refine ⟨by omega, by omega, fun w => by omega, fun _ => ?_⟩
            have hst2 := hst.1.f k2 (by simp)
            refine ⟨_, c_X11_enter hst2 hs (by omega) (hD.f k2 (by simp) (by simp)) hD18 hhr, ?_⟩
            rintro v μ3 ⟨rfl, g1, g2⟩
            simp only [b_X11_given_0, b_X11_given_7, b_X11_given_8, b_X11_given_21, b_X11_given_22, b_X11_given_33, b_X11_given_41, b_X11_given_51, b_X11_given_59, b_X11_given_77, b_X11_given_90, b_X11_given_98, b_X11_given_104, b_X11_given_113, b_X11_given_118, b_X11_given_134, b_X11_given_138, b_X11_given_139, b_X11_given_147, b_X11_given_152, b_X11_given_170, b_X11_given_176, b_X11_given_183, b_X11_given_190, o_c, o_il, o_al, o_is, o_as, o_inc, o_add, o_sub, o_mul, o_and, o_or, o_xor, o_shl, o_shr, o_ush, o_rem, o_dup, o_dup2, o_gf, o_pf, o_pz, o_iald, o_iast, o_zald, o_zast, o_aald, o_gs, o_min, o_acp, o_call, o_callv, zgf, zpf, zia_, zza_, zra_, zrd_, zcp_, zpop, zsm8_0, zsm8_1, zsm8_2, zsm8_3, zsm8_4, zsm8_5, zrc, zisob, t_ieq, t_ilt, t_igt, t_zeq, t_zlt, t_zgt, t_sw, zsw, t_iret, t_zret, t_aret, t_vret, zrg, List.getElem?_cons_zero, List.getElem?_cons_succ, List.set_cons_zero, List.set_cons_succ, List.length_cons, List.length_nil, Option.toList_some, Option.toList_none, List.nil_append, List.cons_append, true_and, and_true, true_or, or_true, Int.cast_ofNat_Int, Int.natCast_zero, Int.natCast_one, zsh_56, zsh_57, zsh_58, zsh_59, zsh_60, zsh_61, zsh_62, zsh_63, zsh_64, zsh_65, zsh_66, zsh_67, zsh_68, zsh_69, zsh_70, zsh_71, zsh_72, zsh_73, zsh_74, zsh_75, zsh_76, zsh_77, zsh_78, zsh_79, zsh_80, zsh_81, zsh_82, zsh_83, zsh_84, zsh_85, zsh_86, zsh_87, zup_ne, zup_eq, zup_nf, ne_eq, not_false_eq_true]
            have hR3 : zRN μ3 B T Ms (zSu Sm s x2) := by
              have := (h.f k2 (by simp) (by simp)).x g1 g2
              rw [hx2]
              exact this
            have hd3 := hR3.2.2.2 s hs
            rw [zSu_at] at hd3
            refine ⟨_, c_X11_findMissing (by omega) hd3 hs hV2, ?_⟩
            rintro v μ4 ⟨rfl, p1, p2, p3⟩
            simp only [b_X11_given_0, b_X11_given_7, b_X11_given_8, b_X11_given_21, b_X11_given_22, b_X11_given_33, b_X11_given_41, b_X11_given_51, b_X11_given_59, b_X11_given_77, b_X11_given_90, b_X11_given_98, b_X11_given_104, b_X11_given_113, b_X11_given_118, b_X11_given_134, b_X11_given_138, b_X11_given_139, b_X11_given_147, b_X11_given_152, b_X11_given_170, b_X11_given_176, b_X11_given_183, b_X11_given_190, o_c, o_il, o_al, o_is, o_as, o_inc, o_add, o_sub, o_mul, o_and, o_or, o_xor, o_shl, o_shr, o_ush, o_rem, o_dup, o_dup2, o_gf, o_pf, o_pz, o_iald, o_iast, o_zald, o_zast, o_aald, o_gs, o_min, o_acp, o_call, o_callv, zgf, zpf, zia_, zza_, zra_, zrd_, zcp_, zpop, zsm8_0, zsm8_1, zsm8_2, zsm8_3, zsm8_4, zsm8_5, zrc, zisob, t_ieq, t_ilt, t_igt, t_zeq, t_zlt, t_zgt, t_sw, zsw, t_iret, t_zret, t_aret, t_vret, zrg, List.getElem?_cons_zero, List.getElem?_cons_succ, List.set_cons_zero, List.set_cons_succ, List.length_cons, List.length_nil, Option.toList_some, Option.toList_none, List.nil_append, List.cons_append, true_and, and_true, true_or, or_true, Int.cast_ofNat_Int, Int.natCast_zero, Int.natCast_one, zsh_56, zsh_57, zsh_58, zsh_59, zsh_60, zsh_61, zsh_62, zsh_63, zsh_64, zsh_65, zsh_66, zsh_67, zsh_68, zsh_69, zsh_70, zsh_71, zsh_72, zsh_73, zsh_74, zsh_75, zsh_76, zsh_77, zsh_78, zsh_79, zsh_80, zsh_81, zsh_82, zsh_83, zsh_84, zsh_85, zsh_86, zsh_87, zup_ne, zup_eq, zup_nf, ne_eq, not_false_eq_true]
            refine last μ4 _ _ (hR3.f p3 (by simp) (by simp)) p2 ⟨?_, ?_⟩ (((k2.lo (by simp)).trans g2.lo).trans (p3.lo (by simp)))
            · rw [p3.2 36 (by simp), g2.1 56 (by simp)]; exact k3
            · have a84 : zAR μ2 84 M0 := fun j y hj => k4 j y (by have := (List.getElem?_eq_some_iff.mp hj).1; omega) hj
              exact a84.of (by rw [p3.1 84 (by simp) (by decide), g2.1 84 (by simp)])
          | succ r ih =>
            intro i μ2 x4 x5 k1 k2 k3 k4
            have hi : i < M0.length := by omega
            have e83 : μ2 83 i = M0[i] := by rw [k2.1 83 (by simp) (by decide)]; exact h2 i _ (List.getElem?_eq_getElem hi)
            refine s_X11_given_51 hG ?_
            simp only [b_X11_given_0, b_X11_given_7, b_X11_given_8, b_X11_given_21, b_X11_given_22, b_X11_given_33, b_X11_given_41, b_X11_given_51, b_X11_given_59, b_X11_given_77, b_X11_given_90, b_X11_given_98, b_X11_given_104, b_X11_given_113, b_X11_given_118, b_X11_given_134, b_X11_given_138, b_X11_given_139, b_X11_given_147, b_X11_given_152, b_X11_given_170, b_X11_given_176, b_X11_given_183, b_X11_given_190, o_c, o_il, o_al, o_is, o_as, o_inc, o_add, o_sub, o_mul, o_and, o_or, o_xor, o_shl, o_shr, o_ush, o_rem, o_dup, o_dup2, o_gf, o_pf, o_pz, o_iald, o_iast, o_zald, o_zast, o_aald, o_gs, o_min, o_acp, o_call, o_callv, zgf, zpf, zia_, zza_, zra_, zrd_, zcp_, zpop, zsm8_0, zsm8_1, zsm8_2, zsm8_3, zsm8_4, zsm8_5, zrc, zisob, t_ieq, t_ilt, t_igt, t_zeq, t_zlt, t_zgt, t_sw, zsw, t_iret, t_zret, t_aret, t_vret, zrg, List.getElem?_cons_zero, List.getElem?_cons_succ, List.set_cons_zero, List.set_cons_succ, List.length_cons, List.length_nil, Option.toList_some, Option.toList_none, List.nil_append, List.cons_append, true_and, and_true, true_or, or_true, Int.cast_ofNat_Int, Int.natCast_zero, Int.natCast_one, zsh_56, zsh_57, zsh_58, zsh_59, zsh_60, zsh_61, zsh_62, zsh_63, zsh_64, zsh_65, zsh_66, zsh_67, zsh_68, zsh_69, zsh_70, zsh_71, zsh_72, zsh_73, zsh_74, zsh_75, zsh_76, zsh_77, zsh_78, zsh_79, zsh_80, zsh_81, zsh_82, zsh_83, zsh_84, zsh_85, zsh_86, zsh_87, zup_ne, zup_eq, zup_nf, ne_eq, not_false_eq_true]
            rw [k3, e83]
            refine ⟨by omega, by omega, fun _ => ⟨by omega, by omega, ?_⟩, fun w => by omega⟩
            refine ih (i + 1) _ _ _ (by omega) (k2.u (by simp) (by decide)) (by rw [zup_ne 56 (by decide)]; exact k3) (fun j y hj hy => ?_)
            by_cases e : j = i
            · subst e
              rw [zup_eq]
              rw [List.getElem?_eq_getElem hi] at hy
              exact Option.some.inj hy
            · rw [zup_nf (by omega)]; exact k4 j y (by omega) hy
        rw [h1]
        have f0 : zF [84] [36] μ (zup μ 56 36 (M0.length : Int)) := (zF.refl _ _ _).v (by simp)
        exact keep M0.length 0 _ _ _ (by omega) f0 zup_eq (fun j y hj hy => by omega)
    · rw [r1]
      simp only [b_X11_given_0, b_X11_given_7, b_X11_given_8, b_X11_given_21, b_X11_given_22, b_X11_given_33, b_X11_given_41, b_X11_given_51, b_X11_given_59, b_X11_given_77, b_X11_given_90, b_X11_given_98, b_X11_given_104, b_X11_given_113, b_X11_given_118, b_X11_given_134, b_X11_given_138, b_X11_given_139, b_X11_given_147, b_X11_given_152, b_X11_given_170, b_X11_given_176, b_X11_given_183, b_X11_given_190, o_c, o_il, o_al, o_is, o_as, o_inc, o_add, o_sub, o_mul, o_and, o_or, o_xor, o_shl, o_shr, o_ush, o_rem, o_dup, o_dup2, o_gf, o_pf, o_pz, o_iald, o_iast, o_zald, o_zast, o_aald, o_gs, o_min, o_acp, o_call, o_callv, zgf, zpf, zia_, zza_, zra_, zrd_, zcp_, zpop, zsm8_0, zsm8_1, zsm8_2, zsm8_3, zsm8_4, zsm8_5, zrc, zisob, t_ieq, t_ilt, t_igt, t_zeq, t_zlt, t_zgt, t_sw, zsw, t_iret, t_zret, t_aret, t_vret, zrg, List.getElem?_cons_zero, List.getElem?_cons_succ, List.set_cons_zero, List.set_cons_succ, List.length_cons, List.length_nil, Option.toList_some, Option.toList_none, List.nil_append, List.cons_append, true_and, and_true, true_or, or_true, Int.cast_ofNat_Int, Int.natCast_zero, Int.natCast_one, zsh_56, zsh_57, zsh_58, zsh_59, zsh_60, zsh_61, zsh_62, zsh_63, zsh_64, zsh_65, zsh_66, zsh_67, zsh_68, zsh_69, zsh_70, zsh_71, zsh_72, zsh_73, zsh_74, zsh_75, zsh_76, zsh_77, zsh_78, zsh_79, zsh_80, zsh_81, zsh_82, zsh_83, zsh_84, zsh_85, zsh_86, zsh_87, zup_ne, zup_eq, zup_nf, ne_eq, not_false_eq_true]
      obtain ⟨e1, e2⟩ := hbad (fun r => r2 r.2.2)
      rw [e1, e2]
      exact ⟨by omega, fun _ => ⟨h, zlo.refl _⟩, fun w => absurd trivial w⟩
  · rw [q1]
    simp only [b_X11_given_0, b_X11_given_7, b_X11_given_8, b_X11_given_21, b_X11_given_22, b_X11_given_33, b_X11_given_41, b_X11_given_51, b_X11_given_59, b_X11_given_77, b_X11_given_90, b_X11_given_98, b_X11_given_104, b_X11_given_113, b_X11_given_118, b_X11_given_134, b_X11_given_138, b_X11_given_139, b_X11_given_147, b_X11_given_152, b_X11_given_170, b_X11_given_176, b_X11_given_183, b_X11_given_190, o_c, o_il, o_al, o_is, o_as, o_inc, o_add, o_sub, o_mul, o_and, o_or, o_xor, o_shl, o_shr, o_ush, o_rem, o_dup, o_dup2, o_gf, o_pf, o_pz, o_iald, o_iast, o_zald, o_zast, o_aald, o_gs, o_min, o_acp, o_call, o_callv, zgf, zpf, zia_, zza_, zra_, zrd_, zcp_, zpop, zsm8_0, zsm8_1, zsm8_2, zsm8_3, zsm8_4, zsm8_5, zrc, zisob, t_ieq, t_ilt, t_igt, t_zeq, t_zlt, t_zgt, t_sw, zsw, t_iret, t_zret, t_aret, t_vret, zrg, List.getElem?_cons_zero, List.getElem?_cons_succ, List.set_cons_zero, List.set_cons_succ, List.length_cons, List.length_nil, Option.toList_some, Option.toList_none, List.nil_append, List.cons_append, true_and, and_true, true_or, or_true, Int.cast_ofNat_Int, Int.natCast_zero, Int.natCast_one, zsh_56, zsh_57, zsh_58, zsh_59, zsh_60, zsh_61, zsh_62, zsh_63, zsh_64, zsh_65, zsh_66, zsh_67, zsh_68, zsh_69, zsh_70, zsh_71, zsh_72, zsh_73, zsh_74, zsh_75, zsh_76, zsh_77, zsh_78, zsh_79, zsh_80, zsh_81, zsh_82, zsh_83, zsh_84, zsh_85, zsh_86, zsh_87, zup_ne, zup_eq, zup_nf, ne_eq, not_false_eq_true]
    obtain ⟨e1, e2⟩ := hbad (fun r => q2 r.2.1)
    rw [e1, e2]
    exact ⟨by omega, fun _ => ⟨h, zlo.refl _⟩, fun w => absurd trivial w⟩
