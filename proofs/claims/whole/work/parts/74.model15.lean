/-! THE REFERENCE: admitting, put -/
def zadC (x : zStt) (N : List zBk) (c : Int) : Int := if c = 1 then -2 else if 64 < x.1.length + N.length then -3 else 0
def zadX (x : zStt) (N : List zBk) (c : Int) : zStt := if zadC x N c = 0 then zwst (x.1 ++ N, x.2) else x
set_option maxRecDepth 100000 in
set_option maxHeartbeats 4000000 in
theorem c_X11_admit {d s : Nat} {μ : zM} {B : List Int} {T : List zPp} {Ms : List zMg} {Sm : Nat → zStt} {N : List zBk} {c : Int} (hd : 6 ≤ d) (h : zRN μ B T Ms Sm) (hs : s < 3) (hG0 : zmG μ N c) (hV : zadC (Sm s) N c = 0 → zVS ((Sm s).1 ++ N, (Sm s).2)) : zCt d mX11_admit [.inr (some 56), .inl (s : Int)] μ (fun v μ' => v = some (.inl (zadC (Sm s) N c)) ∧ zRN μ' B T Ms (zSu Sm s (zadX (Sm s) N c)) ∧ zlo μ μ') := by
  have hst := h.2.2.2 s hs
  obtain ⟨g1, g2, g3, g4, g5, g6⟩ := id hG0
  have hl64 := hst.1.2.1
  refine of_X11_admit (by omega) (fun G hG => s_X11_admit_0 hG ?_)
  have loop : (Sm s).1.length + N.length ≤ 64 → zadC (Sm s) N c = 0 → ∀ (r j : Nat) (μ2 : zM) (x3 : zV), j + r = N.length → zRN μ2 B T Ms (zSu Sm s ((Sm s).1 ++ N.take j, (Sm s).2)) → zmG μ2 N c → zlo μ μ2 → G 31 [.inr (some 56), .inl (s : Int), .inl (j : Int), x3] [] μ2 := by
    intro hle h0 r
    induction r with
    | zero =>
      intro j μ2 x3 k1 k2 k3 k4
      rw [List.take_of_length_le (by omega)] at k2
      refine s_X11_admit_31 hG ?_
      simp only [b_X11_admit_0, b_X11_admit_7, b_X11_admit_10, b_X11_admit_26, b_X11_admit_29, b_X11_admit_31, b_X11_admit_39, b_X11_admit_46, b_X11_admit_56, b_X11_admit_77, b_X11_admit_94, o_c, o_il, o_al, o_is, o_as, o_inc, o_add, o_sub, o_mul, o_and, o_or, o_xor, o_shl, o_shr, o_ush, o_rem, o_dup, o_dup2, o_gf, o_pf, o_pz, o_iald, o_iast, o_zald, o_zast, o_aald, o_gs, o_min, o_acp, o_call, o_callv, zgf, zpf, zia_, zza_, zra_, zrd_, zcp_, zpop, zsm8_0, zsm8_1, zsm8_2, zsm8_3, zsm8_4, zsm8_5, zrc, zisob, t_ieq, t_ilt, t_igt, t_zeq, t_zlt, t_zgt, t_sw, zsw, t_iret, t_zret, t_aret, t_vret, zrg, List.getElem?_cons_zero, List.getElem?_cons_succ, List.set_cons_zero, List.set_cons_succ, List.length_cons, List.length_nil, Option.toList_some, Option.toList_none, List.nil_append, List.cons_append, true_and, and_true, true_or, or_true, Int.cast_ofNat_Int, Int.natCast_zero, Int.natCast_one, zsh_56, zsh_57, zsh_58, zsh_59, zsh_60, zsh_61, zsh_62, zsh_63, zsh_64, zsh_65, zsh_66, zsh_67, zsh_68, zsh_69, zsh_70, zsh_71, zsh_72, zsh_73, zsh_74, zsh_75, zsh_76, zsh_77, zsh_78, zsh_79, zsh_80, zsh_81, zsh_82, zsh_83, zsh_84, zsh_85, zsh_86, zsh_87, zup_ne, zup_eq, zup_nf, ne_eq, not_false_eq_true]
      rw [k3.1]
      refine ⟨by omega, by omega, fun w => by omega, fun _ => ?_⟩
      refine ⟨_, c_X11_settle (by omega) k2 hs (by rw [zSu_at]; exact hV h0), ?_⟩
      rw [zSu_at, zSu_su]
      rintro v μ3 ⟨rfl, p1, p2⟩
      simp only [b_X11_admit_0, b_X11_admit_7, b_X11_admit_10, b_X11_admit_26, b_X11_admit_29, b_X11_admit_31, b_X11_admit_39, b_X11_admit_46, b_X11_admit_56, b_X11_admit_77, b_X11_admit_94, o_c, o_il, o_al, o_is, o_as, o_inc, o_add, o_sub, o_mul, o_and, o_or, o_xor, o_shl, o_shr, o_ush, o_rem, o_dup, o_dup2, o_gf, o_pf, o_pz, o_iald, o_iast, o_zald, o_zast, o_aald, o_gs, o_min, o_acp, o_call, o_callv, zgf, zpf, zia_, zza_, zra_, zrd_, zcp_, zpop, zsm8_0, zsm8_1, zsm8_2, zsm8_3, zsm8_4, zsm8_5, zrc, zisob, t_ieq, t_ilt, t_igt, t_zeq, t_zlt, t_zgt, t_sw, zsw, t_iret, t_zret, t_aret, t_vret, zrg, List.getElem?_cons_zero, List.getElem?_cons_succ, List.set_cons_zero, List.set_cons_succ, List.length_cons, List.length_nil, Option.toList_some, Option.toList_none, List.nil_append, List.cons_append, true_and, and_true, true_or, or_true, Int.cast_ofNat_Int, Int.natCast_zero, Int.natCast_one, zsh_56, zsh_57, zsh_58, zsh_59, zsh_60, zsh_61, zsh_62, zsh_63, zsh_64, zsh_65, zsh_66, zsh_67, zsh_68, zsh_69, zsh_70, zsh_71, zsh_72, zsh_73, zsh_74, zsh_75, zsh_76, zsh_77, zsh_78, zsh_79, zsh_80, zsh_81, zsh_82, zsh_83, zsh_84, zsh_85, zsh_86, zsh_87, zup_ne, zup_eq, zup_nf, ne_eq, not_false_eq_true]
      have e : zadX (Sm s) N c = zwst ((Sm s).1 ++ N, (Sm s).2) := by unfold zadX; rw [if_pos h0]
      rw [e, h0]
      exact ⟨rfl, p1, k4.trans (p2.lo (by simp))⟩
    | succ r ih =>
      intro j μ2 x3 k1 k2 k3 k4
      have hj : j < N.length := by omega
      obtain ⟨q1, q2, q3, q4, q5, q6⟩ := id k3
      obtain ⟨v1, v2, v3⟩ := q6 j N[j] (List.getElem?_eq_getElem hj)
      obtain ⟨n1, n2, n3⟩ := q5 N[j] (List.getElem_mem hj)
      have e9 : N.take (j + 1) = N.take j ++ [N[j]] := by rw [List.take_succ]; simp [hj]
      have push : ∀ (q i : Nat) (μ3 : zM), i + q = N[j].2.length → zmR μ3 (N[j].2.take i) → zF [77] [24] μ2 μ3 → G 46 [.inr (some 56), .inl (s : Int), .inl (j : Int), .inl (i : Int)] [] μ3 := by
        intro q
        induction q with
        | zero =>
          intro i μ3 i1 i2 i3
          rw [List.take_of_length_le (by omega)] at i2
          have k33 := k3.f i3 (by simp) (by simp)
          have w2 : μ3 79 j = N[j].2.length := by rw [i3.1 79 (by simp) (by decide)]; exact v2
          have w1 : μ3 78 j = N[j].1 := by rw [i3.1 78 (by simp) (by decide)]; exact v1
          have hR3 := k2.f i3 (by simp) (by simp)
          have hd3 := hR3.2.2.2 s hs
          rw [zSu_at] at hd3
          refine s_X11_admit_46 hG ?_
          simp only [b_X11_admit_0, b_X11_admit_7, b_X11_admit_10, b_X11_admit_26, b_X11_admit_29, b_X11_admit_31, b_X11_admit_39, b_X11_admit_46, b_X11_admit_56, b_X11_admit_77, b_X11_admit_94, o_c, o_il, o_al, o_is, o_as, o_inc, o_add, o_sub, o_mul, o_and, o_or, o_xor, o_shl, o_shr, o_ush, o_rem, o_dup, o_dup2, o_gf, o_pf, o_pz, o_iald, o_iast, o_zald, o_zast, o_aald, o_gs, o_min, o_acp, o_call, o_callv, zgf, zpf, zia_, zza_, zra_, zrd_, zcp_, zpop, zsm8_0, zsm8_1, zsm8_2, zsm8_3, zsm8_4, zsm8_5, zrc, zisob, t_ieq, t_ilt, t_igt, t_zeq, t_zlt, t_zgt, t_sw, zsw, t_iret, t_zret, t_aret, t_vret, zrg, List.getElem?_cons_zero, List.getElem?_cons_succ, List.set_cons_zero, List.set_cons_succ, List.length_cons, List.length_nil, Option.toList_some, Option.toList_none, List.nil_append, List.cons_append, true_and, and_true, true_or, or_true, Int.cast_ofNat_Int, Int.natCast_zero, Int.natCast_one, zsh_56, zsh_57, zsh_58, zsh_59, zsh_60, zsh_61, zsh_62, zsh_63, zsh_64, zsh_65, zsh_66, zsh_67, zsh_68, zsh_69, zsh_70, zsh_71, zsh_72, zsh_73, zsh_74, zsh_75, zsh_76, zsh_77, zsh_78, zsh_79, zsh_80, zsh_81, zsh_82, zsh_83, zsh_84, zsh_85, zsh_86, zsh_87, zup_ne, zup_eq, zup_nf, ne_eq, not_false_eq_true]
          rw [w1, w2]
          refine ⟨by omega, by omega, by omega, fun w => by omega, fun _ => ⟨by omega, ?_⟩⟩
          refine ⟨_, c_X11_enter hd3.1 hs (by simp; omega) i2 n2 n1, ?_⟩
          rintro v μ4 ⟨rfl, p1, p2⟩
          simp only [b_X11_admit_0, b_X11_admit_7, b_X11_admit_10, b_X11_admit_26, b_X11_admit_29, b_X11_admit_31, b_X11_admit_39, b_X11_admit_46, b_X11_admit_56, b_X11_admit_77, b_X11_admit_94, o_c, o_il, o_al, o_is, o_as, o_inc, o_add, o_sub, o_mul, o_and, o_or, o_xor, o_shl, o_shr, o_ush, o_rem, o_dup, o_dup2, o_gf, o_pf, o_pz, o_iald, o_iast, o_zald, o_zast, o_aald, o_gs, o_min, o_acp, o_call, o_callv, zgf, zpf, zia_, zza_, zra_, zrd_, zcp_, zpop, zsm8_0, zsm8_1, zsm8_2, zsm8_3, zsm8_4, zsm8_5, zrc, zisob, t_ieq, t_ilt, t_igt, t_zeq, t_zlt, t_zgt, t_sw, zsw, t_iret, t_zret, t_aret, t_vret, zrg, List.getElem?_cons_zero, List.getElem?_cons_succ, List.set_cons_zero, List.set_cons_succ, List.length_cons, List.length_nil, Option.toList_some, Option.toList_none, List.nil_append, List.cons_append, true_and, and_true, true_or, or_true, Int.cast_ofNat_Int, Int.natCast_zero, Int.natCast_one, zsh_56, zsh_57, zsh_58, zsh_59, zsh_60, zsh_61, zsh_62, zsh_63, zsh_64, zsh_65, zsh_66, zsh_67, zsh_68, zsh_69, zsh_70, zsh_71, zsh_72, zsh_73, zsh_74, zsh_75, zsh_76, zsh_77, zsh_78, zsh_79, zsh_80, zsh_81, zsh_82, zsh_83, zsh_84, zsh_85, zsh_86, zsh_87, zup_ne, zup_eq, zup_nf, ne_eq, not_false_eq_true]
          have hR4 := hR3.x p1 p2
          rw [zSu_at, zSu_su] at hR4
          have eN : (N[j].1, N[j].2) = N[j] := rfl
          rw [eN] at hR4
          refine ih (j + 1) μ4 _ (by omega) ?_ ?_ ((k4.trans (i3.lo (by simp))).trans p2.lo)
          · rw [e9, ← List.append_assoc]
            exact hR4
          · have e : ∀ x, x ∉ [57, 58, 59, 60] → μ4 x = μ3 x := p2.1
            unfold zmG
            rw [e 56 (by simp), e 78 (by simp), e 79 (by simp), e 80 (by simp)]
            exact k33
        | succ q ihq =>
          intro i μ3 i1 i2 i3
          have hi : i < N[j].2.length := by omega
          have w2 : μ3 79 j = N[j].2.length := by rw [i3.1 79 (by simp) (by decide)]; exact v2
          have w3 : μ3 80 (18 * j + i) = N[j].2[i] := by rw [i3.1 80 (by simp) (by decide)]; exact v3 i _ (List.getElem?_eq_getElem hi)
          have e8 : N[j].2.take (i + 1) = N[j].2.take i ++ [N[j].2[i]] := by rw [List.take_succ]; simp [hi]
          refine s_X11_admit_46 hG ?_
          simp only [b_X11_admit_0, b_X11_admit_7, b_X11_admit_10, b_X11_admit_26, b_X11_admit_29, b_X11_admit_31, b_X11_admit_39, b_X11_admit_46, b_X11_admit_56, b_X11_admit_77, b_X11_admit_94, o_c, o_il, o_al, o_is, o_as, o_inc, o_add, o_sub, o_mul, o_and, o_or, o_xor, o_shl, o_shr, o_ush, o_rem, o_dup, o_dup2, o_gf, o_pf, o_pz, o_iald, o_iast, o_zald, o_zast, o_aald, o_gs, o_min, o_acp, o_call, o_callv, zgf, zpf, zia_, zza_, zra_, zrd_, zcp_, zpop, zsm8_0, zsm8_1, zsm8_2, zsm8_3, zsm8_4, zsm8_5, zrc, zisob, t_ieq, t_ilt, t_igt, t_zeq, t_zlt, t_zgt, t_sw, zsw, t_iret, t_zret, t_aret, t_vret, zrg, List.getElem?_cons_zero, List.getElem?_cons_succ, List.set_cons_zero, List.set_cons_succ, List.length_cons, List.length_nil, Option.toList_some, Option.toList_none, List.nil_append, List.cons_append, true_and, and_true, true_or, or_true, Int.cast_ofNat_Int, Int.natCast_zero, Int.natCast_one, zsh_56, zsh_57, zsh_58, zsh_59, zsh_60, zsh_61, zsh_62, zsh_63, zsh_64, zsh_65, zsh_66, zsh_67, zsh_68, zsh_69, zsh_70, zsh_71, zsh_72, zsh_73, zsh_74, zsh_75, zsh_76, zsh_77, zsh_78, zsh_79, zsh_80, zsh_81, zsh_82, zsh_83, zsh_84, zsh_85, zsh_86, zsh_87, zup_ne, zup_eq, zup_nf, ne_eq, not_false_eq_true]
          rw [w2, w3]
          refine ⟨by omega, by omega, by omega, fun _ => ⟨by omega, ?_⟩, fun w => by omega⟩
          refine ⟨_, c_X11_push i2 (by simp; omega) (n3 _ (List.getElem_mem hi)), ?_⟩
          rintro v μ4 ⟨rfl, p1, p2⟩
          simp only [b_X11_admit_0, b_X11_admit_7, b_X11_admit_10, b_X11_admit_26, b_X11_admit_29, b_X11_admit_31, b_X11_admit_39, b_X11_admit_46, b_X11_admit_56, b_X11_admit_77, b_X11_admit_94, o_c, o_il, o_al, o_is, o_as, o_inc, o_add, o_sub, o_mul, o_and, o_or, o_xor, o_shl, o_shr, o_ush, o_rem, o_dup, o_dup2, o_gf, o_pf, o_pz, o_iald, o_iast, o_zald, o_zast, o_aald, o_gs, o_min, o_acp, o_call, o_callv, zgf, zpf, zia_, zza_, zra_, zrd_, zcp_, zpop, zsm8_0, zsm8_1, zsm8_2, zsm8_3, zsm8_4, zsm8_5, zrc, zisob, t_ieq, t_ilt, t_igt, t_zeq, t_zlt, t_zgt, t_sw, zsw, t_iret, t_zret, t_aret, t_vret, zrg, List.getElem?_cons_zero, List.getElem?_cons_succ, List.set_cons_zero, List.set_cons_succ, List.length_cons, List.length_nil, Option.toList_some, Option.toList_none, List.nil_append, List.cons_append, true_and, and_true, true_or, or_true, Int.cast_ofNat_Int, Int.natCast_zero, Int.natCast_one, zsh_56, zsh_57, zsh_58, zsh_59, zsh_60, zsh_61, zsh_62, zsh_63, zsh_64, zsh_65, zsh_66, zsh_67, zsh_68, zsh_69, zsh_70, zsh_71, zsh_72, zsh_73, zsh_74, zsh_75, zsh_76, zsh_77, zsh_78, zsh_79, zsh_80, zsh_81, zsh_82, zsh_83, zsh_84, zsh_85, zsh_86, zsh_87, zup_ne, zup_eq, zup_nf, ne_eq, not_false_eq_true]
          rw [← e8] at p1
          exact ihq (i + 1) μ4 (by omega) p1 (i3.trans p2)
      refine s_X11_admit_31 hG ?_
      simp only [b_X11_admit_0, b_X11_admit_7, b_X11_admit_10, b_X11_admit_26, b_X11_admit_29, b_X11_admit_31, b_X11_admit_39, b_X11_admit_46, b_X11_admit_56, b_X11_admit_77, b_X11_admit_94, o_c, o_il, o_al, o_is, o_as, o_inc, o_add, o_sub, o_mul, o_and, o_or, o_xor, o_shl, o_shr, o_ush, o_rem, o_dup, o_dup2, o_gf, o_pf, o_pz, o_iald, o_iast, o_zald, o_zast, o_aald, o_gs, o_min, o_acp, o_call, o_callv, zgf, zpf, zia_, zza_, zra_, zrd_, zcp_, zpop, zsm8_0, zsm8_1, zsm8_2, zsm8_3, zsm8_4, zsm8_5, zrc, zisob, t_ieq, t_ilt, t_igt, t_zeq, t_zlt, t_zgt, t_sw, zsw, t_iret, t_zret, t_aret, t_vret, zrg, List.getElem?_cons_zero, List.getElem?_cons_succ, List.set_cons_zero, List.set_cons_succ, List.length_cons, List.length_nil, Option.toList_some, Option.toList_none, List.nil_append, List.cons_append, true_and, and_true, true_or, or_true, Int.cast_ofNat_Int, Int.natCast_zero, Int.natCast_one, zsh_56, zsh_57, zsh_58, zsh_59, zsh_60, zsh_61, zsh_62, zsh_63, zsh_64, zsh_65, zsh_66, zsh_67, zsh_68, zsh_69, zsh_70, zsh_71, zsh_72, zsh_73, zsh_74, zsh_75, zsh_76, zsh_77, zsh_78, zsh_79, zsh_80, zsh_81, zsh_82, zsh_83, zsh_84, zsh_85, zsh_86, zsh_87, zup_ne, zup_eq, zup_nf, ne_eq, not_false_eq_true]
      rw [q1]
      refine ⟨by omega, by omega, fun _ => ?_, fun w => by omega⟩
      have f0 : zF [77] [24] μ2 (zup μ2 56 24 0) := (zF.refl _ _ _).v (by simp)
      exact push N[j].2.length 0 _ (by omega) (zmR.nil zup_eq) f0
  simp only [b_X11_admit_0, b_X11_admit_7, b_X11_admit_10, b_X11_admit_26, b_X11_admit_29, b_X11_admit_31, b_X11_admit_39, b_X11_admit_46, b_X11_admit_56, b_X11_admit_77, b_X11_admit_94, o_c, o_il, o_al, o_is, o_as, o_inc, o_add, o_sub, o_mul, o_and, o_or, o_xor, o_shl, o_shr, o_ush, o_rem, o_dup, o_dup2, o_gf, o_pf, o_pz, o_iald, o_iast, o_zald, o_zast, o_aald, o_gs, o_min, o_acp, o_call, o_callv, zgf, zpf, zia_, zza_, zra_, zrd_, zcp_, zpop, zsm8_0, zsm8_1, zsm8_2, zsm8_3, zsm8_4, zsm8_5, zrc, zisob, t_ieq, t_ilt, t_igt, t_zeq, t_zlt, t_zgt, t_sw, zsw, t_iret, t_zret, t_aret, t_vret, zrg, List.getElem?_cons_zero, List.getElem?_cons_succ, List.set_cons_zero, List.set_cons_succ, List.length_cons, List.length_nil, Option.toList_some, Option.toList_none, List.nil_append, List.cons_append, true_and, and_true, true_or, or_true, Int.cast_ofNat_Int, Int.natCast_zero, Int.natCast_one, zsh_56, zsh_57, zsh_58, zsh_59, zsh_60, zsh_61, zsh_62, zsh_63, zsh_64, zsh_65, zsh_66, zsh_67, zsh_68, zsh_69, zsh_70, zsh_71, zsh_72, zsh_73, zsh_74, zsh_75, zsh_76, zsh_77, zsh_78, zsh_79, zsh_80, zsh_81, zsh_82, zsh_83, zsh_84, zsh_85, zsh_86, zsh_87, zup_ne, zup_eq, zup_nf, ne_eq, not_false_eq_true]
  rw [g3, g1, hst.1.1]
  refine ⟨by omega, fun w => ⟨by omega, by omega, by omega, fun w1 => ?_, fun w1 => ?_⟩, fun w => ?_⟩
  · have e1 : zadC (Sm s) N c = -3 := by unfold zadC; rw [if_neg (by omega), if_pos (by omega)]
    have e2 : zadX (Sm s) N c = Sm s := by unfold zadX; rw [if_neg (by rw [e1]; decide)]
    rw [e1, e2, zSu_id]
    exact ⟨rfl, h, zlo.refl _⟩
  · have e1 : zadC (Sm s) N c = 0 := by unfold zadC; rw [if_neg (by omega), if_neg (by omega)]
    refine loop (by omega) e1 N.length 0 μ _ (by omega) ?_ hG0 (zlo.refl _)
    simp only [List.take_zero, List.append_nil]
    have : zSu Sm s ((Sm s).1, (Sm s).2) = Sm := zSu_id Sm s
    rw [this]
    exact h
  · have e1 : zadC (Sm s) N c = -2 := by unfold zadC; rw [if_pos (by omega)]
    have e2 : zadX (Sm s) N c = Sm s := by unfold zadX; rw [if_neg (by rw [e1]; decide)]
    rw [e1, e2, zSu_id]
    exact ⟨rfl, h, zlo.refl _⟩
theorem zRN.ty {μ : zM} {B : List Int} {T : List zPp} {Ms : List zMg} {Sm : Nat → zStt} (h : zRN μ B T Ms Sm) : zRN (zup μ 56 18 0) [] T Ms Sm ∧ zlo μ (zup μ 56 18 0) := by
  have e : ∀ c, 57 ≤ c → zup μ 56 18 0 c = μ c := fun c hc => zup_ne _ (by omega)
  exact ⟨⟨⟨zup_eq, by simp, fun j x hj => by simp at hj, by simp⟩, h.2.1.e (fun c h1 h2 => e c (by omega)) (zup_nf (by decide)), h.2.2.1.e (fun c h1 h2 => e c (by omega)) (zup_nf (by decide)), fun s hs => (h.2.2.2 s hs).e (fun c h1 h2 h3 => e c (by omega))⟩, fun c hc => zup_ne _ (by omega)⟩
theorem zRN.ls {μ : zM} {B : List Int} {T : List zPp} {Ms : List zMg} {Sm : Nat → zStt} (h : zRN μ B T Ms Sm) : zRN (zup μ 56 20 0) B [] Ms Sm ∧ zlo μ (zup μ 56 20 0) := by
  have e : ∀ c, 57 ≤ c → zup μ 56 20 0 c = μ c := fun c hc => zup_ne _ (by omega)
  exact ⟨⟨h.1.e (e 74 (by omega)) (zup_nf (by decide)), ⟨zup_eq, by simp, fun j x hj => by simp at hj, fun j x hj => by simp at hj, by simp⟩, h.2.2.1.e (fun c h1 h2 => e c (by omega)) (zup_nf (by decide)), fun s hs => (h.2.2.2 s hs).e (fun c h1 h2 h3 => e c (by omega))⟩, fun c hc => zup_ne _ (by omega)⟩
theorem ztk_in {L : List zBk} {b : zBk} (h : ¬ zix L b.1 < 0) (hl : L.length ≤ 64) : zfre L [b] = [] ∧ ztkc L [b] 0 = if zlk L b.1 = some b.2 then 0 else -2 := by
  have e : zfre L [b] = [] := by unfold zfre; simp; omega
  refine ⟨e, ?_⟩
  unfold ztkc
  rw [e]
  by_cases q : zlk L b.1 = some b.2
  · rw [if_pos q, zb_f (P := zcls L [b] 0) (fun r => by
      rcases r with r | ⟨c, hc, r, r2⟩
      · omega
      · rw [List.mem_singleton.mp hc] at r2; exact r2 q), if_neg (by decide), if_neg (by simp; omega)]
  · rw [if_neg q, zb_t (P := zcls L [b] 0) (Or.inr ⟨b, List.mem_singleton.mpr rfl, h, q⟩), if_pos rfl]
set_option maxRecDepth 100000 in
set_option maxHeartbeats 4000000 in
theorem c_X11_put {d : Nat} {μ : zM} {B : List Int} {T : List zPp} {Ms : List zMg} {Sm : Nat → zStt} {store : Int} (hd : 6 ≤ d) (h : zRN μ B T Ms Sm) (hV : ∀ s, s < 3 → zVS (Sm s)) (hs : zrg store) : zCt d mX11_put [.inr (some 56), .inl store] μ (fun v μ' => v = some (.inl (zptO B Sm store)) ∧ zRN μ' (zcB B (zptO B Sm store)) T Ms (zptS B Sm store) ∧ zlo μ μ') := by
  have hBl := h.1.2.1
  have hc0 := h.1.1
  have hhr := zhash_rg B
  have hbad : ¬ ((0 ≤ store ∧ store ≤ 2) ∧ zisB (some B)) → zptO B Sm store = -1 ∧ zptS B Sm store = Sm := fun w => by
    unfold zptO zptS
    rw [if_neg (by rw [zb_f w]; decide), if_neg (by rw [zb_f w]; decide)]
    exact ⟨rfl, rfl⟩
  refine of_X11_put (by omega) (fun G hG => s_X11_put_0 hG ?_)
  have loop : ∀ (r i : Nat) (μ2 : zM) (x3 : zV), i + r = B.length → zmR μ2 (B.take i) → zF [77] [24] μ μ2 → G 7 [.inr (some 56), .inl store, .inl (i : Int), x3] [] μ2 := by
    intro r
    induction r with
    | zero =>
      intro i μ2 x3 k1 k2 k3
      rw [List.take_of_length_le (by omega)] at k2
      have hR2 := h.f k3 (by simp) (by simp)
      have l2 := k3.lo (by simp)
      have e18 : μ2 56 18 = B.length := hR2.1.1
      refine s_X11_put_7 hG ?_
      simp only [b_X11_put_0, b_X11_put_7, b_X11_put_15, b_X11_put_31, b_X11_put_38, b_X11_put_45, b_X11_put_47, b_X11_put_63, b_X11_put_71, b_X11_put_74, b_X11_put_78, b_X11_put_89, b_X11_put_92, b_X11_put_96, b_X11_put_102, o_c, o_il, o_al, o_is, o_as, o_inc, o_add, o_sub, o_mul, o_and, o_or, o_xor, o_shl, o_shr, o_ush, o_rem, o_dup, o_dup2, o_gf, o_pf, o_pz, o_iald, o_iast, o_zald, o_zast, o_aald, o_gs, o_min, o_acp, o_call, o_callv, zgf, zpf, zia_, zza_, zra_, zrd_, zcp_, zpop, zsm8_0, zsm8_1, zsm8_2, zsm8_3, zsm8_4, zsm8_5, zrc, zisob, t_ieq, t_ilt, t_igt, t_zeq, t_zlt, t_zgt, t_sw, zsw, t_iret, t_zret, t_aret, t_vret, zrg, List.getElem?_cons_zero, List.getElem?_cons_succ, List.set_cons_zero, List.set_cons_succ, List.length_cons, List.length_nil, Option.toList_some, Option.toList_none, List.nil_append, List.cons_append, true_and, and_true, true_or, or_true, Int.cast_ofNat_Int, Int.natCast_zero, Int.natCast_one, zsh_56, zsh_57, zsh_58, zsh_59, zsh_60, zsh_61, zsh_62, zsh_63, zsh_64, zsh_65, zsh_66, zsh_67, zsh_68, zsh_69, zsh_70, zsh_71, zsh_72, zsh_73, zsh_74, zsh_75, zsh_76, zsh_77, zsh_78, zsh_79, zsh_80, zsh_81, zsh_82, zsh_83, zsh_84, zsh_85, zsh_86, zsh_87, zup_ne, zup_eq, zup_nf, ne_eq, not_false_eq_true]
      rw [e18]
      refine ⟨by omega, by omega, fun w => by omega, fun _ => ?_⟩
      refine zcall (c_X11_isStore hs) ?_
      rcases zb_or (0 ≤ store ∧ store ≤ 2) with ⟨q1, q2⟩ | ⟨q1, q2⟩
      · rw [q1]
        simp only [b_X11_put_0, b_X11_put_7, b_X11_put_15, b_X11_put_31, b_X11_put_38, b_X11_put_45, b_X11_put_47, b_X11_put_63, b_X11_put_71, b_X11_put_74, b_X11_put_78, b_X11_put_89, b_X11_put_92, b_X11_put_96, b_X11_put_102, o_c, o_il, o_al, o_is, o_as, o_inc, o_add, o_sub, o_mul, o_and, o_or, o_xor, o_shl, o_shr, o_ush, o_rem, o_dup, o_dup2, o_gf, o_pf, o_pz, o_iald, o_iast, o_zald, o_zast, o_aald, o_gs, o_min, o_acp, o_call, o_callv, zgf, zpf, zia_, zza_, zra_, zrd_, zcp_, zpop, zsm8_0, zsm8_1, zsm8_2, zsm8_3, zsm8_4, zsm8_5, zrc, zisob, t_ieq, t_ilt, t_igt, t_zeq, t_zlt, t_zgt, t_sw, zsw, t_iret, t_zret, t_aret, t_vret, zrg, List.getElem?_cons_zero, List.getElem?_cons_succ, List.set_cons_zero, List.set_cons_succ, List.length_cons, List.length_nil, Option.toList_some, Option.toList_none, List.nil_append, List.cons_append, true_and, and_true, true_or, or_true, Int.cast_ofNat_Int, Int.natCast_zero, Int.natCast_one, zsh_56, zsh_57, zsh_58, zsh_59, zsh_60, zsh_61, zsh_62, zsh_63, zsh_64, zsh_65, zsh_66, zsh_67, zsh_68, zsh_69, zsh_70, zsh_71, zsh_72, zsh_73, zsh_74, zsh_75, zsh_76, zsh_77, zsh_78, zsh_79, zsh_80, zsh_81, zsh_82, zsh_83, zsh_84, zsh_85, zsh_86, zsh_87, zup_ne, zup_eq, zup_nf, ne_eq, not_false_eq_true]
        refine ⟨by omega, fun w => by omega, fun _ => ?_⟩
        refine zcall (c_X11_isBlock (by omega) k2) ?_
        rcases zb_or (zisB (some B)) with ⟨t1, t2⟩ | ⟨t1, t2⟩
        · rw [t1]
          obtain ⟨s, rfl, h3⟩ := zs3 q2
          have hd2 := hR2.2.2.2 s h3
          have hl64 := hd2.1.2.1
          have hb18 : B.length ≤ 18 := by
            have := t2.sh
            omega
          have hbO : zb ((0 ≤ (s : Int) ∧ (s : Int) ≤ 2) ∧ zisB (some B)) = 1 := zb_t ⟨q2, t2⟩
          have hmk : zmk ([], 0) [B] = ([(zhash B, B)], 0) := by unfold zmk; simp only [List.foldl_cons, List.foldl_nil]; exact zfb_nil B
          have eO : zptO B Sm s = zbiC (Sm s).1 [(zhash B, B)] 0 (zhash B) := by unfold zptO zinO; rw [if_pos hbO, hmk]; rfl
          have eS : zptS B Sm s = zSu Sm s (zbiS (Sm s) [(zhash B, B)] 0) := by unfold zptS zinS; rw [if_pos hbO, hmk]; rfl
          simp only [b_X11_put_0, b_X11_put_7, b_X11_put_15, b_X11_put_31, b_X11_put_38, b_X11_put_45, b_X11_put_47, b_X11_put_63, b_X11_put_71, b_X11_put_74, b_X11_put_78, b_X11_put_89, b_X11_put_92, b_X11_put_96, b_X11_put_102, o_c, o_il, o_al, o_is, o_as, o_inc, o_add, o_sub, o_mul, o_and, o_or, o_xor, o_shl, o_shr, o_ush, o_rem, o_dup, o_dup2, o_gf, o_pf, o_pz, o_iald, o_iast, o_zald, o_zast, o_aald, o_gs, o_min, o_acp, o_call, o_callv, zgf, zpf, zia_, zza_, zra_, zrd_, zcp_, zpop, zsm8_0, zsm8_1, zsm8_2, zsm8_3, zsm8_4, zsm8_5, zrc, zisob, t_ieq, t_ilt, t_igt, t_zeq, t_zlt, t_zgt, t_sw, zsw, t_iret, t_zret, t_aret, t_vret, zrg, List.getElem?_cons_zero, List.getElem?_cons_succ, List.set_cons_zero, List.set_cons_succ, List.length_cons, List.length_nil, Option.toList_some, Option.toList_none, List.nil_append, List.cons_append, true_and, and_true, true_or, or_true, Int.cast_ofNat_Int, Int.natCast_zero, Int.natCast_one, zsh_56, zsh_57, zsh_58, zsh_59, zsh_60, zsh_61, zsh_62, zsh_63, zsh_64, zsh_65, zsh_66, zsh_67, zsh_68, zsh_69, zsh_70, zsh_71, zsh_72, zsh_73, zsh_74, zsh_75, zsh_76, zsh_77, zsh_78, zsh_79, zsh_80, zsh_81, zsh_82, zsh_83, zsh_84, zsh_85, zsh_86, zsh_87, zup_ne, zup_eq, zup_nf, ne_eq, not_false_eq_true]
          refine ⟨by omega, fun w => by omega, fun _ => ?_⟩
          refine zcall (c_X11_rowName (by omega) k2) ?_
          simp only [b_X11_put_0, b_X11_put_7, b_X11_put_15, b_X11_put_31, b_X11_put_38, b_X11_put_45, b_X11_put_47, b_X11_put_63, b_X11_put_71, b_X11_put_74, b_X11_put_78, b_X11_put_89, b_X11_put_92, b_X11_put_96, b_X11_put_102, o_c, o_il, o_al, o_is, o_as, o_inc, o_add, o_sub, o_mul, o_and, o_or, o_xor, o_shl, o_shr, o_ush, o_rem, o_dup, o_dup2, o_gf, o_pf, o_pz, o_iald, o_iast, o_zald, o_zast, o_aald, o_gs, o_min, o_acp, o_call, o_callv, zgf, zpf, zia_, zza_, zra_, zrd_, zcp_, zpop, zsm8_0, zsm8_1, zsm8_2, zsm8_3, zsm8_4, zsm8_5, zrc, zisob, t_ieq, t_ilt, t_igt, t_zeq, t_zlt, t_zgt, t_sw, zsw, t_iret, t_zret, t_aret, t_vret, zrg, List.getElem?_cons_zero, List.getElem?_cons_succ, List.set_cons_zero, List.set_cons_succ, List.length_cons, List.length_nil, Option.toList_some, Option.toList_none, List.nil_append, List.cons_append, true_and, and_true, true_or, or_true, Int.cast_ofNat_Int, Int.natCast_zero, Int.natCast_one, zsh_56, zsh_57, zsh_58, zsh_59, zsh_60, zsh_61, zsh_62, zsh_63, zsh_64, zsh_65, zsh_66, zsh_67, zsh_68, zsh_69, zsh_70, zsh_71, zsh_72, zsh_73, zsh_74, zsh_75, zsh_76, zsh_77, zsh_78, zsh_79, zsh_80, zsh_81, zsh_82, zsh_83, zsh_84, zsh_85, zsh_86, zsh_87, zup_ne, zup_eq, zup_nf, ne_eq, not_false_eq_true]
          refine zcall (c_X11_where hd2.1 h3 (by unfold zrg; omega)) ?_
          simp only [b_X11_put_0, b_X11_put_7, b_X11_put_15, b_X11_put_31, b_X11_put_38, b_X11_put_45, b_X11_put_47, b_X11_put_63, b_X11_put_71, b_X11_put_74, b_X11_put_78, b_X11_put_89, b_X11_put_92, b_X11_put_96, b_X11_put_102, o_c, o_il, o_al, o_is, o_as, o_inc, o_add, o_sub, o_mul, o_and, o_or, o_xor, o_shl, o_shr, o_ush, o_rem, o_dup, o_dup2, o_gf, o_pf, o_pz, o_iald, o_iast, o_zald, o_zast, o_aald, o_gs, o_min, o_acp, o_call, o_callv, zgf, zpf, zia_, zza_, zra_, zrd_, zcp_, zpop, zsm8_0, zsm8_1, zsm8_2, zsm8_3, zsm8_4, zsm8_5, zrc, zisob, t_ieq, t_ilt, t_igt, t_zeq, t_zlt, t_zgt, t_sw, zsw, t_iret, t_zret, t_aret, t_vret, zrg, List.getElem?_cons_zero, List.getElem?_cons_succ, List.set_cons_zero, List.set_cons_succ, List.length_cons, List.length_nil, Option.toList_some, Option.toList_none, List.nil_append, List.cons_append, true_and, and_true, true_or, or_true, Int.cast_ofNat_Int, Int.natCast_zero, Int.natCast_one, zsh_56, zsh_57, zsh_58, zsh_59, zsh_60, zsh_61, zsh_62, zsh_63, zsh_64, zsh_65, zsh_66, zsh_67, zsh_68, zsh_69, zsh_70, zsh_71, zsh_72, zsh_73, zsh_74, zsh_75, zsh_76, zsh_77, zsh_78, zsh_79, zsh_80, zsh_81, zsh_82, zsh_83, zsh_84, zsh_85, zsh_86, zsh_87, zup_ne, zup_eq, zup_nf, ne_eq, not_false_eq_true]
          rw [hd2.1.1]
          -- the end of a good one
          have tail : ∀ (μ3 : zM) (x : zStt) (kv : Int), zRN μ3 B T Ms (zSu Sm s x) → zVS x → zlo μ μ3 → zptO B Sm s = zhash B → zptS B Sm s = zSu Sm s (zwst x) → ∃ Q, zCt (d - 1) mX11_settle [.inr (some 56), .inl (s : Int)] (zup μ3 56 18 0) Q ∧ ∀ (v : Option zV) (μ' : zM), Q v μ' → v = none ∧ zRN μ' (zcB B (zptO B Sm s)) T Ms (zptS B Sm s) ∧ zlo μ μ' := by
            intro μ3 x kv j1 j2 j3 j4 j5
            refine ⟨_, c_X11_settle (by omega) j1.ty.1 h3 (by rw [zSu_at]; exact j2), ?_⟩
            rw [zSu_at, zSu_su]
            rintro v μ4 ⟨rfl, p1, p2⟩
            rw [j4, j5]
            unfold zcB
            rw [if_pos (by omega)]
            exact ⟨rfl, p1, (j3.trans j1.ty.2).trans (p2.lo (by simp))⟩
          rcases hd2.1.wr h3 (zhash B) with ⟨u1, u2, u3⟩ | ⟨bs, i2, u1, u2, u3, u4, u5⟩
          · obtain ⟨ef, ek⟩ := ztk_one (L := (Sm s).1) (b := (zhash B, B)) u2
            rw [u3]
            have key9 : ¬ ((Sm s).1.length : Int) = 64 → G 92 [.inr (some 56), .inl (s : Int), .inl (zhash B), .inl (-1)] [] μ2 := by
              intro w1
              rw [if_neg (by omega)] at ek
              have hO : zptO B Sm s = zhash B := by rw [eO]; unfold zbiC; rw [if_pos ek]
              have hS : zptS B Sm s = zSu Sm s (zwst ((Sm s).1 ++ [(zhash B, B)], (Sm s).2)) := by rw [eS]; unfold zbiS; rw [if_pos ek, ef]; rfl
              refine s_X11_put_92 hG ?_
              simp only [b_X11_put_0, b_X11_put_7, b_X11_put_15, b_X11_put_31, b_X11_put_38, b_X11_put_45, b_X11_put_47, b_X11_put_63, b_X11_put_71, b_X11_put_74, b_X11_put_78, b_X11_put_89, b_X11_put_92, b_X11_put_96, b_X11_put_102, o_c, o_il, o_al, o_is, o_as, o_inc, o_add, o_sub, o_mul, o_and, o_or, o_xor, o_shl, o_shr, o_ush, o_rem, o_dup, o_dup2, o_gf, o_pf, o_pz, o_iald, o_iast, o_zald, o_zast, o_aald, o_gs, o_min, o_acp, o_call, o_callv, zgf, zpf, zia_, zza_, zra_, zrd_, zcp_, zpop, zsm8_0, zsm8_1, zsm8_2, zsm8_3, zsm8_4, zsm8_5, zrc, zisob, t_ieq, t_ilt, t_igt, t_zeq, t_zlt, t_zgt, t_sw, zsw, t_iret, t_zret, t_aret, t_vret, zrg, List.getElem?_cons_zero, List.getElem?_cons_succ, List.set_cons_zero, List.set_cons_succ, List.length_cons, List.length_nil, Option.toList_some, Option.toList_none, List.nil_append, List.cons_append, true_and, and_true, true_or, or_true, Int.cast_ofNat_Int, Int.natCast_zero, Int.natCast_one, zsh_56, zsh_57, zsh_58, zsh_59, zsh_60, zsh_61, zsh_62, zsh_63, zsh_64, zsh_65, zsh_66, zsh_67, zsh_68, zsh_69, zsh_70, zsh_71, zsh_72, zsh_73, zsh_74, zsh_75, zsh_76, zsh_77, zsh_78, zsh_79, zsh_80, zsh_81, zsh_82, zsh_83, zsh_84, zsh_85, zsh_86, zsh_87, zup_ne, zup_eq, zup_nf, ne_eq, not_false_eq_true]
              refine ⟨by omega, fun _ => ?_, fun w => by omega⟩
              refine ⟨_, c_X11_enter hd2.1 h3 (by omega) k2 hb18 hhr, ?_⟩
              rintro v μ3 ⟨rfl, p1, p2⟩
              simp only [b_X11_put_0, b_X11_put_7, b_X11_put_15, b_X11_put_31, b_X11_put_38, b_X11_put_45, b_X11_put_47, b_X11_put_63, b_X11_put_71, b_X11_put_74, b_X11_put_78, b_X11_put_89, b_X11_put_92, b_X11_put_96, b_X11_put_102, o_c, o_il, o_al, o_is, o_as, o_inc, o_add, o_sub, o_mul, o_and, o_or, o_xor, o_shl, o_shr, o_ush, o_rem, o_dup, o_dup2, o_gf, o_pf, o_pz, o_iald, o_iast, o_zald, o_zast, o_aald, o_gs, o_min, o_acp, o_call, o_callv, zgf, zpf, zia_, zza_, zra_, zrd_, zcp_, zpop, zsm8_0, zsm8_1, zsm8_2, zsm8_3, zsm8_4, zsm8_5, zrc, zisob, t_ieq, t_ilt, t_igt, t_zeq, t_zlt, t_zgt, t_sw, zsw, t_iret, t_zret, t_aret, t_vret, zrg, List.getElem?_cons_zero, List.getElem?_cons_succ, List.set_cons_zero, List.set_cons_succ, List.length_cons, List.length_nil, Option.toList_some, Option.toList_none, List.nil_append, List.cons_append, true_and, and_true, true_or, or_true, Int.cast_ofNat_Int, Int.natCast_zero, Int.natCast_one, zsh_56, zsh_57, zsh_58, zsh_59, zsh_60, zsh_61, zsh_62, zsh_63, zsh_64, zsh_65, zsh_66, zsh_67, zsh_68, zsh_69, zsh_70, zsh_71, zsh_72, zsh_73, zsh_74, zsh_75, zsh_76, zsh_77, zsh_78, zsh_79, zsh_80, zsh_81, zsh_82, zsh_83, zsh_84, zsh_85, zsh_86, zsh_87, zup_ne, zup_eq, zup_nf, ne_eq, not_false_eq_true]
              have hR3 := hR2.x p1 p2
              have hV3 : zVS ((Sm s).1 ++ [(zhash B, B)], (Sm s).2) := by
                have := (hV s h3).take (Lb := [(zhash B, B)]) (fun y hy => by rw [List.mem_singleton.mp hy]; exact t2) (zNd_one _)
                rw [ef] at this
                exact this
              obtain ⟨Q, y1, y2⟩ := tail μ3 _ 0 hR3 hV3 (l2.trans p2.lo) hO hS
              refine ⟨Q, y1, fun v μ' hq => ?_⟩
              obtain ⟨rfl, z1, z2⟩ := y2 v μ' hq
              simp only [b_X11_put_0, b_X11_put_7, b_X11_put_15, b_X11_put_31, b_X11_put_38, b_X11_put_45, b_X11_put_47, b_X11_put_63, b_X11_put_71, b_X11_put_74, b_X11_put_78, b_X11_put_89, b_X11_put_92, b_X11_put_96, b_X11_put_102, o_c, o_il, o_al, o_is, o_as, o_inc, o_add, o_sub, o_mul, o_and, o_or, o_xor, o_shl, o_shr, o_ush, o_rem, o_dup, o_dup2, o_gf, o_pf, o_pz, o_iald, o_iast, o_zald, o_zast, o_aald, o_gs, o_min, o_acp, o_call, o_callv, zgf, zpf, zia_, zza_, zra_, zrd_, zcp_, zpop, zsm8_0, zsm8_1, zsm8_2, zsm8_3, zsm8_4, zsm8_5, zrc, zisob, t_ieq, t_ilt, t_igt, t_zeq, t_zlt, t_zgt, t_sw, zsw, t_iret, t_zret, t_aret, t_vret, zrg, List.getElem?_cons_zero, List.getElem?_cons_succ, List.set_cons_zero, List.set_cons_succ, List.length_cons, List.length_nil, Option.toList_some, Option.toList_none, List.nil_append, List.cons_append, true_and, and_true, true_or, or_true, Int.cast_ofNat_Int, Int.natCast_zero, Int.natCast_one, zsh_56, zsh_57, zsh_58, zsh_59, zsh_60, zsh_61, zsh_62, zsh_63, zsh_64, zsh_65, zsh_66, zsh_67, zsh_68, zsh_69, zsh_70, zsh_71, zsh_72, zsh_73, zsh_74, zsh_75, zsh_76, zsh_77, zsh_78, zsh_79, zsh_80, zsh_81, zsh_82, zsh_83, zsh_84, zsh_85, zsh_86, zsh_87, zup_ne, zup_eq, zup_nf, ne_eq, not_false_eq_true]
              rw [hO] at z1 ⊢
              exact ⟨rfl, z1, z2⟩
            refine ⟨by omega, fun _ => ⟨by omega, fun _ => ⟨by omega, by omega, by omega, fun w1 => ?_, key9⟩, fun w => by omega⟩, fun w => by omega⟩
            rw [if_pos (by omega)] at ek
            have hO : zptO B Sm s = -3 := by rw [eO]; unfold zbiC; rw [if_neg (by rw [ek]; decide), ek]
            have hS : zptS B Sm s = Sm := by rw [eS]; unfold zbiS; rw [if_neg (by rw [ek]; decide), zSu_id]
            rw [hO, hS]
            exact ⟨rfl, hR2, l2⟩
          · have u51 := u5.1
            obtain ⟨ef, ek⟩ := ztk_in (L := (Sm s).1) (b := (zhash B, B)) u3 hl64
            refine ⟨by omega, fun w => by omega, fun _ => ?_⟩
            refine zcall (c_X11_sameAsRow u5 k2) ?_
            rcases zb_or (bs = B) with ⟨v1, v2⟩ | ⟨v1, v2⟩
            · rw [v1]
              simp only [b_X11_put_0, b_X11_put_7, b_X11_put_15, b_X11_put_31, b_X11_put_38, b_X11_put_45, b_X11_put_47, b_X11_put_63, b_X11_put_71, b_X11_put_74, b_X11_put_78, b_X11_put_89, b_X11_put_92, b_X11_put_96, b_X11_put_102, o_c, o_il, o_al, o_is, o_as, o_inc, o_add, o_sub, o_mul, o_and, o_or, o_xor, o_shl, o_shr, o_ush, o_rem, o_dup, o_dup2, o_gf, o_pf, o_pz, o_iald, o_iast, o_zald, o_zast, o_aald, o_gs, o_min, o_acp, o_call, o_callv, zgf, zpf, zia_, zza_, zra_, zrd_, zcp_, zpop, zsm8_0, zsm8_1, zsm8_2, zsm8_3, zsm8_4, zsm8_5, zrc, zisob, t_ieq, t_ilt, t_igt, t_zeq, t_zlt, t_zgt, t_sw, zsw, t_iret, t_zret, t_aret, t_vret, zrg, List.getElem?_cons_zero, List.getElem?_cons_succ, List.set_cons_zero, List.set_cons_succ, List.length_cons, List.length_nil, Option.toList_some, Option.toList_none, List.nil_append, List.cons_append, true_and, and_true, true_or, or_true, Int.cast_ofNat_Int, Int.natCast_zero, Int.natCast_one, zsh_56, zsh_57, zsh_58, zsh_59, zsh_60, zsh_61, zsh_62, zsh_63, zsh_64, zsh_65, zsh_66, zsh_67, zsh_68, zsh_69, zsh_70, zsh_71, zsh_72, zsh_73, zsh_74, zsh_75, zsh_76, zsh_77, zsh_78, zsh_79, zsh_80, zsh_81, zsh_82, zsh_83, zsh_84, zsh_85, zsh_86, zsh_87, zup_ne, zup_eq, zup_nf, ne_eq, not_false_eq_true]
              rw [if_pos (by rw [u1, v2])] at ek
              have hO : zptO B Sm s = zhash B := by rw [eO]; unfold zbiC; rw [if_pos ek]
              have hS : zptS B Sm s = zSu Sm s (zwst (Sm s)) := by rw [eS]; unfold zbiS; rw [if_pos ek, ef, List.append_nil]; rfl
              refine ⟨by omega, fun w => by omega, fun _ => ⟨by omega, fun w => by omega, fun _ => ?_⟩⟩
              refine s_X11_put_92 hG ?_
              simp only [b_X11_put_0, b_X11_put_7, b_X11_put_15, b_X11_put_31, b_X11_put_38, b_X11_put_45, b_X11_put_47, b_X11_put_63, b_X11_put_71, b_X11_put_74, b_X11_put_78, b_X11_put_89, b_X11_put_92, b_X11_put_96, b_X11_put_102, o_c, o_il, o_al, o_is, o_as, o_inc, o_add, o_sub, o_mul, o_and, o_or, o_xor, o_shl, o_shr, o_ush, o_rem, o_dup, o_dup2, o_gf, o_pf, o_pz, o_iald, o_iast, o_zald, o_zast, o_aald, o_gs, o_min, o_acp, o_call, o_callv, zgf, zpf, zia_, zza_, zra_, zrd_, zcp_, zpop, zsm8_0, zsm8_1, zsm8_2, zsm8_3, zsm8_4, zsm8_5, zrc, zisob, t_ieq, t_ilt, t_igt, t_zeq, t_zlt, t_zgt, t_sw, zsw, t_iret, t_zret, t_aret, t_vret, zrg, List.getElem?_cons_zero, List.getElem?_cons_succ, List.set_cons_zero, List.set_cons_succ, List.length_cons, List.length_nil, Option.toList_some, Option.toList_none, List.nil_append, List.cons_append, true_and, and_true, true_or, or_true, Int.cast_ofNat_Int, Int.natCast_zero, Int.natCast_one, zsh_56, zsh_57, zsh_58, zsh_59, zsh_60, zsh_61, zsh_62, zsh_63, zsh_64, zsh_65, zsh_66, zsh_67, zsh_68, zsh_69, zsh_70, zsh_71, zsh_72, zsh_73, zsh_74, zsh_75, zsh_76, zsh_77, zsh_78, zsh_79, zsh_80, zsh_81, zsh_82, zsh_83, zsh_84, zsh_85, zsh_86, zsh_87, zup_ne, zup_eq, zup_nf, ne_eq, not_false_eq_true]
              refine ⟨by omega, fun w => by omega, fun _ => ?_⟩
              obtain ⟨Q, y1, y2⟩ := tail μ2 (Sm s) 0 (by rw [zSu_id]; exact hR2) (hV s h3) l2 hO hS
              refine ⟨Q, y1, fun v μ' hq => ?_⟩
              obtain ⟨rfl, z1, z2⟩ := y2 v μ' hq
              simp only [b_X11_put_0, b_X11_put_7, b_X11_put_15, b_X11_put_31, b_X11_put_38, b_X11_put_45, b_X11_put_47, b_X11_put_63, b_X11_put_71, b_X11_put_74, b_X11_put_78, b_X11_put_89, b_X11_put_92, b_X11_put_96, b_X11_put_102, o_c, o_il, o_al, o_is, o_as, o_inc, o_add, o_sub, o_mul, o_and, o_or, o_xor, o_shl, o_shr, o_ush, o_rem, o_dup, o_dup2, o_gf, o_pf, o_pz, o_iald, o_iast, o_zald, o_zast, o_aald, o_gs, o_min, o_acp, o_call, o_callv, zgf, zpf, zia_, zza_, zra_, zrd_, zcp_, zpop, zsm8_0, zsm8_1, zsm8_2, zsm8_3, zsm8_4, zsm8_5, zrc, zisob, t_ieq, t_ilt, t_igt, t_zeq, t_zlt, t_zgt, t_sw, zsw, t_iret, t_zret, t_aret, t_vret, zrg, List.getElem?_cons_zero, List.getElem?_cons_succ, List.set_cons_zero, List.set_cons_succ, List.length_cons, List.length_nil, Option.toList_some, Option.toList_none, List.nil_append, List.cons_append, true_and, and_true, true_or, or_true, Int.cast_ofNat_Int, Int.natCast_zero, Int.natCast_one, zsh_56, zsh_57, zsh_58, zsh_59, zsh_60, zsh_61, zsh_62, zsh_63, zsh_64, zsh_65, zsh_66, zsh_67, zsh_68, zsh_69, zsh_70, zsh_71, zsh_72, zsh_73, zsh_74, zsh_75, zsh_76, zsh_77, zsh_78, zsh_79, zsh_80, zsh_81, zsh_82, zsh_83, zsh_84, zsh_85, zsh_86, zsh_87, zup_ne, zup_eq, zup_nf, ne_eq, not_false_eq_true]
              rw [hO] at z1 ⊢
              exact ⟨rfl, z1, z2⟩
            · rw [v1]
              simp only [b_X11_put_0, b_X11_put_7, b_X11_put_15, b_X11_put_31, b_X11_put_38, b_X11_put_45, b_X11_put_47, b_X11_put_63, b_X11_put_71, b_X11_put_74, b_X11_put_78, b_X11_put_89, b_X11_put_92, b_X11_put_96, b_X11_put_102, o_c, o_il, o_al, o_is, o_as, o_inc, o_add, o_sub, o_mul, o_and, o_or, o_xor, o_shl, o_shr, o_ush, o_rem, o_dup, o_dup2, o_gf, o_pf, o_pz, o_iald, o_iast, o_zald, o_zast, o_aald, o_gs, o_min, o_acp, o_call, o_callv, zgf, zpf, zia_, zza_, zra_, zrd_, zcp_, zpop, zsm8_0, zsm8_1, zsm8_2, zsm8_3, zsm8_4, zsm8_5, zrc, zisob, t_ieq, t_ilt, t_igt, t_zeq, t_zlt, t_zgt, t_sw, zsw, t_iret, t_zret, t_aret, t_vret, zrg, List.getElem?_cons_zero, List.getElem?_cons_succ, List.set_cons_zero, List.set_cons_succ, List.length_cons, List.length_nil, Option.toList_some, Option.toList_none, List.nil_append, List.cons_append, true_and, and_true, true_or, or_true, Int.cast_ofNat_Int, Int.natCast_zero, Int.natCast_one, zsh_56, zsh_57, zsh_58, zsh_59, zsh_60, zsh_61, zsh_62, zsh_63, zsh_64, zsh_65, zsh_66, zsh_67, zsh_68, zsh_69, zsh_70, zsh_71, zsh_72, zsh_73, zsh_74, zsh_75, zsh_76, zsh_77, zsh_78, zsh_79, zsh_80, zsh_81, zsh_82, zsh_83, zsh_84, zsh_85, zsh_86, zsh_87, zup_ne, zup_eq, zup_nf, ne_eq, not_false_eq_true]
              rw [if_neg (by rw [u1]; exact fun q => v2 (Option.some.inj q))] at ek
              have hO : zptO B Sm s = -2 := by rw [eO]; unfold zbiC; rw [if_neg (by rw [ek]; decide), ek]
              have hS : zptS B Sm s = Sm := by rw [eS]; unfold zbiS; rw [if_neg (by rw [ek]; decide), zSu_id]
              rw [hO, hS]
              exact ⟨by omega, fun _ => ⟨rfl, hR2, l2⟩, fun w => absurd trivial w⟩
        · rw [t1]
          simp only [b_X11_put_0, b_X11_put_7, b_X11_put_15, b_X11_put_31, b_X11_put_38, b_X11_put_45, b_X11_put_47, b_X11_put_63, b_X11_put_71, b_X11_put_74, b_X11_put_78, b_X11_put_89, b_X11_put_92, b_X11_put_96, b_X11_put_102, o_c, o_il, o_al, o_is, o_as, o_inc, o_add, o_sub, o_mul, o_and, o_or, o_xor, o_shl, o_shr, o_ush, o_rem, o_dup, o_dup2, o_gf, o_pf, o_pz, o_iald, o_iast, o_zald, o_zast, o_aald, o_gs, o_min, o_acp, o_call, o_callv, zgf, zpf, zia_, zza_, zra_, zrd_, zcp_, zpop, zsm8_0, zsm8_1, zsm8_2, zsm8_3, zsm8_4, zsm8_5, zrc, zisob, t_ieq, t_ilt, t_igt, t_zeq, t_zlt, t_zgt, t_sw, zsw, t_iret, t_zret, t_aret, t_vret, zrg, List.getElem?_cons_zero, List.getElem?_cons_succ, List.set_cons_zero, List.set_cons_succ, List.length_cons, List.length_nil, Option.toList_some, Option.toList_none, List.nil_append, List.cons_append, true_and, and_true, true_or, or_true, Int.cast_ofNat_Int, Int.natCast_zero, Int.natCast_one, zsh_56, zsh_57, zsh_58, zsh_59, zsh_60, zsh_61, zsh_62, zsh_63, zsh_64, zsh_65, zsh_66, zsh_67, zsh_68, zsh_69, zsh_70, zsh_71, zsh_72, zsh_73, zsh_74, zsh_75, zsh_76, zsh_77, zsh_78, zsh_79, zsh_80, zsh_81, zsh_82, zsh_83, zsh_84, zsh_85, zsh_86, zsh_87, zup_ne, zup_eq, zup_nf, ne_eq, not_false_eq_true]
          obtain ⟨e1, e2⟩ := hbad (fun q => t2 q.2)
          rw [e1, e2]
          exact ⟨by omega, fun _ => ⟨rfl, hR2, l2⟩, fun w => absurd trivial w⟩
      · rw [q1]
        simp only [b_X11_put_0, b_X11_put_7, b_X11_put_15, b_X11_put_31, b_X11_put_38, b_X11_put_45, b_X11_put_47, b_X11_put_63, b_X11_put_71, b_X11_put_74, b_X11_put_78, b_X11_put_89, b_X11_put_92, b_X11_put_96, b_X11_put_102, o_c, o_il, o_al, o_is, o_as, o_inc, o_add, o_sub, o_mul, o_and, o_or, o_xor, o_shl, o_shr, o_ush, o_rem, o_dup, o_dup2, o_gf, o_pf, o_pz, o_iald, o_iast, o_zald, o_zast, o_aald, o_gs, o_min, o_acp, o_call, o_callv, zgf, zpf, zia_, zza_, zra_, zrd_, zcp_, zpop, zsm8_0, zsm8_1, zsm8_2, zsm8_3, zsm8_4, zsm8_5, zrc, zisob, t_ieq, t_ilt, t_igt, t_zeq, t_zlt, t_zgt, t_sw, zsw, t_iret, t_zret, t_aret, t_vret, zrg, List.getElem?_cons_zero, List.getElem?_cons_succ, List.set_cons_zero, List.set_cons_succ, List.length_cons, List.length_nil, Option.toList_some, Option.toList_none, List.nil_append, List.cons_append, true_and, and_true, true_or, or_true, Int.cast_ofNat_Int, Int.natCast_zero, Int.natCast_one, zsh_56, zsh_57, zsh_58, zsh_59, zsh_60, zsh_61, zsh_62, zsh_63, zsh_64, zsh_65, zsh_66, zsh_67, zsh_68, zsh_69, zsh_70, zsh_71, zsh_72, zsh_73, zsh_74, zsh_75, zsh_76, zsh_77, zsh_78, zsh_79, zsh_80, zsh_81, zsh_82, zsh_83, zsh_84, zsh_85, zsh_86, zsh_87, zup_ne, zup_eq, zup_nf, ne_eq, not_false_eq_true]
        obtain ⟨e1, e2⟩ := hbad (fun q => q2 q.1)
        rw [e1, e2]
        exact ⟨by omega, fun _ => ⟨rfl, hR2, l2⟩, fun w => absurd trivial w⟩
    | succ r ih =>
      intro i μ2 x3 k1 k2 k3
      have hi : i < B.length := by omega
      have hB2 := h.1.f k3 (by simp) (by simp)
      have e74 := hB2.2.2.1 i _ (List.getElem?_eq_getElem hi)
      have e9 : B.take (i + 1) = B.take i ++ [B[i]] := by rw [List.take_succ]; simp [hi]
      refine s_X11_put_7 hG ?_
      simp only [b_X11_put_0, b_X11_put_7, b_X11_put_15, b_X11_put_31, b_X11_put_38, b_X11_put_45, b_X11_put_47, b_X11_put_63, b_X11_put_71, b_X11_put_74, b_X11_put_78, b_X11_put_89, b_X11_put_92, b_X11_put_96, b_X11_put_102, o_c, o_il, o_al, o_is, o_as, o_inc, o_add, o_sub, o_mul, o_and, o_or, o_xor, o_shl, o_shr, o_ush, o_rem, o_dup, o_dup2, o_gf, o_pf, o_pz, o_iald, o_iast, o_zald, o_zast, o_aald, o_gs, o_min, o_acp, o_call, o_callv, zgf, zpf, zia_, zza_, zra_, zrd_, zcp_, zpop, zsm8_0, zsm8_1, zsm8_2, zsm8_3, zsm8_4, zsm8_5, zrc, zisob, t_ieq, t_ilt, t_igt, t_zeq, t_zlt, t_zgt, t_sw, zsw, t_iret, t_zret, t_aret, t_vret, zrg, List.getElem?_cons_zero, List.getElem?_cons_succ, List.set_cons_zero, List.set_cons_succ, List.length_cons, List.length_nil, Option.toList_some, Option.toList_none, List.nil_append, List.cons_append, true_and, and_true, true_or, or_true, Int.cast_ofNat_Int, Int.natCast_zero, Int.natCast_one, zsh_56, zsh_57, zsh_58, zsh_59, zsh_60, zsh_61, zsh_62, zsh_63, zsh_64, zsh_65, zsh_66, zsh_67, zsh_68, zsh_69, zsh_70, zsh_71, zsh_72, zsh_73, zsh_74, zsh_75, zsh_76, zsh_77, zsh_78, zsh_79, zsh_80, zsh_81, zsh_82, zsh_83, zsh_84, zsh_85, zsh_86, zsh_87, zup_ne, zup_eq, zup_nf, ne_eq, not_false_eq_true]
      rw [hB2.1, e74]
      refine ⟨by omega, by omega, fun _ => ⟨by omega, ?_⟩, fun w => by omega⟩
      refine ⟨_, c_X11_push k2 (by simp; omega) (hB2.2.2.2 _ (List.getElem_mem hi)), ?_⟩
      rintro v μ3 ⟨rfl, p1, p2⟩
      simp only [b_X11_put_0, b_X11_put_7, b_X11_put_15, b_X11_put_31, b_X11_put_38, b_X11_put_45, b_X11_put_47, b_X11_put_63, b_X11_put_71, b_X11_put_74, b_X11_put_78, b_X11_put_89, b_X11_put_92, b_X11_put_96, b_X11_put_102, o_c, o_il, o_al, o_is, o_as, o_inc, o_add, o_sub, o_mul, o_and, o_or, o_xor, o_shl, o_shr, o_ush, o_rem, o_dup, o_dup2, o_gf, o_pf, o_pz, o_iald, o_iast, o_zald, o_zast, o_aald, o_gs, o_min, o_acp, o_call, o_callv, zgf, zpf, zia_, zza_, zra_, zrd_, zcp_, zpop, zsm8_0, zsm8_1, zsm8_2, zsm8_3, zsm8_4, zsm8_5, zrc, zisob, t_ieq, t_ilt, t_igt, t_zeq, t_zlt, t_zgt, t_sw, zsw, t_iret, t_zret, t_aret, t_vret, zrg, List.getElem?_cons_zero, List.getElem?_cons_succ, List.set_cons_zero, List.set_cons_succ, List.length_cons, List.length_nil, Option.toList_some, Option.toList_none, List.nil_append, List.cons_append, true_and, and_true, true_or, or_true, Int.cast_ofNat_Int, Int.natCast_zero, Int.natCast_one, zsh_56, zsh_57, zsh_58, zsh_59, zsh_60, zsh_61, zsh_62, zsh_63, zsh_64, zsh_65, zsh_66, zsh_67, zsh_68, zsh_69, zsh_70, zsh_71, zsh_72, zsh_73, zsh_74, zsh_75, zsh_76, zsh_77, zsh_78, zsh_79, zsh_80, zsh_81, zsh_82, zsh_83, zsh_84, zsh_85, zsh_86, zsh_87, zup_ne, zup_eq, zup_nf, ne_eq, not_false_eq_true]
      rw [← e9] at p1
      exact ih (i + 1) μ3 _ (by omega) p1 (k3.trans p2)
  simp only [b_X11_put_0, b_X11_put_7, b_X11_put_15, b_X11_put_31, b_X11_put_38, b_X11_put_45, b_X11_put_47, b_X11_put_63, b_X11_put_71, b_X11_put_74, b_X11_put_78, b_X11_put_89, b_X11_put_92, b_X11_put_96, b_X11_put_102, o_c, o_il, o_al, o_is, o_as, o_inc, o_add, o_sub, o_mul, o_and, o_or, o_xor, o_shl, o_shr, o_ush, o_rem, o_dup, o_dup2, o_gf, o_pf, o_pz, o_iald, o_iast, o_zald, o_zast, o_aald, o_gs, o_min, o_acp, o_call, o_callv, zgf, zpf, zia_, zza_, zra_, zrd_, zcp_, zpop, zsm8_0, zsm8_1, zsm8_2, zsm8_3, zsm8_4, zsm8_5, zrc, zisob, t_ieq, t_ilt, t_igt, t_zeq, t_zlt, t_zgt, t_sw, zsw, t_iret, t_zret, t_aret, t_vret, zrg, List.getElem?_cons_zero, List.getElem?_cons_succ, List.set_cons_zero, List.set_cons_succ, List.length_cons, List.length_nil, Option.toList_some, Option.toList_none, List.nil_append, List.cons_append, true_and, and_true, true_or, or_true, Int.cast_ofNat_Int, Int.natCast_zero, Int.natCast_one, zsh_56, zsh_57, zsh_58, zsh_59, zsh_60, zsh_61, zsh_62, zsh_63, zsh_64, zsh_65, zsh_66, zsh_67, zsh_68, zsh_69, zsh_70, zsh_71, zsh_72, zsh_73, zsh_74, zsh_75, zsh_76, zsh_77, zsh_78, zsh_79, zsh_80, zsh_81, zsh_82, zsh_83, zsh_84, zsh_85, zsh_86, zsh_87, zup_ne, zup_eq, zup_nf, ne_eq, not_false_eq_true]
  have f0 : zF [77] [24] μ (zup μ 56 24 0) := (zF.refl _ _ _).v (by simp)
  exact loop B.length 0 _ _ (by omega) (zmR.nil zup_eq) f0
