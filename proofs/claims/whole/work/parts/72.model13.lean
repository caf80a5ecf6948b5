/-! THE REFERENCE: deliver, harm, message, type, name, entry -/
set_option maxRecDepth 100000 in
set_option maxHeartbeats 4000000 in
theorem c_X11_deliver {d : Nat} {μ : zM} {B : List Int} {T : List zPp} {Ms : List zMg} {Sm : Nat → zStt} {k : Int} (hd : 6 ≤ d) (h : zRN μ B T Ms Sm) (hV : ∀ s, s < 3 → zVS (Sm s)) (hH : ∀ s, s < 3 → zHB (Sm s).1) (hk0 : zrg k) : zCt d mX11_deliver [.inr (some 56), .inl k] μ (fun v μ' => v = some (.inl (zdlO Ms k)) ∧ zRN μ' B T (zdlM Ms Sm k) (zdlS Ms Sm k) ∧ zlo μ μ') := by
  have hW := h.2.2.1
  have hlen := hW.2.1
  unfold zrg at hk0
  rcases zat_cases Ms k with ⟨e1, e2⟩ | ⟨i, m, rfl, hi, e1, e2⟩
  · unfold zdlO zdlM zdlS
    rw [e2]
    refine of_X11_deliver (by omega) (fun G hG => s_X11_deliver_0 hG ?_)
    simp only [b_X11_deliver_0, b_X11_deliver_4, b_X11_deliver_12, b_X11_deliver_14, b_X11_deliver_52, b_X11_deliver_63, b_X11_deliver_85, b_X11_deliver_94, b_X11_deliver_105, b_X11_deliver_116, b_X11_deliver_127, b_X11_deliver_129, b_X11_deliver_140, b_X11_deliver_149, b_X11_deliver_158, b_X11_deliver_166, o_c, o_il, o_al, o_is, o_as, o_inc, o_add, o_sub, o_mul, o_and, o_or, o_xor, o_shl, o_shr, o_ush, o_rem, o_dup, o_dup2, o_gf, o_pf, o_pz, o_iald, o_iast, o_zald, o_zast, o_aald, o_gs, o_min, o_acp, o_call, o_callv, zgf, zpf, zia_, zza_, zra_, zrd_, zcp_, zpop, zsm8_0, zsm8_1, zsm8_2, zsm8_3, zsm8_4, zsm8_5, zrc, zisob, t_ieq, t_ilt, t_igt, t_zeq, t_zlt, t_zgt, t_sw, zsw, t_iret, t_zret, t_aret, t_vret, zrg, List.getElem?_cons_zero, List.getElem?_cons_succ, List.set_cons_zero, List.set_cons_succ, List.length_cons, List.length_nil, Option.toList_some, Option.toList_none, List.nil_append, List.cons_append, true_and, and_true, true_or, or_true, Int.cast_ofNat_Int, Int.natCast_zero, Int.natCast_one, zsh_56, zsh_57, zsh_58, zsh_59, zsh_60, zsh_61, zsh_62, zsh_63, zsh_64, zsh_65, zsh_66, zsh_67, zsh_68, zsh_69, zsh_70, zsh_71, zsh_72, zsh_73, zsh_74, zsh_75, zsh_76, zsh_77, zsh_78, zsh_79, zsh_80, zsh_81, zsh_82, zsh_83, zsh_84, zsh_85, zsh_86, zsh_87, zup_ne, zup_eq, zup_nf, ne_eq, not_false_eq_true]
    rw [hW.1]
    exact ⟨by omega, fun _ => ⟨h, zlo.refl _⟩, fun _ => ⟨by omega, by omega, fun w => by omega, fun _ => ⟨h, zlo.refl _⟩⟩⟩
  · have eO : zdlO Ms i = m.1.1 := by unfold zdlO; rw [e2]
    have eM : zdlM Ms Sm i = if m.1.1 = 0 then zanw (Ms.eraseIdx i) (Sm m.1.2.2.toNat).1 m.1.2.1 m.1.2.2 m.2.1 else if m.1.1 = 1 then zgvM (Ms.eraseIdx i) m.1.2.2 (Sm m.1.2.2.toNat) m.1.2.1 m.2 else Ms.eraseIdx i := by unfold zdlM; rw [e2]; rfl
    have eS : zdlS Ms Sm i = if m.1.1 = 0 then Sm else if m.1.1 = 1 then zSu Sm m.1.2.2.toNat (zgvS (Sm m.1.2.2.toNat) m.1.2.1 m.2) else zSu Sm m.1.2.2.toNat (zrnS (Sm m.1.2.2.toNat) m.1.2.1 m.2.1) := by unfold zdlS; rw [e2]
    rw [eO, eM, eS]
    obtain ⟨o1, o2, o3, o4, o5, o6⟩ := hW.2.2.1 m (List.mem_of_getElem? e1)
    obtain ⟨a1, a2, a3, a4, a5, a6⟩ := hW.2.2.2 i m e1
    have hnm := o4.1
    have hb18 : m.2.2.length ≤ 18 := o4.2.1
    obtain ⟨a, ha, ha3⟩ := zs3 o2
    obtain ⟨b, hb, hb3⟩ := zs3 o3
    rw [hb, Int.toNat_natCast, ha]
    refine of_X11_deliver (by omega) (fun G hG => s_X11_deliver_0 hG ?_)
    have loop : ∀ (r c : Nat) (μ2 : zM), c + r = m.2.2.length → zmR μ2 (m.2.2.take c) → zF [77] [24] μ μ2 → G 52 [.inr (some 56), .inl (i : Int), .inl m.1.1, .inl (a : Int), .inl (b : Int), .inl (μ 71 i), .inl (c : Int)] [] μ2 := by
      intro r
      induction r with
      | zero =>
        intro c μ2 k1 k2 k3
        rw [List.take_of_length_le (by omega)] at k2
        have e72 : μ2 72 i = m.2.2.length := by rw [k3.1 72 (by simp) (by decide)]; exact a5
        have hR2 := h.f k3 (by simp) (by simp)
        refine s_X11_deliver_52 hG ?_
        simp only [b_X11_deliver_0, b_X11_deliver_4, b_X11_deliver_12, b_X11_deliver_14, b_X11_deliver_52, b_X11_deliver_63, b_X11_deliver_85, b_X11_deliver_94, b_X11_deliver_105, b_X11_deliver_116, b_X11_deliver_127, b_X11_deliver_129, b_X11_deliver_140, b_X11_deliver_149, b_X11_deliver_158, b_X11_deliver_166, o_c, o_il, o_al, o_is, o_as, o_inc, o_add, o_sub, o_mul, o_and, o_or, o_xor, o_shl, o_shr, o_ush, o_rem, o_dup, o_dup2, o_gf, o_pf, o_pz, o_iald, o_iast, o_zald, o_zast, o_aald, o_gs, o_min, o_acp, o_call, o_callv, zgf, zpf, zia_, zza_, zra_, zrd_, zcp_, zpop, zsm8_0, zsm8_1, zsm8_2, zsm8_3, zsm8_4, zsm8_5, zrc, zisob, t_ieq, t_ilt, t_igt, t_zeq, t_zlt, t_zgt, t_sw, zsw, t_iret, t_zret, t_aret, t_vret, zrg, List.getElem?_cons_zero, List.getElem?_cons_succ, List.set_cons_zero, List.set_cons_succ, List.length_cons, List.length_nil, Option.toList_some, Option.toList_none, List.nil_append, List.cons_append, true_and, and_true, true_or, or_true, Int.cast_ofNat_Int, Int.natCast_zero, Int.natCast_one, zsh_56, zsh_57, zsh_58, zsh_59, zsh_60, zsh_61, zsh_62, zsh_63, zsh_64, zsh_65, zsh_66, zsh_67, zsh_68, zsh_69, zsh_70, zsh_71, zsh_72, zsh_73, zsh_74, zsh_75, zsh_76, zsh_77, zsh_78, zsh_79, zsh_80, zsh_81, zsh_82, zsh_83, zsh_84, zsh_85, zsh_86, zsh_87, zup_ne, zup_eq, zup_nf, ne_eq, not_false_eq_true]
        rw [e72]
        refine ⟨by omega, by omega, by omega, fun w => by omega, fun _ => ?_⟩
        refine ⟨_, c_X11_takeOut hR2.2.2.1 hi, ?_⟩
        rintro v μ3 ⟨rfl, g1, g2⟩
        simp only [b_X11_deliver_0, b_X11_deliver_4, b_X11_deliver_12, b_X11_deliver_14, b_X11_deliver_52, b_X11_deliver_63, b_X11_deliver_85, b_X11_deliver_94, b_X11_deliver_105, b_X11_deliver_116, b_X11_deliver_127, b_X11_deliver_129, b_X11_deliver_140, b_X11_deliver_149, b_X11_deliver_158, b_X11_deliver_166, o_c, o_il, o_al, o_is, o_as, o_inc, o_add, o_sub, o_mul, o_and, o_or, o_xor, o_shl, o_shr, o_ush, o_rem, o_dup, o_dup2, o_gf, o_pf, o_pz, o_iald, o_iast, o_zald, o_zast, o_aald, o_gs, o_min, o_acp, o_call, o_callv, zgf, zpf, zia_, zza_, zra_, zrd_, zcp_, zpop, zsm8_0, zsm8_1, zsm8_2, zsm8_3, zsm8_4, zsm8_5, zrc, zisob, t_ieq, t_ilt, t_igt, t_zeq, t_zlt, t_zgt, t_sw, zsw, t_iret, t_zret, t_aret, t_vret, zrg, List.getElem?_cons_zero, List.getElem?_cons_succ, List.set_cons_zero, List.set_cons_succ, List.length_cons, List.length_nil, Option.toList_some, Option.toList_none, List.nil_append, List.cons_append, true_and, and_true, true_or, or_true, Int.cast_ofNat_Int, Int.natCast_zero, Int.natCast_one, zsh_56, zsh_57, zsh_58, zsh_59, zsh_60, zsh_61, zsh_62, zsh_63, zsh_64, zsh_65, zsh_66, zsh_67, zsh_68, zsh_69, zsh_70, zsh_71, zsh_72, zsh_73, zsh_74, zsh_75, zsh_76, zsh_77, zsh_78, zsh_79, zsh_80, zsh_81, zsh_82, zsh_83, zsh_84, zsh_85, zsh_86, zsh_87, zup_ne, zup_eq, zup_nf, ne_eq, not_false_eq_true]
        have hR3 : zRN μ3 B T (Ms.eraseIdx i) Sm := hR2.ms g1 g2 (by simp) (by simp)
        have l3 : zlo μ μ3 := (k3.lo (by simp)).trans (g2.lo (by simp))
        have hd3 := hR3.2.2.2 b hb3
        have hrow : zmR μ3 m.2.2 := k2.f g2 (by simp) (by simp)
        have hle : (Ms.eraseIdx i).length < 24 := by rw [List.length_eraseIdx_of_lt hi]; omega
        have hfr := hd3.2.2.2.2.2
        refine ⟨by omega, fun w => ?_, fun w => ⟨by omega, ?_⟩⟩
        · have e71 : μ 71 i = m.2.1 := a4 (by omega)
          rw [e71]
          refine ⟨_, c_X11_wanted (by omega) hR3 hb3 (hH b hb3) hle ⟨by omega, by omega⟩ hnm, ?_⟩
          rintro v μ4 ⟨rfl, p1, p2⟩
          simp only [b_X11_deliver_0, b_X11_deliver_4, b_X11_deliver_12, b_X11_deliver_14, b_X11_deliver_52, b_X11_deliver_63, b_X11_deliver_85, b_X11_deliver_94, b_X11_deliver_105, b_X11_deliver_116, b_X11_deliver_127, b_X11_deliver_129, b_X11_deliver_140, b_X11_deliver_149, b_X11_deliver_158, b_X11_deliver_166, o_c, o_il, o_al, o_is, o_as, o_inc, o_add, o_sub, o_mul, o_and, o_or, o_xor, o_shl, o_shr, o_ush, o_rem, o_dup, o_dup2, o_gf, o_pf, o_pz, o_iald, o_iast, o_zald, o_zast, o_aald, o_gs, o_min, o_acp, o_call, o_callv, zgf, zpf, zia_, zza_, zra_, zrd_, zcp_, zpop, zsm8_0, zsm8_1, zsm8_2, zsm8_3, zsm8_4, zsm8_5, zrc, zisob, t_ieq, t_ilt, t_igt, t_zeq, t_zlt, t_zgt, t_sw, zsw, t_iret, t_zret, t_aret, t_vret, zrg, List.getElem?_cons_zero, List.getElem?_cons_succ, List.set_cons_zero, List.set_cons_succ, List.length_cons, List.length_nil, Option.toList_some, Option.toList_none, List.nil_append, List.cons_append, true_and, and_true, true_or, or_true, Int.cast_ofNat_Int, Int.natCast_zero, Int.natCast_one, zsh_56, zsh_57, zsh_58, zsh_59, zsh_60, zsh_61, zsh_62, zsh_63, zsh_64, zsh_65, zsh_66, zsh_67, zsh_68, zsh_69, zsh_70, zsh_71, zsh_72, zsh_73, zsh_74, zsh_75, zsh_76, zsh_77, zsh_78, zsh_79, zsh_80, zsh_81, zsh_82, zsh_83, zsh_84, zsh_85, zsh_86, zsh_87, zup_ne, zup_eq, zup_nf, ne_eq, not_false_eq_true]
          rw [if_pos w, if_pos w]
          exact ⟨p1, l3.trans p2⟩
        · rw [hd3.2.2.1]
          have no : ¬ ((Sm b).2.2.1 = 1 ∧ (Sm b).2.2.2.1 = a) → zRN μ3 B T (if m.1.1 = 0 then zanw (Ms.eraseIdx i) (Sm b).1 a b m.2.1 else if m.1.1 = 1 then zgvM (Ms.eraseIdx i) b (Sm b) a m.2 else Ms.eraseIdx i) (if m.1.1 = 0 then Sm else if m.1.1 = 1 then zSu Sm b (zgvS (Sm b) a m.2) else zSu Sm b (zrnS (Sm b) a m.2.1)) ∧ zlo μ μ3 := fun q => by
            have n1 : zgvM (Ms.eraseIdx i) b (Sm b) a m.2 = Ms.eraseIdx i := by unfold zgvM; rw [if_neg (by rw [zb_f (fun r => q r.1.1)]; decide)]
            have n2 : zSu Sm b (zgvS (Sm b) a m.2) = Sm := by unfold zgvS; rw [if_neg (by rw [zb_f (fun r => q r.1)]; decide), zSu_id]
            have n3 : zSu Sm b (zrnS (Sm b) a m.2.1) = Sm := by unfold zrnS; rw [if_neg (by rw [zb_f (fun r => q r.1)]; decide), zSu_id]
            rw [if_neg w, if_neg w, n1, n2, n3]
            refine ⟨?_, l3⟩
            split <;> exact hR3
          refine ⟨by omega, by omega, fun w1 => ⟨by omega, ?_⟩, fun w1 => no (fun q => w1 q.1)⟩
          rw [hd3.2.2.2.1]
          refine ⟨by omega, by omega, fun w2 => ?_, fun w2 => no (fun q => w2 q.2)⟩
          refine ⟨_, c_X11_findMissing (by omega) hd3 hb3 (hV b hb3), ?_⟩
          rintro v μ4 ⟨rfl, p1, ⟨p2, p3, p4, p5⟩, p6⟩
          simp only [b_X11_deliver_0, b_X11_deliver_4, b_X11_deliver_12, b_X11_deliver_14, b_X11_deliver_52, b_X11_deliver_63, b_X11_deliver_85, b_X11_deliver_94, b_X11_deliver_105, b_X11_deliver_116, b_X11_deliver_127, b_X11_deliver_129, b_X11_deliver_140, b_X11_deliver_149, b_X11_deliver_158, b_X11_deliver_166, o_c, o_il, o_al, o_is, o_as, o_inc, o_add, o_sub, o_mul, o_and, o_or, o_xor, o_shl, o_shr, o_ush, o_rem, o_dup, o_dup2, o_gf, o_pf, o_pz, o_iald, o_iast, o_zald, o_zast, o_aald, o_gs, o_min, o_acp, o_call, o_callv, zgf, zpf, zia_, zza_, zra_, zrd_, zcp_, zpop, zsm8_0, zsm8_1, zsm8_2, zsm8_3, zsm8_4, zsm8_5, zrc, zisob, t_ieq, t_ilt, t_igt, t_zeq, t_zlt, t_zgt, t_sw, zsw, t_iret, t_zret, t_aret, t_vret, zrg, List.getElem?_cons_zero, List.getElem?_cons_succ, List.set_cons_zero, List.set_cons_succ, List.length_cons, List.length_nil, Option.toList_some, Option.toList_none, List.nil_append, List.cons_append, true_and, and_true, true_or, or_true, Int.cast_ofNat_Int, Int.natCast_zero, Int.natCast_one, zsh_56, zsh_57, zsh_58, zsh_59, zsh_60, zsh_61, zsh_62, zsh_63, zsh_64, zsh_65, zsh_66, zsh_67, zsh_68, zsh_69, zsh_70, zsh_71, zsh_72, zsh_73, zsh_74, zsh_75, zsh_76, zsh_77, zsh_78, zsh_79, zsh_80, zsh_81, zsh_82, zsh_83, zsh_84, zsh_85, zsh_86, zsh_87, zup_ne, zup_eq, zup_nf, ne_eq, not_false_eq_true]
          have hR4 := hR3.f p6 (by simp) (by simp)
          have l4 := l3.trans (p6.lo (by simp))
          rw [if_neg w, if_neg w]
          refine ⟨by omega, by omega, fun w3 => ?_, fun w3 => ?_⟩
          · refine ⟨_, c_X11_given (by omega) hR4 hb3 (hV b hb3) (hrow.f p6 (by simp) (by simp)) hb18 w1 p2 p3 p4 p5, ?_⟩
            rintro v μ5 ⟨rfl, q1, q2⟩
            simp only [b_X11_deliver_0, b_X11_deliver_4, b_X11_deliver_12, b_X11_deliver_14, b_X11_deliver_52, b_X11_deliver_63, b_X11_deliver_85, b_X11_deliver_94, b_X11_deliver_105, b_X11_deliver_116, b_X11_deliver_127, b_X11_deliver_129, b_X11_deliver_140, b_X11_deliver_149, b_X11_deliver_158, b_X11_deliver_166, o_c, o_il, o_al, o_is, o_as, o_inc, o_add, o_sub, o_mul, o_and, o_or, o_xor, o_shl, o_shr, o_ush, o_rem, o_dup, o_dup2, o_gf, o_pf, o_pz, o_iald, o_iast, o_zald, o_zast, o_aald, o_gs, o_min, o_acp, o_call, o_callv, zgf, zpf, zia_, zza_, zra_, zrd_, zcp_, zpop, zsm8_0, zsm8_1, zsm8_2, zsm8_3, zsm8_4, zsm8_5, zrc, zisob, t_ieq, t_ilt, t_igt, t_zeq, t_zlt, t_zgt, t_sw, zsw, t_iret, t_zret, t_aret, t_vret, zrg, List.getElem?_cons_zero, List.getElem?_cons_succ, List.set_cons_zero, List.set_cons_succ, List.length_cons, List.length_nil, Option.toList_some, Option.toList_none, List.nil_append, List.cons_append, true_and, and_true, true_or, or_true, Int.cast_ofNat_Int, Int.natCast_zero, Int.natCast_one, zsh_56, zsh_57, zsh_58, zsh_59, zsh_60, zsh_61, zsh_62, zsh_63, zsh_64, zsh_65, zsh_66, zsh_67, zsh_68, zsh_69, zsh_70, zsh_71, zsh_72, zsh_73, zsh_74, zsh_75, zsh_76, zsh_77, zsh_78, zsh_79, zsh_80, zsh_81, zsh_82, zsh_83, zsh_84, zsh_85, zsh_86, zsh_87, zup_ne, zup_eq, zup_nf, ne_eq, not_false_eq_true]
            have em : (zhash m.2.2, m.2.2) = m.2 := by rw [← o6 w3]
            rw [em, w2] at q1
            rw [if_pos w3, if_pos w3]
            exact ⟨q1, l4.trans q2⟩
          · have e71 : μ 71 i = m.2.1 := a4 w3
            rw [e71, if_neg w3, if_neg w3]
            refine zcall (c_X11_isMissing p2 p3 p4 (by omega) (by unfold zrg; omega)) ?_
            rcases zb_or (m.2.1 ∈ zms (Sm b)) with ⟨r1, r2⟩ | ⟨r1, r2⟩
            · rw [r1]
              simp only [b_X11_deliver_0, b_X11_deliver_4, b_X11_deliver_12, b_X11_deliver_14, b_X11_deliver_52, b_X11_deliver_63, b_X11_deliver_85, b_X11_deliver_94, b_X11_deliver_105, b_X11_deliver_116, b_X11_deliver_127, b_X11_deliver_129, b_X11_deliver_140, b_X11_deliver_149, b_X11_deliver_158, b_X11_deliver_166, o_c, o_il, o_al, o_is, o_as, o_inc, o_add, o_sub, o_mul, o_and, o_or, o_xor, o_shl, o_shr, o_ush, o_rem, o_dup, o_dup2, o_gf, o_pf, o_pz, o_iald, o_iast, o_zald, o_zast, o_aald, o_gs, o_min, o_acp, o_call, o_callv, zgf, zpf, zia_, zza_, zra_, zrd_, zcp_, zpop, zsm8_0, zsm8_1, zsm8_2, zsm8_3, zsm8_4, zsm8_5, zrc, zisob, t_ieq, t_ilt, t_igt, t_zeq, t_zlt, t_zgt, t_sw, zsw, t_iret, t_zret, t_aret, t_vret, zrg, List.getElem?_cons_zero, List.getElem?_cons_succ, List.set_cons_zero, List.set_cons_succ, List.length_cons, List.length_nil, Option.toList_some, Option.toList_none, List.nil_append, List.cons_append, true_and, and_true, true_or, or_true, Int.cast_ofNat_Int, Int.natCast_zero, Int.natCast_one, zsh_56, zsh_57, zsh_58, zsh_59, zsh_60, zsh_61, zsh_62, zsh_63, zsh_64, zsh_65, zsh_66, zsh_67, zsh_68, zsh_69, zsh_70, zsh_71, zsh_72, zsh_73, zsh_74, zsh_75, zsh_76, zsh_77, zsh_78, zsh_79, zsh_80, zsh_81, zsh_82, zsh_83, zsh_84, zsh_85, zsh_86, zsh_87, zup_ne, zup_eq, zup_nf, ne_eq, not_false_eq_true]
              have e : zrnS (Sm b) a m.2.1 = zfai (Sm b) := by unfold zrnS; rw [if_pos (zb_t ⟨⟨w1, w2⟩, r2⟩)]
              rw [e]
              have f5 : zF [65] [] μ4 (zup μ4 65 b 3) := (zF.refl _ _ _).u (by simp) (by decide)
              have hd4 := hR4.2.2.2 b hb3
              have hr := hd4.2.2.2.2.2
              refine ⟨by omega, fun w => by omega, fun _ => ⟨by omega, hR4.ft ⟨zup_eq, by rw [zup_ne 67 (by decide)]; exact hd4.2.2.2.1, by rw [zup_ne 66 (by decide)]; exact hd4.2.2.2.2.1, by omega, hr.2.1, hr.2.2⟩ f5 (by simp) (by simp) (fun t ht => by rw [zup_nf ht, zup_ne 66 (by decide), zup_ne 67 (by decide)]; exact ⟨rfl, rfl, rfl⟩), l4.trans (f5.lo (by simp))⟩⟩
            · rw [r1]
              simp only [b_X11_deliver_0, b_X11_deliver_4, b_X11_deliver_12, b_X11_deliver_14, b_X11_deliver_52, b_X11_deliver_63, b_X11_deliver_85, b_X11_deliver_94, b_X11_deliver_105, b_X11_deliver_116, b_X11_deliver_127, b_X11_deliver_129, b_X11_deliver_140, b_X11_deliver_149, b_X11_deliver_158, b_X11_deliver_166, o_c, o_il, o_al, o_is, o_as, o_inc, o_add, o_sub, o_mul, o_and, o_or, o_xor, o_shl, o_shr, o_ush, o_rem, o_dup, o_dup2, o_gf, o_pf, o_pz, o_iald, o_iast, o_zald, o_zast, o_aald, o_gs, o_min, o_acp, o_call, o_callv, zgf, zpf, zia_, zza_, zra_, zrd_, zcp_, zpop, zsm8_0, zsm8_1, zsm8_2, zsm8_3, zsm8_4, zsm8_5, zrc, zisob, t_ieq, t_ilt, t_igt, t_zeq, t_zlt, t_zgt, t_sw, zsw, t_iret, t_zret, t_aret, t_vret, zrg, List.getElem?_cons_zero, List.getElem?_cons_succ, List.set_cons_zero, List.set_cons_succ, List.length_cons, List.length_nil, Option.toList_some, Option.toList_none, List.nil_append, List.cons_append, true_and, and_true, true_or, or_true, Int.cast_ofNat_Int, Int.natCast_zero, Int.natCast_one, zsh_56, zsh_57, zsh_58, zsh_59, zsh_60, zsh_61, zsh_62, zsh_63, zsh_64, zsh_65, zsh_66, zsh_67, zsh_68, zsh_69, zsh_70, zsh_71, zsh_72, zsh_73, zsh_74, zsh_75, zsh_76, zsh_77, zsh_78, zsh_79, zsh_80, zsh_81, zsh_82, zsh_83, zsh_84, zsh_85, zsh_86, zsh_87, zup_ne, zup_eq, zup_nf, ne_eq, not_false_eq_true]
              have e : zrnS (Sm b) a m.2.1 = Sm b := by unfold zrnS; rw [if_neg (by rw [zb_f (fun r => r2 r.2)]; decide)]
              rw [e, zSu_id]
              exact ⟨by omega, fun _ => ⟨hR4, l4⟩, fun w => absurd trivial w⟩
      | succ r ih =>
        intro c μ2 k1 k2 k3
        have hc : c < m.2.2.length := by omega
        have e72 : μ2 72 i = m.2.2.length := by rw [k3.1 72 (by simp) (by decide)]; exact a5
        have e73 : μ2 73 (18 * i + c) = m.2.2[c] := by rw [k3.1 73 (by simp) (by decide)]; exact a6 c _ (List.getElem?_eq_getElem hc)
        have e9 : m.2.2.take (c + 1) = m.2.2.take c ++ [m.2.2[c]] := by rw [List.take_succ]; simp [hc]
        refine s_X11_deliver_52 hG ?_
        simp only [b_X11_deliver_0, b_X11_deliver_4, b_X11_deliver_12, b_X11_deliver_14, b_X11_deliver_52, b_X11_deliver_63, b_X11_deliver_85, b_X11_deliver_94, b_X11_deliver_105, b_X11_deliver_116, b_X11_deliver_127, b_X11_deliver_129, b_X11_deliver_140, b_X11_deliver_149, b_X11_deliver_158, b_X11_deliver_166, o_c, o_il, o_al, o_is, o_as, o_inc, o_add, o_sub, o_mul, o_and, o_or, o_xor, o_shl, o_shr, o_ush, o_rem, o_dup, o_dup2, o_gf, o_pf, o_pz, o_iald, o_iast, o_zald, o_zast, o_aald, o_gs, o_min, o_acp, o_call, o_callv, zgf, zpf, zia_, zza_, zra_, zrd_, zcp_, zpop, zsm8_0, zsm8_1, zsm8_2, zsm8_3, zsm8_4, zsm8_5, zrc, zisob, t_ieq, t_ilt, t_igt, t_zeq, t_zlt, t_zgt, t_sw, zsw, t_iret, t_zret, t_aret, t_vret, zrg, List.getElem?_cons_zero, List.getElem?_cons_succ, List.set_cons_zero, List.set_cons_succ, List.length_cons, List.length_nil, Option.toList_some, Option.toList_none, List.nil_append, List.cons_append, true_and, and_true, true_or, or_true, Int.cast_ofNat_Int, Int.natCast_zero, Int.natCast_one, zsh_56, zsh_57, zsh_58, zsh_59, zsh_60, zsh_61, zsh_62, zsh_63, zsh_64, zsh_65, zsh_66, zsh_67, zsh_68, zsh_69, zsh_70, zsh_71, zsh_72, zsh_73, zsh_74, zsh_75, zsh_76, zsh_77, zsh_78, zsh_79, zsh_80, zsh_81, zsh_82, zsh_83, zsh_84, zsh_85, zsh_86, zsh_87, zup_ne, zup_eq, zup_nf, ne_eq, not_false_eq_true]
        rw [e72, e73]
        refine ⟨by omega, by omega, by omega, fun _ => ⟨by omega, ?_⟩, fun w => by omega⟩
        refine ⟨_, c_X11_push k2 (by simp; omega) (o4.2.2 _ (List.getElem_mem hc)), ?_⟩
        rintro v μ3 ⟨rfl, g1, g2⟩
        simp only [b_X11_deliver_0, b_X11_deliver_4, b_X11_deliver_12, b_X11_deliver_14, b_X11_deliver_52, b_X11_deliver_63, b_X11_deliver_85, b_X11_deliver_94, b_X11_deliver_105, b_X11_deliver_116, b_X11_deliver_127, b_X11_deliver_129, b_X11_deliver_140, b_X11_deliver_149, b_X11_deliver_158, b_X11_deliver_166, o_c, o_il, o_al, o_is, o_as, o_inc, o_add, o_sub, o_mul, o_and, o_or, o_xor, o_shl, o_shr, o_ush, o_rem, o_dup, o_dup2, o_gf, o_pf, o_pz, o_iald, o_iast, o_zald, o_zast, o_aald, o_gs, o_min, o_acp, o_call, o_callv, zgf, zpf, zia_, zza_, zra_, zrd_, zcp_, zpop, zsm8_0, zsm8_1, zsm8_2, zsm8_3, zsm8_4, zsm8_5, zrc, zisob, t_ieq, t_ilt, t_igt, t_zeq, t_zlt, t_zgt, t_sw, zsw, t_iret, t_zret, t_aret, t_vret, zrg, List.getElem?_cons_zero, List.getElem?_cons_succ, List.set_cons_zero, List.set_cons_succ, List.length_cons, List.length_nil, Option.toList_some, Option.toList_none, List.nil_append, List.cons_append, true_and, and_true, true_or, or_true, Int.cast_ofNat_Int, Int.natCast_zero, Int.natCast_one, zsh_56, zsh_57, zsh_58, zsh_59, zsh_60, zsh_61, zsh_62, zsh_63, zsh_64, zsh_65, zsh_66, zsh_67, zsh_68, zsh_69, zsh_70, zsh_71, zsh_72, zsh_73, zsh_74, zsh_75, zsh_76, zsh_77, zsh_78, zsh_79, zsh_80, zsh_81, zsh_82, zsh_83, zsh_84, zsh_85, zsh_86, zsh_87, zup_ne, zup_eq, zup_nf, ne_eq, not_false_eq_true]
        rw [← e9] at g1
        exact ih (c + 1) μ3 (by omega) g1 (k3.trans g2)
    simp only [b_X11_deliver_0, b_X11_deliver_4, b_X11_deliver_12, b_X11_deliver_14, b_X11_deliver_52, b_X11_deliver_63, b_X11_deliver_85, b_X11_deliver_94, b_X11_deliver_105, b_X11_deliver_116, b_X11_deliver_127, b_X11_deliver_129, b_X11_deliver_140, b_X11_deliver_149, b_X11_deliver_158, b_X11_deliver_166, o_c, o_il, o_al, o_is, o_as, o_inc, o_add, o_sub, o_mul, o_and, o_or, o_xor, o_shl, o_shr, o_ush, o_rem, o_dup, o_dup2, o_gf, o_pf, o_pz, o_iald, o_iast, o_zald, o_zast, o_aald, o_gs, o_min, o_acp, o_call, o_callv, zgf, zpf, zia_, zza_, zra_, zrd_, zcp_, zpop, zsm8_0, zsm8_1, zsm8_2, zsm8_3, zsm8_4, zsm8_5, zrc, zisob, t_ieq, t_ilt, t_igt, t_zeq, t_zlt, t_zgt, t_sw, zsw, t_iret, t_zret, t_aret, t_vret, zrg, List.getElem?_cons_zero, List.getElem?_cons_succ, List.set_cons_zero, List.set_cons_succ, List.length_cons, List.length_nil, Option.toList_some, Option.toList_none, List.nil_append, List.cons_append, true_and, and_true, true_or, or_true, Int.cast_ofNat_Int, Int.natCast_zero, Int.natCast_one, zsh_56, zsh_57, zsh_58, zsh_59, zsh_60, zsh_61, zsh_62, zsh_63, zsh_64, zsh_65, zsh_66, zsh_67, zsh_68, zsh_69, zsh_70, zsh_71, zsh_72, zsh_73, zsh_74, zsh_75, zsh_76, zsh_77, zsh_78, zsh_79, zsh_80, zsh_81, zsh_82, zsh_83, zsh_84, zsh_85, zsh_86, zsh_87, zup_ne, zup_eq, zup_nf, ne_eq, not_false_eq_true]
    rw [hW.1, a1, a2, a3, hb, ha]
    refine ⟨by omega, fun w => by omega, fun _ => ⟨by omega, by omega, fun _ => ⟨by omega, by omega, by omega, by omega, ?_⟩, fun w => by omega⟩⟩
    have f0 : zF [77] [24] μ (zup μ 56 24 0) := (zF.refl _ _ _).v (by simp)
    exact loop m.2.2.length 0 _ (by omega) (zmR.nil zup_eq) f0
set_option maxRecDepth 100000 in
set_option maxHeartbeats 4000000 in
theorem c_X11_harm {d : Nat} {μ : zM} {B : List Int} {T : List zPp} {Ms : List zMg} {Sm : Nat → zStt} {k i x : Int} (hd : 1 ≤ d) (h : zRN μ B T Ms Sm) (hk0 : zrg k) (hi0 : zrg i) (hx0 : zrg x) : zCt d mX11_harm [.inr (some 56), .inl k, .inl i, .inl x] μ (fun v μ' => v = some (.inl (zhmO Ms k i x)) ∧ zRN μ' B T (zhmM Ms k i x) Sm ∧ zlo μ μ') := by
  have hW := h.2.2.1
  have hlen := hW.2.1
  unfold zrg at hk0 hi0 hx0
  rcases zat_cases Ms k with ⟨e1, e2⟩ | ⟨j, m, rfl, hj, e1, e2⟩
  · unfold zhmO zhmM
    rw [e2]
    refine of_X11_harm hd (fun G hG => s_X11_harm_0 hG ?_)
    simp only [b_X11_harm_0, b_X11_harm_4, b_X11_harm_12, b_X11_harm_14, b_X11_harm_18, b_X11_harm_25, b_X11_harm_35, b_X11_harm_39, b_X11_harm_49, b_X11_harm_51, o_c, o_il, o_al, o_is, o_as, o_inc, o_add, o_sub, o_mul, o_and, o_or, o_xor, o_shl, o_shr, o_ush, o_rem, o_dup, o_dup2, o_gf, o_pf, o_pz, o_iald, o_iast, o_zald, o_zast, o_aald, o_gs, o_min, o_acp, o_call, o_callv, zgf, zpf, zia_, zza_, zra_, zrd_, zcp_, zpop, zsm8_0, zsm8_1, zsm8_2, zsm8_3, zsm8_4, zsm8_5, zrc, zisob, t_ieq, t_ilt, t_igt, t_zeq, t_zlt, t_zgt, t_sw, zsw, t_iret, t_zret, t_aret, t_vret, zrg, List.getElem?_cons_zero, List.getElem?_cons_succ, List.set_cons_zero, List.set_cons_succ, List.length_cons, List.length_nil, Option.toList_some, Option.toList_none, List.nil_append, List.cons_append, true_and, and_true, true_or, or_true, Int.cast_ofNat_Int, Int.natCast_zero, Int.natCast_one, zsh_56, zsh_57, zsh_58, zsh_59, zsh_60, zsh_61, zsh_62, zsh_63, zsh_64, zsh_65, zsh_66, zsh_67, zsh_68, zsh_69, zsh_70, zsh_71, zsh_72, zsh_73, zsh_74, zsh_75, zsh_76, zsh_77, zsh_78, zsh_79, zsh_80, zsh_81, zsh_82, zsh_83, zsh_84, zsh_85, zsh_86, zsh_87, zup_ne, zup_eq, zup_nf, ne_eq, not_false_eq_true]
    rw [hW.1]
    exact ⟨by omega, fun _ => ⟨h, zlo.refl _⟩, fun _ => ⟨by omega, by omega, fun w => by omega, fun _ => ⟨h, zlo.refl _⟩⟩⟩
  · unfold zhmO zhmM
    rw [e2]
    obtain ⟨o1, o2, o3, o4, o5, o6⟩ := hW.2.2.1 m (List.mem_of_getElem? e1)
    obtain ⟨a1, a2, a3, a4, a5, a6⟩ := hW.2.2.2 j m e1
    have hb18 : m.2.2.length ≤ 18 := o4.2.1
    refine of_X11_harm hd (fun G hG => s_X11_harm_0 hG ?_)
    simp only [b_X11_harm_0, b_X11_harm_4, b_X11_harm_12, b_X11_harm_14, b_X11_harm_18, b_X11_harm_25, b_X11_harm_35, b_X11_harm_39, b_X11_harm_49, b_X11_harm_51, o_c, o_il, o_al, o_is, o_as, o_inc, o_add, o_sub, o_mul, o_and, o_or, o_xor, o_shl, o_shr, o_ush, o_rem, o_dup, o_dup2, o_gf, o_pf, o_pz, o_iald, o_iast, o_zald, o_zast, o_aald, o_gs, o_min, o_acp, o_call, o_callv, zgf, zpf, zia_, zza_, zra_, zrd_, zcp_, zpop, zsm8_0, zsm8_1, zsm8_2, zsm8_3, zsm8_4, zsm8_5, zrc, zisob, t_ieq, t_ilt, t_igt, t_zeq, t_zlt, t_zgt, t_sw, zsw, t_iret, t_zret, t_aret, t_vret, zrg, List.getElem?_cons_zero, List.getElem?_cons_succ, List.set_cons_zero, List.set_cons_succ, List.length_cons, List.length_nil, Option.toList_some, Option.toList_none, List.nil_append, List.cons_append, true_and, and_true, true_or, or_true, Int.cast_ofNat_Int, Int.natCast_zero, Int.natCast_one, zsh_56, zsh_57, zsh_58, zsh_59, zsh_60, zsh_61, zsh_62, zsh_63, zsh_64, zsh_65, zsh_66, zsh_67, zsh_68, zsh_69, zsh_70, zsh_71, zsh_72, zsh_73, zsh_74, zsh_75, zsh_76, zsh_77, zsh_78, zsh_79, zsh_80, zsh_81, zsh_82, zsh_83, zsh_84, zsh_85, zsh_86, zsh_87, zup_ne, zup_eq, zup_nf, ne_eq, not_false_eq_true]
    rw [hW.1, a1, a5]
    refine ⟨by omega, fun w => by omega, fun _ => ⟨by omega, by omega, fun _ => ⟨by omega, fun w => ?_, fun w => ⟨by omega, by omega, by omega, fun w1 => ⟨by omega, fun w2 => ?_, fun w2 => ⟨by omega, by omega, by omega, fun w3 => ?_, fun w3 => ?_⟩⟩, fun w1 => ?_⟩⟩, fun w => by omega⟩⟩
    · refine ⟨_, c_X11_takeOut hW hj, ?_⟩
      rintro v μ3 ⟨rfl, p1, p2⟩
      simp only [b_X11_harm_0, b_X11_harm_4, b_X11_harm_12, b_X11_harm_14, b_X11_harm_18, b_X11_harm_25, b_X11_harm_35, b_X11_harm_39, b_X11_harm_49, b_X11_harm_51, o_c, o_il, o_al, o_is, o_as, o_inc, o_add, o_sub, o_mul, o_and, o_or, o_xor, o_shl, o_shr, o_ush, o_rem, o_dup, o_dup2, o_gf, o_pf, o_pz, o_iald, o_iast, o_zald, o_zast, o_aald, o_gs, o_min, o_acp, o_call, o_callv, zgf, zpf, zia_, zza_, zra_, zrd_, zcp_, zpop, zsm8_0, zsm8_1, zsm8_2, zsm8_3, zsm8_4, zsm8_5, zrc, zisob, t_ieq, t_ilt, t_igt, t_zeq, t_zlt, t_zgt, t_sw, zsw, t_iret, t_zret, t_aret, t_vret, zrg, List.getElem?_cons_zero, List.getElem?_cons_succ, List.set_cons_zero, List.set_cons_succ, List.length_cons, List.length_nil, Option.toList_some, Option.toList_none, List.nil_append, List.cons_append, true_and, and_true, true_or, or_true, Int.cast_ofNat_Int, Int.natCast_zero, Int.natCast_one, zsh_56, zsh_57, zsh_58, zsh_59, zsh_60, zsh_61, zsh_62, zsh_63, zsh_64, zsh_65, zsh_66, zsh_67, zsh_68, zsh_69, zsh_70, zsh_71, zsh_72, zsh_73, zsh_74, zsh_75, zsh_76, zsh_77, zsh_78, zsh_79, zsh_80, zsh_81, zsh_82, zsh_83, zsh_84, zsh_85, zsh_86, zsh_87, zup_ne, zup_eq, zup_nf, ne_eq, not_false_eq_true]
      simp only [if_pos w, Int.toNat_natCast]
      exact ⟨trivial, h.ms p1 p2 (by simp) (by simp), p2.lo (by simp)⟩
    · rw [if_neg w, if_neg w, if_neg (by omega), if_neg (by omega)]
      exact ⟨rfl, h, zlo.refl _⟩
    · obtain ⟨p, rfl⟩ := Int.eq_ofNat_of_zero_le w2
      have hp : p < m.2.2.length := by omega
      have e73 : μ 73 (18 * j + p) = m.2.2[p] := a6 p _ (List.getElem?_eq_getElem hp)
      rw [if_neg w, if_neg w, if_pos (by omega), if_pos (by omega), e73]
      simp only [Int.toNat_natCast]
      have ez : zdmg m.2.2 p x = m.2.2.set p (zxor m.2.2[p] (zand x 255)) := by simp [zdmg, zxb, hp]
      have hv := o4.2.2 m.2.2[p] (List.getElem_mem hp)
      have f3 : zF [73] [] μ (zup μ 73 (18 * j + p) (zxor m.2.2[p] (zand x 255))) := (zF.refl _ _ _).u (by simp) (by decide)
      refine ⟨by omega, by omega, trivial, h.ms ⟨?_, by simp; omega, fun y hy => ?_, fun q y hy => ?_⟩ f3 (by simp) (by simp), f3.lo (by simp)⟩
      · rw [zup_ne 56 (by decide), hW.1]; simp
      · rcases List.mem_or_eq_of_mem_set hy with q | q
        · exact hW.2.2.1 y q
        · rw [q]
          refine ⟨o1, o2, o3, ⟨zhash_rg _, by rw [ez]; simpa using hb18, fun z hz => ?_⟩, fun q => absurd w1 q, fun _ => rfl⟩
          rw [ez] at hz
          rcases List.mem_or_eq_of_mem_set hz with q2 | q2
          · exact o4.2.2 z q2
          · rw [q2]; exact zxb_rg hv
      · by_cases e : q = j
        · subst e
          rw [List.getElem?_set_self hj] at hy
          injection hy with hy
          subst hy
          unfold zmM
          rw [zup_ne 68 (by decide), zup_ne 69 (by decide), zup_ne 70 (by decide), zup_ne 71 (by decide), zup_ne 72 (by decide)]
          refine ⟨a1, a2, a3, fun q => absurd w1 q, by rw [ez, a5]; simp, fun c z hc => ?_⟩
          simp only [ez] at hc
          by_cases e3 : c = p
          · subst e3
            rw [List.getElem?_set_self hp] at hc
            rw [zup_eq]
            exact Option.some.inj hc
          · rw [List.getElem?_set_ne (fun e4 => e3 e4.symm)] at hc
            rw [zup_nf (by omega)]
            exact a6 c z hc
        · rw [List.getElem?_set_ne (fun e4 => e e4.symm)] at hy
          exact (hW.2.2.2 q y hy).x (k := j) (hW.2.2.1 y (List.mem_of_getElem? hy)).2.2.2.1.2.1 e (fun c c1 c2 z hz => by rw [zup_ne _ (by omega)]) (fun z hz => zup_nf (by omega))
    · rw [if_neg w, if_neg w, if_neg (by omega), if_neg (by omega)]
      exact ⟨rfl, h, zlo.refl _⟩
    · have hz := o5 w1
      rw [if_neg w, if_neg w, hz, if_neg (by simp <;> omega), if_neg (by simp <;> omega)]
      exact ⟨rfl, h, zlo.refl _⟩
set_option maxRecDepth 100000 in
set_option maxHeartbeats 4000000 in
theorem c_X11_message {d : Nat} {μ : zM} {B : List Int} {T : List zPp} {Ms : List zMg} {Sm : Nat → zStt} {k what : Int} (hd : 1 ≤ d) (h : zRN μ B T Ms Sm) (hk : zrg k) (hw : zrg what) : zCt d mX11_message [.inr (some 56), .inl k, .inl what] μ (zR (.inl (zmsgA Ms k what)) μ) := by
  have hW := h.2.2.1
  have hlen := hW.2.1
  unfold zrg at hk hw
  rcases zms_cases Ms k with ⟨hc, e⟩ | ⟨i, m, rfl, hm, hi⟩
  · rw [e]
    refine of_X11_message hd (fun G hG => s_X11_message_0 hG ?_)
    simp only [b_X11_message_0, b_X11_message_4, b_X11_message_12, b_X11_message_16, b_X11_message_21, b_X11_message_23, b_X11_message_27, b_X11_message_34, b_X11_message_39, b_X11_message_44, b_X11_message_53, b_X11_message_59, b_X11_message_60, b_X11_message_70, b_X11_message_77, b_X11_message_83, b_X11_message_94, b_X11_message_117, o_c, o_il, o_al, o_is, o_as, o_inc, o_add, o_sub, o_mul, o_and, o_or, o_xor, o_shl, o_shr, o_ush, o_rem, o_dup, o_dup2, o_gf, o_pf, o_pz, o_iald, o_iast, o_zald, o_zast, o_aald, o_gs, o_min, o_acp, o_call, o_callv, zgf, zpf, zia_, zza_, zra_, zrd_, zcp_, zpop, zsm8_0, zsm8_1, zsm8_2, zsm8_3, zsm8_4, zsm8_5, zrc, zisob, t_ieq, t_ilt, t_igt, t_zeq, t_zlt, t_zgt, t_sw, zsw, t_iret, t_zret, t_aret, t_vret, zrg, List.getElem?_cons_zero, List.getElem?_cons_succ, List.set_cons_zero, List.set_cons_succ, List.length_cons, List.length_nil, Option.toList_some, Option.toList_none, List.nil_append, List.cons_append, true_and, and_true, true_or, or_true, Int.cast_ofNat_Int, Int.natCast_zero, Int.natCast_one, zsh_56, zsh_57, zsh_58, zsh_59, zsh_60, zsh_61, zsh_62, zsh_63, zsh_64, zsh_65, zsh_66, zsh_67, zsh_68, zsh_69, zsh_70, zsh_71, zsh_72, zsh_73, zsh_74, zsh_75, zsh_76, zsh_77, zsh_78, zsh_79, zsh_80, zsh_81, zsh_82, zsh_83, zsh_84, zsh_85, zsh_86, zsh_87, zup_ne, zup_eq, zup_nf, ne_eq, not_false_eq_true]
    rw [hW.1]
    exact ⟨by omega, fun _ => ⟨rfl, rfl⟩, fun _ => ⟨by omega, by omega, fun w => by omega, fun _ => ⟨rfl, rfl⟩⟩⟩
  · have em : zmsgA Ms i what = zmsg m what := by unfold zmsgA; rw [if_pos (by omega), Int.toNat_natCast, hm]
    obtain ⟨o1, o2, o3, o4, o5, o6⟩ := hW.2.2.1 m (List.mem_of_getElem? hm)
    obtain ⟨a1, a2, a3, a4, a5, a6⟩ := hW.2.2.2 i m hm
    have hb18 : m.2.2.length ≤ 18 := o4.2.1
    rw [em]
    unfold zmsg
    refine of_X11_message hd (fun G hG => s_X11_message_0 hG ?_)
    simp only [b_X11_message_0, b_X11_message_4, b_X11_message_12, b_X11_message_16, b_X11_message_21, b_X11_message_23, b_X11_message_27, b_X11_message_34, b_X11_message_39, b_X11_message_44, b_X11_message_53, b_X11_message_59, b_X11_message_60, b_X11_message_70, b_X11_message_77, b_X11_message_83, b_X11_message_94, b_X11_message_117, o_c, o_il, o_al, o_is, o_as, o_inc, o_add, o_sub, o_mul, o_and, o_or, o_xor, o_shl, o_shr, o_ush, o_rem, o_dup, o_dup2, o_gf, o_pf, o_pz, o_iald, o_iast, o_zald, o_zast, o_aald, o_gs, o_min, o_acp, o_call, o_callv, zgf, zpf, zia_, zza_, zra_, zrd_, zcp_, zpop, zsm8_0, zsm8_1, zsm8_2, zsm8_3, zsm8_4, zsm8_5, zrc, zisob, t_ieq, t_ilt, t_igt, t_zeq, t_zlt, t_zgt, t_sw, zsw, t_iret, t_zret, t_aret, t_vret, zrg, List.getElem?_cons_zero, List.getElem?_cons_succ, List.set_cons_zero, List.set_cons_succ, List.length_cons, List.length_nil, Option.toList_some, Option.toList_none, List.nil_append, List.cons_append, true_and, and_true, true_or, or_true, Int.cast_ofNat_Int, Int.natCast_zero, Int.natCast_one, zsh_56, zsh_57, zsh_58, zsh_59, zsh_60, zsh_61, zsh_62, zsh_63, zsh_64, zsh_65, zsh_66, zsh_67, zsh_68, zsh_69, zsh_70, zsh_71, zsh_72, zsh_73, zsh_74, zsh_75, zsh_76, zsh_77, zsh_78, zsh_79, zsh_80, zsh_81, zsh_82, zsh_83, zsh_84, zsh_85, zsh_86, zsh_87, zup_ne, zup_eq, zup_nf, ne_eq, not_false_eq_true]
    rw [hW.1, a1, a2, a3]
    have no : ¬ (0 ≤ what ∧ what ≤ 3) → (if what = 0 then m.1.1 else if what = 1 then m.1.2.1 else if what = 2 then m.1.2.2 else if what = 3 then m.2.1 else -1) = -1 := fun q => by
      rw [if_neg (by omega), if_neg (by omega), if_neg (by omega), if_neg (by omega)]
    refine ⟨by omega, fun w => by omega, fun _ => ⟨by omega, by omega, fun _ => ⟨by omega, fun w => ?_, fun w => ⟨by omega, by omega, fun w2 => ?_, fun w2 => ⟨by omega, fun w3 => ?_, fun w3 => ⟨by omega, by omega, fun w4 => ⟨by omega, by omega, fun w5 => ?_, fun w5 => ?_⟩, fun w4 => ?_⟩⟩⟩⟩, fun w => by omega⟩⟩
    · rw [no (by omega)]; exact ⟨rfl, rfl⟩
    · rw [no (by omega)]; exact ⟨rfl, rfl⟩
    · rw [if_pos w3]; exact ⟨by omega, rfl, rfl⟩
    · rw [if_neg w3, if_pos w5]; exact ⟨by omega, rfl, rfl⟩
    · rw [if_neg w3, if_neg w5, if_pos (by omega)]; exact ⟨by omega, rfl, rfl⟩
    · rw [if_neg w3, if_neg (by omega), if_neg (by omega), if_pos (by omega)]
      refine ⟨by omega, by omega, by omega, fun w5 => ?_, fun w5 => ?_⟩
      · have eh := o6 w5
        have loop : ∀ (r c : Nat) (x : Int), c + r = m.2.2.length → (0 ≤ x ∧ x ≤ 65520) → zhash m.2.2 = zhashf x (m.2.2.drop c) → G 83 [.inr (some 56), .inl (i : Int), .inl what, .inl x, .inl (c : Int)] [] μ := by
          intro r
          induction r with
          | zero =>
            intro c x k1 k2 k3
            rw [List.drop_of_length_le (by omega)] at k3
            refine s_X11_message_83 hG ?_
            simp only [b_X11_message_0, b_X11_message_4, b_X11_message_12, b_X11_message_16, b_X11_message_21, b_X11_message_23, b_X11_message_27, b_X11_message_34, b_X11_message_39, b_X11_message_44, b_X11_message_53, b_X11_message_59, b_X11_message_60, b_X11_message_70, b_X11_message_77, b_X11_message_83, b_X11_message_94, b_X11_message_117, o_c, o_il, o_al, o_is, o_as, o_inc, o_add, o_sub, o_mul, o_and, o_or, o_xor, o_shl, o_shr, o_ush, o_rem, o_dup, o_dup2, o_gf, o_pf, o_pz, o_iald, o_iast, o_zald, o_zast, o_aald, o_gs, o_min, o_acp, o_call, o_callv, zgf, zpf, zia_, zza_, zra_, zrd_, zcp_, zpop, zsm8_0, zsm8_1, zsm8_2, zsm8_3, zsm8_4, zsm8_5, zrc, zisob, t_ieq, t_ilt, t_igt, t_zeq, t_zlt, t_zgt, t_sw, zsw, t_iret, t_zret, t_aret, t_vret, zrg, List.getElem?_cons_zero, List.getElem?_cons_succ, List.set_cons_zero, List.set_cons_succ, List.length_cons, List.length_nil, Option.toList_some, Option.toList_none, List.nil_append, List.cons_append, true_and, and_true, true_or, or_true, Int.cast_ofNat_Int, Int.natCast_zero, Int.natCast_one, zsh_56, zsh_57, zsh_58, zsh_59, zsh_60, zsh_61, zsh_62, zsh_63, zsh_64, zsh_65, zsh_66, zsh_67, zsh_68, zsh_69, zsh_70, zsh_71, zsh_72, zsh_73, zsh_74, zsh_75, zsh_76, zsh_77, zsh_78, zsh_79, zsh_80, zsh_81, zsh_82, zsh_83, zsh_84, zsh_85, zsh_86, zsh_87, zup_ne, zup_eq, zup_nf, ne_eq, not_false_eq_true]
            rw [a5]
            refine ⟨by omega, by omega, by omega, fun w => by omega, fun _ => ?_⟩
            rw [if_neg w3, if_neg (by omega), if_neg (by omega), if_pos (by omega), eh, k3]
            exact ⟨rfl, rfl⟩
          | succ r ih =>
            intro c x k1 k2 k3
            have hc : c < m.2.2.length := by omega
            have e73 := a6 c _ (List.getElem?_eq_getElem hc)
            have hv := o4.2.2 m.2.2[c] (List.getElem_mem hc)
            refine s_X11_message_83 hG ?_
            simp only [b_X11_message_0, b_X11_message_4, b_X11_message_12, b_X11_message_16, b_X11_message_21, b_X11_message_23, b_X11_message_27, b_X11_message_34, b_X11_message_39, b_X11_message_44, b_X11_message_53, b_X11_message_59, b_X11_message_60, b_X11_message_70, b_X11_message_77, b_X11_message_83, b_X11_message_94, b_X11_message_117, o_c, o_il, o_al, o_is, o_as, o_inc, o_add, o_sub, o_mul, o_and, o_or, o_xor, o_shl, o_shr, o_ush, o_rem, o_dup, o_dup2, o_gf, o_pf, o_pz, o_iald, o_iast, o_zald, o_zast, o_aald, o_gs, o_min, o_acp, o_call, o_callv, zgf, zpf, zia_, zza_, zra_, zrd_, zcp_, zpop, zsm8_0, zsm8_1, zsm8_2, zsm8_3, zsm8_4, zsm8_5, zrc, zisob, t_ieq, t_ilt, t_igt, t_zeq, t_zlt, t_zgt, t_sw, zsw, t_iret, t_zret, t_aret, t_vret, zrg, List.getElem?_cons_zero, List.getElem?_cons_succ, List.set_cons_zero, List.set_cons_succ, List.length_cons, List.length_nil, Option.toList_some, Option.toList_none, List.nil_append, List.cons_append, true_and, and_true, true_or, or_true, Int.cast_ofNat_Int, Int.natCast_zero, Int.natCast_one, zsh_56, zsh_57, zsh_58, zsh_59, zsh_60, zsh_61, zsh_62, zsh_63, zsh_64, zsh_65, zsh_66, zsh_67, zsh_68, zsh_69, zsh_70, zsh_71, zsh_72, zsh_73, zsh_74, zsh_75, zsh_76, zsh_77, zsh_78, zsh_79, zsh_80, zsh_81, zsh_82, zsh_83, zsh_84, zsh_85, zsh_86, zsh_87, zup_ne, zup_eq, zup_nf, ne_eq, not_false_eq_true]
            rw [a5, e73]
            refine ⟨by omega, by omega, by omega, fun _ => ⟨by omega, ?_⟩, fun w => by omega⟩
            refine zcall (c_X11_step k2 hv) ?_
            simp only [b_X11_message_0, b_X11_message_4, b_X11_message_12, b_X11_message_16, b_X11_message_21, b_X11_message_23, b_X11_message_27, b_X11_message_34, b_X11_message_39, b_X11_message_44, b_X11_message_53, b_X11_message_59, b_X11_message_60, b_X11_message_70, b_X11_message_77, b_X11_message_83, b_X11_message_94, b_X11_message_117, o_c, o_il, o_al, o_is, o_as, o_inc, o_add, o_sub, o_mul, o_and, o_or, o_xor, o_shl, o_shr, o_ush, o_rem, o_dup, o_dup2, o_gf, o_pf, o_pz, o_iald, o_iast, o_zald, o_zast, o_aald, o_gs, o_min, o_acp, o_call, o_callv, zgf, zpf, zia_, zza_, zra_, zrd_, zcp_, zpop, zsm8_0, zsm8_1, zsm8_2, zsm8_3, zsm8_4, zsm8_5, zrc, zisob, t_ieq, t_ilt, t_igt, t_zeq, t_zlt, t_zgt, t_sw, zsw, t_iret, t_zret, t_aret, t_vret, zrg, List.getElem?_cons_zero, List.getElem?_cons_succ, List.set_cons_zero, List.set_cons_succ, List.length_cons, List.length_nil, Option.toList_some, Option.toList_none, List.nil_append, List.cons_append, true_and, and_true, true_or, or_true, Int.cast_ofNat_Int, Int.natCast_zero, Int.natCast_one, zsh_56, zsh_57, zsh_58, zsh_59, zsh_60, zsh_61, zsh_62, zsh_63, zsh_64, zsh_65, zsh_66, zsh_67, zsh_68, zsh_69, zsh_70, zsh_71, zsh_72, zsh_73, zsh_74, zsh_75, zsh_76, zsh_77, zsh_78, zsh_79, zsh_80, zsh_81, zsh_82, zsh_83, zsh_84, zsh_85, zsh_86, zsh_87, zup_ne, zup_eq, zup_nf, ne_eq, not_false_eq_true]
            exact ih (c + 1) _ (by omega) (by omega) (by rw [k3, zhashf_drop hc])
        exact loop m.2.2.length 0 40503 (by omega) (by omega) rfl
      · rw [a4 w5]; exact ⟨by omega, rfl, rfl⟩
set_option maxRecDepth 100000 in
set_option maxHeartbeats 4000000 in
theorem c_X11_typeN {d : Nat} {μ : zM} {B : List Int} {T : List zPp} {Ms : List zMg} {Sm : Nat → zStt} {b : Int} (h : zRN μ B T Ms Sm) (hb : zrg b) : zCt d mX11_type [.inr (some 56), .inl b] μ (fun v μ' => v = some (.inl (if (0 ≤ b ∧ b ≤ 255) ∧ B.length < 32 then 1 else 0)) ∧ zRN μ' (if (0 ≤ b ∧ b ≤ 255) ∧ B.length < 32 then B ++ [b] else B) T Ms Sm ∧ zlo μ μ') := by
  refine zCt.mono (c_X11_type h.1 hb) (fun v μ' hq => ?_)
  obtain ⟨q1, q2, q3⟩ := hq
  exact ⟨q1, ⟨q2, h.2.1.e (fun c c1 c2 => q3.1 c (by simp; omega) (by omega)) (q3.2 20 (by simp)), h.2.2.1.e (fun c c1 c2 => q3.1 c (by simp; omega) (by omega)) (q3.2 11 (by simp)), fun s hs => (h.2.2.2 s hs).e (fun c c1 c2 c3 => q3.1 c (by simp; omega) (by omega))⟩, q3.lo (by simp)⟩
