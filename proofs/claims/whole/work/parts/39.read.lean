/-! PATHS: a byte of a file -/
def zprt (o : Option (List Int)) : Nat → Int → Int → Int × Int
  | 0, part, rest => (part, rest)
  | f + 1, part, rest => if part < zcnt o - 1 ∧ zpsz o part ≤ rest then zprt o f (part + 1) (rest - zpsz o part) else (part, rest)
def zrdp (L : List zBk) : Nat → Option (List Int) → Int → Int
  | 0, _, _ => -2
  | f + 1, o, rest => if zknd o = 0 then zp_byte o (1 + rest) else if zlen (zlk L (zlnk o (zprt o 256 0 rest).1)) = zpsz o (zprt o 256 0 rest).1 then zrdp L f (zlk L (zlnk o (zprt o 256 0 rest).1)) (zprt o 256 0 rest).2 else -2
def zrdf (L : List zBk) (nm p : Int) : Int := if p < 0 ∨ zlen (zlk L nm) ≤ p then -1 else zrdp L 11 (zlk L nm) p
set_option maxRecDepth 100000 in
set_option maxHeartbeats 4000000 in
theorem c_X4_readByte {d : Nat} {μ : zM} {k : Nat} {n nm p : Int} {L : List zBk} (hd : 3 ≤ d) (h : zSH μ k n L) (hV : zV3 L) (hs : zrg nm) (hp : zrg p) : zCt d mX4_readByte [.inr (some k), .inl nm, .inl p] μ (zR (.inl (zrdf L nm p)) μ) := by
  unfold zrg at hp
  have hlr := zlen_rg h (zix L nm)
  refine of_X4_readByte (by omega) (fun G hG => s_X4_readByte_0 hG ?_)
  simp only [b_X4_readByte_0, b_X4_readByte_14, b_X4_readByte_24, b_X4_readByte_26, b_X4_readByte_29, b_X4_readByte_36, b_X4_readByte_44, b_X4_readByte_54, b_X4_readByte_57, b_X4_readByte_69, b_X4_readByte_81, b_X4_readByte_99, b_X4_readByte_130, b_X4_readByte_133, b_X4_readByte_139, o_c, o_il, o_al, o_is, o_as, o_inc, o_add, o_sub, o_mul, o_and, o_or, o_xor, o_shl, o_shr, o_ush, o_rem, o_dup, o_dup2, o_gf, o_pf, o_pz, o_iald, o_iast, o_zald, o_zast, o_aald, o_gs, o_min, o_acp, o_call, o_callv, zgf, zpf, zia_, zza_, zra_, zrd_, zcp_, zpop, zsm8_0, zsm8_1, zsm8_2, zsm8_3, zsm8_4, zsm8_5, zrc, zisob, t_ieq, t_ilt, t_igt, t_zeq, t_zlt, t_zgt, t_sw, zsw, t_iret, t_zret, t_aret, t_vret, zrg, List.getElem?_cons_zero, List.getElem?_cons_succ, List.set_cons_zero, List.set_cons_succ, List.length_cons, List.length_nil, Option.toList_some, Option.toList_none, List.nil_append, List.cons_append, true_and, and_true, true_or, or_true, Int.cast_ofNat_Int, Int.natCast_zero, Int.natCast_one, h.1.ob]
  refine zcall (c_X6_slotOf h hs) ?_
  simp only [b_X4_readByte_0, b_X4_readByte_14, b_X4_readByte_24, b_X4_readByte_26, b_X4_readByte_29, b_X4_readByte_36, b_X4_readByte_44, b_X4_readByte_54, b_X4_readByte_57, b_X4_readByte_69, b_X4_readByte_81, b_X4_readByte_99, b_X4_readByte_130, b_X4_readByte_133, b_X4_readByte_139, o_c, o_il, o_al, o_is, o_as, o_inc, o_add, o_sub, o_mul, o_and, o_or, o_xor, o_shl, o_shr, o_ush, o_rem, o_dup, o_dup2, o_gf, o_pf, o_pz, o_iald, o_iast, o_zald, o_zast, o_aald, o_gs, o_min, o_acp, o_call, o_callv, zgf, zpf, zia_, zza_, zra_, zrd_, zcp_, zpop, zsm8_0, zsm8_1, zsm8_2, zsm8_3, zsm8_4, zsm8_5, zrc, zisob, t_ieq, t_ilt, t_igt, t_zeq, t_zlt, t_zgt, t_sw, zsw, t_iret, t_zret, t_aret, t_vret, zrg, List.getElem?_cons_zero, List.getElem?_cons_succ, List.set_cons_zero, List.set_cons_succ, List.length_cons, List.length_nil, Option.toList_some, Option.toList_none, List.nil_append, List.cons_append, true_and, and_true, true_or, or_true, Int.cast_ofNat_Int, Int.natCast_zero, Int.natCast_one, h.1.ob]
  have hlk : zoat L (zix L nm) = zlk L nm := rfl
  refine ⟨by omega, fun e => ?_, fun e => ?_⟩
  · have hr : zrdf L nm p = -1 := by unfold zrdf; rw [if_pos (Or.inl e)]
    rw [hr]
    exact ⟨rfl, rfl⟩
  · refine zcall (c_X2_lengthAt (by omega) h (h.ix nm).1) ?_
    simp only [b_X4_readByte_0, b_X4_readByte_14, b_X4_readByte_24, b_X4_readByte_26, b_X4_readByte_29, b_X4_readByte_36, b_X4_readByte_44, b_X4_readByte_54, b_X4_readByte_57, b_X4_readByte_69, b_X4_readByte_81, b_X4_readByte_99, b_X4_readByte_130, b_X4_readByte_133, b_X4_readByte_139, o_c, o_il, o_al, o_is, o_as, o_inc, o_add, o_sub, o_mul, o_and, o_or, o_xor, o_shl, o_shr, o_ush, o_rem, o_dup, o_dup2, o_gf, o_pf, o_pz, o_iald, o_iast, o_zald, o_zast, o_aald, o_gs, o_min, o_acp, o_call, o_callv, zgf, zpf, zia_, zza_, zra_, zrd_, zcp_, zpop, zsm8_0, zsm8_1, zsm8_2, zsm8_3, zsm8_4, zsm8_5, zrc, zisob, t_ieq, t_ilt, t_igt, t_zeq, t_zlt, t_zgt, t_sw, zsw, t_iret, t_zret, t_aret, t_vret, zrg, List.getElem?_cons_zero, List.getElem?_cons_succ, List.set_cons_zero, List.set_cons_succ, List.length_cons, List.length_nil, Option.toList_some, Option.toList_none, List.nil_append, List.cons_append, true_and, and_true, true_or, or_true, Int.cast_ofNat_Int, Int.natCast_zero, Int.natCast_one, h.1.ob]
    rw [hlk] at hlr ⊢
    refine ⟨by omega, by omega, fun e2 => ?_, fun e2 => ?_⟩
    · have hr : zrdf L nm p = zrdp L 11 (zlk L nm) p := by unfold zrdf; rw [if_neg (by omega)]
      have loop : ∀ (r f : Nat) (sl rest : Int) (x6 x7 : zV), f + r = 11 → zrg sl → 0 ≤ rest → rest ≤ 20000000 + 70000 * f → zrdf L nm p = zrdp L r (zoat L sl) rest → G 29 [.inr (some k), .inl nm, .inl p, .inl sl, .inl rest, .inl (f : Int), x6, x7] [] μ := by
        intro r
        induction r with
        | zero =>
          intro f sl rest x6 x7 h1 hsl b1 b2 h2
          refine s_X4_readByte_29 hG ?_
          simp only [b_X4_readByte_0, b_X4_readByte_14, b_X4_readByte_24, b_X4_readByte_26, b_X4_readByte_29, b_X4_readByte_36, b_X4_readByte_44, b_X4_readByte_54, b_X4_readByte_57, b_X4_readByte_69, b_X4_readByte_81, b_X4_readByte_99, b_X4_readByte_130, b_X4_readByte_133, b_X4_readByte_139, o_c, o_il, o_al, o_is, o_as, o_inc, o_add, o_sub, o_mul, o_and, o_or, o_xor, o_shl, o_shr, o_ush, o_rem, o_dup, o_dup2, o_gf, o_pf, o_pz, o_iald, o_iast, o_zald, o_zast, o_aald, o_gs, o_min, o_acp, o_call, o_callv, zgf, zpf, zia_, zza_, zra_, zrd_, zcp_, zpop, zsm8_0, zsm8_1, zsm8_2, zsm8_3, zsm8_4, zsm8_5, zrc, zisob, t_ieq, t_ilt, t_igt, t_zeq, t_zlt, t_zgt, t_sw, zsw, t_iret, t_zret, t_aret, t_vret, zrg, List.getElem?_cons_zero, List.getElem?_cons_succ, List.set_cons_zero, List.set_cons_succ, List.length_cons, List.length_nil, Option.toList_some, Option.toList_none, List.nil_append, List.cons_append, true_and, and_true, true_or, or_true, Int.cast_ofNat_Int, Int.natCast_zero, Int.natCast_one, h.1.ob]
          refine ⟨by omega, by omega, fun _ => ?_, fun _ => by omega⟩
          rw [h2]
          exact ⟨rfl, rfl⟩
        | succ r ih =>
          intro f sl rest x6 x7 h1 hsl b1 b2 h2
          refine s_X4_readByte_29 hG ?_
          have hb := h.byt sl 0
          have hcr := zcnt_rg h sl
          simp only [zrdp] at h2
          simp only [b_X4_readByte_0, b_X4_readByte_14, b_X4_readByte_24, b_X4_readByte_26, b_X4_readByte_29, b_X4_readByte_36, b_X4_readByte_44, b_X4_readByte_54, b_X4_readByte_57, b_X4_readByte_69, b_X4_readByte_81, b_X4_readByte_99, b_X4_readByte_130, b_X4_readByte_133, b_X4_readByte_139, o_c, o_il, o_al, o_is, o_as, o_inc, o_add, o_sub, o_mul, o_and, o_or, o_xor, o_shl, o_shr, o_ush, o_rem, o_dup, o_dup2, o_gf, o_pf, o_pz, o_iald, o_iast, o_zald, o_zast, o_aald, o_gs, o_min, o_acp, o_call, o_callv, zgf, zpf, zia_, zza_, zra_, zrd_, zcp_, zpop, zsm8_0, zsm8_1, zsm8_2, zsm8_3, zsm8_4, zsm8_5, zrc, zisob, t_ieq, t_ilt, t_igt, t_zeq, t_zlt, t_zgt, t_sw, zsw, t_iret, t_zret, t_aret, t_vret, zrg, List.getElem?_cons_zero, List.getElem?_cons_succ, List.set_cons_zero, List.set_cons_succ, List.length_cons, List.length_nil, Option.toList_some, Option.toList_none, List.nil_append, List.cons_append, true_and, and_true, true_or, or_true, Int.cast_ofNat_Int, Int.natCast_zero, Int.natCast_one, h.1.ob]
          refine ⟨by omega, by omega, fun _ => by omega, fun _ => ?_⟩
          refine zcall (c_X6_kindAt h hsl) ?_
          simp only [b_X4_readByte_0, b_X4_readByte_14, b_X4_readByte_24, b_X4_readByte_26, b_X4_readByte_29, b_X4_readByte_36, b_X4_readByte_44, b_X4_readByte_54, b_X4_readByte_57, b_X4_readByte_69, b_X4_readByte_81, b_X4_readByte_99, b_X4_readByte_130, b_X4_readByte_133, b_X4_readByte_139, o_c, o_il, o_al, o_is, o_as, o_inc, o_add, o_sub, o_mul, o_and, o_or, o_xor, o_shl, o_shr, o_ush, o_rem, o_dup, o_dup2, o_gf, o_pf, o_pz, o_iald, o_iast, o_zald, o_zast, o_aald, o_gs, o_min, o_acp, o_call, o_callv, zgf, zpf, zia_, zza_, zra_, zrd_, zcp_, zpop, zsm8_0, zsm8_1, zsm8_2, zsm8_3, zsm8_4, zsm8_5, zrc, zisob, t_ieq, t_ilt, t_igt, t_zeq, t_zlt, t_zgt, t_sw, zsw, t_iret, t_zret, t_aret, t_vret, zrg, List.getElem?_cons_zero, List.getElem?_cons_succ, List.set_cons_zero, List.set_cons_succ, List.length_cons, List.length_nil, Option.toList_some, Option.toList_none, List.nil_append, List.cons_append, true_and, and_true, true_or, or_true, Int.cast_ofNat_Int, Int.natCast_zero, Int.natCast_one, h.1.ob]
          refine ⟨by omega, fun e3 => ?_, fun e3 => ?_⟩
          · unfold zknd at h2
            rw [if_pos e3] at h2
            refine zcall (c_X6_byteAt h hsl ⟨by omega, by omega⟩) ?_
            simp only [b_X4_readByte_0, b_X4_readByte_14, b_X4_readByte_24, b_X4_readByte_26, b_X4_readByte_29, b_X4_readByte_36, b_X4_readByte_44, b_X4_readByte_54, b_X4_readByte_57, b_X4_readByte_69, b_X4_readByte_81, b_X4_readByte_99, b_X4_readByte_130, b_X4_readByte_133, b_X4_readByte_139, o_c, o_il, o_al, o_is, o_as, o_inc, o_add, o_sub, o_mul, o_and, o_or, o_xor, o_shl, o_shr, o_ush, o_rem, o_dup, o_dup2, o_gf, o_pf, o_pz, o_iald, o_iast, o_zald, o_zast, o_aald, o_gs, o_min, o_acp, o_call, o_callv, zgf, zpf, zia_, zza_, zra_, zrd_, zcp_, zpop, zsm8_0, zsm8_1, zsm8_2, zsm8_3, zsm8_4, zsm8_5, zrc, zisob, t_ieq, t_ilt, t_igt, t_zeq, t_zlt, t_zgt, t_sw, zsw, t_iret, t_zret, t_aret, t_vret, zrg, List.getElem?_cons_zero, List.getElem?_cons_succ, List.set_cons_zero, List.set_cons_succ, List.length_cons, List.length_nil, Option.toList_some, Option.toList_none, List.nil_append, List.cons_append, true_and, and_true, true_or, or_true, Int.cast_ofNat_Int, Int.natCast_zero, Int.natCast_one, h.1.ob]
            rw [h2]
            exact ⟨rfl, rfl⟩
          · unfold zknd at h2
            rw [if_neg e3] at h2
            obtain ⟨F, hF⟩ : ∃ F, F = zprt (zoat L sl) 256 0 rest := ⟨_, rfl⟩
            rw [← hF] at h2
            have join : ∀ (part : Nat) (rest' : Int), part ≤ 255 → 0 ≤ rest' → rest' ≤ 20000000 + 70000 * (f + 1) → F = ((part : Int), rest') → G 99 [.inr (some k), .inl nm, .inl p, .inl sl, .inl rest', .inl (f : Int), .inl (part : Int), x7] [] μ := by
              intro part rest' c1 c2 c3 c4
              rw [c4] at h2
              simp only at h2
              refine s_X4_readByte_99 hG ?_
              have hps := h.pair sl (2 + (part : Int) * 4)
              simp only [b_X4_readByte_0, b_X4_readByte_14, b_X4_readByte_24, b_X4_readByte_26, b_X4_readByte_29, b_X4_readByte_36, b_X4_readByte_44, b_X4_readByte_54, b_X4_readByte_57, b_X4_readByte_69, b_X4_readByte_81, b_X4_readByte_99, b_X4_readByte_130, b_X4_readByte_133, b_X4_readByte_139, o_c, o_il, o_al, o_is, o_as, o_inc, o_add, o_sub, o_mul, o_and, o_or, o_xor, o_shl, o_shr, o_ush, o_rem, o_dup, o_dup2, o_gf, o_pf, o_pz, o_iald, o_iast, o_zald, o_zast, o_aald, o_gs, o_min, o_acp, o_call, o_callv, zgf, zpf, zia_, zza_, zra_, zrd_, zcp_, zpop, zsm8_0, zsm8_1, zsm8_2, zsm8_3, zsm8_4, zsm8_5, zrc, zisob, t_ieq, t_ilt, t_igt, t_zeq, t_zlt, t_zgt, t_sw, zsw, t_iret, t_zret, t_aret, t_vret, zrg, List.getElem?_cons_zero, List.getElem?_cons_succ, List.set_cons_zero, List.set_cons_succ, List.length_cons, List.length_nil, Option.toList_some, Option.toList_none, List.nil_append, List.cons_append, true_and, and_true, true_or, or_true, Int.cast_ofNat_Int, Int.natCast_zero, Int.natCast_one, h.1.ob]
              refine zcall (c_X2_partSize (by omega) h hsl (by omega)) ?_
              simp only [b_X4_readByte_0, b_X4_readByte_14, b_X4_readByte_24, b_X4_readByte_26, b_X4_readByte_29, b_X4_readByte_36, b_X4_readByte_44, b_X4_readByte_54, b_X4_readByte_57, b_X4_readByte_69, b_X4_readByte_81, b_X4_readByte_99, b_X4_readByte_130, b_X4_readByte_133, b_X4_readByte_139, o_c, o_il, o_al, o_is, o_as, o_inc, o_add, o_sub, o_mul, o_and, o_or, o_xor, o_shl, o_shr, o_ush, o_rem, o_dup, o_dup2, o_gf, o_pf, o_pz, o_iald, o_iast, o_zald, o_zast, o_aald, o_gs, o_min, o_acp, o_call, o_callv, zgf, zpf, zia_, zza_, zra_, zrd_, zcp_, zpop, zsm8_0, zsm8_1, zsm8_2, zsm8_3, zsm8_4, zsm8_5, zrc, zisob, t_ieq, t_ilt, t_igt, t_zeq, t_zlt, t_zgt, t_sw, zsw, t_iret, t_zret, t_aret, t_vret, zrg, List.getElem?_cons_zero, List.getElem?_cons_succ, List.set_cons_zero, List.set_cons_succ, List.length_cons, List.length_nil, Option.toList_some, Option.toList_none, List.nil_append, List.cons_append, true_and, and_true, true_or, or_true, Int.cast_ofNat_Int, Int.natCast_zero, Int.natCast_one, h.1.ob]
              refine zcall (c_X2_linkAt (by omega) h hsl (by omega)) ?_
              simp only [b_X4_readByte_0, b_X4_readByte_14, b_X4_readByte_24, b_X4_readByte_26, b_X4_readByte_29, b_X4_readByte_36, b_X4_readByte_44, b_X4_readByte_54, b_X4_readByte_57, b_X4_readByte_69, b_X4_readByte_81, b_X4_readByte_99, b_X4_readByte_130, b_X4_readByte_133, b_X4_readByte_139, o_c, o_il, o_al, o_is, o_as, o_inc, o_add, o_sub, o_mul, o_and, o_or, o_xor, o_shl, o_shr, o_ush, o_rem, o_dup, o_dup2, o_gf, o_pf, o_pz, o_iald, o_iast, o_zald, o_zast, o_aald, o_gs, o_min, o_acp, o_call, o_callv, zgf, zpf, zia_, zza_, zra_, zrd_, zcp_, zpop, zsm8_0, zsm8_1, zsm8_2, zsm8_3, zsm8_4, zsm8_5, zrc, zisob, t_ieq, t_ilt, t_igt, t_zeq, t_zlt, t_zgt, t_sw, zsw, t_iret, t_zret, t_aret, t_vret, zrg, List.getElem?_cons_zero, List.getElem?_cons_succ, List.set_cons_zero, List.set_cons_succ, List.length_cons, List.length_nil, Option.toList_some, Option.toList_none, List.nil_append, List.cons_append, true_and, and_true, true_or, or_true, Int.cast_ofNat_Int, Int.natCast_zero, Int.natCast_one, h.1.ob]
              refine zcall (c_X6_slotOf h (h.lnk sl _)) ?_
              simp only [b_X4_readByte_0, b_X4_readByte_14, b_X4_readByte_24, b_X4_readByte_26, b_X4_readByte_29, b_X4_readByte_36, b_X4_readByte_44, b_X4_readByte_54, b_X4_readByte_57, b_X4_readByte_69, b_X4_readByte_81, b_X4_readByte_99, b_X4_readByte_130, b_X4_readByte_133, b_X4_readByte_139, o_c, o_il, o_al, o_is, o_as, o_inc, o_add, o_sub, o_mul, o_and, o_or, o_xor, o_shl, o_shr, o_ush, o_rem, o_dup, o_dup2, o_gf, o_pf, o_pz, o_iald, o_iast, o_zald, o_zast, o_aald, o_gs, o_min, o_acp, o_call, o_callv, zgf, zpf, zia_, zza_, zra_, zrd_, zcp_, zpop, zsm8_0, zsm8_1, zsm8_2, zsm8_3, zsm8_4, zsm8_5, zrc, zisob, t_ieq, t_ilt, t_igt, t_zeq, t_zlt, t_zgt, t_sw, zsw, t_iret, t_zret, t_aret, t_vret, zrg, List.getElem?_cons_zero, List.getElem?_cons_succ, List.set_cons_zero, List.set_cons_succ, List.length_cons, List.length_nil, Option.toList_some, Option.toList_none, List.nil_append, List.cons_append, true_and, and_true, true_or, or_true, Int.cast_ofNat_Int, Int.natCast_zero, Int.natCast_one, h.1.ob]
              refine zcall (c_X2_lengthAt (by omega) h (h.ix _).1) ?_
              simp only [b_X4_readByte_0, b_X4_readByte_14, b_X4_readByte_24, b_X4_readByte_26, b_X4_readByte_29, b_X4_readByte_36, b_X4_readByte_44, b_X4_readByte_54, b_X4_readByte_57, b_X4_readByte_69, b_X4_readByte_81, b_X4_readByte_99, b_X4_readByte_130, b_X4_readByte_133, b_X4_readByte_139, o_c, o_il, o_al, o_is, o_as, o_inc, o_add, o_sub, o_mul, o_and, o_or, o_xor, o_shl, o_shr, o_ush, o_rem, o_dup, o_dup2, o_gf, o_pf, o_pz, o_iald, o_iast, o_zald, o_zast, o_aald, o_gs, o_min, o_acp, o_call, o_callv, zgf, zpf, zia_, zza_, zra_, zrd_, zcp_, zpop, zsm8_0, zsm8_1, zsm8_2, zsm8_3, zsm8_4, zsm8_5, zrc, zisob, t_ieq, t_ilt, t_igt, t_zeq, t_zlt, t_zgt, t_sw, zsw, t_iret, t_zret, t_aret, t_vret, zrg, List.getElem?_cons_zero, List.getElem?_cons_succ, List.set_cons_zero, List.set_cons_succ, List.length_cons, List.length_nil, Option.toList_some, Option.toList_none, List.nil_append, List.cons_append, true_and, and_true, true_or, or_true, Int.cast_ofNat_Int, Int.natCast_zero, Int.natCast_one, h.1.ob]
              have hl2 := zlen_rg h (zix L (zlnk (zoat L sl) part))
              refine ⟨by omega, by unfold zpsz; omega, fun e4 => ?_, fun e4 => ?_⟩
              · rw [if_pos (show zlen (zlk L (zlnk (zoat L sl) part)) = zpsz (zoat L sl) part from e4)] at h2
                exact ih (f + 1) _ _ _ _ (by omega) (h.ix _).1 c2 (by omega) h2
              · rw [if_neg (show ¬ zlen (zlk L (zlnk (zoat L sl) part)) = zpsz (zoat L sl) part from e4)] at h2
                rw [h2]
                exact ⟨rfl, rfl⟩
            have inner : ∀ (r2 part : Nat) (rest' : Int), part + r2 = 256 → 0 ≤ rest' → rest' ≤ 20000000 + 70000 * f + 257 * part → (part = 0 ∨ (part : Int) ≤ zcnt (zoat L sl)) → F = zprt (zoat L sl) r2 part rest' → G 57 [.inr (some k), .inl nm, .inl p, .inl sl, .inl rest', .inl (f : Int), .inl (part : Int), x7] [] μ := by
              intro r2
              induction r2 with
              | zero =>
                intro part rest' c1 c2 c3 c5 c4
                omega
              | succ r2 ih2 =>
                intro part rest' c1 c2 c3 c5 c4
                simp only [zprt] at c4
                refine s_X4_readByte_57 hG ?_
                have hps := h.pair sl (2 + (part : Int) * 4)
                simp only [b_X4_readByte_0, b_X4_readByte_14, b_X4_readByte_24, b_X4_readByte_26, b_X4_readByte_29, b_X4_readByte_36, b_X4_readByte_44, b_X4_readByte_54, b_X4_readByte_57, b_X4_readByte_69, b_X4_readByte_81, b_X4_readByte_99, b_X4_readByte_130, b_X4_readByte_133, b_X4_readByte_139, o_c, o_il, o_al, o_is, o_as, o_inc, o_add, o_sub, o_mul, o_and, o_or, o_xor, o_shl, o_shr, o_ush, o_rem, o_dup, o_dup2, o_gf, o_pf, o_pz, o_iald, o_iast, o_zald, o_zast, o_aald, o_gs, o_min, o_acp, o_call, o_callv, zgf, zpf, zia_, zza_, zra_, zrd_, zcp_, zpop, zsm8_0, zsm8_1, zsm8_2, zsm8_3, zsm8_4, zsm8_5, zrc, zisob, t_ieq, t_ilt, t_igt, t_zeq, t_zlt, t_zgt, t_sw, zsw, t_iret, t_zret, t_aret, t_vret, zrg, List.getElem?_cons_zero, List.getElem?_cons_succ, List.set_cons_zero, List.set_cons_succ, List.length_cons, List.length_nil, Option.toList_some, Option.toList_none, List.nil_append, List.cons_append, true_and, and_true, true_or, or_true, Int.cast_ofNat_Int, Int.natCast_zero, Int.natCast_one, h.1.ob]
                refine zcall (c_X2_partCount (by omega) h hsl (hV.at sl)) ?_
                simp only [b_X4_readByte_0, b_X4_readByte_14, b_X4_readByte_24, b_X4_readByte_26, b_X4_readByte_29, b_X4_readByte_36, b_X4_readByte_44, b_X4_readByte_54, b_X4_readByte_57, b_X4_readByte_69, b_X4_readByte_81, b_X4_readByte_99, b_X4_readByte_130, b_X4_readByte_133, b_X4_readByte_139, o_c, o_il, o_al, o_is, o_as, o_inc, o_add, o_sub, o_mul, o_and, o_or, o_xor, o_shl, o_shr, o_ush, o_rem, o_dup, o_dup2, o_gf, o_pf, o_pz, o_iald, o_iast, o_zald, o_zast, o_aald, o_gs, o_min, o_acp, o_call, o_callv, zgf, zpf, zia_, zza_, zra_, zrd_, zcp_, zpop, zsm8_0, zsm8_1, zsm8_2, zsm8_3, zsm8_4, zsm8_5, zrc, zisob, t_ieq, t_ilt, t_igt, t_zeq, t_zlt, t_zgt, t_sw, zsw, t_iret, t_zret, t_aret, t_vret, zrg, List.getElem?_cons_zero, List.getElem?_cons_succ, List.set_cons_zero, List.set_cons_succ, List.length_cons, List.length_nil, Option.toList_some, Option.toList_none, List.nil_append, List.cons_append, true_and, and_true, true_or, or_true, Int.cast_ofNat_Int, Int.natCast_zero, Int.natCast_one, h.1.ob]
                refine ⟨by omega, by omega, fun e4 => ?_, fun e4 => ?_⟩
                · refine zcall (c_X2_partSize (by omega) h hsl (by omega)) ?_
                  simp only [b_X4_readByte_0, b_X4_readByte_14, b_X4_readByte_24, b_X4_readByte_26, b_X4_readByte_29, b_X4_readByte_36, b_X4_readByte_44, b_X4_readByte_54, b_X4_readByte_57, b_X4_readByte_69, b_X4_readByte_81, b_X4_readByte_99, b_X4_readByte_130, b_X4_readByte_133, b_X4_readByte_139, o_c, o_il, o_al, o_is, o_as, o_inc, o_add, o_sub, o_mul, o_and, o_or, o_xor, o_shl, o_shr, o_ush, o_rem, o_dup, o_dup2, o_gf, o_pf, o_pz, o_iald, o_iast, o_zald, o_zast, o_aald, o_gs, o_min, o_acp, o_call, o_callv, zgf, zpf, zia_, zza_, zra_, zrd_, zcp_, zpop, zsm8_0, zsm8_1, zsm8_2, zsm8_3, zsm8_4, zsm8_5, zrc, zisob, t_ieq, t_ilt, t_igt, t_zeq, t_zlt, t_zgt, t_sw, zsw, t_iret, t_zret, t_aret, t_vret, zrg, List.getElem?_cons_zero, List.getElem?_cons_succ, List.set_cons_zero, List.set_cons_succ, List.length_cons, List.length_nil, Option.toList_some, Option.toList_none, List.nil_append, List.cons_append, true_and, and_true, true_or, or_true, Int.cast_ofNat_Int, Int.natCast_zero, Int.natCast_one, h.1.ob]
                  refine ⟨by omega, by unfold zpsz; omega, fun e5 => ?_, fun e5 => ?_⟩
                  · rw [if_neg (by omega)] at c4
                    exact join part rest' (by omega) c2 (by omega) c4
                  · rw [if_pos ⟨e4, e5⟩] at c4
                    refine zcall (c_X2_partSize (by omega) h hsl (by omega)) ?_
                    simp only [b_X4_readByte_0, b_X4_readByte_14, b_X4_readByte_24, b_X4_readByte_26, b_X4_readByte_29, b_X4_readByte_36, b_X4_readByte_44, b_X4_readByte_54, b_X4_readByte_57, b_X4_readByte_69, b_X4_readByte_81, b_X4_readByte_99, b_X4_readByte_130, b_X4_readByte_133, b_X4_readByte_139, o_c, o_il, o_al, o_is, o_as, o_inc, o_add, o_sub, o_mul, o_and, o_or, o_xor, o_shl, o_shr, o_ush, o_rem, o_dup, o_dup2, o_gf, o_pf, o_pz, o_iald, o_iast, o_zald, o_zast, o_aald, o_gs, o_min, o_acp, o_call, o_callv, zgf, zpf, zia_, zza_, zra_, zrd_, zcp_, zpop, zsm8_0, zsm8_1, zsm8_2, zsm8_3, zsm8_4, zsm8_5, zrc, zisob, t_ieq, t_ilt, t_igt, t_zeq, t_zlt, t_zgt, t_sw, zsw, t_iret, t_zret, t_aret, t_vret, zrg, List.getElem?_cons_zero, List.getElem?_cons_succ, List.set_cons_zero, List.set_cons_succ, List.length_cons, List.length_nil, Option.toList_some, Option.toList_none, List.nil_append, List.cons_append, true_and, and_true, true_or, or_true, Int.cast_ofNat_Int, Int.natCast_zero, Int.natCast_one, h.1.ob]
                    exact ih2 (part + 1) _ (by omega) (by omega) (by unfold zpsz at e5 ⊢; omega) (by omega) c4
                · rw [if_neg (by omega)] at c4
                  exact join part rest' (by omega) c2 (by omega) c4
            exact inner 256 0 rest (by omega) b1 (by omega) (Or.inl rfl) hF
      exact loop 11 0 _ p _ _ (by omega) (h.ix nm).1 (by omega) (by omega) hr
    · have hr : zrdf L nm p = -1 := by unfold zrdf; rw [if_pos (Or.inr e2)]
      rw [hr]
      exact ⟨rfl, rfl⟩
