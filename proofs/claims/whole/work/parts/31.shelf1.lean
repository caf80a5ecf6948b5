/-! SHELVES: what is read -/
set_option maxRecDepth 100000 in
set_option maxHeartbeats 4000000 in
theorem c_X6_byteAt {d : Nat} {μ : zM} {k : Nat} {n slot i : Int} {L : List zBk} (h : zSH μ k n L) (hs : zrg slot) (hi : zrg i) : zCt d mX6_byteAt [.inr (some k), .inl slot, .inl i] μ (zR (.inl (zp_byte (zoat L slot) i)) μ) := by
  refine of_X6_byteAt (by simp) (fun G hG => ?_)
  refine s_X6_byteAt_0 hG ?_
  obtain ⟨hk, h0, h4, hle, hok, hat⟩ := h
  have hn := hk.n
  simp only [b_X6_byteAt_0, b_X6_byteAt_4, b_X6_byteAt_12, b_X6_byteAt_16, b_X6_byteAt_26, b_X6_byteAt_28, o_c, o_il, o_al, o_is, o_as, o_inc, o_add, o_sub, o_mul, o_and, o_or, o_xor, o_shl, o_shr, o_ush, o_rem, o_dup, o_dup2, o_gf, o_pf, o_pz, o_iald, o_iast, o_zald, o_zast, o_aald, o_gs, o_min, o_acp, o_call, o_callv, zgf, zpf, zia_, zza_, zra_, zrd_, zcp_, zpop, zsm8, zrc, zisob, t_ieq, t_ilt, t_igt, t_zeq, t_zlt, t_zgt, t_sw, zsw, t_iret, t_zret, t_aret, t_vret, zrg, List.getElem?_cons_zero, List.getElem?_cons_succ, List.set_cons_zero, List.set_cons_succ, List.length_cons, List.length_nil, Option.toList_some, Option.toList_none, List.nil_append, List.cons_append, true_and, and_true, Int.cast_ofNat_Int, Int.natCast_zero, Int.natCast_one, hk.ob, hk.c1, hk.c2, hk.c3]
  unfold zrg at hs hi
  repeat' (first | apply And.intro | intro _)
  all_goals sorry
