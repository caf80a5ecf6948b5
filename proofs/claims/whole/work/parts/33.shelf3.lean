/-! SHELVES: pairs, copies, changes, removals -/
theorem zp_byte_rg {o : Option (List Int)} (h : ∀ bs, o = some bs → ∀ x ∈ bs, 0 ≤ x ∧ x ≤ 255) (i : Int) : -1 ≤ zp_byte o i ∧ zp_byte o i ≤ 255 := by
  unfold zp_byte
  cases o with
  | none => simp
  | some bs =>
    simp only
    split
    · by_cases hj : i.toNat < bs.length
      · have := h bs rfl bs[i.toNat] (List.getElem_mem hj)
        simp [hj]
        omega
      · simp [List.getElem?_eq_none (Nat.le_of_not_lt hj)]
    · simp
theorem zSH.oat {μ : zM} {k : Nat} {n : Int} {L : List zBk} (h : zSH μ k n L) (s : Int) : ∀ bs, zoat L s = some bs → bs.length ≤ 18 ∧ ∀ x ∈ bs, 0 ≤ x ∧ x ≤ 255 := by
  intro bs hb
  rcases zoat_cases L s with ⟨_, ho⟩ | ⟨i, b, rfl, hlt, hb2, ho⟩
  · rw [ho] at hb; cases hb
  · rw [ho] at hb; cases hb
    exact (h.2.2.2.2.1 b (List.mem_of_getElem? hb2)).2
set_option maxRecDepth 100000 in
set_option maxHeartbeats 4000000 in
theorem c_X6_pairAt {d : Nat} {μ : zM} {k : Nat} {n slot i : Int} {L : List zBk} (h : zSH μ k n L) (hs : zrg slot) (hi : zrg i) : zCt d mX6_pairAt [.inr (some k), .inl slot, .inl i] μ (zR (.inl (zp_pair (zoat L slot) i)) μ) := by
  obtain ⟨hk, h0, h4, hle, hok, hat⟩ := h
  have hn := hk.n
  unfold zrg at hs hi
  rcases zoat_cases L slot with ⟨hb, ho⟩ | ⟨s, b, rfl, hlt, hb, ho⟩
  · have e : zp_pair (zoat L slot) i = -1 := by
      rw [ho]; unfold zp_pair; rw [if_neg (by simp [zp_size]; omega)]
    rw [e]
    refine of_X6_pairAt (fun G hG => s_X6_pairAt_0 hG ?_)
    simp only [b_X6_pairAt_0, b_X6_pairAt_4, b_X6_pairAt_12, b_X6_pairAt_16, b_X6_pairAt_28, b_X6_pairAt_30, o_c, o_il, o_al, o_is, o_as, o_inc, o_add, o_sub, o_mul, o_and, o_or, o_xor, o_shl, o_shr, o_ush, o_rem, o_dup, o_dup2, o_gf, o_pf, o_pz, o_iald, o_iast, o_zald, o_zast, o_aald, o_gs, o_min, o_acp, o_call, o_callv, zgf, zpf, zia_, zza_, zra_, zrd_, zcp_, zpop, zsm8_0, zsm8_1, zsm8_2, zsm8_3, zsm8_4, zsm8_5, zrc, zisob, t_ieq, t_ilt, t_igt, t_zeq, t_zlt, t_zgt, t_sw, zsw, t_iret, t_zret, t_aret, t_vret, zrg, List.getElem?_cons_zero, List.getElem?_cons_succ, List.set_cons_zero, List.set_cons_succ, List.length_cons, List.length_nil, Option.toList_some, Option.toList_none, List.nil_append, List.cons_append, true_and, and_true, true_or, or_true, Int.cast_ofNat_Int, Int.natCast_zero, Int.natCast_one, hk.ob, hk.c1, hk.c2, hk.c3]
    repeat' (first | with_reducible apply And.intro | intro _)
    all_goals first | omega | rfl | trivial | decide | (exfalso; omega)
  · rw [ho]
    obtain ⟨a1, a2, a3⟩ := hat s b hb
    have hbl := (hok b (List.mem_of_getElem? hb)).2.1
    by_cases hin : 0 ≤ i ∧ i < b.2.length - 1
    · obtain ⟨j, rfl⟩ := Int.eq_ofNat_of_zero_le hin.1
      have hj : j < b.2.length := by omega
      have hj1 : j + 1 < b.2.length := by omega
      have a4 := a3 j b.2[j] (List.getElem?_eq_getElem hj)
      have a5 := a3 (j + 1) b.2[j + 1] (List.getElem?_eq_getElem hj1)
      have a6 : μ (k + 1) (s * 18 + j + 1) = b.2[j + 1] := by rw [← a5]; congr 1
      have e : zp_pair (some b.2) (j : Int) = b.2[j] + 256 * b.2[j + 1] := by
        have e2 : ((j : Int) + 1).toNat = j + 1 := by omega
        have e3 : (0 : Int) ≤ j + 1 := by omega
        unfold zp_pair
        rw [if_pos (by simp [zp_size]; omega)]
        simp [zp_byte, hj, hj1, e2, e3]
      rw [e]
      refine of_X6_pairAt (fun G hG => s_X6_pairAt_0 hG ?_)
      simp only [b_X6_pairAt_0, b_X6_pairAt_4, b_X6_pairAt_12, b_X6_pairAt_16, b_X6_pairAt_28, b_X6_pairAt_30, o_c, o_il, o_al, o_is, o_as, o_inc, o_add, o_sub, o_mul, o_and, o_or, o_xor, o_shl, o_shr, o_ush, o_rem, o_dup, o_dup2, o_gf, o_pf, o_pz, o_iald, o_iast, o_zald, o_zast, o_aald, o_gs, o_min, o_acp, o_call, o_callv, zgf, zpf, zia_, zza_, zra_, zrd_, zcp_, zpop, zsm8_0, zsm8_1, zsm8_2, zsm8_3, zsm8_4, zsm8_5, zrc, zisob, t_ieq, t_ilt, t_igt, t_zeq, t_zlt, t_zgt, t_sw, zsw, t_iret, t_zret, t_aret, t_vret, zrg, List.getElem?_cons_zero, List.getElem?_cons_succ, List.set_cons_zero, List.set_cons_succ, List.length_cons, List.length_nil, Option.toList_some, Option.toList_none, List.nil_append, List.cons_append, true_and, and_true, true_or, or_true, Int.cast_ofNat_Int, Int.natCast_zero, Int.natCast_one, hk.ob, hk.c1, hk.c2, hk.c3]
      repeat' (first | with_reducible apply And.intro | intro _)
      all_goals first | omega | rfl | (exfalso; omega) | (rw [a4, a6])
    · have e : zp_pair (some b.2) i = -1 := by
        unfold zp_pair
        rw [if_neg (by simp [zp_size]; omega)]
      rw [e]
      refine of_X6_pairAt (fun G hG => s_X6_pairAt_0 hG ?_)
      simp only [b_X6_pairAt_0, b_X6_pairAt_4, b_X6_pairAt_12, b_X6_pairAt_16, b_X6_pairAt_28, b_X6_pairAt_30, o_c, o_il, o_al, o_is, o_as, o_inc, o_add, o_sub, o_mul, o_and, o_or, o_xor, o_shl, o_shr, o_ush, o_rem, o_dup, o_dup2, o_gf, o_pf, o_pz, o_iald, o_iast, o_zald, o_zast, o_aald, o_gs, o_min, o_acp, o_call, o_callv, zgf, zpf, zia_, zza_, zra_, zrd_, zcp_, zpop, zsm8_0, zsm8_1, zsm8_2, zsm8_3, zsm8_4, zsm8_5, zrc, zisob, t_ieq, t_ilt, t_igt, t_zeq, t_zlt, t_zgt, t_sw, zsw, t_iret, t_zret, t_aret, t_vret, zrg, List.getElem?_cons_zero, List.getElem?_cons_succ, List.set_cons_zero, List.set_cons_succ, List.length_cons, List.length_nil, Option.toList_some, Option.toList_none, List.nil_append, List.cons_append, true_and, and_true, true_or, or_true, Int.cast_ofNat_Int, Int.natCast_zero, Int.natCast_one, hk.ob, hk.c1, hk.c2, hk.c3]
      repeat' (first | with_reducible apply And.intro | intro _)
      all_goals first | omega | rfl | trivial | decide | (exfalso; omega)
set_option maxRecDepth 100000 in
set_option maxHeartbeats 4000000 in
theorem c_X6_appendName {d : Nat} {μ : zM} {k : Nat} {n nm : Int} {L : List zBk} (hd : 2 ≤ d) (h : zSH μ k n L) (hb : 0 ≤ nm ∧ nm ≤ 65520) : zCt d mX6_appendName [.inr (some k), .inl nm] μ (fun r μ' => r = none ∧ zSH μ' k n (zapp n L (nm, [])) ∧ zfr [k, k + 1, k + 2, k + 3] μ μ') := by
  refine of_X6_appendName (by omega) (fun G hG => s_X6_appendName_0 hG ?_)
  simp only [b_X6_appendName_0, o_c, o_il, o_al, o_is, o_as, o_inc, o_add, o_sub, o_mul, o_and, o_or, o_xor, o_shl, o_shr, o_ush, o_rem, o_dup, o_dup2, o_gf, o_pf, o_pz, o_iald, o_iast, o_zald, o_zast, o_aald, o_gs, o_min, o_acp, o_call, o_callv, zgf, zpf, zia_, zza_, zra_, zrd_, zcp_, zpop, zsm8_0, zsm8_1, zsm8_2, zsm8_3, zsm8_4, zsm8_5, zrc, zisob, t_ieq, t_ilt, t_igt, t_zeq, t_zlt, t_zgt, t_sw, zsw, t_iret, t_zret, t_aret, t_vret, zrg, List.getElem?_cons_zero, List.getElem?_cons_succ, List.set_cons_zero, List.set_cons_succ, List.length_cons, List.length_nil, Option.toList_some, Option.toList_none, List.nil_append, List.cons_append, true_and, and_true, true_or, or_true, Int.cast_ofNat_Int, Int.natCast_zero, Int.natCast_one, h.1.ob]
  have hn := h.1.n
  refine ⟨_, c_X6_append (sz := 0) (by omega) h h.1.c1 (by omega) (by simp; omega) (by omega) ⟨hb, by simp [zbys], by simp [zbys]⟩, ?_⟩
  rintro r μ' ⟨rfl, h2, h3⟩
  simp only [b_X6_appendName_0, o_c, o_il, o_al, o_is, o_as, o_inc, o_add, o_sub, o_mul, o_and, o_or, o_xor, o_shl, o_shr, o_ush, o_rem, o_dup, o_dup2, o_gf, o_pf, o_pz, o_iald, o_iast, o_zald, o_zast, o_aald, o_gs, o_min, o_acp, o_call, o_callv, zgf, zpf, zia_, zza_, zra_, zrd_, zcp_, zpop, zsm8_0, zsm8_1, zsm8_2, zsm8_3, zsm8_4, zsm8_5, zrc, zisob, t_ieq, t_ilt, t_igt, t_zeq, t_zlt, t_zgt, t_sw, zsw, t_iret, t_zret, t_aret, t_vret, zrg, List.getElem?_cons_zero, List.getElem?_cons_succ, List.set_cons_zero, List.set_cons_succ, List.length_cons, List.length_nil, Option.toList_some, Option.toList_none, List.nil_append, List.cons_append, true_and, and_true, true_or, or_true, Int.cast_ofNat_Int, Int.natCast_zero, Int.natCast_one, h.1.ob]
  exact ⟨h2, h3⟩
set_option maxRecDepth 100000 in
set_option maxHeartbeats 4000000 in
theorem c_X6_appendCopy {d : Nat} {μ : zM} {k k2 : Nat} {n n2 s : Int} {L L2 : List zBk} (hd : 2 ≤ d) (h : zSH μ k n L) (h2 : zSH μ k2 n2 L2) (hs : zrg s) : zCt d mX6_appendCopy [.inr (some k), .inr (some k2), .inl s] μ (fun r μ' => r = none ∧ zSH μ' k n (if 0 ≤ s then (match L2[s.toNat]? with | some b => zapp n L b | none => L) else L) ∧ zfr [k, k + 1, k + 2, k + 3] μ μ') := by
  refine of_X6_appendCopy (by omega) (fun G hG => s_X6_appendCopy_0 hG ?_)
  simp only [b_X6_appendCopy_0, b_X6_appendCopy_8, b_X6_appendCopy_32, o_c, o_il, o_al, o_is, o_as, o_inc, o_add, o_sub, o_mul, o_and, o_or, o_xor, o_shl, o_shr, o_ush, o_rem, o_dup, o_dup2, o_gf, o_pf, o_pz, o_iald, o_iast, o_zald, o_zast, o_aald, o_gs, o_min, o_acp, o_call, o_callv, zgf, zpf, zia_, zza_, zra_, zrd_, zcp_, zpop, zsm8_0, zsm8_1, zsm8_2, zsm8_3, zsm8_4, zsm8_5, zrc, zisob, t_ieq, t_ilt, t_igt, t_zeq, t_zlt, t_zgt, t_sw, zsw, t_iret, t_zret, t_aret, t_vret, zrg, List.getElem?_cons_zero, List.getElem?_cons_succ, List.set_cons_zero, List.set_cons_succ, List.length_cons, List.length_nil, Option.toList_some, Option.toList_none, List.nil_append, List.cons_append, true_and, and_true, true_or, or_true, Int.cast_ofNat_Int, Int.natCast_zero, Int.natCast_one, h.1.ob, h2.1.ob, h2.1.c1, h2.1.c2, h2.1.c3]
  have hn2 := h2.1.n
  have hle2 := h2.2.2.2.1
  refine zcall (c_X6_hasSlot h2 hs) ?_
  simp only [b_X6_appendCopy_0, b_X6_appendCopy_8, b_X6_appendCopy_32, o_c, o_il, o_al, o_is, o_as, o_inc, o_add, o_sub, o_mul, o_and, o_or, o_xor, o_shl, o_shr, o_ush, o_rem, o_dup, o_dup2, o_gf, o_pf, o_pz, o_iald, o_iast, o_zald, o_zast, o_aald, o_gs, o_min, o_acp, o_call, o_callv, zgf, zpf, zia_, zza_, zra_, zrd_, zcp_, zpop, zsm8_0, zsm8_1, zsm8_2, zsm8_3, zsm8_4, zsm8_5, zrc, zisob, t_ieq, t_ilt, t_igt, t_zeq, t_zlt, t_zgt, t_sw, zsw, t_iret, t_zret, t_aret, t_vret, zrg, List.getElem?_cons_zero, List.getElem?_cons_succ, List.set_cons_zero, List.set_cons_succ, List.length_cons, List.length_nil, Option.toList_some, Option.toList_none, List.nil_append, List.cons_append, true_and, and_true, true_or, or_true, Int.cast_ofNat_Int, Int.natCast_zero, Int.natCast_one, h.1.ob, h2.1.ob, h2.1.c1, h2.1.c2, h2.1.c3]
  unfold zhas
  by_cases hc : 0 ≤ s ∧ s < L2.length
  · obtain ⟨j, rfl⟩ := Int.eq_ofNat_of_zero_le hc.1
    have hj : j < L2.length := by omega
    have hg : L2[j]? = some L2[j] := List.getElem?_eq_getElem hj
    obtain ⟨a1, a2, a3⟩ := h2.2.2.2.2.2 j _ hg
    have hbk := h2.2.2.2.2.1 _ (List.getElem_mem hj)
    have hby := h2.bys hg
    have hl18 := hbk.2.1
    rw [if_pos hc]
    refine ⟨by omega, fun w => by omega, fun _ => ⟨by omega, by omega, ?_⟩⟩
    rw [a1, a2]
    refine ⟨_, c_X6_append (sz := L2[j].2.length) (by omega) h h2.1.c1 (by omega) (by omega) hbk.2.1 (by rw [hby]; exact hbk), ?_⟩
    rintro r μ' ⟨rfl, b1, b2⟩
    simp only [b_X6_appendCopy_0, b_X6_appendCopy_8, b_X6_appendCopy_32, o_c, o_il, o_al, o_is, o_as, o_inc, o_add, o_sub, o_mul, o_and, o_or, o_xor, o_shl, o_shr, o_ush, o_rem, o_dup, o_dup2, o_gf, o_pf, o_pz, o_iald, o_iast, o_zald, o_zast, o_aald, o_gs, o_min, o_acp, o_call, o_callv, zgf, zpf, zia_, zza_, zra_, zrd_, zcp_, zpop, zsm8_0, zsm8_1, zsm8_2, zsm8_3, zsm8_4, zsm8_5, zrc, zisob, t_ieq, t_ilt, t_igt, t_zeq, t_zlt, t_zgt, t_sw, zsw, t_iret, t_zret, t_aret, t_vret, zrg, List.getElem?_cons_zero, List.getElem?_cons_succ, List.set_cons_zero, List.set_cons_succ, List.length_cons, List.length_nil, Option.toList_some, Option.toList_none, List.nil_append, List.cons_append, true_and, and_true, true_or, or_true, Int.cast_ofNat_Int, Int.natCast_zero, Int.natCast_one, h.1.ob]
    rw [hby] at b1
    refine ⟨?_, b2⟩
    rw [if_pos (by omega)]
    simp only [Int.toNat_natCast, hg]
    exact b1
  · rw [if_neg hc]
    refine ⟨by omega, fun _ => ⟨?_, zfr.refl _ _⟩, fun w => absurd rfl w⟩
    by_cases h1 : 0 ≤ s
    · rw [if_pos h1, List.getElem?_eq_none (by omega)]
      exact h
    · rw [if_neg h1]
      exact h
set_option maxRecDepth 100000 in
set_option maxHeartbeats 4000000 in
theorem c_X6_makeEmpty {d : Nat} {μ : zM} {k : Nat} {n : Int} {L : List zBk} (h : zSH μ k n L) : zCt d mX6_makeEmpty [.inr (some k)] μ (fun r μ' => r = none ∧ zSH μ' k n [] ∧ zfr [k] μ μ') := by
  refine of_X6_makeEmpty (fun G hG => s_X6_makeEmpty_0 hG ?_)
  simp only [b_X6_makeEmpty_0, o_c, o_il, o_al, o_is, o_as, o_inc, o_add, o_sub, o_mul, o_and, o_or, o_xor, o_shl, o_shr, o_ush, o_rem, o_dup, o_dup2, o_gf, o_pf, o_pz, o_iald, o_iast, o_zald, o_zast, o_aald, o_gs, o_min, o_acp, o_call, o_callv, zgf, zpf, zia_, zza_, zra_, zrd_, zcp_, zpop, zsm8_0, zsm8_1, zsm8_2, zsm8_3, zsm8_4, zsm8_5, zrc, zisob, t_ieq, t_ilt, t_igt, t_zeq, t_zlt, t_zgt, t_sw, zsw, t_iret, t_zret, t_aret, t_vret, zrg, List.getElem?_cons_zero, List.getElem?_cons_succ, List.set_cons_zero, List.set_cons_succ, List.length_cons, List.length_nil, Option.toList_some, Option.toList_none, List.nil_append, List.cons_append, true_and, and_true, true_or, or_true, Int.cast_ofNat_Int, Int.natCast_zero, Int.natCast_one, h.1.ob]
  have hn := h.1.n
  refine ⟨⟨h.1, by simp [zup, h.2.1], by simp [zup], by simp; omega, by simp, by simp⟩, fun c hc => zup_ne c (by simpa using hc)⟩
set_option maxRecDepth 100000 in
set_option maxHeartbeats 4000000 in
theorem c_X6_hasSameBytes {d : Nat} {μ : zM} {k rk sz : Nat} {n slot o N : Int} {L : List zBk} (hd : 1 ≤ d) (h : zSH μ k n L) (hs : zrg slot) (hr : zsh rk = zia N) (ho : 0 ≤ o) (hN : o + sz ≤ N) (hv : ∀ x ∈ zbys μ rk o sz, 0 ≤ x ∧ x ≤ 255) : zCt d mX6_hasSameBytes [.inr (some k), .inl slot, .inr (some rk), .inl o, .inl (sz : Int)] μ (zR (.inl (if zoat L slot = some (zbys μ rk o sz) then 1 else 0)) μ) := by
  have hh := h
  obtain ⟨hk, h0, h4, hle, hok, hat⟩ := h
  have hn := hk.n
  have hNs : N ≤ 2147483647 := by
    have h9 := zsm rk
    rw [hr] at h9
    exact h9
  refine of_X6_hasSameBytes hd (fun G hG => s_X6_hasSameBytes_0 hG ?_)
  simp only [b_X6_hasSameBytes_0, b_X6_hasSameBytes_8, b_X6_hasSameBytes_19, b_X6_hasSameBytes_21, b_X6_hasSameBytes_24, b_X6_hasSameBytes_31, b_X6_hasSameBytes_52, b_X6_hasSameBytes_54, b_X6_hasSameBytes_60, o_c, o_il, o_al, o_is, o_as, o_inc, o_add, o_sub, o_mul, o_and, o_or, o_xor, o_shl, o_shr, o_ush, o_rem, o_dup, o_dup2, o_gf, o_pf, o_pz, o_iald, o_iast, o_zald, o_zast, o_aald, o_gs, o_min, o_acp, o_call, o_callv, zgf, zpf, zia_, zza_, zra_, zrd_, zcp_, zpop, zsm8_0, zsm8_1, zsm8_2, zsm8_3, zsm8_4, zsm8_5, zrc, zisob, t_ieq, t_ilt, t_igt, t_zeq, t_zlt, t_zgt, t_sw, zsw, t_iret, t_zret, t_aret, t_vret, zrg, List.getElem?_cons_zero, List.getElem?_cons_succ, List.set_cons_zero, List.set_cons_succ, List.length_cons, List.length_nil, Option.toList_some, Option.toList_none, List.nil_append, List.cons_append, true_and, and_true, true_or, or_true, Int.cast_ofNat_Int, Int.natCast_zero, Int.natCast_one, hk.ob, hk.c1, hk.c2, hk.c3, hr]
  refine zcall (c_X6_hasSlot hh hs) ?_
  unfold zrg at hs
  simp only [b_X6_hasSameBytes_0, b_X6_hasSameBytes_8, b_X6_hasSameBytes_19, b_X6_hasSameBytes_21, b_X6_hasSameBytes_24, b_X6_hasSameBytes_31, b_X6_hasSameBytes_52, b_X6_hasSameBytes_54, b_X6_hasSameBytes_60, o_c, o_il, o_al, o_is, o_as, o_inc, o_add, o_sub, o_mul, o_and, o_or, o_xor, o_shl, o_shr, o_ush, o_rem, o_dup, o_dup2, o_gf, o_pf, o_pz, o_iald, o_iast, o_zald, o_zast, o_aald, o_gs, o_min, o_acp, o_call, o_callv, zgf, zpf, zia_, zza_, zra_, zrd_, zcp_, zpop, zsm8_0, zsm8_1, zsm8_2, zsm8_3, zsm8_4, zsm8_5, zrc, zisob, t_ieq, t_ilt, t_igt, t_zeq, t_zlt, t_zgt, t_sw, zsw, t_iret, t_zret, t_aret, t_vret, zrg, List.getElem?_cons_zero, List.getElem?_cons_succ, List.set_cons_zero, List.set_cons_succ, List.length_cons, List.length_nil, Option.toList_some, Option.toList_none, List.nil_append, List.cons_append, true_and, and_true, true_or, or_true, Int.cast_ofNat_Int, Int.natCast_zero, Int.natCast_one, hk.ob, hk.c1, hk.c2, hk.c3, hr]
  unfold zhas
  rcases zoat_cases L slot with ⟨hb, hoa⟩ | ⟨s, b, rfl, hlt, hb, hoa⟩
  · rw [if_neg (by omega : ¬ (0 ≤ slot ∧ slot < L.length)), hoa]
    repeat' (first | with_reducible apply And.intro | intro _)
    all_goals first | omega | rfl | trivial | decide | (exfalso; omega)
  · rw [if_pos (by omega : 0 ≤ (s : Int) ∧ (s : Int) < L.length)]
    obtain ⟨a1, a2, a3⟩ := hat s b hb
    have hbk := hok b (List.mem_of_getElem? hb)
    have hbl := hbk.2.1
    refine ⟨by omega, fun w => by omega, fun _ => ⟨by omega, by omega, by omega, fun e1 => ?_, fun e1 => ?_⟩⟩
    · have hsz : b.2.length = sz := by omega
      have loop : ∀ (r i : Nat), i + r = sz → (∀ j : Nat, j < i → b.2[j]? = some (μ rk (o + j))) → G 24 [.inr (some k), .inl (s : Int), .inr (some rk), .inl o, .inl (sz : Int), .inl (i : Int)] [] μ := by
        intro r
        induction r with
        | zero =>
          intro i h1 h2
          refine s_X6_hasSameBytes_24 hG ?_
          have e2 : zoat L (s : Int) = some (zbys μ rk o sz) := by
            rw [hoa]
            congr 1
            apply List.ext_getElem?
            intro j
            by_cases hj : j < sz
            · rw [h2 j (by omega), zbys_get hj]
            · rw [List.getElem?_eq_none (by omega), List.getElem?_eq_none (by rw [zbys_len]; omega)]
          rw [if_pos e2]
          simp only [b_X6_hasSameBytes_0, b_X6_hasSameBytes_8, b_X6_hasSameBytes_19, b_X6_hasSameBytes_21, b_X6_hasSameBytes_24, b_X6_hasSameBytes_31, b_X6_hasSameBytes_52, b_X6_hasSameBytes_54, b_X6_hasSameBytes_60, o_c, o_il, o_al, o_is, o_as, o_inc, o_add, o_sub, o_mul, o_and, o_or, o_xor, o_shl, o_shr, o_ush, o_rem, o_dup, o_dup2, o_gf, o_pf, o_pz, o_iald, o_iast, o_zald, o_zast, o_aald, o_gs, o_min, o_acp, o_call, o_callv, zgf, zpf, zia_, zza_, zra_, zrd_, zcp_, zpop, zsm8_0, zsm8_1, zsm8_2, zsm8_3, zsm8_4, zsm8_5, zrc, zisob, t_ieq, t_ilt, t_igt, t_zeq, t_zlt, t_zgt, t_sw, zsw, t_iret, t_zret, t_aret, t_vret, zrg, List.getElem?_cons_zero, List.getElem?_cons_succ, List.set_cons_zero, List.set_cons_succ, List.length_cons, List.length_nil, Option.toList_some, Option.toList_none, List.nil_append, List.cons_append, true_and, and_true, true_or, or_true, Int.cast_ofNat_Int, Int.natCast_zero, Int.natCast_one, hk.ob, hk.c1, hk.c2, hk.c3, hr]
          repeat' (first | with_reducible apply And.intro | intro _)
          all_goals first | omega | rfl | trivial | decide | (exfalso; omega)
        | succ r ih =>
          intro i h1 h2
          refine s_X6_hasSameBytes_24 hG ?_
          have hi : i < b.2.length := by omega
          have a4 := a3 i b.2[i] (List.getElem?_eq_getElem hi)
          have v1 := hbk.2.2 b.2[i] (List.getElem_mem hi)
          have v2 := hv (μ rk (o + i)) (List.mem_of_getElem? (zbys_get (j := i) (by omega)))
          simp only [b_X6_hasSameBytes_0, b_X6_hasSameBytes_8, b_X6_hasSameBytes_19, b_X6_hasSameBytes_21, b_X6_hasSameBytes_24, b_X6_hasSameBytes_31, b_X6_hasSameBytes_52, b_X6_hasSameBytes_54, b_X6_hasSameBytes_60, o_c, o_il, o_al, o_is, o_as, o_inc, o_add, o_sub, o_mul, o_and, o_or, o_xor, o_shl, o_shr, o_ush, o_rem, o_dup, o_dup2, o_gf, o_pf, o_pz, o_iald, o_iast, o_zald, o_zast, o_aald, o_gs, o_min, o_acp, o_call, o_callv, zgf, zpf, zia_, zza_, zra_, zrd_, zcp_, zpop, zsm8_0, zsm8_1, zsm8_2, zsm8_3, zsm8_4, zsm8_5, zrc, zisob, t_ieq, t_ilt, t_igt, t_zeq, t_zlt, t_zgt, t_sw, zsw, t_iret, t_zret, t_aret, t_vret, zrg, List.getElem?_cons_zero, List.getElem?_cons_succ, List.set_cons_zero, List.set_cons_succ, List.length_cons, List.length_nil, Option.toList_some, Option.toList_none, List.nil_append, List.cons_append, true_and, and_true, true_or, or_true, Int.cast_ofNat_Int, Int.natCast_zero, Int.natCast_one, hk.ob, hk.c1, hk.c2, hk.c3, hr]
          refine ⟨by omega, by omega, fun _ => ⟨by omega, by omega, by omega, by omega, fun e3 => ?_, fun e3 => ?_⟩, fun _ => by omega⟩
          · refine ih (i + 1) (by omega) (fun j hj => ?_)
            by_cases e4 : j = i
            · subst e4
              rw [List.getElem?_eq_getElem hi, ← a4, e3]
            · exact h2 j (by omega)
          · rw [if_neg]
            · exact ⟨rfl, rfl⟩
            · intro e4
              rw [hoa] at e4
              have e5 : b.2[i]? = (zbys μ rk o sz)[i]? := by rw [Option.some.inj e4]
              rw [List.getElem?_eq_getElem hi, zbys_get (by omega)] at e5
              exact e3 (a4.trans (Option.some.inj e5))
      exact loop sz 0 (by omega) (fun j hj => by omega)
    · rw [if_neg]
      · exact ⟨rfl, rfl⟩
      · intro e4
        rw [hoa] at e4
        have e5 := congrArg List.length (Option.some.inj e4)
        rw [zbys_len] at e5
        omega
set_option maxRecDepth 100000 in
set_option maxHeartbeats 4000000 in
theorem c_X6_hasSameBlock {d : Nat} {μ : zM} {k k2 : Nat} {n n2 slot s2 : Int} {L L2 : List zBk} (hd : 2 ≤ d) (h : zSH μ k n L) (h2 : zSH μ k2 n2 L2) (hs : zrg slot) (hs2 : zrg s2) : zCt d mX6_hasSameBlock [.inr (some k), .inl slot, .inr (some k2), .inl s2] μ (zR (.inl (if zoat L2 s2 ≠ none ∧ zoat L slot = zoat L2 s2 then 1 else 0)) μ) := by
  refine of_X6_hasSameBlock (by omega) (fun G hG => s_X6_hasSameBlock_0 hG ?_)
  simp only [b_X6_hasSameBlock_0, b_X6_hasSameBlock_8, b_X6_hasSameBlock_30, b_X6_hasSameBlock_34, b_X6_hasSameBlock_35, o_c, o_il, o_al, o_is, o_as, o_inc, o_add, o_sub, o_mul, o_and, o_or, o_xor, o_shl, o_shr, o_ush, o_rem, o_dup, o_dup2, o_gf, o_pf, o_pz, o_iald, o_iast, o_zald, o_zast, o_aald, o_gs, o_min, o_acp, o_call, o_callv, zgf, zpf, zia_, zza_, zra_, zrd_, zcp_, zpop, zsm8_0, zsm8_1, zsm8_2, zsm8_3, zsm8_4, zsm8_5, zrc, zisob, t_ieq, t_ilt, t_igt, t_zeq, t_zlt, t_zgt, t_sw, zsw, t_iret, t_zret, t_aret, t_vret, zrg, List.getElem?_cons_zero, List.getElem?_cons_succ, List.set_cons_zero, List.set_cons_succ, List.length_cons, List.length_nil, Option.toList_some, Option.toList_none, List.nil_append, List.cons_append, true_and, and_true, true_or, or_true, Int.cast_ofNat_Int, Int.natCast_zero, Int.natCast_one, h.1.ob, h2.1.ob, h2.1.c1, h2.1.c2, h2.1.c3]
  have hn2 := h2.1.n
  have hle2 := h2.2.2.2.1
  refine zcall (c_X6_hasSlot h2 hs2) ?_
  simp only [b_X6_hasSameBlock_0, b_X6_hasSameBlock_8, b_X6_hasSameBlock_30, b_X6_hasSameBlock_34, b_X6_hasSameBlock_35, o_c, o_il, o_al, o_is, o_as, o_inc, o_add, o_sub, o_mul, o_and, o_or, o_xor, o_shl, o_shr, o_ush, o_rem, o_dup, o_dup2, o_gf, o_pf, o_pz, o_iald, o_iast, o_zald, o_zast, o_aald, o_gs, o_min, o_acp, o_call, o_callv, zgf, zpf, zia_, zza_, zra_, zrd_, zcp_, zpop, zsm8_0, zsm8_1, zsm8_2, zsm8_3, zsm8_4, zsm8_5, zrc, zisob, t_ieq, t_ilt, t_igt, t_zeq, t_zlt, t_zgt, t_sw, zsw, t_iret, t_zret, t_aret, t_vret, zrg, List.getElem?_cons_zero, List.getElem?_cons_succ, List.set_cons_zero, List.set_cons_succ, List.length_cons, List.length_nil, Option.toList_some, Option.toList_none, List.nil_append, List.cons_append, true_and, and_true, true_or, or_true, Int.cast_ofNat_Int, Int.natCast_zero, Int.natCast_one, h.1.ob, h2.1.ob, h2.1.c1, h2.1.c2, h2.1.c3]
  unfold zhas
  rcases zoat_cases L2 s2 with ⟨hb, hoa⟩ | ⟨s, b, rfl, hlt, hb, hoa⟩
  · rw [if_neg (by omega : ¬ (0 ≤ s2 ∧ s2 < L2.length)), hoa]
    repeat' (first | with_reducible apply And.intro | intro _)
    all_goals first | omega | rfl | (exfalso; omega) | simp
  · rw [if_pos (by omega : 0 ≤ (s : Int) ∧ (s : Int) < L2.length)]
    obtain ⟨a1, a2, a3⟩ := h2.2.2.2.2.2 s b hb
    have hbk := h2.2.2.2.2.1 _ (List.mem_of_getElem? hb)
    have hby := h2.bys hb
    have hl18 := hbk.2.1
    refine ⟨by omega, fun w => by omega, fun _ => ⟨by omega, ?_⟩⟩
    rw [a2]
    refine zcall (c_X6_hasSameBytes (sz := b.2.length) (by omega) h hs h2.1.c1 (by omega) (by omega) (by rw [hby]; exact hbk.2.2)) ?_
    simp only [b_X6_hasSameBlock_0, b_X6_hasSameBlock_8, b_X6_hasSameBlock_30, b_X6_hasSameBlock_34, b_X6_hasSameBlock_35, o_c, o_il, o_al, o_is, o_as, o_inc, o_add, o_sub, o_mul, o_and, o_or, o_xor, o_shl, o_shr, o_ush, o_rem, o_dup, o_dup2, o_gf, o_pf, o_pz, o_iald, o_iast, o_zald, o_zast, o_aald, o_gs, o_min, o_acp, o_call, o_callv, zgf, zpf, zia_, zza_, zra_, zrd_, zcp_, zpop, zsm8_0, zsm8_1, zsm8_2, zsm8_3, zsm8_4, zsm8_5, zrc, zisob, t_ieq, t_ilt, t_igt, t_zeq, t_zlt, t_zgt, t_sw, zsw, t_iret, t_zret, t_aret, t_vret, zrg, List.getElem?_cons_zero, List.getElem?_cons_succ, List.set_cons_zero, List.set_cons_succ, List.length_cons, List.length_nil, Option.toList_some, Option.toList_none, List.nil_append, List.cons_append, true_and, and_true, true_or, or_true, Int.cast_ofNat_Int, Int.natCast_zero, Int.natCast_one, h.1.ob]
    rw [hby, hoa]
    by_cases e : zoat L slot = some b.2
    · simp [e]
      exact ⟨rfl, rfl⟩
    · simp [e]
      exact ⟨rfl, rfl⟩
