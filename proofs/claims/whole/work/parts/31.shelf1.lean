/-! SHELVES: what is read -/
theorem zcall {C : List zV → zM → zQ → Prop} {as : List zV} {μ μ1 : zM} {v : zV} {P : Option zV → zM → Prop} (h : C as μ (zR v μ1)) (k : P (some v) μ1) : ∃ Q : zQ, C as μ Q ∧ ∀ r μ', Q r μ' → P r μ' := ⟨_, h, fun r μ' hq => by rw [hq.1, hq.2]; exact k⟩
def znam (L : List zBk) (i : Int) : Int := if 0 ≤ i then (match L[i.toNat]? with
  | some b => b.1
  | none => -1) else -1
def zhas (L : List zBk) (i : Int) : Int := if 0 ≤ i ∧ i < L.length then 1 else 0
theorem zSH.cnt {μ : zM} {k : Nat} {n : Int} {L : List zBk} (h : zSH μ k n L) : μ k 4 = L.length ∧ (L.length : Int) ≤ n ∧ (n = 64 ∨ n = 24) := ⟨h.2.2.1, h.2.2.2.1, h.1.n⟩
set_option maxRecDepth 100000 in
set_option maxHeartbeats 4000000 in
theorem c_X6_count {d : Nat} {μ : zM} {k : Nat} {n : Int} {L : List zBk} (h : zSH μ k n L) : zCt d mX6_count [.inr (some k)] μ (zR (.inl L.length) μ) := by
  refine of_X6_count (fun G hG => s_X6_count_0 hG ?_)
  simp only [b_X6_count_0, o_c, o_il, o_al, o_is, o_as, o_inc, o_add, o_sub, o_mul, o_and, o_or, o_xor, o_shl, o_shr, o_ush, o_rem, o_dup, o_dup2, o_gf, o_pf, o_pz, o_iald, o_iast, o_zald, o_zast, o_aald, o_gs, o_min, o_acp, o_call, o_callv, zgf, zpf, zia_, zza_, zra_, zrd_, zcp_, zpop, zsm8_0, zsm8_1, zsm8_2, zsm8_3, zsm8_4, zsm8_5, zrc, zisob, t_ieq, t_ilt, t_igt, t_zeq, t_zlt, t_zgt, t_sw, zsw, t_iret, t_zret, t_aret, t_vret, zrg, List.getElem?_cons_zero, List.getElem?_cons_succ, List.set_cons_zero, List.set_cons_succ, List.length_cons, List.length_nil, Option.toList_some, Option.toList_none, List.nil_append, List.cons_append, true_and, and_true, true_or, or_true, Int.cast_ofNat_Int, Int.natCast_zero, Int.natCast_one, h.1.ob]
  exact ⟨by rw [h.2.2.1], rfl⟩
set_option maxRecDepth 100000 in
set_option maxHeartbeats 4000000 in
theorem c_X6_isFull {d : Nat} {μ : zM} {k : Nat} {n : Int} {L : List zBk} (h : zSH μ k n L) : zCt d mX6_isFull [.inr (some k)] μ (zR (.inl (if n ≤ L.length then 1 else 0)) μ) := by
  obtain ⟨h4, hle, hn⟩ := h.cnt
  have h0 := h.2.1
  by_cases hc : n ≤ L.length
  · rw [if_pos hc]
    refine of_X6_isFull (fun G hG => s_X6_isFull_0 hG ?_)
    simp only [b_X6_isFull_0, b_X6_isFull_11, b_X6_isFull_15, b_X6_isFull_16, o_c, o_il, o_al, o_is, o_as, o_inc, o_add, o_sub, o_mul, o_and, o_or, o_xor, o_shl, o_shr, o_ush, o_rem, o_dup, o_dup2, o_gf, o_pf, o_pz, o_iald, o_iast, o_zald, o_zast, o_aald, o_gs, o_min, o_acp, o_call, o_callv, zgf, zpf, zia_, zza_, zra_, zrd_, zcp_, zpop, zsm8_0, zsm8_1, zsm8_2, zsm8_3, zsm8_4, zsm8_5, zrc, zisob, t_ieq, t_ilt, t_igt, t_zeq, t_zlt, t_zgt, t_sw, zsw, t_iret, t_zret, t_aret, t_vret, zrg, List.getElem?_cons_zero, List.getElem?_cons_succ, List.set_cons_zero, List.set_cons_succ, List.length_cons, List.length_nil, Option.toList_some, Option.toList_none, List.nil_append, List.cons_append, true_and, and_true, true_or, or_true, Int.cast_ofNat_Int, Int.natCast_zero, Int.natCast_one, h.1.ob]
    repeat' (first | with_reducible apply And.intro | intro _)
    all_goals first | omega | rfl | trivial | decide | (exfalso; omega)
  · rw [if_neg hc]
    refine of_X6_isFull (fun G hG => s_X6_isFull_0 hG ?_)
    simp only [b_X6_isFull_0, b_X6_isFull_11, b_X6_isFull_15, b_X6_isFull_16, o_c, o_il, o_al, o_is, o_as, o_inc, o_add, o_sub, o_mul, o_and, o_or, o_xor, o_shl, o_shr, o_ush, o_rem, o_dup, o_dup2, o_gf, o_pf, o_pz, o_iald, o_iast, o_zald, o_zast, o_aald, o_gs, o_min, o_acp, o_call, o_callv, zgf, zpf, zia_, zza_, zra_, zrd_, zcp_, zpop, zsm8_0, zsm8_1, zsm8_2, zsm8_3, zsm8_4, zsm8_5, zrc, zisob, t_ieq, t_ilt, t_igt, t_zeq, t_zlt, t_zgt, t_sw, zsw, t_iret, t_zret, t_aret, t_vret, zrg, List.getElem?_cons_zero, List.getElem?_cons_succ, List.set_cons_zero, List.set_cons_succ, List.length_cons, List.length_nil, Option.toList_some, Option.toList_none, List.nil_append, List.cons_append, true_and, and_true, true_or, or_true, Int.cast_ofNat_Int, Int.natCast_zero, Int.natCast_one, h.1.ob]
    repeat' (first | with_reducible apply And.intro | intro _)
    all_goals first | omega | rfl | trivial | decide | (exfalso; omega)
set_option maxRecDepth 100000 in
set_option maxHeartbeats 4000000 in
theorem c_X6_hasSlot {d : Nat} {μ : zM} {k : Nat} {n s : Int} {L : List zBk} (h : zSH μ k n L) (hs : zrg s) : zCt d mX6_hasSlot [.inr (some k), .inl s] μ (zR (.inl (zhas L s)) μ) := by
  obtain ⟨h4, hle, hn⟩ := h.cnt
  unfold zrg at hs
  by_cases hc : 0 ≤ s ∧ s < L.length
  · rw [zhas, if_pos hc]
    refine of_X6_hasSlot (fun G hG => s_X6_hasSlot_0 hG ?_)
    simp only [b_X6_hasSlot_0, b_X6_hasSlot_4, b_X6_hasSlot_12, b_X6_hasSlot_16, b_X6_hasSlot_17, o_c, o_il, o_al, o_is, o_as, o_inc, o_add, o_sub, o_mul, o_and, o_or, o_xor, o_shl, o_shr, o_ush, o_rem, o_dup, o_dup2, o_gf, o_pf, o_pz, o_iald, o_iast, o_zald, o_zast, o_aald, o_gs, o_min, o_acp, o_call, o_callv, zgf, zpf, zia_, zza_, zra_, zrd_, zcp_, zpop, zsm8_0, zsm8_1, zsm8_2, zsm8_3, zsm8_4, zsm8_5, zrc, zisob, t_ieq, t_ilt, t_igt, t_zeq, t_zlt, t_zgt, t_sw, zsw, t_iret, t_zret, t_aret, t_vret, zrg, List.getElem?_cons_zero, List.getElem?_cons_succ, List.set_cons_zero, List.set_cons_succ, List.length_cons, List.length_nil, Option.toList_some, Option.toList_none, List.nil_append, List.cons_append, true_and, and_true, true_or, or_true, Int.cast_ofNat_Int, Int.natCast_zero, Int.natCast_one, h.1.ob]
    repeat' (first | with_reducible apply And.intro | intro _)
    all_goals first | omega | rfl | trivial | decide | (exfalso; omega)
  · rw [zhas, if_neg hc]
    refine of_X6_hasSlot (fun G hG => s_X6_hasSlot_0 hG ?_)
    simp only [b_X6_hasSlot_0, b_X6_hasSlot_4, b_X6_hasSlot_12, b_X6_hasSlot_16, b_X6_hasSlot_17, o_c, o_il, o_al, o_is, o_as, o_inc, o_add, o_sub, o_mul, o_and, o_or, o_xor, o_shl, o_shr, o_ush, o_rem, o_dup, o_dup2, o_gf, o_pf, o_pz, o_iald, o_iast, o_zald, o_zast, o_aald, o_gs, o_min, o_acp, o_call, o_callv, zgf, zpf, zia_, zza_, zra_, zrd_, zcp_, zpop, zsm8_0, zsm8_1, zsm8_2, zsm8_3, zsm8_4, zsm8_5, zrc, zisob, t_ieq, t_ilt, t_igt, t_zeq, t_zlt, t_zgt, t_sw, zsw, t_iret, t_zret, t_aret, t_vret, zrg, List.getElem?_cons_zero, List.getElem?_cons_succ, List.set_cons_zero, List.set_cons_succ, List.length_cons, List.length_nil, Option.toList_some, Option.toList_none, List.nil_append, List.cons_append, true_and, and_true, true_or, or_true, Int.cast_ofNat_Int, Int.natCast_zero, Int.natCast_one, h.1.ob]
    repeat' (first | with_reducible apply And.intro | intro _)
    all_goals first | omega | rfl | trivial | decide | (exfalso; omega)
set_option maxRecDepth 100000 in
set_option maxHeartbeats 4000000 in
theorem c_X6_byteAt {d : Nat} {μ : zM} {k : Nat} {n slot i : Int} {L : List zBk} (h : zSH μ k n L) (hs : zrg slot) (hi : zrg i) : zCt d mX6_byteAt [.inr (some k), .inl slot, .inl i] μ (zR (.inl (zp_byte (zoat L slot) i)) μ) := by
  obtain ⟨hk, h0, h4, hle, hok, hat⟩ := h
  have hn := hk.n
  unfold zrg at hs hi
  rcases zoat_cases L slot with ⟨hb, ho⟩ | ⟨s, b, rfl, hlt, hb, ho⟩
  · rw [ho]
    refine of_X6_byteAt (fun G hG => s_X6_byteAt_0 hG ?_)
    simp only [b_X6_byteAt_0, b_X6_byteAt_4, b_X6_byteAt_12, b_X6_byteAt_16, b_X6_byteAt_26, b_X6_byteAt_28, o_c, o_il, o_al, o_is, o_as, o_inc, o_add, o_sub, o_mul, o_and, o_or, o_xor, o_shl, o_shr, o_ush, o_rem, o_dup, o_dup2, o_gf, o_pf, o_pz, o_iald, o_iast, o_zald, o_zast, o_aald, o_gs, o_min, o_acp, o_call, o_callv, zgf, zpf, zia_, zza_, zra_, zrd_, zcp_, zpop, zsm8_0, zsm8_1, zsm8_2, zsm8_3, zsm8_4, zsm8_5, zrc, zisob, t_ieq, t_ilt, t_igt, t_zeq, t_zlt, t_zgt, t_sw, zsw, t_iret, t_zret, t_aret, t_vret, zrg, List.getElem?_cons_zero, List.getElem?_cons_succ, List.set_cons_zero, List.set_cons_succ, List.length_cons, List.length_nil, Option.toList_some, Option.toList_none, List.nil_append, List.cons_append, true_and, and_true, true_or, or_true, Int.cast_ofNat_Int, Int.natCast_zero, Int.natCast_one, hk.ob, hk.c1, hk.c2, hk.c3]
    repeat' (first | with_reducible apply And.intro | intro _)
    all_goals first | omega | rfl | trivial | decide | (exfalso; omega)
  · rw [ho]
    obtain ⟨a1, a2, a3⟩ := hat s b hb
    have hbl := (hok b (List.mem_of_getElem? hb)).2.1
    by_cases hin : 0 ≤ i ∧ i < b.2.length
    · obtain ⟨j, rfl⟩ := Int.eq_ofNat_of_zero_le hin.1
      have hj : j < b.2.length := by omega
      have a4 := a3 j b.2[j] (List.getElem?_eq_getElem hj)
      have e : zp_byte (some b.2) (j : Int) = b.2[j] := by simp [zp_byte, hj]
      rw [e]
      refine of_X6_byteAt (fun G hG => s_X6_byteAt_0 hG ?_)
      simp only [b_X6_byteAt_0, b_X6_byteAt_4, b_X6_byteAt_12, b_X6_byteAt_16, b_X6_byteAt_26, b_X6_byteAt_28, o_c, o_il, o_al, o_is, o_as, o_inc, o_add, o_sub, o_mul, o_and, o_or, o_xor, o_shl, o_shr, o_ush, o_rem, o_dup, o_dup2, o_gf, o_pf, o_pz, o_iald, o_iast, o_zald, o_zast, o_aald, o_gs, o_min, o_acp, o_call, o_callv, zgf, zpf, zia_, zza_, zra_, zrd_, zcp_, zpop, zsm8_0, zsm8_1, zsm8_2, zsm8_3, zsm8_4, zsm8_5, zrc, zisob, t_ieq, t_ilt, t_igt, t_zeq, t_zlt, t_zgt, t_sw, zsw, t_iret, t_zret, t_aret, t_vret, zrg, List.getElem?_cons_zero, List.getElem?_cons_succ, List.set_cons_zero, List.set_cons_succ, List.length_cons, List.length_nil, Option.toList_some, Option.toList_none, List.nil_append, List.cons_append, true_and, and_true, true_or, or_true, Int.cast_ofNat_Int, Int.natCast_zero, Int.natCast_one, hk.ob, hk.c1, hk.c2, hk.c3]
      repeat' (first | with_reducible apply And.intro | intro _)
      all_goals first | omega | rfl | trivial | decide | (exfalso; omega) | (rw [a4])
    · have e : zp_byte (some b.2) i = -1 := by
        unfold zp_byte
        by_cases h1 : 0 ≤ i
        · have : b.2.length ≤ i.toNat := by omega
          simp [h1, List.getElem?_eq_none this]
        · simp [h1]
      rw [e]
      refine of_X6_byteAt (fun G hG => s_X6_byteAt_0 hG ?_)
      simp only [b_X6_byteAt_0, b_X6_byteAt_4, b_X6_byteAt_12, b_X6_byteAt_16, b_X6_byteAt_26, b_X6_byteAt_28, o_c, o_il, o_al, o_is, o_as, o_inc, o_add, o_sub, o_mul, o_and, o_or, o_xor, o_shl, o_shr, o_ush, o_rem, o_dup, o_dup2, o_gf, o_pf, o_pz, o_iald, o_iast, o_zald, o_zast, o_aald, o_gs, o_min, o_acp, o_call, o_callv, zgf, zpf, zia_, zza_, zra_, zrd_, zcp_, zpop, zsm8_0, zsm8_1, zsm8_2, zsm8_3, zsm8_4, zsm8_5, zrc, zisob, t_ieq, t_ilt, t_igt, t_zeq, t_zlt, t_zgt, t_sw, zsw, t_iret, t_zret, t_aret, t_vret, zrg, List.getElem?_cons_zero, List.getElem?_cons_succ, List.set_cons_zero, List.set_cons_succ, List.length_cons, List.length_nil, Option.toList_some, Option.toList_none, List.nil_append, List.cons_append, true_and, and_true, true_or, or_true, Int.cast_ofNat_Int, Int.natCast_zero, Int.natCast_one, hk.ob, hk.c1, hk.c2, hk.c3]
      repeat' (first | with_reducible apply And.intro | intro _)
      all_goals first | omega | rfl | trivial | decide | (exfalso; omega)
set_option maxRecDepth 100000 in
set_option maxHeartbeats 4000000 in
theorem c_X6_kindAt {d : Nat} {μ : zM} {k : Nat} {n slot : Int} {L : List zBk} (h : zSH μ k n L) (hs : zrg slot) : zCt d mX6_kindAt [.inr (some k), .inl slot] μ (zR (.inl (zp_byte (zoat L slot) 0)) μ) := by
  obtain ⟨hk, h0, h4, hle, hok, hat⟩ := h
  have hn := hk.n
  unfold zrg at hs
  rcases zoat_cases L slot with ⟨hb, ho⟩ | ⟨s, b, rfl, hlt, hb, ho⟩
  · rw [ho]
    refine of_X6_kindAt (fun G hG => s_X6_kindAt_0 hG ?_)
    simp only [b_X6_kindAt_0, b_X6_kindAt_4, b_X6_kindAt_12, b_X6_kindAt_22, b_X6_kindAt_24, o_c, o_il, o_al, o_is, o_as, o_inc, o_add, o_sub, o_mul, o_and, o_or, o_xor, o_shl, o_shr, o_ush, o_rem, o_dup, o_dup2, o_gf, o_pf, o_pz, o_iald, o_iast, o_zald, o_zast, o_aald, o_gs, o_min, o_acp, o_call, o_callv, zgf, zpf, zia_, zza_, zra_, zrd_, zcp_, zpop, zsm8_0, zsm8_1, zsm8_2, zsm8_3, zsm8_4, zsm8_5, zrc, zisob, t_ieq, t_ilt, t_igt, t_zeq, t_zlt, t_zgt, t_sw, zsw, t_iret, t_zret, t_aret, t_vret, zrg, List.getElem?_cons_zero, List.getElem?_cons_succ, List.set_cons_zero, List.set_cons_succ, List.length_cons, List.length_nil, Option.toList_some, Option.toList_none, List.nil_append, List.cons_append, true_and, and_true, true_or, or_true, Int.cast_ofNat_Int, Int.natCast_zero, Int.natCast_one, hk.ob, hk.c1, hk.c2, hk.c3]
    repeat' (first | with_reducible apply And.intro | intro _)
    all_goals first | omega | rfl | trivial | decide | (exfalso; omega)
  · rw [ho]
    obtain ⟨a1, a2, a3⟩ := hat s b hb
    have hbl := (hok b (List.mem_of_getElem? hb)).2.1
    by_cases hin : 0 < b.2.length
    · have a4 := a3 0 b.2[0] (List.getElem?_eq_getElem hin)
      have e : zp_byte (some b.2) 0 = b.2[0] := by simp [zp_byte, hin]
      rw [e]
      simp only [Int.natCast_zero, Int.add_zero] at a4
      refine of_X6_kindAt (fun G hG => s_X6_kindAt_0 hG ?_)
      simp only [b_X6_kindAt_0, b_X6_kindAt_4, b_X6_kindAt_12, b_X6_kindAt_22, b_X6_kindAt_24, o_c, o_il, o_al, o_is, o_as, o_inc, o_add, o_sub, o_mul, o_and, o_or, o_xor, o_shl, o_shr, o_ush, o_rem, o_dup, o_dup2, o_gf, o_pf, o_pz, o_iald, o_iast, o_zald, o_zast, o_aald, o_gs, o_min, o_acp, o_call, o_callv, zgf, zpf, zia_, zza_, zra_, zrd_, zcp_, zpop, zsm8_0, zsm8_1, zsm8_2, zsm8_3, zsm8_4, zsm8_5, zrc, zisob, t_ieq, t_ilt, t_igt, t_zeq, t_zlt, t_zgt, t_sw, zsw, t_iret, t_zret, t_aret, t_vret, zrg, List.getElem?_cons_zero, List.getElem?_cons_succ, List.set_cons_zero, List.set_cons_succ, List.length_cons, List.length_nil, Option.toList_some, Option.toList_none, List.nil_append, List.cons_append, true_and, and_true, true_or, or_true, Int.cast_ofNat_Int, Int.natCast_zero, Int.natCast_one, hk.ob, hk.c1, hk.c2, hk.c3]
      repeat' (first | with_reducible apply And.intro | intro _)
      all_goals first | omega | rfl | trivial | decide | (exfalso; omega) | (rw [a4])
    · have e : zp_byte (some b.2) 0 = -1 := by
        have : b.2 = [] := by
          cases hb2 : b.2 with
          | nil => rfl
          | cons x y => rw [hb2] at hin; simp at hin
        simp [zp_byte, this]
      rw [e]
      refine of_X6_kindAt (fun G hG => s_X6_kindAt_0 hG ?_)
      simp only [b_X6_kindAt_0, b_X6_kindAt_4, b_X6_kindAt_12, b_X6_kindAt_22, b_X6_kindAt_24, o_c, o_il, o_al, o_is, o_as, o_inc, o_add, o_sub, o_mul, o_and, o_or, o_xor, o_shl, o_shr, o_ush, o_rem, o_dup, o_dup2, o_gf, o_pf, o_pz, o_iald, o_iast, o_zald, o_zast, o_aald, o_gs, o_min, o_acp, o_call, o_callv, zgf, zpf, zia_, zza_, zra_, zrd_, zcp_, zpop, zsm8_0, zsm8_1, zsm8_2, zsm8_3, zsm8_4, zsm8_5, zrc, zisob, t_ieq, t_ilt, t_igt, t_zeq, t_zlt, t_zgt, t_sw, zsw, t_iret, t_zret, t_aret, t_vret, zrg, List.getElem?_cons_zero, List.getElem?_cons_succ, List.set_cons_zero, List.set_cons_succ, List.length_cons, List.length_nil, Option.toList_some, Option.toList_none, List.nil_append, List.cons_append, true_and, and_true, true_or, or_true, Int.cast_ofNat_Int, Int.natCast_zero, Int.natCast_one, hk.ob, hk.c1, hk.c2, hk.c3]
      repeat' (first | with_reducible apply And.intro | intro _)
      all_goals first | omega | rfl | trivial | decide | (exfalso; omega)
set_option maxRecDepth 100000 in
set_option maxHeartbeats 4000000 in
theorem c_X6_nameAt {d : Nat} {μ : zM} {k : Nat} {n slot : Int} {L : List zBk} (hd : 1 ≤ d) (h : zSH μ k n L) (hs : zrg slot) : zCt d mX6_nameAt [.inr (some k), .inl slot] μ (zR (.inl (znam L slot)) μ) := by
  have hh := h
  obtain ⟨hk, h0, h4, hle, hok, hat⟩ := h
  have hn := hk.n
  refine of_X6_nameAt hd (fun G hG => s_X6_nameAt_0 hG ?_)
  simp only [b_X6_nameAt_0, b_X6_nameAt_8, b_X6_nameAt_17, b_X6_nameAt_18, o_c, o_il, o_al, o_is, o_as, o_inc, o_add, o_sub, o_mul, o_and, o_or, o_xor, o_shl, o_shr, o_ush, o_rem, o_dup, o_dup2, o_gf, o_pf, o_pz, o_iald, o_iast, o_zald, o_zast, o_aald, o_gs, o_min, o_acp, o_call, o_callv, zgf, zpf, zia_, zza_, zra_, zrd_, zcp_, zpop, zsm8_0, zsm8_1, zsm8_2, zsm8_3, zsm8_4, zsm8_5, zrc, zisob, t_ieq, t_ilt, t_igt, t_zeq, t_zlt, t_zgt, t_sw, zsw, t_iret, t_zret, t_aret, t_vret, zrg, List.getElem?_cons_zero, List.getElem?_cons_succ, List.set_cons_zero, List.set_cons_succ, List.length_cons, List.length_nil, Option.toList_some, Option.toList_none, List.nil_append, List.cons_append, true_and, and_true, true_or, or_true, Int.cast_ofNat_Int, Int.natCast_zero, Int.natCast_one, hk.ob, hk.c1, hk.c2, hk.c3]
  refine zcall (c_X6_hasSlot hh hs) ?_
  unfold zrg at hs
  simp only [b_X6_nameAt_0, b_X6_nameAt_8, b_X6_nameAt_17, b_X6_nameAt_18, o_c, o_il, o_al, o_is, o_as, o_inc, o_add, o_sub, o_mul, o_and, o_or, o_xor, o_shl, o_shr, o_ush, o_rem, o_dup, o_dup2, o_gf, o_pf, o_pz, o_iald, o_iast, o_zald, o_zast, o_aald, o_gs, o_min, o_acp, o_call, o_callv, zgf, zpf, zia_, zza_, zra_, zrd_, zcp_, zpop, zsm8_0, zsm8_1, zsm8_2, zsm8_3, zsm8_4, zsm8_5, zrc, zisob, t_ieq, t_ilt, t_igt, t_zeq, t_zlt, t_zgt, t_sw, zsw, t_iret, t_zret, t_aret, t_vret, zrg, List.getElem?_cons_zero, List.getElem?_cons_succ, List.set_cons_zero, List.set_cons_succ, List.length_cons, List.length_nil, Option.toList_some, Option.toList_none, List.nil_append, List.cons_append, true_and, and_true, true_or, or_true, Int.cast_ofNat_Int, Int.natCast_zero, Int.natCast_one, hk.ob, hk.c1, hk.c2, hk.c3]
  unfold zhas
  split
  · rename_i hc
    obtain ⟨j, rfl⟩ := Int.eq_ofNat_of_zero_le hc.1
    have hj : j < L.length := by omega
    have a4 := (hat j L[j] (List.getElem?_eq_getElem hj)).1
    have e : znam L (j : Int) = L[j].1 := by simp [znam, hj]
    rw [e]
    repeat' (first | with_reducible apply And.intro | intro _)
    all_goals first | omega | rfl | trivial | decide | (exfalso; omega) | (rw [a4])
  · rename_i hc
    have e : znam L slot = -1 := by
      unfold znam
      by_cases h1 : 0 ≤ slot
      · have : L.length ≤ slot.toNat := by omega
        simp [h1, List.getElem?_eq_none this]
      · simp [h1]
    rw [e]
    repeat' (first | with_reducible apply And.intro | intro _)
    all_goals first | omega | rfl | trivial | decide | (exfalso; omega)
set_option maxRecDepth 100000 in
set_option maxHeartbeats 4000000 in
theorem c_X6_sizeAt {d : Nat} {μ : zM} {k : Nat} {n slot : Int} {L : List zBk} (hd : 1 ≤ d) (h : zSH μ k n L) (hs : zrg slot) : zCt d mX6_sizeAt [.inr (some k), .inl slot] μ (zR (.inl (zp_size (zoat L slot))) μ) := by
  have hh := h
  obtain ⟨hk, h0, h4, hle, hok, hat⟩ := h
  have hn := hk.n
  refine of_X6_sizeAt hd (fun G hG => s_X6_sizeAt_0 hG ?_)
  simp only [b_X6_sizeAt_0, b_X6_sizeAt_8, b_X6_sizeAt_17, b_X6_sizeAt_18, o_c, o_il, o_al, o_is, o_as, o_inc, o_add, o_sub, o_mul, o_and, o_or, o_xor, o_shl, o_shr, o_ush, o_rem, o_dup, o_dup2, o_gf, o_pf, o_pz, o_iald, o_iast, o_zald, o_zast, o_aald, o_gs, o_min, o_acp, o_call, o_callv, zgf, zpf, zia_, zza_, zra_, zrd_, zcp_, zpop, zsm8_0, zsm8_1, zsm8_2, zsm8_3, zsm8_4, zsm8_5, zrc, zisob, t_ieq, t_ilt, t_igt, t_zeq, t_zlt, t_zgt, t_sw, zsw, t_iret, t_zret, t_aret, t_vret, zrg, List.getElem?_cons_zero, List.getElem?_cons_succ, List.set_cons_zero, List.set_cons_succ, List.length_cons, List.length_nil, Option.toList_some, Option.toList_none, List.nil_append, List.cons_append, true_and, and_true, true_or, or_true, Int.cast_ofNat_Int, Int.natCast_zero, Int.natCast_one, hk.ob, hk.c1, hk.c2, hk.c3]
  refine zcall (c_X6_hasSlot hh hs) ?_
  unfold zrg at hs
  simp only [b_X6_sizeAt_0, b_X6_sizeAt_8, b_X6_sizeAt_17, b_X6_sizeAt_18, o_c, o_il, o_al, o_is, o_as, o_inc, o_add, o_sub, o_mul, o_and, o_or, o_xor, o_shl, o_shr, o_ush, o_rem, o_dup, o_dup2, o_gf, o_pf, o_pz, o_iald, o_iast, o_zald, o_zast, o_aald, o_gs, o_min, o_acp, o_call, o_callv, zgf, zpf, zia_, zza_, zra_, zrd_, zcp_, zpop, zsm8_0, zsm8_1, zsm8_2, zsm8_3, zsm8_4, zsm8_5, zrc, zisob, t_ieq, t_ilt, t_igt, t_zeq, t_zlt, t_zgt, t_sw, zsw, t_iret, t_zret, t_aret, t_vret, zrg, List.getElem?_cons_zero, List.getElem?_cons_succ, List.set_cons_zero, List.set_cons_succ, List.length_cons, List.length_nil, Option.toList_some, Option.toList_none, List.nil_append, List.cons_append, true_and, and_true, true_or, or_true, Int.cast_ofNat_Int, Int.natCast_zero, Int.natCast_one, hk.ob, hk.c1, hk.c2, hk.c3]
  unfold zhas
  rcases zoat_cases L slot with ⟨hb, ho⟩ | ⟨s, b, rfl, hlt, hb, ho⟩
  · rw [ho, if_neg (by omega)]
    repeat' (first | with_reducible apply And.intro | intro _)
    all_goals first | omega | rfl | trivial | decide | (exfalso; omega)
  · rw [ho, if_pos (by omega)]
    obtain ⟨a1, a2, a3⟩ := hat s b hb
    repeat' (first | with_reducible apply And.intro | intro _)
    all_goals first | omega | rfl | trivial | decide | (exfalso; omega) | (rw [a2]; rfl)
theorem zixf_drop {nm : Int} {L : List zBk} {i : Nat} (h : i < L.length) : zixf nm (L.drop i) i = if L[i].1 = nm then (i : Int) else zixf nm (L.drop (i + 1)) ((i + 1 : Nat) : Int) := by
  rw [List.drop_eq_getElem_cons h]
  simp [zixf]
set_option maxRecDepth 100000 in
set_option maxHeartbeats 4000000 in
theorem c_X6_slotOf {d : Nat} {μ : zM} {k : Nat} {n nm : Int} {L : List zBk} (h : zSH μ k n L) (hs : zrg nm) : zCt d mX6_slotOf [.inr (some k), .inl nm] μ (zR (.inl (zix L nm)) μ) := by
  obtain ⟨hk, h0, h4, hle, hok, hat⟩ := h
  have hn := hk.n
  unfold zrg at hs
  refine of_X6_slotOf (fun G hG => s_X6_slotOf_0 hG ?_)
  simp only [b_X6_slotOf_0, b_X6_slotOf_2, b_X6_slotOf_10, b_X6_slotOf_20, b_X6_slotOf_22, b_X6_slotOf_28, o_c, o_il, o_al, o_is, o_as, o_inc, o_add, o_sub, o_mul, o_and, o_or, o_xor, o_shl, o_shr, o_ush, o_rem, o_dup, o_dup2, o_gf, o_pf, o_pz, o_iald, o_iast, o_zald, o_zast, o_aald, o_gs, o_min, o_acp, o_call, o_callv, zgf, zpf, zia_, zza_, zra_, zrd_, zcp_, zpop, zsm8_0, zsm8_1, zsm8_2, zsm8_3, zsm8_4, zsm8_5, zrc, zisob, t_ieq, t_ilt, t_igt, t_zeq, t_zlt, t_zgt, t_sw, zsw, t_iret, t_zret, t_aret, t_vret, zrg, List.getElem?_cons_zero, List.getElem?_cons_succ, List.set_cons_zero, List.set_cons_succ, List.length_cons, List.length_nil, Option.toList_some, Option.toList_none, List.nil_append, List.cons_append, true_and, and_true, true_or, or_true, Int.cast_ofNat_Int, Int.natCast_zero, Int.natCast_one, hk.ob, hk.c1, hk.c2, hk.c3]
  have loop : ∀ (r i : Nat), L.length - i = r → i ≤ L.length → zix L nm = zixf nm (L.drop i) i → G 2 [.inr (some k), .inl nm, .inl (i : Int)] [] μ := by
    intro r
    induction r with
    | zero =>
      intro i h1 h2 h3
      refine s_X6_slotOf_2 hG ?_
      have e : i = L.length := by omega
      subst e
      rw [List.drop_length] at h3
      simp only [b_X6_slotOf_0, b_X6_slotOf_2, b_X6_slotOf_10, b_X6_slotOf_20, b_X6_slotOf_22, b_X6_slotOf_28, o_c, o_il, o_al, o_is, o_as, o_inc, o_add, o_sub, o_mul, o_and, o_or, o_xor, o_shl, o_shr, o_ush, o_rem, o_dup, o_dup2, o_gf, o_pf, o_pz, o_iald, o_iast, o_zald, o_zast, o_aald, o_gs, o_min, o_acp, o_call, o_callv, zgf, zpf, zia_, zza_, zra_, zrd_, zcp_, zpop, zsm8_0, zsm8_1, zsm8_2, zsm8_3, zsm8_4, zsm8_5, zrc, zisob, t_ieq, t_ilt, t_igt, t_zeq, t_zlt, t_zgt, t_sw, zsw, t_iret, t_zret, t_aret, t_vret, zrg, List.getElem?_cons_zero, List.getElem?_cons_succ, List.set_cons_zero, List.set_cons_succ, List.length_cons, List.length_nil, Option.toList_some, Option.toList_none, List.nil_append, List.cons_append, true_and, and_true, true_or, or_true, Int.cast_ofNat_Int, Int.natCast_zero, Int.natCast_one, hk.ob, hk.c1, hk.c2, hk.c3]
      repeat' (first | with_reducible apply And.intro | intro _)
      all_goals first | omega | rfl | trivial | decide | (exfalso; omega) | (rw [h3]; rfl)
    | succ r ih =>
      intro i h1 h2 h3
      have hi : i < L.length := by omega
      rw [zixf_drop hi] at h3
      have a1 := (hat i L[i] (List.getElem?_eq_getElem hi)).1
      have a2 := (hok L[i] (List.getElem_mem hi)).1
      refine s_X6_slotOf_2 hG ?_
      simp only [b_X6_slotOf_0, b_X6_slotOf_2, b_X6_slotOf_10, b_X6_slotOf_20, b_X6_slotOf_22, b_X6_slotOf_28, o_c, o_il, o_al, o_is, o_as, o_inc, o_add, o_sub, o_mul, o_and, o_or, o_xor, o_shl, o_shr, o_ush, o_rem, o_dup, o_dup2, o_gf, o_pf, o_pz, o_iald, o_iast, o_zald, o_zast, o_aald, o_gs, o_min, o_acp, o_call, o_callv, zgf, zpf, zia_, zza_, zra_, zrd_, zcp_, zpop, zsm8_0, zsm8_1, zsm8_2, zsm8_3, zsm8_4, zsm8_5, zrc, zisob, t_ieq, t_ilt, t_igt, t_zeq, t_zlt, t_zgt, t_sw, zsw, t_iret, t_zret, t_aret, t_vret, zrg, List.getElem?_cons_zero, List.getElem?_cons_succ, List.set_cons_zero, List.set_cons_succ, List.length_cons, List.length_nil, Option.toList_some, Option.toList_none, List.nil_append, List.cons_append, true_and, and_true, true_or, or_true, Int.cast_ofNat_Int, Int.natCast_zero, Int.natCast_one, hk.ob, hk.c1, hk.c2, hk.c3]
      refine ⟨by omega, by omega, fun _ => ⟨by omega, by omega, by omega, fun e => ?_, fun e => ?_⟩, fun _ => by omega⟩
      · rw [if_pos (by omega)] at h3
        exact ⟨by rw [h3], rfl⟩
      · rw [if_neg (by omega)] at h3
        exact ih (i + 1) (by omega) (by omega) h3
  exact loop L.length 0 (by omega) (by omega) rfl
