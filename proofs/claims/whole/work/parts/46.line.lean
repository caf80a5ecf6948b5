/-! THE LINE -/
abbrev zMg : Type := (Int × Int × Int) × zBk
def zLI (μ : zM) (Ms : List zMg) : Prop := zSH μ 41 24 (Ms.map (·.2)) ∧ zAR μ 45 (Ms.map (·.1.1)) ∧ zAR μ 46 (Ms.map (·.1.2.1)) ∧ zAR μ 47 (Ms.map (·.1.2.2)) ∧ ∀ m ∈ Ms, (0 ≤ m.1.1 ∧ m.1.1 ≤ 2) ∧ (0 ≤ m.1.2.1 ∧ m.1.2.1 ≤ 2) ∧ (0 ≤ m.1.2.2 ∧ m.1.2.2 ≤ 2)
theorem zLI.len {μ : zM} {Ms : List zMg} (h : zLI μ Ms) : Ms.length ≤ 24 := by
  have := h.1.2.2.2.1
  simp at this
  omega
theorem zLI.fr {μ μ' : zM} {Ms : List zMg} {S : List Nat} (h : zLI μ Ms) (f : zfr S μ μ') (hS : ∀ c ∈ S, c < 41 ∨ 47 < c) : zLI μ' Ms := by
  have key : ∀ c, 41 ≤ c → c ≤ 47 → μ' c = μ c := fun c h1 h2 => f c (fun w => by have := hS c w; omega)
  obtain ⟨h1, h2, h3, h4, h5⟩ := h
  exact ⟨h1.fr f (fun c hc => by have := hS c hc; omega), h2.of (key 45 (by omega) (by omega)), h3.of (key 46 (by omega) (by omega)), h4.of (key 47 (by omega) (by omega)), h5⟩
set_option maxRecDepth 100000 in
set_option maxHeartbeats 4000000 in
theorem c_X3_rows {d : Nat} {μ : zM} : zCt d mX3_rows [.inr (some 40)] μ (zR (.inr (some 41)) μ) := by
  refine of_X3_rows (fun G hG => s_X3_rows_0 hG ?_)
  simp only [b_X3_rows_0, o_c, o_il, o_al, o_is, o_as, o_inc, o_add, o_sub, o_mul, o_and, o_or, o_xor, o_shl, o_shr, o_ush, o_rem, o_dup, o_dup2, o_gf, o_pf, o_pz, o_iald, o_iast, o_zald, o_zast, o_aald, o_gs, o_min, o_acp, o_call, o_callv, zgf, zpf, zia_, zza_, zra_, zrd_, zcp_, zpop, zsm8_0, zsm8_1, zsm8_2, zsm8_3, zsm8_4, zsm8_5, zrc, zisob, t_ieq, t_ilt, t_igt, t_zeq, t_zlt, t_zgt, t_sw, zsw, t_iret, t_zret, t_aret, t_vret, zrg, List.getElem?_cons_zero, List.getElem?_cons_succ, List.set_cons_zero, List.set_cons_succ, List.length_cons, List.length_nil, Option.toList_some, Option.toList_none, List.nil_append, List.cons_append, true_and, and_true, true_or, or_true, Int.cast_ofNat_Int, Int.natCast_zero, Int.natCast_one, zsh_40]
  exact ⟨rfl, rfl⟩
set_option maxRecDepth 100000 in
set_option maxHeartbeats 4000000 in
theorem c_X3_count {d : Nat} {μ : zM} {Ms : List zMg} (hd : 1 ≤ d) (h : zLI μ Ms) : zCt d mX3_count [.inr (some 40)] μ (zR (.inl Ms.length) μ) := by
  refine of_X3_count hd (fun G hG => s_X3_count_0 hG ?_)
  simp only [b_X3_count_0, o_c, o_il, o_al, o_is, o_as, o_inc, o_add, o_sub, o_mul, o_and, o_or, o_xor, o_shl, o_shr, o_ush, o_rem, o_dup, o_dup2, o_gf, o_pf, o_pz, o_iald, o_iast, o_zald, o_zast, o_aald, o_gs, o_min, o_acp, o_call, o_callv, zgf, zpf, zia_, zza_, zra_, zrd_, zcp_, zpop, zsm8_0, zsm8_1, zsm8_2, zsm8_3, zsm8_4, zsm8_5, zrc, zisob, t_ieq, t_ilt, t_igt, t_zeq, t_zlt, t_zgt, t_sw, zsw, t_iret, t_zret, t_aret, t_vret, zrg, List.getElem?_cons_zero, List.getElem?_cons_succ, List.set_cons_zero, List.set_cons_succ, List.length_cons, List.length_nil, Option.toList_some, Option.toList_none, List.nil_append, List.cons_append, true_and, and_true, true_or, or_true, Int.cast_ofNat_Int, Int.natCast_zero, Int.natCast_one, zsh_40, zsh_41]
  refine zcall (c_X6_count h.1) ?_
  simp only [b_X3_count_0, o_c, o_il, o_al, o_is, o_as, o_inc, o_add, o_sub, o_mul, o_and, o_or, o_xor, o_shl, o_shr, o_ush, o_rem, o_dup, o_dup2, o_gf, o_pf, o_pz, o_iald, o_iast, o_zald, o_zast, o_aald, o_gs, o_min, o_acp, o_call, o_callv, zgf, zpf, zia_, zza_, zra_, zrd_, zcp_, zpop, zsm8_0, zsm8_1, zsm8_2, zsm8_3, zsm8_4, zsm8_5, zrc, zisob, t_ieq, t_ilt, t_igt, t_zeq, t_zlt, t_zgt, t_sw, zsw, t_iret, t_zret, t_aret, t_vret, zrg, List.getElem?_cons_zero, List.getElem?_cons_succ, List.set_cons_zero, List.set_cons_succ, List.length_cons, List.length_nil, Option.toList_some, Option.toList_none, List.nil_append, List.cons_append, true_and, and_true, true_or, or_true, Int.cast_ofNat_Int, Int.natCast_zero, Int.natCast_one, zsh_40, zsh_41]
  exact ⟨by simp, rfl⟩
set_option maxRecDepth 100000 in
set_option maxHeartbeats 4000000 in
theorem c_X3_has {d : Nat} {μ : zM} {Ms : List zMg} {k : Int} (hd : 1 ≤ d) (h : zLI μ Ms) (hk : zrg k) : zCt d mX3_has [.inr (some 40), .inl k] μ (zR (.inl (if 0 ≤ k ∧ k < Ms.length then 1 else 0)) μ) := by
  refine of_X3_has hd (fun G hG => s_X3_has_0 hG ?_)
  simp only [b_X3_has_0, o_c, o_il, o_al, o_is, o_as, o_inc, o_add, o_sub, o_mul, o_and, o_or, o_xor, o_shl, o_shr, o_ush, o_rem, o_dup, o_dup2, o_gf, o_pf, o_pz, o_iald, o_iast, o_zald, o_zast, o_aald, o_gs, o_min, o_acp, o_call, o_callv, zgf, zpf, zia_, zza_, zra_, zrd_, zcp_, zpop, zsm8_0, zsm8_1, zsm8_2, zsm8_3, zsm8_4, zsm8_5, zrc, zisob, t_ieq, t_ilt, t_igt, t_zeq, t_zlt, t_zgt, t_sw, zsw, t_iret, t_zret, t_aret, t_vret, zrg, List.getElem?_cons_zero, List.getElem?_cons_succ, List.set_cons_zero, List.set_cons_succ, List.length_cons, List.length_nil, Option.toList_some, Option.toList_none, List.nil_append, List.cons_append, true_and, and_true, true_or, or_true, Int.cast_ofNat_Int, Int.natCast_zero, Int.natCast_one, zsh_40, zsh_41]
  refine zcall (c_X6_hasSlot h.1 hk) ?_
  simp only [b_X3_has_0, o_c, o_il, o_al, o_is, o_as, o_inc, o_add, o_sub, o_mul, o_and, o_or, o_xor, o_shl, o_shr, o_ush, o_rem, o_dup, o_dup2, o_gf, o_pf, o_pz, o_iald, o_iast, o_zald, o_zast, o_aald, o_gs, o_min, o_acp, o_call, o_callv, zgf, zpf, zia_, zza_, zra_, zrd_, zcp_, zpop, zsm8_0, zsm8_1, zsm8_2, zsm8_3, zsm8_4, zsm8_5, zrc, zisob, t_ieq, t_ilt, t_igt, t_zeq, t_zlt, t_zgt, t_sw, zsw, t_iret, t_zret, t_aret, t_vret, zrg, List.getElem?_cons_zero, List.getElem?_cons_succ, List.set_cons_zero, List.set_cons_succ, List.length_cons, List.length_nil, Option.toList_some, Option.toList_none, List.nil_append, List.cons_append, true_and, and_true, true_or, or_true, Int.cast_ofNat_Int, Int.natCast_zero, Int.natCast_one, zsh_40, zsh_41]
  unfold zhas
  rw [List.length_map]
  split
  · exact ⟨by omega, rfl, rfl⟩
  · exact ⟨by omega, rfl, rfl⟩
theorem zLI.at {μ : zM} {Ms : List zMg} {i : Nat} {m : zMg} (h : zLI μ Ms) (hm : Ms[i]? = some m) : μ 45 i = m.1.1 ∧ μ 46 i = m.1.2.1 ∧ μ 47 i = m.1.2.2 := ⟨h.2.1 i _ (by simp [hm]), h.2.2.1 i _ (by simp [hm]), h.2.2.2.1 i _ (by simp [hm])⟩
set_option maxRecDepth 100000 in
set_option maxHeartbeats 4000000 in
theorem c_X3_kindAt {d : Nat} {μ : zM} {Ms : List zMg} {i : Nat} {m : zMg} (hd : 2 ≤ d) (h : zLI μ Ms) (hm : Ms[i]? = some m) : zCt d mX3_kindAt [.inr (some 40), .inl (i : Int)] μ (zR (.inl m.1.1) μ) := by
  have hl := (List.getElem?_eq_some_iff.mp hm).1
  have hl24 := h.len
  refine of_X3_kindAt (by omega) (fun G hG => s_X3_kindAt_0 hG ?_)
  simp only [b_X3_kindAt_0, b_X3_kindAt_8, b_X3_kindAt_17, b_X3_kindAt_18, o_c, o_il, o_al, o_is, o_as, o_inc, o_add, o_sub, o_mul, o_and, o_or, o_xor, o_shl, o_shr, o_ush, o_rem, o_dup, o_dup2, o_gf, o_pf, o_pz, o_iald, o_iast, o_zald, o_zast, o_aald, o_gs, o_min, o_acp, o_call, o_callv, zgf, zpf, zia_, zza_, zra_, zrd_, zcp_, zpop, zsm8_0, zsm8_1, zsm8_2, zsm8_3, zsm8_4, zsm8_5, zrc, zisob, t_ieq, t_ilt, t_igt, t_zeq, t_zlt, t_zgt, t_sw, zsw, t_iret, t_zret, t_aret, t_vret, zrg, List.getElem?_cons_zero, List.getElem?_cons_succ, List.set_cons_zero, List.set_cons_succ, List.length_cons, List.length_nil, Option.toList_some, Option.toList_none, List.nil_append, List.cons_append, true_and, and_true, true_or, or_true, Int.cast_ofNat_Int, Int.natCast_zero, Int.natCast_one, zsh_40, zsh_45]
  refine zcall (c_X3_has (by omega) h ⟨by omega, by omega⟩) ?_
  rw [if_pos (by omega)]
  simp only [b_X3_kindAt_0, b_X3_kindAt_8, b_X3_kindAt_17, b_X3_kindAt_18, o_c, o_il, o_al, o_is, o_as, o_inc, o_add, o_sub, o_mul, o_and, o_or, o_xor, o_shl, o_shr, o_ush, o_rem, o_dup, o_dup2, o_gf, o_pf, o_pz, o_iald, o_iast, o_zald, o_zast, o_aald, o_gs, o_min, o_acp, o_call, o_callv, zgf, zpf, zia_, zza_, zra_, zrd_, zcp_, zpop, zsm8_0, zsm8_1, zsm8_2, zsm8_3, zsm8_4, zsm8_5, zrc, zisob, t_ieq, t_ilt, t_igt, t_zeq, t_zlt, t_zgt, t_sw, zsw, t_iret, t_zret, t_aret, t_vret, zrg, List.getElem?_cons_zero, List.getElem?_cons_succ, List.set_cons_zero, List.set_cons_succ, List.length_cons, List.length_nil, Option.toList_some, Option.toList_none, List.nil_append, List.cons_append, true_and, and_true, true_or, or_true, Int.cast_ofNat_Int, Int.natCast_zero, Int.natCast_one, zsh_40, zsh_45]
  exact ⟨by omega, fun w => by omega, fun _ => ⟨by omega, by rw [(h.at hm).1], rfl⟩⟩
set_option maxRecDepth 100000 in
set_option maxHeartbeats 4000000 in
theorem c_X3_senderAt {d : Nat} {μ : zM} {Ms : List zMg} {i : Nat} {m : zMg} (hd : 2 ≤ d) (h : zLI μ Ms) (hm : Ms[i]? = some m) : zCt d mX3_senderAt [.inr (some 40), .inl (i : Int)] μ (zR (.inl m.1.2.1) μ) := by
  have hl := (List.getElem?_eq_some_iff.mp hm).1
  have hl24 := h.len
  refine of_X3_senderAt (by omega) (fun G hG => s_X3_senderAt_0 hG ?_)
  simp only [b_X3_senderAt_0, b_X3_senderAt_8, b_X3_senderAt_17, b_X3_senderAt_18, o_c, o_il, o_al, o_is, o_as, o_inc, o_add, o_sub, o_mul, o_and, o_or, o_xor, o_shl, o_shr, o_ush, o_rem, o_dup, o_dup2, o_gf, o_pf, o_pz, o_iald, o_iast, o_zald, o_zast, o_aald, o_gs, o_min, o_acp, o_call, o_callv, zgf, zpf, zia_, zza_, zra_, zrd_, zcp_, zpop, zsm8_0, zsm8_1, zsm8_2, zsm8_3, zsm8_4, zsm8_5, zrc, zisob, t_ieq, t_ilt, t_igt, t_zeq, t_zlt, t_zgt, t_sw, zsw, t_iret, t_zret, t_aret, t_vret, zrg, List.getElem?_cons_zero, List.getElem?_cons_succ, List.set_cons_zero, List.set_cons_succ, List.length_cons, List.length_nil, Option.toList_some, Option.toList_none, List.nil_append, List.cons_append, true_and, and_true, true_or, or_true, Int.cast_ofNat_Int, Int.natCast_zero, Int.natCast_one, zsh_40, zsh_46]
  refine zcall (c_X3_has (by omega) h ⟨by omega, by omega⟩) ?_
  rw [if_pos (by omega)]
  simp only [b_X3_senderAt_0, b_X3_senderAt_8, b_X3_senderAt_17, b_X3_senderAt_18, o_c, o_il, o_al, o_is, o_as, o_inc, o_add, o_sub, o_mul, o_and, o_or, o_xor, o_shl, o_shr, o_ush, o_rem, o_dup, o_dup2, o_gf, o_pf, o_pz, o_iald, o_iast, o_zald, o_zast, o_aald, o_gs, o_min, o_acp, o_call, o_callv, zgf, zpf, zia_, zza_, zra_, zrd_, zcp_, zpop, zsm8_0, zsm8_1, zsm8_2, zsm8_3, zsm8_4, zsm8_5, zrc, zisob, t_ieq, t_ilt, t_igt, t_zeq, t_zlt, t_zgt, t_sw, zsw, t_iret, t_zret, t_aret, t_vret, zrg, List.getElem?_cons_zero, List.getElem?_cons_succ, List.set_cons_zero, List.set_cons_succ, List.length_cons, List.length_nil, Option.toList_some, Option.toList_none, List.nil_append, List.cons_append, true_and, and_true, true_or, or_true, Int.cast_ofNat_Int, Int.natCast_zero, Int.natCast_one, zsh_40, zsh_46]
  exact ⟨by omega, fun w => by omega, fun _ => ⟨by omega, by rw [(h.at hm).2.1], rfl⟩⟩
set_option maxRecDepth 100000 in
set_option maxHeartbeats 4000000 in
theorem c_X3_receiverAt {d : Nat} {μ : zM} {Ms : List zMg} {i : Nat} {m : zMg} (hd : 2 ≤ d) (h : zLI μ Ms) (hm : Ms[i]? = some m) : zCt d mX3_receiverAt [.inr (some 40), .inl (i : Int)] μ (zR (.inl m.1.2.2) μ) := by
  have hl := (List.getElem?_eq_some_iff.mp hm).1
  have hl24 := h.len
  refine of_X3_receiverAt (by omega) (fun G hG => s_X3_receiverAt_0 hG ?_)
  simp only [b_X3_receiverAt_0, b_X3_receiverAt_8, b_X3_receiverAt_17, b_X3_receiverAt_18, o_c, o_il, o_al, o_is, o_as, o_inc, o_add, o_sub, o_mul, o_and, o_or, o_xor, o_shl, o_shr, o_ush, o_rem, o_dup, o_dup2, o_gf, o_pf, o_pz, o_iald, o_iast, o_zald, o_zast, o_aald, o_gs, o_min, o_acp, o_call, o_callv, zgf, zpf, zia_, zza_, zra_, zrd_, zcp_, zpop, zsm8_0, zsm8_1, zsm8_2, zsm8_3, zsm8_4, zsm8_5, zrc, zisob, t_ieq, t_ilt, t_igt, t_zeq, t_zlt, t_zgt, t_sw, zsw, t_iret, t_zret, t_aret, t_vret, zrg, List.getElem?_cons_zero, List.getElem?_cons_succ, List.set_cons_zero, List.set_cons_succ, List.length_cons, List.length_nil, Option.toList_some, Option.toList_none, List.nil_append, List.cons_append, true_and, and_true, true_or, or_true, Int.cast_ofNat_Int, Int.natCast_zero, Int.natCast_one, zsh_40, zsh_47]
  refine zcall (c_X3_has (by omega) h ⟨by omega, by omega⟩) ?_
  rw [if_pos (by omega)]
  simp only [b_X3_receiverAt_0, b_X3_receiverAt_8, b_X3_receiverAt_17, b_X3_receiverAt_18, o_c, o_il, o_al, o_is, o_as, o_inc, o_add, o_sub, o_mul, o_and, o_or, o_xor, o_shl, o_shr, o_ush, o_rem, o_dup, o_dup2, o_gf, o_pf, o_pz, o_iald, o_iast, o_zald, o_zast, o_aald, o_gs, o_min, o_acp, o_call, o_callv, zgf, zpf, zia_, zza_, zra_, zrd_, zcp_, zpop, zsm8_0, zsm8_1, zsm8_2, zsm8_3, zsm8_4, zsm8_5, zrc, zisob, t_ieq, t_ilt, t_igt, t_zeq, t_zlt, t_zgt, t_sw, zsw, t_iret, t_zret, t_aret, t_vret, zrg, List.getElem?_cons_zero, List.getElem?_cons_succ, List.set_cons_zero, List.set_cons_succ, List.length_cons, List.length_nil, Option.toList_some, Option.toList_none, List.nil_append, List.cons_append, true_and, and_true, true_or, or_true, Int.cast_ofNat_Int, Int.natCast_zero, Int.natCast_one, zsh_40, zsh_47]
  exact ⟨by omega, fun w => by omega, fun _ => ⟨by omega, by rw [(h.at hm).2.2], rfl⟩⟩
set_option maxRecDepth 100000 in
set_option maxHeartbeats 4000000 in
theorem c_X3_nameAt {d : Nat} {μ : zM} {Ms : List zMg} {i : Nat} {m : zMg} (hd : 2 ≤ d) (h : zLI μ Ms) (hm : Ms[i]? = some m) : zCt d mX3_nameAt [.inr (some 40), .inl (i : Int)] μ (zR (.inl m.2.1) μ) := by
  have hl := (List.getElem?_eq_some_iff.mp hm).1
  have hl24 := h.len
  refine of_X3_nameAt (by omega) (fun G hG => s_X3_nameAt_0 hG ?_)
  simp only [b_X3_nameAt_0, o_c, o_il, o_al, o_is, o_as, o_inc, o_add, o_sub, o_mul, o_and, o_or, o_xor, o_shl, o_shr, o_ush, o_rem, o_dup, o_dup2, o_gf, o_pf, o_pz, o_iald, o_iast, o_zald, o_zast, o_aald, o_gs, o_min, o_acp, o_call, o_callv, zgf, zpf, zia_, zza_, zra_, zrd_, zcp_, zpop, zsm8_0, zsm8_1, zsm8_2, zsm8_3, zsm8_4, zsm8_5, zrc, zisob, t_ieq, t_ilt, t_igt, t_zeq, t_zlt, t_zgt, t_sw, zsw, t_iret, t_zret, t_aret, t_vret, zrg, List.getElem?_cons_zero, List.getElem?_cons_succ, List.set_cons_zero, List.set_cons_succ, List.length_cons, List.length_nil, Option.toList_some, Option.toList_none, List.nil_append, List.cons_append, true_and, and_true, true_or, or_true, Int.cast_ofNat_Int, Int.natCast_zero, Int.natCast_one, zsh_40, zsh_41]
  refine zcall (c_X6_nameAt (by omega) h.1 ⟨by omega, by omega⟩) ?_
  simp only [b_X3_nameAt_0, o_c, o_il, o_al, o_is, o_as, o_inc, o_add, o_sub, o_mul, o_and, o_or, o_xor, o_shl, o_shr, o_ush, o_rem, o_dup, o_dup2, o_gf, o_pf, o_pz, o_iald, o_iast, o_zald, o_zast, o_aald, o_gs, o_min, o_acp, o_call, o_callv, zgf, zpf, zia_, zza_, zra_, zrd_, zcp_, zpop, zsm8_0, zsm8_1, zsm8_2, zsm8_3, zsm8_4, zsm8_5, zrc, zisob, t_ieq, t_ilt, t_igt, t_zeq, t_zlt, t_zgt, t_sw, zsw, t_iret, t_zret, t_aret, t_vret, zrg, List.getElem?_cons_zero, List.getElem?_cons_succ, List.set_cons_zero, List.set_cons_succ, List.length_cons, List.length_nil, Option.toList_some, Option.toList_none, List.nil_append, List.cons_append, true_and, and_true, true_or, or_true, Int.cast_ofNat_Int, Int.natCast_zero, Int.natCast_one, zsh_40, zsh_41]
  have e : znam (Ms.map (·.2)) (i : Int) = m.2.1 := by simp [znam, hm]
  rw [e]
  exact ⟨rfl, rfl⟩
set_option maxRecDepth 100000 in
set_option maxHeartbeats 4000000 in
theorem c_X3_writeHead {d : Nat} {μ : zM} {Ms : List zMg} {a b c : Int} (hd : 1 ≤ d) (h : zLI μ Ms) (hl : Ms.length < 24) : zCt d mX3_writeHead [.inr (some 40), .inl a, .inl b, .inl c] μ (fun v μ' => v = none ∧ zSH μ' 41 24 (Ms.map (·.2)) ∧ zAR μ' 45 (Ms.map (·.1.1) ++ [a]) ∧ zAR μ' 46 (Ms.map (·.1.2.1) ++ [b]) ∧ zAR μ' 47 (Ms.map (·.1.2.2) ++ [c]) ∧ zfr [45, 46, 47] μ μ') := by
  obtain ⟨h1, h2, h3, h4, h5⟩ := h
  refine of_X3_writeHead hd (fun G hG => s_X3_writeHead_0 hG ?_)
  simp only [b_X3_writeHead_0, o_c, o_il, o_al, o_is, o_as, o_inc, o_add, o_sub, o_mul, o_and, o_or, o_xor, o_shl, o_shr, o_ush, o_rem, o_dup, o_dup2, o_gf, o_pf, o_pz, o_iald, o_iast, o_zald, o_zast, o_aald, o_gs, o_min, o_acp, o_call, o_callv, zgf, zpf, zia_, zza_, zra_, zrd_, zcp_, zpop, zsm8_0, zsm8_1, zsm8_2, zsm8_3, zsm8_4, zsm8_5, zrc, zisob, t_ieq, t_ilt, t_igt, t_zeq, t_zlt, t_zgt, t_sw, zsw, t_iret, t_zret, t_aret, t_vret, zrg, List.getElem?_cons_zero, List.getElem?_cons_succ, List.set_cons_zero, List.set_cons_succ, List.length_cons, List.length_nil, Option.toList_some, Option.toList_none, List.nil_append, List.cons_append, true_and, and_true, true_or, or_true, Int.cast_ofNat_Int, Int.natCast_zero, Int.natCast_one, zsh_40, zsh_41, zsh_45, zsh_46, zsh_47]
  refine zcall (c_X6_count h1) ?_
  simp only [b_X3_writeHead_0, o_c, o_il, o_al, o_is, o_as, o_inc, o_add, o_sub, o_mul, o_and, o_or, o_xor, o_shl, o_shr, o_ush, o_rem, o_dup, o_dup2, o_gf, o_pf, o_pz, o_iald, o_iast, o_zald, o_zast, o_aald, o_gs, o_min, o_acp, o_call, o_callv, zgf, zpf, zia_, zza_, zra_, zrd_, zcp_, zpop, zsm8_0, zsm8_1, zsm8_2, zsm8_3, zsm8_4, zsm8_5, zrc, zisob, t_ieq, t_ilt, t_igt, t_zeq, t_zlt, t_zgt, t_sw, zsw, t_iret, t_zret, t_aret, t_vret, zrg, List.getElem?_cons_zero, List.getElem?_cons_succ, List.set_cons_zero, List.set_cons_succ, List.length_cons, List.length_nil, Option.toList_some, Option.toList_none, List.nil_append, List.cons_append, true_and, and_true, true_or, or_true, Int.cast_ofNat_Int, Int.natCast_zero, Int.natCast_one, zsh_40, zsh_41, zsh_45, zsh_46, zsh_47]
  rw [List.length_map]
  refine ⟨by omega, by omega, by omega, h1.of (by rw [zup_ne _ (by decide), zup_ne _ (by decide), zup_ne _ (by decide)]) (by rw [zup_ne _ (by decide), zup_ne _ (by decide), zup_ne _ (by decide)]) (by rw [zup_ne _ (by decide), zup_ne _ (by decide), zup_ne _ (by decide)]) (by rw [zup_ne _ (by decide), zup_ne _ (by decide), zup_ne _ (by decide)]), h2.push (fun i hi => ?_) ?_, h3.push (fun i hi => ?_) ?_, h4.push (fun i hi => ?_) ?_, fun x hx => ?_⟩
  · simp at hi
    rw [zup_ne _ (by decide), zup_ne _ (by decide)]
    simp [zup, hi]
  · rw [zup_ne _ (by decide), zup_ne _ (by decide)]
    simp [zup]
  · simp at hi
    rw [zup_ne _ (by decide)]
    simp [zup, hi]
  · rw [zup_ne _ (by decide)]
    simp [zup]
  · simp at hi
    simp [zup, hi]
  · simp [zup]
  · simp only [List.mem_cons, List.not_mem_nil, or_false, not_or] at hx
    rw [zup_ne x hx.2.2, zup_ne x hx.2.1, zup_ne x hx.1]
def zsnd (Ms : List zMg) (m : zMg) : List zMg := if Ms.length < 24 then Ms ++ [m] else Ms
theorem zLI.push {μ : zM} {Ms : List zMg} {m : zMg} (h1 : zSH μ 41 24 (Ms.map (·.2) ++ [m.2])) (h2 : zAR μ 45 (Ms.map (·.1.1) ++ [m.1.1])) (h3 : zAR μ 46 (Ms.map (·.1.2.1) ++ [m.1.2.1])) (h4 : zAR μ 47 (Ms.map (·.1.2.2) ++ [m.1.2.2])) (h5 : ∀ m ∈ Ms, (0 ≤ m.1.1 ∧ m.1.1 ≤ 2) ∧ (0 ≤ m.1.2.1 ∧ m.1.2.1 ≤ 2) ∧ (0 ≤ m.1.2.2 ∧ m.1.2.2 ≤ 2)) (h6 : (0 ≤ m.1.1 ∧ m.1.1 ≤ 2) ∧ (0 ≤ m.1.2.1 ∧ m.1.2.1 ≤ 2) ∧ (0 ≤ m.1.2.2 ∧ m.1.2.2 ≤ 2)) : zLI μ (Ms ++ [m]) := by
  refine ⟨by simpa using h1, by simpa using h2, by simpa using h3, by simpa using h4, fun x hx => ?_⟩
  rcases List.mem_append.mp hx with w | w
  · exact h5 x w
  · rw [List.mem_singleton.mp w]; exact h6
set_option maxRecDepth 100000 in
set_option maxHeartbeats 4000000 in
theorem c_X3_sendName {d : Nat} {μ : zM} {Ms : List zMg} {a b c nm : Int} (hd : 3 ≤ d) (h : zLI μ Ms) (h6 : (0 ≤ a ∧ a ≤ 2) ∧ (0 ≤ b ∧ b ≤ 2) ∧ (0 ≤ c ∧ c ≤ 2)) (hn : 0 ≤ nm ∧ nm ≤ 65520) : zCt d mX3_sendName [.inr (some 40), .inl a, .inl b, .inl c, .inl nm] μ (fun v μ' => v = none ∧ zLI μ' (zsnd Ms ((a, b, c), (nm, []))) ∧ zfr [41, 42, 43, 44, 45, 46, 47] μ μ') := by
  have hl24 := h.len
  refine of_X3_sendName (by omega) (fun G hG => s_X3_sendName_0 hG ?_)
  simp only [b_X3_sendName_0, b_X3_sendName_10, b_X3_sendName_26, o_c, o_il, o_al, o_is, o_as, o_inc, o_add, o_sub, o_mul, o_and, o_or, o_xor, o_shl, o_shr, o_ush, o_rem, o_dup, o_dup2, o_gf, o_pf, o_pz, o_iald, o_iast, o_zald, o_zast, o_aald, o_gs, o_min, o_acp, o_call, o_callv, zgf, zpf, zia_, zza_, zra_, zrd_, zcp_, zpop, zsm8_0, zsm8_1, zsm8_2, zsm8_3, zsm8_4, zsm8_5, zrc, zisob, t_ieq, t_ilt, t_igt, t_zeq, t_zlt, t_zgt, t_sw, zsw, t_iret, t_zret, t_aret, t_vret, zrg, List.getElem?_cons_zero, List.getElem?_cons_succ, List.set_cons_zero, List.set_cons_succ, List.length_cons, List.length_nil, Option.toList_some, Option.toList_none, List.nil_append, List.cons_append, true_and, and_true, true_or, or_true, Int.cast_ofNat_Int, Int.natCast_zero, Int.natCast_one, zsh_40, zsh_41]
  refine zcall (c_X6_isFull h.1) ?_
  simp only [b_X3_sendName_0, b_X3_sendName_10, b_X3_sendName_26, o_c, o_il, o_al, o_is, o_as, o_inc, o_add, o_sub, o_mul, o_and, o_or, o_xor, o_shl, o_shr, o_ush, o_rem, o_dup, o_dup2, o_gf, o_pf, o_pz, o_iald, o_iast, o_zald, o_zast, o_aald, o_gs, o_min, o_acp, o_call, o_callv, zgf, zpf, zia_, zza_, zra_, zrd_, zcp_, zpop, zsm8_0, zsm8_1, zsm8_2, zsm8_3, zsm8_4, zsm8_5, zrc, zisob, t_ieq, t_ilt, t_igt, t_zeq, t_zlt, t_zgt, t_sw, zsw, t_iret, t_zret, t_aret, t_vret, zrg, List.getElem?_cons_zero, List.getElem?_cons_succ, List.set_cons_zero, List.set_cons_succ, List.length_cons, List.length_nil, Option.toList_some, Option.toList_none, List.nil_append, List.cons_append, true_and, and_true, true_or, or_true, Int.cast_ofNat_Int, Int.natCast_zero, Int.natCast_one, zsh_40, zsh_41]
  rw [List.length_map]
  unfold zsnd
  by_cases hc : Ms.length < 24
  · rw [if_neg (by omega), if_pos hc]
    refine ⟨by omega, fun _ => ?_, fun w => absurd rfl w⟩
    refine ⟨_, c_X3_writeHead (by omega) h hc, ?_⟩
    rintro v μ1 ⟨rfl, b1, b2, b3, b4, b5⟩
    simp only [b_X3_sendName_0, b_X3_sendName_10, b_X3_sendName_26, o_c, o_il, o_al, o_is, o_as, o_inc, o_add, o_sub, o_mul, o_and, o_or, o_xor, o_shl, o_shr, o_ush, o_rem, o_dup, o_dup2, o_gf, o_pf, o_pz, o_iald, o_iast, o_zald, o_zast, o_aald, o_gs, o_min, o_acp, o_call, o_callv, zgf, zpf, zia_, zza_, zra_, zrd_, zcp_, zpop, zsm8_0, zsm8_1, zsm8_2, zsm8_3, zsm8_4, zsm8_5, zrc, zisob, t_ieq, t_ilt, t_igt, t_zeq, t_zlt, t_zgt, t_sw, zsw, t_iret, t_zret, t_aret, t_vret, zrg, List.getElem?_cons_zero, List.getElem?_cons_succ, List.set_cons_zero, List.set_cons_succ, List.length_cons, List.length_nil, Option.toList_some, Option.toList_none, List.nil_append, List.cons_append, true_and, and_true, true_or, or_true, Int.cast_ofNat_Int, Int.natCast_zero, Int.natCast_one, zsh_40, zsh_41]
    refine ⟨_, c_X6_appendName (by omega) b1 hn, ?_⟩
    rintro v μ2 ⟨rfl, b6, b7⟩
    simp only [b_X3_sendName_0, b_X3_sendName_10, b_X3_sendName_26, o_c, o_il, o_al, o_is, o_as, o_inc, o_add, o_sub, o_mul, o_and, o_or, o_xor, o_shl, o_shr, o_ush, o_rem, o_dup, o_dup2, o_gf, o_pf, o_pz, o_iald, o_iast, o_zald, o_zast, o_aald, o_gs, o_min, o_acp, o_call, o_callv, zgf, zpf, zia_, zza_, zra_, zrd_, zcp_, zpop, zsm8_0, zsm8_1, zsm8_2, zsm8_3, zsm8_4, zsm8_5, zrc, zisob, t_ieq, t_ilt, t_igt, t_zeq, t_zlt, t_zgt, t_sw, zsw, t_iret, t_zret, t_aret, t_vret, zrg, List.getElem?_cons_zero, List.getElem?_cons_succ, List.set_cons_zero, List.set_cons_succ, List.length_cons, List.length_nil, Option.toList_some, Option.toList_none, List.nil_append, List.cons_append, true_and, and_true, true_or, or_true, Int.cast_ofNat_Int, Int.natCast_zero, Int.natCast_one, zsh_40, zsh_41]
    unfold zapp at b6
    rw [if_pos (by simp; omega)] at b6
    exact ⟨zLI.push b6 (b2.of (b7 45 (by decide))) (b3.of (b7 46 (by decide))) (b4.of (b7 47 (by decide))) h.2.2.2.2 h6, (b5.mono (by simp)).trans (b7.mono (by simp))⟩
  · rw [if_pos (by omega), if_neg hc]
    exact ⟨by omega, fun w => by omega, fun _ => ⟨h, zfr.refl _ _⟩⟩
set_option maxRecDepth 100000 in
set_option maxHeartbeats 4000000 in
theorem c_X3_sendBlock {d : Nat} {μ : zM} {Ms : List zMg} {L : List zBk} {b c n : Int} {k s : Nat} {bk : zBk} (hd : 3 ≤ d) (h : zLI μ Ms) (hL : zSH μ k n L) (hk : k + 3 < 41) (hs : L[s]? = some bk) (h6 : (0 ≤ b ∧ b ≤ 2) ∧ (0 ≤ c ∧ c ≤ 2)) : zCt d mX3_sendBlock [.inr (some 40), .inl b, .inl c, .inr (some k), .inl (s : Int)] μ (fun v μ' => v = none ∧ zLI μ' (zsnd Ms ((1, b, c), bk)) ∧ zfr [41, 42, 43, 44, 45, 46, 47] μ μ') := by
  have hl24 := h.len
  have hsl := (List.getElem?_eq_some_iff.mp hs).1
  have hLl := hL.2.2.2.1
  have hLn := hL.1.n
  refine of_X3_sendBlock (by omega) (fun G hG => s_X3_sendBlock_0 hG ?_)
  simp only [b_X3_sendBlock_0, b_X3_sendBlock_10, b_X3_sendBlock_27, o_c, o_il, o_al, o_is, o_as, o_inc, o_add, o_sub, o_mul, o_and, o_or, o_xor, o_shl, o_shr, o_ush, o_rem, o_dup, o_dup2, o_gf, o_pf, o_pz, o_iald, o_iast, o_zald, o_zast, o_aald, o_gs, o_min, o_acp, o_call, o_callv, zgf, zpf, zia_, zza_, zra_, zrd_, zcp_, zpop, zsm8_0, zsm8_1, zsm8_2, zsm8_3, zsm8_4, zsm8_5, zrc, zisob, t_ieq, t_ilt, t_igt, t_zeq, t_zlt, t_zgt, t_sw, zsw, t_iret, t_zret, t_aret, t_vret, zrg, List.getElem?_cons_zero, List.getElem?_cons_succ, List.set_cons_zero, List.set_cons_succ, List.length_cons, List.length_nil, Option.toList_some, Option.toList_none, List.nil_append, List.cons_append, true_and, and_true, true_or, or_true, Int.cast_ofNat_Int, Int.natCast_zero, Int.natCast_one, zsh_40, zsh_41]
  refine zcall (c_X6_isFull h.1) ?_
  simp only [b_X3_sendBlock_0, b_X3_sendBlock_10, b_X3_sendBlock_27, o_c, o_il, o_al, o_is, o_as, o_inc, o_add, o_sub, o_mul, o_and, o_or, o_xor, o_shl, o_shr, o_ush, o_rem, o_dup, o_dup2, o_gf, o_pf, o_pz, o_iald, o_iast, o_zald, o_zast, o_aald, o_gs, o_min, o_acp, o_call, o_callv, zgf, zpf, zia_, zza_, zra_, zrd_, zcp_, zpop, zsm8_0, zsm8_1, zsm8_2, zsm8_3, zsm8_4, zsm8_5, zrc, zisob, t_ieq, t_ilt, t_igt, t_zeq, t_zlt, t_zgt, t_sw, zsw, t_iret, t_zret, t_aret, t_vret, zrg, List.getElem?_cons_zero, List.getElem?_cons_succ, List.set_cons_zero, List.set_cons_succ, List.length_cons, List.length_nil, Option.toList_some, Option.toList_none, List.nil_append, List.cons_append, true_and, and_true, true_or, or_true, Int.cast_ofNat_Int, Int.natCast_zero, Int.natCast_one, zsh_40, zsh_41]
  rw [List.length_map]
  unfold zsnd
  by_cases hc : Ms.length < 24
  · rw [if_neg (by omega), if_pos hc]
    refine ⟨by omega, fun _ => ?_, fun w => absurd rfl w⟩
    refine ⟨_, c_X3_writeHead (by omega) h hc, ?_⟩
    rintro v μ1 ⟨rfl, b1, b2, b3, b4, b5⟩
    simp only [b_X3_sendBlock_0, b_X3_sendBlock_10, b_X3_sendBlock_27, o_c, o_il, o_al, o_is, o_as, o_inc, o_add, o_sub, o_mul, o_and, o_or, o_xor, o_shl, o_shr, o_ush, o_rem, o_dup, o_dup2, o_gf, o_pf, o_pz, o_iald, o_iast, o_zald, o_zast, o_aald, o_gs, o_min, o_acp, o_call, o_callv, zgf, zpf, zia_, zza_, zra_, zrd_, zcp_, zpop, zsm8_0, zsm8_1, zsm8_2, zsm8_3, zsm8_4, zsm8_5, zrc, zisob, t_ieq, t_ilt, t_igt, t_zeq, t_zlt, t_zgt, t_sw, zsw, t_iret, t_zret, t_aret, t_vret, zrg, List.getElem?_cons_zero, List.getElem?_cons_succ, List.set_cons_zero, List.set_cons_succ, List.length_cons, List.length_nil, Option.toList_some, Option.toList_none, List.nil_append, List.cons_append, true_and, and_true, true_or, or_true, Int.cast_ofNat_Int, Int.natCast_zero, Int.natCast_one, zsh_40, zsh_41]
    have hL1 : zSH μ1 k n L := hL.fr b5 (by simp; omega)
    refine ⟨_, c_X6_appendCopy (by omega) b1 hL1 (s := s) ⟨by omega, by omega⟩, ?_⟩
    rintro v μ2 ⟨rfl, b6, b7⟩
    simp only [b_X3_sendBlock_0, b_X3_sendBlock_10, b_X3_sendBlock_27, o_c, o_il, o_al, o_is, o_as, o_inc, o_add, o_sub, o_mul, o_and, o_or, o_xor, o_shl, o_shr, o_ush, o_rem, o_dup, o_dup2, o_gf, o_pf, o_pz, o_iald, o_iast, o_zald, o_zast, o_aald, o_gs, o_min, o_acp, o_call, o_callv, zgf, zpf, zia_, zza_, zra_, zrd_, zcp_, zpop, zsm8_0, zsm8_1, zsm8_2, zsm8_3, zsm8_4, zsm8_5, zrc, zisob, t_ieq, t_ilt, t_igt, t_zeq, t_zlt, t_zgt, t_sw, zsw, t_iret, t_zret, t_aret, t_vret, zrg, List.getElem?_cons_zero, List.getElem?_cons_succ, List.set_cons_zero, List.set_cons_succ, List.length_cons, List.length_nil, Option.toList_some, Option.toList_none, List.nil_append, List.cons_append, true_and, and_true, true_or, or_true, Int.cast_ofNat_Int, Int.natCast_zero, Int.natCast_one, zsh_40, zsh_41]
    rw [if_pos (by omega)] at b6
    simp only [Int.toNat_natCast, hs] at b6
    unfold zapp at b6
    rw [if_pos (by simp; omega)] at b6
    exact ⟨zLI.push b6 (b2.of (b7 45 (by decide))) (b3.of (b7 46 (by decide))) (b4.of (b7 47 (by decide))) h.2.2.2.2 ⟨⟨show (0 : Int) ≤ 1 by decide, show (1 : Int) ≤ 2 by decide⟩, h6⟩, (b5.mono (by simp)).trans (b7.mono (by simp))⟩
  · rw [if_pos (by omega), if_neg hc]
    exact ⟨by omega, fun w => by omega, fun _ => ⟨h, zfr.refl _ _⟩⟩
theorem zAR.erase {μ μ' : zM} {c i : Nat} {l : List Int} (h : zAR μ c l) (hi : i < l.length) (h1 : ∀ j : Nat, j < i → μ' c j = μ c j) (h2 : ∀ j : Nat, i ≤ j → j + 1 < l.length → μ' c j = μ c (j + 1 : Nat)) : zAR μ' c (l.eraseIdx i) := by
  intro j x hj
  rw [List.getElem?_eraseIdx] at hj
  split at hj
  · rename_i hlt
    rw [h1 j hlt]
    exact h j x hj
  · rename_i hlt
    have := (List.getElem?_eq_some_iff.mp hj).1
    rw [h2 j (by omega) this]
    exact h (j + 1) x hj
theorem zcp_erase {μ : zM} {c i n : Nat} {l : List Int} (h : zAR μ c l) (hi : i < l.length) (hn : l.length = n) : zAR (zcp μ c c ((i : Int) + 1) i ((n : Int) - i - 1)) c (l.eraseIdx i) := by
  refine h.erase hi (fun j hj => ?_) (fun j h1 h2 => ?_)
  · have : ¬ ((i : Int) ≤ j) := by omega
    simp [zcp, this]
  · have a1 : (i : Int) ≤ j := by omega
    have a2 : (j : Int) < i + (n - i - 1) := by omega
    have a3 : (i : Int) + 1 + (j - i) = ((j + 1 : Nat) : Int) := by omega
    simp only [zcp]
    rw [if_pos ⟨trivial, a1, a2⟩, a3]
set_option maxRecDepth 100000 in
set_option maxHeartbeats 4000000 in
theorem c_X3_lose {d : Nat} {μ : zM} {Ms : List zMg} {i : Nat} (hd : 2 ≤ d) (h : zLI μ Ms) (hi : i < Ms.length) : zCt d mX3_lose [.inr (some 40), .inl (i : Int)] μ (fun v μ' => v = none ∧ zLI μ' (Ms.eraseIdx i) ∧ zfr [41, 42, 43, 44, 45, 46, 47] μ μ') := by
  have hl24 := h.len
  have hh := h
  obtain ⟨h1, h2, h3, h4, h5⟩ := h
  refine of_X3_lose (by omega) (fun G hG => s_X3_lose_0 hG ?_)
  simp only [b_X3_lose_0, b_X3_lose_8, b_X3_lose_9, o_c, o_il, o_al, o_is, o_as, o_inc, o_add, o_sub, o_mul, o_and, o_or, o_xor, o_shl, o_shr, o_ush, o_rem, o_dup, o_dup2, o_gf, o_pf, o_pz, o_iald, o_iast, o_zald, o_zast, o_aald, o_gs, o_min, o_acp, o_call, o_callv, zgf, zpf, zia_, zza_, zra_, zrd_, zcp_, zpop, zsm8_0, zsm8_1, zsm8_2, zsm8_3, zsm8_4, zsm8_5, zrc, zisob, t_ieq, t_ilt, t_igt, t_zeq, t_zlt, t_zgt, t_sw, zsw, t_iret, t_zret, t_aret, t_vret, zrg, List.getElem?_cons_zero, List.getElem?_cons_succ, List.set_cons_zero, List.set_cons_succ, List.length_cons, List.length_nil, Option.toList_some, Option.toList_none, List.nil_append, List.cons_append, true_and, and_true, true_or, or_true, Int.cast_ofNat_Int, Int.natCast_zero, Int.natCast_one, zsh_40, zsh_41, zsh_45, zsh_46, zsh_47]
  refine zcall (c_X3_has (by omega) hh ⟨by omega, by omega⟩) ?_
  rw [if_pos (by omega)]
  simp only [b_X3_lose_0, b_X3_lose_8, b_X3_lose_9, o_c, o_il, o_al, o_is, o_as, o_inc, o_add, o_sub, o_mul, o_and, o_or, o_xor, o_shl, o_shr, o_ush, o_rem, o_dup, o_dup2, o_gf, o_pf, o_pz, o_iald, o_iast, o_zald, o_zast, o_aald, o_gs, o_min, o_acp, o_call, o_callv, zgf, zpf, zia_, zza_, zra_, zrd_, zcp_, zpop, zsm8_0, zsm8_1, zsm8_2, zsm8_3, zsm8_4, zsm8_5, zrc, zisob, t_ieq, t_ilt, t_igt, t_zeq, t_zlt, t_zgt, t_sw, zsw, t_iret, t_zret, t_aret, t_vret, zrg, List.getElem?_cons_zero, List.getElem?_cons_succ, List.set_cons_zero, List.set_cons_succ, List.length_cons, List.length_nil, Option.toList_some, Option.toList_none, List.nil_append, List.cons_append, true_and, and_true, true_or, or_true, Int.cast_ofNat_Int, Int.natCast_zero, Int.natCast_one, zsh_40, zsh_41, zsh_45, zsh_46, zsh_47]
  refine ⟨by omega, fun w => by omega, fun _ => ?_⟩
  refine zcall (c_X6_count h1) ?_
  rw [List.length_map]
  simp only [b_X3_lose_0, b_X3_lose_8, b_X3_lose_9, o_c, o_il, o_al, o_is, o_as, o_inc, o_add, o_sub, o_mul, o_and, o_or, o_xor, o_shl, o_shr, o_ush, o_rem, o_dup, o_dup2, o_gf, o_pf, o_pz, o_iald, o_iast, o_zald, o_zast, o_aald, o_gs, o_min, o_acp, o_call, o_callv, zgf, zpf, zia_, zza_, zra_, zrd_, zcp_, zpop, zsm8_0, zsm8_1, zsm8_2, zsm8_3, zsm8_4, zsm8_5, zrc, zisob, t_ieq, t_ilt, t_igt, t_zeq, t_zlt, t_zgt, t_sw, zsw, t_iret, t_zret, t_aret, t_vret, zrg, List.getElem?_cons_zero, List.getElem?_cons_succ, List.set_cons_zero, List.set_cons_succ, List.length_cons, List.length_nil, Option.toList_some, Option.toList_none, List.nil_append, List.cons_append, true_and, and_true, true_or, or_true, Int.cast_ofNat_Int, Int.natCast_zero, Int.natCast_one, zsh_40, zsh_41, zsh_45, zsh_46, zsh_47]
  refine ⟨by omega, by omega, by omega, ?_⟩
  have g1 : zAR (zcp μ 45 45 ((i : Int) + 1) i ((Ms.length : Int) - i - 1)) 45 ((Ms.map (·.1.1)).eraseIdx i) := zcp_erase h2 (by simpa using hi) (by simp)
  generalize hμ1 : zcp μ 45 45 ((i : Int) + 1) i ((Ms.length : Int) - i - 1) = μ1 at g1 ⊢
  have f1 : zfr [45] μ μ1 := fun c hc => by rw [← hμ1]; exact zcp_ne c (by simpa using hc)
  have g2 : zAR (zcp μ1 46 46 ((i : Int) + 1) i ((Ms.length : Int) - i - 1)) 46 ((Ms.map (·.1.2.1)).eraseIdx i) := zcp_erase (h3.of (f1 46 (by decide))) (by simpa using hi) (by simp)
  generalize hμ2 : zcp μ1 46 46 ((i : Int) + 1) i ((Ms.length : Int) - i - 1) = μ2 at g2 ⊢
  have f2 : zfr [46] μ1 μ2 := fun c hc => by rw [← hμ2]; exact zcp_ne c (by simpa using hc)
  have g3 : zAR (zcp μ2 47 47 ((i : Int) + 1) i ((Ms.length : Int) - i - 1)) 47 ((Ms.map (·.1.2.2)).eraseIdx i) := zcp_erase ((h4.of (f1 47 (by decide))).of (f2 47 (by decide))) (by simpa using hi) (by simp)
  generalize hμ3 : zcp μ2 47 47 ((i : Int) + 1) i ((Ms.length : Int) - i - 1) = μ3 at g3 ⊢
  have f3 : zfr [47] μ2 μ3 := fun c hc => by rw [← hμ3]; exact zcp_ne c (by simpa using hc)
  have ff : zfr [45, 46, 47] μ μ3 := ((f1.mono (by simp)).trans (f2.mono (by simp))).trans (f3.mono (by simp))
  refine ⟨_, c_X6_removeSlot (s := i) (by omega) (h1.fr ff (by simp)) (by simpa using hi), ?_⟩
  rintro v μ4 ⟨rfl, b1, b2⟩
  simp only [b_X3_lose_0, b_X3_lose_8, b_X3_lose_9, o_c, o_il, o_al, o_is, o_as, o_inc, o_add, o_sub, o_mul, o_and, o_or, o_xor, o_shl, o_shr, o_ush, o_rem, o_dup, o_dup2, o_gf, o_pf, o_pz, o_iald, o_iast, o_zald, o_zast, o_aald, o_gs, o_min, o_acp, o_call, o_callv, zgf, zpf, zia_, zza_, zra_, zrd_, zcp_, zpop, zsm8_0, zsm8_1, zsm8_2, zsm8_3, zsm8_4, zsm8_5, zrc, zisob, t_ieq, t_ilt, t_igt, t_zeq, t_zlt, t_zgt, t_sw, zsw, t_iret, t_zret, t_aret, t_vret, zrg, List.getElem?_cons_zero, List.getElem?_cons_succ, List.set_cons_zero, List.set_cons_succ, List.length_cons, List.length_nil, Option.toList_some, Option.toList_none, List.nil_append, List.cons_append, true_and, and_true, true_or, or_true, Int.cast_ofNat_Int, Int.natCast_zero, Int.natCast_one, zsh_40, zsh_41, zsh_45, zsh_46, zsh_47]
  have hmap : ∀ {β : Type} (f : zMg → β), (Ms.eraseIdx i).map f = (Ms.map f).eraseIdx i := fun {β} f => by
    apply List.ext_getElem?
    intro j
    rw [List.getElem?_map, List.getElem?_eraseIdx, List.getElem?_eraseIdx]
    split <;> rw [List.getElem?_map]
  refine ⟨⟨by rw [hmap]; exact b1, by rw [hmap]; exact ((g1.of (f2 45 (by decide))).of (f3 45 (by decide))).of (b2 45 (by decide)), by rw [hmap]; exact (g2.of (f3 46 (by decide))).of (b2 46 (by decide)), by rw [hmap]; exact g3.of (b2 47 (by decide)), fun m hm => h5 m (List.mem_of_mem_eraseIdx hm)⟩, (ff.mono (by simp)).trans (b2.mono (by simp))⟩
def zxb (b x : Int) : Int := zxor b (zand x 255)
theorem zxb_rg {b x : Int} (hb : 0 ≤ b ∧ b ≤ 255) : 0 ≤ zxb b x ∧ zxb b x ≤ 255 := by
  unfold zxb
  have e : zand x 255 = x % 256 := zand_m 8 (by omega) (by decide)
  rw [e]
  obtain ⟨p, rfl⟩ := Int.eq_ofNat_of_zero_le hb.1
  obtain ⟨q, hq⟩ := Int.eq_ofNat_of_zero_le (show 0 ≤ x % 256 by omega)
  rw [hq, zxor_nat (by omega) (by omega)]
  have := Nat.xor_lt_two_pow (n := 8) (x := p) (y := q) (by omega) (by omega)
  omega
def zdmg (bs : List Int) (j : Nat) (x : Int) : List Int := bs.set j (zxb (bs.getD j 0) x)
set_option maxRecDepth 100000 in
set_option maxHeartbeats 4000000 in
theorem c_X3_damage {d : Nat} {μ : zM} {Ms : List zMg} {i : Nat} {j x : Int} {m : zMg} (hd : 2 ≤ d) (h : zLI μ Ms) (hm : Ms[i]? = some m) (hj : zrg j) : zCt d mX3_damage [.inr (some 40), .inl (i : Int), .inl j, .inl x] μ (fun v μ' => v = some (.inl (if 0 ≤ j ∧ j < m.2.2.length then 1 else 0)) ∧ zLI μ' (if 0 ≤ j ∧ j < m.2.2.length then Ms.set i (m.1, (zhash (zdmg m.2.2 j.toNat x), zdmg m.2.2 j.toNat x)) else Ms) ∧ zfr [41, 42, 43, 44] μ μ') := by
  have hl24 := h.len
  have hil := (List.getElem?_eq_some_iff.mp hm).1
  have hh := h
  obtain ⟨h1, h2, h3, h4, h5⟩ := h
  have hb : (Ms.map (·.2))[i]? = some m.2 := by simp [hm]
  have hbk := h1.2.2.2.2.1 m.2 (List.mem_of_getElem? hb)
  have hoat : zoat (Ms.map (·.2)) (i : Int) = some m.2.2 := by
    unfold zoat
    rw [if_pos (by omega)]
    simp only [Int.toNat_natCast, hb]
    rfl
  have hj0 := hj
  unfold zrg at hj
  by_cases hc : 0 ≤ j ∧ j < m.2.2.length
  · rw [if_pos hc, if_pos hc]
    obtain ⟨p, rfl⟩ := Int.eq_ofNat_of_zero_le hc.1
    have hp : p < m.2.2.length := by omega
    have hv := hbk.2.2 m.2.2[p] (List.getElem_mem hp)
    refine of_X3_damage (by omega) (fun G hG => s_X3_damage_0 hG ?_)
    simp only [b_X3_damage_0, b_X3_damage_17, b_X3_damage_19, o_c, o_il, o_al, o_is, o_as, o_inc, o_add, o_sub, o_mul, o_and, o_or, o_xor, o_shl, o_shr, o_ush, o_rem, o_dup, o_dup2, o_gf, o_pf, o_pz, o_iald, o_iast, o_zald, o_zast, o_aald, o_gs, o_min, o_acp, o_call, o_callv, zgf, zpf, zia_, zza_, zra_, zrd_, zcp_, zpop, zsm8_0, zsm8_1, zsm8_2, zsm8_3, zsm8_4, zsm8_5, zrc, zisob, t_ieq, t_ilt, t_igt, t_zeq, t_zlt, t_zgt, t_sw, zsw, t_iret, t_zret, t_aret, t_vret, zrg, List.getElem?_cons_zero, List.getElem?_cons_succ, List.set_cons_zero, List.set_cons_succ, List.length_cons, List.length_nil, Option.toList_some, Option.toList_none, List.nil_append, List.cons_append, true_and, and_true, true_or, or_true, Int.cast_ofNat_Int, Int.natCast_zero, Int.natCast_one, zsh_40, zsh_41]
    refine zcall (c_X6_byteAt h1 (slot := i) ⟨by omega, by omega⟩ hj0) ?_
    have hby : zp_byte (zoat (Ms.map (·.2)) (i : Int)) (p : Int) = m.2.2[p] := by rw [hoat]; simp [zp_byte, hp]
    rw [hby]
    simp only [b_X3_damage_0, b_X3_damage_17, b_X3_damage_19, o_c, o_il, o_al, o_is, o_as, o_inc, o_add, o_sub, o_mul, o_and, o_or, o_xor, o_shl, o_shr, o_ush, o_rem, o_dup, o_dup2, o_gf, o_pf, o_pz, o_iald, o_iast, o_zald, o_zast, o_aald, o_gs, o_min, o_acp, o_call, o_callv, zgf, zpf, zia_, zza_, zra_, zrd_, zcp_, zpop, zsm8_0, zsm8_1, zsm8_2, zsm8_3, zsm8_4, zsm8_5, zrc, zisob, t_ieq, t_ilt, t_igt, t_zeq, t_zlt, t_zgt, t_sw, zsw, t_iret, t_zret, t_aret, t_vret, zrg, List.getElem?_cons_zero, List.getElem?_cons_succ, List.set_cons_zero, List.set_cons_succ, List.length_cons, List.length_nil, Option.toList_some, Option.toList_none, List.nil_append, List.cons_append, true_and, and_true, true_or, or_true, Int.cast_ofNat_Int, Int.natCast_zero, Int.natCast_one, zsh_40, zsh_41]
    refine ⟨by omega, by omega, fun w => by omega, fun _ => ?_⟩
    have hx : zxor m.2.2[p] (zand x 255) = zxb m.2.2[p] x := rfl
    rw [hx]
    refine ⟨_, c_X6_changeByte (by omega) h1 hb hp (zxb_rg hv), ?_⟩
    rintro v μ1 ⟨rfl, b1, b2⟩
    simp only [b_X3_damage_0, b_X3_damage_17, b_X3_damage_19, o_c, o_il, o_al, o_is, o_as, o_inc, o_add, o_sub, o_mul, o_and, o_or, o_xor, o_shl, o_shr, o_ush, o_rem, o_dup, o_dup2, o_gf, o_pf, o_pz, o_iald, o_iast, o_zald, o_zast, o_aald, o_gs, o_min, o_acp, o_call, o_callv, zgf, zpf, zia_, zza_, zra_, zrd_, zcp_, zpop, zsm8_0, zsm8_1, zsm8_2, zsm8_3, zsm8_4, zsm8_5, zrc, zisob, t_ieq, t_ilt, t_igt, t_zeq, t_zlt, t_zgt, t_sw, zsw, t_iret, t_zret, t_aret, t_vret, zrg, List.getElem?_cons_zero, List.getElem?_cons_succ, List.set_cons_zero, List.set_cons_succ, List.length_cons, List.length_nil, Option.toList_some, Option.toList_none, List.nil_append, List.cons_append, true_and, and_true, true_or, or_true, Int.cast_ofNat_Int, Int.natCast_zero, Int.natCast_one, zsh_40, zsh_41]
    have ez : zdmg m.2.2 p x = m.2.2.set p (zxb m.2.2[p] x) := by simp [zdmg, hp]
    simp only [Int.toNat_natCast, ez]
    have hset : ∀ {β : Type} (f : zMg → β) (y : zMg), (Ms.set i y).map f = (Ms.map f).set i (f y) := fun {β} f y => by rw [List.map_set]
    refine ⟨⟨by rw [hset]; exact b1, ?_, ?_, ?_, fun y hy => ?_⟩, b2⟩
    · rw [hset]
      have e : (Ms.map (·.1.1)).set i m.1.1 = Ms.map (·.1.1) := by
        apply List.ext_getElem?
        intro j
        rw [List.getElem?_set]
        by_cases e : i = j
        · subst e; simp [hil, hm, (List.getElem?_eq_some_iff.mp hm).2]
        · rw [if_neg e]
      rw [e]
      exact h2.of (b2 45 (by decide))
    · rw [hset]
      have e : (Ms.map (·.1.2.1)).set i m.1.2.1 = Ms.map (·.1.2.1) := by
        apply List.ext_getElem?
        intro j
        rw [List.getElem?_set]
        by_cases e : i = j
        · subst e; simp [hil, hm, (List.getElem?_eq_some_iff.mp hm).2]
        · rw [if_neg e]
      rw [e]
      exact h3.of (b2 46 (by decide))
    · rw [hset]
      have e : (Ms.map (·.1.2.2)).set i m.1.2.2 = Ms.map (·.1.2.2) := by
        apply List.ext_getElem?
        intro j
        rw [List.getElem?_set]
        by_cases e : i = j
        · subst e; simp [hil, hm, (List.getElem?_eq_some_iff.mp hm).2]
        · rw [if_neg e]
      rw [e]
      exact h4.of (b2 47 (by decide))
    · rcases List.mem_or_eq_of_mem_set hy with w | w
      · exact h5 y w
      · rw [w]; exact h5 m (List.mem_of_getElem? hm)
  · rw [if_neg hc, if_neg hc]
    refine of_X3_damage (by omega) (fun G hG => s_X3_damage_0 hG ?_)
    simp only [b_X3_damage_0, b_X3_damage_17, b_X3_damage_19, o_c, o_il, o_al, o_is, o_as, o_inc, o_add, o_sub, o_mul, o_and, o_or, o_xor, o_shl, o_shr, o_ush, o_rem, o_dup, o_dup2, o_gf, o_pf, o_pz, o_iald, o_iast, o_zald, o_zast, o_aald, o_gs, o_min, o_acp, o_call, o_callv, zgf, zpf, zia_, zza_, zra_, zrd_, zcp_, zpop, zsm8_0, zsm8_1, zsm8_2, zsm8_3, zsm8_4, zsm8_5, zrc, zisob, t_ieq, t_ilt, t_igt, t_zeq, t_zlt, t_zgt, t_sw, zsw, t_iret, t_zret, t_aret, t_vret, zrg, List.getElem?_cons_zero, List.getElem?_cons_succ, List.set_cons_zero, List.set_cons_succ, List.length_cons, List.length_nil, Option.toList_some, Option.toList_none, List.nil_append, List.cons_append, true_and, and_true, true_or, or_true, Int.cast_ofNat_Int, Int.natCast_zero, Int.natCast_one, zsh_40, zsh_41]
    refine zcall (c_X6_byteAt h1 (slot := i) ⟨by omega, by omega⟩ hj0) ?_
    have hby : zp_byte (zoat (Ms.map (·.2)) (i : Int)) j = -1 := by
      rw [hoat]
      unfold zp_byte
      by_cases hj1 : 0 ≤ j
      · have : m.2.2.length ≤ j.toNat := by omega
        simp [hj1, List.getElem?_eq_none this]
      · simp [hj1]
    rw [hby]
    simp only [b_X3_damage_0, b_X3_damage_17, b_X3_damage_19, o_c, o_il, o_al, o_is, o_as, o_inc, o_add, o_sub, o_mul, o_and, o_or, o_xor, o_shl, o_shr, o_ush, o_rem, o_dup, o_dup2, o_gf, o_pf, o_pz, o_iald, o_iast, o_zald, o_zast, o_aald, o_gs, o_min, o_acp, o_call, o_callv, zgf, zpf, zia_, zza_, zra_, zrd_, zcp_, zpop, zsm8_0, zsm8_1, zsm8_2, zsm8_3, zsm8_4, zsm8_5, zrc, zisob, t_ieq, t_ilt, t_igt, t_zeq, t_zlt, t_zgt, t_sw, zsw, t_iret, t_zret, t_aret, t_vret, zrg, List.getElem?_cons_zero, List.getElem?_cons_succ, List.set_cons_zero, List.set_cons_succ, List.length_cons, List.length_nil, Option.toList_some, Option.toList_none, List.nil_append, List.cons_append, true_and, and_true, true_or, or_true, Int.cast_ofNat_Int, Int.natCast_zero, Int.natCast_one, zsh_40, zsh_41]
    exact ⟨by omega, by omega, fun _ => ⟨hh, zfr.refl _ _⟩, fun w => absurd trivial w⟩
