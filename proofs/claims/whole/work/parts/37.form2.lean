/-! FORMS: lengths, good blocks; PATHS -/
theorem zcnt_rg {μ : zM} {k : Nat} {n : Int} {L : List zBk} (h : zSH μ k n L) (s : Int) : -1 ≤ zcnt (zoat L s) ∧ zcnt (zoat L s) ≤ 255 := by
  have h1 := h.byt s 1
  unfold zcnt
  split
  · exact h1
  · split
    · have : ∀ (f x : Nat), zpcn f x ≤ f := by
        intro f
        induction f with
        | zero => intro x; simp [zpcn]
        | succ f ih => intro x; simp only [zpcn]; have := ih (x / 2); omega
      have := this 16 (zp_byte (zoat L s) 1).toNat
      unfold zpc
      omega
    · omega
theorem zsum_rg {f : Int → Int} {B : Int} (hB : ∀ i, -257 ≤ f i ∧ f i ≤ 65535) : ∀ n : Nat, -(257 * (n : Int)) ≤ zsum f n ∧ zsum f n ≤ 65535 * (n : Int) := by
  intro n
  induction n with
  | zero => simp [zsum]
  | succ n ih => have := hB n; simp only [zsum]; omega
set_option maxRecDepth 100000 in
set_option maxHeartbeats 4000000 in
theorem c_X2_lengthAt {d : Nat} {μ : zM} {k : Nat} {n slot : Int} {L : List zBk} (hd : 2 ≤ d) (h : zSH μ k n L) (hs : zrg slot) : zCt d mX2_lengthAt [.inr (some k), .inl slot] μ (zR (.inl (zlen (zoat L slot))) μ) := by
  have hb := h.byt slot 0
  have hb1 := h.byt slot 1
  refine of_X2_lengthAt (by omega) (fun G hG => s_X2_lengthAt_0 hG ?_)
  simp only [b_X2_lengthAt_0, b_X2_lengthAt_8, b_X2_lengthAt_10, b_X2_lengthAt_18, b_X2_lengthAt_26, b_X2_lengthAt_30, b_X2_lengthAt_39, b_X2_lengthAt_54, o_c, o_il, o_al, o_is, o_as, o_inc, o_add, o_sub, o_mul, o_and, o_or, o_xor, o_shl, o_shr, o_ush, o_rem, o_dup, o_dup2, o_gf, o_pf, o_pz, o_iald, o_iast, o_zald, o_zast, o_aald, o_gs, o_min, o_acp, o_call, o_callv, zgf, zpf, zia_, zza_, zra_, zrd_, zcp_, zpop, zsm8_0, zsm8_1, zsm8_2, zsm8_3, zsm8_4, zsm8_5, zrc, zisob, t_ieq, t_ilt, t_igt, t_zeq, t_zlt, t_zgt, t_sw, zsw, t_iret, t_zret, t_aret, t_vret, zrg, List.getElem?_cons_zero, List.getElem?_cons_succ, List.set_cons_zero, List.set_cons_succ, List.length_cons, List.length_nil, Option.toList_some, Option.toList_none, List.nil_append, List.cons_append, true_and, and_true, true_or, or_true, Int.cast_ofNat_Int, Int.natCast_zero, Int.natCast_one, h.1.ob]
  refine zcall (c_X2_isFile (by omega) h hs) ?_
  simp only [b_X2_lengthAt_0, b_X2_lengthAt_8, b_X2_lengthAt_10, b_X2_lengthAt_18, b_X2_lengthAt_26, b_X2_lengthAt_30, b_X2_lengthAt_39, b_X2_lengthAt_54, o_c, o_il, o_al, o_is, o_as, o_inc, o_add, o_sub, o_mul, o_and, o_or, o_xor, o_shl, o_shr, o_ush, o_rem, o_dup, o_dup2, o_gf, o_pf, o_pz, o_iald, o_iast, o_zald, o_zast, o_aald, o_gs, o_min, o_acp, o_call, o_callv, zgf, zpf, zia_, zza_, zra_, zrd_, zcp_, zpop, zsm8_0, zsm8_1, zsm8_2, zsm8_3, zsm8_4, zsm8_5, zrc, zisob, t_ieq, t_ilt, t_igt, t_zeq, t_zlt, t_zgt, t_sw, zsw, t_iret, t_zret, t_aret, t_vret, zrg, List.getElem?_cons_zero, List.getElem?_cons_succ, List.set_cons_zero, List.set_cons_succ, List.length_cons, List.length_nil, Option.toList_some, Option.toList_none, List.nil_append, List.cons_append, true_and, and_true, true_or, or_true, Int.cast_ofNat_Int, Int.natCast_zero, Int.natCast_one, h.1.ob]
  by_cases hf : zknd (zoat L slot) = 0 ∨ zknd (zoat L slot) = 1
  · rw [if_pos hf]
    refine ⟨by omega, fun w => by omega, fun _ => ?_⟩
    refine zcall (c_X6_kindAt h hs) ?_
    simp only [b_X2_lengthAt_0, b_X2_lengthAt_8, b_X2_lengthAt_10, b_X2_lengthAt_18, b_X2_lengthAt_26, b_X2_lengthAt_30, b_X2_lengthAt_39, b_X2_lengthAt_54, o_c, o_il, o_al, o_is, o_as, o_inc, o_add, o_sub, o_mul, o_and, o_or, o_xor, o_shl, o_shr, o_ush, o_rem, o_dup, o_dup2, o_gf, o_pf, o_pz, o_iald, o_iast, o_zald, o_zast, o_aald, o_gs, o_min, o_acp, o_call, o_callv, zgf, zpf, zia_, zza_, zra_, zrd_, zcp_, zpop, zsm8_0, zsm8_1, zsm8_2, zsm8_3, zsm8_4, zsm8_5, zrc, zisob, t_ieq, t_ilt, t_igt, t_zeq, t_zlt, t_zgt, t_sw, zsw, t_iret, t_zret, t_aret, t_vret, zrg, List.getElem?_cons_zero, List.getElem?_cons_succ, List.set_cons_zero, List.set_cons_succ, List.length_cons, List.length_nil, Option.toList_some, Option.toList_none, List.nil_append, List.cons_append, true_and, and_true, true_or, or_true, Int.cast_ofNat_Int, Int.natCast_zero, Int.natCast_one, h.1.ob]
    refine ⟨by omega, fun e => ?_, fun e => ?_⟩
    · refine zcall (c_X6_sizeAt (by omega) h hs) ?_
      simp only [b_X2_lengthAt_0, b_X2_lengthAt_8, b_X2_lengthAt_10, b_X2_lengthAt_18, b_X2_lengthAt_26, b_X2_lengthAt_30, b_X2_lengthAt_39, b_X2_lengthAt_54, o_c, o_il, o_al, o_is, o_as, o_inc, o_add, o_sub, o_mul, o_and, o_or, o_xor, o_shl, o_shr, o_ush, o_rem, o_dup, o_dup2, o_gf, o_pf, o_pz, o_iald, o_iast, o_zald, o_zast, o_aald, o_gs, o_min, o_acp, o_call, o_callv, zgf, zpf, zia_, zza_, zra_, zrd_, zcp_, zpop, zsm8_0, zsm8_1, zsm8_2, zsm8_3, zsm8_4, zsm8_5, zrc, zisob, t_ieq, t_ilt, t_igt, t_zeq, t_zlt, t_zgt, t_sw, zsw, t_iret, t_zret, t_aret, t_vret, zrg, List.getElem?_cons_zero, List.getElem?_cons_succ, List.set_cons_zero, List.set_cons_succ, List.length_cons, List.length_nil, Option.toList_some, Option.toList_none, List.nil_append, List.cons_append, true_and, and_true, true_or, or_true, Int.cast_ofNat_Int, Int.natCast_zero, Int.natCast_one, h.1.ob]
      unfold zlen zknd
      rw [if_pos e]
      exact ⟨rfl, rfl⟩
    · have hk1 : zknd (zoat L slot) = 1 := by
        rcases hf with hf | hf
        · exact absurd hf e
        · exact hf
      have hc : zcnt (zoat L slot) = zp_byte (zoat L slot) 1 := by unfold zcnt; rw [if_pos (Or.inl hk1)]
      have hl : zlen (zoat L slot) = zsum (zpsz (zoat L slot)) (zp_byte (zoat L slot) 1).toNat := by
        unfold zlen; rw [if_neg (by omega), if_pos hk1]
      have loop : ∀ (r i : Nat), i + r = (zp_byte (zoat L slot) 1).toNat → G 30 [.inr (some k), .inl slot, .inl (zsum (zpsz (zoat L slot)) i), .inl (i : Int)] [] μ := by
        intro r
        induction r with
        | zero =>
          intro i h1
          refine s_X2_lengthAt_30 hG ?_
          simp only [b_X2_lengthAt_0, b_X2_lengthAt_8, b_X2_lengthAt_10, b_X2_lengthAt_18, b_X2_lengthAt_26, b_X2_lengthAt_30, b_X2_lengthAt_39, b_X2_lengthAt_54, o_c, o_il, o_al, o_is, o_as, o_inc, o_add, o_sub, o_mul, o_and, o_or, o_xor, o_shl, o_shr, o_ush, o_rem, o_dup, o_dup2, o_gf, o_pf, o_pz, o_iald, o_iast, o_zald, o_zast, o_aald, o_gs, o_min, o_acp, o_call, o_callv, zgf, zpf, zia_, zza_, zra_, zrd_, zcp_, zpop, zsm8_0, zsm8_1, zsm8_2, zsm8_3, zsm8_4, zsm8_5, zrc, zisob, t_ieq, t_ilt, t_igt, t_zeq, t_zlt, t_zgt, t_sw, zsw, t_iret, t_zret, t_aret, t_vret, zrg, List.getElem?_cons_zero, List.getElem?_cons_succ, List.set_cons_zero, List.set_cons_succ, List.length_cons, List.length_nil, Option.toList_some, Option.toList_none, List.nil_append, List.cons_append, true_and, and_true, true_or, or_true, Int.cast_ofNat_Int, Int.natCast_zero, Int.natCast_one, h.1.ob]
          refine zcall (c_X2_partCount (by omega) h hs (by omega)) ?_
          simp only [b_X2_lengthAt_0, b_X2_lengthAt_8, b_X2_lengthAt_10, b_X2_lengthAt_18, b_X2_lengthAt_26, b_X2_lengthAt_30, b_X2_lengthAt_39, b_X2_lengthAt_54, o_c, o_il, o_al, o_is, o_as, o_inc, o_add, o_sub, o_mul, o_and, o_or, o_xor, o_shl, o_shr, o_ush, o_rem, o_dup, o_dup2, o_gf, o_pf, o_pz, o_iald, o_iast, o_zald, o_zast, o_aald, o_gs, o_min, o_acp, o_call, o_callv, zgf, zpf, zia_, zza_, zra_, zrd_, zcp_, zpop, zsm8_0, zsm8_1, zsm8_2, zsm8_3, zsm8_4, zsm8_5, zrc, zisob, t_ieq, t_ilt, t_igt, t_zeq, t_zlt, t_zgt, t_sw, zsw, t_iret, t_zret, t_aret, t_vret, zrg, List.getElem?_cons_zero, List.getElem?_cons_succ, List.set_cons_zero, List.set_cons_succ, List.length_cons, List.length_nil, Option.toList_some, Option.toList_none, List.nil_append, List.cons_append, true_and, and_true, true_or, or_true, Int.cast_ofNat_Int, Int.natCast_zero, Int.natCast_one, h.1.ob]
          rw [hc, hl]
          refine ⟨by omega, by omega, fun _ => by omega, fun _ => ?_⟩
          have : i = (zp_byte (zoat L slot) 1).toNat := by omega
          rw [this]
          exact ⟨rfl, rfl⟩
        | succ r ih =>
          intro i h1
          refine s_X2_lengthAt_30 hG ?_
          simp only [b_X2_lengthAt_0, b_X2_lengthAt_8, b_X2_lengthAt_10, b_X2_lengthAt_18, b_X2_lengthAt_26, b_X2_lengthAt_30, b_X2_lengthAt_39, b_X2_lengthAt_54, o_c, o_il, o_al, o_is, o_as, o_inc, o_add, o_sub, o_mul, o_and, o_or, o_xor, o_shl, o_shr, o_ush, o_rem, o_dup, o_dup2, o_gf, o_pf, o_pz, o_iald, o_iast, o_zald, o_zast, o_aald, o_gs, o_min, o_acp, o_call, o_callv, zgf, zpf, zia_, zza_, zra_, zrd_, zcp_, zpop, zsm8_0, zsm8_1, zsm8_2, zsm8_3, zsm8_4, zsm8_5, zrc, zisob, t_ieq, t_ilt, t_igt, t_zeq, t_zlt, t_zgt, t_sw, zsw, t_iret, t_zret, t_aret, t_vret, zrg, List.getElem?_cons_zero, List.getElem?_cons_succ, List.set_cons_zero, List.set_cons_succ, List.length_cons, List.length_nil, Option.toList_some, Option.toList_none, List.nil_append, List.cons_append, true_and, and_true, true_or, or_true, Int.cast_ofNat_Int, Int.natCast_zero, Int.natCast_one, h.1.ob]
          refine zcall (c_X2_partCount (by omega) h hs (by omega)) ?_
          simp only [b_X2_lengthAt_0, b_X2_lengthAt_8, b_X2_lengthAt_10, b_X2_lengthAt_18, b_X2_lengthAt_26, b_X2_lengthAt_30, b_X2_lengthAt_39, b_X2_lengthAt_54, o_c, o_il, o_al, o_is, o_as, o_inc, o_add, o_sub, o_mul, o_and, o_or, o_xor, o_shl, o_shr, o_ush, o_rem, o_dup, o_dup2, o_gf, o_pf, o_pz, o_iald, o_iast, o_zald, o_zast, o_aald, o_gs, o_min, o_acp, o_call, o_callv, zgf, zpf, zia_, zza_, zra_, zrd_, zcp_, zpop, zsm8_0, zsm8_1, zsm8_2, zsm8_3, zsm8_4, zsm8_5, zrc, zisob, t_ieq, t_ilt, t_igt, t_zeq, t_zlt, t_zgt, t_sw, zsw, t_iret, t_zret, t_aret, t_vret, zrg, List.getElem?_cons_zero, List.getElem?_cons_succ, List.set_cons_zero, List.set_cons_succ, List.length_cons, List.length_nil, Option.toList_some, Option.toList_none, List.nil_append, List.cons_append, true_and, and_true, true_or, or_true, Int.cast_ofNat_Int, Int.natCast_zero, Int.natCast_one, h.1.ob]
          rw [hc]
          refine ⟨by omega, by omega, fun _ => ?_, fun _ => by omega⟩
          refine zcall (c_X2_partSize (by omega) h hs (by omega)) ?_
          simp only [b_X2_lengthAt_0, b_X2_lengthAt_8, b_X2_lengthAt_10, b_X2_lengthAt_18, b_X2_lengthAt_26, b_X2_lengthAt_30, b_X2_lengthAt_39, b_X2_lengthAt_54, o_c, o_il, o_al, o_is, o_as, o_inc, o_add, o_sub, o_mul, o_and, o_or, o_xor, o_shl, o_shr, o_ush, o_rem, o_dup, o_dup2, o_gf, o_pf, o_pz, o_iald, o_iast, o_zald, o_zast, o_aald, o_gs, o_min, o_acp, o_call, o_callv, zgf, zpf, zia_, zza_, zra_, zrd_, zcp_, zpop, zsm8_0, zsm8_1, zsm8_2, zsm8_3, zsm8_4, zsm8_5, zrc, zisob, t_ieq, t_ilt, t_igt, t_zeq, t_zlt, t_zgt, t_sw, zsw, t_iret, t_zret, t_aret, t_vret, zrg, List.getElem?_cons_zero, List.getElem?_cons_succ, List.set_cons_zero, List.set_cons_succ, List.length_cons, List.length_nil, Option.toList_some, Option.toList_none, List.nil_append, List.cons_append, true_and, and_true, true_or, or_true, Int.cast_ofNat_Int, Int.natCast_zero, Int.natCast_one, h.1.ob]
          exact ih (i + 1) (by omega)
      exact loop (zp_byte (zoat L slot) 1).toNat 0 (by omega)
  · rw [if_neg hf]
    have e : zlen (zoat L slot) = -1 := by
      unfold zlen
      rw [if_neg (by omega), if_neg (by omega)]
    rw [e]
    repeat' (first | with_reducible apply And.intro | intro _)
    all_goals first | omega | rfl | trivial | decide | (exfalso; omega)
theorem zlen_rg {μ : zM} {k : Nat} {n : Int} {L : List zBk} (h : zSH μ k n L) (s : Int) : -100000 ≤ zlen (zoat L s) ∧ zlen (zoat L s) ≤ 20000000 := by
  have h1 := h.byt s 1
  unfold zlen
  split
  · have := h.oat s
    unfold zp_size
    cases hz : zoat L s with
    | none => simp
    | some bs =>
      have := (h.oat s bs hz).1
      simp only
      omega
  · split
    · have := zsum_rg (B := 0) (f := zpsz (zoat L s)) (fun i => h.pair s _) (zp_byte (zoat L s) 1).toNat
      omega
    · omega
def zgs (kd x : Int) : Prop := (kd = 1 ∧ 1 ≤ x ∧ x ≤ 4) ∨ (kd = 2 ∧ 0 ≤ x ∧ x ≤ 4) ∨ (¬ kd = 1 ∧ ¬ kd = 2 ∧ 1 ≤ x ∧ x ≤ 15)
set_option maxRecDepth 100000 in
set_option maxHeartbeats 4000000 in
theorem c_X2_hasGoodSecond {d : Nat} {μ : zM} {kd x : Int} (hk : zrg kd) (hx : zrg x) : zCt d mX2_hasGoodSecond [.inl kd, .inl x] μ (zR (.inl (zb (zgs kd x))) μ) := by
  unfold zrg at hk hx
  by_cases hc : zgs kd x
  · rw [zb_t hc]
    unfold zgs at hc
    refine of_X2_hasGoodSecond (fun G hG => s_X2_hasGoodSecond_0 hG ?_)
    simp only [b_X2_hasGoodSecond_0, b_X2_hasGoodSecond_28, b_X2_hasGoodSecond_33, b_X2_hasGoodSecond_38, b_X2_hasGoodSecond_42, b_X2_hasGoodSecond_43, b_X2_hasGoodSecond_44, b_X2_hasGoodSecond_48, b_X2_hasGoodSecond_53, b_X2_hasGoodSecond_57, b_X2_hasGoodSecond_58, b_X2_hasGoodSecond_59, b_X2_hasGoodSecond_64, b_X2_hasGoodSecond_70, b_X2_hasGoodSecond_74, b_X2_hasGoodSecond_75, o_c, o_il, o_al, o_is, o_as, o_inc, o_add, o_sub, o_mul, o_and, o_or, o_xor, o_shl, o_shr, o_ush, o_rem, o_dup, o_dup2, o_gf, o_pf, o_pz, o_iald, o_iast, o_zald, o_zast, o_aald, o_gs, o_min, o_acp, o_call, o_callv, zgf, zpf, zia_, zza_, zra_, zrd_, zcp_, zpop, zsm8_0, zsm8_1, zsm8_2, zsm8_3, zsm8_4, zsm8_5, zrc, zisob, t_ieq, t_ilt, t_igt, t_zeq, t_zlt, t_zgt, t_sw, zsw, t_iret, t_zret, t_aret, t_vret, zrg, List.getElem?_cons_zero, List.getElem?_cons_succ, List.set_cons_zero, List.set_cons_succ, List.length_cons, List.length_nil, Option.toList_some, Option.toList_none, List.nil_append, List.cons_append, true_and, and_true, true_or, or_true, Int.cast_ofNat_Int, Int.natCast_zero, Int.natCast_one]
    repeat' (first | with_reducible apply And.intro | intro _)
    all_goals first | omega | rfl | trivial | decide | (exfalso; omega)
  · rw [zb_f hc]
    unfold zgs at hc
    refine of_X2_hasGoodSecond (fun G hG => s_X2_hasGoodSecond_0 hG ?_)
    simp only [b_X2_hasGoodSecond_0, b_X2_hasGoodSecond_28, b_X2_hasGoodSecond_33, b_X2_hasGoodSecond_38, b_X2_hasGoodSecond_42, b_X2_hasGoodSecond_43, b_X2_hasGoodSecond_44, b_X2_hasGoodSecond_48, b_X2_hasGoodSecond_53, b_X2_hasGoodSecond_57, b_X2_hasGoodSecond_58, b_X2_hasGoodSecond_59, b_X2_hasGoodSecond_64, b_X2_hasGoodSecond_70, b_X2_hasGoodSecond_74, b_X2_hasGoodSecond_75, o_c, o_il, o_al, o_is, o_as, o_inc, o_add, o_sub, o_mul, o_and, o_or, o_xor, o_shl, o_shr, o_ush, o_rem, o_dup, o_dup2, o_gf, o_pf, o_pz, o_iald, o_iast, o_zald, o_zast, o_aald, o_gs, o_min, o_acp, o_call, o_callv, zgf, zpf, zia_, zza_, zra_, zrd_, zcp_, zpop, zsm8_0, zsm8_1, zsm8_2, zsm8_3, zsm8_4, zsm8_5, zrc, zisob, t_ieq, t_ilt, t_igt, t_zeq, t_zlt, t_zgt, t_sw, zsw, t_iret, t_zret, t_aret, t_vret, zrg, List.getElem?_cons_zero, List.getElem?_cons_succ, List.set_cons_zero, List.set_cons_succ, List.length_cons, List.length_nil, Option.toList_some, Option.toList_none, List.nil_append, List.cons_append, true_and, and_true, true_or, or_true, Int.cast_ofNat_Int, Int.natCast_zero, Int.natCast_one]
    repeat' (first | with_reducible apply And.intro | intro _)
    all_goals first | omega | rfl | trivial | decide | (exfalso; omega)
set_option maxRecDepth 100000 in
set_option maxHeartbeats 4000000 in
theorem c_X10_isName {d : Nat} {μ : zM} {x : Int} (hx : zrg x) : zCt d mX10_isName [.inl x] μ (zR (.inl (zb (0 ≤ x ∧ x ≤ 65520))) μ) := by
  unfold zrg at hx
  by_cases hc : 0 ≤ x ∧ x ≤ 65520
  · rw [zb_t hc]
    refine of_X10_isName (fun G hG => s_X10_isName_0 hG ?_)
    simp only [b_X10_isName_0, b_X10_isName_4, b_X10_isName_10, b_X10_isName_14, b_X10_isName_15, o_c, o_il, o_al, o_is, o_as, o_inc, o_add, o_sub, o_mul, o_and, o_or, o_xor, o_shl, o_shr, o_ush, o_rem, o_dup, o_dup2, o_gf, o_pf, o_pz, o_iald, o_iast, o_zald, o_zast, o_aald, o_gs, o_min, o_acp, o_call, o_callv, zgf, zpf, zia_, zza_, zra_, zrd_, zcp_, zpop, zsm8_0, zsm8_1, zsm8_2, zsm8_3, zsm8_4, zsm8_5, zrc, zisob, t_ieq, t_ilt, t_igt, t_zeq, t_zlt, t_zgt, t_sw, zsw, t_iret, t_zret, t_aret, t_vret, zrg, List.getElem?_cons_zero, List.getElem?_cons_succ, List.set_cons_zero, List.set_cons_succ, List.length_cons, List.length_nil, Option.toList_some, Option.toList_none, List.nil_append, List.cons_append, true_and, and_true, true_or, or_true, Int.cast_ofNat_Int, Int.natCast_zero, Int.natCast_one]
    repeat' (first | with_reducible apply And.intro | intro _)
    all_goals first | omega | rfl | trivial | decide | (exfalso; omega)
  · rw [zb_f hc]
    refine of_X10_isName (fun G hG => s_X10_isName_0 hG ?_)
    simp only [b_X10_isName_0, b_X10_isName_4, b_X10_isName_10, b_X10_isName_14, b_X10_isName_15, o_c, o_il, o_al, o_is, o_as, o_inc, o_add, o_sub, o_mul, o_and, o_or, o_xor, o_shl, o_shr, o_ush, o_rem, o_dup, o_dup2, o_gf, o_pf, o_pz, o_iald, o_iast, o_zald, o_zast, o_aald, o_gs, o_min, o_acp, o_call, o_callv, zgf, zpf, zia_, zza_, zra_, zrd_, zcp_, zpop, zsm8_0, zsm8_1, zsm8_2, zsm8_3, zsm8_4, zsm8_5, zrc, zisob, t_ieq, t_ilt, t_igt, t_zeq, t_zlt, t_zgt, t_sw, zsw, t_iret, t_zret, t_aret, t_vret, zrg, List.getElem?_cons_zero, List.getElem?_cons_succ, List.set_cons_zero, List.set_cons_succ, List.length_cons, List.length_nil, Option.toList_some, Option.toList_none, List.nil_append, List.cons_append, true_and, and_true, true_or, or_true, Int.cast_ofNat_Int, Int.natCast_zero, Int.natCast_one]
    repeat' (first | with_reducible apply And.intro | intro _)
    all_goals first | omega | rfl | trivial | decide | (exfalso; omega)
set_option maxRecDepth 100000 in
set_option maxHeartbeats 4000000 in
theorem c_X10_isStore {d : Nat} {μ : zM} {x : Int} (hx : zrg x) : zCt d mX10_isStore [.inl x] μ (zR (.inl (zb (0 ≤ x ∧ x ≤ 2))) μ) := by
  unfold zrg at hx
  by_cases hc : 0 ≤ x ∧ x ≤ 2
  · rw [zb_t hc]
    refine of_X10_isStore (fun G hG => s_X10_isStore_0 hG ?_)
    simp only [b_X10_isStore_0, b_X10_isStore_4, b_X10_isStore_9, b_X10_isStore_13, b_X10_isStore_14, o_c, o_il, o_al, o_is, o_as, o_inc, o_add, o_sub, o_mul, o_and, o_or, o_xor, o_shl, o_shr, o_ush, o_rem, o_dup, o_dup2, o_gf, o_pf, o_pz, o_iald, o_iast, o_zald, o_zast, o_aald, o_gs, o_min, o_acp, o_call, o_callv, zgf, zpf, zia_, zza_, zra_, zrd_, zcp_, zpop, zsm8_0, zsm8_1, zsm8_2, zsm8_3, zsm8_4, zsm8_5, zrc, zisob, t_ieq, t_ilt, t_igt, t_zeq, t_zlt, t_zgt, t_sw, zsw, t_iret, t_zret, t_aret, t_vret, zrg, List.getElem?_cons_zero, List.getElem?_cons_succ, List.set_cons_zero, List.set_cons_succ, List.length_cons, List.length_nil, Option.toList_some, Option.toList_none, List.nil_append, List.cons_append, true_and, and_true, true_or, or_true, Int.cast_ofNat_Int, Int.natCast_zero, Int.natCast_one]
    repeat' (first | with_reducible apply And.intro | intro _)
    all_goals first | omega | rfl | trivial | decide | (exfalso; omega)
  · rw [zb_f hc]
    refine of_X10_isStore (fun G hG => s_X10_isStore_0 hG ?_)
    simp only [b_X10_isStore_0, b_X10_isStore_4, b_X10_isStore_9, b_X10_isStore_13, b_X10_isStore_14, o_c, o_il, o_al, o_is, o_as, o_inc, o_add, o_sub, o_mul, o_and, o_or, o_xor, o_shl, o_shr, o_ush, o_rem, o_dup, o_dup2, o_gf, o_pf, o_pz, o_iald, o_iast, o_zald, o_zast, o_aald, o_gs, o_min, o_acp, o_call, o_callv, zgf, zpf, zia_, zza_, zra_, zrd_, zcp_, zpop, zsm8_0, zsm8_1, zsm8_2, zsm8_3, zsm8_4, zsm8_5, zrc, zisob, t_ieq, t_ilt, t_igt, t_zeq, t_zlt, t_zgt, t_sw, zsw, t_iret, t_zret, t_aret, t_vret, zrg, List.getElem?_cons_zero, List.getElem?_cons_succ, List.set_cons_zero, List.set_cons_succ, List.length_cons, List.length_nil, Option.toList_some, Option.toList_none, List.nil_append, List.cons_append, true_and, and_true, true_or, or_true, Int.cast_ofNat_Int, Int.natCast_zero, Int.natCast_one]
    repeat' (first | with_reducible apply And.intro | intro _)
    all_goals first | omega | rfl | trivial | decide | (exfalso; omega)
/-- the i-th part of a block is good -/
def zgp1 (o : Option (List Int)) (kd i : Int) : Prop := (0 ≤ zlnk o i ∧ zlnk o i ≤ 65520) ∧ (kd = 1 → 1 ≤ zpsz o i) ∧ (kd = 2 → (if i = 0 then 0 else zptt o (i - 1)) < zptt o i)
def zgp (o : Option (List Int)) (kd : Int) : Prop := ∀ i : Nat, (i : Int) < zcnt o → zgp1 o kd i
set_option maxRecDepth 100000 in
set_option maxHeartbeats 4000000 in
theorem c_X2_hasGoodParts {d : Nat} {μ : zM} {k : Nat} {n slot kd : Int} {L : List zBk} (hd : 2 ≤ d) (h : zSH μ k n L) (hs : zrg slot) (hk : zrg kd) (h3 : zknd (zoat L slot) = 3 → 0 ≤ zp_byte (zoat L slot) 1) : zCt d mX2_hasGoodParts [.inr (some k), .inl slot, .inl kd] μ (zR (.inl (zb (zgp (zoat L slot) kd))) μ) := by
  have hcr := zcnt_rg h slot
  unfold zrg at hk
  refine of_X2_hasGoodParts (by omega) (fun G hG => s_X2_hasGoodParts_0 hG ?_)
  simp only [b_X2_hasGoodParts_0, b_X2_hasGoodParts_2, b_X2_hasGoodParts_11, b_X2_hasGoodParts_23, b_X2_hasGoodParts_25, b_X2_hasGoodParts_30, b_X2_hasGoodParts_40, b_X2_hasGoodParts_42, b_X2_hasGoodParts_46, b_X2_hasGoodParts_50, b_X2_hasGoodParts_58, b_X2_hasGoodParts_65, b_X2_hasGoodParts_76, b_X2_hasGoodParts_78, b_X2_hasGoodParts_84, o_c, o_il, o_al, o_is, o_as, o_inc, o_add, o_sub, o_mul, o_and, o_or, o_xor, o_shl, o_shr, o_ush, o_rem, o_dup, o_dup2, o_gf, o_pf, o_pz, o_iald, o_iast, o_zald, o_zast, o_aald, o_gs, o_min, o_acp, o_call, o_callv, zgf, zpf, zia_, zza_, zra_, zrd_, zcp_, zpop, zsm8_0, zsm8_1, zsm8_2, zsm8_3, zsm8_4, zsm8_5, zrc, zisob, t_ieq, t_ilt, t_igt, t_zeq, t_zlt, t_zgt, t_sw, zsw, t_iret, t_zret, t_aret, t_vret, zrg, List.getElem?_cons_zero, List.getElem?_cons_succ, List.set_cons_zero, List.set_cons_succ, List.length_cons, List.length_nil, Option.toList_some, Option.toList_none, List.nil_append, List.cons_append, true_and, and_true, true_or, or_true, Int.cast_ofNat_Int, Int.natCast_zero, Int.natCast_one, h.1.ob]
  have no : ∀ (i : Nat), (i : Int) < zcnt (zoat L slot) → ¬ zgp1 (zoat L slot) kd i → zb (zgp (zoat L slot) kd) = 0 := fun i h1 h2 => zb_f (fun w => h2 (w i h1))
  have loop : ∀ (r i : Nat) (x : zV), zcnt (zoat L slot) - i ≤ r → (i : Int) ≤ 255 → (∀ j : Nat, j < i → (j : Int) < zcnt (zoat L slot) → zgp1 (zoat L slot) kd j) → G 2 [.inr (some k), .inl slot, .inl kd, .inl (i : Int), x] [] μ := by
    intro r
    induction r with
    | zero =>
      intro i x h1 h2 hi
      refine s_X2_hasGoodParts_2 hG ?_
      simp only [b_X2_hasGoodParts_0, b_X2_hasGoodParts_2, b_X2_hasGoodParts_11, b_X2_hasGoodParts_23, b_X2_hasGoodParts_25, b_X2_hasGoodParts_30, b_X2_hasGoodParts_40, b_X2_hasGoodParts_42, b_X2_hasGoodParts_46, b_X2_hasGoodParts_50, b_X2_hasGoodParts_58, b_X2_hasGoodParts_65, b_X2_hasGoodParts_76, b_X2_hasGoodParts_78, b_X2_hasGoodParts_84, o_c, o_il, o_al, o_is, o_as, o_inc, o_add, o_sub, o_mul, o_and, o_or, o_xor, o_shl, o_shr, o_ush, o_rem, o_dup, o_dup2, o_gf, o_pf, o_pz, o_iald, o_iast, o_zald, o_zast, o_aald, o_gs, o_min, o_acp, o_call, o_callv, zgf, zpf, zia_, zza_, zra_, zrd_, zcp_, zpop, zsm8_0, zsm8_1, zsm8_2, zsm8_3, zsm8_4, zsm8_5, zrc, zisob, t_ieq, t_ilt, t_igt, t_zeq, t_zlt, t_zgt, t_sw, zsw, t_iret, t_zret, t_aret, t_vret, zrg, List.getElem?_cons_zero, List.getElem?_cons_succ, List.set_cons_zero, List.set_cons_succ, List.length_cons, List.length_nil, Option.toList_some, Option.toList_none, List.nil_append, List.cons_append, true_and, and_true, true_or, or_true, Int.cast_ofNat_Int, Int.natCast_zero, Int.natCast_one, h.1.ob]
      refine zcall (c_X2_partCount (by omega) h hs h3) ?_
      simp only [b_X2_hasGoodParts_0, b_X2_hasGoodParts_2, b_X2_hasGoodParts_11, b_X2_hasGoodParts_23, b_X2_hasGoodParts_25, b_X2_hasGoodParts_30, b_X2_hasGoodParts_40, b_X2_hasGoodParts_42, b_X2_hasGoodParts_46, b_X2_hasGoodParts_50, b_X2_hasGoodParts_58, b_X2_hasGoodParts_65, b_X2_hasGoodParts_76, b_X2_hasGoodParts_78, b_X2_hasGoodParts_84, o_c, o_il, o_al, o_is, o_as, o_inc, o_add, o_sub, o_mul, o_and, o_or, o_xor, o_shl, o_shr, o_ush, o_rem, o_dup, o_dup2, o_gf, o_pf, o_pz, o_iald, o_iast, o_zald, o_zast, o_aald, o_gs, o_min, o_acp, o_call, o_callv, zgf, zpf, zia_, zza_, zra_, zrd_, zcp_, zpop, zsm8_0, zsm8_1, zsm8_2, zsm8_3, zsm8_4, zsm8_5, zrc, zisob, t_ieq, t_ilt, t_igt, t_zeq, t_zlt, t_zgt, t_sw, zsw, t_iret, t_zret, t_aret, t_vret, zrg, List.getElem?_cons_zero, List.getElem?_cons_succ, List.set_cons_zero, List.set_cons_succ, List.length_cons, List.length_nil, Option.toList_some, Option.toList_none, List.nil_append, List.cons_append, true_and, and_true, true_or, or_true, Int.cast_ofNat_Int, Int.natCast_zero, Int.natCast_one, h.1.ob]
      refine ⟨by omega, by omega, fun _ => by omega, fun _ => ?_⟩
      rw [zb_t (P := zgp (zoat L slot) kd) (fun j hj => hi j (by omega) hj)]
      exact ⟨rfl, rfl⟩
    | succ r ih =>
      intro i x h1 h2 hi
      refine s_X2_hasGoodParts_2 hG ?_
      simp only [b_X2_hasGoodParts_0, b_X2_hasGoodParts_2, b_X2_hasGoodParts_11, b_X2_hasGoodParts_23, b_X2_hasGoodParts_25, b_X2_hasGoodParts_30, b_X2_hasGoodParts_40, b_X2_hasGoodParts_42, b_X2_hasGoodParts_46, b_X2_hasGoodParts_50, b_X2_hasGoodParts_58, b_X2_hasGoodParts_65, b_X2_hasGoodParts_76, b_X2_hasGoodParts_78, b_X2_hasGoodParts_84, o_c, o_il, o_al, o_is, o_as, o_inc, o_add, o_sub, o_mul, o_and, o_or, o_xor, o_shl, o_shr, o_ush, o_rem, o_dup, o_dup2, o_gf, o_pf, o_pz, o_iald, o_iast, o_zald, o_zast, o_aald, o_gs, o_min, o_acp, o_call, o_callv, zgf, zpf, zia_, zza_, zra_, zrd_, zcp_, zpop, zsm8_0, zsm8_1, zsm8_2, zsm8_3, zsm8_4, zsm8_5, zrc, zisob, t_ieq, t_ilt, t_igt, t_zeq, t_zlt, t_zgt, t_sw, zsw, t_iret, t_zret, t_aret, t_vret, zrg, List.getElem?_cons_zero, List.getElem?_cons_succ, List.set_cons_zero, List.set_cons_succ, List.length_cons, List.length_nil, Option.toList_some, Option.toList_none, List.nil_append, List.cons_append, true_and, and_true, true_or, or_true, Int.cast_ofNat_Int, Int.natCast_zero, Int.natCast_one, h.1.ob]
      refine zcall (c_X2_partCount (by omega) h hs h3) ?_
      simp only [b_X2_hasGoodParts_0, b_X2_hasGoodParts_2, b_X2_hasGoodParts_11, b_X2_hasGoodParts_23, b_X2_hasGoodParts_25, b_X2_hasGoodParts_30, b_X2_hasGoodParts_40, b_X2_hasGoodParts_42, b_X2_hasGoodParts_46, b_X2_hasGoodParts_50, b_X2_hasGoodParts_58, b_X2_hasGoodParts_65, b_X2_hasGoodParts_76, b_X2_hasGoodParts_78, b_X2_hasGoodParts_84, o_c, o_il, o_al, o_is, o_as, o_inc, o_add, o_sub, o_mul, o_and, o_or, o_xor, o_shl, o_shr, o_ush, o_rem, o_dup, o_dup2, o_gf, o_pf, o_pz, o_iald, o_iast, o_zald, o_zast, o_aald, o_gs, o_min, o_acp, o_call, o_callv, zgf, zpf, zia_, zza_, zra_, zrd_, zcp_, zpop, zsm8_0, zsm8_1, zsm8_2, zsm8_3, zsm8_4, zsm8_5, zrc, zisob, t_ieq, t_ilt, t_igt, t_zeq, t_zlt, t_zgt, t_sw, zsw, t_iret, t_zret, t_aret, t_vret, zrg, List.getElem?_cons_zero, List.getElem?_cons_succ, List.set_cons_zero, List.set_cons_succ, List.length_cons, List.length_nil, Option.toList_some, Option.toList_none, List.nil_append, List.cons_append, true_and, and_true, true_or, or_true, Int.cast_ofNat_Int, Int.natCast_zero, Int.natCast_one, h.1.ob]
      refine ⟨by omega, by omega, fun hlt => ?_, fun hge => ?_⟩
      · refine zcall (c_X2_linkAt (by omega) h hs (by omega)) ?_
        simp only [b_X2_hasGoodParts_0, b_X2_hasGoodParts_2, b_X2_hasGoodParts_11, b_X2_hasGoodParts_23, b_X2_hasGoodParts_25, b_X2_hasGoodParts_30, b_X2_hasGoodParts_40, b_X2_hasGoodParts_42, b_X2_hasGoodParts_46, b_X2_hasGoodParts_50, b_X2_hasGoodParts_58, b_X2_hasGoodParts_65, b_X2_hasGoodParts_76, b_X2_hasGoodParts_78, b_X2_hasGoodParts_84, o_c, o_il, o_al, o_is, o_as, o_inc, o_add, o_sub, o_mul, o_and, o_or, o_xor, o_shl, o_shr, o_ush, o_rem, o_dup, o_dup2, o_gf, o_pf, o_pz, o_iald, o_iast, o_zald, o_zast, o_aald, o_gs, o_min, o_acp, o_call, o_callv, zgf, zpf, zia_, zza_, zra_, zrd_, zcp_, zpop, zsm8_0, zsm8_1, zsm8_2, zsm8_3, zsm8_4, zsm8_5, zrc, zisob, t_ieq, t_ilt, t_igt, t_zeq, t_zlt, t_zgt, t_sw, zsw, t_iret, t_zret, t_aret, t_vret, zrg, List.getElem?_cons_zero, List.getElem?_cons_succ, List.set_cons_zero, List.set_cons_succ, List.length_cons, List.length_nil, Option.toList_some, Option.toList_none, List.nil_append, List.cons_append, true_and, and_true, true_or, or_true, Int.cast_ofNat_Int, Int.natCast_zero, Int.natCast_one, h.1.ob]
        have hlr : zrg (zlnk (zoat L slot) i) := by
          unfold zlnk zrg
          split
          · have := h.pair slot (2 + (↑i + 1) * zpw (zknd (zoat L slot)) - 2)
            omega
          · omega
        refine zcall (c_X10_isName hlr) ?_
        simp only [b_X2_hasGoodParts_0, b_X2_hasGoodParts_2, b_X2_hasGoodParts_11, b_X2_hasGoodParts_23, b_X2_hasGoodParts_25, b_X2_hasGoodParts_30, b_X2_hasGoodParts_40, b_X2_hasGoodParts_42, b_X2_hasGoodParts_46, b_X2_hasGoodParts_50, b_X2_hasGoodParts_58, b_X2_hasGoodParts_65, b_X2_hasGoodParts_76, b_X2_hasGoodParts_78, b_X2_hasGoodParts_84, o_c, o_il, o_al, o_is, o_as, o_inc, o_add, o_sub, o_mul, o_and, o_or, o_xor, o_shl, o_shr, o_ush, o_rem, o_dup, o_dup2, o_gf, o_pf, o_pz, o_iald, o_iast, o_zald, o_zast, o_aald, o_gs, o_min, o_acp, o_call, o_callv, zgf, zpf, zia_, zza_, zra_, zrd_, zcp_, zpop, zsm8_0, zsm8_1, zsm8_2, zsm8_3, zsm8_4, zsm8_5, zrc, zisob, t_ieq, t_ilt, t_igt, t_zeq, t_zlt, t_zgt, t_sw, zsw, t_iret, t_zret, t_aret, t_vret, zrg, List.getElem?_cons_zero, List.getElem?_cons_succ, List.set_cons_zero, List.set_cons_succ, List.length_cons, List.length_nil, Option.toList_some, Option.toList_none, List.nil_append, List.cons_append, true_and, and_true, true_or, or_true, Int.cast_ofNat_Int, Int.natCast_zero, Int.natCast_one, h.1.ob]
        have hps := h.pair slot (2 + (i : Int) * 4)
        have hpt := h.byt slot (2 + (i : Int) * 3)
        have hptm := h.byt slot (2 + ((i : Int) - 1) * 3)
        -- behind the join
        have join : (0 ≤ zlnk (zoat L slot) i ∧ zlnk (zoat L slot) i ≤ 65520) → (kd = 1 → 1 ≤ zpsz (zoat L slot) i) → G 58 [.inr (some k), .inl slot, .inl kd, .inl (i : Int), x] [.inl (if (i : Int) = 0 then 0 else zptt (zoat L slot) ((i : Int) - 1))] μ := by
          intro g1 g2
          have htb : -1 ≤ (if (i : Int) = 0 then 0 else zptt (zoat L slot) ((i : Int) - 1)) ∧ (if (i : Int) = 0 then 0 else zptt (zoat L slot) ((i : Int) - 1)) ≤ 255 := by
            split
            · omega
            · exact hptm
          generalize htg : (if (i : Int) = 0 then 0 else zptt (zoat L slot) ((i : Int) - 1)) = tb at htb
          refine s_X2_hasGoodParts_58 hG ?_
          simp only [b_X2_hasGoodParts_0, b_X2_hasGoodParts_2, b_X2_hasGoodParts_11, b_X2_hasGoodParts_23, b_X2_hasGoodParts_25, b_X2_hasGoodParts_30, b_X2_hasGoodParts_40, b_X2_hasGoodParts_42, b_X2_hasGoodParts_46, b_X2_hasGoodParts_50, b_X2_hasGoodParts_58, b_X2_hasGoodParts_65, b_X2_hasGoodParts_76, b_X2_hasGoodParts_78, b_X2_hasGoodParts_84, o_c, o_il, o_al, o_is, o_as, o_inc, o_add, o_sub, o_mul, o_and, o_or, o_xor, o_shl, o_shr, o_ush, o_rem, o_dup, o_dup2, o_gf, o_pf, o_pz, o_iald, o_iast, o_zald, o_zast, o_aald, o_gs, o_min, o_acp, o_call, o_callv, zgf, zpf, zia_, zza_, zra_, zrd_, zcp_, zpop, zsm8_0, zsm8_1, zsm8_2, zsm8_3, zsm8_4, zsm8_5, zrc, zisob, t_ieq, t_ilt, t_igt, t_zeq, t_zlt, t_zgt, t_sw, zsw, t_iret, t_zret, t_aret, t_vret, zrg, List.getElem?_cons_zero, List.getElem?_cons_succ, List.set_cons_zero, List.set_cons_succ, List.length_cons, List.length_nil, Option.toList_some, Option.toList_none, List.nil_append, List.cons_append, true_and, and_true, true_or, or_true, Int.cast_ofNat_Int, Int.natCast_zero, Int.natCast_one, h.1.ob]
          have good : (kd = 2 → tb < zptt (zoat L slot) i) → G 2 [.inr (some k), .inl slot, .inl kd, .inl ((i : Int) + 1), .inl tb] [] μ := by
            intro g3
            refine ih (i + 1) _ (by omega) (by omega) (fun j hj hj2 => ?_)
            by_cases e : j = i
            · rw [e]
              exact ⟨g1, g2, by rw [htg]; exact g3⟩
            · exact hi j (by omega) hj2
          refine ⟨by omega, by omega, fun e => ?_, fun e => good (fun w => absurd w e)⟩
          refine zcall (c_X2_partTitle (by omega) h hs (by omega)) ?_
          simp only [b_X2_hasGoodParts_0, b_X2_hasGoodParts_2, b_X2_hasGoodParts_11, b_X2_hasGoodParts_23, b_X2_hasGoodParts_25, b_X2_hasGoodParts_30, b_X2_hasGoodParts_40, b_X2_hasGoodParts_42, b_X2_hasGoodParts_46, b_X2_hasGoodParts_50, b_X2_hasGoodParts_58, b_X2_hasGoodParts_65, b_X2_hasGoodParts_76, b_X2_hasGoodParts_78, b_X2_hasGoodParts_84, o_c, o_il, o_al, o_is, o_as, o_inc, o_add, o_sub, o_mul, o_and, o_or, o_xor, o_shl, o_shr, o_ush, o_rem, o_dup, o_dup2, o_gf, o_pf, o_pz, o_iald, o_iast, o_zald, o_zast, o_aald, o_gs, o_min, o_acp, o_call, o_callv, zgf, zpf, zia_, zza_, zra_, zrd_, zcp_, zpop, zsm8_0, zsm8_1, zsm8_2, zsm8_3, zsm8_4, zsm8_5, zrc, zisob, t_ieq, t_ilt, t_igt, t_zeq, t_zlt, t_zgt, t_sw, zsw, t_iret, t_zret, t_aret, t_vret, zrg, List.getElem?_cons_zero, List.getElem?_cons_succ, List.set_cons_zero, List.set_cons_succ, List.length_cons, List.length_nil, Option.toList_some, Option.toList_none, List.nil_append, List.cons_append, true_and, and_true, true_or, or_true, Int.cast_ofNat_Int, Int.natCast_zero, Int.natCast_one, h.1.ob]
          unfold zptt at good ⊢
          refine ⟨by omega, by omega, fun e2 => good (fun _ => e2), fun e2 => ?_⟩
          rw [no i hlt (fun w => by have := w.2.2 e; rw [htg] at this; unfold zptt at this; omega)]
          exact ⟨rfl, rfl⟩
        rcases zb_or (0 ≤ zlnk (zoat L slot) i ∧ zlnk (zoat L slot) i ≤ 65520) with ⟨q, hq⟩ | ⟨q, hq⟩
        · rw [q]
          have toj : (kd = 1 → 1 ≤ zpsz (zoat L slot) i) → ((-2147483648 ≤ (i : Int) ∧ (i : Int) ≤ 2147483647) ∧ ((i : Int) = 0 → G 58 [.inr (some k), .inl slot, .inl kd, .inl (i : Int), x] [.inl 0] μ) ∧ (¬ (i : Int) = 0 → ∃ Q, zCt (d - 1) mX2_partTitle [.inr (some k), .inl slot, .inl ((i : Int) - 1)] μ Q ∧ ∀ (v : Option zV) (μ' : zM), Q v μ' → G 58 [.inr (some k), .inl slot, .inl kd, .inl (i : Int), x] (v.toList ++ []) μ')) := by
            intro g2
            refine ⟨by omega, fun e => ?_, fun e => ?_⟩
            · have := join hq g2
              rw [if_pos e] at this
              exact this
            · refine zcall (c_X2_partTitle (by omega) h hs (by omega)) ?_
              have := join hq g2
              rw [if_neg e] at this
              exact this
          refine ⟨by omega, fun w => by omega, fun _ => ⟨by omega, by omega, fun e => ?_, fun e => toj (fun w => absurd w e)⟩⟩
          refine zcall (c_X2_partSize (by omega) h hs (by omega)) ?_
          simp only [b_X2_hasGoodParts_0, b_X2_hasGoodParts_2, b_X2_hasGoodParts_11, b_X2_hasGoodParts_23, b_X2_hasGoodParts_25, b_X2_hasGoodParts_30, b_X2_hasGoodParts_40, b_X2_hasGoodParts_42, b_X2_hasGoodParts_46, b_X2_hasGoodParts_50, b_X2_hasGoodParts_58, b_X2_hasGoodParts_65, b_X2_hasGoodParts_76, b_X2_hasGoodParts_78, b_X2_hasGoodParts_84, o_c, o_il, o_al, o_is, o_as, o_inc, o_add, o_sub, o_mul, o_and, o_or, o_xor, o_shl, o_shr, o_ush, o_rem, o_dup, o_dup2, o_gf, o_pf, o_pz, o_iald, o_iast, o_zald, o_zast, o_aald, o_gs, o_min, o_acp, o_call, o_callv, zgf, zpf, zia_, zza_, zra_, zrd_, zcp_, zpop, zsm8_0, zsm8_1, zsm8_2, zsm8_3, zsm8_4, zsm8_5, zrc, zisob, t_ieq, t_ilt, t_igt, t_zeq, t_zlt, t_zgt, t_sw, zsw, t_iret, t_zret, t_aret, t_vret, zrg, List.getElem?_cons_zero, List.getElem?_cons_succ, List.set_cons_zero, List.set_cons_succ, List.length_cons, List.length_nil, Option.toList_some, Option.toList_none, List.nil_append, List.cons_append, true_and, and_true, true_or, or_true, Int.cast_ofNat_Int, Int.natCast_zero, Int.natCast_one, h.1.ob]
          unfold zpsz at toj ⊢
          refine ⟨by omega, by omega, fun e2 => ?_, fun e2 => toj (fun _ => e2)⟩
          rw [no i hlt (fun w => by have := w.2.1 e; unfold zpsz at this; omega)]
          exact ⟨rfl, rfl⟩
        · rw [q, no i hlt (fun w => hq w.1)]
          repeat' (first | with_reducible apply And.intro | intro _)
          all_goals first | omega | rfl | trivial | decide | (exfalso; omega)
      · rw [zb_t (P := zgp (zoat L slot) kd) (fun j hj => hi j (by omega) hj)]
        exact ⟨rfl, rfl⟩
  exact loop 256 0 _ (by omega) (by omega) (fun j hj => by omega)
