/-! what a block is; PATHS -/
def zisB (o : Option (List Int)) : Prop := (zknd o = 0 ∧ zp_size o ≤ 9) ∨ ((1 ≤ zknd o ∧ zknd o ≤ 3) ∧ zgs (zknd o) (zp_byte o 1) ∧ zp_size o = 2 + zcnt o * zpw (zknd o) ∧ zgp o (zknd o))
theorem zSH.size {μ : zM} {k : Nat} {n : Int} {L : List zBk} (h : zSH μ k n L) (s : Int) : -1 ≤ zp_size (zoat L s) ∧ zp_size (zoat L s) ≤ 18 := by
  unfold zp_size
  cases hz : zoat L s with
  | none => simp
  | some bs =>
    have := (h.oat s bs hz).1
    simp only
    omega
set_option maxRecDepth 100000 in
set_option maxHeartbeats 4000000 in
theorem c_X2_isBlock {d : Nat} {μ : zM} {k : Nat} {n slot : Int} {L : List zBk} (hd : 3 ≤ d) (h : zSH μ k n L) (hs : zrg slot) : zCt d mX2_isBlock [.inr (some k), .inl slot] μ (zR (.inl (zb (zisB (zoat L slot)))) μ) := by
  have hb := h.byt slot 0
  have hb1 := h.byt slot 1
  have hsz := h.size slot
  have hcr := zcnt_rg h slot
  have hw := zpw_rg (zknd (zoat L slot))
  have hs0 := hs
  unfold zrg at hs
  refine of_X2_isBlock (by omega) (fun G hG => s_X2_isBlock_0 hG ?_)
  simp only [b_X2_isBlock_0, b_X2_isBlock_16, b_X2_isBlock_22, b_X2_isBlock_26, b_X2_isBlock_27, b_X2_isBlock_28, b_X2_isBlock_32, b_X2_isBlock_37, b_X2_isBlock_50, b_X2_isBlock_67, b_X2_isBlock_76, b_X2_isBlock_80, b_X2_isBlock_81, o_c, o_il, o_al, o_is, o_as, o_inc, o_add, o_sub, o_mul, o_and, o_or, o_xor, o_shl, o_shr, o_ush, o_rem, o_dup, o_dup2, o_gf, o_pf, o_pz, o_iald, o_iast, o_zald, o_zast, o_aald, o_gs, o_min, o_acp, o_call, o_callv, zgf, zpf, zia_, zza_, zra_, zrd_, zcp_, zpop, zsm8_0, zsm8_1, zsm8_2, zsm8_3, zsm8_4, zsm8_5, zrc, zisob, t_ieq, t_ilt, t_igt, t_zeq, t_zlt, t_zgt, t_sw, zsw, t_iret, t_zret, t_aret, t_vret, zrg, List.getElem?_cons_zero, List.getElem?_cons_succ, List.set_cons_zero, List.set_cons_succ, List.length_cons, List.length_nil, Option.toList_some, Option.toList_none, List.nil_append, List.cons_append, true_and, and_true, true_or, or_true, Int.cast_ofNat_Int, Int.natCast_zero, Int.natCast_one, h.1.ob, zsh_1000]
  refine zcall (c_X6_sizeAt (by omega) h hs0) ?_
  simp only [b_X2_isBlock_0, b_X2_isBlock_16, b_X2_isBlock_22, b_X2_isBlock_26, b_X2_isBlock_27, b_X2_isBlock_28, b_X2_isBlock_32, b_X2_isBlock_37, b_X2_isBlock_50, b_X2_isBlock_67, b_X2_isBlock_76, b_X2_isBlock_80, b_X2_isBlock_81, o_c, o_il, o_al, o_is, o_as, o_inc, o_add, o_sub, o_mul, o_and, o_or, o_xor, o_shl, o_shr, o_ush, o_rem, o_dup, o_dup2, o_gf, o_pf, o_pz, o_iald, o_iast, o_zald, o_zast, o_aald, o_gs, o_min, o_acp, o_call, o_callv, zgf, zpf, zia_, zza_, zra_, zrd_, zcp_, zpop, zsm8_0, zsm8_1, zsm8_2, zsm8_3, zsm8_4, zsm8_5, zrc, zisob, t_ieq, t_ilt, t_igt, t_zeq, t_zlt, t_zgt, t_sw, zsw, t_iret, t_zret, t_aret, t_vret, zrg, List.getElem?_cons_zero, List.getElem?_cons_succ, List.set_cons_zero, List.set_cons_succ, List.length_cons, List.length_nil, Option.toList_some, Option.toList_none, List.nil_append, List.cons_append, true_and, and_true, true_or, or_true, Int.cast_ofNat_Int, Int.natCast_zero, Int.natCast_one, h.1.ob, zsh_1000]
  refine zcall (c_X6_kindAt h hs0) ?_
  simp only [b_X2_isBlock_0, b_X2_isBlock_16, b_X2_isBlock_22, b_X2_isBlock_26, b_X2_isBlock_27, b_X2_isBlock_28, b_X2_isBlock_32, b_X2_isBlock_37, b_X2_isBlock_50, b_X2_isBlock_67, b_X2_isBlock_76, b_X2_isBlock_80, b_X2_isBlock_81, o_c, o_il, o_al, o_is, o_as, o_inc, o_add, o_sub, o_mul, o_and, o_or, o_xor, o_shl, o_shr, o_ush, o_rem, o_dup, o_dup2, o_gf, o_pf, o_pz, o_iald, o_iast, o_zald, o_zast, o_aald, o_gs, o_min, o_acp, o_call, o_callv, zgf, zpf, zia_, zza_, zra_, zrd_, zcp_, zpop, zsm8_0, zsm8_1, zsm8_2, zsm8_3, zsm8_4, zsm8_5, zrc, zisob, t_ieq, t_ilt, t_igt, t_zeq, t_zlt, t_zgt, t_sw, zsw, t_iret, t_zret, t_aret, t_vret, zrg, List.getElem?_cons_zero, List.getElem?_cons_succ, List.set_cons_zero, List.set_cons_succ, List.length_cons, List.length_nil, Option.toList_some, Option.toList_none, List.nil_append, List.cons_append, true_and, and_true, true_or, or_true, Int.cast_ofNat_Int, Int.natCast_zero, Int.natCast_one, h.1.ob, zsh_1000]
  have ek : zp_byte (zoat L slot) 0 = zknd (zoat L slot) := rfl
  rw [ek] at hb ⊢
  refine ⟨by omega, fun e => ?_, fun e => ⟨by omega, fun e1 => ⟨by omega, by omega, fun e2 => ?_, fun e2 => ?_⟩, fun e1 => ?_⟩⟩
  · by_cases h9 : zp_size (zoat L slot) ≤ 9
    · rw [zb_t (P := zisB (zoat L slot)) (Or.inl ⟨e, h9⟩)]
      repeat' (first | with_reducible apply And.intro | intro _)
      all_goals first | omega | rfl | trivial | decide | (exfalso; omega)
    · rw [zb_f (P := zisB (zoat L slot)) (fun w => w.elim (fun w => by omega) (fun w => by omega))]
      repeat' (first | with_reducible apply And.intro | intro _)
      all_goals first | omega | rfl | trivial | decide | (exfalso; omega)
  · rw [zb_f (P := zisB (zoat L slot)) (fun w => w.elim (fun w => by omega) (fun w => by omega))]
    exact ⟨rfl, rfl⟩
  · refine zcall (c_X6_byteAt h hs0 (i := 1) ⟨by omega, by omega⟩) ?_
    simp only [b_X2_isBlock_0, b_X2_isBlock_16, b_X2_isBlock_22, b_X2_isBlock_26, b_X2_isBlock_27, b_X2_isBlock_28, b_X2_isBlock_32, b_X2_isBlock_37, b_X2_isBlock_50, b_X2_isBlock_67, b_X2_isBlock_76, b_X2_isBlock_80, b_X2_isBlock_81, o_c, o_il, o_al, o_is, o_as, o_inc, o_add, o_sub, o_mul, o_and, o_or, o_xor, o_shl, o_shr, o_ush, o_rem, o_dup, o_dup2, o_gf, o_pf, o_pz, o_iald, o_iast, o_zald, o_zast, o_aald, o_gs, o_min, o_acp, o_call, o_callv, zgf, zpf, zia_, zza_, zra_, zrd_, zcp_, zpop, zsm8_0, zsm8_1, zsm8_2, zsm8_3, zsm8_4, zsm8_5, zrc, zisob, t_ieq, t_ilt, t_igt, t_zeq, t_zlt, t_zgt, t_sw, zsw, t_iret, t_zret, t_aret, t_vret, zrg, List.getElem?_cons_zero, List.getElem?_cons_succ, List.set_cons_zero, List.set_cons_succ, List.length_cons, List.length_nil, Option.toList_some, Option.toList_none, List.nil_append, List.cons_append, true_and, and_true, true_or, or_true, Int.cast_ofNat_Int, Int.natCast_zero, Int.natCast_one, h.1.ob, zsh_1000]
    refine zcall (c_X2_hasGoodSecond ⟨by omega, by omega⟩ ⟨by omega, by omega⟩) ?_
    simp only [b_X2_isBlock_0, b_X2_isBlock_16, b_X2_isBlock_22, b_X2_isBlock_26, b_X2_isBlock_27, b_X2_isBlock_28, b_X2_isBlock_32, b_X2_isBlock_37, b_X2_isBlock_50, b_X2_isBlock_67, b_X2_isBlock_76, b_X2_isBlock_80, b_X2_isBlock_81, o_c, o_il, o_al, o_is, o_as, o_inc, o_add, o_sub, o_mul, o_and, o_or, o_xor, o_shl, o_shr, o_ush, o_rem, o_dup, o_dup2, o_gf, o_pf, o_pz, o_iald, o_iast, o_zald, o_zast, o_aald, o_gs, o_min, o_acp, o_call, o_callv, zgf, zpf, zia_, zza_, zra_, zrd_, zcp_, zpop, zsm8_0, zsm8_1, zsm8_2, zsm8_3, zsm8_4, zsm8_5, zrc, zisob, t_ieq, t_ilt, t_igt, t_zeq, t_zlt, t_zgt, t_sw, zsw, t_iret, t_zret, t_aret, t_vret, zrg, List.getElem?_cons_zero, List.getElem?_cons_succ, List.set_cons_zero, List.set_cons_succ, List.length_cons, List.length_nil, Option.toList_some, Option.toList_none, List.nil_append, List.cons_append, true_and, and_true, true_or, or_true, Int.cast_ofNat_Int, Int.natCast_zero, Int.natCast_one, h.1.ob, zsh_1000]
    rcases zb_or (zgs (zknd (zoat L slot)) (zp_byte (zoat L slot) 1)) with ⟨q, hq⟩ | ⟨q, hq⟩
    · rw [q]
      have h3 : zknd (zoat L slot) = 3 → 0 ≤ zp_byte (zoat L slot) 1 := by
        unfold zgs at hq
        omega
      refine ⟨by omega, fun w => by omega, fun _ => ?_⟩
      refine zcall (c_X2_partCount (by omega) h hs0 h3) ?_
      simp only [b_X2_isBlock_0, b_X2_isBlock_16, b_X2_isBlock_22, b_X2_isBlock_26, b_X2_isBlock_27, b_X2_isBlock_28, b_X2_isBlock_32, b_X2_isBlock_37, b_X2_isBlock_50, b_X2_isBlock_67, b_X2_isBlock_76, b_X2_isBlock_80, b_X2_isBlock_81, o_c, o_il, o_al, o_is, o_as, o_inc, o_add, o_sub, o_mul, o_and, o_or, o_xor, o_shl, o_shr, o_ush, o_rem, o_dup, o_dup2, o_gf, o_pf, o_pz, o_iald, o_iast, o_zald, o_zast, o_aald, o_gs, o_min, o_acp, o_call, o_callv, zgf, zpf, zia_, zza_, zra_, zrd_, zcp_, zpop, zsm8_0, zsm8_1, zsm8_2, zsm8_3, zsm8_4, zsm8_5, zrc, zisob, t_ieq, t_ilt, t_igt, t_zeq, t_zlt, t_zgt, t_sw, zsw, t_iret, t_zret, t_aret, t_vret, zrg, List.getElem?_cons_zero, List.getElem?_cons_succ, List.set_cons_zero, List.set_cons_succ, List.length_cons, List.length_nil, Option.toList_some, Option.toList_none, List.nil_append, List.cons_append, true_and, and_true, true_or, or_true, Int.cast_ofNat_Int, Int.natCast_zero, Int.natCast_one, h.1.ob, zsh_1000]
      have hmul : -1000000 ≤ zcnt (zoat L slot) * zpw (zknd (zoat L slot)) ∧ zcnt (zoat L slot) * zpw (zknd (zoat L slot)) ≤ 1000000 := by
        generalize zpw (zknd (zoat L slot)) = w at hw
        have hw4 : w = 0 ∨ w = 1 ∨ w = 2 ∨ w = 3 ∨ w = 4 := by omega
        rcases hw4 with rfl | rfl | rfl | rfl | rfl <;> omega
      refine ⟨by omega, by omega, by omega, fun e3 => ?_, fun e3 => ?_⟩
      · refine zcall (c_X2_hasGoodParts (by omega) h hs0 ⟨by omega, by omega⟩ h3) ?_
        simp only [b_X2_isBlock_0, b_X2_isBlock_16, b_X2_isBlock_22, b_X2_isBlock_26, b_X2_isBlock_27, b_X2_isBlock_28, b_X2_isBlock_32, b_X2_isBlock_37, b_X2_isBlock_50, b_X2_isBlock_67, b_X2_isBlock_76, b_X2_isBlock_80, b_X2_isBlock_81, o_c, o_il, o_al, o_is, o_as, o_inc, o_add, o_sub, o_mul, o_and, o_or, o_xor, o_shl, o_shr, o_ush, o_rem, o_dup, o_dup2, o_gf, o_pf, o_pz, o_iald, o_iast, o_zald, o_zast, o_aald, o_gs, o_min, o_acp, o_call, o_callv, zgf, zpf, zia_, zza_, zra_, zrd_, zcp_, zpop, zsm8_0, zsm8_1, zsm8_2, zsm8_3, zsm8_4, zsm8_5, zrc, zisob, t_ieq, t_ilt, t_igt, t_zeq, t_zlt, t_zgt, t_sw, zsw, t_iret, t_zret, t_aret, t_vret, zrg, List.getElem?_cons_zero, List.getElem?_cons_succ, List.set_cons_zero, List.set_cons_succ, List.length_cons, List.length_nil, Option.toList_some, Option.toList_none, List.nil_append, List.cons_append, true_and, and_true, true_or, or_true, Int.cast_ofNat_Int, Int.natCast_zero, Int.natCast_one, h.1.ob, zsh_1000]
        rcases zb_or (zgp (zoat L slot) (zknd (zoat L slot))) with ⟨q2, hq2⟩ | ⟨q2, hq2⟩
        · rw [q2, zb_t (P := zisB (zoat L slot)) (Or.inr ⟨⟨by omega, by omega⟩, hq, e3, hq2⟩)]
          repeat' (first | with_reducible apply And.intro | intro _)
          all_goals first | omega | rfl | trivial | decide | (exfalso; omega)
        · rw [q2, zb_f (P := zisB (zoat L slot)) (fun w => w.elim (fun w => by omega) (fun w => hq2 w.2.2.2))]
          repeat' (first | with_reducible apply And.intro | intro _)
          all_goals first | omega | rfl | trivial | decide | (exfalso; omega)
      · rw [zb_f (P := zisB (zoat L slot)) (fun w => w.elim (fun w => by omega) (fun w => e3 w.2.2.1))]
        exact ⟨rfl, rfl⟩
    · rw [q, zb_f (P := zisB (zoat L slot)) (fun w => w.elim (fun w => by omega) (fun w => hq w.2.1))]
      repeat' (first | with_reducible apply And.intro | intro _)
      all_goals first | omega | rfl | trivial | decide | (exfalso; omega)
  · rw [zb_f (P := zisB (zoat L slot)) (fun w => w.elim (fun w => by omega) (fun w => by omega))]
    exact ⟨rfl, rfl⟩
/-- the bytes of the block of a name -/
def zlk (L : List zBk) (nm : Int) : Option (List Int) := zoat L (zix L nm)
theorem zixf_rg (nm : Int) : ∀ (L : List zBk) (i : Int), 0 ≤ i → -1 ≤ zixf nm L i ∧ zixf nm L i ≤ i + L.length := by
  intro L
  induction L with
  | nil => intro i hi; simp [zixf]; omega
  | cons b r ih =>
    intro i hi
    simp only [zixf]
    split
    · simp; omega
    · have := ih (i + 1) (by omega)
      simp
      omega
theorem zSH.ix {μ : zM} {k : Nat} {n : Int} {L : List zBk} (h : zSH μ k n L) (nm : Int) : zrg (zix L nm) ∧ -1 ≤ zix L nm ∧ zix L nm ≤ 64 := by
  have h1 := zixf_rg nm L 0 (by omega)
  have h2 := h.2.2.2.1
  have h3 := h.1.n
  unfold zix zrg
  omega
theorem zSH.lnk {μ : zM} {k : Nat} {n : Int} {L : List zBk} (h : zSH μ k n L) (s i : Int) : zrg (zlnk (zoat L s) i) := by
  unfold zlnk zrg
  split
  · have := h.pair s (2 + (i + 1) * zpw (zknd (zoat L s)) - 2)
    omega
  · omega
def zlof (o : Option (List Int)) (t : Int) : Nat → Int → Int
  | 0, _ => -1
  | f + 1, i => if i < zcnt o then (if zptt o i = t then zlnk o i else zlof o t f (i + 1)) else -1
def zlot (o : Option (List Int)) (t : Int) : Int := zlof o t 256 0
set_option maxRecDepth 100000 in
set_option maxHeartbeats 4000000 in
theorem c_X4_linkOfTitle {d : Nat} {μ : zM} {k : Nat} {n slot t : Int} {L : List zBk} (hd : 2 ≤ d) (h : zSH μ k n L) (hs : zrg slot) (ht : zrg t) (h3 : zknd (zoat L slot) = 3 → 0 ≤ zp_byte (zoat L slot) 1) : zCt d mX4_linkOfTitle [.inr (some k), .inl slot, .inl t] μ (zR (.inl (zlot (zoat L slot) t)) μ) := by
  have hcr := zcnt_rg h slot
  have ht0 := ht
  unfold zrg at ht
  refine of_X4_linkOfTitle (by omega) (fun G hG => s_X4_linkOfTitle_0 hG ?_)
  simp only [b_X4_linkOfTitle_0, b_X4_linkOfTitle_2, b_X4_linkOfTitle_11, b_X4_linkOfTitle_21, b_X4_linkOfTitle_28, b_X4_linkOfTitle_34, o_c, o_il, o_al, o_is, o_as, o_inc, o_add, o_sub, o_mul, o_and, o_or, o_xor, o_shl, o_shr, o_ush, o_rem, o_dup, o_dup2, o_gf, o_pf, o_pz, o_iald, o_iast, o_zald, o_zast, o_aald, o_gs, o_min, o_acp, o_call, o_callv, zgf, zpf, zia_, zza_, zra_, zrd_, zcp_, zpop, zsm8_0, zsm8_1, zsm8_2, zsm8_3, zsm8_4, zsm8_5, zrc, zisob, t_ieq, t_ilt, t_igt, t_zeq, t_zlt, t_zgt, t_sw, zsw, t_iret, t_zret, t_aret, t_vret, zrg, List.getElem?_cons_zero, List.getElem?_cons_succ, List.set_cons_zero, List.set_cons_succ, List.length_cons, List.length_nil, Option.toList_some, Option.toList_none, List.nil_append, List.cons_append, true_and, and_true, true_or, or_true, Int.cast_ofNat_Int, Int.natCast_zero, Int.natCast_one, h.1.ob]
  have loop : ∀ (r i : Nat), i + r = 256 → zlot (zoat L slot) t = zlof (zoat L slot) t r i → G 2 [.inr (some k), .inl slot, .inl t, .inl (i : Int)] [] μ := by
    intro r
    induction r with
    | zero =>
      intro i h1 h2
      refine s_X4_linkOfTitle_2 hG ?_
      simp only [b_X4_linkOfTitle_0, b_X4_linkOfTitle_2, b_X4_linkOfTitle_11, b_X4_linkOfTitle_21, b_X4_linkOfTitle_28, b_X4_linkOfTitle_34, o_c, o_il, o_al, o_is, o_as, o_inc, o_add, o_sub, o_mul, o_and, o_or, o_xor, o_shl, o_shr, o_ush, o_rem, o_dup, o_dup2, o_gf, o_pf, o_pz, o_iald, o_iast, o_zald, o_zast, o_aald, o_gs, o_min, o_acp, o_call, o_callv, zgf, zpf, zia_, zza_, zra_, zrd_, zcp_, zpop, zsm8_0, zsm8_1, zsm8_2, zsm8_3, zsm8_4, zsm8_5, zrc, zisob, t_ieq, t_ilt, t_igt, t_zeq, t_zlt, t_zgt, t_sw, zsw, t_iret, t_zret, t_aret, t_vret, zrg, List.getElem?_cons_zero, List.getElem?_cons_succ, List.set_cons_zero, List.set_cons_succ, List.length_cons, List.length_nil, Option.toList_some, Option.toList_none, List.nil_append, List.cons_append, true_and, and_true, true_or, or_true, Int.cast_ofNat_Int, Int.natCast_zero, Int.natCast_one, h.1.ob]
      refine zcall (c_X2_partCount (by omega) h hs h3) ?_
      simp only [b_X4_linkOfTitle_0, b_X4_linkOfTitle_2, b_X4_linkOfTitle_11, b_X4_linkOfTitle_21, b_X4_linkOfTitle_28, b_X4_linkOfTitle_34, o_c, o_il, o_al, o_is, o_as, o_inc, o_add, o_sub, o_mul, o_and, o_or, o_xor, o_shl, o_shr, o_ush, o_rem, o_dup, o_dup2, o_gf, o_pf, o_pz, o_iald, o_iast, o_zald, o_zast, o_aald, o_gs, o_min, o_acp, o_call, o_callv, zgf, zpf, zia_, zza_, zra_, zrd_, zcp_, zpop, zsm8_0, zsm8_1, zsm8_2, zsm8_3, zsm8_4, zsm8_5, zrc, zisob, t_ieq, t_ilt, t_igt, t_zeq, t_zlt, t_zgt, t_sw, zsw, t_iret, t_zret, t_aret, t_vret, zrg, List.getElem?_cons_zero, List.getElem?_cons_succ, List.set_cons_zero, List.set_cons_succ, List.length_cons, List.length_nil, Option.toList_some, Option.toList_none, List.nil_append, List.cons_append, true_and, and_true, true_or, or_true, Int.cast_ofNat_Int, Int.natCast_zero, Int.natCast_one, h.1.ob]
      refine ⟨by omega, by omega, fun _ => by omega, fun _ => ?_⟩
      rw [h2]
      exact ⟨rfl, rfl⟩
    | succ r ih =>
      intro i h1 h2
      refine s_X4_linkOfTitle_2 hG ?_
      simp only [b_X4_linkOfTitle_0, b_X4_linkOfTitle_2, b_X4_linkOfTitle_11, b_X4_linkOfTitle_21, b_X4_linkOfTitle_28, b_X4_linkOfTitle_34, o_c, o_il, o_al, o_is, o_as, o_inc, o_add, o_sub, o_mul, o_and, o_or, o_xor, o_shl, o_shr, o_ush, o_rem, o_dup, o_dup2, o_gf, o_pf, o_pz, o_iald, o_iast, o_zald, o_zast, o_aald, o_gs, o_min, o_acp, o_call, o_callv, zgf, zpf, zia_, zza_, zra_, zrd_, zcp_, zpop, zsm8_0, zsm8_1, zsm8_2, zsm8_3, zsm8_4, zsm8_5, zrc, zisob, t_ieq, t_ilt, t_igt, t_zeq, t_zlt, t_zgt, t_sw, zsw, t_iret, t_zret, t_aret, t_vret, zrg, List.getElem?_cons_zero, List.getElem?_cons_succ, List.set_cons_zero, List.set_cons_succ, List.length_cons, List.length_nil, Option.toList_some, Option.toList_none, List.nil_append, List.cons_append, true_and, and_true, true_or, or_true, Int.cast_ofNat_Int, Int.natCast_zero, Int.natCast_one, h.1.ob]
      refine zcall (c_X2_partCount (by omega) h hs h3) ?_
      simp only [b_X4_linkOfTitle_0, b_X4_linkOfTitle_2, b_X4_linkOfTitle_11, b_X4_linkOfTitle_21, b_X4_linkOfTitle_28, b_X4_linkOfTitle_34, o_c, o_il, o_al, o_is, o_as, o_inc, o_add, o_sub, o_mul, o_and, o_or, o_xor, o_shl, o_shr, o_ush, o_rem, o_dup, o_dup2, o_gf, o_pf, o_pz, o_iald, o_iast, o_zald, o_zast, o_aald, o_gs, o_min, o_acp, o_call, o_callv, zgf, zpf, zia_, zza_, zra_, zrd_, zcp_, zpop, zsm8_0, zsm8_1, zsm8_2, zsm8_3, zsm8_4, zsm8_5, zrc, zisob, t_ieq, t_ilt, t_igt, t_zeq, t_zlt, t_zgt, t_sw, zsw, t_iret, t_zret, t_aret, t_vret, zrg, List.getElem?_cons_zero, List.getElem?_cons_succ, List.set_cons_zero, List.set_cons_succ, List.length_cons, List.length_nil, Option.toList_some, Option.toList_none, List.nil_append, List.cons_append, true_and, and_true, true_or, or_true, Int.cast_ofNat_Int, Int.natCast_zero, Int.natCast_one, h.1.ob]
      have hpt := h.byt slot (2 + (i : Int) * 3)
      simp only [zlof] at h2
      refine ⟨by omega, by omega, fun e1 => ?_, fun e1 => ?_⟩
      · rw [if_pos e1] at h2
        refine zcall (c_X2_partTitle (by omega) h hs (by omega)) ?_
        simp only [b_X4_linkOfTitle_0, b_X4_linkOfTitle_2, b_X4_linkOfTitle_11, b_X4_linkOfTitle_21, b_X4_linkOfTitle_28, b_X4_linkOfTitle_34, o_c, o_il, o_al, o_is, o_as, o_inc, o_add, o_sub, o_mul, o_and, o_or, o_xor, o_shl, o_shr, o_ush, o_rem, o_dup, o_dup2, o_gf, o_pf, o_pz, o_iald, o_iast, o_zald, o_zast, o_aald, o_gs, o_min, o_acp, o_call, o_callv, zgf, zpf, zia_, zza_, zra_, zrd_, zcp_, zpop, zsm8_0, zsm8_1, zsm8_2, zsm8_3, zsm8_4, zsm8_5, zrc, zisob, t_ieq, t_ilt, t_igt, t_zeq, t_zlt, t_zgt, t_sw, zsw, t_iret, t_zret, t_aret, t_vret, zrg, List.getElem?_cons_zero, List.getElem?_cons_succ, List.set_cons_zero, List.set_cons_succ, List.length_cons, List.length_nil, Option.toList_some, Option.toList_none, List.nil_append, List.cons_append, true_and, and_true, true_or, or_true, Int.cast_ofNat_Int, Int.natCast_zero, Int.natCast_one, h.1.ob]
        refine ⟨by unfold zptt; omega, by omega, fun e2 => ?_, fun e2 => ?_⟩
        · rw [if_pos e2] at h2
          refine zcall (c_X2_linkAt (by omega) h hs (by omega)) ?_
          simp only [b_X4_linkOfTitle_0, b_X4_linkOfTitle_2, b_X4_linkOfTitle_11, b_X4_linkOfTitle_21, b_X4_linkOfTitle_28, b_X4_linkOfTitle_34, o_c, o_il, o_al, o_is, o_as, o_inc, o_add, o_sub, o_mul, o_and, o_or, o_xor, o_shl, o_shr, o_ush, o_rem, o_dup, o_dup2, o_gf, o_pf, o_pz, o_iald, o_iast, o_zald, o_zast, o_aald, o_gs, o_min, o_acp, o_call, o_callv, zgf, zpf, zia_, zza_, zra_, zrd_, zcp_, zpop, zsm8_0, zsm8_1, zsm8_2, zsm8_3, zsm8_4, zsm8_5, zrc, zisob, t_ieq, t_ilt, t_igt, t_zeq, t_zlt, t_zgt, t_sw, zsw, t_iret, t_zret, t_aret, t_vret, zrg, List.getElem?_cons_zero, List.getElem?_cons_succ, List.set_cons_zero, List.set_cons_succ, List.length_cons, List.length_nil, Option.toList_some, Option.toList_none, List.nil_append, List.cons_append, true_and, and_true, true_or, or_true, Int.cast_ofNat_Int, Int.natCast_zero, Int.natCast_one, h.1.ob]
          rw [h2]
          exact ⟨rfl, rfl⟩
        · rw [if_neg e2] at h2
          exact ih (i + 1) (by omega) h2
      · rw [if_neg (by omega)] at h2
        rw [h2]
        exact ⟨rfl, rfl⟩
  exact loop 256 0 (by omega) rfl
/-- in a row of blocks the shards have a mask -/
def zV3 (L : List zBk) : Prop := ∀ b ∈ L, zknd (some b.2) = 3 → 0 ≤ zp_byte (some b.2) 1
theorem zV3.at {L : List zBk} (h : zV3 L) (s : Int) : zknd (zoat L s) = 3 → 0 ≤ zp_byte (zoat L s) 1 := by
  rcases zoat_cases L s with ⟨_, ho⟩ | ⟨i, b, rfl, hlt, hb2, ho⟩
  · rw [ho]; simp [zknd, zp_byte]
  · rw [ho]; exact h b (List.mem_of_getElem? hb2)
def zfin (o : Option (List Int)) (t : Int) : Int := if zknd o = 2 then zlot o t else -2
def zfdp (L : List zBk) (t : Int) : Nat → Nat → Option (List Int) → Int
  | 0, _, o => zfin o t
  | f + 1, s, o => if zknd o = 3 then (if zp_byte o 1 / 2 ^ (zway t s).toNat % 2 = 0 then -1 else zfdp L t f (s + 1) (zlk L (zlnk o (zpc (zp_byte o 1 % 2 ^ (zway t s).toNat))))) else zfin o t
def zfnd (L : List zBk) (nm t : Int) : Int := if zknd (zlk L nm) = 2 ∨ zknd (zlk L nm) = 3 then zfdp L t 4 0 (zlk L nm) else -1
theorem zway_rg (t s : Int) : 0 ≤ zway t s ∧ zway t s ≤ 3 := by unfold zway; omega
set_option maxRecDepth 100000 in
set_option maxHeartbeats 4000000 in
theorem c_X4_findTitle {d : Nat} {μ : zM} {k : Nat} {n nm t : Int} {L : List zBk} (hd : 3 ≤ d) (h : zSH μ k n L) (hV : zV3 L) (hs : zrg nm) (ht : zrg t) : zCt d mX4_findTitle [.inr (some k), .inl nm, .inl t] μ (zR (.inl (zfnd L nm t)) μ) := by
  have ht0 := ht
  unfold zrg at ht
  refine of_X4_findTitle (by omega) (fun G hG => s_X4_findTitle_0 hG ?_)
  simp only [b_X4_findTitle_0, b_X4_findTitle_14, b_X4_findTitle_16, b_X4_findTitle_19, b_X4_findTitle_25, b_X4_findTitle_34, b_X4_findTitle_60, b_X4_findTitle_62, b_X4_findTitle_94, b_X4_findTitle_103, b_X4_findTitle_112, b_X4_findTitle_114, o_c, o_il, o_al, o_is, o_as, o_inc, o_add, o_sub, o_mul, o_and, o_or, o_xor, o_shl, o_shr, o_ush, o_rem, o_dup, o_dup2, o_gf, o_pf, o_pz, o_iald, o_iast, o_zald, o_zast, o_aald, o_gs, o_min, o_acp, o_call, o_callv, zgf, zpf, zia_, zza_, zra_, zrd_, zcp_, zpop, zsm8_0, zsm8_1, zsm8_2, zsm8_3, zsm8_4, zsm8_5, zrc, zisob, t_ieq, t_ilt, t_igt, t_zeq, t_zlt, t_zgt, t_sw, zsw, t_iret, t_zret, t_aret, t_vret, zrg, List.getElem?_cons_zero, List.getElem?_cons_succ, List.set_cons_zero, List.set_cons_succ, List.length_cons, List.length_nil, Option.toList_some, Option.toList_none, List.nil_append, List.cons_append, true_and, and_true, true_or, or_true, Int.cast_ofNat_Int, Int.natCast_zero, Int.natCast_one, h.1.ob]
  refine zcall (c_X6_slotOf h hs) ?_
  simp only [b_X4_findTitle_0, b_X4_findTitle_14, b_X4_findTitle_16, b_X4_findTitle_19, b_X4_findTitle_25, b_X4_findTitle_34, b_X4_findTitle_60, b_X4_findTitle_62, b_X4_findTitle_94, b_X4_findTitle_103, b_X4_findTitle_112, b_X4_findTitle_114, o_c, o_il, o_al, o_is, o_as, o_inc, o_add, o_sub, o_mul, o_and, o_or, o_xor, o_shl, o_shr, o_ush, o_rem, o_dup, o_dup2, o_gf, o_pf, o_pz, o_iald, o_iast, o_zald, o_zast, o_aald, o_gs, o_min, o_acp, o_call, o_callv, zgf, zpf, zia_, zza_, zra_, zrd_, zcp_, zpop, zsm8_0, zsm8_1, zsm8_2, zsm8_3, zsm8_4, zsm8_5, zrc, zisob, t_ieq, t_ilt, t_igt, t_zeq, t_zlt, t_zgt, t_sw, zsw, t_iret, t_zret, t_aret, t_vret, zrg, List.getElem?_cons_zero, List.getElem?_cons_succ, List.set_cons_zero, List.set_cons_succ, List.length_cons, List.length_nil, Option.toList_some, Option.toList_none, List.nil_append, List.cons_append, true_and, and_true, true_or, or_true, Int.cast_ofNat_Int, Int.natCast_zero, Int.natCast_one, h.1.ob]
  refine zcall (c_X2_isFolderOrShard (by omega) h (h.ix nm).1) ?_
  simp only [b_X4_findTitle_0, b_X4_findTitle_14, b_X4_findTitle_16, b_X4_findTitle_19, b_X4_findTitle_25, b_X4_findTitle_34, b_X4_findTitle_60, b_X4_findTitle_62, b_X4_findTitle_94, b_X4_findTitle_103, b_X4_findTitle_112, b_X4_findTitle_114, o_c, o_il, o_al, o_is, o_as, o_inc, o_add, o_sub, o_mul, o_and, o_or, o_xor, o_shl, o_shr, o_ush, o_rem, o_dup, o_dup2, o_gf, o_pf, o_pz, o_iald, o_iast, o_zald, o_zast, o_aald, o_gs, o_min, o_acp, o_call, o_callv, zgf, zpf, zia_, zza_, zra_, zrd_, zcp_, zpop, zsm8_0, zsm8_1, zsm8_2, zsm8_3, zsm8_4, zsm8_5, zrc, zisob, t_ieq, t_ilt, t_igt, t_zeq, t_zlt, t_zgt, t_sw, zsw, t_iret, t_zret, t_aret, t_vret, zrg, List.getElem?_cons_zero, List.getElem?_cons_succ, List.set_cons_zero, List.set_cons_succ, List.length_cons, List.length_nil, Option.toList_some, Option.toList_none, List.nil_append, List.cons_append, true_and, and_true, true_or, or_true, Int.cast_ofNat_Int, Int.natCast_zero, Int.natCast_one, h.1.ob]
  have hlk : zoat L (zix L nm) = zlk L nm := rfl
  rw [hlk]
  by_cases hc : zknd (zlk L nm) = 2 ∨ zknd (zlk L nm) = 3
  · rw [if_pos hc]
    refine ⟨by omega, fun w => by omega, fun _ => ?_⟩
    have hres : zfnd L nm t = zfdp L t 4 0 (zlk L nm) := by unfold zfnd; rw [if_pos hc]
    have fin : ∀ (sl : Int) (x4 x5 x6 x7 : zV), zrg sl → zfnd L nm t = zfin (zoat L sl) t → ∃ Q, zCt (d - 1) mX6_kindAt [.inr (some k), .inl sl] μ Q ∧ ∀ (v : Option zV) (μ' : zM), Q v μ' → o_c 2 (t_ieq (b_X4_findTitle_103 d G (zR (.inl (zfnd L nm t)) μ)) (b_X4_findTitle_112 d G (zR (.inl (zfnd L nm t)) μ))) [.inr (some k), .inl nm, .inl t, .inl sl, x4, x5, x6, x7] (v.toList ++ []) μ' := by
      intro sl x4 x5 x6 x7 hsl hz
      refine zcall (c_X6_kindAt h hsl) ?_
      simp only [b_X4_findTitle_0, b_X4_findTitle_14, b_X4_findTitle_16, b_X4_findTitle_19, b_X4_findTitle_25, b_X4_findTitle_34, b_X4_findTitle_60, b_X4_findTitle_62, b_X4_findTitle_94, b_X4_findTitle_103, b_X4_findTitle_112, b_X4_findTitle_114, o_c, o_il, o_al, o_is, o_as, o_inc, o_add, o_sub, o_mul, o_and, o_or, o_xor, o_shl, o_shr, o_ush, o_rem, o_dup, o_dup2, o_gf, o_pf, o_pz, o_iald, o_iast, o_zald, o_zast, o_aald, o_gs, o_min, o_acp, o_call, o_callv, zgf, zpf, zia_, zza_, zra_, zrd_, zcp_, zpop, zsm8_0, zsm8_1, zsm8_2, zsm8_3, zsm8_4, zsm8_5, zrc, zisob, t_ieq, t_ilt, t_igt, t_zeq, t_zlt, t_zgt, t_sw, zsw, t_iret, t_zret, t_aret, t_vret, zrg, List.getElem?_cons_zero, List.getElem?_cons_succ, List.set_cons_zero, List.set_cons_succ, List.length_cons, List.length_nil, Option.toList_some, Option.toList_none, List.nil_append, List.cons_append, true_and, and_true, true_or, or_true, Int.cast_ofNat_Int, Int.natCast_zero, Int.natCast_one, h.1.ob]
      have hb := h.byt sl 0
      unfold zfin zknd at hz
      refine ⟨by omega, by omega, fun e => ?_, fun e => ?_⟩
      · refine zcall (c_X4_linkOfTitle (by omega) h hsl ht0 (hV.at sl)) ?_
        simp only [b_X4_findTitle_0, b_X4_findTitle_14, b_X4_findTitle_16, b_X4_findTitle_19, b_X4_findTitle_25, b_X4_findTitle_34, b_X4_findTitle_60, b_X4_findTitle_62, b_X4_findTitle_94, b_X4_findTitle_103, b_X4_findTitle_112, b_X4_findTitle_114, o_c, o_il, o_al, o_is, o_as, o_inc, o_add, o_sub, o_mul, o_and, o_or, o_xor, o_shl, o_shr, o_ush, o_rem, o_dup, o_dup2, o_gf, o_pf, o_pz, o_iald, o_iast, o_zald, o_zast, o_aald, o_gs, o_min, o_acp, o_call, o_callv, zgf, zpf, zia_, zza_, zra_, zrd_, zcp_, zpop, zsm8_0, zsm8_1, zsm8_2, zsm8_3, zsm8_4, zsm8_5, zrc, zisob, t_ieq, t_ilt, t_igt, t_zeq, t_zlt, t_zgt, t_sw, zsw, t_iret, t_zret, t_aret, t_vret, zrg, List.getElem?_cons_zero, List.getElem?_cons_succ, List.set_cons_zero, List.set_cons_succ, List.length_cons, List.length_nil, Option.toList_some, Option.toList_none, List.nil_append, List.cons_append, true_and, and_true, true_or, or_true, Int.cast_ofNat_Int, Int.natCast_zero, Int.natCast_one, h.1.ob]
        rw [if_pos e] at hz
        rw [hz]
        exact ⟨rfl, rfl⟩
      · rw [if_neg e] at hz
        rw [hz]
        exact ⟨rfl, rfl⟩
    have loop : ∀ (r s : Nat) (sl : Int) (x5 x6 x7 : zV), s + r = 4 → zrg sl → zfnd L nm t = zfdp L t r s (zoat L sl) → G 19 [.inr (some k), .inl nm, .inl t, .inl sl, .inl (s : Int), x5, x6, x7] [] μ := by
      intro r
      induction r with
      | zero =>
        intro s sl x5 x6 x7 h1 hsl h2
        refine s_X4_findTitle_19 hG ?_
        have := fin sl (.inl (s : Int)) x5 x6 x7 hsl h2
        simp only [b_X4_findTitle_0, b_X4_findTitle_14, b_X4_findTitle_16, b_X4_findTitle_19, b_X4_findTitle_25, b_X4_findTitle_34, b_X4_findTitle_60, b_X4_findTitle_62, b_X4_findTitle_94, b_X4_findTitle_103, b_X4_findTitle_112, b_X4_findTitle_114, o_c, o_il, o_al, o_is, o_as, o_inc, o_add, o_sub, o_mul, o_and, o_or, o_xor, o_shl, o_shr, o_ush, o_rem, o_dup, o_dup2, o_gf, o_pf, o_pz, o_iald, o_iast, o_zald, o_zast, o_aald, o_gs, o_min, o_acp, o_call, o_callv, zgf, zpf, zia_, zza_, zra_, zrd_, zcp_, zpop, zsm8_0, zsm8_1, zsm8_2, zsm8_3, zsm8_4, zsm8_5, zrc, zisob, t_ieq, t_ilt, t_igt, t_zeq, t_zlt, t_zgt, t_sw, zsw, t_iret, t_zret, t_aret, t_vret, zrg, List.getElem?_cons_zero, List.getElem?_cons_succ, List.set_cons_zero, List.set_cons_succ, List.length_cons, List.length_nil, Option.toList_some, Option.toList_none, List.nil_append, List.cons_append, true_and, and_true, true_or, or_true, Int.cast_ofNat_Int, Int.natCast_zero, Int.natCast_one, h.1.ob]
        simp only [b_X4_findTitle_103, b_X4_findTitle_112, b_X4_findTitle_114] at this
        refine ⟨by omega, by omega, fun _ => by omega, fun _ => ?_⟩
        exact this
      | succ r ih =>
        intro s sl x5 x6 x7 h1 hsl h2
        refine s_X4_findTitle_19 hG ?_
        have hb := h.byt sl 0
        have hb1 := h.byt sl 1
        have hw := zway_rg t s
        simp only [zfdp] at h2
        simp only [b_X4_findTitle_0, b_X4_findTitle_14, b_X4_findTitle_16, b_X4_findTitle_19, b_X4_findTitle_25, b_X4_findTitle_34, b_X4_findTitle_60, b_X4_findTitle_62, b_X4_findTitle_94, b_X4_findTitle_103, b_X4_findTitle_112, b_X4_findTitle_114, o_c, o_il, o_al, o_is, o_as, o_inc, o_add, o_sub, o_mul, o_and, o_or, o_xor, o_shl, o_shr, o_ush, o_rem, o_dup, o_dup2, o_gf, o_pf, o_pz, o_iald, o_iast, o_zald, o_zast, o_aald, o_gs, o_min, o_acp, o_call, o_callv, zgf, zpf, zia_, zza_, zra_, zrd_, zcp_, zpop, zsm8_0, zsm8_1, zsm8_2, zsm8_3, zsm8_4, zsm8_5, zrc, zisob, t_ieq, t_ilt, t_igt, t_zeq, t_zlt, t_zgt, t_sw, zsw, t_iret, t_zret, t_aret, t_vret, zrg, List.getElem?_cons_zero, List.getElem?_cons_succ, List.set_cons_zero, List.set_cons_succ, List.length_cons, List.length_nil, Option.toList_some, Option.toList_none, List.nil_append, List.cons_append, true_and, and_true, true_or, or_true, Int.cast_ofNat_Int, Int.natCast_zero, Int.natCast_one, h.1.ob]
        refine ⟨by omega, by omega, fun _ => ?_, fun _ => by omega⟩
        refine zcall (c_X6_kindAt h hsl) ?_
        simp only [b_X4_findTitle_0, b_X4_findTitle_14, b_X4_findTitle_16, b_X4_findTitle_19, b_X4_findTitle_25, b_X4_findTitle_34, b_X4_findTitle_60, b_X4_findTitle_62, b_X4_findTitle_94, b_X4_findTitle_103, b_X4_findTitle_112, b_X4_findTitle_114, o_c, o_il, o_al, o_is, o_as, o_inc, o_add, o_sub, o_mul, o_and, o_or, o_xor, o_shl, o_shr, o_ush, o_rem, o_dup, o_dup2, o_gf, o_pf, o_pz, o_iald, o_iast, o_zald, o_zast, o_aald, o_gs, o_min, o_acp, o_call, o_callv, zgf, zpf, zia_, zza_, zra_, zrd_, zcp_, zpop, zsm8_0, zsm8_1, zsm8_2, zsm8_3, zsm8_4, zsm8_5, zrc, zisob, t_ieq, t_ilt, t_igt, t_zeq, t_zlt, t_zgt, t_sw, zsw, t_iret, t_zret, t_aret, t_vret, zrg, List.getElem?_cons_zero, List.getElem?_cons_succ, List.set_cons_zero, List.set_cons_succ, List.length_cons, List.length_nil, Option.toList_some, Option.toList_none, List.nil_append, List.cons_append, true_and, and_true, true_or, or_true, Int.cast_ofNat_Int, Int.natCast_zero, Int.natCast_one, h.1.ob]
        refine ⟨by omega, by omega, fun e => ?_, fun e => ?_⟩
        · have hm0 := hV.at sl e
          unfold zknd at h2
          rw [if_pos e] at h2
          refine zcall (c_X6_byteAt h hsl (i := 1) ⟨by omega, by omega⟩) ?_
          simp only [b_X4_findTitle_0, b_X4_findTitle_14, b_X4_findTitle_16, b_X4_findTitle_19, b_X4_findTitle_25, b_X4_findTitle_34, b_X4_findTitle_60, b_X4_findTitle_62, b_X4_findTitle_94, b_X4_findTitle_103, b_X4_findTitle_112, b_X4_findTitle_114, o_c, o_il, o_al, o_is, o_as, o_inc, o_add, o_sub, o_mul, o_and, o_or, o_xor, o_shl, o_shr, o_ush, o_rem, o_dup, o_dup2, o_gf, o_pf, o_pz, o_iald, o_iast, o_zald, o_zast, o_aald, o_gs, o_min, o_acp, o_call, o_callv, zgf, zpf, zia_, zza_, zra_, zrd_, zcp_, zpop, zsm8_0, zsm8_1, zsm8_2, zsm8_3, zsm8_4, zsm8_5, zrc, zisob, t_ieq, t_ilt, t_igt, t_zeq, t_zlt, t_zgt, t_sw, zsw, t_iret, t_zret, t_aret, t_vret, zrg, List.getElem?_cons_zero, List.getElem?_cons_succ, List.set_cons_zero, List.set_cons_succ, List.length_cons, List.length_nil, Option.toList_some, Option.toList_none, List.nil_append, List.cons_append, true_and, and_true, true_or, or_true, Int.cast_ofNat_Int, Int.natCast_zero, Int.natCast_one, h.1.ob]
          refine zcall (c_X2_wayOf (by omega)) ?_
          simp only [b_X4_findTitle_0, b_X4_findTitle_14, b_X4_findTitle_16, b_X4_findTitle_19, b_X4_findTitle_25, b_X4_findTitle_34, b_X4_findTitle_60, b_X4_findTitle_62, b_X4_findTitle_94, b_X4_findTitle_103, b_X4_findTitle_112, b_X4_findTitle_114, o_c, o_il, o_al, o_is, o_as, o_inc, o_add, o_sub, o_mul, o_and, o_or, o_xor, o_shl, o_shr, o_ush, o_rem, o_dup, o_dup2, o_gf, o_pf, o_pz, o_iald, o_iast, o_zald, o_zast, o_aald, o_gs, o_min, o_acp, o_call, o_callv, zgf, zpf, zia_, zza_, zra_, zrd_, zcp_, zpop, zsm8_0, zsm8_1, zsm8_2, zsm8_3, zsm8_4, zsm8_5, zrc, zisob, t_ieq, t_ilt, t_igt, t_zeq, t_zlt, t_zgt, t_sw, zsw, t_iret, t_zret, t_aret, t_vret, zrg, List.getElem?_cons_zero, List.getElem?_cons_succ, List.set_cons_zero, List.set_cons_succ, List.length_cons, List.length_nil, Option.toList_some, Option.toList_none, List.nil_append, List.cons_append, true_and, and_true, true_or, or_true, Int.cast_ofNat_Int, Int.natCast_zero, Int.natCast_one, h.1.ob]
          obtain ⟨q, hq⟩ := Int.eq_ofNat_of_zero_le hm0
          obtain ⟨w, hw2⟩ := Int.eq_ofNat_of_zero_le hw.1
          have hq2 : q ≤ 255 := by omega
          have hw3 : w ≤ 3 := by omega
          rw [hq, hw2] at h2 ⊢
          simp only [Int.toNat_natCast] at h2
          have e1 : zand (zshr (q : Int) (w : Int)) 1 = (q : Int) / 2 ^ w % 2 := by
            rw [zshr_nat (by omega) (by omega), zand_m 1 (by omega) (by decide)]
            simp
          rw [e1]
          refine ⟨by omega, fun e2 => ?_, fun e2 => ?_⟩
          · rw [if_pos e2] at h2
            rw [h2]
            exact ⟨rfl, rfl⟩
          · rw [if_neg e2] at h2
            have e3 : zand (q : Int) (zshl 1 (w : Int) - 1) = (q : Int) % 2 ^ w := by
              have hp : (2 : Nat) ^ w ≤ 2 ^ 3 := Nat.pow_le_pow_right (by omega) hw3
              have : zshl 1 (w : Int) = ((1 * 2 ^ w : Nat) : Int) := zshl_nat (a := 1) (by omega) (by omega)
              rw [this, zand_m w (by omega) (by simp)]
            have e4 : (q : Int) % 2 ^ w = ((q % 2 ^ w : Nat) : Int) := by simp
            have hpq : q % 2 ^ w ≤ q := Nat.mod_le _ _
            rw [e3, e4]
            refine zcall (c_J6_bitCount (by omega)) ?_
            simp only [b_X4_findTitle_0, b_X4_findTitle_14, b_X4_findTitle_16, b_X4_findTitle_19, b_X4_findTitle_25, b_X4_findTitle_34, b_X4_findTitle_60, b_X4_findTitle_62, b_X4_findTitle_94, b_X4_findTitle_103, b_X4_findTitle_112, b_X4_findTitle_114, o_c, o_il, o_al, o_is, o_as, o_inc, o_add, o_sub, o_mul, o_and, o_or, o_xor, o_shl, o_shr, o_ush, o_rem, o_dup, o_dup2, o_gf, o_pf, o_pz, o_iald, o_iast, o_zald, o_zast, o_aald, o_gs, o_min, o_acp, o_call, o_callv, zgf, zpf, zia_, zza_, zra_, zrd_, zcp_, zpop, zsm8_0, zsm8_1, zsm8_2, zsm8_3, zsm8_4, zsm8_5, zrc, zisob, t_ieq, t_ilt, t_igt, t_zeq, t_zlt, t_zgt, t_sw, zsw, t_iret, t_zret, t_aret, t_vret, zrg, List.getElem?_cons_zero, List.getElem?_cons_succ, List.set_cons_zero, List.set_cons_succ, List.length_cons, List.length_nil, Option.toList_some, Option.toList_none, List.nil_append, List.cons_append, true_and, and_true, true_or, or_true, Int.cast_ofNat_Int, Int.natCast_zero, Int.natCast_one, h.1.ob]
            have hpc : ∀ (f x : Nat), zpcn f x ≤ f := by
              intro f
              induction f with
              | zero => intro x; simp [zpcn]
              | succ f ih => intro x; simp only [zpcn]; have := ih (x / 2); omega
            have hpc1 := hpc 16 (q % 2 ^ w)
            refine zcall (c_X2_linkAt (by omega) h hsl (by omega)) ?_
            simp only [b_X4_findTitle_0, b_X4_findTitle_14, b_X4_findTitle_16, b_X4_findTitle_19, b_X4_findTitle_25, b_X4_findTitle_34, b_X4_findTitle_60, b_X4_findTitle_62, b_X4_findTitle_94, b_X4_findTitle_103, b_X4_findTitle_112, b_X4_findTitle_114, o_c, o_il, o_al, o_is, o_as, o_inc, o_add, o_sub, o_mul, o_and, o_or, o_xor, o_shl, o_shr, o_ush, o_rem, o_dup, o_dup2, o_gf, o_pf, o_pz, o_iald, o_iast, o_zald, o_zast, o_aald, o_gs, o_min, o_acp, o_call, o_callv, zgf, zpf, zia_, zza_, zra_, zrd_, zcp_, zpop, zsm8_0, zsm8_1, zsm8_2, zsm8_3, zsm8_4, zsm8_5, zrc, zisob, t_ieq, t_ilt, t_igt, t_zeq, t_zlt, t_zgt, t_sw, zsw, t_iret, t_zret, t_aret, t_vret, zrg, List.getElem?_cons_zero, List.getElem?_cons_succ, List.set_cons_zero, List.set_cons_succ, List.length_cons, List.length_nil, Option.toList_some, Option.toList_none, List.nil_append, List.cons_append, true_and, and_true, true_or, or_true, Int.cast_ofNat_Int, Int.natCast_zero, Int.natCast_one, h.1.ob]
            refine zcall (c_X6_slotOf h (h.lnk sl _)) ?_
            simp only [b_X4_findTitle_0, b_X4_findTitle_14, b_X4_findTitle_16, b_X4_findTitle_19, b_X4_findTitle_25, b_X4_findTitle_34, b_X4_findTitle_60, b_X4_findTitle_62, b_X4_findTitle_94, b_X4_findTitle_103, b_X4_findTitle_112, b_X4_findTitle_114, o_c, o_il, o_al, o_is, o_as, o_inc, o_add, o_sub, o_mul, o_and, o_or, o_xor, o_shl, o_shr, o_ush, o_rem, o_dup, o_dup2, o_gf, o_pf, o_pz, o_iald, o_iast, o_zald, o_zast, o_aald, o_gs, o_min, o_acp, o_call, o_callv, zgf, zpf, zia_, zza_, zra_, zrd_, zcp_, zpop, zsm8_0, zsm8_1, zsm8_2, zsm8_3, zsm8_4, zsm8_5, zrc, zisob, t_ieq, t_ilt, t_igt, t_zeq, t_zlt, t_zgt, t_sw, zsw, t_iret, t_zret, t_aret, t_vret, zrg, List.getElem?_cons_zero, List.getElem?_cons_succ, List.set_cons_zero, List.set_cons_succ, List.length_cons, List.length_nil, Option.toList_some, Option.toList_none, List.nil_append, List.cons_append, true_and, and_true, true_or, or_true, Int.cast_ofNat_Int, Int.natCast_zero, Int.natCast_one, h.1.ob]
            refine ih (s + 1) _ _ _ _ (by omega) (h.ix _).1 ?_
            rw [h2, e4]
            rfl
        · unfold zknd at h2
          rw [if_neg e] at h2
          have := fin sl (.inl (s : Int)) x5 x6 x7 hsl h2
          simp only [b_X4_findTitle_103, b_X4_findTitle_112, b_X4_findTitle_114] at this
          exact this
    exact loop 4 0 _ _ _ _ (by omega) (h.ix nm).1 hres
  · rw [if_neg hc]
    have hres : zfnd L nm t = -1 := by unfold zfnd; rw [if_neg hc]
    rw [hres]
    repeat' (first | with_reducible apply And.intro | intro _)
    all_goals first | omega | rfl | trivial | decide | (exfalso; omega)
