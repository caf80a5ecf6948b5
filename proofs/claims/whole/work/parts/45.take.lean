/-! STORES: a batch comes in -/
theorem zix_neg {L : List zBk} {x : Int} : zix L x < 0 ↔ ∀ b ∈ L, b.1 ≠ x := by
  rcases zix_cases L x with ⟨e, h⟩ | ⟨s, b, e, hb, hbx⟩
  · exact ⟨fun _ => h, fun _ => by omega⟩
  · exact ⟨fun w => by omega, fun w => absurd hbx (w b (List.mem_of_getElem? hb))⟩
def zcls (L Lb : List zBk) (c : Int) : Prop := c = 1 ∨ ∃ b ∈ Lb, ¬ zix L b.1 < 0 ∧ zoat L (zix L b.1) ≠ some b.2
def zfre (L Lb : List zBk) : List zBk := Lb.filter (fun b => decide (zix L b.1 < 0))
noncomputable def ztkc (L Lb : List zBk) (c : Int) : Int := if zb (zcls L Lb c) = 1 then -2 else if 64 < L.length + (zfre L Lb).length then -3 else 0
noncomputable def ztkL (L Lb : List zBk) (c : Int) : List zBk := if ztkc L Lb c = 0 then L ++ zfre L Lb else L
set_option maxRecDepth 100000 in
set_option maxHeartbeats 4000000 in
theorem c_X7_takeBatch {d : Nat} {μ : zM} {q : Nat} {L Lb : List zBk} {D : List Int} {c : Int} (hd : 3 ≤ d) (hk : zstK q) (hL : zSH μ (q + 1) 64 L) (hB : zBT μ Lb D c) (hN : zNd Lb) : zCt d mX7_takeBatch [.inr (some q), .inr (some 34)] μ (fun v μ' => v = some (.inl (ztkc L Lb c)) ∧ zSH μ' (q + 1) 64 (ztkL L Lb c) ∧ zfr [q + 1, q + 2, q + 3, q + 4] μ μ') := by
  have hBs := hB.1
  have hl64 : L.length ≤ 64 := by have := hL.2.2.2.1; omega
  have hb64 : Lb.length ≤ 64 := by have := hBs.2.2.2.1; omega
  have hq : q + 4 < 35 := by rcases hk with rfl | rfl | rfl <;> omega
  refine of_X7_takeBatch (by omega) (fun G hG => s_X7_takeBatch_0 hG ?_)
  simp only [b_X7_takeBatch_0, b_X7_takeBatch_16, b_X7_takeBatch_25, b_X7_takeBatch_45, b_X7_takeBatch_51, b_X7_takeBatch_66, b_X7_takeBatch_69, b_X7_takeBatch_75, b_X7_takeBatch_80, b_X7_takeBatch_83, b_X7_takeBatch_97, b_X7_takeBatch_100, b_X7_takeBatch_103, b_X7_takeBatch_112, b_X7_takeBatch_128, b_X7_takeBatch_138, b_X7_takeBatch_144, o_c, o_il, o_al, o_is, o_as, o_inc, o_add, o_sub, o_mul, o_and, o_or, o_xor, o_shl, o_shr, o_ush, o_rem, o_dup, o_dup2, o_gf, o_pf, o_pz, o_iald, o_iast, o_zald, o_zast, o_aald, o_gs, o_min, o_acp, o_call, o_callv, zgf, zpf, zia_, zza_, zra_, zrd_, zcp_, zpop, zsm8_0, zsm8_1, zsm8_2, zsm8_3, zsm8_4, zsm8_5, zrc, zisob, t_ieq, t_ilt, t_igt, t_zeq, t_zlt, t_zgt, t_sw, zsw, t_iret, t_zret, t_aret, t_vret, zrg, List.getElem?_cons_zero, List.getElem?_cons_succ, List.set_cons_zero, List.set_cons_succ, List.length_cons, List.length_nil, Option.toList_some, Option.toList_none, List.nil_append, List.cons_append, true_and, and_true, true_or, or_true, Int.cast_ofNat_Int, Int.natCast_zero, Int.natCast_one, hk.ob, hk.sob, zsh_34, zsh_35]
  refine zcall c_X0_made ?_
  simp only [b_X7_takeBatch_0, b_X7_takeBatch_16, b_X7_takeBatch_25, b_X7_takeBatch_45, b_X7_takeBatch_51, b_X7_takeBatch_66, b_X7_takeBatch_69, b_X7_takeBatch_75, b_X7_takeBatch_80, b_X7_takeBatch_83, b_X7_takeBatch_97, b_X7_takeBatch_100, b_X7_takeBatch_103, b_X7_takeBatch_112, b_X7_takeBatch_128, b_X7_takeBatch_138, b_X7_takeBatch_144, o_c, o_il, o_al, o_is, o_as, o_inc, o_add, o_sub, o_mul, o_and, o_or, o_xor, o_shl, o_shr, o_ush, o_rem, o_dup, o_dup2, o_gf, o_pf, o_pz, o_iald, o_iast, o_zald, o_zast, o_aald, o_gs, o_min, o_acp, o_call, o_callv, zgf, zpf, zia_, zza_, zra_, zrd_, zcp_, zpop, zsm8_0, zsm8_1, zsm8_2, zsm8_3, zsm8_4, zsm8_5, zrc, zisob, t_ieq, t_ilt, t_igt, t_zeq, t_zlt, t_zgt, t_sw, zsw, t_iret, t_zret, t_aret, t_vret, zrg, List.getElem?_cons_zero, List.getElem?_cons_succ, List.set_cons_zero, List.set_cons_succ, List.length_cons, List.length_nil, Option.toList_some, Option.toList_none, List.nil_append, List.cons_append, true_and, and_true, true_or, or_true, Int.cast_ofNat_Int, Int.natCast_zero, Int.natCast_one, hk.ob, hk.sob, zsh_34, zsh_35]
  refine zcall (c_X0_hasClash hB) ?_
  simp only [b_X7_takeBatch_0, b_X7_takeBatch_16, b_X7_takeBatch_25, b_X7_takeBatch_45, b_X7_takeBatch_51, b_X7_takeBatch_66, b_X7_takeBatch_69, b_X7_takeBatch_75, b_X7_takeBatch_80, b_X7_takeBatch_83, b_X7_takeBatch_97, b_X7_takeBatch_100, b_X7_takeBatch_103, b_X7_takeBatch_112, b_X7_takeBatch_128, b_X7_takeBatch_138, b_X7_takeBatch_144, o_c, o_il, o_al, o_is, o_as, o_inc, o_add, o_sub, o_mul, o_and, o_or, o_xor, o_shl, o_shr, o_ush, o_rem, o_dup, o_dup2, o_gf, o_pf, o_pz, o_iald, o_iast, o_zald, o_zast, o_aald, o_gs, o_min, o_acp, o_call, o_callv, zgf, zpf, zia_, zza_, zra_, zrd_, zcp_, zpop, zsm8_0, zsm8_1, zsm8_2, zsm8_3, zsm8_4, zsm8_5, zrc, zisob, t_ieq, t_ilt, t_igt, t_zeq, t_zlt, t_zgt, t_sw, zsw, t_iret, t_zret, t_aret, t_vret, zrg, List.getElem?_cons_zero, List.getElem?_cons_succ, List.set_cons_zero, List.set_cons_succ, List.length_cons, List.length_nil, Option.toList_some, Option.toList_none, List.nil_append, List.cons_append, true_and, and_true, true_or, or_true, Int.cast_ofNat_Int, Int.natCast_zero, Int.natCast_one, hk.ob, hk.sob, zsh_34, zsh_35]
  have htk : ∀ i (hi : i < Lb.length), Lb.take (i + 1) = Lb.take i ++ [Lb[i]] := fun i hi => by rw [List.take_succ]; simp [hi]
  have hnam : ∀ i (hi : i < Lb.length), znam Lb (i : Int) = Lb[i].1 := fun i hi => by simp [znam, hi]
  have hrgn : ∀ i (hi : i < Lb.length), zrg Lb[i].1 := fun i hi => by
    have := (hBs.2.2.2.2.1 Lb[i] (List.getElem_mem hi)).1
    unfold zrg; omega
  -- the second loop
  have loop2 : ∀ (r i : Nat) (μ2 : zM) (x3 x4 x6 : zV), i + r = Lb.length → ztkc L Lb c = 0 → zSH μ2 (q + 1) 64 (L ++ zfre L (Lb.take i)) → zfr [q + 1, q + 2, q + 3, q + 4] μ μ2 → G 103 [.inr (some q), .inr (some 34), .inr (some 35), x3, x4, .inl (i : Int), x6] [] μ2 := by
    intro r
    induction r with
    | zero =>
      intro i μ2 x3 x4 x6 h1 h2 h3 h4
      refine s_X7_takeBatch_103 hG ?_
      simp only [b_X7_takeBatch_0, b_X7_takeBatch_16, b_X7_takeBatch_25, b_X7_takeBatch_45, b_X7_takeBatch_51, b_X7_takeBatch_66, b_X7_takeBatch_69, b_X7_takeBatch_75, b_X7_takeBatch_80, b_X7_takeBatch_83, b_X7_takeBatch_97, b_X7_takeBatch_100, b_X7_takeBatch_103, b_X7_takeBatch_112, b_X7_takeBatch_128, b_X7_takeBatch_138, b_X7_takeBatch_144, o_c, o_il, o_al, o_is, o_as, o_inc, o_add, o_sub, o_mul, o_and, o_or, o_xor, o_shl, o_shr, o_ush, o_rem, o_dup, o_dup2, o_gf, o_pf, o_pz, o_iald, o_iast, o_zald, o_zast, o_aald, o_gs, o_min, o_acp, o_call, o_callv, zgf, zpf, zia_, zza_, zra_, zrd_, zcp_, zpop, zsm8_0, zsm8_1, zsm8_2, zsm8_3, zsm8_4, zsm8_5, zrc, zisob, t_ieq, t_ilt, t_igt, t_zeq, t_zlt, t_zgt, t_sw, zsw, t_iret, t_zret, t_aret, t_vret, zrg, List.getElem?_cons_zero, List.getElem?_cons_succ, List.set_cons_zero, List.set_cons_succ, List.length_cons, List.length_nil, Option.toList_some, Option.toList_none, List.nil_append, List.cons_append, true_and, and_true, true_or, or_true, Int.cast_ofNat_Int, Int.natCast_zero, Int.natCast_one, hk.ob, hk.sob, zsh_34, zsh_35]
      have hB2 : zSH μ2 35 64 Lb := hBs.fr h4 (by simp; omega)
      refine zcall (c_X6_count hB2) ?_
      simp only [b_X7_takeBatch_0, b_X7_takeBatch_16, b_X7_takeBatch_25, b_X7_takeBatch_45, b_X7_takeBatch_51, b_X7_takeBatch_66, b_X7_takeBatch_69, b_X7_takeBatch_75, b_X7_takeBatch_80, b_X7_takeBatch_83, b_X7_takeBatch_97, b_X7_takeBatch_100, b_X7_takeBatch_103, b_X7_takeBatch_112, b_X7_takeBatch_128, b_X7_takeBatch_138, b_X7_takeBatch_144, o_c, o_il, o_al, o_is, o_as, o_inc, o_add, o_sub, o_mul, o_and, o_or, o_xor, o_shl, o_shr, o_ush, o_rem, o_dup, o_dup2, o_gf, o_pf, o_pz, o_iald, o_iast, o_zald, o_zast, o_aald, o_gs, o_min, o_acp, o_call, o_callv, zgf, zpf, zia_, zza_, zra_, zrd_, zcp_, zpop, zsm8_0, zsm8_1, zsm8_2, zsm8_3, zsm8_4, zsm8_5, zrc, zisob, t_ieq, t_ilt, t_igt, t_zeq, t_zlt, t_zgt, t_sw, zsw, t_iret, t_zret, t_aret, t_vret, zrg, List.getElem?_cons_zero, List.getElem?_cons_succ, List.set_cons_zero, List.set_cons_succ, List.length_cons, List.length_nil, Option.toList_some, Option.toList_none, List.nil_append, List.cons_append, true_and, and_true, true_or, or_true, Int.cast_ofNat_Int, Int.natCast_zero, Int.natCast_one, hk.ob, hk.sob, zsh_34, zsh_35]
      refine ⟨by omega, by omega, fun _ => by omega, fun _ => ⟨by rw [h2], ?_, h4⟩⟩
      rw [ztkL, if_pos h2]
      rw [List.take_of_length_le (by omega)] at h3
      exact h3
    | succ r ih =>
      intro i μ2 x3 x4 x6 h1 h2 h3 h4
      have hi : i < Lb.length := by omega
      refine s_X7_takeBatch_103 hG ?_
      simp only [b_X7_takeBatch_0, b_X7_takeBatch_16, b_X7_takeBatch_25, b_X7_takeBatch_45, b_X7_takeBatch_51, b_X7_takeBatch_66, b_X7_takeBatch_69, b_X7_takeBatch_75, b_X7_takeBatch_80, b_X7_takeBatch_83, b_X7_takeBatch_97, b_X7_takeBatch_100, b_X7_takeBatch_103, b_X7_takeBatch_112, b_X7_takeBatch_128, b_X7_takeBatch_138, b_X7_takeBatch_144, o_c, o_il, o_al, o_is, o_as, o_inc, o_add, o_sub, o_mul, o_and, o_or, o_xor, o_shl, o_shr, o_ush, o_rem, o_dup, o_dup2, o_gf, o_pf, o_pz, o_iald, o_iast, o_zald, o_zast, o_aald, o_gs, o_min, o_acp, o_call, o_callv, zgf, zpf, zia_, zza_, zra_, zrd_, zcp_, zpop, zsm8_0, zsm8_1, zsm8_2, zsm8_3, zsm8_4, zsm8_5, zrc, zisob, t_ieq, t_ilt, t_igt, t_zeq, t_zlt, t_zgt, t_sw, zsw, t_iret, t_zret, t_aret, t_vret, zrg, List.getElem?_cons_zero, List.getElem?_cons_succ, List.set_cons_zero, List.set_cons_succ, List.length_cons, List.length_nil, Option.toList_some, Option.toList_none, List.nil_append, List.cons_append, true_and, and_true, true_or, or_true, Int.cast_ofNat_Int, Int.natCast_zero, Int.natCast_one, hk.ob, hk.sob, zsh_34, zsh_35]
      have hB2 : zSH μ2 35 64 Lb := hBs.fr h4 (by simp; omega)
      refine zcall (c_X6_count hB2) ?_
      simp only [b_X7_takeBatch_0, b_X7_takeBatch_16, b_X7_takeBatch_25, b_X7_takeBatch_45, b_X7_takeBatch_51, b_X7_takeBatch_66, b_X7_takeBatch_69, b_X7_takeBatch_75, b_X7_takeBatch_80, b_X7_takeBatch_83, b_X7_takeBatch_97, b_X7_takeBatch_100, b_X7_takeBatch_103, b_X7_takeBatch_112, b_X7_takeBatch_128, b_X7_takeBatch_138, b_X7_takeBatch_144, o_c, o_il, o_al, o_is, o_as, o_inc, o_add, o_sub, o_mul, o_and, o_or, o_xor, o_shl, o_shr, o_ush, o_rem, o_dup, o_dup2, o_gf, o_pf, o_pz, o_iald, o_iast, o_zald, o_zast, o_aald, o_gs, o_min, o_acp, o_call, o_callv, zgf, zpf, zia_, zza_, zra_, zrd_, zcp_, zpop, zsm8_0, zsm8_1, zsm8_2, zsm8_3, zsm8_4, zsm8_5, zrc, zisob, t_ieq, t_ilt, t_igt, t_zeq, t_zlt, t_zgt, t_sw, zsw, t_iret, t_zret, t_aret, t_vret, zrg, List.getElem?_cons_zero, List.getElem?_cons_succ, List.set_cons_zero, List.set_cons_succ, List.length_cons, List.length_nil, Option.toList_some, Option.toList_none, List.nil_append, List.cons_append, true_and, and_true, true_or, or_true, Int.cast_ofNat_Int, Int.natCast_zero, Int.natCast_one, hk.ob, hk.sob, zsh_34, zsh_35]
      refine ⟨by omega, by omega, fun _ => ?_, fun _ => by omega⟩
      refine zcall (c_X6_nameAt (by omega) hB2 ⟨by omega, by omega⟩) ?_
      rw [hnam i hi]
      simp only [b_X7_takeBatch_0, b_X7_takeBatch_16, b_X7_takeBatch_25, b_X7_takeBatch_45, b_X7_takeBatch_51, b_X7_takeBatch_66, b_X7_takeBatch_69, b_X7_takeBatch_75, b_X7_takeBatch_80, b_X7_takeBatch_83, b_X7_takeBatch_97, b_X7_takeBatch_100, b_X7_takeBatch_103, b_X7_takeBatch_112, b_X7_takeBatch_128, b_X7_takeBatch_138, b_X7_takeBatch_144, o_c, o_il, o_al, o_is, o_as, o_inc, o_add, o_sub, o_mul, o_and, o_or, o_xor, o_shl, o_shr, o_ush, o_rem, o_dup, o_dup2, o_gf, o_pf, o_pz, o_iald, o_iast, o_zald, o_zast, o_aald, o_gs, o_min, o_acp, o_call, o_callv, zgf, zpf, zia_, zza_, zra_, zrd_, zcp_, zpop, zsm8_0, zsm8_1, zsm8_2, zsm8_3, zsm8_4, zsm8_5, zrc, zisob, t_ieq, t_ilt, t_igt, t_zeq, t_zlt, t_zgt, t_sw, zsw, t_iret, t_zret, t_aret, t_vret, zrg, List.getElem?_cons_zero, List.getElem?_cons_succ, List.set_cons_zero, List.set_cons_succ, List.length_cons, List.length_nil, Option.toList_some, Option.toList_none, List.nil_append, List.cons_append, true_and, and_true, true_or, or_true, Int.cast_ofNat_Int, Int.natCast_zero, Int.natCast_one, hk.ob, hk.sob, zsh_34, zsh_35]
      refine zcall (c_X6_slotOf h3 (hrgn i hi)) ?_
      simp only [b_X7_takeBatch_0, b_X7_takeBatch_16, b_X7_takeBatch_25, b_X7_takeBatch_45, b_X7_takeBatch_51, b_X7_takeBatch_66, b_X7_takeBatch_69, b_X7_takeBatch_75, b_X7_takeBatch_80, b_X7_takeBatch_83, b_X7_takeBatch_97, b_X7_takeBatch_100, b_X7_takeBatch_103, b_X7_takeBatch_112, b_X7_takeBatch_128, b_X7_takeBatch_138, b_X7_takeBatch_144, o_c, o_il, o_al, o_is, o_as, o_inc, o_add, o_sub, o_mul, o_and, o_or, o_xor, o_shl, o_shr, o_ush, o_rem, o_dup, o_dup2, o_gf, o_pf, o_pz, o_iald, o_iast, o_zald, o_zast, o_aald, o_gs, o_min, o_acp, o_call, o_callv, zgf, zpf, zia_, zza_, zra_, zrd_, zcp_, zpop, zsm8_0, zsm8_1, zsm8_2, zsm8_3, zsm8_4, zsm8_5, zrc, zisob, t_ieq, t_ilt, t_igt, t_zeq, t_zlt, t_zgt, t_sw, zsw, t_iret, t_zret, t_aret, t_vret, zrg, List.getElem?_cons_zero, List.getElem?_cons_succ, List.set_cons_zero, List.set_cons_succ, List.length_cons, List.length_nil, Option.toList_some, Option.toList_none, List.nil_append, List.cons_append, true_and, and_true, true_or, or_true, Int.cast_ofNat_Int, Int.natCast_zero, Int.natCast_one, hk.ob, hk.sob, zsh_34, zsh_35]
      have hixr := h3.ix Lb[i].1
      unfold zrg at hixr
      have hiff : zix (L ++ zfre L (Lb.take i)) Lb[i].1 < 0 ↔ zix L Lb[i].1 < 0 := by
        rw [zix_neg, zix_neg]
        constructor
        · intro w b hb
          exact w b (List.mem_append_left _ hb)
        · intro w b hb
          rcases List.mem_append.mp hb with hb | hb
          · exact w b hb
          · have hb2 : b ∈ Lb.take i := (List.mem_filter.mp hb).1
            obtain ⟨j, hj⟩ := List.getElem?_of_mem hb2
            have hjl : j < i := by
              have := (List.getElem?_eq_some_iff.mp hj).1
              simp at this
              omega
            rw [List.getElem?_take_of_lt hjl] at hj
            intro e
            have := hN j i b Lb[i] hj (List.getElem?_eq_getElem hi) e
            omega
      refine ⟨by omega, fun e => ?_, fun e => ?_⟩
      · have e2 := hiff.mp e
        have hfe : zfre L (Lb.take (i + 1)) = zfre L (Lb.take i) ++ [Lb[i]] := by
          unfold zfre
          rw [htk i hi, List.filter_append]
          simp [e2]
        refine ⟨_, c_X6_appendCopy (by omega) h3 hB2 (s := i) ⟨by omega, by omega⟩, ?_⟩
        rintro v μ3 ⟨rfl, b1, b2⟩
        simp only [b_X7_takeBatch_0, b_X7_takeBatch_16, b_X7_takeBatch_25, b_X7_takeBatch_45, b_X7_takeBatch_51, b_X7_takeBatch_66, b_X7_takeBatch_69, b_X7_takeBatch_75, b_X7_takeBatch_80, b_X7_takeBatch_83, b_X7_takeBatch_97, b_X7_takeBatch_100, b_X7_takeBatch_103, b_X7_takeBatch_112, b_X7_takeBatch_128, b_X7_takeBatch_138, b_X7_takeBatch_144, o_c, o_il, o_al, o_is, o_as, o_inc, o_add, o_sub, o_mul, o_and, o_or, o_xor, o_shl, o_shr, o_ush, o_rem, o_dup, o_dup2, o_gf, o_pf, o_pz, o_iald, o_iast, o_zald, o_zast, o_aald, o_gs, o_min, o_acp, o_call, o_callv, zgf, zpf, zia_, zza_, zra_, zrd_, zcp_, zpop, zsm8_0, zsm8_1, zsm8_2, zsm8_3, zsm8_4, zsm8_5, zrc, zisob, t_ieq, t_ilt, t_igt, t_zeq, t_zlt, t_zgt, t_sw, zsw, t_iret, t_zret, t_aret, t_vret, zrg, List.getElem?_cons_zero, List.getElem?_cons_succ, List.set_cons_zero, List.set_cons_succ, List.length_cons, List.length_nil, Option.toList_some, Option.toList_none, List.nil_append, List.cons_append, true_and, and_true, true_or, or_true, Int.cast_ofNat_Int, Int.natCast_zero, Int.natCast_one, hk.ob, hk.sob, zsh_34, zsh_35]
        have hroom : (L.length : Int) + (zfre L (Lb.take i)).length < 64 := by
          unfold ztkc at h2
          have hle : (zfre L (Lb.take (i + 1))).length ≤ (zfre L Lb).length := by
            unfold zfre
            exact ((List.take_sublist _ _).filter _).length_le
          rw [hfe] at hle
          simp at hle
          split at h2
          · omega
          · split at h2
            · omega
            · omega
        rw [if_pos (by omega)] at b1
        simp only [Int.toNat_natCast, List.getElem?_eq_getElem hi] at b1
        unfold zapp at b1
        rw [if_pos (by simp; omega)] at b1
        exact ih (i + 1) μ3 _ _ _ (by omega) h2 (by rw [hfe, ← List.append_assoc]; exact b1) (h4.trans (b2.mono (by simp)))
      · have e2 : ¬ zix L Lb[i].1 < 0 := fun w => by have := hiff.mpr w; omega
        have hfe : zfre L (Lb.take (i + 1)) = zfre L (Lb.take i) := by
          unfold zfre
          rw [htk i hi, List.filter_append]
          simp [e2]
        exact ih (i + 1) μ2 _ _ _ (by omega) h2 (by rw [hfe]; exact h3) h4
  have loop1 : ∀ (r i : Nat) (x6 : zV), i + r = Lb.length → G 16 [.inr (some q), .inr (some 34), .inr (some 35), .inl ((zfre L (Lb.take i)).length : Int), .inl (zb (zcls L (Lb.take i) c)), .inl (i : Int), x6] [] μ := by
    intro r
    induction r with
    | zero =>
      intro i x6 h1
      refine s_X7_takeBatch_16 hG ?_
      simp only [b_X7_takeBatch_0, b_X7_takeBatch_16, b_X7_takeBatch_25, b_X7_takeBatch_45, b_X7_takeBatch_51, b_X7_takeBatch_66, b_X7_takeBatch_69, b_X7_takeBatch_75, b_X7_takeBatch_80, b_X7_takeBatch_83, b_X7_takeBatch_97, b_X7_takeBatch_100, b_X7_takeBatch_103, b_X7_takeBatch_112, b_X7_takeBatch_128, b_X7_takeBatch_138, b_X7_takeBatch_144, o_c, o_il, o_al, o_is, o_as, o_inc, o_add, o_sub, o_mul, o_and, o_or, o_xor, o_shl, o_shr, o_ush, o_rem, o_dup, o_dup2, o_gf, o_pf, o_pz, o_iald, o_iast, o_zald, o_zast, o_aald, o_gs, o_min, o_acp, o_call, o_callv, zgf, zpf, zia_, zza_, zra_, zrd_, zcp_, zpop, zsm8_0, zsm8_1, zsm8_2, zsm8_3, zsm8_4, zsm8_5, zrc, zisob, t_ieq, t_ilt, t_igt, t_zeq, t_zlt, t_zgt, t_sw, zsw, t_iret, t_zret, t_aret, t_vret, zrg, List.getElem?_cons_zero, List.getElem?_cons_succ, List.set_cons_zero, List.set_cons_succ, List.length_cons, List.length_nil, Option.toList_some, Option.toList_none, List.nil_append, List.cons_append, true_and, and_true, true_or, or_true, Int.cast_ofNat_Int, Int.natCast_zero, Int.natCast_one, hk.ob, hk.sob, zsh_34, zsh_35]
      refine zcall (c_X6_count hBs) ?_
      simp only [b_X7_takeBatch_0, b_X7_takeBatch_16, b_X7_takeBatch_25, b_X7_takeBatch_45, b_X7_takeBatch_51, b_X7_takeBatch_66, b_X7_takeBatch_69, b_X7_takeBatch_75, b_X7_takeBatch_80, b_X7_takeBatch_83, b_X7_takeBatch_97, b_X7_takeBatch_100, b_X7_takeBatch_103, b_X7_takeBatch_112, b_X7_takeBatch_128, b_X7_takeBatch_138, b_X7_takeBatch_144, o_c, o_il, o_al, o_is, o_as, o_inc, o_add, o_sub, o_mul, o_and, o_or, o_xor, o_shl, o_shr, o_ush, o_rem, o_dup, o_dup2, o_gf, o_pf, o_pz, o_iald, o_iast, o_zald, o_zast, o_aald, o_gs, o_min, o_acp, o_call, o_callv, zgf, zpf, zia_, zza_, zra_, zrd_, zcp_, zpop, zsm8_0, zsm8_1, zsm8_2, zsm8_3, zsm8_4, zsm8_5, zrc, zisob, t_ieq, t_ilt, t_igt, t_zeq, t_zlt, t_zgt, t_sw, zsw, t_iret, t_zret, t_aret, t_vret, zrg, List.getElem?_cons_zero, List.getElem?_cons_succ, List.set_cons_zero, List.set_cons_succ, List.length_cons, List.length_nil, Option.toList_some, Option.toList_none, List.nil_append, List.cons_append, true_and, and_true, true_or, or_true, Int.cast_ofNat_Int, Int.natCast_zero, Int.natCast_one, hk.ob, hk.sob, zsh_34, zsh_35]
      rw [List.take_of_length_le (by omega)]
      refine ⟨by omega, by omega, fun _ => by omega, fun _ => ?_⟩
      have hzl : (zfre L Lb).length ≤ 64 := Nat.le_trans (List.length_filter_le _ _) hb64
      rcases zb_or (zcls L Lb c) with ⟨z1, z2⟩ | ⟨z1, z2⟩
      · rw [z1]
        have e : ztkc L Lb c = -2 := by unfold ztkc; rw [if_pos z1]
        refine ⟨by omega, fun w => by omega, fun _ => ⟨by rw [e], ?_, zfr.refl _ _⟩⟩
        rw [ztkL, if_neg (by omega)]
        exact hL
      · rw [z1]
        refine ⟨by omega, fun _ => ?_, fun w => absurd rfl w⟩
        refine zcall (c_X6_count hL) ?_
        simp only [b_X7_takeBatch_0, b_X7_takeBatch_16, b_X7_takeBatch_25, b_X7_takeBatch_45, b_X7_takeBatch_51, b_X7_takeBatch_66, b_X7_takeBatch_69, b_X7_takeBatch_75, b_X7_takeBatch_80, b_X7_takeBatch_83, b_X7_takeBatch_97, b_X7_takeBatch_100, b_X7_takeBatch_103, b_X7_takeBatch_112, b_X7_takeBatch_128, b_X7_takeBatch_138, b_X7_takeBatch_144, o_c, o_il, o_al, o_is, o_as, o_inc, o_add, o_sub, o_mul, o_and, o_or, o_xor, o_shl, o_shr, o_ush, o_rem, o_dup, o_dup2, o_gf, o_pf, o_pz, o_iald, o_iast, o_zald, o_zast, o_aald, o_gs, o_min, o_acp, o_call, o_callv, zgf, zpf, zia_, zza_, zra_, zrd_, zcp_, zpop, zsm8_0, zsm8_1, zsm8_2, zsm8_3, zsm8_4, zsm8_5, zrc, zisob, t_ieq, t_ilt, t_igt, t_zeq, t_zlt, t_zgt, t_sw, zsw, t_iret, t_zret, t_aret, t_vret, zrg, List.getElem?_cons_zero, List.getElem?_cons_succ, List.set_cons_zero, List.set_cons_succ, List.length_cons, List.length_nil, Option.toList_some, Option.toList_none, List.nil_append, List.cons_append, true_and, and_true, true_or, or_true, Int.cast_ofNat_Int, Int.natCast_zero, Int.natCast_one, hk.ob, hk.sob, zsh_34, zsh_35]
        refine ⟨by omega, by omega, fun e => ?_, fun e => ?_⟩
        · have e9 : ztkc L Lb c = -3 := by unfold ztkc; rw [if_neg (by omega), if_pos (by omega)]
          refine ⟨by rw [e9], ?_, zfr.refl _ _⟩
          rw [ztkL, if_neg (by omega)]
          exact hL
        · have e9 : ztkc L Lb c = 0 := by unfold ztkc; rw [if_neg (by omega), if_neg (by omega)]
          exact loop2 Lb.length 0 μ _ _ _ (by omega) e9 (by simpa [zfre] using hL) (zfr.refl _ _)
    | succ r ih =>
      intro i x6 h1
      have hi : i < Lb.length := by omega
      refine s_X7_takeBatch_16 hG ?_
      simp only [b_X7_takeBatch_0, b_X7_takeBatch_16, b_X7_takeBatch_25, b_X7_takeBatch_45, b_X7_takeBatch_51, b_X7_takeBatch_66, b_X7_takeBatch_69, b_X7_takeBatch_75, b_X7_takeBatch_80, b_X7_takeBatch_83, b_X7_takeBatch_97, b_X7_takeBatch_100, b_X7_takeBatch_103, b_X7_takeBatch_112, b_X7_takeBatch_128, b_X7_takeBatch_138, b_X7_takeBatch_144, o_c, o_il, o_al, o_is, o_as, o_inc, o_add, o_sub, o_mul, o_and, o_or, o_xor, o_shl, o_shr, o_ush, o_rem, o_dup, o_dup2, o_gf, o_pf, o_pz, o_iald, o_iast, o_zald, o_zast, o_aald, o_gs, o_min, o_acp, o_call, o_callv, zgf, zpf, zia_, zza_, zra_, zrd_, zcp_, zpop, zsm8_0, zsm8_1, zsm8_2, zsm8_3, zsm8_4, zsm8_5, zrc, zisob, t_ieq, t_ilt, t_igt, t_zeq, t_zlt, t_zgt, t_sw, zsw, t_iret, t_zret, t_aret, t_vret, zrg, List.getElem?_cons_zero, List.getElem?_cons_succ, List.set_cons_zero, List.set_cons_succ, List.length_cons, List.length_nil, Option.toList_some, Option.toList_none, List.nil_append, List.cons_append, true_and, and_true, true_or, or_true, Int.cast_ofNat_Int, Int.natCast_zero, Int.natCast_one, hk.ob, hk.sob, zsh_34, zsh_35]
      refine zcall (c_X6_count hBs) ?_
      simp only [b_X7_takeBatch_0, b_X7_takeBatch_16, b_X7_takeBatch_25, b_X7_takeBatch_45, b_X7_takeBatch_51, b_X7_takeBatch_66, b_X7_takeBatch_69, b_X7_takeBatch_75, b_X7_takeBatch_80, b_X7_takeBatch_83, b_X7_takeBatch_97, b_X7_takeBatch_100, b_X7_takeBatch_103, b_X7_takeBatch_112, b_X7_takeBatch_128, b_X7_takeBatch_138, b_X7_takeBatch_144, o_c, o_il, o_al, o_is, o_as, o_inc, o_add, o_sub, o_mul, o_and, o_or, o_xor, o_shl, o_shr, o_ush, o_rem, o_dup, o_dup2, o_gf, o_pf, o_pz, o_iald, o_iast, o_zald, o_zast, o_aald, o_gs, o_min, o_acp, o_call, o_callv, zgf, zpf, zia_, zza_, zra_, zrd_, zcp_, zpop, zsm8_0, zsm8_1, zsm8_2, zsm8_3, zsm8_4, zsm8_5, zrc, zisob, t_ieq, t_ilt, t_igt, t_zeq, t_zlt, t_zgt, t_sw, zsw, t_iret, t_zret, t_aret, t_vret, zrg, List.getElem?_cons_zero, List.getElem?_cons_succ, List.set_cons_zero, List.set_cons_succ, List.length_cons, List.length_nil, Option.toList_some, Option.toList_none, List.nil_append, List.cons_append, true_and, and_true, true_or, or_true, Int.cast_ofNat_Int, Int.natCast_zero, Int.natCast_one, hk.ob, hk.sob, zsh_34, zsh_35]
      refine ⟨by omega, by omega, fun _ => ?_, fun _ => by omega⟩
      refine zcall (c_X6_nameAt (by omega) hBs ⟨by omega, by omega⟩) ?_
      rw [hnam i hi]
      simp only [b_X7_takeBatch_0, b_X7_takeBatch_16, b_X7_takeBatch_25, b_X7_takeBatch_45, b_X7_takeBatch_51, b_X7_takeBatch_66, b_X7_takeBatch_69, b_X7_takeBatch_75, b_X7_takeBatch_80, b_X7_takeBatch_83, b_X7_takeBatch_97, b_X7_takeBatch_100, b_X7_takeBatch_103, b_X7_takeBatch_112, b_X7_takeBatch_128, b_X7_takeBatch_138, b_X7_takeBatch_144, o_c, o_il, o_al, o_is, o_as, o_inc, o_add, o_sub, o_mul, o_and, o_or, o_xor, o_shl, o_shr, o_ush, o_rem, o_dup, o_dup2, o_gf, o_pf, o_pz, o_iald, o_iast, o_zald, o_zast, o_aald, o_gs, o_min, o_acp, o_call, o_callv, zgf, zpf, zia_, zza_, zra_, zrd_, zcp_, zpop, zsm8_0, zsm8_1, zsm8_2, zsm8_3, zsm8_4, zsm8_5, zrc, zisob, t_ieq, t_ilt, t_igt, t_zeq, t_zlt, t_zgt, t_sw, zsw, t_iret, t_zret, t_aret, t_vret, zrg, List.getElem?_cons_zero, List.getElem?_cons_succ, List.set_cons_zero, List.set_cons_succ, List.length_cons, List.length_nil, Option.toList_some, Option.toList_none, List.nil_append, List.cons_append, true_and, and_true, true_or, or_true, Int.cast_ofNat_Int, Int.natCast_zero, Int.natCast_one, hk.ob, hk.sob, zsh_34, zsh_35]
      refine zcall (c_X6_slotOf hL (hrgn i hi)) ?_
      simp only [b_X7_takeBatch_0, b_X7_takeBatch_16, b_X7_takeBatch_25, b_X7_takeBatch_45, b_X7_takeBatch_51, b_X7_takeBatch_66, b_X7_takeBatch_69, b_X7_takeBatch_75, b_X7_takeBatch_80, b_X7_takeBatch_83, b_X7_takeBatch_97, b_X7_takeBatch_100, b_X7_takeBatch_103, b_X7_takeBatch_112, b_X7_takeBatch_128, b_X7_takeBatch_138, b_X7_takeBatch_144, o_c, o_il, o_al, o_is, o_as, o_inc, o_add, o_sub, o_mul, o_and, o_or, o_xor, o_shl, o_shr, o_ush, o_rem, o_dup, o_dup2, o_gf, o_pf, o_pz, o_iald, o_iast, o_zald, o_zast, o_aald, o_gs, o_min, o_acp, o_call, o_callv, zgf, zpf, zia_, zza_, zra_, zrd_, zcp_, zpop, zsm8_0, zsm8_1, zsm8_2, zsm8_3, zsm8_4, zsm8_5, zrc, zisob, t_ieq, t_ilt, t_igt, t_zeq, t_zlt, t_zgt, t_sw, zsw, t_iret, t_zret, t_aret, t_vret, zrg, List.getElem?_cons_zero, List.getElem?_cons_succ, List.set_cons_zero, List.set_cons_succ, List.length_cons, List.length_nil, Option.toList_some, Option.toList_none, List.nil_append, List.cons_append, true_and, and_true, true_or, or_true, Int.cast_ofNat_Int, Int.natCast_zero, Int.natCast_one, hk.ob, hk.sob, zsh_34, zsh_35]
      have hixr := hL.ix Lb[i].1
      have hixr2 := hixr
      unfold zrg at hixr
      have hoat : zoat Lb (i : Int) = some Lb[i].2 := by simp [zoat, hi]
      have hcs : zcls L (Lb.take (i + 1)) c ↔ zcls L (Lb.take i) c ∨ (¬ zix L Lb[i].1 < 0 ∧ zoat L (zix L Lb[i].1) ≠ some Lb[i].2) := by
        unfold zcls
        rw [htk i hi]
        constructor
        · rintro (w | ⟨b, hb, hb2⟩)
          · exact Or.inl (Or.inl w)
          · rcases List.mem_append.mp hb with hb | hb
            · exact Or.inl (Or.inr ⟨b, hb, hb2⟩)
            · rw [List.mem_singleton.mp hb] at hb2
              exact Or.inr hb2
        · rintro ((w | ⟨b, hb, hb2⟩) | w)
          · exact Or.inl w
          · exact Or.inr ⟨b, List.mem_append_left _ hb, hb2⟩
          · exact Or.inr ⟨Lb[i], List.mem_append_right _ (List.mem_singleton.mpr rfl), w⟩
      have hzeq : ∀ {A B : Prop}, (A ↔ B) → zb A = zb B := fun {A B} w => by rw [propext w]
      have nx := ih (i + 1) (.inl (zix L Lb[i].1)) (by omega)
      refine ⟨by omega, fun e => ?_, fun e => ?_⟩
      · have hfe : (zfre L (Lb.take (i + 1))).length = (zfre L (Lb.take i)).length + 1 := by
          unfold zfre
          rw [htk i hi, List.filter_append]
          simp [e]
        rw [hfe, hzeq (show zcls L (Lb.take (i + 1)) c ↔ zcls L (Lb.take i) c from hcs.trans ⟨fun w => w.elim id (fun z => absurd e z.1), Or.inl⟩)] at nx
        exact nx
      · have e2 : ¬ zix L Lb[i].1 < 0 := by omega
        have hfe : (zfre L (Lb.take (i + 1))).length = (zfre L (Lb.take i)).length := by
          unfold zfre
          rw [htk i hi, List.filter_append]
          simp [e2]
        refine zcall (c_X6_hasSameBlock (by omega) hL hBs hixr2.1 (s2 := i) ⟨by omega, by omega⟩) ?_
        simp only [b_X7_takeBatch_0, b_X7_takeBatch_16, b_X7_takeBatch_25, b_X7_takeBatch_45, b_X7_takeBatch_51, b_X7_takeBatch_66, b_X7_takeBatch_69, b_X7_takeBatch_75, b_X7_takeBatch_80, b_X7_takeBatch_83, b_X7_takeBatch_97, b_X7_takeBatch_100, b_X7_takeBatch_103, b_X7_takeBatch_112, b_X7_takeBatch_128, b_X7_takeBatch_138, b_X7_takeBatch_144, o_c, o_il, o_al, o_is, o_as, o_inc, o_add, o_sub, o_mul, o_and, o_or, o_xor, o_shl, o_shr, o_ush, o_rem, o_dup, o_dup2, o_gf, o_pf, o_pz, o_iald, o_iast, o_zald, o_zast, o_aald, o_gs, o_min, o_acp, o_call, o_callv, zgf, zpf, zia_, zza_, zra_, zrd_, zcp_, zpop, zsm8_0, zsm8_1, zsm8_2, zsm8_3, zsm8_4, zsm8_5, zrc, zisob, t_ieq, t_ilt, t_igt, t_zeq, t_zlt, t_zgt, t_sw, zsw, t_iret, t_zret, t_aret, t_vret, zrg, List.getElem?_cons_zero, List.getElem?_cons_succ, List.set_cons_zero, List.set_cons_succ, List.length_cons, List.length_nil, Option.toList_some, Option.toList_none, List.nil_append, List.cons_append, true_and, and_true, true_or, or_true, Int.cast_ofNat_Int, Int.natCast_zero, Int.natCast_one, hk.ob, hk.sob, zsh_34, zsh_35]
        rw [hoat]
        rw [hfe] at nx
        by_cases hsm : zoat L (zix L Lb[i].1) = some Lb[i].2
        · rw [if_pos ⟨by simp, hsm⟩]
          rw [hzeq (show zcls L (Lb.take (i + 1)) c ↔ zcls L (Lb.take i) c from hcs.trans ⟨fun w => w.elim id (fun z => absurd hsm z.2), Or.inl⟩)] at nx
          exact ⟨by omega, fun w => by omega, fun _ => nx⟩
        · rw [if_neg (fun w => hsm w.2)]
          rw [zb_t (hcs.mpr (Or.inr ⟨e2, hsm⟩))] at nx
          exact ⟨by omega, fun _ => nx, fun w => absurd rfl w⟩
  have h0 := loop1 Lb.length 0 (.inr none) (by omega)
  have hc0 : zb (zcls L (Lb.take 0) c) = c := by
    rcases hB.2.2.2.2.2.2 with rfl | rfl
    · exact zb_f (by simp [zcls])
    · exact zb_t (Or.inl rfl)
  rw [hc0] at h0
  exact h0
