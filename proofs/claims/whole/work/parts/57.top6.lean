/-! THE CLASS: deliver, harm -/
def zat (Ms : List zMg) (k : Int) : Option zMg := if 0 ≤ k then Ms[k.toNat]? else none
theorem zat_cases (Ms : List zMg) (k : Int) : (¬ (0 ≤ k ∧ k < Ms.length) ∧ zat Ms k = none) ∨ ∃ (i : Nat) (m : zMg), k = i ∧ i < Ms.length ∧ Ms[i]? = some m ∧ zat Ms k = some m := by
  unfold zat
  by_cases h : 0 ≤ k ∧ k < Ms.length
  · right
    refine ⟨k.toNat, Ms[k.toNat]'(by omega), by omega, by omega, List.getElem?_eq_getElem _, ?_⟩
    rw [if_pos h.1]
    exact List.getElem?_eq_getElem _
  · left
    refine ⟨h, ?_⟩
    split
    · exact List.getElem?_eq_none (by omega)
    · rfl
def zdlO (Ms : List zMg) (k : Int) : Int := match zat Ms k with
  | none => -1
  | some m => m.1.1
noncomputable def zdlM (Ms : List zMg) (St : Nat → zStt) (k : Int) : List zMg := match zat Ms k with
  | none => Ms
  | some m => if m.1.1 = 0 then zanw (Ms.eraseIdx k.toNat) (St m.1.2.2.toNat).1 m.1.2.1 m.1.2.2 m.2.1 else if m.1.1 = 1 then zgvM (Ms.eraseIdx k.toNat) m.1.2.2 (St m.1.2.2.toNat) m.1.2.1 m.2 else Ms.eraseIdx k.toNat
noncomputable def zdlS (Ms : List zMg) (St : Nat → zStt) (k : Int) : Nat → zStt := match zat Ms k with
  | none => St
  | some m => if m.1.1 = 0 then St else if m.1.1 = 1 then zSu St m.1.2.2.toNat (zgvS (St m.1.2.2.toNat) m.1.2.1 m.2) else zSu St m.1.2.2.toNat (zrnS (St m.1.2.2.toNat) m.1.2.1 m.2.1)
set_option maxRecDepth 100000 in
set_option maxHeartbeats 4000000 in
theorem c_X10_deliver {d : Nat} {μ : zM} {B : List Int} {T : List zPp} {Ms : List zMg} {St : Nat → zStt} {k : Int} (hd : 6 ≤ d) (h : zRC μ B T Ms St) (hV : ∀ s, s < 3 → zVS (St s)) (hI : ∀ s, s < 3 → zrnI (St s)) (hk0 : zrg k) : zCt d mX10_deliver [.inr (some 0), .inl k] μ (fun v μ' => v = some (.inl (zdlO Ms k)) ∧ zRC μ' B T (zdlM Ms St k) (zdlS Ms St k) ∧ zfr zCS μ μ') := by
  have hLI := h.2.2.1
  have hlen := hLI.len
  rcases zat_cases Ms k with ⟨e1, e2⟩ | ⟨i, m, rfl, hi, e1, e2⟩
  · unfold zdlO zdlM zdlS
    rw [e2]
    refine of_X10_deliver (by omega) (fun G hG => s_X10_deliver_0 hG ?_)
    simp only [b_X10_deliver_0, b_X10_deliver_11, b_X10_deliver_13, b_X10_deliver_56, b_X10_deliver_78, b_X10_deliver_90, b_X10_deliver_102, b_X10_deliver_107, b_X10_deliver_119, b_X10_deliver_128, o_c, o_il, o_al, o_is, o_as, o_inc, o_add, o_sub, o_mul, o_and, o_or, o_xor, o_shl, o_shr, o_ush, o_rem, o_dup, o_dup2, o_gf, o_pf, o_pz, o_iald, o_iast, o_zald, o_zast, o_aald, o_gs, o_min, o_acp, o_call, o_callv, zgf, zpf, zia_, zza_, zra_, zrd_, zcp_, zpop, zsm8_0, zsm8_1, zsm8_2, zsm8_3, zsm8_4, zsm8_5, zrc, zisob, t_ieq, t_ilt, t_igt, t_zeq, t_zlt, t_zgt, t_sw, zsw, t_iret, t_zret, t_aret, t_vret, zrg, List.getElem?_cons_zero, List.getElem?_cons_succ, List.set_cons_zero, List.set_cons_succ, List.length_cons, List.length_nil, Option.toList_some, Option.toList_none, List.nil_append, List.cons_append, true_and, and_true, true_or, or_true, Int.cast_ofNat_Int, Int.natCast_zero, Int.natCast_one, zsh_0, zsh_40]
    refine zcall (c_X3_has (by omega) hLI hk0) ?_
    rw [if_neg e1]
    simp only [b_X10_deliver_0, b_X10_deliver_11, b_X10_deliver_13, b_X10_deliver_56, b_X10_deliver_78, b_X10_deliver_90, b_X10_deliver_102, b_X10_deliver_107, b_X10_deliver_119, b_X10_deliver_128, o_c, o_il, o_al, o_is, o_as, o_inc, o_add, o_sub, o_mul, o_and, o_or, o_xor, o_shl, o_shr, o_ush, o_rem, o_dup, o_dup2, o_gf, o_pf, o_pz, o_iald, o_iast, o_zald, o_zast, o_aald, o_gs, o_min, o_acp, o_call, o_callv, zgf, zpf, zia_, zza_, zra_, zrd_, zcp_, zpop, zsm8_0, zsm8_1, zsm8_2, zsm8_3, zsm8_4, zsm8_5, zrc, zisob, t_ieq, t_ilt, t_igt, t_zeq, t_zlt, t_zgt, t_sw, zsw, t_iret, t_zret, t_aret, t_vret, zrg, List.getElem?_cons_zero, List.getElem?_cons_succ, List.set_cons_zero, List.set_cons_succ, List.length_cons, List.length_nil, Option.toList_some, Option.toList_none, List.nil_append, List.cons_append, true_and, and_true, true_or, or_true, Int.cast_ofNat_Int, Int.natCast_zero, Int.natCast_one, zsh_0, zsh_40]
    exact ⟨by omega, fun _ => ⟨h, zfr.refl _ _⟩, fun w => absurd trivial w⟩
  · have eO : zdlO Ms i = m.1.1 := by unfold zdlO; rw [e2]
    have eM : zdlM Ms St i = if m.1.1 = 0 then zanw (Ms.eraseIdx i) (St m.1.2.2.toNat).1 m.1.2.1 m.1.2.2 m.2.1 else if m.1.1 = 1 then zgvM (Ms.eraseIdx i) m.1.2.2 (St m.1.2.2.toNat) m.1.2.1 m.2 else Ms.eraseIdx i := by unfold zdlM; rw [e2]; rfl
    have eS : zdlS Ms St i = if m.1.1 = 0 then St else if m.1.1 = 1 then zSu St m.1.2.2.toNat (zgvS (St m.1.2.2.toNat) m.1.2.1 m.2) else zSu St m.1.2.2.toNat (zrnS (St m.1.2.2.toNat) m.1.2.1 m.2.1) := by unfold zdlS; rw [e2]
    rw [eO, eM, eS]
    obtain ⟨o1, o2, o3⟩ := hLI.2.2.2.2 m (List.mem_of_getElem? e1)
    have hbok : zBOK m.2 := hLI.1.2.2.2.2.1 m.2 (List.mem_map.mpr ⟨m, List.mem_of_getElem? e1, rfl⟩)
    have hnm := hbok.1
    obtain ⟨a, ha, ha3⟩ := zs3 o2
    obtain ⟨b, hb, hb3⟩ := zs3 o3
    rw [hb, Int.toNat_natCast, ha]
    have hil : (0 : Int) ≤ (i : Int) ∧ (i : Int) < Ms.length := by omega
    refine of_X10_deliver (by omega) (fun G hG => s_X10_deliver_0 hG ?_)
    have key : ∀ μ2 : zM, zRC μ2 B T Ms St → (m.1.1 = 1 → zBT μ2 [m.2] [] 0) → zfr zCS μ μ2 → G 78 [.inr (some 0), .inl (i : Int), .inl m.1.1, .inl m.1.2.1, .inl m.1.2.2, .inl m.2.1] [] μ2 := by
      intro μ2 k1 k2 k3
      refine s_X10_deliver_78 hG ?_
      simp only [b_X10_deliver_0, b_X10_deliver_11, b_X10_deliver_13, b_X10_deliver_56, b_X10_deliver_78, b_X10_deliver_90, b_X10_deliver_102, b_X10_deliver_107, b_X10_deliver_119, b_X10_deliver_128, o_c, o_il, o_al, o_is, o_as, o_inc, o_add, o_sub, o_mul, o_and, o_or, o_xor, o_shl, o_shr, o_ush, o_rem, o_dup, o_dup2, o_gf, o_pf, o_pz, o_iald, o_iast, o_zald, o_zast, o_aald, o_gs, o_min, o_acp, o_call, o_callv, zgf, zpf, zia_, zza_, zra_, zrd_, zcp_, zpop, zsm8_0, zsm8_1, zsm8_2, zsm8_3, zsm8_4, zsm8_5, zrc, zisob, t_ieq, t_ilt, t_igt, t_zeq, t_zlt, t_zgt, t_sw, zsw, t_iret, t_zret, t_aret, t_vret, zrg, List.getElem?_cons_zero, List.getElem?_cons_succ, List.set_cons_zero, List.set_cons_succ, List.length_cons, List.length_nil, Option.toList_some, Option.toList_none, List.nil_append, List.cons_append, true_and, and_true, true_or, or_true, Int.cast_ofNat_Int, Int.natCast_zero, Int.natCast_one, zsh_0, zsh_40]
      refine ⟨_, c_X3_lose (by omega) k1.2.2.1 hi, ?_⟩
      rintro v μ3 ⟨rfl, p1, p2⟩
      simp only [b_X10_deliver_0, b_X10_deliver_11, b_X10_deliver_13, b_X10_deliver_56, b_X10_deliver_78, b_X10_deliver_90, b_X10_deliver_102, b_X10_deliver_107, b_X10_deliver_119, b_X10_deliver_128, o_c, o_il, o_al, o_is, o_as, o_inc, o_add, o_sub, o_mul, o_and, o_or, o_xor, o_shl, o_shr, o_ush, o_rem, o_dup, o_dup2, o_gf, o_pf, o_pz, o_iald, o_iast, o_zald, o_zast, o_aald, o_gs, o_min, o_acp, o_call, o_callv, zgf, zpf, zia_, zza_, zra_, zrd_, zcp_, zpop, zsm8_0, zsm8_1, zsm8_2, zsm8_3, zsm8_4, zsm8_5, zrc, zisob, t_ieq, t_ilt, t_igt, t_zeq, t_zlt, t_zgt, t_sw, zsw, t_iret, t_zret, t_aret, t_vret, zrg, List.getElem?_cons_zero, List.getElem?_cons_succ, List.set_cons_zero, List.set_cons_succ, List.length_cons, List.length_nil, Option.toList_some, Option.toList_none, List.nil_append, List.cons_append, true_and, and_true, true_or, or_true, Int.cast_ofNat_Int, Int.natCast_zero, Int.natCast_one, zsh_0, zsh_40]
      have hR3 : zRC μ3 B T (Ms.eraseIdx i) St := k1.upL p1 p2 (by simp)
      have f3 : zfr zCS μ μ3 := k3.trans (p2.cs (by simp))
      rw [hb, ha]
      refine ⟨by omega, fun w => ?_, fun w => ⟨by omega, by omega, fun w2 => ?_, fun w2 => ?_⟩⟩
      · refine ⟨_, c_X10_answerWant (by omega) hR3 ha3 hb3 hnm, ?_⟩
        rintro v μ4 ⟨rfl, q1, q2⟩
        simp only [b_X10_deliver_0, b_X10_deliver_11, b_X10_deliver_13, b_X10_deliver_56, b_X10_deliver_78, b_X10_deliver_90, b_X10_deliver_102, b_X10_deliver_107, b_X10_deliver_119, b_X10_deliver_128, o_c, o_il, o_al, o_is, o_as, o_inc, o_add, o_sub, o_mul, o_and, o_or, o_xor, o_shl, o_shr, o_ush, o_rem, o_dup, o_dup2, o_gf, o_pf, o_pz, o_iald, o_iast, o_zald, o_zast, o_aald, o_gs, o_min, o_acp, o_call, o_callv, zgf, zpf, zia_, zza_, zra_, zrd_, zcp_, zpop, zsm8_0, zsm8_1, zsm8_2, zsm8_3, zsm8_4, zsm8_5, zrc, zisob, t_ieq, t_ilt, t_igt, t_zeq, t_zlt, t_zgt, t_sw, zsw, t_iret, t_zret, t_aret, t_vret, zrg, List.getElem?_cons_zero, List.getElem?_cons_succ, List.set_cons_zero, List.set_cons_succ, List.length_cons, List.length_nil, Option.toList_some, Option.toList_none, List.nil_append, List.cons_append, true_and, and_true, true_or, or_true, Int.cast_ofNat_Int, Int.natCast_zero, Int.natCast_one, zsh_0, zsh_40]
        rw [if_pos w, if_pos w]
        exact ⟨q1, f3.trans q2⟩
      · have hb2 : zBT μ3 [m.2] [] 0 := (k2 w2).fr p2 (by simp)
        refine ⟨_, c_X10_receiveGive (by omega) hR3 hb2 hb3 (hV b hb3) (hI b hb3) ⟨by omega, by omega⟩ (by unfold zrg; omega), ?_⟩
        rintro v μ4 ⟨rfl, q1, q2⟩
        simp only [b_X10_deliver_0, b_X10_deliver_11, b_X10_deliver_13, b_X10_deliver_56, b_X10_deliver_78, b_X10_deliver_90, b_X10_deliver_102, b_X10_deliver_107, b_X10_deliver_119, b_X10_deliver_128, o_c, o_il, o_al, o_is, o_as, o_inc, o_add, o_sub, o_mul, o_and, o_or, o_xor, o_shl, o_shr, o_ush, o_rem, o_dup, o_dup2, o_gf, o_pf, o_pz, o_iald, o_iast, o_zald, o_zast, o_aald, o_gs, o_min, o_acp, o_call, o_callv, zgf, zpf, zia_, zza_, zra_, zrd_, zcp_, zpop, zsm8_0, zsm8_1, zsm8_2, zsm8_3, zsm8_4, zsm8_5, zrc, zisob, t_ieq, t_ilt, t_igt, t_zeq, t_zlt, t_zgt, t_sw, zsw, t_iret, t_zret, t_aret, t_vret, zrg, List.getElem?_cons_zero, List.getElem?_cons_succ, List.set_cons_zero, List.set_cons_succ, List.length_cons, List.length_nil, Option.toList_some, Option.toList_none, List.nil_append, List.cons_append, true_and, and_true, true_or, or_true, Int.cast_ofNat_Int, Int.natCast_zero, Int.natCast_one, zsh_0, zsh_40]
        rw [if_neg w, if_neg w, if_pos w2, if_pos w2]
        exact ⟨q1, f3.trans q2⟩
      · refine ⟨_, c_X10_receiveNone (by omega) hR3 hb3 (hV b hb3) (hI b hb3) (by unfold zrg; omega) (by unfold zrg; omega), ?_⟩
        rintro v μ4 ⟨rfl, q1, q2⟩
        simp only [b_X10_deliver_0, b_X10_deliver_11, b_X10_deliver_13, b_X10_deliver_56, b_X10_deliver_78, b_X10_deliver_90, b_X10_deliver_102, b_X10_deliver_107, b_X10_deliver_119, b_X10_deliver_128, o_c, o_il, o_al, o_is, o_as, o_inc, o_add, o_sub, o_mul, o_and, o_or, o_xor, o_shl, o_shr, o_ush, o_rem, o_dup, o_dup2, o_gf, o_pf, o_pz, o_iald, o_iast, o_zald, o_zast, o_aald, o_gs, o_min, o_acp, o_call, o_callv, zgf, zpf, zia_, zza_, zra_, zrd_, zcp_, zpop, zsm8_0, zsm8_1, zsm8_2, zsm8_3, zsm8_4, zsm8_5, zrc, zisob, t_ieq, t_ilt, t_igt, t_zeq, t_zlt, t_zgt, t_sw, zsw, t_iret, t_zret, t_aret, t_vret, zrg, List.getElem?_cons_zero, List.getElem?_cons_succ, List.set_cons_zero, List.set_cons_succ, List.length_cons, List.length_nil, Option.toList_some, Option.toList_none, List.nil_append, List.cons_append, true_and, and_true, true_or, or_true, Int.cast_ofNat_Int, Int.natCast_zero, Int.natCast_one, zsh_0, zsh_40]
        rw [if_neg w, if_neg w, if_neg w2, if_neg w2]
        exact ⟨q1, f3.trans q2⟩
    simp only [b_X10_deliver_0, b_X10_deliver_11, b_X10_deliver_13, b_X10_deliver_56, b_X10_deliver_78, b_X10_deliver_90, b_X10_deliver_102, b_X10_deliver_107, b_X10_deliver_119, b_X10_deliver_128, o_c, o_il, o_al, o_is, o_as, o_inc, o_add, o_sub, o_mul, o_and, o_or, o_xor, o_shl, o_shr, o_ush, o_rem, o_dup, o_dup2, o_gf, o_pf, o_pz, o_iald, o_iast, o_zald, o_zast, o_aald, o_gs, o_min, o_acp, o_call, o_callv, zgf, zpf, zia_, zza_, zra_, zrd_, zcp_, zpop, zsm8_0, zsm8_1, zsm8_2, zsm8_3, zsm8_4, zsm8_5, zrc, zisob, t_ieq, t_ilt, t_igt, t_zeq, t_zlt, t_zgt, t_sw, zsw, t_iret, t_zret, t_aret, t_vret, zrg, List.getElem?_cons_zero, List.getElem?_cons_succ, List.set_cons_zero, List.set_cons_succ, List.length_cons, List.length_nil, Option.toList_some, Option.toList_none, List.nil_append, List.cons_append, true_and, and_true, true_or, or_true, Int.cast_ofNat_Int, Int.natCast_zero, Int.natCast_one, zsh_0, zsh_40]
    refine zcall (c_X3_has (by omega) hLI hk0) ?_
    rw [if_pos hil]
    simp only [b_X10_deliver_0, b_X10_deliver_11, b_X10_deliver_13, b_X10_deliver_56, b_X10_deliver_78, b_X10_deliver_90, b_X10_deliver_102, b_X10_deliver_107, b_X10_deliver_119, b_X10_deliver_128, o_c, o_il, o_al, o_is, o_as, o_inc, o_add, o_sub, o_mul, o_and, o_or, o_xor, o_shl, o_shr, o_ush, o_rem, o_dup, o_dup2, o_gf, o_pf, o_pz, o_iald, o_iast, o_zald, o_zast, o_aald, o_gs, o_min, o_acp, o_call, o_callv, zgf, zpf, zia_, zza_, zra_, zrd_, zcp_, zpop, zsm8_0, zsm8_1, zsm8_2, zsm8_3, zsm8_4, zsm8_5, zrc, zisob, t_ieq, t_ilt, t_igt, t_zeq, t_zlt, t_zgt, t_sw, zsw, t_iret, t_zret, t_aret, t_vret, zrg, List.getElem?_cons_zero, List.getElem?_cons_succ, List.set_cons_zero, List.set_cons_succ, List.length_cons, List.length_nil, Option.toList_some, Option.toList_none, List.nil_append, List.cons_append, true_and, and_true, true_or, or_true, Int.cast_ofNat_Int, Int.natCast_zero, Int.natCast_one, zsh_0, zsh_40]
    refine ⟨by omega, fun w => by omega, fun _ => ?_⟩
    refine zcall (c_X3_kindAt (by omega) hLI e1) ?_
    simp only [b_X10_deliver_0, b_X10_deliver_11, b_X10_deliver_13, b_X10_deliver_56, b_X10_deliver_78, b_X10_deliver_90, b_X10_deliver_102, b_X10_deliver_107, b_X10_deliver_119, b_X10_deliver_128, o_c, o_il, o_al, o_is, o_as, o_inc, o_add, o_sub, o_mul, o_and, o_or, o_xor, o_shl, o_shr, o_ush, o_rem, o_dup, o_dup2, o_gf, o_pf, o_pz, o_iald, o_iast, o_zald, o_zast, o_aald, o_gs, o_min, o_acp, o_call, o_callv, zgf, zpf, zia_, zza_, zra_, zrd_, zcp_, zpop, zsm8_0, zsm8_1, zsm8_2, zsm8_3, zsm8_4, zsm8_5, zrc, zisob, t_ieq, t_ilt, t_igt, t_zeq, t_zlt, t_zgt, t_sw, zsw, t_iret, t_zret, t_aret, t_vret, zrg, List.getElem?_cons_zero, List.getElem?_cons_succ, List.set_cons_zero, List.set_cons_succ, List.length_cons, List.length_nil, Option.toList_some, Option.toList_none, List.nil_append, List.cons_append, true_and, and_true, true_or, or_true, Int.cast_ofNat_Int, Int.natCast_zero, Int.natCast_one, zsh_0, zsh_40]
    refine zcall (c_X3_senderAt (by omega) hLI e1) ?_
    simp only [b_X10_deliver_0, b_X10_deliver_11, b_X10_deliver_13, b_X10_deliver_56, b_X10_deliver_78, b_X10_deliver_90, b_X10_deliver_102, b_X10_deliver_107, b_X10_deliver_119, b_X10_deliver_128, o_c, o_il, o_al, o_is, o_as, o_inc, o_add, o_sub, o_mul, o_and, o_or, o_xor, o_shl, o_shr, o_ush, o_rem, o_dup, o_dup2, o_gf, o_pf, o_pz, o_iald, o_iast, o_zald, o_zast, o_aald, o_gs, o_min, o_acp, o_call, o_callv, zgf, zpf, zia_, zza_, zra_, zrd_, zcp_, zpop, zsm8_0, zsm8_1, zsm8_2, zsm8_3, zsm8_4, zsm8_5, zrc, zisob, t_ieq, t_ilt, t_igt, t_zeq, t_zlt, t_zgt, t_sw, zsw, t_iret, t_zret, t_aret, t_vret, zrg, List.getElem?_cons_zero, List.getElem?_cons_succ, List.set_cons_zero, List.set_cons_succ, List.length_cons, List.length_nil, Option.toList_some, Option.toList_none, List.nil_append, List.cons_append, true_and, and_true, true_or, or_true, Int.cast_ofNat_Int, Int.natCast_zero, Int.natCast_one, zsh_0, zsh_40]
    refine zcall (c_X3_receiverAt (by omega) hLI e1) ?_
    simp only [b_X10_deliver_0, b_X10_deliver_11, b_X10_deliver_13, b_X10_deliver_56, b_X10_deliver_78, b_X10_deliver_90, b_X10_deliver_102, b_X10_deliver_107, b_X10_deliver_119, b_X10_deliver_128, o_c, o_il, o_al, o_is, o_as, o_inc, o_add, o_sub, o_mul, o_and, o_or, o_xor, o_shl, o_shr, o_ush, o_rem, o_dup, o_dup2, o_gf, o_pf, o_pz, o_iald, o_iast, o_zald, o_zast, o_aald, o_gs, o_min, o_acp, o_call, o_callv, zgf, zpf, zia_, zza_, zra_, zrd_, zcp_, zpop, zsm8_0, zsm8_1, zsm8_2, zsm8_3, zsm8_4, zsm8_5, zrc, zisob, t_ieq, t_ilt, t_igt, t_zeq, t_zlt, t_zgt, t_sw, zsw, t_iret, t_zret, t_aret, t_vret, zrg, List.getElem?_cons_zero, List.getElem?_cons_succ, List.set_cons_zero, List.set_cons_succ, List.length_cons, List.length_nil, Option.toList_some, Option.toList_none, List.nil_append, List.cons_append, true_and, and_true, true_or, or_true, Int.cast_ofNat_Int, Int.natCast_zero, Int.natCast_one, zsh_0, zsh_40]
    refine zcall (c_X3_nameAt (by omega) hLI e1) ?_
    simp only [b_X10_deliver_0, b_X10_deliver_11, b_X10_deliver_13, b_X10_deliver_56, b_X10_deliver_78, b_X10_deliver_90, b_X10_deliver_102, b_X10_deliver_107, b_X10_deliver_119, b_X10_deliver_128, o_c, o_il, o_al, o_is, o_as, o_inc, o_add, o_sub, o_mul, o_and, o_or, o_xor, o_shl, o_shr, o_ush, o_rem, o_dup, o_dup2, o_gf, o_pf, o_pz, o_iald, o_iast, o_zald, o_zast, o_aald, o_gs, o_min, o_acp, o_call, o_callv, zgf, zpf, zia_, zza_, zra_, zrd_, zcp_, zpop, zsm8_0, zsm8_1, zsm8_2, zsm8_3, zsm8_4, zsm8_5, zrc, zisob, t_ieq, t_ilt, t_igt, t_zeq, t_zlt, t_zgt, t_sw, zsw, t_iret, t_zret, t_aret, t_vret, zrg, List.getElem?_cons_zero, List.getElem?_cons_succ, List.set_cons_zero, List.set_cons_succ, List.length_cons, List.length_nil, Option.toList_some, Option.toList_none, List.nil_append, List.cons_append, true_and, and_true, true_or, or_true, Int.cast_ofNat_Int, Int.natCast_zero, Int.natCast_one, zsh_0, zsh_40, zsh_34]
    refine ⟨by omega, by omega, fun w => ?_, fun w => key μ h (fun q => absurd q w) (zfr.refl _ _)⟩
    obtain ⟨Lb, D, c, hB⟩ := h.2.2.2.2.1
    refine ⟨_, c_X0_restart (by omega) hB, ?_⟩
    rintro v μ1 ⟨rfl, b1, b2⟩
    have hR1 : zRC μ1 B T Ms St := h.tm b2 (by simp) ⟨_, _, _, b1⟩
    simp only [b_X10_deliver_0, b_X10_deliver_11, b_X10_deliver_13, b_X10_deliver_56, b_X10_deliver_78, b_X10_deliver_90, b_X10_deliver_102, b_X10_deliver_107, b_X10_deliver_119, b_X10_deliver_128, o_c, o_il, o_al, o_is, o_as, o_inc, o_add, o_sub, o_mul, o_and, o_or, o_xor, o_shl, o_shr, o_ush, o_rem, o_dup, o_dup2, o_gf, o_pf, o_pz, o_iald, o_iast, o_zald, o_zast, o_aald, o_gs, o_min, o_acp, o_call, o_callv, zgf, zpf, zia_, zza_, zra_, zrd_, zcp_, zpop, zsm8_0, zsm8_1, zsm8_2, zsm8_3, zsm8_4, zsm8_5, zrc, zisob, t_ieq, t_ilt, t_igt, t_zeq, t_zlt, t_zgt, t_sw, zsw, t_iret, t_zret, t_aret, t_vret, zrg, List.getElem?_cons_zero, List.getElem?_cons_succ, List.set_cons_zero, List.set_cons_succ, List.length_cons, List.length_nil, Option.toList_some, Option.toList_none, List.nil_append, List.cons_append, true_and, and_true, true_or, or_true, Int.cast_ofNat_Int, Int.natCast_zero, Int.natCast_one, zsh_0, zsh_40, zsh_34]
    refine zcall c_X3_rows ?_
    simp only [b_X10_deliver_0, b_X10_deliver_11, b_X10_deliver_13, b_X10_deliver_56, b_X10_deliver_78, b_X10_deliver_90, b_X10_deliver_102, b_X10_deliver_107, b_X10_deliver_119, b_X10_deliver_128, o_c, o_il, o_al, o_is, o_as, o_inc, o_add, o_sub, o_mul, o_and, o_or, o_xor, o_shl, o_shr, o_ush, o_rem, o_dup, o_dup2, o_gf, o_pf, o_pz, o_iald, o_iast, o_zald, o_zast, o_aald, o_gs, o_min, o_acp, o_call, o_callv, zgf, zpf, zia_, zza_, zra_, zrd_, zcp_, zpop, zsm8_0, zsm8_1, zsm8_2, zsm8_3, zsm8_4, zsm8_5, zrc, zisob, t_ieq, t_ilt, t_igt, t_zeq, t_zlt, t_zgt, t_sw, zsw, t_iret, t_zret, t_aret, t_vret, zrg, List.getElem?_cons_zero, List.getElem?_cons_succ, List.set_cons_zero, List.set_cons_succ, List.length_cons, List.length_nil, Option.toList_some, Option.toList_none, List.nil_append, List.cons_append, true_and, and_true, true_or, or_true, Int.cast_ofNat_Int, Int.natCast_zero, Int.natCast_one, zsh_0, zsh_40, zsh_34, zsh_41]
    refine ⟨_, c_X0_takeCopy (by omega) b1 hR1.2.2.1.1 hk0, ?_⟩
    rintro v μ2 ⟨rfl, g1, g2⟩
    simp only [b_X10_deliver_0, b_X10_deliver_11, b_X10_deliver_13, b_X10_deliver_56, b_X10_deliver_78, b_X10_deliver_90, b_X10_deliver_102, b_X10_deliver_107, b_X10_deliver_119, b_X10_deliver_128, o_c, o_il, o_al, o_is, o_as, o_inc, o_add, o_sub, o_mul, o_and, o_or, o_xor, o_shl, o_shr, o_ush, o_rem, o_dup, o_dup2, o_gf, o_pf, o_pz, o_iald, o_iast, o_zald, o_zast, o_aald, o_gs, o_min, o_acp, o_call, o_callv, zgf, zpf, zia_, zza_, zra_, zrd_, zcp_, zpop, zsm8_0, zsm8_1, zsm8_2, zsm8_3, zsm8_4, zsm8_5, zrc, zisob, t_ieq, t_ilt, t_igt, t_zeq, t_zlt, t_zgt, t_sw, zsw, t_iret, t_zret, t_aret, t_vret, zrg, List.getElem?_cons_zero, List.getElem?_cons_succ, List.set_cons_zero, List.set_cons_succ, List.length_cons, List.length_nil, Option.toList_some, Option.toList_none, List.nil_append, List.cons_append, true_and, and_true, true_or, or_true, Int.cast_ofNat_Int, Int.natCast_zero, Int.natCast_one, zsh_0, zsh_40, zsh_34, zsh_41]
    rw [if_pos (by omega), Int.toNat_natCast, List.getElem?_map, e1] at g1
    have g1 : zBT μ2 [m.2] [] 0 := g1
    exact key μ2 (hR1.tm g2 (by simp) ⟨_, _, _, g1⟩) (fun _ => g1) ((b2.cs (by simp)).trans (g2.cs (by simp)))
noncomputable def zhmO (Ms : List zMg) (k i x : Int) : Int := match zat Ms k with
  | none => 0
  | some m => if x = 0 then 1 else if 0 ≤ i ∧ i < m.2.2.length then 1 else 0
def zhmM (Ms : List zMg) (k i x : Int) : List zMg := match zat Ms k with
  | none => Ms
  | some m => if x = 0 then Ms.eraseIdx k.toNat else if 0 ≤ i ∧ i < m.2.2.length then Ms.set k.toNat (m.1, (zhash (zdmg m.2.2 i.toNat x), zdmg m.2.2 i.toNat x)) else Ms
set_option maxRecDepth 100000 in
set_option maxHeartbeats 4000000 in
theorem c_X10_harm {d : Nat} {μ : zM} {B : List Int} {T : List zPp} {Ms : List zMg} {St : Nat → zStt} {k i x : Int} (hd : 4 ≤ d) (h : zRC μ B T Ms St) (hk0 : zrg k) (hi0 : zrg i) (hx0 : zrg x) : zCt d mX10_harm [.inr (some 0), .inl k, .inl i, .inl x] μ (fun v μ' => v = some (.inl (zhmO Ms k i x)) ∧ zRC μ' B T (zhmM Ms k i x) St ∧ zfr zCS μ μ') := by
  have hLI := h.2.2.1
  have hlen := hLI.len
  unfold zrg at hx0
  rcases zat_cases Ms k with ⟨e1, e2⟩ | ⟨j, m, rfl, hj, e1, e2⟩
  · unfold zhmO zhmM
    rw [e2]
    refine of_X10_harm (by omega) (fun G hG => s_X10_harm_0 hG ?_)
    simp only [b_X10_harm_0, b_X10_harm_11, b_X10_harm_13, b_X10_harm_17, b_X10_harm_27, o_c, o_il, o_al, o_is, o_as, o_inc, o_add, o_sub, o_mul, o_and, o_or, o_xor, o_shl, o_shr, o_ush, o_rem, o_dup, o_dup2, o_gf, o_pf, o_pz, o_iald, o_iast, o_zald, o_zast, o_aald, o_gs, o_min, o_acp, o_call, o_callv, zgf, zpf, zia_, zza_, zra_, zrd_, zcp_, zpop, zsm8_0, zsm8_1, zsm8_2, zsm8_3, zsm8_4, zsm8_5, zrc, zisob, t_ieq, t_ilt, t_igt, t_zeq, t_zlt, t_zgt, t_sw, zsw, t_iret, t_zret, t_aret, t_vret, zrg, List.getElem?_cons_zero, List.getElem?_cons_succ, List.set_cons_zero, List.set_cons_succ, List.length_cons, List.length_nil, Option.toList_some, Option.toList_none, List.nil_append, List.cons_append, true_and, and_true, true_or, or_true, Int.cast_ofNat_Int, Int.natCast_zero, Int.natCast_one, zsh_0, zsh_40]
    refine zcall (c_X3_has (by omega) hLI hk0) ?_
    rw [if_neg e1]
    simp only [b_X10_harm_0, b_X10_harm_11, b_X10_harm_13, b_X10_harm_17, b_X10_harm_27, o_c, o_il, o_al, o_is, o_as, o_inc, o_add, o_sub, o_mul, o_and, o_or, o_xor, o_shl, o_shr, o_ush, o_rem, o_dup, o_dup2, o_gf, o_pf, o_pz, o_iald, o_iast, o_zald, o_zast, o_aald, o_gs, o_min, o_acp, o_call, o_callv, zgf, zpf, zia_, zza_, zra_, zrd_, zcp_, zpop, zsm8_0, zsm8_1, zsm8_2, zsm8_3, zsm8_4, zsm8_5, zrc, zisob, t_ieq, t_ilt, t_igt, t_zeq, t_zlt, t_zgt, t_sw, zsw, t_iret, t_zret, t_aret, t_vret, zrg, List.getElem?_cons_zero, List.getElem?_cons_succ, List.set_cons_zero, List.set_cons_succ, List.length_cons, List.length_nil, Option.toList_some, Option.toList_none, List.nil_append, List.cons_append, true_and, and_true, true_or, or_true, Int.cast_ofNat_Int, Int.natCast_zero, Int.natCast_one, zsh_0, zsh_40]
    exact ⟨by omega, fun _ => ⟨h, zfr.refl _ _⟩, fun w => absurd trivial w⟩
  · unfold zhmO zhmM
    rw [e2]
    have hil : (0 : Int) ≤ (j : Int) ∧ (j : Int) < Ms.length := by omega
    refine of_X10_harm (by omega) (fun G hG => s_X10_harm_0 hG ?_)
    simp only [b_X10_harm_0, b_X10_harm_11, b_X10_harm_13, b_X10_harm_17, b_X10_harm_27, o_c, o_il, o_al, o_is, o_as, o_inc, o_add, o_sub, o_mul, o_and, o_or, o_xor, o_shl, o_shr, o_ush, o_rem, o_dup, o_dup2, o_gf, o_pf, o_pz, o_iald, o_iast, o_zald, o_zast, o_aald, o_gs, o_min, o_acp, o_call, o_callv, zgf, zpf, zia_, zza_, zra_, zrd_, zcp_, zpop, zsm8_0, zsm8_1, zsm8_2, zsm8_3, zsm8_4, zsm8_5, zrc, zisob, t_ieq, t_ilt, t_igt, t_zeq, t_zlt, t_zgt, t_sw, zsw, t_iret, t_zret, t_aret, t_vret, zrg, List.getElem?_cons_zero, List.getElem?_cons_succ, List.set_cons_zero, List.set_cons_succ, List.length_cons, List.length_nil, Option.toList_some, Option.toList_none, List.nil_append, List.cons_append, true_and, and_true, true_or, or_true, Int.cast_ofNat_Int, Int.natCast_zero, Int.natCast_one, zsh_0, zsh_40]
    refine zcall (c_X3_has (by omega) hLI hk0) ?_
    rw [if_pos hil]
    simp only [b_X10_harm_0, b_X10_harm_11, b_X10_harm_13, b_X10_harm_17, b_X10_harm_27, o_c, o_il, o_al, o_is, o_as, o_inc, o_add, o_sub, o_mul, o_and, o_or, o_xor, o_shl, o_shr, o_ush, o_rem, o_dup, o_dup2, o_gf, o_pf, o_pz, o_iald, o_iast, o_zald, o_zast, o_aald, o_gs, o_min, o_acp, o_call, o_callv, zgf, zpf, zia_, zza_, zra_, zrd_, zcp_, zpop, zsm8_0, zsm8_1, zsm8_2, zsm8_3, zsm8_4, zsm8_5, zrc, zisob, t_ieq, t_ilt, t_igt, t_zeq, t_zlt, t_zgt, t_sw, zsw, t_iret, t_zret, t_aret, t_vret, zrg, List.getElem?_cons_zero, List.getElem?_cons_succ, List.set_cons_zero, List.set_cons_succ, List.length_cons, List.length_nil, Option.toList_some, Option.toList_none, List.nil_append, List.cons_append, true_and, and_true, true_or, or_true, Int.cast_ofNat_Int, Int.natCast_zero, Int.natCast_one, zsh_0, zsh_40]
    refine ⟨by omega, fun w => by omega, fun _ => ⟨by omega, fun w => ?_, fun w => ?_⟩⟩
    · refine ⟨_, c_X3_lose (by omega) hLI hj, ?_⟩
      rintro v μ3 ⟨rfl, p1, p2⟩
      simp only [b_X10_harm_0, b_X10_harm_11, b_X10_harm_13, b_X10_harm_17, b_X10_harm_27, o_c, o_il, o_al, o_is, o_as, o_inc, o_add, o_sub, o_mul, o_and, o_or, o_xor, o_shl, o_shr, o_ush, o_rem, o_dup, o_dup2, o_gf, o_pf, o_pz, o_iald, o_iast, o_zald, o_zast, o_aald, o_gs, o_min, o_acp, o_call, o_callv, zgf, zpf, zia_, zza_, zra_, zrd_, zcp_, zpop, zsm8_0, zsm8_1, zsm8_2, zsm8_3, zsm8_4, zsm8_5, zrc, zisob, t_ieq, t_ilt, t_igt, t_zeq, t_zlt, t_zgt, t_sw, zsw, t_iret, t_zret, t_aret, t_vret, zrg, List.getElem?_cons_zero, List.getElem?_cons_succ, List.set_cons_zero, List.set_cons_succ, List.length_cons, List.length_nil, Option.toList_some, Option.toList_none, List.nil_append, List.cons_append, true_and, and_true, true_or, or_true, Int.cast_ofNat_Int, Int.natCast_zero, Int.natCast_one, zsh_0, zsh_40]
      simp only [if_pos w, Int.toNat_natCast]
      exact ⟨trivial, h.upL p1 p2 (by simp), p2.cs (by simp)⟩
    · refine ⟨_, c_X3_damage (by omega) hLI e1 hi0, ?_⟩
      rintro v μ3 ⟨rfl, p1, p2⟩
      simp only [b_X10_harm_0, b_X10_harm_11, b_X10_harm_13, b_X10_harm_17, b_X10_harm_27, o_c, o_il, o_al, o_is, o_as, o_inc, o_add, o_sub, o_mul, o_and, o_or, o_xor, o_shl, o_shr, o_ush, o_rem, o_dup, o_dup2, o_gf, o_pf, o_pz, o_iald, o_iast, o_zald, o_zast, o_aald, o_gs, o_min, o_acp, o_call, o_callv, zgf, zpf, zia_, zza_, zra_, zrd_, zcp_, zpop, zsm8_0, zsm8_1, zsm8_2, zsm8_3, zsm8_4, zsm8_5, zrc, zisob, t_ieq, t_ilt, t_igt, t_zeq, t_zlt, t_zgt, t_sw, zsw, t_iret, t_zret, t_aret, t_vret, zrg, List.getElem?_cons_zero, List.getElem?_cons_succ, List.set_cons_zero, List.set_cons_succ, List.length_cons, List.length_nil, Option.toList_some, Option.toList_none, List.nil_append, List.cons_append, true_and, and_true, true_or, or_true, Int.cast_ofNat_Int, Int.natCast_zero, Int.natCast_one, zsh_0, zsh_40]
      simp only [if_neg w, Int.toNat_natCast]
      refine ⟨?_, ?_, h.upL p1 p2 (by simp), p2.cs (by simp)⟩
      · split <;> simp
      · simp
