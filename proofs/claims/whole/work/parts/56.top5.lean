/-! THE CLASS: delivering, harming -/
def zanw (Ms : List zMg) (L : List zBk) (a b nm : Int) : List zMg := zsnd Ms (match zlk L nm with
  | none => ((2, b, a), (nm, []))
  | some bs => ((1, b, a), (nm, bs)))
set_option maxRecDepth 100000 in
set_option maxHeartbeats 4000000 in
theorem c_X10_answerWant {d a b : Nat} {μ : zM} {B : List Int} {T : List zPp} {Ms : List zMg} {St : Nat → zStt} {nm : Int} (hd : 5 ≤ d) (h : zRC μ B T Ms St) (ha : a < 3) (hb : b < 3) (hn : 0 ≤ nm ∧ nm ≤ 65520) : zCt d mX10_answerWant [.inr (some 0), .inl (a : Int), .inl (b : Int), .inl nm] μ (fun v μ' => v = none ∧ zRC μ' B T (zanw Ms (St b).1 a b nm) St ∧ zfr zCS μ μ') := by
  have hk := zk3 hb
  have hx := h.2.2.2.1 b hb
  have hr := hx.1.ix nm
  refine of_X10_answerWant (by omega) (fun G hG => s_X10_answerWant_0 hG ?_)
  simp only [b_X10_answerWant_0, b_X10_answerWant_24, b_X10_answerWant_38, b_X10_answerWant_51, o_c, o_il, o_al, o_is, o_as, o_inc, o_add, o_sub, o_mul, o_and, o_or, o_xor, o_shl, o_shr, o_ush, o_rem, o_dup, o_dup2, o_gf, o_pf, o_pz, o_iald, o_iast, o_zald, o_zast, o_aald, o_gs, o_min, o_acp, o_call, o_callv, zgf, zpf, zia_, zza_, zra_, zrd_, zcp_, zpop, zsm8_0, zsm8_1, zsm8_2, zsm8_3, zsm8_4, zsm8_5, zrc, zisob, t_ieq, t_ilt, t_igt, t_zeq, t_zlt, t_zgt, t_sw, zsw, t_iret, t_zret, t_aret, t_vret, zrg, List.getElem?_cons_zero, List.getElem?_cons_succ, List.set_cons_zero, List.set_cons_succ, List.length_cons, List.length_nil, Option.toList_some, Option.toList_none, List.nil_append, List.cons_append, true_and, and_true, true_or, or_true, Int.cast_ofNat_Int, Int.natCast_zero, Int.natCast_one, zsh_0, zsh_1, zg3 hb, hk.ob, hk.sob]
  refine ⟨by omega, ?_⟩
  refine zcall (c_X7_shelf hk) ?_
  simp only [b_X10_answerWant_0, b_X10_answerWant_24, b_X10_answerWant_38, b_X10_answerWant_51, o_c, o_il, o_al, o_is, o_as, o_inc, o_add, o_sub, o_mul, o_and, o_or, o_xor, o_shl, o_shr, o_ush, o_rem, o_dup, o_dup2, o_gf, o_pf, o_pz, o_iald, o_iast, o_zald, o_zast, o_aald, o_gs, o_min, o_acp, o_call, o_callv, zgf, zpf, zia_, zza_, zra_, zrd_, zcp_, zpop, zsm8_0, zsm8_1, zsm8_2, zsm8_3, zsm8_4, zsm8_5, zrc, zisob, t_ieq, t_ilt, t_igt, t_zeq, t_zlt, t_zgt, t_sw, zsw, t_iret, t_zret, t_aret, t_vret, zrg, List.getElem?_cons_zero, List.getElem?_cons_succ, List.set_cons_zero, List.set_cons_succ, List.length_cons, List.length_nil, Option.toList_some, Option.toList_none, List.nil_append, List.cons_append, true_and, and_true, true_or, or_true, Int.cast_ofNat_Int, Int.natCast_zero, Int.natCast_one, zsh_0, zsh_1, zg3 hb, hk.ob, hk.sob]
  refine zcall (c_X6_slotOf hx.1 (by unfold zrg; omega)) ?_
  simp only [b_X10_answerWant_0, b_X10_answerWant_24, b_X10_answerWant_38, b_X10_answerWant_51, o_c, o_il, o_al, o_is, o_as, o_inc, o_add, o_sub, o_mul, o_and, o_or, o_xor, o_shl, o_shr, o_ush, o_rem, o_dup, o_dup2, o_gf, o_pf, o_pz, o_iald, o_iast, o_zald, o_zast, o_aald, o_gs, o_min, o_acp, o_call, o_callv, zgf, zpf, zia_, zza_, zra_, zrd_, zcp_, zpop, zsm8_0, zsm8_1, zsm8_2, zsm8_3, zsm8_4, zsm8_5, zrc, zisob, t_ieq, t_ilt, t_igt, t_zeq, t_zlt, t_zgt, t_sw, zsw, t_iret, t_zret, t_aret, t_vret, zrg, List.getElem?_cons_zero, List.getElem?_cons_succ, List.set_cons_zero, List.set_cons_succ, List.length_cons, List.length_nil, Option.toList_some, Option.toList_none, List.nil_append, List.cons_append, true_and, and_true, true_or, or_true, Int.cast_ofNat_Int, Int.natCast_zero, Int.natCast_one, zsh_0, zsh_1, zg3 hb, hk.ob, hk.sob, zsh_40]
  rcases zix_cases (St b).1 nm with ⟨e, _⟩ | ⟨s, bk, e, e2, e3⟩
  · have e5 : zlk (St b).1 nm = none := by unfold zlk; rw [e]; rfl
    refine ⟨by omega, fun _ => ?_, fun w => by omega⟩
    refine ⟨_, c_X3_sendName (by omega) h.2.2.1 ⟨⟨by omega, by omega⟩, ⟨by omega, by omega⟩, ⟨by omega, by omega⟩⟩ hn, ?_⟩
    rintro v μ3 ⟨rfl, p1, p2⟩
    simp only [b_X10_answerWant_0, b_X10_answerWant_24, b_X10_answerWant_38, b_X10_answerWant_51, o_c, o_il, o_al, o_is, o_as, o_inc, o_add, o_sub, o_mul, o_and, o_or, o_xor, o_shl, o_shr, o_ush, o_rem, o_dup, o_dup2, o_gf, o_pf, o_pz, o_iald, o_iast, o_zald, o_zast, o_aald, o_gs, o_min, o_acp, o_call, o_callv, zgf, zpf, zia_, zza_, zra_, zrd_, zcp_, zpop, zsm8_0, zsm8_1, zsm8_2, zsm8_3, zsm8_4, zsm8_5, zrc, zisob, t_ieq, t_ilt, t_igt, t_zeq, t_zlt, t_zgt, t_sw, zsw, t_iret, t_zret, t_aret, t_vret, zrg, List.getElem?_cons_zero, List.getElem?_cons_succ, List.set_cons_zero, List.set_cons_succ, List.length_cons, List.length_nil, Option.toList_some, Option.toList_none, List.nil_append, List.cons_append, true_and, and_true, true_or, or_true, Int.cast_ofNat_Int, Int.natCast_zero, Int.natCast_one, zsh_0, zsh_1, zg3 hb, hk.ob, hk.sob, zsh_40]
    unfold zanw
    rw [e5]
    exact ⟨h.upL p1 p2 (by simp), p2.cs (by simp)⟩
  · have e5 : zlk (St b).1 nm = some bk.2 := by unfold zlk; rw [e]; simp [zoat, e2]
    have e6 : bk = (nm, bk.2) := by rw [← e3]
    rw [e]
    refine ⟨by omega, fun w => by omega, fun _ => ?_⟩
    refine ⟨_, c_X3_sendBlock (by omega) h.2.2.1 hx.1 (by omega) e2 ⟨⟨by omega, by omega⟩, ⟨by omega, by omega⟩⟩, ?_⟩
    rintro v μ3 ⟨rfl, p1, p2⟩
    simp only [b_X10_answerWant_0, b_X10_answerWant_24, b_X10_answerWant_38, b_X10_answerWant_51, o_c, o_il, o_al, o_is, o_as, o_inc, o_add, o_sub, o_mul, o_and, o_or, o_xor, o_shl, o_shr, o_ush, o_rem, o_dup, o_dup2, o_gf, o_pf, o_pz, o_iald, o_iast, o_zald, o_zast, o_aald, o_gs, o_min, o_acp, o_call, o_callv, zgf, zpf, zia_, zza_, zra_, zrd_, zcp_, zpop, zsm8_0, zsm8_1, zsm8_2, zsm8_3, zsm8_4, zsm8_5, zrc, zisob, t_ieq, t_ilt, t_igt, t_zeq, t_zlt, t_zgt, t_sw, zsw, t_iret, t_zret, t_aret, t_vret, zrg, List.getElem?_cons_zero, List.getElem?_cons_succ, List.set_cons_zero, List.set_cons_succ, List.length_cons, List.length_nil, Option.toList_some, Option.toList_none, List.nil_append, List.cons_append, true_and, and_true, true_or, or_true, Int.cast_ofNat_Int, Int.natCast_zero, Int.natCast_one, zsh_0, zsh_1, zg3 hb, hk.ob, hk.sob, zsh_40]
    unfold zanw
    rw [e5]
    rw [e6] at p1
    exact ⟨h.upL p1 p2 (by simp), p2.cs (by simp)⟩
def zfai (x : zStt) : zStt := (x.1, x.2.1, (3, x.2.2.2.1, x.2.2.2.2))
def zrnK (x : zStt) (g nm : Int) : Prop := (x.2.2.1 = 1 ∧ x.2.2.2.1 = g) ∧ nm ∈ zms x
noncomputable def zrnS (x : zStt) (g nm : Int) : zStt := if zb (zrnK x g nm) = 1 then zfai x else x
theorem zFE.rg {μ : zM} {q : Nat} {fs fp fr : Int} (h : zFE μ q fs fp fr) : (0 ≤ fs ∧ fs ≤ 3) ∧ (0 ≤ fp ∧ fp ≤ 2) ∧ (0 ≤ fr ∧ fr ≤ 65520) := h.2.2.2.2
set_option maxRecDepth 100000 in
set_option maxHeartbeats 4000000 in
theorem c_X10_receiveNone {d w : Nat} {μ : zM} {B : List Int} {T : List zPp} {Ms : List zMg} {St : Nat → zStt} {g nm : Int} (hd : 5 ≤ d) (h : zRC μ B T Ms St) (hw3 : w < 3) (hV : zVS (St w)) (hI : zrnI (St w)) (hg : zrg g) (hn : zrg nm) : zCt d mX10_receiveNone [.inr (some 0), .inl g, .inl (w : Int), .inl nm] μ (fun v μ' => v = none ∧ zRC μ' B T Ms (zSu St w (zrnS (St w) g nm)) ∧ zfr zCS μ μ') := by
  have hk := zk3 hw3
  have hx := h.2.2.2.1 w hw3
  obtain ⟨R, M, V, hw⟩ := h.2.2.2.2.2.2
  obtain ⟨R', M', V', hw'⟩ := h.2.2.2.2.2.1
  obtain ⟨Lb, D, c, hB⟩ := h.2.2.2.2.1
  refine of_X10_receiveNone (by omega) (fun G hG => s_X10_receiveNone_0 hG ?_)
  simp only [b_X10_receiveNone_0, b_X10_receiveNone_17, b_X10_receiveNone_18, b_X10_receiveNone_38, b_X10_receiveNone_43, o_c, o_il, o_al, o_is, o_as, o_inc, o_add, o_sub, o_mul, o_and, o_or, o_xor, o_shl, o_shr, o_ush, o_rem, o_dup, o_dup2, o_gf, o_pf, o_pz, o_iald, o_iast, o_zald, o_zast, o_aald, o_gs, o_min, o_acp, o_call, o_callv, zgf, zpf, zia_, zza_, zra_, zrd_, zcp_, zpop, zsm8_0, zsm8_1, zsm8_2, zsm8_3, zsm8_4, zsm8_5, zrc, zisob, t_ieq, t_ilt, t_igt, t_zeq, t_zlt, t_zgt, t_sw, zsw, t_iret, t_zret, t_aret, t_vret, zrg, List.getElem?_cons_zero, List.getElem?_cons_succ, List.set_cons_zero, List.set_cons_succ, List.length_cons, List.length_nil, Option.toList_some, Option.toList_none, List.nil_append, List.cons_append, true_and, and_true, true_or, or_true, Int.cast_ofNat_Int, Int.natCast_zero, Int.natCast_one, zsh_0, zsh_1, zg3 hw3, hk.ob, hk.sob, zsh_52]
  refine ⟨by omega, ?_⟩
  refine zcall (c_X7_isFetchingFrom hx.2.2 hg) ?_
  simp only [b_X10_receiveNone_0, b_X10_receiveNone_17, b_X10_receiveNone_18, b_X10_receiveNone_38, b_X10_receiveNone_43, o_c, o_il, o_al, o_is, o_as, o_inc, o_add, o_sub, o_mul, o_and, o_or, o_xor, o_shl, o_shr, o_ush, o_rem, o_dup, o_dup2, o_gf, o_pf, o_pz, o_iald, o_iast, o_zald, o_zast, o_aald, o_gs, o_min, o_acp, o_call, o_callv, zgf, zpf, zia_, zza_, zra_, zrd_, zcp_, zpop, zsm8_0, zsm8_1, zsm8_2, zsm8_3, zsm8_4, zsm8_5, zrc, zisob, t_ieq, t_ilt, t_igt, t_zeq, t_zlt, t_zgt, t_sw, zsw, t_iret, t_zret, t_aret, t_vret, zrg, List.getElem?_cons_zero, List.getElem?_cons_succ, List.set_cons_zero, List.set_cons_succ, List.length_cons, List.length_nil, Option.toList_some, Option.toList_none, List.nil_append, List.cons_append, true_and, and_true, true_or, or_true, Int.cast_ofNat_Int, Int.natCast_zero, Int.natCast_one, zsh_0, zsh_1, zg3 hw3, hk.ob, hk.sob, zsh_52]
  by_cases hf : (St w).2.2.1 = 1 ∧ (St w).2.2.2.1 = g
  · rw [if_pos hf]
    refine ⟨by omega, fun w => by omega, fun _ => ?_⟩
    refine ⟨_, c_X7_walkFetch (by omega) hx.2.2 hw.ws hx.1 hV.1 hV.2 (by omega), ?_⟩
    rintro v μ1 ⟨rfl, g1, g2, g3⟩
    have ff : zfr [2 + 8 * w, 52, 53, 54, 55] μ μ1 := g3
    have hR1 : zRC μ1 B T Ms (zSu St w (zwst (St w))) := h.upS hw3 ff (by simp <;> omega) ⟨hx.1.fr ff (by simp <;> omega), hx.2.1.fr ff (by simp <;> omega), g2⟩ ⟨⟨Lb, D, c, hB.fr ff (by simp <;> omega)⟩, ⟨R', M', V', hw'.fr ff (by simp <;> omega)⟩, g1.wk⟩
    rw [hI.w, zSu_id] at hR1
    obtain ⟨R1, g4⟩ := g1.m
    change zWK μ1 52 R1 (zms (St w)) [] at g4
    simp only [b_X10_receiveNone_0, b_X10_receiveNone_17, b_X10_receiveNone_18, b_X10_receiveNone_38, b_X10_receiveNone_43, o_c, o_il, o_al, o_is, o_as, o_inc, o_add, o_sub, o_mul, o_and, o_or, o_xor, o_shl, o_shr, o_ush, o_rem, o_dup, o_dup2, o_gf, o_pf, o_pz, o_iald, o_iast, o_zald, o_zast, o_aald, o_gs, o_min, o_acp, o_call, o_callv, zgf, zpf, zia_, zza_, zra_, zrd_, zcp_, zpop, zsm8_0, zsm8_1, zsm8_2, zsm8_3, zsm8_4, zsm8_5, zrc, zisob, t_ieq, t_ilt, t_igt, t_zeq, t_zlt, t_zgt, t_sw, zsw, t_iret, t_zret, t_aret, t_vret, zrg, List.getElem?_cons_zero, List.getElem?_cons_succ, List.set_cons_zero, List.set_cons_succ, List.length_cons, List.length_nil, Option.toList_some, Option.toList_none, List.nil_append, List.cons_append, true_and, and_true, true_or, or_true, Int.cast_ofNat_Int, Int.natCast_zero, Int.natCast_one, zsh_0, zsh_1, zg3 hw3, hk.ob, hk.sob, zsh_52]
    refine zcall (c_X9_misses g4 hn) ?_
    simp only [b_X10_receiveNone_0, b_X10_receiveNone_17, b_X10_receiveNone_18, b_X10_receiveNone_38, b_X10_receiveNone_43, o_c, o_il, o_al, o_is, o_as, o_inc, o_add, o_sub, o_mul, o_and, o_or, o_xor, o_shl, o_shr, o_ush, o_rem, o_dup, o_dup2, o_gf, o_pf, o_pz, o_iald, o_iast, o_zald, o_zast, o_aald, o_gs, o_min, o_acp, o_call, o_callv, zgf, zpf, zia_, zza_, zra_, zrd_, zcp_, zpop, zsm8_0, zsm8_1, zsm8_2, zsm8_3, zsm8_4, zsm8_5, zrc, zisob, t_ieq, t_ilt, t_igt, t_zeq, t_zlt, t_zgt, t_sw, zsw, t_iret, t_zret, t_aret, t_vret, zrg, List.getElem?_cons_zero, List.getElem?_cons_succ, List.set_cons_zero, List.set_cons_succ, List.length_cons, List.length_nil, Option.toList_some, Option.toList_none, List.nil_append, List.cons_append, true_and, and_true, true_or, or_true, Int.cast_ofNat_Int, Int.natCast_zero, Int.natCast_one, zsh_0, zsh_1, zg3 hw3, hk.ob, hk.sob, zsh_52]
    have hx1 := hR1.2.2.2.1 w hw3
    rcases zb_or (nm ∈ zms (St w)) with ⟨q1, q2⟩ | ⟨q1, q2⟩
    · rw [q1]
      have e : zrnS (St w) g nm = zfai (St w) := by unfold zrnS; rw [if_pos (zb_t ⟨hf, q2⟩)]
      rw [e]
      refine ⟨by omega, fun w => by omega, fun _ => ?_⟩
      refine ⟨_, c_X7_failFetch hx1.2.2, ?_⟩
      rintro v μ2 ⟨rfl, p1, p2⟩
      simp only [b_X10_receiveNone_0, b_X10_receiveNone_17, b_X10_receiveNone_18, b_X10_receiveNone_38, b_X10_receiveNone_43, o_c, o_il, o_al, o_is, o_as, o_inc, o_add, o_sub, o_mul, o_and, o_or, o_xor, o_shl, o_shr, o_ush, o_rem, o_dup, o_dup2, o_gf, o_pf, o_pz, o_iald, o_iast, o_zald, o_zast, o_aald, o_gs, o_min, o_acp, o_call, o_callv, zgf, zpf, zia_, zza_, zra_, zrd_, zcp_, zpop, zsm8_0, zsm8_1, zsm8_2, zsm8_3, zsm8_4, zsm8_5, zrc, zisob, t_ieq, t_ilt, t_igt, t_zeq, t_zlt, t_zgt, t_sw, zsw, t_iret, t_zret, t_aret, t_vret, zrg, List.getElem?_cons_zero, List.getElem?_cons_succ, List.set_cons_zero, List.set_cons_succ, List.length_cons, List.length_nil, Option.toList_some, Option.toList_none, List.nil_append, List.cons_append, true_and, and_true, true_or, or_true, Int.cast_ofNat_Int, Int.natCast_zero, Int.natCast_one, zsh_0, zsh_1, zg3 hw3, hk.ob, hk.sob, zsh_52]
      exact ⟨hR1.upS hw3 p2 (by simp <;> omega) ⟨hx1.1.fr p2 (by simp <;> omega), hx1.2.1.fr p2 (by simp <;> omega), p1⟩ (hR1.2.2.2.2.fr p2 (by simp <;> omega)), (ff.cs (by simp <;> omega)).trans (p2.cs (by simp <;> omega))⟩
    · rw [q1]
      have e : zrnS (St w) g nm = St w := by unfold zrnS; rw [if_neg (by rw [zb_f (fun r => q2 r.2)]; decide)]
      rw [e, zSu_id]
      exact ⟨by omega, fun _ => ⟨hR1, ff.cs (by simp <;> omega)⟩, fun w => absurd rfl w⟩
  · rw [if_neg hf]
    have e : zrnS (St w) g nm = St w := by unfold zrnS; rw [if_neg (by rw [zb_f (fun r => hf r.1)]; decide)]
    rw [e, zSu_id]
    exact ⟨by omega, fun _ => ⟨h, zfr.refl _ _⟩, fun w => absurd rfl w⟩
def zgvC (x : zStt) (g : Int) (b : zBk) : Prop := (x.2.2.1 = 1 ∧ x.2.2.2.1 = g) ∧ zisB (some b.2) ∧ b.1 ∈ zms x
noncomputable def zgvX (x : zStt) (b : zBk) : zStt := if ztkc x.1 [b] 0 = 0 then zwst (x.1 ++ zfre x.1 [b], x.2) else zfai x
noncomputable def zgvS (x : zStt) (g : Int) (b : zBk) : zStt := if zb (zgvC x g b) = 1 then zgvX x b else x
noncomputable def zgvM (Ms : List zMg) (w : Int) (x : zStt) (g : Int) (b : zBk) : List zMg := if zb (zgvC x g b ∧ ztkc x.1 [b] 0 = 0) = 1 then zwnt Ms w g ((zms (zgvX x b)).filter (fun y => decide (y ∉ zms x))) else Ms
set_option maxRecDepth 100000 in
set_option maxHeartbeats 4000000 in
theorem c_X10_receiveGive {d w : Nat} {μ : zM} {B : List Int} {T : List zPp} {Ms : List zMg} {St : Nat → zStt} {g : Int} {b : zBk} (hd : 5 ≤ d) (h : zRC μ B T Ms St) (hB : zBT μ [b] [] 0) (hw3 : w < 3) (hV : zVS (St w)) (hI : zrnI (St w)) (hg : 0 ≤ g ∧ g ≤ 2) (hn : zrg b.1) : zCt d mX10_receiveGive [.inr (some 0), .inl g, .inl (w : Int), .inl b.1] μ (fun v μ' => v = none ∧ zRC μ' B T (zgvM Ms w (St w) g b) (zSu St w (zgvS (St w) g b)) ∧ zfr zCS μ μ') := by
  have hk := zk3 hw3
  have hx := h.2.2.2.1 w hw3
  obtain ⟨R, M, V, hw⟩ := h.2.2.2.2.2.2
  obtain ⟨R', M', V', hw'⟩ := h.2.2.2.2.2.1
  have hbad : ¬ zgvC (St w) g b → zgvM Ms w (St w) g b = Ms ∧ zSu St w (zgvS (St w) g b) = St := fun q => by
    unfold zgvM zgvS
    rw [if_neg (by rw [zb_f (fun r => q r.1)]; decide), if_neg (by rw [zb_f q]; decide), zSu_id]
    exact ⟨rfl, rfl⟩
  refine of_X10_receiveGive (by omega) (fun G hG => s_X10_receiveGive_0 hG ?_)
  simp only [b_X10_receiveGive_0, b_X10_receiveGive_17, b_X10_receiveGive_31, b_X10_receiveGive_32, b_X10_receiveGive_52, b_X10_receiveGive_53, b_X10_receiveGive_65, b_X10_receiveGive_71, b_X10_receiveGive_83, b_X10_receiveGive_95, b_X10_receiveGive_114, b_X10_receiveGive_133, b_X10_receiveGive_139, o_c, o_il, o_al, o_is, o_as, o_inc, o_add, o_sub, o_mul, o_and, o_or, o_xor, o_shl, o_shr, o_ush, o_rem, o_dup, o_dup2, o_gf, o_pf, o_pz, o_iald, o_iast, o_zald, o_zast, o_aald, o_gs, o_min, o_acp, o_call, o_callv, zgf, zpf, zia_, zza_, zra_, zrd_, zcp_, zpop, zsm8_0, zsm8_1, zsm8_2, zsm8_3, zsm8_4, zsm8_5, zrc, zisob, t_ieq, t_ilt, t_igt, t_zeq, t_zlt, t_zgt, t_sw, zsw, t_iret, t_zret, t_aret, t_vret, zrg, List.getElem?_cons_zero, List.getElem?_cons_succ, List.set_cons_zero, List.set_cons_succ, List.length_cons, List.length_nil, Option.toList_some, Option.toList_none, List.nil_append, List.cons_append, true_and, and_true, true_or, or_true, Int.cast_ofNat_Int, Int.natCast_zero, Int.natCast_one, zsh_0, zsh_1, zg3 hw3, hk.ob, hk.sob, zsh_52]
  refine ⟨by omega, ?_⟩
  refine zcall (c_X7_isFetchingFrom hx.2.2 (by unfold zrg; omega)) ?_
  simp only [b_X10_receiveGive_0, b_X10_receiveGive_17, b_X10_receiveGive_31, b_X10_receiveGive_32, b_X10_receiveGive_52, b_X10_receiveGive_53, b_X10_receiveGive_65, b_X10_receiveGive_71, b_X10_receiveGive_83, b_X10_receiveGive_95, b_X10_receiveGive_114, b_X10_receiveGive_133, b_X10_receiveGive_139, o_c, o_il, o_al, o_is, o_as, o_inc, o_add, o_sub, o_mul, o_and, o_or, o_xor, o_shl, o_shr, o_ush, o_rem, o_dup, o_dup2, o_gf, o_pf, o_pz, o_iald, o_iast, o_zald, o_zast, o_aald, o_gs, o_min, o_acp, o_call, o_callv, zgf, zpf, zia_, zza_, zra_, zrd_, zcp_, zpop, zsm8_0, zsm8_1, zsm8_2, zsm8_3, zsm8_4, zsm8_5, zrc, zisob, t_ieq, t_ilt, t_igt, t_zeq, t_zlt, t_zgt, t_sw, zsw, t_iret, t_zret, t_aret, t_vret, zrg, List.getElem?_cons_zero, List.getElem?_cons_succ, List.set_cons_zero, List.set_cons_succ, List.length_cons, List.length_nil, Option.toList_some, Option.toList_none, List.nil_append, List.cons_append, true_and, and_true, true_or, or_true, Int.cast_ofNat_Int, Int.natCast_zero, Int.natCast_one, zsh_0, zsh_1, zg3 hw3, hk.ob, hk.sob, zsh_52, zsh_34]
  by_cases hf : (St w).2.2.1 = 1 ∧ (St w).2.2.2.1 = g
  · rw [if_pos hf]
    refine ⟨by omega, fun w => by omega, fun _ => ?_⟩
    refine zcall c_X0_made ?_
    simp only [b_X10_receiveGive_0, b_X10_receiveGive_17, b_X10_receiveGive_31, b_X10_receiveGive_32, b_X10_receiveGive_52, b_X10_receiveGive_53, b_X10_receiveGive_65, b_X10_receiveGive_71, b_X10_receiveGive_83, b_X10_receiveGive_95, b_X10_receiveGive_114, b_X10_receiveGive_133, b_X10_receiveGive_139, o_c, o_il, o_al, o_is, o_as, o_inc, o_add, o_sub, o_mul, o_and, o_or, o_xor, o_shl, o_shr, o_ush, o_rem, o_dup, o_dup2, o_gf, o_pf, o_pz, o_iald, o_iast, o_zald, o_zast, o_aald, o_gs, o_min, o_acp, o_call, o_callv, zgf, zpf, zia_, zza_, zra_, zrd_, zcp_, zpop, zsm8_0, zsm8_1, zsm8_2, zsm8_3, zsm8_4, zsm8_5, zrc, zisob, t_ieq, t_ilt, t_igt, t_zeq, t_zlt, t_zgt, t_sw, zsw, t_iret, t_zret, t_aret, t_vret, zrg, List.getElem?_cons_zero, List.getElem?_cons_succ, List.set_cons_zero, List.set_cons_succ, List.length_cons, List.length_nil, Option.toList_some, Option.toList_none, List.nil_append, List.cons_append, true_and, and_true, true_or, or_true, Int.cast_ofNat_Int, Int.natCast_zero, Int.natCast_one, zsh_0, zsh_1, zg3 hw3, hk.ob, hk.sob, zsh_52, zsh_34, zsh_35]
    refine zcall (c_X2_isBlock (by omega) hB.1 (slot := 0) ⟨by omega, by omega⟩) ?_
    have ho : zoat [b] 0 = some b.2 := rfl
    rw [ho]
    simp only [b_X10_receiveGive_0, b_X10_receiveGive_17, b_X10_receiveGive_31, b_X10_receiveGive_32, b_X10_receiveGive_52, b_X10_receiveGive_53, b_X10_receiveGive_65, b_X10_receiveGive_71, b_X10_receiveGive_83, b_X10_receiveGive_95, b_X10_receiveGive_114, b_X10_receiveGive_133, b_X10_receiveGive_139, o_c, o_il, o_al, o_is, o_as, o_inc, o_add, o_sub, o_mul, o_and, o_or, o_xor, o_shl, o_shr, o_ush, o_rem, o_dup, o_dup2, o_gf, o_pf, o_pz, o_iald, o_iast, o_zald, o_zast, o_aald, o_gs, o_min, o_acp, o_call, o_callv, zgf, zpf, zia_, zza_, zra_, zrd_, zcp_, zpop, zsm8_0, zsm8_1, zsm8_2, zsm8_3, zsm8_4, zsm8_5, zrc, zisob, t_ieq, t_ilt, t_igt, t_zeq, t_zlt, t_zgt, t_sw, zsw, t_iret, t_zret, t_aret, t_vret, zrg, List.getElem?_cons_zero, List.getElem?_cons_succ, List.set_cons_zero, List.set_cons_succ, List.length_cons, List.length_nil, Option.toList_some, Option.toList_none, List.nil_append, List.cons_append, true_and, and_true, true_or, or_true, Int.cast_ofNat_Int, Int.natCast_zero, Int.natCast_one, zsh_0, zsh_1, zg3 hw3, hk.ob, hk.sob, zsh_52, zsh_34, zsh_35, zsh_48]
    rcases zb_or (zisB (some b.2)) with ⟨q1, q2⟩ | ⟨q1, q2⟩
    · rw [q1]
      refine ⟨by omega, fun w => by omega, fun _ => ?_⟩
      refine ⟨_, c_X7_walkFetch (by omega) hx.2.2 hw'.ws hx.1 hV.1 hV.2 (by omega), ?_⟩
      rintro v μ1 ⟨rfl, g1, g2, g3⟩
      have ff : zfr [2 + 8 * w, 48, 49, 50, 51] μ μ1 := g3
      have hB1 := hB.fr ff (by simp <;> omega)
      have hw1 := hw.fr ff (by simp <;> omega)
      have hR1 : zRC μ1 B T Ms (zSu St w (zwst (St w))) := h.upS hw3 ff (by simp <;> omega) ⟨hx.1.fr ff (by simp <;> omega), hx.2.1.fr ff (by simp <;> omega), g2⟩ ⟨⟨_, _, _, hB1⟩, g1.wk, ⟨_, _, _, hw1⟩⟩
      rw [hI.w, zSu_id] at hR1
      obtain ⟨R1, g4⟩ := g1.m
      change zWK μ1 48 R1 (zms (St w)) [] at g4
      simp only [b_X10_receiveGive_0, b_X10_receiveGive_17, b_X10_receiveGive_31, b_X10_receiveGive_32, b_X10_receiveGive_52, b_X10_receiveGive_53, b_X10_receiveGive_65, b_X10_receiveGive_71, b_X10_receiveGive_83, b_X10_receiveGive_95, b_X10_receiveGive_114, b_X10_receiveGive_133, b_X10_receiveGive_139, o_c, o_il, o_al, o_is, o_as, o_inc, o_add, o_sub, o_mul, o_and, o_or, o_xor, o_shl, o_shr, o_ush, o_rem, o_dup, o_dup2, o_gf, o_pf, o_pz, o_iald, o_iast, o_zald, o_zast, o_aald, o_gs, o_min, o_acp, o_call, o_callv, zgf, zpf, zia_, zza_, zra_, zrd_, zcp_, zpop, zsm8_0, zsm8_1, zsm8_2, zsm8_3, zsm8_4, zsm8_5, zrc, zisob, t_ieq, t_ilt, t_igt, t_zeq, t_zlt, t_zgt, t_sw, zsw, t_iret, t_zret, t_aret, t_vret, zrg, List.getElem?_cons_zero, List.getElem?_cons_succ, List.set_cons_zero, List.set_cons_succ, List.length_cons, List.length_nil, Option.toList_some, Option.toList_none, List.nil_append, List.cons_append, true_and, and_true, true_or, or_true, Int.cast_ofNat_Int, Int.natCast_zero, Int.natCast_one, zsh_0, zsh_1, zg3 hw3, hk.ob, hk.sob, zsh_52, zsh_34, zsh_35, zsh_48]
      refine zcall (c_X9_misses g4 hn) ?_
      simp only [b_X10_receiveGive_0, b_X10_receiveGive_17, b_X10_receiveGive_31, b_X10_receiveGive_32, b_X10_receiveGive_52, b_X10_receiveGive_53, b_X10_receiveGive_65, b_X10_receiveGive_71, b_X10_receiveGive_83, b_X10_receiveGive_95, b_X10_receiveGive_114, b_X10_receiveGive_133, b_X10_receiveGive_139, o_c, o_il, o_al, o_is, o_as, o_inc, o_add, o_sub, o_mul, o_and, o_or, o_xor, o_shl, o_shr, o_ush, o_rem, o_dup, o_dup2, o_gf, o_pf, o_pz, o_iald, o_iast, o_zald, o_zast, o_aald, o_gs, o_min, o_acp, o_call, o_callv, zgf, zpf, zia_, zza_, zra_, zrd_, zcp_, zpop, zsm8_0, zsm8_1, zsm8_2, zsm8_3, zsm8_4, zsm8_5, zrc, zisob, t_ieq, t_ilt, t_igt, t_zeq, t_zlt, t_zgt, t_sw, zsw, t_iret, t_zret, t_aret, t_vret, zrg, List.getElem?_cons_zero, List.getElem?_cons_succ, List.set_cons_zero, List.set_cons_succ, List.length_cons, List.length_nil, Option.toList_some, Option.toList_none, List.nil_append, List.cons_append, true_and, and_true, true_or, or_true, Int.cast_ofNat_Int, Int.natCast_zero, Int.natCast_one, zsh_0, zsh_1, zg3 hw3, hk.ob, hk.sob, zsh_52, zsh_34, zsh_35, zsh_48]
      have hx1 := hR1.2.2.2.1 w hw3
      rcases zb_or (b.1 ∈ zms (St w)) with ⟨r1, r2⟩ | ⟨r1, r2⟩
      · rw [r1]
        have hC : zgvC (St w) g b := ⟨hf, q2, r2⟩
        have eS : zgvS (St w) g b = zgvX (St w) b := by unfold zgvS; rw [if_pos (zb_t hC)]
        rw [eS]
        refine ⟨by omega, fun w => by omega, fun _ => ?_⟩
        refine ⟨_, c_X7_takeBatch (by omega) hk hx1.1 hB1 (zNd_one _), ?_⟩
        rintro v μ2 ⟨rfl, p1, p2⟩
        simp only [b_X10_receiveGive_0, b_X10_receiveGive_17, b_X10_receiveGive_31, b_X10_receiveGive_32, b_X10_receiveGive_52, b_X10_receiveGive_53, b_X10_receiveGive_65, b_X10_receiveGive_71, b_X10_receiveGive_83, b_X10_receiveGive_95, b_X10_receiveGive_114, b_X10_receiveGive_133, b_X10_receiveGive_139, o_c, o_il, o_al, o_is, o_as, o_inc, o_add, o_sub, o_mul, o_and, o_or, o_xor, o_shl, o_shr, o_ush, o_rem, o_dup, o_dup2, o_gf, o_pf, o_pz, o_iald, o_iast, o_zald, o_zast, o_aald, o_gs, o_min, o_acp, o_call, o_callv, zgf, zpf, zia_, zza_, zra_, zrd_, zcp_, zpop, zsm8_0, zsm8_1, zsm8_2, zsm8_3, zsm8_4, zsm8_5, zrc, zisob, t_ieq, t_ilt, t_igt, t_zeq, t_zlt, t_zgt, t_sw, zsw, t_iret, t_zret, t_aret, t_vret, zrg, List.getElem?_cons_zero, List.getElem?_cons_succ, List.set_cons_zero, List.set_cons_succ, List.length_cons, List.length_nil, Option.toList_some, Option.toList_none, List.nil_append, List.cons_append, true_and, and_true, true_or, or_true, Int.cast_ofNat_Int, Int.natCast_zero, Int.natCast_one, zsh_0, zsh_1, zg3 hw3, hk.ob, hk.sob, zsh_52, zsh_34, zsh_35, zsh_48]
        have hrg := ztkc_rg (St w).1 [b] 0
        have hP2 := hx1.2.1.fr p2 (by simp <;> omega)
        have hF2 := hx1.2.2.of (p2 (2 + 8 * w) (by simp))
        have hB2 := hB1.fr p2 (by simp <;> omega)
        have g42 := g4.fr p2 (by simp <;> omega)
        have hw2 := hw1.fr p2 (by simp <;> omega)
        by_cases ht : ztkc (St w).1 [b] 0 = 0
        · rw [ht]
          have hL' : ztkL (St w).1 [b] 0 = (St w).1 ++ zfre (St w).1 [b] := by unfold ztkL; rw [if_pos ht]
          rw [hL'] at p1
          obtain ⟨x2, hx2⟩ : ∃ x2 : zStt, x2 = ((St w).1 ++ zfre (St w).1 [b], (St w).2) := ⟨_, rfl⟩
          have eX : zgvX (St w) b = zwst x2 := by unfold zgvX; rw [if_pos ht, hx2]
          have eM : zgvM Ms w (St w) g b = zwnt Ms w g ((zms x2).filter (fun y => decide (y ∉ zms (St w)))) := by
            unfold zgvM
            rw [if_pos (zb_t ⟨hC, ht⟩), eX]
            rfl
          rw [eX, eM]
          have hV2 : zVS x2 := by rw [hx2]; exact hV.take (fun y hy => by rw [List.mem_singleton.mp hy]; exact q2) (zNd_one _)
          have hx22 : zSTs μ2 w x2 := by rw [hx2]; exact ⟨p1, hP2, hF2⟩
          refine ⟨by omega, fun _ => ?_, fun w => absurd rfl w⟩
          refine ⟨_, c_X7_walkFetch (by omega) hx22.2.2 hw2.ws hx22.1 hV2.1 hV2.2 (by omega), ?_⟩
          rintro v μ3 ⟨rfl, s1, s2, s3⟩
          have f3 : zfr [2 + 8 * w, 52, 53, 54, 55] μ2 μ3 := s3
          have g43 := g42.fr f3 (by simp <;> omega)
          have fall : zfr [2 + 8 * w, 2 + 8 * w + 1, 2 + 8 * w + 2, 2 + 8 * w + 3, 2 + 8 * w + 4, 48, 49, 50, 51, 52, 53, 54, 55] μ μ3 := ((ff.mono (by simp)).trans (p2.mono (by simp))).trans (f3.mono (by simp))
          have hR3 : zRC μ3 B T Ms (zSu St w (zwst x2)) := h.upS hw3 fall (by simp <;> omega) ⟨hx22.1.fr f3 (by simp <;> omega), hx22.2.1.fr f3 (by simp <;> omega), s2⟩ ⟨⟨_, _, _, hB2.fr f3 (by simp <;> omega)⟩, ⟨_, _, _, g43⟩, s1.wk⟩
          obtain ⟨R3, s4⟩ := s1.m
          change zWK μ3 52 R3 (zms x2) [] at s4
          obtain ⟨M1, hM1⟩ : ∃ M1, M1 = zms x2 := ⟨_, rfl⟩
          obtain ⟨M0, hM0⟩ : ∃ M0, M0 = zms (St w) := ⟨_, rfl⟩
          rw [← hM1] at s4
          rw [← hM0] at g43
          have hml := s4.2.2.1.2.1
          simp only [b_X10_receiveGive_0, b_X10_receiveGive_17, b_X10_receiveGive_31, b_X10_receiveGive_32, b_X10_receiveGive_52, b_X10_receiveGive_53, b_X10_receiveGive_65, b_X10_receiveGive_71, b_X10_receiveGive_83, b_X10_receiveGive_95, b_X10_receiveGive_114, b_X10_receiveGive_133, b_X10_receiveGive_139, o_c, o_il, o_al, o_is, o_as, o_inc, o_add, o_sub, o_mul, o_and, o_or, o_xor, o_shl, o_shr, o_ush, o_rem, o_dup, o_dup2, o_gf, o_pf, o_pz, o_iald, o_iast, o_zald, o_zast, o_aald, o_gs, o_min, o_acp, o_call, o_callv, zgf, zpf, zia_, zza_, zra_, zrd_, zcp_, zpop, zsm8_0, zsm8_1, zsm8_2, zsm8_3, zsm8_4, zsm8_5, zrc, zisob, t_ieq, t_ilt, t_igt, t_zeq, t_zlt, t_zgt, t_sw, zsw, t_iret, t_zret, t_aret, t_vret, zrg, List.getElem?_cons_zero, List.getElem?_cons_succ, List.set_cons_zero, List.set_cons_succ, List.length_cons, List.length_nil, Option.toList_some, Option.toList_none, List.nil_append, List.cons_append, true_and, and_true, true_or, or_true, Int.cast_ofNat_Int, Int.natCast_zero, Int.natCast_one, zsh_0, zsh_1, zg3 hw3, hk.ob, hk.sob, zsh_52, zsh_34, zsh_35, zsh_48]
          have loop : ∀ (r i : Nat) (μ4 : zM), i + r = M1.length → zWK μ4 52 R3 M1 [] → zWK μ4 48 R1 M0 [] → zRC μ4 B T (zwnt Ms w g ((M1.take i).filter (fun y => decide (y ∉ M0)))) (zSu St w (zwst x2)) → zfr zCS μ μ4 → G 83 [.inr (some 0), .inl g, .inl (w : Int), .inl b.1, .inr (some (2 + 8 * w)), .inl (i : Int)] [] μ4 := by
            intro r
            induction r with
            | zero =>
              intro i μ4 k1 k2 k2' k3 k4
              rw [List.take_of_length_le (by omega)] at k3
              subst hM1 hM0
              refine s_X10_receiveGive_83 hG ?_
              simp only [b_X10_receiveGive_0, b_X10_receiveGive_17, b_X10_receiveGive_31, b_X10_receiveGive_32, b_X10_receiveGive_52, b_X10_receiveGive_53, b_X10_receiveGive_65, b_X10_receiveGive_71, b_X10_receiveGive_83, b_X10_receiveGive_95, b_X10_receiveGive_114, b_X10_receiveGive_133, b_X10_receiveGive_139, o_c, o_il, o_al, o_is, o_as, o_inc, o_add, o_sub, o_mul, o_and, o_or, o_xor, o_shl, o_shr, o_ush, o_rem, o_dup, o_dup2, o_gf, o_pf, o_pz, o_iald, o_iast, o_zald, o_zast, o_aald, o_gs, o_min, o_acp, o_call, o_callv, zgf, zpf, zia_, zza_, zra_, zrd_, zcp_, zpop, zsm8_0, zsm8_1, zsm8_2, zsm8_3, zsm8_4, zsm8_5, zrc, zisob, t_ieq, t_ilt, t_igt, t_zeq, t_zlt, t_zgt, t_sw, zsw, t_iret, t_zret, t_aret, t_vret, zrg, List.getElem?_cons_zero, List.getElem?_cons_succ, List.set_cons_zero, List.set_cons_succ, List.length_cons, List.length_nil, Option.toList_some, Option.toList_none, List.nil_append, List.cons_append, true_and, and_true, true_or, or_true, Int.cast_ofNat_Int, Int.natCast_zero, Int.natCast_one, zsh_0, zsh_1, zg3 hw3, hk.ob, hk.sob, zsh_52, zsh_34, zsh_35, zsh_48]
              refine zcall (c_X9_missingCount k2) ?_
              simp only [b_X10_receiveGive_0, b_X10_receiveGive_17, b_X10_receiveGive_31, b_X10_receiveGive_32, b_X10_receiveGive_52, b_X10_receiveGive_53, b_X10_receiveGive_65, b_X10_receiveGive_71, b_X10_receiveGive_83, b_X10_receiveGive_95, b_X10_receiveGive_114, b_X10_receiveGive_133, b_X10_receiveGive_139, o_c, o_il, o_al, o_is, o_as, o_inc, o_add, o_sub, o_mul, o_and, o_or, o_xor, o_shl, o_shr, o_ush, o_rem, o_dup, o_dup2, o_gf, o_pf, o_pz, o_iald, o_iast, o_zald, o_zast, o_aald, o_gs, o_min, o_acp, o_call, o_callv, zgf, zpf, zia_, zza_, zra_, zrd_, zcp_, zpop, zsm8_0, zsm8_1, zsm8_2, zsm8_3, zsm8_4, zsm8_5, zrc, zisob, t_ieq, t_ilt, t_igt, t_zeq, t_zlt, t_zgt, t_sw, zsw, t_iret, t_zret, t_aret, t_vret, zrg, List.getElem?_cons_zero, List.getElem?_cons_succ, List.set_cons_zero, List.set_cons_succ, List.length_cons, List.length_nil, Option.toList_some, Option.toList_none, List.nil_append, List.cons_append, true_and, and_true, true_or, or_true, Int.cast_ofNat_Int, Int.natCast_zero, Int.natCast_one, zsh_0, zsh_1, zg3 hw3, hk.ob, hk.sob, zsh_52, zsh_34, zsh_35, zsh_48]
              rw [eS, eX, eM]
              exact ⟨by omega, by omega, fun w => by omega, fun _ => ⟨k3, k4⟩⟩
            | succ r ih =>
              intro i μ4 k1 k2 k2' k3 k4
              have hi : i < M1.length := by omega
              have hmr := k2.2.2.1.2.2.2 _ (List.getElem_mem hi)
              refine s_X10_receiveGive_83 hG ?_
              simp only [b_X10_receiveGive_0, b_X10_receiveGive_17, b_X10_receiveGive_31, b_X10_receiveGive_32, b_X10_receiveGive_52, b_X10_receiveGive_53, b_X10_receiveGive_65, b_X10_receiveGive_71, b_X10_receiveGive_83, b_X10_receiveGive_95, b_X10_receiveGive_114, b_X10_receiveGive_133, b_X10_receiveGive_139, o_c, o_il, o_al, o_is, o_as, o_inc, o_add, o_sub, o_mul, o_and, o_or, o_xor, o_shl, o_shr, o_ush, o_rem, o_dup, o_dup2, o_gf, o_pf, o_pz, o_iald, o_iast, o_zald, o_zast, o_aald, o_gs, o_min, o_acp, o_call, o_callv, zgf, zpf, zia_, zza_, zra_, zrd_, zcp_, zpop, zsm8_0, zsm8_1, zsm8_2, zsm8_3, zsm8_4, zsm8_5, zrc, zisob, t_ieq, t_ilt, t_igt, t_zeq, t_zlt, t_zgt, t_sw, zsw, t_iret, t_zret, t_aret, t_vret, zrg, List.getElem?_cons_zero, List.getElem?_cons_succ, List.set_cons_zero, List.set_cons_succ, List.length_cons, List.length_nil, Option.toList_some, Option.toList_none, List.nil_append, List.cons_append, true_and, and_true, true_or, or_true, Int.cast_ofNat_Int, Int.natCast_zero, Int.natCast_one, zsh_0, zsh_1, zg3 hw3, hk.ob, hk.sob, zsh_52, zsh_34, zsh_35, zsh_48]
              refine zcall (c_X9_missingCount k2) ?_
              simp only [b_X10_receiveGive_0, b_X10_receiveGive_17, b_X10_receiveGive_31, b_X10_receiveGive_32, b_X10_receiveGive_52, b_X10_receiveGive_53, b_X10_receiveGive_65, b_X10_receiveGive_71, b_X10_receiveGive_83, b_X10_receiveGive_95, b_X10_receiveGive_114, b_X10_receiveGive_133, b_X10_receiveGive_139, o_c, o_il, o_al, o_is, o_as, o_inc, o_add, o_sub, o_mul, o_and, o_or, o_xor, o_shl, o_shr, o_ush, o_rem, o_dup, o_dup2, o_gf, o_pf, o_pz, o_iald, o_iast, o_zald, o_zast, o_aald, o_gs, o_min, o_acp, o_call, o_callv, zgf, zpf, zia_, zza_, zra_, zrd_, zcp_, zpop, zsm8_0, zsm8_1, zsm8_2, zsm8_3, zsm8_4, zsm8_5, zrc, zisob, t_ieq, t_ilt, t_igt, t_zeq, t_zlt, t_zgt, t_sw, zsw, t_iret, t_zret, t_aret, t_vret, zrg, List.getElem?_cons_zero, List.getElem?_cons_succ, List.set_cons_zero, List.set_cons_succ, List.length_cons, List.length_nil, Option.toList_some, Option.toList_none, List.nil_append, List.cons_append, true_and, and_true, true_or, or_true, Int.cast_ofNat_Int, Int.natCast_zero, Int.natCast_one, zsh_0, zsh_1, zg3 hw3, hk.ob, hk.sob, zsh_52, zsh_34, zsh_35, zsh_48]
              refine ⟨by omega, by omega, fun _ => ?_, fun w => by omega⟩
              refine zcall (c_X9_missingAt k2 (List.getElem?_eq_getElem hi)) ?_
              simp only [b_X10_receiveGive_0, b_X10_receiveGive_17, b_X10_receiveGive_31, b_X10_receiveGive_32, b_X10_receiveGive_52, b_X10_receiveGive_53, b_X10_receiveGive_65, b_X10_receiveGive_71, b_X10_receiveGive_83, b_X10_receiveGive_95, b_X10_receiveGive_114, b_X10_receiveGive_133, b_X10_receiveGive_139, o_c, o_il, o_al, o_is, o_as, o_inc, o_add, o_sub, o_mul, o_and, o_or, o_xor, o_shl, o_shr, o_ush, o_rem, o_dup, o_dup2, o_gf, o_pf, o_pz, o_iald, o_iast, o_zald, o_zast, o_aald, o_gs, o_min, o_acp, o_call, o_callv, zgf, zpf, zia_, zza_, zra_, zrd_, zcp_, zpop, zsm8_0, zsm8_1, zsm8_2, zsm8_3, zsm8_4, zsm8_5, zrc, zisob, t_ieq, t_ilt, t_igt, t_zeq, t_zlt, t_zgt, t_sw, zsw, t_iret, t_zret, t_aret, t_vret, zrg, List.getElem?_cons_zero, List.getElem?_cons_succ, List.set_cons_zero, List.set_cons_succ, List.length_cons, List.length_nil, Option.toList_some, Option.toList_none, List.nil_append, List.cons_append, true_and, and_true, true_or, or_true, Int.cast_ofNat_Int, Int.natCast_zero, Int.natCast_one, zsh_0, zsh_1, zg3 hw3, hk.ob, hk.sob, zsh_52, zsh_34, zsh_35, zsh_48]
              refine zcall (c_X9_misses k2' (by unfold zrg; omega)) ?_
              simp only [b_X10_receiveGive_0, b_X10_receiveGive_17, b_X10_receiveGive_31, b_X10_receiveGive_32, b_X10_receiveGive_52, b_X10_receiveGive_53, b_X10_receiveGive_65, b_X10_receiveGive_71, b_X10_receiveGive_83, b_X10_receiveGive_95, b_X10_receiveGive_114, b_X10_receiveGive_133, b_X10_receiveGive_139, o_c, o_il, o_al, o_is, o_as, o_inc, o_add, o_sub, o_mul, o_and, o_or, o_xor, o_shl, o_shr, o_ush, o_rem, o_dup, o_dup2, o_gf, o_pf, o_pz, o_iald, o_iast, o_zald, o_zast, o_aald, o_gs, o_min, o_acp, o_call, o_callv, zgf, zpf, zia_, zza_, zra_, zrd_, zcp_, zpop, zsm8_0, zsm8_1, zsm8_2, zsm8_3, zsm8_4, zsm8_5, zrc, zisob, t_ieq, t_ilt, t_igt, t_zeq, t_zlt, t_zgt, t_sw, zsw, t_iret, t_zret, t_aret, t_vret, zrg, List.getElem?_cons_zero, List.getElem?_cons_succ, List.set_cons_zero, List.set_cons_succ, List.length_cons, List.length_nil, Option.toList_some, Option.toList_none, List.nil_append, List.cons_append, true_and, and_true, true_or, or_true, Int.cast_ofNat_Int, Int.natCast_zero, Int.natCast_one, zsh_0, zsh_1, zg3 hw3, hk.ob, hk.sob, zsh_52, zsh_34, zsh_35, zsh_48, zsh_40]
              have e9 : M1.take (i + 1) = M1.take i ++ [M1[i]] := by rw [List.take_succ]; simp [hi]
              rcases zb_or (M1[i] ∈ M0) with ⟨t1, t2⟩ | ⟨t1, t2⟩
              · rw [t1]
                refine ⟨by omega, fun w => by omega, fun _ => ?_⟩
                refine ih (i + 1) μ4 (by omega) k2 k2' ?_ k4
                rw [e9, List.filter_append]
                simpa [t2] using k3
              · rw [t1]
                refine ⟨by omega, fun _ => ?_, fun w => absurd rfl w⟩
                refine zcall (c_X9_missingAt k2 (List.getElem?_eq_getElem hi)) ?_
                simp only [b_X10_receiveGive_0, b_X10_receiveGive_17, b_X10_receiveGive_31, b_X10_receiveGive_32, b_X10_receiveGive_52, b_X10_receiveGive_53, b_X10_receiveGive_65, b_X10_receiveGive_71, b_X10_receiveGive_83, b_X10_receiveGive_95, b_X10_receiveGive_114, b_X10_receiveGive_133, b_X10_receiveGive_139, o_c, o_il, o_al, o_is, o_as, o_inc, o_add, o_sub, o_mul, o_and, o_or, o_xor, o_shl, o_shr, o_ush, o_rem, o_dup, o_dup2, o_gf, o_pf, o_pz, o_iald, o_iast, o_zald, o_zast, o_aald, o_gs, o_min, o_acp, o_call, o_callv, zgf, zpf, zia_, zza_, zra_, zrd_, zcp_, zpop, zsm8_0, zsm8_1, zsm8_2, zsm8_3, zsm8_4, zsm8_5, zrc, zisob, t_ieq, t_ilt, t_igt, t_zeq, t_zlt, t_zgt, t_sw, zsw, t_iret, t_zret, t_aret, t_vret, zrg, List.getElem?_cons_zero, List.getElem?_cons_succ, List.set_cons_zero, List.set_cons_succ, List.length_cons, List.length_nil, Option.toList_some, Option.toList_none, List.nil_append, List.cons_append, true_and, and_true, true_or, or_true, Int.cast_ofNat_Int, Int.natCast_zero, Int.natCast_one, zsh_0, zsh_1, zg3 hw3, hk.ob, hk.sob, zsh_52, zsh_34, zsh_35, zsh_48, zsh_40]
                refine ⟨_, c_X3_sendName (by omega) k3.2.2.1 ⟨⟨by omega, by omega⟩, ⟨by omega, by omega⟩, hg⟩ hmr, ?_⟩
                rintro v μ5 ⟨rfl, u1, u2⟩
                simp only [b_X10_receiveGive_0, b_X10_receiveGive_17, b_X10_receiveGive_31, b_X10_receiveGive_32, b_X10_receiveGive_52, b_X10_receiveGive_53, b_X10_receiveGive_65, b_X10_receiveGive_71, b_X10_receiveGive_83, b_X10_receiveGive_95, b_X10_receiveGive_114, b_X10_receiveGive_133, b_X10_receiveGive_139, o_c, o_il, o_al, o_is, o_as, o_inc, o_add, o_sub, o_mul, o_and, o_or, o_xor, o_shl, o_shr, o_ush, o_rem, o_dup, o_dup2, o_gf, o_pf, o_pz, o_iald, o_iast, o_zald, o_zast, o_aald, o_gs, o_min, o_acp, o_call, o_callv, zgf, zpf, zia_, zza_, zra_, zrd_, zcp_, zpop, zsm8_0, zsm8_1, zsm8_2, zsm8_3, zsm8_4, zsm8_5, zrc, zisob, t_ieq, t_ilt, t_igt, t_zeq, t_zlt, t_zgt, t_sw, zsw, t_iret, t_zret, t_aret, t_vret, zrg, List.getElem?_cons_zero, List.getElem?_cons_succ, List.set_cons_zero, List.set_cons_succ, List.length_cons, List.length_nil, Option.toList_some, Option.toList_none, List.nil_append, List.cons_append, true_and, and_true, true_or, or_true, Int.cast_ofNat_Int, Int.natCast_zero, Int.natCast_one, zsh_0, zsh_1, zg3 hw3, hk.ob, hk.sob, zsh_52, zsh_34, zsh_35, zsh_48, zsh_40]
                refine ih (i + 1) μ5 (by omega) (k2.fr u2 (by simp)) (k2'.fr u2 (by simp)) ?_ (k4.trans (u2.cs (by simp)))
                have e8 : (M1.take (i + 1)).filter (fun y => decide (y ∉ M0)) = (M1.take i).filter (fun y => decide (y ∉ M0)) ++ [M1[i]] := by
                  rw [e9, List.filter_append]; simp [t2]
                rw [e8]
                unfold zwnt
                rw [List.foldl_append]
                exact k3.upL u1 u2 (by simp)
          exact loop M1.length 0 μ3 (by omega) s4 g43 (by simpa [zwnt] using hR3) (fall.cs (by simp <;> omega))
        · have hL' : ztkL (St w).1 [b] 0 = (St w).1 := by unfold ztkL; rw [if_neg ht]
          rw [hL'] at p1
          have eX : zgvX (St w) b = zfai (St w) := by unfold zgvX; rw [if_neg ht]
          have eM : zgvM Ms w (St w) g b = Ms := by unfold zgvM; rw [if_neg (by rw [zb_f (fun r => ht r.2)]; decide)]
          rw [eX, eM]
          refine ⟨by omega, fun w => absurd w ht, fun _ => ?_⟩
          refine ⟨_, c_X7_failFetch hF2, ?_⟩
          rintro v μ3 ⟨rfl, s1, s2⟩
          simp only [b_X10_receiveGive_0, b_X10_receiveGive_17, b_X10_receiveGive_31, b_X10_receiveGive_32, b_X10_receiveGive_52, b_X10_receiveGive_53, b_X10_receiveGive_65, b_X10_receiveGive_71, b_X10_receiveGive_83, b_X10_receiveGive_95, b_X10_receiveGive_114, b_X10_receiveGive_133, b_X10_receiveGive_139, o_c, o_il, o_al, o_is, o_as, o_inc, o_add, o_sub, o_mul, o_and, o_or, o_xor, o_shl, o_shr, o_ush, o_rem, o_dup, o_dup2, o_gf, o_pf, o_pz, o_iald, o_iast, o_zald, o_zast, o_aald, o_gs, o_min, o_acp, o_call, o_callv, zgf, zpf, zia_, zza_, zra_, zrd_, zcp_, zpop, zsm8_0, zsm8_1, zsm8_2, zsm8_3, zsm8_4, zsm8_5, zrc, zisob, t_ieq, t_ilt, t_igt, t_zeq, t_zlt, t_zgt, t_sw, zsw, t_iret, t_zret, t_aret, t_vret, zrg, List.getElem?_cons_zero, List.getElem?_cons_succ, List.set_cons_zero, List.set_cons_succ, List.length_cons, List.length_nil, Option.toList_some, Option.toList_none, List.nil_append, List.cons_append, true_and, and_true, true_or, or_true, Int.cast_ofNat_Int, Int.natCast_zero, Int.natCast_one, zsh_0, zsh_1, zg3 hw3, hk.ob, hk.sob, zsh_52, zsh_34, zsh_35, zsh_48]
          have fall : zfr [2 + 8 * w, 2 + 8 * w + 1, 2 + 8 * w + 2, 2 + 8 * w + 3, 2 + 8 * w + 4, 48, 49, 50, 51] μ μ3 := ((ff.mono (by simp)).trans (p2.mono (by simp))).trans (s2.mono (by simp))
          exact ⟨h.upS hw3 fall (by simp <;> omega) ⟨p1.fr s2 (by simp <;> omega), hP2.fr s2 (by simp <;> omega), s1⟩ ⟨⟨_, _, _, hB2.fr s2 (by simp <;> omega)⟩, ⟨_, _, _, g42.fr s2 (by simp <;> omega)⟩, ⟨_, _, _, hw2.fr s2 (by simp <;> omega)⟩⟩, fall.cs (by simp <;> omega)⟩
      · rw [r1]
        obtain ⟨e1, e2⟩ := hbad (fun r => r2 r.2.2)
        rw [e1, e2]
        exact ⟨by omega, fun _ => ⟨hR1, ff.cs (by simp <;> omega)⟩, fun w => absurd rfl w⟩
    · rw [q1]
      obtain ⟨e1, e2⟩ := hbad (fun r => q2 r.2.1)
      rw [e1, e2]
      exact ⟨by omega, fun _ => ⟨h, zfr.refl _ _⟩, fun w => absurd rfl w⟩
  · rw [if_neg hf]
    obtain ⟨e1, e2⟩ := hbad (fun r => hf r.1)
    rw [e1, e2]
    exact ⟨by omega, fun _ => ⟨h, zfr.refl _ _⟩, fun w => absurd rfl w⟩
