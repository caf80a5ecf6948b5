/-! THE CLASS: fetching, the line -/
def zms (x : zStt) : List Int := zmis x.1 (zsee x.1 x.2.2.2.2)
def zwst (x : zStt) : zStt := (x.1, x.2.1, (zwfs x.1 x.2.2.1 x.2.2.2.2, x.2.2.2.1, x.2.2.2.2))
def zwnt (Ms : List zMg) (a b : Int) (l : List Int) : List zMg := l.foldl (fun M y => zsnd M ((0, a, b), (y, []))) Ms
def zrnI (x : zStt) : Prop := x.2.2.1 = 1 → zms x ≠ []
theorem zrnI.w {x : zStt} (h : zrnI x) : zwst x = x := by
  obtain ⟨L, P, fs, fp, fr⟩ := x
  unfold zwst zwfs
  simp only
  rw [if_neg (fun w => h w.1 w.2)]
theorem zSu_su (St : Nat → zStt) (s : Nat) (x y : zStt) : zSu (zSu St s x) s y = zSu St s y := by
  funext t
  unfold zSu
  split <;> rfl
theorem zSu_at (St : Nat → zStt) (s : Nat) (x : zStt) : zSu St s x s = x := by unfold zSu; rw [if_pos rfl]
theorem zSu_id (St : Nat → zStt) (s : Nat) : zSu St s (St s) = St := by
  funext t
  unfold zSu
  split
  · rename_i e; rw [e]
  · rfl
theorem zRC.upL {μ μ' : zM} {B : List Int} {T : List zPp} {Ms Ms' : List zMg} {St : Nat → zStt} {S : List Nat} (h : zRC μ B T Ms St) (hl : zLI μ' Ms') (f : zfr S μ μ') (hS : ∀ c ∈ S, 41 ≤ c ∧ c ≤ 47) : zRC μ' B T Ms' St := by
  obtain ⟨h1, h2, h3, h4, h5⟩ := h
  exact ⟨h1.of (f 0 (fun w => by have := hS _ w; omega)) (f 26 (fun w => by have := hS _ w; omega)), h2.fr f (fun c hc => by have := hS c hc; omega), hl, fun t htt => (h4 t htt).fr f (fun c hc => by have := hS c hc; omega), h5.fr f (fun c hc => by have := hS c hc; omega)⟩
theorem zWS.m {μ : zM} {w : Nat} {L : List zBk} {fr : Int} (h : zWS μ w L (zsee L fr) []) : ∃ R, zWK μ w R (zmis L (zsee L fr)) [] := by
  obtain ⟨R, M, a, _, b⟩ := h
  rw [b (zsee_len _ _)] at a
  exact ⟨R, a⟩
set_option maxRecDepth 100000 in
set_option maxHeartbeats 4000000 in
theorem c_X10_wantAllMissing {d s : Nat} {μ : zM} {B : List Int} {T : List zPp} {Ms : List zMg} {St : Nat → zStt} (hd : 5 ≤ d) (h : zRC μ B T Ms St) (h3 : s < 3) (hV : zVS (St s)) : zCt d mX10_wantAllMissing [.inr (some 0), .inl (s : Int)] μ (fun v μ' => v = some (.inl ((zms (St s)).length : Int)) ∧ zRC μ' B T (zwnt Ms s (St s).2.2.2.1 (zms (St s))) (zSu St s (zwst (St s))) ∧ zfr zCS μ μ') := by
  have hk := zk3 h3
  have hx := h.2.2.2.1 s h3
  obtain ⟨R, M, V, hw⟩ := h.2.2.2.2.2.2
  obtain ⟨R', M', V', hw'⟩ := h.2.2.2.2.2.1
  obtain ⟨Lb, D, c, hB⟩ := h.2.2.2.2.1
  refine of_X10_wantAllMissing (by omega) (fun G hG => s_X10_wantAllMissing_0 hG ?_)
  simp only [b_X10_wantAllMissing_0, b_X10_wantAllMissing_23, b_X10_wantAllMissing_28, b_X10_wantAllMissing_60, o_c, o_il, o_al, o_is, o_as, o_inc, o_add, o_sub, o_mul, o_and, o_or, o_xor, o_shl, o_shr, o_ush, o_rem, o_dup, o_dup2, o_gf, o_pf, o_pz, o_iald, o_iast, o_zald, o_zast, o_aald, o_gs, o_min, o_acp, o_call, o_callv, zgf, zpf, zia_, zza_, zra_, zrd_, zcp_, zpop, zsm8_0, zsm8_1, zsm8_2, zsm8_3, zsm8_4, zsm8_5, zrc, zisob, t_ieq, t_ilt, t_igt, t_zeq, t_zlt, t_zgt, t_sw, zsw, t_iret, t_zret, t_aret, t_vret, zrg, List.getElem?_cons_zero, List.getElem?_cons_succ, List.set_cons_zero, List.set_cons_succ, List.length_cons, List.length_nil, Option.toList_some, Option.toList_none, List.nil_append, List.cons_append, true_and, and_true, true_or, or_true, Int.cast_ofNat_Int, Int.natCast_zero, Int.natCast_one, zsh_0, zsh_1, zg3 h3, hk.ob, hk.sob, zsh_52]
  refine ⟨by omega, ?_⟩
  refine ⟨_, c_X7_walkFetch (by omega) hx.2.2 hw.ws hx.1 hV.1 hV.2 (by omega), ?_⟩
  rintro v μ1 ⟨rfl, g1, g2, g3⟩
  have ff : zfr [2 + 8 * s, 52, 53, 54, 55] μ μ1 := g3
  have hR1 : zRC μ1 B T Ms (zSu St s (zwst (St s))) := h.upS h3 ff (by simp <;> omega) ⟨hx.1.fr ff (by simp <;> omega), hx.2.1.fr ff (by simp <;> omega), g2⟩ ⟨⟨Lb, D, c, hB.fr ff (by simp <;> omega)⟩, ⟨R', M', V', hw'.fr ff (by simp <;> omega)⟩, g1.wk⟩
  obtain ⟨R1, g4⟩ := g1.m
  change zWK μ1 52 R1 (zms (St s)) [] at g4
  obtain ⟨M1, hM1⟩ : ∃ M1, M1 = zms (St s) := ⟨_, rfl⟩
  rw [← hM1] at g4
  have hml := g4.2.2.1.2.1
  simp only [b_X10_wantAllMissing_0, b_X10_wantAllMissing_23, b_X10_wantAllMissing_28, b_X10_wantAllMissing_60, o_c, o_il, o_al, o_is, o_as, o_inc, o_add, o_sub, o_mul, o_and, o_or, o_xor, o_shl, o_shr, o_ush, o_rem, o_dup, o_dup2, o_gf, o_pf, o_pz, o_iald, o_iast, o_zald, o_zast, o_aald, o_gs, o_min, o_acp, o_call, o_callv, zgf, zpf, zia_, zza_, zra_, zrd_, zcp_, zpop, zsm8_0, zsm8_1, zsm8_2, zsm8_3, zsm8_4, zsm8_5, zrc, zisob, t_ieq, t_ilt, t_igt, t_zeq, t_zlt, t_zgt, t_sw, zsw, t_iret, t_zret, t_aret, t_vret, zrg, List.getElem?_cons_zero, List.getElem?_cons_succ, List.set_cons_zero, List.set_cons_succ, List.length_cons, List.length_nil, Option.toList_some, Option.toList_none, List.nil_append, List.cons_append, true_and, and_true, true_or, or_true, Int.cast_ofNat_Int, Int.natCast_zero, Int.natCast_one, zsh_0, zsh_1, zg3 h3, hk.ob, hk.sob, zsh_52]
  refine zcall (c_X9_missingCount g4) ?_
  simp only [b_X10_wantAllMissing_0, b_X10_wantAllMissing_23, b_X10_wantAllMissing_28, b_X10_wantAllMissing_60, o_c, o_il, o_al, o_is, o_as, o_inc, o_add, o_sub, o_mul, o_and, o_or, o_xor, o_shl, o_shr, o_ush, o_rem, o_dup, o_dup2, o_gf, o_pf, o_pz, o_iald, o_iast, o_zald, o_zast, o_aald, o_gs, o_min, o_acp, o_call, o_callv, zgf, zpf, zia_, zza_, zra_, zrd_, zcp_, zpop, zsm8_0, zsm8_1, zsm8_2, zsm8_3, zsm8_4, zsm8_5, zrc, zisob, t_ieq, t_ilt, t_igt, t_zeq, t_zlt, t_zgt, t_sw, zsw, t_iret, t_zret, t_aret, t_vret, zrg, List.getElem?_cons_zero, List.getElem?_cons_succ, List.set_cons_zero, List.set_cons_succ, List.length_cons, List.length_nil, Option.toList_some, Option.toList_none, List.nil_append, List.cons_append, true_and, and_true, true_or, or_true, Int.cast_ofNat_Int, Int.natCast_zero, Int.natCast_one, zsh_0, zsh_1, zg3 h3, hk.ob, hk.sob, zsh_52]
  have loop : ∀ (r i : Nat) (μ2 : zM), i + r = M1.length → zWK μ2 52 R1 M1 [] → zRC μ2 B T (zwnt Ms s (St s).2.2.2.1 (M1.take i)) (zSu St s (zwst (St s))) → zfr zCS μ μ2 → G 23 [.inr (some 0), .inl (s : Int), .inl (M1.length : Int), .inl (i : Int)] [] μ2 := by
    intro r
    induction r with
    | zero =>
      intro i μ2 k1 k2 k3 k4
      rw [List.take_of_length_le (by omega)] at k3
      subst hM1
      refine s_X10_wantAllMissing_23 hG ?_
      simp only [b_X10_wantAllMissing_0, b_X10_wantAllMissing_23, b_X10_wantAllMissing_28, b_X10_wantAllMissing_60, o_c, o_il, o_al, o_is, o_as, o_inc, o_add, o_sub, o_mul, o_and, o_or, o_xor, o_shl, o_shr, o_ush, o_rem, o_dup, o_dup2, o_gf, o_pf, o_pz, o_iald, o_iast, o_zald, o_zast, o_aald, o_gs, o_min, o_acp, o_call, o_callv, zgf, zpf, zia_, zza_, zra_, zrd_, zcp_, zpop, zsm8_0, zsm8_1, zsm8_2, zsm8_3, zsm8_4, zsm8_5, zrc, zisob, t_ieq, t_ilt, t_igt, t_zeq, t_zlt, t_zgt, t_sw, zsw, t_iret, t_zret, t_aret, t_vret, zrg, List.getElem?_cons_zero, List.getElem?_cons_succ, List.set_cons_zero, List.set_cons_succ, List.length_cons, List.length_nil, Option.toList_some, Option.toList_none, List.nil_append, List.cons_append, true_and, and_true, true_or, or_true, Int.cast_ofNat_Int, Int.natCast_zero, Int.natCast_one, zsh_0, zsh_1, zg3 h3, hk.ob, hk.sob, zsh_52]
      exact ⟨by omega, by omega, fun w => by omega, fun _ => ⟨k3, k4⟩⟩
    | succ r ih =>
      intro i μ2 k1 k2 k3 k4
      have hi : i < M1.length := by omega
      have hF := (k3.2.2.2.1 s h3).2.2
      rw [zSu_at] at hF
      refine s_X10_wantAllMissing_23 hG ?_
      simp only [b_X10_wantAllMissing_0, b_X10_wantAllMissing_23, b_X10_wantAllMissing_28, b_X10_wantAllMissing_60, o_c, o_il, o_al, o_is, o_as, o_inc, o_add, o_sub, o_mul, o_and, o_or, o_xor, o_shl, o_shr, o_ush, o_rem, o_dup, o_dup2, o_gf, o_pf, o_pz, o_iald, o_iast, o_zald, o_zast, o_aald, o_gs, o_min, o_acp, o_call, o_callv, zgf, zpf, zia_, zza_, zra_, zrd_, zcp_, zpop, zsm8_0, zsm8_1, zsm8_2, zsm8_3, zsm8_4, zsm8_5, zrc, zisob, t_ieq, t_ilt, t_igt, t_zeq, t_zlt, t_zgt, t_sw, zsw, t_iret, t_zret, t_aret, t_vret, zrg, List.getElem?_cons_zero, List.getElem?_cons_succ, List.set_cons_zero, List.set_cons_succ, List.length_cons, List.length_nil, Option.toList_some, Option.toList_none, List.nil_append, List.cons_append, true_and, and_true, true_or, or_true, Int.cast_ofNat_Int, Int.natCast_zero, Int.natCast_one, zsh_0, zsh_1, zg3 h3, hk.ob, hk.sob, zsh_52, zsh_40]
      refine ⟨by omega, by omega, fun _ => ⟨by omega, ?_⟩, fun w => by omega⟩
      refine zcall (c_X7_fetchPeer hF) ?_
      simp only [b_X10_wantAllMissing_0, b_X10_wantAllMissing_23, b_X10_wantAllMissing_28, b_X10_wantAllMissing_60, o_c, o_il, o_al, o_is, o_as, o_inc, o_add, o_sub, o_mul, o_and, o_or, o_xor, o_shl, o_shr, o_ush, o_rem, o_dup, o_dup2, o_gf, o_pf, o_pz, o_iald, o_iast, o_zald, o_zast, o_aald, o_gs, o_min, o_acp, o_call, o_callv, zgf, zpf, zia_, zza_, zra_, zrd_, zcp_, zpop, zsm8_0, zsm8_1, zsm8_2, zsm8_3, zsm8_4, zsm8_5, zrc, zisob, t_ieq, t_ilt, t_igt, t_zeq, t_zlt, t_zgt, t_sw, zsw, t_iret, t_zret, t_aret, t_vret, zrg, List.getElem?_cons_zero, List.getElem?_cons_succ, List.set_cons_zero, List.set_cons_succ, List.length_cons, List.length_nil, Option.toList_some, Option.toList_none, List.nil_append, List.cons_append, true_and, and_true, true_or, or_true, Int.cast_ofNat_Int, Int.natCast_zero, Int.natCast_one, zsh_0, zsh_1, zg3 h3, hk.ob, hk.sob, zsh_52, zsh_40]
      refine zcall (c_X9_missingAt k2 (List.getElem?_eq_getElem hi)) ?_
      simp only [b_X10_wantAllMissing_0, b_X10_wantAllMissing_23, b_X10_wantAllMissing_28, b_X10_wantAllMissing_60, o_c, o_il, o_al, o_is, o_as, o_inc, o_add, o_sub, o_mul, o_and, o_or, o_xor, o_shl, o_shr, o_ush, o_rem, o_dup, o_dup2, o_gf, o_pf, o_pz, o_iald, o_iast, o_zald, o_zast, o_aald, o_gs, o_min, o_acp, o_call, o_callv, zgf, zpf, zia_, zza_, zra_, zrd_, zcp_, zpop, zsm8_0, zsm8_1, zsm8_2, zsm8_3, zsm8_4, zsm8_5, zrc, zisob, t_ieq, t_ilt, t_igt, t_zeq, t_zlt, t_zgt, t_sw, zsw, t_iret, t_zret, t_aret, t_vret, zrg, List.getElem?_cons_zero, List.getElem?_cons_succ, List.set_cons_zero, List.set_cons_succ, List.length_cons, List.length_nil, Option.toList_some, Option.toList_none, List.nil_append, List.cons_append, true_and, and_true, true_or, or_true, Int.cast_ofNat_Int, Int.natCast_zero, Int.natCast_one, zsh_0, zsh_1, zg3 h3, hk.ob, hk.sob, zsh_52, zsh_40]
      have hfp := hF.2.2.2.2.2.1
      refine ⟨_, c_X3_sendName (by omega) k3.2.2.1 ⟨⟨by omega, by omega⟩, ⟨by omega, by omega⟩, hfp⟩ (k2.2.2.1.2.2.2 _ (List.getElem_mem hi)), ?_⟩
      rintro v μ3 ⟨rfl, p1, p2⟩
      simp only [b_X10_wantAllMissing_0, b_X10_wantAllMissing_23, b_X10_wantAllMissing_28, b_X10_wantAllMissing_60, o_c, o_il, o_al, o_is, o_as, o_inc, o_add, o_sub, o_mul, o_and, o_or, o_xor, o_shl, o_shr, o_ush, o_rem, o_dup, o_dup2, o_gf, o_pf, o_pz, o_iald, o_iast, o_zald, o_zast, o_aald, o_gs, o_min, o_acp, o_call, o_callv, zgf, zpf, zia_, zza_, zra_, zrd_, zcp_, zpop, zsm8_0, zsm8_1, zsm8_2, zsm8_3, zsm8_4, zsm8_5, zrc, zisob, t_ieq, t_ilt, t_igt, t_zeq, t_zlt, t_zgt, t_sw, zsw, t_iret, t_zret, t_aret, t_vret, zrg, List.getElem?_cons_zero, List.getElem?_cons_succ, List.set_cons_zero, List.set_cons_succ, List.length_cons, List.length_nil, Option.toList_some, Option.toList_none, List.nil_append, List.cons_append, true_and, and_true, true_or, or_true, Int.cast_ofNat_Int, Int.natCast_zero, Int.natCast_one, zsh_0, zsh_1, zg3 h3, hk.ob, hk.sob, zsh_52, zsh_40]
      have e9 : M1.take (i + 1) = M1.take i ++ [M1[i]] := by rw [List.take_succ]; simp [hi]
      have e8 : zwnt Ms s (St s).2.2.2.1 (M1.take (i + 1)) = zsnd (zwnt Ms s (St s).2.2.2.1 (M1.take i)) ((0, (s : Int), (St s).2.2.2.1), (M1[i], [])) := by
        rw [e9]; unfold zwnt; rw [List.foldl_append]; rfl
      refine ih (i + 1) μ3 (by omega) (k2.fr p2 (by simp)) ?_ (k4.trans (p2.cs (by simp)))
      rw [e8]
      exact k3.upL p1 p2 (by simp)
  exact loop M1.length 0 μ1 (by omega) g4 (by simpa [zwnt] using hR1) (ff.cs (by simp <;> omega))
def zftX (x : zStt) (peer nm : Int) : zStt := (x.1, x.2.1, (1, peer, nm))
def zftK (store peer nm : Int) : Prop := (0 ≤ store ∧ store ≤ 2) ∧ (0 ≤ peer ∧ peer ≤ 2) ∧ store ≠ peer ∧ (0 ≤ nm ∧ nm ≤ 65520)
noncomputable def zftO (St : Nat → zStt) (store peer nm : Int) : Int := if zb (zftK store peer nm) = 1 then ((zms (zftX (St store.toNat) peer nm)).length : Int) else -1
noncomputable def zftS (St : Nat → zStt) (store peer nm : Int) : Nat → zStt := if zb (zftK store peer nm) = 1 then zSu St store.toNat (zwst (zftX (St store.toNat) peer nm)) else St
noncomputable def zftM (Ms : List zMg) (St : Nat → zStt) (store peer nm : Int) : List zMg := if zb (zftK store peer nm) = 1 then zwnt Ms store peer (zms (zftX (St store.toNat) peer nm)) else Ms
set_option maxRecDepth 100000 in
set_option maxHeartbeats 4000000 in
theorem c_X10_fetch {d : Nat} {μ : zM} {B : List Int} {T : List zPp} {Ms : List zMg} {St : Nat → zStt} {store peer nm : Int} (hd : 6 ≤ d) (h : zRC μ B T Ms St) (hV : ∀ s, s < 3 → zVS (St s)) (hs : zrg store) (hp : zrg peer) (hn : zrg nm) : zCt d mX10_fetch [.inr (some 0), .inl store, .inl peer, .inl nm] μ (fun v μ' => v = some (.inl (zftO St store peer nm)) ∧ zRC μ' B T (zftM Ms St store peer nm) (zftS St store peer nm) ∧ zfr zCS μ μ') := by
  by_cases hK : zftK store peer nm
  · obtain ⟨hc, k2, k3, k4⟩ := id hK
    obtain ⟨s, rfl, h3⟩ := zs3 hc
    have hk := zk3 h3
    have hx := h.2.2.2.1 s h3
    have eO : zftO St s peer nm = ((zms (zftX (St s) peer nm)).length : Int) := by unfold zftO; rw [if_pos (zb_t hK)]; rfl
    have eS : zftS St s peer nm = zSu St s (zwst (zftX (St s) peer nm)) := by unfold zftS; rw [if_pos (zb_t hK)]; rfl
    have eM : zftM Ms St s peer nm = zwnt Ms s peer (zms (zftX (St s) peer nm)) := by unfold zftM; rw [if_pos (zb_t hK)]; rfl
    rw [eO, eS, eM]
    refine of_X10_fetch (by omega) (fun G hG => s_X10_fetch_0 hG ?_)
    simp only [b_X10_fetch_0, b_X10_fetch_7, b_X10_fetch_14, b_X10_fetch_19, b_X10_fetch_26, b_X10_fetch_28, o_c, o_il, o_al, o_is, o_as, o_inc, o_add, o_sub, o_mul, o_and, o_or, o_xor, o_shl, o_shr, o_ush, o_rem, o_dup, o_dup2, o_gf, o_pf, o_pz, o_iald, o_iast, o_zald, o_zast, o_aald, o_gs, o_min, o_acp, o_call, o_callv, zgf, zpf, zia_, zza_, zra_, zrd_, zcp_, zpop, zsm8_0, zsm8_1, zsm8_2, zsm8_3, zsm8_4, zsm8_5, zrc, zisob, t_ieq, t_ilt, t_igt, t_zeq, t_zlt, t_zgt, t_sw, zsw, t_iret, t_zret, t_aret, t_vret, zrg, List.getElem?_cons_zero, List.getElem?_cons_succ, List.set_cons_zero, List.set_cons_succ, List.length_cons, List.length_nil, Option.toList_some, Option.toList_none, List.nil_append, List.cons_append, true_and, and_true, true_or, or_true, Int.cast_ofNat_Int, Int.natCast_zero, Int.natCast_one, zsh_0, zsh_1]
    refine zcall (c_X10_isStore hs) ?_
    rw [zb_t hc]
    simp only [b_X10_fetch_0, b_X10_fetch_7, b_X10_fetch_14, b_X10_fetch_19, b_X10_fetch_26, b_X10_fetch_28, o_c, o_il, o_al, o_is, o_as, o_inc, o_add, o_sub, o_mul, o_and, o_or, o_xor, o_shl, o_shr, o_ush, o_rem, o_dup, o_dup2, o_gf, o_pf, o_pz, o_iald, o_iast, o_zald, o_zast, o_aald, o_gs, o_min, o_acp, o_call, o_callv, zgf, zpf, zia_, zza_, zra_, zrd_, zcp_, zpop, zsm8_0, zsm8_1, zsm8_2, zsm8_3, zsm8_4, zsm8_5, zrc, zisob, t_ieq, t_ilt, t_igt, t_zeq, t_zlt, t_zgt, t_sw, zsw, t_iret, t_zret, t_aret, t_vret, zrg, List.getElem?_cons_zero, List.getElem?_cons_succ, List.set_cons_zero, List.set_cons_succ, List.length_cons, List.length_nil, Option.toList_some, Option.toList_none, List.nil_append, List.cons_append, true_and, and_true, true_or, or_true, Int.cast_ofNat_Int, Int.natCast_zero, Int.natCast_one, zsh_0, zsh_1, zg3 h3, hk.ob, hk.sob]
    refine ⟨by omega, fun w => by omega, fun _ => ?_⟩
    refine zcall (c_X10_isStore hp) ?_
    rw [zb_t k2]
    simp only [b_X10_fetch_0, b_X10_fetch_7, b_X10_fetch_14, b_X10_fetch_19, b_X10_fetch_26, b_X10_fetch_28, o_c, o_il, o_al, o_is, o_as, o_inc, o_add, o_sub, o_mul, o_and, o_or, o_xor, o_shl, o_shr, o_ush, o_rem, o_dup, o_dup2, o_gf, o_pf, o_pz, o_iald, o_iast, o_zald, o_zast, o_aald, o_gs, o_min, o_acp, o_call, o_callv, zgf, zpf, zia_, zza_, zra_, zrd_, zcp_, zpop, zsm8_0, zsm8_1, zsm8_2, zsm8_3, zsm8_4, zsm8_5, zrc, zisob, t_ieq, t_ilt, t_igt, t_zeq, t_zlt, t_zgt, t_sw, zsw, t_iret, t_zret, t_aret, t_vret, zrg, List.getElem?_cons_zero, List.getElem?_cons_succ, List.set_cons_zero, List.set_cons_succ, List.length_cons, List.length_nil, Option.toList_some, Option.toList_none, List.nil_append, List.cons_append, true_and, and_true, true_or, or_true, Int.cast_ofNat_Int, Int.natCast_zero, Int.natCast_one, zsh_0, zsh_1, zg3 h3, hk.ob, hk.sob]
    refine ⟨by omega, fun w => by omega, fun _ => ⟨by omega, by omega, fun w => absurd w k3, fun _ => ?_⟩⟩
    refine zcall (c_X10_isName hn) ?_
    rw [zb_t k4]
    simp only [b_X10_fetch_0, b_X10_fetch_7, b_X10_fetch_14, b_X10_fetch_19, b_X10_fetch_26, b_X10_fetch_28, o_c, o_il, o_al, o_is, o_as, o_inc, o_add, o_sub, o_mul, o_and, o_or, o_xor, o_shl, o_shr, o_ush, o_rem, o_dup, o_dup2, o_gf, o_pf, o_pz, o_iald, o_iast, o_zald, o_zast, o_aald, o_gs, o_min, o_acp, o_call, o_callv, zgf, zpf, zia_, zza_, zra_, zrd_, zcp_, zpop, zsm8_0, zsm8_1, zsm8_2, zsm8_3, zsm8_4, zsm8_5, zrc, zisob, t_ieq, t_ilt, t_igt, t_zeq, t_zlt, t_zgt, t_sw, zsw, t_iret, t_zret, t_aret, t_vret, zrg, List.getElem?_cons_zero, List.getElem?_cons_succ, List.set_cons_zero, List.set_cons_succ, List.length_cons, List.length_nil, Option.toList_some, Option.toList_none, List.nil_append, List.cons_append, true_and, and_true, true_or, or_true, Int.cast_ofNat_Int, Int.natCast_zero, Int.natCast_one, zsh_0, zsh_1, zg3 h3, hk.ob, hk.sob]
    refine ⟨by omega, fun w => by omega, fun _ => ⟨by omega, ?_⟩⟩
    refine ⟨_, c_X7_startFetch hx.2.2 k2 k4, ?_⟩
    rintro v μ1 ⟨rfl, g1, g2⟩
    simp only [b_X10_fetch_0, b_X10_fetch_7, b_X10_fetch_14, b_X10_fetch_19, b_X10_fetch_26, b_X10_fetch_28, o_c, o_il, o_al, o_is, o_as, o_inc, o_add, o_sub, o_mul, o_and, o_or, o_xor, o_shl, o_shr, o_ush, o_rem, o_dup, o_dup2, o_gf, o_pf, o_pz, o_iald, o_iast, o_zald, o_zast, o_aald, o_gs, o_min, o_acp, o_call, o_callv, zgf, zpf, zia_, zza_, zra_, zrd_, zcp_, zpop, zsm8_0, zsm8_1, zsm8_2, zsm8_3, zsm8_4, zsm8_5, zrc, zisob, t_ieq, t_ilt, t_igt, t_zeq, t_zlt, t_zgt, t_sw, zsw, t_iret, t_zret, t_aret, t_vret, zrg, List.getElem?_cons_zero, List.getElem?_cons_succ, List.set_cons_zero, List.set_cons_succ, List.length_cons, List.length_nil, Option.toList_some, Option.toList_none, List.nil_append, List.cons_append, true_and, and_true, true_or, or_true, Int.cast_ofNat_Int, Int.natCast_zero, Int.natCast_one, zsh_0, zsh_1, zg3 h3, hk.ob, hk.sob]
    have hR1 : zRC μ1 B T Ms (zSu St s (zftX (St s) peer nm)) := h.upS h3 g2 (by simp <;> omega) ⟨hx.1.fr g2 (by simp <;> omega), hx.2.1.fr g2 (by simp <;> omega), g1⟩ (h.2.2.2.2.fr g2 (by simp <;> omega))
    have hV1 : zVS (zSu St s (zftX (St s) peer nm) s) := by rw [zSu_at]; exact hV s h3
    refine ⟨_, c_X10_wantAllMissing (by omega) hR1 h3 hV1, ?_⟩
    rw [zSu_at, zSu_su]
    rintro v μ2 ⟨rfl, p1, p2⟩
    simp only [b_X10_fetch_0, b_X10_fetch_7, b_X10_fetch_14, b_X10_fetch_19, b_X10_fetch_26, b_X10_fetch_28, o_c, o_il, o_al, o_is, o_as, o_inc, o_add, o_sub, o_mul, o_and, o_or, o_xor, o_shl, o_shr, o_ush, o_rem, o_dup, o_dup2, o_gf, o_pf, o_pz, o_iald, o_iast, o_zald, o_zast, o_aald, o_gs, o_min, o_acp, o_call, o_callv, zgf, zpf, zia_, zza_, zra_, zrd_, zcp_, zpop, zsm8_0, zsm8_1, zsm8_2, zsm8_3, zsm8_4, zsm8_5, zrc, zisob, t_ieq, t_ilt, t_igt, t_zeq, t_zlt, t_zgt, t_sw, zsw, t_iret, t_zret, t_aret, t_vret, zrg, List.getElem?_cons_zero, List.getElem?_cons_succ, List.set_cons_zero, List.set_cons_succ, List.length_cons, List.length_nil, Option.toList_some, Option.toList_none, List.nil_append, List.cons_append, true_and, and_true, true_or, or_true, Int.cast_ofNat_Int, Int.natCast_zero, Int.natCast_one, zsh_0, zsh_1, zg3 h3, hk.ob, hk.sob]
    exact ⟨p1, (g2.cs (by simp <;> omega)).trans p2⟩
  · have eO : zftO St store peer nm = -1 := by unfold zftO; rw [if_neg (by rw [zb_f hK]; decide)]
    have eS : zftS St store peer nm = St := by unfold zftS; rw [if_neg (by rw [zb_f hK]; decide)]
    have eM : zftM Ms St store peer nm = Ms := by unfold zftM; rw [if_neg (by rw [zb_f hK]; decide)]
    rw [eO, eS, eM]
    unfold zftK at hK
    have R : zRC μ B T Ms St ∧ zfr zCS μ μ := ⟨h, zfr.refl _ _⟩
    refine of_X10_fetch (by omega) (fun G hG => s_X10_fetch_0 hG ?_)
    simp only [b_X10_fetch_0, b_X10_fetch_7, b_X10_fetch_14, b_X10_fetch_19, b_X10_fetch_26, b_X10_fetch_28, o_c, o_il, o_al, o_is, o_as, o_inc, o_add, o_sub, o_mul, o_and, o_or, o_xor, o_shl, o_shr, o_ush, o_rem, o_dup, o_dup2, o_gf, o_pf, o_pz, o_iald, o_iast, o_zald, o_zast, o_aald, o_gs, o_min, o_acp, o_call, o_callv, zgf, zpf, zia_, zza_, zra_, zrd_, zcp_, zpop, zsm8_0, zsm8_1, zsm8_2, zsm8_3, zsm8_4, zsm8_5, zrc, zisob, t_ieq, t_ilt, t_igt, t_zeq, t_zlt, t_zgt, t_sw, zsw, t_iret, t_zret, t_aret, t_vret, zrg, List.getElem?_cons_zero, List.getElem?_cons_succ, List.set_cons_zero, List.set_cons_succ, List.length_cons, List.length_nil, Option.toList_some, Option.toList_none, List.nil_append, List.cons_append, true_and, and_true, true_or, or_true, Int.cast_ofNat_Int, Int.natCast_zero, Int.natCast_one, zsh_0, zsh_1]
    refine zcall (c_X10_isStore hs) ?_
    rcases zb_or (0 ≤ store ∧ store ≤ 2) with ⟨q1, q2⟩ | ⟨q1, q2⟩
    · rw [q1]
      simp only [b_X10_fetch_0, b_X10_fetch_7, b_X10_fetch_14, b_X10_fetch_19, b_X10_fetch_26, b_X10_fetch_28, o_c, o_il, o_al, o_is, o_as, o_inc, o_add, o_sub, o_mul, o_and, o_or, o_xor, o_shl, o_shr, o_ush, o_rem, o_dup, o_dup2, o_gf, o_pf, o_pz, o_iald, o_iast, o_zald, o_zast, o_aald, o_gs, o_min, o_acp, o_call, o_callv, zgf, zpf, zia_, zza_, zra_, zrd_, zcp_, zpop, zsm8_0, zsm8_1, zsm8_2, zsm8_3, zsm8_4, zsm8_5, zrc, zisob, t_ieq, t_ilt, t_igt, t_zeq, t_zlt, t_zgt, t_sw, zsw, t_iret, t_zret, t_aret, t_vret, zrg, List.getElem?_cons_zero, List.getElem?_cons_succ, List.set_cons_zero, List.set_cons_succ, List.length_cons, List.length_nil, Option.toList_some, Option.toList_none, List.nil_append, List.cons_append, true_and, and_true, true_or, or_true, Int.cast_ofNat_Int, Int.natCast_zero, Int.natCast_one, zsh_0, zsh_1]
      refine ⟨by omega, fun w => R, fun _ => ?_⟩
      refine zcall (c_X10_isStore hp) ?_
      rcases zb_or (0 ≤ peer ∧ peer ≤ 2) with ⟨r1, r2⟩ | ⟨r1, r2⟩
      · rw [r1]
        simp only [b_X10_fetch_0, b_X10_fetch_7, b_X10_fetch_14, b_X10_fetch_19, b_X10_fetch_26, b_X10_fetch_28, o_c, o_il, o_al, o_is, o_as, o_inc, o_add, o_sub, o_mul, o_and, o_or, o_xor, o_shl, o_shr, o_ush, o_rem, o_dup, o_dup2, o_gf, o_pf, o_pz, o_iald, o_iast, o_zald, o_zast, o_aald, o_gs, o_min, o_acp, o_call, o_callv, zgf, zpf, zia_, zza_, zra_, zrd_, zcp_, zpop, zsm8_0, zsm8_1, zsm8_2, zsm8_3, zsm8_4, zsm8_5, zrc, zisob, t_ieq, t_ilt, t_igt, t_zeq, t_zlt, t_zgt, t_sw, zsw, t_iret, t_zret, t_aret, t_vret, zrg, List.getElem?_cons_zero, List.getElem?_cons_succ, List.set_cons_zero, List.set_cons_succ, List.length_cons, List.length_nil, Option.toList_some, Option.toList_none, List.nil_append, List.cons_append, true_and, and_true, true_or, or_true, Int.cast_ofNat_Int, Int.natCast_zero, Int.natCast_one, zsh_0, zsh_1]
        unfold zrg at hs hp
        refine ⟨by omega, fun w => R, fun _ => ⟨by omega, by omega, fun _ => R, fun w => ?_⟩⟩
        refine zcall (c_X10_isName hn) ?_
        rw [zb_f (P := 0 ≤ nm ∧ nm ≤ 65520) (fun w2 => hK ⟨q2, r2, w, w2⟩)]
        simp only [b_X10_fetch_0, b_X10_fetch_7, b_X10_fetch_14, b_X10_fetch_19, b_X10_fetch_26, b_X10_fetch_28, o_c, o_il, o_al, o_is, o_as, o_inc, o_add, o_sub, o_mul, o_and, o_or, o_xor, o_shl, o_shr, o_ush, o_rem, o_dup, o_dup2, o_gf, o_pf, o_pz, o_iald, o_iast, o_zald, o_zast, o_aald, o_gs, o_min, o_acp, o_call, o_callv, zgf, zpf, zia_, zza_, zra_, zrd_, zcp_, zpop, zsm8_0, zsm8_1, zsm8_2, zsm8_3, zsm8_4, zsm8_5, zrc, zisob, t_ieq, t_ilt, t_igt, t_zeq, t_zlt, t_zgt, t_sw, zsw, t_iret, t_zret, t_aret, t_vret, zrg, List.getElem?_cons_zero, List.getElem?_cons_succ, List.set_cons_zero, List.set_cons_succ, List.length_cons, List.length_nil, Option.toList_some, Option.toList_none, List.nil_append, List.cons_append, true_and, and_true, true_or, or_true, Int.cast_ofNat_Int, Int.natCast_zero, Int.natCast_one, zsh_0, zsh_1]
        exact ⟨by omega, fun w => R, fun w => absurd trivial w⟩
      · rw [r1]
        simp only [b_X10_fetch_0, b_X10_fetch_7, b_X10_fetch_14, b_X10_fetch_19, b_X10_fetch_26, b_X10_fetch_28, o_c, o_il, o_al, o_is, o_as, o_inc, o_add, o_sub, o_mul, o_and, o_or, o_xor, o_shl, o_shr, o_ush, o_rem, o_dup, o_dup2, o_gf, o_pf, o_pz, o_iald, o_iast, o_zald, o_zast, o_aald, o_gs, o_min, o_acp, o_call, o_callv, zgf, zpf, zia_, zza_, zra_, zrd_, zcp_, zpop, zsm8_0, zsm8_1, zsm8_2, zsm8_3, zsm8_4, zsm8_5, zrc, zisob, t_ieq, t_ilt, t_igt, t_zeq, t_zlt, t_zgt, t_sw, zsw, t_iret, t_zret, t_aret, t_vret, zrg, List.getElem?_cons_zero, List.getElem?_cons_succ, List.set_cons_zero, List.set_cons_succ, List.length_cons, List.length_nil, Option.toList_some, Option.toList_none, List.nil_append, List.cons_append, true_and, and_true, true_or, or_true, Int.cast_ofNat_Int, Int.natCast_zero, Int.natCast_one, zsh_0, zsh_1]
        exact ⟨by omega, fun w => R, fun w => absurd trivial w⟩
    · rw [q1]
      simp only [b_X10_fetch_0, b_X10_fetch_7, b_X10_fetch_14, b_X10_fetch_19, b_X10_fetch_26, b_X10_fetch_28, o_c, o_il, o_al, o_is, o_as, o_inc, o_add, o_sub, o_mul, o_and, o_or, o_xor, o_shl, o_shr, o_ush, o_rem, o_dup, o_dup2, o_gf, o_pf, o_pz, o_iald, o_iast, o_zald, o_zast, o_aald, o_gs, o_min, o_acp, o_call, o_callv, zgf, zpf, zia_, zza_, zra_, zrd_, zcp_, zpop, zsm8_0, zsm8_1, zsm8_2, zsm8_3, zsm8_4, zsm8_5, zrc, zisob, t_ieq, t_ilt, t_igt, t_zeq, t_zlt, t_zgt, t_sw, zsw, t_iret, t_zret, t_aret, t_vret, zrg, List.getElem?_cons_zero, List.getElem?_cons_succ, List.set_cons_zero, List.set_cons_succ, List.length_cons, List.length_nil, Option.toList_some, Option.toList_none, List.nil_append, List.cons_append, true_and, and_true, true_or, or_true, Int.cast_ofNat_Int, Int.natCast_zero, Int.natCast_one, zsh_0, zsh_1]
      exact ⟨by omega, fun w => R, fun w => absurd trivial w⟩
def zrtK (St : Nat → zStt) (store : Int) : Prop := (0 ≤ store ∧ store ≤ 2) ∧ (St store.toNat).2.2.1 = 1
noncomputable def zrtO (St : Nat → zStt) (store : Int) : Int := if zb (zrtK St store) = 1 then ((zms (St store.toNat)).length : Int) else -1
noncomputable def zrtM (Ms : List zMg) (St : Nat → zStt) (store : Int) : List zMg := if zb (zrtK St store) = 1 then zwnt Ms store (St store.toNat).2.2.2.1 (zms (St store.toNat)) else Ms
set_option maxRecDepth 100000 in
set_option maxHeartbeats 4000000 in
theorem c_X10_retry {d : Nat} {μ : zM} {B : List Int} {T : List zPp} {Ms : List zMg} {St : Nat → zStt} {store : Int} (hd : 6 ≤ d) (h : zRC μ B T Ms St) (hV : ∀ s, s < 3 → zVS (St s)) (hI : ∀ s, s < 3 → zrnI (St s)) (hs : zrg store) : zCt d mX10_retry [.inr (some 0), .inl store] μ (fun v μ' => v = some (.inl (zrtO St store)) ∧ zRC μ' B T (zrtM Ms St store) St ∧ zfr zCS μ μ') := by
  have R : zRC μ B T Ms St ∧ zfr zCS μ μ := ⟨h, zfr.refl _ _⟩
  by_cases hc : 0 ≤ store ∧ store ≤ 2
  · obtain ⟨s, rfl, h3⟩ := zs3 hc
    have hk := zk3 h3
    have hx := h.2.2.2.1 s h3
    by_cases hf : (St s).2.2.1 = 1
    · have hK : zrtK St s := ⟨hc, hf⟩
      have eO : zrtO St s = ((zms (St s)).length : Int) := by unfold zrtO; rw [if_pos (zb_t hK)]; rfl
      have eM : zrtM Ms St s = zwnt Ms s (St s).2.2.2.1 (zms (St s)) := by unfold zrtM; rw [if_pos (zb_t hK)]; rfl
      rw [eO, eM]
      refine of_X10_retry (by omega) (fun G hG => s_X10_retry_0 hG ?_)
      simp only [b_X10_retry_0, b_X10_retry_7, b_X10_retry_19, b_X10_retry_21, o_c, o_il, o_al, o_is, o_as, o_inc, o_add, o_sub, o_mul, o_and, o_or, o_xor, o_shl, o_shr, o_ush, o_rem, o_dup, o_dup2, o_gf, o_pf, o_pz, o_iald, o_iast, o_zald, o_zast, o_aald, o_gs, o_min, o_acp, o_call, o_callv, zgf, zpf, zia_, zza_, zra_, zrd_, zcp_, zpop, zsm8_0, zsm8_1, zsm8_2, zsm8_3, zsm8_4, zsm8_5, zrc, zisob, t_ieq, t_ilt, t_igt, t_zeq, t_zlt, t_zgt, t_sw, zsw, t_iret, t_zret, t_aret, t_vret, zrg, List.getElem?_cons_zero, List.getElem?_cons_succ, List.set_cons_zero, List.set_cons_succ, List.length_cons, List.length_nil, Option.toList_some, Option.toList_none, List.nil_append, List.cons_append, true_and, and_true, true_or, or_true, Int.cast_ofNat_Int, Int.natCast_zero, Int.natCast_one, zsh_0, zsh_1]
      refine zcall (c_X10_isStore hs) ?_
      rw [zb_t hc]
      simp only [b_X10_retry_0, b_X10_retry_7, b_X10_retry_19, b_X10_retry_21, o_c, o_il, o_al, o_is, o_as, o_inc, o_add, o_sub, o_mul, o_and, o_or, o_xor, o_shl, o_shr, o_ush, o_rem, o_dup, o_dup2, o_gf, o_pf, o_pz, o_iald, o_iast, o_zald, o_zast, o_aald, o_gs, o_min, o_acp, o_call, o_callv, zgf, zpf, zia_, zza_, zra_, zrd_, zcp_, zpop, zsm8_0, zsm8_1, zsm8_2, zsm8_3, zsm8_4, zsm8_5, zrc, zisob, t_ieq, t_ilt, t_igt, t_zeq, t_zlt, t_zgt, t_sw, zsw, t_iret, t_zret, t_aret, t_vret, zrg, List.getElem?_cons_zero, List.getElem?_cons_succ, List.set_cons_zero, List.set_cons_succ, List.length_cons, List.length_nil, Option.toList_some, Option.toList_none, List.nil_append, List.cons_append, true_and, and_true, true_or, or_true, Int.cast_ofNat_Int, Int.natCast_zero, Int.natCast_one, zsh_0, zsh_1, zg3 h3, hk.ob, hk.sob]
      refine ⟨by omega, fun w => by omega, fun _ => ⟨by omega, ?_⟩⟩
      refine zcall (c_X7_isFetching hx.2.2) ?_
      rw [if_pos hf]
      simp only [b_X10_retry_0, b_X10_retry_7, b_X10_retry_19, b_X10_retry_21, o_c, o_il, o_al, o_is, o_as, o_inc, o_add, o_sub, o_mul, o_and, o_or, o_xor, o_shl, o_shr, o_ush, o_rem, o_dup, o_dup2, o_gf, o_pf, o_pz, o_iald, o_iast, o_zald, o_zast, o_aald, o_gs, o_min, o_acp, o_call, o_callv, zgf, zpf, zia_, zza_, zra_, zrd_, zcp_, zpop, zsm8_0, zsm8_1, zsm8_2, zsm8_3, zsm8_4, zsm8_5, zrc, zisob, t_ieq, t_ilt, t_igt, t_zeq, t_zlt, t_zgt, t_sw, zsw, t_iret, t_zret, t_aret, t_vret, zrg, List.getElem?_cons_zero, List.getElem?_cons_succ, List.set_cons_zero, List.set_cons_succ, List.length_cons, List.length_nil, Option.toList_some, Option.toList_none, List.nil_append, List.cons_append, true_and, and_true, true_or, or_true, Int.cast_ofNat_Int, Int.natCast_zero, Int.natCast_one, zsh_0, zsh_1, zg3 h3, hk.ob, hk.sob]
      refine ⟨by omega, fun w => by omega, fun _ => ?_⟩
      refine ⟨_, c_X10_wantAllMissing (by omega) h h3 (hV s h3), ?_⟩
      rw [(hI s h3).w, zSu_id]
      rintro v μ2 ⟨rfl, p1, p2⟩
      simp only [b_X10_retry_0, b_X10_retry_7, b_X10_retry_19, b_X10_retry_21, o_c, o_il, o_al, o_is, o_as, o_inc, o_add, o_sub, o_mul, o_and, o_or, o_xor, o_shl, o_shr, o_ush, o_rem, o_dup, o_dup2, o_gf, o_pf, o_pz, o_iald, o_iast, o_zald, o_zast, o_aald, o_gs, o_min, o_acp, o_call, o_callv, zgf, zpf, zia_, zza_, zra_, zrd_, zcp_, zpop, zsm8_0, zsm8_1, zsm8_2, zsm8_3, zsm8_4, zsm8_5, zrc, zisob, t_ieq, t_ilt, t_igt, t_zeq, t_zlt, t_zgt, t_sw, zsw, t_iret, t_zret, t_aret, t_vret, zrg, List.getElem?_cons_zero, List.getElem?_cons_succ, List.set_cons_zero, List.set_cons_succ, List.length_cons, List.length_nil, Option.toList_some, Option.toList_none, List.nil_append, List.cons_append, true_and, and_true, true_or, or_true, Int.cast_ofNat_Int, Int.natCast_zero, Int.natCast_one, zsh_0, zsh_1, zg3 h3, hk.ob, hk.sob]
      exact ⟨p1, p2⟩
    · have hK : ¬ zrtK St s := fun w => hf w.2
      have eO : zrtO St s = -1 := by unfold zrtO; rw [if_neg (by rw [zb_f hK]; decide)]
      have eM : zrtM Ms St s = Ms := by unfold zrtM; rw [if_neg (by rw [zb_f hK]; decide)]
      rw [eO, eM]
      refine of_X10_retry (by omega) (fun G hG => s_X10_retry_0 hG ?_)
      simp only [b_X10_retry_0, b_X10_retry_7, b_X10_retry_19, b_X10_retry_21, o_c, o_il, o_al, o_is, o_as, o_inc, o_add, o_sub, o_mul, o_and, o_or, o_xor, o_shl, o_shr, o_ush, o_rem, o_dup, o_dup2, o_gf, o_pf, o_pz, o_iald, o_iast, o_zald, o_zast, o_aald, o_gs, o_min, o_acp, o_call, o_callv, zgf, zpf, zia_, zza_, zra_, zrd_, zcp_, zpop, zsm8_0, zsm8_1, zsm8_2, zsm8_3, zsm8_4, zsm8_5, zrc, zisob, t_ieq, t_ilt, t_igt, t_zeq, t_zlt, t_zgt, t_sw, zsw, t_iret, t_zret, t_aret, t_vret, zrg, List.getElem?_cons_zero, List.getElem?_cons_succ, List.set_cons_zero, List.set_cons_succ, List.length_cons, List.length_nil, Option.toList_some, Option.toList_none, List.nil_append, List.cons_append, true_and, and_true, true_or, or_true, Int.cast_ofNat_Int, Int.natCast_zero, Int.natCast_one, zsh_0, zsh_1]
      refine zcall (c_X10_isStore hs) ?_
      rw [zb_t hc]
      simp only [b_X10_retry_0, b_X10_retry_7, b_X10_retry_19, b_X10_retry_21, o_c, o_il, o_al, o_is, o_as, o_inc, o_add, o_sub, o_mul, o_and, o_or, o_xor, o_shl, o_shr, o_ush, o_rem, o_dup, o_dup2, o_gf, o_pf, o_pz, o_iald, o_iast, o_zald, o_zast, o_aald, o_gs, o_min, o_acp, o_call, o_callv, zgf, zpf, zia_, zza_, zra_, zrd_, zcp_, zpop, zsm8_0, zsm8_1, zsm8_2, zsm8_3, zsm8_4, zsm8_5, zrc, zisob, t_ieq, t_ilt, t_igt, t_zeq, t_zlt, t_zgt, t_sw, zsw, t_iret, t_zret, t_aret, t_vret, zrg, List.getElem?_cons_zero, List.getElem?_cons_succ, List.set_cons_zero, List.set_cons_succ, List.length_cons, List.length_nil, Option.toList_some, Option.toList_none, List.nil_append, List.cons_append, true_and, and_true, true_or, or_true, Int.cast_ofNat_Int, Int.natCast_zero, Int.natCast_one, zsh_0, zsh_1, zg3 h3, hk.ob, hk.sob]
      refine ⟨by omega, fun w => by omega, fun _ => ⟨by omega, ?_⟩⟩
      refine zcall (c_X7_isFetching hx.2.2) ?_
      rw [if_neg hf]
      simp only [b_X10_retry_0, b_X10_retry_7, b_X10_retry_19, b_X10_retry_21, o_c, o_il, o_al, o_is, o_as, o_inc, o_add, o_sub, o_mul, o_and, o_or, o_xor, o_shl, o_shr, o_ush, o_rem, o_dup, o_dup2, o_gf, o_pf, o_pz, o_iald, o_iast, o_zald, o_zast, o_aald, o_gs, o_min, o_acp, o_call, o_callv, zgf, zpf, zia_, zza_, zra_, zrd_, zcp_, zpop, zsm8_0, zsm8_1, zsm8_2, zsm8_3, zsm8_4, zsm8_5, zrc, zisob, t_ieq, t_ilt, t_igt, t_zeq, t_zlt, t_zgt, t_sw, zsw, t_iret, t_zret, t_aret, t_vret, zrg, List.getElem?_cons_zero, List.getElem?_cons_succ, List.set_cons_zero, List.set_cons_succ, List.length_cons, List.length_nil, Option.toList_some, Option.toList_none, List.nil_append, List.cons_append, true_and, and_true, true_or, or_true, Int.cast_ofNat_Int, Int.natCast_zero, Int.natCast_one, zsh_0, zsh_1, zg3 h3, hk.ob, hk.sob]
      exact ⟨by omega, fun w => R, fun w => absurd trivial w⟩
  · have hK : ¬ zrtK St store := fun w => hc w.1
    have eO : zrtO St store = -1 := by unfold zrtO; rw [if_neg (by rw [zb_f hK]; decide)]
    have eM : zrtM Ms St store = Ms := by unfold zrtM; rw [if_neg (by rw [zb_f hK]; decide)]
    rw [eO, eM]
    refine of_X10_retry (by omega) (fun G hG => s_X10_retry_0 hG ?_)
    simp only [b_X10_retry_0, b_X10_retry_7, b_X10_retry_19, b_X10_retry_21, o_c, o_il, o_al, o_is, o_as, o_inc, o_add, o_sub, o_mul, o_and, o_or, o_xor, o_shl, o_shr, o_ush, o_rem, o_dup, o_dup2, o_gf, o_pf, o_pz, o_iald, o_iast, o_zald, o_zast, o_aald, o_gs, o_min, o_acp, o_call, o_callv, zgf, zpf, zia_, zza_, zra_, zrd_, zcp_, zpop, zsm8_0, zsm8_1, zsm8_2, zsm8_3, zsm8_4, zsm8_5, zrc, zisob, t_ieq, t_ilt, t_igt, t_zeq, t_zlt, t_zgt, t_sw, zsw, t_iret, t_zret, t_aret, t_vret, zrg, List.getElem?_cons_zero, List.getElem?_cons_succ, List.set_cons_zero, List.set_cons_succ, List.length_cons, List.length_nil, Option.toList_some, Option.toList_none, List.nil_append, List.cons_append, true_and, and_true, true_or, or_true, Int.cast_ofNat_Int, Int.natCast_zero, Int.natCast_one, zsh_0, zsh_1]
    refine zcall (c_X10_isStore hs) ?_
    rw [zb_f (P := 0 ≤ store ∧ store ≤ 2) hc]
    simp only [b_X10_retry_0, b_X10_retry_7, b_X10_retry_19, b_X10_retry_21, o_c, o_il, o_al, o_is, o_as, o_inc, o_add, o_sub, o_mul, o_and, o_or, o_xor, o_shl, o_shr, o_ush, o_rem, o_dup, o_dup2, o_gf, o_pf, o_pz, o_iald, o_iast, o_zald, o_zast, o_aald, o_gs, o_min, o_acp, o_call, o_callv, zgf, zpf, zia_, zza_, zra_, zrd_, zcp_, zpop, zsm8_0, zsm8_1, zsm8_2, zsm8_3, zsm8_4, zsm8_5, zrc, zisob, t_ieq, t_ilt, t_igt, t_zeq, t_zlt, t_zgt, t_sw, zsw, t_iret, t_zret, t_aret, t_vret, zrg, List.getElem?_cons_zero, List.getElem?_cons_succ, List.set_cons_zero, List.set_cons_succ, List.length_cons, List.length_nil, Option.toList_some, Option.toList_none, List.nil_append, List.cons_append, true_and, and_true, true_or, or_true, Int.cast_ofNat_Int, Int.natCast_zero, Int.natCast_one, zsh_0, zsh_1]
    exact ⟨by omega, fun w => R, fun w => absurd trivial w⟩
