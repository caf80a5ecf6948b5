/-! STORES -/
set_option maxRecDepth 100000 in
set_option maxHeartbeats 4000000 in
theorem c_X7_shelf {d : Nat} {μ : zM} {q : Nat} (hk : zstK q) : zCt d mX7_shelf [.inr (some q)] μ (zR (.inr (some (q + 1))) μ) := by
  refine of_X7_shelf (fun G hG => s_X7_shelf_0 hG ?_)
  simp only [b_X7_shelf_0, o_c, o_il, o_al, o_is, o_as, o_inc, o_add, o_sub, o_mul, o_and, o_or, o_xor, o_shl, o_shr, o_ush, o_rem, o_dup, o_dup2, o_gf, o_pf, o_pz, o_iald, o_iast, o_zald, o_zast, o_aald, o_gs, o_min, o_acp, o_call, o_callv, zgf, zpf, zia_, zza_, zra_, zrd_, zcp_, zpop, zsm8_0, zsm8_1, zsm8_2, zsm8_3, zsm8_4, zsm8_5, zrc, zisob, t_ieq, t_ilt, t_igt, t_zeq, t_zlt, t_zgt, t_sw, zsw, t_iret, t_zret, t_aret, t_vret, zrg, List.getElem?_cons_zero, List.getElem?_cons_succ, List.set_cons_zero, List.set_cons_succ, List.length_cons, List.length_nil, Option.toList_some, Option.toList_none, List.nil_append, List.cons_append, true_and, and_true, true_or, or_true, Int.cast_ofNat_Int, Int.natCast_zero, Int.natCast_one, hk.ob]
  exact ⟨rfl, rfl⟩
/-- the fetch of a store: state, peer, root -/
def zFE (μ : zM) (q : Nat) (fs fp fr : Int) : Prop := zstK q ∧ μ q 2 = fs ∧ μ q 3 = fp ∧ μ q 4 = fr ∧ (0 ≤ fs ∧ fs ≤ 3) ∧ (0 ≤ fp ∧ fp ≤ 2) ∧ (0 ≤ fr ∧ fr ≤ 65520)
theorem zFE.of {μ μ' : zM} {q : Nat} {fs fp fr : Int} (h : zFE μ q fs fp fr) (e : μ' q = μ q) : zFE μ' q fs fp fr := by
  unfold zFE at h ⊢
  rw [e]
  exact h
set_option maxRecDepth 100000 in
set_option maxHeartbeats 4000000 in
theorem c_X7_fetchState {d : Nat} {μ : zM} {q : Nat} {fs fp fr : Int} (h : zFE μ q fs fp fr) : zCt d mX7_fetchState [.inr (some q)] μ (zR (.inl fs) μ) := by
  refine of_X7_fetchState (fun G hG => s_X7_fetchState_0 hG ?_)
  simp only [b_X7_fetchState_0, o_c, o_il, o_al, o_is, o_as, o_inc, o_add, o_sub, o_mul, o_and, o_or, o_xor, o_shl, o_shr, o_ush, o_rem, o_dup, o_dup2, o_gf, o_pf, o_pz, o_iald, o_iast, o_zald, o_zast, o_aald, o_gs, o_min, o_acp, o_call, o_callv, zgf, zpf, zia_, zza_, zra_, zrd_, zcp_, zpop, zsm8_0, zsm8_1, zsm8_2, zsm8_3, zsm8_4, zsm8_5, zrc, zisob, t_ieq, t_ilt, t_igt, t_zeq, t_zlt, t_zgt, t_sw, zsw, t_iret, t_zret, t_aret, t_vret, zrg, List.getElem?_cons_zero, List.getElem?_cons_succ, List.set_cons_zero, List.set_cons_succ, List.length_cons, List.length_nil, Option.toList_some, Option.toList_none, List.nil_append, List.cons_append, true_and, and_true, true_or, or_true, Int.cast_ofNat_Int, Int.natCast_zero, Int.natCast_one, h.1.ob]
  exact ⟨by rw [h.2.1], rfl⟩
set_option maxRecDepth 100000 in
set_option maxHeartbeats 4000000 in
theorem c_X7_fetchPeer {d : Nat} {μ : zM} {q : Nat} {fs fp fr : Int} (h : zFE μ q fs fp fr) : zCt d mX7_fetchPeer [.inr (some q)] μ (zR (.inl fp) μ) := by
  refine of_X7_fetchPeer (fun G hG => s_X7_fetchPeer_0 hG ?_)
  simp only [b_X7_fetchPeer_0, o_c, o_il, o_al, o_is, o_as, o_inc, o_add, o_sub, o_mul, o_and, o_or, o_xor, o_shl, o_shr, o_ush, o_rem, o_dup, o_dup2, o_gf, o_pf, o_pz, o_iald, o_iast, o_zald, o_zast, o_aald, o_gs, o_min, o_acp, o_call, o_callv, zgf, zpf, zia_, zza_, zra_, zrd_, zcp_, zpop, zsm8_0, zsm8_1, zsm8_2, zsm8_3, zsm8_4, zsm8_5, zrc, zisob, t_ieq, t_ilt, t_igt, t_zeq, t_zlt, t_zgt, t_sw, zsw, t_iret, t_zret, t_aret, t_vret, zrg, List.getElem?_cons_zero, List.getElem?_cons_succ, List.set_cons_zero, List.set_cons_succ, List.length_cons, List.length_nil, Option.toList_some, Option.toList_none, List.nil_append, List.cons_append, true_and, and_true, true_or, or_true, Int.cast_ofNat_Int, Int.natCast_zero, Int.natCast_one, h.1.ob]
  exact ⟨by rw [h.2.2.1], rfl⟩
set_option maxRecDepth 100000 in
set_option maxHeartbeats 4000000 in
theorem c_X7_isFetching {d : Nat} {μ : zM} {q : Nat} {fs fp fr : Int} (h : zFE μ q fs fp fr) : zCt d mX7_isFetching [.inr (some q)] μ (zR (.inl (if fs = 1 then 1 else 0)) μ) := by
  obtain ⟨hk, e1, e2, e3, r1, r2, r3⟩ := h
  by_cases hc : fs = 1
  · rw [if_pos hc]
    refine of_X7_isFetching (fun G hG => s_X7_isFetching_0 hG ?_)
    simp only [b_X7_isFetching_0, b_X7_isFetching_8, b_X7_isFetching_12, b_X7_isFetching_13, o_c, o_il, o_al, o_is, o_as, o_inc, o_add, o_sub, o_mul, o_and, o_or, o_xor, o_shl, o_shr, o_ush, o_rem, o_dup, o_dup2, o_gf, o_pf, o_pz, o_iald, o_iast, o_zald, o_zast, o_aald, o_gs, o_min, o_acp, o_call, o_callv, zgf, zpf, zia_, zza_, zra_, zrd_, zcp_, zpop, zsm8_0, zsm8_1, zsm8_2, zsm8_3, zsm8_4, zsm8_5, zrc, zisob, t_ieq, t_ilt, t_igt, t_zeq, t_zlt, t_zgt, t_sw, zsw, t_iret, t_zret, t_aret, t_vret, zrg, List.getElem?_cons_zero, List.getElem?_cons_succ, List.set_cons_zero, List.set_cons_succ, List.length_cons, List.length_nil, Option.toList_some, Option.toList_none, List.nil_append, List.cons_append, true_and, and_true, true_or, or_true, Int.cast_ofNat_Int, Int.natCast_zero, Int.natCast_one, hk.ob]
    repeat' (first | with_reducible apply And.intro | intro _)
    all_goals first | omega | rfl | trivial | decide | (exfalso; omega)
  · rw [if_neg hc]
    refine of_X7_isFetching (fun G hG => s_X7_isFetching_0 hG ?_)
    simp only [b_X7_isFetching_0, b_X7_isFetching_8, b_X7_isFetching_12, b_X7_isFetching_13, o_c, o_il, o_al, o_is, o_as, o_inc, o_add, o_sub, o_mul, o_and, o_or, o_xor, o_shl, o_shr, o_ush, o_rem, o_dup, o_dup2, o_gf, o_pf, o_pz, o_iald, o_iast, o_zald, o_zast, o_aald, o_gs, o_min, o_acp, o_call, o_callv, zgf, zpf, zia_, zza_, zra_, zrd_, zcp_, zpop, zsm8_0, zsm8_1, zsm8_2, zsm8_3, zsm8_4, zsm8_5, zrc, zisob, t_ieq, t_ilt, t_igt, t_zeq, t_zlt, t_zgt, t_sw, zsw, t_iret, t_zret, t_aret, t_vret, zrg, List.getElem?_cons_zero, List.getElem?_cons_succ, List.set_cons_zero, List.set_cons_succ, List.length_cons, List.length_nil, Option.toList_some, Option.toList_none, List.nil_append, List.cons_append, true_and, and_true, true_or, or_true, Int.cast_ofNat_Int, Int.natCast_zero, Int.natCast_one, hk.ob]
    repeat' (first | with_reducible apply And.intro | intro _)
    all_goals first | omega | rfl | trivial | decide | (exfalso; omega)
set_option maxRecDepth 100000 in
set_option maxHeartbeats 4000000 in
theorem c_X7_isFetchingFrom {d : Nat} {μ : zM} {q : Nat} {fs fp fr p : Int} (h : zFE μ q fs fp fr) (hp : zrg p) : zCt d mX7_isFetchingFrom [.inr (some q), .inl p] μ (zR (.inl (if fs = 1 ∧ fp = p then 1 else 0)) μ) := by
  obtain ⟨hk, e1, e2, e3, r1, r2, r3⟩ := h
  unfold zrg at hp
  by_cases hc : fs = 1 ∧ fp = p
  · rw [if_pos hc]
    refine of_X7_isFetchingFrom (fun G hG => s_X7_isFetchingFrom_0 hG ?_)
    simp only [b_X7_isFetchingFrom_0, b_X7_isFetchingFrom_8, b_X7_isFetchingFrom_16, b_X7_isFetchingFrom_20, b_X7_isFetchingFrom_21, o_c, o_il, o_al, o_is, o_as, o_inc, o_add, o_sub, o_mul, o_and, o_or, o_xor, o_shl, o_shr, o_ush, o_rem, o_dup, o_dup2, o_gf, o_pf, o_pz, o_iald, o_iast, o_zald, o_zast, o_aald, o_gs, o_min, o_acp, o_call, o_callv, zgf, zpf, zia_, zza_, zra_, zrd_, zcp_, zpop, zsm8_0, zsm8_1, zsm8_2, zsm8_3, zsm8_4, zsm8_5, zrc, zisob, t_ieq, t_ilt, t_igt, t_zeq, t_zlt, t_zgt, t_sw, zsw, t_iret, t_zret, t_aret, t_vret, zrg, List.getElem?_cons_zero, List.getElem?_cons_succ, List.set_cons_zero, List.set_cons_succ, List.length_cons, List.length_nil, Option.toList_some, Option.toList_none, List.nil_append, List.cons_append, true_and, and_true, true_or, or_true, Int.cast_ofNat_Int, Int.natCast_zero, Int.natCast_one, hk.ob]
    repeat' (first | with_reducible apply And.intro | intro _)
    all_goals first | omega | rfl | trivial | decide | (exfalso; omega)
  · rw [if_neg hc]
    refine of_X7_isFetchingFrom (fun G hG => s_X7_isFetchingFrom_0 hG ?_)
    simp only [b_X7_isFetchingFrom_0, b_X7_isFetchingFrom_8, b_X7_isFetchingFrom_16, b_X7_isFetchingFrom_20, b_X7_isFetchingFrom_21, o_c, o_il, o_al, o_is, o_as, o_inc, o_add, o_sub, o_mul, o_and, o_or, o_xor, o_shl, o_shr, o_ush, o_rem, o_dup, o_dup2, o_gf, o_pf, o_pz, o_iald, o_iast, o_zald, o_zast, o_aald, o_gs, o_min, o_acp, o_call, o_callv, zgf, zpf, zia_, zza_, zra_, zrd_, zcp_, zpop, zsm8_0, zsm8_1, zsm8_2, zsm8_3, zsm8_4, zsm8_5, zrc, zisob, t_ieq, t_ilt, t_igt, t_zeq, t_zlt, t_zgt, t_sw, zsw, t_iret, t_zret, t_aret, t_vret, zrg, List.getElem?_cons_zero, List.getElem?_cons_succ, List.set_cons_zero, List.set_cons_succ, List.length_cons, List.length_nil, Option.toList_some, Option.toList_none, List.nil_append, List.cons_append, true_and, and_true, true_or, or_true, Int.cast_ofNat_Int, Int.natCast_zero, Int.natCast_one, hk.ob]
    repeat' (first | with_reducible apply And.intro | intro _)
    all_goals first | omega | rfl | trivial | decide | (exfalso; omega)
set_option maxRecDepth 100000 in
set_option maxHeartbeats 4000000 in
theorem c_X7_startFetch {d : Nat} {μ : zM} {q : Nat} {fs fp fr p r : Int} (h : zFE μ q fs fp fr) (hp : 0 ≤ p ∧ p ≤ 2) (hr : 0 ≤ r ∧ r ≤ 65520) : zCt d mX7_startFetch [.inr (some q), .inl p, .inl r] μ (fun v μ' => v = none ∧ zFE μ' q 1 p r ∧ zfr [q] μ μ') := by
  obtain ⟨hk, e1, e2, e3, r1, r2, r3⟩ := h
  refine of_X7_startFetch (fun G hG => s_X7_startFetch_0 hG ?_)
  simp only [b_X7_startFetch_0, o_c, o_il, o_al, o_is, o_as, o_inc, o_add, o_sub, o_mul, o_and, o_or, o_xor, o_shl, o_shr, o_ush, o_rem, o_dup, o_dup2, o_gf, o_pf, o_pz, o_iald, o_iast, o_zald, o_zast, o_aald, o_gs, o_min, o_acp, o_call, o_callv, zgf, zpf, zia_, zza_, zra_, zrd_, zcp_, zpop, zsm8_0, zsm8_1, zsm8_2, zsm8_3, zsm8_4, zsm8_5, zrc, zisob, t_ieq, t_ilt, t_igt, t_zeq, t_zlt, t_zgt, t_sw, zsw, t_iret, t_zret, t_aret, t_vret, zrg, List.getElem?_cons_zero, List.getElem?_cons_succ, List.set_cons_zero, List.set_cons_succ, List.length_cons, List.length_nil, Option.toList_some, Option.toList_none, List.nil_append, List.cons_append, true_and, and_true, true_or, or_true, Int.cast_ofNat_Int, Int.natCast_zero, Int.natCast_one, hk.ob]
  refine ⟨⟨hk, by simp [zup], by simp [zup], by simp [zup], by omega, hp, hr⟩, fun c hc => ?_⟩
  simp only [List.mem_cons, List.not_mem_nil, or_false] at hc
  rw [zup_ne c hc, zup_ne c hc, zup_ne c hc]
set_option maxRecDepth 100000 in
set_option maxHeartbeats 4000000 in
theorem c_X7_failFetch {d : Nat} {μ : zM} {q : Nat} {fs fp fr : Int} (h : zFE μ q fs fp fr) : zCt d mX7_failFetch [.inr (some q)] μ (fun v μ' => v = none ∧ zFE μ' q 3 fp fr ∧ zfr [q] μ μ') := by
  obtain ⟨hk, e1, e2, e3, r1, r2, r3⟩ := h
  refine of_X7_failFetch (fun G hG => s_X7_failFetch_0 hG ?_)
  simp only [b_X7_failFetch_0, o_c, o_il, o_al, o_is, o_as, o_inc, o_add, o_sub, o_mul, o_and, o_or, o_xor, o_shl, o_shr, o_ush, o_rem, o_dup, o_dup2, o_gf, o_pf, o_pz, o_iald, o_iast, o_zald, o_zast, o_aald, o_gs, o_min, o_acp, o_call, o_callv, zgf, zpf, zia_, zza_, zra_, zrd_, zcp_, zpop, zsm8_0, zsm8_1, zsm8_2, zsm8_3, zsm8_4, zsm8_5, zrc, zisob, t_ieq, t_ilt, t_igt, t_zeq, t_zlt, t_zgt, t_sw, zsw, t_iret, t_zret, t_aret, t_vret, zrg, List.getElem?_cons_zero, List.getElem?_cons_succ, List.set_cons_zero, List.set_cons_succ, List.length_cons, List.length_nil, Option.toList_some, Option.toList_none, List.nil_append, List.cons_append, true_and, and_true, true_or, or_true, Int.cast_ofNat_Int, Int.natCast_zero, Int.natCast_one, hk.ob]
  refine ⟨⟨hk, by simp [zup], by simp [zup, e2], by simp [zup, e3], by omega, r2, r3⟩, fun c hc => ?_⟩
  simp only [List.mem_cons, List.not_mem_nil, or_false] at hc
  rw [zup_ne c hc]
/-- what a fetch's walk sees, from its root on -/
def zsee (L : List zBk) (fr : Int) : List Int := zdfs L 257 [] [fr]
def zwfs (L : List zBk) (fs fr : Int) : Int := if fs = 1 ∧ zmis L (zsee L fr) = [] then 2 else fs
theorem zsee_len (L : List zBk) (fr : Int) : (zsee L fr).length ≤ 257 := by
  have := zdfs_len L 257 [] [fr]
  simpa [zsee] using this
set_option maxRecDepth 100000 in
set_option maxHeartbeats 4000000 in
theorem c_X7_walkFetch {d : Nat} {μ : zM} {q w : Nat} {L L0 : List zBk} {S0 T0 : List Int} {fs fp fr : Int} (hd : 4 ≤ d) (h : zFE μ q fs fp fr) (hW : zWS μ w L0 S0 T0) (hL : zSH μ (q + 1) 64 L) (hV : zVB L) (hN : zNd L) (hkw : q + 7 < w) : zCt d mX7_walkFetch [.inr (some q), .inr (some w)] μ (fun v μ' => v = none ∧ zWS μ' w L (zsee L fr) [] ∧ zFE μ' q (zwfs L fs fr) fp fr ∧ zfr [q, w, w + 1, w + 2, w + 3] μ μ') := by
  obtain ⟨R0, M0, hW0, _, _⟩ := hW
  have hwk := hW0.1
  have hk := h.1
  refine of_X7_walkFetch (by omega) (fun G hG => s_X7_walkFetch_0 hG ?_)
  simp only [b_X7_walkFetch_0, b_X7_walkFetch_24, b_X7_walkFetch_31, b_X7_walkFetch_36, o_c, o_il, o_al, o_is, o_as, o_inc, o_add, o_sub, o_mul, o_and, o_or, o_xor, o_shl, o_shr, o_ush, o_rem, o_dup, o_dup2, o_gf, o_pf, o_pz, o_iald, o_iast, o_zald, o_zast, o_aald, o_gs, o_min, o_acp, o_call, o_callv, zgf, zpf, zia_, zza_, zra_, zrd_, zcp_, zpop, zsm8_0, zsm8_1, zsm8_2, zsm8_3, zsm8_4, zsm8_5, zrc, zisob, t_ieq, t_ilt, t_igt, t_zeq, t_zlt, t_zgt, t_sw, zsw, t_iret, t_zret, t_aret, t_vret, zrg, List.getElem?_cons_zero, List.getElem?_cons_succ, List.set_cons_zero, List.set_cons_succ, List.length_cons, List.length_nil, Option.toList_some, Option.toList_none, List.nil_append, List.cons_append, true_and, and_true, true_or, or_true, Int.cast_ofNat_Int, Int.natCast_zero, Int.natCast_one, hk.ob, hwk.ob]
  refine ⟨_, c_X9_restart hW0, ?_⟩
  rintro v μ1 ⟨rfl, b1, b2⟩
  simp only [b_X7_walkFetch_0, b_X7_walkFetch_24, b_X7_walkFetch_31, b_X7_walkFetch_36, o_c, o_il, o_al, o_is, o_as, o_inc, o_add, o_sub, o_mul, o_and, o_or, o_xor, o_shl, o_shr, o_ush, o_rem, o_dup, o_dup2, o_gf, o_pf, o_pz, o_iald, o_iast, o_zald, o_zast, o_aald, o_gs, o_min, o_acp, o_call, o_callv, zgf, zpf, zia_, zza_, zra_, zrd_, zcp_, zpop, zsm8_0, zsm8_1, zsm8_2, zsm8_3, zsm8_4, zsm8_5, zrc, zisob, t_ieq, t_ilt, t_igt, t_zeq, t_zlt, t_zgt, t_sw, zsw, t_iret, t_zret, t_aret, t_vret, zrg, List.getElem?_cons_zero, List.getElem?_cons_succ, List.set_cons_zero, List.set_cons_succ, List.length_cons, List.length_nil, Option.toList_some, Option.toList_none, List.nil_append, List.cons_append, true_and, and_true, true_or, or_true, Int.cast_ofNat_Int, Int.natCast_zero, Int.natCast_one, hk.ob, hwk.ob, hk.sob]
  have hF1 : zFE μ1 q fs fp fr := h.of (b2 q (by simp; omega))
  have hL1 : zSH μ1 (q + 1) 64 L := hL.fr b2 (by simp; omega)
  have hW1 : zWS μ1 w L [] T0 := ⟨_, [], b1, fun i b hb => by simp, fun _ => rfl⟩
  have e4 : μ1 q 4 = fr := hF1.2.2.2.1
  rw [e4]
  refine ⟨_, c_X9_goUnder (by omega) hW1 hL1 hV hN (by omega) hF1.2.2.2.2.2.2, ?_⟩
  rintro v μ2 ⟨rfl, b3, b4⟩
  simp only [b_X7_walkFetch_0, b_X7_walkFetch_24, b_X7_walkFetch_31, b_X7_walkFetch_36, o_c, o_il, o_al, o_is, o_as, o_inc, o_add, o_sub, o_mul, o_and, o_or, o_xor, o_shl, o_shr, o_ush, o_rem, o_dup, o_dup2, o_gf, o_pf, o_pz, o_iald, o_iast, o_zald, o_zast, o_aald, o_gs, o_min, o_acp, o_call, o_callv, zgf, zpf, zia_, zza_, zra_, zrd_, zcp_, zpop, zsm8_0, zsm8_1, zsm8_2, zsm8_3, zsm8_4, zsm8_5, zrc, zisob, t_ieq, t_ilt, t_igt, t_zeq, t_zlt, t_zgt, t_sw, zsw, t_iret, t_zret, t_aret, t_vret, zrg, List.getElem?_cons_zero, List.getElem?_cons_succ, List.set_cons_zero, List.set_cons_succ, List.length_cons, List.length_nil, Option.toList_some, Option.toList_none, List.nil_append, List.cons_append, true_and, and_true, true_or, or_true, Int.cast_ofNat_Int, Int.natCast_zero, Int.natCast_one, hk.ob, hwk.ob, hk.sob]
  have hF2 : zFE μ2 q fs fp fr := hF1.of (b4 q (by simp; omega))
  have hf2 : zfr [q, w, w + 1, w + 2, w + 3] μ μ2 := (b2.mono (by simp)).trans (b4.mono (by simp))
  obtain ⟨hk2, e1, e2, e3, r1, r2, r3⟩ := hF2
  rw [e1]
  obtain ⟨R, M, hWK, hR, hM⟩ := b3
  have hMe := hM (zsee_len L fr)
  unfold zwfs
  refine ⟨by omega, by omega, fun e => ?_, fun e => ?_⟩
  · refine zcall (c_X9_missingCount hWK) ?_
    simp only [b_X7_walkFetch_0, b_X7_walkFetch_24, b_X7_walkFetch_31, b_X7_walkFetch_36, o_c, o_il, o_al, o_is, o_as, o_inc, o_add, o_sub, o_mul, o_and, o_or, o_xor, o_shl, o_shr, o_ush, o_rem, o_dup, o_dup2, o_gf, o_pf, o_pz, o_iald, o_iast, o_zald, o_zast, o_aald, o_gs, o_min, o_acp, o_call, o_callv, zgf, zpf, zia_, zza_, zra_, zrd_, zcp_, zpop, zsm8_0, zsm8_1, zsm8_2, zsm8_3, zsm8_4, zsm8_5, zrc, zisob, t_ieq, t_ilt, t_igt, t_zeq, t_zlt, t_zgt, t_sw, zsw, t_iret, t_zret, t_aret, t_vret, zrg, List.getElem?_cons_zero, List.getElem?_cons_succ, List.set_cons_zero, List.set_cons_succ, List.length_cons, List.length_nil, Option.toList_some, Option.toList_none, List.nil_append, List.cons_append, true_and, and_true, true_or, or_true, Int.cast_ofNat_Int, Int.natCast_zero, Int.natCast_one, hk.ob, hwk.ob, hk.sob]
    have hml : M.length ≤ 257 := hWK.2.2.1.2.1
    refine ⟨by omega, fun e5 => ?_, fun e5 => ?_⟩
    · have hM0 : M = [] := by cases M with | nil => rfl | cons a b => simp at e5; omega
      have hz : zmis L (zsee L fr) = [] := by
        have := hMe
        rw [hM0] at this
        exact this.symm
      rw [if_pos ⟨e, hz⟩]
      have hfz : zfr [q] μ2 (zup μ2 q 2 2) := fun c hc => zup_ne c (by simpa using hc)
      refine ⟨⟨R, M, hWK.fr hfz (by simp; omega), hR, hM⟩, ⟨hk2, by simp [zup], by simp [zup, e2], by simp [zup, e3], by omega, r2, r3⟩, hf2.trans (hfz.mono (by simp))⟩
    · have hz : ¬ zmis L (zsee L fr) = [] := by
        intro w
        have h9 : M = [] := hMe.trans w
        rw [h9] at e5
        simp at e5
      rw [if_neg (fun w => hz w.2)]
      exact ⟨⟨R, M, hWK, hR, hM⟩, ⟨hk2, e1, e2, e3, r1, r2, r3⟩, hf2⟩
  · rw [if_neg (fun w => e w.1)]
    exact ⟨⟨R, M, hWK, hR, hM⟩, ⟨hk2, e1, e2, e3, r1, r2, r3⟩, hf2⟩
set_option maxRecDepth 100000 in
set_option maxHeartbeats 4000000 in
theorem c_X7_pinBlock {d : Nat} {μ : zM} {q : Nat} {L : List zBk} {P : List zPp} {nm dp : Int} (hd : 2 ≤ d) (hL : zSH μ (q + 1) 64 L) (h : zPN μ q P) (hn : zrg nm) (hdp : dp = 0 ∨ dp = 1) : zCt d mX7_pinBlock [.inr (some q), .inl nm, .inl dp] μ (fun v μ' => v = some (.inl (zb (0 ≤ zix L nm ∧ zpin P (nm, dp)))) ∧ zPN μ' q (if 0 ≤ zix L nm then zpA P (nm, dp) else P) ∧ zfr [q + 5, q + 6, q + 7] μ μ') := by
  have hk := h.1
  have hix := hL.ix nm
  by_cases hc : 0 ≤ zix L nm
  · rw [if_pos hc]
    have hnr : 0 ≤ nm ∧ nm ≤ 65520 := by
      rcases zix_cases L nm with ⟨e, _⟩ | ⟨s, b, e, hb, hbx⟩
      · omega
      · have := (hL.2.2.2.2.1 b (List.mem_of_getElem? hb)).1
        rw [hbx] at this
        exact this
    refine of_X7_pinBlock (by omega) (fun G hG => s_X7_pinBlock_0 hG ?_)
    simp only [b_X7_pinBlock_0, b_X7_pinBlock_11, b_X7_pinBlock_23, b_X7_pinBlock_27, b_X7_pinBlock_28, o_c, o_il, o_al, o_is, o_as, o_inc, o_add, o_sub, o_mul, o_and, o_or, o_xor, o_shl, o_shr, o_ush, o_rem, o_dup, o_dup2, o_gf, o_pf, o_pz, o_iald, o_iast, o_zald, o_zast, o_aald, o_gs, o_min, o_acp, o_call, o_callv, zgf, zpf, zia_, zza_, zra_, zrd_, zcp_, zpop, zsm8_0, zsm8_1, zsm8_2, zsm8_3, zsm8_4, zsm8_5, zrc, zisob, t_ieq, t_ilt, t_igt, t_zeq, t_zlt, t_zgt, t_sw, zsw, t_iret, t_zret, t_aret, t_vret, zrg, List.getElem?_cons_zero, List.getElem?_cons_succ, List.set_cons_zero, List.set_cons_succ, List.length_cons, List.length_nil, Option.toList_some, Option.toList_none, List.nil_append, List.cons_append, true_and, and_true, true_or, or_true, Int.cast_ofNat_Int, Int.natCast_zero, Int.natCast_one, hk.ob, hk.sob, hk.p]
    refine zcall (c_X6_slotOf hL hn) ?_
    simp only [b_X7_pinBlock_0, b_X7_pinBlock_11, b_X7_pinBlock_23, b_X7_pinBlock_27, b_X7_pinBlock_28, o_c, o_il, o_al, o_is, o_as, o_inc, o_add, o_sub, o_mul, o_and, o_or, o_xor, o_shl, o_shr, o_ush, o_rem, o_dup, o_dup2, o_gf, o_pf, o_pz, o_iald, o_iast, o_zald, o_zast, o_aald, o_gs, o_min, o_acp, o_call, o_callv, zgf, zpf, zia_, zza_, zra_, zrd_, zcp_, zpop, zsm8_0, zsm8_1, zsm8_2, zsm8_3, zsm8_4, zsm8_5, zrc, zisob, t_ieq, t_ilt, t_igt, t_zeq, t_zlt, t_zgt, t_sw, zsw, t_iret, t_zret, t_aret, t_vret, zrg, List.getElem?_cons_zero, List.getElem?_cons_succ, List.set_cons_zero, List.set_cons_succ, List.length_cons, List.length_nil, Option.toList_some, Option.toList_none, List.nil_append, List.cons_append, true_and, and_true, true_or, or_true, Int.cast_ofNat_Int, Int.natCast_zero, Int.natCast_one, hk.ob, hk.sob, hk.p]
    unfold zrg at hix
    refine ⟨by omega, fun w => by omega, fun _ => ?_⟩
    refine ⟨_, c_X5_insert (by omega) h hnr hdp, ?_⟩
    rintro v μ1 ⟨rfl, b1, b2⟩
    simp only [b_X7_pinBlock_0, b_X7_pinBlock_11, b_X7_pinBlock_23, b_X7_pinBlock_27, b_X7_pinBlock_28, o_c, o_il, o_al, o_is, o_as, o_inc, o_add, o_sub, o_mul, o_and, o_or, o_xor, o_shl, o_shr, o_ush, o_rem, o_dup, o_dup2, o_gf, o_pf, o_pz, o_iald, o_iast, o_zald, o_zast, o_aald, o_gs, o_min, o_acp, o_call, o_callv, zgf, zpf, zia_, zza_, zra_, zrd_, zcp_, zpop, zsm8_0, zsm8_1, zsm8_2, zsm8_3, zsm8_4, zsm8_5, zrc, zisob, t_ieq, t_ilt, t_igt, t_zeq, t_zlt, t_zgt, t_sw, zsw, t_iret, t_zret, t_aret, t_vret, zrg, List.getElem?_cons_zero, List.getElem?_cons_succ, List.set_cons_zero, List.set_cons_succ, List.length_cons, List.length_nil, Option.toList_some, Option.toList_none, List.nil_append, List.cons_append, true_and, and_true, true_or, or_true, Int.cast_ofNat_Int, Int.natCast_zero, Int.natCast_one, hk.ob, hk.sob, hk.p]
    have e : zb (0 ≤ zix L nm ∧ zpin P (nm, dp)) = zb (zpin P (nm, dp)) := by
      rcases zb_or (zpin P (nm, dp)) with ⟨q1, q2⟩ | ⟨q1, q2⟩
      · rw [q1]; exact zb_t ⟨hc, q2⟩
      · rw [q1]; exact zb_f (fun w => q2 w.2)
    rw [e]
    rcases zb_or (zpin P (nm, dp)) with ⟨q1, q2⟩ | ⟨q1, q2⟩
    · rw [q1]
      exact ⟨by omega, fun w => by omega, fun _ => ⟨rfl, b1, b2⟩⟩
    · rw [q1]
      exact ⟨by omega, fun _ => ⟨rfl, b1, b2⟩, fun w => absurd rfl w⟩
  · rw [if_neg hc, zb_f (P := 0 ≤ zix L nm ∧ zpin P (nm, dp)) (fun w => hc w.1)]
    refine of_X7_pinBlock (by omega) (fun G hG => s_X7_pinBlock_0 hG ?_)
    simp only [b_X7_pinBlock_0, b_X7_pinBlock_11, b_X7_pinBlock_23, b_X7_pinBlock_27, b_X7_pinBlock_28, o_c, o_il, o_al, o_is, o_as, o_inc, o_add, o_sub, o_mul, o_and, o_or, o_xor, o_shl, o_shr, o_ush, o_rem, o_dup, o_dup2, o_gf, o_pf, o_pz, o_iald, o_iast, o_zald, o_zast, o_aald, o_gs, o_min, o_acp, o_call, o_callv, zgf, zpf, zia_, zza_, zra_, zrd_, zcp_, zpop, zsm8_0, zsm8_1, zsm8_2, zsm8_3, zsm8_4, zsm8_5, zrc, zisob, t_ieq, t_ilt, t_igt, t_zeq, t_zlt, t_zgt, t_sw, zsw, t_iret, t_zret, t_aret, t_vret, zrg, List.getElem?_cons_zero, List.getElem?_cons_succ, List.set_cons_zero, List.set_cons_succ, List.length_cons, List.length_nil, Option.toList_some, Option.toList_none, List.nil_append, List.cons_append, true_and, and_true, true_or, or_true, Int.cast_ofNat_Int, Int.natCast_zero, Int.natCast_one, hk.ob, hk.sob, hk.p]
    refine zcall (c_X6_slotOf hL hn) ?_
    simp only [b_X7_pinBlock_0, b_X7_pinBlock_11, b_X7_pinBlock_23, b_X7_pinBlock_27, b_X7_pinBlock_28, o_c, o_il, o_al, o_is, o_as, o_inc, o_add, o_sub, o_mul, o_and, o_or, o_xor, o_shl, o_shr, o_ush, o_rem, o_dup, o_dup2, o_gf, o_pf, o_pz, o_iald, o_iast, o_zald, o_zast, o_aald, o_gs, o_min, o_acp, o_call, o_callv, zgf, zpf, zia_, zza_, zra_, zrd_, zcp_, zpop, zsm8_0, zsm8_1, zsm8_2, zsm8_3, zsm8_4, zsm8_5, zrc, zisob, t_ieq, t_ilt, t_igt, t_zeq, t_zlt, t_zgt, t_sw, zsw, t_iret, t_zret, t_aret, t_vret, zrg, List.getElem?_cons_zero, List.getElem?_cons_succ, List.set_cons_zero, List.set_cons_succ, List.length_cons, List.length_nil, Option.toList_some, Option.toList_none, List.nil_append, List.cons_append, true_and, and_true, true_or, or_true, Int.cast_ofNat_Int, Int.natCast_zero, Int.natCast_one, hk.ob, hk.sob, hk.p]
    unfold zrg at hix
    exact ⟨by omega, fun _ => ⟨h, zfr.refl _ _⟩, fun w => by omega⟩
set_option maxRecDepth 100000 in
set_option maxHeartbeats 4000000 in
theorem c_X7_unpinBlock {d : Nat} {μ : zM} {q : Nat} {P : List zPp} {nm dp : Int} (hd : 2 ≤ d) (h : zPN μ q P) (hn : zrg nm) (hdp : dp = 0 ∨ dp = 1) : zCt d mX7_unpinBlock [.inr (some q), .inl nm, .inl dp] μ (fun v μ' => v = some (.inl (zb (0 ≤ zpl P (nm, dp)))) ∧ zPN μ' q (zpD P (nm, dp)) ∧ zfr [q + 5, q + 6, q + 7] μ μ') := by
  have hk := h.1
  refine of_X7_unpinBlock (by omega) (fun G hG => s_X7_unpinBlock_0 hG ?_)
  simp only [b_X7_unpinBlock_0, o_c, o_il, o_al, o_is, o_as, o_inc, o_add, o_sub, o_mul, o_and, o_or, o_xor, o_shl, o_shr, o_ush, o_rem, o_dup, o_dup2, o_gf, o_pf, o_pz, o_iald, o_iast, o_zald, o_zast, o_aald, o_gs, o_min, o_acp, o_call, o_callv, zgf, zpf, zia_, zza_, zra_, zrd_, zcp_, zpop, zsm8_0, zsm8_1, zsm8_2, zsm8_3, zsm8_4, zsm8_5, zrc, zisob, t_ieq, t_ilt, t_igt, t_zeq, t_zlt, t_zgt, t_sw, zsw, t_iret, t_zret, t_aret, t_vret, zrg, List.getElem?_cons_zero, List.getElem?_cons_succ, List.set_cons_zero, List.set_cons_succ, List.length_cons, List.length_nil, Option.toList_some, Option.toList_none, List.nil_append, List.cons_append, true_and, and_true, true_or, or_true, Int.cast_ofNat_Int, Int.natCast_zero, Int.natCast_one, hk.ob, hk.sob, hk.p]
  refine ⟨_, c_X5_remove (by omega) h hn hdp, ?_⟩
  rintro v μ1 ⟨rfl, b1, b2⟩
  simp only [b_X7_unpinBlock_0, o_c, o_il, o_al, o_is, o_as, o_inc, o_add, o_sub, o_mul, o_and, o_or, o_xor, o_shl, o_shr, o_ush, o_rem, o_dup, o_dup2, o_gf, o_pf, o_pz, o_iald, o_iast, o_zald, o_zast, o_aald, o_gs, o_min, o_acp, o_call, o_callv, zgf, zpf, zia_, zza_, zra_, zrd_, zcp_, zpop, zsm8_0, zsm8_1, zsm8_2, zsm8_3, zsm8_4, zsm8_5, zrc, zisob, t_ieq, t_ilt, t_igt, t_zeq, t_zlt, t_zgt, t_sw, zsw, t_iret, t_zret, t_aret, t_vret, zrg, List.getElem?_cons_zero, List.getElem?_cons_succ, List.set_cons_zero, List.set_cons_succ, List.length_cons, List.length_nil, Option.toList_some, Option.toList_none, List.nil_append, List.cons_append, true_and, and_true, true_or, or_true, Int.cast_ofNat_Int, Int.natCast_zero, Int.natCast_one, hk.ob, hk.sob, hk.p]
  exact ⟨zb_rg _, b1, b2⟩
/-- what is kept of a store -/
def zkpt (L : List zBk) (P : List zPp) (fs fr : Int) : List Int := (if fs = 1 then zdfs L 257 (zdeep L P []) [fr] else zdeep L P []) ++ P.map (·.1)
def zkpL (L : List zBk) (P : List zPp) (fs fr : Int) : List zBk := L.filter (fun b => decide (b.1 ∈ zkpt L P fs fr))
set_option maxRecDepth 100000 in
set_option maxHeartbeats 4000000 in
theorem c_X7_sweep {d : Nat} {μ : zM} {q w : Nat} {L L0 : List zBk} {P : List zPp} {S0 T0 : List Int} {fs fp fr : Int} (hd : 5 ≤ d) (h : zFE μ q fs fp fr) (hP : zPN μ q P) (hW : zWS μ w L0 S0 T0) (hL : zSH μ (q + 1) 64 L) (hV : zVB L) (hN : zNd L) (hkw : q + 7 < w) : zCt d mX7_sweep [.inr (some q), .inr (some w)] μ (fun v μ' => v = some (.inl ((L.length : Int) - (zkpL L P fs fr).length)) ∧ zSH μ' (q + 1) 64 (zkpL L P fs fr) ∧ (∃ R M V, zWK μ' w R M V) ∧ zfr [q + 1, q + 2, q + 3, q + 4, w, w + 1, w + 2, w + 3] μ μ') := by
  obtain ⟨R0, M0, hW0, _, _⟩ := hW
  have hwk := hW0.1
  have hk := h.1
  have hl64 : L.length ≤ 64 := by have := hL.2.2.2.1; omega
  refine of_X7_sweep (by omega) (fun G hG => s_X7_sweep_0 hG ?_)
  simp only [b_X7_sweep_0, b_X7_sweep_23, b_X7_sweep_35, b_X7_sweep_59, b_X7_sweep_63, b_X7_sweep_71, b_X7_sweep_82, b_X7_sweep_88, o_c, o_il, o_al, o_is, o_as, o_inc, o_add, o_sub, o_mul, o_and, o_or, o_xor, o_shl, o_shr, o_ush, o_rem, o_dup, o_dup2, o_gf, o_pf, o_pz, o_iald, o_iast, o_zald, o_zast, o_aald, o_gs, o_min, o_acp, o_call, o_callv, zgf, zpf, zia_, zza_, zra_, zrd_, zcp_, zpop, zsm8_0, zsm8_1, zsm8_2, zsm8_3, zsm8_4, zsm8_5, zrc, zisob, t_ieq, t_ilt, t_igt, t_zeq, t_zlt, t_zgt, t_sw, zsw, t_iret, t_zret, t_aret, t_vret, zrg, List.getElem?_cons_zero, List.getElem?_cons_succ, List.set_cons_zero, List.set_cons_succ, List.length_cons, List.length_nil, Option.toList_some, Option.toList_none, List.nil_append, List.cons_append, true_and, and_true, true_or, or_true, Int.cast_ofNat_Int, Int.natCast_zero, Int.natCast_one, hk.ob, hwk.ob]
  refine ⟨_, c_X9_restart hW0, ?_⟩
  rintro v μ1 ⟨rfl, b1, b2⟩
  simp only [b_X7_sweep_0, b_X7_sweep_23, b_X7_sweep_35, b_X7_sweep_59, b_X7_sweep_63, b_X7_sweep_71, b_X7_sweep_82, b_X7_sweep_88, o_c, o_il, o_al, o_is, o_as, o_inc, o_add, o_sub, o_mul, o_and, o_or, o_xor, o_shl, o_shr, o_ush, o_rem, o_dup, o_dup2, o_gf, o_pf, o_pz, o_iald, o_iast, o_zald, o_zast, o_aald, o_gs, o_min, o_acp, o_call, o_callv, zgf, zpf, zia_, zza_, zra_, zrd_, zcp_, zpop, zsm8_0, zsm8_1, zsm8_2, zsm8_3, zsm8_4, zsm8_5, zrc, zisob, t_ieq, t_ilt, t_igt, t_zeq, t_zlt, t_zgt, t_sw, zsw, t_iret, t_zret, t_aret, t_vret, zrg, List.getElem?_cons_zero, List.getElem?_cons_succ, List.set_cons_zero, List.set_cons_succ, List.length_cons, List.length_nil, Option.toList_some, Option.toList_none, List.nil_append, List.cons_append, true_and, and_true, true_or, or_true, Int.cast_ofNat_Int, Int.natCast_zero, Int.natCast_one, hk.ob, hwk.ob, hk.sob, hk.p]
  have hF1 : zFE μ1 q fs fp fr := h.of (b2 q (by simp; omega))
  have hL1 : zSH μ1 (q + 1) 64 L := hL.fr b2 (by simp; omega)
  have hP1 : zPN μ1 q P := hP.fr b2 (by simp; omega)
  have hW1 : zWS μ1 w L [] T0 := ⟨_, [], b1, fun i b hb => by simp, fun _ => rfl⟩
  refine ⟨_, c_X5_reachUnderDeep (by omega) hP1 hW1 hL1 hV hN hkw, ?_⟩
  rintro v μ2 ⟨rfl, ⟨T2, b3⟩, b4⟩
  simp only [b_X7_sweep_0, b_X7_sweep_23, b_X7_sweep_35, b_X7_sweep_59, b_X7_sweep_63, b_X7_sweep_71, b_X7_sweep_82, b_X7_sweep_88, o_c, o_il, o_al, o_is, o_as, o_inc, o_add, o_sub, o_mul, o_and, o_or, o_xor, o_shl, o_shr, o_ush, o_rem, o_dup, o_dup2, o_gf, o_pf, o_pz, o_iald, o_iast, o_zald, o_zast, o_aald, o_gs, o_min, o_acp, o_call, o_callv, zgf, zpf, zia_, zza_, zra_, zrd_, zcp_, zpop, zsm8_0, zsm8_1, zsm8_2, zsm8_3, zsm8_4, zsm8_5, zrc, zisob, t_ieq, t_ilt, t_igt, t_zeq, t_zlt, t_zgt, t_sw, zsw, t_iret, t_zret, t_aret, t_vret, zrg, List.getElem?_cons_zero, List.getElem?_cons_succ, List.set_cons_zero, List.set_cons_succ, List.length_cons, List.length_nil, Option.toList_some, Option.toList_none, List.nil_append, List.cons_append, true_and, and_true, true_or, or_true, Int.cast_ofNat_Int, Int.natCast_zero, Int.natCast_one, hk.ob, hwk.ob, hk.sob, hk.p]
  have hF2 : zFE μ2 q fs fp fr := hF1.of (b4 q (by simp; omega))
  have hf2 : zfr [w, w + 1, w + 2, w + 3] μ μ2 := (b2.mono (by simp)).trans b4
  refine zcall (c_X7_isFetching hF2) ?_
  simp only [b_X7_sweep_0, b_X7_sweep_23, b_X7_sweep_35, b_X7_sweep_59, b_X7_sweep_63, b_X7_sweep_71, b_X7_sweep_82, b_X7_sweep_88, o_c, o_il, o_al, o_is, o_as, o_inc, o_add, o_sub, o_mul, o_and, o_or, o_xor, o_shl, o_shr, o_ush, o_rem, o_dup, o_dup2, o_gf, o_pf, o_pz, o_iald, o_iast, o_zald, o_zast, o_aald, o_gs, o_min, o_acp, o_call, o_callv, zgf, zpf, zia_, zza_, zra_, zrd_, zcp_, zpop, zsm8_0, zsm8_1, zsm8_2, zsm8_3, zsm8_4, zsm8_5, zrc, zisob, t_ieq, t_ilt, t_igt, t_zeq, t_zlt, t_zgt, t_sw, zsw, t_iret, t_zret, t_aret, t_vret, zrg, List.getElem?_cons_zero, List.getElem?_cons_succ, List.set_cons_zero, List.set_cons_succ, List.length_cons, List.length_nil, Option.toList_some, Option.toList_none, List.nil_append, List.cons_append, true_and, and_true, true_or, or_true, Int.cast_ofNat_Int, Int.natCast_zero, Int.natCast_one, hk.ob, hwk.ob, hk.sob, hk.p]
  -- behind the walks
  have rest : ∀ (μ3 : zM) (S3 : List Int) (T3 : List Int), zWS μ3 w L S3 T3 → zfr [w, w + 1, w + 2, w + 3] μ μ3 → S3 ++ P.map (·.1) = zkpt L P fs fr → ∃ Q, zCt (d - 1) mX5_reachPinned [.inr (some (q + 5)), .inr (some (q + 1)), .inr (some w)] μ3 Q ∧ ∀ (v : Option zV) (μ' : zM), Q v μ' → o_c 0 (o_is 2 (o_al 0 (o_gf 5 0 (o_callv (zCt (d - 1) mX6_count) 4 1 (o_c 1 (o_sub (o_is 3 (G 59)))))))) [.inr (some q), .inr (some w), .inr none, .inr none] (v.toList ++ []) μ' := by
    intro μ3 S3 T3 c1 c2 c3
    have hL3 : zSH μ3 (q + 1) 64 L := hL.fr c2 (by simp; omega)
    have hP3 : zPN μ3 q P := hP.fr c2 (by simp; omega)
    obtain ⟨R3, M3, d1, d2, d3⟩ := c1
    refine ⟨_, c_X5_reachPinned (by omega) hP3 ⟨R3, M3, _, d1, d2⟩ hL3 hN hkw, ?_⟩
    rintro v μ4 ⟨rfl, b5, b6⟩
    rw [c3] at b5
    simp only [b_X7_sweep_0, b_X7_sweep_23, b_X7_sweep_35, b_X7_sweep_59, b_X7_sweep_63, b_X7_sweep_71, b_X7_sweep_82, b_X7_sweep_88, o_c, o_il, o_al, o_is, o_as, o_inc, o_add, o_sub, o_mul, o_and, o_or, o_xor, o_shl, o_shr, o_ush, o_rem, o_dup, o_dup2, o_gf, o_pf, o_pz, o_iald, o_iast, o_zald, o_zast, o_aald, o_gs, o_min, o_acp, o_call, o_callv, zgf, zpf, zia_, zza_, zra_, zrd_, zcp_, zpop, zsm8_0, zsm8_1, zsm8_2, zsm8_3, zsm8_4, zsm8_5, zrc, zisob, t_ieq, t_ilt, t_igt, t_zeq, t_zlt, t_zgt, t_sw, zsw, t_iret, t_zret, t_aret, t_vret, zrg, List.getElem?_cons_zero, List.getElem?_cons_succ, List.set_cons_zero, List.set_cons_succ, List.length_cons, List.length_nil, Option.toList_some, Option.toList_none, List.nil_append, List.cons_append, true_and, and_true, true_or, or_true, Int.cast_ofNat_Int, Int.natCast_zero, Int.natCast_one, hk.ob, hwk.ob, hk.sob, hk.p]
    have hL4 : zSH μ4 (q + 1) 64 L := hL3.fr b6 (by simp; omega)
    refine zcall (c_X6_count hL4) ?_
    simp only [b_X7_sweep_0, b_X7_sweep_23, b_X7_sweep_35, b_X7_sweep_59, b_X7_sweep_63, b_X7_sweep_71, b_X7_sweep_82, b_X7_sweep_88, o_c, o_il, o_al, o_is, o_as, o_inc, o_add, o_sub, o_mul, o_and, o_or, o_xor, o_shl, o_shr, o_ush, o_rem, o_dup, o_dup2, o_gf, o_pf, o_pz, o_iald, o_iast, o_zald, o_zast, o_aald, o_gs, o_min, o_acp, o_call, o_callv, zgf, zpf, zia_, zza_, zra_, zrd_, zcp_, zpop, zsm8_0, zsm8_1, zsm8_2, zsm8_3, zsm8_4, zsm8_5, zrc, zisob, t_ieq, t_ilt, t_igt, t_zeq, t_zlt, t_zgt, t_sw, zsw, t_iret, t_zret, t_aret, t_vret, zrg, List.getElem?_cons_zero, List.getElem?_cons_succ, List.set_cons_zero, List.set_cons_succ, List.length_cons, List.length_nil, Option.toList_some, Option.toList_none, List.nil_append, List.cons_append, true_and, and_true, true_or, or_true, Int.cast_ofNat_Int, Int.natCast_zero, Int.natCast_one, hk.ob, hwk.ob, hk.sob, hk.p]
    have hf4 : zfr [w, w + 1, w + 2, w + 3] μ μ4 := c2.trans (b6.mono (by simp))
    obtain ⟨R, M, V, f1, f2⟩ := b5
    have loop : ∀ (i : Nat) (μ5 : zM), i ≤ L.length → zSH μ5 (q + 1) 64 (L.take i ++ (L.drop i).filter (fun b => decide (b.1 ∈ zkpt L P fs fr))) → zWK μ5 w R M V → zfr [q + 1, q + 2, q + 3, q + 4, w, w + 1, w + 2, w + 3] μ μ5 → G 59 [.inr (some q), .inr (some w), .inl ((((L.drop i).length : Nat) : Int) - (((L.drop i).filter (fun b => decide (b.1 ∈ zkpt L P fs fr))).length : Nat)), .inl ((i : Int) - 1)] [] μ5 := by
      intro i
      induction i with
      | zero =>
        intro μ5 g1 g2 g3 g4
        refine s_X7_sweep_59 hG ?_
        simp only [b_X7_sweep_0, b_X7_sweep_23, b_X7_sweep_35, b_X7_sweep_59, b_X7_sweep_63, b_X7_sweep_71, b_X7_sweep_82, b_X7_sweep_88, o_c, o_il, o_al, o_is, o_as, o_inc, o_add, o_sub, o_mul, o_and, o_or, o_xor, o_shl, o_shr, o_ush, o_rem, o_dup, o_dup2, o_gf, o_pf, o_pz, o_iald, o_iast, o_zald, o_zast, o_aald, o_gs, o_min, o_acp, o_call, o_callv, zgf, zpf, zia_, zza_, zra_, zrd_, zcp_, zpop, zsm8_0, zsm8_1, zsm8_2, zsm8_3, zsm8_4, zsm8_5, zrc, zisob, t_ieq, t_ilt, t_igt, t_zeq, t_zlt, t_zgt, t_sw, zsw, t_iret, t_zret, t_aret, t_vret, zrg, List.getElem?_cons_zero, List.getElem?_cons_succ, List.set_cons_zero, List.set_cons_succ, List.length_cons, List.length_nil, Option.toList_some, Option.toList_none, List.nil_append, List.cons_append, true_and, and_true, true_or, or_true, Int.cast_ofNat_Int, Int.natCast_zero, Int.natCast_one, hk.ob, hwk.ob, hk.sob, hk.p]
        refine ⟨by omega, fun _ => ⟨rfl, g2, ⟨R, M, V, g3⟩, g4⟩, fun w => by omega⟩
      | succ i ih =>
        intro μ5 g1 g2 g3 g4
        have hi : i < L.length := by omega
        refine s_X7_sweep_59 hG ?_
        have e9 : (((i + 1 : Nat) : Int) - 1) = (i : Int) := by omega
        rw [e9]
        simp only [b_X7_sweep_0, b_X7_sweep_23, b_X7_sweep_35, b_X7_sweep_59, b_X7_sweep_63, b_X7_sweep_71, b_X7_sweep_82, b_X7_sweep_88, o_c, o_il, o_al, o_is, o_as, o_inc, o_add, o_sub, o_mul, o_and, o_or, o_xor, o_shl, o_shr, o_ush, o_rem, o_dup, o_dup2, o_gf, o_pf, o_pz, o_iald, o_iast, o_zald, o_zast, o_aald, o_gs, o_min, o_acp, o_call, o_callv, zgf, zpf, zia_, zza_, zra_, zrd_, zcp_, zpop, zsm8_0, zsm8_1, zsm8_2, zsm8_3, zsm8_4, zsm8_5, zrc, zisob, t_ieq, t_ilt, t_igt, t_zeq, t_zlt, t_zgt, t_sw, zsw, t_iret, t_zret, t_aret, t_vret, zrg, List.getElem?_cons_zero, List.getElem?_cons_succ, List.set_cons_zero, List.set_cons_succ, List.length_cons, List.length_nil, Option.toList_some, Option.toList_none, List.nil_append, List.cons_append, true_and, and_true, true_or, or_true, Int.cast_ofNat_Int, Int.natCast_zero, Int.natCast_one, hk.ob, hwk.ob, hk.sob, hk.p]
        refine ⟨by omega, fun w => by omega, fun _ => ?_⟩
        refine zcall (c_X9_hasReached g3 (s := i) (by omega)) ?_
        simp only [b_X7_sweep_0, b_X7_sweep_23, b_X7_sweep_35, b_X7_sweep_59, b_X7_sweep_63, b_X7_sweep_71, b_X7_sweep_82, b_X7_sweep_88, o_c, o_il, o_al, o_is, o_as, o_inc, o_add, o_sub, o_mul, o_and, o_or, o_xor, o_shl, o_shr, o_ush, o_rem, o_dup, o_dup2, o_gf, o_pf, o_pz, o_iald, o_iast, o_zald, o_zast, o_aald, o_gs, o_min, o_acp, o_call, o_callv, zgf, zpf, zia_, zza_, zra_, zrd_, zcp_, zpop, zsm8_0, zsm8_1, zsm8_2, zsm8_3, zsm8_4, zsm8_5, zrc, zisob, t_ieq, t_ilt, t_igt, t_zeq, t_zlt, t_zgt, t_sw, zsw, t_iret, t_zret, t_aret, t_vret, zrg, List.getElem?_cons_zero, List.getElem?_cons_succ, List.set_cons_zero, List.set_cons_succ, List.length_cons, List.length_nil, Option.toList_some, Option.toList_none, List.nil_append, List.cons_append, true_and, and_true, true_or, or_true, Int.cast_ofNat_Int, Int.natCast_zero, Int.natCast_one, hk.ob, hwk.ob, hk.sob, hk.p]
        have hfi := f2 i L[i] (List.getElem?_eq_getElem hi)
        have htake : L.take (i + 1) = L.take i ++ [L[i]] := by rw [List.take_succ]; simp [hi]
        have hdrop : L.drop i = L[i] :: L.drop (i + 1) := List.drop_eq_getElem_cons hi
        by_cases hc : L[i].1 ∈ zkpt L P fs fr
        · rw [if_pos (hfi.mpr hc)]
          refine ⟨by omega, fun w => by omega, fun _ => ?_⟩
          have := ih μ5 (by omega) (by rw [hdrop, List.filter_cons, if_pos (by simpa using hc)]; rw [htake, List.append_assoc] at g2; exact g2) g3 g4
          rw [hdrop, List.filter_cons, if_pos (by simpa using hc)] at this
          simp only [List.length_cons] at this
          have e8 : ∀ a b : Nat, (((a + 1 : Nat) : Int) - ((b + 1 : Nat) : Int)) = (a : Int) - b := fun a b => by omega
          rw [e8] at this
          exact this
        · rw [if_neg (fun w => hc (hfi.mp w))]
          refine ⟨by omega, fun _ => ?_, fun w => absurd rfl w⟩
          refine ⟨_, c_X6_removeSlot (s := i) (by omega) g2 (by simp; omega), ?_⟩
          rintro v μ6 ⟨rfl, b7, b8⟩
          simp only [b_X7_sweep_0, b_X7_sweep_23, b_X7_sweep_35, b_X7_sweep_59, b_X7_sweep_63, b_X7_sweep_71, b_X7_sweep_82, b_X7_sweep_88, o_c, o_il, o_al, o_is, o_as, o_inc, o_add, o_sub, o_mul, o_and, o_or, o_xor, o_shl, o_shr, o_ush, o_rem, o_dup, o_dup2, o_gf, o_pf, o_pz, o_iald, o_iast, o_zald, o_zast, o_aald, o_gs, o_min, o_acp, o_call, o_callv, zgf, zpf, zia_, zza_, zra_, zrd_, zcp_, zpop, zsm8_0, zsm8_1, zsm8_2, zsm8_3, zsm8_4, zsm8_5, zrc, zisob, t_ieq, t_ilt, t_igt, t_zeq, t_zlt, t_zgt, t_sw, zsw, t_iret, t_zret, t_aret, t_vret, zrg, List.getElem?_cons_zero, List.getElem?_cons_succ, List.set_cons_zero, List.set_cons_succ, List.length_cons, List.length_nil, Option.toList_some, Option.toList_none, List.nil_append, List.cons_append, true_and, and_true, true_or, or_true, Int.cast_ofNat_Int, Int.natCast_zero, Int.natCast_one, hk.ob, hwk.ob, hk.sob, hk.p]
          have her : (L.take (i + 1) ++ (L.drop (i + 1)).filter (fun b => decide (b.1 ∈ zkpt L P fs fr))).eraseIdx i = L.take i ++ (L.drop i).filter (fun b => decide (b.1 ∈ zkpt L P fs fr)) := by
            rw [htake, hdrop, List.filter_cons, if_neg (by simpa using hc), List.append_assoc, List.eraseIdx_append_of_length_le (by simp; omega), List.length_take, Nat.min_eq_left (by omega), Nat.sub_self]
            rfl
          rw [her] at b7
          have := ih μ6 (by omega) b7 (g3.fr b8 (by simp; omega)) (g4.trans (b8.mono (by simp)))
          rw [hdrop, List.filter_cons, if_neg (by simpa using hc)] at this
          simp only [List.length_cons] at this
          have e8 : ∀ a b : Nat, (((a + 1 : Nat) : Int) - (b : Int)) = (a : Int) - b + 1 := fun a b => by omega
          rw [e8] at this
          exact this
    have := loop L.length μ4 (Nat.le_refl _) (by simpa using hL4) f1 (hf4.mono (by simp))
    simp only [List.drop_length, List.length_nil, List.filter_nil] at this
    exact this
  by_cases hc : fs = 1
  · rw [if_pos hc]
    refine ⟨by omega, fun w => by omega, fun _ => ?_⟩
    have e4 : μ2 q 4 = fr := hF2.2.2.2.1
    rw [e4]
    have hL2 : zSH μ2 (q + 1) 64 L := hL1.fr b4 (by simp; omega)
    refine ⟨_, c_X9_goUnder (by omega) b3 hL2 hV hN (by omega) hF2.2.2.2.2.2.2, ?_⟩
    rintro v μ3 ⟨rfl, b5, b6⟩
    simp only [b_X7_sweep_0, b_X7_sweep_23, b_X7_sweep_35, b_X7_sweep_59, b_X7_sweep_63, b_X7_sweep_71, b_X7_sweep_82, b_X7_sweep_88, o_c, o_il, o_al, o_is, o_as, o_inc, o_add, o_sub, o_mul, o_and, o_or, o_xor, o_shl, o_shr, o_ush, o_rem, o_dup, o_dup2, o_gf, o_pf, o_pz, o_iald, o_iast, o_zald, o_zast, o_aald, o_gs, o_min, o_acp, o_call, o_callv, zgf, zpf, zia_, zza_, zra_, zrd_, zcp_, zpop, zsm8_0, zsm8_1, zsm8_2, zsm8_3, zsm8_4, zsm8_5, zrc, zisob, t_ieq, t_ilt, t_igt, t_zeq, t_zlt, t_zgt, t_sw, zsw, t_iret, t_zret, t_aret, t_vret, zrg, List.getElem?_cons_zero, List.getElem?_cons_succ, List.set_cons_zero, List.set_cons_succ, List.length_cons, List.length_nil, Option.toList_some, Option.toList_none, List.nil_append, List.cons_append, true_and, and_true, true_or, or_true, Int.cast_ofNat_Int, Int.natCast_zero, Int.natCast_one, hk.ob, hwk.ob, hk.sob, hk.p]
    have := rest μ3 _ _ b5 (hf2.trans b6) (by unfold zkpt; rw [if_pos hc])
    simp only [b_X7_sweep_0, b_X7_sweep_23, b_X7_sweep_35, b_X7_sweep_59, b_X7_sweep_63, b_X7_sweep_71, b_X7_sweep_82, b_X7_sweep_88, o_c, o_il, o_al, o_is, o_as, o_inc, o_add, o_sub, o_mul, o_and, o_or, o_xor, o_shl, o_shr, o_ush, o_rem, o_dup, o_dup2, o_gf, o_pf, o_pz, o_iald, o_iast, o_zald, o_zast, o_aald, o_gs, o_min, o_acp, o_call, o_callv, zgf, zpf, zia_, zza_, zra_, zrd_, zcp_, zpop, zsm8_0, zsm8_1, zsm8_2, zsm8_3, zsm8_4, zsm8_5, zrc, zisob, t_ieq, t_ilt, t_igt, t_zeq, t_zlt, t_zgt, t_sw, zsw, t_iret, t_zret, t_aret, t_vret, zrg, List.getElem?_cons_zero, List.getElem?_cons_succ, List.set_cons_zero, List.set_cons_succ, List.length_cons, List.length_nil, Option.toList_some, Option.toList_none, List.nil_append, List.cons_append, true_and, and_true, true_or, or_true, Int.cast_ofNat_Int, Int.natCast_zero, Int.natCast_one, hk.ob, hwk.ob, hk.sob, hk.p] at this
    exact this
  · rw [if_neg hc]
    refine ⟨by omega, fun _ => ?_, fun w => absurd rfl w⟩
    have := rest μ2 _ _ b3 hf2 (by unfold zkpt; rw [if_neg hc])
    simp only [b_X7_sweep_0, b_X7_sweep_23, b_X7_sweep_35, b_X7_sweep_59, b_X7_sweep_63, b_X7_sweep_71, b_X7_sweep_82, b_X7_sweep_88, o_c, o_il, o_al, o_is, o_as, o_inc, o_add, o_sub, o_mul, o_and, o_or, o_xor, o_shl, o_shr, o_ush, o_rem, o_dup, o_dup2, o_gf, o_pf, o_pz, o_iald, o_iast, o_zald, o_zast, o_aald, o_gs, o_min, o_acp, o_call, o_callv, zgf, zpf, zia_, zza_, zra_, zrd_, zcp_, zpop, zsm8_0, zsm8_1, zsm8_2, zsm8_3, zsm8_4, zsm8_5, zrc, zisob, t_ieq, t_ilt, t_igt, t_zeq, t_zlt, t_zgt, t_sw, zsw, t_iret, t_zret, t_aret, t_vret, zrg, List.getElem?_cons_zero, List.getElem?_cons_succ, List.set_cons_zero, List.set_cons_succ, List.length_cons, List.length_nil, Option.toList_some, Option.toList_none, List.nil_append, List.cons_append, true_and, and_true, true_or, or_true, Int.cast_ofNat_Int, Int.natCast_zero, Int.natCast_one, hk.ob, hwk.ob, hk.sob, hk.p] at this
    exact this
