/-! WALKS: the small methods -/
/-- the row at cell c begins with the numbers l -/
def zAR (μ : zM) (c : Nat) (l : List Int) : Prop := ∀ (j : Nat) (x : Int), l[j]? = some x → μ c j = x
theorem zAR.push {μ μ' : zM} {c : Nat} {l : List Int} {x : Int} (h : zAR μ c l) (h1 : ∀ i : Int, i ≠ l.length → μ' c i = μ c i) (h2 : μ' c l.length = x) : zAR μ' c (l ++ [x]) := by
  intro j y hj
  by_cases hjl : j < l.length
  · rw [List.getElem?_append_left hjl] at hj
    rw [h1 _ (by omega)]
    exact h j y hj
  · rw [List.getElem?_append_right (by omega)] at hj
    have hz : j - l.length = 0 := by
      have := (List.getElem?_eq_some_iff.mp hj).1
      simp at this
      omega
    rw [hz] at hj
    cases hj
    have : j = l.length := by omega
    rw [this]
    exact h2
theorem zAR.of {μ μ' : zM} {c : Nat} {l : List Int} (h : zAR μ c l) (e : μ' c = μ c) : zAR μ' c l := fun j x hj => by rw [e]; exact h j x hj
theorem zAR.pre {μ : zM} {c : Nat} {l r : List Int} (h : zAR μ c (l ++ r)) : zAR μ c l := fun j x hj => h j x (by rw [List.getElem?_append_left (List.getElem?_eq_some_iff.mp hj).1]; exact hj)
def zwK (w : Nat) : Prop := w = 48 ∨ w = 52
theorem zwK.ob {w : Nat} (h : zwK w) : zsh w = zob 7 [some (w + 1), some (w + 2), none, some (w + 3), none] := by rcases h with rfl | rfl <;> rfl
theorem zwK.c1 {w : Nat} (h : zwK w) : zsh (w + 1) = zza 64 := by rcases h with rfl | rfl <;> rfl
theorem zwK.c2 {w : Nat} (h : zwK w) : zsh (w + 2) = zia 257 := by rcases h with rfl | rfl <;> rfl
theorem zwK.c3 {w : Nat} (h : zwK w) : zsh (w + 3) = zia 257 := by rcases h with rfl | rfl <;> rfl
def zNm (l : List Int) : Prop := ∀ x ∈ l, 0 ≤ x ∧ x ≤ 65520
theorem zNm.push {l : List Int} {x : Int} (h : zNm l) (hx : 0 ≤ x ∧ x ≤ 65520) : zNm (l ++ [x]) := fun y hy => by
  rcases List.mem_append.mp hy with w | w
  · exact h y w
  · rw [List.mem_singleton.mp w]; exact hx
/-- a walk: reached slots, missing names, names to visit (the next one last) -/
def zWK (μ : zM) (w : Nat) (R : Nat → Bool) (M V : List Int) : Prop := zwK w ∧ (∀ i : Nat, i < 64 → μ (w + 1) i = if R i then 1 else 0) ∧ (μ w 2 = M.length ∧ M.length ≤ 257 ∧ zAR μ (w + 2) M ∧ zNm M) ∧ (μ w 4 = V.length ∧ V.length ≤ 257 ∧ zAR μ (w + 3) V ∧ zNm V)
theorem zWK.fr {μ μ' : zM} {w : Nat} {R : Nat → Bool} {M V : List Int} {S : List Nat} (h : zWK μ w R M V) (f : zfr S μ μ') (hS : ∀ c ∈ S, c < w ∨ w + 3 < c) : zWK μ' w R M V := by
  have key : ∀ c, w ≤ c → c ≤ w + 3 → μ' c = μ c := fun c h1 h2 => f c (fun w => by have := hS c w; omega)
  unfold zWK zAR at h ⊢
  rw [key w (by omega) (by omega), key (w + 1) (by omega) (by omega), key (w + 2) (by omega) (by omega), key (w + 3) (by omega) (by omega)]
  exact h
set_option maxRecDepth 100000 in
set_option maxHeartbeats 4000000 in
theorem c_X9_missingCount {d : Nat} {μ : zM} {w : Nat} {R : Nat → Bool} {M V : List Int} (h : zWK μ w R M V) : zCt d mX9_missingCount [.inr (some w)] μ (zR (.inl M.length) μ) := by
  refine of_X9_missingCount (fun G hG => s_X9_missingCount_0 hG ?_)
  simp only [b_X9_missingCount_0, o_c, o_il, o_al, o_is, o_as, o_inc, o_add, o_sub, o_mul, o_and, o_or, o_xor, o_shl, o_shr, o_ush, o_rem, o_dup, o_dup2, o_gf, o_pf, o_pz, o_iald, o_iast, o_zald, o_zast, o_aald, o_gs, o_min, o_acp, o_call, o_callv, zgf, zpf, zia_, zza_, zra_, zrd_, zcp_, zpop, zsm8_0, zsm8_1, zsm8_2, zsm8_3, zsm8_4, zsm8_5, zrc, zisob, t_ieq, t_ilt, t_igt, t_zeq, t_zlt, t_zgt, t_sw, zsw, t_iret, t_zret, t_aret, t_vret, zrg, List.getElem?_cons_zero, List.getElem?_cons_succ, List.set_cons_zero, List.set_cons_succ, List.length_cons, List.length_nil, Option.toList_some, Option.toList_none, List.nil_append, List.cons_append, true_and, and_true, true_or, or_true, Int.cast_ofNat_Int, Int.natCast_zero, Int.natCast_one, h.1.ob]
  exact ⟨by rw [h.2.2.1.1], rfl⟩
set_option maxRecDepth 100000 in
set_option maxHeartbeats 4000000 in
theorem c_X9_missingAt {d : Nat} {μ : zM} {w i : Nat} {R : Nat → Bool} {M V : List Int} {x : Int} (h : zWK μ w R M V) (hx : M[i]? = some x) : zCt d mX9_missingAt [.inr (some w), .inl (i : Int)] μ (zR (.inl x) μ) := by
  have hl := (List.getElem?_eq_some_iff.mp hx).1
  obtain ⟨hk, hr, ⟨m1, m2, m3, m4⟩, hv⟩ := h
  have := m3 i x hx
  refine of_X9_missingAt (fun G hG => s_X9_missingAt_0 hG ?_)
  simp only [b_X9_missingAt_0, b_X9_missingAt_4, b_X9_missingAt_12, b_X9_missingAt_21, b_X9_missingAt_22, o_c, o_il, o_al, o_is, o_as, o_inc, o_add, o_sub, o_mul, o_and, o_or, o_xor, o_shl, o_shr, o_ush, o_rem, o_dup, o_dup2, o_gf, o_pf, o_pz, o_iald, o_iast, o_zald, o_zast, o_aald, o_gs, o_min, o_acp, o_call, o_callv, zgf, zpf, zia_, zza_, zra_, zrd_, zcp_, zpop, zsm8_0, zsm8_1, zsm8_2, zsm8_3, zsm8_4, zsm8_5, zrc, zisob, t_ieq, t_ilt, t_igt, t_zeq, t_zlt, t_zgt, t_sw, zsw, t_iret, t_zret, t_aret, t_vret, zrg, List.getElem?_cons_zero, List.getElem?_cons_succ, List.set_cons_zero, List.set_cons_succ, List.length_cons, List.length_nil, Option.toList_some, Option.toList_none, List.nil_append, List.cons_append, true_and, and_true, true_or, or_true, Int.cast_ofNat_Int, Int.natCast_zero, Int.natCast_one, hk.ob, hk.c2]
  repeat' (first | with_reducible apply And.intro | intro _)
  all_goals first | omega | rfl | (exfalso; omega) | (rw [this])
set_option maxRecDepth 100000 in
set_option maxHeartbeats 4000000 in
theorem c_X9_misses {d : Nat} {μ : zM} {w : Nat} {R : Nat → Bool} {M V : List Int} {x : Int} (h : zWK μ w R M V) (hx : zrg x) : zCt d mX9_misses [.inr (some w), .inl x] μ (zR (.inl (zb (x ∈ M))) μ) := by
  obtain ⟨hk, hr, ⟨m1, m2, m3, m4⟩, hv⟩ := h
  unfold zrg at hx
  refine of_X9_misses (fun G hG => s_X9_misses_0 hG ?_)
  simp only [b_X9_misses_0, b_X9_misses_2, b_X9_misses_10, b_X9_misses_20, b_X9_misses_22, b_X9_misses_28, o_c, o_il, o_al, o_is, o_as, o_inc, o_add, o_sub, o_mul, o_and, o_or, o_xor, o_shl, o_shr, o_ush, o_rem, o_dup, o_dup2, o_gf, o_pf, o_pz, o_iald, o_iast, o_zald, o_zast, o_aald, o_gs, o_min, o_acp, o_call, o_callv, zgf, zpf, zia_, zza_, zra_, zrd_, zcp_, zpop, zsm8_0, zsm8_1, zsm8_2, zsm8_3, zsm8_4, zsm8_5, zrc, zisob, t_ieq, t_ilt, t_igt, t_zeq, t_zlt, t_zgt, t_sw, zsw, t_iret, t_zret, t_aret, t_vret, zrg, List.getElem?_cons_zero, List.getElem?_cons_succ, List.set_cons_zero, List.set_cons_succ, List.length_cons, List.length_nil, Option.toList_some, Option.toList_none, List.nil_append, List.cons_append, true_and, and_true, true_or, or_true, Int.cast_ofNat_Int, Int.natCast_zero, Int.natCast_one, hk.ob, hk.c2]
  have loop : ∀ (r i : Nat), i + r = M.length → (∀ j : Nat, j < i → M[j]? ≠ some x) → G 2 [.inr (some w), .inl x, .inl (i : Int)] [] μ := by
    intro r
    induction r with
    | zero =>
      intro i h1 h2
      refine s_X9_misses_2 hG ?_
      simp only [b_X9_misses_0, b_X9_misses_2, b_X9_misses_10, b_X9_misses_20, b_X9_misses_22, b_X9_misses_28, o_c, o_il, o_al, o_is, o_as, o_inc, o_add, o_sub, o_mul, o_and, o_or, o_xor, o_shl, o_shr, o_ush, o_rem, o_dup, o_dup2, o_gf, o_pf, o_pz, o_iald, o_iast, o_zald, o_zast, o_aald, o_gs, o_min, o_acp, o_call, o_callv, zgf, zpf, zia_, zza_, zra_, zrd_, zcp_, zpop, zsm8_0, zsm8_1, zsm8_2, zsm8_3, zsm8_4, zsm8_5, zrc, zisob, t_ieq, t_ilt, t_igt, t_zeq, t_zlt, t_zgt, t_sw, zsw, t_iret, t_zret, t_aret, t_vret, zrg, List.getElem?_cons_zero, List.getElem?_cons_succ, List.set_cons_zero, List.set_cons_succ, List.length_cons, List.length_nil, Option.toList_some, Option.toList_none, List.nil_append, List.cons_append, true_and, and_true, true_or, or_true, Int.cast_ofNat_Int, Int.natCast_zero, Int.natCast_one, hk.ob, hk.c2]
      rw [zb_f (P := x ∈ M) (fun q => by
        obtain ⟨j, hj⟩ := List.getElem?_of_mem q
        exact h2 j (by have := (List.getElem?_eq_some_iff.mp hj).1; omega) hj)]
      repeat' (first | with_reducible apply And.intro | intro _)
      all_goals first | omega | rfl | trivial | decide | (exfalso; omega)
    | succ r ih =>
      intro i h1 h2
      refine s_X9_misses_2 hG ?_
      have hi : i < M.length := by omega
      have a1 := m3 i M[i] (List.getElem?_eq_getElem hi)
      have a2 := m4 M[i] (List.getElem_mem hi)
      simp only [b_X9_misses_0, b_X9_misses_2, b_X9_misses_10, b_X9_misses_20, b_X9_misses_22, b_X9_misses_28, o_c, o_il, o_al, o_is, o_as, o_inc, o_add, o_sub, o_mul, o_and, o_or, o_xor, o_shl, o_shr, o_ush, o_rem, o_dup, o_dup2, o_gf, o_pf, o_pz, o_iald, o_iast, o_zald, o_zast, o_aald, o_gs, o_min, o_acp, o_call, o_callv, zgf, zpf, zia_, zza_, zra_, zrd_, zcp_, zpop, zsm8_0, zsm8_1, zsm8_2, zsm8_3, zsm8_4, zsm8_5, zrc, zisob, t_ieq, t_ilt, t_igt, t_zeq, t_zlt, t_zgt, t_sw, zsw, t_iret, t_zret, t_aret, t_vret, zrg, List.getElem?_cons_zero, List.getElem?_cons_succ, List.set_cons_zero, List.set_cons_succ, List.length_cons, List.length_nil, Option.toList_some, Option.toList_none, List.nil_append, List.cons_append, true_and, and_true, true_or, or_true, Int.cast_ofNat_Int, Int.natCast_zero, Int.natCast_one, hk.ob, hk.c2]
      refine ⟨by omega, by omega, fun _ => ⟨by omega, by omega, by omega, fun e => ?_, fun e => ?_⟩, fun _ => by omega⟩
      · rw [zb_t (P := x ∈ M) (by rw [← e, a1]; exact List.getElem_mem hi)]
        exact ⟨rfl, rfl⟩
      · refine ih (i + 1) (by omega) (fun j hj => ?_)
        by_cases ej : j = i
        · subst ej
          rw [List.getElem?_eq_getElem hi]
          intro q
          exact e (a1.trans (Option.some.inj q))
        · exact h2 j (by omega)
  exact loop M.length 0 (by omega) (fun j hj => by omega)
set_option maxRecDepth 100000 in
set_option maxHeartbeats 4000000 in
theorem c_X9_hasReached {d : Nat} {μ : zM} {w s : Nat} {R : Nat → Bool} {M V : List Int} (h : zWK μ w R M V) (hs : s < 64) : zCt d mX9_hasReached [.inr (some w), .inl (s : Int)] μ (zR (.inl (if R s then 1 else 0)) μ) := by
  obtain ⟨hk, hr, hm, hv⟩ := h
  have := hr s hs
  by_cases hc : R s = true
  · rw [if_pos hc] at this ⊢
    refine of_X9_hasReached (fun G hG => s_X9_hasReached_0 hG ?_)
    simp only [b_X9_hasReached_0, b_X9_hasReached_4, b_X9_hasReached_10, b_X9_hasReached_19, b_X9_hasReached_23, b_X9_hasReached_24, o_c, o_il, o_al, o_is, o_as, o_inc, o_add, o_sub, o_mul, o_and, o_or, o_xor, o_shl, o_shr, o_ush, o_rem, o_dup, o_dup2, o_gf, o_pf, o_pz, o_iald, o_iast, o_zald, o_zast, o_aald, o_gs, o_min, o_acp, o_call, o_callv, zgf, zpf, zia_, zza_, zra_, zrd_, zcp_, zpop, zsm8_0, zsm8_1, zsm8_2, zsm8_3, zsm8_4, zsm8_5, zrc, zisob, t_ieq, t_ilt, t_igt, t_zeq, t_zlt, t_zgt, t_sw, zsw, t_iret, t_zret, t_aret, t_vret, zrg, List.getElem?_cons_zero, List.getElem?_cons_succ, List.set_cons_zero, List.set_cons_succ, List.length_cons, List.length_nil, Option.toList_some, Option.toList_none, List.nil_append, List.cons_append, true_and, and_true, true_or, or_true, Int.cast_ofNat_Int, Int.natCast_zero, Int.natCast_one, hk.ob, hk.c1]
    repeat' (first | with_reducible apply And.intro | intro _)
    all_goals first | omega | rfl | trivial | decide | (exfalso; omega)
  · rw [if_neg hc] at this ⊢
    refine of_X9_hasReached (fun G hG => s_X9_hasReached_0 hG ?_)
    simp only [b_X9_hasReached_0, b_X9_hasReached_4, b_X9_hasReached_10, b_X9_hasReached_19, b_X9_hasReached_23, b_X9_hasReached_24, o_c, o_il, o_al, o_is, o_as, o_inc, o_add, o_sub, o_mul, o_and, o_or, o_xor, o_shl, o_shr, o_ush, o_rem, o_dup, o_dup2, o_gf, o_pf, o_pz, o_iald, o_iast, o_zald, o_zast, o_aald, o_gs, o_min, o_acp, o_call, o_callv, zgf, zpf, zia_, zza_, zra_, zrd_, zcp_, zpop, zsm8_0, zsm8_1, zsm8_2, zsm8_3, zsm8_4, zsm8_5, zrc, zisob, t_ieq, t_ilt, t_igt, t_zeq, t_zlt, t_zgt, t_sw, zsw, t_iret, t_zret, t_aret, t_vret, zrg, List.getElem?_cons_zero, List.getElem?_cons_succ, List.set_cons_zero, List.set_cons_succ, List.length_cons, List.length_nil, Option.toList_some, Option.toList_none, List.nil_append, List.cons_append, true_and, and_true, true_or, or_true, Int.cast_ofNat_Int, Int.natCast_zero, Int.natCast_one, hk.ob, hk.c1]
    repeat' (first | with_reducible apply And.intro | intro _)
    all_goals first | omega | rfl | trivial | decide | (exfalso; omega)
set_option maxRecDepth 100000 in
set_option maxHeartbeats 4000000 in
theorem c_X9_reachSlot {d : Nat} {μ : zM} {w : Nat} {s : Int} {R : Nat → Bool} {M V : List Int} (h : zWK μ w R M V) (hs : -1 ≤ s ∧ s < 64) : zCt d mX9_reachSlot [.inr (some w), .inl s] μ (fun r μ' => r = none ∧ zWK μ' w (fun i => R i || decide ((i : Int) = s)) M V ∧ zfr [w + 1] μ μ') := by
  obtain ⟨hk, hr, hm, hv⟩ := h
  refine of_X9_reachSlot (fun G hG => s_X9_reachSlot_0 hG ?_)
  simp only [b_X9_reachSlot_0, b_X9_reachSlot_4, b_X9_reachSlot_10, b_X9_reachSlot_17, o_c, o_il, o_al, o_is, o_as, o_inc, o_add, o_sub, o_mul, o_and, o_or, o_xor, o_shl, o_shr, o_ush, o_rem, o_dup, o_dup2, o_gf, o_pf, o_pz, o_iald, o_iast, o_zald, o_zast, o_aald, o_gs, o_min, o_acp, o_call, o_callv, zgf, zpf, zia_, zza_, zra_, zrd_, zcp_, zpop, zsm8_0, zsm8_1, zsm8_2, zsm8_3, zsm8_4, zsm8_5, zrc, zisob, t_ieq, t_ilt, t_igt, t_zeq, t_zlt, t_zgt, t_sw, zsw, t_iret, t_zret, t_aret, t_vret, zrg, List.getElem?_cons_zero, List.getElem?_cons_succ, List.set_cons_zero, List.set_cons_succ, List.length_cons, List.length_nil, Option.toList_some, Option.toList_none, List.nil_append, List.cons_append, true_and, and_true, true_or, or_true, Int.cast_ofNat_Int, Int.natCast_zero, Int.natCast_one, hk.ob, hk.c1]
  refine ⟨by omega, fun e => ?_, fun e => ⟨by omega, by omega, fun e2 => ⟨by omega, ?_, fun c hc => zup_ne c (by simpa using hc)⟩, fun e2 => by omega⟩⟩
  · refine ⟨⟨hk, fun i hi => ?_, hm, hv⟩, zfr.refl _ _⟩
    have : ¬ ((i : Int) = s) := by omega
    simp [this, hr i hi]
  · refine ⟨hk, fun i hi => ?_, ⟨by rw [zup_ne _ (by omega)]; exact hm.1, hm.2.1, hm.2.2.1.of (zup_ne _ (by omega)), hm.2.2.2⟩, ⟨by rw [zup_ne _ (by omega)]; exact hv.1, hv.2.1, hv.2.2.1.of (zup_ne _ (by omega)), hv.2.2.2⟩⟩
    by_cases e3 : (i : Int) = s
    · simp [zup, e3]
    · simp [zup, e3, hr i hi]
set_option maxRecDepth 100000 in
set_option maxHeartbeats 4000000 in
theorem c_X9_restart {d : Nat} {μ : zM} {w : Nat} {R : Nat → Bool} {M V : List Int} (h : zWK μ w R M V) : zCt d mX9_restart [.inr (some w)] μ (fun r μ' => r = none ∧ zWK μ' w (fun _ => false) [] V ∧ zfr [w, w + 1] μ μ') := by
  obtain ⟨hk, hr, hm, hv⟩ := h
  refine of_X9_restart (fun G hG => s_X9_restart_0 hG ?_)
  simp only [b_X9_restart_0, b_X9_restart_2, b_X9_restart_8, b_X9_restart_21, o_c, o_il, o_al, o_is, o_as, o_inc, o_add, o_sub, o_mul, o_and, o_or, o_xor, o_shl, o_shr, o_ush, o_rem, o_dup, o_dup2, o_gf, o_pf, o_pz, o_iald, o_iast, o_zald, o_zast, o_aald, o_gs, o_min, o_acp, o_call, o_callv, zgf, zpf, zia_, zza_, zra_, zrd_, zcp_, zpop, zsm8_0, zsm8_1, zsm8_2, zsm8_3, zsm8_4, zsm8_5, zrc, zisob, t_ieq, t_ilt, t_igt, t_zeq, t_zlt, t_zgt, t_sw, zsw, t_iret, t_zret, t_aret, t_vret, zrg, List.getElem?_cons_zero, List.getElem?_cons_succ, List.set_cons_zero, List.set_cons_succ, List.length_cons, List.length_nil, Option.toList_some, Option.toList_none, List.nil_append, List.cons_append, true_and, and_true, true_or, or_true, Int.cast_ofNat_Int, Int.natCast_zero, Int.natCast_one, hk.ob, hk.c1]
  have loop : ∀ (r i : Nat) (μ' : zM), i + r = 64 → (∀ j : Nat, j < i → μ' (w + 1) j = 0) → zfr [w, w + 1] μ μ' → μ' w 4 = V.length → G 2 [.inr (some w), .inl (i : Int)] [] μ' := by
    intro r
    induction r with
    | zero =>
      intro i μ' h1 h2 h3 h4
      refine s_X9_restart_2 hG ?_
      simp only [b_X9_restart_0, b_X9_restart_2, b_X9_restart_8, b_X9_restart_21, o_c, o_il, o_al, o_is, o_as, o_inc, o_add, o_sub, o_mul, o_and, o_or, o_xor, o_shl, o_shr, o_ush, o_rem, o_dup, o_dup2, o_gf, o_pf, o_pz, o_iald, o_iast, o_zald, o_zast, o_aald, o_gs, o_min, o_acp, o_call, o_callv, zgf, zpf, zia_, zza_, zra_, zrd_, zcp_, zpop, zsm8_0, zsm8_1, zsm8_2, zsm8_3, zsm8_4, zsm8_5, zrc, zisob, t_ieq, t_ilt, t_igt, t_zeq, t_zlt, t_zgt, t_sw, zsw, t_iret, t_zret, t_aret, t_vret, zrg, List.getElem?_cons_zero, List.getElem?_cons_succ, List.set_cons_zero, List.set_cons_succ, List.length_cons, List.length_nil, Option.toList_some, Option.toList_none, List.nil_append, List.cons_append, true_and, and_true, true_or, or_true, Int.cast_ofNat_Int, Int.natCast_zero, Int.natCast_one, hk.ob, hk.c1]
      refine ⟨by omega, by omega, fun _ => by omega, fun _ => ⟨⟨hk, fun j hj => ?_, ⟨by simp [zup], by simp, fun j x hj => by simp at hj, fun x hx => by simp at hx⟩, ⟨by simp [zup, h4], hv.2.1, hv.2.2.1.of ?_, hv.2.2.2⟩⟩, fun c hc => ?_⟩⟩
      · rw [zup_ne _ (by omega), h2 j (by omega)]
        simp
      · rw [zup_ne _ (by omega)]
        exact h3 _ (by simp)
      · simp only [List.mem_cons, List.not_mem_nil, or_false, not_or] at hc
        rw [zup_ne c hc.1]
        exact h3 c (by simp; omega)
    | succ r ih =>
      intro i μ' h1 h2 h3 h4
      refine s_X9_restart_2 hG ?_
      simp only [b_X9_restart_0, b_X9_restart_2, b_X9_restart_8, b_X9_restart_21, o_c, o_il, o_al, o_is, o_as, o_inc, o_add, o_sub, o_mul, o_and, o_or, o_xor, o_shl, o_shr, o_ush, o_rem, o_dup, o_dup2, o_gf, o_pf, o_pz, o_iald, o_iast, o_zald, o_zast, o_aald, o_gs, o_min, o_acp, o_call, o_callv, zgf, zpf, zia_, zza_, zra_, zrd_, zcp_, zpop, zsm8_0, zsm8_1, zsm8_2, zsm8_3, zsm8_4, zsm8_5, zrc, zisob, t_ieq, t_ilt, t_igt, t_zeq, t_zlt, t_zgt, t_sw, zsw, t_iret, t_zret, t_aret, t_vret, zrg, List.getElem?_cons_zero, List.getElem?_cons_succ, List.set_cons_zero, List.set_cons_succ, List.length_cons, List.length_nil, Option.toList_some, Option.toList_none, List.nil_append, List.cons_append, true_and, and_true, true_or, or_true, Int.cast_ofNat_Int, Int.natCast_zero, Int.natCast_one, hk.ob, hk.c1]
      refine ⟨by omega, by omega, fun _ => ⟨by omega, ?_⟩, fun _ => by omega⟩
      refine ih (i + 1) _ (by omega) (fun j hj => ?_) (fun c hc => ?_) (by rw [zup_ne _ (by omega)]; exact h4)
      · by_cases e : j = i
        · simp [zup, e]
        · have : ¬ ((j : Int) = i) := by omega
          simp [zup, this, h2 j (by omega)]
      · simp only [List.mem_cons, List.not_mem_nil, or_false, not_or] at hc
        rw [zup_ne c hc.2]
        exact h3 c (by simp; omega)
  exact loop 64 0 μ (by omega) (fun j hj => by omega) (zfr.refl _ _) hv.1
set_option maxRecDepth 100000 in
set_option maxHeartbeats 4000000 in
theorem c_X9_remember {d : Nat} {μ : zM} {w : Nat} {R : Nat → Bool} {M V : List Int} {x : Int} (h : zWK μ w R M V) (hl : V.length < 257) (hx : 0 ≤ x ∧ x ≤ 65520) : zCt d mX9_remember [.inr (some w), .inl x] μ (fun r μ' => r = none ∧ zWK μ' w R M (V ++ [x]) ∧ zfr [w, w + 3] μ μ') := by
  obtain ⟨hk, hr, hm, v1, v2, v3, v4⟩ := h
  refine of_X9_remember (fun G hG => s_X9_remember_0 hG ?_)
  simp only [b_X9_remember_0, b_X9_remember_10, b_X9_remember_30, o_c, o_il, o_al, o_is, o_as, o_inc, o_add, o_sub, o_mul, o_and, o_or, o_xor, o_shl, o_shr, o_ush, o_rem, o_dup, o_dup2, o_gf, o_pf, o_pz, o_iald, o_iast, o_zald, o_zast, o_aald, o_gs, o_min, o_acp, o_call, o_callv, zgf, zpf, zia_, zza_, zra_, zrd_, zcp_, zpop, zsm8_0, zsm8_1, zsm8_2, zsm8_3, zsm8_4, zsm8_5, zrc, zisob, t_ieq, t_ilt, t_igt, t_zeq, t_zlt, t_zgt, t_sw, zsw, t_iret, t_zret, t_aret, t_vret, zrg, List.getElem?_cons_zero, List.getElem?_cons_succ, List.set_cons_zero, List.set_cons_succ, List.length_cons, List.length_nil, Option.toList_some, Option.toList_none, List.nil_append, List.cons_append, true_and, and_true, true_or, or_true, Int.cast_ofNat_Int, Int.natCast_zero, Int.natCast_one, hk.ob, hk.c3]
  have e1 : zup μ (w + 3) (μ w 4) x w 4 = μ w 4 := by simp [zup]
  rw [e1]
  refine ⟨by omega, by omega, fun _ => by omega, fun _ => ⟨by omega, ⟨hk, fun i hi => ?_, ⟨by simp [zup, hm.1], hm.2.1, hm.2.2.1.of ?_, hm.2.2.2⟩, ⟨by simp [zup, v1], by simp; omega, v3.push (fun i hi => ?_) ?_, v4.push hx⟩⟩, fun c hc => ?_⟩⟩
  · rw [zup_ne _ (by omega), zup_ne _ (by omega)]; exact hr i hi
  · rw [zup_ne _ (by omega), zup_ne _ (by omega)]
  · rw [zup_ne _ (by omega)]
    simp [zup, v1, hi]
  · rw [zup_ne _ (by omega)]
    simp [zup, v1]
  · simp only [List.mem_cons, List.not_mem_nil, or_false, not_or] at hc
    rw [zup_ne c hc.1, zup_ne c hc.2]
def zntm (M : List Int) (x : Int) : List Int := if M.length ≤ 256 ∧ x ∉ M then M ++ [x] else M
set_option maxRecDepth 100000 in
set_option maxHeartbeats 4000000 in
theorem c_X9_noteMissing {d : Nat} {μ : zM} {w : Nat} {R : Nat → Bool} {M V : List Int} {x : Int} (hd : 1 ≤ d) (h : zWK μ w R M V) (hx : 0 ≤ x ∧ x ≤ 65520) : zCt d mX9_noteMissing [.inr (some w), .inl x] μ (fun r μ' => r = none ∧ zWK μ' w R (zntm M x) V ∧ zfr [w, w + 2] μ μ') := by
  have hh := h
  obtain ⟨hk, hr, ⟨m1, m2, m3, m4⟩, hv⟩ := h
  refine of_X9_noteMissing hd (fun G hG => s_X9_noteMissing_0 hG ?_)
  simp only [b_X9_noteMissing_0, b_X9_noteMissing_10, b_X9_noteMissing_18, b_X9_noteMissing_38, o_c, o_il, o_al, o_is, o_as, o_inc, o_add, o_sub, o_mul, o_and, o_or, o_xor, o_shl, o_shr, o_ush, o_rem, o_dup, o_dup2, o_gf, o_pf, o_pz, o_iald, o_iast, o_zald, o_zast, o_aald, o_gs, o_min, o_acp, o_call, o_callv, zgf, zpf, zia_, zza_, zra_, zrd_, zcp_, zpop, zsm8_0, zsm8_1, zsm8_2, zsm8_3, zsm8_4, zsm8_5, zrc, zisob, t_ieq, t_ilt, t_igt, t_zeq, t_zlt, t_zgt, t_sw, zsw, t_iret, t_zret, t_aret, t_vret, zrg, List.getElem?_cons_zero, List.getElem?_cons_succ, List.set_cons_zero, List.set_cons_succ, List.length_cons, List.length_nil, Option.toList_some, Option.toList_none, List.nil_append, List.cons_append, true_and, and_true, true_or, or_true, Int.cast_ofNat_Int, Int.natCast_zero, Int.natCast_one, hk.ob, hk.c2]
  unfold zntm
  refine ⟨by omega, by omega, fun e => ?_, fun e => ?_⟩
  · rw [if_neg (by omega)]
    exact ⟨hh, zfr.refl _ _⟩
  · refine zcall (c_X9_misses hh ⟨by omega, by omega⟩) ?_
    simp only [b_X9_noteMissing_0, b_X9_noteMissing_10, b_X9_noteMissing_18, b_X9_noteMissing_38, o_c, o_il, o_al, o_is, o_as, o_inc, o_add, o_sub, o_mul, o_and, o_or, o_xor, o_shl, o_shr, o_ush, o_rem, o_dup, o_dup2, o_gf, o_pf, o_pz, o_iald, o_iast, o_zald, o_zast, o_aald, o_gs, o_min, o_acp, o_call, o_callv, zgf, zpf, zia_, zza_, zra_, zrd_, zcp_, zpop, zsm8_0, zsm8_1, zsm8_2, zsm8_3, zsm8_4, zsm8_5, zrc, zisob, t_ieq, t_ilt, t_igt, t_zeq, t_zlt, t_zgt, t_sw, zsw, t_iret, t_zret, t_aret, t_vret, zrg, List.getElem?_cons_zero, List.getElem?_cons_succ, List.set_cons_zero, List.set_cons_succ, List.length_cons, List.length_nil, Option.toList_some, Option.toList_none, List.nil_append, List.cons_append, true_and, and_true, true_or, or_true, Int.cast_ofNat_Int, Int.natCast_zero, Int.natCast_one, hk.ob, hk.c2]
    have e1 : zup μ (w + 2) (μ w 2) x w 2 = μ w 2 := by simp [zup]
    rw [e1]
    rcases zb_or (x ∈ M) with ⟨q, hq⟩ | ⟨q, hq⟩
    · rw [q, if_neg (by simp [hq])]
      exact ⟨by omega, fun w => by omega, fun _ => ⟨hh, zfr.refl _ _⟩⟩
    · rw [q, if_pos ⟨by omega, hq⟩]
      refine ⟨by omega, fun _ => ⟨by omega, ⟨hk, fun i hi => ?_, ⟨by simp [zup, m1], by simp; omega, m3.push (fun i hi => ?_) ?_, m4.push hx⟩, ⟨by simp [zup, hv.1], hv.2.1, hv.2.2.1.of ?_, hv.2.2.2⟩⟩, fun c hc => ?_⟩, fun w => absurd rfl w⟩
      · rw [zup_ne _ (by omega), zup_ne _ (by omega)]; exact hr i hi
      · rw [zup_ne _ (by omega)]
        simp [zup, m1, hi]
      · rw [zup_ne _ (by omega)]
        simp [zup, m1]
      · rw [zup_ne _ (by omega), zup_ne _ (by omega)]
      · simp only [List.mem_cons, List.not_mem_nil, or_false, not_or] at hc
        rw [zup_ne c hc.1, zup_ne c hc.2]
