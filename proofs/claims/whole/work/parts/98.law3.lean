/-! THE LAW: its cases -/
set_option maxRecDepth 100000 in
set_option maxHeartbeats 4000000 in
theorem law_s0 {p : Program} {l : Launch} {e : Env} {s : State} {m : MethodId} {below : List Frame} {meth : Method} {c : Code} {E : zE} {b L : Nat} {xs : Nat → Int32} (B : zLw p s m c E b L xs) {i : Nat} {μ : zM} (hi : i + 5 ≤ L) (h : zST μ) (hk : ∀ μ2, zST μ2 → (zG p l e room_1 s m #[Value.ref b] below meth c E 4 600000 7302250 (lw_Z below #[Value.ref b] s)) 832 [.inr (some 1001), .inr (some 0), .inr (some 56), .inl (i : Int)] [] μ2) : (zG p l e room_1 s m #[Value.ref b] below meth c E 4 600000 7302250 (lw_Z below #[Value.ref b] s)) 136 [.inr (some 1001), .inr (some 0), .inr (some 56), .inl (i : Int)] [] μ := by
  refine law_136 B _ _ _ ?_
  generalize (zG p l e room_1 s m #[Value.ref b] below meth c E 4 600000 7302250 (lw_Z below #[Value.ref b] s)) = GG at hk ⊢
  have r1 := lk_script_rg (xs ((i : Int) + 1).toNat)
  have r2 := lk_script_rg (xs ((i : Int) + 2).toNat)
  have r3 := lk_script_rg (xs ((i : Int) + 3).toNat)
  have r4 := lk_script_rg (xs ((i : Int) + 4).toNat)
  obtain ⟨v, hc⟩ := p_type h r1
  simp only [o_c, o_il, o_al, o_is, o_inc, o_add, o_sub, o_and, o_sl, o_sn, t_same, o_callv, zpop, zsm8_0, zsm8_1, zsm8_2, zsm8_3, zsm8_4, zsm8_5, zrc, zisob, zsh_0, zsh_56, t_zeq, t_igt, t_sw, zsw, zrg, List.getElem?_cons_zero, List.getElem?_cons_succ, List.set_cons_zero, List.set_cons_succ, List.length_cons, List.length_nil, Option.toList_some, Option.toList_none, List.nil_append, List.cons_append, true_and, and_true]
  refine ⟨by omega, _, hc, ?_⟩
  rintro r μ1 ⟨rfl, hm⟩
  simp only [o_c, o_il, o_al, o_is, o_inc, o_add, o_sub, o_and, o_sl, o_sn, t_same, o_callv, zpop, zsm8_0, zsm8_1, zsm8_2, zsm8_3, zsm8_4, zsm8_5, zrc, zisob, zsh_0, zsh_56, t_zeq, t_igt, t_sw, zsw, zrg, List.getElem?_cons_zero, List.getElem?_cons_succ, List.set_cons_zero, List.set_cons_succ, List.length_cons, List.length_nil, Option.toList_some, Option.toList_none, List.nil_append, List.cons_append, true_and, and_true]
  refine ⟨by omega, _, hm, ?_⟩
  rintro r μ2 ⟨rfl, h2⟩
  simp only [o_c, o_il, o_al, o_is, o_inc, o_add, o_sub, o_and, o_sl, o_sn, t_same, o_callv, zpop, zsm8_0, zsm8_1, zsm8_2, zsm8_3, zsm8_4, zsm8_5, zrc, zisob, zsh_0, zsh_56, t_zeq, t_igt, t_sw, zsw, zrg, List.getElem?_cons_zero, List.getElem?_cons_succ, List.set_cons_zero, List.set_cons_succ, List.length_cons, List.length_nil, Option.toList_some, Option.toList_none, List.nil_append, List.cons_append, true_and, and_true]
  exact hk μ2 h2
set_option maxRecDepth 100000 in
set_option maxHeartbeats 4000000 in
theorem law_s1 {p : Program} {l : Launch} {e : Env} {s : State} {m : MethodId} {below : List Frame} {meth : Method} {c : Code} {E : zE} {b L : Nat} {xs : Nat → Int32} (B : zLw p s m c E b L xs) {i : Nat} {μ : zM} (hi : i + 5 ≤ L) (h : zST μ) (hk : ∀ μ2, zST μ2 → (zG p l e room_1 s m #[Value.ref b] below meth c E 4 600000 7302250 (lw_Z below #[Value.ref b] s)) 832 [.inr (some 1001), .inr (some 0), .inr (some 56), .inl (i : Int)] [] μ2) : (zG p l e room_1 s m #[Value.ref b] below meth c E 4 600000 7302250 (lw_Z below #[Value.ref b] s)) 159 [.inr (some 1001), .inr (some 0), .inr (some 56), .inl (i : Int)] [] μ := by
  refine law_159 B _ _ _ ?_
  generalize (zG p l e room_1 s m #[Value.ref b] below meth c E 4 600000 7302250 (lw_Z below #[Value.ref b] s)) = GG at hk ⊢
  have r1 := lk_script_rg (xs ((i : Int) + 1).toNat)
  have r2 := lk_script_rg (xs ((i : Int) + 2).toNat)
  have r3 := lk_script_rg (xs ((i : Int) + 3).toNat)
  have r4 := lk_script_rg (xs ((i : Int) + 4).toNat)
  simp only [o_c, o_il, o_al, o_is, o_inc, o_add, o_sub, o_and, o_sl, o_sn, t_same, o_callv, zpop, zsm8_0, zsm8_1, zsm8_2, zsm8_3, zsm8_4, zsm8_5, zrc, zisob, zsh_0, zsh_56, t_zeq, t_igt, t_sw, zsw, zrg, List.getElem?_cons_zero, List.getElem?_cons_succ, List.set_cons_zero, List.set_cons_succ, List.length_cons, List.length_nil, Option.toList_some, Option.toList_none, List.nil_append, List.cons_append, true_and, and_true]
  refine ⟨_, p_clear h, ?_⟩
  rintro v μ1 ⟨rfl, hm⟩
  simp only [o_c, o_il, o_al, o_is, o_inc, o_add, o_sub, o_and, o_sl, o_sn, t_same, o_callv, zpop, zsm8_0, zsm8_1, zsm8_2, zsm8_3, zsm8_4, zsm8_5, zrc, zisob, zsh_0, zsh_56, t_zeq, t_igt, t_sw, zsw, zrg, List.getElem?_cons_zero, List.getElem?_cons_succ, List.set_cons_zero, List.set_cons_succ, List.length_cons, List.length_nil, Option.toList_some, Option.toList_none, List.nil_append, List.cons_append, true_and, and_true]
  refine ⟨_, hm, ?_⟩
  rintro v μ2 ⟨rfl, h2⟩
  simp only [o_c, o_il, o_al, o_is, o_inc, o_add, o_sub, o_and, o_sl, o_sn, t_same, o_callv, zpop, zsm8_0, zsm8_1, zsm8_2, zsm8_3, zsm8_4, zsm8_5, zrc, zisob, zsh_0, zsh_56, t_zeq, t_igt, t_sw, zsw, zrg, List.getElem?_cons_zero, List.getElem?_cons_succ, List.set_cons_zero, List.set_cons_succ, List.length_cons, List.length_nil, Option.toList_some, Option.toList_none, List.nil_append, List.cons_append, true_and, and_true]
  exact hk μ2 h2
set_option maxRecDepth 100000 in
set_option maxHeartbeats 4000000 in
theorem law_s2 {p : Program} {l : Launch} {e : Env} {s : State} {m : MethodId} {below : List Frame} {meth : Method} {c : Code} {E : zE} {b L : Nat} {xs : Nat → Int32} (B : zLw p s m c E b L xs) {i : Nat} {μ : zM} (hi : i + 5 ≤ L) (h : zST μ) (hk : ∀ μ2, zST μ2 → (zG p l e room_1 s m #[Value.ref b] below meth c E 4 600000 7302250 (lw_Z below #[Value.ref b] s)) 832 [.inr (some 1001), .inr (some 0), .inr (some 56), .inl (i : Int)] [] μ2) : (zG p l e room_1 s m #[Value.ref b] below meth c E 4 600000 7302250 (lw_Z below #[Value.ref b] s)) 170 [.inr (some 1001), .inr (some 0), .inr (some 56), .inl (i : Int)] [] μ := by
  refine law_170 B _ _ _ ?_
  generalize (zG p l e room_1 s m #[Value.ref b] below meth c E 4 600000 7302250 (lw_Z below #[Value.ref b] s)) = GG at hk ⊢
  have r1 := lk_script_rg (xs ((i : Int) + 1).toNat)
  have r2 := lk_script_rg (xs ((i : Int) + 2).toNat)
  have r3 := lk_script_rg (xs ((i : Int) + 3).toNat)
  have r4 := lk_script_rg (xs ((i : Int) + 4).toNat)
  obtain ⟨v, hc⟩ := p_name h
  simp only [o_c, o_il, o_al, o_is, o_inc, o_add, o_sub, o_and, o_sl, o_sn, t_same, o_callv, zpop, zsm8_0, zsm8_1, zsm8_2, zsm8_3, zsm8_4, zsm8_5, zrc, zisob, zsh_0, zsh_56, t_zeq, t_igt, t_sw, zsw, zrg, List.getElem?_cons_zero, List.getElem?_cons_succ, List.set_cons_zero, List.set_cons_succ, List.length_cons, List.length_nil, Option.toList_some, Option.toList_none, List.nil_append, List.cons_append, true_and, and_true]
  refine ⟨_, hc, ?_⟩
  rintro r μ1 ⟨rfl, hm⟩
  simp only [o_c, o_il, o_al, o_is, o_inc, o_add, o_sub, o_and, o_sl, o_sn, t_same, o_callv, zpop, zsm8_0, zsm8_1, zsm8_2, zsm8_3, zsm8_4, zsm8_5, zrc, zisob, zsh_0, zsh_56, t_zeq, t_igt, t_sw, zsw, zrg, List.getElem?_cons_zero, List.getElem?_cons_succ, List.set_cons_zero, List.set_cons_succ, List.length_cons, List.length_nil, Option.toList_some, Option.toList_none, List.nil_append, List.cons_append, true_and, and_true]
  refine ⟨_, hm, ?_⟩
  rintro r μ2 ⟨rfl, h2⟩
  simp only [o_c, o_il, o_al, o_is, o_inc, o_add, o_sub, o_and, o_sl, o_sn, t_same, o_callv, zpop, zsm8_0, zsm8_1, zsm8_2, zsm8_3, zsm8_4, zsm8_5, zrc, zisob, zsh_0, zsh_56, t_zeq, t_igt, t_sw, zsw, zrg, List.getElem?_cons_zero, List.getElem?_cons_succ, List.set_cons_zero, List.set_cons_succ, List.length_cons, List.length_nil, Option.toList_some, Option.toList_none, List.nil_append, List.cons_append, true_and, and_true]
  exact hk μ2 h2
set_option maxRecDepth 100000 in
set_option maxHeartbeats 4000000 in
theorem law_s3 {p : Program} {l : Launch} {e : Env} {s : State} {m : MethodId} {below : List Frame} {meth : Method} {c : Code} {E : zE} {b L : Nat} {xs : Nat → Int32} (B : zLw p s m c E b L xs) {i : Nat} {μ : zM} (hi : i + 5 ≤ L) (h : zST μ) (hk : ∀ μ2, zST μ2 → (zG p l e room_1 s m #[Value.ref b] below meth c E 4 600000 7302250 (lw_Z below #[Value.ref b] s)) 832 [.inr (some 1001), .inr (some 0), .inr (some 56), .inl (i : Int)] [] μ2) : (zG p l e room_1 s m #[Value.ref b] below meth c E 4 600000 7302250 (lw_Z below #[Value.ref b] s)) 183 [.inr (some 1001), .inr (some 0), .inr (some 56), .inl (i : Int)] [] μ := by
  refine law_183 B _ _ _ ?_
  generalize (zG p l e room_1 s m #[Value.ref b] below meth c E 4 600000 7302250 (lw_Z below #[Value.ref b] s)) = GG at hk ⊢
  have r1 := lk_script_rg (xs ((i : Int) + 1).toNat)
  have r2 := lk_script_rg (xs ((i : Int) + 2).toNat)
  have r3 := lk_script_rg (xs ((i : Int) + 3).toNat)
  have r4 := lk_script_rg (xs ((i : Int) + 4).toNat)
  obtain ⟨v, hc⟩ := p_put h r1
  simp only [o_c, o_il, o_al, o_is, o_inc, o_add, o_sub, o_and, o_sl, o_sn, t_same, o_callv, zpop, zsm8_0, zsm8_1, zsm8_2, zsm8_3, zsm8_4, zsm8_5, zrc, zisob, zsh_0, zsh_56, t_zeq, t_igt, t_sw, zsw, zrg, List.getElem?_cons_zero, List.getElem?_cons_succ, List.set_cons_zero, List.set_cons_succ, List.length_cons, List.length_nil, Option.toList_some, Option.toList_none, List.nil_append, List.cons_append, true_and, and_true]
  refine ⟨by omega, _, hc, ?_⟩
  rintro r μ1 ⟨rfl, hm⟩
  simp only [o_c, o_il, o_al, o_is, o_inc, o_add, o_sub, o_and, o_sl, o_sn, t_same, o_callv, zpop, zsm8_0, zsm8_1, zsm8_2, zsm8_3, zsm8_4, zsm8_5, zrc, zisob, zsh_0, zsh_56, t_zeq, t_igt, t_sw, zsw, zrg, List.getElem?_cons_zero, List.getElem?_cons_succ, List.set_cons_zero, List.set_cons_succ, List.length_cons, List.length_nil, Option.toList_some, Option.toList_none, List.nil_append, List.cons_append, true_and, and_true]
  refine ⟨by omega, _, hm, ?_⟩
  rintro r μ2 ⟨rfl, h2⟩
  simp only [o_c, o_il, o_al, o_is, o_inc, o_add, o_sub, o_and, o_sl, o_sn, t_same, o_callv, zpop, zsm8_0, zsm8_1, zsm8_2, zsm8_3, zsm8_4, zsm8_5, zrc, zisob, zsh_0, zsh_56, t_zeq, t_igt, t_sw, zsw, zrg, List.getElem?_cons_zero, List.getElem?_cons_succ, List.set_cons_zero, List.set_cons_succ, List.length_cons, List.length_nil, Option.toList_some, Option.toList_none, List.nil_append, List.cons_append, true_and, and_true]
  exact hk μ2 h2
set_option maxRecDepth 100000 in
set_option maxHeartbeats 4000000 in
theorem law_s4 {p : Program} {l : Launch} {e : Env} {s : State} {m : MethodId} {below : List Frame} {meth : Method} {c : Code} {E : zE} {b L : Nat} {xs : Nat → Int32} (B : zLw p s m c E b L xs) {i : Nat} {μ : zM} (hi : i + 5 ≤ L) (h : zST μ) (hk : ∀ μ2, zST μ2 → (zG p l e room_1 s m #[Value.ref b] below meth c E 4 600000 7302250 (lw_Z below #[Value.ref b] s)) 832 [.inr (some 1001), .inr (some 0), .inr (some 56), .inl (i : Int)] [] μ2) : (zG p l e room_1 s m #[Value.ref b] below meth c E 4 600000 7302250 (lw_Z below #[Value.ref b] s)) 206 [.inr (some 1001), .inr (some 0), .inr (some 56), .inl (i : Int)] [] μ := by
  refine law_206 B _ _ _ ?_
  generalize (zG p l e room_1 s m #[Value.ref b] below meth c E 4 600000 7302250 (lw_Z below #[Value.ref b] s)) = GG at hk ⊢
  have r1 := lk_script_rg (xs ((i : Int) + 1).toNat)
  have r2 := lk_script_rg (xs ((i : Int) + 2).toNat)
  have r3 := lk_script_rg (xs ((i : Int) + 3).toNat)
  have r4 := lk_script_rg (xs ((i : Int) + 4).toNat)
  obtain ⟨v, hc⟩ := p_add h r1 r2 r3
  simp only [o_c, o_il, o_al, o_is, o_inc, o_add, o_sub, o_and, o_sl, o_sn, t_same, o_callv, zpop, zsm8_0, zsm8_1, zsm8_2, zsm8_3, zsm8_4, zsm8_5, zrc, zisob, zsh_0, zsh_56, t_zeq, t_igt, t_sw, zsw, zrg, List.getElem?_cons_zero, List.getElem?_cons_succ, List.set_cons_zero, List.set_cons_succ, List.length_cons, List.length_nil, Option.toList_some, Option.toList_none, List.nil_append, List.cons_append, true_and, and_true]
  refine ⟨by omega, by omega, by omega, _, hc, ?_⟩
  rintro r μ1 ⟨rfl, hm⟩
  simp only [o_c, o_il, o_al, o_is, o_inc, o_add, o_sub, o_and, o_sl, o_sn, t_same, o_callv, zpop, zsm8_0, zsm8_1, zsm8_2, zsm8_3, zsm8_4, zsm8_5, zrc, zisob, zsh_0, zsh_56, t_zeq, t_igt, t_sw, zsw, zrg, List.getElem?_cons_zero, List.getElem?_cons_succ, List.set_cons_zero, List.set_cons_succ, List.length_cons, List.length_nil, Option.toList_some, Option.toList_none, List.nil_append, List.cons_append, true_and, and_true]
  refine ⟨by omega, by omega, by omega, _, hm, ?_⟩
  rintro r μ2 ⟨rfl, h2⟩
  simp only [o_c, o_il, o_al, o_is, o_inc, o_add, o_sub, o_and, o_sl, o_sn, t_same, o_callv, zpop, zsm8_0, zsm8_1, zsm8_2, zsm8_3, zsm8_4, zsm8_5, zrc, zisob, zsh_0, zsh_56, t_zeq, t_igt, t_sw, zsw, zrg, List.getElem?_cons_zero, List.getElem?_cons_succ, List.set_cons_zero, List.set_cons_succ, List.length_cons, List.length_nil, Option.toList_some, Option.toList_none, List.nil_append, List.cons_append, true_and, and_true]
  exact hk μ2 h2
set_option maxRecDepth 100000 in
set_option maxHeartbeats 4000000 in
theorem law_s5 {p : Program} {l : Launch} {e : Env} {s : State} {m : MethodId} {below : List Frame} {meth : Method} {c : Code} {E : zE} {b L : Nat} {xs : Nat → Int32} (B : zLw p s m c E b L xs) {i : Nat} {μ : zM} (hi : i + 5 ≤ L) (h : zST μ) (hk : ∀ μ2, zST μ2 → (zG p l e room_1 s m #[Value.ref b] below meth c E 4 600000 7302250 (lw_Z below #[Value.ref b] s)) 832 [.inr (some 1001), .inr (some 0), .inr (some 56), .inl (i : Int)] [] μ2) : (zG p l e room_1 s m #[Value.ref b] below meth c E 4 600000 7302250 (lw_Z below #[Value.ref b] s)) 249 [.inr (some 1001), .inr (some 0), .inr (some 56), .inl (i : Int)] [] μ := by
  refine law_249 B _ _ _ ?_
  generalize (zG p l e room_1 s m #[Value.ref b] below meth c E 4 600000 7302250 (lw_Z below #[Value.ref b] s)) = GG at hk ⊢
  have r1 := lk_script_rg (xs ((i : Int) + 1).toNat)
  have r2 := lk_script_rg (xs ((i : Int) + 2).toNat)
  have r3 := lk_script_rg (xs ((i : Int) + 3).toNat)
  have r4 := lk_script_rg (xs ((i : Int) + 4).toNat)
  obtain ⟨v, hc⟩ := p_entry h r1 r2
  simp only [o_c, o_il, o_al, o_is, o_inc, o_add, o_sub, o_and, o_sl, o_sn, t_same, o_callv, zpop, zsm8_0, zsm8_1, zsm8_2, zsm8_3, zsm8_4, zsm8_5, zrc, zisob, zsh_0, zsh_56, t_zeq, t_igt, t_sw, zsw, zrg, List.getElem?_cons_zero, List.getElem?_cons_succ, List.set_cons_zero, List.set_cons_succ, List.length_cons, List.length_nil, Option.toList_some, Option.toList_none, List.nil_append, List.cons_append, true_and, and_true]
  refine ⟨by omega, by omega, _, hc, ?_⟩
  rintro r μ1 ⟨rfl, hm⟩
  simp only [o_c, o_il, o_al, o_is, o_inc, o_add, o_sub, o_and, o_sl, o_sn, t_same, o_callv, zpop, zsm8_0, zsm8_1, zsm8_2, zsm8_3, zsm8_4, zsm8_5, zrc, zisob, zsh_0, zsh_56, t_zeq, t_igt, t_sw, zsw, zrg, List.getElem?_cons_zero, List.getElem?_cons_succ, List.set_cons_zero, List.set_cons_succ, List.length_cons, List.length_nil, Option.toList_some, Option.toList_none, List.nil_append, List.cons_append, true_and, and_true]
  refine ⟨by omega, by omega, _, hm, ?_⟩
  rintro r μ2 ⟨rfl, h2⟩
  simp only [o_c, o_il, o_al, o_is, o_inc, o_add, o_sub, o_and, o_sl, o_sn, t_same, o_callv, zpop, zsm8_0, zsm8_1, zsm8_2, zsm8_3, zsm8_4, zsm8_5, zrc, zisob, zsh_0, zsh_56, t_zeq, t_igt, t_sw, zsw, zrg, List.getElem?_cons_zero, List.getElem?_cons_succ, List.set_cons_zero, List.set_cons_succ, List.length_cons, List.length_nil, Option.toList_some, Option.toList_none, List.nil_append, List.cons_append, true_and, and_true]
  exact hk μ2 h2
set_option maxRecDepth 100000 in
set_option maxHeartbeats 4000000 in
theorem law_s6 {p : Program} {l : Launch} {e : Env} {s : State} {m : MethodId} {below : List Frame} {meth : Method} {c : Code} {E : zE} {b L : Nat} {xs : Nat → Int32} (B : zLw p s m c E b L xs) {i : Nat} {μ : zM} (hi : i + 5 ≤ L) (h : zST μ) (hk : ∀ μ2, zST μ2 → (zG p l e room_1 s m #[Value.ref b] below meth c E 4 600000 7302250 (lw_Z below #[Value.ref b] s)) 832 [.inr (some 1001), .inr (some 0), .inr (some 56), .inl (i : Int)] [] μ2) : (zG p l e room_1 s m #[Value.ref b] below meth c E 4 600000 7302250 (lw_Z below #[Value.ref b] s)) 282 [.inr (some 1001), .inr (some 0), .inr (some 56), .inl (i : Int)] [] μ := by
  refine law_282 B _ _ _ ?_
  generalize (zG p l e room_1 s m #[Value.ref b] below meth c E 4 600000 7302250 (lw_Z below #[Value.ref b] s)) = GG at hk ⊢
  have r1 := lk_script_rg (xs ((i : Int) + 1).toNat)
  have r2 := lk_script_rg (xs ((i : Int) + 2).toNat)
  have r3 := lk_script_rg (xs ((i : Int) + 3).toNat)
  have r4 := lk_script_rg (xs ((i : Int) + 4).toNat)
  obtain ⟨v, hc⟩ := p_folder h r1
  simp only [o_c, o_il, o_al, o_is, o_inc, o_add, o_sub, o_and, o_sl, o_sn, t_same, o_callv, zpop, zsm8_0, zsm8_1, zsm8_2, zsm8_3, zsm8_4, zsm8_5, zrc, zisob, zsh_0, zsh_56, t_zeq, t_igt, t_sw, zsw, zrg, List.getElem?_cons_zero, List.getElem?_cons_succ, List.set_cons_zero, List.set_cons_succ, List.length_cons, List.length_nil, Option.toList_some, Option.toList_none, List.nil_append, List.cons_append, true_and, and_true]
  refine ⟨by omega, _, hc, ?_⟩
  rintro r μ1 ⟨rfl, hm⟩
  simp only [o_c, o_il, o_al, o_is, o_inc, o_add, o_sub, o_and, o_sl, o_sn, t_same, o_callv, zpop, zsm8_0, zsm8_1, zsm8_2, zsm8_3, zsm8_4, zsm8_5, zrc, zisob, zsh_0, zsh_56, t_zeq, t_igt, t_sw, zsw, zrg, List.getElem?_cons_zero, List.getElem?_cons_succ, List.set_cons_zero, List.set_cons_succ, List.length_cons, List.length_nil, Option.toList_some, Option.toList_none, List.nil_append, List.cons_append, true_and, and_true]
  refine ⟨by omega, _, hm, ?_⟩
  rintro r μ2 ⟨rfl, h2⟩
  simp only [o_c, o_il, o_al, o_is, o_inc, o_add, o_sub, o_and, o_sl, o_sn, t_same, o_callv, zpop, zsm8_0, zsm8_1, zsm8_2, zsm8_3, zsm8_4, zsm8_5, zrc, zisob, zsh_0, zsh_56, t_zeq, t_igt, t_sw, zsw, zrg, List.getElem?_cons_zero, List.getElem?_cons_succ, List.set_cons_zero, List.set_cons_succ, List.length_cons, List.length_nil, Option.toList_some, Option.toList_none, List.nil_append, List.cons_append, true_and, and_true]
  exact hk μ2 h2
set_option maxRecDepth 100000 in
set_option maxHeartbeats 4000000 in
theorem law_s7 {p : Program} {l : Launch} {e : Env} {s : State} {m : MethodId} {below : List Frame} {meth : Method} {c : Code} {E : zE} {b L : Nat} {xs : Nat → Int32} (B : zLw p s m c E b L xs) {i : Nat} {μ : zM} (hi : i + 5 ≤ L) (h : zST μ) (hk : ∀ μ2, zST μ2 → (zG p l e room_1 s m #[Value.ref b] below meth c E 4 600000 7302250 (lw_Z below #[Value.ref b] s)) 832 [.inr (some 1001), .inr (some 0), .inr (some 56), .inl (i : Int)] [] μ2) : (zG p l e room_1 s m #[Value.ref b] below meth c E 4 600000 7302250 (lw_Z below #[Value.ref b] s)) 305 [.inr (some 1001), .inr (some 0), .inr (some 56), .inl (i : Int)] [] μ := by
  refine law_305 B _ _ _ ?_
  generalize (zG p l e room_1 s m #[Value.ref b] below meth c E 4 600000 7302250 (lw_Z below #[Value.ref b] s)) = GG at hk ⊢
  have r1 := lk_script_rg (xs ((i : Int) + 1).toNat)
  have r2 := lk_script_rg (xs ((i : Int) + 2).toNat)
  have r3 := lk_script_rg (xs ((i : Int) + 3).toNat)
  have r4 := lk_script_rg (xs ((i : Int) + 4).toNat)
  obtain ⟨v, hc⟩ := p_bytes h r1 r2
  simp only [o_c, o_il, o_al, o_is, o_inc, o_add, o_sub, o_and, o_sl, o_sn, t_same, o_callv, zpop, zsm8_0, zsm8_1, zsm8_2, zsm8_3, zsm8_4, zsm8_5, zrc, zisob, zsh_0, zsh_56, t_zeq, t_igt, t_sw, zsw, zrg, List.getElem?_cons_zero, List.getElem?_cons_succ, List.set_cons_zero, List.set_cons_succ, List.length_cons, List.length_nil, Option.toList_some, Option.toList_none, List.nil_append, List.cons_append, true_and, and_true]
  refine ⟨by omega, by omega, _, hc, ?_⟩
  rintro r μ1 ⟨rfl, hm⟩
  simp only [o_c, o_il, o_al, o_is, o_inc, o_add, o_sub, o_and, o_sl, o_sn, t_same, o_callv, zpop, zsm8_0, zsm8_1, zsm8_2, zsm8_3, zsm8_4, zsm8_5, zrc, zisob, zsh_0, zsh_56, t_zeq, t_igt, t_sw, zsw, zrg, List.getElem?_cons_zero, List.getElem?_cons_succ, List.set_cons_zero, List.set_cons_succ, List.length_cons, List.length_nil, Option.toList_some, Option.toList_none, List.nil_append, List.cons_append, true_and, and_true]
  refine ⟨by omega, by omega, _, hm, ?_⟩
  rintro r μ2 ⟨rfl, h2⟩
  simp only [o_c, o_il, o_al, o_is, o_inc, o_add, o_sub, o_and, o_sl, o_sn, t_same, o_callv, zpop, zsm8_0, zsm8_1, zsm8_2, zsm8_3, zsm8_4, zsm8_5, zrc, zisob, zsh_0, zsh_56, t_zeq, t_igt, t_sw, zsw, zrg, List.getElem?_cons_zero, List.getElem?_cons_succ, List.set_cons_zero, List.set_cons_succ, List.length_cons, List.length_nil, Option.toList_some, Option.toList_none, List.nil_append, List.cons_append, true_and, and_true]
  exact hk μ2 h2
set_option maxRecDepth 100000 in
set_option maxHeartbeats 4000000 in
theorem law_s8 {p : Program} {l : Launch} {e : Env} {s : State} {m : MethodId} {below : List Frame} {meth : Method} {c : Code} {E : zE} {b L : Nat} {xs : Nat → Int32} (B : zLw p s m c E b L xs) {i : Nat} {μ : zM} (hi : i + 5 ≤ L) (h : zST μ) (hk : ∀ μ2, zST μ2 → (zG p l e room_1 s m #[Value.ref b] below meth c E 4 600000 7302250 (lw_Z below #[Value.ref b] s)) 832 [.inr (some 1001), .inr (some 0), .inr (some 56), .inl (i : Int)] [] μ2) : (zG p l e room_1 s m #[Value.ref b] below meth c E 4 600000 7302250 (lw_Z below #[Value.ref b] s)) 338 [.inr (some 1001), .inr (some 0), .inr (some 56), .inl (i : Int)] [] μ := by
  refine law_338 B _ _ _ ?_
  generalize (zG p l e room_1 s m #[Value.ref b] below meth c E 4 600000 7302250 (lw_Z below #[Value.ref b] s)) = GG at hk ⊢
  have r1 := lk_script_rg (xs ((i : Int) + 1).toNat)
  have r2 := lk_script_rg (xs ((i : Int) + 2).toNat)
  have r3 := lk_script_rg (xs ((i : Int) + 3).toNat)
  have r4 := lk_script_rg (xs ((i : Int) + 4).toNat)
  obtain ⟨v, hc⟩ := p_raw h r1 r2 r3
  simp only [o_c, o_il, o_al, o_is, o_inc, o_add, o_sub, o_and, o_sl, o_sn, t_same, o_callv, zpop, zsm8_0, zsm8_1, zsm8_2, zsm8_3, zsm8_4, zsm8_5, zrc, zisob, zsh_0, zsh_56, t_zeq, t_igt, t_sw, zsw, zrg, List.getElem?_cons_zero, List.getElem?_cons_succ, List.set_cons_zero, List.set_cons_succ, List.length_cons, List.length_nil, Option.toList_some, Option.toList_none, List.nil_append, List.cons_append, true_and, and_true]
  refine ⟨by omega, by omega, by omega, _, hc, ?_⟩
  rintro r μ1 ⟨rfl, hm⟩
  simp only [o_c, o_il, o_al, o_is, o_inc, o_add, o_sub, o_and, o_sl, o_sn, t_same, o_callv, zpop, zsm8_0, zsm8_1, zsm8_2, zsm8_3, zsm8_4, zsm8_5, zrc, zisob, zsh_0, zsh_56, t_zeq, t_igt, t_sw, zsw, zrg, List.getElem?_cons_zero, List.getElem?_cons_succ, List.set_cons_zero, List.set_cons_succ, List.length_cons, List.length_nil, Option.toList_some, Option.toList_none, List.nil_append, List.cons_append, true_and, and_true]
  refine ⟨by omega, by omega, by omega, _, hm, ?_⟩
  rintro r μ2 ⟨rfl, h2⟩
  simp only [o_c, o_il, o_al, o_is, o_inc, o_add, o_sub, o_and, o_sl, o_sn, t_same, o_callv, zpop, zsm8_0, zsm8_1, zsm8_2, zsm8_3, zsm8_4, zsm8_5, zrc, zisob, zsh_0, zsh_56, t_zeq, t_igt, t_sw, zsw, zrg, List.getElem?_cons_zero, List.getElem?_cons_succ, List.set_cons_zero, List.set_cons_succ, List.length_cons, List.length_nil, Option.toList_some, Option.toList_none, List.nil_append, List.cons_append, true_and, and_true]
  exact hk μ2 h2
set_option maxRecDepth 100000 in
set_option maxHeartbeats 4000000 in
theorem law_s9 {p : Program} {l : Launch} {e : Env} {s : State} {m : MethodId} {below : List Frame} {meth : Method} {c : Code} {E : zE} {b L : Nat} {xs : Nat → Int32} (B : zLw p s m c E b L xs) {i : Nat} {μ : zM} (hi : i + 5 ≤ L) (h : zST μ) (hk : ∀ μ2, zST μ2 → (zG p l e room_1 s m #[Value.ref b] below meth c E 4 600000 7302250 (lw_Z below #[Value.ref b] s)) 832 [.inr (some 1001), .inr (some 0), .inr (some 56), .inl (i : Int)] [] μ2) : (zG p l e room_1 s m #[Value.ref b] below meth c E 4 600000 7302250 (lw_Z below #[Value.ref b] s)) 381 [.inr (some 1001), .inr (some 0), .inr (some 56), .inl (i : Int)] [] μ := by
  refine law_381 B _ _ _ ?_
  generalize (zG p l e room_1 s m #[Value.ref b] below meth c E 4 600000 7302250 (lw_Z below #[Value.ref b] s)) = GG at hk ⊢
  have r1 := lk_script_rg (xs ((i : Int) + 1).toNat)
  have r2 := lk_script_rg (xs ((i : Int) + 2).toNat)
  have r3 := lk_script_rg (xs ((i : Int) + 3).toNat)
  have r4 := lk_script_rg (xs ((i : Int) + 4).toNat)
  obtain ⟨v, hc⟩ := p_length h r1 r2
  simp only [o_c, o_il, o_al, o_is, o_inc, o_add, o_sub, o_and, o_sl, o_sn, t_same, o_callv, zpop, zsm8_0, zsm8_1, zsm8_2, zsm8_3, zsm8_4, zsm8_5, zrc, zisob, zsh_0, zsh_56, t_zeq, t_igt, t_sw, zsw, zrg, List.getElem?_cons_zero, List.getElem?_cons_succ, List.set_cons_zero, List.set_cons_succ, List.length_cons, List.length_nil, Option.toList_some, Option.toList_none, List.nil_append, List.cons_append, true_and, and_true]
  refine ⟨by omega, by omega, _, hc, ?_⟩
  rintro r μ1 ⟨rfl, hm⟩
  simp only [o_c, o_il, o_al, o_is, o_inc, o_add, o_sub, o_and, o_sl, o_sn, t_same, o_callv, zpop, zsm8_0, zsm8_1, zsm8_2, zsm8_3, zsm8_4, zsm8_5, zrc, zisob, zsh_0, zsh_56, t_zeq, t_igt, t_sw, zsw, zrg, List.getElem?_cons_zero, List.getElem?_cons_succ, List.set_cons_zero, List.set_cons_succ, List.length_cons, List.length_nil, Option.toList_some, Option.toList_none, List.nil_append, List.cons_append, true_and, and_true]
  refine ⟨by omega, by omega, _, hm, ?_⟩
  rintro r μ2 ⟨rfl, h2⟩
  simp only [o_c, o_il, o_al, o_is, o_inc, o_add, o_sub, o_and, o_sl, o_sn, t_same, o_callv, zpop, zsm8_0, zsm8_1, zsm8_2, zsm8_3, zsm8_4, zsm8_5, zrc, zisob, zsh_0, zsh_56, t_zeq, t_igt, t_sw, zsw, zrg, List.getElem?_cons_zero, List.getElem?_cons_succ, List.set_cons_zero, List.set_cons_succ, List.length_cons, List.length_nil, Option.toList_some, Option.toList_none, List.nil_append, List.cons_append, true_and, and_true]
  exact hk μ2 h2
set_option maxRecDepth 100000 in
set_option maxHeartbeats 4000000 in
theorem law_s10 {p : Program} {l : Launch} {e : Env} {s : State} {m : MethodId} {below : List Frame} {meth : Method} {c : Code} {E : zE} {b L : Nat} {xs : Nat → Int32} (B : zLw p s m c E b L xs) {i : Nat} {μ : zM} (hi : i + 5 ≤ L) (h : zST μ) (hk : ∀ μ2, zST μ2 → (zG p l e room_1 s m #[Value.ref b] below meth c E 4 600000 7302250 (lw_Z below #[Value.ref b] s)) 832 [.inr (some 1001), .inr (some 0), .inr (some 56), .inl (i : Int)] [] μ2) : (zG p l e room_1 s m #[Value.ref b] below meth c E 4 600000 7302250 (lw_Z below #[Value.ref b] s)) 414 [.inr (some 1001), .inr (some 0), .inr (some 56), .inl (i : Int)] [] μ := by
  refine law_414 B _ _ _ ?_
  generalize (zG p l e room_1 s m #[Value.ref b] below meth c E 4 600000 7302250 (lw_Z below #[Value.ref b] s)) = GG at hk ⊢
  have r1 := lk_script_rg (xs ((i : Int) + 1).toNat)
  have r2 := lk_script_rg (xs ((i : Int) + 2).toNat)
  have r3 := lk_script_rg (xs ((i : Int) + 3).toNat)
  have r4 := lk_script_rg (xs ((i : Int) + 4).toNat)
  obtain ⟨v, hc⟩ := p_read h r1 r2 r3
  simp only [o_c, o_il, o_al, o_is, o_inc, o_add, o_sub, o_and, o_sl, o_sn, t_same, o_callv, zpop, zsm8_0, zsm8_1, zsm8_2, zsm8_3, zsm8_4, zsm8_5, zrc, zisob, zsh_0, zsh_56, t_zeq, t_igt, t_sw, zsw, zrg, List.getElem?_cons_zero, List.getElem?_cons_succ, List.set_cons_zero, List.set_cons_succ, List.length_cons, List.length_nil, Option.toList_some, Option.toList_none, List.nil_append, List.cons_append, true_and, and_true]
  refine ⟨by omega, by omega, by omega, _, hc, ?_⟩
  rintro r μ1 ⟨rfl, hm⟩
  simp only [o_c, o_il, o_al, o_is, o_inc, o_add, o_sub, o_and, o_sl, o_sn, t_same, o_callv, zpop, zsm8_0, zsm8_1, zsm8_2, zsm8_3, zsm8_4, zsm8_5, zrc, zisob, zsh_0, zsh_56, t_zeq, t_igt, t_sw, zsw, zrg, List.getElem?_cons_zero, List.getElem?_cons_succ, List.set_cons_zero, List.set_cons_succ, List.length_cons, List.length_nil, Option.toList_some, Option.toList_none, List.nil_append, List.cons_append, true_and, and_true]
  refine ⟨by omega, by omega, by omega, _, hm, ?_⟩
  rintro r μ2 ⟨rfl, h2⟩
  simp only [o_c, o_il, o_al, o_is, o_inc, o_add, o_sub, o_and, o_sl, o_sn, t_same, o_callv, zpop, zsm8_0, zsm8_1, zsm8_2, zsm8_3, zsm8_4, zsm8_5, zrc, zisob, zsh_0, zsh_56, t_zeq, t_igt, t_sw, zsw, zrg, List.getElem?_cons_zero, List.getElem?_cons_succ, List.set_cons_zero, List.set_cons_succ, List.length_cons, List.length_nil, Option.toList_some, Option.toList_none, List.nil_append, List.cons_append, true_and, and_true]
  exact hk μ2 h2
set_option maxRecDepth 100000 in
set_option maxHeartbeats 4000000 in
theorem law_s11 {p : Program} {l : Launch} {e : Env} {s : State} {m : MethodId} {below : List Frame} {meth : Method} {c : Code} {E : zE} {b L : Nat} {xs : Nat → Int32} (B : zLw p s m c E b L xs) {i : Nat} {μ : zM} (hi : i + 5 ≤ L) (h : zST μ) (hk : ∀ μ2, zST μ2 → (zG p l e room_1 s m #[Value.ref b] below meth c E 4 600000 7302250 (lw_Z below #[Value.ref b] s)) 832 [.inr (some 1001), .inr (some 0), .inr (some 56), .inl (i : Int)] [] μ2) : (zG p l e room_1 s m #[Value.ref b] below meth c E 4 600000 7302250 (lw_Z below #[Value.ref b] s)) 457 [.inr (some 1001), .inr (some 0), .inr (some 56), .inl (i : Int)] [] μ := by
  refine law_457 B _ _ _ ?_
  generalize (zG p l e room_1 s m #[Value.ref b] below meth c E 4 600000 7302250 (lw_Z below #[Value.ref b] s)) = GG at hk ⊢
  have r1 := lk_script_rg (xs ((i : Int) + 1).toNat)
  have r2 := lk_script_rg (xs ((i : Int) + 2).toNat)
  have r3 := lk_script_rg (xs ((i : Int) + 3).toNat)
  have r4 := lk_script_rg (xs ((i : Int) + 4).toNat)
  obtain ⟨v, hc⟩ := p_find h r1 r2 r3
  simp only [o_c, o_il, o_al, o_is, o_inc, o_add, o_sub, o_and, o_sl, o_sn, t_same, o_callv, zpop, zsm8_0, zsm8_1, zsm8_2, zsm8_3, zsm8_4, zsm8_5, zrc, zisob, zsh_0, zsh_56, t_zeq, t_igt, t_sw, zsw, zrg, List.getElem?_cons_zero, List.getElem?_cons_succ, List.set_cons_zero, List.set_cons_succ, List.length_cons, List.length_nil, Option.toList_some, Option.toList_none, List.nil_append, List.cons_append, true_and, and_true]
  refine ⟨by omega, by omega, by omega, _, hc, ?_⟩
  rintro r μ1 ⟨rfl, hm⟩
  simp only [o_c, o_il, o_al, o_is, o_inc, o_add, o_sub, o_and, o_sl, o_sn, t_same, o_callv, zpop, zsm8_0, zsm8_1, zsm8_2, zsm8_3, zsm8_4, zsm8_5, zrc, zisob, zsh_0, zsh_56, t_zeq, t_igt, t_sw, zsw, zrg, List.getElem?_cons_zero, List.getElem?_cons_succ, List.set_cons_zero, List.set_cons_succ, List.length_cons, List.length_nil, Option.toList_some, Option.toList_none, List.nil_append, List.cons_append, true_and, and_true]
  refine ⟨by omega, by omega, by omega, _, hm, ?_⟩
  rintro r μ2 ⟨rfl, h2⟩
  simp only [o_c, o_il, o_al, o_is, o_inc, o_add, o_sub, o_and, o_sl, o_sn, t_same, o_callv, zpop, zsm8_0, zsm8_1, zsm8_2, zsm8_3, zsm8_4, zsm8_5, zrc, zisob, zsh_0, zsh_56, t_zeq, t_igt, t_sw, zsw, zrg, List.getElem?_cons_zero, List.getElem?_cons_succ, List.set_cons_zero, List.set_cons_succ, List.length_cons, List.length_nil, Option.toList_some, Option.toList_none, List.nil_append, List.cons_append, true_and, and_true]
  exact hk μ2 h2
set_option maxRecDepth 100000 in
set_option maxHeartbeats 4000000 in
theorem law_s12 {p : Program} {l : Launch} {e : Env} {s : State} {m : MethodId} {below : List Frame} {meth : Method} {c : Code} {E : zE} {b L : Nat} {xs : Nat → Int32} (B : zLw p s m c E b L xs) {i : Nat} {μ : zM} (hi : i + 5 ≤ L) (h : zST μ) (hk : ∀ μ2, zST μ2 → (zG p l e room_1 s m #[Value.ref b] below meth c E 4 600000 7302250 (lw_Z below #[Value.ref b] s)) 832 [.inr (some 1001), .inr (some 0), .inr (some 56), .inl (i : Int)] [] μ2) : (zG p l e room_1 s m #[Value.ref b] below meth c E 4 600000 7302250 (lw_Z below #[Value.ref b] s)) 500 [.inr (some 1001), .inr (some 0), .inr (some 56), .inl (i : Int)] [] μ := by
  refine law_500 B _ _ _ ?_
  generalize (zG p l e room_1 s m #[Value.ref b] below meth c E 4 600000 7302250 (lw_Z below #[Value.ref b] s)) = GG at hk ⊢
  have r1 := lk_script_rg (xs ((i : Int) + 1).toNat)
  have r2 := lk_script_rg (xs ((i : Int) + 2).toNat)
  have r3 := lk_script_rg (xs ((i : Int) + 3).toNat)
  have r4 := lk_script_rg (xs ((i : Int) + 4).toNat)
  simp only [o_c, o_il, o_al, o_is, o_inc, o_add, o_sub, o_and, o_sl, o_sn, t_same, o_callv, zpop, zsm8_0, zsm8_1, zsm8_2, zsm8_3, zsm8_4, zsm8_5, zrc, zisob, zsh_0, zsh_56, t_zeq, t_igt, t_sw, zsw, zrg, List.getElem?_cons_zero, List.getElem?_cons_succ, List.set_cons_zero, List.set_cons_succ, List.length_cons, List.length_nil, Option.toList_some, Option.toList_none, List.nil_append, List.cons_append, true_and, and_true]
  refine ⟨by omega, by omega, by omega, r3, fun w3 => ⟨by omega, r4, fun w4 => ?_, fun w4 => ?_⟩, fun w3 => ⟨by omega, r4, fun w4 => ?_, fun w4 => ?_⟩⟩
  · obtain ⟨v, hc⟩ := p_pin (dp := 0) (on := 0) h r1 r2 (by omega) (by omega)
    refine ⟨_, hc, ?_⟩
    rintro r μ1 ⟨rfl, hm⟩
    simp only [o_c, o_il, o_al, o_is, o_inc, o_add, o_sub, o_and, o_sl, o_sn, t_same, o_callv, zpop, zsm8_0, zsm8_1, zsm8_2, zsm8_3, zsm8_4, zsm8_5, zrc, zisob, zsh_0, zsh_56, t_zeq, t_igt, t_sw, zsw, zrg, List.getElem?_cons_zero, List.getElem?_cons_succ, List.set_cons_zero, List.set_cons_succ, List.length_cons, List.length_nil, Option.toList_some, Option.toList_none, List.nil_append, List.cons_append, true_and, and_true]
    refine ⟨by omega, by omega, by omega, r3, fun z3 => ?_, fun z3 => absurd w3 z3⟩
    refine ⟨by omega, r4, fun z4 => ?_, fun z4 => absurd w4 z4⟩
    refine ⟨_, hm, ?_⟩
    rintro r μ2 ⟨rfl, h2⟩
    simp only [o_c, o_il, o_al, o_is, o_inc, o_add, o_sub, o_and, o_sl, o_sn, t_same, o_callv, zpop, zsm8_0, zsm8_1, zsm8_2, zsm8_3, zsm8_4, zsm8_5, zrc, zisob, zsh_0, zsh_56, t_zeq, t_igt, t_sw, zsw, zrg, List.getElem?_cons_zero, List.getElem?_cons_succ, List.set_cons_zero, List.set_cons_succ, List.length_cons, List.length_nil, Option.toList_some, Option.toList_none, List.nil_append, List.cons_append, true_and, and_true]
    exact hk μ2 h2
  · obtain ⟨v, hc⟩ := p_pin (dp := 0) (on := 1) h r1 r2 (by omega) (by omega)
    refine ⟨_, hc, ?_⟩
    rintro r μ1 ⟨rfl, hm⟩
    simp only [o_c, o_il, o_al, o_is, o_inc, o_add, o_sub, o_and, o_sl, o_sn, t_same, o_callv, zpop, zsm8_0, zsm8_1, zsm8_2, zsm8_3, zsm8_4, zsm8_5, zrc, zisob, zsh_0, zsh_56, t_zeq, t_igt, t_sw, zsw, zrg, List.getElem?_cons_zero, List.getElem?_cons_succ, List.set_cons_zero, List.set_cons_succ, List.length_cons, List.length_nil, Option.toList_some, Option.toList_none, List.nil_append, List.cons_append, true_and, and_true]
    refine ⟨by omega, by omega, by omega, r3, fun z3 => ?_, fun z3 => absurd w3 z3⟩
    refine ⟨by omega, r4, fun z4 => absurd z4 w4, fun z4 => ?_⟩
    refine ⟨_, hm, ?_⟩
    rintro r μ2 ⟨rfl, h2⟩
    simp only [o_c, o_il, o_al, o_is, o_inc, o_add, o_sub, o_and, o_sl, o_sn, t_same, o_callv, zpop, zsm8_0, zsm8_1, zsm8_2, zsm8_3, zsm8_4, zsm8_5, zrc, zisob, zsh_0, zsh_56, t_zeq, t_igt, t_sw, zsw, zrg, List.getElem?_cons_zero, List.getElem?_cons_succ, List.set_cons_zero, List.set_cons_succ, List.length_cons, List.length_nil, Option.toList_some, Option.toList_none, List.nil_append, List.cons_append, true_and, and_true]
    exact hk μ2 h2
  · obtain ⟨v, hc⟩ := p_pin (dp := 1) (on := 0) h r1 r2 (by omega) (by omega)
    refine ⟨_, hc, ?_⟩
    rintro r μ1 ⟨rfl, hm⟩
    simp only [o_c, o_il, o_al, o_is, o_inc, o_add, o_sub, o_and, o_sl, o_sn, t_same, o_callv, zpop, zsm8_0, zsm8_1, zsm8_2, zsm8_3, zsm8_4, zsm8_5, zrc, zisob, zsh_0, zsh_56, t_zeq, t_igt, t_sw, zsw, zrg, List.getElem?_cons_zero, List.getElem?_cons_succ, List.set_cons_zero, List.set_cons_succ, List.length_cons, List.length_nil, Option.toList_some, Option.toList_none, List.nil_append, List.cons_append, true_and, and_true]
    refine ⟨by omega, by omega, by omega, r3, fun z3 => absurd z3 w3, fun z3 => ?_⟩
    refine ⟨by omega, r4, fun z4 => ?_, fun z4 => absurd w4 z4⟩
    refine ⟨_, hm, ?_⟩
    rintro r μ2 ⟨rfl, h2⟩
    simp only [o_c, o_il, o_al, o_is, o_inc, o_add, o_sub, o_and, o_sl, o_sn, t_same, o_callv, zpop, zsm8_0, zsm8_1, zsm8_2, zsm8_3, zsm8_4, zsm8_5, zrc, zisob, zsh_0, zsh_56, t_zeq, t_igt, t_sw, zsw, zrg, List.getElem?_cons_zero, List.getElem?_cons_succ, List.set_cons_zero, List.set_cons_succ, List.length_cons, List.length_nil, Option.toList_some, Option.toList_none, List.nil_append, List.cons_append, true_and, and_true]
    exact hk μ2 h2
  · obtain ⟨v, hc⟩ := p_pin (dp := 1) (on := 1) h r1 r2 (by omega) (by omega)
    refine ⟨_, hc, ?_⟩
    rintro r μ1 ⟨rfl, hm⟩
    simp only [o_c, o_il, o_al, o_is, o_inc, o_add, o_sub, o_and, o_sl, o_sn, t_same, o_callv, zpop, zsm8_0, zsm8_1, zsm8_2, zsm8_3, zsm8_4, zsm8_5, zrc, zisob, zsh_0, zsh_56, t_zeq, t_igt, t_sw, zsw, zrg, List.getElem?_cons_zero, List.getElem?_cons_succ, List.set_cons_zero, List.set_cons_succ, List.length_cons, List.length_nil, Option.toList_some, Option.toList_none, List.nil_append, List.cons_append, true_and, and_true]
    refine ⟨by omega, by omega, by omega, r3, fun z3 => absurd z3 w3, fun z3 => ?_⟩
    refine ⟨by omega, r4, fun z4 => absurd z4 w4, fun z4 => ?_⟩
    refine ⟨_, hm, ?_⟩
    rintro r μ2 ⟨rfl, h2⟩
    simp only [o_c, o_il, o_al, o_is, o_inc, o_add, o_sub, o_and, o_sl, o_sn, t_same, o_callv, zpop, zsm8_0, zsm8_1, zsm8_2, zsm8_3, zsm8_4, zsm8_5, zrc, zisob, zsh_0, zsh_56, t_zeq, t_igt, t_sw, zsw, zrg, List.getElem?_cons_zero, List.getElem?_cons_succ, List.set_cons_zero, List.set_cons_succ, List.length_cons, List.length_nil, Option.toList_some, Option.toList_none, List.nil_append, List.cons_append, true_and, and_true]
    exact hk μ2 h2
set_option maxRecDepth 100000 in
set_option maxHeartbeats 4000000 in
theorem law_s13 {p : Program} {l : Launch} {e : Env} {s : State} {m : MethodId} {below : List Frame} {meth : Method} {c : Code} {E : zE} {b L : Nat} {xs : Nat → Int32} (B : zLw p s m c E b L xs) {i : Nat} {μ : zM} (hi : i + 5 ≤ L) (h : zST μ) (hk : ∀ μ2, zST μ2 → (zG p l e room_1 s m #[Value.ref b] below meth c E 4 600000 7302250 (lw_Z below #[Value.ref b] s)) 832 [.inr (some 1001), .inr (some 0), .inr (some 56), .inl (i : Int)] [] μ2) : (zG p l e room_1 s m #[Value.ref b] below meth c E 4 600000 7302250 (lw_Z below #[Value.ref b] s)) 585 [.inr (some 1001), .inr (some 0), .inr (some 56), .inl (i : Int)] [] μ := by
  refine law_585 B _ _ _ ?_
  generalize (zG p l e room_1 s m #[Value.ref b] below meth c E 4 600000 7302250 (lw_Z below #[Value.ref b] s)) = GG at hk ⊢
  have r1 := lk_script_rg (xs ((i : Int) + 1).toNat)
  have r2 := lk_script_rg (xs ((i : Int) + 2).toNat)
  have r3 := lk_script_rg (xs ((i : Int) + 3).toNat)
  have r4 := lk_script_rg (xs ((i : Int) + 4).toNat)
  obtain ⟨v, hc⟩ := p_collect h r1
  simp only [o_c, o_il, o_al, o_is, o_inc, o_add, o_sub, o_and, o_sl, o_sn, t_same, o_callv, zpop, zsm8_0, zsm8_1, zsm8_2, zsm8_3, zsm8_4, zsm8_5, zrc, zisob, zsh_0, zsh_56, t_zeq, t_igt, t_sw, zsw, zrg, List.getElem?_cons_zero, List.getElem?_cons_succ, List.set_cons_zero, List.set_cons_succ, List.length_cons, List.length_nil, Option.toList_some, Option.toList_none, List.nil_append, List.cons_append, true_and, and_true]
  refine ⟨by omega, _, hc, ?_⟩
  rintro r μ1 ⟨rfl, hm⟩
  simp only [o_c, o_il, o_al, o_is, o_inc, o_add, o_sub, o_and, o_sl, o_sn, t_same, o_callv, zpop, zsm8_0, zsm8_1, zsm8_2, zsm8_3, zsm8_4, zsm8_5, zrc, zisob, zsh_0, zsh_56, t_zeq, t_igt, t_sw, zsw, zrg, List.getElem?_cons_zero, List.getElem?_cons_succ, List.set_cons_zero, List.set_cons_succ, List.length_cons, List.length_nil, Option.toList_some, Option.toList_none, List.nil_append, List.cons_append, true_and, and_true]
  refine ⟨by omega, _, hm, ?_⟩
  rintro r μ2 ⟨rfl, h2⟩
  simp only [o_c, o_il, o_al, o_is, o_inc, o_add, o_sub, o_and, o_sl, o_sn, t_same, o_callv, zpop, zsm8_0, zsm8_1, zsm8_2, zsm8_3, zsm8_4, zsm8_5, zrc, zisob, zsh_0, zsh_56, t_zeq, t_igt, t_sw, zsw, zrg, List.getElem?_cons_zero, List.getElem?_cons_succ, List.set_cons_zero, List.set_cons_succ, List.length_cons, List.length_nil, Option.toList_some, Option.toList_none, List.nil_append, List.cons_append, true_and, and_true]
  exact hk μ2 h2
set_option maxRecDepth 100000 in
set_option maxHeartbeats 4000000 in
theorem law_s14 {p : Program} {l : Launch} {e : Env} {s : State} {m : MethodId} {below : List Frame} {meth : Method} {c : Code} {E : zE} {b L : Nat} {xs : Nat → Int32} (B : zLw p s m c E b L xs) {i : Nat} {μ : zM} (hi : i + 5 ≤ L) (h : zST μ) (hk : ∀ μ2, zST μ2 → (zG p l e room_1 s m #[Value.ref b] below meth c E 4 600000 7302250 (lw_Z below #[Value.ref b] s)) 832 [.inr (some 1001), .inr (some 0), .inr (some 56), .inl (i : Int)] [] μ2) : (zG p l e room_1 s m #[Value.ref b] below meth c E 4 600000 7302250 (lw_Z below #[Value.ref b] s)) 608 [.inr (some 1001), .inr (some 0), .inr (some 56), .inl (i : Int)] [] μ := by
  refine law_608 B _ _ _ ?_
  generalize (zG p l e room_1 s m #[Value.ref b] below meth c E 4 600000 7302250 (lw_Z below #[Value.ref b] s)) = GG at hk ⊢
  have r1 := lk_script_rg (xs ((i : Int) + 1).toNat)
  have r2 := lk_script_rg (xs ((i : Int) + 2).toNat)
  have r3 := lk_script_rg (xs ((i : Int) + 3).toNat)
  have r4 := lk_script_rg (xs ((i : Int) + 4).toNat)
  obtain ⟨v, hc⟩ := p_blocks h r1
  simp only [o_c, o_il, o_al, o_is, o_inc, o_add, o_sub, o_and, o_sl, o_sn, t_same, o_callv, zpop, zsm8_0, zsm8_1, zsm8_2, zsm8_3, zsm8_4, zsm8_5, zrc, zisob, zsh_0, zsh_56, t_zeq, t_igt, t_sw, zsw, zrg, List.getElem?_cons_zero, List.getElem?_cons_succ, List.set_cons_zero, List.set_cons_succ, List.length_cons, List.length_nil, Option.toList_some, Option.toList_none, List.nil_append, List.cons_append, true_and, and_true]
  refine ⟨by omega, _, hc, ?_⟩
  rintro r μ1 ⟨rfl, hm⟩
  simp only [o_c, o_il, o_al, o_is, o_inc, o_add, o_sub, o_and, o_sl, o_sn, t_same, o_callv, zpop, zsm8_0, zsm8_1, zsm8_2, zsm8_3, zsm8_4, zsm8_5, zrc, zisob, zsh_0, zsh_56, t_zeq, t_igt, t_sw, zsw, zrg, List.getElem?_cons_zero, List.getElem?_cons_succ, List.set_cons_zero, List.set_cons_succ, List.length_cons, List.length_nil, Option.toList_some, Option.toList_none, List.nil_append, List.cons_append, true_and, and_true]
  refine ⟨by omega, _, hm, ?_⟩
  rintro r μ2 ⟨rfl, h2⟩
  simp only [o_c, o_il, o_al, o_is, o_inc, o_add, o_sub, o_and, o_sl, o_sn, t_same, o_callv, zpop, zsm8_0, zsm8_1, zsm8_2, zsm8_3, zsm8_4, zsm8_5, zrc, zisob, zsh_0, zsh_56, t_zeq, t_igt, t_sw, zsw, zrg, List.getElem?_cons_zero, List.getElem?_cons_succ, List.set_cons_zero, List.set_cons_succ, List.length_cons, List.length_nil, Option.toList_some, Option.toList_none, List.nil_append, List.cons_append, true_and, and_true]
  exact hk μ2 h2
set_option maxRecDepth 100000 in
set_option maxHeartbeats 4000000 in
theorem law_s15 {p : Program} {l : Launch} {e : Env} {s : State} {m : MethodId} {below : List Frame} {meth : Method} {c : Code} {E : zE} {b L : Nat} {xs : Nat → Int32} (B : zLw p s m c E b L xs) {i : Nat} {μ : zM} (hi : i + 5 ≤ L) (h : zST μ) (hk : ∀ μ2, zST μ2 → (zG p l e room_1 s m #[Value.ref b] below meth c E 4 600000 7302250 (lw_Z below #[Value.ref b] s)) 832 [.inr (some 1001), .inr (some 0), .inr (some 56), .inl (i : Int)] [] μ2) : (zG p l e room_1 s m #[Value.ref b] below meth c E 4 600000 7302250 (lw_Z below #[Value.ref b] s)) 631 [.inr (some 1001), .inr (some 0), .inr (some 56), .inl (i : Int)] [] μ := by
  refine law_631 B _ _ _ ?_
  generalize (zG p l e room_1 s m #[Value.ref b] below meth c E 4 600000 7302250 (lw_Z below #[Value.ref b] s)) = GG at hk ⊢
  have r1 := lk_script_rg (xs ((i : Int) + 1).toNat)
  have r2 := lk_script_rg (xs ((i : Int) + 2).toNat)
  have r3 := lk_script_rg (xs ((i : Int) + 3).toNat)
  have r4 := lk_script_rg (xs ((i : Int) + 4).toNat)
  obtain ⟨v, hc⟩ := p_fetch h r1 r2 r3
  simp only [o_c, o_il, o_al, o_is, o_inc, o_add, o_sub, o_and, o_sl, o_sn, t_same, o_callv, zpop, zsm8_0, zsm8_1, zsm8_2, zsm8_3, zsm8_4, zsm8_5, zrc, zisob, zsh_0, zsh_56, t_zeq, t_igt, t_sw, zsw, zrg, List.getElem?_cons_zero, List.getElem?_cons_succ, List.set_cons_zero, List.set_cons_succ, List.length_cons, List.length_nil, Option.toList_some, Option.toList_none, List.nil_append, List.cons_append, true_and, and_true]
  refine ⟨by omega, by omega, by omega, _, hc, ?_⟩
  rintro r μ1 ⟨rfl, hm⟩
  simp only [o_c, o_il, o_al, o_is, o_inc, o_add, o_sub, o_and, o_sl, o_sn, t_same, o_callv, zpop, zsm8_0, zsm8_1, zsm8_2, zsm8_3, zsm8_4, zsm8_5, zrc, zisob, zsh_0, zsh_56, t_zeq, t_igt, t_sw, zsw, zrg, List.getElem?_cons_zero, List.getElem?_cons_succ, List.set_cons_zero, List.set_cons_succ, List.length_cons, List.length_nil, Option.toList_some, Option.toList_none, List.nil_append, List.cons_append, true_and, and_true]
  refine ⟨by omega, by omega, by omega, _, hm, ?_⟩
  rintro r μ2 ⟨rfl, h2⟩
  simp only [o_c, o_il, o_al, o_is, o_inc, o_add, o_sub, o_and, o_sl, o_sn, t_same, o_callv, zpop, zsm8_0, zsm8_1, zsm8_2, zsm8_3, zsm8_4, zsm8_5, zrc, zisob, zsh_0, zsh_56, t_zeq, t_igt, t_sw, zsw, zrg, List.getElem?_cons_zero, List.getElem?_cons_succ, List.set_cons_zero, List.set_cons_succ, List.length_cons, List.length_nil, Option.toList_some, Option.toList_none, List.nil_append, List.cons_append, true_and, and_true]
  exact hk μ2 h2
set_option maxRecDepth 100000 in
set_option maxHeartbeats 4000000 in
theorem law_s16 {p : Program} {l : Launch} {e : Env} {s : State} {m : MethodId} {below : List Frame} {meth : Method} {c : Code} {E : zE} {b L : Nat} {xs : Nat → Int32} (B : zLw p s m c E b L xs) {i : Nat} {μ : zM} (hi : i + 5 ≤ L) (h : zST μ) (hk : ∀ μ2, zST μ2 → (zG p l e room_1 s m #[Value.ref b] below meth c E 4 600000 7302250 (lw_Z below #[Value.ref b] s)) 832 [.inr (some 1001), .inr (some 0), .inr (some 56), .inl (i : Int)] [] μ2) : (zG p l e room_1 s m #[Value.ref b] below meth c E 4 600000 7302250 (lw_Z below #[Value.ref b] s)) 674 [.inr (some 1001), .inr (some 0), .inr (some 56), .inl (i : Int)] [] μ := by
  refine law_674 B _ _ _ ?_
  generalize (zG p l e room_1 s m #[Value.ref b] below meth c E 4 600000 7302250 (lw_Z below #[Value.ref b] s)) = GG at hk ⊢
  have r1 := lk_script_rg (xs ((i : Int) + 1).toNat)
  have r2 := lk_script_rg (xs ((i : Int) + 2).toNat)
  have r3 := lk_script_rg (xs ((i : Int) + 3).toNat)
  have r4 := lk_script_rg (xs ((i : Int) + 4).toNat)
  obtain ⟨v, hc⟩ := p_retry h r1
  simp only [o_c, o_il, o_al, o_is, o_inc, o_add, o_sub, o_and, o_sl, o_sn, t_same, o_callv, zpop, zsm8_0, zsm8_1, zsm8_2, zsm8_3, zsm8_4, zsm8_5, zrc, zisob, zsh_0, zsh_56, t_zeq, t_igt, t_sw, zsw, zrg, List.getElem?_cons_zero, List.getElem?_cons_succ, List.set_cons_zero, List.set_cons_succ, List.length_cons, List.length_nil, Option.toList_some, Option.toList_none, List.nil_append, List.cons_append, true_and, and_true]
  refine ⟨by omega, _, hc, ?_⟩
  rintro r μ1 ⟨rfl, hm⟩
  simp only [o_c, o_il, o_al, o_is, o_inc, o_add, o_sub, o_and, o_sl, o_sn, t_same, o_callv, zpop, zsm8_0, zsm8_1, zsm8_2, zsm8_3, zsm8_4, zsm8_5, zrc, zisob, zsh_0, zsh_56, t_zeq, t_igt, t_sw, zsw, zrg, List.getElem?_cons_zero, List.getElem?_cons_succ, List.set_cons_zero, List.set_cons_succ, List.length_cons, List.length_nil, Option.toList_some, Option.toList_none, List.nil_append, List.cons_append, true_and, and_true]
  refine ⟨by omega, _, hm, ?_⟩
  rintro r μ2 ⟨rfl, h2⟩
  simp only [o_c, o_il, o_al, o_is, o_inc, o_add, o_sub, o_and, o_sl, o_sn, t_same, o_callv, zpop, zsm8_0, zsm8_1, zsm8_2, zsm8_3, zsm8_4, zsm8_5, zrc, zisob, zsh_0, zsh_56, t_zeq, t_igt, t_sw, zsw, zrg, List.getElem?_cons_zero, List.getElem?_cons_succ, List.set_cons_zero, List.set_cons_succ, List.length_cons, List.length_nil, Option.toList_some, Option.toList_none, List.nil_append, List.cons_append, true_and, and_true]
  exact hk μ2 h2
set_option maxRecDepth 100000 in
set_option maxHeartbeats 4000000 in
theorem law_s17 {p : Program} {l : Launch} {e : Env} {s : State} {m : MethodId} {below : List Frame} {meth : Method} {c : Code} {E : zE} {b L : Nat} {xs : Nat → Int32} (B : zLw p s m c E b L xs) {i : Nat} {μ : zM} (hi : i + 5 ≤ L) (h : zST μ) (hk : ∀ μ2, zST μ2 → (zG p l e room_1 s m #[Value.ref b] below meth c E 4 600000 7302250 (lw_Z below #[Value.ref b] s)) 832 [.inr (some 1001), .inr (some 0), .inr (some 56), .inl (i : Int)] [] μ2) : (zG p l e room_1 s m #[Value.ref b] below meth c E 4 600000 7302250 (lw_Z below #[Value.ref b] s)) 697 [.inr (some 1001), .inr (some 0), .inr (some 56), .inl (i : Int)] [] μ := by
  refine law_697 B _ _ _ ?_
  generalize (zG p l e room_1 s m #[Value.ref b] below meth c E 4 600000 7302250 (lw_Z below #[Value.ref b] s)) = GG at hk ⊢
  have r1 := lk_script_rg (xs ((i : Int) + 1).toNat)
  have r2 := lk_script_rg (xs ((i : Int) + 2).toNat)
  have r3 := lk_script_rg (xs ((i : Int) + 3).toNat)
  have r4 := lk_script_rg (xs ((i : Int) + 4).toNat)
  obtain ⟨v, hc⟩ := p_deliver h r1
  simp only [o_c, o_il, o_al, o_is, o_inc, o_add, o_sub, o_and, o_sl, o_sn, t_same, o_callv, zpop, zsm8_0, zsm8_1, zsm8_2, zsm8_3, zsm8_4, zsm8_5, zrc, zisob, zsh_0, zsh_56, t_zeq, t_igt, t_sw, zsw, zrg, List.getElem?_cons_zero, List.getElem?_cons_succ, List.set_cons_zero, List.set_cons_succ, List.length_cons, List.length_nil, Option.toList_some, Option.toList_none, List.nil_append, List.cons_append, true_and, and_true]
  refine ⟨by omega, _, hc, ?_⟩
  rintro r μ1 ⟨rfl, hm⟩
  simp only [o_c, o_il, o_al, o_is, o_inc, o_add, o_sub, o_and, o_sl, o_sn, t_same, o_callv, zpop, zsm8_0, zsm8_1, zsm8_2, zsm8_3, zsm8_4, zsm8_5, zrc, zisob, zsh_0, zsh_56, t_zeq, t_igt, t_sw, zsw, zrg, List.getElem?_cons_zero, List.getElem?_cons_succ, List.set_cons_zero, List.set_cons_succ, List.length_cons, List.length_nil, Option.toList_some, Option.toList_none, List.nil_append, List.cons_append, true_and, and_true]
  refine ⟨by omega, _, hm, ?_⟩
  rintro r μ2 ⟨rfl, h2⟩
  simp only [o_c, o_il, o_al, o_is, o_inc, o_add, o_sub, o_and, o_sl, o_sn, t_same, o_callv, zpop, zsm8_0, zsm8_1, zsm8_2, zsm8_3, zsm8_4, zsm8_5, zrc, zisob, zsh_0, zsh_56, t_zeq, t_igt, t_sw, zsw, zrg, List.getElem?_cons_zero, List.getElem?_cons_succ, List.set_cons_zero, List.set_cons_succ, List.length_cons, List.length_nil, Option.toList_some, Option.toList_none, List.nil_append, List.cons_append, true_and, and_true]
  exact hk μ2 h2
set_option maxRecDepth 100000 in
set_option maxHeartbeats 4000000 in
theorem law_s18 {p : Program} {l : Launch} {e : Env} {s : State} {m : MethodId} {below : List Frame} {meth : Method} {c : Code} {E : zE} {b L : Nat} {xs : Nat → Int32} (B : zLw p s m c E b L xs) {i : Nat} {μ : zM} (hi : i + 5 ≤ L) (h : zST μ) (hk : ∀ μ2, zST μ2 → (zG p l e room_1 s m #[Value.ref b] below meth c E 4 600000 7302250 (lw_Z below #[Value.ref b] s)) 832 [.inr (some 1001), .inr (some 0), .inr (some 56), .inl (i : Int)] [] μ2) : (zG p l e room_1 s m #[Value.ref b] below meth c E 4 600000 7302250 (lw_Z below #[Value.ref b] s)) 720 [.inr (some 1001), .inr (some 0), .inr (some 56), .inl (i : Int)] [] μ := by
  refine law_720 B _ _ _ ?_
  generalize (zG p l e room_1 s m #[Value.ref b] below meth c E 4 600000 7302250 (lw_Z below #[Value.ref b] s)) = GG at hk ⊢
  have r1 := lk_script_rg (xs ((i : Int) + 1).toNat)
  have r2 := lk_script_rg (xs ((i : Int) + 2).toNat)
  have r3 := lk_script_rg (xs ((i : Int) + 3).toNat)
  have r4 := lk_script_rg (xs ((i : Int) + 4).toNat)
  obtain ⟨v, hc⟩ := p_harm h r1 r2 r3
  simp only [o_c, o_il, o_al, o_is, o_inc, o_add, o_sub, o_and, o_sl, o_sn, t_same, o_callv, zpop, zsm8_0, zsm8_1, zsm8_2, zsm8_3, zsm8_4, zsm8_5, zrc, zisob, zsh_0, zsh_56, t_zeq, t_igt, t_sw, zsw, zrg, List.getElem?_cons_zero, List.getElem?_cons_succ, List.set_cons_zero, List.set_cons_succ, List.length_cons, List.length_nil, Option.toList_some, Option.toList_none, List.nil_append, List.cons_append, true_and, and_true]
  refine ⟨by omega, by omega, by omega, _, hc, ?_⟩
  rintro r μ1 ⟨rfl, hm⟩
  simp only [o_c, o_il, o_al, o_is, o_inc, o_add, o_sub, o_and, o_sl, o_sn, t_same, o_callv, zpop, zsm8_0, zsm8_1, zsm8_2, zsm8_3, zsm8_4, zsm8_5, zrc, zisob, zsh_0, zsh_56, t_zeq, t_igt, t_sw, zsw, zrg, List.getElem?_cons_zero, List.getElem?_cons_succ, List.set_cons_zero, List.set_cons_succ, List.length_cons, List.length_nil, Option.toList_some, Option.toList_none, List.nil_append, List.cons_append, true_and, and_true]
  refine ⟨by omega, by omega, by omega, _, hm, ?_⟩
  rintro r μ2 ⟨rfl, h2⟩
  simp only [o_c, o_il, o_al, o_is, o_inc, o_add, o_sub, o_and, o_sl, o_sn, t_same, o_callv, zpop, zsm8_0, zsm8_1, zsm8_2, zsm8_3, zsm8_4, zsm8_5, zrc, zisob, zsh_0, zsh_56, t_zeq, t_igt, t_sw, zsw, zrg, List.getElem?_cons_zero, List.getElem?_cons_succ, List.set_cons_zero, List.set_cons_succ, List.length_cons, List.length_nil, Option.toList_some, Option.toList_none, List.nil_append, List.cons_append, true_and, and_true]
  exact hk μ2 h2
set_option maxRecDepth 100000 in
set_option maxHeartbeats 4000000 in
theorem law_s19 {p : Program} {l : Launch} {e : Env} {s : State} {m : MethodId} {below : List Frame} {meth : Method} {c : Code} {E : zE} {b L : Nat} {xs : Nat → Int32} (B : zLw p s m c E b L xs) {i : Nat} {μ : zM} (hi : i + 5 ≤ L) (h : zST μ) (hk : ∀ μ2, zST μ2 → (zG p l e room_1 s m #[Value.ref b] below meth c E 4 600000 7302250 (lw_Z below #[Value.ref b] s)) 832 [.inr (some 1001), .inr (some 0), .inr (some 56), .inl (i : Int)] [] μ2) : (zG p l e room_1 s m #[Value.ref b] below meth c E 4 600000 7302250 (lw_Z below #[Value.ref b] s)) 763 [.inr (some 1001), .inr (some 0), .inr (some 56), .inl (i : Int)] [] μ := by
  refine law_763 B _ _ _ ?_
  generalize (zG p l e room_1 s m #[Value.ref b] below meth c E 4 600000 7302250 (lw_Z below #[Value.ref b] s)) = GG at hk ⊢
  have r1 := lk_script_rg (xs ((i : Int) + 1).toNat)
  have r2 := lk_script_rg (xs ((i : Int) + 2).toNat)
  have r3 := lk_script_rg (xs ((i : Int) + 3).toNat)
  have r4 := lk_script_rg (xs ((i : Int) + 4).toNat)
  obtain ⟨v, hc⟩ := p_message h r1 r2
  simp only [o_c, o_il, o_al, o_is, o_inc, o_add, o_sub, o_and, o_sl, o_sn, t_same, o_callv, zpop, zsm8_0, zsm8_1, zsm8_2, zsm8_3, zsm8_4, zsm8_5, zrc, zisob, zsh_0, zsh_56, t_zeq, t_igt, t_sw, zsw, zrg, List.getElem?_cons_zero, List.getElem?_cons_succ, List.set_cons_zero, List.set_cons_succ, List.length_cons, List.length_nil, Option.toList_some, Option.toList_none, List.nil_append, List.cons_append, true_and, and_true]
  refine ⟨by omega, by omega, _, hc, ?_⟩
  rintro r μ1 ⟨rfl, hm⟩
  simp only [o_c, o_il, o_al, o_is, o_inc, o_add, o_sub, o_and, o_sl, o_sn, t_same, o_callv, zpop, zsm8_0, zsm8_1, zsm8_2, zsm8_3, zsm8_4, zsm8_5, zrc, zisob, zsh_0, zsh_56, t_zeq, t_igt, t_sw, zsw, zrg, List.getElem?_cons_zero, List.getElem?_cons_succ, List.set_cons_zero, List.set_cons_succ, List.length_cons, List.length_nil, Option.toList_some, Option.toList_none, List.nil_append, List.cons_append, true_and, and_true]
  refine ⟨by omega, by omega, _, hm, ?_⟩
  rintro r μ2 ⟨rfl, h2⟩
  simp only [o_c, o_il, o_al, o_is, o_inc, o_add, o_sub, o_and, o_sl, o_sn, t_same, o_callv, zpop, zsm8_0, zsm8_1, zsm8_2, zsm8_3, zsm8_4, zsm8_5, zrc, zisob, zsh_0, zsh_56, t_zeq, t_igt, t_sw, zsw, zrg, List.getElem?_cons_zero, List.getElem?_cons_succ, List.set_cons_zero, List.set_cons_succ, List.length_cons, List.length_nil, Option.toList_some, Option.toList_none, List.nil_append, List.cons_append, true_and, and_true]
  exact hk μ2 h2
set_option maxRecDepth 100000 in
set_option maxHeartbeats 4000000 in
theorem law_s20 {p : Program} {l : Launch} {e : Env} {s : State} {m : MethodId} {below : List Frame} {meth : Method} {c : Code} {E : zE} {b L : Nat} {xs : Nat → Int32} (B : zLw p s m c E b L xs) {i : Nat} {μ : zM} (hi : i + 5 ≤ L) (h : zST μ) (hk : ∀ μ2, zST μ2 → (zG p l e room_1 s m #[Value.ref b] below meth c E 4 600000 7302250 (lw_Z below #[Value.ref b] s)) 832 [.inr (some 1001), .inr (some 0), .inr (some 56), .inl (i : Int)] [] μ2) : (zG p l e room_1 s m #[Value.ref b] below meth c E 4 600000 7302250 (lw_Z below #[Value.ref b] s)) 796 [.inr (some 1001), .inr (some 0), .inr (some 56), .inl (i : Int)] [] μ := by
  refine law_796 B _ _ _ ?_
  generalize (zG p l e room_1 s m #[Value.ref b] below meth c E 4 600000 7302250 (lw_Z below #[Value.ref b] s)) = GG at hk ⊢
  have r1 := lk_script_rg (xs ((i : Int) + 1).toNat)
  have r2 := lk_script_rg (xs ((i : Int) + 2).toNat)
  have r3 := lk_script_rg (xs ((i : Int) + 3).toNat)
  have r4 := lk_script_rg (xs ((i : Int) + 4).toNat)
  obtain ⟨v, hc⟩ := p_waiting h
  simp only [o_c, o_il, o_al, o_is, o_inc, o_add, o_sub, o_and, o_sl, o_sn, t_same, o_callv, zpop, zsm8_0, zsm8_1, zsm8_2, zsm8_3, zsm8_4, zsm8_5, zrc, zisob, zsh_0, zsh_56, t_zeq, t_igt, t_sw, zsw, zrg, List.getElem?_cons_zero, List.getElem?_cons_succ, List.set_cons_zero, List.set_cons_succ, List.length_cons, List.length_nil, Option.toList_some, Option.toList_none, List.nil_append, List.cons_append, true_and, and_true]
  refine ⟨_, hc, ?_⟩
  rintro r μ1 ⟨rfl, hm⟩
  simp only [o_c, o_il, o_al, o_is, o_inc, o_add, o_sub, o_and, o_sl, o_sn, t_same, o_callv, zpop, zsm8_0, zsm8_1, zsm8_2, zsm8_3, zsm8_4, zsm8_5, zrc, zisob, zsh_0, zsh_56, t_zeq, t_igt, t_sw, zsw, zrg, List.getElem?_cons_zero, List.getElem?_cons_succ, List.set_cons_zero, List.set_cons_succ, List.length_cons, List.length_nil, Option.toList_some, Option.toList_none, List.nil_append, List.cons_append, true_and, and_true]
  refine ⟨_, hm, ?_⟩
  rintro r μ2 ⟨rfl, h2⟩
  simp only [o_c, o_il, o_al, o_is, o_inc, o_add, o_sub, o_and, o_sl, o_sn, t_same, o_callv, zpop, zsm8_0, zsm8_1, zsm8_2, zsm8_3, zsm8_4, zsm8_5, zrc, zisob, zsh_0, zsh_56, t_zeq, t_igt, t_sw, zsw, zrg, List.getElem?_cons_zero, List.getElem?_cons_succ, List.set_cons_zero, List.set_cons_succ, List.length_cons, List.length_nil, Option.toList_some, Option.toList_none, List.nil_append, List.cons_append, true_and, and_true]
  exact hk μ2 h2
set_option maxRecDepth 100000 in
set_option maxHeartbeats 4000000 in
theorem law_s21 {p : Program} {l : Launch} {e : Env} {s : State} {m : MethodId} {below : List Frame} {meth : Method} {c : Code} {E : zE} {b L : Nat} {xs : Nat → Int32} (B : zLw p s m c E b L xs) {i : Nat} {μ : zM} (hi : i + 5 ≤ L) (h : zST μ) (hk : ∀ μ2, zST μ2 → (zG p l e room_1 s m #[Value.ref b] below meth c E 4 600000 7302250 (lw_Z below #[Value.ref b] s)) 832 [.inr (some 1001), .inr (some 0), .inr (some 56), .inl (i : Int)] [] μ2) : (zG p l e room_1 s m #[Value.ref b] below meth c E 4 600000 7302250 (lw_Z below #[Value.ref b] s)) 809 [.inr (some 1001), .inr (some 0), .inr (some 56), .inl (i : Int)] [] μ := by
  refine law_809 B _ _ _ ?_
  generalize (zG p l e room_1 s m #[Value.ref b] below meth c E 4 600000 7302250 (lw_Z below #[Value.ref b] s)) = GG at hk ⊢
  have r1 := lk_script_rg (xs ((i : Int) + 1).toNat)
  have r2 := lk_script_rg (xs ((i : Int) + 2).toNat)
  have r3 := lk_script_rg (xs ((i : Int) + 3).toNat)
  have r4 := lk_script_rg (xs ((i : Int) + 4).toNat)
  obtain ⟨v, hc⟩ := p_state h r1
  simp only [o_c, o_il, o_al, o_is, o_inc, o_add, o_sub, o_and, o_sl, o_sn, t_same, o_callv, zpop, zsm8_0, zsm8_1, zsm8_2, zsm8_3, zsm8_4, zsm8_5, zrc, zisob, zsh_0, zsh_56, t_zeq, t_igt, t_sw, zsw, zrg, List.getElem?_cons_zero, List.getElem?_cons_succ, List.set_cons_zero, List.set_cons_succ, List.length_cons, List.length_nil, Option.toList_some, Option.toList_none, List.nil_append, List.cons_append, true_and, and_true]
  refine ⟨by omega, _, hc, ?_⟩
  rintro r μ1 ⟨rfl, hm⟩
  simp only [o_c, o_il, o_al, o_is, o_inc, o_add, o_sub, o_and, o_sl, o_sn, t_same, o_callv, zpop, zsm8_0, zsm8_1, zsm8_2, zsm8_3, zsm8_4, zsm8_5, zrc, zisob, zsh_0, zsh_56, t_zeq, t_igt, t_sw, zsw, zrg, List.getElem?_cons_zero, List.getElem?_cons_succ, List.set_cons_zero, List.set_cons_succ, List.length_cons, List.length_nil, Option.toList_some, Option.toList_none, List.nil_append, List.cons_append, true_and, and_true]
  refine ⟨by omega, _, hm, ?_⟩
  rintro r μ2 ⟨rfl, h2⟩
  simp only [o_c, o_il, o_al, o_is, o_inc, o_add, o_sub, o_and, o_sl, o_sn, t_same, o_callv, zpop, zsm8_0, zsm8_1, zsm8_2, zsm8_3, zsm8_4, zsm8_5, zrc, zisob, zsh_0, zsh_56, t_zeq, t_igt, t_sw, zsw, zrg, List.getElem?_cons_zero, List.getElem?_cons_succ, List.set_cons_zero, List.set_cons_succ, List.length_cons, List.length_nil, Option.toList_some, Option.toList_none, List.nil_append, List.cons_append, true_and, and_true]
  exact hk μ2 h2
set_option maxRecDepth 100000 in
set_option maxHeartbeats 4000000 in
theorem law_loop {p : Program} {l : Launch} {e : Env} {s : State} {m : MethodId} {below : List Frame} {meth : Method} {c : Code} {E : zE} {b L : Nat} {xs : Nat → Int32} (B : zLw p s m c E b L xs) (hr : meth.sig.returnType = ret) (hlk : meth.locks = false) : ∀ (n i : Nat) (μ : zM), L < i + 5 * n + 5 → i ≤ 1000 → zST μ → (zG p l e room_1 s m #[Value.ref b] below meth c E 4 600000 7302250 (lw_Z below #[Value.ref b] s)) 18 [.inr (some 1001), .inr (some 0), .inr (some 56), .inl (i : Int)] [] μ := by
  have hL := B.2.2.2.2.2
  have fin : ∀ (i : Nat) (μ : zM), L < i + 5 → i ≤ 1000 → (zG p l e room_1 s m #[Value.ref b] below meth c E 4 600000 7302250 (lw_Z below #[Value.ref b] s)) 18 [.inr (some 1001), .inr (some 0), .inr (some 56), .inl (i : Int)] [] μ := by
    intro i μ hi h9
    refine law_18 B _ _ _ ?_
    simp only [o_c, o_il, o_al, o_is, o_inc, o_add, o_sub, o_and, o_sl, o_sn, t_same, o_callv, zpop, zsm8_0, zsm8_1, zsm8_2, zsm8_3, zsm8_4, zsm8_5, zrc, zisob, zsh_0, zsh_56, t_zeq, t_igt, t_sw, zsw, zrg, List.getElem?_cons_zero, List.getElem?_cons_succ, List.set_cons_zero, List.set_cons_succ, List.length_cons, List.length_nil, Option.toList_some, Option.toList_none, List.nil_append, List.cons_append, true_and, and_true]
    refine ⟨by omega, by omega, fun _ => ?_, fun w => by omega⟩
    refine law_838 B hr hlk _ _ _ ?_
    simp only [o_c, t_end]
  intro n
  induction n with
  | zero =>
    intro i μ h1 h9 h2
    exact fin i μ (by omega) h9
  | succ n ih =>
    intro i μ h1 h9 h2
    by_cases hi : L < i + 5
    · exact fin i μ hi h9
    · have nx : ∀ μ2, zST μ2 → (zG p l e room_1 s m #[Value.ref b] below meth c E 4 600000 7302250 (lw_Z below #[Value.ref b] s)) 832 [.inr (some 1001), .inr (some 0), .inr (some 56), .inl (i : Int)] [] μ2 := fun μ2 hs => by
        refine law_832 B _ _ _ ?_
        have := ih (i + 5) μ2 (by omega) (by omega) hs
        simp only [o_c, o_il, o_al, o_is, o_inc, o_add, o_sub, o_and, o_sl, o_sn, t_same, o_callv, zpop, zsm8_0, zsm8_1, zsm8_2, zsm8_3, zsm8_4, zsm8_5, zrc, zisob, zsh_0, zsh_56, t_zeq, t_igt, t_sw, zsw, zrg, List.getElem?_cons_zero, List.getElem?_cons_succ, List.set_cons_zero, List.set_cons_succ, List.length_cons, List.length_nil, Option.toList_some, Option.toList_none, List.nil_append, List.cons_append, true_and, and_true]
        rw [show (((i + 5 : Nat)) : Int) = (i : Int) + 5 by omega] at this
        exact this
      refine law_18 B _ _ _ ?_
      simp only [o_c, o_il, o_al, o_is, o_inc, o_add, o_sub, o_and, o_sl, o_sn, t_same, o_callv, zpop, zsm8_0, zsm8_1, zsm8_2, zsm8_3, zsm8_4, zsm8_5, zrc, zisob, zsh_0, zsh_56, t_zeq, t_igt, t_sw, zsw, zrg, List.getElem?_cons_zero, List.getElem?_cons_succ, List.set_cons_zero, List.set_cons_succ, List.length_cons, List.length_nil, Option.toList_some, Option.toList_none, List.nil_append, List.cons_append, true_and, and_true]
      refine ⟨by omega, by omega, fun w => by omega, fun _ => ?_⟩
      refine law_26 B _ _ _ ?_
      simp only [o_c, o_il, o_al, o_is, o_inc, o_add, o_sub, o_and, o_sl, o_sn, t_same, o_callv, zpop, zsm8_0, zsm8_1, zsm8_2, zsm8_3, zsm8_4, zsm8_5, zrc, zisob, zsh_0, zsh_56, t_zeq, t_igt, t_sw, zsw, zrg, List.getElem?_cons_zero, List.getElem?_cons_succ, List.set_cons_zero, List.set_cons_succ, List.length_cons, List.length_nil, Option.toList_some, Option.toList_none, List.nil_append, List.cons_append, true_and, and_true]
      have hz : zand (xs ((i : Int)).toNat).toInt 31 = (xs ((i : Int)).toNat).toInt % 2 ^ 5 := zand_m 5 (by omega) (by decide)
      have hz2 : 0 ≤ zand (xs ((i : Int)).toNat).toInt 31 ∧ zand (xs ((i : Int)).toNat).toInt 31 ≤ 31 := by rw [hz]; simp only [Int.reducePow]; omega
      exact ⟨by omega, by omega, ⟨fun _ => law_s0 B (by omega) h2 nx, fun _ => ⟨fun _ => law_s1 B (by omega) h2 nx, fun _ => ⟨fun _ => law_s2 B (by omega) h2 nx, fun _ => ⟨fun _ => law_s3 B (by omega) h2 nx, fun _ => ⟨fun _ => law_s4 B (by omega) h2 nx, fun _ => ⟨fun _ => law_s5 B (by omega) h2 nx, fun _ => ⟨fun _ => law_s6 B (by omega) h2 nx, fun _ => ⟨fun _ => law_s7 B (by omega) h2 nx, fun _ => ⟨fun _ => law_s8 B (by omega) h2 nx, fun _ => ⟨fun _ => law_s9 B (by omega) h2 nx, fun _ => ⟨fun _ => law_s10 B (by omega) h2 nx, fun _ => ⟨fun _ => law_s11 B (by omega) h2 nx, fun _ => ⟨fun _ => law_s12 B (by omega) h2 nx, fun _ => ⟨fun _ => law_s13 B (by omega) h2 nx, fun _ => ⟨fun _ => law_s14 B (by omega) h2 nx, fun _ => ⟨fun _ => law_s15 B (by omega) h2 nx, fun _ => ⟨fun _ => law_s16 B (by omega) h2 nx, fun _ => ⟨fun _ => law_s17 B (by omega) h2 nx, fun _ => ⟨fun _ => law_s18 B (by omega) h2 nx, fun _ => ⟨fun _ => law_s19 B (by omega) h2 nx, fun _ => ⟨fun _ => law_s20 B (by omega) h2 nx, fun _ => ⟨fun _ => law_s21 B (by omega) h2 nx, fun _ => nx μ h2⟩⟩⟩⟩⟩⟩⟩⟩⟩⟩⟩⟩⟩⟩⟩⟩⟩⟩⟩⟩⟩⟩⟩
