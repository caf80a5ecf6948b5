/-! THE CLASS: pins, collecting, bringing in -/
def zSu (St : Nat → zStt) (s : Nat) (x : zStt) : Nat → zStt := fun t => if t = s then x else St t
abbrev zCS : List Nat := List.range 56
theorem zfr.cs {μ μ' : zM} {S : List Nat} (f : zfr S μ μ') (hS : ∀ c ∈ S, c < 56) : zfr zCS μ μ' := f.mono (fun c hc => List.mem_range.mpr (hS c hc))
theorem zRC.upS {μ μ' : zM} {B : List Int} {T : List zPp} {Ms : List zMg} {St : Nat → zStt} {s : Nat} {x : zStt} {S : List Nat} (h : zRC μ B T Ms St) (hs : s < 3) (f : zfr S μ μ') (hS : ∀ c ∈ S, (2 + 8 * s ≤ c ∧ c ≤ 2 + 8 * s + 7) ∨ (34 ≤ c ∧ c ≤ 39) ∨ (48 ≤ c ∧ c ≤ 55)) (hx : zSTs μ' s x) (ht : zTM μ') : zRC μ' B T Ms (zSu St s x) := by
  obtain ⟨h1, h2, h3, h4, h5⟩ := h
  refine ⟨h1.of (f 0 (fun w => by have := hS _ w; omega)) (f 26 (fun w => by have := hS _ w; omega)), h2.fr f (fun c hc => by have := hS c hc; omega), h3.fr f (fun c hc => by have := hS c hc; omega), fun t htt => ?_, ht⟩
  unfold zSu
  split
  · rename_i e; subst e; exact hx
  · exact (h4 t htt).fr f (fun c hc => by have := hS c hc; omega)
noncomputable def zpnR (L : List zBk) (P : List zPp) (nm dp on : Int) : Int := if on = 0 then zb (0 ≤ zpl P (nm, dp)) else zb (0 ≤ zix L nm ∧ zpin P (nm, dp))
def zpnP (L : List zBk) (P : List zPp) (nm dp on : Int) : List zPp := if on = 0 then zpD P (nm, dp) else if 0 ≤ zix L nm then zpA P (nm, dp) else P
noncomputable def zpnO (St : Nat → zStt) (store nm dp on : Int) : Int := if 0 ≤ store ∧ store ≤ 2 then zpnR (St store.toNat).1 (St store.toNat).2.1 nm dp on else 0
def zpnS (St : Nat → zStt) (store nm dp on : Int) : Nat → zStt := if 0 ≤ store ∧ store ≤ 2 then zSu St store.toNat ((St store.toNat).1, zpnP (St store.toNat).1 (St store.toNat).2.1 nm dp on, (St store.toNat).2.2) else St
theorem zb01 (P : Prop) : zb P = 0 ∨ zb P = 1 := zb_rg P
set_option maxRecDepth 100000 in
set_option maxHeartbeats 4000000 in
theorem c_X10_pin {d : Nat} {μ : zM} {B : List Int} {T : List zPp} {Ms : List zMg} {St : Nat → zStt} {store nm dp on : Int} (hd : 3 ≤ d) (h : zRC μ B T Ms St) (hs : zrg store) (hn : zrg nm) (hdp : dp = 0 ∨ dp = 1) (hon : on = 0 ∨ on = 1) : zCt d mX10_pin [.inr (some 0), .inl store, .inl nm, .inl dp, .inl on] μ (fun v μ' => v = some (.inl (zpnO St store nm dp on)) ∧ zRC μ' B T Ms (zpnS St store nm dp on) ∧ zfr zCS μ μ') := by
  unfold zpnO zpnS
  by_cases hc : 0 ≤ store ∧ store ≤ 2
  · rw [if_pos hc, if_pos hc]
    obtain ⟨s, rfl, h3⟩ := zs3 hc
    have hk := zk3 h3
    have hx := h.2.2.2.1 s h3
    rw [Int.toNat_natCast]
    refine of_X10_pin (by omega) (fun G hG => s_X10_pin_0 hG ?_)
    simp only [b_X10_pin_0, b_X10_pin_7, b_X10_pin_9, b_X10_pin_14, b_X10_pin_28, b_X10_pin_39, o_c, o_il, o_al, o_is, o_as, o_inc, o_add, o_sub, o_mul, o_and, o_or, o_xor, o_shl, o_shr, o_ush, o_rem, o_dup, o_dup2, o_gf, o_pf, o_pz, o_iald, o_iast, o_zald, o_zast, o_aald, o_gs, o_min, o_acp, o_call, o_callv, zgf, zpf, zia_, zza_, zra_, zrd_, zcp_, zpop, zsm8_0, zsm8_1, zsm8_2, zsm8_3, zsm8_4, zsm8_5, zrc, zisob, t_ieq, t_ilt, t_igt, t_zeq, t_zlt, t_zgt, t_sw, zsw, t_iret, t_zret, t_aret, t_vret, zrg, List.getElem?_cons_zero, List.getElem?_cons_succ, List.set_cons_zero, List.set_cons_succ, List.length_cons, List.length_nil, Option.toList_some, Option.toList_none, List.nil_append, List.cons_append, true_and, and_true, true_or, or_true, Int.cast_ofNat_Int, Int.natCast_zero, Int.natCast_one, zsh_0, zsh_1]
    refine zcall (c_X10_isStore hs) ?_
    rw [zb_t hc]
    simp only [b_X10_pin_0, b_X10_pin_7, b_X10_pin_9, b_X10_pin_14, b_X10_pin_28, b_X10_pin_39, o_c, o_il, o_al, o_is, o_as, o_inc, o_add, o_sub, o_mul, o_and, o_or, o_xor, o_shl, o_shr, o_ush, o_rem, o_dup, o_dup2, o_gf, o_pf, o_pz, o_iald, o_iast, o_zald, o_zast, o_aald, o_gs, o_min, o_acp, o_call, o_callv, zgf, zpf, zia_, zza_, zra_, zrd_, zcp_, zpop, zsm8_0, zsm8_1, zsm8_2, zsm8_3, zsm8_4, zsm8_5, zrc, zisob, t_ieq, t_ilt, t_igt, t_zeq, t_zlt, t_zgt, t_sw, zsw, t_iret, t_zret, t_aret, t_vret, zrg, List.getElem?_cons_zero, List.getElem?_cons_succ, List.set_cons_zero, List.set_cons_succ, List.length_cons, List.length_nil, Option.toList_some, Option.toList_none, List.nil_append, List.cons_append, true_and, and_true, true_or, or_true, Int.cast_ofNat_Int, Int.natCast_zero, Int.natCast_one, zsh_0, zsh_1, zg3 h3, hk.ob, hk.sob]
    have fin : ∀ (μ1 : zM) (P' : List zPp), zPN μ1 (2 + 8 * s) P' → zfr [2 + 8 * s + 5, 2 + 8 * s + 6, 2 + 8 * s + 7] μ μ1 → zRC μ1 B T Ms (zSu St s ((St s).1, P', (St s).2.2)) ∧ zfr zCS μ μ1 := fun μ1 P' a b =>
      ⟨h.upS h3 b (by simp <;> omega) ⟨hx.1.fr b (by simp <;> omega), a, hx.2.2.of (b _ (by simp))⟩ (h.2.2.2.2.fr b (by simp <;> omega)), b.cs (by simp <;> omega)⟩
    refine ⟨by omega, fun w => by omega, fun _ => ⟨by omega, fun w => ⟨by omega, ?_⟩, fun w => ⟨by omega, ?_⟩⟩⟩
    · refine ⟨_, c_X7_unpinBlock (by omega) hx.2.1 hn hdp, ?_⟩
      rintro v μ1 ⟨rfl, b1, b2⟩
      simp only [b_X10_pin_0, b_X10_pin_7, b_X10_pin_9, b_X10_pin_14, b_X10_pin_28, b_X10_pin_39, o_c, o_il, o_al, o_is, o_as, o_inc, o_add, o_sub, o_mul, o_and, o_or, o_xor, o_shl, o_shr, o_ush, o_rem, o_dup, o_dup2, o_gf, o_pf, o_pz, o_iald, o_iast, o_zald, o_zast, o_aald, o_gs, o_min, o_acp, o_call, o_callv, zgf, zpf, zia_, zza_, zra_, zrd_, zcp_, zpop, zsm8_0, zsm8_1, zsm8_2, zsm8_3, zsm8_4, zsm8_5, zrc, zisob, t_ieq, t_ilt, t_igt, t_zeq, t_zlt, t_zgt, t_sw, zsw, t_iret, t_zret, t_aret, t_vret, zrg, List.getElem?_cons_zero, List.getElem?_cons_succ, List.set_cons_zero, List.set_cons_succ, List.length_cons, List.length_nil, Option.toList_some, Option.toList_none, List.nil_append, List.cons_append, true_and, and_true, true_or, or_true, Int.cast_ofNat_Int, Int.natCast_zero, Int.natCast_one, zsh_0, zsh_1, zg3 h3, hk.ob, hk.sob]
      unfold zpnR zpnP
      rw [if_pos w, if_pos w]
      exact ⟨zb_rg _, rfl, fin μ1 _ b1 b2⟩
    · refine ⟨_, c_X7_pinBlock (by omega) hx.1 hx.2.1 hn hdp, ?_⟩
      rintro v μ1 ⟨rfl, b1, b2⟩
      simp only [b_X10_pin_0, b_X10_pin_7, b_X10_pin_9, b_X10_pin_14, b_X10_pin_28, b_X10_pin_39, o_c, o_il, o_al, o_is, o_as, o_inc, o_add, o_sub, o_mul, o_and, o_or, o_xor, o_shl, o_shr, o_ush, o_rem, o_dup, o_dup2, o_gf, o_pf, o_pz, o_iald, o_iast, o_zald, o_zast, o_aald, o_gs, o_min, o_acp, o_call, o_callv, zgf, zpf, zia_, zza_, zra_, zrd_, zcp_, zpop, zsm8_0, zsm8_1, zsm8_2, zsm8_3, zsm8_4, zsm8_5, zrc, zisob, t_ieq, t_ilt, t_igt, t_zeq, t_zlt, t_zgt, t_sw, zsw, t_iret, t_zret, t_aret, t_vret, zrg, List.getElem?_cons_zero, List.getElem?_cons_succ, List.set_cons_zero, List.set_cons_succ, List.length_cons, List.length_nil, Option.toList_some, Option.toList_none, List.nil_append, List.cons_append, true_and, and_true, true_or, or_true, Int.cast_ofNat_Int, Int.natCast_zero, Int.natCast_one, zsh_0, zsh_1, zg3 h3, hk.ob, hk.sob]
      unfold zpnR zpnP
      rw [if_neg w, if_neg w]
      exact ⟨zb_rg _, rfl, fin μ1 _ b1 b2⟩
  · rw [if_neg hc, if_neg hc]
    refine of_X10_pin (by omega) (fun G hG => s_X10_pin_0 hG ?_)
    simp only [b_X10_pin_0, b_X10_pin_7, b_X10_pin_9, b_X10_pin_14, b_X10_pin_28, b_X10_pin_39, o_c, o_il, o_al, o_is, o_as, o_inc, o_add, o_sub, o_mul, o_and, o_or, o_xor, o_shl, o_shr, o_ush, o_rem, o_dup, o_dup2, o_gf, o_pf, o_pz, o_iald, o_iast, o_zald, o_zast, o_aald, o_gs, o_min, o_acp, o_call, o_callv, zgf, zpf, zia_, zza_, zra_, zrd_, zcp_, zpop, zsm8_0, zsm8_1, zsm8_2, zsm8_3, zsm8_4, zsm8_5, zrc, zisob, t_ieq, t_ilt, t_igt, t_zeq, t_zlt, t_zgt, t_sw, zsw, t_iret, t_zret, t_aret, t_vret, zrg, List.getElem?_cons_zero, List.getElem?_cons_succ, List.set_cons_zero, List.set_cons_succ, List.length_cons, List.length_nil, Option.toList_some, Option.toList_none, List.nil_append, List.cons_append, true_and, and_true, true_or, or_true, Int.cast_ofNat_Int, Int.natCast_zero, Int.natCast_one, zsh_0, zsh_1]
    refine zcall (c_X10_isStore hs) ?_
    rw [zb_f (P := 0 ≤ store ∧ store ≤ 2) hc]
    simp only [b_X10_pin_0, b_X10_pin_7, b_X10_pin_9, b_X10_pin_14, b_X10_pin_28, b_X10_pin_39, o_c, o_il, o_al, o_is, o_as, o_inc, o_add, o_sub, o_mul, o_and, o_or, o_xor, o_shl, o_shr, o_ush, o_rem, o_dup, o_dup2, o_gf, o_pf, o_pz, o_iald, o_iast, o_zald, o_zast, o_aald, o_gs, o_min, o_acp, o_call, o_callv, zgf, zpf, zia_, zza_, zra_, zrd_, zcp_, zpop, zsm8_0, zsm8_1, zsm8_2, zsm8_3, zsm8_4, zsm8_5, zrc, zisob, t_ieq, t_ilt, t_igt, t_zeq, t_zlt, t_zgt, t_sw, zsw, t_iret, t_zret, t_aret, t_vret, zrg, List.getElem?_cons_zero, List.getElem?_cons_succ, List.set_cons_zero, List.set_cons_succ, List.length_cons, List.length_nil, Option.toList_some, Option.toList_none, List.nil_append, List.cons_append, true_and, and_true, true_or, or_true, Int.cast_ofNat_Int, Int.natCast_zero, Int.natCast_one, zsh_0, zsh_1]
    exact ⟨by omega, fun _ => ⟨h, zfr.refl _ _⟩, fun w => absurd trivial w⟩
/-- what holds of a store's blocks -/
def zVS (x : zStt) : Prop := zVB x.1 ∧ zNd x.1
def zclO (St : Nat → zStt) (store : Int) : Int := if 0 ≤ store ∧ store ≤ 2 then ((St store.toNat).1.length : Int) - (zkpL (St store.toNat).1 (St store.toNat).2.1 (St store.toNat).2.2.1 (St store.toNat).2.2.2.2).length else -1
def zclS (St : Nat → zStt) (store : Int) : Nat → zStt := if 0 ≤ store ∧ store ≤ 2 then zSu St store.toNat (zkpL (St store.toNat).1 (St store.toNat).2.1 (St store.toNat).2.2.1 (St store.toNat).2.2.2.2, (St store.toNat).2) else St
set_option maxRecDepth 100000 in
set_option maxHeartbeats 4000000 in
theorem c_X10_collect {d : Nat} {μ : zM} {B : List Int} {T : List zPp} {Ms : List zMg} {St : Nat → zStt} {store : Int} (hd : 6 ≤ d) (h : zRC μ B T Ms St) (hV : ∀ s, s < 3 → zVS (St s)) (hs : zrg store) : zCt d mX10_collect [.inr (some 0), .inl store] μ (fun v μ' => v = some (.inl (zclO St store)) ∧ zRC μ' B T Ms (zclS St store) ∧ zfr zCS μ μ') := by
  unfold zclO zclS
  by_cases hc : 0 ≤ store ∧ store ≤ 2
  · rw [if_pos hc, if_pos hc]
    obtain ⟨s, rfl, h3⟩ := zs3 hc
    have hk := zk3 h3
    have hx := h.2.2.2.1 s h3
    rw [Int.toNat_natCast]
    obtain ⟨R, M, V, hw⟩ := h.2.2.2.2.2.2
    refine of_X10_collect (by omega) (fun G hG => s_X10_collect_0 hG ?_)
    simp only [b_X10_collect_0, b_X10_collect_7, b_X10_collect_23, b_X10_collect_24, o_c, o_il, o_al, o_is, o_as, o_inc, o_add, o_sub, o_mul, o_and, o_or, o_xor, o_shl, o_shr, o_ush, o_rem, o_dup, o_dup2, o_gf, o_pf, o_pz, o_iald, o_iast, o_zald, o_zast, o_aald, o_gs, o_min, o_acp, o_call, o_callv, zgf, zpf, zia_, zza_, zra_, zrd_, zcp_, zpop, zsm8_0, zsm8_1, zsm8_2, zsm8_3, zsm8_4, zsm8_5, zrc, zisob, t_ieq, t_ilt, t_igt, t_zeq, t_zlt, t_zgt, t_sw, zsw, t_iret, t_zret, t_aret, t_vret, zrg, List.getElem?_cons_zero, List.getElem?_cons_succ, List.set_cons_zero, List.set_cons_succ, List.length_cons, List.length_nil, Option.toList_some, Option.toList_none, List.nil_append, List.cons_append, true_and, and_true, true_or, or_true, Int.cast_ofNat_Int, Int.natCast_zero, Int.natCast_one, zsh_0, zsh_1]
    refine zcall (c_X10_isStore hs) ?_
    rw [zb_t hc]
    simp only [b_X10_collect_0, b_X10_collect_7, b_X10_collect_23, b_X10_collect_24, o_c, o_il, o_al, o_is, o_as, o_inc, o_add, o_sub, o_mul, o_and, o_or, o_xor, o_shl, o_shr, o_ush, o_rem, o_dup, o_dup2, o_gf, o_pf, o_pz, o_iald, o_iast, o_zald, o_zast, o_aald, o_gs, o_min, o_acp, o_call, o_callv, zgf, zpf, zia_, zza_, zra_, zrd_, zcp_, zpop, zsm8_0, zsm8_1, zsm8_2, zsm8_3, zsm8_4, zsm8_5, zrc, zisob, t_ieq, t_ilt, t_igt, t_zeq, t_zlt, t_zgt, t_sw, zsw, t_iret, t_zret, t_aret, t_vret, zrg, List.getElem?_cons_zero, List.getElem?_cons_succ, List.set_cons_zero, List.set_cons_succ, List.length_cons, List.length_nil, Option.toList_some, Option.toList_none, List.nil_append, List.cons_append, true_and, and_true, true_or, or_true, Int.cast_ofNat_Int, Int.natCast_zero, Int.natCast_one, zsh_0, zsh_1, zg3 h3, hk.ob, hk.sob]
    refine ⟨by omega, fun w => by omega, fun _ => ⟨by omega, ?_⟩⟩
    refine ⟨_, c_X7_sweep (by omega) hx.2.2 hx.2.1 hw.ws hx.1 (hV s h3).1 (hV s h3).2 (by omega), ?_⟩
    rintro v μ1 ⟨rfl, b1, b2, b3⟩
    simp only [b_X10_collect_0, b_X10_collect_7, b_X10_collect_23, b_X10_collect_24, o_c, o_il, o_al, o_is, o_as, o_inc, o_add, o_sub, o_mul, o_and, o_or, o_xor, o_shl, o_shr, o_ush, o_rem, o_dup, o_dup2, o_gf, o_pf, o_pz, o_iald, o_iast, o_zald, o_zast, o_aald, o_gs, o_min, o_acp, o_call, o_callv, zgf, zpf, zia_, zza_, zra_, zrd_, zcp_, zpop, zsm8_0, zsm8_1, zsm8_2, zsm8_3, zsm8_4, zsm8_5, zrc, zisob, t_ieq, t_ilt, t_igt, t_zeq, t_zlt, t_zgt, t_sw, zsw, t_iret, t_zret, t_aret, t_vret, zrg, List.getElem?_cons_zero, List.getElem?_cons_succ, List.set_cons_zero, List.set_cons_succ, List.length_cons, List.length_nil, Option.toList_some, Option.toList_none, List.nil_append, List.cons_append, true_and, and_true, true_or, or_true, Int.cast_ofNat_Int, Int.natCast_zero, Int.natCast_one, zsh_0, zsh_1, zg3 h3, hk.ob, hk.sob]
    refine ⟨h.upS h3 b3 (by simp <;> omega) ⟨b1, hx.2.1.fr b3 (by simp <;> omega), hx.2.2.of (b3 _ (by simp <;> omega))⟩ ⟨?_, ?_, b2⟩, b3.cs (by simp <;> omega)⟩
    · obtain ⟨Lb, D, c, hb⟩ := h.2.2.2.2.1
      exact ⟨Lb, D, c, hb.fr b3 (by simp <;> omega)⟩
    · obtain ⟨R', M', V', hw'⟩ := h.2.2.2.2.2.1
      exact ⟨R', M', V', hw'.fr b3 (by simp <;> omega)⟩
  · rw [if_neg hc, if_neg hc]
    refine of_X10_collect (by omega) (fun G hG => s_X10_collect_0 hG ?_)
    simp only [b_X10_collect_0, b_X10_collect_7, b_X10_collect_23, b_X10_collect_24, o_c, o_il, o_al, o_is, o_as, o_inc, o_add, o_sub, o_mul, o_and, o_or, o_xor, o_shl, o_shr, o_ush, o_rem, o_dup, o_dup2, o_gf, o_pf, o_pz, o_iald, o_iast, o_zald, o_zast, o_aald, o_gs, o_min, o_acp, o_call, o_callv, zgf, zpf, zia_, zza_, zra_, zrd_, zcp_, zpop, zsm8_0, zsm8_1, zsm8_2, zsm8_3, zsm8_4, zsm8_5, zrc, zisob, t_ieq, t_ilt, t_igt, t_zeq, t_zlt, t_zgt, t_sw, zsw, t_iret, t_zret, t_aret, t_vret, zrg, List.getElem?_cons_zero, List.getElem?_cons_succ, List.set_cons_zero, List.set_cons_succ, List.length_cons, List.length_nil, Option.toList_some, Option.toList_none, List.nil_append, List.cons_append, true_and, and_true, true_or, or_true, Int.cast_ofNat_Int, Int.natCast_zero, Int.natCast_one, zsh_0, zsh_1]
    refine zcall (c_X10_isStore hs) ?_
    rw [zb_f (P := 0 ≤ store ∧ store ≤ 2) hc]
    simp only [b_X10_collect_0, b_X10_collect_7, b_X10_collect_23, b_X10_collect_24, o_c, o_il, o_al, o_is, o_as, o_inc, o_add, o_sub, o_mul, o_and, o_or, o_xor, o_shl, o_shr, o_ush, o_rem, o_dup, o_dup2, o_gf, o_pf, o_pz, o_iald, o_iast, o_zald, o_zast, o_aald, o_gs, o_min, o_acp, o_call, o_callv, zgf, zpf, zia_, zza_, zra_, zrd_, zcp_, zpop, zsm8_0, zsm8_1, zsm8_2, zsm8_3, zsm8_4, zsm8_5, zrc, zisob, t_ieq, t_ilt, t_igt, t_zeq, t_zlt, t_zgt, t_sw, zsw, t_iret, t_zret, t_aret, t_vret, zrg, List.getElem?_cons_zero, List.getElem?_cons_succ, List.set_cons_zero, List.set_cons_succ, List.length_cons, List.length_nil, Option.toList_some, Option.toList_none, List.nil_append, List.cons_append, true_and, and_true, true_or, or_true, Int.cast_ofNat_Int, Int.natCast_zero, Int.natCast_one, zsh_0, zsh_1]
    exact ⟨by omega, fun _ => ⟨h, zfr.refl _ _⟩, fun w => absurd trivial w⟩
noncomputable def zbiC (L Lb : List zBk) (c top : Int) : Int := if ztkc L Lb c = 0 then top else ztkc L Lb c
noncomputable def zbiS (x : zStt) (Lb : List zBk) (c : Int) : zStt := if ztkc x.1 Lb c = 0 then (x.1 ++ zfre x.1 Lb, x.2.1, (zwfs (x.1 ++ zfre x.1 Lb) x.2.2.1 x.2.2.2.2, x.2.2.2.1, x.2.2.2.2)) else x
theorem zwfs_no {L : List zBk} {fs fr : Int} (h : ¬ fs = 1) : zwfs L fs fr = fs := by unfold zwfs; rw [if_neg (fun w => h w.1)]
theorem ztkc_rg (L Lb : List zBk) (c : Int) : ztkc L Lb c = -2 ∨ ztkc L Lb c = -3 ∨ ztkc L Lb c = 0 := by
  unfold ztkc
  split
  · simp
  · split <;> simp
set_option maxRecDepth 100000 in
set_option maxHeartbeats 4000000 in
theorem c_X10_bringIn {d s : Nat} {μ : zM} {B : List Int} {T : List zPp} {Ms : List zMg} {St : Nat → zStt} {Lb : List zBk} {D : List Int} {c top : Int} (hd : 5 ≤ d) (h : zRC μ B T Ms St) (hB : zBT μ Lb D c) (hN : zNd Lb) (h3 : s < 3) (hV : zVS ((St s).1 ++ zfre (St s).1 Lb, (St s).2)) : zCt d mX10_bringIn [.inr (some 0), .inl (s : Int), .inl top] μ (fun v μ' => v = some (.inl (zbiC (St s).1 Lb c top)) ∧ zRC μ' B T Ms (zSu St s (zbiS (St s) Lb c)) ∧ zfr zCS μ μ') := by
  have hk := zk3 h3
  have hx := h.2.2.2.1 s h3
  obtain ⟨R, M, V, hw⟩ := h.2.2.2.2.2.2
  obtain ⟨R', M', V', hw'⟩ := h.2.2.2.2.2.1
  refine of_X10_bringIn (by omega) (fun G hG => s_X10_bringIn_0 hG ?_)
  simp only [b_X10_bringIn_0, b_X10_bringIn_18, b_X10_bringIn_20, b_X10_bringIn_32, b_X10_bringIn_45, o_c, o_il, o_al, o_is, o_as, o_inc, o_add, o_sub, o_mul, o_and, o_or, o_xor, o_shl, o_shr, o_ush, o_rem, o_dup, o_dup2, o_gf, o_pf, o_pz, o_iald, o_iast, o_zald, o_zast, o_aald, o_gs, o_min, o_acp, o_call, o_callv, zgf, zpf, zia_, zza_, zra_, zrd_, zcp_, zpop, zsm8_0, zsm8_1, zsm8_2, zsm8_3, zsm8_4, zsm8_5, zrc, zisob, t_ieq, t_ilt, t_igt, t_zeq, t_zlt, t_zgt, t_sw, zsw, t_iret, t_zret, t_aret, t_vret, zrg, List.getElem?_cons_zero, List.getElem?_cons_succ, List.set_cons_zero, List.set_cons_succ, List.length_cons, List.length_nil, Option.toList_some, Option.toList_none, List.nil_append, List.cons_append, true_and, and_true, true_or, or_true, Int.cast_ofNat_Int, Int.natCast_zero, Int.natCast_one, zsh_0, zsh_1, zg3 h3, hk.ob, hk.sob, zsh_34]
  refine ⟨by omega, ?_⟩
  refine ⟨_, c_X7_takeBatch (by omega) hk hx.1 hB hN, ?_⟩
  rintro v μ1 ⟨rfl, b1, b2⟩
  simp only [b_X10_bringIn_0, b_X10_bringIn_18, b_X10_bringIn_20, b_X10_bringIn_32, b_X10_bringIn_45, o_c, o_il, o_al, o_is, o_as, o_inc, o_add, o_sub, o_mul, o_and, o_or, o_xor, o_shl, o_shr, o_ush, o_rem, o_dup, o_dup2, o_gf, o_pf, o_pz, o_iald, o_iast, o_zald, o_zast, o_aald, o_gs, o_min, o_acp, o_call, o_callv, zgf, zpf, zia_, zza_, zra_, zrd_, zcp_, zpop, zsm8_0, zsm8_1, zsm8_2, zsm8_3, zsm8_4, zsm8_5, zrc, zisob, t_ieq, t_ilt, t_igt, t_zeq, t_zlt, t_zgt, t_sw, zsw, t_iret, t_zret, t_aret, t_vret, zrg, List.getElem?_cons_zero, List.getElem?_cons_succ, List.set_cons_zero, List.set_cons_succ, List.length_cons, List.length_nil, Option.toList_some, Option.toList_none, List.nil_append, List.cons_append, true_and, and_true, true_or, or_true, Int.cast_ofNat_Int, Int.natCast_zero, Int.natCast_one, zsh_0, zsh_1, zg3 h3, hk.ob, hk.sob, zsh_34]
  have hP1 : zPN μ1 (2 + 8 * s) (St s).2.1 := hx.2.1.fr b2 (by simp <;> omega)
  have hF1 := hx.2.2.of (b2 (2 + 8 * s) (by simp))
  have hB1 : zBT μ1 Lb D c := hB.fr b2 (by simp <;> omega)
  have hw1 := hw.fr b2 (by simp <;> omega)
  have hw1' := hw'.fr b2 (by simp <;> omega)
  have hrg := ztkc_rg (St s).1 Lb c
  refine ⟨by omega, fun e => ⟨by omega, ?_⟩, fun e => ?_⟩
  · refine zcall (c_X7_isFetching hF1) ?_
    simp only [b_X10_bringIn_0, b_X10_bringIn_18, b_X10_bringIn_20, b_X10_bringIn_32, b_X10_bringIn_45, o_c, o_il, o_al, o_is, o_as, o_inc, o_add, o_sub, o_mul, o_and, o_or, o_xor, o_shl, o_shr, o_ush, o_rem, o_dup, o_dup2, o_gf, o_pf, o_pz, o_iald, o_iast, o_zald, o_zast, o_aald, o_gs, o_min, o_acp, o_call, o_callv, zgf, zpf, zia_, zza_, zra_, zrd_, zcp_, zpop, zsm8_0, zsm8_1, zsm8_2, zsm8_3, zsm8_4, zsm8_5, zrc, zisob, t_ieq, t_ilt, t_igt, t_zeq, t_zlt, t_zgt, t_sw, zsw, t_iret, t_zret, t_aret, t_vret, zrg, List.getElem?_cons_zero, List.getElem?_cons_succ, List.set_cons_zero, List.set_cons_succ, List.length_cons, List.length_nil, Option.toList_some, Option.toList_none, List.nil_append, List.cons_append, true_and, and_true, true_or, or_true, Int.cast_ofNat_Int, Int.natCast_zero, Int.natCast_one, zsh_0, zsh_1, zg3 h3, hk.ob, hk.sob, zsh_34, zsh_52]
    have hL' : ztkL (St s).1 Lb c = (St s).1 ++ zfre (St s).1 Lb := by unfold ztkL; rw [if_pos e]
    rw [hL'] at b1
    have hcode : zbiC (St s).1 Lb c top = top := by unfold zbiC; rw [if_pos e]
    have hst : zbiS (St s) Lb c = ((St s).1 ++ zfre (St s).1 Lb, (St s).2.1, (zwfs ((St s).1 ++ zfre (St s).1 Lb) (St s).2.2.1 (St s).2.2.2.2, (St s).2.2.2.1, (St s).2.2.2.2)) := by unfold zbiS; rw [if_pos e]
    rw [hcode, hst]
    by_cases hf : (St s).2.2.1 = 1
    · rw [if_pos hf]
      refine ⟨by omega, fun w => by omega, fun _ => ⟨by omega, ?_⟩⟩
      refine ⟨_, c_X7_walkFetch (by omega) hF1 hw1.ws b1 hV.1 hV.2 (by omega), ?_⟩
      rintro v μ2 ⟨rfl, g1, g2, g3⟩
      simp only [b_X10_bringIn_0, b_X10_bringIn_18, b_X10_bringIn_20, b_X10_bringIn_32, b_X10_bringIn_45, o_c, o_il, o_al, o_is, o_as, o_inc, o_add, o_sub, o_mul, o_and, o_or, o_xor, o_shl, o_shr, o_ush, o_rem, o_dup, o_dup2, o_gf, o_pf, o_pz, o_iald, o_iast, o_zald, o_zast, o_aald, o_gs, o_min, o_acp, o_call, o_callv, zgf, zpf, zia_, zza_, zra_, zrd_, zcp_, zpop, zsm8_0, zsm8_1, zsm8_2, zsm8_3, zsm8_4, zsm8_5, zrc, zisob, t_ieq, t_ilt, t_igt, t_zeq, t_zlt, t_zgt, t_sw, zsw, t_iret, t_zret, t_aret, t_vret, zrg, List.getElem?_cons_zero, List.getElem?_cons_succ, List.set_cons_zero, List.set_cons_succ, List.length_cons, List.length_nil, Option.toList_some, Option.toList_none, List.nil_append, List.cons_append, true_and, and_true, true_or, or_true, Int.cast_ofNat_Int, Int.natCast_zero, Int.natCast_one, zsh_0, zsh_1, zg3 h3, hk.ob, hk.sob, zsh_34, zsh_52]
      have ff : zfr [2 + 8 * s, 2 + 8 * s + 1, 2 + 8 * s + 2, 2 + 8 * s + 3, 2 + 8 * s + 4, 52, 53, 54, 55] μ μ2 := (b2.mono (by simp)).trans (g3.mono (by simp))
      refine ⟨h.upS h3 ff (by simp <;> omega) ⟨b1.fr g3 (by simp <;> omega), hP1.fr g3 (by simp <;> omega), g2⟩ ⟨⟨Lb, D, c, hB1.fr g3 (by simp <;> omega)⟩, ⟨R', M', V', hw1'.fr g3 (by simp <;> omega)⟩, g1.wk⟩, ff.cs (by simp <;> omega)⟩
    · rw [if_neg hf, zwfs_no hf]
      refine ⟨by omega, fun _ => ⟨rfl, h.upS h3 b2 (by simp <;> omega) ⟨b1, hP1, hF1⟩ ⟨⟨Lb, D, c, hB1⟩, ⟨R', M', V', hw1'⟩, ⟨R, M, V, hw1⟩⟩, b2.cs (by simp <;> omega)⟩, fun w => absurd rfl w⟩
  · have hL' : ztkL (St s).1 Lb c = (St s).1 := by unfold ztkL; rw [if_neg e]
    rw [hL'] at b1
    have hcode : zbiC (St s).1 Lb c top = ztkc (St s).1 Lb c := by unfold zbiC; rw [if_neg e]
    have hst : zbiS (St s) Lb c = St s := by unfold zbiS; rw [if_neg e]
    rw [hcode, hst]
    exact ⟨rfl, h.upS h3 b2 (by simp <;> omega) ⟨b1, hP1, hF1⟩ ⟨⟨Lb, D, c, hB1⟩, ⟨R', M', V', hw1'⟩, ⟨R, M, V, hw1⟩⟩, b2.cs (by simp <;> omega)⟩
