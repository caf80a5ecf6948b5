/-! BATCH -/
theorem zSH.of {μ μ' : zM} {k : Nat} {n : Int} {L : List zBk} (h : zSH μ k n L) (e0 : μ' k = μ k) (e1 : μ' (k + 1) = μ (k + 1)) (e2 : μ' (k + 2) = μ (k + 2)) (e3 : μ' (k + 3) = μ (k + 3)) : zSH μ' k n L := by
  unfold zSH at h ⊢
  rw [e0, e1, e2, e3]
  exact h
theorem zSH.fr {μ μ' : zM} {k : Nat} {n : Int} {L : List zBk} {S : List Nat} (h : zSH μ k n L) (f : zfr S μ μ') (hS : ∀ c ∈ S, c < k ∨ k + 3 < c) : zSH μ' k n L := by
  have key : ∀ c, k ≤ c → c ≤ k + 3 → μ' c = μ c := fun c h1 h2 => f c (fun w => by have := hS c w; omega)
  exact h.of (key k (by omega) (by omega)) (key _ (by omega) (by omega)) (key _ (by omega) (by omega)) (key _ (by omega) (by omega))
/-- the batch: blocks L, a draft D, whether there was a clash -/
def zBT (μ : zM) (L : List zBk) (D : List Int) (c : Int) : Prop := zSH μ 35 64 L ∧ μ 34 2 = D.length ∧ D.length ≤ 18 ∧ (∀ x ∈ D, 0 ≤ x ∧ x ≤ 255) ∧ (∀ (j : Nat) (x : Int), D[j]? = some x → μ 39 j = x) ∧ μ 34 3 = c ∧ (c = 0 ∨ c = 1)
theorem zBT.fr {μ μ' : zM} {L : List zBk} {D : List Int} {c : Int} {S : List Nat} (h : zBT μ L D c) (f : zfr S μ μ') (hS : ∀ x ∈ S, x < 34 ∨ 39 < x) : zBT μ' L D c := by
  obtain ⟨h1, h2, h3, h4, h5, h6, h7⟩ := h
  have key : ∀ x, 34 ≤ x → x ≤ 39 → μ' x = μ x := fun x a b => f x (fun w => by have := hS x w; omega)
  refine ⟨h1.fr f (fun c hc => by have := hS c hc; omega), by rw [key 34 (by omega) (by omega)]; exact h2, h3, h4, fun j x hj => by rw [key 39 (by omega) (by omega)]; exact h5 j x hj, by rw [key 34 (by omega) (by omega)]; exact h6, h7⟩
set_option maxRecDepth 100000 in
set_option maxHeartbeats 4000000 in
theorem c_X0_made {d : Nat} {μ : zM} : zCt d mX0_made [.inr (some 34)] μ (zR (.inr (some 35)) μ) := by
  refine of_X0_made (fun G hG => s_X0_made_0 hG ?_)
  simp only [b_X0_made_0, o_c, o_il, o_al, o_is, o_as, o_inc, o_add, o_sub, o_mul, o_and, o_or, o_xor, o_shl, o_shr, o_ush, o_rem, o_dup, o_dup2, o_gf, o_pf, o_pz, o_iald, o_iast, o_zald, o_zast, o_aald, o_gs, o_min, o_acp, o_call, o_callv, zgf, zpf, zia_, zza_, zra_, zrd_, zcp_, zpop, zsm8_0, zsm8_1, zsm8_2, zsm8_3, zsm8_4, zsm8_5, zrc, zisob, t_ieq, t_ilt, t_igt, t_zeq, t_zlt, t_zgt, t_sw, zsw, t_iret, t_zret, t_aret, t_vret, zrg, List.getElem?_cons_zero, List.getElem?_cons_succ, List.set_cons_zero, List.set_cons_succ, List.length_cons, List.length_nil, Option.toList_some, Option.toList_none, List.nil_append, List.cons_append, true_and, and_true, true_or, or_true, Int.cast_ofNat_Int, Int.natCast_zero, Int.natCast_one, zsh_34]
  exact ⟨rfl, rfl⟩
set_option maxRecDepth 100000 in
set_option maxHeartbeats 4000000 in
theorem c_X0_hasClash {d : Nat} {μ : zM} {L : List zBk} {D : List Int} {c : Int} (h : zBT μ L D c) : zCt d mX0_hasClash [.inr (some 34)] μ (zR (.inl c) μ) := by
  refine of_X0_hasClash (fun G hG => s_X0_hasClash_0 hG ?_)
  simp only [b_X0_hasClash_0, o_c, o_il, o_al, o_is, o_as, o_inc, o_add, o_sub, o_mul, o_and, o_or, o_xor, o_shl, o_shr, o_ush, o_rem, o_dup, o_dup2, o_gf, o_pf, o_pz, o_iald, o_iast, o_zald, o_zast, o_aald, o_gs, o_min, o_acp, o_call, o_callv, zgf, zpf, zia_, zza_, zra_, zrd_, zcp_, zpop, zsm8_0, zsm8_1, zsm8_2, zsm8_3, zsm8_4, zsm8_5, zrc, zisob, t_ieq, t_ilt, t_igt, t_zeq, t_zlt, t_zgt, t_sw, zsw, t_iret, t_zret, t_aret, t_vret, zrg, List.getElem?_cons_zero, List.getElem?_cons_succ, List.set_cons_zero, List.set_cons_succ, List.length_cons, List.length_nil, Option.toList_some, Option.toList_none, List.nil_append, List.cons_append, true_and, and_true, true_or, or_true, Int.cast_ofNat_Int, Int.natCast_zero, Int.natCast_one, zsh_34]
  rw [h.2.2.2.2.2.1]
  exact ⟨h.2.2.2.2.2.2, rfl, rfl⟩
set_option maxRecDepth 100000 in
set_option maxHeartbeats 4000000 in
theorem c_X0_restart {d : Nat} {μ : zM} {L : List zBk} {D : List Int} {c : Int} (hd : 1 ≤ d) (h : zBT μ L D c) : zCt d mX0_restart [.inr (some 34)] μ (fun r μ' => r = none ∧ zBT μ' [] [] 0 ∧ zfr [34, 35] μ μ') := by
  refine of_X0_restart hd (fun G hG => s_X0_restart_0 hG ?_)
  simp only [b_X0_restart_0, o_c, o_il, o_al, o_is, o_as, o_inc, o_add, o_sub, o_mul, o_and, o_or, o_xor, o_shl, o_shr, o_ush, o_rem, o_dup, o_dup2, o_gf, o_pf, o_pz, o_iald, o_iast, o_zald, o_zast, o_aald, o_gs, o_min, o_acp, o_call, o_callv, zgf, zpf, zia_, zza_, zra_, zrd_, zcp_, zpop, zsm8_0, zsm8_1, zsm8_2, zsm8_3, zsm8_4, zsm8_5, zrc, zisob, t_ieq, t_ilt, t_igt, t_zeq, t_zlt, t_zgt, t_sw, zsw, t_iret, t_zret, t_aret, t_vret, zrg, List.getElem?_cons_zero, List.getElem?_cons_succ, List.set_cons_zero, List.set_cons_succ, List.length_cons, List.length_nil, Option.toList_some, Option.toList_none, List.nil_append, List.cons_append, true_and, and_true, true_or, or_true, Int.cast_ofNat_Int, Int.natCast_zero, Int.natCast_one, zsh_34, zsh_35]
  refine ⟨_, c_X6_makeEmpty h.1, ?_⟩
  rintro r μ' ⟨rfl, h1, h2⟩
  simp only [b_X0_restart_0, o_c, o_il, o_al, o_is, o_as, o_inc, o_add, o_sub, o_mul, o_and, o_or, o_xor, o_shl, o_shr, o_ush, o_rem, o_dup, o_dup2, o_gf, o_pf, o_pz, o_iald, o_iast, o_zald, o_zast, o_aald, o_gs, o_min, o_acp, o_call, o_callv, zgf, zpf, zia_, zza_, zra_, zrd_, zcp_, zpop, zsm8_0, zsm8_1, zsm8_2, zsm8_3, zsm8_4, zsm8_5, zrc, zisob, t_ieq, t_ilt, t_igt, t_zeq, t_zlt, t_zgt, t_sw, zsw, t_iret, t_zret, t_aret, t_vret, zrg, List.getElem?_cons_zero, List.getElem?_cons_succ, List.set_cons_zero, List.set_cons_succ, List.length_cons, List.length_nil, Option.toList_some, Option.toList_none, List.nil_append, List.cons_append, true_and, and_true, true_or, or_true, Int.cast_ofNat_Int, Int.natCast_zero, Int.natCast_one, zsh_34, zsh_35]
  refine ⟨⟨h1.of (zup_ne _ (by decide) |>.trans (zup_ne _ (by decide))) (zup_ne _ (by decide) |>.trans (zup_ne _ (by decide))) (zup_ne _ (by decide) |>.trans (zup_ne _ (by decide))) (zup_ne _ (by decide) |>.trans (zup_ne _ (by decide))), by simp [zup], by simp, by simp, by simp, by simp [zup], Or.inl rfl⟩, fun x hx => ?_⟩
  simp only [List.mem_cons, List.not_mem_nil, or_false, not_or] at hx
  rw [zup_ne x hx.1, zup_ne x hx.1, h2 x (by simpa using hx.2)]
set_option maxRecDepth 100000 in
set_option maxHeartbeats 4000000 in
theorem c_X0_write {d : Nat} {μ : zM} {L : List zBk} {D : List Int} {c b : Int} (h : zBT μ L D c) (hl : D.length < 18) (hb : 0 ≤ b ∧ b ≤ 255) : zCt d mX0_write [.inr (some 34), .inl b] μ (fun r μ' => r = none ∧ zBT μ' L (D ++ [b]) c ∧ zfr [34, 39] μ μ') := by
  obtain ⟨h1, h2, h3, h4, h5, h6, h7⟩ := h
  refine of_X0_write (fun G hG => s_X0_write_0 hG ?_)
  simp only [b_X0_write_0, b_X0_write_9, b_X0_write_29, o_c, o_il, o_al, o_is, o_as, o_inc, o_add, o_sub, o_mul, o_and, o_or, o_xor, o_shl, o_shr, o_ush, o_rem, o_dup, o_dup2, o_gf, o_pf, o_pz, o_iald, o_iast, o_zald, o_zast, o_aald, o_gs, o_min, o_acp, o_call, o_callv, zgf, zpf, zia_, zza_, zra_, zrd_, zcp_, zpop, zsm8_0, zsm8_1, zsm8_2, zsm8_3, zsm8_4, zsm8_5, zrc, zisob, t_ieq, t_ilt, t_igt, t_zeq, t_zlt, t_zgt, t_sw, zsw, t_iret, t_zret, t_aret, t_vret, zrg, List.getElem?_cons_zero, List.getElem?_cons_succ, List.set_cons_zero, List.set_cons_succ, List.length_cons, List.length_nil, Option.toList_some, Option.toList_none, List.nil_append, List.cons_append, true_and, and_true, true_or, or_true, Int.cast_ofNat_Int, Int.natCast_zero, Int.natCast_one, zsh_34, zsh_39]
  have e1 : zup μ 39 (μ 34 2) b 34 2 = μ 34 2 := by simp [zup]
  rw [e1]
  refine ⟨by omega, by omega, fun _ => ⟨by omega, ⟨h1.of (zup_ne _ (by decide) |>.trans (zup_ne _ (by decide))) (zup_ne _ (by decide) |>.trans (zup_ne _ (by decide))) (zup_ne _ (by decide) |>.trans (zup_ne _ (by decide))) (zup_ne _ (by decide) |>.trans (zup_ne _ (by decide))), by simp [zup, h2], by simp; omega, ?_, ?_, by simp [zup, h6], h7⟩, fun x hx => ?_⟩, fun _ => by omega⟩
  · intro x hx
    rcases List.mem_append.mp hx with w | w
    · exact h4 x w
    · rw [List.mem_singleton.mp w]; exact hb
  · intro j x hj
    by_cases hjl : j < D.length
    · rw [List.getElem?_append_left hjl] at hj
      have : ¬ ((j : Int) = D.length) := by omega
      simp [zup, h2, this]
      exact h5 j x hj
    · rw [List.getElem?_append_right (by omega)] at hj
      have hz : j - D.length = 0 := by
        have := (List.getElem?_eq_some_iff.mp hj).1
        simp at this
        omega
      rw [hz] at hj
      cases hj
      have : (j : Int) = D.length := by omega
      simp [zup, h2, this]
  · simp only [List.mem_cons, List.not_mem_nil, or_false, not_or] at hx
    rw [zup_ne x hx.1, zup_ne x hx.2]
set_option maxRecDepth 100000 in
set_option maxHeartbeats 4000000 in
theorem c_X0_writePair {d : Nat} {μ : zM} {L : List zBk} {D : List Int} {c v : Int} (hd : 1 ≤ d) (h : zBT μ L D c) (hl : D.length + 2 ≤ 18) (hb : 0 ≤ v ∧ v ≤ 65535) : zCt d mX0_writePair [.inr (some 34), .inl v] μ (fun r μ' => r = none ∧ zBT μ' L (D ++ [v % 256, v / 256]) c ∧ zfr [34, 39] μ μ') := by
  refine of_X0_writePair hd (fun G hG => s_X0_writePair_0 hG ?_)
  simp only [b_X0_writePair_0, o_c, o_il, o_al, o_is, o_as, o_inc, o_add, o_sub, o_mul, o_and, o_or, o_xor, o_shl, o_shr, o_ush, o_rem, o_dup, o_dup2, o_gf, o_pf, o_pz, o_iald, o_iast, o_zald, o_zast, o_aald, o_gs, o_min, o_acp, o_call, o_callv, zgf, zpf, zia_, zza_, zra_, zrd_, zcp_, zpop, zsm8_0, zsm8_1, zsm8_2, zsm8_3, zsm8_4, zsm8_5, zrc, zisob, t_ieq, t_ilt, t_igt, t_zeq, t_zlt, t_zgt, t_sw, zsw, t_iret, t_zret, t_aret, t_vret, zrg, List.getElem?_cons_zero, List.getElem?_cons_succ, List.set_cons_zero, List.set_cons_succ, List.length_cons, List.length_nil, Option.toList_some, Option.toList_none, List.nil_append, List.cons_append, true_and, and_true, true_or, or_true, Int.cast_ofNat_Int, Int.natCast_zero, Int.natCast_one, zsh_34, zsh_39]
  have e1 : zand v 255 = v % 256 := zand_m 8 (by omega) (by decide)
  obtain ⟨q, rfl⟩ := Int.eq_ofNat_of_zero_le hb.1
  have e2 : zshr (q : Int) 8 = (q : Int) / 256 := by
    have := zshr_nat (a := q) (s := 8) (by omega) (by omega)
    simp only [Int.cast_ofNat_Int] at this
    rw [this]
    simp
  rw [e1, e2]
  refine ⟨_, c_X0_write h (by omega) (by omega), ?_⟩
  rintro r μ' ⟨rfl, h1, h2⟩
  simp only [b_X0_writePair_0, o_c, o_il, o_al, o_is, o_as, o_inc, o_add, o_sub, o_mul, o_and, o_or, o_xor, o_shl, o_shr, o_ush, o_rem, o_dup, o_dup2, o_gf, o_pf, o_pz, o_iald, o_iast, o_zald, o_zast, o_aald, o_gs, o_min, o_acp, o_call, o_callv, zgf, zpf, zia_, zza_, zra_, zrd_, zcp_, zpop, zsm8_0, zsm8_1, zsm8_2, zsm8_3, zsm8_4, zsm8_5, zrc, zisob, t_ieq, t_ilt, t_igt, t_zeq, t_zlt, t_zgt, t_sw, zsw, t_iret, t_zret, t_aret, t_vret, zrg, List.getElem?_cons_zero, List.getElem?_cons_succ, List.set_cons_zero, List.set_cons_succ, List.length_cons, List.length_nil, Option.toList_some, Option.toList_none, List.nil_append, List.cons_append, true_and, and_true, true_or, or_true, Int.cast_ofNat_Int, Int.natCast_zero, Int.natCast_one, zsh_34, zsh_39]
  refine ⟨_, c_X0_write h1 (by simp; omega) (by omega), ?_⟩
  rintro r μ'' ⟨rfl, h3, h4⟩
  simp only [b_X0_writePair_0, o_c, o_il, o_al, o_is, o_as, o_inc, o_add, o_sub, o_mul, o_and, o_or, o_xor, o_shl, o_shr, o_ush, o_rem, o_dup, o_dup2, o_gf, o_pf, o_pz, o_iald, o_iast, o_zald, o_zast, o_aald, o_gs, o_min, o_acp, o_call, o_callv, zgf, zpf, zia_, zza_, zra_, zrd_, zcp_, zpop, zsm8_0, zsm8_1, zsm8_2, zsm8_3, zsm8_4, zsm8_5, zrc, zisob, t_ieq, t_ilt, t_igt, t_zeq, t_zlt, t_zgt, t_sw, zsw, t_iret, t_zret, t_aret, t_vret, zrg, List.getElem?_cons_zero, List.getElem?_cons_succ, List.set_cons_zero, List.set_cons_succ, List.length_cons, List.length_nil, Option.toList_some, Option.toList_none, List.nil_append, List.cons_append, true_and, and_true, true_or, or_true, Int.cast_ofNat_Int, Int.natCast_zero, Int.natCast_one, zsh_34, zsh_39]
  refine ⟨?_, h2.trans h4⟩
  simpa using h3
def zfb (L : List zBk) (c : Int) (D : List Int) : List zBk × Int := if zix L (zhash D) < 0 then (zapp 64 L (zhash D, D), c) else if zoat L (zix L (zhash D)) = some D then (L, c) else (L, 1)
theorem zBT.dr {μ : zM} {L : List zBk} {D : List Int} {c : Int} (h : zBT μ L D c) : zbys μ 39 0 D.length = D := zbys_eq (fun j x hj => by rw [Int.zero_add]; exact h.2.2.2.2.1 j x hj)
set_option maxRecDepth 100000 in
set_option maxHeartbeats 4000000 in
theorem c_X0_finishBlock {d : Nat} {μ : zM} {L : List zBk} {D : List Int} {c : Int} (hd : 2 ≤ d) (h : zBT μ L D c) : zCt d mX0_finishBlock [.inr (some 34)] μ (fun r μ' => r = some (.inl (zhash D)) ∧ zBT μ' (zfb L c D).1 [] (zfb L c D).2 ∧ zfr [34, 35, 36, 37, 38] μ μ') := by
  have hdr := h.dr
  have hh := h
  obtain ⟨h1, h2, h3, h4, h5, h6, h7⟩ := h
  have hix := h1.ix (zhash D)
  have hhr := zhash_rg D
  refine of_X0_finishBlock (by omega) (fun G hG => s_X0_finishBlock_0 hG ?_)
  simp only [b_X0_finishBlock_0, b_X0_finishBlock_26, b_X0_finishBlock_46, b_X0_finishBlock_66, b_X0_finishBlock_71, o_c, o_il, o_al, o_is, o_as, o_inc, o_add, o_sub, o_mul, o_and, o_or, o_xor, o_shl, o_shr, o_ush, o_rem, o_dup, o_dup2, o_gf, o_pf, o_pz, o_iald, o_iast, o_zald, o_zast, o_aald, o_gs, o_min, o_acp, o_call, o_callv, zgf, zpf, zia_, zza_, zra_, zrd_, zcp_, zpop, zsm8_0, zsm8_1, zsm8_2, zsm8_3, zsm8_4, zsm8_5, zrc, zisob, t_ieq, t_ilt, t_igt, t_zeq, t_zlt, t_zgt, t_sw, zsw, t_iret, t_zret, t_aret, t_vret, zrg, List.getElem?_cons_zero, List.getElem?_cons_succ, List.set_cons_zero, List.set_cons_succ, List.length_cons, List.length_nil, Option.toList_some, Option.toList_none, List.nil_append, List.cons_append, true_and, and_true, true_or, or_true, Int.cast_ofNat_Int, Int.natCast_zero, Int.natCast_one, zsh_34, zsh_39, zsh_35]
  rw [h2]
  refine zcall (c_X10_nameOf zsh_39 (by omega) (by omega) (by rw [hdr]; exact h4)) ?_
  rw [hdr]
  simp only [b_X0_finishBlock_0, b_X0_finishBlock_26, b_X0_finishBlock_46, b_X0_finishBlock_66, b_X0_finishBlock_71, o_c, o_il, o_al, o_is, o_as, o_inc, o_add, o_sub, o_mul, o_and, o_or, o_xor, o_shl, o_shr, o_ush, o_rem, o_dup, o_dup2, o_gf, o_pf, o_pz, o_iald, o_iast, o_zald, o_zast, o_aald, o_gs, o_min, o_acp, o_call, o_callv, zgf, zpf, zia_, zza_, zra_, zrd_, zcp_, zpop, zsm8_0, zsm8_1, zsm8_2, zsm8_3, zsm8_4, zsm8_5, zrc, zisob, t_ieq, t_ilt, t_igt, t_zeq, t_zlt, t_zgt, t_sw, zsw, t_iret, t_zret, t_aret, t_vret, zrg, List.getElem?_cons_zero, List.getElem?_cons_succ, List.set_cons_zero, List.set_cons_succ, List.length_cons, List.length_nil, Option.toList_some, Option.toList_none, List.nil_append, List.cons_append, true_and, and_true, true_or, or_true, Int.cast_ofNat_Int, Int.natCast_zero, Int.natCast_one, zsh_34, zsh_39, zsh_35]
  refine zcall (c_X6_slotOf h1 ⟨by omega, by omega⟩) ?_
  simp only [b_X0_finishBlock_0, b_X0_finishBlock_26, b_X0_finishBlock_46, b_X0_finishBlock_66, b_X0_finishBlock_71, o_c, o_il, o_al, o_is, o_as, o_inc, o_add, o_sub, o_mul, o_and, o_or, o_xor, o_shl, o_shr, o_ush, o_rem, o_dup, o_dup2, o_gf, o_pf, o_pz, o_iald, o_iast, o_zald, o_zast, o_aald, o_gs, o_min, o_acp, o_call, o_callv, zgf, zpf, zia_, zza_, zra_, zrd_, zcp_, zpop, zsm8_0, zsm8_1, zsm8_2, zsm8_3, zsm8_4, zsm8_5, zrc, zisob, t_ieq, t_ilt, t_igt, t_zeq, t_zlt, t_zgt, t_sw, zsw, t_iret, t_zret, t_aret, t_vret, zrg, List.getElem?_cons_zero, List.getElem?_cons_succ, List.set_cons_zero, List.set_cons_succ, List.length_cons, List.length_nil, Option.toList_some, Option.toList_none, List.nil_append, List.cons_append, true_and, and_true, true_or, or_true, Int.cast_ofNat_Int, Int.natCast_zero, Int.natCast_one, zsh_34, zsh_39, zsh_35]
  unfold zfb
  have fin : ∀ (μ' : zM) (L' : List zBk) (c' : Int), zSH μ' 35 64 L' → μ' 34 3 = c' → (c' = 0 ∨ c' = 1) → zBT (zup μ' 34 2 0) L' [] c' := fun μ' L' c' a b e => ⟨a.of (zup_ne _ (by decide)) (zup_ne _ (by decide)) (zup_ne _ (by decide)) (zup_ne _ (by decide)), by simp [zup], by simp, by simp, by simp, by simp [zup, b], e⟩
  refine ⟨by unfold zrg at hix; omega, fun e => ?_, fun e => ?_⟩
  · rw [if_pos e, h2]
    refine ⟨_, c_X6_append (sz := D.length) (by omega) h1 zsh_39 (by omega) (by omega) h3 (by rw [hdr]; exact ⟨hhr, h3, h4⟩), ?_⟩
    rw [hdr]
    rintro r μ' ⟨rfl, b1, b2⟩
    simp only [b_X0_finishBlock_0, b_X0_finishBlock_26, b_X0_finishBlock_46, b_X0_finishBlock_66, b_X0_finishBlock_71, o_c, o_il, o_al, o_is, o_as, o_inc, o_add, o_sub, o_mul, o_and, o_or, o_xor, o_shl, o_shr, o_ush, o_rem, o_dup, o_dup2, o_gf, o_pf, o_pz, o_iald, o_iast, o_zald, o_zast, o_aald, o_gs, o_min, o_acp, o_call, o_callv, zgf, zpf, zia_, zza_, zra_, zrd_, zcp_, zpop, zsm8_0, zsm8_1, zsm8_2, zsm8_3, zsm8_4, zsm8_5, zrc, zisob, t_ieq, t_ilt, t_igt, t_zeq, t_zlt, t_zgt, t_sw, zsw, t_iret, t_zret, t_aret, t_vret, zrg, List.getElem?_cons_zero, List.getElem?_cons_succ, List.set_cons_zero, List.set_cons_succ, List.length_cons, List.length_nil, Option.toList_some, Option.toList_none, List.nil_append, List.cons_append, true_and, and_true, true_or, or_true, Int.cast_ofNat_Int, Int.natCast_zero, Int.natCast_one, zsh_34, zsh_39, zsh_35]
    refine ⟨fin μ' _ c b1 (by rw [b2 34 (by decide)]; exact h6) h7, fun x hx => ?_⟩
    simp only [List.mem_cons, List.not_mem_nil, or_false, not_or] at hx
    rw [zup_ne x hx.1]
    exact b2 x (by simp; omega)
  · rw [if_neg (by omega), h2]
    refine zcall (c_X6_hasSameBytes (sz := D.length) (by omega) h1 hix.1 zsh_39 (by omega) (by omega) (by rw [hdr]; exact h4)) ?_
    rw [hdr]
    simp only [b_X0_finishBlock_0, b_X0_finishBlock_26, b_X0_finishBlock_46, b_X0_finishBlock_66, b_X0_finishBlock_71, o_c, o_il, o_al, o_is, o_as, o_inc, o_add, o_sub, o_mul, o_and, o_or, o_xor, o_shl, o_shr, o_ush, o_rem, o_dup, o_dup2, o_gf, o_pf, o_pz, o_iald, o_iast, o_zald, o_zast, o_aald, o_gs, o_min, o_acp, o_call, o_callv, zgf, zpf, zia_, zza_, zra_, zrd_, zcp_, zpop, zsm8_0, zsm8_1, zsm8_2, zsm8_3, zsm8_4, zsm8_5, zrc, zisob, t_ieq, t_ilt, t_igt, t_zeq, t_zlt, t_zgt, t_sw, zsw, t_iret, t_zret, t_aret, t_vret, zrg, List.getElem?_cons_zero, List.getElem?_cons_succ, List.set_cons_zero, List.set_cons_succ, List.length_cons, List.length_nil, Option.toList_some, Option.toList_none, List.nil_append, List.cons_append, true_and, and_true, true_or, or_true, Int.cast_ofNat_Int, Int.natCast_zero, Int.natCast_one, zsh_34, zsh_39, zsh_35]
    by_cases e2 : zoat L (zix L (zhash D)) = some D
    · rw [if_pos e2, if_pos e2]
      refine ⟨by omega, fun w => by omega, fun _ => ⟨fin μ _ c h1 h6 h7, fun x hx => ?_⟩⟩
      simp only [List.mem_cons, List.not_mem_nil, or_false, not_or] at hx
      rw [zup_ne x hx.1]
    · rw [if_neg e2, if_neg e2]
      refine ⟨by omega, fun _ => ⟨fin (zup μ 34 3 1) _ 1 (h1.of (zup_ne _ (by decide)) (zup_ne _ (by decide)) (zup_ne _ (by decide)) (zup_ne _ (by decide))) (by simp [zup]) (Or.inr rfl), fun x hx => ?_⟩, fun w => absurd rfl w⟩
      simp only [List.mem_cons, List.not_mem_nil, or_false, not_or] at hx
      rw [zup_ne x hx.1, zup_ne x hx.1]
set_option maxRecDepth 100000 in
set_option maxHeartbeats 4000000 in
theorem c_X0_takeCopy {d : Nat} {μ : zM} {L L2 : List zBk} {D : List Int} {c n2 s : Int} {k2 : Nat} (hd : 3 ≤ d) (h : zBT μ L D c) (h2 : zSH μ k2 n2 L2) (hs : zrg s) : zCt d mX0_takeCopy [.inr (some 34), .inr (some k2), .inl s] μ (fun r μ' => r = none ∧ zBT μ' (if 0 ≤ s then (match L2[s.toNat]? with | some b => zapp 64 L b | none => L) else L) D c ∧ zfr [35, 36, 37, 38] μ μ') := by
  refine of_X0_takeCopy (by omega) (fun G hG => s_X0_takeCopy_0 hG ?_)
  simp only [b_X0_takeCopy_0, o_c, o_il, o_al, o_is, o_as, o_inc, o_add, o_sub, o_mul, o_and, o_or, o_xor, o_shl, o_shr, o_ush, o_rem, o_dup, o_dup2, o_gf, o_pf, o_pz, o_iald, o_iast, o_zald, o_zast, o_aald, o_gs, o_min, o_acp, o_call, o_callv, zgf, zpf, zia_, zza_, zra_, zrd_, zcp_, zpop, zsm8_0, zsm8_1, zsm8_2, zsm8_3, zsm8_4, zsm8_5, zrc, zisob, t_ieq, t_ilt, t_igt, t_zeq, t_zlt, t_zgt, t_sw, zsw, t_iret, t_zret, t_aret, t_vret, zrg, List.getElem?_cons_zero, List.getElem?_cons_succ, List.set_cons_zero, List.set_cons_succ, List.length_cons, List.length_nil, Option.toList_some, Option.toList_none, List.nil_append, List.cons_append, true_and, and_true, true_or, or_true, Int.cast_ofNat_Int, Int.natCast_zero, Int.natCast_one, zsh_34, zsh_39, zsh_35]
  refine ⟨_, c_X6_appendCopy (by omega) h.1 h2 hs, ?_⟩
  rintro r μ' ⟨rfl, b1, b2⟩
  simp only [b_X0_takeCopy_0, o_c, o_il, o_al, o_is, o_as, o_inc, o_add, o_sub, o_mul, o_and, o_or, o_xor, o_shl, o_shr, o_ush, o_rem, o_dup, o_dup2, o_gf, o_pf, o_pz, o_iald, o_iast, o_zald, o_zast, o_aald, o_gs, o_min, o_acp, o_call, o_callv, zgf, zpf, zia_, zza_, zra_, zrd_, zcp_, zpop, zsm8_0, zsm8_1, zsm8_2, zsm8_3, zsm8_4, zsm8_5, zrc, zisob, t_ieq, t_ilt, t_igt, t_zeq, t_zlt, t_zgt, t_sw, zsw, t_iret, t_zret, t_aret, t_vret, zrg, List.getElem?_cons_zero, List.getElem?_cons_succ, List.set_cons_zero, List.set_cons_succ, List.length_cons, List.length_nil, Option.toList_some, Option.toList_none, List.nil_append, List.cons_append, true_and, and_true, true_or, or_true, Int.cast_ofNat_Int, Int.natCast_zero, Int.natCast_one, zsh_34, zsh_39, zsh_35]
  refine ⟨⟨b1, by rw [b2 34 (by decide)]; exact h.2.1, h.2.2.1, h.2.2.2.1, fun j x hj => by rw [b2 39 (by decide)]; exact h.2.2.2.2.1 j x hj, by rw [b2 34 (by decide)]; exact h.2.2.2.2.2.1, h.2.2.2.2.2.2⟩, b2⟩
