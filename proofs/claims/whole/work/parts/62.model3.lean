/-! THE REFERENCE: its stores -/
def zmL (μ : zM) (s : Nat) (L : List zBk) : Prop := μ 57 s = L.length ∧ L.length ≤ 64 ∧ (∀ b ∈ L, zBOK b) ∧ ∀ (i : Nat) (b : zBk), L[i]? = some b → μ 58 (64 * s + i) = b.1 ∧ μ 59 (64 * s + i) = b.2.length ∧ ∀ (j : Nat) (x : Int), b.2[j]? = some x → μ 60 (18 * (64 * s + i) + j) = x
def zAt (μ : zM) (k : Int) (bs : List Int) : Prop := (0 ≤ k ∧ k < 192) ∧ μ 59 k = bs.length ∧ bs.length ≤ 18 ∧ (∀ (j : Nat) (x : Int), bs[j]? = some x → μ 60 (18 * k + j) = x) ∧ ∀ x ∈ bs, 0 ≤ x ∧ x ≤ 255
theorem zAt.at {μ : zM} {k i : Int} {bs : List Int} (h : zAt μ k bs) (h0 : 0 ≤ i) (hi : i < bs.length) : μ 60 (18 * k + i) = zp_byte (some bs) i ∧ 0 ≤ zp_byte (some bs) i ∧ zp_byte (some bs) i ≤ 255 := by
  obtain ⟨j, rfl, hj, e⟩ := zrow_bi h0 hi
  rw [e]
  exact ⟨h.2.2.2.1 j _ (List.getElem?_eq_getElem hj), h.2.2.2.2 _ (List.getElem_mem hj)⟩
theorem zAt.pr {μ : zM} {k i : Int} {bs : List Int} (h : zAt μ k bs) (h0 : 0 ≤ i) (hi : i + 1 < bs.length) : zp_pair (some bs) i = zp_byte (some bs) i + 256 * zp_byte (some bs) (i + 1) ∧ 0 ≤ zp_pair (some bs) i ∧ zp_pair (some bs) i ≤ 65535 := by
  have a := h.at h0 (by omega)
  have b := h.at (i := i + 1) (by omega) hi
  have e : zp_pair (some bs) i = zp_byte (some bs) i + 256 * zp_byte (some bs) (i + 1) := by
    unfold zp_pair
    rw [if_pos ⟨h0, by simp only [zp_size]; omega⟩]
  rw [e]
  exact ⟨rfl, by omega, by omega⟩
theorem zmL.at {μ : zM} {s i : Nat} {L : List zBk} {b : zBk} (h : zmL μ s L) (hs : s < 3) (hb : L[i]? = some b) : zAt μ (64 * s + i) b.2 := by
  have hi := (List.getElem?_eq_some_iff.mp hb).1
  have hl := h.2.1
  have hk := h.2.2.1 b (List.mem_of_getElem? hb)
  obtain ⟨_, e2, e3⟩ := h.2.2.2 i b hb
  exact ⟨by omega, e2, hk.2.1, e3, hk.2.2⟩
def zwr (s : Nat) (L : List zBk) (nm : Int) : Int := if zix L nm < 0 then -1 else 64 * s + zix L nm
theorem zmL.wr {μ : zM} {s : Nat} {L : List zBk} (h : zmL μ s L) (hs : s < 3) (nm : Int) : (zlk L nm = none ∧ zix L nm < 0 ∧ zwr s L nm = -1) ∨ ∃ (bs : List Int) (i : Nat), zlk L nm = some bs ∧ L[i]? = some (nm, bs) ∧ ¬ zix L nm < 0 ∧ zwr s L nm = 64 * s + i ∧ zAt μ (zwr s L nm) bs := by
  rcases zix_cases L nm with ⟨e, _⟩ | ⟨i, b, e, e2, e3⟩
  · left
    refine ⟨by unfold zlk; rw [e]; rfl, by omega, ?_⟩
    unfold zwr
    rw [if_pos (by omega)]
  · right
    have e4 : zwr s L nm = 64 * s + i := by unfold zwr; rw [if_neg (by omega), e]
    refine ⟨b.2, i, by unfold zlk; rw [e]; simp [zoat, e2], by rw [e2, ← e3], by omega, e4, ?_⟩
    rw [e4]
    exact h.at hs e2
set_option maxRecDepth 100000 in
set_option maxHeartbeats 4000000 in
theorem c_X11_where {d s : Nat} {μ : zM} {L : List zBk} {nm : Int} (h : zmL μ s L) (hs : s < 3) (hn : zrg nm) : zCt d mX11_where [.inr (some 56), .inl (s : Int), .inl nm] μ (zR (.inl (zwr s L nm)) μ) := by
  unfold zrg at hn
  have h57 := h.1
  have hl := h.2.1
  refine of_X11_where (fun G hG => s_X11_where_0 hG ?_)
  have loop : ∀ (r i : Nat), i + r = L.length → zix L nm = zixf nm (L.drop i) i → G 5 [.inr (some 56), .inl (s : Int), .inl nm, .inl (64 * (s : Int) + i)] [] μ := by
    intro r
    induction r with
    | zero =>
      intro i k1 k2
      rw [List.drop_of_length_le (by omega)] at k2
      refine s_X11_where_5 hG ?_
      simp only [b_X11_where_0, b_X11_where_5, b_X11_where_20, b_X11_where_30, b_X11_where_32, b_X11_where_38, o_c, o_il, o_al, o_is, o_as, o_inc, o_add, o_sub, o_mul, o_and, o_or, o_xor, o_shl, o_shr, o_ush, o_rem, o_dup, o_dup2, o_gf, o_pf, o_pz, o_iald, o_iast, o_zald, o_zast, o_aald, o_gs, o_min, o_acp, o_call, o_callv, zgf, zpf, zia_, zza_, zra_, zrd_, zcp_, zpop, zsm8_0, zsm8_1, zsm8_2, zsm8_3, zsm8_4, zsm8_5, zrc, zisob, t_ieq, t_ilt, t_igt, t_zeq, t_zlt, t_zgt, t_sw, zsw, t_iret, t_zret, t_aret, t_vret, zrg, List.getElem?_cons_zero, List.getElem?_cons_succ, List.set_cons_zero, List.set_cons_succ, List.length_cons, List.length_nil, Option.toList_some, Option.toList_none, List.nil_append, List.cons_append, true_and, and_true, true_or, or_true, Int.cast_ofNat_Int, Int.natCast_zero, Int.natCast_one, zsh_56, zsh_57, zsh_58, zsh_59, zsh_60, zsh_61, zsh_62, zsh_63, zsh_64, zsh_65, zsh_66, zsh_67, zsh_68, zsh_69, zsh_70, zsh_71, zsh_72, zsh_73, zsh_74, zsh_75, zsh_76, zsh_77, zsh_78, zsh_79, zsh_80, zsh_81, zsh_82, zsh_83, zsh_84, zsh_85, zsh_86, zsh_87, zup_ne, zup_eq, zup_nf, ne_eq, not_false_eq_true]
      rw [h57]
      refine ⟨by omega, by omega, by omega, fun w => by omega, fun _ => ?_⟩
      unfold zwr
      rw [k2]
      exact ⟨rfl, rfl⟩
    | succ r ih =>
      intro i k1 k2
      have hi : i < L.length := by omega
      rw [List.drop_eq_getElem_cons hi] at k2
      simp only [zixf] at k2
      have e1 := (h.2.2.2 i L[i] (List.getElem?_eq_getElem hi)).1
      have hr := (h.2.2.1 L[i] (List.getElem_mem hi)).1
      refine s_X11_where_5 hG ?_
      simp only [b_X11_where_0, b_X11_where_5, b_X11_where_20, b_X11_where_30, b_X11_where_32, b_X11_where_38, o_c, o_il, o_al, o_is, o_as, o_inc, o_add, o_sub, o_mul, o_and, o_or, o_xor, o_shl, o_shr, o_ush, o_rem, o_dup, o_dup2, o_gf, o_pf, o_pz, o_iald, o_iast, o_zald, o_zast, o_aald, o_gs, o_min, o_acp, o_call, o_callv, zgf, zpf, zia_, zza_, zra_, zrd_, zcp_, zpop, zsm8_0, zsm8_1, zsm8_2, zsm8_3, zsm8_4, zsm8_5, zrc, zisob, t_ieq, t_ilt, t_igt, t_zeq, t_zlt, t_zgt, t_sw, zsw, t_iret, t_zret, t_aret, t_vret, zrg, List.getElem?_cons_zero, List.getElem?_cons_succ, List.set_cons_zero, List.set_cons_succ, List.length_cons, List.length_nil, Option.toList_some, Option.toList_none, List.nil_append, List.cons_append, true_and, and_true, true_or, or_true, Int.cast_ofNat_Int, Int.natCast_zero, Int.natCast_one, zsh_56, zsh_57, zsh_58, zsh_59, zsh_60, zsh_61, zsh_62, zsh_63, zsh_64, zsh_65, zsh_66, zsh_67, zsh_68, zsh_69, zsh_70, zsh_71, zsh_72, zsh_73, zsh_74, zsh_75, zsh_76, zsh_77, zsh_78, zsh_79, zsh_80, zsh_81, zsh_82, zsh_83, zsh_84, zsh_85, zsh_86, zsh_87, zup_ne, zup_eq, zup_nf, ne_eq, not_false_eq_true]
      rw [h57, e1]
      refine ⟨by omega, by omega, by omega, fun _ => ⟨by omega, by omega, by omega, fun w => ?_, fun w => ?_⟩, fun w => by omega⟩
      · rw [if_pos w] at k2
        unfold zwr
        rw [k2, if_neg (by omega)]
        exact ⟨rfl, rfl⟩
      · rw [if_neg w] at k2
        have := ih (i + 1) (by omega) (by rw [k2]; rfl)
        rw [show (64 * (s : Int) + ((i + 1 : Nat) : Int)) = 64 * (s : Int) + i + 1 by omega] at this
        exact this
  simp only [b_X11_where_0, b_X11_where_5, b_X11_where_20, b_X11_where_30, b_X11_where_32, b_X11_where_38, o_c, o_il, o_al, o_is, o_as, o_inc, o_add, o_sub, o_mul, o_and, o_or, o_xor, o_shl, o_shr, o_ush, o_rem, o_dup, o_dup2, o_gf, o_pf, o_pz, o_iald, o_iast, o_zald, o_zast, o_aald, o_gs, o_min, o_acp, o_call, o_callv, zgf, zpf, zia_, zza_, zra_, zrd_, zcp_, zpop, zsm8_0, zsm8_1, zsm8_2, zsm8_3, zsm8_4, zsm8_5, zrc, zisob, t_ieq, t_ilt, t_igt, t_zeq, t_zlt, t_zgt, t_sw, zsw, t_iret, t_zret, t_aret, t_vret, zrg, List.getElem?_cons_zero, List.getElem?_cons_succ, List.set_cons_zero, List.set_cons_succ, List.length_cons, List.length_nil, Option.toList_some, Option.toList_none, List.nil_append, List.cons_append, true_and, and_true, true_or, or_true, Int.cast_ofNat_Int, Int.natCast_zero, Int.natCast_one, zsh_56, zsh_57, zsh_58, zsh_59, zsh_60, zsh_61, zsh_62, zsh_63, zsh_64, zsh_65, zsh_66, zsh_67, zsh_68, zsh_69, zsh_70, zsh_71, zsh_72, zsh_73, zsh_74, zsh_75, zsh_76, zsh_77, zsh_78, zsh_79, zsh_80, zsh_81, zsh_82, zsh_83, zsh_84, zsh_85, zsh_86, zsh_87, zup_ne, zup_eq, zup_nf, ne_eq, not_false_eq_true]
  have := loop L.length 0 (by omega) rfl
  rw [show (64 * (s : Int) + ((0 : Nat) : Int)) = 64 * (s : Int) by omega] at this
  exact this
set_option maxRecDepth 100000 in
set_option maxHeartbeats 4000000 in
theorem c_X11_sameAsRow {d : Nat} {μ : zM} {k : Int} {bs D : List Int} (h : zAt μ k bs) (hD : zmR μ D) : zCt d mX11_sameAsRow [.inr (some 56), .inl k] μ (zR (.inl (zb (bs = D))) μ) := by
  obtain ⟨h1, h2, h3, h4, h5⟩ := h
  obtain ⟨r1, r2, r3, r4⟩ := hD
  refine of_X11_sameAsRow (fun G hG => s_X11_sameAsRow_0 hG ?_)
  have ex0 : bs ≠ D → ∀ i : Nat, i ≤ D.length → G 21 [.inr (some 56), .inl k, .inl 0, .inl (i : Int)] [] μ := by
    intro hne i hi
    refine s_X11_sameAsRow_21 hG ?_
    simp only [b_X11_sameAsRow_0, b_X11_sameAsRow_13, b_X11_sameAsRow_17, b_X11_sameAsRow_18, b_X11_sameAsRow_21, b_X11_sameAsRow_29, b_X11_sameAsRow_33, b_X11_sameAsRow_53, b_X11_sameAsRow_57, b_X11_sameAsRow_58, b_X11_sameAsRow_65, o_c, o_il, o_al, o_is, o_as, o_inc, o_add, o_sub, o_mul, o_and, o_or, o_xor, o_shl, o_shr, o_ush, o_rem, o_dup, o_dup2, o_gf, o_pf, o_pz, o_iald, o_iast, o_zald, o_zast, o_aald, o_gs, o_min, o_acp, o_call, o_callv, zgf, zpf, zia_, zza_, zra_, zrd_, zcp_, zpop, zsm8_0, zsm8_1, zsm8_2, zsm8_3, zsm8_4, zsm8_5, zrc, zisob, t_ieq, t_ilt, t_igt, t_zeq, t_zlt, t_zgt, t_sw, zsw, t_iret, t_zret, t_aret, t_vret, zrg, List.getElem?_cons_zero, List.getElem?_cons_succ, List.set_cons_zero, List.set_cons_succ, List.length_cons, List.length_nil, Option.toList_some, Option.toList_none, List.nil_append, List.cons_append, true_and, and_true, true_or, or_true, Int.cast_ofNat_Int, Int.natCast_zero, Int.natCast_one, zsh_56, zsh_57, zsh_58, zsh_59, zsh_60, zsh_61, zsh_62, zsh_63, zsh_64, zsh_65, zsh_66, zsh_67, zsh_68, zsh_69, zsh_70, zsh_71, zsh_72, zsh_73, zsh_74, zsh_75, zsh_76, zsh_77, zsh_78, zsh_79, zsh_80, zsh_81, zsh_82, zsh_83, zsh_84, zsh_85, zsh_86, zsh_87, zup_ne, zup_eq, zup_nf, ne_eq, not_false_eq_true]
    rw [zb_f hne]
    exact ⟨by omega, by omega, fun _ => ⟨by omega, fun _ => ⟨rfl, rfl⟩, fun w => absurd trivial w⟩, fun _ => ⟨rfl, rfl⟩⟩
  have loop : bs.length = D.length → ∀ (r i : Nat), i + r = D.length → (∀ j : Nat, j < i → bs[j]? = D[j]?) → G 21 [.inr (some 56), .inl k, .inl 1, .inl (i : Int)] [] μ := by
    intro hlen r
    induction r with
    | zero =>
      intro i k1 k2
      have : bs = D := List.ext_getElem? (fun j => by
        by_cases hj : j < i
        · exact k2 j hj
        · rw [List.getElem?_eq_none (by omega), List.getElem?_eq_none (by omega)])
      refine s_X11_sameAsRow_21 hG ?_
      simp only [b_X11_sameAsRow_0, b_X11_sameAsRow_13, b_X11_sameAsRow_17, b_X11_sameAsRow_18, b_X11_sameAsRow_21, b_X11_sameAsRow_29, b_X11_sameAsRow_33, b_X11_sameAsRow_53, b_X11_sameAsRow_57, b_X11_sameAsRow_58, b_X11_sameAsRow_65, o_c, o_il, o_al, o_is, o_as, o_inc, o_add, o_sub, o_mul, o_and, o_or, o_xor, o_shl, o_shr, o_ush, o_rem, o_dup, o_dup2, o_gf, o_pf, o_pz, o_iald, o_iast, o_zald, o_zast, o_aald, o_gs, o_min, o_acp, o_call, o_callv, zgf, zpf, zia_, zza_, zra_, zrd_, zcp_, zpop, zsm8_0, zsm8_1, zsm8_2, zsm8_3, zsm8_4, zsm8_5, zrc, zisob, t_ieq, t_ilt, t_igt, t_zeq, t_zlt, t_zgt, t_sw, zsw, t_iret, t_zret, t_aret, t_vret, zrg, List.getElem?_cons_zero, List.getElem?_cons_succ, List.set_cons_zero, List.set_cons_succ, List.length_cons, List.length_nil, Option.toList_some, Option.toList_none, List.nil_append, List.cons_append, true_and, and_true, true_or, or_true, Int.cast_ofNat_Int, Int.natCast_zero, Int.natCast_one, zsh_56, zsh_57, zsh_58, zsh_59, zsh_60, zsh_61, zsh_62, zsh_63, zsh_64, zsh_65, zsh_66, zsh_67, zsh_68, zsh_69, zsh_70, zsh_71, zsh_72, zsh_73, zsh_74, zsh_75, zsh_76, zsh_77, zsh_78, zsh_79, zsh_80, zsh_81, zsh_82, zsh_83, zsh_84, zsh_85, zsh_86, zsh_87, zup_ne, zup_eq, zup_nf, ne_eq, not_false_eq_true]
      rw [zb_t this]
      exact ⟨by omega, by omega, fun w => by omega, fun _ => ⟨rfl, rfl⟩⟩
    | succ r ih =>
      intro i k1 k2
      have hi : i < D.length := by omega
      have hib : i < bs.length := by omega
      have a1 := h4 i _ (List.getElem?_eq_getElem hib)
      have a2 := r3 i _ (List.getElem?_eq_getElem hi)
      have a3 := h5 _ (List.getElem_mem hib)
      have a4 := r4 _ (List.getElem_mem hi)
      refine s_X11_sameAsRow_21 hG ?_
      simp only [b_X11_sameAsRow_0, b_X11_sameAsRow_13, b_X11_sameAsRow_17, b_X11_sameAsRow_18, b_X11_sameAsRow_21, b_X11_sameAsRow_29, b_X11_sameAsRow_33, b_X11_sameAsRow_53, b_X11_sameAsRow_57, b_X11_sameAsRow_58, b_X11_sameAsRow_65, o_c, o_il, o_al, o_is, o_as, o_inc, o_add, o_sub, o_mul, o_and, o_or, o_xor, o_shl, o_shr, o_ush, o_rem, o_dup, o_dup2, o_gf, o_pf, o_pz, o_iald, o_iast, o_zald, o_zast, o_aald, o_gs, o_min, o_acp, o_call, o_callv, zgf, zpf, zia_, zza_, zra_, zrd_, zcp_, zpop, zsm8_0, zsm8_1, zsm8_2, zsm8_3, zsm8_4, zsm8_5, zrc, zisob, t_ieq, t_ilt, t_igt, t_zeq, t_zlt, t_zgt, t_sw, zsw, t_iret, t_zret, t_aret, t_vret, zrg, List.getElem?_cons_zero, List.getElem?_cons_succ, List.set_cons_zero, List.set_cons_succ, List.length_cons, List.length_nil, Option.toList_some, Option.toList_none, List.nil_append, List.cons_append, true_and, and_true, true_or, or_true, Int.cast_ofNat_Int, Int.natCast_zero, Int.natCast_one, zsh_56, zsh_57, zsh_58, zsh_59, zsh_60, zsh_61, zsh_62, zsh_63, zsh_64, zsh_65, zsh_66, zsh_67, zsh_68, zsh_69, zsh_70, zsh_71, zsh_72, zsh_73, zsh_74, zsh_75, zsh_76, zsh_77, zsh_78, zsh_79, zsh_80, zsh_81, zsh_82, zsh_83, zsh_84, zsh_85, zsh_86, zsh_87, zup_ne, zup_eq, zup_nf, ne_eq, not_false_eq_true]
      rw [a1, a2]
      refine ⟨by omega, by omega, fun _ => ⟨by omega, fun w => by omega, fun _ => ⟨by omega, by omega, by omega, by omega, fun w => ?_, fun w => ?_⟩⟩, fun w => by omega⟩
      · refine ih (i + 1) (by omega) (fun j hj => ?_)
        rcases Nat.lt_succ_iff_lt_or_eq.mp hj with q | q
        · exact k2 j q
        · rw [q, List.getElem?_eq_getElem hib, List.getElem?_eq_getElem hi, w]
      · refine ex0 (fun q => w ?_) (i + 1) (by omega)
        subst q
        rfl
  simp only [b_X11_sameAsRow_0, b_X11_sameAsRow_13, b_X11_sameAsRow_17, b_X11_sameAsRow_18, b_X11_sameAsRow_21, b_X11_sameAsRow_29, b_X11_sameAsRow_33, b_X11_sameAsRow_53, b_X11_sameAsRow_57, b_X11_sameAsRow_58, b_X11_sameAsRow_65, o_c, o_il, o_al, o_is, o_as, o_inc, o_add, o_sub, o_mul, o_and, o_or, o_xor, o_shl, o_shr, o_ush, o_rem, o_dup, o_dup2, o_gf, o_pf, o_pz, o_iald, o_iast, o_zald, o_zast, o_aald, o_gs, o_min, o_acp, o_call, o_callv, zgf, zpf, zia_, zza_, zra_, zrd_, zcp_, zpop, zsm8_0, zsm8_1, zsm8_2, zsm8_3, zsm8_4, zsm8_5, zrc, zisob, t_ieq, t_ilt, t_igt, t_zeq, t_zlt, t_zgt, t_sw, zsw, t_iret, t_zret, t_aret, t_vret, zrg, List.getElem?_cons_zero, List.getElem?_cons_succ, List.set_cons_zero, List.set_cons_succ, List.length_cons, List.length_nil, Option.toList_some, Option.toList_none, List.nil_append, List.cons_append, true_and, and_true, true_or, or_true, Int.cast_ofNat_Int, Int.natCast_zero, Int.natCast_one, zsh_56, zsh_57, zsh_58, zsh_59, zsh_60, zsh_61, zsh_62, zsh_63, zsh_64, zsh_65, zsh_66, zsh_67, zsh_68, zsh_69, zsh_70, zsh_71, zsh_72, zsh_73, zsh_74, zsh_75, zsh_76, zsh_77, zsh_78, zsh_79, zsh_80, zsh_81, zsh_82, zsh_83, zsh_84, zsh_85, zsh_86, zsh_87, zup_ne, zup_eq, zup_nf, ne_eq, not_false_eq_true]
  rw [h2, r1]
  refine ⟨by omega, by omega, by omega, fun w => ?_, fun w => ?_⟩
  · exact loop (by omega) D.length 0 (by omega) (fun j hj => by omega)
  · exact ex0 (fun q => w (by rw [q])) 0 (by omega)
set_option maxRecDepth 100000 in
set_option maxHeartbeats 4000000 in
theorem c_X11_cell {d : Nat} {μ : zM} {k i : Int} {bs : List Int} (h : zAt μ k bs) (h0 : 0 ≤ i) (hi : i < bs.length) : zCt d mX11_cell [.inr (some 56), .inl k, .inl i] μ (zR (.inl (zp_byte (some bs) i)) μ) := by
  have a := h.at h0 hi
  have h1 := h.1
  have h3 := h.2.2.1
  refine of_X11_cell (fun G hG => s_X11_cell_0 hG ?_)
  simp only [b_X11_cell_0, o_c, o_il, o_al, o_is, o_as, o_inc, o_add, o_sub, o_mul, o_and, o_or, o_xor, o_shl, o_shr, o_ush, o_rem, o_dup, o_dup2, o_gf, o_pf, o_pz, o_iald, o_iast, o_zald, o_zast, o_aald, o_gs, o_min, o_acp, o_call, o_callv, zgf, zpf, zia_, zza_, zra_, zrd_, zcp_, zpop, zsm8_0, zsm8_1, zsm8_2, zsm8_3, zsm8_4, zsm8_5, zrc, zisob, t_ieq, t_ilt, t_igt, t_zeq, t_zlt, t_zgt, t_sw, zsw, t_iret, t_zret, t_aret, t_vret, zrg, List.getElem?_cons_zero, List.getElem?_cons_succ, List.set_cons_zero, List.set_cons_succ, List.length_cons, List.length_nil, Option.toList_some, Option.toList_none, List.nil_append, List.cons_append, true_and, and_true, true_or, or_true, Int.cast_ofNat_Int, Int.natCast_zero, Int.natCast_one, zsh_56, zsh_57, zsh_58, zsh_59, zsh_60, zsh_61, zsh_62, zsh_63, zsh_64, zsh_65, zsh_66, zsh_67, zsh_68, zsh_69, zsh_70, zsh_71, zsh_72, zsh_73, zsh_74, zsh_75, zsh_76, zsh_77, zsh_78, zsh_79, zsh_80, zsh_81, zsh_82, zsh_83, zsh_84, zsh_85, zsh_86, zsh_87, zup_ne, zup_eq, zup_nf, ne_eq, not_false_eq_true]
  rw [a.1]
  exact ⟨by omega, rfl, rfl⟩
set_option maxRecDepth 100000 in
set_option maxHeartbeats 4000000 in
theorem c_X11_pair {d : Nat} {μ : zM} {k i : Int} {bs : List Int} (hd : 1 ≤ d) (h : zAt μ k bs) (h0 : 0 ≤ i) (hi : i + 1 < bs.length) : zCt d mX11_pair [.inr (some 56), .inl k, .inl i] μ (zR (.inl (zp_pair (some bs) i)) μ) := by
  refine of_X11_pair hd (fun G hG => s_X11_pair_0 hG ?_)
  simp only [b_X11_pair_0, o_c, o_il, o_al, o_is, o_as, o_inc, o_add, o_sub, o_mul, o_and, o_or, o_xor, o_shl, o_shr, o_ush, o_rem, o_dup, o_dup2, o_gf, o_pf, o_pz, o_iald, o_iast, o_zald, o_zast, o_aald, o_gs, o_min, o_acp, o_call, o_callv, zgf, zpf, zia_, zza_, zra_, zrd_, zcp_, zpop, zsm8_0, zsm8_1, zsm8_2, zsm8_3, zsm8_4, zsm8_5, zrc, zisob, t_ieq, t_ilt, t_igt, t_zeq, t_zlt, t_zgt, t_sw, zsw, t_iret, t_zret, t_aret, t_vret, zrg, List.getElem?_cons_zero, List.getElem?_cons_succ, List.set_cons_zero, List.set_cons_succ, List.length_cons, List.length_nil, Option.toList_some, Option.toList_none, List.nil_append, List.cons_append, true_and, and_true, true_or, or_true, Int.cast_ofNat_Int, Int.natCast_zero, Int.natCast_one, zsh_56, zsh_57, zsh_58, zsh_59, zsh_60, zsh_61, zsh_62, zsh_63, zsh_64, zsh_65, zsh_66, zsh_67, zsh_68, zsh_69, zsh_70, zsh_71, zsh_72, zsh_73, zsh_74, zsh_75, zsh_76, zsh_77, zsh_78, zsh_79, zsh_80, zsh_81, zsh_82, zsh_83, zsh_84, zsh_85, zsh_86, zsh_87, zup_ne, zup_eq, zup_nf, ne_eq, not_false_eq_true]
  refine zcall (c_X11_cell h h0 (by omega)) ?_
  simp only [b_X11_pair_0, o_c, o_il, o_al, o_is, o_as, o_inc, o_add, o_sub, o_mul, o_and, o_or, o_xor, o_shl, o_shr, o_ush, o_rem, o_dup, o_dup2, o_gf, o_pf, o_pz, o_iald, o_iast, o_zald, o_zast, o_aald, o_gs, o_min, o_acp, o_call, o_callv, zgf, zpf, zia_, zza_, zra_, zrd_, zcp_, zpop, zsm8_0, zsm8_1, zsm8_2, zsm8_3, zsm8_4, zsm8_5, zrc, zisob, t_ieq, t_ilt, t_igt, t_zeq, t_zlt, t_zgt, t_sw, zsw, t_iret, t_zret, t_aret, t_vret, zrg, List.getElem?_cons_zero, List.getElem?_cons_succ, List.set_cons_zero, List.set_cons_succ, List.length_cons, List.length_nil, Option.toList_some, Option.toList_none, List.nil_append, List.cons_append, true_and, and_true, true_or, or_true, Int.cast_ofNat_Int, Int.natCast_zero, Int.natCast_one, zsh_56, zsh_57, zsh_58, zsh_59, zsh_60, zsh_61, zsh_62, zsh_63, zsh_64, zsh_65, zsh_66, zsh_67, zsh_68, zsh_69, zsh_70, zsh_71, zsh_72, zsh_73, zsh_74, zsh_75, zsh_76, zsh_77, zsh_78, zsh_79, zsh_80, zsh_81, zsh_82, zsh_83, zsh_84, zsh_85, zsh_86, zsh_87, zup_ne, zup_eq, zup_nf, ne_eq, not_false_eq_true]
  refine zcall (c_X11_cell h (i := i + 1) (by omega) hi) ?_
  simp only [b_X11_pair_0, o_c, o_il, o_al, o_is, o_as, o_inc, o_add, o_sub, o_mul, o_and, o_or, o_xor, o_shl, o_shr, o_ush, o_rem, o_dup, o_dup2, o_gf, o_pf, o_pz, o_iald, o_iast, o_zald, o_zast, o_aald, o_gs, o_min, o_acp, o_call, o_callv, zgf, zpf, zia_, zza_, zra_, zrd_, zcp_, zpop, zsm8_0, zsm8_1, zsm8_2, zsm8_3, zsm8_4, zsm8_5, zrc, zisob, t_ieq, t_ilt, t_igt, t_zeq, t_zlt, t_zgt, t_sw, zsw, t_iret, t_zret, t_aret, t_vret, zrg, List.getElem?_cons_zero, List.getElem?_cons_succ, List.set_cons_zero, List.set_cons_succ, List.length_cons, List.length_nil, Option.toList_some, Option.toList_none, List.nil_append, List.cons_append, true_and, and_true, true_or, or_true, Int.cast_ofNat_Int, Int.natCast_zero, Int.natCast_one, zsh_56, zsh_57, zsh_58, zsh_59, zsh_60, zsh_61, zsh_62, zsh_63, zsh_64, zsh_65, zsh_66, zsh_67, zsh_68, zsh_69, zsh_70, zsh_71, zsh_72, zsh_73, zsh_74, zsh_75, zsh_76, zsh_77, zsh_78, zsh_79, zsh_80, zsh_81, zsh_82, zsh_83, zsh_84, zsh_85, zsh_86, zsh_87, zup_ne, zup_eq, zup_nf, ne_eq, not_false_eq_true]
  rw [(h.pr h0 hi).1]
  exact ⟨rfl, rfl⟩
set_option maxRecDepth 100000 in
set_option maxHeartbeats 4000000 in
theorem c_X11_blockAt {d : Nat} {μ : zM} {store nm : Int} {Lf : Nat → List zBk} (hd : 1 ≤ d) (h : ∀ s, s < 3 → zmL μ s (Lf s)) (hs : zrg store) (hn : zrg nm) : zCt d mX11_blockAt [.inr (some 56), .inl store, .inl nm] μ (zR (.inl (if 0 ≤ store ∧ store ≤ 2 then zwr store.toNat (Lf store.toNat) nm else -1)) μ) := by
  by_cases hc : 0 ≤ store ∧ store ≤ 2
  · rw [if_pos hc]
    obtain ⟨s, rfl, h3⟩ := zs3 hc
    rw [Int.toNat_natCast]
    refine of_X11_blockAt hd (fun G hG => s_X11_blockAt_0 hG ?_)
    simp only [b_X11_blockAt_0, b_X11_blockAt_7, b_X11_blockAt_16, b_X11_blockAt_17, o_c, o_il, o_al, o_is, o_as, o_inc, o_add, o_sub, o_mul, o_and, o_or, o_xor, o_shl, o_shr, o_ush, o_rem, o_dup, o_dup2, o_gf, o_pf, o_pz, o_iald, o_iast, o_zald, o_zast, o_aald, o_gs, o_min, o_acp, o_call, o_callv, zgf, zpf, zia_, zza_, zra_, zrd_, zcp_, zpop, zsm8_0, zsm8_1, zsm8_2, zsm8_3, zsm8_4, zsm8_5, zrc, zisob, t_ieq, t_ilt, t_igt, t_zeq, t_zlt, t_zgt, t_sw, zsw, t_iret, t_zret, t_aret, t_vret, zrg, List.getElem?_cons_zero, List.getElem?_cons_succ, List.set_cons_zero, List.set_cons_succ, List.length_cons, List.length_nil, Option.toList_some, Option.toList_none, List.nil_append, List.cons_append, true_and, and_true, true_or, or_true, Int.cast_ofNat_Int, Int.natCast_zero, Int.natCast_one, zsh_56, zsh_57, zsh_58, zsh_59, zsh_60, zsh_61, zsh_62, zsh_63, zsh_64, zsh_65, zsh_66, zsh_67, zsh_68, zsh_69, zsh_70, zsh_71, zsh_72, zsh_73, zsh_74, zsh_75, zsh_76, zsh_77, zsh_78, zsh_79, zsh_80, zsh_81, zsh_82, zsh_83, zsh_84, zsh_85, zsh_86, zsh_87, zup_ne, zup_eq, zup_nf, ne_eq, not_false_eq_true]
    refine zcall (c_X11_isStore hs) ?_
    rw [zb_t hc]
    simp only [b_X11_blockAt_0, b_X11_blockAt_7, b_X11_blockAt_16, b_X11_blockAt_17, o_c, o_il, o_al, o_is, o_as, o_inc, o_add, o_sub, o_mul, o_and, o_or, o_xor, o_shl, o_shr, o_ush, o_rem, o_dup, o_dup2, o_gf, o_pf, o_pz, o_iald, o_iast, o_zald, o_zast, o_aald, o_gs, o_min, o_acp, o_call, o_callv, zgf, zpf, zia_, zza_, zra_, zrd_, zcp_, zpop, zsm8_0, zsm8_1, zsm8_2, zsm8_3, zsm8_4, zsm8_5, zrc, zisob, t_ieq, t_ilt, t_igt, t_zeq, t_zlt, t_zgt, t_sw, zsw, t_iret, t_zret, t_aret, t_vret, zrg, List.getElem?_cons_zero, List.getElem?_cons_succ, List.set_cons_zero, List.set_cons_succ, List.length_cons, List.length_nil, Option.toList_some, Option.toList_none, List.nil_append, List.cons_append, true_and, and_true, true_or, or_true, Int.cast_ofNat_Int, Int.natCast_zero, Int.natCast_one, zsh_56, zsh_57, zsh_58, zsh_59, zsh_60, zsh_61, zsh_62, zsh_63, zsh_64, zsh_65, zsh_66, zsh_67, zsh_68, zsh_69, zsh_70, zsh_71, zsh_72, zsh_73, zsh_74, zsh_75, zsh_76, zsh_77, zsh_78, zsh_79, zsh_80, zsh_81, zsh_82, zsh_83, zsh_84, zsh_85, zsh_86, zsh_87, zup_ne, zup_eq, zup_nf, ne_eq, not_false_eq_true]
    refine ⟨by omega, fun w => by omega, fun _ => ?_⟩
    refine zcall (c_X11_where (h s h3) h3 hn) ?_
    simp only [b_X11_blockAt_0, b_X11_blockAt_7, b_X11_blockAt_16, b_X11_blockAt_17, o_c, o_il, o_al, o_is, o_as, o_inc, o_add, o_sub, o_mul, o_and, o_or, o_xor, o_shl, o_shr, o_ush, o_rem, o_dup, o_dup2, o_gf, o_pf, o_pz, o_iald, o_iast, o_zald, o_zast, o_aald, o_gs, o_min, o_acp, o_call, o_callv, zgf, zpf, zia_, zza_, zra_, zrd_, zcp_, zpop, zsm8_0, zsm8_1, zsm8_2, zsm8_3, zsm8_4, zsm8_5, zrc, zisob, t_ieq, t_ilt, t_igt, t_zeq, t_zlt, t_zgt, t_sw, zsw, t_iret, t_zret, t_aret, t_vret, zrg, List.getElem?_cons_zero, List.getElem?_cons_succ, List.set_cons_zero, List.set_cons_succ, List.length_cons, List.length_nil, Option.toList_some, Option.toList_none, List.nil_append, List.cons_append, true_and, and_true, true_or, or_true, Int.cast_ofNat_Int, Int.natCast_zero, Int.natCast_one, zsh_56, zsh_57, zsh_58, zsh_59, zsh_60, zsh_61, zsh_62, zsh_63, zsh_64, zsh_65, zsh_66, zsh_67, zsh_68, zsh_69, zsh_70, zsh_71, zsh_72, zsh_73, zsh_74, zsh_75, zsh_76, zsh_77, zsh_78, zsh_79, zsh_80, zsh_81, zsh_82, zsh_83, zsh_84, zsh_85, zsh_86, zsh_87, zup_ne, zup_eq, zup_nf, ne_eq, not_false_eq_true]
    exact ⟨rfl, rfl⟩
  · rw [if_neg hc]
    refine of_X11_blockAt hd (fun G hG => s_X11_blockAt_0 hG ?_)
    simp only [b_X11_blockAt_0, b_X11_blockAt_7, b_X11_blockAt_16, b_X11_blockAt_17, o_c, o_il, o_al, o_is, o_as, o_inc, o_add, o_sub, o_mul, o_and, o_or, o_xor, o_shl, o_shr, o_ush, o_rem, o_dup, o_dup2, o_gf, o_pf, o_pz, o_iald, o_iast, o_zald, o_zast, o_aald, o_gs, o_min, o_acp, o_call, o_callv, zgf, zpf, zia_, zza_, zra_, zrd_, zcp_, zpop, zsm8_0, zsm8_1, zsm8_2, zsm8_3, zsm8_4, zsm8_5, zrc, zisob, t_ieq, t_ilt, t_igt, t_zeq, t_zlt, t_zgt, t_sw, zsw, t_iret, t_zret, t_aret, t_vret, zrg, List.getElem?_cons_zero, List.getElem?_cons_succ, List.set_cons_zero, List.set_cons_succ, List.length_cons, List.length_nil, Option.toList_some, Option.toList_none, List.nil_append, List.cons_append, true_and, and_true, true_or, or_true, Int.cast_ofNat_Int, Int.natCast_zero, Int.natCast_one, zsh_56, zsh_57, zsh_58, zsh_59, zsh_60, zsh_61, zsh_62, zsh_63, zsh_64, zsh_65, zsh_66, zsh_67, zsh_68, zsh_69, zsh_70, zsh_71, zsh_72, zsh_73, zsh_74, zsh_75, zsh_76, zsh_77, zsh_78, zsh_79, zsh_80, zsh_81, zsh_82, zsh_83, zsh_84, zsh_85, zsh_86, zsh_87, zup_ne, zup_eq, zup_nf, ne_eq, not_false_eq_true]
    refine zcall (c_X11_isStore hs) ?_
    rw [zb_f (P := 0 ≤ store ∧ store ≤ 2) hc]
    simp only [b_X11_blockAt_0, b_X11_blockAt_7, b_X11_blockAt_16, b_X11_blockAt_17, o_c, o_il, o_al, o_is, o_as, o_inc, o_add, o_sub, o_mul, o_and, o_or, o_xor, o_shl, o_shr, o_ush, o_rem, o_dup, o_dup2, o_gf, o_pf, o_pz, o_iald, o_iast, o_zald, o_zast, o_aald, o_gs, o_min, o_acp, o_call, o_callv, zgf, zpf, zia_, zza_, zra_, zrd_, zcp_, zpop, zsm8_0, zsm8_1, zsm8_2, zsm8_3, zsm8_4, zsm8_5, zrc, zisob, t_ieq, t_ilt, t_igt, t_zeq, t_zlt, t_zgt, t_sw, zsw, t_iret, t_zret, t_aret, t_vret, zrg, List.getElem?_cons_zero, List.getElem?_cons_succ, List.set_cons_zero, List.set_cons_succ, List.length_cons, List.length_nil, Option.toList_some, Option.toList_none, List.nil_append, List.cons_append, true_and, and_true, true_or, or_true, Int.cast_ofNat_Int, Int.natCast_zero, Int.natCast_one, zsh_56, zsh_57, zsh_58, zsh_59, zsh_60, zsh_61, zsh_62, zsh_63, zsh_64, zsh_65, zsh_66, zsh_67, zsh_68, zsh_69, zsh_70, zsh_71, zsh_72, zsh_73, zsh_74, zsh_75, zsh_76, zsh_77, zsh_78, zsh_79, zsh_80, zsh_81, zsh_82, zsh_83, zsh_84, zsh_85, zsh_86, zsh_87, zup_ne, zup_eq, zup_nf, ne_eq, not_false_eq_true]
    exact ⟨by omega, fun _ => ⟨rfl, rfl⟩, fun w => absurd trivial w⟩
/-- the block of a name in a store, if both are there -/
def zlks3 (Lf : Nat → List zBk) (store nm : Int) : Option (List Int) := if 0 ≤ store ∧ store ≤ 2 then zlk (Lf store.toNat) nm else none
theorem zbAt {μ : zM} {Lf : Nat → List zBk} (h : ∀ s, s < 3 → zmL μ s (Lf s)) (store nm : Int) : (zlks3 Lf store nm = none ∧ (if 0 ≤ store ∧ store ≤ 2 then zwr store.toNat (Lf store.toNat) nm else -1) = -1) ∨ ∃ (k : Int) (bs : List Int), (0 ≤ store ∧ store ≤ 2) ∧ (if 0 ≤ store ∧ store ≤ 2 then zwr store.toNat (Lf store.toNat) nm else -1) = k ∧ zAt μ k bs ∧ zlks3 Lf store nm = some bs ∧ (nm, bs) ∈ Lf store.toNat := by
  unfold zlks3
  by_cases hc : 0 ≤ store ∧ store ≤ 2
  · rw [if_pos hc, if_pos hc]
    have h3 : store.toNat < 3 := by omega
    rcases (h _ h3).wr h3 nm with ⟨e1, _, e2⟩ | ⟨bs, i, e1, e2, _, e3, e4⟩
    · exact Or.inl ⟨e1, e2⟩
    · exact Or.inr ⟨_, bs, hc, rfl, e4, e1, List.mem_of_getElem? e2⟩
  · rw [if_neg hc, if_neg hc]
    exact Or.inl ⟨rfl, rfl⟩
set_option maxRecDepth 100000 in
set_option maxHeartbeats 4000000 in
theorem c_X11_bytes {d : Nat} {μ : zM} {store nm : Int} {Lf : Nat → List zBk} (hd : 2 ≤ d) (h : ∀ s, s < 3 → zmL μ s (Lf s)) (hs : zrg store) (hn : zrg nm) : zCt d mX11_bytes [.inr (some 56), .inl store, .inl nm] μ (zR (.inl (zp_size (zlks3 Lf store nm))) μ) := by
  refine of_X11_bytes (by omega) (fun G hG => s_X11_bytes_0 hG ?_)
  simp only [b_X11_bytes_0, b_X11_bytes_11, b_X11_bytes_15, b_X11_bytes_21, o_c, o_il, o_al, o_is, o_as, o_inc, o_add, o_sub, o_mul, o_and, o_or, o_xor, o_shl, o_shr, o_ush, o_rem, o_dup, o_dup2, o_gf, o_pf, o_pz, o_iald, o_iast, o_zald, o_zast, o_aald, o_gs, o_min, o_acp, o_call, o_callv, zgf, zpf, zia_, zza_, zra_, zrd_, zcp_, zpop, zsm8_0, zsm8_1, zsm8_2, zsm8_3, zsm8_4, zsm8_5, zrc, zisob, t_ieq, t_ilt, t_igt, t_zeq, t_zlt, t_zgt, t_sw, zsw, t_iret, t_zret, t_aret, t_vret, zrg, List.getElem?_cons_zero, List.getElem?_cons_succ, List.set_cons_zero, List.set_cons_succ, List.length_cons, List.length_nil, Option.toList_some, Option.toList_none, List.nil_append, List.cons_append, true_and, and_true, true_or, or_true, Int.cast_ofNat_Int, Int.natCast_zero, Int.natCast_one, zsh_56, zsh_57, zsh_58, zsh_59, zsh_60, zsh_61, zsh_62, zsh_63, zsh_64, zsh_65, zsh_66, zsh_67, zsh_68, zsh_69, zsh_70, zsh_71, zsh_72, zsh_73, zsh_74, zsh_75, zsh_76, zsh_77, zsh_78, zsh_79, zsh_80, zsh_81, zsh_82, zsh_83, zsh_84, zsh_85, zsh_86, zsh_87, zup_ne, zup_eq, zup_nf, ne_eq, not_false_eq_true]
  refine zcall (c_X11_blockAt (by omega) h hs hn) ?_
  rcases zbAt h store nm with ⟨e1, e2⟩ | ⟨k, bs, hc, e2, ha, e1, _⟩
  · rw [e1, e2]
    simp only [b_X11_bytes_0, b_X11_bytes_11, b_X11_bytes_15, b_X11_bytes_21, o_c, o_il, o_al, o_is, o_as, o_inc, o_add, o_sub, o_mul, o_and, o_or, o_xor, o_shl, o_shr, o_ush, o_rem, o_dup, o_dup2, o_gf, o_pf, o_pz, o_iald, o_iast, o_zald, o_zast, o_aald, o_gs, o_min, o_acp, o_call, o_callv, zgf, zpf, zia_, zza_, zra_, zrd_, zcp_, zpop, zsm8_0, zsm8_1, zsm8_2, zsm8_3, zsm8_4, zsm8_5, zrc, zisob, t_ieq, t_ilt, t_igt, t_zeq, t_zlt, t_zgt, t_sw, zsw, t_iret, t_zret, t_aret, t_vret, zrg, List.getElem?_cons_zero, List.getElem?_cons_succ, List.set_cons_zero, List.set_cons_succ, List.length_cons, List.length_nil, Option.toList_some, Option.toList_none, List.nil_append, List.cons_append, true_and, and_true, true_or, or_true, Int.cast_ofNat_Int, Int.natCast_zero, Int.natCast_one, zsh_56, zsh_57, zsh_58, zsh_59, zsh_60, zsh_61, zsh_62, zsh_63, zsh_64, zsh_65, zsh_66, zsh_67, zsh_68, zsh_69, zsh_70, zsh_71, zsh_72, zsh_73, zsh_74, zsh_75, zsh_76, zsh_77, zsh_78, zsh_79, zsh_80, zsh_81, zsh_82, zsh_83, zsh_84, zsh_85, zsh_86, zsh_87, zup_ne, zup_eq, zup_nf, ne_eq, not_false_eq_true]
    exact ⟨by omega, fun _ => ⟨rfl, rfl⟩, fun w => by omega⟩
  · rw [e1, e2]
    simp only [b_X11_bytes_0, b_X11_bytes_11, b_X11_bytes_15, b_X11_bytes_21, o_c, o_il, o_al, o_is, o_as, o_inc, o_add, o_sub, o_mul, o_and, o_or, o_xor, o_shl, o_shr, o_ush, o_rem, o_dup, o_dup2, o_gf, o_pf, o_pz, o_iald, o_iast, o_zald, o_zast, o_aald, o_gs, o_min, o_acp, o_call, o_callv, zgf, zpf, zia_, zza_, zra_, zrd_, zcp_, zpop, zsm8_0, zsm8_1, zsm8_2, zsm8_3, zsm8_4, zsm8_5, zrc, zisob, t_ieq, t_ilt, t_igt, t_zeq, t_zlt, t_zgt, t_sw, zsw, t_iret, t_zret, t_aret, t_vret, zrg, List.getElem?_cons_zero, List.getElem?_cons_succ, List.set_cons_zero, List.set_cons_succ, List.length_cons, List.length_nil, Option.toList_some, Option.toList_none, List.nil_append, List.cons_append, true_and, and_true, true_or, or_true, Int.cast_ofNat_Int, Int.natCast_zero, Int.natCast_one, zsh_56, zsh_57, zsh_58, zsh_59, zsh_60, zsh_61, zsh_62, zsh_63, zsh_64, zsh_65, zsh_66, zsh_67, zsh_68, zsh_69, zsh_70, zsh_71, zsh_72, zsh_73, zsh_74, zsh_75, zsh_76, zsh_77, zsh_78, zsh_79, zsh_80, zsh_81, zsh_82, zsh_83, zsh_84, zsh_85, zsh_86, zsh_87, zup_ne, zup_eq, zup_nf, ne_eq, not_false_eq_true]
    have h1 := ha.1
    rw [ha.2.1]
    exact ⟨by omega, fun w => by omega, fun _ => ⟨by omega, rfl, rfl⟩⟩
set_option maxRecDepth 100000 in
set_option maxHeartbeats 4000000 in
theorem c_X11_raw {d : Nat} {μ : zM} {store nm i : Int} {Lf : Nat → List zBk} (hd : 2 ≤ d) (h : ∀ s, s < 3 → zmL μ s (Lf s)) (hs : zrg store) (hn : zrg nm) (hi : zrg i) : zCt d mX11_raw [.inr (some 56), .inl store, .inl nm, .inl i] μ (zR (.inl (zp_byte (zlks3 Lf store nm) i)) μ) := by
  unfold zrg at hi
  refine of_X11_raw (by omega) (fun G hG => s_X11_raw_0 hG ?_)
  simp only [b_X11_raw_0, b_X11_raw_13, b_X11_raw_17, b_X11_raw_28, b_X11_raw_32, b_X11_raw_39, o_c, o_il, o_al, o_is, o_as, o_inc, o_add, o_sub, o_mul, o_and, o_or, o_xor, o_shl, o_shr, o_ush, o_rem, o_dup, o_dup2, o_gf, o_pf, o_pz, o_iald, o_iast, o_zald, o_zast, o_aald, o_gs, o_min, o_acp, o_call, o_callv, zgf, zpf, zia_, zza_, zra_, zrd_, zcp_, zpop, zsm8_0, zsm8_1, zsm8_2, zsm8_3, zsm8_4, zsm8_5, zrc, zisob, t_ieq, t_ilt, t_igt, t_zeq, t_zlt, t_zgt, t_sw, zsw, t_iret, t_zret, t_aret, t_vret, zrg, List.getElem?_cons_zero, List.getElem?_cons_succ, List.set_cons_zero, List.set_cons_succ, List.length_cons, List.length_nil, Option.toList_some, Option.toList_none, List.nil_append, List.cons_append, true_and, and_true, true_or, or_true, Int.cast_ofNat_Int, Int.natCast_zero, Int.natCast_one, zsh_56, zsh_57, zsh_58, zsh_59, zsh_60, zsh_61, zsh_62, zsh_63, zsh_64, zsh_65, zsh_66, zsh_67, zsh_68, zsh_69, zsh_70, zsh_71, zsh_72, zsh_73, zsh_74, zsh_75, zsh_76, zsh_77, zsh_78, zsh_79, zsh_80, zsh_81, zsh_82, zsh_83, zsh_84, zsh_85, zsh_86, zsh_87, zup_ne, zup_eq, zup_nf, ne_eq, not_false_eq_true]
  refine zcall (c_X11_blockAt (by omega) h hs hn) ?_
  rcases zbAt h store nm with ⟨e1, e2⟩ | ⟨k, bs, hc, e2, ha, e1, _⟩
  · rw [e1, e2]
    simp only [b_X11_raw_0, b_X11_raw_13, b_X11_raw_17, b_X11_raw_28, b_X11_raw_32, b_X11_raw_39, o_c, o_il, o_al, o_is, o_as, o_inc, o_add, o_sub, o_mul, o_and, o_or, o_xor, o_shl, o_shr, o_ush, o_rem, o_dup, o_dup2, o_gf, o_pf, o_pz, o_iald, o_iast, o_zald, o_zast, o_aald, o_gs, o_min, o_acp, o_call, o_callv, zgf, zpf, zia_, zza_, zra_, zrd_, zcp_, zpop, zsm8_0, zsm8_1, zsm8_2, zsm8_3, zsm8_4, zsm8_5, zrc, zisob, t_ieq, t_ilt, t_igt, t_zeq, t_zlt, t_zgt, t_sw, zsw, t_iret, t_zret, t_aret, t_vret, zrg, List.getElem?_cons_zero, List.getElem?_cons_succ, List.set_cons_zero, List.set_cons_succ, List.length_cons, List.length_nil, Option.toList_some, Option.toList_none, List.nil_append, List.cons_append, true_and, and_true, true_or, or_true, Int.cast_ofNat_Int, Int.natCast_zero, Int.natCast_one, zsh_56, zsh_57, zsh_58, zsh_59, zsh_60, zsh_61, zsh_62, zsh_63, zsh_64, zsh_65, zsh_66, zsh_67, zsh_68, zsh_69, zsh_70, zsh_71, zsh_72, zsh_73, zsh_74, zsh_75, zsh_76, zsh_77, zsh_78, zsh_79, zsh_80, zsh_81, zsh_82, zsh_83, zsh_84, zsh_85, zsh_86, zsh_87, zup_ne, zup_eq, zup_nf, ne_eq, not_false_eq_true]
    exact ⟨by omega, fun _ => ⟨rfl, rfl⟩, fun w => by omega⟩
  · rw [e1, e2]
    simp only [b_X11_raw_0, b_X11_raw_13, b_X11_raw_17, b_X11_raw_28, b_X11_raw_32, b_X11_raw_39, o_c, o_il, o_al, o_is, o_as, o_inc, o_add, o_sub, o_mul, o_and, o_or, o_xor, o_shl, o_shr, o_ush, o_rem, o_dup, o_dup2, o_gf, o_pf, o_pz, o_iald, o_iast, o_zald, o_zast, o_aald, o_gs, o_min, o_acp, o_call, o_callv, zgf, zpf, zia_, zza_, zra_, zrd_, zcp_, zpop, zsm8_0, zsm8_1, zsm8_2, zsm8_3, zsm8_4, zsm8_5, zrc, zisob, t_ieq, t_ilt, t_igt, t_zeq, t_zlt, t_zgt, t_sw, zsw, t_iret, t_zret, t_aret, t_vret, zrg, List.getElem?_cons_zero, List.getElem?_cons_succ, List.set_cons_zero, List.set_cons_succ, List.length_cons, List.length_nil, Option.toList_some, Option.toList_none, List.nil_append, List.cons_append, true_and, and_true, true_or, or_true, Int.cast_ofNat_Int, Int.natCast_zero, Int.natCast_one, zsh_56, zsh_57, zsh_58, zsh_59, zsh_60, zsh_61, zsh_62, zsh_63, zsh_64, zsh_65, zsh_66, zsh_67, zsh_68, zsh_69, zsh_70, zsh_71, zsh_72, zsh_73, zsh_74, zsh_75, zsh_76, zsh_77, zsh_78, zsh_79, zsh_80, zsh_81, zsh_82, zsh_83, zsh_84, zsh_85, zsh_86, zsh_87, zup_ne, zup_eq, zup_nf, ne_eq, not_false_eq_true]
    have h1 := ha.1
    have h18 := ha.2.2.1
    rw [ha.2.1]
    refine ⟨by omega, fun w => by omega, fun _ => ⟨by omega, fun w => ?_, fun w => ⟨by omega, by omega, by omega, fun w2 => ?_, fun w2 => ?_⟩⟩⟩
    · have : zp_byte (some bs) i = -1 := by unfold zp_byte; simp; omega
      rw [this]
      exact ⟨rfl, rfl⟩
    · refine zcall (c_X11_cell ha w w2) ?_
      simp only [b_X11_raw_0, b_X11_raw_13, b_X11_raw_17, b_X11_raw_28, b_X11_raw_32, b_X11_raw_39, o_c, o_il, o_al, o_is, o_as, o_inc, o_add, o_sub, o_mul, o_and, o_or, o_xor, o_shl, o_shr, o_ush, o_rem, o_dup, o_dup2, o_gf, o_pf, o_pz, o_iald, o_iast, o_zald, o_zast, o_aald, o_gs, o_min, o_acp, o_call, o_callv, zgf, zpf, zia_, zza_, zra_, zrd_, zcp_, zpop, zsm8_0, zsm8_1, zsm8_2, zsm8_3, zsm8_4, zsm8_5, zrc, zisob, t_ieq, t_ilt, t_igt, t_zeq, t_zlt, t_zgt, t_sw, zsw, t_iret, t_zret, t_aret, t_vret, zrg, List.getElem?_cons_zero, List.getElem?_cons_succ, List.set_cons_zero, List.set_cons_succ, List.length_cons, List.length_nil, Option.toList_some, Option.toList_none, List.nil_append, List.cons_append, true_and, and_true, true_or, or_true, Int.cast_ofNat_Int, Int.natCast_zero, Int.natCast_one, zsh_56, zsh_57, zsh_58, zsh_59, zsh_60, zsh_61, zsh_62, zsh_63, zsh_64, zsh_65, zsh_66, zsh_67, zsh_68, zsh_69, zsh_70, zsh_71, zsh_72, zsh_73, zsh_74, zsh_75, zsh_76, zsh_77, zsh_78, zsh_79, zsh_80, zsh_81, zsh_82, zsh_83, zsh_84, zsh_85, zsh_86, zsh_87, zup_ne, zup_eq, zup_nf, ne_eq, not_false_eq_true]
      exact ⟨rfl, rfl⟩
    · have : zp_byte (some bs) i = -1 := by
        unfold zp_byte
        simp only [List.getD]
        rw [List.getElem?_eq_none (by omega)]
        simp
      rw [this]
      exact ⟨rfl, rfl⟩
theorem zisB.sh {bs : List Int} (h : zisB (some bs)) : (zknd (some bs) = 0 ∧ 1 ≤ bs.length ∧ bs.length ≤ 9 ∧ zcnt (some bs) = 0) ∨ (zknd (some bs) = 1 ∧ (1 ≤ zp_byte (some bs) 1 ∧ zp_byte (some bs) 1 ≤ 4) ∧ (bs.length : Int) = 2 + 4 * zp_byte (some bs) 1 ∧ zcnt (some bs) = zp_byte (some bs) 1) ∨ (zknd (some bs) = 2 ∧ (0 ≤ zp_byte (some bs) 1 ∧ zp_byte (some bs) 1 ≤ 4) ∧ (bs.length : Int) = 2 + 3 * zp_byte (some bs) 1 ∧ zcnt (some bs) = zp_byte (some bs) 1) ∨ (zknd (some bs) = 3 ∧ (1 ≤ zp_byte (some bs) 1 ∧ zp_byte (some bs) 1 ≤ 15) ∧ (bs.length : Int) = 2 + 2 * zpc (zp_byte (some bs) 1) ∧ zcnt (some bs) = zpc (zp_byte (some bs) 1) ∧ 0 ≤ zpc (zp_byte (some bs) 1) ∧ zpc (zp_byte (some bs) 1) ≤ 4) := by
  rcases h with ⟨h1, h2⟩ | ⟨h1, h2, h3, h4⟩
  · left
    have h2 : (bs.length : Int) ≤ 9 := h2
    refine ⟨h1, ?_, by omega, ?_⟩
    · rcases bs with _ | ⟨x, r⟩
      · exact absurd h1 (by simp [zknd, zp_byte])
      · simp
    · unfold zcnt; rw [h1]; simp
  · right
    have hsz : zp_size (some bs) = bs.length := rfl
    rw [hsz] at h3
    unfold zgs at h2
    have hk : zknd (some bs) = 1 ∨ zknd (some bs) = 2 ∨ zknd (some bs) = 3 := by omega
    rcases hk with e | e | e
    · left
      have ec : zcnt (some bs) = zp_byte (some bs) 1 := by unfold zcnt; rw [e, if_pos (Or.inl rfl)]
      rw [ec, e] at h3
      simp only [zpw] at h3
      simp at h3
      exact ⟨e, by omega, by omega, ec⟩
    · right; left
      have ec : zcnt (some bs) = zp_byte (some bs) 1 := by unfold zcnt; rw [e, if_pos (Or.inr rfl)]
      rw [ec, e] at h3
      simp only [zpw] at h3
      simp at h3
      exact ⟨e, by omega, by omega, ec⟩
    · right; right
      have ec : zcnt (some bs) = zpc (zp_byte (some bs) 1) := by unfold zcnt; rw [e, if_neg (by omega), if_pos rfl]
      rw [ec, e] at h3
      simp only [zpw] at h3
      simp at h3
      have hp : 0 ≤ zpc (zp_byte (some bs) 1) ∧ zpc (zp_byte (some bs) 1) ≤ 4 := by
        obtain ⟨m, hm⟩ := Int.eq_ofNat_of_zero_le (show 0 ≤ zp_byte (some bs) 1 by omega)
        have := zpc15 ⟨m, by omega⟩
        change zpcn 16 m ≤ 4 at this
        unfold zpc
        rw [hm]
        simp only [Int.toNat_natCast]
        omega
      exact ⟨e, by omega, by omega, ec, hp⟩
