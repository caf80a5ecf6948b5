/-! THE REFERENCE: its walks -/
def zmV (μ : zM) (T : List Int) : Prop := μ 56 32 = T.length ∧ zAR μ 82 T.reverse
def zmS (μ : zM) (L : List zBk) (S : List Int) : Prop := (μ 56 30 = S.length ∧ zAR μ 81 S) ∧ (μ 56 34 = (zmis L S).length ∧ zAR μ 83 (zmis L S)) ∧ zNm S
def zmQ (μ : zM) (s : Nat) (L : List zBk) (S : List Int) : Prop := ∀ (i : Nat) (b : zBk), L[i]? = some b → μ 61 (64 * s + i) = if b.1 ∈ S then 1 else 0
theorem zAt.f {μ μ' : zM} {k : Int} {bs : List Int} {C : List Nat} {F : List Int} (h : zAt μ k bs) (f : zF C F μ μ') (hc : ∀ c ∈ C, 60 < c) : zAt μ' k bs := by
  have e : ∀ c, 57 ≤ c → c ≤ 60 → μ' c = μ c := fun c h1 h2 => f.1 c (fun w => by have := hc c w; omega) (by omega)
  unfold zAt
  rw [e 59 (by omega) (by omega), e 60 (by omega) (by omega)]
  exact h
theorem zmV.push {μ : zM} {T : List Int} {x : Int} (h : zmV μ T) : zmV (zup (zup μ 82 (μ 56 32) x) 56 32 (μ 56 32 + 1)) (x :: T) := by
  refine ⟨by rw [zup_eq, h.1]; simp, ?_⟩
  rw [List.reverse_cons]
  refine h.2.push (fun i hi => ?_) ?_
  · rw [zup_ne _ (by decide), zup_nf (by rw [h.1]; simpa using hi)]
  · rw [zup_ne _ (by decide), h.1]; simp [zup_eq]
set_option maxRecDepth 100000 in
set_option maxHeartbeats 4000000 in
theorem c_X11_pushLinks {d : Nat} {μ : zM} {k : Int} {bs T : List Int} (hd : 2 ≤ d) (h : zAt μ k bs) (hB : zisB (some bs)) (hT : zmV μ T) (hl : T.length ≤ 600) : zCt d mX11_pushLinks [.inr (some 56), .inl k] μ (fun v μ' => v = none ∧ zmV μ' (zlks (some bs) ++ T) ∧ zF [82] [32] μ μ') := by
  have hk := h.1
  have h18 := h.2.2.1
  obtain ⟨z1, z2, z3⟩ := h.k0 hB
  have hsh := hB.sh
  have hcn := hB.cnt
  obtain ⟨n, hn⟩ : ∃ n : Nat, zcnt (some bs) = n := ⟨(zcnt (some bs)).toNat, by omega⟩
  have hln : (zlks (some bs)).length = n := by simp [zlks, hn]
  refine of_X11_pushLinks (by omega) (fun G hG => s_X11_pushLinks_0 hG ?_)
  have loop : ∀ (r : Nat) (μ1 : zM), r ≤ n → zmV μ1 ((zlks (some bs)).drop r ++ T) → zF [82] [32] μ μ1 → G 44 [.inr (some 56), .inl k, .inl (zknd (some bs)), .inl (n : Int), .inl ((r : Int) - 1)] [] μ1 := by
    intro r
    induction r with
    | zero =>
      intro μ1 k1 k2 k3
      refine s_X11_pushLinks_44 hG ?_
      simp only [b_X11_pushLinks_0, b_X11_pushLinks_11, b_X11_pushLinks_15, b_X11_pushLinks_20, b_X11_pushLinks_32, b_X11_pushLinks_38, b_X11_pushLinks_44, b_X11_pushLinks_49, b_X11_pushLinks_62, b_X11_pushLinks_76, b_X11_pushLinks_81, b_X11_pushLinks_95, b_X11_pushLinks_106, b_X11_pushLinks_123, o_c, o_il, o_al, o_is, o_as, o_inc, o_add, o_sub, o_mul, o_and, o_or, o_xor, o_shl, o_shr, o_ush, o_rem, o_dup, o_dup2, o_gf, o_pf, o_pz, o_iald, o_iast, o_zald, o_zast, o_aald, o_gs, o_min, o_acp, o_call, o_callv, zgf, zpf, zia_, zza_, zra_, zrd_, zcp_, zpop, zsm8_0, zsm8_1, zsm8_2, zsm8_3, zsm8_4, zsm8_5, zrc, zisob, t_ieq, t_ilt, t_igt, t_zeq, t_zlt, t_zgt, t_sw, zsw, t_iret, t_zret, t_aret, t_vret, zrg, List.getElem?_cons_zero, List.getElem?_cons_succ, List.set_cons_zero, List.set_cons_succ, List.length_cons, List.length_nil, Option.toList_some, Option.toList_none, List.nil_append, List.cons_append, true_and, and_true, true_or, or_true, Int.cast_ofNat_Int, Int.natCast_zero, Int.natCast_one, zsh_56, zsh_57, zsh_58, zsh_59, zsh_60, zsh_61, zsh_62, zsh_63, zsh_64, zsh_65, zsh_66, zsh_67, zsh_68, zsh_69, zsh_70, zsh_71, zsh_72, zsh_73, zsh_74, zsh_75, zsh_76, zsh_77, zsh_78, zsh_79, zsh_80, zsh_81, zsh_82, zsh_83, zsh_84, zsh_85, zsh_86, zsh_87, zup_ne, zup_eq, zup_nf, ne_eq, not_false_eq_true]
      exact ⟨by omega, fun _ => ⟨by simpa using k2, k3⟩, fun w => by omega⟩
    | succ r ih =>
      intro μ1 k1 k2 k3
      have ha1 := h.f k3 (by simp)
      have hlk : (zlks (some bs)).drop r = zlnk (some bs) r :: (zlks (some bs)).drop (r + 1) := by
        rw [List.drop_eq_getElem_cons (by omega)]
        congr 1
        simp [zlks]
      have hpl := k2.1
      simp only [List.length_append, List.length_drop, hln] at hpl
      have fin : ∀ y : Int, y = zlnk (some bs) r → G 44 [.inr (some 56), .inl k, .inl (zknd (some bs)), .inl (n : Int), .inl (((r + 1 : Nat) : Int) - 1 + (-1))] [] (zup (zup μ1 82 (μ1 56 32) y) 56 32 (μ1 56 32 + 1)) := by
        intro y hy
        have := ih (zup (zup μ1 82 (μ1 56 32) y) 56 32 (μ1 56 32 + 1)) (by omega) (by rw [hlk, ← hy]; exact k2.push) ((k3.u (by simp) (by decide)).v (by simp))
        rw [show ((r + 1 : Nat) : Int) - 1 + (-1) = (r : Int) - 1 by omega]
        exact this
      have er : ((r + 1 : Nat) : Int) - 1 = r := by omega
      rw [er] at fin ⊢
      refine s_X11_pushLinks_44 hG ?_
      simp only [b_X11_pushLinks_0, b_X11_pushLinks_11, b_X11_pushLinks_15, b_X11_pushLinks_20, b_X11_pushLinks_32, b_X11_pushLinks_38, b_X11_pushLinks_44, b_X11_pushLinks_49, b_X11_pushLinks_62, b_X11_pushLinks_76, b_X11_pushLinks_81, b_X11_pushLinks_95, b_X11_pushLinks_106, b_X11_pushLinks_123, o_c, o_il, o_al, o_is, o_as, o_inc, o_add, o_sub, o_mul, o_and, o_or, o_xor, o_shl, o_shr, o_ush, o_rem, o_dup, o_dup2, o_gf, o_pf, o_pz, o_iald, o_iast, o_zald, o_zast, o_aald, o_gs, o_min, o_acp, o_call, o_callv, zgf, zpf, zia_, zza_, zra_, zrd_, zcp_, zpop, zsm8_0, zsm8_1, zsm8_2, zsm8_3, zsm8_4, zsm8_5, zrc, zisob, t_ieq, t_ilt, t_igt, t_zeq, t_zlt, t_zgt, t_sw, zsw, t_iret, t_zret, t_aret, t_vret, zrg, List.getElem?_cons_zero, List.getElem?_cons_succ, List.set_cons_zero, List.set_cons_succ, List.length_cons, List.length_nil, Option.toList_some, Option.toList_none, List.nil_append, List.cons_append, true_and, and_true, true_or, or_true, Int.cast_ofNat_Int, Int.natCast_zero, Int.natCast_one, zsh_56, zsh_57, zsh_58, zsh_59, zsh_60, zsh_61, zsh_62, zsh_63, zsh_64, zsh_65, zsh_66, zsh_67, zsh_68, zsh_69, zsh_70, zsh_71, zsh_72, zsh_73, zsh_74, zsh_75, zsh_76, zsh_77, zsh_78, zsh_79, zsh_80, zsh_81, zsh_82, zsh_83, zsh_84, zsh_85, zsh_86, zsh_87, zup_ne, zup_eq, zup_nf, ne_eq, not_false_eq_true]
      have kk : zknd (some bs) = 1 ∨ zknd (some bs) = 2 ∨ zknd (some bs) = 3 := by omega
      refine ⟨by omega, fun w => by omega, fun _ => ⟨by omega, by omega, fun w => ?_, fun w => ⟨by omega, by omega, fun w2 => ?_, fun w2 => ?_⟩⟩⟩
      · refine zcall (c_X11_pair (by omega) ha1 (i := 4 + 4 * r) (by omega) (by omega)) ?_
        simp only [b_X11_pushLinks_0, b_X11_pushLinks_11, b_X11_pushLinks_15, b_X11_pushLinks_20, b_X11_pushLinks_32, b_X11_pushLinks_38, b_X11_pushLinks_44, b_X11_pushLinks_49, b_X11_pushLinks_62, b_X11_pushLinks_76, b_X11_pushLinks_81, b_X11_pushLinks_95, b_X11_pushLinks_106, b_X11_pushLinks_123, o_c, o_il, o_al, o_is, o_as, o_inc, o_add, o_sub, o_mul, o_and, o_or, o_xor, o_shl, o_shr, o_ush, o_rem, o_dup, o_dup2, o_gf, o_pf, o_pz, o_iald, o_iast, o_zald, o_zast, o_aald, o_gs, o_min, o_acp, o_call, o_callv, zgf, zpf, zia_, zza_, zra_, zrd_, zcp_, zpop, zsm8_0, zsm8_1, zsm8_2, zsm8_3, zsm8_4, zsm8_5, zrc, zisob, t_ieq, t_ilt, t_igt, t_zeq, t_zlt, t_zgt, t_sw, zsw, t_iret, t_zret, t_aret, t_vret, zrg, List.getElem?_cons_zero, List.getElem?_cons_succ, List.set_cons_zero, List.set_cons_succ, List.length_cons, List.length_nil, Option.toList_some, Option.toList_none, List.nil_append, List.cons_append, true_and, and_true, true_or, or_true, Int.cast_ofNat_Int, Int.natCast_zero, Int.natCast_one, zsh_56, zsh_57, zsh_58, zsh_59, zsh_60, zsh_61, zsh_62, zsh_63, zsh_64, zsh_65, zsh_66, zsh_67, zsh_68, zsh_69, zsh_70, zsh_71, zsh_72, zsh_73, zsh_74, zsh_75, zsh_76, zsh_77, zsh_78, zsh_79, zsh_80, zsh_81, zsh_82, zsh_83, zsh_84, zsh_85, zsh_86, zsh_87, zup_ne, zup_eq, zup_nf, ne_eq, not_false_eq_true]
        refine ⟨by omega, ?_⟩
        refine fin _ ?_
        unfold zlnk
        rw [w, if_pos (by omega)]
        congr 1
        simp only [zpw]; simp; omega
      · refine zcall (c_X11_pair (by omega) ha1 (i := 3 + 3 * r) (by omega) (by omega)) ?_
        simp only [b_X11_pushLinks_0, b_X11_pushLinks_11, b_X11_pushLinks_15, b_X11_pushLinks_20, b_X11_pushLinks_32, b_X11_pushLinks_38, b_X11_pushLinks_44, b_X11_pushLinks_49, b_X11_pushLinks_62, b_X11_pushLinks_76, b_X11_pushLinks_81, b_X11_pushLinks_95, b_X11_pushLinks_106, b_X11_pushLinks_123, o_c, o_il, o_al, o_is, o_as, o_inc, o_add, o_sub, o_mul, o_and, o_or, o_xor, o_shl, o_shr, o_ush, o_rem, o_dup, o_dup2, o_gf, o_pf, o_pz, o_iald, o_iast, o_zald, o_zast, o_aald, o_gs, o_min, o_acp, o_call, o_callv, zgf, zpf, zia_, zza_, zra_, zrd_, zcp_, zpop, zsm8_0, zsm8_1, zsm8_2, zsm8_3, zsm8_4, zsm8_5, zrc, zisob, t_ieq, t_ilt, t_igt, t_zeq, t_zlt, t_zgt, t_sw, zsw, t_iret, t_zret, t_aret, t_vret, zrg, List.getElem?_cons_zero, List.getElem?_cons_succ, List.set_cons_zero, List.set_cons_succ, List.length_cons, List.length_nil, Option.toList_some, Option.toList_none, List.nil_append, List.cons_append, true_and, and_true, true_or, or_true, Int.cast_ofNat_Int, Int.natCast_zero, Int.natCast_one, zsh_56, zsh_57, zsh_58, zsh_59, zsh_60, zsh_61, zsh_62, zsh_63, zsh_64, zsh_65, zsh_66, zsh_67, zsh_68, zsh_69, zsh_70, zsh_71, zsh_72, zsh_73, zsh_74, zsh_75, zsh_76, zsh_77, zsh_78, zsh_79, zsh_80, zsh_81, zsh_82, zsh_83, zsh_84, zsh_85, zsh_86, zsh_87, zup_ne, zup_eq, zup_nf, ne_eq, not_false_eq_true]
        refine ⟨by omega, ?_⟩
        refine fin _ ?_
        unfold zlnk
        rw [w2, if_pos (by omega)]
        congr 1
        simp only [zpw]; simp; omega
      · have w3 : zknd (some bs) = 3 := by omega
        refine zcall (c_X11_pair (by omega) ha1 (i := 2 + 2 * r) (by omega) (by omega)) ?_
        simp only [b_X11_pushLinks_0, b_X11_pushLinks_11, b_X11_pushLinks_15, b_X11_pushLinks_20, b_X11_pushLinks_32, b_X11_pushLinks_38, b_X11_pushLinks_44, b_X11_pushLinks_49, b_X11_pushLinks_62, b_X11_pushLinks_76, b_X11_pushLinks_81, b_X11_pushLinks_95, b_X11_pushLinks_106, b_X11_pushLinks_123, o_c, o_il, o_al, o_is, o_as, o_inc, o_add, o_sub, o_mul, o_and, o_or, o_xor, o_shl, o_shr, o_ush, o_rem, o_dup, o_dup2, o_gf, o_pf, o_pz, o_iald, o_iast, o_zald, o_zast, o_aald, o_gs, o_min, o_acp, o_call, o_callv, zgf, zpf, zia_, zza_, zra_, zrd_, zcp_, zpop, zsm8_0, zsm8_1, zsm8_2, zsm8_3, zsm8_4, zsm8_5, zrc, zisob, t_ieq, t_ilt, t_igt, t_zeq, t_zlt, t_zgt, t_sw, zsw, t_iret, t_zret, t_aret, t_vret, zrg, List.getElem?_cons_zero, List.getElem?_cons_succ, List.set_cons_zero, List.set_cons_succ, List.length_cons, List.length_nil, Option.toList_some, Option.toList_none, List.nil_append, List.cons_append, true_and, and_true, true_or, or_true, Int.cast_ofNat_Int, Int.natCast_zero, Int.natCast_one, zsh_56, zsh_57, zsh_58, zsh_59, zsh_60, zsh_61, zsh_62, zsh_63, zsh_64, zsh_65, zsh_66, zsh_67, zsh_68, zsh_69, zsh_70, zsh_71, zsh_72, zsh_73, zsh_74, zsh_75, zsh_76, zsh_77, zsh_78, zsh_79, zsh_80, zsh_81, zsh_82, zsh_83, zsh_84, zsh_85, zsh_86, zsh_87, zup_ne, zup_eq, zup_nf, ne_eq, not_false_eq_true]
        refine ⟨by omega, ?_⟩
        refine fin _ ?_
        unfold zlnk
        rw [w3, if_pos (by omega)]
        congr 1
        simp only [zpw]; simp; omega
  have start := loop n μ (Nat.le_refl _) (by rw [List.drop_of_length_le (by omega)]; exact hT) (zF.refl _ _ _)
  simp only [b_X11_pushLinks_0, b_X11_pushLinks_11, b_X11_pushLinks_15, b_X11_pushLinks_20, b_X11_pushLinks_32, b_X11_pushLinks_38, b_X11_pushLinks_44, b_X11_pushLinks_49, b_X11_pushLinks_62, b_X11_pushLinks_76, b_X11_pushLinks_81, b_X11_pushLinks_95, b_X11_pushLinks_106, b_X11_pushLinks_123, o_c, o_il, o_al, o_is, o_as, o_inc, o_add, o_sub, o_mul, o_and, o_or, o_xor, o_shl, o_shr, o_ush, o_rem, o_dup, o_dup2, o_gf, o_pf, o_pz, o_iald, o_iast, o_zald, o_zast, o_aald, o_gs, o_min, o_acp, o_call, o_callv, zgf, zpf, zia_, zza_, zra_, zrd_, zcp_, zpop, zsm8_0, zsm8_1, zsm8_2, zsm8_3, zsm8_4, zsm8_5, zrc, zisob, t_ieq, t_ilt, t_igt, t_zeq, t_zlt, t_zgt, t_sw, zsw, t_iret, t_zret, t_aret, t_vret, zrg, List.getElem?_cons_zero, List.getElem?_cons_succ, List.set_cons_zero, List.set_cons_succ, List.length_cons, List.length_nil, Option.toList_some, Option.toList_none, List.nil_append, List.cons_append, true_and, and_true, true_or, or_true, Int.cast_ofNat_Int, Int.natCast_zero, Int.natCast_one, zsh_56, zsh_57, zsh_58, zsh_59, zsh_60, zsh_61, zsh_62, zsh_63, zsh_64, zsh_65, zsh_66, zsh_67, zsh_68, zsh_69, zsh_70, zsh_71, zsh_72, zsh_73, zsh_74, zsh_75, zsh_76, zsh_77, zsh_78, zsh_79, zsh_80, zsh_81, zsh_82, zsh_83, zsh_84, zsh_85, zsh_86, zsh_87, zup_ne, zup_eq, zup_nf, ne_eq, not_false_eq_true]
  refine zcall (c_X11_cell h (i := 0) (by omega) (by omega)) ?_
  simp only [b_X11_pushLinks_0, b_X11_pushLinks_11, b_X11_pushLinks_15, b_X11_pushLinks_20, b_X11_pushLinks_32, b_X11_pushLinks_38, b_X11_pushLinks_44, b_X11_pushLinks_49, b_X11_pushLinks_62, b_X11_pushLinks_76, b_X11_pushLinks_81, b_X11_pushLinks_95, b_X11_pushLinks_106, b_X11_pushLinks_123, o_c, o_il, o_al, o_is, o_as, o_inc, o_add, o_sub, o_mul, o_and, o_or, o_xor, o_shl, o_shr, o_ush, o_rem, o_dup, o_dup2, o_gf, o_pf, o_pz, o_iald, o_iast, o_zald, o_zast, o_aald, o_gs, o_min, o_acp, o_call, o_callv, zgf, zpf, zia_, zza_, zra_, zrd_, zcp_, zpop, zsm8_0, zsm8_1, zsm8_2, zsm8_3, zsm8_4, zsm8_5, zrc, zisob, t_ieq, t_ilt, t_igt, t_zeq, t_zlt, t_zgt, t_sw, zsw, t_iret, t_zret, t_aret, t_vret, zrg, List.getElem?_cons_zero, List.getElem?_cons_succ, List.set_cons_zero, List.set_cons_succ, List.length_cons, List.length_nil, Option.toList_some, Option.toList_none, List.nil_append, List.cons_append, true_and, and_true, true_or, or_true, Int.cast_ofNat_Int, Int.natCast_zero, Int.natCast_one, zsh_56, zsh_57, zsh_58, zsh_59, zsh_60, zsh_61, zsh_62, zsh_63, zsh_64, zsh_65, zsh_66, zsh_67, zsh_68, zsh_69, zsh_70, zsh_71, zsh_72, zsh_73, zsh_74, zsh_75, zsh_76, zsh_77, zsh_78, zsh_79, zsh_80, zsh_81, zsh_82, zsh_83, zsh_84, zsh_85, zsh_86, zsh_87, zup_ne, zup_eq, zup_nf, ne_eq, not_false_eq_true]
  rw [← z2]
  refine ⟨by omega, fun w => ?_, fun w => ⟨by omega, by omega, fun w2 => ?_, fun w2 => ?_⟩⟩
  · have en : n = 0 := by omega
    rw [en] at start
    exact start
  · refine zcall (c_X11_cell h (i := 1) (by omega) (by omega)) ?_
    simp only [b_X11_pushLinks_0, b_X11_pushLinks_11, b_X11_pushLinks_15, b_X11_pushLinks_20, b_X11_pushLinks_32, b_X11_pushLinks_38, b_X11_pushLinks_44, b_X11_pushLinks_49, b_X11_pushLinks_62, b_X11_pushLinks_76, b_X11_pushLinks_81, b_X11_pushLinks_95, b_X11_pushLinks_106, b_X11_pushLinks_123, o_c, o_il, o_al, o_is, o_as, o_inc, o_add, o_sub, o_mul, o_and, o_or, o_xor, o_shl, o_shr, o_ush, o_rem, o_dup, o_dup2, o_gf, o_pf, o_pz, o_iald, o_iast, o_zald, o_zast, o_aald, o_gs, o_min, o_acp, o_call, o_callv, zgf, zpf, zia_, zza_, zra_, zrd_, zcp_, zpop, zsm8_0, zsm8_1, zsm8_2, zsm8_3, zsm8_4, zsm8_5, zrc, zisob, t_ieq, t_ilt, t_igt, t_zeq, t_zlt, t_zgt, t_sw, zsw, t_iret, t_zret, t_aret, t_vret, zrg, List.getElem?_cons_zero, List.getElem?_cons_succ, List.set_cons_zero, List.set_cons_succ, List.length_cons, List.length_nil, Option.toList_some, Option.toList_none, List.nil_append, List.cons_append, true_and, and_true, true_or, or_true, Int.cast_ofNat_Int, Int.natCast_zero, Int.natCast_one, zsh_56, zsh_57, zsh_58, zsh_59, zsh_60, zsh_61, zsh_62, zsh_63, zsh_64, zsh_65, zsh_66, zsh_67, zsh_68, zsh_69, zsh_70, zsh_71, zsh_72, zsh_73, zsh_74, zsh_75, zsh_76, zsh_77, zsh_78, zsh_79, zsh_80, zsh_81, zsh_82, zsh_83, zsh_84, zsh_85, zsh_86, zsh_87, zup_ne, zup_eq, zup_nf, ne_eq, not_false_eq_true]
    have hm : 0 ≤ zp_byte (some bs) 1 ∧ zp_byte (some bs) 1 ≤ 15 := by omega
    refine zcall (c_X11_bits hm) ?_
    simp only [b_X11_pushLinks_0, b_X11_pushLinks_11, b_X11_pushLinks_15, b_X11_pushLinks_20, b_X11_pushLinks_32, b_X11_pushLinks_38, b_X11_pushLinks_44, b_X11_pushLinks_49, b_X11_pushLinks_62, b_X11_pushLinks_76, b_X11_pushLinks_81, b_X11_pushLinks_95, b_X11_pushLinks_106, b_X11_pushLinks_123, o_c, o_il, o_al, o_is, o_as, o_inc, o_add, o_sub, o_mul, o_and, o_or, o_xor, o_shl, o_shr, o_ush, o_rem, o_dup, o_dup2, o_gf, o_pf, o_pz, o_iald, o_iast, o_zald, o_zast, o_aald, o_gs, o_min, o_acp, o_call, o_callv, zgf, zpf, zia_, zza_, zra_, zrd_, zcp_, zpop, zsm8_0, zsm8_1, zsm8_2, zsm8_3, zsm8_4, zsm8_5, zrc, zisob, t_ieq, t_ilt, t_igt, t_zeq, t_zlt, t_zgt, t_sw, zsw, t_iret, t_zret, t_aret, t_vret, zrg, List.getElem?_cons_zero, List.getElem?_cons_succ, List.set_cons_zero, List.set_cons_succ, List.length_cons, List.length_nil, Option.toList_some, Option.toList_none, List.nil_append, List.cons_append, true_and, and_true, true_or, or_true, Int.cast_ofNat_Int, Int.natCast_zero, Int.natCast_one, zsh_56, zsh_57, zsh_58, zsh_59, zsh_60, zsh_61, zsh_62, zsh_63, zsh_64, zsh_65, zsh_66, zsh_67, zsh_68, zsh_69, zsh_70, zsh_71, zsh_72, zsh_73, zsh_74, zsh_75, zsh_76, zsh_77, zsh_78, zsh_79, zsh_80, zsh_81, zsh_82, zsh_83, zsh_84, zsh_85, zsh_86, zsh_87, zup_ne, zup_eq, zup_nf, ne_eq, not_false_eq_true]
    have en : zpc (zp_byte (some bs) 1) = n := by omega
    rw [en]
    exact start
  · refine zcall (c_X11_cell h (i := 1) (by omega) (by omega)) ?_
    simp only [b_X11_pushLinks_0, b_X11_pushLinks_11, b_X11_pushLinks_15, b_X11_pushLinks_20, b_X11_pushLinks_32, b_X11_pushLinks_38, b_X11_pushLinks_44, b_X11_pushLinks_49, b_X11_pushLinks_62, b_X11_pushLinks_76, b_X11_pushLinks_81, b_X11_pushLinks_95, b_X11_pushLinks_106, b_X11_pushLinks_123, o_c, o_il, o_al, o_is, o_as, o_inc, o_add, o_sub, o_mul, o_and, o_or, o_xor, o_shl, o_shr, o_ush, o_rem, o_dup, o_dup2, o_gf, o_pf, o_pz, o_iald, o_iast, o_zald, o_zast, o_aald, o_gs, o_min, o_acp, o_call, o_callv, zgf, zpf, zia_, zza_, zra_, zrd_, zcp_, zpop, zsm8_0, zsm8_1, zsm8_2, zsm8_3, zsm8_4, zsm8_5, zrc, zisob, t_ieq, t_ilt, t_igt, t_zeq, t_zlt, t_zgt, t_sw, zsw, t_iret, t_zret, t_aret, t_vret, zrg, List.getElem?_cons_zero, List.getElem?_cons_succ, List.set_cons_zero, List.set_cons_succ, List.length_cons, List.length_nil, Option.toList_some, Option.toList_none, List.nil_append, List.cons_append, true_and, and_true, true_or, or_true, Int.cast_ofNat_Int, Int.natCast_zero, Int.natCast_one, zsh_56, zsh_57, zsh_58, zsh_59, zsh_60, zsh_61, zsh_62, zsh_63, zsh_64, zsh_65, zsh_66, zsh_67, zsh_68, zsh_69, zsh_70, zsh_71, zsh_72, zsh_73, zsh_74, zsh_75, zsh_76, zsh_77, zsh_78, zsh_79, zsh_80, zsh_81, zsh_82, zsh_83, zsh_84, zsh_85, zsh_86, zsh_87, zup_ne, zup_eq, zup_nf, ne_eq, not_false_eq_true]
    have en : zp_byte (some bs) 1 = n := by omega
    rw [en]
    exact start
theorem zmis_in {L : List zBk} {S : List Int} {x : Int} (h : ¬ zix L x < 0) : zmis L (S ++ [x]) = zmis L S := by
  unfold zmis
  rw [List.filter_append]
  simp [h]
theorem zmis_out {L : List zBk} {S : List Int} {x : Int} (h : zix L x < 0) : zmis L (S ++ [x]) = zmis L S ++ [x] := by
  unfold zmis
  rw [List.filter_append]
  simp [h]
theorem zmis_le (L : List zBk) (S : List Int) : (zmis L S).length ≤ S.length := List.length_filter_le _ _
set_option maxRecDepth 100000 in
set_option maxHeartbeats 4000000 in
theorem c_X11_walk {d s : Nat} {μ : zM} {L : List zBk} {S : List Int} {x : Int} {K : Nat} (hd : 3 ≤ d) (h : zmL μ s L) (hs : s < 3) (hV : zVB L) (hN : zNd L) (hS : zmS μ L S) (hx : 0 ≤ x ∧ x ≤ 65520) (hK : S.length + 4 * zun L S ≤ K) (hK2 : K ≤ 400) : zCt d mX11_walk [.inr (some 56), .inl (s : Int), .inl x] μ (fun v μ' => v = none ∧ zmS μ' L (zdfs L 257 S [x]) ∧ zF [61, 81, 82, 83] [30, 32, 34] μ μ' ∧ (zmQ μ s L S → zmQ μ' s L (zdfs L 257 S [x])) ∧ (zdfs L 257 S [x]).length + 4 * zun L (zdfs L 257 S [x]) ≤ K + 1) := by
  have hl64 := h.2.1
  refine of_X11_walk (by omega) (fun G hG => s_X11_walk_0 hG ?_)
  have loop : ∀ (f : Nat) (μ2 : zM) (S2 T2 : List Int) (y3 y4 y5 : zV), zmS μ2 L S2 → zmV μ2 T2 → zNm T2 → S2.length + T2.length + 4 * zun L S2 ≤ K + 1 → T2.length + 4 * zun L S2 ≤ f → zdfs L 257 S [x] = zdfs L f S2 T2 → zF [61, 81, 82, 83] [30, 32, 34] μ μ2 → (zmQ μ s L S → zmQ μ2 s L S2) → G 12 [.inr (some 56), .inl (s : Int), .inl x, y3, y4, y5] [] μ2 := by
    intro f
    induction f with
    | zero =>
      intro μ2 S2 T2 y3 y4 y5 h1 h2 h2' h3 h4 h5 h6 h7
      have hT : T2 = [] := by cases T2 with | nil => rfl | cons a b => simp at h4
      subst hT
      rw [zdfs_nil] at h5
      have e32 := h2.1
      simp only [List.length_nil] at e32
      refine s_X11_walk_12 hG ?_
      simp only [b_X11_walk_0, b_X11_walk_12, b_X11_walk_19, b_X11_walk_45, b_X11_walk_54, b_X11_walk_59, b_X11_walk_70, b_X11_walk_74, b_X11_walk_75, b_X11_walk_83, b_X11_walk_88, b_X11_walk_91, b_X11_walk_124, b_X11_walk_147, b_X11_walk_164, o_c, o_il, o_al, o_is, o_as, o_inc, o_add, o_sub, o_mul, o_and, o_or, o_xor, o_shl, o_shr, o_ush, o_rem, o_dup, o_dup2, o_gf, o_pf, o_pz, o_iald, o_iast, o_zald, o_zast, o_aald, o_gs, o_min, o_acp, o_call, o_callv, zgf, zpf, zia_, zza_, zra_, zrd_, zcp_, zpop, zsm8_0, zsm8_1, zsm8_2, zsm8_3, zsm8_4, zsm8_5, zrc, zisob, t_ieq, t_ilt, t_igt, t_zeq, t_zlt, t_zgt, t_sw, zsw, t_iret, t_zret, t_aret, t_vret, zrg, List.getElem?_cons_zero, List.getElem?_cons_succ, List.set_cons_zero, List.set_cons_succ, List.length_cons, List.length_nil, Option.toList_some, Option.toList_none, List.nil_append, List.cons_append, true_and, and_true, true_or, or_true, Int.cast_ofNat_Int, Int.natCast_zero, Int.natCast_one, zsh_56, zsh_57, zsh_58, zsh_59, zsh_60, zsh_61, zsh_62, zsh_63, zsh_64, zsh_65, zsh_66, zsh_67, zsh_68, zsh_69, zsh_70, zsh_71, zsh_72, zsh_73, zsh_74, zsh_75, zsh_76, zsh_77, zsh_78, zsh_79, zsh_80, zsh_81, zsh_82, zsh_83, zsh_84, zsh_85, zsh_86, zsh_87, zup_ne, zup_eq, zup_nf, ne_eq, not_false_eq_true]
      rw [h5]
      exact ⟨by omega, fun w => by omega, fun _ => ⟨h1, h6, h7, by simpa using h3⟩⟩
    | succ f ih =>
      intro μ2 S2 T2 y3 y4 y5 h1 h2 h2' h3 h4 h5 h6 h7
      cases T2 with
      | nil =>
        rw [zdfs_nil] at h5
        have e32 := h2.1
        simp only [List.length_nil] at e32
        refine s_X11_walk_12 hG ?_
        simp only [b_X11_walk_0, b_X11_walk_12, b_X11_walk_19, b_X11_walk_45, b_X11_walk_54, b_X11_walk_59, b_X11_walk_70, b_X11_walk_74, b_X11_walk_75, b_X11_walk_83, b_X11_walk_88, b_X11_walk_91, b_X11_walk_124, b_X11_walk_147, b_X11_walk_164, o_c, o_il, o_al, o_is, o_as, o_inc, o_add, o_sub, o_mul, o_and, o_or, o_xor, o_shl, o_shr, o_ush, o_rem, o_dup, o_dup2, o_gf, o_pf, o_pz, o_iald, o_iast, o_zald, o_zast, o_aald, o_gs, o_min, o_acp, o_call, o_callv, zgf, zpf, zia_, zza_, zra_, zrd_, zcp_, zpop, zsm8_0, zsm8_1, zsm8_2, zsm8_3, zsm8_4, zsm8_5, zrc, zisob, t_ieq, t_ilt, t_igt, t_zeq, t_zlt, t_zgt, t_sw, zsw, t_iret, t_zret, t_aret, t_vret, zrg, List.getElem?_cons_zero, List.getElem?_cons_succ, List.set_cons_zero, List.set_cons_succ, List.length_cons, List.length_nil, Option.toList_some, Option.toList_none, List.nil_append, List.cons_append, true_and, and_true, true_or, or_true, Int.cast_ofNat_Int, Int.natCast_zero, Int.natCast_one, zsh_56, zsh_57, zsh_58, zsh_59, zsh_60, zsh_61, zsh_62, zsh_63, zsh_64, zsh_65, zsh_66, zsh_67, zsh_68, zsh_69, zsh_70, zsh_71, zsh_72, zsh_73, zsh_74, zsh_75, zsh_76, zsh_77, zsh_78, zsh_79, zsh_80, zsh_81, zsh_82, zsh_83, zsh_84, zsh_85, zsh_86, zsh_87, zup_ne, zup_eq, zup_nf, ne_eq, not_false_eq_true]
        rw [h5]
        exact ⟨by omega, fun w => by omega, fun _ => ⟨h1, h6, h7, by simpa using h3⟩⟩
      | cons y T3 =>
        have e32 := h2.1
        simp only [List.length_cons] at e32 h3 h4
        have hy := h2' y List.mem_cons_self
        have hty : μ2 82 T3.length = y := h2.2 T3.length y (by simp)
        obtain ⟨μ3, hμ3⟩ : ∃ μ3, μ3 = zup μ2 56 32 (T3.length : Int) := ⟨_, rfl⟩
        have f3 : zF [61, 81, 82, 83] [30, 32, 34] μ μ3 := by rw [hμ3]; exact h6.v (by simp)
        have hV3 : zmV μ3 T3 := by
          rw [hμ3]
          refine ⟨by rw [zup_eq], ?_⟩
          have : zAR μ2 82 (T3.reverse ++ [y]) := by simpa using h2.2
          exact this.pre.of (zup_ne _ (by decide))
        have hS3 : zmS μ3 L S2 := by
          rw [hμ3]
          exact ⟨⟨by rw [zup_nf (by decide)]; exact h1.1.1, h1.1.2.of (zup_ne _ (by decide))⟩, ⟨by rw [zup_nf (by decide)]; exact h1.2.1.1, h1.2.1.2.of (zup_ne _ (by decide))⟩, h1.2.2⟩
        have hQ3 : zmQ μ s L S → zmQ μ3 s L S2 := fun q i b hb => by
          rw [hμ3, zup_ne _ (by decide)]
          exact h7 q i b hb
        have hNT : zNm T3 := fun z hz => h2' z (List.mem_cons_of_mem _ hz)
        have hmeas : y ∉ S2 → (zlks (zlk L y) ++ T3).length + 4 * zun L (S2 ++ [y]) ≤ f ∧ zNm (zlks (zlk L y)) ∧ (zlks (zlk L y)).length + 4 * zun L (S2 ++ [y]) ≤ 4 * zun L S2 := by
          intro hyS
          rcases zix_cases L y with ⟨e1, hno⟩ | ⟨s, b, e1, hb, hbx⟩
          · have : zlk L y = none := by unfold zlk; rw [e1]; simp [zoat]
            have hz : zlks (zlk L y) = [] := by rw [this]; simp [zlks, zcnt, zknd, zp_byte]
            have := zun_mono L S2 y
            rw [hz]
            exact ⟨by simp; omega, (fun z hz => absurd hz List.not_mem_nil), by simp; omega⟩
          · have hoat : zlk L y = some b.2 := by unfold zlk; rw [e1]; simp [zoat, hb]
            have hisB : zisB (zlk L y) := by rw [hoat]; exact hV b (List.mem_of_getElem? hb)
            have hcnt := hisB.cnt
            have hlen : (zlks (zlk L y)).length = (zcnt (zlk L y)).toNat := by simp [zlks]
            have := zun_lt (S := S2) (List.mem_of_getElem? hb) (by rw [hbx]; exact hyS)
            rw [hbx] at this
            refine ⟨by simp only [List.length_append, hlen]; omega, fun z hz => ?_, by omega⟩
            obtain ⟨j, hj, rfl⟩ := List.mem_map.mp hz
            exact hisB.lnk (by have := List.mem_range.mp hj; omega)
        -- behind the scan
        have after : ∀ z5 : zV, G 45 [.inr (some 56), .inl (s : Int), .inl x, .inl y, .inl (zb (y ∈ S2)), .inl (S2.length : Int)] [] μ3 := by
          intro z5
          have e30 := hS3.1.1
          have e34 := hS3.2.1.1
          have hmle := zmis_le L S2
          refine s_X11_walk_45 hG ?_
          simp only [b_X11_walk_0, b_X11_walk_12, b_X11_walk_19, b_X11_walk_45, b_X11_walk_54, b_X11_walk_59, b_X11_walk_70, b_X11_walk_74, b_X11_walk_75, b_X11_walk_83, b_X11_walk_88, b_X11_walk_91, b_X11_walk_124, b_X11_walk_147, b_X11_walk_164, o_c, o_il, o_al, o_is, o_as, o_inc, o_add, o_sub, o_mul, o_and, o_or, o_xor, o_shl, o_shr, o_ush, o_rem, o_dup, o_dup2, o_gf, o_pf, o_pz, o_iald, o_iast, o_zald, o_zast, o_aald, o_gs, o_min, o_acp, o_call, o_callv, zgf, zpf, zia_, zza_, zra_, zrd_, zcp_, zpop, zsm8_0, zsm8_1, zsm8_2, zsm8_3, zsm8_4, zsm8_5, zrc, zisob, t_ieq, t_ilt, t_igt, t_zeq, t_zlt, t_zgt, t_sw, zsw, t_iret, t_zret, t_aret, t_vret, zrg, List.getElem?_cons_zero, List.getElem?_cons_succ, List.set_cons_zero, List.set_cons_succ, List.length_cons, List.length_nil, Option.toList_some, Option.toList_none, List.nil_append, List.cons_append, true_and, and_true, true_or, or_true, Int.cast_ofNat_Int, Int.natCast_zero, Int.natCast_one, zsh_56, zsh_57, zsh_58, zsh_59, zsh_60, zsh_61, zsh_62, zsh_63, zsh_64, zsh_65, zsh_66, zsh_67, zsh_68, zsh_69, zsh_70, zsh_71, zsh_72, zsh_73, zsh_74, zsh_75, zsh_76, zsh_77, zsh_78, zsh_79, zsh_80, zsh_81, zsh_82, zsh_83, zsh_84, zsh_85, zsh_86, zsh_87, zup_ne, zup_eq, zup_nf, ne_eq, not_false_eq_true]
          rw [e30]
          refine ⟨by omega, by omega, fun w => by omega, fun _ => ?_⟩
          rcases zb_or (y ∈ S2) with ⟨q1, q2⟩ | ⟨q1, q2⟩
          · rw [q1]
            simp only [zdfs] at h5
            rw [if_pos q2] at h5
            refine ⟨by omega, fun w => by omega, fun _ => ?_⟩
            exact ih μ3 S2 T3 _ _ _ hS3 hV3 hNT (by omega) (by omega) h5 f3 hQ3
          · rw [q1]
            simp only [zdfs] at h5
            rw [if_neg q2] at h5
            obtain ⟨m1, m2, m3⟩ := hmeas q2
            refine ⟨by omega, fun _ => ⟨by omega, ?_⟩, fun w => absurd rfl w⟩
            obtain ⟨μ4, hμ4⟩ : ∃ μ4, μ4 = zup (zup μ3 81 (S2.length : Int) y) 56 30 ((S2.length : Int) + 1) := ⟨_, rfl⟩
            rw [zup_ne 56 (by decide), e30, ← hμ4]
            have f4 : zF [61, 81, 82, 83] [30, 32, 34] μ μ4 := by rw [hμ4]; exact (f3.u (by simp) (by decide)).v (by simp)
            have hV4 : zmV μ4 T3 := by
              rw [hμ4]
              exact ⟨by rw [zup_nf (by decide), zup_ne _ (by decide)]; exact hV3.1, hV3.2.of (by rw [zup_ne _ (by decide), zup_ne _ (by decide)])⟩
            have hQ4 : zmQ μ s L S → zmQ μ4 s L S2 := fun q i b hb => by
              rw [hμ4, zup_ne _ (by decide), zup_ne _ (by decide)]
              exact hQ3 q i b hb
            have hS4a : μ4 56 30 = ((S2 ++ [y]).length : Nat) ∧ zAR μ4 81 (S2 ++ [y]) := by
              rw [hμ4]
              refine ⟨by rw [zup_eq]; simp, hS3.1.2.push (fun i hi => ?_) ?_⟩
              · rw [zup_ne _ (by decide), zup_nf hi]
              · rw [zup_ne _ (by decide), zup_eq]
            have e344 : μ4 56 34 = (zmis L S2).length := by rw [hμ4, zup_nf (by decide), zup_ne _ (by decide)]; exact e34
            have e834 : zAR μ4 83 (zmis L S2) := hS3.2.1.2.of (by rw [hμ4, zup_ne _ (by decide), zup_ne _ (by decide)])
            have hN4 : zNm (S2 ++ [y]) := h1.2.2.push hy
            have hL4 : zmL μ4 s L := h.f f4 (by simp)
            refine zcall (c_X11_where hL4 hs (by unfold zrg; omega)) ?_
            simp only [b_X11_walk_0, b_X11_walk_12, b_X11_walk_19, b_X11_walk_45, b_X11_walk_54, b_X11_walk_59, b_X11_walk_70, b_X11_walk_74, b_X11_walk_75, b_X11_walk_83, b_X11_walk_88, b_X11_walk_91, b_X11_walk_124, b_X11_walk_147, b_X11_walk_164, o_c, o_il, o_al, o_is, o_as, o_inc, o_add, o_sub, o_mul, o_and, o_or, o_xor, o_shl, o_shr, o_ush, o_rem, o_dup, o_dup2, o_gf, o_pf, o_pz, o_iald, o_iast, o_zald, o_zast, o_aald, o_gs, o_min, o_acp, o_call, o_callv, zgf, zpf, zia_, zza_, zra_, zrd_, zcp_, zpop, zsm8_0, zsm8_1, zsm8_2, zsm8_3, zsm8_4, zsm8_5, zrc, zisob, t_ieq, t_ilt, t_igt, t_zeq, t_zlt, t_zgt, t_sw, zsw, t_iret, t_zret, t_aret, t_vret, zrg, List.getElem?_cons_zero, List.getElem?_cons_succ, List.set_cons_zero, List.set_cons_succ, List.length_cons, List.length_nil, Option.toList_some, Option.toList_none, List.nil_append, List.cons_append, true_and, and_true, true_or, or_true, Int.cast_ofNat_Int, Int.natCast_zero, Int.natCast_one, zsh_56, zsh_57, zsh_58, zsh_59, zsh_60, zsh_61, zsh_62, zsh_63, zsh_64, zsh_65, zsh_66, zsh_67, zsh_68, zsh_69, zsh_70, zsh_71, zsh_72, zsh_73, zsh_74, zsh_75, zsh_76, zsh_77, zsh_78, zsh_79, zsh_80, zsh_81, zsh_82, zsh_83, zsh_84, zsh_85, zsh_86, zsh_87, zup_ne, zup_eq, zup_nf, ne_eq, not_false_eq_true]
            rcases hL4.wr hs y with ⟨u1, u2, u3⟩ | ⟨bs, i2, u1, u2, u3, u4, u5⟩
            · rw [u3]
              rw [zup_ne 56 (by decide), e344]
              refine ⟨by omega, fun _ => ⟨by omega, ?_⟩, fun w => by omega⟩
              rw [u1] at h5 m1 m3
              have hz : zlks none = [] := by simp [zlks, zcnt, zknd, zp_byte]
              rw [hz] at h5 m1 m3
              simp only [List.nil_append, List.length_nil] at h5 m1 m3
              refine ih _ (S2 ++ [y]) T3 _ _ _ ⟨⟨?_, ?_⟩, ⟨?_, ?_⟩, hN4⟩ ⟨?_, ?_⟩ hNT (by simp; omega) m1 h5 ((f4.u (by simp) (by decide)).v (by simp)) (fun q i b hb => ?_)
              · rw [zup_nf (by decide), zup_ne _ (by decide)]; exact hS4a.1
              · exact hS4a.2.of (by rw [zup_ne _ (by decide), zup_ne _ (by decide)])
              · rw [zup_eq, zmis_out u2]; simp
              · rw [zmis_out u2]
                refine e834.push (fun i hi => ?_) ?_
                · rw [zup_ne _ (by decide), zup_nf hi]
                · rw [zup_ne _ (by decide), zup_eq]
              · rw [zup_nf (by decide), zup_ne _ (by decide)]; exact hV4.1
              · exact hV4.2.of (by rw [zup_ne _ (by decide), zup_ne _ (by decide)])
              · rw [zup_ne _ (by decide), zup_ne _ (by decide), hQ4 q i b hb]
                have : b.1 ≠ y := fun e => by
                  have := zix_neg.mp u2 b (List.mem_of_getElem? hb)
                  exact this e
                simp [this]
            · have u51 := u5.1
              refine ⟨by omega, fun w => by omega, fun _ => ⟨by omega, ?_⟩⟩
              have hB2 := hV _ (List.mem_of_getElem? u2)
              rw [u1] at h5 m1 m2 m3
              obtain ⟨μ5, hμ5⟩ : ∃ μ5, μ5 = zup μ4 61 (zwr s L y) 1 := ⟨_, rfl⟩
              rw [← hμ5]
              have f45 : zF [61, 81, 82, 83] [30, 32, 34] μ4 μ5 := by rw [hμ5]; exact (zF.refl _ _ _).u (by simp) (by decide)
              have hV5 : zmV μ5 T3 := by
                rw [hμ5]
                exact ⟨by rw [zup_ne _ (by decide)]; exact hV4.1, hV4.2.of (zup_ne _ (by decide))⟩
              have hQ5 : zmQ μ s L S → zmQ μ5 s L (S2 ++ [y]) := fun q i b hb => by
                rw [hμ5, u4]
                by_cases e : i = i2
                · subst e
                  rw [u2] at hb
                  injection hb with hb
                  subst hb
                  rw [zup_eq]
                  simp
                · rw [zup_nf (by omega), hQ4 q i b hb]
                  have : b.1 ≠ y := fun e2 => e (hN i i2 b (y, bs) hb u2 e2)
                  simp [this]
              refine ⟨_, c_X11_pushLinks (by omega) (u5.f f45 (by simp)) hB2 hV5 (by omega), ?_⟩
              rintro v μ6 ⟨rfl, g1, g2⟩
              simp only [b_X11_walk_0, b_X11_walk_12, b_X11_walk_19, b_X11_walk_45, b_X11_walk_54, b_X11_walk_59, b_X11_walk_70, b_X11_walk_74, b_X11_walk_75, b_X11_walk_83, b_X11_walk_88, b_X11_walk_91, b_X11_walk_124, b_X11_walk_147, b_X11_walk_164, o_c, o_il, o_al, o_is, o_as, o_inc, o_add, o_sub, o_mul, o_and, o_or, o_xor, o_shl, o_shr, o_ush, o_rem, o_dup, o_dup2, o_gf, o_pf, o_pz, o_iald, o_iast, o_zald, o_zast, o_aald, o_gs, o_min, o_acp, o_call, o_callv, zgf, zpf, zia_, zza_, zra_, zrd_, zcp_, zpop, zsm8_0, zsm8_1, zsm8_2, zsm8_3, zsm8_4, zsm8_5, zrc, zisob, t_ieq, t_ilt, t_igt, t_zeq, t_zlt, t_zgt, t_sw, zsw, t_iret, t_zret, t_aret, t_vret, zrg, List.getElem?_cons_zero, List.getElem?_cons_succ, List.set_cons_zero, List.set_cons_succ, List.length_cons, List.length_nil, Option.toList_some, Option.toList_none, List.nil_append, List.cons_append, true_and, and_true, true_or, or_true, Int.cast_ofNat_Int, Int.natCast_zero, Int.natCast_one, zsh_56, zsh_57, zsh_58, zsh_59, zsh_60, zsh_61, zsh_62, zsh_63, zsh_64, zsh_65, zsh_66, zsh_67, zsh_68, zsh_69, zsh_70, zsh_71, zsh_72, zsh_73, zsh_74, zsh_75, zsh_76, zsh_77, zsh_78, zsh_79, zsh_80, zsh_81, zsh_82, zsh_83, zsh_84, zsh_85, zsh_86, zsh_87, zup_ne, zup_eq, zup_nf, ne_eq, not_false_eq_true]
              refine ih μ6 (S2 ++ [y]) _ _ _ _ ⟨⟨?_, ?_⟩, ⟨?_, ?_⟩, hN4⟩ g1 (fun z hz => ?_) (by simp at m3 ⊢; omega) m1 h5 ((f4.trans f45).trans (g2.mono (by simp) (by simp))) (fun q i b hb => ?_)
              · rw [g2.2 _ (by simp), hμ5, zup_ne _ (by decide)]; exact hS4a.1
              · exact hS4a.2.of (by rw [g2.1 81 (by simp) (by decide), hμ5, zup_ne _ (by decide)])
              · rw [g2.2 _ (by simp), hμ5, zup_ne _ (by decide), zmis_in u3]; exact e344
              · rw [zmis_in u3]
                exact e834.of (by rw [g2.1 83 (by simp) (by decide), hμ5, zup_ne _ (by decide)])
              · rcases List.mem_append.mp hz with q | q
                · exact m2 z q
                · exact hNT z q
              · rw [g2.1 61 (by simp) (by decide)]
                exact hQ5 q i b hb
        -- the scan
        have scan : ∀ (r i : Nat), i + r = S2.length → G 45 [.inr (some 56), .inl (s : Int), .inl x, .inl y, .inl (zb (y ∈ S2.take i)), .inl (i : Int)] [] μ3 := by
          intro r
          induction r with
          | zero =>
            intro i k1
            have ei : i = S2.length := by omega
            rw [ei, List.take_of_length_le (Nat.le_refl _)]
            exact after (.inl 0)
          | succ r ihr =>
            intro i k1
            have hi : i < S2.length := by omega
            have e30 := hS3.1.1
            have e81 := hS3.1.2 i _ (List.getElem?_eq_getElem hi)
            have hsi := h1.2.2 _ (List.getElem_mem hi)
            have e9 : S2.take (i + 1) = S2.take i ++ [S2[i]] := by rw [List.take_succ]; simp [hi]
            have nx := ihr (i + 1) (by omega)
            refine s_X11_walk_45 hG ?_
            simp only [b_X11_walk_0, b_X11_walk_12, b_X11_walk_19, b_X11_walk_45, b_X11_walk_54, b_X11_walk_59, b_X11_walk_70, b_X11_walk_74, b_X11_walk_75, b_X11_walk_83, b_X11_walk_88, b_X11_walk_91, b_X11_walk_124, b_X11_walk_147, b_X11_walk_164, o_c, o_il, o_al, o_is, o_as, o_inc, o_add, o_sub, o_mul, o_and, o_or, o_xor, o_shl, o_shr, o_ush, o_rem, o_dup, o_dup2, o_gf, o_pf, o_pz, o_iald, o_iast, o_zald, o_zast, o_aald, o_gs, o_min, o_acp, o_call, o_callv, zgf, zpf, zia_, zza_, zra_, zrd_, zcp_, zpop, zsm8_0, zsm8_1, zsm8_2, zsm8_3, zsm8_4, zsm8_5, zrc, zisob, t_ieq, t_ilt, t_igt, t_zeq, t_zlt, t_zgt, t_sw, zsw, t_iret, t_zret, t_aret, t_vret, zrg, List.getElem?_cons_zero, List.getElem?_cons_succ, List.set_cons_zero, List.set_cons_succ, List.length_cons, List.length_nil, Option.toList_some, Option.toList_none, List.nil_append, List.cons_append, true_and, and_true, true_or, or_true, Int.cast_ofNat_Int, Int.natCast_zero, Int.natCast_one, zsh_56, zsh_57, zsh_58, zsh_59, zsh_60, zsh_61, zsh_62, zsh_63, zsh_64, zsh_65, zsh_66, zsh_67, zsh_68, zsh_69, zsh_70, zsh_71, zsh_72, zsh_73, zsh_74, zsh_75, zsh_76, zsh_77, zsh_78, zsh_79, zsh_80, zsh_81, zsh_82, zsh_83, zsh_84, zsh_85, zsh_86, zsh_87, zup_ne, zup_eq, zup_nf, ne_eq, not_false_eq_true]
            rw [e30, e81]
            refine ⟨by omega, by omega, fun _ => ?_, fun w => by omega⟩
            rcases zb_or (y ∈ S2.take i) with ⟨q1, q2⟩ | ⟨q1, q2⟩
            · rw [q1]
              refine ⟨by omega, fun w => by omega, fun _ => ?_⟩
              rw [zb_t (by rw [e9]; exact List.mem_append_left _ q2)] at nx
              exact nx
            · rw [q1]
              refine ⟨by omega, fun _ => ⟨by omega, by omega, by omega, fun w => ?_, fun w => ?_⟩, fun w => absurd rfl w⟩
              · rw [zb_t (by rw [e9, w]; simp)] at nx
                exact nx
              · rw [zb_f (fun q => by rw [e9] at q; simp only [List.mem_append, List.mem_singleton] at q; rcases q with q | q; exact q2 q; exact w q.symm)] at nx
                exact nx
        refine s_X11_walk_12 hG ?_
        simp only [b_X11_walk_0, b_X11_walk_12, b_X11_walk_19, b_X11_walk_45, b_X11_walk_54, b_X11_walk_59, b_X11_walk_70, b_X11_walk_74, b_X11_walk_75, b_X11_walk_83, b_X11_walk_88, b_X11_walk_91, b_X11_walk_124, b_X11_walk_147, b_X11_walk_164, o_c, o_il, o_al, o_is, o_as, o_inc, o_add, o_sub, o_mul, o_and, o_or, o_xor, o_shl, o_shr, o_ush, o_rem, o_dup, o_dup2, o_gf, o_pf, o_pz, o_iald, o_iast, o_zald, o_zast, o_aald, o_gs, o_min, o_acp, o_call, o_callv, zgf, zpf, zia_, zza_, zra_, zrd_, zcp_, zpop, zsm8_0, zsm8_1, zsm8_2, zsm8_3, zsm8_4, zsm8_5, zrc, zisob, t_ieq, t_ilt, t_igt, t_zeq, t_zlt, t_zgt, t_sw, zsw, t_iret, t_zret, t_aret, t_vret, zrg, List.getElem?_cons_zero, List.getElem?_cons_succ, List.set_cons_zero, List.set_cons_succ, List.length_cons, List.length_nil, Option.toList_some, Option.toList_none, List.nil_append, List.cons_append, true_and, and_true, true_or, or_true, Int.cast_ofNat_Int, Int.natCast_zero, Int.natCast_one, zsh_56, zsh_57, zsh_58, zsh_59, zsh_60, zsh_61, zsh_62, zsh_63, zsh_64, zsh_65, zsh_66, zsh_67, zsh_68, zsh_69, zsh_70, zsh_71, zsh_72, zsh_73, zsh_74, zsh_75, zsh_76, zsh_77, zsh_78, zsh_79, zsh_80, zsh_81, zsh_82, zsh_83, zsh_84, zsh_85, zsh_86, zsh_87, zup_ne, zup_eq, zup_nf, ne_eq, not_false_eq_true]
        have e33 : zup μ2 56 32 (μ2 56 32 - 1) = μ3 := by rw [hμ3, e32]; congr 1; omega
        rw [e33]
        have e332 : μ3 56 32 = T3.length := hV3.1
        have e82 : μ3 82 (T3.length : Int) = y := by rw [hμ3, zup_ne _ (by decide)]; exact hty
        rw [e32]
        rw [show ((T3.length + 1 : Nat) : Int) - 1 = T3.length by omega]
        first | rw [hty] | rw [e82]
        refine ⟨by omega, fun _ => ⟨by omega, ?_⟩, fun w => by omega⟩
        have := scan S2.length 0 (by omega)
        rw [zb_f (by simp)] at this
        exact this
  simp only [b_X11_walk_0, b_X11_walk_12, b_X11_walk_19, b_X11_walk_45, b_X11_walk_54, b_X11_walk_59, b_X11_walk_70, b_X11_walk_74, b_X11_walk_75, b_X11_walk_83, b_X11_walk_88, b_X11_walk_91, b_X11_walk_124, b_X11_walk_147, b_X11_walk_164, o_c, o_il, o_al, o_is, o_as, o_inc, o_add, o_sub, o_mul, o_and, o_or, o_xor, o_shl, o_shr, o_ush, o_rem, o_dup, o_dup2, o_gf, o_pf, o_pz, o_iald, o_iast, o_zald, o_zast, o_aald, o_gs, o_min, o_acp, o_call, o_callv, zgf, zpf, zia_, zza_, zra_, zrd_, zcp_, zpop, zsm8_0, zsm8_1, zsm8_2, zsm8_3, zsm8_4, zsm8_5, zrc, zisob, t_ieq, t_ilt, t_igt, t_zeq, t_zlt, t_zgt, t_sw, zsw, t_iret, t_zret, t_aret, t_vret, zrg, List.getElem?_cons_zero, List.getElem?_cons_succ, List.set_cons_zero, List.set_cons_succ, List.length_cons, List.length_nil, Option.toList_some, Option.toList_none, List.nil_append, List.cons_append, true_and, and_true, true_or, or_true, Int.cast_ofNat_Int, Int.natCast_zero, Int.natCast_one, zsh_56, zsh_57, zsh_58, zsh_59, zsh_60, zsh_61, zsh_62, zsh_63, zsh_64, zsh_65, zsh_66, zsh_67, zsh_68, zsh_69, zsh_70, zsh_71, zsh_72, zsh_73, zsh_74, zsh_75, zsh_76, zsh_77, zsh_78, zsh_79, zsh_80, zsh_81, zsh_82, zsh_83, zsh_84, zsh_85, zsh_86, zsh_87, zup_ne, zup_eq, zup_nf, ne_eq, not_false_eq_true]
  refine ⟨by omega, ?_⟩
  have hus := zun_le L S
  refine loop 257 _ S [x] _ _ _ ⟨⟨?_, ?_⟩, ⟨?_, ?_⟩, hS.2.2⟩ ⟨?_, ?_⟩ (fun z hz => by rw [List.mem_singleton.mp hz]; exact hx) (by simp; omega) (by simp; omega) rfl (((zF.refl _ _ _).v (by simp)).u (by simp) (by decide)) (fun q i b hb => ?_)
  · rw [zup_ne _ (by decide), zup_nf (by decide)]; exact hS.1.1
  · exact hS.1.2.of (by rw [zup_ne _ (by decide), zup_ne _ (by decide)])
  · rw [zup_ne _ (by decide), zup_nf (by decide)]; exact hS.2.1.1
  · exact hS.2.1.2.of (by rw [zup_ne _ (by decide), zup_ne _ (by decide)])
  · rw [zup_ne _ (by decide), zup_eq]; rfl
  · intro j z hj
    simp only [List.reverse_cons, List.reverse_nil, List.nil_append] at hj
    have : j = 0 := by have := (List.getElem?_eq_some_iff.mp hj).1; simp at this; omega
    subst this
    simp at hj
    rw [← hj]
    exact zup_eq
  · rw [zup_ne _ (by decide), zup_ne _ (by decide)]; exact q i b hb
