/-! THE REFERENCE: its line -/
theorem zmM.x {μ μ' : zM} {i k : Nat} {m : zMg} (h : zmM μ i m) (hb : m.2.2.length ≤ 18) (hne : i ≠ k) (h5 : ∀ c, 68 ≤ c → c ≤ 72 → ∀ j : Int, j ≠ k → μ' c j = μ c j) (h6 : ∀ j : Int, (j < 18 * k ∨ 18 * k + 18 ≤ j) → μ' 73 j = μ 73 j) : zmM μ' i m := by
  obtain ⟨a1, a2, a3, a4, a5, a6⟩ := h
  refine ⟨by rw [h5 68 (by omega) (by omega) i (by omega)]; exact a1, by rw [h5 69 (by omega) (by omega) i (by omega)]; exact a2, by rw [h5 70 (by omega) (by omega) i (by omega)]; exact a3, fun q => by rw [h5 71 (by omega) (by omega) i (by omega)]; exact a4 q, by rw [h5 72 (by omega) (by omega) i (by omega)]; exact a5, fun j x hj => ?_⟩
  have := (List.getElem?_eq_some_iff.mp hj).1
  rw [h6 _ (by omega)]
  exact a6 j x hj
/-- the line changes -/
theorem zRN.ms {μ μ' : zM} {B : List Int} {T : List zPp} {Ms Ms' : List zMg} {Sm : Nat → zStt} {C : List Nat} {F : List Int} (h : zRN μ B T Ms Sm) (hw : zmW μ' Ms') (f : zF C F μ μ') (hC : ∀ c ∈ C, c = 61 ∨ (68 ≤ c ∧ c ≤ 73) ∨ 77 ≤ c) (hF : ∀ i ∈ F, i ≠ 18 ∧ i ≠ 20) : zRN μ' B T Ms' Sm := by
  have e : ∀ c, 57 ≤ c → c ≤ 76 → c ≠ 61 → ¬ (68 ≤ c ∧ c ≤ 73) → μ' c = μ c := fun c h1 h2 h3 h4 => f.1 c (fun w => by have := hC c w; omega) (by omega)
  have g : ∀ i : Int, (i = 18 ∨ i = 20) → μ' 56 i = μ 56 i := fun i hi => f.2 i (fun w => by have := hF i w; omega)
  exact ⟨h.1.e (e 74 (by omega) (by omega) (by omega) (by omega)) (g 18 (by omega)), h.2.1.e (fun c h1 h2 => e c (by omega) (by omega) (by omega) (by omega)) (g 20 (by omega)), hw, fun s hs => (h.2.2.2 s hs).e (fun c h1 h2 h3 => e c (by omega) (by omega) h3 (by omega))⟩
set_option maxRecDepth 100000 in
set_option maxHeartbeats 4000000 in
theorem c_X11_send {d : Nat} {μ : zM} {Ms : List zMg} {k a b nm : Int} (h : zmW μ Ms) (hk : k = 0 ∨ k = 2) (ha : 0 ≤ a ∧ a ≤ 2) (hb : 0 ≤ b ∧ b ≤ 2) (hn : 0 ≤ nm ∧ nm ≤ 65520) : zCt d mX11_send [.inr (some 56), .inl k, .inl a, .inl b, .inl nm] μ (fun v μ' => v = none ∧ zmW μ' (zsnd Ms ((k, a, b), (nm, []))) ∧ zF [68, 69, 70, 71, 72] [11] μ μ') := by
  have h0 := h
  obtain ⟨h1, h2, h3, h4⟩ := h
  refine of_X11_send (fun G hG => s_X11_send_0 hG ?_)
  simp only [b_X11_send_0, b_X11_send_9, b_X11_send_10, o_c, o_il, o_al, o_is, o_as, o_inc, o_add, o_sub, o_mul, o_and, o_or, o_xor, o_shl, o_shr, o_ush, o_rem, o_dup, o_dup2, o_gf, o_pf, o_pz, o_iald, o_iast, o_zald, o_zast, o_aald, o_gs, o_min, o_acp, o_call, o_callv, zgf, zpf, zia_, zza_, zra_, zrd_, zcp_, zpop, zsm8_0, zsm8_1, zsm8_2, zsm8_3, zsm8_4, zsm8_5, zrc, zisob, t_ieq, t_ilt, t_igt, t_zeq, t_zlt, t_zgt, t_sw, zsw, t_iret, t_zret, t_aret, t_vret, zrg, List.getElem?_cons_zero, List.getElem?_cons_succ, List.set_cons_zero, List.set_cons_succ, List.length_cons, List.length_nil, Option.toList_some, Option.toList_none, List.nil_append, List.cons_append, true_and, and_true, true_or, or_true, Int.cast_ofNat_Int, Int.natCast_zero, Int.natCast_one, zsh_56, zsh_57, zsh_58, zsh_59, zsh_60, zsh_61, zsh_62, zsh_63, zsh_64, zsh_65, zsh_66, zsh_67, zsh_68, zsh_69, zsh_70, zsh_71, zsh_72, zsh_73, zsh_74, zsh_75, zsh_76, zsh_77, zsh_78, zsh_79, zsh_80, zsh_81, zsh_82, zsh_83, zsh_84, zsh_85, zsh_86, zsh_87, zup_ne, zup_eq, zup_nf, ne_eq, not_false_eq_true, Nat.reduceEqDiff]
  rw [h1]
  refine ⟨by omega, by omega, fun w => ?_, fun w => ?_⟩
  · unfold zsnd
    rw [if_neg (by omega)]
    exact ⟨h0, zF.refl _ _ _⟩
  · unfold zsnd
    rw [if_pos (by omega)]
    obtain ⟨n, hn9⟩ : ∃ n : Nat, n = Ms.length := ⟨_, rfl⟩
    rw [← hn9]
    have hf : zF [68, 69, 70, 71, 72] [11] μ (zup (zup (zup (zup (zup (zup μ 68 n k) 69 n a) 70 n b) 71 n nm) 72 n 0) 56 11 ((n : Int) + 1)) := (((((((zF.refl _ _ _).u (by simp) (by decide)).u (by simp) (by decide)).u (by simp) (by decide)).u (by simp) (by decide)).u (by simp) (by decide)).v (by simp))
    refine ⟨by omega, by omega, by omega, by omega, by omega, ⟨by rw [zup_eq]; simp; omega, by simp; omega, fun m hm => ?_, fun i m hm => ?_⟩, hf⟩
    · rcases List.mem_append.mp hm with q | q
      · exact h3 m q
      · rw [List.mem_singleton.mp q]
        exact ⟨by simp only; omega, ha, hb, ⟨hn, by simp, by simp⟩, fun _ => rfl, fun q => by simp only at q; omega⟩
    · rcases Nat.lt_trichotomy i n with q | q | q
      · rw [List.getElem?_append_left (by omega)] at hm
        refine (h4 i m hm).x (k := n) (h3 m (List.mem_of_getElem? hm)).2.2.2.1.2.1 (by omega) (fun c c1 c2 j hj => ?_) (fun j hj => ?_)
        · have : c = 68 ∨ c = 69 ∨ c = 70 ∨ c = 71 ∨ c = 72 := by omega
          rcases this with rfl | rfl | rfl | rfl | rfl <;> simp [zup, hj]
        · simp [zup]
      · subst q
        rw [List.getElem?_append_right (by omega)] at hm
        simp [hn9] at hm
        subst hm
        refine ⟨by simp [zup], by simp [zup], by simp [zup], fun _ => by simp [zup], by simp [zup], fun j x hj => by simp at hj⟩
      · rw [List.getElem?_eq_none (by simp; omega)] at hm
        cases hm
set_option maxRecDepth 100000 in
set_option maxHeartbeats 4000000 in
theorem c_X11_isMissing {d : Nat} {μ : zM} {M : List Int} {x : Int} (h1 : μ 56 34 = M.length) (h2 : zAR μ 83 M) (h3 : zNm M) (h4 : M.length ≤ 600) (hx : zrg x) : zCt d mX11_isMissing [.inr (some 56), .inl x] μ (zR (.inl (zb (x ∈ M))) μ) := by
  unfold zrg at hx
  refine of_X11_isMissing (fun G hG => s_X11_isMissing_0 hG ?_)
  have loop : ∀ (r i : Nat), i + r = M.length → G 4 [.inr (some 56), .inl x, .inl (zb (x ∈ M.take i)), .inl (i : Int)] [] μ := by
    intro r
    induction r with
    | zero =>
      intro i k1
      refine s_X11_isMissing_4 hG ?_
      simp only [b_X11_isMissing_0, b_X11_isMissing_4, b_X11_isMissing_12, b_X11_isMissing_16, b_X11_isMissing_26, b_X11_isMissing_30, b_X11_isMissing_31, b_X11_isMissing_38, o_c, o_il, o_al, o_is, o_as, o_inc, o_add, o_sub, o_mul, o_and, o_or, o_xor, o_shl, o_shr, o_ush, o_rem, o_dup, o_dup2, o_gf, o_pf, o_pz, o_iald, o_iast, o_zald, o_zast, o_aald, o_gs, o_min, o_acp, o_call, o_callv, zgf, zpf, zia_, zza_, zra_, zrd_, zcp_, zpop, zsm8_0, zsm8_1, zsm8_2, zsm8_3, zsm8_4, zsm8_5, zrc, zisob, t_ieq, t_ilt, t_igt, t_zeq, t_zlt, t_zgt, t_sw, zsw, t_iret, t_zret, t_aret, t_vret, zrg, List.getElem?_cons_zero, List.getElem?_cons_succ, List.set_cons_zero, List.set_cons_succ, List.length_cons, List.length_nil, Option.toList_some, Option.toList_none, List.nil_append, List.cons_append, true_and, and_true, true_or, or_true, Int.cast_ofNat_Int, Int.natCast_zero, Int.natCast_one, zsh_56, zsh_57, zsh_58, zsh_59, zsh_60, zsh_61, zsh_62, zsh_63, zsh_64, zsh_65, zsh_66, zsh_67, zsh_68, zsh_69, zsh_70, zsh_71, zsh_72, zsh_73, zsh_74, zsh_75, zsh_76, zsh_77, zsh_78, zsh_79, zsh_80, zsh_81, zsh_82, zsh_83, zsh_84, zsh_85, zsh_86, zsh_87, zup_ne, zup_eq, zup_nf, ne_eq, not_false_eq_true]
      rw [h1]
      refine ⟨by omega, by omega, fun w => by omega, fun _ => ?_⟩
      rw [List.take_of_length_le (by omega)]
      exact ⟨zb_rg _, rfl, rfl⟩
    | succ r ih =>
      intro i k1
      have hi : i < M.length := by omega
      have e83 := h2 i _ (List.getElem?_eq_getElem hi)
      have hsi := h3 _ (List.getElem_mem hi)
      have e9 : M.take (i + 1) = M.take i ++ [M[i]] := by rw [List.take_succ]; simp [hi]
      have nx := ih (i + 1) (by omega)
      refine s_X11_isMissing_4 hG ?_
      simp only [b_X11_isMissing_0, b_X11_isMissing_4, b_X11_isMissing_12, b_X11_isMissing_16, b_X11_isMissing_26, b_X11_isMissing_30, b_X11_isMissing_31, b_X11_isMissing_38, o_c, o_il, o_al, o_is, o_as, o_inc, o_add, o_sub, o_mul, o_and, o_or, o_xor, o_shl, o_shr, o_ush, o_rem, o_dup, o_dup2, o_gf, o_pf, o_pz, o_iald, o_iast, o_zald, o_zast, o_aald, o_gs, o_min, o_acp, o_call, o_callv, zgf, zpf, zia_, zza_, zra_, zrd_, zcp_, zpop, zsm8_0, zsm8_1, zsm8_2, zsm8_3, zsm8_4, zsm8_5, zrc, zisob, t_ieq, t_ilt, t_igt, t_zeq, t_zlt, t_zgt, t_sw, zsw, t_iret, t_zret, t_aret, t_vret, zrg, List.getElem?_cons_zero, List.getElem?_cons_succ, List.set_cons_zero, List.set_cons_succ, List.length_cons, List.length_nil, Option.toList_some, Option.toList_none, List.nil_append, List.cons_append, true_and, and_true, true_or, or_true, Int.cast_ofNat_Int, Int.natCast_zero, Int.natCast_one, zsh_56, zsh_57, zsh_58, zsh_59, zsh_60, zsh_61, zsh_62, zsh_63, zsh_64, zsh_65, zsh_66, zsh_67, zsh_68, zsh_69, zsh_70, zsh_71, zsh_72, zsh_73, zsh_74, zsh_75, zsh_76, zsh_77, zsh_78, zsh_79, zsh_80, zsh_81, zsh_82, zsh_83, zsh_84, zsh_85, zsh_86, zsh_87, zup_ne, zup_eq, zup_nf, ne_eq, not_false_eq_true]
      rw [h1, e83]
      refine ⟨by omega, by omega, fun _ => ?_, fun w => by omega⟩
      rcases zb_or (x ∈ M.take i) with ⟨q1, q2⟩ | ⟨q1, q2⟩
      · rw [q1]
        refine ⟨by omega, fun w => by omega, fun _ => ?_⟩
        rw [zb_t (by rw [e9]; exact List.mem_append_left _ q2)] at nx
        exact nx
      · rw [q1]
        refine ⟨by omega, fun _ => ⟨by omega, by omega, by omega, fun w => ?_, fun w => ?_⟩, fun w => absurd rfl w⟩
        · rw [zb_t (by rw [e9, w]; simp)] at nx
          exact nx
        · rw [zb_f (fun q => by rw [e9] at q; simp only [List.mem_append, List.mem_singleton] at q; rcases q with q | q; exact q2 q; exact w q.symm)] at nx
          exact nx
  simp only [b_X11_isMissing_0, b_X11_isMissing_4, b_X11_isMissing_12, b_X11_isMissing_16, b_X11_isMissing_26, b_X11_isMissing_30, b_X11_isMissing_31, b_X11_isMissing_38, o_c, o_il, o_al, o_is, o_as, o_inc, o_add, o_sub, o_mul, o_and, o_or, o_xor, o_shl, o_shr, o_ush, o_rem, o_dup, o_dup2, o_gf, o_pf, o_pz, o_iald, o_iast, o_zald, o_zast, o_aald, o_gs, o_min, o_acp, o_call, o_callv, zgf, zpf, zia_, zza_, zra_, zrd_, zcp_, zpop, zsm8_0, zsm8_1, zsm8_2, zsm8_3, zsm8_4, zsm8_5, zrc, zisob, t_ieq, t_ilt, t_igt, t_zeq, t_zlt, t_zgt, t_sw, zsw, t_iret, t_zret, t_aret, t_vret, zrg, List.getElem?_cons_zero, List.getElem?_cons_succ, List.set_cons_zero, List.set_cons_succ, List.length_cons, List.length_nil, Option.toList_some, Option.toList_none, List.nil_append, List.cons_append, true_and, and_true, true_or, or_true, Int.cast_ofNat_Int, Int.natCast_zero, Int.natCast_one, zsh_56, zsh_57, zsh_58, zsh_59, zsh_60, zsh_61, zsh_62, zsh_63, zsh_64, zsh_65, zsh_66, zsh_67, zsh_68, zsh_69, zsh_70, zsh_71, zsh_72, zsh_73, zsh_74, zsh_75, zsh_76, zsh_77, zsh_78, zsh_79, zsh_80, zsh_81, zsh_82, zsh_83, zsh_84, zsh_85, zsh_86, zsh_87, zup_ne, zup_eq, zup_nf, ne_eq, not_false_eq_true]
  have := loop M.length 0 (by omega)
  rw [zb_f (by simp)] at this
  exact this
set_option maxRecDepth 100000 in
set_option maxHeartbeats 4000000 in
theorem c_X11_wantAll {d s : Nat} {μ : zM} {B : List Int} {T : List zPp} {Ms : List zMg} {Sm : Nat → zStt} {M : List Int} (hd : 1 ≤ d) (h : zRN μ B T Ms Sm) (hs : s < 3) (h1 : μ 56 34 = M.length) (h2 : zAR μ 83 M) (h3 : zNm M) (h4 : M.length ≤ 600) : zCt d mX11_wantAll [.inr (some 56), .inl (s : Int)] μ (fun v μ' => v = none ∧ zRN μ' B T (zwnt Ms s (Sm s).2.2.2.1 M) Sm ∧ zF [68, 69, 70, 71, 72] [11] μ μ') := by
  refine of_X11_wantAll hd (fun G hG => s_X11_wantAll_0 hG ?_)
  have loop : ∀ (r i : Nat) (μ2 : zM), i + r = M.length → zRN μ2 B T (zwnt Ms s (Sm s).2.2.2.1 (M.take i)) Sm → zF [68, 69, 70, 71, 72] [11] μ μ2 → G 2 [.inr (some 56), .inl (s : Int), .inl (i : Int)] [] μ2 := by
    intro r
    induction r with
    | zero =>
      intro i μ2 k1 k2 k3
      rw [List.take_of_length_le (by omega)] at k2
      refine s_X11_wantAll_2 hG ?_
      simp only [b_X11_wantAll_0, b_X11_wantAll_2, b_X11_wantAll_10, b_X11_wantAll_34, o_c, o_il, o_al, o_is, o_as, o_inc, o_add, o_sub, o_mul, o_and, o_or, o_xor, o_shl, o_shr, o_ush, o_rem, o_dup, o_dup2, o_gf, o_pf, o_pz, o_iald, o_iast, o_zald, o_zast, o_aald, o_gs, o_min, o_acp, o_call, o_callv, zgf, zpf, zia_, zza_, zra_, zrd_, zcp_, zpop, zsm8_0, zsm8_1, zsm8_2, zsm8_3, zsm8_4, zsm8_5, zrc, zisob, t_ieq, t_ilt, t_igt, t_zeq, t_zlt, t_zgt, t_sw, zsw, t_iret, t_zret, t_aret, t_vret, zrg, List.getElem?_cons_zero, List.getElem?_cons_succ, List.set_cons_zero, List.set_cons_succ, List.length_cons, List.length_nil, Option.toList_some, Option.toList_none, List.nil_append, List.cons_append, true_and, and_true, true_or, or_true, Int.cast_ofNat_Int, Int.natCast_zero, Int.natCast_one, zsh_56, zsh_57, zsh_58, zsh_59, zsh_60, zsh_61, zsh_62, zsh_63, zsh_64, zsh_65, zsh_66, zsh_67, zsh_68, zsh_69, zsh_70, zsh_71, zsh_72, zsh_73, zsh_74, zsh_75, zsh_76, zsh_77, zsh_78, zsh_79, zsh_80, zsh_81, zsh_82, zsh_83, zsh_84, zsh_85, zsh_86, zsh_87, zup_ne, zup_eq, zup_nf, ne_eq, not_false_eq_true]
      rw [k3.2 34 (by simp), h1]
      exact ⟨by omega, by omega, fun w => by omega, fun _ => ⟨k2, k3⟩⟩
    | succ r ih =>
      intro i μ2 k1 k2 k3
      have hi : i < M.length := by omega
      have e83 : μ2 83 i = M[i] := by rw [k3.1 83 (by simp) (by decide)]; exact h2 i _ (List.getElem?_eq_getElem hi)
      have hF := (k2.2.2.2 s hs).2.2
      refine s_X11_wantAll_2 hG ?_
      simp only [b_X11_wantAll_0, b_X11_wantAll_2, b_X11_wantAll_10, b_X11_wantAll_34, o_c, o_il, o_al, o_is, o_as, o_inc, o_add, o_sub, o_mul, o_and, o_or, o_xor, o_shl, o_shr, o_ush, o_rem, o_dup, o_dup2, o_gf, o_pf, o_pz, o_iald, o_iast, o_zald, o_zast, o_aald, o_gs, o_min, o_acp, o_call, o_callv, zgf, zpf, zia_, zza_, zra_, zrd_, zcp_, zpop, zsm8_0, zsm8_1, zsm8_2, zsm8_3, zsm8_4, zsm8_5, zrc, zisob, t_ieq, t_ilt, t_igt, t_zeq, t_zlt, t_zgt, t_sw, zsw, t_iret, t_zret, t_aret, t_vret, zrg, List.getElem?_cons_zero, List.getElem?_cons_succ, List.set_cons_zero, List.set_cons_succ, List.length_cons, List.length_nil, Option.toList_some, Option.toList_none, List.nil_append, List.cons_append, true_and, and_true, true_or, or_true, Int.cast_ofNat_Int, Int.natCast_zero, Int.natCast_one, zsh_56, zsh_57, zsh_58, zsh_59, zsh_60, zsh_61, zsh_62, zsh_63, zsh_64, zsh_65, zsh_66, zsh_67, zsh_68, zsh_69, zsh_70, zsh_71, zsh_72, zsh_73, zsh_74, zsh_75, zsh_76, zsh_77, zsh_78, zsh_79, zsh_80, zsh_81, zsh_82, zsh_83, zsh_84, zsh_85, zsh_86, zsh_87, zup_ne, zup_eq, zup_nf, ne_eq, not_false_eq_true]
      rw [k3.2 34 (by simp), h1, e83, hF.2.1]
      refine ⟨by omega, by omega, fun _ => ⟨by omega, by omega, ?_⟩, fun w => by omega⟩
      refine ⟨_, c_X11_send k2.2.2.1 (Or.inl rfl) ⟨by omega, by omega⟩ hF.2.2.2.2.1 (h3 _ (List.getElem_mem hi)), ?_⟩
      rintro v μ3 ⟨rfl, g1, g2⟩
      simp only [b_X11_wantAll_0, b_X11_wantAll_2, b_X11_wantAll_10, b_X11_wantAll_34, o_c, o_il, o_al, o_is, o_as, o_inc, o_add, o_sub, o_mul, o_and, o_or, o_xor, o_shl, o_shr, o_ush, o_rem, o_dup, o_dup2, o_gf, o_pf, o_pz, o_iald, o_iast, o_zald, o_zast, o_aald, o_gs, o_min, o_acp, o_call, o_callv, zgf, zpf, zia_, zza_, zra_, zrd_, zcp_, zpop, zsm8_0, zsm8_1, zsm8_2, zsm8_3, zsm8_4, zsm8_5, zrc, zisob, t_ieq, t_ilt, t_igt, t_zeq, t_zlt, t_zgt, t_sw, zsw, t_iret, t_zret, t_aret, t_vret, zrg, List.getElem?_cons_zero, List.getElem?_cons_succ, List.set_cons_zero, List.set_cons_succ, List.length_cons, List.length_nil, Option.toList_some, Option.toList_none, List.nil_append, List.cons_append, true_and, and_true, true_or, or_true, Int.cast_ofNat_Int, Int.natCast_zero, Int.natCast_one, zsh_56, zsh_57, zsh_58, zsh_59, zsh_60, zsh_61, zsh_62, zsh_63, zsh_64, zsh_65, zsh_66, zsh_67, zsh_68, zsh_69, zsh_70, zsh_71, zsh_72, zsh_73, zsh_74, zsh_75, zsh_76, zsh_77, zsh_78, zsh_79, zsh_80, zsh_81, zsh_82, zsh_83, zsh_84, zsh_85, zsh_86, zsh_87, zup_ne, zup_eq, zup_nf, ne_eq, not_false_eq_true]
      have e9 : M.take (i + 1) = M.take i ++ [M[i]] := by rw [List.take_succ]; simp [hi]
      refine ih (i + 1) μ3 (by omega) ?_ (k3.trans g2)
      have e8 : zwnt Ms s (Sm s).2.2.2.1 (M.take (i + 1)) = zsnd (zwnt Ms s (Sm s).2.2.2.1 (M.take i)) ((0, (s : Int), (Sm s).2.2.2.1), (M[i], [])) := by
        rw [e9]; unfold zwnt; rw [List.foldl_append]; rfl
      rw [e8]
      exact k2.ms g1 g2 (by simp) (by simp)
  simp only [b_X11_wantAll_0, b_X11_wantAll_2, b_X11_wantAll_10, b_X11_wantAll_34, o_c, o_il, o_al, o_is, o_as, o_inc, o_add, o_sub, o_mul, o_and, o_or, o_xor, o_shl, o_shr, o_ush, o_rem, o_dup, o_dup2, o_gf, o_pf, o_pz, o_iald, o_iast, o_zald, o_zast, o_aald, o_gs, o_min, o_acp, o_call, o_callv, zgf, zpf, zia_, zza_, zra_, zrd_, zcp_, zpop, zsm8_0, zsm8_1, zsm8_2, zsm8_3, zsm8_4, zsm8_5, zrc, zisob, t_ieq, t_ilt, t_igt, t_zeq, t_zlt, t_zgt, t_sw, zsw, t_iret, t_zret, t_aret, t_vret, zrg, List.getElem?_cons_zero, List.getElem?_cons_succ, List.set_cons_zero, List.set_cons_succ, List.length_cons, List.length_nil, Option.toList_some, Option.toList_none, List.nil_append, List.cons_append, true_and, and_true, true_or, or_true, Int.cast_ofNat_Int, Int.natCast_zero, Int.natCast_one, zsh_56, zsh_57, zsh_58, zsh_59, zsh_60, zsh_61, zsh_62, zsh_63, zsh_64, zsh_65, zsh_66, zsh_67, zsh_68, zsh_69, zsh_70, zsh_71, zsh_72, zsh_73, zsh_74, zsh_75, zsh_76, zsh_77, zsh_78, zsh_79, zsh_80, zsh_81, zsh_82, zsh_83, zsh_84, zsh_85, zsh_86, zsh_87, zup_ne, zup_eq, zup_nf, ne_eq, not_false_eq_true]
  exact loop M.length 0 μ (by omega) (by simpa [zwnt] using h) (zF.refl _ _ _)
set_option maxRecDepth 100000 in
set_option maxHeartbeats 4000000 in
theorem c_X11_fetch {d : Nat} {μ : zM} {B : List Int} {T : List zPp} {Ms : List zMg} {Sm : Nat → zStt} {store peer nm : Int} (hd : 5 ≤ d) (h : zRN μ B T Ms Sm) (hV : ∀ s, s < 3 → zVS (Sm s)) (hs : zrg store) (hp : zrg peer) (hn : zrg nm) : zCt d mX11_fetch [.inr (some 56), .inl store, .inl peer, .inl nm] μ (fun v μ' => v = some (.inl (zftO Sm store peer nm)) ∧ zRN μ' B T (zftM Ms Sm store peer nm) (zftS Sm store peer nm) ∧ zlo μ μ') := by
  by_cases hK : zftK store peer nm
  · obtain ⟨hc, k2, k3, k4⟩ := id hK
    obtain ⟨s, rfl, h3⟩ := zs3 hc
    have h4 := h.2.2.2 s h3
    have eO : zftO Sm s peer nm = ((zms (zftX (Sm s) peer nm)).length : Int) := by unfold zftO; rw [if_pos (zb_t hK)]; rfl
    have eS : zftS Sm s peer nm = zSu Sm s (zwst (zftX (Sm s) peer nm)) := by unfold zftS; rw [if_pos (zb_t hK)]; rfl
    have eM : zftM Ms Sm s peer nm = zwnt Ms s peer (zms (zftX (Sm s) peer nm)) := by unfold zftM; rw [if_pos (zb_t hK)]; rfl
    rw [eO, eS, eM]
    refine of_X11_fetch (by omega) (fun G hG => s_X11_fetch_0 hG ?_)
    simp only [b_X11_fetch_0, b_X11_fetch_7, b_X11_fetch_14, b_X11_fetch_19, b_X11_fetch_23, b_X11_fetch_29, b_X11_fetch_31, b_X11_fetch_62, b_X11_fetch_66, b_X11_fetch_67, o_c, o_il, o_al, o_is, o_as, o_inc, o_add, o_sub, o_mul, o_and, o_or, o_xor, o_shl, o_shr, o_ush, o_rem, o_dup, o_dup2, o_gf, o_pf, o_pz, o_iald, o_iast, o_zald, o_zast, o_aald, o_gs, o_min, o_acp, o_call, o_callv, zgf, zpf, zia_, zza_, zra_, zrd_, zcp_, zpop, zsm8_0, zsm8_1, zsm8_2, zsm8_3, zsm8_4, zsm8_5, zrc, zisob, t_ieq, t_ilt, t_igt, t_zeq, t_zlt, t_zgt, t_sw, zsw, t_iret, t_zret, t_aret, t_vret, zrg, List.getElem?_cons_zero, List.getElem?_cons_succ, List.set_cons_zero, List.set_cons_succ, List.length_cons, List.length_nil, Option.toList_some, Option.toList_none, List.nil_append, List.cons_append, true_and, and_true, true_or, or_true, Int.cast_ofNat_Int, Int.natCast_zero, Int.natCast_one, zsh_56, zsh_57, zsh_58, zsh_59, zsh_60, zsh_61, zsh_62, zsh_63, zsh_64, zsh_65, zsh_66, zsh_67, zsh_68, zsh_69, zsh_70, zsh_71, zsh_72, zsh_73, zsh_74, zsh_75, zsh_76, zsh_77, zsh_78, zsh_79, zsh_80, zsh_81, zsh_82, zsh_83, zsh_84, zsh_85, zsh_86, zsh_87, zup_ne, zup_eq, zup_nf, ne_eq, not_false_eq_true]
    refine zcall (c_X11_isStore hs) ?_
    rw [zb_t hc]
    simp only [b_X11_fetch_0, b_X11_fetch_7, b_X11_fetch_14, b_X11_fetch_19, b_X11_fetch_23, b_X11_fetch_29, b_X11_fetch_31, b_X11_fetch_62, b_X11_fetch_66, b_X11_fetch_67, o_c, o_il, o_al, o_is, o_as, o_inc, o_add, o_sub, o_mul, o_and, o_or, o_xor, o_shl, o_shr, o_ush, o_rem, o_dup, o_dup2, o_gf, o_pf, o_pz, o_iald, o_iast, o_zald, o_zast, o_aald, o_gs, o_min, o_acp, o_call, o_callv, zgf, zpf, zia_, zza_, zra_, zrd_, zcp_, zpop, zsm8_0, zsm8_1, zsm8_2, zsm8_3, zsm8_4, zsm8_5, zrc, zisob, t_ieq, t_ilt, t_igt, t_zeq, t_zlt, t_zgt, t_sw, zsw, t_iret, t_zret, t_aret, t_vret, zrg, List.getElem?_cons_zero, List.getElem?_cons_succ, List.set_cons_zero, List.set_cons_succ, List.length_cons, List.length_nil, Option.toList_some, Option.toList_none, List.nil_append, List.cons_append, true_and, and_true, true_or, or_true, Int.cast_ofNat_Int, Int.natCast_zero, Int.natCast_one, zsh_56, zsh_57, zsh_58, zsh_59, zsh_60, zsh_61, zsh_62, zsh_63, zsh_64, zsh_65, zsh_66, zsh_67, zsh_68, zsh_69, zsh_70, zsh_71, zsh_72, zsh_73, zsh_74, zsh_75, zsh_76, zsh_77, zsh_78, zsh_79, zsh_80, zsh_81, zsh_82, zsh_83, zsh_84, zsh_85, zsh_86, zsh_87, zup_ne, zup_eq, zup_nf, ne_eq, not_false_eq_true]
    refine ⟨by omega, fun w => by omega, fun _ => ?_⟩
    refine zcall (c_X11_isStore hp) ?_
    rw [zb_t k2]
    simp only [b_X11_fetch_0, b_X11_fetch_7, b_X11_fetch_14, b_X11_fetch_19, b_X11_fetch_23, b_X11_fetch_29, b_X11_fetch_31, b_X11_fetch_62, b_X11_fetch_66, b_X11_fetch_67, o_c, o_il, o_al, o_is, o_as, o_inc, o_add, o_sub, o_mul, o_and, o_or, o_xor, o_shl, o_shr, o_ush, o_rem, o_dup, o_dup2, o_gf, o_pf, o_pz, o_iald, o_iast, o_zald, o_zast, o_aald, o_gs, o_min, o_acp, o_call, o_callv, zgf, zpf, zia_, zza_, zra_, zrd_, zcp_, zpop, zsm8_0, zsm8_1, zsm8_2, zsm8_3, zsm8_4, zsm8_5, zrc, zisob, t_ieq, t_ilt, t_igt, t_zeq, t_zlt, t_zgt, t_sw, zsw, t_iret, t_zret, t_aret, t_vret, zrg, List.getElem?_cons_zero, List.getElem?_cons_succ, List.set_cons_zero, List.set_cons_succ, List.length_cons, List.length_nil, Option.toList_some, Option.toList_none, List.nil_append, List.cons_append, true_and, and_true, true_or, or_true, Int.cast_ofNat_Int, Int.natCast_zero, Int.natCast_one, zsh_56, zsh_57, zsh_58, zsh_59, zsh_60, zsh_61, zsh_62, zsh_63, zsh_64, zsh_65, zsh_66, zsh_67, zsh_68, zsh_69, zsh_70, zsh_71, zsh_72, zsh_73, zsh_74, zsh_75, zsh_76, zsh_77, zsh_78, zsh_79, zsh_80, zsh_81, zsh_82, zsh_83, zsh_84, zsh_85, zsh_86, zsh_87, zup_ne, zup_eq, zup_nf, ne_eq, not_false_eq_true]
    refine ⟨by omega, fun w => by omega, fun _ => ⟨by omega, by omega, fun w => absurd w k3, fun _ => ⟨by omega, fun w => by omega, fun _ => ⟨by omega, by omega, fun w => by omega, fun _ => ⟨by omega, by omega, ?_⟩⟩⟩⟩⟩
    obtain ⟨μ1, hμ1⟩ : ∃ μ1, μ1 = zup (zup μ 66 s nm) 67 s peer := ⟨_, rfl⟩
    rw [← hμ1]
    have f1 : zF [66, 67] [] μ μ1 := by rw [hμ1]; exact ((zF.refl _ _ _).u (by simp) (by decide)).u (by simp) (by decide)
    have o1 : ∀ t : Int, t ≠ s → μ1 65 t = μ 65 t ∧ μ1 66 t = μ 66 t ∧ μ1 67 t = μ 67 t := fun t ht => by rw [hμ1]; simp [zup, ht]
    have hD1 : zRN μ1 B T Ms (zSu Sm s ((Sm s).1, (Sm s).2.1, ((Sm s).2.2.1, peer, nm))) := by
      refine h.ft ⟨?_, ?_, ?_, h4.2.2.2.2.2.1, k2, k4⟩ f1 (by simp) (by simp) o1
      · rw [hμ1]; simp [zup]; exact h4.2.2.1
      · rw [hμ1]; simp [zup]
      · rw [hμ1]; simp [zup]
    have hd1 := hD1.2.2.2 s h3
    rw [zSu_at] at hd1
    refine ⟨_, c_X11_findMissing (by omega) hd1 h3 (hV s h3), ?_⟩
    rintro v μ2 ⟨rfl, b1, b2, b3⟩
    simp only [b_X11_fetch_0, b_X11_fetch_7, b_X11_fetch_14, b_X11_fetch_19, b_X11_fetch_23, b_X11_fetch_29, b_X11_fetch_31, b_X11_fetch_62, b_X11_fetch_66, b_X11_fetch_67, o_c, o_il, o_al, o_is, o_as, o_inc, o_add, o_sub, o_mul, o_and, o_or, o_xor, o_shl, o_shr, o_ush, o_rem, o_dup, o_dup2, o_gf, o_pf, o_pz, o_iald, o_iast, o_zald, o_zast, o_aald, o_gs, o_min, o_acp, o_call, o_callv, zgf, zpf, zia_, zza_, zra_, zrd_, zcp_, zpop, zsm8_0, zsm8_1, zsm8_2, zsm8_3, zsm8_4, zsm8_5, zrc, zisob, t_ieq, t_ilt, t_igt, t_zeq, t_zlt, t_zgt, t_sw, zsw, t_iret, t_zret, t_aret, t_vret, zrg, List.getElem?_cons_zero, List.getElem?_cons_succ, List.set_cons_zero, List.set_cons_succ, List.length_cons, List.length_nil, Option.toList_some, Option.toList_none, List.nil_append, List.cons_append, true_and, and_true, true_or, or_true, Int.cast_ofNat_Int, Int.natCast_zero, Int.natCast_one, zsh_56, zsh_57, zsh_58, zsh_59, zsh_60, zsh_61, zsh_62, zsh_63, zsh_64, zsh_65, zsh_66, zsh_67, zsh_68, zsh_69, zsh_70, zsh_71, zsh_72, zsh_73, zsh_74, zsh_75, zsh_76, zsh_77, zsh_78, zsh_79, zsh_80, zsh_81, zsh_82, zsh_83, zsh_84, zsh_85, zsh_86, zsh_87, zup_ne, zup_eq, zup_nf, ne_eq, not_false_eq_true]
    have hme : zms ((Sm s).1, (Sm s).2.1, ((Sm s).2.2.1, peer, nm)) = zms (zftX (Sm s) peer nm) := rfl
    rw [hme] at b2
    obtain ⟨b21, b22, b23, b24⟩ := b2
    have hR2 : zRN μ2 B T Ms (zSu Sm s ((Sm s).1, (Sm s).2.1, ((Sm s).2.2.1, peer, nm))) := hD1.f b3 (by simp) (by simp)
    have key : ∀ y : Int, y = (zwst (zftX (Sm s) peer nm)).2.2.1 → ∃ Q, zCt (d - 1) mX11_wantAll [.inr (some 56), .inl (s : Int)] (zup μ2 65 s y) Q ∧ ∀ (v : Option zV) (μ' : zM), Q v μ' → v = none ∧ μ' 56 34 = ((zms (zftX (Sm s) peer nm)).length : Int) ∧ zRN μ' B T (zwnt Ms s peer (zms (zftX (Sm s) peer nm))) (zSu Sm s (zwst (zftX (Sm s) peer nm))) ∧ zlo μ μ' := by
      intro y hy
      have f3 : zF [65] [] μ2 (zup μ2 65 s y) := (zF.refl _ _ _).u (by simp) (by decide)
      have hyr : 0 ≤ y ∧ y ≤ 3 := by
        rw [hy]
        unfold zwst zwfs zftX
        simp only
        split <;> omega
      have hR3 : zRN (zup μ2 65 s y) B T Ms (zSu Sm s (zwst (zftX (Sm s) peer nm))) := by
        have := hR2.ft (μ' := zup μ2 65 s y) (s := s) (fs := y) (fp := peer) (fr := nm) ⟨zup_eq, ?_, ?_, hyr, k2, k4⟩ f3 (by simp) (by simp) (fun t ht => by rw [zup_nf ht, zup_ne 66 (by decide), zup_ne 67 (by decide)]; exact ⟨rfl, rfl, rfl⟩)
        · rw [zSu_su, zSu_at] at this
          rw [hy] at this ⊢
          exact this
        · rw [zup_ne 67 (by decide)]; have := (hR2.2.2.2 s h3).2.2.2.1; rw [zSu_at] at this; exact this
        · rw [zup_ne 66 (by decide)]; have := (hR2.2.2.2 s h3).2.2.2.2.1; rw [zSu_at] at this; exact this
      refine ⟨_, c_X11_wantAll (M := zms (zftX (Sm s) peer nm)) (by omega) hR3 h3 (by rw [zup_ne 56 (by decide)]; exact b21) (b22.of (zup_ne _ (by decide))) b23 (by omega), ?_⟩
      rw [zSu_at]
      rintro v μ4 ⟨rfl, g1, g2⟩
      refine ⟨rfl, ?_, g1, (((f1.lo (by simp)).trans (b3.lo (by simp))).trans (f3.lo (by simp))).trans (g2.lo (by simp))⟩
      rw [g2.2 34 (by simp), zup_ne 56 (by decide), b21]
    rw [b21]
    refine ⟨by omega, fun w => ⟨by omega, ?_⟩, fun w => ⟨by omega, ?_⟩⟩
    · have : zms (zftX (Sm s) peer nm) = [] := List.length_eq_zero_iff.mp (by omega)
      obtain ⟨Q, y1, y2⟩ := key 2 (by unfold zwst zwfs; rw [if_pos ⟨rfl, this⟩])
      refine ⟨Q, y1, fun v μ' hq => ?_⟩
      obtain ⟨rfl, z1, z2, z3⟩ := y2 v μ' hq
      simp only [b_X11_fetch_0, b_X11_fetch_7, b_X11_fetch_14, b_X11_fetch_19, b_X11_fetch_23, b_X11_fetch_29, b_X11_fetch_31, b_X11_fetch_62, b_X11_fetch_66, b_X11_fetch_67, o_c, o_il, o_al, o_is, o_as, o_inc, o_add, o_sub, o_mul, o_and, o_or, o_xor, o_shl, o_shr, o_ush, o_rem, o_dup, o_dup2, o_gf, o_pf, o_pz, o_iald, o_iast, o_zald, o_zast, o_aald, o_gs, o_min, o_acp, o_call, o_callv, zgf, zpf, zia_, zza_, zra_, zrd_, zcp_, zpop, zsm8_0, zsm8_1, zsm8_2, zsm8_3, zsm8_4, zsm8_5, zrc, zisob, t_ieq, t_ilt, t_igt, t_zeq, t_zlt, t_zgt, t_sw, zsw, t_iret, t_zret, t_aret, t_vret, zrg, List.getElem?_cons_zero, List.getElem?_cons_succ, List.set_cons_zero, List.set_cons_succ, List.length_cons, List.length_nil, Option.toList_some, Option.toList_none, List.nil_append, List.cons_append, true_and, and_true, true_or, or_true, Int.cast_ofNat_Int, Int.natCast_zero, Int.natCast_one, zsh_56, zsh_57, zsh_58, zsh_59, zsh_60, zsh_61, zsh_62, zsh_63, zsh_64, zsh_65, zsh_66, zsh_67, zsh_68, zsh_69, zsh_70, zsh_71, zsh_72, zsh_73, zsh_74, zsh_75, zsh_76, zsh_77, zsh_78, zsh_79, zsh_80, zsh_81, zsh_82, zsh_83, zsh_84, zsh_85, zsh_86, zsh_87, zup_ne, zup_eq, zup_nf, ne_eq, not_false_eq_true]
      rw [z1]
      exact ⟨rfl, z2, z3⟩
    · obtain ⟨Q, y1, y2⟩ := key 1 (by
        unfold zwst zwfs
        rw [if_neg (fun q => by have q2 : zms (zftX (Sm s) peer nm) = [] := q.2; rw [q2] at w; simp at w)]
        rfl)
      refine ⟨Q, y1, fun v μ' hq => ?_⟩
      obtain ⟨rfl, z1, z2, z3⟩ := y2 v μ' hq
      simp only [b_X11_fetch_0, b_X11_fetch_7, b_X11_fetch_14, b_X11_fetch_19, b_X11_fetch_23, b_X11_fetch_29, b_X11_fetch_31, b_X11_fetch_62, b_X11_fetch_66, b_X11_fetch_67, o_c, o_il, o_al, o_is, o_as, o_inc, o_add, o_sub, o_mul, o_and, o_or, o_xor, o_shl, o_shr, o_ush, o_rem, o_dup, o_dup2, o_gf, o_pf, o_pz, o_iald, o_iast, o_zald, o_zast, o_aald, o_gs, o_min, o_acp, o_call, o_callv, zgf, zpf, zia_, zza_, zra_, zrd_, zcp_, zpop, zsm8_0, zsm8_1, zsm8_2, zsm8_3, zsm8_4, zsm8_5, zrc, zisob, t_ieq, t_ilt, t_igt, t_zeq, t_zlt, t_zgt, t_sw, zsw, t_iret, t_zret, t_aret, t_vret, zrg, List.getElem?_cons_zero, List.getElem?_cons_succ, List.set_cons_zero, List.set_cons_succ, List.length_cons, List.length_nil, Option.toList_some, Option.toList_none, List.nil_append, List.cons_append, true_and, and_true, true_or, or_true, Int.cast_ofNat_Int, Int.natCast_zero, Int.natCast_one, zsh_56, zsh_57, zsh_58, zsh_59, zsh_60, zsh_61, zsh_62, zsh_63, zsh_64, zsh_65, zsh_66, zsh_67, zsh_68, zsh_69, zsh_70, zsh_71, zsh_72, zsh_73, zsh_74, zsh_75, zsh_76, zsh_77, zsh_78, zsh_79, zsh_80, zsh_81, zsh_82, zsh_83, zsh_84, zsh_85, zsh_86, zsh_87, zup_ne, zup_eq, zup_nf, ne_eq, not_false_eq_true]
      rw [z1]
      exact ⟨rfl, z2, z3⟩
  · have eO : zftO Sm store peer nm = -1 := by unfold zftO; rw [if_neg (by rw [zb_f hK]; decide)]
    have eS : zftS Sm store peer nm = Sm := by unfold zftS; rw [if_neg (by rw [zb_f hK]; decide)]
    have eM : zftM Ms Sm store peer nm = Ms := by unfold zftM; rw [if_neg (by rw [zb_f hK]; decide)]
    rw [eO, eS, eM]
    unfold zftK at hK
    have R : zRN μ B T Ms Sm ∧ zlo μ μ := ⟨h, zlo.refl _⟩
    have hn0 := hn
    unfold zrg at hn0
    refine of_X11_fetch (by omega) (fun G hG => s_X11_fetch_0 hG ?_)
    simp only [b_X11_fetch_0, b_X11_fetch_7, b_X11_fetch_14, b_X11_fetch_19, b_X11_fetch_23, b_X11_fetch_29, b_X11_fetch_31, b_X11_fetch_62, b_X11_fetch_66, b_X11_fetch_67, o_c, o_il, o_al, o_is, o_as, o_inc, o_add, o_sub, o_mul, o_and, o_or, o_xor, o_shl, o_shr, o_ush, o_rem, o_dup, o_dup2, o_gf, o_pf, o_pz, o_iald, o_iast, o_zald, o_zast, o_aald, o_gs, o_min, o_acp, o_call, o_callv, zgf, zpf, zia_, zza_, zra_, zrd_, zcp_, zpop, zsm8_0, zsm8_1, zsm8_2, zsm8_3, zsm8_4, zsm8_5, zrc, zisob, t_ieq, t_ilt, t_igt, t_zeq, t_zlt, t_zgt, t_sw, zsw, t_iret, t_zret, t_aret, t_vret, zrg, List.getElem?_cons_zero, List.getElem?_cons_succ, List.set_cons_zero, List.set_cons_succ, List.length_cons, List.length_nil, Option.toList_some, Option.toList_none, List.nil_append, List.cons_append, true_and, and_true, true_or, or_true, Int.cast_ofNat_Int, Int.natCast_zero, Int.natCast_one, zsh_56, zsh_57, zsh_58, zsh_59, zsh_60, zsh_61, zsh_62, zsh_63, zsh_64, zsh_65, zsh_66, zsh_67, zsh_68, zsh_69, zsh_70, zsh_71, zsh_72, zsh_73, zsh_74, zsh_75, zsh_76, zsh_77, zsh_78, zsh_79, zsh_80, zsh_81, zsh_82, zsh_83, zsh_84, zsh_85, zsh_86, zsh_87, zup_ne, zup_eq, zup_nf, ne_eq, not_false_eq_true]
    refine zcall (c_X11_isStore hs) ?_
    rcases zb_or (0 ≤ store ∧ store ≤ 2) with ⟨q1, q2⟩ | ⟨q1, q2⟩
    · rw [q1]
      simp only [b_X11_fetch_0, b_X11_fetch_7, b_X11_fetch_14, b_X11_fetch_19, b_X11_fetch_23, b_X11_fetch_29, b_X11_fetch_31, b_X11_fetch_62, b_X11_fetch_66, b_X11_fetch_67, o_c, o_il, o_al, o_is, o_as, o_inc, o_add, o_sub, o_mul, o_and, o_or, o_xor, o_shl, o_shr, o_ush, o_rem, o_dup, o_dup2, o_gf, o_pf, o_pz, o_iald, o_iast, o_zald, o_zast, o_aald, o_gs, o_min, o_acp, o_call, o_callv, zgf, zpf, zia_, zza_, zra_, zrd_, zcp_, zpop, zsm8_0, zsm8_1, zsm8_2, zsm8_3, zsm8_4, zsm8_5, zrc, zisob, t_ieq, t_ilt, t_igt, t_zeq, t_zlt, t_zgt, t_sw, zsw, t_iret, t_zret, t_aret, t_vret, zrg, List.getElem?_cons_zero, List.getElem?_cons_succ, List.set_cons_zero, List.set_cons_succ, List.length_cons, List.length_nil, Option.toList_some, Option.toList_none, List.nil_append, List.cons_append, true_and, and_true, true_or, or_true, Int.cast_ofNat_Int, Int.natCast_zero, Int.natCast_one, zsh_56, zsh_57, zsh_58, zsh_59, zsh_60, zsh_61, zsh_62, zsh_63, zsh_64, zsh_65, zsh_66, zsh_67, zsh_68, zsh_69, zsh_70, zsh_71, zsh_72, zsh_73, zsh_74, zsh_75, zsh_76, zsh_77, zsh_78, zsh_79, zsh_80, zsh_81, zsh_82, zsh_83, zsh_84, zsh_85, zsh_86, zsh_87, zup_ne, zup_eq, zup_nf, ne_eq, not_false_eq_true]
      refine ⟨by omega, fun w => R, fun _ => ?_⟩
      refine zcall (c_X11_isStore hp) ?_
      rcases zb_or (0 ≤ peer ∧ peer ≤ 2) with ⟨r1, r2⟩ | ⟨r1, r2⟩
      · rw [r1]
        simp only [b_X11_fetch_0, b_X11_fetch_7, b_X11_fetch_14, b_X11_fetch_19, b_X11_fetch_23, b_X11_fetch_29, b_X11_fetch_31, b_X11_fetch_62, b_X11_fetch_66, b_X11_fetch_67, o_c, o_il, o_al, o_is, o_as, o_inc, o_add, o_sub, o_mul, o_and, o_or, o_xor, o_shl, o_shr, o_ush, o_rem, o_dup, o_dup2, o_gf, o_pf, o_pz, o_iald, o_iast, o_zald, o_zast, o_aald, o_gs, o_min, o_acp, o_call, o_callv, zgf, zpf, zia_, zza_, zra_, zrd_, zcp_, zpop, zsm8_0, zsm8_1, zsm8_2, zsm8_3, zsm8_4, zsm8_5, zrc, zisob, t_ieq, t_ilt, t_igt, t_zeq, t_zlt, t_zgt, t_sw, zsw, t_iret, t_zret, t_aret, t_vret, zrg, List.getElem?_cons_zero, List.getElem?_cons_succ, List.set_cons_zero, List.set_cons_succ, List.length_cons, List.length_nil, Option.toList_some, Option.toList_none, List.nil_append, List.cons_append, true_and, and_true, true_or, or_true, Int.cast_ofNat_Int, Int.natCast_zero, Int.natCast_one, zsh_56, zsh_57, zsh_58, zsh_59, zsh_60, zsh_61, zsh_62, zsh_63, zsh_64, zsh_65, zsh_66, zsh_67, zsh_68, zsh_69, zsh_70, zsh_71, zsh_72, zsh_73, zsh_74, zsh_75, zsh_76, zsh_77, zsh_78, zsh_79, zsh_80, zsh_81, zsh_82, zsh_83, zsh_84, zsh_85, zsh_86, zsh_87, zup_ne, zup_eq, zup_nf, ne_eq, not_false_eq_true]
        unfold zrg at hs hp
        refine ⟨by omega, fun w => R, fun _ => ⟨by omega, by omega, fun _ => R, fun w => ⟨by omega, fun _ => R, fun w2 => ⟨by omega, by omega, fun _ => R, fun w3 => ?_⟩⟩⟩⟩
        exact absurd ⟨q2, r2, w, by omega⟩ hK
      · rw [r1]
        simp only [b_X11_fetch_0, b_X11_fetch_7, b_X11_fetch_14, b_X11_fetch_19, b_X11_fetch_23, b_X11_fetch_29, b_X11_fetch_31, b_X11_fetch_62, b_X11_fetch_66, b_X11_fetch_67, o_c, o_il, o_al, o_is, o_as, o_inc, o_add, o_sub, o_mul, o_and, o_or, o_xor, o_shl, o_shr, o_ush, o_rem, o_dup, o_dup2, o_gf, o_pf, o_pz, o_iald, o_iast, o_zald, o_zast, o_aald, o_gs, o_min, o_acp, o_call, o_callv, zgf, zpf, zia_, zza_, zra_, zrd_, zcp_, zpop, zsm8_0, zsm8_1, zsm8_2, zsm8_3, zsm8_4, zsm8_5, zrc, zisob, t_ieq, t_ilt, t_igt, t_zeq, t_zlt, t_zgt, t_sw, zsw, t_iret, t_zret, t_aret, t_vret, zrg, List.getElem?_cons_zero, List.getElem?_cons_succ, List.set_cons_zero, List.set_cons_succ, List.length_cons, List.length_nil, Option.toList_some, Option.toList_none, List.nil_append, List.cons_append, true_and, and_true, true_or, or_true, Int.cast_ofNat_Int, Int.natCast_zero, Int.natCast_one, zsh_56, zsh_57, zsh_58, zsh_59, zsh_60, zsh_61, zsh_62, zsh_63, zsh_64, zsh_65, zsh_66, zsh_67, zsh_68, zsh_69, zsh_70, zsh_71, zsh_72, zsh_73, zsh_74, zsh_75, zsh_76, zsh_77, zsh_78, zsh_79, zsh_80, zsh_81, zsh_82, zsh_83, zsh_84, zsh_85, zsh_86, zsh_87, zup_ne, zup_eq, zup_nf, ne_eq, not_false_eq_true]
        exact ⟨by omega, fun w => R, fun w => absurd trivial w⟩
    · rw [q1]
      simp only [b_X11_fetch_0, b_X11_fetch_7, b_X11_fetch_14, b_X11_fetch_19, b_X11_fetch_23, b_X11_fetch_29, b_X11_fetch_31, b_X11_fetch_62, b_X11_fetch_66, b_X11_fetch_67, o_c, o_il, o_al, o_is, o_as, o_inc, o_add, o_sub, o_mul, o_and, o_or, o_xor, o_shl, o_shr, o_ush, o_rem, o_dup, o_dup2, o_gf, o_pf, o_pz, o_iald, o_iast, o_zald, o_zast, o_aald, o_gs, o_min, o_acp, o_call, o_callv, zgf, zpf, zia_, zza_, zra_, zrd_, zcp_, zpop, zsm8_0, zsm8_1, zsm8_2, zsm8_3, zsm8_4, zsm8_5, zrc, zisob, t_ieq, t_ilt, t_igt, t_zeq, t_zlt, t_zgt, t_sw, zsw, t_iret, t_zret, t_aret, t_vret, zrg, List.getElem?_cons_zero, List.getElem?_cons_succ, List.set_cons_zero, List.set_cons_succ, List.length_cons, List.length_nil, Option.toList_some, Option.toList_none, List.nil_append, List.cons_append, true_and, and_true, true_or, or_true, Int.cast_ofNat_Int, Int.natCast_zero, Int.natCast_one, zsh_56, zsh_57, zsh_58, zsh_59, zsh_60, zsh_61, zsh_62, zsh_63, zsh_64, zsh_65, zsh_66, zsh_67, zsh_68, zsh_69, zsh_70, zsh_71, zsh_72, zsh_73, zsh_74, zsh_75, zsh_76, zsh_77, zsh_78, zsh_79, zsh_80, zsh_81, zsh_82, zsh_83, zsh_84, zsh_85, zsh_86, zsh_87, zup_ne, zup_eq, zup_nf, ne_eq, not_false_eq_true]
      exact ⟨by omega, fun w => R, fun w => absurd trivial w⟩
set_option maxRecDepth 100000 in
set_option maxHeartbeats 4000000 in
theorem c_X11_retry {d : Nat} {μ : zM} {B : List Int} {T : List zPp} {Ms : List zMg} {Sm : Nat → zStt} {store : Int} (hd : 5 ≤ d) (h : zRN μ B T Ms Sm) (hV : ∀ s, s < 3 → zVS (Sm s)) (hs : zrg store) : zCt d mX11_retry [.inr (some 56), .inl store] μ (fun v μ' => v = some (.inl (zrtO Sm store)) ∧ zRN μ' B T (zrtM Ms Sm store) Sm ∧ zlo μ μ') := by
  have R : zRN μ B T Ms Sm ∧ zlo μ μ := ⟨h, zlo.refl _⟩
  by_cases hc : 0 ≤ store ∧ store ≤ 2
  · obtain ⟨s, rfl, h3⟩ := zs3 hc
    have h4 := h.2.2.2 s h3
    have hfr := h4.2.2.2.2.2.1
    by_cases hf : (Sm s).2.2.1 = 1
    · have hK : zrtK Sm s := ⟨hc, hf⟩
      have eO : zrtO Sm s = ((zms (Sm s)).length : Int) := by unfold zrtO; rw [if_pos (zb_t hK)]; rfl
      have eM : zrtM Ms Sm s = zwnt Ms s (Sm s).2.2.2.1 (zms (Sm s)) := by unfold zrtM; rw [if_pos (zb_t hK)]; rfl
      rw [eO, eM]
      refine of_X11_retry (by omega) (fun G hG => s_X11_retry_0 hG ?_)
      simp only [b_X11_retry_0, b_X11_retry_7, b_X11_retry_17, b_X11_retry_19, o_c, o_il, o_al, o_is, o_as, o_inc, o_add, o_sub, o_mul, o_and, o_or, o_xor, o_shl, o_shr, o_ush, o_rem, o_dup, o_dup2, o_gf, o_pf, o_pz, o_iald, o_iast, o_zald, o_zast, o_aald, o_gs, o_min, o_acp, o_call, o_callv, zgf, zpf, zia_, zza_, zra_, zrd_, zcp_, zpop, zsm8_0, zsm8_1, zsm8_2, zsm8_3, zsm8_4, zsm8_5, zrc, zisob, t_ieq, t_ilt, t_igt, t_zeq, t_zlt, t_zgt, t_sw, zsw, t_iret, t_zret, t_aret, t_vret, zrg, List.getElem?_cons_zero, List.getElem?_cons_succ, List.set_cons_zero, List.set_cons_succ, List.length_cons, List.length_nil, Option.toList_some, Option.toList_none, List.nil_append, List.cons_append, true_and, and_true, true_or, or_true, Int.cast_ofNat_Int, Int.natCast_zero, Int.natCast_one, zsh_56, zsh_57, zsh_58, zsh_59, zsh_60, zsh_61, zsh_62, zsh_63, zsh_64, zsh_65, zsh_66, zsh_67, zsh_68, zsh_69, zsh_70, zsh_71, zsh_72, zsh_73, zsh_74, zsh_75, zsh_76, zsh_77, zsh_78, zsh_79, zsh_80, zsh_81, zsh_82, zsh_83, zsh_84, zsh_85, zsh_86, zsh_87, zup_ne, zup_eq, zup_nf, ne_eq, not_false_eq_true]
      refine zcall (c_X11_isStore hs) ?_
      rw [zb_t hc]
      simp only [b_X11_retry_0, b_X11_retry_7, b_X11_retry_17, b_X11_retry_19, o_c, o_il, o_al, o_is, o_as, o_inc, o_add, o_sub, o_mul, o_and, o_or, o_xor, o_shl, o_shr, o_ush, o_rem, o_dup, o_dup2, o_gf, o_pf, o_pz, o_iald, o_iast, o_zald, o_zast, o_aald, o_gs, o_min, o_acp, o_call, o_callv, zgf, zpf, zia_, zza_, zra_, zrd_, zcp_, zpop, zsm8_0, zsm8_1, zsm8_2, zsm8_3, zsm8_4, zsm8_5, zrc, zisob, t_ieq, t_ilt, t_igt, t_zeq, t_zlt, t_zgt, t_sw, zsw, t_iret, t_zret, t_aret, t_vret, zrg, List.getElem?_cons_zero, List.getElem?_cons_succ, List.set_cons_zero, List.set_cons_succ, List.length_cons, List.length_nil, Option.toList_some, Option.toList_none, List.nil_append, List.cons_append, true_and, and_true, true_or, or_true, Int.cast_ofNat_Int, Int.natCast_zero, Int.natCast_one, zsh_56, zsh_57, zsh_58, zsh_59, zsh_60, zsh_61, zsh_62, zsh_63, zsh_64, zsh_65, zsh_66, zsh_67, zsh_68, zsh_69, zsh_70, zsh_71, zsh_72, zsh_73, zsh_74, zsh_75, zsh_76, zsh_77, zsh_78, zsh_79, zsh_80, zsh_81, zsh_82, zsh_83, zsh_84, zsh_85, zsh_86, zsh_87, zup_ne, zup_eq, zup_nf, ne_eq, not_false_eq_true]
      rw [h4.2.2.1]
      refine ⟨by omega, fun w => by omega, fun _ => ⟨by omega, by omega, by omega, fun _ => ?_, fun w => absurd hf w⟩⟩
      refine ⟨_, c_X11_findMissing (by omega) h4 h3 (hV s h3), ?_⟩
      rintro v μ1 ⟨rfl, b1, ⟨b21, b22, b23, b24⟩, b3⟩
      simp only [b_X11_retry_0, b_X11_retry_7, b_X11_retry_17, b_X11_retry_19, o_c, o_il, o_al, o_is, o_as, o_inc, o_add, o_sub, o_mul, o_and, o_or, o_xor, o_shl, o_shr, o_ush, o_rem, o_dup, o_dup2, o_gf, o_pf, o_pz, o_iald, o_iast, o_zald, o_zast, o_aald, o_gs, o_min, o_acp, o_call, o_callv, zgf, zpf, zia_, zza_, zra_, zrd_, zcp_, zpop, zsm8_0, zsm8_1, zsm8_2, zsm8_3, zsm8_4, zsm8_5, zrc, zisob, t_ieq, t_ilt, t_igt, t_zeq, t_zlt, t_zgt, t_sw, zsw, t_iret, t_zret, t_aret, t_vret, zrg, List.getElem?_cons_zero, List.getElem?_cons_succ, List.set_cons_zero, List.set_cons_succ, List.length_cons, List.length_nil, Option.toList_some, Option.toList_none, List.nil_append, List.cons_append, true_and, and_true, true_or, or_true, Int.cast_ofNat_Int, Int.natCast_zero, Int.natCast_one, zsh_56, zsh_57, zsh_58, zsh_59, zsh_60, zsh_61, zsh_62, zsh_63, zsh_64, zsh_65, zsh_66, zsh_67, zsh_68, zsh_69, zsh_70, zsh_71, zsh_72, zsh_73, zsh_74, zsh_75, zsh_76, zsh_77, zsh_78, zsh_79, zsh_80, zsh_81, zsh_82, zsh_83, zsh_84, zsh_85, zsh_86, zsh_87, zup_ne, zup_eq, zup_nf, ne_eq, not_false_eq_true]
      refine ⟨_, c_X11_wantAll (M := zms (Sm s)) (by omega) (h.f b3 (by simp) (by simp)) h3 b21 b22 b23 (by omega), ?_⟩
      rintro v μ2 ⟨rfl, g1, g2⟩
      simp only [b_X11_retry_0, b_X11_retry_7, b_X11_retry_17, b_X11_retry_19, o_c, o_il, o_al, o_is, o_as, o_inc, o_add, o_sub, o_mul, o_and, o_or, o_xor, o_shl, o_shr, o_ush, o_rem, o_dup, o_dup2, o_gf, o_pf, o_pz, o_iald, o_iast, o_zald, o_zast, o_aald, o_gs, o_min, o_acp, o_call, o_callv, zgf, zpf, zia_, zza_, zra_, zrd_, zcp_, zpop, zsm8_0, zsm8_1, zsm8_2, zsm8_3, zsm8_4, zsm8_5, zrc, zisob, t_ieq, t_ilt, t_igt, t_zeq, t_zlt, t_zgt, t_sw, zsw, t_iret, t_zret, t_aret, t_vret, zrg, List.getElem?_cons_zero, List.getElem?_cons_succ, List.set_cons_zero, List.set_cons_succ, List.length_cons, List.length_nil, Option.toList_some, Option.toList_none, List.nil_append, List.cons_append, true_and, and_true, true_or, or_true, Int.cast_ofNat_Int, Int.natCast_zero, Int.natCast_one, zsh_56, zsh_57, zsh_58, zsh_59, zsh_60, zsh_61, zsh_62, zsh_63, zsh_64, zsh_65, zsh_66, zsh_67, zsh_68, zsh_69, zsh_70, zsh_71, zsh_72, zsh_73, zsh_74, zsh_75, zsh_76, zsh_77, zsh_78, zsh_79, zsh_80, zsh_81, zsh_82, zsh_83, zsh_84, zsh_85, zsh_86, zsh_87, zup_ne, zup_eq, zup_nf, ne_eq, not_false_eq_true]
      rw [g2.2 34 (by simp), b21]
      exact ⟨rfl, g1, (b3.lo (by simp)).trans (g2.lo (by simp))⟩
    · have hK : ¬ zrtK Sm s := fun w => hf w.2
      have eO : zrtO Sm s = -1 := by unfold zrtO; rw [if_neg (by rw [zb_f hK]; decide)]
      have eM : zrtM Ms Sm s = Ms := by unfold zrtM; rw [if_neg (by rw [zb_f hK]; decide)]
      rw [eO, eM]
      refine of_X11_retry (by omega) (fun G hG => s_X11_retry_0 hG ?_)
      simp only [b_X11_retry_0, b_X11_retry_7, b_X11_retry_17, b_X11_retry_19, o_c, o_il, o_al, o_is, o_as, o_inc, o_add, o_sub, o_mul, o_and, o_or, o_xor, o_shl, o_shr, o_ush, o_rem, o_dup, o_dup2, o_gf, o_pf, o_pz, o_iald, o_iast, o_zald, o_zast, o_aald, o_gs, o_min, o_acp, o_call, o_callv, zgf, zpf, zia_, zza_, zra_, zrd_, zcp_, zpop, zsm8_0, zsm8_1, zsm8_2, zsm8_3, zsm8_4, zsm8_5, zrc, zisob, t_ieq, t_ilt, t_igt, t_zeq, t_zlt, t_zgt, t_sw, zsw, t_iret, t_zret, t_aret, t_vret, zrg, List.getElem?_cons_zero, List.getElem?_cons_succ, List.set_cons_zero, List.set_cons_succ, List.length_cons, List.length_nil, Option.toList_some, Option.toList_none, List.nil_append, List.cons_append, true_and, and_true, true_or, or_true, Int.cast_ofNat_Int, Int.natCast_zero, Int.natCast_one, zsh_56, zsh_57, zsh_58, zsh_59, zsh_60, zsh_61, zsh_62, zsh_63, zsh_64, zsh_65, zsh_66, zsh_67, zsh_68, zsh_69, zsh_70, zsh_71, zsh_72, zsh_73, zsh_74, zsh_75, zsh_76, zsh_77, zsh_78, zsh_79, zsh_80, zsh_81, zsh_82, zsh_83, zsh_84, zsh_85, zsh_86, zsh_87, zup_ne, zup_eq, zup_nf, ne_eq, not_false_eq_true]
      refine zcall (c_X11_isStore hs) ?_
      rw [zb_t hc]
      simp only [b_X11_retry_0, b_X11_retry_7, b_X11_retry_17, b_X11_retry_19, o_c, o_il, o_al, o_is, o_as, o_inc, o_add, o_sub, o_mul, o_and, o_or, o_xor, o_shl, o_shr, o_ush, o_rem, o_dup, o_dup2, o_gf, o_pf, o_pz, o_iald, o_iast, o_zald, o_zast, o_aald, o_gs, o_min, o_acp, o_call, o_callv, zgf, zpf, zia_, zza_, zra_, zrd_, zcp_, zpop, zsm8_0, zsm8_1, zsm8_2, zsm8_3, zsm8_4, zsm8_5, zrc, zisob, t_ieq, t_ilt, t_igt, t_zeq, t_zlt, t_zgt, t_sw, zsw, t_iret, t_zret, t_aret, t_vret, zrg, List.getElem?_cons_zero, List.getElem?_cons_succ, List.set_cons_zero, List.set_cons_succ, List.length_cons, List.length_nil, Option.toList_some, Option.toList_none, List.nil_append, List.cons_append, true_and, and_true, true_or, or_true, Int.cast_ofNat_Int, Int.natCast_zero, Int.natCast_one, zsh_56, zsh_57, zsh_58, zsh_59, zsh_60, zsh_61, zsh_62, zsh_63, zsh_64, zsh_65, zsh_66, zsh_67, zsh_68, zsh_69, zsh_70, zsh_71, zsh_72, zsh_73, zsh_74, zsh_75, zsh_76, zsh_77, zsh_78, zsh_79, zsh_80, zsh_81, zsh_82, zsh_83, zsh_84, zsh_85, zsh_86, zsh_87, zup_ne, zup_eq, zup_nf, ne_eq, not_false_eq_true]
      rw [h4.2.2.1]
      exact ⟨by omega, fun w => by omega, fun _ => ⟨by omega, by omega, by omega, fun w => absurd w hf, fun _ => R⟩⟩
  · have hK : ¬ zrtK Sm store := fun w => hc w.1
    have eO : zrtO Sm store = -1 := by unfold zrtO; rw [if_neg (by rw [zb_f hK]; decide)]
    have eM : zrtM Ms Sm store = Ms := by unfold zrtM; rw [if_neg (by rw [zb_f hK]; decide)]
    rw [eO, eM]
    refine of_X11_retry (by omega) (fun G hG => s_X11_retry_0 hG ?_)
    simp only [b_X11_retry_0, b_X11_retry_7, b_X11_retry_17, b_X11_retry_19, o_c, o_il, o_al, o_is, o_as, o_inc, o_add, o_sub, o_mul, o_and, o_or, o_xor, o_shl, o_shr, o_ush, o_rem, o_dup, o_dup2, o_gf, o_pf, o_pz, o_iald, o_iast, o_zald, o_zast, o_aald, o_gs, o_min, o_acp, o_call, o_callv, zgf, zpf, zia_, zza_, zra_, zrd_, zcp_, zpop, zsm8_0, zsm8_1, zsm8_2, zsm8_3, zsm8_4, zsm8_5, zrc, zisob, t_ieq, t_ilt, t_igt, t_zeq, t_zlt, t_zgt, t_sw, zsw, t_iret, t_zret, t_aret, t_vret, zrg, List.getElem?_cons_zero, List.getElem?_cons_succ, List.set_cons_zero, List.set_cons_succ, List.length_cons, List.length_nil, Option.toList_some, Option.toList_none, List.nil_append, List.cons_append, true_and, and_true, true_or, or_true, Int.cast_ofNat_Int, Int.natCast_zero, Int.natCast_one, zsh_56, zsh_57, zsh_58, zsh_59, zsh_60, zsh_61, zsh_62, zsh_63, zsh_64, zsh_65, zsh_66, zsh_67, zsh_68, zsh_69, zsh_70, zsh_71, zsh_72, zsh_73, zsh_74, zsh_75, zsh_76, zsh_77, zsh_78, zsh_79, zsh_80, zsh_81, zsh_82, zsh_83, zsh_84, zsh_85, zsh_86, zsh_87, zup_ne, zup_eq, zup_nf, ne_eq, not_false_eq_true]
    refine zcall (c_X11_isStore hs) ?_
    rw [zb_f (P := 0 ≤ store ∧ store ≤ 2) hc]
    simp only [b_X11_retry_0, b_X11_retry_7, b_X11_retry_17, b_X11_retry_19, o_c, o_il, o_al, o_is, o_as, o_inc, o_add, o_sub, o_mul, o_and, o_or, o_xor, o_shl, o_shr, o_ush, o_rem, o_dup, o_dup2, o_gf, o_pf, o_pz, o_iald, o_iast, o_zald, o_zast, o_aald, o_gs, o_min, o_acp, o_call, o_callv, zgf, zpf, zia_, zza_, zra_, zrd_, zcp_, zpop, zsm8_0, zsm8_1, zsm8_2, zsm8_3, zsm8_4, zsm8_5, zrc, zisob, t_ieq, t_ilt, t_igt, t_zeq, t_zlt, t_zgt, t_sw, zsw, t_iret, t_zret, t_aret, t_vret, zrg, List.getElem?_cons_zero, List.getElem?_cons_succ, List.set_cons_zero, List.set_cons_succ, List.length_cons, List.length_nil, Option.toList_some, Option.toList_none, List.nil_append, List.cons_append, true_and, and_true, true_or, or_true, Int.cast_ofNat_Int, Int.natCast_zero, Int.natCast_one, zsh_56, zsh_57, zsh_58, zsh_59, zsh_60, zsh_61, zsh_62, zsh_63, zsh_64, zsh_65, zsh_66, zsh_67, zsh_68, zsh_69, zsh_70, zsh_71, zsh_72, zsh_73, zsh_74, zsh_75, zsh_76, zsh_77, zsh_78, zsh_79, zsh_80, zsh_81, zsh_82, zsh_83, zsh_84, zsh_85, zsh_86, zsh_87, zup_ne, zup_eq, zup_nf, ne_eq, not_false_eq_true]
    exact ⟨by omega, fun w => R, fun w => absurd trivial w⟩
