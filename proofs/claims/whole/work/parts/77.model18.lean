/-! THE REFERENCE: add -/
theorem zlevs_done {fan f : Nat} {ns : List zNo} (h : ns.length ≤ 1) : zlevs fan f ns = ([], ns) := by
  cases f with
  | zero => rfl
  | succ f => simp only [zlevs]; rw [if_pos h]
theorem zpcs_succ (B : List Int) (chunk : Int) (f st : Nat) : zpcs B chunk (f + 1) st = zpce B chunk st :: (if zend B chunk st < B.length then zpcs B chunk f (zend B chunk st) else []) := rfl
theorem zlc_2' : ∀ n : Fin 33, (n : Nat) + zlc 2 32 n ≤ 64 := by decide +kernel
theorem zlc_3' : ∀ n : Fin 33, (n : Nat) + zlc 3 32 n ≤ 64 := by decide +kernel
theorem zlc_4' : ∀ n : Fin 33, (n : Nat) + zlc 4 32 n ≤ 64 := by decide +kernel
theorem zfrow_len {B : List Int} {chunk : Int} {fan : Nat} (hf : 2 ≤ fan ∧ fan ≤ 4) : (zfrow B chunk fan).length ≤ 64 := by
  have h1 : (zpcs B chunk 32 0).length ≤ 32 := (zpcs_len B chunk 32 0).1
  have h2 : (zfnod B chunk).length = (zpcs B chunk 32 0).length := by unfold zfnod; simp
  unfold zfrow
  rw [List.length_append, List.length_map, zlevs_cnt hf 32 _ (by omega), h2]
  have h3 : fan = 2 ∨ fan = 3 ∨ fan = 4 := by omega
  obtain ⟨n, hn⟩ : ∃ n, n = (zpcs B chunk 32 0).length := ⟨_, rfl⟩
  rw [← hn] at h1 ⊢
  rcases h3 with rfl | rfl | rfl
  · exact zlc_2' ⟨n, by omega⟩
  · exact zlc_3' ⟨n, by omega⟩
  · exact zlc_4' ⟨n, by omega⟩
set_option maxRecDepth 100000 in
set_option maxHeartbeats 4000000 in
theorem c_X11_add {d : Nat} {μ : zM} {B : List Int} {T : List zPp} {Ms : List zMg} {Sm : Nat → zStt} {store chunk fan : Int} (hd : 7 ≤ d) (h : zRN μ B T Ms Sm) (hV : ∀ s, s < 3 → zVS (Sm s)) (hgR : zadK store chunk fan → zgR (zfrow B chunk fan.toNat)) (hs : zrg store) (hch : zrg chunk) (hfn : zrg fan) : zCt d mX11_add [.inr (some 56), .inl store, .inl chunk, .inl fan] μ (fun v μ' => v = some (.inl (zadO B Sm store chunk fan)) ∧ zRN μ' (zcB B (zadO B Sm store chunk fan)) T Ms (zadS B Sm store chunk fan) ∧ zlo μ μ') := by
  have hBl := h.1.2.1
  have hc0 := h.1.1
  unfold zrg at hch hfn
  by_cases hK : zadK store chunk fan
  · have hgr := hgR hK
    obtain ⟨hc, k1, k2⟩ := id hK
    obtain ⟨s, rfl, h3⟩ := zs3 hc
    obtain ⟨fn, rfl⟩ := Int.eq_ofNat_of_zero_le (show 0 ≤ fan by omega)
    rw [Int.toNat_natCast] at hgr
    have hf : 2 ≤ fn ∧ fn ≤ 4 := by omega
    obtain ⟨n1, n2, n3⟩ := zfnod_ok (B := B) k1 hBl
    have hrows := zfrow_len (B := B) (chunk := chunk) hf
    obtain ⟨L, hL⟩ : ∃ L, L = (Sm s).1 := ⟨_, rfl⟩
    have hst := h.2.2.2 s h3
    have hmL : zmL μ s L := by rw [hL]; exact hst.1
    obtain ⟨ad1, ad2, ad3⟩ := zsg_ad (x := Sm s) hrows
    rw [← hL] at ad1 ad2 ad3
    have eO : zadO B Sm s chunk fn = zbiC L (zmk ([], 0) (zfrow B chunk fn)).1 (zmk ([], 0) (zfrow B chunk fn)).2 (zftop B chunk fn) := by unfold zadO zinO; rw [if_pos (zb_t hK), hL]; rfl
    have eS : zadS B Sm s chunk fn = zSu Sm s (zinS (Sm s) (zfrow B chunk fn)) := by unfold zadS; rw [if_pos (zb_t hK)]; rfl
    have htop := zlevs_top (fan := fn) (by omega) 32 (zfnod B chunk) n1 n3 n2
    refine of_X11_add (by omega) (fun G hG => s_X11_add_0 hG ?_)
    -- the levels
    have levels : ∀ (f : Nat) (ns : List zNo) (rs : List (List Int)) (μ2 : zM) (x5 x6 x7 x8 : zV), ns.length ≤ f + 1 → 1 ≤ ns.length → ns.length ≤ 32 → zNO ns → zfrow B chunk fn = rs ++ (zlevs fn f ns).1 → zftop B chunk fn = ((zlevs fn f ns).2.headD (0, 0)).1 → zmN μ2 ns → zmG μ2 (zsgs L ([], 0) rs).1 (zsgs L ([], 0) rs).2 → zF [77, 78, 79, 80, 85, 86] [24, 25, 26] μ μ2 → G 187 [.inr (some 56), .inl (s : Int), .inl chunk, .inl (fn : Int), .inl (ns.length : Int), x5, x6, x7, x8] [] μ2 := by
      intro f
      have fin : ∀ (f : Nat) (ns : List zNo) (rs : List (List Int)) (μ2 : zM) (x5 x6 x7 x8 : zV), ns.length = 1 → zfrow B chunk fn = rs ++ (zlevs fn f ns).1 → zftop B chunk fn = ((zlevs fn f ns).2.headD (0, 0)).1 → zmN μ2 ns → zmG μ2 (zsgs L ([], 0) rs).1 (zsgs L ([], 0) rs).2 → zF [77, 78, 79, 80, 85, 86] [24, 25, 26] μ μ2 → G 187 [.inr (some 56), .inl (s : Int), .inl chunk, .inl (fn : Int), .inl (ns.length : Int), x5, x6, x7, x8] [] μ2 := by
        intro f ns rs μ2 x5 x6 x7 x8 i1 i5 i6 i7 i8 i9
        rw [zlevs_done (by omega)] at i5 i6
        simp only [List.append_nil] at i5
        rw [← i5] at i8
        have e85 : μ2 85 0 = zftop B chunk fn := by
          rcases ns with _ | ⟨p, r⟩
          · simp at i1
          · rw [i6]
            exact (i7.at (i := 0) (p := p) rfl).1
        refine s_X11_add_187 hG ?_
        simp only [b_X11_add_0, b_X11_add_7, b_X11_add_11, b_X11_add_17, b_X11_add_22, b_X11_add_27, b_X11_add_29, b_X11_add_48, b_X11_add_57, b_X11_add_62, b_X11_add_73, b_X11_add_77, b_X11_add_78, b_X11_add_85, b_X11_add_97, b_X11_add_100, b_X11_add_114, b_X11_add_121, b_X11_add_130, b_X11_add_147, b_X11_add_181, b_X11_add_187, b_X11_add_193, b_X11_add_206, b_X11_add_226, b_X11_add_229, o_c, o_il, o_al, o_is, o_as, o_inc, o_add, o_sub, o_mul, o_and, o_or, o_xor, o_shl, o_shr, o_ush, o_rem, o_dup, o_dup2, o_gf, o_pf, o_pz, o_iald, o_iast, o_zald, o_zast, o_aald, o_gs, o_min, o_acp, o_call, o_callv, zgf, zpf, zia_, zza_, zra_, zrd_, zcp_, zpop, zsm8_0, zsm8_1, zsm8_2, zsm8_3, zsm8_4, zsm8_5, zrc, zisob, t_ieq, t_ilt, t_igt, t_zeq, t_zlt, t_zgt, t_sw, zsw, t_iret, t_zret, t_aret, t_vret, zrg, List.getElem?_cons_zero, List.getElem?_cons_succ, List.set_cons_zero, List.set_cons_succ, List.length_cons, List.length_nil, Option.toList_some, Option.toList_none, List.nil_append, List.cons_append, true_and, and_true, true_or, or_true, Int.cast_ofNat_Int, Int.natCast_zero, Int.natCast_one, zsh_56, zsh_57, zsh_58, zsh_59, zsh_60, zsh_61, zsh_62, zsh_63, zsh_64, zsh_65, zsh_66, zsh_67, zsh_68, zsh_69, zsh_70, zsh_71, zsh_72, zsh_73, zsh_74, zsh_75, zsh_76, zsh_77, zsh_78, zsh_79, zsh_80, zsh_81, zsh_82, zsh_83, zsh_84, zsh_85, zsh_86, zsh_87, zup_ne, zup_eq, zup_nf, ne_eq, not_false_eq_true]
        rw [i1, e85]
        have hR2 := h.f i9 (by simp) (by simp)
        have hVx : zadC (Sm s) (zsgs L ([], 0) (zfrow B chunk fn)).1 (zsgs L ([], 0) (zfrow B chunk fn)).2 = 0 → zVS ((Sm s).1 ++ (zsgs L ([], 0) (zfrow B chunk fn)).1, (Sm s).2) := fun _ => by
          rw [ad1, hL]
          exact (hV s h3).take hgr.1 hgr.2
        refine ⟨by omega, by omega, fun w => by omega, fun _ => ⟨by omega, ?_⟩⟩
        refine ⟨_, c_X11_admit (by omega) hR2 h3 i8 hVx, ?_⟩
        rw [ad2, ad3]
        rintro v μ3 ⟨rfl, p1, p2⟩
        simp only [b_X11_add_0, b_X11_add_7, b_X11_add_11, b_X11_add_17, b_X11_add_22, b_X11_add_27, b_X11_add_29, b_X11_add_48, b_X11_add_57, b_X11_add_62, b_X11_add_73, b_X11_add_77, b_X11_add_78, b_X11_add_85, b_X11_add_97, b_X11_add_100, b_X11_add_114, b_X11_add_121, b_X11_add_130, b_X11_add_147, b_X11_add_181, b_X11_add_187, b_X11_add_193, b_X11_add_206, b_X11_add_226, b_X11_add_229, o_c, o_il, o_al, o_is, o_as, o_inc, o_add, o_sub, o_mul, o_and, o_or, o_xor, o_shl, o_shr, o_ush, o_rem, o_dup, o_dup2, o_gf, o_pf, o_pz, o_iald, o_iast, o_zald, o_zast, o_aald, o_gs, o_min, o_acp, o_call, o_callv, zgf, zpf, zia_, zza_, zra_, zrd_, zcp_, zpop, zsm8_0, zsm8_1, zsm8_2, zsm8_3, zsm8_4, zsm8_5, zrc, zisob, t_ieq, t_ilt, t_igt, t_zeq, t_zlt, t_zgt, t_sw, zsw, t_iret, t_zret, t_aret, t_vret, zrg, List.getElem?_cons_zero, List.getElem?_cons_succ, List.set_cons_zero, List.set_cons_succ, List.length_cons, List.length_nil, Option.toList_some, Option.toList_none, List.nil_append, List.cons_append, true_and, and_true, true_or, or_true, Int.cast_ofNat_Int, Int.natCast_zero, Int.natCast_one, zsh_56, zsh_57, zsh_58, zsh_59, zsh_60, zsh_61, zsh_62, zsh_63, zsh_64, zsh_65, zsh_66, zsh_67, zsh_68, zsh_69, zsh_70, zsh_71, zsh_72, zsh_73, zsh_74, zsh_75, zsh_76, zsh_77, zsh_78, zsh_79, zsh_80, zsh_81, zsh_82, zsh_83, zsh_84, zsh_85, zsh_86, zsh_87, zup_ne, zup_eq, zup_nf, ne_eq, not_false_eq_true]
        have hrg := ztkc_rg L (zmk ([], 0) (zfrow B chunk fn)).1 (zmk ([], 0) (zfrow B chunk fn)).2
        have l3 := (i9.lo (by simp)).trans p2
        rw [eO, eS]
        unfold zbiC
        refine ⟨by omega, fun w => ?_, fun w => ?_⟩
        · rw [if_neg (by omega)]
          unfold zcB
          rw [if_neg (by omega)]
          exact ⟨rfl, p1, l3⟩
        · rw [if_pos (by omega)]
          unfold zcB
          have ht0 : 0 ≤ zftop B chunk fn := htop.1
          rw [if_pos ht0]
          exact ⟨rfl, p1.ty.1, l3.trans p1.ty.2⟩
      induction f with
      | zero =>
        intro ns rs μ2 x5 x6 x7 x8 i1 i2 i3 i4 i5 i6 i7 i8 i9
        exact fin 0 ns rs μ2 x5 x6 x7 x8 (by omega) i5 i6 i7 i8 i9
      | succ f ih =>
        intro ns rs μ2 x5 x6 x7 x8 i1 i2 i3 i4 i5 i6 i7 i8 i9
        by_cases hn1 : ns.length ≤ 1
        · exact fin (f + 1) ns rs μ2 x5 x6 x7 x8 (by omega) i5 i6 i7 i8 i9
        · simp only [zlevs] at i5 i6
          rw [if_neg hn1] at i5 i6
          simp only at i5 i6
          obtain ⟨g1, g2, g3⟩ := zgrp_len (fan := fn) hf.1 32 ns
          have g2 := g2 (by omega)
          have g3 := g3 (by omega) (by omega)
          have hlen : rs.length + (zgrp fn 32 ns).length ≤ 64 := by
            have : (zfrow B chunk fn).length = rs.length + ((zgrp fn 32 ns).length + (zlevs fn f ((zgrp fn 32 ns).map ztnode)).1.length) := by rw [i5]; simp
            omega
          have hsl := zsgs_len L rs ([], 0)
          simp only [List.length_nil] at hsl
          refine s_X11_add_187 hG ?_
          simp only [b_X11_add_0, b_X11_add_7, b_X11_add_11, b_X11_add_17, b_X11_add_22, b_X11_add_27, b_X11_add_29, b_X11_add_48, b_X11_add_57, b_X11_add_62, b_X11_add_73, b_X11_add_77, b_X11_add_78, b_X11_add_85, b_X11_add_97, b_X11_add_100, b_X11_add_114, b_X11_add_121, b_X11_add_130, b_X11_add_147, b_X11_add_181, b_X11_add_187, b_X11_add_193, b_X11_add_206, b_X11_add_226, b_X11_add_229, o_c, o_il, o_al, o_is, o_as, o_inc, o_add, o_sub, o_mul, o_and, o_or, o_xor, o_shl, o_shr, o_ush, o_rem, o_dup, o_dup2, o_gf, o_pf, o_pz, o_iald, o_iast, o_zald, o_zast, o_aald, o_gs, o_min, o_acp, o_call, o_callv, zgf, zpf, zia_, zza_, zra_, zrd_, zcp_, zpop, zsm8_0, zsm8_1, zsm8_2, zsm8_3, zsm8_4, zsm8_5, zrc, zisob, t_ieq, t_ilt, t_igt, t_zeq, t_zlt, t_zgt, t_sw, zsw, t_iret, t_zret, t_aret, t_vret, zrg, List.getElem?_cons_zero, List.getElem?_cons_succ, List.set_cons_zero, List.set_cons_succ, List.length_cons, List.length_nil, Option.toList_some, Option.toList_none, List.nil_append, List.cons_append, true_and, and_true, true_or, or_true, Int.cast_ofNat_Int, Int.natCast_zero, Int.natCast_one, zsh_56, zsh_57, zsh_58, zsh_59, zsh_60, zsh_61, zsh_62, zsh_63, zsh_64, zsh_65, zsh_66, zsh_67, zsh_68, zsh_69, zsh_70, zsh_71, zsh_72, zsh_73, zsh_74, zsh_75, zsh_76, zsh_77, zsh_78, zsh_79, zsh_80, zsh_81, zsh_82, zsh_83, zsh_84, zsh_85, zsh_86, zsh_87, zup_ne, zup_eq, zup_nf, ne_eq, not_false_eq_true]
          refine ⟨by omega, by omega, fun _ => ?_, fun w => by omega⟩
          refine ⟨_, c_X11_raise (by omega) (hmL.f i9 (by simp)) h3 hf i7 i4 i3 i8 (by omega), ?_⟩
          rintro v μ3 ⟨rfl, p1, p2, p3⟩
          simp only [b_X11_add_0, b_X11_add_7, b_X11_add_11, b_X11_add_17, b_X11_add_22, b_X11_add_27, b_X11_add_29, b_X11_add_48, b_X11_add_57, b_X11_add_62, b_X11_add_73, b_X11_add_77, b_X11_add_78, b_X11_add_85, b_X11_add_97, b_X11_add_100, b_X11_add_114, b_X11_add_121, b_X11_add_130, b_X11_add_147, b_X11_add_181, b_X11_add_187, b_X11_add_193, b_X11_add_206, b_X11_add_226, b_X11_add_229, o_c, o_il, o_al, o_is, o_as, o_inc, o_add, o_sub, o_mul, o_and, o_or, o_xor, o_shl, o_shr, o_ush, o_rem, o_dup, o_dup2, o_gf, o_pf, o_pz, o_iald, o_iast, o_zald, o_zast, o_aald, o_gs, o_min, o_acp, o_call, o_callv, zgf, zpf, zia_, zza_, zra_, zrd_, zcp_, zpop, zsm8_0, zsm8_1, zsm8_2, zsm8_3, zsm8_4, zsm8_5, zrc, zisob, t_ieq, t_ilt, t_igt, t_zeq, t_zlt, t_zgt, t_sw, zsw, t_iret, t_zret, t_aret, t_vret, zrg, List.getElem?_cons_zero, List.getElem?_cons_succ, List.set_cons_zero, List.set_cons_succ, List.length_cons, List.length_nil, Option.toList_some, Option.toList_none, List.nil_append, List.cons_append, true_and, and_true, true_or, or_true, Int.cast_ofNat_Int, Int.natCast_zero, Int.natCast_one, zsh_56, zsh_57, zsh_58, zsh_59, zsh_60, zsh_61, zsh_62, zsh_63, zsh_64, zsh_65, zsh_66, zsh_67, zsh_68, zsh_69, zsh_70, zsh_71, zsh_72, zsh_73, zsh_74, zsh_75, zsh_76, zsh_77, zsh_78, zsh_79, zsh_80, zsh_81, zsh_82, zsh_83, zsh_84, zsh_85, zsh_86, zsh_87, zup_ne, zup_eq, zup_nf, ne_eq, not_false_eq_true]
          have nx := ih ((zgrp fn 32 ns).map ztnode) (rs ++ (zgrp fn 32 ns).map ztrow) μ3 x5 x6 x7 x8 (by simp; omega) (by simpa using g3) (by simp; omega) (i4.grp hf.1 i3) (by rw [i5]; simp) i6 p1 (by
            have e : zsgs L ([], 0) (rs ++ (zgrp fn 32 ns).map ztrow) = zsgs L ((zsgs L ([], 0) rs).1, (zsgs L ([], 0) rs).2) ((zgrp fn 32 ns).map ztrow) := by simp [zsgs, List.foldl_append]
            rw [e]
            exact p2) (i9.trans p3)
          rw [List.length_map] at nx
          exact nx
    -- the leaves
    obtain ⟨E, hE⟩ : ∃ E, E = max B.length 1 := ⟨_, rfl⟩
    have leaves : ∀ (r i st f : Nat) (ps : List (List Int)) (μ2 : zM) (x7 x8 : zV), i + r = E → ((r = 0 ∧ zpcs B chunk 32 0 = ps) ∨ (1 ≤ r ∧ zpcs B chunk 32 0 = ps ++ zpcs B chunk f st ∧ 1 ≤ f ∧ f + ps.length = 32 ∧ ps.length ≤ st ∧ st ≤ i ∧ (st < B.length ∨ B.length = 0) ∧ (i + 1 ≤ zend B chunk st ∨ B.length = 0))) → zmN μ2 (ps.map (fun p => (zhash (0 :: p), (p.length : Int)))) → zmG μ2 (zsgs L ([], 0) (ps.map (0 :: ·))).1 (zsgs L ([], 0) (ps.map (0 :: ·))).2 → zF [77, 78, 79, 80, 85, 86] [24, 25, 26] μ μ2 → G 48 [.inr (some 56), .inl (s : Int), .inl chunk, .inl (fn : Int), .inl (ps.length : Int), .inl (st : Int), .inl (i : Int), x7, x8] [] μ2 := by
      intro r
      induction r with
      | zero =>
        intro i st f ps μ2 x7 x8 i1 i2 i3 i4 i5
        rcases i2 with ⟨_, i2⟩ | ⟨i2, _⟩
        · have e18 : μ2 56 18 = B.length := by rw [i5.2 18 (by simp)]; exact hc0
          have hps : ps.length = (zfnod B chunk).length := by unfold zfnod; rw [i2]; simp
          refine s_X11_add_48 hG ?_
          simp only [b_X11_add_0, b_X11_add_7, b_X11_add_11, b_X11_add_17, b_X11_add_22, b_X11_add_27, b_X11_add_29, b_X11_add_48, b_X11_add_57, b_X11_add_62, b_X11_add_73, b_X11_add_77, b_X11_add_78, b_X11_add_85, b_X11_add_97, b_X11_add_100, b_X11_add_114, b_X11_add_121, b_X11_add_130, b_X11_add_147, b_X11_add_181, b_X11_add_187, b_X11_add_193, b_X11_add_206, b_X11_add_226, b_X11_add_229, o_c, o_il, o_al, o_is, o_as, o_inc, o_add, o_sub, o_mul, o_and, o_or, o_xor, o_shl, o_shr, o_ush, o_rem, o_dup, o_dup2, o_gf, o_pf, o_pz, o_iald, o_iast, o_zald, o_zast, o_aald, o_gs, o_min, o_acp, o_call, o_callv, zgf, zpf, zia_, zza_, zra_, zrd_, zcp_, zpop, zsm8_0, zsm8_1, zsm8_2, zsm8_3, zsm8_4, zsm8_5, zrc, zisob, t_ieq, t_ilt, t_igt, t_zeq, t_zlt, t_zgt, t_sw, zsw, t_iret, t_zret, t_aret, t_vret, zrg, List.getElem?_cons_zero, List.getElem?_cons_succ, List.set_cons_zero, List.set_cons_succ, List.length_cons, List.length_nil, Option.toList_some, Option.toList_none, List.nil_append, List.cons_append, true_and, and_true, true_or, or_true, Int.cast_ofNat_Int, Int.natCast_zero, Int.natCast_one, zsh_56, zsh_57, zsh_58, zsh_59, zsh_60, zsh_61, zsh_62, zsh_63, zsh_64, zsh_65, zsh_66, zsh_67, zsh_68, zsh_69, zsh_70, zsh_71, zsh_72, zsh_73, zsh_74, zsh_75, zsh_76, zsh_77, zsh_78, zsh_79, zsh_80, zsh_81, zsh_82, zsh_83, zsh_84, zsh_85, zsh_86, zsh_87, zup_ne, zup_eq, zup_nf, ne_eq, not_false_eq_true]
          rw [e18]
          have hif : (i : Int) = 0 → False := by omega
          refine ⟨by omega, by omega, fun w => by omega, fun _ => ⟨by omega, fun w => by omega, fun _ => ?_⟩⟩
          rw [hps]
          refine levels 32 (zfnod B chunk) (ps.map (0 :: ·)) μ2 _ _ _ _ (by omega) n3 n2 n1 ?_ rfl ?_ i4 i5
          · unfold zfrow; rw [i2]
          · unfold zfnod; rw [i2]; exact i3
        · omega
      | succ r ih =>
        intro i st f ps μ2 x7 x8 i1 i2 i3 i4 i5
        rcases i2 with ⟨i2, _⟩ | ⟨_, j1, j2, j3, j4, j5, j6, j7⟩
        · omega
        · have hB2 : zmB μ2 B := h.1.f i5 (by simp) (by simp)
          have e18 : μ2 56 18 = B.length := hB2.1
          obtain ⟨r1, r2, r3, r4⟩ := zend_rg B k1 (show st ≤ B.length by omega)
          obtain ⟨f, rfl⟩ : ∃ f', f = f' + 1 := ⟨f - 1, by omega⟩
          rw [zpcs_succ B chunk f st] at j1
          obtain ⟨pc, hpc⟩ : ∃ pc, pc = zpce B chunk st := ⟨_, rfl⟩
          have hend0 : B.length = 0 → zend B chunk st = 0 ∧ st = 0 ∧ i = 0 := fun q => ⟨by omega, by omega, by omega⟩
          -- a piece ends here
          have cutp : ∀ (y7 y8 : zV), (i + 1 = zend B chunk st ∨ B.length = 0) → ∃ Q, zCt (d - 1) mX11_push [.inr (some 56), .inl 0] (zup μ2 56 24 0) Q ∧ ∀ (v : Option zV) (μ' : zM), Q v μ' → v = none ∧ G 114 [.inr (some 56), .inl (s : Int), .inl chunk, .inl (fn : Int), .inl (ps.length : Int), .inl (st : Int), .inl (i : Int), y7, .inl (st : Int)] [] μ' := by
            intro y7 y8 hend
            refine ⟨_, c_X11_push (B := []) (zmR.nil zup_eq) (by simp) ⟨by omega, by omega⟩, ?_⟩
            rintro v μ' ⟨rfl, p1, p2⟩
            refine ⟨rfl, ?_⟩
            have f0 : zF [77] [24] μ2 (zup μ2 56 24 0) := (zF.refl _ _ _).v (by simp)
            have hle : zend B chunk st ≤ B.length := r2
            have pcl : pc.length = zend B chunk st - st := by rw [hpc]; unfold zpce; simp; omega
            have fill : ∀ (q j : Nat) (μ3 : zM), j + q = zend B chunk st → st ≤ j → zmR μ3 (0 :: (B.take j).drop st) → zF [77] [24] μ2 μ3 → G 114 [.inr (some 56), .inl (s : Int), .inl chunk, .inl (fn : Int), .inl (ps.length : Int), .inl (st : Int), .inl (i : Int), y7, .inl (j : Int)] [] μ3 := by
              intro q
              induction q with
              | zero =>
                intro j μ3 q1 q2 q3 q4
                have ej : j = zend B chunk st := by omega
                have q3 : zmR μ3 (0 :: pc) := by rw [hpc]; unfold zpce; rw [← ej]; exact q3
                have e183 : μ3 56 18 = B.length := by rw [q4.2 18 (by simp)]; exact e18
                -- it is staged
                have stg : G 147 [.inr (some 56), .inl (s : Int), .inl chunk, .inl (fn : Int), .inl (ps.length : Int), .inl (st : Int), .inl (i : Int), y7, .inl (j : Int)] [] μ3 := by
                  have hps32 : ps.length ≤ 31 := by omega
                  have hsl := zsgs_len L (ps.map (0 :: ·)) ([], 0)
                  simp only [List.length_nil, List.length_map] at hsl
                  refine s_X11_add_147 hG ?_
                  simp only [b_X11_add_0, b_X11_add_7, b_X11_add_11, b_X11_add_17, b_X11_add_22, b_X11_add_27, b_X11_add_29, b_X11_add_48, b_X11_add_57, b_X11_add_62, b_X11_add_73, b_X11_add_77, b_X11_add_78, b_X11_add_85, b_X11_add_97, b_X11_add_100, b_X11_add_114, b_X11_add_121, b_X11_add_130, b_X11_add_147, b_X11_add_181, b_X11_add_187, b_X11_add_193, b_X11_add_206, b_X11_add_226, b_X11_add_229, o_c, o_il, o_al, o_is, o_as, o_inc, o_add, o_sub, o_mul, o_and, o_or, o_xor, o_shl, o_shr, o_ush, o_rem, o_dup, o_dup2, o_gf, o_pf, o_pz, o_iald, o_iast, o_zald, o_zast, o_aald, o_gs, o_min, o_acp, o_call, o_callv, zgf, zpf, zia_, zza_, zra_, zrd_, zcp_, zpop, zsm8_0, zsm8_1, zsm8_2, zsm8_3, zsm8_4, zsm8_5, zrc, zisob, t_ieq, t_ilt, t_igt, t_zeq, t_zlt, t_zgt, t_sw, zsw, t_iret, t_zret, t_aret, t_vret, zrg, List.getElem?_cons_zero, List.getElem?_cons_succ, List.set_cons_zero, List.set_cons_succ, List.length_cons, List.length_nil, Option.toList_some, Option.toList_none, List.nil_append, List.cons_append, true_and, and_true, true_or, or_true, Int.cast_ofNat_Int, Int.natCast_zero, Int.natCast_one, zsh_56, zsh_57, zsh_58, zsh_59, zsh_60, zsh_61, zsh_62, zsh_63, zsh_64, zsh_65, zsh_66, zsh_67, zsh_68, zsh_69, zsh_70, zsh_71, zsh_72, zsh_73, zsh_74, zsh_75, zsh_76, zsh_77, zsh_78, zsh_79, zsh_80, zsh_81, zsh_82, zsh_83, zsh_84, zsh_85, zsh_86, zsh_87, zup_ne, zup_eq, zup_nf, ne_eq, not_false_eq_true]
                  refine ⟨_, c_X11_stage (by omega) ((hmL.f i5 (by simp)).f q4 (by simp)) h3 q3 (by simp; omega) (i4.f q4 (by simp) (by simp)) (by omega), ?_⟩
                  rintro v μ4 ⟨rfl, s1, s2⟩
                  simp only [b_X11_add_0, b_X11_add_7, b_X11_add_11, b_X11_add_17, b_X11_add_22, b_X11_add_27, b_X11_add_29, b_X11_add_48, b_X11_add_57, b_X11_add_62, b_X11_add_73, b_X11_add_77, b_X11_add_78, b_X11_add_85, b_X11_add_97, b_X11_add_100, b_X11_add_114, b_X11_add_121, b_X11_add_130, b_X11_add_147, b_X11_add_181, b_X11_add_187, b_X11_add_193, b_X11_add_206, b_X11_add_226, b_X11_add_229, o_c, o_il, o_al, o_is, o_as, o_inc, o_add, o_sub, o_mul, o_and, o_or, o_xor, o_shl, o_shr, o_ush, o_rem, o_dup, o_dup2, o_gf, o_pf, o_pz, o_iald, o_iast, o_zald, o_zast, o_aald, o_gs, o_min, o_acp, o_call, o_callv, zgf, zpf, zia_, zza_, zra_, zrd_, zcp_, zpop, zsm8_0, zsm8_1, zsm8_2, zsm8_3, zsm8_4, zsm8_5, zrc, zisob, t_ieq, t_ilt, t_igt, t_zeq, t_zlt, t_zgt, t_sw, zsw, t_iret, t_zret, t_aret, t_vret, zrg, List.getElem?_cons_zero, List.getElem?_cons_succ, List.set_cons_zero, List.set_cons_succ, List.length_cons, List.length_nil, Option.toList_some, Option.toList_none, List.nil_append, List.cons_append, true_and, and_true, true_or, or_true, Int.cast_ofNat_Int, Int.natCast_zero, Int.natCast_one, zsh_56, zsh_57, zsh_58, zsh_59, zsh_60, zsh_61, zsh_62, zsh_63, zsh_64, zsh_65, zsh_66, zsh_67, zsh_68, zsh_69, zsh_70, zsh_71, zsh_72, zsh_73, zsh_74, zsh_75, zsh_76, zsh_77, zsh_78, zsh_79, zsh_80, zsh_81, zsh_82, zsh_83, zsh_84, zsh_85, zsh_86, zsh_87, zup_ne, zup_eq, zup_nf, ne_eq, not_false_eq_true]
                  have e24 : zup μ4 85 (ps.length : Int) (zhash (0 :: pc)) 56 24 = ((0 :: pc).length : Nat) := by
                    rw [zup_ne 56 (by decide), s2.2 24 (by simp)]; exact q3.1
                  rw [e24]
                  rw [show (((0 :: pc).length : Nat) : Int) - 1 = (pc.length : Int) by simp]
                  refine ⟨by omega, by omega, ?_⟩
                  obtain ⟨μ5, hμ5⟩ : ∃ μ5, μ5 = zup (zup μ4 85 (ps.length : Int) (zhash (0 :: pc))) 86 (ps.length : Int) (pc.length : Int) := ⟨_, rfl⟩
                  rw [← hμ5]
                  have f5 : zF [77, 78, 79, 80, 85, 86] [24, 25, 26] μ2 μ5 := by
                    rw [hμ5]
                    exact (((q4.mono (by simp) (by simp)).trans (s2.mono (by simp) (by simp))).u (by simp) (by decide)).u (by simp) (by decide)
                  have q85 : ∀ x : Int, μ5 85 x = if x = ps.length then zhash (0 :: pc) else μ2 85 x := fun x => by
                    have : μ4 85 = μ2 85 := by rw [s2.1 85 (by simp) (by decide), q4.1 85 (by simp) (by decide)]
                    rw [hμ5, ← this]; simp [zup]
                  have q86 : ∀ x : Int, μ5 86 x = if x = ps.length then (pc.length : Int) else μ2 86 x := fun x => by
                    have : μ4 86 = μ2 86 := by rw [s2.1 86 (by simp) (by decide), q4.1 86 (by simp) (by decide)]
                    rw [hμ5, ← this]; simp [zup]
                  have nx := ih (i + 1) (i + 1) f (ps ++ [pc]) μ5 y7 (.inl (j : Int)) (by omega) ?_ ?_ ?_ (i5.trans f5)
                  · rw [show (((ps ++ [pc]).length : Nat) : Int) = (ps.length : Int) + 1 by simp, show (((i + 1 : Nat) : Int)) = (i : Int) + 1 by omega] at nx
                    exact nx
                  · by_cases hlast : zend B chunk st < B.length
                    · right
                      have hie : i + 1 = zend B chunk st := by omega
                      rw [if_pos hlast, ← hpc, ← hie] at j1
                      have r9 := zend_rg B k1 (show i + 1 ≤ B.length by omega)
                      have r94 := r9.2.2.2 (by omega)
                      exact ⟨by omega, by rw [j1]; simp, by omega, by simp; omega, by simp; omega, Nat.le_refl _, Or.inl (by omega), Or.inl (by omega)⟩
                    · left
                      rw [if_neg hlast, ← hpc] at j1
                      exact ⟨by omega, by rw [j1]⟩
                  · refine ⟨fun x y hy => ?_, fun x y hy => ?_⟩
                    · rw [q85]
                      rcases Nat.lt_trichotomy x ps.length with q | q | q
                      · rw [if_neg (by omega)]
                        refine i3.1 x y ?_
                        simp only [List.map_append, List.map_map] at hy ⊢
                        rw [List.getElem?_append_left (by simpa using q)] at hy
                        exact hy
                      · rw [if_pos (by omega)]
                        subst q
                        simp at hy
                        exact hy
                      · rw [List.getElem?_eq_none (by simp; omega)] at hy
                        cases hy
                    · rw [q86]
                      rcases Nat.lt_trichotomy x ps.length with q | q | q
                      · rw [if_neg (by omega)]
                        refine i3.2 x y ?_
                        simp only [List.map_append, List.map_map] at hy ⊢
                        rw [List.getElem?_append_left (by simpa using q)] at hy
                        exact hy
                      · rw [if_pos (by omega)]
                        subst q
                        simp at hy
                        exact hy
                      · rw [List.getElem?_eq_none (by simp; omega)] at hy
                        cases hy
                  · have s1' : zmG μ4 (zsgs L ([], 0) ((ps ++ [pc]).map (0 :: ·))).1 (zsgs L ([], 0) ((ps ++ [pc]).map (0 :: ·))).2 := by
                      rw [List.map_append, List.map_cons, List.map_nil, zsgs_app]
                      exact s1
                    refine s1'.f (C := [85, 86]) (F := []) ?_ (by simp) (by simp)
                    rw [hμ5]
                    exact ((zF.refl _ _ _).u (by simp) (by decide)).u (by simp) (by decide)
                refine s_X11_add_114 hG ?_
                simp only [b_X11_add_0, b_X11_add_7, b_X11_add_11, b_X11_add_17, b_X11_add_22, b_X11_add_27, b_X11_add_29, b_X11_add_48, b_X11_add_57, b_X11_add_62, b_X11_add_73, b_X11_add_77, b_X11_add_78, b_X11_add_85, b_X11_add_97, b_X11_add_100, b_X11_add_114, b_X11_add_121, b_X11_add_130, b_X11_add_147, b_X11_add_181, b_X11_add_187, b_X11_add_193, b_X11_add_206, b_X11_add_226, b_X11_add_229, o_c, o_il, o_al, o_is, o_as, o_inc, o_add, o_sub, o_mul, o_and, o_or, o_xor, o_shl, o_shr, o_ush, o_rem, o_dup, o_dup2, o_gf, o_pf, o_pz, o_iald, o_iast, o_zald, o_zast, o_aald, o_gs, o_min, o_acp, o_call, o_callv, zgf, zpf, zia_, zza_, zra_, zrd_, zcp_, zpop, zsm8_0, zsm8_1, zsm8_2, zsm8_3, zsm8_4, zsm8_5, zrc, zisob, t_ieq, t_ilt, t_igt, t_zeq, t_zlt, t_zgt, t_sw, zsw, t_iret, t_zret, t_aret, t_vret, zrg, List.getElem?_cons_zero, List.getElem?_cons_succ, List.set_cons_zero, List.set_cons_succ, List.length_cons, List.length_nil, Option.toList_some, Option.toList_none, List.nil_append, List.cons_append, true_and, and_true, true_or, or_true, Int.cast_ofNat_Int, Int.natCast_zero, Int.natCast_one, zsh_56, zsh_57, zsh_58, zsh_59, zsh_60, zsh_61, zsh_62, zsh_63, zsh_64, zsh_65, zsh_66, zsh_67, zsh_68, zsh_69, zsh_70, zsh_71, zsh_72, zsh_73, zsh_74, zsh_75, zsh_76, zsh_77, zsh_78, zsh_79, zsh_80, zsh_81, zsh_82, zsh_83, zsh_84, zsh_85, zsh_86, zsh_87, zup_ne, zup_eq, zup_nf, ne_eq, not_false_eq_true]
                rw [e183]
                exact ⟨by omega, by omega, fun _ => stg, fun w => ⟨by omega, by omega, fun w2 => by omega, fun _ => stg⟩⟩
              | succ q ihq =>
                intro j μ3 q1 q2 q3 q4
                have hj : j < B.length := by omega
                have e183 : μ3 56 18 = B.length := by rw [q4.2 18 (by simp)]; exact e18
                have e74 : μ3 74 j = B[j] := by rw [q4.1 74 (by simp) (by decide)]; exact hB2.2.2.1 j _ (List.getElem?_eq_getElem hj)
                have e9 : (B.take (j + 1)).drop st = (B.take j).drop st ++ [B[j]] := by
                  have : B.take (j + 1) = B.take j ++ [B[j]] := by rw [List.take_succ]; simp [hj]
                  rw [this, List.drop_append_of_le_length (by simp; omega)]
                refine s_X11_add_114 hG ?_
                simp only [b_X11_add_0, b_X11_add_7, b_X11_add_11, b_X11_add_17, b_X11_add_22, b_X11_add_27, b_X11_add_29, b_X11_add_48, b_X11_add_57, b_X11_add_62, b_X11_add_73, b_X11_add_77, b_X11_add_78, b_X11_add_85, b_X11_add_97, b_X11_add_100, b_X11_add_114, b_X11_add_121, b_X11_add_130, b_X11_add_147, b_X11_add_181, b_X11_add_187, b_X11_add_193, b_X11_add_206, b_X11_add_226, b_X11_add_229, o_c, o_il, o_al, o_is, o_as, o_inc, o_add, o_sub, o_mul, o_and, o_or, o_xor, o_shl, o_shr, o_ush, o_rem, o_dup, o_dup2, o_gf, o_pf, o_pz, o_iald, o_iast, o_zald, o_zast, o_aald, o_gs, o_min, o_acp, o_call, o_callv, zgf, zpf, zia_, zza_, zra_, zrd_, zcp_, zpop, zsm8_0, zsm8_1, zsm8_2, zsm8_3, zsm8_4, zsm8_5, zrc, zisob, t_ieq, t_ilt, t_igt, t_zeq, t_zlt, t_zgt, t_sw, zsw, t_iret, t_zret, t_aret, t_vret, zrg, List.getElem?_cons_zero, List.getElem?_cons_succ, List.set_cons_zero, List.set_cons_succ, List.length_cons, List.length_nil, Option.toList_some, Option.toList_none, List.nil_append, List.cons_append, true_and, and_true, true_or, or_true, Int.cast_ofNat_Int, Int.natCast_zero, Int.natCast_one, zsh_56, zsh_57, zsh_58, zsh_59, zsh_60, zsh_61, zsh_62, zsh_63, zsh_64, zsh_65, zsh_66, zsh_67, zsh_68, zsh_69, zsh_70, zsh_71, zsh_72, zsh_73, zsh_74, zsh_75, zsh_76, zsh_77, zsh_78, zsh_79, zsh_80, zsh_81, zsh_82, zsh_83, zsh_84, zsh_85, zsh_86, zsh_87, zup_ne, zup_eq, zup_nf, ne_eq, not_false_eq_true]
                rw [e183, e74]
                refine ⟨by omega, by omega, fun w => by omega, fun _ => ⟨by omega, by omega, fun _ => ⟨by omega, ?_⟩, fun w => by omega⟩⟩
                refine ⟨_, c_X11_push q3 (by simp; omega) (hB2.2.2.2 _ (List.getElem_mem hj)), ?_⟩
                rintro v μ4 ⟨rfl, s1, s2⟩
                simp only [b_X11_add_0, b_X11_add_7, b_X11_add_11, b_X11_add_17, b_X11_add_22, b_X11_add_27, b_X11_add_29, b_X11_add_48, b_X11_add_57, b_X11_add_62, b_X11_add_73, b_X11_add_77, b_X11_add_78, b_X11_add_85, b_X11_add_97, b_X11_add_100, b_X11_add_114, b_X11_add_121, b_X11_add_130, b_X11_add_147, b_X11_add_181, b_X11_add_187, b_X11_add_193, b_X11_add_206, b_X11_add_226, b_X11_add_229, o_c, o_il, o_al, o_is, o_as, o_inc, o_add, o_sub, o_mul, o_and, o_or, o_xor, o_shl, o_shr, o_ush, o_rem, o_dup, o_dup2, o_gf, o_pf, o_pz, o_iald, o_iast, o_zald, o_zast, o_aald, o_gs, o_min, o_acp, o_call, o_callv, zgf, zpf, zia_, zza_, zra_, zrd_, zcp_, zpop, zsm8_0, zsm8_1, zsm8_2, zsm8_3, zsm8_4, zsm8_5, zrc, zisob, t_ieq, t_ilt, t_igt, t_zeq, t_zlt, t_zgt, t_sw, zsw, t_iret, t_zret, t_aret, t_vret, zrg, List.getElem?_cons_zero, List.getElem?_cons_succ, List.set_cons_zero, List.set_cons_succ, List.length_cons, List.length_nil, Option.toList_some, Option.toList_none, List.nil_append, List.cons_append, true_and, and_true, true_or, or_true, Int.cast_ofNat_Int, Int.natCast_zero, Int.natCast_one, zsh_56, zsh_57, zsh_58, zsh_59, zsh_60, zsh_61, zsh_62, zsh_63, zsh_64, zsh_65, zsh_66, zsh_67, zsh_68, zsh_69, zsh_70, zsh_71, zsh_72, zsh_73, zsh_74, zsh_75, zsh_76, zsh_77, zsh_78, zsh_79, zsh_80, zsh_81, zsh_82, zsh_83, zsh_84, zsh_85, zsh_86, zsh_87, zup_ne, zup_eq, zup_nf, ne_eq, not_false_eq_true]
                refine ihq (j + 1) μ4 (by omega) (by omega) ?_ (q4.trans s2)
                rw [e9]
                exact s1
            refine fill (zend B chunk st - st) st μ' (by omega) (Nat.le_refl _) ?_ (f0.trans p2)
            rw [List.drop_of_length_le (by simp; omega)]
            exact p1
          refine s_X11_add_48 hG ?_
          simp only [b_X11_add_0, b_X11_add_7, b_X11_add_11, b_X11_add_17, b_X11_add_22, b_X11_add_27, b_X11_add_29, b_X11_add_48, b_X11_add_57, b_X11_add_62, b_X11_add_73, b_X11_add_77, b_X11_add_78, b_X11_add_85, b_X11_add_97, b_X11_add_100, b_X11_add_114, b_X11_add_121, b_X11_add_130, b_X11_add_147, b_X11_add_181, b_X11_add_187, b_X11_add_193, b_X11_add_206, b_X11_add_226, b_X11_add_229, o_c, o_il, o_al, o_is, o_as, o_inc, o_add, o_sub, o_mul, o_and, o_or, o_xor, o_shl, o_shr, o_ush, o_rem, o_dup, o_dup2, o_gf, o_pf, o_pz, o_iald, o_iast, o_zald, o_zast, o_aald, o_gs, o_min, o_acp, o_call, o_callv, zgf, zpf, zia_, zza_, zra_, zrd_, zcp_, zpop, zsm8_0, zsm8_1, zsm8_2, zsm8_3, zsm8_4, zsm8_5, zrc, zisob, t_ieq, t_ilt, t_igt, t_zeq, t_zlt, t_zgt, t_sw, zsw, t_iret, t_zret, t_aret, t_vret, zrg, List.getElem?_cons_zero, List.getElem?_cons_succ, List.set_cons_zero, List.set_cons_succ, List.length_cons, List.length_nil, Option.toList_some, Option.toList_none, List.nil_append, List.cons_append, true_and, and_true, true_or, or_true, Int.cast_ofNat_Int, Int.natCast_zero, Int.natCast_one, zsh_56, zsh_57, zsh_58, zsh_59, zsh_60, zsh_61, zsh_62, zsh_63, zsh_64, zsh_65, zsh_66, zsh_67, zsh_68, zsh_69, zsh_70, zsh_71, zsh_72, zsh_73, zsh_74, zsh_75, zsh_76, zsh_77, zsh_78, zsh_79, zsh_80, zsh_81, zsh_82, zsh_83, zsh_84, zsh_85, zsh_86, zsh_87, zup_ne, zup_eq, zup_nf, ne_eq, not_false_eq_true]
          rw [e18]
          -- whether it is the last
          have mid : G 78 [.inr (some 56), .inl (s : Int), .inl chunk, .inl (fn : Int), .inl (ps.length : Int), .inl (st : Int), .inl (i : Int), x7, x8] [.inl (if (i : Int) + 1 < B.length then 0 else 1)] μ2 := by
            refine s_X11_add_78 hG ?_
            simp only [b_X11_add_0, b_X11_add_7, b_X11_add_11, b_X11_add_17, b_X11_add_22, b_X11_add_27, b_X11_add_29, b_X11_add_48, b_X11_add_57, b_X11_add_62, b_X11_add_73, b_X11_add_77, b_X11_add_78, b_X11_add_85, b_X11_add_97, b_X11_add_100, b_X11_add_114, b_X11_add_121, b_X11_add_130, b_X11_add_147, b_X11_add_181, b_X11_add_187, b_X11_add_193, b_X11_add_206, b_X11_add_226, b_X11_add_229, o_c, o_il, o_al, o_is, o_as, o_inc, o_add, o_sub, o_mul, o_and, o_or, o_xor, o_shl, o_shr, o_ush, o_rem, o_dup, o_dup2, o_gf, o_pf, o_pz, o_iald, o_iast, o_zald, o_zast, o_aald, o_gs, o_min, o_acp, o_call, o_callv, zgf, zpf, zia_, zza_, zra_, zrd_, zcp_, zpop, zsm8_0, zsm8_1, zsm8_2, zsm8_3, zsm8_4, zsm8_5, zrc, zisob, t_ieq, t_ilt, t_igt, t_zeq, t_zlt, t_zgt, t_sw, zsw, t_iret, t_zret, t_aret, t_vret, zrg, List.getElem?_cons_zero, List.getElem?_cons_succ, List.set_cons_zero, List.set_cons_succ, List.length_cons, List.length_nil, Option.toList_some, Option.toList_none, List.nil_append, List.cons_append, true_and, and_true, true_or, or_true, Int.cast_ofNat_Int, Int.natCast_zero, Int.natCast_one, zsh_56, zsh_57, zsh_58, zsh_59, zsh_60, zsh_61, zsh_62, zsh_63, zsh_64, zsh_65, zsh_66, zsh_67, zsh_68, zsh_69, zsh_70, zsh_71, zsh_72, zsh_73, zsh_74, zsh_75, zsh_76, zsh_77, zsh_78, zsh_79, zsh_80, zsh_81, zsh_82, zsh_83, zsh_84, zsh_85, zsh_86, zsh_87, zup_ne, zup_eq, zup_nf, ne_eq, not_false_eq_true]
            by_cases hl : (i : Int) + 1 < B.length
            · rw [if_pos hl]
              refine ⟨by omega, fun _ => ?_, fun w => absurd rfl w⟩
              have hst9 : st < B.length := by omega
              obtain ⟨z1, z2⟩ := zend_first k1 hst9
              refine zcall (c_X11_cutBehind hB2 (by omega) j5 k1) ?_
              rcases zb_or (zcut B i st chunk) with ⟨t1, t2⟩ | ⟨t1, t2⟩
              · rw [t1]
                simp only [b_X11_add_0, b_X11_add_7, b_X11_add_11, b_X11_add_17, b_X11_add_22, b_X11_add_27, b_X11_add_29, b_X11_add_48, b_X11_add_57, b_X11_add_62, b_X11_add_73, b_X11_add_77, b_X11_add_78, b_X11_add_85, b_X11_add_97, b_X11_add_100, b_X11_add_114, b_X11_add_121, b_X11_add_130, b_X11_add_147, b_X11_add_181, b_X11_add_187, b_X11_add_193, b_X11_add_206, b_X11_add_226, b_X11_add_229, o_c, o_il, o_al, o_is, o_as, o_inc, o_add, o_sub, o_mul, o_and, o_or, o_xor, o_shl, o_shr, o_ush, o_rem, o_dup, o_dup2, o_gf, o_pf, o_pz, o_iald, o_iast, o_zald, o_zast, o_aald, o_gs, o_min, o_acp, o_call, o_callv, zgf, zpf, zia_, zza_, zra_, zrd_, zcp_, zpop, zsm8_0, zsm8_1, zsm8_2, zsm8_3, zsm8_4, zsm8_5, zrc, zisob, t_ieq, t_ilt, t_igt, t_zeq, t_zlt, t_zgt, t_sw, zsw, t_iret, t_zret, t_aret, t_vret, zrg, List.getElem?_cons_zero, List.getElem?_cons_succ, List.set_cons_zero, List.set_cons_succ, List.length_cons, List.length_nil, Option.toList_some, Option.toList_none, List.nil_append, List.cons_append, true_and, and_true, true_or, or_true, Int.cast_ofNat_Int, Int.natCast_zero, Int.natCast_one, zsh_56, zsh_57, zsh_58, zsh_59, zsh_60, zsh_61, zsh_62, zsh_63, zsh_64, zsh_65, zsh_66, zsh_67, zsh_68, zsh_69, zsh_70, zsh_71, zsh_72, zsh_73, zsh_74, zsh_75, zsh_76, zsh_77, zsh_78, zsh_79, zsh_80, zsh_81, zsh_82, zsh_83, zsh_84, zsh_85, zsh_86, zsh_87, zup_ne, zup_eq, zup_nf, ne_eq, not_false_eq_true]
                refine ⟨by omega, fun w => by omega, fun _ => ?_⟩
                have hie : i + 1 = zend B chunk st := by
                  by_cases q : i + 1 < zend B chunk st
                  · exact absurd t2 (z1 i j5 q)
                  · omega
                obtain ⟨Q, y1, y2⟩ := cutp (.inl 0) x8 (Or.inl hie)
                refine ⟨Q, y1, fun v μ' hq => ?_⟩
                obtain ⟨rfl, y3⟩ := y2 v μ' hq
                simp only [b_X11_add_0, b_X11_add_7, b_X11_add_11, b_X11_add_17, b_X11_add_22, b_X11_add_27, b_X11_add_29, b_X11_add_48, b_X11_add_57, b_X11_add_62, b_X11_add_73, b_X11_add_77, b_X11_add_78, b_X11_add_85, b_X11_add_97, b_X11_add_100, b_X11_add_114, b_X11_add_121, b_X11_add_130, b_X11_add_147, b_X11_add_181, b_X11_add_187, b_X11_add_193, b_X11_add_206, b_X11_add_226, b_X11_add_229, o_c, o_il, o_al, o_is, o_as, o_inc, o_add, o_sub, o_mul, o_and, o_or, o_xor, o_shl, o_shr, o_ush, o_rem, o_dup, o_dup2, o_gf, o_pf, o_pz, o_iald, o_iast, o_zald, o_zast, o_aald, o_gs, o_min, o_acp, o_call, o_callv, zgf, zpf, zia_, zza_, zra_, zrd_, zcp_, zpop, zsm8_0, zsm8_1, zsm8_2, zsm8_3, zsm8_4, zsm8_5, zrc, zisob, t_ieq, t_ilt, t_igt, t_zeq, t_zlt, t_zgt, t_sw, zsw, t_iret, t_zret, t_aret, t_vret, zrg, List.getElem?_cons_zero, List.getElem?_cons_succ, List.set_cons_zero, List.set_cons_succ, List.length_cons, List.length_nil, Option.toList_some, Option.toList_none, List.nil_append, List.cons_append, true_and, and_true, true_or, or_true, Int.cast_ofNat_Int, Int.natCast_zero, Int.natCast_one, zsh_56, zsh_57, zsh_58, zsh_59, zsh_60, zsh_61, zsh_62, zsh_63, zsh_64, zsh_65, zsh_66, zsh_67, zsh_68, zsh_69, zsh_70, zsh_71, zsh_72, zsh_73, zsh_74, zsh_75, zsh_76, zsh_77, zsh_78, zsh_79, zsh_80, zsh_81, zsh_82, zsh_83, zsh_84, zsh_85, zsh_86, zsh_87, zup_ne, zup_eq, zup_nf, ne_eq, not_false_eq_true]
                exact y3
              · rw [t1]
                simp only [b_X11_add_0, b_X11_add_7, b_X11_add_11, b_X11_add_17, b_X11_add_22, b_X11_add_27, b_X11_add_29, b_X11_add_48, b_X11_add_57, b_X11_add_62, b_X11_add_73, b_X11_add_77, b_X11_add_78, b_X11_add_85, b_X11_add_97, b_X11_add_100, b_X11_add_114, b_X11_add_121, b_X11_add_130, b_X11_add_147, b_X11_add_181, b_X11_add_187, b_X11_add_193, b_X11_add_206, b_X11_add_226, b_X11_add_229, o_c, o_il, o_al, o_is, o_as, o_inc, o_add, o_sub, o_mul, o_and, o_or, o_xor, o_shl, o_shr, o_ush, o_rem, o_dup, o_dup2, o_gf, o_pf, o_pz, o_iald, o_iast, o_zald, o_zast, o_aald, o_gs, o_min, o_acp, o_call, o_callv, zgf, zpf, zia_, zza_, zra_, zrd_, zcp_, zpop, zsm8_0, zsm8_1, zsm8_2, zsm8_3, zsm8_4, zsm8_5, zrc, zisob, t_ieq, t_ilt, t_igt, t_zeq, t_zlt, t_zgt, t_sw, zsw, t_iret, t_zret, t_aret, t_vret, zrg, List.getElem?_cons_zero, List.getElem?_cons_succ, List.set_cons_zero, List.set_cons_succ, List.length_cons, List.length_nil, Option.toList_some, Option.toList_none, List.nil_append, List.cons_append, true_and, and_true, true_or, or_true, Int.cast_ofNat_Int, Int.natCast_zero, Int.natCast_one, zsh_56, zsh_57, zsh_58, zsh_59, zsh_60, zsh_61, zsh_62, zsh_63, zsh_64, zsh_65, zsh_66, zsh_67, zsh_68, zsh_69, zsh_70, zsh_71, zsh_72, zsh_73, zsh_74, zsh_75, zsh_76, zsh_77, zsh_78, zsh_79, zsh_80, zsh_81, zsh_82, zsh_83, zsh_84, zsh_85, zsh_86, zsh_87, zup_ne, zup_eq, zup_nf, ne_eq, not_false_eq_true]
                refine ⟨by omega, fun _ => ?_, fun w => absurd trivial w⟩
                have hie : i + 1 < zend B chunk st := by
                  by_cases q : i + 1 = zend B chunk st
                  · rcases z2 with z2 | z2
                    · omega
                    · rw [← q] at z2; simp only [Nat.add_sub_cancel] at z2; exact absurd z2 t2
                  · omega
                refine ih (i + 1) st (f + 1) ps μ2 _ _ (by omega) (Or.inr ⟨by omega, ?_, by omega, by omega, j4, by omega, Or.inl hst9, Or.inl (by omega)⟩) i3 i4 i5
                rw [zpcs_succ B chunk f st]
                exact j1
            · rw [if_neg hl]
              refine ⟨by omega, fun w => by omega, fun _ => ?_⟩
              obtain ⟨Q, y1, y2⟩ := cutp (.inl 1) x8 (by omega)
              refine ⟨Q, y1, fun v μ' hq => ?_⟩
              obtain ⟨rfl, y3⟩ := y2 v μ' hq
              simp only [b_X11_add_0, b_X11_add_7, b_X11_add_11, b_X11_add_17, b_X11_add_22, b_X11_add_27, b_X11_add_29, b_X11_add_48, b_X11_add_57, b_X11_add_62, b_X11_add_73, b_X11_add_77, b_X11_add_78, b_X11_add_85, b_X11_add_97, b_X11_add_100, b_X11_add_114, b_X11_add_121, b_X11_add_130, b_X11_add_147, b_X11_add_181, b_X11_add_187, b_X11_add_193, b_X11_add_206, b_X11_add_226, b_X11_add_229, o_c, o_il, o_al, o_is, o_as, o_inc, o_add, o_sub, o_mul, o_and, o_or, o_xor, o_shl, o_shr, o_ush, o_rem, o_dup, o_dup2, o_gf, o_pf, o_pz, o_iald, o_iast, o_zald, o_zast, o_aald, o_gs, o_min, o_acp, o_call, o_callv, zgf, zpf, zia_, zza_, zra_, zrd_, zcp_, zpop, zsm8_0, zsm8_1, zsm8_2, zsm8_3, zsm8_4, zsm8_5, zrc, zisob, t_ieq, t_ilt, t_igt, t_zeq, t_zlt, t_zgt, t_sw, zsw, t_iret, t_zret, t_aret, t_vret, zrg, List.getElem?_cons_zero, List.getElem?_cons_succ, List.set_cons_zero, List.set_cons_succ, List.length_cons, List.length_nil, Option.toList_some, Option.toList_none, List.nil_append, List.cons_append, true_and, and_true, true_or, or_true, Int.cast_ofNat_Int, Int.natCast_zero, Int.natCast_one, zsh_56, zsh_57, zsh_58, zsh_59, zsh_60, zsh_61, zsh_62, zsh_63, zsh_64, zsh_65, zsh_66, zsh_67, zsh_68, zsh_69, zsh_70, zsh_71, zsh_72, zsh_73, zsh_74, zsh_75, zsh_76, zsh_77, zsh_78, zsh_79, zsh_80, zsh_81, zsh_82, zsh_83, zsh_84, zsh_85, zsh_86, zsh_87, zup_ne, zup_eq, zup_nf, ne_eq, not_false_eq_true]
              exact y3
          have mid2 : (((i : Int) + 1 < B.length) → G 78 [.inr (some 56), .inl (s : Int), .inl chunk, .inl (fn : Int), .inl (ps.length : Int), .inl (st : Int), .inl (i : Int), x7, x8] [.inl 0] μ2) ∧ (((B.length : Int) ≤ (i : Int) + 1) → G 78 [.inr (some 56), .inl (s : Int), .inl chunk, .inl (fn : Int), .inl (ps.length : Int), .inl (st : Int), .inl (i : Int), x7, x8] [.inl 1] μ2) := by
            constructor
            · intro w; rw [if_pos w] at mid; exact mid
            · intro w; rw [if_neg (by omega)] at mid; exact mid
          exact ⟨by omega, by omega, fun _ => ⟨by omega, by omega, mid2.1, mid2.2⟩, fun w => ⟨by omega, fun _ => ⟨by omega, by omega, mid2.1, mid2.2⟩, fun w2 => by omega⟩⟩
    simp only [b_X11_add_0, b_X11_add_7, b_X11_add_11, b_X11_add_17, b_X11_add_22, b_X11_add_27, b_X11_add_29, b_X11_add_48, b_X11_add_57, b_X11_add_62, b_X11_add_73, b_X11_add_77, b_X11_add_78, b_X11_add_85, b_X11_add_97, b_X11_add_100, b_X11_add_114, b_X11_add_121, b_X11_add_130, b_X11_add_147, b_X11_add_181, b_X11_add_187, b_X11_add_193, b_X11_add_206, b_X11_add_226, b_X11_add_229, o_c, o_il, o_al, o_is, o_as, o_inc, o_add, o_sub, o_mul, o_and, o_or, o_xor, o_shl, o_shr, o_ush, o_rem, o_dup, o_dup2, o_gf, o_pf, o_pz, o_iald, o_iast, o_zald, o_zast, o_aald, o_gs, o_min, o_acp, o_call, o_callv, zgf, zpf, zia_, zza_, zra_, zrd_, zcp_, zpop, zsm8_0, zsm8_1, zsm8_2, zsm8_3, zsm8_4, zsm8_5, zrc, zisob, t_ieq, t_ilt, t_igt, t_zeq, t_zlt, t_zgt, t_sw, zsw, t_iret, t_zret, t_aret, t_vret, zrg, List.getElem?_cons_zero, List.getElem?_cons_succ, List.set_cons_zero, List.set_cons_succ, List.length_cons, List.length_nil, Option.toList_some, Option.toList_none, List.nil_append, List.cons_append, true_and, and_true, true_or, or_true, Int.cast_ofNat_Int, Int.natCast_zero, Int.natCast_one, zsh_56, zsh_57, zsh_58, zsh_59, zsh_60, zsh_61, zsh_62, zsh_63, zsh_64, zsh_65, zsh_66, zsh_67, zsh_68, zsh_69, zsh_70, zsh_71, zsh_72, zsh_73, zsh_74, zsh_75, zsh_76, zsh_77, zsh_78, zsh_79, zsh_80, zsh_81, zsh_82, zsh_83, zsh_84, zsh_85, zsh_86, zsh_87, zup_ne, zup_eq, zup_nf, ne_eq, not_false_eq_true]
    refine zcall (c_X11_isStore hs) ?_
    rw [zb_t hc]
    simp only [b_X11_add_0, b_X11_add_7, b_X11_add_11, b_X11_add_17, b_X11_add_22, b_X11_add_27, b_X11_add_29, b_X11_add_48, b_X11_add_57, b_X11_add_62, b_X11_add_73, b_X11_add_77, b_X11_add_78, b_X11_add_85, b_X11_add_97, b_X11_add_100, b_X11_add_114, b_X11_add_121, b_X11_add_130, b_X11_add_147, b_X11_add_181, b_X11_add_187, b_X11_add_193, b_X11_add_206, b_X11_add_226, b_X11_add_229, o_c, o_il, o_al, o_is, o_as, o_inc, o_add, o_sub, o_mul, o_and, o_or, o_xor, o_shl, o_shr, o_ush, o_rem, o_dup, o_dup2, o_gf, o_pf, o_pz, o_iald, o_iast, o_zald, o_zast, o_aald, o_gs, o_min, o_acp, o_call, o_callv, zgf, zpf, zia_, zza_, zra_, zrd_, zcp_, zpop, zsm8_0, zsm8_1, zsm8_2, zsm8_3, zsm8_4, zsm8_5, zrc, zisob, t_ieq, t_ilt, t_igt, t_zeq, t_zlt, t_zgt, t_sw, zsw, t_iret, t_zret, t_aret, t_vret, zrg, List.getElem?_cons_zero, List.getElem?_cons_succ, List.set_cons_zero, List.set_cons_succ, List.length_cons, List.length_nil, Option.toList_some, Option.toList_none, List.nil_append, List.cons_append, true_and, and_true, true_or, or_true, Int.cast_ofNat_Int, Int.natCast_zero, Int.natCast_one, zsh_56, zsh_57, zsh_58, zsh_59, zsh_60, zsh_61, zsh_62, zsh_63, zsh_64, zsh_65, zsh_66, zsh_67, zsh_68, zsh_69, zsh_70, zsh_71, zsh_72, zsh_73, zsh_74, zsh_75, zsh_76, zsh_77, zsh_78, zsh_79, zsh_80, zsh_81, zsh_82, zsh_83, zsh_84, zsh_85, zsh_86, zsh_87, zup_ne, zup_eq, zup_nf, ne_eq, not_false_eq_true]
    refine ⟨by omega, fun w => by omega, fun _ => ⟨by omega, fun w => by omega, fun _ => ⟨by omega, by omega, fun w => by omega, fun _ => ⟨by omega, by omega, fun w => by omega, fun _ => ⟨by omega, by omega, fun w => by omega, fun _ => ?_⟩⟩⟩⟩⟩
    have f0 : zF [77, 78, 79, 80, 85, 86] [24, 25, 26] μ (zup (zup μ 56 25 0) 56 26 0) := ((zF.refl _ _ _).v (by simp)).v (by simp)
    have r9 := zend_rg B k1 (show 0 ≤ B.length by omega)
    refine leaves E 0 0 32 [] _ _ _ (by omega) (Or.inr ⟨by omega, by simp, by omega, by simp, by simp, by omega, by omega, ?_⟩) ⟨fun j x hj => by simp at hj, fun j x hj => by simp at hj⟩ ⟨by rw [zup_nf (by decide), zup_eq]; rfl, by simp [zsgs], zup_eq, Or.inl rfl, by simp [zsgs], fun i b hb => by simp [zsgs] at hb⟩ f0
    by_cases q : B.length = 0
    · exact Or.inr q
    · exact Or.inl (by have := r9.2.2.2 (by omega); omega)
  · have e1 : zadO B Sm store chunk fan = -1 := by unfold zadO; rw [if_neg (by rw [zb_f hK]; decide)]
    have e2 : zadS B Sm store chunk fan = Sm := by unfold zadS; rw [if_neg (by rw [zb_f hK]; decide)]
    rw [e1, e2]
    unfold zadK at hK
    refine of_X11_add (by omega) (fun G hG => s_X11_add_0 hG ?_)
    simp only [b_X11_add_0, b_X11_add_7, b_X11_add_11, b_X11_add_17, b_X11_add_22, b_X11_add_27, b_X11_add_29, b_X11_add_48, b_X11_add_57, b_X11_add_62, b_X11_add_73, b_X11_add_77, b_X11_add_78, b_X11_add_85, b_X11_add_97, b_X11_add_100, b_X11_add_114, b_X11_add_121, b_X11_add_130, b_X11_add_147, b_X11_add_181, b_X11_add_187, b_X11_add_193, b_X11_add_206, b_X11_add_226, b_X11_add_229, o_c, o_il, o_al, o_is, o_as, o_inc, o_add, o_sub, o_mul, o_and, o_or, o_xor, o_shl, o_shr, o_ush, o_rem, o_dup, o_dup2, o_gf, o_pf, o_pz, o_iald, o_iast, o_zald, o_zast, o_aald, o_gs, o_min, o_acp, o_call, o_callv, zgf, zpf, zia_, zza_, zra_, zrd_, zcp_, zpop, zsm8_0, zsm8_1, zsm8_2, zsm8_3, zsm8_4, zsm8_5, zrc, zisob, t_ieq, t_ilt, t_igt, t_zeq, t_zlt, t_zgt, t_sw, zsw, t_iret, t_zret, t_aret, t_vret, zrg, List.getElem?_cons_zero, List.getElem?_cons_succ, List.set_cons_zero, List.set_cons_succ, List.length_cons, List.length_nil, Option.toList_some, Option.toList_none, List.nil_append, List.cons_append, true_and, and_true, true_or, or_true, Int.cast_ofNat_Int, Int.natCast_zero, Int.natCast_one, zsh_56, zsh_57, zsh_58, zsh_59, zsh_60, zsh_61, zsh_62, zsh_63, zsh_64, zsh_65, zsh_66, zsh_67, zsh_68, zsh_69, zsh_70, zsh_71, zsh_72, zsh_73, zsh_74, zsh_75, zsh_76, zsh_77, zsh_78, zsh_79, zsh_80, zsh_81, zsh_82, zsh_83, zsh_84, zsh_85, zsh_86, zsh_87, zup_ne, zup_eq, zup_nf, ne_eq, not_false_eq_true]
    refine zcall (c_X11_isStore hs) ?_
    have R : zRN μ (zcB B (-1)) T Ms Sm ∧ zlo μ μ := ⟨h, zlo.refl _⟩
    rcases zb_or (0 ≤ store ∧ store ≤ 2) with ⟨q1, q2⟩ | ⟨q1, q2⟩
    · rw [q1]
      simp only [b_X11_add_0, b_X11_add_7, b_X11_add_11, b_X11_add_17, b_X11_add_22, b_X11_add_27, b_X11_add_29, b_X11_add_48, b_X11_add_57, b_X11_add_62, b_X11_add_73, b_X11_add_77, b_X11_add_78, b_X11_add_85, b_X11_add_97, b_X11_add_100, b_X11_add_114, b_X11_add_121, b_X11_add_130, b_X11_add_147, b_X11_add_181, b_X11_add_187, b_X11_add_193, b_X11_add_206, b_X11_add_226, b_X11_add_229, o_c, o_il, o_al, o_is, o_as, o_inc, o_add, o_sub, o_mul, o_and, o_or, o_xor, o_shl, o_shr, o_ush, o_rem, o_dup, o_dup2, o_gf, o_pf, o_pz, o_iald, o_iast, o_zald, o_zast, o_aald, o_gs, o_min, o_acp, o_call, o_callv, zgf, zpf, zia_, zza_, zra_, zrd_, zcp_, zpop, zsm8_0, zsm8_1, zsm8_2, zsm8_3, zsm8_4, zsm8_5, zrc, zisob, t_ieq, t_ilt, t_igt, t_zeq, t_zlt, t_zgt, t_sw, zsw, t_iret, t_zret, t_aret, t_vret, zrg, List.getElem?_cons_zero, List.getElem?_cons_succ, List.set_cons_zero, List.set_cons_succ, List.length_cons, List.length_nil, Option.toList_some, Option.toList_none, List.nil_append, List.cons_append, true_and, and_true, true_or, or_true, Int.cast_ofNat_Int, Int.natCast_zero, Int.natCast_one, zsh_56, zsh_57, zsh_58, zsh_59, zsh_60, zsh_61, zsh_62, zsh_63, zsh_64, zsh_65, zsh_66, zsh_67, zsh_68, zsh_69, zsh_70, zsh_71, zsh_72, zsh_73, zsh_74, zsh_75, zsh_76, zsh_77, zsh_78, zsh_79, zsh_80, zsh_81, zsh_82, zsh_83, zsh_84, zsh_85, zsh_86, zsh_87, zup_ne, zup_eq, zup_nf, ne_eq, not_false_eq_true]
      refine ⟨by omega, fun w => by omega, fun _ => ⟨by omega, fun w => R, fun _ => ⟨by omega, by omega, fun w => R, fun _ => ⟨by omega, by omega, fun w => R, fun _ => ⟨by omega, by omega, fun w => R, fun _ => ?_⟩⟩⟩⟩⟩
      exfalso
      apply hK
      omega
    · rw [q1]
      simp only [b_X11_add_0, b_X11_add_7, b_X11_add_11, b_X11_add_17, b_X11_add_22, b_X11_add_27, b_X11_add_29, b_X11_add_48, b_X11_add_57, b_X11_add_62, b_X11_add_73, b_X11_add_77, b_X11_add_78, b_X11_add_85, b_X11_add_97, b_X11_add_100, b_X11_add_114, b_X11_add_121, b_X11_add_130, b_X11_add_147, b_X11_add_181, b_X11_add_187, b_X11_add_193, b_X11_add_206, b_X11_add_226, b_X11_add_229, o_c, o_il, o_al, o_is, o_as, o_inc, o_add, o_sub, o_mul, o_and, o_or, o_xor, o_shl, o_shr, o_ush, o_rem, o_dup, o_dup2, o_gf, o_pf, o_pz, o_iald, o_iast, o_zald, o_zast, o_aald, o_gs, o_min, o_acp, o_call, o_callv, zgf, zpf, zia_, zza_, zra_, zrd_, zcp_, zpop, zsm8_0, zsm8_1, zsm8_2, zsm8_3, zsm8_4, zsm8_5, zrc, zisob, t_ieq, t_ilt, t_igt, t_zeq, t_zlt, t_zgt, t_sw, zsw, t_iret, t_zret, t_aret, t_vret, zrg, List.getElem?_cons_zero, List.getElem?_cons_succ, List.set_cons_zero, List.set_cons_succ, List.length_cons, List.length_nil, Option.toList_some, Option.toList_none, List.nil_append, List.cons_append, true_and, and_true, true_or, or_true, Int.cast_ofNat_Int, Int.natCast_zero, Int.natCast_one, zsh_56, zsh_57, zsh_58, zsh_59, zsh_60, zsh_61, zsh_62, zsh_63, zsh_64, zsh_65, zsh_66, zsh_67, zsh_68, zsh_69, zsh_70, zsh_71, zsh_72, zsh_73, zsh_74, zsh_75, zsh_76, zsh_77, zsh_78, zsh_79, zsh_80, zsh_81, zsh_82, zsh_83, zsh_84, zsh_85, zsh_86, zsh_87, zup_ne, zup_eq, zup_nf, ne_eq, not_false_eq_true]
      exact ⟨by omega, fun _ => R, fun w => absurd trivial w⟩
