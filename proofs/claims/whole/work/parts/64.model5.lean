/-! THE REFERENCE: titles found -/
set_option maxRecDepth 100000 in
set_option maxHeartbeats 4000000 in
theorem c_X11_inFolder {d : Nat} {μ : zM} {k t : Int} {bs : List Int} (hd : 2 ≤ d) (h : zAt μ k bs) (hB : zisB (some bs)) (h2 : zknd (some bs) = 2) (ht : zrg t) : zCt d mX11_inFolder [.inr (some 56), .inl k, .inl t] μ (zR (.inl (zlot (some bs) t)) μ) := by
  unfold zrg at ht
  have hk := h.1
  have h18 := h.2.2.1
  have hsh := hB.sh
  obtain ⟨n, hn1⟩ : ∃ n : Nat, zp_byte (some bs) 1 = n := ⟨(zp_byte (some bs) 1).toNat, by omega⟩
  have hcnt : zcnt (some bs) = n := by omega
  have hlen : (bs.length : Int) = 2 + 3 * n := by omega
  have hn4 : n ≤ 4 := by omega
  refine of_X11_inFolder (by omega) (fun G hG => s_X11_inFolder_0 hG ?_)
  have loop : ∀ (r j F : Nat), j + r = n → r < F → zlot (some bs) t = zlof (some bs) t F j → G 2 [.inr (some 56), .inl k, .inl t, .inl (j : Int)] [] μ := by
    intro r
    induction r with
    | zero =>
      intro j F k1 k2 k3
      obtain ⟨F, rfl⟩ : ∃ F', F = F' + 1 := ⟨F - 1, by omega⟩
      simp only [zlof] at k3
      rw [if_neg (by omega)] at k3
      refine s_X11_inFolder_2 hG ?_
      simp only [b_X11_inFolder_0, b_X11_inFolder_2, b_X11_inFolder_12, b_X11_inFolder_26, b_X11_inFolder_37, b_X11_inFolder_43, o_c, o_il, o_al, o_is, o_as, o_inc, o_add, o_sub, o_mul, o_and, o_or, o_xor, o_shl, o_shr, o_ush, o_rem, o_dup, o_dup2, o_gf, o_pf, o_pz, o_iald, o_iast, o_zald, o_zast, o_aald, o_gs, o_min, o_acp, o_call, o_callv, zgf, zpf, zia_, zza_, zra_, zrd_, zcp_, zpop, zsm8_0, zsm8_1, zsm8_2, zsm8_3, zsm8_4, zsm8_5, zrc, zisob, t_ieq, t_ilt, t_igt, t_zeq, t_zlt, t_zgt, t_sw, zsw, t_iret, t_zret, t_aret, t_vret, zrg, List.getElem?_cons_zero, List.getElem?_cons_succ, List.set_cons_zero, List.set_cons_succ, List.length_cons, List.length_nil, Option.toList_some, Option.toList_none, List.nil_append, List.cons_append, true_and, and_true, true_or, or_true, Int.cast_ofNat_Int, Int.natCast_zero, Int.natCast_one, zsh_56, zsh_57, zsh_58, zsh_59, zsh_60, zsh_61, zsh_62, zsh_63, zsh_64, zsh_65, zsh_66, zsh_67, zsh_68, zsh_69, zsh_70, zsh_71, zsh_72, zsh_73, zsh_74, zsh_75, zsh_76, zsh_77, zsh_78, zsh_79, zsh_80, zsh_81, zsh_82, zsh_83, zsh_84, zsh_85, zsh_86, zsh_87, zup_ne, zup_eq, zup_nf, ne_eq, not_false_eq_true]
      refine zcall (c_X11_cell h (i := 1) (by omega) (by omega)) ?_
      simp only [b_X11_inFolder_0, b_X11_inFolder_2, b_X11_inFolder_12, b_X11_inFolder_26, b_X11_inFolder_37, b_X11_inFolder_43, o_c, o_il, o_al, o_is, o_as, o_inc, o_add, o_sub, o_mul, o_and, o_or, o_xor, o_shl, o_shr, o_ush, o_rem, o_dup, o_dup2, o_gf, o_pf, o_pz, o_iald, o_iast, o_zald, o_zast, o_aald, o_gs, o_min, o_acp, o_call, o_callv, zgf, zpf, zia_, zza_, zra_, zrd_, zcp_, zpop, zsm8_0, zsm8_1, zsm8_2, zsm8_3, zsm8_4, zsm8_5, zrc, zisob, t_ieq, t_ilt, t_igt, t_zeq, t_zlt, t_zgt, t_sw, zsw, t_iret, t_zret, t_aret, t_vret, zrg, List.getElem?_cons_zero, List.getElem?_cons_succ, List.set_cons_zero, List.set_cons_succ, List.length_cons, List.length_nil, Option.toList_some, Option.toList_none, List.nil_append, List.cons_append, true_and, and_true, true_or, or_true, Int.cast_ofNat_Int, Int.natCast_zero, Int.natCast_one, zsh_56, zsh_57, zsh_58, zsh_59, zsh_60, zsh_61, zsh_62, zsh_63, zsh_64, zsh_65, zsh_66, zsh_67, zsh_68, zsh_69, zsh_70, zsh_71, zsh_72, zsh_73, zsh_74, zsh_75, zsh_76, zsh_77, zsh_78, zsh_79, zsh_80, zsh_81, zsh_82, zsh_83, zsh_84, zsh_85, zsh_86, zsh_87, zup_ne, zup_eq, zup_nf, ne_eq, not_false_eq_true]
      rw [k3, hn1]
      exact ⟨by omega, by omega, fun w => by omega, fun _ => ⟨rfl, rfl⟩⟩
    | succ r ih =>
      intro j F k1 k2 k3
      obtain ⟨F, rfl⟩ : ∃ F', F = F' + 1 := ⟨F - 1, by omega⟩
      simp only [zlof] at k3
      rw [if_pos (by omega)] at k3
      refine s_X11_inFolder_2 hG ?_
      simp only [b_X11_inFolder_0, b_X11_inFolder_2, b_X11_inFolder_12, b_X11_inFolder_26, b_X11_inFolder_37, b_X11_inFolder_43, o_c, o_il, o_al, o_is, o_as, o_inc, o_add, o_sub, o_mul, o_and, o_or, o_xor, o_shl, o_shr, o_ush, o_rem, o_dup, o_dup2, o_gf, o_pf, o_pz, o_iald, o_iast, o_zald, o_zast, o_aald, o_gs, o_min, o_acp, o_call, o_callv, zgf, zpf, zia_, zza_, zra_, zrd_, zcp_, zpop, zsm8_0, zsm8_1, zsm8_2, zsm8_3, zsm8_4, zsm8_5, zrc, zisob, t_ieq, t_ilt, t_igt, t_zeq, t_zlt, t_zgt, t_sw, zsw, t_iret, t_zret, t_aret, t_vret, zrg, List.getElem?_cons_zero, List.getElem?_cons_succ, List.set_cons_zero, List.set_cons_succ, List.length_cons, List.length_nil, Option.toList_some, Option.toList_none, List.nil_append, List.cons_append, true_and, and_true, true_or, or_true, Int.cast_ofNat_Int, Int.natCast_zero, Int.natCast_one, zsh_56, zsh_57, zsh_58, zsh_59, zsh_60, zsh_61, zsh_62, zsh_63, zsh_64, zsh_65, zsh_66, zsh_67, zsh_68, zsh_69, zsh_70, zsh_71, zsh_72, zsh_73, zsh_74, zsh_75, zsh_76, zsh_77, zsh_78, zsh_79, zsh_80, zsh_81, zsh_82, zsh_83, zsh_84, zsh_85, zsh_86, zsh_87, zup_ne, zup_eq, zup_nf, ne_eq, not_false_eq_true]
      refine zcall (c_X11_cell h (i := 1) (by omega) (by omega)) ?_
      simp only [b_X11_inFolder_0, b_X11_inFolder_2, b_X11_inFolder_12, b_X11_inFolder_26, b_X11_inFolder_37, b_X11_inFolder_43, o_c, o_il, o_al, o_is, o_as, o_inc, o_add, o_sub, o_mul, o_and, o_or, o_xor, o_shl, o_shr, o_ush, o_rem, o_dup, o_dup2, o_gf, o_pf, o_pz, o_iald, o_iast, o_zald, o_zast, o_aald, o_gs, o_min, o_acp, o_call, o_callv, zgf, zpf, zia_, zza_, zra_, zrd_, zcp_, zpop, zsm8_0, zsm8_1, zsm8_2, zsm8_3, zsm8_4, zsm8_5, zrc, zisob, t_ieq, t_ilt, t_igt, t_zeq, t_zlt, t_zgt, t_sw, zsw, t_iret, t_zret, t_aret, t_vret, zrg, List.getElem?_cons_zero, List.getElem?_cons_succ, List.set_cons_zero, List.set_cons_succ, List.length_cons, List.length_nil, Option.toList_some, Option.toList_none, List.nil_append, List.cons_append, true_and, and_true, true_or, or_true, Int.cast_ofNat_Int, Int.natCast_zero, Int.natCast_one, zsh_56, zsh_57, zsh_58, zsh_59, zsh_60, zsh_61, zsh_62, zsh_63, zsh_64, zsh_65, zsh_66, zsh_67, zsh_68, zsh_69, zsh_70, zsh_71, zsh_72, zsh_73, zsh_74, zsh_75, zsh_76, zsh_77, zsh_78, zsh_79, zsh_80, zsh_81, zsh_82, zsh_83, zsh_84, zsh_85, zsh_86, zsh_87, zup_ne, zup_eq, zup_nf, ne_eq, not_false_eq_true]
      rw [hn1]
      have e8 : zptt (some bs) j = zp_byte (some bs) (2 + 3 * j) := by unfold zptt; congr 1; omega
      have e9 : zlnk (some bs) j = zp_pair (some bs) (3 + 3 * j) := by
        unfold zlnk
        rw [h2, if_pos (by omega)]
        congr 1
        simp only [zpw]; simp; omega
      have a1 := h.at (i := 2 + 3 * j) (by omega) (by omega)
      refine ⟨by omega, by omega, fun _ => ?_, fun w => by omega⟩
      refine zcall (c_X11_cell h (i := 2 + 3 * j) (by omega) (by omega)) ?_
      simp only [b_X11_inFolder_0, b_X11_inFolder_2, b_X11_inFolder_12, b_X11_inFolder_26, b_X11_inFolder_37, b_X11_inFolder_43, o_c, o_il, o_al, o_is, o_as, o_inc, o_add, o_sub, o_mul, o_and, o_or, o_xor, o_shl, o_shr, o_ush, o_rem, o_dup, o_dup2, o_gf, o_pf, o_pz, o_iald, o_iast, o_zald, o_zast, o_aald, o_gs, o_min, o_acp, o_call, o_callv, zgf, zpf, zia_, zza_, zra_, zrd_, zcp_, zpop, zsm8_0, zsm8_1, zsm8_2, zsm8_3, zsm8_4, zsm8_5, zrc, zisob, t_ieq, t_ilt, t_igt, t_zeq, t_zlt, t_zgt, t_sw, zsw, t_iret, t_zret, t_aret, t_vret, zrg, List.getElem?_cons_zero, List.getElem?_cons_succ, List.set_cons_zero, List.set_cons_succ, List.length_cons, List.length_nil, Option.toList_some, Option.toList_none, List.nil_append, List.cons_append, true_and, and_true, true_or, or_true, Int.cast_ofNat_Int, Int.natCast_zero, Int.natCast_one, zsh_56, zsh_57, zsh_58, zsh_59, zsh_60, zsh_61, zsh_62, zsh_63, zsh_64, zsh_65, zsh_66, zsh_67, zsh_68, zsh_69, zsh_70, zsh_71, zsh_72, zsh_73, zsh_74, zsh_75, zsh_76, zsh_77, zsh_78, zsh_79, zsh_80, zsh_81, zsh_82, zsh_83, zsh_84, zsh_85, zsh_86, zsh_87, zup_ne, zup_eq, zup_nf, ne_eq, not_false_eq_true]
      refine ⟨by omega, by omega, fun w => ?_, fun w => ?_⟩
      · rw [if_pos (by omega), e9] at k3
        refine zcall (c_X11_pair (by omega) h (i := 3 + 3 * j) (by omega) (by omega)) ?_
        simp only [b_X11_inFolder_0, b_X11_inFolder_2, b_X11_inFolder_12, b_X11_inFolder_26, b_X11_inFolder_37, b_X11_inFolder_43, o_c, o_il, o_al, o_is, o_as, o_inc, o_add, o_sub, o_mul, o_and, o_or, o_xor, o_shl, o_shr, o_ush, o_rem, o_dup, o_dup2, o_gf, o_pf, o_pz, o_iald, o_iast, o_zald, o_zast, o_aald, o_gs, o_min, o_acp, o_call, o_callv, zgf, zpf, zia_, zza_, zra_, zrd_, zcp_, zpop, zsm8_0, zsm8_1, zsm8_2, zsm8_3, zsm8_4, zsm8_5, zrc, zisob, t_ieq, t_ilt, t_igt, t_zeq, t_zlt, t_zgt, t_sw, zsw, t_iret, t_zret, t_aret, t_vret, zrg, List.getElem?_cons_zero, List.getElem?_cons_succ, List.set_cons_zero, List.set_cons_succ, List.length_cons, List.length_nil, Option.toList_some, Option.toList_none, List.nil_append, List.cons_append, true_and, and_true, true_or, or_true, Int.cast_ofNat_Int, Int.natCast_zero, Int.natCast_one, zsh_56, zsh_57, zsh_58, zsh_59, zsh_60, zsh_61, zsh_62, zsh_63, zsh_64, zsh_65, zsh_66, zsh_67, zsh_68, zsh_69, zsh_70, zsh_71, zsh_72, zsh_73, zsh_74, zsh_75, zsh_76, zsh_77, zsh_78, zsh_79, zsh_80, zsh_81, zsh_82, zsh_83, zsh_84, zsh_85, zsh_86, zsh_87, zup_ne, zup_eq, zup_nf, ne_eq, not_false_eq_true]
        rw [k3]
        exact ⟨rfl, rfl⟩
      · rw [if_neg (by omega)] at k3
        exact ih (j + 1) F (by omega) (by omega) k3
  simp only [b_X11_inFolder_0, b_X11_inFolder_2, b_X11_inFolder_12, b_X11_inFolder_26, b_X11_inFolder_37, b_X11_inFolder_43, o_c, o_il, o_al, o_is, o_as, o_inc, o_add, o_sub, o_mul, o_and, o_or, o_xor, o_shl, o_shr, o_ush, o_rem, o_dup, o_dup2, o_gf, o_pf, o_pz, o_iald, o_iast, o_zald, o_zast, o_aald, o_gs, o_min, o_acp, o_call, o_callv, zgf, zpf, zia_, zza_, zra_, zrd_, zcp_, zpop, zsm8_0, zsm8_1, zsm8_2, zsm8_3, zsm8_4, zsm8_5, zrc, zisob, t_ieq, t_ilt, t_igt, t_zeq, t_zlt, t_zgt, t_sw, zsw, t_iret, t_zret, t_aret, t_vret, zrg, List.getElem?_cons_zero, List.getElem?_cons_succ, List.set_cons_zero, List.set_cons_succ, List.length_cons, List.length_nil, Option.toList_some, Option.toList_none, List.nil_append, List.cons_append, true_and, and_true, true_or, or_true, Int.cast_ofNat_Int, Int.natCast_zero, Int.natCast_one, zsh_56, zsh_57, zsh_58, zsh_59, zsh_60, zsh_61, zsh_62, zsh_63, zsh_64, zsh_65, zsh_66, zsh_67, zsh_68, zsh_69, zsh_70, zsh_71, zsh_72, zsh_73, zsh_74, zsh_75, zsh_76, zsh_77, zsh_78, zsh_79, zsh_80, zsh_81, zsh_82, zsh_83, zsh_84, zsh_85, zsh_86, zsh_87, zup_ne, zup_eq, zup_nf, ne_eq, not_false_eq_true]
  exact loop n 0 256 (by omega) (by omega) rfl
theorem zmask16 : ∀ (m : Fin 16) (b : Fin 4), zand ((m : Nat) : Int) (zshl 1 ((b : Nat) : Int) - 1) = ((m : Nat) : Int) % 2 ^ (b : Nat) ∧ zand (zshr ((m : Nat) : Int) ((b : Nat) : Int)) 1 = ((m : Nat) : Int) / 2 ^ (b : Nat) % 2 ∧ (((m : Nat) : Int) / 2 ^ (b : Nat) % 2 ≠ 0 → zpc (((m : Nat) : Int) % 2 ^ (b : Nat)) < zpc ((m : Nat) : Int)) ∧ 0 ≤ zpc (((m : Nat) : Int) % 2 ^ (b : Nat)) ∧ (0 ≤ ((m : Nat) : Int) % 2 ^ (b : Nat) ∧ ((m : Nat) : Int) % 2 ^ (b : Nat) ≤ 15) := by decide +kernel
theorem zmsk4 {m b : Int} (hm : 0 ≤ m ∧ m ≤ 15) (hb : 0 ≤ b ∧ b ≤ 3) : zand m (zshl 1 b - 1) = m % 2 ^ b.toNat ∧ zand (zshr m b) 1 = m / 2 ^ b.toNat % 2 ∧ (m / 2 ^ b.toNat % 2 ≠ 0 → zpc (m % 2 ^ b.toNat) < zpc m) ∧ 0 ≤ zpc (m % 2 ^ b.toNat) ∧ (0 ≤ m % 2 ^ b.toNat ∧ m % 2 ^ b.toNat ≤ 15) := by
  obtain ⟨x, rfl⟩ := Int.eq_ofNat_of_zero_le hm.1
  obtain ⟨y, rfl⟩ := Int.eq_ofNat_of_zero_le hb.1
  exact zmask16 ⟨x, by omega⟩ ⟨y, by omega⟩
theorem zwayb {t : Int} {s : Nat} (hs : s < 4) : zand (zshr ((37 * t) % 256) (2 * (s : Int))) 3 = zway t s := by
  obtain ⟨a, ha⟩ : ∃ a : Nat, (37 * t) % 256 = a := ⟨((37 * t) % 256).toNat, by omega⟩
  have e : (2 * (s : Int)) = ((2 * s : Nat) : Int) := by omega
  rw [ha, e, zshr_nat (by omega) (by omega), zand_m 2 (by decide) (by decide)]
  unfold zway
  rw [ha, Int.toNat_natCast]
  have : s = 0 ∨ s = 1 ∨ s = 2 ∨ s = 3 := by omega
  rcases this with rfl | rfl | rfl | rfl <;> simp
set_option maxRecDepth 100000 in
set_option maxHeartbeats 4000000 in
theorem c_X11_find {d : Nat} {μ : zM} {store nm t : Int} {Lf : Nat → List zBk} (hd : 3 ≤ d) (h : ∀ s, s < 3 → zmL μ s (Lf s)) (hV : ∀ s, s < 3 → zVB (Lf s)) (hs : zrg store) (hn : zrg nm) (ht : zrg t) : zCt d mX11_find [.inr (some 56), .inl store, .inl nm, .inl t] μ (zR (.inl (if 0 ≤ store ∧ store ≤ 2 then zfnd (Lf store.toNat) nm t else -1)) μ) := by
  refine of_X11_find (by omega) (fun G hG => s_X11_find_0 hG ?_)
  simp only [b_X11_find_0, b_X11_find_13, b_X11_find_24, b_X11_find_26, b_X11_find_35, b_X11_find_41, b_X11_find_46, b_X11_find_57, b_X11_find_60, b_X11_find_71, b_X11_find_79, b_X11_find_85, b_X11_find_88, b_X11_find_118, b_X11_find_120, b_X11_find_159, o_c, o_il, o_al, o_is, o_as, o_inc, o_add, o_sub, o_mul, o_and, o_or, o_xor, o_shl, o_shr, o_ush, o_rem, o_dup, o_dup2, o_gf, o_pf, o_pz, o_iald, o_iast, o_zald, o_zast, o_aald, o_gs, o_min, o_acp, o_call, o_callv, zgf, zpf, zia_, zza_, zra_, zrd_, zcp_, zpop, zsm8_0, zsm8_1, zsm8_2, zsm8_3, zsm8_4, zsm8_5, zrc, zisob, t_ieq, t_ilt, t_igt, t_zeq, t_zlt, t_zgt, t_sw, zsw, t_iret, t_zret, t_aret, t_vret, zrg, List.getElem?_cons_zero, List.getElem?_cons_succ, List.set_cons_zero, List.set_cons_succ, List.length_cons, List.length_nil, Option.toList_some, Option.toList_none, List.nil_append, List.cons_append, true_and, and_true, true_or, or_true, Int.cast_ofNat_Int, Int.natCast_zero, Int.natCast_one, zsh_56, zsh_57, zsh_58, zsh_59, zsh_60, zsh_61, zsh_62, zsh_63, zsh_64, zsh_65, zsh_66, zsh_67, zsh_68, zsh_69, zsh_70, zsh_71, zsh_72, zsh_73, zsh_74, zsh_75, zsh_76, zsh_77, zsh_78, zsh_79, zsh_80, zsh_81, zsh_82, zsh_83, zsh_84, zsh_85, zsh_86, zsh_87, zup_ne, zup_eq, zup_nf, ne_eq, not_false_eq_true]
  refine zcall (c_X11_blockAt (by omega) h hs hn) ?_
  rcases zbAt h store nm with ⟨e1, e2⟩ | ⟨k, bs, hc, e2, ha, e1, hm⟩
  · rw [e2]
    have er : (if 0 ≤ store ∧ store ≤ 2 then zfnd (Lf store.toNat) nm t else -1) = -1 := by
      split
      · rename_i hc
        unfold zlks3 at e1
        rw [if_pos hc] at e1
        unfold zfnd
        rw [e1]
        have : zknd none = -1 := rfl
        rw [this, if_neg (by omega)]
      · rfl
    rw [er]
    simp only [b_X11_find_0, b_X11_find_13, b_X11_find_24, b_X11_find_26, b_X11_find_35, b_X11_find_41, b_X11_find_46, b_X11_find_57, b_X11_find_60, b_X11_find_71, b_X11_find_79, b_X11_find_85, b_X11_find_88, b_X11_find_118, b_X11_find_120, b_X11_find_159, o_c, o_il, o_al, o_is, o_as, o_inc, o_add, o_sub, o_mul, o_and, o_or, o_xor, o_shl, o_shr, o_ush, o_rem, o_dup, o_dup2, o_gf, o_pf, o_pz, o_iald, o_iast, o_zald, o_zast, o_aald, o_gs, o_min, o_acp, o_call, o_callv, zgf, zpf, zia_, zza_, zra_, zrd_, zcp_, zpop, zsm8_0, zsm8_1, zsm8_2, zsm8_3, zsm8_4, zsm8_5, zrc, zisob, t_ieq, t_ilt, t_igt, t_zeq, t_zlt, t_zgt, t_sw, zsw, t_iret, t_zret, t_aret, t_vret, zrg, List.getElem?_cons_zero, List.getElem?_cons_succ, List.set_cons_zero, List.set_cons_succ, List.length_cons, List.length_nil, Option.toList_some, Option.toList_none, List.nil_append, List.cons_append, true_and, and_true, true_or, or_true, Int.cast_ofNat_Int, Int.natCast_zero, Int.natCast_one, zsh_56, zsh_57, zsh_58, zsh_59, zsh_60, zsh_61, zsh_62, zsh_63, zsh_64, zsh_65, zsh_66, zsh_67, zsh_68, zsh_69, zsh_70, zsh_71, zsh_72, zsh_73, zsh_74, zsh_75, zsh_76, zsh_77, zsh_78, zsh_79, zsh_80, zsh_81, zsh_82, zsh_83, zsh_84, zsh_85, zsh_86, zsh_87, zup_ne, zup_eq, zup_nf, ne_eq, not_false_eq_true]
    exact ⟨by omega, fun _ => ⟨rfl, rfl⟩, fun w => by omega⟩
  · rw [e2]
    obtain ⟨s, rfl, h3⟩ := zs3 hc
    unfold zlks3 at e1
    rw [if_pos hc, Int.toNat_natCast] at e1
    have er : (if 0 ≤ (s : Int) ∧ (s : Int) ≤ 2 then zfnd (Lf (s : Int).toNat) nm t else -1) = zfnd (Lf s) nm t := by rw [if_pos hc, Int.toNat_natCast]
    rw [er]
    have h1 := ha.1
    have hBk := hV s h3 _ hm
    obtain ⟨z1, z2, z3⟩ := ha.k0 hBk
    simp only [b_X11_find_0, b_X11_find_13, b_X11_find_24, b_X11_find_26, b_X11_find_35, b_X11_find_41, b_X11_find_46, b_X11_find_57, b_X11_find_60, b_X11_find_71, b_X11_find_79, b_X11_find_85, b_X11_find_88, b_X11_find_118, b_X11_find_120, b_X11_find_159, o_c, o_il, o_al, o_is, o_as, o_inc, o_add, o_sub, o_mul, o_and, o_or, o_xor, o_shl, o_shr, o_ush, o_rem, o_dup, o_dup2, o_gf, o_pf, o_pz, o_iald, o_iast, o_zald, o_zast, o_aald, o_gs, o_min, o_acp, o_call, o_callv, zgf, zpf, zia_, zza_, zra_, zrd_, zcp_, zpop, zsm8_0, zsm8_1, zsm8_2, zsm8_3, zsm8_4, zsm8_5, zrc, zisob, t_ieq, t_ilt, t_igt, t_zeq, t_zlt, t_zgt, t_sw, zsw, t_iret, t_zret, t_aret, t_vret, zrg, List.getElem?_cons_zero, List.getElem?_cons_succ, List.set_cons_zero, List.set_cons_succ, List.length_cons, List.length_nil, Option.toList_some, Option.toList_none, List.nil_append, List.cons_append, true_and, and_true, true_or, or_true, Int.cast_ofNat_Int, Int.natCast_zero, Int.natCast_one, zsh_56, zsh_57, zsh_58, zsh_59, zsh_60, zsh_61, zsh_62, zsh_63, zsh_64, zsh_65, zsh_66, zsh_67, zsh_68, zsh_69, zsh_70, zsh_71, zsh_72, zsh_73, zsh_74, zsh_75, zsh_76, zsh_77, zsh_78, zsh_79, zsh_80, zsh_81, zsh_82, zsh_83, zsh_84, zsh_85, zsh_86, zsh_87, zup_ne, zup_eq, zup_nf, ne_eq, not_false_eq_true]
    refine ⟨by omega, fun w => by omega, fun _ => ?_⟩
    refine zcall (c_X11_cell ha (i := 0) (by omega) (by omega)) ?_
    simp only [b_X11_find_0, b_X11_find_13, b_X11_find_24, b_X11_find_26, b_X11_find_35, b_X11_find_41, b_X11_find_46, b_X11_find_57, b_X11_find_60, b_X11_find_71, b_X11_find_79, b_X11_find_85, b_X11_find_88, b_X11_find_118, b_X11_find_120, b_X11_find_159, o_c, o_il, o_al, o_is, o_as, o_inc, o_add, o_sub, o_mul, o_and, o_or, o_xor, o_shl, o_shr, o_ush, o_rem, o_dup, o_dup2, o_gf, o_pf, o_pz, o_iald, o_iast, o_zald, o_zast, o_aald, o_gs, o_min, o_acp, o_call, o_callv, zgf, zpf, zia_, zza_, zra_, zrd_, zcp_, zpop, zsm8_0, zsm8_1, zsm8_2, zsm8_3, zsm8_4, zsm8_5, zrc, zisob, t_ieq, t_ilt, t_igt, t_zeq, t_zlt, t_zgt, t_sw, zsw, t_iret, t_zret, t_aret, t_vret, zrg, List.getElem?_cons_zero, List.getElem?_cons_succ, List.set_cons_zero, List.set_cons_succ, List.length_cons, List.length_nil, Option.toList_some, Option.toList_none, List.nil_append, List.cons_append, true_and, and_true, true_or, or_true, Int.cast_ofNat_Int, Int.natCast_zero, Int.natCast_one, zsh_56, zsh_57, zsh_58, zsh_59, zsh_60, zsh_61, zsh_62, zsh_63, zsh_64, zsh_65, zsh_66, zsh_67, zsh_68, zsh_69, zsh_70, zsh_71, zsh_72, zsh_73, zsh_74, zsh_75, zsh_76, zsh_77, zsh_78, zsh_79, zsh_80, zsh_81, zsh_82, zsh_83, zsh_84, zsh_85, zsh_86, zsh_87, zup_ne, zup_eq, zup_nf, ne_eq, not_false_eq_true]
    rw [← z2]
    refine ⟨by omega, by omega, fun w => ?_, fun w => ?_⟩
    · have : zfnd (Lf s) nm t = -1 := by unfold zfnd; rw [e1, if_neg (by omega)]
      rw [this]
      exact ⟨rfl, rfl⟩
    · refine zcall c_X11_hash ?_
      simp only [b_X11_find_0, b_X11_find_13, b_X11_find_24, b_X11_find_26, b_X11_find_35, b_X11_find_41, b_X11_find_46, b_X11_find_57, b_X11_find_60, b_X11_find_71, b_X11_find_79, b_X11_find_85, b_X11_find_88, b_X11_find_118, b_X11_find_120, b_X11_find_159, o_c, o_il, o_al, o_is, o_as, o_inc, o_add, o_sub, o_mul, o_and, o_or, o_xor, o_shl, o_shr, o_ush, o_rem, o_dup, o_dup2, o_gf, o_pf, o_pz, o_iald, o_iast, o_zald, o_zast, o_aald, o_gs, o_min, o_acp, o_call, o_callv, zgf, zpf, zia_, zza_, zra_, zrd_, zcp_, zpop, zsm8_0, zsm8_1, zsm8_2, zsm8_3, zsm8_4, zsm8_5, zrc, zisob, t_ieq, t_ilt, t_igt, t_zeq, t_zlt, t_zgt, t_sw, zsw, t_iret, t_zret, t_aret, t_vret, zrg, List.getElem?_cons_zero, List.getElem?_cons_succ, List.set_cons_zero, List.set_cons_succ, List.length_cons, List.length_nil, Option.toList_some, Option.toList_none, List.nil_append, List.cons_append, true_and, and_true, true_or, or_true, Int.cast_ofNat_Int, Int.natCast_zero, Int.natCast_one, zsh_56, zsh_57, zsh_58, zsh_59, zsh_60, zsh_61, zsh_62, zsh_63, zsh_64, zsh_65, zsh_66, zsh_67, zsh_68, zsh_69, zsh_70, zsh_71, zsh_72, zsh_73, zsh_74, zsh_75, zsh_76, zsh_77, zsh_78, zsh_79, zsh_80, zsh_81, zsh_82, zsh_83, zsh_84, zsh_85, zsh_86, zsh_87, zup_ne, zup_eq, zup_nf, ne_eq, not_false_eq_true]
      have e0 : zfnd (Lf s) nm t = zfdp (Lf s) t 4 0 (some bs) := by unfold zfnd; rw [e1, if_pos (by omega)]
      have loop : ∀ (r q : Nat) (k : Int) (o : Option (List Int)) (x7 x8 x9 : zV), q + r = 4 → ((k = -1 ∧ o = none) ∨ ∃ bs, o = some bs ∧ zAt μ k bs ∧ zisB (some bs)) → zfnd (Lf s) nm t = zfdp (Lf s) t r q o → G 35 [.inr (some 56), .inl (s : Int), .inl nm, .inl t, .inl k, .inl ((37 * t) % 256), .inl (q : Int), x7, x8, x9] [] μ := by
        intro r
        induction r with
        | zero =>
          intro q k o x7 x8 x9 k1 k2 k3
          simp only [zfdp, zfin] at k3
          refine s_X11_find_35 hG ?_
          simp only [b_X11_find_0, b_X11_find_13, b_X11_find_24, b_X11_find_26, b_X11_find_35, b_X11_find_41, b_X11_find_46, b_X11_find_57, b_X11_find_60, b_X11_find_71, b_X11_find_79, b_X11_find_85, b_X11_find_88, b_X11_find_118, b_X11_find_120, b_X11_find_159, o_c, o_il, o_al, o_is, o_as, o_inc, o_add, o_sub, o_mul, o_and, o_or, o_xor, o_shl, o_shr, o_ush, o_rem, o_dup, o_dup2, o_gf, o_pf, o_pz, o_iald, o_iast, o_zald, o_zast, o_aald, o_gs, o_min, o_acp, o_call, o_callv, zgf, zpf, zia_, zza_, zra_, zrd_, zcp_, zpop, zsm8_0, zsm8_1, zsm8_2, zsm8_3, zsm8_4, zsm8_5, zrc, zisob, t_ieq, t_ilt, t_igt, t_zeq, t_zlt, t_zgt, t_sw, zsw, t_iret, t_zret, t_aret, t_vret, zrg, List.getElem?_cons_zero, List.getElem?_cons_succ, List.set_cons_zero, List.set_cons_succ, List.length_cons, List.length_nil, Option.toList_some, Option.toList_none, List.nil_append, List.cons_append, true_and, and_true, true_or, or_true, Int.cast_ofNat_Int, Int.natCast_zero, Int.natCast_one, zsh_56, zsh_57, zsh_58, zsh_59, zsh_60, zsh_61, zsh_62, zsh_63, zsh_64, zsh_65, zsh_66, zsh_67, zsh_68, zsh_69, zsh_70, zsh_71, zsh_72, zsh_73, zsh_74, zsh_75, zsh_76, zsh_77, zsh_78, zsh_79, zsh_80, zsh_81, zsh_82, zsh_83, zsh_84, zsh_85, zsh_86, zsh_87, zup_ne, zup_eq, zup_nf, ne_eq, not_false_eq_true]
          rw [er]
          rcases k2 with ⟨rfl, rfl⟩ | ⟨bs, rfl, ka, kb⟩
          · have : zknd none = -1 := rfl
            rw [this, if_neg (by omega)] at k3
            rw [k3]
            exact ⟨by omega, by omega, fun _ => ⟨by omega, fun _ => ⟨rfl, rfl⟩, fun w => by omega⟩, fun w => by omega⟩
          · have q1 := ka.1
            obtain ⟨z1, z2, z3⟩ := ka.k0 kb
            refine ⟨by omega, by omega, fun _ => ⟨by omega, fun w => by omega, fun _ => ?_⟩, fun w => by omega⟩
            refine zcall (c_X11_cell ka (i := 0) (by omega) (by omega)) ?_
            simp only [b_X11_find_0, b_X11_find_13, b_X11_find_24, b_X11_find_26, b_X11_find_35, b_X11_find_41, b_X11_find_46, b_X11_find_57, b_X11_find_60, b_X11_find_71, b_X11_find_79, b_X11_find_85, b_X11_find_88, b_X11_find_118, b_X11_find_120, b_X11_find_159, o_c, o_il, o_al, o_is, o_as, o_inc, o_add, o_sub, o_mul, o_and, o_or, o_xor, o_shl, o_shr, o_ush, o_rem, o_dup, o_dup2, o_gf, o_pf, o_pz, o_iald, o_iast, o_zald, o_zast, o_aald, o_gs, o_min, o_acp, o_call, o_callv, zgf, zpf, zia_, zza_, zra_, zrd_, zcp_, zpop, zsm8_0, zsm8_1, zsm8_2, zsm8_3, zsm8_4, zsm8_5, zrc, zisob, t_ieq, t_ilt, t_igt, t_zeq, t_zlt, t_zgt, t_sw, zsw, t_iret, t_zret, t_aret, t_vret, zrg, List.getElem?_cons_zero, List.getElem?_cons_succ, List.set_cons_zero, List.set_cons_succ, List.length_cons, List.length_nil, Option.toList_some, Option.toList_none, List.nil_append, List.cons_append, true_and, and_true, true_or, or_true, Int.cast_ofNat_Int, Int.natCast_zero, Int.natCast_one, zsh_56, zsh_57, zsh_58, zsh_59, zsh_60, zsh_61, zsh_62, zsh_63, zsh_64, zsh_65, zsh_66, zsh_67, zsh_68, zsh_69, zsh_70, zsh_71, zsh_72, zsh_73, zsh_74, zsh_75, zsh_76, zsh_77, zsh_78, zsh_79, zsh_80, zsh_81, zsh_82, zsh_83, zsh_84, zsh_85, zsh_86, zsh_87, zup_ne, zup_eq, zup_nf, ne_eq, not_false_eq_true]
            rw [← z2]
            refine ⟨by omega, by omega, fun w2 => ?_, fun w2 => ?_⟩
            · rw [if_neg (by omega)] at k3
              rw [k3]
              exact ⟨rfl, rfl⟩
            · refine zcall (c_X11_cell ka (i := 0) (by omega) (by omega)) ?_
              simp only [b_X11_find_0, b_X11_find_13, b_X11_find_24, b_X11_find_26, b_X11_find_35, b_X11_find_41, b_X11_find_46, b_X11_find_57, b_X11_find_60, b_X11_find_71, b_X11_find_79, b_X11_find_85, b_X11_find_88, b_X11_find_118, b_X11_find_120, b_X11_find_159, o_c, o_il, o_al, o_is, o_as, o_inc, o_add, o_sub, o_mul, o_and, o_or, o_xor, o_shl, o_shr, o_ush, o_rem, o_dup, o_dup2, o_gf, o_pf, o_pz, o_iald, o_iast, o_zald, o_zast, o_aald, o_gs, o_min, o_acp, o_call, o_callv, zgf, zpf, zia_, zza_, zra_, zrd_, zcp_, zpop, zsm8_0, zsm8_1, zsm8_2, zsm8_3, zsm8_4, zsm8_5, zrc, zisob, t_ieq, t_ilt, t_igt, t_zeq, t_zlt, t_zgt, t_sw, zsw, t_iret, t_zret, t_aret, t_vret, zrg, List.getElem?_cons_zero, List.getElem?_cons_succ, List.set_cons_zero, List.set_cons_succ, List.length_cons, List.length_nil, Option.toList_some, Option.toList_none, List.nil_append, List.cons_append, true_and, and_true, true_or, or_true, Int.cast_ofNat_Int, Int.natCast_zero, Int.natCast_one, zsh_56, zsh_57, zsh_58, zsh_59, zsh_60, zsh_61, zsh_62, zsh_63, zsh_64, zsh_65, zsh_66, zsh_67, zsh_68, zsh_69, zsh_70, zsh_71, zsh_72, zsh_73, zsh_74, zsh_75, zsh_76, zsh_77, zsh_78, zsh_79, zsh_80, zsh_81, zsh_82, zsh_83, zsh_84, zsh_85, zsh_86, zsh_87, zup_ne, zup_eq, zup_nf, ne_eq, not_false_eq_true]
              rw [← z2]
              refine ⟨by omega, by omega, fun w4 => ?_, fun w4 => ⟨by omega, by omega, fun w5 => ?_, fun w5 => by omega⟩⟩
              · rw [if_pos w4] at k3
                refine zcall (c_X11_inFolder (by omega) ka kb w4 ht) ?_
                simp only [b_X11_find_0, b_X11_find_13, b_X11_find_24, b_X11_find_26, b_X11_find_35, b_X11_find_41, b_X11_find_46, b_X11_find_57, b_X11_find_60, b_X11_find_71, b_X11_find_79, b_X11_find_85, b_X11_find_88, b_X11_find_118, b_X11_find_120, b_X11_find_159, o_c, o_il, o_al, o_is, o_as, o_inc, o_add, o_sub, o_mul, o_and, o_or, o_xor, o_shl, o_shr, o_ush, o_rem, o_dup, o_dup2, o_gf, o_pf, o_pz, o_iald, o_iast, o_zald, o_zast, o_aald, o_gs, o_min, o_acp, o_call, o_callv, zgf, zpf, zia_, zza_, zra_, zrd_, zcp_, zpop, zsm8_0, zsm8_1, zsm8_2, zsm8_3, zsm8_4, zsm8_5, zrc, zisob, t_ieq, t_ilt, t_igt, t_zeq, t_zlt, t_zgt, t_sw, zsw, t_iret, t_zret, t_aret, t_vret, zrg, List.getElem?_cons_zero, List.getElem?_cons_succ, List.set_cons_zero, List.set_cons_succ, List.length_cons, List.length_nil, Option.toList_some, Option.toList_none, List.nil_append, List.cons_append, true_and, and_true, true_or, or_true, Int.cast_ofNat_Int, Int.natCast_zero, Int.natCast_one, zsh_56, zsh_57, zsh_58, zsh_59, zsh_60, zsh_61, zsh_62, zsh_63, zsh_64, zsh_65, zsh_66, zsh_67, zsh_68, zsh_69, zsh_70, zsh_71, zsh_72, zsh_73, zsh_74, zsh_75, zsh_76, zsh_77, zsh_78, zsh_79, zsh_80, zsh_81, zsh_82, zsh_83, zsh_84, zsh_85, zsh_86, zsh_87, zup_ne, zup_eq, zup_nf, ne_eq, not_false_eq_true]
                rw [k3]
                exact ⟨rfl, rfl⟩
              · rw [if_neg w4] at k3
                rw [k3]
                exact ⟨rfl, rfl⟩
        | succ r ih =>
          intro q k o x7 x8 x9 k1 k2 k3
          simp only [zfdp, zfin] at k3
          refine s_X11_find_35 hG ?_
          simp only [b_X11_find_0, b_X11_find_13, b_X11_find_24, b_X11_find_26, b_X11_find_35, b_X11_find_41, b_X11_find_46, b_X11_find_57, b_X11_find_60, b_X11_find_71, b_X11_find_79, b_X11_find_85, b_X11_find_88, b_X11_find_118, b_X11_find_120, b_X11_find_159, o_c, o_il, o_al, o_is, o_as, o_inc, o_add, o_sub, o_mul, o_and, o_or, o_xor, o_shl, o_shr, o_ush, o_rem, o_dup, o_dup2, o_gf, o_pf, o_pz, o_iald, o_iast, o_zald, o_zast, o_aald, o_gs, o_min, o_acp, o_call, o_callv, zgf, zpf, zia_, zza_, zra_, zrd_, zcp_, zpop, zsm8_0, zsm8_1, zsm8_2, zsm8_3, zsm8_4, zsm8_5, zrc, zisob, t_ieq, t_ilt, t_igt, t_zeq, t_zlt, t_zgt, t_sw, zsw, t_iret, t_zret, t_aret, t_vret, zrg, List.getElem?_cons_zero, List.getElem?_cons_succ, List.set_cons_zero, List.set_cons_succ, List.length_cons, List.length_nil, Option.toList_some, Option.toList_none, List.nil_append, List.cons_append, true_and, and_true, true_or, or_true, Int.cast_ofNat_Int, Int.natCast_zero, Int.natCast_one, zsh_56, zsh_57, zsh_58, zsh_59, zsh_60, zsh_61, zsh_62, zsh_63, zsh_64, zsh_65, zsh_66, zsh_67, zsh_68, zsh_69, zsh_70, zsh_71, zsh_72, zsh_73, zsh_74, zsh_75, zsh_76, zsh_77, zsh_78, zsh_79, zsh_80, zsh_81, zsh_82, zsh_83, zsh_84, zsh_85, zsh_86, zsh_87, zup_ne, zup_eq, zup_nf, ne_eq, not_false_eq_true]
          rw [er]
          rcases k2 with ⟨rfl, rfl⟩ | ⟨bs, rfl, ka, kb⟩
          · have : zknd none = -1 := rfl
            rw [this, if_neg (by omega), if_neg (by omega)] at k3
            rw [k3]
            exact ⟨by omega, by omega, fun _ => ⟨by omega, fun _ => ⟨rfl, rfl⟩, fun w => by omega⟩, fun w => by omega⟩
          · have q1 := ka.1
            have q18 := ka.2.2.1
            obtain ⟨z1, z2, z3⟩ := ka.k0 kb
            have hsh := kb.sh
            refine ⟨by omega, by omega, fun _ => ⟨by omega, fun w => by omega, fun _ => ?_⟩, fun w => by omega⟩
            refine zcall (c_X11_cell ka (i := 0) (by omega) (by omega)) ?_
            simp only [b_X11_find_0, b_X11_find_13, b_X11_find_24, b_X11_find_26, b_X11_find_35, b_X11_find_41, b_X11_find_46, b_X11_find_57, b_X11_find_60, b_X11_find_71, b_X11_find_79, b_X11_find_85, b_X11_find_88, b_X11_find_118, b_X11_find_120, b_X11_find_159, o_c, o_il, o_al, o_is, o_as, o_inc, o_add, o_sub, o_mul, o_and, o_or, o_xor, o_shl, o_shr, o_ush, o_rem, o_dup, o_dup2, o_gf, o_pf, o_pz, o_iald, o_iast, o_zald, o_zast, o_aald, o_gs, o_min, o_acp, o_call, o_callv, zgf, zpf, zia_, zza_, zra_, zrd_, zcp_, zpop, zsm8_0, zsm8_1, zsm8_2, zsm8_3, zsm8_4, zsm8_5, zrc, zisob, t_ieq, t_ilt, t_igt, t_zeq, t_zlt, t_zgt, t_sw, zsw, t_iret, t_zret, t_aret, t_vret, zrg, List.getElem?_cons_zero, List.getElem?_cons_succ, List.set_cons_zero, List.set_cons_succ, List.length_cons, List.length_nil, Option.toList_some, Option.toList_none, List.nil_append, List.cons_append, true_and, and_true, true_or, or_true, Int.cast_ofNat_Int, Int.natCast_zero, Int.natCast_one, zsh_56, zsh_57, zsh_58, zsh_59, zsh_60, zsh_61, zsh_62, zsh_63, zsh_64, zsh_65, zsh_66, zsh_67, zsh_68, zsh_69, zsh_70, zsh_71, zsh_72, zsh_73, zsh_74, zsh_75, zsh_76, zsh_77, zsh_78, zsh_79, zsh_80, zsh_81, zsh_82, zsh_83, zsh_84, zsh_85, zsh_86, zsh_87, zup_ne, zup_eq, zup_nf, ne_eq, not_false_eq_true]
            rw [← z2]
            refine ⟨by omega, by omega, fun w2 => ?_, fun w2 => ?_⟩
            · rw [if_neg (by omega), if_neg (by omega)] at k3
              rw [k3]
              exact ⟨rfl, rfl⟩
            · refine zcall (c_X11_cell ka (i := 0) (by omega) (by omega)) ?_
              simp only [b_X11_find_0, b_X11_find_13, b_X11_find_24, b_X11_find_26, b_X11_find_35, b_X11_find_41, b_X11_find_46, b_X11_find_57, b_X11_find_60, b_X11_find_71, b_X11_find_79, b_X11_find_85, b_X11_find_88, b_X11_find_118, b_X11_find_120, b_X11_find_159, o_c, o_il, o_al, o_is, o_as, o_inc, o_add, o_sub, o_mul, o_and, o_or, o_xor, o_shl, o_shr, o_ush, o_rem, o_dup, o_dup2, o_gf, o_pf, o_pz, o_iald, o_iast, o_zald, o_zast, o_aald, o_gs, o_min, o_acp, o_call, o_callv, zgf, zpf, zia_, zza_, zra_, zrd_, zcp_, zpop, zsm8_0, zsm8_1, zsm8_2, zsm8_3, zsm8_4, zsm8_5, zrc, zisob, t_ieq, t_ilt, t_igt, t_zeq, t_zlt, t_zgt, t_sw, zsw, t_iret, t_zret, t_aret, t_vret, zrg, List.getElem?_cons_zero, List.getElem?_cons_succ, List.set_cons_zero, List.set_cons_succ, List.length_cons, List.length_nil, Option.toList_some, Option.toList_none, List.nil_append, List.cons_append, true_and, and_true, true_or, or_true, Int.cast_ofNat_Int, Int.natCast_zero, Int.natCast_one, zsh_56, zsh_57, zsh_58, zsh_59, zsh_60, zsh_61, zsh_62, zsh_63, zsh_64, zsh_65, zsh_66, zsh_67, zsh_68, zsh_69, zsh_70, zsh_71, zsh_72, zsh_73, zsh_74, zsh_75, zsh_76, zsh_77, zsh_78, zsh_79, zsh_80, zsh_81, zsh_82, zsh_83, zsh_84, zsh_85, zsh_86, zsh_87, zup_ne, zup_eq, zup_nf, ne_eq, not_false_eq_true]
              rw [← z2]
              refine ⟨by omega, by omega, fun w4 => ?_, fun w4 => ⟨by omega, by omega, fun w5 => by omega, fun w5 => ?_⟩⟩
              · rw [if_neg (by omega), if_pos w4] at k3
                refine zcall (c_X11_inFolder (by omega) ka kb w4 ht) ?_
                simp only [b_X11_find_0, b_X11_find_13, b_X11_find_24, b_X11_find_26, b_X11_find_35, b_X11_find_41, b_X11_find_46, b_X11_find_57, b_X11_find_60, b_X11_find_71, b_X11_find_79, b_X11_find_85, b_X11_find_88, b_X11_find_118, b_X11_find_120, b_X11_find_159, o_c, o_il, o_al, o_is, o_as, o_inc, o_add, o_sub, o_mul, o_and, o_or, o_xor, o_shl, o_shr, o_ush, o_rem, o_dup, o_dup2, o_gf, o_pf, o_pz, o_iald, o_iast, o_zald, o_zast, o_aald, o_gs, o_min, o_acp, o_call, o_callv, zgf, zpf, zia_, zza_, zra_, zrd_, zcp_, zpop, zsm8_0, zsm8_1, zsm8_2, zsm8_3, zsm8_4, zsm8_5, zrc, zisob, t_ieq, t_ilt, t_igt, t_zeq, t_zlt, t_zgt, t_sw, zsw, t_iret, t_zret, t_aret, t_vret, zrg, List.getElem?_cons_zero, List.getElem?_cons_succ, List.set_cons_zero, List.set_cons_succ, List.length_cons, List.length_nil, Option.toList_some, Option.toList_none, List.nil_append, List.cons_append, true_and, and_true, true_or, or_true, Int.cast_ofNat_Int, Int.natCast_zero, Int.natCast_one, zsh_56, zsh_57, zsh_58, zsh_59, zsh_60, zsh_61, zsh_62, zsh_63, zsh_64, zsh_65, zsh_66, zsh_67, zsh_68, zsh_69, zsh_70, zsh_71, zsh_72, zsh_73, zsh_74, zsh_75, zsh_76, zsh_77, zsh_78, zsh_79, zsh_80, zsh_81, zsh_82, zsh_83, zsh_84, zsh_85, zsh_86, zsh_87, zup_ne, zup_eq, zup_nf, ne_eq, not_false_eq_true]
                rw [k3]
                exact ⟨rfl, rfl⟩
              · have hk3 : zknd (some bs) = 3 := by omega
                rw [if_pos hk3] at k3
                rw [zwayb (by omega)]
                refine zcall (c_X11_cell ka (i := 1) (by omega) (by omega)) ?_
                simp only [b_X11_find_0, b_X11_find_13, b_X11_find_24, b_X11_find_26, b_X11_find_35, b_X11_find_41, b_X11_find_46, b_X11_find_57, b_X11_find_60, b_X11_find_71, b_X11_find_79, b_X11_find_85, b_X11_find_88, b_X11_find_118, b_X11_find_120, b_X11_find_159, o_c, o_il, o_al, o_is, o_as, o_inc, o_add, o_sub, o_mul, o_and, o_or, o_xor, o_shl, o_shr, o_ush, o_rem, o_dup, o_dup2, o_gf, o_pf, o_pz, o_iald, o_iast, o_zald, o_zast, o_aald, o_gs, o_min, o_acp, o_call, o_callv, zgf, zpf, zia_, zza_, zra_, zrd_, zcp_, zpop, zsm8_0, zsm8_1, zsm8_2, zsm8_3, zsm8_4, zsm8_5, zrc, zisob, t_ieq, t_ilt, t_igt, t_zeq, t_zlt, t_zgt, t_sw, zsw, t_iret, t_zret, t_aret, t_vret, zrg, List.getElem?_cons_zero, List.getElem?_cons_succ, List.set_cons_zero, List.set_cons_succ, List.length_cons, List.length_nil, Option.toList_some, Option.toList_none, List.nil_append, List.cons_append, true_and, and_true, true_or, or_true, Int.cast_ofNat_Int, Int.natCast_zero, Int.natCast_one, zsh_56, zsh_57, zsh_58, zsh_59, zsh_60, zsh_61, zsh_62, zsh_63, zsh_64, zsh_65, zsh_66, zsh_67, zsh_68, zsh_69, zsh_70, zsh_71, zsh_72, zsh_73, zsh_74, zsh_75, zsh_76, zsh_77, zsh_78, zsh_79, zsh_80, zsh_81, zsh_82, zsh_83, zsh_84, zsh_85, zsh_86, zsh_87, zup_ne, zup_eq, zup_nf, ne_eq, not_false_eq_true]
                obtain ⟨m, hm⟩ : ∃ m, m = zp_byte (some bs) 1 := ⟨_, rfl⟩
                have hm15 : 1 ≤ m ∧ m ≤ 15 := by omega
                have hlen : (bs.length : Int) = 2 + 2 * zpc m := by rw [hm]; omega
                obtain ⟨m1, m2, m3, m4, m5⟩ := zmsk4 (m := m) (b := zway t q) (by omega) (zway_rg t q)
                rw [← hm] at k3 ⊢
                rw [m2]
                refine ⟨by omega, fun w6 => ?_, fun w6 => ?_⟩
                · rw [if_pos w6] at k3
                  rw [k3]
                  exact ⟨rfl, rfl⟩
                · rw [if_neg w6] at k3
                  rw [m1]
                  refine zcall (c_X11_bits m5) ?_
                  simp only [b_X11_find_0, b_X11_find_13, b_X11_find_24, b_X11_find_26, b_X11_find_35, b_X11_find_41, b_X11_find_46, b_X11_find_57, b_X11_find_60, b_X11_find_71, b_X11_find_79, b_X11_find_85, b_X11_find_88, b_X11_find_118, b_X11_find_120, b_X11_find_159, o_c, o_il, o_al, o_is, o_as, o_inc, o_add, o_sub, o_mul, o_and, o_or, o_xor, o_shl, o_shr, o_ush, o_rem, o_dup, o_dup2, o_gf, o_pf, o_pz, o_iald, o_iast, o_zald, o_zast, o_aald, o_gs, o_min, o_acp, o_call, o_callv, zgf, zpf, zia_, zza_, zra_, zrd_, zcp_, zpop, zsm8_0, zsm8_1, zsm8_2, zsm8_3, zsm8_4, zsm8_5, zrc, zisob, t_ieq, t_ilt, t_igt, t_zeq, t_zlt, t_zgt, t_sw, zsw, t_iret, t_zret, t_aret, t_vret, zrg, List.getElem?_cons_zero, List.getElem?_cons_succ, List.set_cons_zero, List.set_cons_succ, List.length_cons, List.length_nil, Option.toList_some, Option.toList_none, List.nil_append, List.cons_append, true_and, and_true, true_or, or_true, Int.cast_ofNat_Int, Int.natCast_zero, Int.natCast_one, zsh_56, zsh_57, zsh_58, zsh_59, zsh_60, zsh_61, zsh_62, zsh_63, zsh_64, zsh_65, zsh_66, zsh_67, zsh_68, zsh_69, zsh_70, zsh_71, zsh_72, zsh_73, zsh_74, zsh_75, zsh_76, zsh_77, zsh_78, zsh_79, zsh_80, zsh_81, zsh_82, zsh_83, zsh_84, zsh_85, zsh_86, zsh_87, zup_ne, zup_eq, zup_nf, ne_eq, not_false_eq_true]
                  obtain ⟨ab, hab⟩ : ∃ ab, ab = zpc (m % 2 ^ (zway t q).toNat) := ⟨_, rfl⟩
                  rw [← hab] at m3 m4 k3 ⊢
                  have hab2 := m3 w6
                  have a1 := ka.pr (i := 2 + 2 * ab) (by omega) (by omega)
                  have e9 : zlnk (some bs) ab = zp_pair (some bs) (2 + 2 * ab) := by
                    unfold zlnk
                    rw [hk3, if_pos (by omega)]
                    congr 1
                    simp only [zpw]; simp; omega
                  refine zcall (c_X11_pair (by omega) ka (i := 2 + 2 * ab) (by omega) (by omega)) ?_
                  simp only [b_X11_find_0, b_X11_find_13, b_X11_find_24, b_X11_find_26, b_X11_find_35, b_X11_find_41, b_X11_find_46, b_X11_find_57, b_X11_find_60, b_X11_find_71, b_X11_find_79, b_X11_find_85, b_X11_find_88, b_X11_find_118, b_X11_find_120, b_X11_find_159, o_c, o_il, o_al, o_is, o_as, o_inc, o_add, o_sub, o_mul, o_and, o_or, o_xor, o_shl, o_shr, o_ush, o_rem, o_dup, o_dup2, o_gf, o_pf, o_pz, o_iald, o_iast, o_zald, o_zast, o_aald, o_gs, o_min, o_acp, o_call, o_callv, zgf, zpf, zia_, zza_, zra_, zrd_, zcp_, zpop, zsm8_0, zsm8_1, zsm8_2, zsm8_3, zsm8_4, zsm8_5, zrc, zisob, t_ieq, t_ilt, t_igt, t_zeq, t_zlt, t_zgt, t_sw, zsw, t_iret, t_zret, t_aret, t_vret, zrg, List.getElem?_cons_zero, List.getElem?_cons_succ, List.set_cons_zero, List.set_cons_succ, List.length_cons, List.length_nil, Option.toList_some, Option.toList_none, List.nil_append, List.cons_append, true_and, and_true, true_or, or_true, Int.cast_ofNat_Int, Int.natCast_zero, Int.natCast_one, zsh_56, zsh_57, zsh_58, zsh_59, zsh_60, zsh_61, zsh_62, zsh_63, zsh_64, zsh_65, zsh_66, zsh_67, zsh_68, zsh_69, zsh_70, zsh_71, zsh_72, zsh_73, zsh_74, zsh_75, zsh_76, zsh_77, zsh_78, zsh_79, zsh_80, zsh_81, zsh_82, zsh_83, zsh_84, zsh_85, zsh_86, zsh_87, zup_ne, zup_eq, zup_nf, ne_eq, not_false_eq_true]
                  refine zcall (c_X11_where (h s h3) h3 (by unfold zrg; omega)) ?_
                  simp only [b_X11_find_0, b_X11_find_13, b_X11_find_24, b_X11_find_26, b_X11_find_35, b_X11_find_41, b_X11_find_46, b_X11_find_57, b_X11_find_60, b_X11_find_71, b_X11_find_79, b_X11_find_85, b_X11_find_88, b_X11_find_118, b_X11_find_120, b_X11_find_159, o_c, o_il, o_al, o_is, o_as, o_inc, o_add, o_sub, o_mul, o_and, o_or, o_xor, o_shl, o_shr, o_ush, o_rem, o_dup, o_dup2, o_gf, o_pf, o_pz, o_iald, o_iast, o_zald, o_zast, o_aald, o_gs, o_min, o_acp, o_call, o_callv, zgf, zpf, zia_, zza_, zra_, zrd_, zcp_, zpop, zsm8_0, zsm8_1, zsm8_2, zsm8_3, zsm8_4, zsm8_5, zrc, zisob, t_ieq, t_ilt, t_igt, t_zeq, t_zlt, t_zgt, t_sw, zsw, t_iret, t_zret, t_aret, t_vret, zrg, List.getElem?_cons_zero, List.getElem?_cons_succ, List.set_cons_zero, List.set_cons_succ, List.length_cons, List.length_nil, Option.toList_some, Option.toList_none, List.nil_append, List.cons_append, true_and, and_true, true_or, or_true, Int.cast_ofNat_Int, Int.natCast_zero, Int.natCast_one, zsh_56, zsh_57, zsh_58, zsh_59, zsh_60, zsh_61, zsh_62, zsh_63, zsh_64, zsh_65, zsh_66, zsh_67, zsh_68, zsh_69, zsh_70, zsh_71, zsh_72, zsh_73, zsh_74, zsh_75, zsh_76, zsh_77, zsh_78, zsh_79, zsh_80, zsh_81, zsh_82, zsh_83, zsh_84, zsh_85, zsh_86, zsh_87, zup_ne, zup_eq, zup_nf, ne_eq, not_false_eq_true]
                  rw [e9] at k3
                  refine ih (q + 1) _ _ _ _ _ (by omega) ?_ k3
                  rcases (h s h3).wr h3 (zp_pair (some bs) (2 + 2 * ab)) with ⟨u1, _, u2⟩ | ⟨bs2, i2, u1, u3, _, u4, u5⟩
                  · exact Or.inl ⟨u2, u1⟩
                  · exact Or.inr ⟨bs2, u1, u5, hV s h3 _ (List.mem_of_getElem? u3)⟩
      exact loop 4 0 k (some bs) _ _ _ (by omega) (Or.inr ⟨bs, rfl, ha, hBk⟩) e0
/-- what a change of one store leaves -/
def zmX (s : Nat) (μ μ' : zM) : Prop := (∀ c, c ∉ [57, 58, 59, 60] → μ' c = μ c) ∧ (∀ t : Int, t ≠ s → μ' 57 t = μ 57 t) ∧ (∀ i : Int, (i < 64 * s ∨ 64 * s + 64 ≤ i) → μ' 58 i = μ 58 i ∧ μ' 59 i = μ 59 i) ∧ ∀ i : Int, (i < 1152 * s ∨ 1152 * s + 1152 ≤ i) → μ' 60 i = μ 60 i
theorem zmX.refl (s : Nat) (μ : zM) : zmX s μ μ := ⟨fun _ _ => rfl, fun _ _ => rfl, fun _ _ => ⟨rfl, rfl⟩, fun _ _ => rfl⟩
theorem zmX.trans {s : Nat} {a b c : zM} (h1 : zmX s a b) (h2 : zmX s b c) : zmX s a c := ⟨fun k hk => (h2.1 k hk).trans (h1.1 k hk), fun t ht => (h2.2.1 t ht).trans (h1.2.1 t ht), fun i hi => ⟨((h2.2.2.1 i hi).1).trans (h1.2.2.1 i hi).1, ((h2.2.2.1 i hi).2).trans (h1.2.2.1 i hi).2⟩, fun i hi => (h2.2.2.2 i hi).trans (h1.2.2.2 i hi)⟩
theorem zmL.x {s t : Nat} {μ μ' : zM} {L : List zBk} (h : zmL μ t L) (f : zmX s μ μ') (hst : t ≠ s) : zmL μ' t L := by
  have hl := h.2.1
  refine ⟨by rw [f.2.1 t (by omega)]; exact h.1, h.2.1, h.2.2.1, fun i b hb => ?_⟩
  have hi := (List.getElem?_eq_some_iff.mp hb).1
  have hk := (h.2.2.1 b (List.mem_of_getElem? hb)).2.1
  obtain ⟨a1, a2, a3⟩ := h.2.2.2 i b hb
  have := f.2.2.1 (64 * t + i) (by omega)
  refine ⟨by rw [this.1]; exact a1, by rw [this.2]; exact a2, fun j x hj => ?_⟩
  have hjl := (List.getElem?_eq_some_iff.mp hj).1
  rw [f.2.2.2 _ (by omega)]
  exact a3 j x hj
theorem zmL.f {t : Nat} {μ μ' : zM} {L : List zBk} {C : List Nat} {F : List Int} (h : zmL μ t L) (f : zF C F μ μ') (hc : ∀ c ∈ C, 60 < c) : zmL μ' t L := by
  have e : ∀ c, 57 ≤ c → c ≤ 60 → μ' c = μ c := fun c h1 h2 => f.1 c (fun w => by have := hc c w; omega) (by omega)
  refine ⟨by rw [e 57 (by omega) (by omega)]; exact h.1, h.2.1, h.2.2.1, fun i b hb => ?_⟩
  rw [e 58 (by omega) (by omega), e 59 (by omega) (by omega), e 60 (by omega) (by omega)]
  exact h.2.2.2 i b hb
set_option maxRecDepth 100000 in
set_option maxHeartbeats 4000000 in
theorem c_X11_enter {d s : Nat} {μ : zM} {L : List zBk} {D : List Int} {nm : Int} (h : zmL μ s L) (hs : s < 3) (hl64 : L.length < 64) (hD : zmR μ D) (hl : D.length ≤ 18) (hn : 0 ≤ nm ∧ nm ≤ 65520) : zCt d mX11_enter [.inr (some 56), .inl (s : Int), .inl nm] μ (fun v μ' => v = none ∧ zmL μ' s (L ++ [(nm, D)]) ∧ zmX s μ μ') := by
  obtain ⟨h1, h2, h3, h4⟩ := h
  obtain ⟨r1, r2, r3, r4⟩ := hD
  obtain ⟨k, hk⟩ : ∃ k : Int, k = 64 * s + L.length := ⟨_, rfl⟩
  refine of_X11_enter (fun G hG => s_X11_enter_0 hG ?_)
  obtain ⟨μ0, hμ0⟩ : ∃ μ0, μ0 = zup (zup μ 58 k nm) 59 k D.length := ⟨_, rfl⟩
  have loop : ∀ (r i : Nat) (μ1 : zM), i + r = D.length → (∀ c, c ≠ 60 → μ1 c = μ0 c) → (∀ j : Int, (j < 18 * k ∨ 18 * k + 18 ≤ j) → μ1 60 j = μ 60 j) → (∀ (j : Nat) (x : Int), j < i → D[j]? = some x → μ1 60 (18 * k + j) = x) → G 32 [.inr (some 56), .inl (s : Int), .inl nm, .inl k, .inl (i : Int)] [] μ1 := by
    intro r
    induction r with
    | zero =>
      intro i μ1 k1 k2 k3 k4
      have q56 : μ1 56 24 = D.length := by rw [k2 56 (by decide), hμ0]; simp only [zup_ne, ne_eq, Nat.reduceEqDiff, not_false_eq_true]; exact r1
      have q57 : μ1 57 s = L.length := by rw [k2 57 (by decide), hμ0]; simp only [zup_ne, ne_eq, Nat.reduceEqDiff, not_false_eq_true]; exact h1
      refine s_X11_enter_32 hG ?_
      simp only [b_X11_enter_0, b_X11_enter_32, b_X11_enter_41, b_X11_enter_66, o_c, o_il, o_al, o_is, o_as, o_inc, o_add, o_sub, o_mul, o_and, o_or, o_xor, o_shl, o_shr, o_ush, o_rem, o_dup, o_dup2, o_gf, o_pf, o_pz, o_iald, o_iast, o_zald, o_zast, o_aald, o_gs, o_min, o_acp, o_call, o_callv, zgf, zpf, zia_, zza_, zra_, zrd_, zcp_, zpop, zsm8_0, zsm8_1, zsm8_2, zsm8_3, zsm8_4, zsm8_5, zrc, zisob, t_ieq, t_ilt, t_igt, t_zeq, t_zlt, t_zgt, t_sw, zsw, t_iret, t_zret, t_aret, t_vret, zrg, List.getElem?_cons_zero, List.getElem?_cons_succ, List.set_cons_zero, List.set_cons_succ, List.length_cons, List.length_nil, Option.toList_some, Option.toList_none, List.nil_append, List.cons_append, true_and, and_true, true_or, or_true, Int.cast_ofNat_Int, Int.natCast_zero, Int.natCast_one, zsh_56, zsh_57, zsh_58, zsh_59, zsh_60, zsh_61, zsh_62, zsh_63, zsh_64, zsh_65, zsh_66, zsh_67, zsh_68, zsh_69, zsh_70, zsh_71, zsh_72, zsh_73, zsh_74, zsh_75, zsh_76, zsh_77, zsh_78, zsh_79, zsh_80, zsh_81, zsh_82, zsh_83, zsh_84, zsh_85, zsh_86, zsh_87, zup_ne, zup_eq, zup_nf, ne_eq, not_false_eq_true]
      rw [q56, q57]
      refine ⟨by omega, by omega, fun w => by omega, fun _ => ⟨by omega, by omega, ⟨?_, ?_, ?_, ?_⟩, ?_, ?_, ?_, ?_⟩⟩
      · rw [zup_eq]; simp
      · simp; omega
      · intro b hb
        rcases List.mem_append.mp hb with q | q
        · exact h3 b q
        · rw [List.mem_singleton.mp q]
          exact ⟨hn, hl, r4⟩
      · intro j b hb
        simp only [zup_ne, ne_eq, Nat.reduceEqDiff, not_false_eq_true]
        have e58 : μ1 58 = zup μ 58 k nm 58 := by rw [k2 58 (by decide), hμ0]; rw [zup_ne _ (by decide)]
        have e59 : μ1 59 = zup (zup μ 58 k nm) 59 k D.length 59 := by rw [k2 59 (by decide), hμ0]
        rcases Nat.lt_trichotomy j L.length with hj | hj | hj
        · rw [List.getElem?_append_left hj] at hb
          obtain ⟨a1, a2, a3⟩ := h4 j b hb
          have hb18 := (h3 b (List.mem_of_getElem? hb)).2.1
          refine ⟨?_, ?_, fun i' x hx => ?_⟩
          · rw [e58, zup_nf (by omega)]; exact a1
          · rw [e59, zup_nf (by omega), zup_ne _ (by decide)]; exact a2
          · have hil := (List.getElem?_eq_some_iff.mp hx).1
            rw [k3 _ (by omega)]
            exact a3 i' x hx
        · subst hj
          rw [List.getElem?_append_right (Nat.le_refl _)] at hb
          simp at hb
          subst hb
          refine ⟨?_, ?_, fun i' x hx => ?_⟩
          · rw [e58, ← hk, zup_eq]
          · rw [e59, ← hk, zup_eq]
          · have hil := (List.getElem?_eq_some_iff.mp hx).1
            rw [← hk]
            exact k4 i' x (by simp only at hil; omega) hx
        · rw [List.getElem?_eq_none (by simp; omega)] at hb
          cases hb
      · intro c hc
        simp only [List.mem_cons, List.not_mem_nil, or_false, not_or] at hc
        rw [zup_ne _ hc.1, k2 c hc.2.2.2, hμ0, zup_ne _ hc.2.2.1, zup_ne _ hc.2.1]
      · intro t ht
        rw [zup_nf ht, k2 57 (by decide), hμ0, zup_ne _ (by decide), zup_ne _ (by decide)]
      · intro i' hi'
        rw [zup_ne _ (by decide), zup_ne _ (by decide), k2 58 (by decide), k2 59 (by decide), hμ0]
        constructor
        · rw [zup_ne _ (by decide), zup_nf (by omega)]
        · rw [zup_nf (by omega), zup_ne _ (by decide)]
      · intro i' hi'
        rw [zup_ne _ (by decide), k3 _ (by omega)]
    | succ r ih =>
      intro i μ1 k1 k2 k3 k4
      have hi : i < D.length := by omega
      have q56 : μ1 56 24 = D.length := by rw [k2 56 (by decide), hμ0]; simp only [zup_ne, ne_eq, Nat.reduceEqDiff, not_false_eq_true]; exact r1
      have q77 : μ1 77 i = D[i] := by rw [k2 77 (by decide), hμ0]; simp only [zup_ne, ne_eq, Nat.reduceEqDiff, not_false_eq_true]; exact r3 i _ (List.getElem?_eq_getElem hi)
      refine s_X11_enter_32 hG ?_
      simp only [b_X11_enter_0, b_X11_enter_32, b_X11_enter_41, b_X11_enter_66, o_c, o_il, o_al, o_is, o_as, o_inc, o_add, o_sub, o_mul, o_and, o_or, o_xor, o_shl, o_shr, o_ush, o_rem, o_dup, o_dup2, o_gf, o_pf, o_pz, o_iald, o_iast, o_zald, o_zast, o_aald, o_gs, o_min, o_acp, o_call, o_callv, zgf, zpf, zia_, zza_, zra_, zrd_, zcp_, zpop, zsm8_0, zsm8_1, zsm8_2, zsm8_3, zsm8_4, zsm8_5, zrc, zisob, t_ieq, t_ilt, t_igt, t_zeq, t_zlt, t_zgt, t_sw, zsw, t_iret, t_zret, t_aret, t_vret, zrg, List.getElem?_cons_zero, List.getElem?_cons_succ, List.set_cons_zero, List.set_cons_succ, List.length_cons, List.length_nil, Option.toList_some, Option.toList_none, List.nil_append, List.cons_append, true_and, and_true, true_or, or_true, Int.cast_ofNat_Int, Int.natCast_zero, Int.natCast_one, zsh_56, zsh_57, zsh_58, zsh_59, zsh_60, zsh_61, zsh_62, zsh_63, zsh_64, zsh_65, zsh_66, zsh_67, zsh_68, zsh_69, zsh_70, zsh_71, zsh_72, zsh_73, zsh_74, zsh_75, zsh_76, zsh_77, zsh_78, zsh_79, zsh_80, zsh_81, zsh_82, zsh_83, zsh_84, zsh_85, zsh_86, zsh_87, zup_ne, zup_eq, zup_nf, ne_eq, not_false_eq_true]
      rw [q56, q77]
      refine ⟨by omega, by omega, fun _ => ⟨by omega, by omega, ?_⟩, fun w => by omega⟩
      refine ih (i + 1) _ (by omega) (fun c hc => by rw [zup_ne _ hc]; exact k2 c hc) (fun j hj => by rw [zup_nf (by omega)]; exact k3 j hj) (fun j x hj hx => ?_)
      by_cases e : j = i
      · subst e
        rw [zup_eq]
        rw [List.getElem?_eq_getElem hi] at hx
        exact Option.some.inj hx
      · rw [zup_nf (by omega)]
        exact k4 j x (by omega) hx
  simp only [b_X11_enter_0, b_X11_enter_32, b_X11_enter_41, b_X11_enter_66, o_c, o_il, o_al, o_is, o_as, o_inc, o_add, o_sub, o_mul, o_and, o_or, o_xor, o_shl, o_shr, o_ush, o_rem, o_dup, o_dup2, o_gf, o_pf, o_pz, o_iald, o_iast, o_zald, o_zast, o_aald, o_gs, o_min, o_acp, o_call, o_callv, zgf, zpf, zia_, zza_, zra_, zrd_, zcp_, zpop, zsm8_0, zsm8_1, zsm8_2, zsm8_3, zsm8_4, zsm8_5, zrc, zisob, t_ieq, t_ilt, t_igt, t_zeq, t_zlt, t_zgt, t_sw, zsw, t_iret, t_zret, t_aret, t_vret, zrg, List.getElem?_cons_zero, List.getElem?_cons_succ, List.set_cons_zero, List.set_cons_succ, List.length_cons, List.length_nil, Option.toList_some, Option.toList_none, List.nil_append, List.cons_append, true_and, and_true, true_or, or_true, Int.cast_ofNat_Int, Int.natCast_zero, Int.natCast_one, zsh_56, zsh_57, zsh_58, zsh_59, zsh_60, zsh_61, zsh_62, zsh_63, zsh_64, zsh_65, zsh_66, zsh_67, zsh_68, zsh_69, zsh_70, zsh_71, zsh_72, zsh_73, zsh_74, zsh_75, zsh_76, zsh_77, zsh_78, zsh_79, zsh_80, zsh_81, zsh_82, zsh_83, zsh_84, zsh_85, zsh_86, zsh_87, zup_ne, zup_eq, zup_nf, ne_eq, not_false_eq_true]
  rw [h1, ← hk, zup_ne 56 (by decide), r1]
  refine ⟨by omega, by omega, by omega, ?_⟩
  rw [← hμ0]
  refine loop D.length 0 μ0 (by omega) (fun c hc => rfl) (fun j hj => ?_) (fun j x hj hx => by omega)
  rw [hμ0, zup_ne _ (by decide), zup_ne _ (by decide)]
