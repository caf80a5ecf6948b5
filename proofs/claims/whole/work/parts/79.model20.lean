/-! THE REFERENCE: rows of folders and shards -/
/-- by rising titles -/
def zbt (n : Nat) (S : List zPp) : List zPp := (List.range n).flatMap (fun i : Nat => S.filter (fun q => decide (q.1 = (i : Int) + 1)))
theorem zbt_snoc (n : Nat) (S : List zPp) : zbt (n + 1) S = zbt n S ++ S.filter (fun q => decide (q.1 = (n : Int) + 1)) := by
  unfold zbt
  rw [List.range_succ, List.flatMap_append]
  simp
theorem zcp_add {P Q R : zPp → Bool} (h : ∀ q, (if R q = true then 1 else 0 : Nat) = (if P q = true then 1 else 0) + (if Q q = true then 1 else 0)) : ∀ S : List zPp, S.countP R = S.countP P + S.countP Q := by
  intro S
  induction S with
  | nil => rfl
  | cons a r ih =>
    rw [List.countP_cons, List.countP_cons, List.countP_cons, ih, h a]
    omega
theorem zbt_len (S : List zPp) : ∀ n : Nat, (zbt n S).length = S.countP (fun q => decide (1 ≤ q.1 ∧ q.1 ≤ (n : Int))) := by
  intro n
  induction n with
  | zero =>
    symm
    rw [List.countP_eq_zero.mpr (fun q _ => by simp; omega)]
    simp [zbt]
  | succ n ih =>
    rw [zbt_snoc, List.length_append, ih, ← List.countP_eq_length_filter]
    symm
    refine zcp_add (fun q => ?_) S
    simp only [decide_eq_true_eq]
    split <;> split <;> split <;> omega
theorem zsl_take (T : List zPp) (s i : Nat) (p x : Int) : ((zsl (T.take i) s p).filter (fun q => decide (q.1 = x))).length ≤ ((zsl T s p).filter (fun q => decide (q.1 = x))).length := by
  unfold zsl
  exact (((List.take_sublist i T).filter _).filter _).length_le
theorem zbt_bd (T : List zPp) (s n i : Nat) (p : Int) : (zbt n (zsl T s p) ++ (zsl (T.take i) s p).filter (fun q => decide (q.1 = (n : Int) + 1))).length ≤ (zsl T s p).length := by
  have h1 := zsl_take T s i p ((n : Int) + 1)
  have h2 : (zbt (n + 1) (zsl T s p)).length ≤ (zsl T s p).length := by
    rw [zbt_len]; exact List.countP_le_length
  rw [zbt_snoc, List.length_append] at h2
  rw [List.length_append]
  omega
set_option maxRecDepth 100000 in
set_option maxHeartbeats 4000000 in
theorem c_X11_folderRow {d s : Nat} {μ : zM} {T : List zPp} {p : Int} (hd : 2 ≤ d) (h : zmT μ T) (hs : s ≤ 4) (hp : zrg p) (h4 : (zsl T s p).length ≤ 4) : zCt d mX11_folderRow [.inr (some 56), .inl (s : Int), .inl p] μ (fun v μ' => v = none ∧ zmR μ' (2 :: ((zsl T s p).length : Int) :: (zbt 255 (zsl T s p)).flatMap zfpt) ∧ zF [77] [24] μ μ') := by
  have hl := h.2.1
  have hp0 := hp
  unfold zrg at hp
  obtain ⟨S, hS⟩ : ∃ S, S = zsl T s p := ⟨_, rfl⟩
  refine of_X11_folderRow (by omega) (fun G hG => s_X11_folderRow_0 hG ?_)
  rw [← hS] at h4 hG
  have outer : ∀ (r n : Nat) (μ2 : zM) (x4 : zV), n + r = 255 → zmR μ2 (2 :: (S.length : Int) :: (zbt n S).flatMap zfpt) → zF [77] [24] μ μ2 → G 22 [.inr (some 56), .inl (s : Int), .inl p, .inl ((n : Int) + 1), x4] [] μ2 := by
    intro r
    induction r with
    | zero =>
      intro n μ2 x4 k1 k2 k3
      have e : n = 255 := by omega
      subst e
      refine s_X11_folderRow_22 hG ?_
      simp only [b_X11_folderRow_0, b_X11_folderRow_22, b_X11_folderRow_29, b_X11_folderRow_32, b_X11_folderRow_41, b_X11_folderRow_52, b_X11_folderRow_68, b_X11_folderRow_71, b_X11_folderRow_87, b_X11_folderRow_93, b_X11_folderRow_99, o_c, o_il, o_al, o_is, o_as, o_inc, o_add, o_sub, o_mul, o_and, o_or, o_xor, o_shl, o_shr, o_ush, o_rem, o_dup, o_dup2, o_gf, o_pf, o_pz, o_iald, o_iast, o_zald, o_zast, o_aald, o_gs, o_min, o_acp, o_call, o_callv, zgf, zpf, zia_, zza_, zra_, zrd_, zcp_, zpop, zsm8_0, zsm8_1, zsm8_2, zsm8_3, zsm8_4, zsm8_5, zrc, zisob, t_ieq, t_ilt, t_igt, t_zeq, t_zlt, t_zgt, t_sw, zsw, t_iret, t_zret, t_aret, t_vret, zrg, List.getElem?_cons_zero, List.getElem?_cons_succ, List.set_cons_zero, List.set_cons_succ, List.length_cons, List.length_nil, Option.toList_some, Option.toList_none, List.nil_append, List.cons_append, true_and, and_true, true_or, or_true, Int.cast_ofNat_Int, Int.natCast_zero, Int.natCast_one, zsh_56, zsh_57, zsh_58, zsh_59, zsh_60, zsh_61, zsh_62, zsh_63, zsh_64, zsh_65, zsh_66, zsh_67, zsh_68, zsh_69, zsh_70, zsh_71, zsh_72, zsh_73, zsh_74, zsh_75, zsh_76, zsh_77, zsh_78, zsh_79, zsh_80, zsh_81, zsh_82, zsh_83, zsh_84, zsh_85, zsh_86, zsh_87, zup_ne, zup_eq, zup_nf, ne_eq, not_false_eq_true]
      exact ⟨by omega, by omega, fun _ => ⟨k2, k3⟩, fun w => by omega⟩
    | succ r ih =>
      intro n μ2 x4 k1 k2 k3
      have inner : ∀ (q i : Nat) (μ3 : zM), i + q = T.length → zmR μ3 (2 :: (S.length : Int) :: (zbt n S ++ (zsl (T.take i) s p).filter (fun q => decide (q.1 = (n : Int) + 1))).flatMap zfpt) → zF [77] [24] μ μ3 → G 32 [.inr (some 56), .inl (s : Int), .inl p, .inl ((n : Int) + 1), .inl (i : Int)] [] μ3 := by
        intro q
        induction q with
        | zero =>
          intro i μ3 j1 j2 j3
          have hT3 : μ3 56 20 = T.length := by rw [j3.2 20 (by simp)]; exact h.1
          rw [List.take_of_length_le (by omega), ← hS, ← zbt_snoc] at j2
          refine s_X11_folderRow_32 hG ?_
          simp only [b_X11_folderRow_0, b_X11_folderRow_22, b_X11_folderRow_29, b_X11_folderRow_32, b_X11_folderRow_41, b_X11_folderRow_52, b_X11_folderRow_68, b_X11_folderRow_71, b_X11_folderRow_87, b_X11_folderRow_93, b_X11_folderRow_99, o_c, o_il, o_al, o_is, o_as, o_inc, o_add, o_sub, o_mul, o_and, o_or, o_xor, o_shl, o_shr, o_ush, o_rem, o_dup, o_dup2, o_gf, o_pf, o_pz, o_iald, o_iast, o_zald, o_zast, o_aald, o_gs, o_min, o_acp, o_call, o_callv, zgf, zpf, zia_, zza_, zra_, zrd_, zcp_, zpop, zsm8_0, zsm8_1, zsm8_2, zsm8_3, zsm8_4, zsm8_5, zrc, zisob, t_ieq, t_ilt, t_igt, t_zeq, t_zlt, t_zgt, t_sw, zsw, t_iret, t_zret, t_aret, t_vret, zrg, List.getElem?_cons_zero, List.getElem?_cons_succ, List.set_cons_zero, List.set_cons_succ, List.length_cons, List.length_nil, Option.toList_some, Option.toList_none, List.nil_append, List.cons_append, true_and, and_true, true_or, or_true, Int.cast_ofNat_Int, Int.natCast_zero, Int.natCast_one, zsh_56, zsh_57, zsh_58, zsh_59, zsh_60, zsh_61, zsh_62, zsh_63, zsh_64, zsh_65, zsh_66, zsh_67, zsh_68, zsh_69, zsh_70, zsh_71, zsh_72, zsh_73, zsh_74, zsh_75, zsh_76, zsh_77, zsh_78, zsh_79, zsh_80, zsh_81, zsh_82, zsh_83, zsh_84, zsh_85, zsh_86, zsh_87, zup_ne, zup_eq, zup_nf, ne_eq, not_false_eq_true]
          rw [hT3]
          refine ⟨by omega, by omega, fun w => by omega, fun _ => ?_⟩
          have nx := ih (n + 1) μ3 (.inl (i : Int)) (by omega) j2 j3
          rw [show (((n + 1 : Nat)) : Int) + 1 = (n : Int) + 1 + 1 by omega] at nx
          exact nx
        | succ q ihq =>
          intro i μ3 j1 j2 j3
          have hi : i < T.length := by omega
          have hT3 : zmT μ3 T := h.e (fun c c1 c2 => j3.1 c (by simp; omega) (by omega)) (j3.2 20 (by simp))
          obtain ⟨a1, a2, a3, a4⟩ := hT3.at (List.getElem?_eq_getElem hi)
          have et : T.take (i + 1) = T.take i ++ [T[i]] := by rw [List.take_succ]; simp [hi]
          have nx := fun μ4 => ihq (i + 1) μ4 (by omega)
          have ez : ∀ b : Bool, (decide (37 * T[i].1 % 256 % 4 ^ s = p) && decide (T[i].1 = (n : Int) + 1)) = b → (zsl (T.take (i + 1)) s p).filter (fun q => decide (q.1 = (n : Int) + 1)) = (zsl (T.take i) s p).filter (fun q => decide (q.1 = (n : Int) + 1)) ++ (if b then [T[i]] else []) := fun b hb => by
            unfold zsl
            rw [et, List.filter_append, List.filter_append]
            congr 1
            subst hb
            by_cases u1 : 37 * T[i].1 % 256 % 4 ^ s = p
            · by_cases u2 : T[i].1 = (n : Int) + 1
              · simp [u1, u2, List.filter_cons]
              · simp [u1, u2, List.filter_cons]
            · simp [u1, List.filter_cons]
          rw [show (((i + 1 : Nat)) : Int) = (i : Int) + 1 by omega] at nx
          have skip : (decide (37 * T[i].1 % 256 % 4 ^ s = p) && decide (T[i].1 = (n : Int) + 1)) = false → G 32 [.inr (some 56), .inl (s : Int), .inl p, .inl ((n : Int) + 1), .inl ((i : Int) + 1)] [] μ3 := fun hb => by
            refine nx μ3 ?_ j3
            rw [ez false hb]
            simpa using j2
          refine s_X11_folderRow_32 hG ?_
          simp only [b_X11_folderRow_0, b_X11_folderRow_22, b_X11_folderRow_29, b_X11_folderRow_32, b_X11_folderRow_41, b_X11_folderRow_52, b_X11_folderRow_68, b_X11_folderRow_71, b_X11_folderRow_87, b_X11_folderRow_93, b_X11_folderRow_99, o_c, o_il, o_al, o_is, o_as, o_inc, o_add, o_sub, o_mul, o_and, o_or, o_xor, o_shl, o_shr, o_ush, o_rem, o_dup, o_dup2, o_gf, o_pf, o_pz, o_iald, o_iast, o_zald, o_zast, o_aald, o_gs, o_min, o_acp, o_call, o_callv, zgf, zpf, zia_, zza_, zra_, zrd_, zcp_, zpop, zsm8_0, zsm8_1, zsm8_2, zsm8_3, zsm8_4, zsm8_5, zrc, zisob, t_ieq, t_ilt, t_igt, t_zeq, t_zlt, t_zgt, t_sw, zsw, t_iret, t_zret, t_aret, t_vret, zrg, List.getElem?_cons_zero, List.getElem?_cons_succ, List.set_cons_zero, List.set_cons_succ, List.length_cons, List.length_nil, Option.toList_some, Option.toList_none, List.nil_append, List.cons_append, true_and, and_true, true_or, or_true, Int.cast_ofNat_Int, Int.natCast_zero, Int.natCast_one, zsh_56, zsh_57, zsh_58, zsh_59, zsh_60, zsh_61, zsh_62, zsh_63, zsh_64, zsh_65, zsh_66, zsh_67, zsh_68, zsh_69, zsh_70, zsh_71, zsh_72, zsh_73, zsh_74, zsh_75, zsh_76, zsh_77, zsh_78, zsh_79, zsh_80, zsh_81, zsh_82, zsh_83, zsh_84, zsh_85, zsh_86, zsh_87, zup_ne, zup_eq, zup_nf, ne_eq, not_false_eq_true]
          rw [hT3.1, a1]
          refine ⟨by omega, by omega, fun _ => ⟨by omega, by omega, by omega, fun w => ?_, fun w => ?_⟩, fun w => by omega⟩
          · refine zcall c_X11_hash ?_
            simp only [b_X11_folderRow_0, b_X11_folderRow_22, b_X11_folderRow_29, b_X11_folderRow_32, b_X11_folderRow_41, b_X11_folderRow_52, b_X11_folderRow_68, b_X11_folderRow_71, b_X11_folderRow_87, b_X11_folderRow_93, b_X11_folderRow_99, o_c, o_il, o_al, o_is, o_as, o_inc, o_add, o_sub, o_mul, o_and, o_or, o_xor, o_shl, o_shr, o_ush, o_rem, o_dup, o_dup2, o_gf, o_pf, o_pz, o_iald, o_iast, o_zald, o_zast, o_aald, o_gs, o_min, o_acp, o_call, o_callv, zgf, zpf, zia_, zza_, zra_, zrd_, zcp_, zpop, zsm8_0, zsm8_1, zsm8_2, zsm8_3, zsm8_4, zsm8_5, zrc, zisob, t_ieq, t_ilt, t_igt, t_zeq, t_zlt, t_zgt, t_sw, zsw, t_iret, t_zret, t_aret, t_vret, zrg, List.getElem?_cons_zero, List.getElem?_cons_succ, List.set_cons_zero, List.set_cons_succ, List.length_cons, List.length_nil, Option.toList_some, Option.toList_none, List.nil_append, List.cons_append, true_and, and_true, true_or, or_true, Int.cast_ofNat_Int, Int.natCast_zero, Int.natCast_one, zsh_56, zsh_57, zsh_58, zsh_59, zsh_60, zsh_61, zsh_62, zsh_63, zsh_64, zsh_65, zsh_66, zsh_67, zsh_68, zsh_69, zsh_70, zsh_71, zsh_72, zsh_73, zsh_74, zsh_75, zsh_76, zsh_77, zsh_78, zsh_79, zsh_80, zsh_81, zsh_82, zsh_83, zsh_84, zsh_85, zsh_86, zsh_87, zup_ne, zup_eq, zup_nf, ne_eq, not_false_eq_true]
            have z1 := zm4_rg hs (37 * ((n : Int) + 1) % 256)
            rw [zm4 hs]
            refine ⟨by omega, by omega, fun w2 => ?_, fun w2 => ?_⟩
            · rw [← w] at w2
              have hb : (decide (37 * T[i].1 % 256 % 4 ^ s = p) && decide (T[i].1 = (n : Int) + 1)) = true := by rw [Bool.and_eq_true]; exact ⟨decide_eq_true w2, decide_eq_true w⟩
              have hbd := zbt_bd T s n (i + 1) p
              rw [ez true hb, ← hS] at hbd
              simp only [if_true, List.length_append, List.length_cons, List.length_nil] at hbd
              refine ⟨_, c_X11_push j2 (by simp only [List.length_cons, zfpt_len, List.length_append]; omega) ⟨by omega, by omega⟩, ?_⟩
              rintro v μ4 ⟨rfl, p1, p2⟩
              simp only [b_X11_folderRow_0, b_X11_folderRow_22, b_X11_folderRow_29, b_X11_folderRow_32, b_X11_folderRow_41, b_X11_folderRow_52, b_X11_folderRow_68, b_X11_folderRow_71, b_X11_folderRow_87, b_X11_folderRow_93, b_X11_folderRow_99, o_c, o_il, o_al, o_is, o_as, o_inc, o_add, o_sub, o_mul, o_and, o_or, o_xor, o_shl, o_shr, o_ush, o_rem, o_dup, o_dup2, o_gf, o_pf, o_pz, o_iald, o_iast, o_zald, o_zast, o_aald, o_gs, o_min, o_acp, o_call, o_callv, zgf, zpf, zia_, zza_, zra_, zrd_, zcp_, zpop, zsm8_0, zsm8_1, zsm8_2, zsm8_3, zsm8_4, zsm8_5, zrc, zisob, t_ieq, t_ilt, t_igt, t_zeq, t_zlt, t_zgt, t_sw, zsw, t_iret, t_zret, t_aret, t_vret, zrg, List.getElem?_cons_zero, List.getElem?_cons_succ, List.set_cons_zero, List.set_cons_succ, List.length_cons, List.length_nil, Option.toList_some, Option.toList_none, List.nil_append, List.cons_append, true_and, and_true, true_or, or_true, Int.cast_ofNat_Int, Int.natCast_zero, Int.natCast_one, zsh_56, zsh_57, zsh_58, zsh_59, zsh_60, zsh_61, zsh_62, zsh_63, zsh_64, zsh_65, zsh_66, zsh_67, zsh_68, zsh_69, zsh_70, zsh_71, zsh_72, zsh_73, zsh_74, zsh_75, zsh_76, zsh_77, zsh_78, zsh_79, zsh_80, zsh_81, zsh_82, zsh_83, zsh_84, zsh_85, zsh_86, zsh_87, zup_ne, zup_eq, zup_nf, ne_eq, not_false_eq_true]
              have e76 : μ4 76 i = T[i].2 := by rw [p2.1 76 (by simp) (by decide)]; exact a2
              rw [e76]
              refine ⟨by omega, ?_⟩
              refine ⟨_, c_X11_addTwo (by omega) p1 (by simp only [List.length_cons, zfpt_len, List.length_append, List.length_nil]; omega) ⟨by omega, by omega⟩, ?_⟩
              rintro v μ5 ⟨rfl, p3, p4⟩
              simp only [b_X11_folderRow_0, b_X11_folderRow_22, b_X11_folderRow_29, b_X11_folderRow_32, b_X11_folderRow_41, b_X11_folderRow_52, b_X11_folderRow_68, b_X11_folderRow_71, b_X11_folderRow_87, b_X11_folderRow_93, b_X11_folderRow_99, o_c, o_il, o_al, o_is, o_as, o_inc, o_add, o_sub, o_mul, o_and, o_or, o_xor, o_shl, o_shr, o_ush, o_rem, o_dup, o_dup2, o_gf, o_pf, o_pz, o_iald, o_iast, o_zald, o_zast, o_aald, o_gs, o_min, o_acp, o_call, o_callv, zgf, zpf, zia_, zza_, zra_, zrd_, zcp_, zpop, zsm8_0, zsm8_1, zsm8_2, zsm8_3, zsm8_4, zsm8_5, zrc, zisob, t_ieq, t_ilt, t_igt, t_zeq, t_zlt, t_zgt, t_sw, zsw, t_iret, t_zret, t_aret, t_vret, zrg, List.getElem?_cons_zero, List.getElem?_cons_succ, List.set_cons_zero, List.set_cons_succ, List.length_cons, List.length_nil, Option.toList_some, Option.toList_none, List.nil_append, List.cons_append, true_and, and_true, true_or, or_true, Int.cast_ofNat_Int, Int.natCast_zero, Int.natCast_one, zsh_56, zsh_57, zsh_58, zsh_59, zsh_60, zsh_61, zsh_62, zsh_63, zsh_64, zsh_65, zsh_66, zsh_67, zsh_68, zsh_69, zsh_70, zsh_71, zsh_72, zsh_73, zsh_74, zsh_75, zsh_76, zsh_77, zsh_78, zsh_79, zsh_80, zsh_81, zsh_82, zsh_83, zsh_84, zsh_85, zsh_86, zsh_87, zup_ne, zup_eq, zup_nf, ne_eq, not_false_eq_true]
              refine nx μ5 ?_ ((j3.trans p2).trans p4)
              rw [ez true hb]
              have e1 : [T[i]].flatMap zfpt = [(n : Int) + 1, T[i].2 % 256, T[i].2 / 256] := by simp [zfpt, w]
              simp only [if_true]
              rw [← List.append_assoc, List.flatMap_append, e1]
              simpa using p3
            · refine skip ?_
              rw [← w] at w2
              simp [w2]
          · refine skip ?_
            simp [w]
      refine s_X11_folderRow_22 hG ?_
      simp only [b_X11_folderRow_0, b_X11_folderRow_22, b_X11_folderRow_29, b_X11_folderRow_32, b_X11_folderRow_41, b_X11_folderRow_52, b_X11_folderRow_68, b_X11_folderRow_71, b_X11_folderRow_87, b_X11_folderRow_93, b_X11_folderRow_99, o_c, o_il, o_al, o_is, o_as, o_inc, o_add, o_sub, o_mul, o_and, o_or, o_xor, o_shl, o_shr, o_ush, o_rem, o_dup, o_dup2, o_gf, o_pf, o_pz, o_iald, o_iast, o_zald, o_zast, o_aald, o_gs, o_min, o_acp, o_call, o_callv, zgf, zpf, zia_, zza_, zra_, zrd_, zcp_, zpop, zsm8_0, zsm8_1, zsm8_2, zsm8_3, zsm8_4, zsm8_5, zrc, zisob, t_ieq, t_ilt, t_igt, t_zeq, t_zlt, t_zgt, t_sw, zsw, t_iret, t_zret, t_aret, t_vret, zrg, List.getElem?_cons_zero, List.getElem?_cons_succ, List.set_cons_zero, List.set_cons_succ, List.length_cons, List.length_nil, Option.toList_some, Option.toList_none, List.nil_append, List.cons_append, true_and, and_true, true_or, or_true, Int.cast_ofNat_Int, Int.natCast_zero, Int.natCast_one, zsh_56, zsh_57, zsh_58, zsh_59, zsh_60, zsh_61, zsh_62, zsh_63, zsh_64, zsh_65, zsh_66, zsh_67, zsh_68, zsh_69, zsh_70, zsh_71, zsh_72, zsh_73, zsh_74, zsh_75, zsh_76, zsh_77, zsh_78, zsh_79, zsh_80, zsh_81, zsh_82, zsh_83, zsh_84, zsh_85, zsh_86, zsh_87, zup_ne, zup_eq, zup_nf, ne_eq, not_false_eq_true]
      refine ⟨by omega, by omega, fun w => by omega, fun _ => ?_⟩
      refine inner T.length 0 μ2 (by omega) ?_ k3
      simpa [zsl] using k2
  simp only [b_X11_folderRow_0, b_X11_folderRow_22, b_X11_folderRow_29, b_X11_folderRow_32, b_X11_folderRow_41, b_X11_folderRow_52, b_X11_folderRow_68, b_X11_folderRow_71, b_X11_folderRow_87, b_X11_folderRow_93, b_X11_folderRow_99, o_c, o_il, o_al, o_is, o_as, o_inc, o_add, o_sub, o_mul, o_and, o_or, o_xor, o_shl, o_shr, o_ush, o_rem, o_dup, o_dup2, o_gf, o_pf, o_pz, o_iald, o_iast, o_zald, o_zast, o_aald, o_gs, o_min, o_acp, o_call, o_callv, zgf, zpf, zia_, zza_, zra_, zrd_, zcp_, zpop, zsm8_0, zsm8_1, zsm8_2, zsm8_3, zsm8_4, zsm8_5, zrc, zisob, t_ieq, t_ilt, t_igt, t_zeq, t_zlt, t_zgt, t_sw, zsw, t_iret, t_zret, t_aret, t_vret, zrg, List.getElem?_cons_zero, List.getElem?_cons_succ, List.set_cons_zero, List.set_cons_succ, List.length_cons, List.length_nil, Option.toList_some, Option.toList_none, List.nil_append, List.cons_append, true_and, and_true, true_or, or_true, Int.cast_ofNat_Int, Int.natCast_zero, Int.natCast_one, zsh_56, zsh_57, zsh_58, zsh_59, zsh_60, zsh_61, zsh_62, zsh_63, zsh_64, zsh_65, zsh_66, zsh_67, zsh_68, zsh_69, zsh_70, zsh_71, zsh_72, zsh_73, zsh_74, zsh_75, zsh_76, zsh_77, zsh_78, zsh_79, zsh_80, zsh_81, zsh_82, zsh_83, zsh_84, zsh_85, zsh_86, zsh_87, zup_ne, zup_eq, zup_nf, ne_eq, not_false_eq_true]
  refine ⟨_, c_X11_push (B := []) (zmR.nil zup_eq) (by simp) ⟨by omega, by omega⟩, ?_⟩
  rintro v μ1 ⟨rfl, p1, p2⟩
  simp only [b_X11_folderRow_0, b_X11_folderRow_22, b_X11_folderRow_29, b_X11_folderRow_32, b_X11_folderRow_41, b_X11_folderRow_52, b_X11_folderRow_68, b_X11_folderRow_71, b_X11_folderRow_87, b_X11_folderRow_93, b_X11_folderRow_99, o_c, o_il, o_al, o_is, o_as, o_inc, o_add, o_sub, o_mul, o_and, o_or, o_xor, o_shl, o_shr, o_ush, o_rem, o_dup, o_dup2, o_gf, o_pf, o_pz, o_iald, o_iast, o_zald, o_zast, o_aald, o_gs, o_min, o_acp, o_call, o_callv, zgf, zpf, zia_, zza_, zra_, zrd_, zcp_, zpop, zsm8_0, zsm8_1, zsm8_2, zsm8_3, zsm8_4, zsm8_5, zrc, zisob, t_ieq, t_ilt, t_igt, t_zeq, t_zlt, t_zgt, t_sw, zsw, t_iret, t_zret, t_aret, t_vret, zrg, List.getElem?_cons_zero, List.getElem?_cons_succ, List.set_cons_zero, List.set_cons_succ, List.length_cons, List.length_nil, Option.toList_some, Option.toList_none, List.nil_append, List.cons_append, true_and, and_true, true_or, or_true, Int.cast_ofNat_Int, Int.natCast_zero, Int.natCast_one, zsh_56, zsh_57, zsh_58, zsh_59, zsh_60, zsh_61, zsh_62, zsh_63, zsh_64, zsh_65, zsh_66, zsh_67, zsh_68, zsh_69, zsh_70, zsh_71, zsh_72, zsh_73, zsh_74, zsh_75, zsh_76, zsh_77, zsh_78, zsh_79, zsh_80, zsh_81, zsh_82, zsh_83, zsh_84, zsh_85, zsh_86, zsh_87, zup_ne, zup_eq, zup_nf, ne_eq, not_false_eq_true]
  have f0 : zF [77] [24] μ (zup μ 56 24 0) := (zF.refl _ _ _).v (by simp)
  have f1 := f0.trans p2
  have hT1 : zmT μ1 T := h.e (fun c c1 c2 => f1.1 c (by simp; omega) (by omega)) (f1.2 20 (by simp))
  refine zcall (c_X11_countOf (by omega) hT1 hs hp0) ?_
  simp only [b_X11_folderRow_0, b_X11_folderRow_22, b_X11_folderRow_29, b_X11_folderRow_32, b_X11_folderRow_41, b_X11_folderRow_52, b_X11_folderRow_68, b_X11_folderRow_71, b_X11_folderRow_87, b_X11_folderRow_93, b_X11_folderRow_99, o_c, o_il, o_al, o_is, o_as, o_inc, o_add, o_sub, o_mul, o_and, o_or, o_xor, o_shl, o_shr, o_ush, o_rem, o_dup, o_dup2, o_gf, o_pf, o_pz, o_iald, o_iast, o_zald, o_zast, o_aald, o_gs, o_min, o_acp, o_call, o_callv, zgf, zpf, zia_, zza_, zra_, zrd_, zcp_, zpop, zsm8_0, zsm8_1, zsm8_2, zsm8_3, zsm8_4, zsm8_5, zrc, zisob, t_ieq, t_ilt, t_igt, t_zeq, t_zlt, t_zgt, t_sw, zsw, t_iret, t_zret, t_aret, t_vret, zrg, List.getElem?_cons_zero, List.getElem?_cons_succ, List.set_cons_zero, List.set_cons_succ, List.length_cons, List.length_nil, Option.toList_some, Option.toList_none, List.nil_append, List.cons_append, true_and, and_true, true_or, or_true, Int.cast_ofNat_Int, Int.natCast_zero, Int.natCast_one, zsh_56, zsh_57, zsh_58, zsh_59, zsh_60, zsh_61, zsh_62, zsh_63, zsh_64, zsh_65, zsh_66, zsh_67, zsh_68, zsh_69, zsh_70, zsh_71, zsh_72, zsh_73, zsh_74, zsh_75, zsh_76, zsh_77, zsh_78, zsh_79, zsh_80, zsh_81, zsh_82, zsh_83, zsh_84, zsh_85, zsh_86, zsh_87, zup_ne, zup_eq, zup_nf, ne_eq, not_false_eq_true]
  rw [← hS]
  refine ⟨_, c_X11_push p1 (by simp) ⟨by omega, by omega⟩, ?_⟩
  rintro v μ2 ⟨rfl, p3, p4⟩
  simp only [b_X11_folderRow_0, b_X11_folderRow_22, b_X11_folderRow_29, b_X11_folderRow_32, b_X11_folderRow_41, b_X11_folderRow_52, b_X11_folderRow_68, b_X11_folderRow_71, b_X11_folderRow_87, b_X11_folderRow_93, b_X11_folderRow_99, o_c, o_il, o_al, o_is, o_as, o_inc, o_add, o_sub, o_mul, o_and, o_or, o_xor, o_shl, o_shr, o_ush, o_rem, o_dup, o_dup2, o_gf, o_pf, o_pz, o_iald, o_iast, o_zald, o_zast, o_aald, o_gs, o_min, o_acp, o_call, o_callv, zgf, zpf, zia_, zza_, zra_, zrd_, zcp_, zpop, zsm8_0, zsm8_1, zsm8_2, zsm8_3, zsm8_4, zsm8_5, zrc, zisob, t_ieq, t_ilt, t_igt, t_zeq, t_zlt, t_zgt, t_sw, zsw, t_iret, t_zret, t_aret, t_vret, zrg, List.getElem?_cons_zero, List.getElem?_cons_succ, List.set_cons_zero, List.set_cons_succ, List.length_cons, List.length_nil, Option.toList_some, Option.toList_none, List.nil_append, List.cons_append, true_and, and_true, true_or, or_true, Int.cast_ofNat_Int, Int.natCast_zero, Int.natCast_one, zsh_56, zsh_57, zsh_58, zsh_59, zsh_60, zsh_61, zsh_62, zsh_63, zsh_64, zsh_65, zsh_66, zsh_67, zsh_68, zsh_69, zsh_70, zsh_71, zsh_72, zsh_73, zsh_74, zsh_75, zsh_76, zsh_77, zsh_78, zsh_79, zsh_80, zsh_81, zsh_82, zsh_83, zsh_84, zsh_85, zsh_86, zsh_87, zup_ne, zup_eq, zup_nf, ne_eq, not_false_eq_true]
  have := outer 255 0 μ2 (.inr none) (by omega) (by simpa [zbt] using p3) (f1.trans p4)
  simpa using this
theorem zq16 : ∀ (s : Fin 3) (p : Fin 16) (b : Fin 4), (p : Nat) < 4 ^ (s : Nat) → zor ((p : Nat) : Int) (zshl ((b : Nat) : Int) (2 * ((s : Nat) : Int))) = ((p : Nat) : Int) + ((b : Nat) : Int) * 4 ^ (s : Nat) := by decide +kernel
def zmb (T : List zPp) (s : Nat) (p : Int) : Nat → Nat
  | 0 => 0
  | b + 1 => zmb T s p b ||| (if zsl T (s + 1) (p + b * 4 ^ s) = [] then 0 else 2 ^ b)
theorem zmb_lt (T : List zPp) (s : Nat) (p : Int) : ∀ b, zmb T s p b < 2 ^ b := by
  intro b
  induction b with
  | zero => simp [zmb]
  | succ b ih =>
    simp only [zmb]
    refine Nat.or_lt_two_pow (Nat.lt_trans ih (Nat.pow_lt_pow_right (by omega) (by omega))) ?_
    split
    · exact Nat.two_pow_pos _
    · exact Nat.pow_lt_pow_right (by omega) (by omega)
def zsf (T : List zPp) (s : Nat) (p : Int) (lk : Nat → Int) (w : Nat) : List Int := if zsl T (s + 1) (p + w * 4 ^ s) = [] then [] else [lk w % 256, lk w / 256]
theorem zsf_len (T : List zPp) (s : Nat) (p : Int) (lk : Nat → Int) : ∀ b, ((List.range b).flatMap (zsf T s p lk)).length ≤ 2 * b := by
  intro b
  induction b with
  | zero => simp
  | succ b ih =>
    rw [List.range_succ, List.flatMap_append, List.length_append]
    have : ([b].flatMap (zsf T s p lk)).length ≤ 2 := by
      simp only [List.flatMap_cons, List.flatMap_nil, List.append_nil]
      unfold zsf
      split <;> simp
    omega
theorem zmR.bit {μ : zM} {X : List Int} {a m m' : Int} (h : zmR μ (a :: m :: X)) (hm : 0 ≤ m' ∧ m' ≤ 255) : zmR (zup μ 77 1 m') (a :: m' :: X) := by
  obtain ⟨h1, h2, h3, h4⟩ := h
  refine ⟨by rw [zup_ne 56 (by decide), h1]; simp, by simpa using h2, fun j x hj => ?_, fun x hx => ?_⟩
  · by_cases e : j = 1
    · subst e
      simp at hj
      rw [← hj]
      exact zup_eq
    · rw [zup_nf (by omega)]
      refine h3 j x ?_
      match j, e, hj with
      | 0, _, hj => exact hj
      | 1, e, _ => exact absurd rfl e
      | j + 2, _, hj => simpa using hj
  · simp only [List.mem_cons] at hx
    rcases hx with rfl | rfl | hx
    · exact h4 _ (by simp)
    · exact hm
    · exact h4 _ (by simp [hx])
set_option maxRecDepth 100000 in
set_option maxHeartbeats 4000000 in
theorem c_X11_shardRow {d s : Nat} {μ : zM} {T : List zPp} {p : Int} (hd : 2 ≤ d) (h : zmT μ T) (hs : s ≤ 2) (hp : 0 ≤ p ∧ p < 4 ^ s) (hn : ∀ w : Nat, w < 4 → zsl T (s + 1) (p + w * 4 ^ s) ≠ [] → 0 ≤ μ 87 (zfst (s + 1 : Int) + (p + w * 4 ^ s)) ∧ μ 87 (zfst (s + 1 : Int) + (p + w * 4 ^ s)) ≤ 65520) : zCt d mX11_shardRow [.inr (some 56), .inl (s : Int), .inl p] μ (fun v μ' => v = none ∧ zmR μ' (3 :: (zmb T s p 4 : Int) :: (List.range 4).flatMap (zsf T s p (fun w => μ 87 (zfst (s + 1 : Int) + (p + w * 4 ^ s))))) ∧ zF [77] [24] μ μ') := by
  have hl := h.2.1
  have hs3 : s = 0 ∨ s = 1 ∨ s = 2 := by omega
  have h16 : (4 : Int) ^ s ≤ 16 ∧ (1 : Int) ≤ 4 ^ s := by rcases hs3 with rfl | rfl | rfl <;> decide
  have hfs : ∀ w : Nat, w < 4 → 0 ≤ zfst (s + 1 : Int) + (p + w * 4 ^ s) ∧ zfst (s + 1 : Int) + (p + w * 4 ^ s) < 85 ∧ (0 ≤ p + (w : Int) * 4 ^ s ∧ p + (w : Int) * 4 ^ s ≤ 255) := fun w hw => by
    rcases hs3 with rfl | rfl | rfl
    · rw [show zfst (((0 : Nat) : Int) + 1) = 1 by decide]; simp only [Int.reducePow] at hp ⊢; omega
    · rw [show zfst (((1 : Nat) : Int) + 1) = 5 by decide]; simp only [Int.reducePow] at hp ⊢; omega
    · rw [show zfst (((2 : Nat) : Int) + 1) = 21 by decide]; simp only [Int.reducePow] at hp ⊢; omega
  have hor : ∀ w : Nat, w < 4 → zor p (zshl (w : Int) (2 * (s : Int))) = p + (w : Int) * 4 ^ s := fun w hw => by
    obtain ⟨pn, rfl⟩ := Int.eq_ofNat_of_zero_le hp.1
    have hlt : pn < 4 ^ s := by have := hp.2; exact_mod_cast this
    have := zq16 ⟨s, by omega⟩ ⟨pn, by omega⟩ ⟨w, hw⟩ hlt
    exact this
  have h2b : ∀ w : Nat, w < 4 → zshl 1 (w : Int) = ((2 ^ w : Nat) : Int) := fun w hw => by
    have := zshl_nat (a := 1) (s := w) (by omega) (by
      have : 2 ^ w ≤ 2 ^ 4 := Nat.pow_le_pow_right (by omega) (by omega)
      omega)
    simpa using this
  obtain ⟨lk, hlk⟩ : ∃ lk : Nat → Int, lk = (fun w : Nat => μ 87 (zfst (s + 1 : Int) + (p + w * 4 ^ s))) := ⟨_, rfl⟩
  rw [← hlk]
  refine of_X11_shardRow (by omega) (fun G hG => s_X11_shardRow_0 hG ?_)
  have loop : ∀ (r b : Nat) (μ2 : zM) (x4 : zV), b + r = 4 → zmR μ2 (3 :: (zmb T s p b : Int) :: (List.range b).flatMap (zsf T s p lk)) → zF [77] [24] μ μ2 → G 17 [.inr (some 56), .inl (s : Int), .inl p, .inl (b : Int), x4] [] μ2 := by
    intro r
    induction r with
    | zero =>
      intro b μ2 x4 k1 k2 k3
      have e : b = 4 := by omega
      subst e
      refine s_X11_shardRow_17 hG ?_
      simp only [b_X11_shardRow_0, b_X11_shardRow_17, b_X11_shardRow_22, b_X11_shardRow_43, b_X11_shardRow_46, b_X11_shardRow_76, b_X11_shardRow_82, o_c, o_il, o_al, o_is, o_as, o_inc, o_add, o_sub, o_mul, o_and, o_or, o_xor, o_shl, o_shr, o_ush, o_rem, o_dup, o_dup2, o_gf, o_pf, o_pz, o_iald, o_iast, o_zald, o_zast, o_aald, o_gs, o_min, o_acp, o_call, o_callv, zgf, zpf, zia_, zza_, zra_, zrd_, zcp_, zpop, zsm8_0, zsm8_1, zsm8_2, zsm8_3, zsm8_4, zsm8_5, zrc, zisob, t_ieq, t_ilt, t_igt, t_zeq, t_zlt, t_zgt, t_sw, zsw, t_iret, t_zret, t_aret, t_vret, zrg, List.getElem?_cons_zero, List.getElem?_cons_succ, List.set_cons_zero, List.set_cons_succ, List.length_cons, List.length_nil, Option.toList_some, Option.toList_none, List.nil_append, List.cons_append, true_and, and_true, true_or, or_true, Int.cast_ofNat_Int, Int.natCast_zero, Int.natCast_one, zsh_56, zsh_57, zsh_58, zsh_59, zsh_60, zsh_61, zsh_62, zsh_63, zsh_64, zsh_65, zsh_66, zsh_67, zsh_68, zsh_69, zsh_70, zsh_71, zsh_72, zsh_73, zsh_74, zsh_75, zsh_76, zsh_77, zsh_78, zsh_79, zsh_80, zsh_81, zsh_82, zsh_83, zsh_84, zsh_85, zsh_86, zsh_87, zup_ne, zup_eq, zup_nf, ne_eq, not_false_eq_true]
      exact ⟨by omega, by omega, fun w => by omega, fun _ => ⟨k2, k3⟩⟩
    | succ r ih =>
      intro b μ2 x4 k1 k2 k3
      have hb : b < 4 := by omega
      have hT2 : zmT μ2 T := h.e (fun c c1 c2 => k3.1 c (by simp; omega) (by omega)) (k3.2 20 (by simp))
      obtain ⟨f1, f2, f3⟩ := hfs b hb
      have nx := fun μ3 x => ih (b + 1) μ3 x (by omega)
      rw [show (((b + 1 : Nat)) : Int) = (b : Int) + 1 by omega] at nx
      have hmb := zmb_lt T s p b
      have hmb4 : zmb T s p b < 16 := Nat.lt_of_lt_of_le hmb (by have : 2 ^ b ≤ 2 ^ 4 := Nat.pow_le_pow_right (by omega) (by omega); omega)
      refine s_X11_shardRow_17 hG ?_
      simp only [b_X11_shardRow_0, b_X11_shardRow_17, b_X11_shardRow_22, b_X11_shardRow_43, b_X11_shardRow_46, b_X11_shardRow_76, b_X11_shardRow_82, o_c, o_il, o_al, o_is, o_as, o_inc, o_add, o_sub, o_mul, o_and, o_or, o_xor, o_shl, o_shr, o_ush, o_rem, o_dup, o_dup2, o_gf, o_pf, o_pz, o_iald, o_iast, o_zald, o_zast, o_aald, o_gs, o_min, o_acp, o_call, o_callv, zgf, zpf, zia_, zza_, zra_, zrd_, zcp_, zpop, zsm8_0, zsm8_1, zsm8_2, zsm8_3, zsm8_4, zsm8_5, zrc, zisob, t_ieq, t_ilt, t_igt, t_zeq, t_zlt, t_zgt, t_sw, zsw, t_iret, t_zret, t_aret, t_vret, zrg, List.getElem?_cons_zero, List.getElem?_cons_succ, List.set_cons_zero, List.set_cons_succ, List.length_cons, List.length_nil, Option.toList_some, Option.toList_none, List.nil_append, List.cons_append, true_and, and_true, true_or, or_true, Int.cast_ofNat_Int, Int.natCast_zero, Int.natCast_one, zsh_56, zsh_57, zsh_58, zsh_59, zsh_60, zsh_61, zsh_62, zsh_63, zsh_64, zsh_65, zsh_66, zsh_67, zsh_68, zsh_69, zsh_70, zsh_71, zsh_72, zsh_73, zsh_74, zsh_75, zsh_76, zsh_77, zsh_78, zsh_79, zsh_80, zsh_81, zsh_82, zsh_83, zsh_84, zsh_85, zsh_86, zsh_87, zup_ne, zup_eq, zup_nf, ne_eq, not_false_eq_true]
      rw [hor b hb]
      refine ⟨by omega, by omega, fun _ => ?_, fun w => by omega⟩
      have cnt := c_X11_countOf (d := d - 1) (s := s + 1) (p := p + (b : Int) * 4 ^ s) (by omega) hT2 (by omega) ⟨by omega, by omega⟩
      rw [show (((s + 1 : Nat)) : Int) = (s : Int) + 1 by omega] at cnt
      refine zcall cnt ?_
      simp only [b_X11_shardRow_0, b_X11_shardRow_17, b_X11_shardRow_22, b_X11_shardRow_43, b_X11_shardRow_46, b_X11_shardRow_76, b_X11_shardRow_82, o_c, o_il, o_al, o_is, o_as, o_inc, o_add, o_sub, o_mul, o_and, o_or, o_xor, o_shl, o_shr, o_ush, o_rem, o_dup, o_dup2, o_gf, o_pf, o_pz, o_iald, o_iast, o_zald, o_zast, o_aald, o_gs, o_min, o_acp, o_call, o_callv, zgf, zpf, zia_, zza_, zra_, zrd_, zcp_, zpop, zsm8_0, zsm8_1, zsm8_2, zsm8_3, zsm8_4, zsm8_5, zrc, zisob, t_ieq, t_ilt, t_igt, t_zeq, t_zlt, t_zgt, t_sw, zsw, t_iret, t_zret, t_aret, t_vret, zrg, List.getElem?_cons_zero, List.getElem?_cons_succ, List.set_cons_zero, List.set_cons_succ, List.length_cons, List.length_nil, Option.toList_some, Option.toList_none, List.nil_append, List.cons_append, true_and, and_true, true_or, or_true, Int.cast_ofNat_Int, Int.natCast_zero, Int.natCast_one, zsh_56, zsh_57, zsh_58, zsh_59, zsh_60, zsh_61, zsh_62, zsh_63, zsh_64, zsh_65, zsh_66, zsh_67, zsh_68, zsh_69, zsh_70, zsh_71, zsh_72, zsh_73, zsh_74, zsh_75, zsh_76, zsh_77, zsh_78, zsh_79, zsh_80, zsh_81, zsh_82, zsh_83, zsh_84, zsh_85, zsh_86, zsh_87, zup_ne, zup_eq, zup_nf, ne_eq, not_false_eq_true]
      have hcl : (zsl T (s + 1) (p + (b : Int) * 4 ^ s)).length ≤ 16 := by
        have : (zsl T (s + 1) (p + (b : Int) * 4 ^ s)).length ≤ T.length := List.length_filter_le _ _
        omega
      refine ⟨by omega, fun w => ?_, fun w => ?_⟩
      · have e0 : zsl T (s + 1) (p + (b : Int) * 4 ^ s) = [] := List.eq_nil_of_length_eq_zero (by omega)
        refine nx μ2 _ ?_ k3
        have e1 : zmb T s p (b + 1) = zmb T s p b := by simp only [zmb]; rw [if_pos e0]; simp
        have e2 : (List.range (b + 1)).flatMap (zsf T s p lk) = (List.range b).flatMap (zsf T s p lk) := by
          rw [List.range_succ, List.flatMap_append]
          simp only [List.flatMap_cons, List.flatMap_nil, List.append_nil]
          unfold zsf
          rw [if_pos e0]; simp
        rw [e1, e2]
        exact k2
      · have e0 : ¬ zsl T (s + 1) (p + (b : Int) * 4 ^ s) = [] := fun q => w (by rw [q]; rfl)
        have hv := hn b hb e0
        have e77 : μ2 77 1 = zmb T s p b := k2.2.2.1 1 _ rfl
        have e1 : zor (μ2 77 1) (zshl 1 (b : Int)) = (zmb T s p (b + 1) : Int) := by
          rw [e77, h2b b hb]
          have h16' : 2 ^ b ≤ 8 := by
            have : 2 ^ b ≤ 2 ^ 3 := Nat.pow_le_pow_right (by omega) (by omega)
            omega
          rw [zor_nat (by omega) (by omega)]
          simp only [zmb]
          rw [if_neg e0]
        have hm1 : zmb T s p (b + 1) < 16 := Nat.lt_of_lt_of_le (zmb_lt T s p (b + 1)) (by have : 2 ^ (b + 1) ≤ 2 ^ 4 := Nat.pow_le_pow_right (by omega) (by omega); omega)
        rw [e1]
        refine ⟨by omega, by omega, ?_⟩
        have hfi := c_X11_first (d := d - 1) (μ := zup μ2 77 1 (zmb T s p (b + 1) : Int)) (t := (s : Int) + 1) (by omega)
        refine zcall hfi ?_
        simp only [b_X11_shardRow_0, b_X11_shardRow_17, b_X11_shardRow_22, b_X11_shardRow_43, b_X11_shardRow_46, b_X11_shardRow_76, b_X11_shardRow_82, o_c, o_il, o_al, o_is, o_as, o_inc, o_add, o_sub, o_mul, o_and, o_or, o_xor, o_shl, o_shr, o_ush, o_rem, o_dup, o_dup2, o_gf, o_pf, o_pz, o_iald, o_iast, o_zald, o_zast, o_aald, o_gs, o_min, o_acp, o_call, o_callv, zgf, zpf, zia_, zza_, zra_, zrd_, zcp_, zpop, zsm8_0, zsm8_1, zsm8_2, zsm8_3, zsm8_4, zsm8_5, zrc, zisob, t_ieq, t_ilt, t_igt, t_zeq, t_zlt, t_zgt, t_sw, zsw, t_iret, t_zret, t_aret, t_vret, zrg, List.getElem?_cons_zero, List.getElem?_cons_succ, List.set_cons_zero, List.set_cons_succ, List.length_cons, List.length_nil, Option.toList_some, Option.toList_none, List.nil_append, List.cons_append, true_and, and_true, true_or, or_true, Int.cast_ofNat_Int, Int.natCast_zero, Int.natCast_one, zsh_56, zsh_57, zsh_58, zsh_59, zsh_60, zsh_61, zsh_62, zsh_63, zsh_64, zsh_65, zsh_66, zsh_67, zsh_68, zsh_69, zsh_70, zsh_71, zsh_72, zsh_73, zsh_74, zsh_75, zsh_76, zsh_77, zsh_78, zsh_79, zsh_80, zsh_81, zsh_82, zsh_83, zsh_84, zsh_85, zsh_86, zsh_87, zup_ne, zup_eq, zup_nf, ne_eq, not_false_eq_true]
        have k2' := k2.bit (m' := (zmb T s p (b + 1) : Int)) (by omega)
        have e87 : μ2 87 (zfst ((s : Int) + 1) + (p + (b : Int) * 4 ^ s)) = lk b := by rw [k3.1 87 (by simp) (by decide), hlk]
        rw [zup_ne 87 (by decide), e87]
        have hv2 : 0 ≤ lk b ∧ lk b ≤ 65520 := by rw [hlk]; exact hv
        have hfl := zsf_len T s p lk b
        refine ⟨by omega, ?_⟩
        refine ⟨_, c_X11_addTwo (by omega) k2' (by simp only [List.length_cons]; omega) ⟨by omega, by omega⟩, ?_⟩
        rintro v μ3 ⟨rfl, p1, p2⟩
        simp only [b_X11_shardRow_0, b_X11_shardRow_17, b_X11_shardRow_22, b_X11_shardRow_43, b_X11_shardRow_46, b_X11_shardRow_76, b_X11_shardRow_82, o_c, o_il, o_al, o_is, o_as, o_inc, o_add, o_sub, o_mul, o_and, o_or, o_xor, o_shl, o_shr, o_ush, o_rem, o_dup, o_dup2, o_gf, o_pf, o_pz, o_iald, o_iast, o_zald, o_zast, o_aald, o_gs, o_min, o_acp, o_call, o_callv, zgf, zpf, zia_, zza_, zra_, zrd_, zcp_, zpop, zsm8_0, zsm8_1, zsm8_2, zsm8_3, zsm8_4, zsm8_5, zrc, zisob, t_ieq, t_ilt, t_igt, t_zeq, t_zlt, t_zgt, t_sw, zsw, t_iret, t_zret, t_aret, t_vret, zrg, List.getElem?_cons_zero, List.getElem?_cons_succ, List.set_cons_zero, List.set_cons_succ, List.length_cons, List.length_nil, Option.toList_some, Option.toList_none, List.nil_append, List.cons_append, true_and, and_true, true_or, or_true, Int.cast_ofNat_Int, Int.natCast_zero, Int.natCast_one, zsh_56, zsh_57, zsh_58, zsh_59, zsh_60, zsh_61, zsh_62, zsh_63, zsh_64, zsh_65, zsh_66, zsh_67, zsh_68, zsh_69, zsh_70, zsh_71, zsh_72, zsh_73, zsh_74, zsh_75, zsh_76, zsh_77, zsh_78, zsh_79, zsh_80, zsh_81, zsh_82, zsh_83, zsh_84, zsh_85, zsh_86, zsh_87, zup_ne, zup_eq, zup_nf, ne_eq, not_false_eq_true]
        refine nx μ3 _ ?_ ((k3.u (by simp) (by decide)).trans p2)
        have e2 : (List.range (b + 1)).flatMap (zsf T s p lk) = (List.range b).flatMap (zsf T s p lk) ++ [lk b % 256, lk b / 256] := by
          rw [List.range_succ, List.flatMap_append]
          congr 1
          simp only [List.flatMap_cons, List.flatMap_nil, List.append_nil]
          unfold zsf
          rw [if_neg e0]
        rw [e2]
        simpa using p1
  simp only [b_X11_shardRow_0, b_X11_shardRow_17, b_X11_shardRow_22, b_X11_shardRow_43, b_X11_shardRow_46, b_X11_shardRow_76, b_X11_shardRow_82, o_c, o_il, o_al, o_is, o_as, o_inc, o_add, o_sub, o_mul, o_and, o_or, o_xor, o_shl, o_shr, o_ush, o_rem, o_dup, o_dup2, o_gf, o_pf, o_pz, o_iald, o_iast, o_zald, o_zast, o_aald, o_gs, o_min, o_acp, o_call, o_callv, zgf, zpf, zia_, zza_, zra_, zrd_, zcp_, zpop, zsm8_0, zsm8_1, zsm8_2, zsm8_3, zsm8_4, zsm8_5, zrc, zisob, t_ieq, t_ilt, t_igt, t_zeq, t_zlt, t_zgt, t_sw, zsw, t_iret, t_zret, t_aret, t_vret, zrg, List.getElem?_cons_zero, List.getElem?_cons_succ, List.set_cons_zero, List.set_cons_succ, List.length_cons, List.length_nil, Option.toList_some, Option.toList_none, List.nil_append, List.cons_append, true_and, and_true, true_or, or_true, Int.cast_ofNat_Int, Int.natCast_zero, Int.natCast_one, zsh_56, zsh_57, zsh_58, zsh_59, zsh_60, zsh_61, zsh_62, zsh_63, zsh_64, zsh_65, zsh_66, zsh_67, zsh_68, zsh_69, zsh_70, zsh_71, zsh_72, zsh_73, zsh_74, zsh_75, zsh_76, zsh_77, zsh_78, zsh_79, zsh_80, zsh_81, zsh_82, zsh_83, zsh_84, zsh_85, zsh_86, zsh_87, zup_ne, zup_eq, zup_nf, ne_eq, not_false_eq_true]
  refine ⟨_, c_X11_push (B := []) (zmR.nil zup_eq) (by simp) ⟨by omega, by omega⟩, ?_⟩
  rintro v μ1 ⟨rfl, p1, p2⟩
  simp only [b_X11_shardRow_0, b_X11_shardRow_17, b_X11_shardRow_22, b_X11_shardRow_43, b_X11_shardRow_46, b_X11_shardRow_76, b_X11_shardRow_82, o_c, o_il, o_al, o_is, o_as, o_inc, o_add, o_sub, o_mul, o_and, o_or, o_xor, o_shl, o_shr, o_ush, o_rem, o_dup, o_dup2, o_gf, o_pf, o_pz, o_iald, o_iast, o_zald, o_zast, o_aald, o_gs, o_min, o_acp, o_call, o_callv, zgf, zpf, zia_, zza_, zra_, zrd_, zcp_, zpop, zsm8_0, zsm8_1, zsm8_2, zsm8_3, zsm8_4, zsm8_5, zrc, zisob, t_ieq, t_ilt, t_igt, t_zeq, t_zlt, t_zgt, t_sw, zsw, t_iret, t_zret, t_aret, t_vret, zrg, List.getElem?_cons_zero, List.getElem?_cons_succ, List.set_cons_zero, List.set_cons_succ, List.length_cons, List.length_nil, Option.toList_some, Option.toList_none, List.nil_append, List.cons_append, true_and, and_true, true_or, or_true, Int.cast_ofNat_Int, Int.natCast_zero, Int.natCast_one, zsh_56, zsh_57, zsh_58, zsh_59, zsh_60, zsh_61, zsh_62, zsh_63, zsh_64, zsh_65, zsh_66, zsh_67, zsh_68, zsh_69, zsh_70, zsh_71, zsh_72, zsh_73, zsh_74, zsh_75, zsh_76, zsh_77, zsh_78, zsh_79, zsh_80, zsh_81, zsh_82, zsh_83, zsh_84, zsh_85, zsh_86, zsh_87, zup_ne, zup_eq, zup_nf, ne_eq, not_false_eq_true]
  refine ⟨_, c_X11_push p1 (by simp) ⟨by omega, by omega⟩, ?_⟩
  rintro v μ2 ⟨rfl, p3, p4⟩
  simp only [b_X11_shardRow_0, b_X11_shardRow_17, b_X11_shardRow_22, b_X11_shardRow_43, b_X11_shardRow_46, b_X11_shardRow_76, b_X11_shardRow_82, o_c, o_il, o_al, o_is, o_as, o_inc, o_add, o_sub, o_mul, o_and, o_or, o_xor, o_shl, o_shr, o_ush, o_rem, o_dup, o_dup2, o_gf, o_pf, o_pz, o_iald, o_iast, o_zald, o_zast, o_aald, o_gs, o_min, o_acp, o_call, o_callv, zgf, zpf, zia_, zza_, zra_, zrd_, zcp_, zpop, zsm8_0, zsm8_1, zsm8_2, zsm8_3, zsm8_4, zsm8_5, zrc, zisob, t_ieq, t_ilt, t_igt, t_zeq, t_zlt, t_zgt, t_sw, zsw, t_iret, t_zret, t_aret, t_vret, zrg, List.getElem?_cons_zero, List.getElem?_cons_succ, List.set_cons_zero, List.set_cons_succ, List.length_cons, List.length_nil, Option.toList_some, Option.toList_none, List.nil_append, List.cons_append, true_and, and_true, true_or, or_true, Int.cast_ofNat_Int, Int.natCast_zero, Int.natCast_one, zsh_56, zsh_57, zsh_58, zsh_59, zsh_60, zsh_61, zsh_62, zsh_63, zsh_64, zsh_65, zsh_66, zsh_67, zsh_68, zsh_69, zsh_70, zsh_71, zsh_72, zsh_73, zsh_74, zsh_75, zsh_76, zsh_77, zsh_78, zsh_79, zsh_80, zsh_81, zsh_82, zsh_83, zsh_84, zsh_85, zsh_86, zsh_87, zup_ne, zup_eq, zup_nf, ne_eq, not_false_eq_true]
  have f0 : zF [77] [24] μ (zup μ 56 24 0) := (zF.refl _ _ _).v (by simp)
  exact loop 4 0 μ2 _ (by omega) (by simpa [zmb] using p3) ((f0.trans p2).trans p4)
