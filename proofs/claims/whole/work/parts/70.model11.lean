/-! THE REFERENCE: taking out, answering -/
set_option maxRecDepth 100000 in
set_option maxHeartbeats 4000000 in
theorem c_X11_takeOut {d i : Nat} {μ : zM} {Ms : List zMg} (h : zmW μ Ms) (hi : i < Ms.length) : zCt d mX11_takeOut [.inr (some 56), .inl (i : Int)] μ (fun v μ' => v = none ∧ zmW μ' (Ms.eraseIdx i) ∧ zF [68, 69, 70, 71, 72, 73] [11] μ μ') := by
  obtain ⟨h1, h2, h3, h4⟩ := h
  have h18 : ∀ m ∈ Ms, m.2.2.length ≤ 18 := fun m hm => (h3 m hm).2.2.2.1.2.1
  refine of_X11_takeOut (fun G hG => s_X11_takeOut_0 hG ?_)
  have loop : ∀ (r j : Nat) (μ2 : zM) (y3 : zV), j + r + 1 = Ms.length → i ≤ j → (∀ (m : Nat) (x : zMg), m < j → (Ms.eraseIdx i)[m]? = some x → zmM μ2 m x) → (∀ (m : Nat) (x : zMg), j < m → Ms[m]? = some x → zmM μ2 m x) → zF [68, 69, 70, 71, 72, 73] [11] μ μ2 → μ2 56 11 = Ms.length → G 2 [.inr (some 56), .inl (i : Int), .inl (j : Int), y3] [] μ2 := by
    intro r
    induction r with
    | zero =>
      intro j μ2 y3 k1 k2 k3 k4 k5 k6
      refine s_X11_takeOut_2 hG ?_
      simp only [b_X11_takeOut_0, b_X11_takeOut_2, b_X11_takeOut_12, b_X11_takeOut_84, b_X11_takeOut_90, b_X11_takeOut_121, b_X11_takeOut_127, o_c, o_il, o_al, o_is, o_as, o_inc, o_add, o_sub, o_mul, o_and, o_or, o_xor, o_shl, o_shr, o_ush, o_rem, o_dup, o_dup2, o_gf, o_pf, o_pz, o_iald, o_iast, o_zald, o_zast, o_aald, o_gs, o_min, o_acp, o_call, o_callv, zgf, zpf, zia_, zza_, zra_, zrd_, zcp_, zpop, zsm8_0, zsm8_1, zsm8_2, zsm8_3, zsm8_4, zsm8_5, zrc, zisob, t_ieq, t_ilt, t_igt, t_zeq, t_zlt, t_zgt, t_sw, zsw, t_iret, t_zret, t_aret, t_vret, zrg, List.getElem?_cons_zero, List.getElem?_cons_succ, List.set_cons_zero, List.set_cons_succ, List.length_cons, List.length_nil, Option.toList_some, Option.toList_none, List.nil_append, List.cons_append, true_and, and_true, true_or, or_true, Int.cast_ofNat_Int, Int.natCast_zero, Int.natCast_one, zsh_56, zsh_57, zsh_58, zsh_59, zsh_60, zsh_61, zsh_62, zsh_63, zsh_64, zsh_65, zsh_66, zsh_67, zsh_68, zsh_69, zsh_70, zsh_71, zsh_72, zsh_73, zsh_74, zsh_75, zsh_76, zsh_77, zsh_78, zsh_79, zsh_80, zsh_81, zsh_82, zsh_83, zsh_84, zsh_85, zsh_86, zsh_87, zup_ne, zup_eq, zup_nf, ne_eq, not_false_eq_true]
      rw [k6]
      have hf : zF [68, 69, 70, 71, 72, 73] [11] μ (zup μ2 56 11 ((Ms.length : Int) - 1)) := k5.v (by simp)
      refine ⟨by omega, by omega, fun w => by omega, fun _ => ⟨⟨by rw [zup_eq, List.length_eraseIdx_of_lt hi]; omega, by rw [List.length_eraseIdx_of_lt hi]; omega, fun m hm => h3 m (List.mem_of_mem_eraseIdx hm), fun m x hx => ?_⟩, hf⟩⟩
      have hml := (List.getElem?_eq_some_iff.mp hx).1
      rw [List.length_eraseIdx_of_lt hi] at hml
      exact (k3 m x (by omega) hx).e (fun c c1 c2 => zup_ne _ (by omega))
    | succ r ih =>
      intro j μ2 y3 k1 k2 k3 k4 k5 k6
      have hj : j + 1 < Ms.length := by omega
      obtain ⟨mm, hmm⟩ : ∃ mm, Ms[j + 1]? = some mm := ⟨_, List.getElem?_eq_getElem hj⟩
      obtain ⟨a1, a2, a3, a4, a5, a6⟩ := k4 (j + 1) mm (by omega) hmm
      have hm18 := h18 mm (List.mem_of_getElem? hmm)
      have c1 : (((j + 1 : Nat) : Int)) = (j : Int) + 1 := by omega
      rw [c1] at a1 a2 a3 a4 a5 a6
      obtain ⟨μa, hμa⟩ : ∃ μa, μa = zup (zup (zup (zup (zup μ2 68 j (μ2 68 ((j : Int) + 1))) 69 j (μ2 69 ((j : Int) + 1))) 70 j (μ2 70 ((j : Int) + 1))) 71 j (μ2 71 ((j : Int) + 1))) 72 j (μ2 72 ((j : Int) + 1)) := ⟨_, rfl⟩
      have ga : zF [68, 69, 70, 71, 72, 73] [11] μ μa := by
        rw [hμa]
        exact (((((k5.u (by simp) (by decide)).u (by simp) (by decide)).u (by simp) (by decide)).u (by simp) (by decide)).u (by simp) (by decide))
      have inner : ∀ (q c : Nat) (μ3 : zM), c + q = 18 → (∀ k, k ≠ 73 → μ3 k = μa k) → (∀ x : Nat, x < c → μ3 73 (18 * j + x) = μ2 73 (18 * j + 18 + x)) → (∀ x : Int, (x < 18 * j ∨ 18 * j + c ≤ x) → μ3 73 x = μ2 73 x) → G 84 [.inr (some 56), .inl (i : Int), .inl (j : Int), .inl (c : Int)] [] μ3 := by
        intro q
        induction q with
        | zero =>
          intro c μ3 c1' c2 c3 c4
          have hc18 : c = 18 := by omega
          subst hc18
          refine s_X11_takeOut_84 hG ?_
          simp only [b_X11_takeOut_0, b_X11_takeOut_2, b_X11_takeOut_12, b_X11_takeOut_84, b_X11_takeOut_90, b_X11_takeOut_121, b_X11_takeOut_127, o_c, o_il, o_al, o_is, o_as, o_inc, o_add, o_sub, o_mul, o_and, o_or, o_xor, o_shl, o_shr, o_ush, o_rem, o_dup, o_dup2, o_gf, o_pf, o_pz, o_iald, o_iast, o_zald, o_zast, o_aald, o_gs, o_min, o_acp, o_call, o_callv, zgf, zpf, zia_, zza_, zra_, zrd_, zcp_, zpop, zsm8_0, zsm8_1, zsm8_2, zsm8_3, zsm8_4, zsm8_5, zrc, zisob, t_ieq, t_ilt, t_igt, t_zeq, t_zlt, t_zgt, t_sw, zsw, t_iret, t_zret, t_aret, t_vret, zrg, List.getElem?_cons_zero, List.getElem?_cons_succ, List.set_cons_zero, List.set_cons_succ, List.length_cons, List.length_nil, Option.toList_some, Option.toList_none, List.nil_append, List.cons_append, true_and, and_true, true_or, or_true, Int.cast_ofNat_Int, Int.natCast_zero, Int.natCast_one, zsh_56, zsh_57, zsh_58, zsh_59, zsh_60, zsh_61, zsh_62, zsh_63, zsh_64, zsh_65, zsh_66, zsh_67, zsh_68, zsh_69, zsh_70, zsh_71, zsh_72, zsh_73, zsh_74, zsh_75, zsh_76, zsh_77, zsh_78, zsh_79, zsh_80, zsh_81, zsh_82, zsh_83, zsh_84, zsh_85, zsh_86, zsh_87, zup_ne, zup_eq, zup_nf, ne_eq, not_false_eq_true]
          refine ⟨by omega, by omega, fun w => by omega, fun _ => ?_⟩
          have old : ∀ k, 68 ≤ k → k ≤ 72 → ∀ x : Int, x ≠ j → μ3 k x = μ2 k x := fun k q1 q2 x hx => by
            have : k = 68 ∨ k = 69 ∨ k = 70 ∨ k = 71 ∨ k = 72 := by omega
            rw [c2 k (by omega), hμa]
            rcases this with rfl | rfl | rfl | rfl | rfl <;> simp [zup, hx]
          refine ih (j + 1) μ3 _ (by omega) (by omega) (fun m x hm hx => ?_) (fun m x hm hx => ?_) ⟨fun k hk h56 => ?_, fun f hf => ?_⟩ ?_
          · by_cases e : m = j
            · subst e
              rw [List.getElem?_eraseIdx, if_neg (by omega), hmm] at hx
              injection hx with hx
              subst hx
              unfold zmM
              rw [c2 68 (by decide), c2 69 (by decide), c2 70 (by decide), c2 71 (by decide), c2 72 (by decide), hμa]
              refine ⟨by simp [zup]; exact a1, by simp [zup]; exact a2, by simp [zup]; exact a3, fun q => by simp [zup]; exact a4 q, by simp [zup]; exact a5, fun jj x hj => ?_⟩
              have hjl := (List.getElem?_eq_some_iff.mp hj).1
              rw [c3 jj (by omega), ← a6 jj x hj]
              congr 1 <;> omega
            · have hx18 : x.2.2.length ≤ 18 := h18 x (List.mem_of_mem_eraseIdx (List.mem_of_getElem? hx))
              exact (k3 m x (by omega) hx).x (k := j) hx18 e old (fun y hy => c4 y (by omega))
          · exact (k4 m x (by omega) hx).x (k := j) (h18 x (List.mem_of_getElem? hx)) (by omega) old (fun y hy => c4 y (by omega))
          · rw [c2 k (fun e => hk (by rw [e]; simp))]
            exact ga.1 k hk h56
          · rw [c2 56 (by decide)]
            exact ga.2 f hf
          · rw [c2 56 (by decide), hμa]
            simp [zup]
            exact k6
        | succ q ihq =>
          intro c μ3 c1' c2 c3 c4
          refine s_X11_takeOut_84 hG ?_
          simp only [b_X11_takeOut_0, b_X11_takeOut_2, b_X11_takeOut_12, b_X11_takeOut_84, b_X11_takeOut_90, b_X11_takeOut_121, b_X11_takeOut_127, o_c, o_il, o_al, o_is, o_as, o_inc, o_add, o_sub, o_mul, o_and, o_or, o_xor, o_shl, o_shr, o_ush, o_rem, o_dup, o_dup2, o_gf, o_pf, o_pz, o_iald, o_iast, o_zald, o_zast, o_aald, o_gs, o_min, o_acp, o_call, o_callv, zgf, zpf, zia_, zza_, zra_, zrd_, zcp_, zpop, zsm8_0, zsm8_1, zsm8_2, zsm8_3, zsm8_4, zsm8_5, zrc, zisob, t_ieq, t_ilt, t_igt, t_zeq, t_zlt, t_zgt, t_sw, zsw, t_iret, t_zret, t_aret, t_vret, zrg, List.getElem?_cons_zero, List.getElem?_cons_succ, List.set_cons_zero, List.set_cons_succ, List.length_cons, List.length_nil, Option.toList_some, Option.toList_none, List.nil_append, List.cons_append, true_and, and_true, true_or, or_true, Int.cast_ofNat_Int, Int.natCast_zero, Int.natCast_one, zsh_56, zsh_57, zsh_58, zsh_59, zsh_60, zsh_61, zsh_62, zsh_63, zsh_64, zsh_65, zsh_66, zsh_67, zsh_68, zsh_69, zsh_70, zsh_71, zsh_72, zsh_73, zsh_74, zsh_75, zsh_76, zsh_77, zsh_78, zsh_79, zsh_80, zsh_81, zsh_82, zsh_83, zsh_84, zsh_85, zsh_86, zsh_87, zup_ne, zup_eq, zup_nf, ne_eq, not_false_eq_true]
          rw [c4 (18 * (j : Int) + 18 + c) (by omega)]
          refine ⟨by omega, by omega, fun _ => ⟨by omega, by omega, ?_⟩, fun w => by omega⟩
          refine ihq (c + 1) _ (by omega) (fun k hk => by rw [zup_ne _ hk]; exact c2 k hk) (fun x hx => ?_) (fun x hx => by rw [zup_nf (by omega)]; exact c4 x (by omega))
          by_cases e : x = c
          · rw [e, zup_eq]
          · rw [zup_nf (by omega)]; exact c3 x (by omega)
      have s0 := inner 18 0 μa (by omega) (fun k hk => rfl) (fun x hx => by omega) (fun x hx => by rw [hμa]; simp [zup])
      refine s_X11_takeOut_2 hG ?_
      simp only [b_X11_takeOut_0, b_X11_takeOut_2, b_X11_takeOut_12, b_X11_takeOut_84, b_X11_takeOut_90, b_X11_takeOut_121, b_X11_takeOut_127, o_c, o_il, o_al, o_is, o_as, o_inc, o_add, o_sub, o_mul, o_and, o_or, o_xor, o_shl, o_shr, o_ush, o_rem, o_dup, o_dup2, o_gf, o_pf, o_pz, o_iald, o_iast, o_zald, o_zast, o_aald, o_gs, o_min, o_acp, o_call, o_callv, zgf, zpf, zia_, zza_, zra_, zrd_, zcp_, zpop, zsm8_0, zsm8_1, zsm8_2, zsm8_3, zsm8_4, zsm8_5, zrc, zisob, t_ieq, t_ilt, t_igt, t_zeq, t_zlt, t_zgt, t_sw, zsw, t_iret, t_zret, t_aret, t_vret, zrg, List.getElem?_cons_zero, List.getElem?_cons_succ, List.set_cons_zero, List.set_cons_succ, List.length_cons, List.length_nil, Option.toList_some, Option.toList_none, List.nil_append, List.cons_append, true_and, and_true, true_or, or_true, Int.cast_ofNat_Int, Int.natCast_zero, Int.natCast_one, zsh_56, zsh_57, zsh_58, zsh_59, zsh_60, zsh_61, zsh_62, zsh_63, zsh_64, zsh_65, zsh_66, zsh_67, zsh_68, zsh_69, zsh_70, zsh_71, zsh_72, zsh_73, zsh_74, zsh_75, zsh_76, zsh_77, zsh_78, zsh_79, zsh_80, zsh_81, zsh_82, zsh_83, zsh_84, zsh_85, zsh_86, zsh_87, zup_ne, zup_eq, zup_nf, ne_eq, not_false_eq_true, Nat.reduceEqDiff]
      rw [k6, ← hμa]
      exact ⟨by omega, by omega, fun _ => ⟨by omega, by omega, by omega, by omega, by omega, by omega, by omega, by omega, by omega, by omega, s0⟩, fun w => by omega⟩
  simp only [b_X11_takeOut_0, b_X11_takeOut_2, b_X11_takeOut_12, b_X11_takeOut_84, b_X11_takeOut_90, b_X11_takeOut_121, b_X11_takeOut_127, o_c, o_il, o_al, o_is, o_as, o_inc, o_add, o_sub, o_mul, o_and, o_or, o_xor, o_shl, o_shr, o_ush, o_rem, o_dup, o_dup2, o_gf, o_pf, o_pz, o_iald, o_iast, o_zald, o_zast, o_aald, o_gs, o_min, o_acp, o_call, o_callv, zgf, zpf, zia_, zza_, zra_, zrd_, zcp_, zpop, zsm8_0, zsm8_1, zsm8_2, zsm8_3, zsm8_4, zsm8_5, zrc, zisob, t_ieq, t_ilt, t_igt, t_zeq, t_zlt, t_zgt, t_sw, zsw, t_iret, t_zret, t_aret, t_vret, zrg, List.getElem?_cons_zero, List.getElem?_cons_succ, List.set_cons_zero, List.set_cons_succ, List.length_cons, List.length_nil, Option.toList_some, Option.toList_none, List.nil_append, List.cons_append, true_and, and_true, true_or, or_true, Int.cast_ofNat_Int, Int.natCast_zero, Int.natCast_one, zsh_56, zsh_57, zsh_58, zsh_59, zsh_60, zsh_61, zsh_62, zsh_63, zsh_64, zsh_65, zsh_66, zsh_67, zsh_68, zsh_69, zsh_70, zsh_71, zsh_72, zsh_73, zsh_74, zsh_75, zsh_76, zsh_77, zsh_78, zsh_79, zsh_80, zsh_81, zsh_82, zsh_83, zsh_84, zsh_85, zsh_86, zsh_87, zup_ne, zup_eq, zup_nf, ne_eq, not_false_eq_true]
  refine loop (Ms.length - i - 1) i μ _ (by omega) (Nat.le_refl _) (fun m x hm hx => ?_) (fun m x hm hx => h4 m x hx) (zF.refl _ _ _) h1
  rw [List.getElem?_eraseIdx, if_pos hm] at hx
  exact h4 m x hx
set_option maxRecDepth 100000 in
set_option maxHeartbeats 4000000 in
theorem c_X11_sendr {d n : Nat} {μ : zM} {k a b nm : Int} (h : μ 56 11 = n) (hn : n < 24) : zCt d mX11_send [.inr (some 56), .inl k, .inl a, .inl b, .inl nm] μ (fun v μ' => v = none ∧ μ' = zup (zup (zup (zup (zup (zup μ 68 n k) 69 n a) 70 n b) 71 n nm) 72 n 0) 56 11 ((n : Int) + 1)) := by
  refine of_X11_send (fun G hG => s_X11_send_0 hG ?_)
  simp only [b_X11_send_0, b_X11_send_9, b_X11_send_10, o_c, o_il, o_al, o_is, o_as, o_inc, o_add, o_sub, o_mul, o_and, o_or, o_xor, o_shl, o_shr, o_ush, o_rem, o_dup, o_dup2, o_gf, o_pf, o_pz, o_iald, o_iast, o_zald, o_zast, o_aald, o_gs, o_min, o_acp, o_call, o_callv, zgf, zpf, zia_, zza_, zra_, zrd_, zcp_, zpop, zsm8_0, zsm8_1, zsm8_2, zsm8_3, zsm8_4, zsm8_5, zrc, zisob, t_ieq, t_ilt, t_igt, t_zeq, t_zlt, t_zgt, t_sw, zsw, t_iret, t_zret, t_aret, t_vret, zrg, List.getElem?_cons_zero, List.getElem?_cons_succ, List.set_cons_zero, List.set_cons_succ, List.length_cons, List.length_nil, Option.toList_some, Option.toList_none, List.nil_append, List.cons_append, true_and, and_true, true_or, or_true, Int.cast_ofNat_Int, Int.natCast_zero, Int.natCast_one, zsh_56, zsh_57, zsh_58, zsh_59, zsh_60, zsh_61, zsh_62, zsh_63, zsh_64, zsh_65, zsh_66, zsh_67, zsh_68, zsh_69, zsh_70, zsh_71, zsh_72, zsh_73, zsh_74, zsh_75, zsh_76, zsh_77, zsh_78, zsh_79, zsh_80, zsh_81, zsh_82, zsh_83, zsh_84, zsh_85, zsh_86, zsh_87, zup_ne, zup_eq, zup_nf, ne_eq, not_false_eq_true, Nat.reduceEqDiff]
  rw [h]
  exact ⟨by omega, by omega, fun w => by omega, fun w => ⟨by omega, by omega, by omega, by omega, by omega, rfl⟩⟩
def zHB (L : List zBk) : Prop := ∀ b ∈ L, b.1 = zhash b.2
set_option maxRecDepth 100000 in
set_option maxHeartbeats 4000000 in
theorem c_X11_wanted {d s : Nat} {μ : zM} {B : List Int} {T : List zPp} {Ms : List zMg} {Sm : Nat → zStt} {a nm : Int} (hd : 1 ≤ d) (h : zRN μ B T Ms Sm) (hs : s < 3) (hH : zHB (Sm s).1) (hl : Ms.length < 24) (ha : 0 ≤ a ∧ a ≤ 2) (hn : 0 ≤ nm ∧ nm ≤ 65520) : zCt d mX11_wanted [.inr (some 56), .inl a, .inl (s : Int), .inl nm] μ (fun v μ' => v = none ∧ zRN μ' B T (zanw Ms (Sm s).1 a s nm) Sm ∧ zlo μ μ') := by
  obtain ⟨w1, w2, w3, w4⟩ := h.2.2.1
  have hL := (h.2.2.2 s hs).1
  refine of_X11_wanted hd (fun G hG => s_X11_wanted_0 hG ?_)
  simp only [b_X11_wanted_0, b_X11_wanted_13, b_X11_wanted_22, b_X11_wanted_51, b_X11_wanted_63, b_X11_wanted_94, o_c, o_il, o_al, o_is, o_as, o_inc, o_add, o_sub, o_mul, o_and, o_or, o_xor, o_shl, o_shr, o_ush, o_rem, o_dup, o_dup2, o_gf, o_pf, o_pz, o_iald, o_iast, o_zald, o_zast, o_aald, o_gs, o_min, o_acp, o_call, o_callv, zgf, zpf, zia_, zza_, zra_, zrd_, zcp_, zpop, zsm8_0, zsm8_1, zsm8_2, zsm8_3, zsm8_4, zsm8_5, zrc, zisob, t_ieq, t_ilt, t_igt, t_zeq, t_zlt, t_zgt, t_sw, zsw, t_iret, t_zret, t_aret, t_vret, zrg, List.getElem?_cons_zero, List.getElem?_cons_succ, List.set_cons_zero, List.set_cons_succ, List.length_cons, List.length_nil, Option.toList_some, Option.toList_none, List.nil_append, List.cons_append, true_and, and_true, true_or, or_true, Int.cast_ofNat_Int, Int.natCast_zero, Int.natCast_one, zsh_56, zsh_57, zsh_58, zsh_59, zsh_60, zsh_61, zsh_62, zsh_63, zsh_64, zsh_65, zsh_66, zsh_67, zsh_68, zsh_69, zsh_70, zsh_71, zsh_72, zsh_73, zsh_74, zsh_75, zsh_76, zsh_77, zsh_78, zsh_79, zsh_80, zsh_81, zsh_82, zsh_83, zsh_84, zsh_85, zsh_86, zsh_87, zup_ne, zup_eq, zup_nf, ne_eq, not_false_eq_true]
  refine zcall (c_X11_where hL hs (by unfold zrg; omega)) ?_
  simp only [b_X11_wanted_0, b_X11_wanted_13, b_X11_wanted_22, b_X11_wanted_51, b_X11_wanted_63, b_X11_wanted_94, o_c, o_il, o_al, o_is, o_as, o_inc, o_add, o_sub, o_mul, o_and, o_or, o_xor, o_shl, o_shr, o_ush, o_rem, o_dup, o_dup2, o_gf, o_pf, o_pz, o_iald, o_iast, o_zald, o_zast, o_aald, o_gs, o_min, o_acp, o_call, o_callv, zgf, zpf, zia_, zza_, zra_, zrd_, zcp_, zpop, zsm8_0, zsm8_1, zsm8_2, zsm8_3, zsm8_4, zsm8_5, zrc, zisob, t_ieq, t_ilt, t_igt, t_zeq, t_zlt, t_zgt, t_sw, zsw, t_iret, t_zret, t_aret, t_vret, zrg, List.getElem?_cons_zero, List.getElem?_cons_succ, List.set_cons_zero, List.set_cons_succ, List.length_cons, List.length_nil, Option.toList_some, Option.toList_none, List.nil_append, List.cons_append, true_and, and_true, true_or, or_true, Int.cast_ofNat_Int, Int.natCast_zero, Int.natCast_one, zsh_56, zsh_57, zsh_58, zsh_59, zsh_60, zsh_61, zsh_62, zsh_63, zsh_64, zsh_65, zsh_66, zsh_67, zsh_68, zsh_69, zsh_70, zsh_71, zsh_72, zsh_73, zsh_74, zsh_75, zsh_76, zsh_77, zsh_78, zsh_79, zsh_80, zsh_81, zsh_82, zsh_83, zsh_84, zsh_85, zsh_86, zsh_87, zup_ne, zup_eq, zup_nf, ne_eq, not_false_eq_true]
  rcases hL.wr hs nm with ⟨u1, u2, u3⟩ | ⟨bs, i2, u1, u2, u3, u4, u5⟩
  · rw [u3]
    refine ⟨by omega, fun _ => ?_, fun w => by omega⟩
    refine ⟨_, c_X11_send h.2.2.1 (Or.inr rfl) ⟨by omega, by omega⟩ ha hn, ?_⟩
    rintro v μ1 ⟨rfl, g1, g2⟩
    simp only [b_X11_wanted_0, b_X11_wanted_13, b_X11_wanted_22, b_X11_wanted_51, b_X11_wanted_63, b_X11_wanted_94, o_c, o_il, o_al, o_is, o_as, o_inc, o_add, o_sub, o_mul, o_and, o_or, o_xor, o_shl, o_shr, o_ush, o_rem, o_dup, o_dup2, o_gf, o_pf, o_pz, o_iald, o_iast, o_zald, o_zast, o_aald, o_gs, o_min, o_acp, o_call, o_callv, zgf, zpf, zia_, zza_, zra_, zrd_, zcp_, zpop, zsm8_0, zsm8_1, zsm8_2, zsm8_3, zsm8_4, zsm8_5, zrc, zisob, t_ieq, t_ilt, t_igt, t_zeq, t_zlt, t_zgt, t_sw, zsw, t_iret, t_zret, t_aret, t_vret, zrg, List.getElem?_cons_zero, List.getElem?_cons_succ, List.set_cons_zero, List.set_cons_succ, List.length_cons, List.length_nil, Option.toList_some, Option.toList_none, List.nil_append, List.cons_append, true_and, and_true, true_or, or_true, Int.cast_ofNat_Int, Int.natCast_zero, Int.natCast_one, zsh_56, zsh_57, zsh_58, zsh_59, zsh_60, zsh_61, zsh_62, zsh_63, zsh_64, zsh_65, zsh_66, zsh_67, zsh_68, zsh_69, zsh_70, zsh_71, zsh_72, zsh_73, zsh_74, zsh_75, zsh_76, zsh_77, zsh_78, zsh_79, zsh_80, zsh_81, zsh_82, zsh_83, zsh_84, zsh_85, zsh_86, zsh_87, zup_ne, zup_eq, zup_nf, ne_eq, not_false_eq_true]
    unfold zanw
    rw [u1]
    exact ⟨h.ms g1 g2 (by simp) (by simp), g2.lo (by simp)⟩
  · have u51 := u5.1
    have hbk := hL.2.2.1 _ (List.mem_of_getElem? u2)
    have hb18 : bs.length ≤ 18 := hbk.2.1
    obtain ⟨n, hn9⟩ : ∃ n : Nat, n = Ms.length := ⟨_, rfl⟩
    have hnl : n < 24 := by omega
    refine ⟨by omega, fun w => by omega, fun _ => ?_⟩
    refine ⟨_, c_X11_sendr (n := n) (by rw [w1, hn9]) hnl, ?_⟩
    rintro v μ1 ⟨rfl, g1⟩
    simp only [b_X11_wanted_0, b_X11_wanted_13, b_X11_wanted_22, b_X11_wanted_51, b_X11_wanted_63, b_X11_wanted_94, o_c, o_il, o_al, o_is, o_as, o_inc, o_add, o_sub, o_mul, o_and, o_or, o_xor, o_shl, o_shr, o_ush, o_rem, o_dup, o_dup2, o_gf, o_pf, o_pz, o_iald, o_iast, o_zald, o_zast, o_aald, o_gs, o_min, o_acp, o_call, o_callv, zgf, zpf, zia_, zza_, zra_, zrd_, zcp_, zpop, zsm8_0, zsm8_1, zsm8_2, zsm8_3, zsm8_4, zsm8_5, zrc, zisob, t_ieq, t_ilt, t_igt, t_zeq, t_zlt, t_zgt, t_sw, zsw, t_iret, t_zret, t_aret, t_vret, zrg, List.getElem?_cons_zero, List.getElem?_cons_succ, List.set_cons_zero, List.set_cons_succ, List.length_cons, List.length_nil, Option.toList_some, Option.toList_none, List.nil_append, List.cons_append, true_and, and_true, true_or, or_true, Int.cast_ofNat_Int, Int.natCast_zero, Int.natCast_one, zsh_56, zsh_57, zsh_58, zsh_59, zsh_60, zsh_61, zsh_62, zsh_63, zsh_64, zsh_65, zsh_66, zsh_67, zsh_68, zsh_69, zsh_70, zsh_71, zsh_72, zsh_73, zsh_74, zsh_75, zsh_76, zsh_77, zsh_78, zsh_79, zsh_80, zsh_81, zsh_82, zsh_83, zsh_84, zsh_85, zsh_86, zsh_87, zup_ne, zup_eq, zup_nf, ne_eq, not_false_eq_true]
    obtain ⟨k, hk⟩ : ∃ k, k = zwr s (Sm s).1 nm := ⟨_, rfl⟩
    rw [← hk] at u5 u51 u4 ⊢
    have e11 : μ1 56 11 = (n : Int) + 1 := by rw [g1]; simp [zup]
    have e59 : μ1 59 k = bs.length := by rw [g1]; simp [zup]; exact u5.2.1
    obtain ⟨μa, hμa⟩ : ∃ μa, μa = zup μ1 72 n (bs.length : Int) := ⟨_, rfl⟩
    have loop : ∀ (r c : Nat) (μ2 : zM), c + r = bs.length → (∀ x, x ≠ 73 → μ2 x = μa x) → (∀ (x : Nat) (y : Int), x < c → bs[x]? = some y → μ2 73 (18 * n + x) = y) → (∀ x : Int, (x < 18 * n ∨ 18 * n + 18 ≤ x) → μ2 73 x = μ 73 x) → G 51 [.inr (some 56), .inl a, .inl (s : Int), .inl nm, .inl k, .inl (c : Int)] [] μ2 := by
      intro r
      induction r with
      | zero =>
        intro c μ2 k1 k2 k3 k4
        have q59 : μ2 59 k = bs.length := by rw [k2 59 (by decide), hμa, zup_ne 59 (by decide)]; exact e59
        refine s_X11_wanted_51 hG ?_
        simp only [b_X11_wanted_0, b_X11_wanted_13, b_X11_wanted_22, b_X11_wanted_51, b_X11_wanted_63, b_X11_wanted_94, o_c, o_il, o_al, o_is, o_as, o_inc, o_add, o_sub, o_mul, o_and, o_or, o_xor, o_shl, o_shr, o_ush, o_rem, o_dup, o_dup2, o_gf, o_pf, o_pz, o_iald, o_iast, o_zald, o_zast, o_aald, o_gs, o_min, o_acp, o_call, o_callv, zgf, zpf, zia_, zza_, zra_, zrd_, zcp_, zpop, zsm8_0, zsm8_1, zsm8_2, zsm8_3, zsm8_4, zsm8_5, zrc, zisob, t_ieq, t_ilt, t_igt, t_zeq, t_zlt, t_zgt, t_sw, zsw, t_iret, t_zret, t_aret, t_vret, zrg, List.getElem?_cons_zero, List.getElem?_cons_succ, List.set_cons_zero, List.set_cons_succ, List.length_cons, List.length_nil, Option.toList_some, Option.toList_none, List.nil_append, List.cons_append, true_and, and_true, true_or, or_true, Int.cast_ofNat_Int, Int.natCast_zero, Int.natCast_one, zsh_56, zsh_57, zsh_58, zsh_59, zsh_60, zsh_61, zsh_62, zsh_63, zsh_64, zsh_65, zsh_66, zsh_67, zsh_68, zsh_69, zsh_70, zsh_71, zsh_72, zsh_73, zsh_74, zsh_75, zsh_76, zsh_77, zsh_78, zsh_79, zsh_80, zsh_81, zsh_82, zsh_83, zsh_84, zsh_85, zsh_86, zsh_87, zup_ne, zup_eq, zup_nf, ne_eq, not_false_eq_true]
        rw [q59]
        refine ⟨by omega, by omega, by omega, fun w => by omega, fun _ => ?_⟩
        have hf : zF [68, 69, 70, 71, 72, 73] [11] μ μ2 := by
          refine ⟨fun x hx h56 => ?_, fun x hx => ?_⟩
          · simp only [List.mem_cons, List.not_mem_nil, or_false, not_or] at hx
            rw [k2 x hx.2.2.2.2.2, hμa, zup_ne _ hx.2.2.2.2.1, g1, zup_ne _ h56, zup_ne _ hx.2.2.2.2.1, zup_ne _ hx.2.2.2.1, zup_ne _ hx.2.2.1, zup_ne _ hx.2.1, zup_ne _ hx.1]
          · simp only [List.mem_cons, List.not_mem_nil, or_false] at hx
            rw [k2 56 (by decide), hμa, g1]
            simp [zup, hx]
        unfold zanw zsnd
        rw [u1, if_pos hl]
        refine ⟨h.ms ⟨?_, by simp; omega, fun m hm => ?_, fun i m hm => ?_⟩ hf (by simp) (by simp), hf.lo (by simp)⟩
        · rw [k2 56 (by decide), hμa, zup_ne 56 (by decide), e11]; simp; omega
        · rcases List.mem_append.mp hm with q | q
          · exact w3 m q
          · rw [List.mem_singleton.mp q]
            exact ⟨by simp, by simp only; omega, ha, hbk, fun q => absurd rfl q, fun _ => hH _ (List.mem_of_getElem? u2)⟩
        · rcases Nat.lt_trichotomy i n with q | q | q
          · rw [List.getElem?_append_left (by omega)] at hm
            refine (w4 i m hm).x (k := n) (w3 m (List.mem_of_getElem? hm)).2.2.2.1.2.1 (by omega) (fun x c1 c2 j hj => ?_) (fun j hj => k4 j hj)
            have : x = 68 ∨ x = 69 ∨ x = 70 ∨ x = 71 ∨ x = 72 := by omega
            rw [k2 x (by omega), hμa, g1]
            rcases this with rfl | rfl | rfl | rfl | rfl <;> simp [zup, hj]
          · subst q
            rw [List.getElem?_append_right (by omega)] at hm
            simp [hn9] at hm
            subst hm
            unfold zmM
            rw [k2 68 (by decide), k2 69 (by decide), k2 70 (by decide), k2 71 (by decide), k2 72 (by decide), hμa, g1]
            refine ⟨by simp [zup], by simp [zup], by simp [zup], fun _ => by simp [zup], by simp [zup], fun j x hj => ?_⟩
            have hjl := (List.getElem?_eq_some_iff.mp hj).1
            exact k3 j x (by simp only at hjl; omega) hj
          · rw [List.getElem?_eq_none (by simp; omega)] at hm
            cases hm
      | succ r ih =>
        intro c μ2 k1 k2 k3 k4
        have hc : c < bs.length := by omega
        have q59 : μ2 59 k = bs.length := by rw [k2 59 (by decide), hμa, zup_ne 59 (by decide)]; exact e59
        have q11 : μ2 56 11 = (n : Int) + 1 := by rw [k2 56 (by decide), hμa, zup_ne 56 (by decide)]; exact e11
        have hat : zAt μ2 k bs := by
          unfold zAt
          rw [k2 59 (by decide), k2 60 (by decide), hμa, zup_ne 59 (by decide), zup_ne 60 (by decide), g1]
          simp only [zup_ne, ne_eq, Nat.reduceEqDiff, not_false_eq_true]
          exact u5
        refine s_X11_wanted_51 hG ?_
        simp only [b_X11_wanted_0, b_X11_wanted_13, b_X11_wanted_22, b_X11_wanted_51, b_X11_wanted_63, b_X11_wanted_94, o_c, o_il, o_al, o_is, o_as, o_inc, o_add, o_sub, o_mul, o_and, o_or, o_xor, o_shl, o_shr, o_ush, o_rem, o_dup, o_dup2, o_gf, o_pf, o_pz, o_iald, o_iast, o_zald, o_zast, o_aald, o_gs, o_min, o_acp, o_call, o_callv, zgf, zpf, zia_, zza_, zra_, zrd_, zcp_, zpop, zsm8_0, zsm8_1, zsm8_2, zsm8_3, zsm8_4, zsm8_5, zrc, zisob, t_ieq, t_ilt, t_igt, t_zeq, t_zlt, t_zgt, t_sw, zsw, t_iret, t_zret, t_aret, t_vret, zrg, List.getElem?_cons_zero, List.getElem?_cons_succ, List.set_cons_zero, List.set_cons_succ, List.length_cons, List.length_nil, Option.toList_some, Option.toList_none, List.nil_append, List.cons_append, true_and, and_true, true_or, or_true, Int.cast_ofNat_Int, Int.natCast_zero, Int.natCast_one, zsh_56, zsh_57, zsh_58, zsh_59, zsh_60, zsh_61, zsh_62, zsh_63, zsh_64, zsh_65, zsh_66, zsh_67, zsh_68, zsh_69, zsh_70, zsh_71, zsh_72, zsh_73, zsh_74, zsh_75, zsh_76, zsh_77, zsh_78, zsh_79, zsh_80, zsh_81, zsh_82, zsh_83, zsh_84, zsh_85, zsh_86, zsh_87, zup_ne, zup_eq, zup_nf, ne_eq, not_false_eq_true]
        rw [q59, q11]
        refine ⟨by omega, by omega, by omega, fun _ => ?_, fun w => by omega⟩
        refine zcall (c_X11_cell hat (i := c) (by omega) (by omega)) ?_
        simp only [b_X11_wanted_0, b_X11_wanted_13, b_X11_wanted_22, b_X11_wanted_51, b_X11_wanted_63, b_X11_wanted_94, o_c, o_il, o_al, o_is, o_as, o_inc, o_add, o_sub, o_mul, o_and, o_or, o_xor, o_shl, o_shr, o_ush, o_rem, o_dup, o_dup2, o_gf, o_pf, o_pz, o_iald, o_iast, o_zald, o_zast, o_aald, o_gs, o_min, o_acp, o_call, o_callv, zgf, zpf, zia_, zza_, zra_, zrd_, zcp_, zpop, zsm8_0, zsm8_1, zsm8_2, zsm8_3, zsm8_4, zsm8_5, zrc, zisob, t_ieq, t_ilt, t_igt, t_zeq, t_zlt, t_zgt, t_sw, zsw, t_iret, t_zret, t_aret, t_vret, zrg, List.getElem?_cons_zero, List.getElem?_cons_succ, List.set_cons_zero, List.set_cons_succ, List.length_cons, List.length_nil, Option.toList_some, Option.toList_none, List.nil_append, List.cons_append, true_and, and_true, true_or, or_true, Int.cast_ofNat_Int, Int.natCast_zero, Int.natCast_one, zsh_56, zsh_57, zsh_58, zsh_59, zsh_60, zsh_61, zsh_62, zsh_63, zsh_64, zsh_65, zsh_66, zsh_67, zsh_68, zsh_69, zsh_70, zsh_71, zsh_72, zsh_73, zsh_74, zsh_75, zsh_76, zsh_77, zsh_78, zsh_79, zsh_80, zsh_81, zsh_82, zsh_83, zsh_84, zsh_85, zsh_86, zsh_87, zup_ne, zup_eq, zup_nf, ne_eq, not_false_eq_true]
        rw [zrow_b hc]
        refine ⟨by omega, ?_⟩
        rw [show (18 * ((n : Int) + 1 - 1) + (c : Int)) = 18 * n + c by omega]
        refine ih (c + 1) _ (by omega) (fun x hx => by rw [zup_ne _ hx]; exact k2 x hx) (fun x y hx hy => ?_) (fun x hx => by rw [zup_nf (by omega)]; exact k4 x hx)
        by_cases e : x = c
        · subst e
          rw [zup_eq]
          rw [List.getElem?_eq_getElem hc] at hy
          exact Option.some.inj hy
        · rw [zup_nf (by omega)]; exact k3 x y (by omega) hy
    rw [e11, e59]
    rw [show ((n : Int) + 1 - 1) = n by omega, ← hμa]
    refine ⟨by omega, by omega, ?_⟩
    exact loop bs.length 0 μa (by omega) (fun x hx => rfl) (fun x y hx hy => by omega) (fun x hx => by rw [hμa, g1]; simp [zup])
