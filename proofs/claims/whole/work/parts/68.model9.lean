/-! THE REFERENCE: collecting -/
def zmE (μ : zM) (k : Int) (b : zBk) : Prop := μ 58 k = b.1 ∧ μ 59 k = b.2.length ∧ ∀ (j : Nat) (x : Int), b.2[j]? = some x → μ 60 (18 * k + j) = x
set_option maxRecDepth 100000 in
set_option maxHeartbeats 4000000 in
theorem c_X11_collect {d : Nat} {μ : zM} {B : List Int} {T : List zPp} {Ms : List zMg} {Sm : Nat → zStt} {store : Int} (hd : 4 ≤ d) (h : zRN μ B T Ms Sm) (hV : ∀ s, s < 3 → zVS (Sm s)) (hs : zrg store) : zCt d mX11_collect [.inr (some 56), .inl store] μ (fun v μ' => v = some (.inl (zclO Sm store)) ∧ zRN μ' B T Ms (zclS Sm store) ∧ zlo μ μ') := by
  unfold zclO zclS
  by_cases hc : 0 ≤ store ∧ store ≤ 2
  · rw [if_pos hc, if_pos hc]
    obtain ⟨s, rfl, h3⟩ := zs3 hc
    rw [Int.toNat_natCast]
    have h4 := h.2.2.2 s h3
    have hVs := hV s h3
    obtain ⟨L, hL⟩ : ∃ L, L = (Sm s).1 := ⟨_, rfl⟩
    obtain ⟨P, hP⟩ : ∃ P, P = (Sm s).2.1 := ⟨_, rfl⟩
    obtain ⟨fs, hfs⟩ : ∃ fs, fs = (Sm s).2.2.1 := ⟨_, rfl⟩
    obtain ⟨fr, hfr⟩ : ∃ fr, fr = (Sm s).2.2.2.2 := ⟨_, rfl⟩
    have hmL := h4.1
    have hmP := h4.2.1
    have e65 := h4.2.2.1
    have e66 := h4.2.2.2.2.1
    have hfr0 := h4.2.2.2.2.2.2.2
    have hfs0 := h4.2.2.2.2.2.1
    have hV1 := hVs.1
    have hN1 := hVs.2
    rw [← hL] at hmL hV1 hN1 ⊢
    rw [← hP] at hmP ⊢
    rw [← hfs] at e65 hfs0 ⊢
    rw [← hfr] at e66 hfr0 ⊢
    have hl64 := hmL.2.1
    have hP8 := hmP.2.1
    have hus := zun_le L []
    refine of_X11_collect (by omega) (fun G hG => s_X11_collect_0 hG ?_)
    -- the copying of what is kept
    obtain ⟨Kp, hKp⟩ : ∃ Kp, Kp = zkpt L P fs fr := ⟨_, rfl⟩
    have comp : ∀ (μb : zM), zRN μb B T Ms Sm → zmQ μb s L Kp → zlo μ μb → ∀ (x4 x5 : zV), G 165 [.inr (some 56), .inl (s : Int), .inl 0, .inl (64 * (s : Int)), x4, x5] [] μb := by
      intro μb hRb hQb hlb x4 x5
      have hLb := (hRb.2.2.2 s h3).1
      rw [← hL] at hLb
      have loop : ∀ (r i : Nat) (μ2 : zM) (y4 y5 : zV), i + r = L.length → (∀ (m : Nat) (b : zBk), ((L.take i).filter (fun b => decide (b.1 ∈ Kp)))[m]? = some b → zmE μ2 (64 * s + m) b) → (∀ (m : Nat) (b : zBk), i ≤ m → L[m]? = some b → zmE μ2 (64 * s + m) b) → zmX s μb μ2 → μ2 57 s = L.length → G 165 [.inr (some 56), .inl (s : Int), .inl (((L.take i).filter (fun b => decide (b.1 ∈ Kp))).length : Int), .inl (64 * (s : Int) + i), y4, y5] [] μ2 := by
        intro r
        induction r with
        | zero =>
          intro i μ2 y4 y5 k1 k2 k3 k4 k5
          rw [List.take_of_length_le (by omega)] at k2 ⊢
          have hfl := List.length_filter_le (fun b : zBk => decide (b.1 ∈ Kp)) L
          refine s_X11_collect_165 hG ?_
          simp only [b_X11_collect_0, b_X11_collect_7, b_X11_collect_9, b_X11_collect_14, b_X11_collect_25, b_X11_collect_38, b_X11_collect_47, b_X11_collect_62, b_X11_collect_71, b_X11_collect_82, b_X11_collect_88, b_X11_collect_98, b_X11_collect_109, b_X11_collect_114, b_X11_collect_129, b_X11_collect_145, b_X11_collect_152, b_X11_collect_158, b_X11_collect_165, b_X11_collect_180, b_X11_collect_189, b_X11_collect_192, b_X11_collect_229, b_X11_collect_236, b_X11_collect_267, b_X11_collect_270, b_X11_collect_276, o_c, o_il, o_al, o_is, o_as, o_inc, o_add, o_sub, o_mul, o_and, o_or, o_xor, o_shl, o_shr, o_ush, o_rem, o_dup, o_dup2, o_gf, o_pf, o_pz, o_iald, o_iast, o_zald, o_zast, o_aald, o_gs, o_min, o_acp, o_call, o_callv, zgf, zpf, zia_, zza_, zra_, zrd_, zcp_, zpop, zsm8_0, zsm8_1, zsm8_2, zsm8_3, zsm8_4, zsm8_5, zrc, zisob, t_ieq, t_ilt, t_igt, t_zeq, t_zlt, t_zgt, t_sw, zsw, t_iret, t_zret, t_aret, t_vret, zrg, List.getElem?_cons_zero, List.getElem?_cons_succ, List.set_cons_zero, List.set_cons_succ, List.length_cons, List.length_nil, Option.toList_some, Option.toList_none, List.nil_append, List.cons_append, true_and, and_true, true_or, or_true, Int.cast_ofNat_Int, Int.natCast_zero, Int.natCast_one, zsh_56, zsh_57, zsh_58, zsh_59, zsh_60, zsh_61, zsh_62, zsh_63, zsh_64, zsh_65, zsh_66, zsh_67, zsh_68, zsh_69, zsh_70, zsh_71, zsh_72, zsh_73, zsh_74, zsh_75, zsh_76, zsh_77, zsh_78, zsh_79, zsh_80, zsh_81, zsh_82, zsh_83, zsh_84, zsh_85, zsh_86, zsh_87, zup_ne, zup_eq, zup_nf, ne_eq, not_false_eq_true]
          rw [k5]
          refine ⟨by omega, by omega, by omega, fun w => by omega, fun _ => ⟨by omega, by omega, ?_⟩⟩
          have ekL : zkpL L P fs fr = L.filter (fun b => decide (b.1 ∈ Kp)) := by unfold zkpL; rw [hKp]
          rw [ekL]
          have hx5 : zmX s μb (zup μ2 57 s ((L.filter (fun b => decide (b.1 ∈ Kp))).length : Int)) := by
            refine k4.trans ⟨fun c hc => ?_, fun t ht => zup_nf ht, fun i' hi' => ?_, fun i' hi' => ?_⟩
            · simp only [List.mem_cons, List.not_mem_nil, or_false, not_or] at hc
              exact zup_ne _ hc.1
            · rw [zup_ne _ (by decide), zup_ne 59 (by decide)]; exact ⟨rfl, rfl⟩
            · rw [zup_ne _ (by decide)]
          have hnew : zmL (zup μ2 57 s ((L.filter (fun b => decide (b.1 ∈ Kp))).length : Int)) s (L.filter (fun b => decide (b.1 ∈ Kp))) := by
            refine ⟨zup_eq, by omega, fun b hb => hLb.2.2.1 b (List.mem_filter.mp hb).1, fun m b hb => ?_⟩
            rw [zup_ne 58 (by decide), zup_ne 59 (by decide), zup_ne 60 (by decide)]
            exact k2 m b hb
          have := hRb.x hnew hx5
          exact ⟨rfl, this, hlb.trans hx5.lo⟩
        | succ r ih =>
          intro i μ2 y4 y5 k1 k2 k3 k4 k5
          have hi : i < L.length := by omega
          have e9 : L.take (i + 1) = L.take i ++ [L[i]] := by rw [List.take_succ]; simp [hi]
          have hfl : ((L.take i).filter (fun b => decide (b.1 ∈ Kp))).length ≤ i := by
            have := List.length_filter_le (fun b : zBk => decide (b.1 ∈ Kp)) (L.take i)
            have h9 := List.length_take_le i L
            omega
          obtain ⟨n, hn⟩ : ∃ n, n = ((L.take i).filter (fun b => decide (b.1 ∈ Kp))).length := ⟨_, rfl⟩
          rw [← hn] at hfl ⊢
          have e61 : μ2 61 (64 * s + i) = if L[i].1 ∈ Kp then 1 else 0 := by
            rw [k4.1 61 (by simp)]
            exact hQb i L[i] (List.getElem?_eq_getElem hi)
          obtain ⟨t1, t2, t3⟩ := k3 i L[i] (Nat.le_refl _) (List.getElem?_eq_getElem hi)
          have hb18 := (hLb.2.2.1 L[i] (List.getElem_mem hi)).2.1
          refine s_X11_collect_165 hG ?_
          simp only [b_X11_collect_0, b_X11_collect_7, b_X11_collect_9, b_X11_collect_14, b_X11_collect_25, b_X11_collect_38, b_X11_collect_47, b_X11_collect_62, b_X11_collect_71, b_X11_collect_82, b_X11_collect_88, b_X11_collect_98, b_X11_collect_109, b_X11_collect_114, b_X11_collect_129, b_X11_collect_145, b_X11_collect_152, b_X11_collect_158, b_X11_collect_165, b_X11_collect_180, b_X11_collect_189, b_X11_collect_192, b_X11_collect_229, b_X11_collect_236, b_X11_collect_267, b_X11_collect_270, b_X11_collect_276, o_c, o_il, o_al, o_is, o_as, o_inc, o_add, o_sub, o_mul, o_and, o_or, o_xor, o_shl, o_shr, o_ush, o_rem, o_dup, o_dup2, o_gf, o_pf, o_pz, o_iald, o_iast, o_zald, o_zast, o_aald, o_gs, o_min, o_acp, o_call, o_callv, zgf, zpf, zia_, zza_, zra_, zrd_, zcp_, zpop, zsm8_0, zsm8_1, zsm8_2, zsm8_3, zsm8_4, zsm8_5, zrc, zisob, t_ieq, t_ilt, t_igt, t_zeq, t_zlt, t_zgt, t_sw, zsw, t_iret, t_zret, t_aret, t_vret, zrg, List.getElem?_cons_zero, List.getElem?_cons_succ, List.set_cons_zero, List.set_cons_succ, List.length_cons, List.length_nil, Option.toList_some, Option.toList_none, List.nil_append, List.cons_append, true_and, and_true, true_or, or_true, Int.cast_ofNat_Int, Int.natCast_zero, Int.natCast_one, zsh_56, zsh_57, zsh_58, zsh_59, zsh_60, zsh_61, zsh_62, zsh_63, zsh_64, zsh_65, zsh_66, zsh_67, zsh_68, zsh_69, zsh_70, zsh_71, zsh_72, zsh_73, zsh_74, zsh_75, zsh_76, zsh_77, zsh_78, zsh_79, zsh_80, zsh_81, zsh_82, zsh_83, zsh_84, zsh_85, zsh_86, zsh_87, zup_ne, zup_eq, zup_nf, ne_eq, not_false_eq_true]
          rw [k5, e61]
          by_cases hq : L[i].1 ∈ Kp
          · rw [if_pos hq]
            have e8 : (L.take (i + 1)).filter (fun b => decide (b.1 ∈ Kp)) = (L.take i).filter (fun b => decide (b.1 ∈ Kp)) ++ [L[i]] := by
              rw [e9, List.filter_append]; simp [hq]
            refine ⟨by omega, by omega, by omega, fun _ => ⟨by omega, by omega, fun w => by omega, fun _ => ⟨by omega, by omega, by omega, by omega, ?_⟩⟩, fun w => by omega⟩
            obtain ⟨μa, hμa⟩ : ∃ μa, μa = zup (zup μ2 58 (64 * s + n) (L[i].1)) 59 (64 * s + n) (L[i].2.length : Int) := ⟨_, rfl⟩
            have inner : ∀ (q c : Nat) (μ3 : zM), c + q = 18 → (∀ k, k ≠ 60 → μ3 k = μa k) → (∀ x : Nat, x < 18 → μ3 60 (18 * (64 * s + n) + x) = if x < c then μ2 60 (18 * (64 * s + i) + x) else μ2 60 (18 * (64 * s + n) + x)) → (∀ x : Int, (x < 18 * (64 * s + n) ∨ 18 * (64 * s + n) + 18 ≤ x) → μ3 60 x = μ2 60 x) → G 229 [.inr (some 56), .inl (s : Int), .inl (n : Int), .inl (64 * (s : Int) + i), .inl (64 * (s : Int) + n), .inl (c : Int)] [] μ3 := by
              intro q
              induction q with
              | zero =>
                intro c μ3 c1 c2 c3 c4
                have c18 : c = 18 := by omega
                subst c18
                refine s_X11_collect_229 hG ?_
                simp only [b_X11_collect_0, b_X11_collect_7, b_X11_collect_9, b_X11_collect_14, b_X11_collect_25, b_X11_collect_38, b_X11_collect_47, b_X11_collect_62, b_X11_collect_71, b_X11_collect_82, b_X11_collect_88, b_X11_collect_98, b_X11_collect_109, b_X11_collect_114, b_X11_collect_129, b_X11_collect_145, b_X11_collect_152, b_X11_collect_158, b_X11_collect_165, b_X11_collect_180, b_X11_collect_189, b_X11_collect_192, b_X11_collect_229, b_X11_collect_236, b_X11_collect_267, b_X11_collect_270, b_X11_collect_276, o_c, o_il, o_al, o_is, o_as, o_inc, o_add, o_sub, o_mul, o_and, o_or, o_xor, o_shl, o_shr, o_ush, o_rem, o_dup, o_dup2, o_gf, o_pf, o_pz, o_iald, o_iast, o_zald, o_zast, o_aald, o_gs, o_min, o_acp, o_call, o_callv, zgf, zpf, zia_, zza_, zra_, zrd_, zcp_, zpop, zsm8_0, zsm8_1, zsm8_2, zsm8_3, zsm8_4, zsm8_5, zrc, zisob, t_ieq, t_ilt, t_igt, t_zeq, t_zlt, t_zgt, t_sw, zsw, t_iret, t_zret, t_aret, t_vret, zrg, List.getElem?_cons_zero, List.getElem?_cons_succ, List.set_cons_zero, List.set_cons_succ, List.length_cons, List.length_nil, Option.toList_some, Option.toList_none, List.nil_append, List.cons_append, true_and, and_true, true_or, or_true, Int.cast_ofNat_Int, Int.natCast_zero, Int.natCast_one, zsh_56, zsh_57, zsh_58, zsh_59, zsh_60, zsh_61, zsh_62, zsh_63, zsh_64, zsh_65, zsh_66, zsh_67, zsh_68, zsh_69, zsh_70, zsh_71, zsh_72, zsh_73, zsh_74, zsh_75, zsh_76, zsh_77, zsh_78, zsh_79, zsh_80, zsh_81, zsh_82, zsh_83, zsh_84, zsh_85, zsh_86, zsh_87, zup_ne, zup_eq, zup_nf, ne_eq, not_false_eq_true]
                refine ⟨by omega, by omega, fun w => by omega, fun _ => ?_⟩
                have hsz : ((L.take (i + 1)).filter (fun b => decide (b.1 ∈ Kp))).length = n + 1 := by rw [e8, hn]; simp
                have := ih (i + 1) μ3 (.inl (64 * (s : Int) + n)) (.inl 18) (by omega) ?_ ?_ ?_ ?_
                · rw [hsz] at this
                  rw [show (64 * (s : Int) + i + 1) = 64 * (s : Int) + ((i + 1 : Nat) : Int) by omega]
                  exact this
                · intro m b hb
                  rw [e8] at hb
                  unfold zmE
                  rw [c2 58 (by decide), c2 59 (by decide), hμa]
                  rcases Nat.lt_trichotomy m n with hm | hm | hm
                  · rw [List.getElem?_append_left (by omega)] at hb
                    obtain ⟨v1, v2, v3⟩ := k2 m b hb
                    rw [zup_ne 58 (by decide), zup_nf (by omega), zup_nf (by omega), zup_ne 59 (by decide)]
                    have hbl : b.2.length ≤ 18 := (hLb.2.2.1 b (List.mem_of_mem_take (List.mem_filter.mp (List.mem_of_getElem? hb)).1)).2.1
                    refine ⟨v1, v2, fun j x hj => ?_⟩
                    have hjl := (List.getElem?_eq_some_iff.mp hj).1
                    rw [c4 _ (by omega)]
                    exact v3 j x hj
                  · subst hm
                    rw [List.getElem?_append_right (by omega), ← hn] at hb
                    simp at hb
                    subst hb
                    rw [zup_ne 58 (by decide), zup_eq, zup_eq]
                    refine ⟨rfl, rfl, fun j x hj => ?_⟩
                    have hjl := (List.getElem?_eq_some_iff.mp hj).1
                    rw [c3 j (by omega), if_pos (by omega)]
                    exact t3 j x hj
                  · rw [List.getElem?_eq_none (by simp; omega)] at hb
                    cases hb
                · intro m b hm hb
                  obtain ⟨v1, v2, v3⟩ := k3 m b (by omega) hb
                  have hbl : b.2.length ≤ 18 := (hLb.2.2.1 b (List.mem_of_getElem? hb)).2.1
                  unfold zmE
                  rw [c2 58 (by decide), c2 59 (by decide), hμa]
                  rw [zup_ne 58 (by decide), zup_nf (by omega), zup_nf (by omega), zup_ne 59 (by decide)]
                  refine ⟨v1, v2, fun j x hj => ?_⟩
                  rw [c4 _ (by omega)]
                  exact v3 j x hj
                · refine k4.trans ⟨fun k hk => ?_, fun t ht => ?_, fun i' hi' => ?_, fun i' hi' => c4 _ (by omega)⟩
                  · simp only [List.mem_cons, List.not_mem_nil, or_false, not_or] at hk
                    rw [c2 k hk.2.2.2, hμa, zup_ne _ hk.2.2.1, zup_ne _ hk.2.1]
                  · rw [c2 57 (by decide), hμa, zup_ne _ (by decide), zup_ne _ (by decide)]
                  · rw [c2 58 (by decide), c2 59 (by decide), hμa, zup_ne 58 (by decide), zup_nf (by omega), zup_nf (by omega), zup_ne 59 (by decide)]
                    exact ⟨rfl, rfl⟩
                · rw [c2 57 (by decide), hμa, zup_ne _ (by decide), zup_ne _ (by decide)]
                  exact k5
              | succ q ihq =>
                intro c μ3 c1 c2 c3 c4
                have er : μ3 60 (18 * (64 * (s : Int) + i) + c) = μ2 60 (18 * (64 * (s : Int) + i) + c) := by
                  by_cases e : n = i
                  · rw [← e]
                    rw [c3 c (by omega), if_neg (by omega)]
                  · exact c4 _ (by omega)
                refine s_X11_collect_229 hG ?_
                simp only [b_X11_collect_0, b_X11_collect_7, b_X11_collect_9, b_X11_collect_14, b_X11_collect_25, b_X11_collect_38, b_X11_collect_47, b_X11_collect_62, b_X11_collect_71, b_X11_collect_82, b_X11_collect_88, b_X11_collect_98, b_X11_collect_109, b_X11_collect_114, b_X11_collect_129, b_X11_collect_145, b_X11_collect_152, b_X11_collect_158, b_X11_collect_165, b_X11_collect_180, b_X11_collect_189, b_X11_collect_192, b_X11_collect_229, b_X11_collect_236, b_X11_collect_267, b_X11_collect_270, b_X11_collect_276, o_c, o_il, o_al, o_is, o_as, o_inc, o_add, o_sub, o_mul, o_and, o_or, o_xor, o_shl, o_shr, o_ush, o_rem, o_dup, o_dup2, o_gf, o_pf, o_pz, o_iald, o_iast, o_zald, o_zast, o_aald, o_gs, o_min, o_acp, o_call, o_callv, zgf, zpf, zia_, zza_, zra_, zrd_, zcp_, zpop, zsm8_0, zsm8_1, zsm8_2, zsm8_3, zsm8_4, zsm8_5, zrc, zisob, t_ieq, t_ilt, t_igt, t_zeq, t_zlt, t_zgt, t_sw, zsw, t_iret, t_zret, t_aret, t_vret, zrg, List.getElem?_cons_zero, List.getElem?_cons_succ, List.set_cons_zero, List.set_cons_succ, List.length_cons, List.length_nil, Option.toList_some, Option.toList_none, List.nil_append, List.cons_append, true_and, and_true, true_or, or_true, Int.cast_ofNat_Int, Int.natCast_zero, Int.natCast_one, zsh_56, zsh_57, zsh_58, zsh_59, zsh_60, zsh_61, zsh_62, zsh_63, zsh_64, zsh_65, zsh_66, zsh_67, zsh_68, zsh_69, zsh_70, zsh_71, zsh_72, zsh_73, zsh_74, zsh_75, zsh_76, zsh_77, zsh_78, zsh_79, zsh_80, zsh_81, zsh_82, zsh_83, zsh_84, zsh_85, zsh_86, zsh_87, zup_ne, zup_eq, zup_nf, ne_eq, not_false_eq_true]
                rw [er]
                refine ⟨by omega, by omega, fun _ => ⟨by omega, by omega, ?_⟩, fun w => by omega⟩
                refine ihq (c + 1) _ (by omega) (fun k hk => by rw [zup_ne _ hk]; exact c2 k hk) (fun x hx => ?_) (fun x hx => by rw [zup_nf (by omega)]; exact c4 x hx)
                by_cases e : x = c
                · rw [e, zup_eq, if_pos (by omega)]
                · rw [zup_nf (by omega), c3 x hx]
                  by_cases e2 : x < c
                  · rw [if_pos e2, if_pos (by omega)]
                  · rw [if_neg e2, if_neg (by omega)]
            have s0 := inner 18 0 μa (by omega) (fun k hk => rfl) (fun x hx => by rw [if_neg (by omega), hμa, zup_ne 60 (by decide), zup_ne 60 (by decide)]) (fun x hx => by rw [hμa, zup_ne 60 (by decide), zup_ne 60 (by decide)])
            have ea : zup (zup μ2 58 (64 * ↑s + ↑n) (μ2 58 (64 * ↑s + ↑i))) 59 (64 * ↑s + ↑n) (zup μ2 58 (64 * ↑s + ↑n) (μ2 58 (64 * ↑s + ↑i)) 59 (64 * ↑s + ↑i)) = μa := by
              rw [hμa, t1, zup_ne 59 (by decide), t2]
            rw [ea]
            exact s0
          · rw [if_neg hq]
            have e8 : (L.take (i + 1)).filter (fun b => decide (b.1 ∈ Kp)) = (L.take i).filter (fun b => decide (b.1 ∈ Kp)) := by
              rw [e9, List.filter_append]; simp [hq]
            refine ⟨by omega, by omega, by omega, fun _ => ⟨by omega, by omega, fun _ => ?_, fun w => absurd rfl w⟩, fun w => by omega⟩
            have := ih (i + 1) μ2 y4 y5 (by omega) (by rw [e8]; exact k2) (fun m b hm hb => k3 m b (by omega) hb) k4 k5
            rw [e8, ← hn] at this
            rw [show (64 * (s : Int) + i + 1) = 64 * (s : Int) + ((i + 1 : Nat) : Int) by omega]
            exact this
      have := loop L.length 0 μb x4 x5 (by omega) (fun m b hb => by simp at hb) (fun m b hm hb => hLb.2.2.2 m b hb) (zmX.refl _ _) hLb.1
      simp only [List.take_zero, List.filter_nil, List.length_nil] at this
      rw [show (64 * (s : Int) + ((0 : Nat) : Int)) = 64 * (s : Int) by omega] at this
      exact this
    -- pins by name
    have pinned : ∀ (μb : zM) (S : List Int), zRN μb B T Ms Sm → zmQ μb s L S → zlo μ μb → Kp = S ++ P.map (·.1) → ∀ (x3 x4 x5 : zV), G 114 [.inr (some 56), .inl (s : Int), .inl (8 * (s : Int)), x3, x4, x5] [] μb := by
      intro μb S hRb hQb hlb hK x3 x4 x5
      have loop : ∀ (r i : Nat) (μ2 : zM) (y3 : zV), i + r = P.length → zRN μ2 B T Ms Sm → zmQ μ2 s L (S ++ (P.take i).map (·.1)) → zlo μ μ2 → G 114 [.inr (some 56), .inl (s : Int), .inl (8 * (s : Int) + i), y3, x4, x5] [] μ2 := by
        intro r
        induction r with
        | zero =>
          intro i μ2 y3 k1 k2 k3 k4
          rw [List.take_of_length_le (by omega), ← hK] at k3
          have hP2 := (k2.2.2.2 s h3).2.1
          rw [← hP] at hP2
          refine s_X11_collect_114 hG ?_
          simp only [b_X11_collect_0, b_X11_collect_7, b_X11_collect_9, b_X11_collect_14, b_X11_collect_25, b_X11_collect_38, b_X11_collect_47, b_X11_collect_62, b_X11_collect_71, b_X11_collect_82, b_X11_collect_88, b_X11_collect_98, b_X11_collect_109, b_X11_collect_114, b_X11_collect_129, b_X11_collect_145, b_X11_collect_152, b_X11_collect_158, b_X11_collect_165, b_X11_collect_180, b_X11_collect_189, b_X11_collect_192, b_X11_collect_229, b_X11_collect_236, b_X11_collect_267, b_X11_collect_270, b_X11_collect_276, o_c, o_il, o_al, o_is, o_as, o_inc, o_add, o_sub, o_mul, o_and, o_or, o_xor, o_shl, o_shr, o_ush, o_rem, o_dup, o_dup2, o_gf, o_pf, o_pz, o_iald, o_iast, o_zald, o_zast, o_aald, o_gs, o_min, o_acp, o_call, o_callv, zgf, zpf, zia_, zza_, zra_, zrd_, zcp_, zpop, zsm8_0, zsm8_1, zsm8_2, zsm8_3, zsm8_4, zsm8_5, zrc, zisob, t_ieq, t_ilt, t_igt, t_zeq, t_zlt, t_zgt, t_sw, zsw, t_iret, t_zret, t_aret, t_vret, zrg, List.getElem?_cons_zero, List.getElem?_cons_succ, List.set_cons_zero, List.set_cons_succ, List.length_cons, List.length_nil, Option.toList_some, Option.toList_none, List.nil_append, List.cons_append, true_and, and_true, true_or, or_true, Int.cast_ofNat_Int, Int.natCast_zero, Int.natCast_one, zsh_56, zsh_57, zsh_58, zsh_59, zsh_60, zsh_61, zsh_62, zsh_63, zsh_64, zsh_65, zsh_66, zsh_67, zsh_68, zsh_69, zsh_70, zsh_71, zsh_72, zsh_73, zsh_74, zsh_75, zsh_76, zsh_77, zsh_78, zsh_79, zsh_80, zsh_81, zsh_82, zsh_83, zsh_84, zsh_85, zsh_86, zsh_87, zup_ne, zup_eq, zup_nf, ne_eq, not_false_eq_true]
          rw [hP2.1]
          refine ⟨by omega, by omega, by omega, fun w => by omega, fun _ => ?_⟩
          exact comp μ2 k2 k3 k4 _ _
        | succ r ih =>
          intro i μ2 y3 k1 k2 k3 k4
          have hi : i < P.length := by omega
          have e9 : P.take (i + 1) = P.take i ++ [P[i]] := by rw [List.take_succ]; simp [hi]
          have hP2 := (k2.2.2.2 s h3).2.1
          have hL2 := (k2.2.2.2 s h3).1
          rw [← hP] at hP2
          rw [← hL] at hL2
          obtain ⟨v1, v2⟩ := hP2.2.2.1 i P[i] (List.getElem?_eq_getElem hi)
          have hpr := (hP2.2.2.2 P[i] (List.getElem_mem hi)).1
          refine s_X11_collect_114 hG ?_
          simp only [b_X11_collect_0, b_X11_collect_7, b_X11_collect_9, b_X11_collect_14, b_X11_collect_25, b_X11_collect_38, b_X11_collect_47, b_X11_collect_62, b_X11_collect_71, b_X11_collect_82, b_X11_collect_88, b_X11_collect_98, b_X11_collect_109, b_X11_collect_114, b_X11_collect_129, b_X11_collect_145, b_X11_collect_152, b_X11_collect_158, b_X11_collect_165, b_X11_collect_180, b_X11_collect_189, b_X11_collect_192, b_X11_collect_229, b_X11_collect_236, b_X11_collect_267, b_X11_collect_270, b_X11_collect_276, o_c, o_il, o_al, o_is, o_as, o_inc, o_add, o_sub, o_mul, o_and, o_or, o_xor, o_shl, o_shr, o_ush, o_rem, o_dup, o_dup2, o_gf, o_pf, o_pz, o_iald, o_iast, o_zald, o_zast, o_aald, o_gs, o_min, o_acp, o_call, o_callv, zgf, zpf, zia_, zza_, zra_, zrd_, zcp_, zpop, zsm8_0, zsm8_1, zsm8_2, zsm8_3, zsm8_4, zsm8_5, zrc, zisob, t_ieq, t_ilt, t_igt, t_zeq, t_zlt, t_zgt, t_sw, zsw, t_iret, t_zret, t_aret, t_vret, zrg, List.getElem?_cons_zero, List.getElem?_cons_succ, List.set_cons_zero, List.set_cons_succ, List.length_cons, List.length_nil, Option.toList_some, Option.toList_none, List.nil_append, List.cons_append, true_and, and_true, true_or, or_true, Int.cast_ofNat_Int, Int.natCast_zero, Int.natCast_one, zsh_56, zsh_57, zsh_58, zsh_59, zsh_60, zsh_61, zsh_62, zsh_63, zsh_64, zsh_65, zsh_66, zsh_67, zsh_68, zsh_69, zsh_70, zsh_71, zsh_72, zsh_73, zsh_74, zsh_75, zsh_76, zsh_77, zsh_78, zsh_79, zsh_80, zsh_81, zsh_82, zsh_83, zsh_84, zsh_85, zsh_86, zsh_87, zup_ne, zup_eq, zup_nf, ne_eq, not_false_eq_true]
          rw [hP2.1, v1]
          refine ⟨by omega, by omega, by omega, fun _ => ⟨by omega, ?_⟩, fun w => by omega⟩
          refine zcall (c_X11_where hL2 h3 (by unfold zrg; omega)) ?_
          simp only [b_X11_collect_0, b_X11_collect_7, b_X11_collect_9, b_X11_collect_14, b_X11_collect_25, b_X11_collect_38, b_X11_collect_47, b_X11_collect_62, b_X11_collect_71, b_X11_collect_82, b_X11_collect_88, b_X11_collect_98, b_X11_collect_109, b_X11_collect_114, b_X11_collect_129, b_X11_collect_145, b_X11_collect_152, b_X11_collect_158, b_X11_collect_165, b_X11_collect_180, b_X11_collect_189, b_X11_collect_192, b_X11_collect_229, b_X11_collect_236, b_X11_collect_267, b_X11_collect_270, b_X11_collect_276, o_c, o_il, o_al, o_is, o_as, o_inc, o_add, o_sub, o_mul, o_and, o_or, o_xor, o_shl, o_shr, o_ush, o_rem, o_dup, o_dup2, o_gf, o_pf, o_pz, o_iald, o_iast, o_zald, o_zast, o_aald, o_gs, o_min, o_acp, o_call, o_callv, zgf, zpf, zia_, zza_, zra_, zrd_, zcp_, zpop, zsm8_0, zsm8_1, zsm8_2, zsm8_3, zsm8_4, zsm8_5, zrc, zisob, t_ieq, t_ilt, t_igt, t_zeq, t_zlt, t_zgt, t_sw, zsw, t_iret, t_zret, t_aret, t_vret, zrg, List.getElem?_cons_zero, List.getElem?_cons_succ, List.set_cons_zero, List.set_cons_succ, List.length_cons, List.length_nil, Option.toList_some, Option.toList_none, List.nil_append, List.cons_append, true_and, and_true, true_or, or_true, Int.cast_ofNat_Int, Int.natCast_zero, Int.natCast_one, zsh_56, zsh_57, zsh_58, zsh_59, zsh_60, zsh_61, zsh_62, zsh_63, zsh_64, zsh_65, zsh_66, zsh_67, zsh_68, zsh_69, zsh_70, zsh_71, zsh_72, zsh_73, zsh_74, zsh_75, zsh_76, zsh_77, zsh_78, zsh_79, zsh_80, zsh_81, zsh_82, zsh_83, zsh_84, zsh_85, zsh_86, zsh_87, zup_ne, zup_eq, zup_nf, ne_eq, not_false_eq_true]
          have e10 : S ++ (P.take (i + 1)).map (·.1) = (S ++ (P.take i).map (·.1)) ++ [P[i].1] := by rw [e9, List.map_append, List.append_assoc]; rfl
          rcases hL2.wr h3 P[i].1 with ⟨u1, u2, u3⟩ | ⟨bs, i2, u1, u2, u3, u4, u5⟩
          · rw [u3]
            refine ⟨by omega, fun _ => ?_, fun w => by omega⟩
            have := ih (i + 1) μ2 (.inl (-1)) (by omega) k2 (fun j b hb => ?_) k4
            · rw [show (8 * (s : Int) + i + 1) = 8 * (s : Int) + ((i + 1 : Nat) : Int) by omega]
              exact this
            · rw [e10, k3 j b hb]
              have := zix_neg.mp u2 b (List.mem_of_getElem? hb)
              simp only [List.mem_append, List.mem_singleton]
              simp [this]
          · have u51 := u5.1
            refine ⟨by omega, fun w => by omega, fun _ => ⟨by omega, ?_⟩⟩
            have f2 : zF [61] [] μ2 (zup μ2 61 (zwr s L P[i].1) 1) := (zF.refl _ _ _).u (by simp) (by decide)
            have := ih (i + 1) (zup μ2 61 (zwr s L P[i].1) 1) (.inl (zwr s L P[i].1)) (by omega) (k2.f f2 (by simp) (by simp)) (fun j b hb => ?_) (k4.trans (f2.lo (by simp)))
            · rw [show (8 * (s : Int) + i + 1) = 8 * (s : Int) + ((i + 1 : Nat) : Int) by omega]
              exact this
            · rw [e10, u4]
              by_cases e : j = i2
              · subst e
                rw [u2] at hb
                injection hb with hb
                subst hb
                rw [zup_eq]
                simp
              · rw [zup_nf (by omega), k3 j b hb]
                have : b.1 ≠ P[i].1 := fun e2 => e (hN1 j i2 b (P[i].1, bs) hb u2 e2)
                simp only [List.mem_append, List.mem_singleton]
                simp [this]
      have := loop P.length 0 μb x3 (by omega) hRb (by simpa using hQb) hlb
      rw [show (8 * (s : Int) + ((0 : Nat) : Int)) = 8 * (s : Int) by omega] at this
      exact this
    -- deep pins
    have deepl : ∀ (r i : Nat) (μ2 : zM) (S : List Int) (x3 x4 x5 : zV), i + r = P.length → zRN μ2 B T Ms Sm → zmS μ2 L S → zmQ μ2 s L S → S.length + 4 * zun L S ≤ 256 + i → zlo μ μ2 → zdeep L P [] = zdeep L (P.drop i) S → G 47 [.inr (some 56), .inl (s : Int), .inl (8 * (s : Int) + i), x3, x4, x5] [] μ2 := by
      intro r
      induction r with
      | zero =>
        intro i μ2 S x3 x4 x5 k1 k2 k3 k4 k5 k6 k7
        rw [List.drop_of_length_le (by omega)] at k7
        simp only [zdeep] at k7
        have hP2 := (k2.2.2.2 s h3).2.1
        have hL2 := (k2.2.2.2 s h3).1
        have hF2 := (k2.2.2.2 s h3).2.2
        rw [← hP] at hP2
        rw [← hL] at hL2
        rw [← hfs, ← hfr] at hF2
        refine s_X11_collect_47 hG ?_
        simp only [b_X11_collect_0, b_X11_collect_7, b_X11_collect_9, b_X11_collect_14, b_X11_collect_25, b_X11_collect_38, b_X11_collect_47, b_X11_collect_62, b_X11_collect_71, b_X11_collect_82, b_X11_collect_88, b_X11_collect_98, b_X11_collect_109, b_X11_collect_114, b_X11_collect_129, b_X11_collect_145, b_X11_collect_152, b_X11_collect_158, b_X11_collect_165, b_X11_collect_180, b_X11_collect_189, b_X11_collect_192, b_X11_collect_229, b_X11_collect_236, b_X11_collect_267, b_X11_collect_270, b_X11_collect_276, o_c, o_il, o_al, o_is, o_as, o_inc, o_add, o_sub, o_mul, o_and, o_or, o_xor, o_shl, o_shr, o_ush, o_rem, o_dup, o_dup2, o_gf, o_pf, o_pz, o_iald, o_iast, o_zald, o_zast, o_aald, o_gs, o_min, o_acp, o_call, o_callv, zgf, zpf, zia_, zza_, zra_, zrd_, zcp_, zpop, zsm8_0, zsm8_1, zsm8_2, zsm8_3, zsm8_4, zsm8_5, zrc, zisob, t_ieq, t_ilt, t_igt, t_zeq, t_zlt, t_zgt, t_sw, zsw, t_iret, t_zret, t_aret, t_vret, zrg, List.getElem?_cons_zero, List.getElem?_cons_succ, List.set_cons_zero, List.set_cons_succ, List.length_cons, List.length_nil, Option.toList_some, Option.toList_none, List.nil_append, List.cons_append, true_and, and_true, true_or, or_true, Int.cast_ofNat_Int, Int.natCast_zero, Int.natCast_one, zsh_56, zsh_57, zsh_58, zsh_59, zsh_60, zsh_61, zsh_62, zsh_63, zsh_64, zsh_65, zsh_66, zsh_67, zsh_68, zsh_69, zsh_70, zsh_71, zsh_72, zsh_73, zsh_74, zsh_75, zsh_76, zsh_77, zsh_78, zsh_79, zsh_80, zsh_81, zsh_82, zsh_83, zsh_84, zsh_85, zsh_86, zsh_87, zup_ne, zup_eq, zup_nf, ne_eq, not_false_eq_true]
        rw [hP2.1, hF2.1, hF2.2.2.1]
        refine ⟨by omega, by omega, by omega, fun w => by omega, fun _ => ⟨by omega, by omega, by omega, fun w => ⟨by omega, ?_⟩, fun w => ?_⟩⟩
        · refine ⟨_, c_X11_walk (K := 256 + i) (by omega) hL2 h3 hV1 hN1 k3 hfr0 k5 (by omega), ?_⟩
          rintro v μ3 ⟨rfl, g1, g2, g3, g4⟩
          simp only [b_X11_collect_0, b_X11_collect_7, b_X11_collect_9, b_X11_collect_14, b_X11_collect_25, b_X11_collect_38, b_X11_collect_47, b_X11_collect_62, b_X11_collect_71, b_X11_collect_82, b_X11_collect_88, b_X11_collect_98, b_X11_collect_109, b_X11_collect_114, b_X11_collect_129, b_X11_collect_145, b_X11_collect_152, b_X11_collect_158, b_X11_collect_165, b_X11_collect_180, b_X11_collect_189, b_X11_collect_192, b_X11_collect_229, b_X11_collect_236, b_X11_collect_267, b_X11_collect_270, b_X11_collect_276, o_c, o_il, o_al, o_is, o_as, o_inc, o_add, o_sub, o_mul, o_and, o_or, o_xor, o_shl, o_shr, o_ush, o_rem, o_dup, o_dup2, o_gf, o_pf, o_pz, o_iald, o_iast, o_zald, o_zast, o_aald, o_gs, o_min, o_acp, o_call, o_callv, zgf, zpf, zia_, zza_, zra_, zrd_, zcp_, zpop, zsm8_0, zsm8_1, zsm8_2, zsm8_3, zsm8_4, zsm8_5, zrc, zisob, t_ieq, t_ilt, t_igt, t_zeq, t_zlt, t_zgt, t_sw, zsw, t_iret, t_zret, t_aret, t_vret, zrg, List.getElem?_cons_zero, List.getElem?_cons_succ, List.set_cons_zero, List.set_cons_succ, List.length_cons, List.length_nil, Option.toList_some, Option.toList_none, List.nil_append, List.cons_append, true_and, and_true, true_or, or_true, Int.cast_ofNat_Int, Int.natCast_zero, Int.natCast_one, zsh_56, zsh_57, zsh_58, zsh_59, zsh_60, zsh_61, zsh_62, zsh_63, zsh_64, zsh_65, zsh_66, zsh_67, zsh_68, zsh_69, zsh_70, zsh_71, zsh_72, zsh_73, zsh_74, zsh_75, zsh_76, zsh_77, zsh_78, zsh_79, zsh_80, zsh_81, zsh_82, zsh_83, zsh_84, zsh_85, zsh_86, zsh_87, zup_ne, zup_eq, zup_nf, ne_eq, not_false_eq_true]
          refine pinned μ3 _ (k2.f g2 (by simp) (by simp)) (g3 k4) (k6.trans (g2.lo (by simp))) ?_ _ _ _
          rw [hKp]
          unfold zkpt
          rw [if_pos w, k7]
        · refine pinned μ2 _ k2 k4 k6 ?_ _ _ _
          rw [hKp]
          unfold zkpt
          rw [if_neg w, k7]
      | succ r ih =>
        intro i μ2 S x3 x4 x5 k1 k2 k3 k4 k5 k6 k7
        have hi : i < P.length := by omega
        rw [List.drop_eq_getElem_cons hi] at k7
        simp only [zdeep] at k7
        have hP2 := (k2.2.2.2 s h3).2.1
        have hL2 := (k2.2.2.2 s h3).1
        rw [← hP] at hP2
        rw [← hL] at hL2
        obtain ⟨v1, v2⟩ := hP2.2.2.1 i P[i] (List.getElem?_eq_getElem hi)
        obtain ⟨hpr, hpd⟩ := hP2.2.2.2 P[i] (List.getElem_mem hi)
        refine s_X11_collect_47 hG ?_
        simp only [b_X11_collect_0, b_X11_collect_7, b_X11_collect_9, b_X11_collect_14, b_X11_collect_25, b_X11_collect_38, b_X11_collect_47, b_X11_collect_62, b_X11_collect_71, b_X11_collect_82, b_X11_collect_88, b_X11_collect_98, b_X11_collect_109, b_X11_collect_114, b_X11_collect_129, b_X11_collect_145, b_X11_collect_152, b_X11_collect_158, b_X11_collect_165, b_X11_collect_180, b_X11_collect_189, b_X11_collect_192, b_X11_collect_229, b_X11_collect_236, b_X11_collect_267, b_X11_collect_270, b_X11_collect_276, o_c, o_il, o_al, o_is, o_as, o_inc, o_add, o_sub, o_mul, o_and, o_or, o_xor, o_shl, o_shr, o_ush, o_rem, o_dup, o_dup2, o_gf, o_pf, o_pz, o_iald, o_iast, o_zald, o_zast, o_aald, o_gs, o_min, o_acp, o_call, o_callv, zgf, zpf, zia_, zza_, zra_, zrd_, zcp_, zpop, zsm8_0, zsm8_1, zsm8_2, zsm8_3, zsm8_4, zsm8_5, zrc, zisob, t_ieq, t_ilt, t_igt, t_zeq, t_zlt, t_zgt, t_sw, zsw, t_iret, t_zret, t_aret, t_vret, zrg, List.getElem?_cons_zero, List.getElem?_cons_succ, List.set_cons_zero, List.set_cons_succ, List.length_cons, List.length_nil, Option.toList_some, Option.toList_none, List.nil_append, List.cons_append, true_and, and_true, true_or, or_true, Int.cast_ofNat_Int, Int.natCast_zero, Int.natCast_one, zsh_56, zsh_57, zsh_58, zsh_59, zsh_60, zsh_61, zsh_62, zsh_63, zsh_64, zsh_65, zsh_66, zsh_67, zsh_68, zsh_69, zsh_70, zsh_71, zsh_72, zsh_73, zsh_74, zsh_75, zsh_76, zsh_77, zsh_78, zsh_79, zsh_80, zsh_81, zsh_82, zsh_83, zsh_84, zsh_85, zsh_86, zsh_87, zup_ne, zup_eq, zup_nf, ne_eq, not_false_eq_true]
        rw [hP2.1, v1, v2]
        refine ⟨by omega, by omega, by omega, fun _ => ⟨by omega, by omega, fun w => ?_, fun w => ⟨by omega, ?_⟩⟩, fun w => by omega⟩
        · rw [if_neg (by omega)] at k7
          have := ih (i + 1) μ2 S x3 x4 x5 (by omega) k2 k3 k4 (by omega) k6 k7
          rw [show (8 * (s : Int) + i + 1) = 8 * (s : Int) + ((i + 1 : Nat) : Int) by omega]
          exact this
        · rw [if_pos (by omega)] at k7
          refine ⟨_, c_X11_walk (K := 256 + i) (by omega) hL2 h3 hV1 hN1 k3 hpr k5 (by omega), ?_⟩
          rintro v μ3 ⟨rfl, g1, g2, g3, g4⟩
          simp only [b_X11_collect_0, b_X11_collect_7, b_X11_collect_9, b_X11_collect_14, b_X11_collect_25, b_X11_collect_38, b_X11_collect_47, b_X11_collect_62, b_X11_collect_71, b_X11_collect_82, b_X11_collect_88, b_X11_collect_98, b_X11_collect_109, b_X11_collect_114, b_X11_collect_129, b_X11_collect_145, b_X11_collect_152, b_X11_collect_158, b_X11_collect_165, b_X11_collect_180, b_X11_collect_189, b_X11_collect_192, b_X11_collect_229, b_X11_collect_236, b_X11_collect_267, b_X11_collect_270, b_X11_collect_276, o_c, o_il, o_al, o_is, o_as, o_inc, o_add, o_sub, o_mul, o_and, o_or, o_xor, o_shl, o_shr, o_ush, o_rem, o_dup, o_dup2, o_gf, o_pf, o_pz, o_iald, o_iast, o_zald, o_zast, o_aald, o_gs, o_min, o_acp, o_call, o_callv, zgf, zpf, zia_, zza_, zra_, zrd_, zcp_, zpop, zsm8_0, zsm8_1, zsm8_2, zsm8_3, zsm8_4, zsm8_5, zrc, zisob, t_ieq, t_ilt, t_igt, t_zeq, t_zlt, t_zgt, t_sw, zsw, t_iret, t_zret, t_aret, t_vret, zrg, List.getElem?_cons_zero, List.getElem?_cons_succ, List.set_cons_zero, List.set_cons_succ, List.length_cons, List.length_nil, Option.toList_some, Option.toList_none, List.nil_append, List.cons_append, true_and, and_true, true_or, or_true, Int.cast_ofNat_Int, Int.natCast_zero, Int.natCast_one, zsh_56, zsh_57, zsh_58, zsh_59, zsh_60, zsh_61, zsh_62, zsh_63, zsh_64, zsh_65, zsh_66, zsh_67, zsh_68, zsh_69, zsh_70, zsh_71, zsh_72, zsh_73, zsh_74, zsh_75, zsh_76, zsh_77, zsh_78, zsh_79, zsh_80, zsh_81, zsh_82, zsh_83, zsh_84, zsh_85, zsh_86, zsh_87, zup_ne, zup_eq, zup_nf, ne_eq, not_false_eq_true]
          have := ih (i + 1) μ3 _ x3 x4 x5 (by omega) (k2.f g2 (by simp) (by simp)) g1 (g3 k4) (by omega) (k6.trans (g2.lo (by simp))) k7
          rw [show (8 * (s : Int) + i + 1) = 8 * (s : Int) + ((i + 1 : Nat) : Int) by omega]
          exact this
    -- all flags down
    have reset : ∀ (r i : Nat) (μ2 : zM) (x3 x4 x5 : zV), i + r = 64 → zF [61] [] μ μ2 → (∀ j : Nat, j < i → μ2 61 (64 * s + j) = 0) → G 14 [.inr (some 56), .inl (s : Int), .inl (64 * (s : Int) + i), x3, x4, x5] [] μ2 := by
      intro r
      induction r with
      | zero =>
        intro i μ2 x3 x4 x5 k1 k2 k3
        refine s_X11_collect_14 hG ?_
        simp only [b_X11_collect_0, b_X11_collect_7, b_X11_collect_9, b_X11_collect_14, b_X11_collect_25, b_X11_collect_38, b_X11_collect_47, b_X11_collect_62, b_X11_collect_71, b_X11_collect_82, b_X11_collect_88, b_X11_collect_98, b_X11_collect_109, b_X11_collect_114, b_X11_collect_129, b_X11_collect_145, b_X11_collect_152, b_X11_collect_158, b_X11_collect_165, b_X11_collect_180, b_X11_collect_189, b_X11_collect_192, b_X11_collect_229, b_X11_collect_236, b_X11_collect_267, b_X11_collect_270, b_X11_collect_276, o_c, o_il, o_al, o_is, o_as, o_inc, o_add, o_sub, o_mul, o_and, o_or, o_xor, o_shl, o_shr, o_ush, o_rem, o_dup, o_dup2, o_gf, o_pf, o_pz, o_iald, o_iast, o_zald, o_zast, o_aald, o_gs, o_min, o_acp, o_call, o_callv, zgf, zpf, zia_, zza_, zra_, zrd_, zcp_, zpop, zsm8_0, zsm8_1, zsm8_2, zsm8_3, zsm8_4, zsm8_5, zrc, zisob, t_ieq, t_ilt, t_igt, t_zeq, t_zlt, t_zgt, t_sw, zsw, t_iret, t_zret, t_aret, t_vret, zrg, List.getElem?_cons_zero, List.getElem?_cons_succ, List.set_cons_zero, List.set_cons_succ, List.length_cons, List.length_nil, Option.toList_some, Option.toList_none, List.nil_append, List.cons_append, true_and, and_true, true_or, or_true, Int.cast_ofNat_Int, Int.natCast_zero, Int.natCast_one, zsh_56, zsh_57, zsh_58, zsh_59, zsh_60, zsh_61, zsh_62, zsh_63, zsh_64, zsh_65, zsh_66, zsh_67, zsh_68, zsh_69, zsh_70, zsh_71, zsh_72, zsh_73, zsh_74, zsh_75, zsh_76, zsh_77, zsh_78, zsh_79, zsh_80, zsh_81, zsh_82, zsh_83, zsh_84, zsh_85, zsh_86, zsh_87, zup_ne, zup_eq, zup_nf, ne_eq, not_false_eq_true]
        refine ⟨by omega, by omega, fun w => by omega, fun _ => ?_⟩
        refine ⟨_, c_X11_beginWalk, ?_⟩
        rintro v μ3 ⟨rfl, b1, b2, b3⟩
        simp only [b_X11_collect_0, b_X11_collect_7, b_X11_collect_9, b_X11_collect_14, b_X11_collect_25, b_X11_collect_38, b_X11_collect_47, b_X11_collect_62, b_X11_collect_71, b_X11_collect_82, b_X11_collect_88, b_X11_collect_98, b_X11_collect_109, b_X11_collect_114, b_X11_collect_129, b_X11_collect_145, b_X11_collect_152, b_X11_collect_158, b_X11_collect_165, b_X11_collect_180, b_X11_collect_189, b_X11_collect_192, b_X11_collect_229, b_X11_collect_236, b_X11_collect_267, b_X11_collect_270, b_X11_collect_276, o_c, o_il, o_al, o_is, o_as, o_inc, o_add, o_sub, o_mul, o_and, o_or, o_xor, o_shl, o_shr, o_ush, o_rem, o_dup, o_dup2, o_gf, o_pf, o_pz, o_iald, o_iast, o_zald, o_zast, o_aald, o_gs, o_min, o_acp, o_call, o_callv, zgf, zpf, zia_, zza_, zra_, zrd_, zcp_, zpop, zsm8_0, zsm8_1, zsm8_2, zsm8_3, zsm8_4, zsm8_5, zrc, zisob, t_ieq, t_ilt, t_igt, t_zeq, t_zlt, t_zgt, t_sw, zsw, t_iret, t_zret, t_aret, t_vret, zrg, List.getElem?_cons_zero, List.getElem?_cons_succ, List.set_cons_zero, List.set_cons_succ, List.length_cons, List.length_nil, Option.toList_some, Option.toList_none, List.nil_append, List.cons_append, true_and, and_true, true_or, or_true, Int.cast_ofNat_Int, Int.natCast_zero, Int.natCast_one, zsh_56, zsh_57, zsh_58, zsh_59, zsh_60, zsh_61, zsh_62, zsh_63, zsh_64, zsh_65, zsh_66, zsh_67, zsh_68, zsh_69, zsh_70, zsh_71, zsh_72, zsh_73, zsh_74, zsh_75, zsh_76, zsh_77, zsh_78, zsh_79, zsh_80, zsh_81, zsh_82, zsh_83, zsh_84, zsh_85, zsh_86, zsh_87, zup_ne, zup_eq, zup_nf, ne_eq, not_false_eq_true]
        have hR3 := (h.f k2 (by simp) (by simp)).f b3 (by simp) (by simp)
        have := deepl P.length 0 μ3 [] x3 x4 x5 (by omega) hR3 (zmS.nil b1 b2) (fun j b hb => ?_) (by simp; omega) ((k2.lo (by simp)).trans (b3.lo (by simp))) rfl
        · rw [show (8 * (s : Int) + ((0 : Nat) : Int)) = 8 * (s : Int) by omega] at this
          exact this
        · have hjl := (List.getElem?_eq_some_iff.mp hb).1
          rw [b3.1 61 (by simp) (by decide), k3 j (by omega)]
          simp
      | succ r ih =>
        intro i μ2 x3 x4 x5 k1 k2 k3
        refine s_X11_collect_14 hG ?_
        simp only [b_X11_collect_0, b_X11_collect_7, b_X11_collect_9, b_X11_collect_14, b_X11_collect_25, b_X11_collect_38, b_X11_collect_47, b_X11_collect_62, b_X11_collect_71, b_X11_collect_82, b_X11_collect_88, b_X11_collect_98, b_X11_collect_109, b_X11_collect_114, b_X11_collect_129, b_X11_collect_145, b_X11_collect_152, b_X11_collect_158, b_X11_collect_165, b_X11_collect_180, b_X11_collect_189, b_X11_collect_192, b_X11_collect_229, b_X11_collect_236, b_X11_collect_267, b_X11_collect_270, b_X11_collect_276, o_c, o_il, o_al, o_is, o_as, o_inc, o_add, o_sub, o_mul, o_and, o_or, o_xor, o_shl, o_shr, o_ush, o_rem, o_dup, o_dup2, o_gf, o_pf, o_pz, o_iald, o_iast, o_zald, o_zast, o_aald, o_gs, o_min, o_acp, o_call, o_callv, zgf, zpf, zia_, zza_, zra_, zrd_, zcp_, zpop, zsm8_0, zsm8_1, zsm8_2, zsm8_3, zsm8_4, zsm8_5, zrc, zisob, t_ieq, t_ilt, t_igt, t_zeq, t_zlt, t_zgt, t_sw, zsw, t_iret, t_zret, t_aret, t_vret, zrg, List.getElem?_cons_zero, List.getElem?_cons_succ, List.set_cons_zero, List.set_cons_succ, List.length_cons, List.length_nil, Option.toList_some, Option.toList_none, List.nil_append, List.cons_append, true_and, and_true, true_or, or_true, Int.cast_ofNat_Int, Int.natCast_zero, Int.natCast_one, zsh_56, zsh_57, zsh_58, zsh_59, zsh_60, zsh_61, zsh_62, zsh_63, zsh_64, zsh_65, zsh_66, zsh_67, zsh_68, zsh_69, zsh_70, zsh_71, zsh_72, zsh_73, zsh_74, zsh_75, zsh_76, zsh_77, zsh_78, zsh_79, zsh_80, zsh_81, zsh_82, zsh_83, zsh_84, zsh_85, zsh_86, zsh_87, zup_ne, zup_eq, zup_nf, ne_eq, not_false_eq_true]
        refine ⟨by omega, by omega, fun _ => ⟨by omega, ?_⟩, fun w => by omega⟩
        have := ih (i + 1) (zup μ2 61 (64 * s + i) 0) x3 x4 x5 (by omega) (k2.u (by simp) (by decide)) (fun j hj => ?_)
        · rw [show (64 * (s : Int) + i + 1) = 64 * (s : Int) + ((i + 1 : Nat) : Int) by omega]
          exact this
        · by_cases e : j = i
          · rw [e, zup_eq]
          · rw [zup_nf (by omega)]; exact k3 j (by omega)
    simp only [b_X11_collect_0, b_X11_collect_7, b_X11_collect_9, b_X11_collect_14, b_X11_collect_25, b_X11_collect_38, b_X11_collect_47, b_X11_collect_62, b_X11_collect_71, b_X11_collect_82, b_X11_collect_88, b_X11_collect_98, b_X11_collect_109, b_X11_collect_114, b_X11_collect_129, b_X11_collect_145, b_X11_collect_152, b_X11_collect_158, b_X11_collect_165, b_X11_collect_180, b_X11_collect_189, b_X11_collect_192, b_X11_collect_229, b_X11_collect_236, b_X11_collect_267, b_X11_collect_270, b_X11_collect_276, o_c, o_il, o_al, o_is, o_as, o_inc, o_add, o_sub, o_mul, o_and, o_or, o_xor, o_shl, o_shr, o_ush, o_rem, o_dup, o_dup2, o_gf, o_pf, o_pz, o_iald, o_iast, o_zald, o_zast, o_aald, o_gs, o_min, o_acp, o_call, o_callv, zgf, zpf, zia_, zza_, zra_, zrd_, zcp_, zpop, zsm8_0, zsm8_1, zsm8_2, zsm8_3, zsm8_4, zsm8_5, zrc, zisob, t_ieq, t_ilt, t_igt, t_zeq, t_zlt, t_zgt, t_sw, zsw, t_iret, t_zret, t_aret, t_vret, zrg, List.getElem?_cons_zero, List.getElem?_cons_succ, List.set_cons_zero, List.set_cons_succ, List.length_cons, List.length_nil, Option.toList_some, Option.toList_none, List.nil_append, List.cons_append, true_and, and_true, true_or, or_true, Int.cast_ofNat_Int, Int.natCast_zero, Int.natCast_one, zsh_56, zsh_57, zsh_58, zsh_59, zsh_60, zsh_61, zsh_62, zsh_63, zsh_64, zsh_65, zsh_66, zsh_67, zsh_68, zsh_69, zsh_70, zsh_71, zsh_72, zsh_73, zsh_74, zsh_75, zsh_76, zsh_77, zsh_78, zsh_79, zsh_80, zsh_81, zsh_82, zsh_83, zsh_84, zsh_85, zsh_86, zsh_87, zup_ne, zup_eq, zup_nf, ne_eq, not_false_eq_true]
    refine zcall (c_X11_isStore hs) ?_
    rw [zb_t hc]
    simp only [b_X11_collect_0, b_X11_collect_7, b_X11_collect_9, b_X11_collect_14, b_X11_collect_25, b_X11_collect_38, b_X11_collect_47, b_X11_collect_62, b_X11_collect_71, b_X11_collect_82, b_X11_collect_88, b_X11_collect_98, b_X11_collect_109, b_X11_collect_114, b_X11_collect_129, b_X11_collect_145, b_X11_collect_152, b_X11_collect_158, b_X11_collect_165, b_X11_collect_180, b_X11_collect_189, b_X11_collect_192, b_X11_collect_229, b_X11_collect_236, b_X11_collect_267, b_X11_collect_270, b_X11_collect_276, o_c, o_il, o_al, o_is, o_as, o_inc, o_add, o_sub, o_mul, o_and, o_or, o_xor, o_shl, o_shr, o_ush, o_rem, o_dup, o_dup2, o_gf, o_pf, o_pz, o_iald, o_iast, o_zald, o_zast, o_aald, o_gs, o_min, o_acp, o_call, o_callv, zgf, zpf, zia_, zza_, zra_, zrd_, zcp_, zpop, zsm8_0, zsm8_1, zsm8_2, zsm8_3, zsm8_4, zsm8_5, zrc, zisob, t_ieq, t_ilt, t_igt, t_zeq, t_zlt, t_zgt, t_sw, zsw, t_iret, t_zret, t_aret, t_vret, zrg, List.getElem?_cons_zero, List.getElem?_cons_succ, List.set_cons_zero, List.set_cons_succ, List.length_cons, List.length_nil, Option.toList_some, Option.toList_none, List.nil_append, List.cons_append, true_and, and_true, true_or, or_true, Int.cast_ofNat_Int, Int.natCast_zero, Int.natCast_one, zsh_56, zsh_57, zsh_58, zsh_59, zsh_60, zsh_61, zsh_62, zsh_63, zsh_64, zsh_65, zsh_66, zsh_67, zsh_68, zsh_69, zsh_70, zsh_71, zsh_72, zsh_73, zsh_74, zsh_75, zsh_76, zsh_77, zsh_78, zsh_79, zsh_80, zsh_81, zsh_82, zsh_83, zsh_84, zsh_85, zsh_86, zsh_87, zup_ne, zup_eq, zup_nf, ne_eq, not_false_eq_true]
    refine ⟨by omega, fun w => by omega, fun _ => ?_⟩
    have := reset 64 0 μ (.inr none) (.inr none) (.inr none) (by omega) (zF.refl _ _ _) (fun j hj => by omega)
    rw [show (64 * (s : Int) + ((0 : Nat) : Int)) = 64 * (s : Int) by omega] at this
    exact this
  · rw [if_neg hc, if_neg hc]
    refine of_X11_collect (by omega) (fun G hG => s_X11_collect_0 hG ?_)
    simp only [b_X11_collect_0, b_X11_collect_7, b_X11_collect_9, b_X11_collect_14, b_X11_collect_25, b_X11_collect_38, b_X11_collect_47, b_X11_collect_62, b_X11_collect_71, b_X11_collect_82, b_X11_collect_88, b_X11_collect_98, b_X11_collect_109, b_X11_collect_114, b_X11_collect_129, b_X11_collect_145, b_X11_collect_152, b_X11_collect_158, b_X11_collect_165, b_X11_collect_180, b_X11_collect_189, b_X11_collect_192, b_X11_collect_229, b_X11_collect_236, b_X11_collect_267, b_X11_collect_270, b_X11_collect_276, o_c, o_il, o_al, o_is, o_as, o_inc, o_add, o_sub, o_mul, o_and, o_or, o_xor, o_shl, o_shr, o_ush, o_rem, o_dup, o_dup2, o_gf, o_pf, o_pz, o_iald, o_iast, o_zald, o_zast, o_aald, o_gs, o_min, o_acp, o_call, o_callv, zgf, zpf, zia_, zza_, zra_, zrd_, zcp_, zpop, zsm8_0, zsm8_1, zsm8_2, zsm8_3, zsm8_4, zsm8_5, zrc, zisob, t_ieq, t_ilt, t_igt, t_zeq, t_zlt, t_zgt, t_sw, zsw, t_iret, t_zret, t_aret, t_vret, zrg, List.getElem?_cons_zero, List.getElem?_cons_succ, List.set_cons_zero, List.set_cons_succ, List.length_cons, List.length_nil, Option.toList_some, Option.toList_none, List.nil_append, List.cons_append, true_and, and_true, true_or, or_true, Int.cast_ofNat_Int, Int.natCast_zero, Int.natCast_one, zsh_56, zsh_57, zsh_58, zsh_59, zsh_60, zsh_61, zsh_62, zsh_63, zsh_64, zsh_65, zsh_66, zsh_67, zsh_68, zsh_69, zsh_70, zsh_71, zsh_72, zsh_73, zsh_74, zsh_75, zsh_76, zsh_77, zsh_78, zsh_79, zsh_80, zsh_81, zsh_82, zsh_83, zsh_84, zsh_85, zsh_86, zsh_87, zup_ne, zup_eq, zup_nf, ne_eq, not_false_eq_true]
    refine zcall (c_X11_isStore hs) ?_
    rw [zb_f (P := 0 ≤ store ∧ store ≤ 2) hc]
    simp only [b_X11_collect_0, b_X11_collect_7, b_X11_collect_9, b_X11_collect_14, b_X11_collect_25, b_X11_collect_38, b_X11_collect_47, b_X11_collect_62, b_X11_collect_71, b_X11_collect_82, b_X11_collect_88, b_X11_collect_98, b_X11_collect_109, b_X11_collect_114, b_X11_collect_129, b_X11_collect_145, b_X11_collect_152, b_X11_collect_158, b_X11_collect_165, b_X11_collect_180, b_X11_collect_189, b_X11_collect_192, b_X11_collect_229, b_X11_collect_236, b_X11_collect_267, b_X11_collect_270, b_X11_collect_276, o_c, o_il, o_al, o_is, o_as, o_inc, o_add, o_sub, o_mul, o_and, o_or, o_xor, o_shl, o_shr, o_ush, o_rem, o_dup, o_dup2, o_gf, o_pf, o_pz, o_iald, o_iast, o_zald, o_zast, o_aald, o_gs, o_min, o_acp, o_call, o_callv, zgf, zpf, zia_, zza_, zra_, zrd_, zcp_, zpop, zsm8_0, zsm8_1, zsm8_2, zsm8_3, zsm8_4, zsm8_5, zrc, zisob, t_ieq, t_ilt, t_igt, t_zeq, t_zlt, t_zgt, t_sw, zsw, t_iret, t_zret, t_aret, t_vret, zrg, List.getElem?_cons_zero, List.getElem?_cons_succ, List.set_cons_zero, List.set_cons_succ, List.length_cons, List.length_nil, Option.toList_some, Option.toList_none, List.nil_append, List.cons_append, true_and, and_true, true_or, or_true, Int.cast_ofNat_Int, Int.natCast_zero, Int.natCast_one, zsh_56, zsh_57, zsh_58, zsh_59, zsh_60, zsh_61, zsh_62, zsh_63, zsh_64, zsh_65, zsh_66, zsh_67, zsh_68, zsh_69, zsh_70, zsh_71, zsh_72, zsh_73, zsh_74, zsh_75, zsh_76, zsh_77, zsh_78, zsh_79, zsh_80, zsh_81, zsh_82, zsh_83, zsh_84, zsh_85, zsh_86, zsh_87, zup_ne, zup_eq, zup_nf, ne_eq, not_false_eq_true]
    exact ⟨by omega, fun _ => ⟨h, zlo.refl _⟩, fun w => absurd trivial w⟩
