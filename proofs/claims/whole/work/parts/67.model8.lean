/-! THE REFERENCE: pins, titles -/
def zpa8 (s : Nat) (P : List zPp) (p : zPp) : Int := if zpl P p < 0 then -1 else 8 * s + zpl P p
set_option maxRecDepth 100000 in
set_option maxHeartbeats 4000000 in
theorem c_X11_pinAt {d s : Nat} {μ : zM} {P : List zPp} {nm dp : Int} (h : zmP μ s P) (hs : s < 3) (hn : zrg nm) (hdp : dp = 0 ∨ dp = 1) : zCt d mX11_pinAt [.inr (some 56), .inl (s : Int), .inl nm, .inl dp] μ (zR (.inl (zpa8 s P (nm, dp))) μ) := by
  unfold zrg at hn
  obtain ⟨h1, h2, h3, h4⟩ := h
  refine of_X11_pinAt (fun G hG => s_X11_pinAt_0 hG ?_)
  have loop : ∀ (r i : Nat), i + r = P.length → zpl P (nm, dp) = zplf (nm, dp) (P.drop i) i → G 6 [.inr (some 56), .inl (s : Int), .inl nm, .inl dp, .inl (8 * (s : Int) + i)] [] μ := by
    intro r
    induction r with
    | zero =>
      intro i k1 k2
      rw [List.drop_of_length_le (by omega)] at k2
      refine s_X11_pinAt_6 hG ?_
      simp only [b_X11_pinAt_0, b_X11_pinAt_6, b_X11_pinAt_22, b_X11_pinAt_33, b_X11_pinAt_44, b_X11_pinAt_47, b_X11_pinAt_53, o_c, o_il, o_al, o_is, o_as, o_inc, o_add, o_sub, o_mul, o_and, o_or, o_xor, o_shl, o_shr, o_ush, o_rem, o_dup, o_dup2, o_gf, o_pf, o_pz, o_iald, o_iast, o_zald, o_zast, o_aald, o_gs, o_min, o_acp, o_call, o_callv, zgf, zpf, zia_, zza_, zra_, zrd_, zcp_, zpop, zsm8_0, zsm8_1, zsm8_2, zsm8_3, zsm8_4, zsm8_5, zrc, zisob, t_ieq, t_ilt, t_igt, t_zeq, t_zlt, t_zgt, t_sw, zsw, t_iret, t_zret, t_aret, t_vret, zrg, List.getElem?_cons_zero, List.getElem?_cons_succ, List.set_cons_zero, List.set_cons_succ, List.length_cons, List.length_nil, Option.toList_some, Option.toList_none, List.nil_append, List.cons_append, true_and, and_true, true_or, or_true, Int.cast_ofNat_Int, Int.natCast_zero, Int.natCast_one, zsh_56, zsh_57, zsh_58, zsh_59, zsh_60, zsh_61, zsh_62, zsh_63, zsh_64, zsh_65, zsh_66, zsh_67, zsh_68, zsh_69, zsh_70, zsh_71, zsh_72, zsh_73, zsh_74, zsh_75, zsh_76, zsh_77, zsh_78, zsh_79, zsh_80, zsh_81, zsh_82, zsh_83, zsh_84, zsh_85, zsh_86, zsh_87, zup_ne, zup_eq, zup_nf, ne_eq, not_false_eq_true]
      rw [h1]
      refine ⟨by omega, by omega, by omega, fun w => by omega, fun _ => ?_⟩
      unfold zpa8
      rw [k2]
      exact ⟨rfl, rfl⟩
    | succ r ih =>
      intro i k1 k2
      have hi : i < P.length := by omega
      rw [zplf_drop hi] at k2
      obtain ⟨e1, e2⟩ := h3 i P[i] (List.getElem?_eq_getElem hi)
      obtain ⟨r1, r2⟩ := h4 P[i] (List.getElem_mem hi)
      have nx : P[i] ≠ (nm, dp) → G 6 [.inr (some 56), .inl (s : Int), .inl nm, .inl dp, .inl (8 * (s : Int) + i + 1)] [] μ := fun w => by
        rw [if_neg w] at k2
        have := ih (i + 1) (by omega) k2
        rw [show (8 * (s : Int) + ((i + 1 : Nat) : Int)) = 8 * (s : Int) + i + 1 by omega] at this
        exact this
      refine s_X11_pinAt_6 hG ?_
      simp only [b_X11_pinAt_0, b_X11_pinAt_6, b_X11_pinAt_22, b_X11_pinAt_33, b_X11_pinAt_44, b_X11_pinAt_47, b_X11_pinAt_53, o_c, o_il, o_al, o_is, o_as, o_inc, o_add, o_sub, o_mul, o_and, o_or, o_xor, o_shl, o_shr, o_ush, o_rem, o_dup, o_dup2, o_gf, o_pf, o_pz, o_iald, o_iast, o_zald, o_zast, o_aald, o_gs, o_min, o_acp, o_call, o_callv, zgf, zpf, zia_, zza_, zra_, zrd_, zcp_, zpop, zsm8_0, zsm8_1, zsm8_2, zsm8_3, zsm8_4, zsm8_5, zrc, zisob, t_ieq, t_ilt, t_igt, t_zeq, t_zlt, t_zgt, t_sw, zsw, t_iret, t_zret, t_aret, t_vret, zrg, List.getElem?_cons_zero, List.getElem?_cons_succ, List.set_cons_zero, List.set_cons_succ, List.length_cons, List.length_nil, Option.toList_some, Option.toList_none, List.nil_append, List.cons_append, true_and, and_true, true_or, or_true, Int.cast_ofNat_Int, Int.natCast_zero, Int.natCast_one, zsh_56, zsh_57, zsh_58, zsh_59, zsh_60, zsh_61, zsh_62, zsh_63, zsh_64, zsh_65, zsh_66, zsh_67, zsh_68, zsh_69, zsh_70, zsh_71, zsh_72, zsh_73, zsh_74, zsh_75, zsh_76, zsh_77, zsh_78, zsh_79, zsh_80, zsh_81, zsh_82, zsh_83, zsh_84, zsh_85, zsh_86, zsh_87, zup_ne, zup_eq, zup_nf, ne_eq, not_false_eq_true]
      rw [h1, e1, e2]
      refine ⟨by omega, by omega, by omega, fun _ => ⟨by omega, by omega, by omega, fun w => ⟨by omega, by omega, by omega, fun w2 => ?_, fun w2 => ?_⟩, fun w => ?_⟩, fun w => by omega⟩
      · have e : P[i] = (nm, dp) := Prod.ext w w2
        rw [if_pos e] at k2
        unfold zpa8
        rw [k2, if_neg (by omega)]
        exact ⟨rfl, rfl⟩
      · exact nx (fun q => w2 (by rw [q]))
      · exact nx (fun q => w (by rw [q]))
  simp only [b_X11_pinAt_0, b_X11_pinAt_6, b_X11_pinAt_22, b_X11_pinAt_33, b_X11_pinAt_44, b_X11_pinAt_47, b_X11_pinAt_53, o_c, o_il, o_al, o_is, o_as, o_inc, o_add, o_sub, o_mul, o_and, o_or, o_xor, o_shl, o_shr, o_ush, o_rem, o_dup, o_dup2, o_gf, o_pf, o_pz, o_iald, o_iast, o_zald, o_zast, o_aald, o_gs, o_min, o_acp, o_call, o_callv, zgf, zpf, zia_, zza_, zra_, zrd_, zcp_, zpop, zsm8_0, zsm8_1, zsm8_2, zsm8_3, zsm8_4, zsm8_5, zrc, zisob, t_ieq, t_ilt, t_igt, t_zeq, t_zlt, t_zgt, t_sw, zsw, t_iret, t_zret, t_aret, t_vret, zrg, List.getElem?_cons_zero, List.getElem?_cons_succ, List.set_cons_zero, List.set_cons_succ, List.length_cons, List.length_nil, Option.toList_some, Option.toList_none, List.nil_append, List.cons_append, true_and, and_true, true_or, or_true, Int.cast_ofNat_Int, Int.natCast_zero, Int.natCast_one, zsh_56, zsh_57, zsh_58, zsh_59, zsh_60, zsh_61, zsh_62, zsh_63, zsh_64, zsh_65, zsh_66, zsh_67, zsh_68, zsh_69, zsh_70, zsh_71, zsh_72, zsh_73, zsh_74, zsh_75, zsh_76, zsh_77, zsh_78, zsh_79, zsh_80, zsh_81, zsh_82, zsh_83, zsh_84, zsh_85, zsh_86, zsh_87, zup_ne, zup_eq, zup_nf, ne_eq, not_false_eq_true]
  have := loop P.length 0 (by omega) rfl
  rw [show (8 * (s : Int) + ((0 : Nat) : Int)) = 8 * (s : Int) by omega] at this
  exact this
theorem zRN.pn {μ μ' : zM} {B : List Int} {T : List zPp} {Ms : List zMg} {Sm : Nat → zStt} {s : Nat} {P : List zPp} (h : zRN μ B T Ms Sm) (hp : zmP μ' s P) (f : zF [62, 63, 64] [] μ μ') (h62 : ∀ t : Int, t ≠ s → μ' 62 t = μ 62 t) (h63 : ∀ i : Int, (i < 8 * s ∨ 8 * s + 8 ≤ i) → μ' 63 i = μ 63 i ∧ μ' 64 i = μ 64 i) : zRN μ' B T Ms (zSu Sm s ((Sm s).1, P, (Sm s).2.2)) := by
  have e : ∀ c, 57 ≤ c → c ≠ 62 → c ≠ 63 → c ≠ 64 → μ' c = μ c := fun c h1 h2 h3 h4 => f.1 c (by simp; omega) (by omega)
  have g : ∀ i : Int, μ' 56 i = μ 56 i := fun i => f.2 i (by simp)
  refine ⟨h.1.e (e 74 (by omega) (by omega) (by omega) (by omega)) (g 18), h.2.1.e (fun c h1 h2 => e c (by omega) (by omega) (by omega) (by omega)) (g 20), h.2.2.1.e (fun c h1 h2 => e c (by omega) (by omega) (by omega) (by omega)) (g 11), fun t htt => ?_⟩
  have h4 := h.2.2.2 t htt
  have hl := h4.1.e (μ' := μ') (fun c h1 h2 => e c (by omega) (by omega) (by omega) (by omega))
  have hf := h4.2.2.e (μ' := μ') (fun c h1 h2 => e c (by omega) (by omega) (by omega) (by omega))
  unfold zSu
  split
  · rename_i q
    subst q
    exact ⟨hl, hp, hf⟩
  · rename_i q
    obtain ⟨p1, p2, p3, p4⟩ := h4.2.1
    refine ⟨hl, ⟨by rw [h62 t (by omega)]; exact p1, p2, fun i p hip => ?_, p4⟩, hf⟩
    have hil := (List.getElem?_eq_some_iff.mp hip).1
    have := h63 (8 * t + i) (by omega)
    rw [this.1, this.2]
    exact p3 i p hip
theorem z3_63 {μ : zM} {a v w b u x : Int} : zup (zup (zup μ 63 a v) 64 a w) 62 b u 63 x = if x = a then v else μ 63 x := by simp [zup]
theorem z3_64 {μ : zM} {a v w b u x : Int} : zup (zup (zup μ 63 a v) 64 a w) 62 b u 64 x = if x = a then w else μ 64 x := by simp [zup]
set_option maxRecDepth 100000 in
set_option maxHeartbeats 4000000 in
theorem c_X11_pin {d : Nat} {μ : zM} {B : List Int} {T : List zPp} {Ms : List zMg} {Sm : Nat → zStt} {store nm dp on : Int} (hd : 1 ≤ d) (h : zRN μ B T Ms Sm) (hs : zrg store) (hn : zrg nm) (hdp : dp = 0 ∨ dp = 1) (hon : on = 0 ∨ on = 1) : zCt d mX11_pin [.inr (some 56), .inl store, .inl nm, .inl dp, .inl on] μ (fun v μ' => v = some (.inl (zpnO Sm store nm dp on)) ∧ zRN μ' B T Ms (zpnS Sm store nm dp on) ∧ zlo μ μ') := by
  unfold zpnO zpnS
  by_cases hc : 0 ≤ store ∧ store ≤ 2
  · rw [if_pos hc, if_pos hc]
    obtain ⟨s, rfl, h3⟩ := zs3 hc
    rw [Int.toNat_natCast]
    have h4 := h.2.2.2 s h3
    obtain ⟨p1, p2, p3, p4⟩ := h4.2.1
    obtain ⟨P, hP⟩ : ∃ P, P = (Sm s).2.1 := ⟨_, rfl⟩
    obtain ⟨L, hL⟩ : ∃ L, L = (Sm s).1 := ⟨_, rfl⟩
    rw [← hP] at p1 p2 p3 p4 ⊢
    rw [← hL]
    have hmL : zmL μ s L := by rw [hL]; exact h4.1
    have same : zSu Sm s (L, P, (Sm s).2.2) = Sm := by rw [hL, hP]; exact zSu_id Sm s
    refine of_X11_pin hd (fun G hG => s_X11_pin_0 hG ?_)
    simp only [b_X11_pin_0, b_X11_pin_7, b_X11_pin_9, b_X11_pin_23, b_X11_pin_28, b_X11_pin_39, b_X11_pin_48, b_X11_pin_50, b_X11_pin_96, b_X11_pin_101, b_X11_pin_103, o_c, o_il, o_al, o_is, o_as, o_inc, o_add, o_sub, o_mul, o_and, o_or, o_xor, o_shl, o_shr, o_ush, o_rem, o_dup, o_dup2, o_gf, o_pf, o_pz, o_iald, o_iast, o_zald, o_zast, o_aald, o_gs, o_min, o_acp, o_call, o_callv, zgf, zpf, zia_, zza_, zra_, zrd_, zcp_, zpop, zsm8_0, zsm8_1, zsm8_2, zsm8_3, zsm8_4, zsm8_5, zrc, zisob, t_ieq, t_ilt, t_igt, t_zeq, t_zlt, t_zgt, t_sw, zsw, t_iret, t_zret, t_aret, t_vret, zrg, List.getElem?_cons_zero, List.getElem?_cons_succ, List.set_cons_zero, List.set_cons_succ, List.length_cons, List.length_nil, Option.toList_some, Option.toList_none, List.nil_append, List.cons_append, true_and, and_true, true_or, or_true, Int.cast_ofNat_Int, Int.natCast_zero, Int.natCast_one, zsh_56, zsh_57, zsh_58, zsh_59, zsh_60, zsh_61, zsh_62, zsh_63, zsh_64, zsh_65, zsh_66, zsh_67, zsh_68, zsh_69, zsh_70, zsh_71, zsh_72, zsh_73, zsh_74, zsh_75, zsh_76, zsh_77, zsh_78, zsh_79, zsh_80, zsh_81, zsh_82, zsh_83, zsh_84, zsh_85, zsh_86, zsh_87, zup_ne, zup_eq, zup_nf, ne_eq, not_false_eq_true]
    refine zcall (c_X11_isStore hs) ?_
    rw [zb_t hc]
    simp only [b_X11_pin_0, b_X11_pin_7, b_X11_pin_9, b_X11_pin_23, b_X11_pin_28, b_X11_pin_39, b_X11_pin_48, b_X11_pin_50, b_X11_pin_96, b_X11_pin_101, b_X11_pin_103, o_c, o_il, o_al, o_is, o_as, o_inc, o_add, o_sub, o_mul, o_and, o_or, o_xor, o_shl, o_shr, o_ush, o_rem, o_dup, o_dup2, o_gf, o_pf, o_pz, o_iald, o_iast, o_zald, o_zast, o_aald, o_gs, o_min, o_acp, o_call, o_callv, zgf, zpf, zia_, zza_, zra_, zrd_, zcp_, zpop, zsm8_0, zsm8_1, zsm8_2, zsm8_3, zsm8_4, zsm8_5, zrc, zisob, t_ieq, t_ilt, t_igt, t_zeq, t_zlt, t_zgt, t_sw, zsw, t_iret, t_zret, t_aret, t_vret, zrg, List.getElem?_cons_zero, List.getElem?_cons_succ, List.set_cons_zero, List.set_cons_succ, List.length_cons, List.length_nil, Option.toList_some, Option.toList_none, List.nil_append, List.cons_append, true_and, and_true, true_or, or_true, Int.cast_ofNat_Int, Int.natCast_zero, Int.natCast_one, zsh_56, zsh_57, zsh_58, zsh_59, zsh_60, zsh_61, zsh_62, zsh_63, zsh_64, zsh_65, zsh_66, zsh_67, zsh_68, zsh_69, zsh_70, zsh_71, zsh_72, zsh_73, zsh_74, zsh_75, zsh_76, zsh_77, zsh_78, zsh_79, zsh_80, zsh_81, zsh_82, zsh_83, zsh_84, zsh_85, zsh_86, zsh_87, zup_ne, zup_eq, zup_nf, ne_eq, not_false_eq_true]
    refine ⟨by omega, fun w => by omega, fun _ => ?_⟩
    refine zcall (c_X11_pinAt (P := P) ⟨p1, p2, p3, p4⟩ h3 hn hdp) ?_
    simp only [b_X11_pin_0, b_X11_pin_7, b_X11_pin_9, b_X11_pin_23, b_X11_pin_28, b_X11_pin_39, b_X11_pin_48, b_X11_pin_50, b_X11_pin_96, b_X11_pin_101, b_X11_pin_103, o_c, o_il, o_al, o_is, o_as, o_inc, o_add, o_sub, o_mul, o_and, o_or, o_xor, o_shl, o_shr, o_ush, o_rem, o_dup, o_dup2, o_gf, o_pf, o_pz, o_iald, o_iast, o_zald, o_zast, o_aald, o_gs, o_min, o_acp, o_call, o_callv, zgf, zpf, zia_, zza_, zra_, zrd_, zcp_, zpop, zsm8_0, zsm8_1, zsm8_2, zsm8_3, zsm8_4, zsm8_5, zrc, zisob, t_ieq, t_ilt, t_igt, t_zeq, t_zlt, t_zgt, t_sw, zsw, t_iret, t_zret, t_aret, t_vret, zrg, List.getElem?_cons_zero, List.getElem?_cons_succ, List.set_cons_zero, List.set_cons_succ, List.length_cons, List.length_nil, Option.toList_some, Option.toList_none, List.nil_append, List.cons_append, true_and, and_true, true_or, or_true, Int.cast_ofNat_Int, Int.natCast_zero, Int.natCast_one, zsh_56, zsh_57, zsh_58, zsh_59, zsh_60, zsh_61, zsh_62, zsh_63, zsh_64, zsh_65, zsh_66, zsh_67, zsh_68, zsh_69, zsh_70, zsh_71, zsh_72, zsh_73, zsh_74, zsh_75, zsh_76, zsh_77, zsh_78, zsh_79, zsh_80, zsh_81, zsh_82, zsh_83, zsh_84, zsh_85, zsh_86, zsh_87, zup_ne, zup_eq, zup_nf, ne_eq, not_false_eq_true]
    have hon' : -2147483648 ≤ on ∧ on ≤ 2147483647 := by omega
    have hz := zpl_rg P (nm, dp)
    unfold zpnR zpnP
    refine ⟨hon', fun w => ?_, fun w => ?_⟩
    · rw [if_pos w, if_pos w]
      unfold zpD
      rcases hz with hz | ⟨i, hz, hi, hip⟩
      · have e : zpa8 s P (nm, dp) = -1 := by unfold zpa8; rw [if_pos (by omega)]
        rw [e, zb_f (P := 0 ≤ zpl P (nm, dp)) (by omega), if_neg (by omega), same]
        exact ⟨by omega, fun _ => ⟨rfl, h, zlo.refl _⟩, fun w => by omega⟩
      · have e : zpa8 s P (nm, dp) = 8 * s + i := by unfold zpa8; rw [if_neg (by omega), hz]
        rw [e, zb_t (P := 0 ≤ zpl P (nm, dp)) (by omega), if_pos (by omega), hz, Int.toNat_natCast]
        rw [p1]
        have hlast : P[P.length - 1]? = some P[P.length - 1] := List.getElem?_eq_getElem (by omega)
        obtain ⟨q1, q2⟩ := p3 _ _ hlast
        have ek : (8 * (s : Int) + (P.length : Int) - 1) = 8 * (s : Int) + ((P.length - 1 : Nat) : Int) := by omega
        have hd2 := (p4 _ (List.getElem_mem (show P.length - 1 < P.length by omega))).2
        rw [zup_ne 64 (by decide), ek, q1, q2]
        refine ⟨by omega, fun w => by omega, fun _ => ⟨by omega, by omega, by omega, by omega, hd2, by omega, by omega, by omega, ?_⟩⟩
        have ez : zup (zup μ 63 (8 * ↑s + ↑i) P[P.length - 1].fst) 64 (8 * ↑s + ↑i) P[P.length - 1].snd 62 (s : Int) = (P.length : Int) := by
          rw [zup_ne _ (by decide), zup_ne _ (by decide)]; exact p1
        simp only [ez]
        refine ⟨trivial, ?_, ?_⟩
        · rw [hL]
          refine h.pn ⟨?_, ?_, fun j p hj => ?_, fun p hp => ?_⟩ ((((zF.refl _ _ _).u (by simp) (by decide)).u (by simp) (by decide)).u (by simp) (by decide)) (fun t ht => ?_) (fun x hx => ?_)
          · rw [zup_eq]; unfold zprm; simp; omega
          · unfold zprm; simp; omega
          · have hjl : j + 1 < P.length := by
              have := (List.getElem?_eq_some_iff.mp hj).1
              unfold zprm at this; simp at this; omega
            rw [zprm_get hi hjl] at hj
            rw [z3_63, z3_64]
            by_cases e : j = i
            · rw [if_pos e, hlast] at hj
              injection hj with hj
              rw [e, if_pos rfl, if_pos rfl, hj]
              exact ⟨rfl, rfl⟩
            · rw [if_neg e] at hj
              rw [if_neg (by omega), if_neg (by omega)]
              exact p3 j p hj
          · unfold zprm at hp
            have := List.dropLast_subset _ hp
            rcases List.mem_or_eq_of_mem_set this with q | q
            · exact p4 p q
            · rw [q]
              have e9 : P.getLastD (0, 0) = P[P.length - 1] := by
                rw [List.getLastD_eq_getLast?, List.getLast?_eq_getElem?, hlast]; rfl
              rw [e9]
              exact p4 _ (List.getElem_mem _)
          · rw [zup_nf ht, zup_ne _ (by decide), zup_ne _ (by decide)]
          · rw [z3_63, z3_64, if_neg (by omega), if_neg (by omega)]
            exact ⟨rfl, rfl⟩
        · intro c hcl
          rw [zup_ne _ (by omega), zup_ne _ (by omega), zup_ne _ (by omega)]
    · rw [if_neg w, if_neg w]
      have hzr : zpa8 s P (nm, dp) = -1 ∧ zpl P (nm, dp) < 0 ∨ (0 ≤ zpa8 s P (nm, dp) ∧ zpa8 s P (nm, dp) < 24) ∧ 0 ≤ zpl P (nm, dp) := by
        rcases hz with hz | ⟨i, hz, hi, hip⟩
        · left; exact ⟨by unfold zpa8; rw [if_pos (by omega)], by omega⟩
        · right; exact ⟨by unfold zpa8; rw [if_neg (by omega), hz]; omega, by omega⟩
      have bad : ¬ (0 ≤ zix L nm ∧ zpin P (nm, dp)) → (if 0 ≤ zix L nm then zpA P (nm, dp) else P) = P := fun q => by
        split
        · rename_i q2
          unfold zpA
          rw [if_neg (fun q3 : P.length < 8 ∧ zpl P (nm, dp) < 0 => q ⟨q2, q3⟩)]
        · rfl
      rw [p1]
      refine ⟨by omega, fun w2 => ⟨by omega, by omega, by omega, fun w3 => ?_, fun w3 => ?_⟩, fun w2 => ?_⟩
      · have hb : ¬ (0 ≤ zix L nm ∧ zpin P (nm, dp)) := fun q => by have := q.2.1; omega
        rw [zb_f hb, bad hb, same]
        exact ⟨rfl, h, zlo.refl _⟩
      · refine zcall (c_X11_where hmL h3 hn) ?_
        simp only [b_X11_pin_0, b_X11_pin_7, b_X11_pin_9, b_X11_pin_23, b_X11_pin_28, b_X11_pin_39, b_X11_pin_48, b_X11_pin_50, b_X11_pin_96, b_X11_pin_101, b_X11_pin_103, o_c, o_il, o_al, o_is, o_as, o_inc, o_add, o_sub, o_mul, o_and, o_or, o_xor, o_shl, o_shr, o_ush, o_rem, o_dup, o_dup2, o_gf, o_pf, o_pz, o_iald, o_iast, o_zald, o_zast, o_aald, o_gs, o_min, o_acp, o_call, o_callv, zgf, zpf, zia_, zza_, zra_, zrd_, zcp_, zpop, zsm8_0, zsm8_1, zsm8_2, zsm8_3, zsm8_4, zsm8_5, zrc, zisob, t_ieq, t_ilt, t_igt, t_zeq, t_zlt, t_zgt, t_sw, zsw, t_iret, t_zret, t_aret, t_vret, zrg, List.getElem?_cons_zero, List.getElem?_cons_succ, List.set_cons_zero, List.set_cons_succ, List.length_cons, List.length_nil, Option.toList_some, Option.toList_none, List.nil_append, List.cons_append, true_and, and_true, true_or, or_true, Int.cast_ofNat_Int, Int.natCast_zero, Int.natCast_one, zsh_56, zsh_57, zsh_58, zsh_59, zsh_60, zsh_61, zsh_62, zsh_63, zsh_64, zsh_65, zsh_66, zsh_67, zsh_68, zsh_69, zsh_70, zsh_71, zsh_72, zsh_73, zsh_74, zsh_75, zsh_76, zsh_77, zsh_78, zsh_79, zsh_80, zsh_81, zsh_82, zsh_83, zsh_84, zsh_85, zsh_86, zsh_87, zup_ne, zup_eq, zup_nf, ne_eq, not_false_eq_true]
        rw [p1]
        rcases hmL.wr h3 nm with ⟨u1, u2, u3⟩ | ⟨bs, i2, u1, u2, u3, u4, u5⟩
        · have hb : ¬ (0 ≤ zix L nm ∧ zpin P (nm, dp)) := fun q => by omega
          rw [zb_f hb, bad hb, same, u3]
          exact ⟨by omega, fun _ => ⟨rfl, h, zlo.refl _⟩, fun w => by omega⟩
        · have hg : 0 ≤ zix L nm ∧ zpin P (nm, dp) := ⟨by omega, by omega, by omega⟩
          have u51 := u5.1
          have hnr := (hmL.2.2.1 _ (List.mem_of_getElem? u2)).1
          rw [zb_t hg, if_pos hg.1]
          unfold zpA
          rw [if_pos (show P.length < 8 ∧ zpl P (nm, dp) < 0 from hg.2)]
          have ez : zup (zup μ 63 (8 * ↑s + ↑P.length) nm) 64 (8 * ↑s + ↑P.length) dp 62 (s : Int) = (P.length : Int) := by
            rw [zup_ne _ (by decide), zup_ne _ (by decide)]; exact p1
          rw [zup_ne 62 (by decide), p1]
          simp only [ez]
          refine ⟨by omega, fun w => by omega, fun _ => ⟨by omega, by omega, by omega, hdp, by omega, by omega, by omega, trivial, ?_, ?_⟩⟩
          · rw [hL]
            refine h.pn ⟨?_, ?_, fun j p hj => ?_, fun p hp => ?_⟩ ((((zF.refl _ _ _).u (by simp) (by decide)).u (by simp) (by decide)).u (by simp) (by decide)) (fun t ht => ?_) (fun x hx => ?_)
            · rw [zup_eq]; simp
            · simp; omega
            · rw [z3_63, z3_64]
              rcases Nat.lt_trichotomy j P.length with q | q | q
              · rw [List.getElem?_append_left q] at hj
                rw [if_neg (by omega), if_neg (by omega)]
                exact p3 j p hj
              · subst q
                rw [List.getElem?_append_right (Nat.le_refl _)] at hj
                simp at hj
                subst hj
                rw [if_pos rfl, if_pos rfl]
                exact ⟨rfl, rfl⟩
              · rw [List.getElem?_eq_none (by simp; omega)] at hj
                cases hj
            · rcases List.mem_append.mp hp with q | q
              · exact p4 p q
              · rw [List.mem_singleton.mp q]
                exact ⟨hnr, hdp⟩
            · rw [zup_nf ht, zup_ne _ (by decide), zup_ne _ (by decide)]
            · rw [z3_63, z3_64, if_neg (by omega), if_neg (by omega)]
              exact ⟨rfl, rfl⟩
          · intro c hcl
            rw [zup_ne _ (by omega), zup_ne _ (by omega), zup_ne _ (by omega)]
      · have hb : ¬ (0 ≤ zix L nm ∧ zpin P (nm, dp)) := fun q => by have := q.2.2; omega
        rw [zb_f hb, bad hb, same]
        exact ⟨rfl, h, zlo.refl _⟩
  · rw [if_neg hc, if_neg hc]
    refine of_X11_pin hd (fun G hG => s_X11_pin_0 hG ?_)
    simp only [b_X11_pin_0, b_X11_pin_7, b_X11_pin_9, b_X11_pin_23, b_X11_pin_28, b_X11_pin_39, b_X11_pin_48, b_X11_pin_50, b_X11_pin_96, b_X11_pin_101, b_X11_pin_103, o_c, o_il, o_al, o_is, o_as, o_inc, o_add, o_sub, o_mul, o_and, o_or, o_xor, o_shl, o_shr, o_ush, o_rem, o_dup, o_dup2, o_gf, o_pf, o_pz, o_iald, o_iast, o_zald, o_zast, o_aald, o_gs, o_min, o_acp, o_call, o_callv, zgf, zpf, zia_, zza_, zra_, zrd_, zcp_, zpop, zsm8_0, zsm8_1, zsm8_2, zsm8_3, zsm8_4, zsm8_5, zrc, zisob, t_ieq, t_ilt, t_igt, t_zeq, t_zlt, t_zgt, t_sw, zsw, t_iret, t_zret, t_aret, t_vret, zrg, List.getElem?_cons_zero, List.getElem?_cons_succ, List.set_cons_zero, List.set_cons_succ, List.length_cons, List.length_nil, Option.toList_some, Option.toList_none, List.nil_append, List.cons_append, true_and, and_true, true_or, or_true, Int.cast_ofNat_Int, Int.natCast_zero, Int.natCast_one, zsh_56, zsh_57, zsh_58, zsh_59, zsh_60, zsh_61, zsh_62, zsh_63, zsh_64, zsh_65, zsh_66, zsh_67, zsh_68, zsh_69, zsh_70, zsh_71, zsh_72, zsh_73, zsh_74, zsh_75, zsh_76, zsh_77, zsh_78, zsh_79, zsh_80, zsh_81, zsh_82, zsh_83, zsh_84, zsh_85, zsh_86, zsh_87, zup_ne, zup_eq, zup_nf, ne_eq, not_false_eq_true]
    refine zcall (c_X11_isStore hs) ?_
    rw [zb_f (P := 0 ≤ store ∧ store ≤ 2) hc]
    simp only [b_X11_pin_0, b_X11_pin_7, b_X11_pin_9, b_X11_pin_23, b_X11_pin_28, b_X11_pin_39, b_X11_pin_48, b_X11_pin_50, b_X11_pin_96, b_X11_pin_101, b_X11_pin_103, o_c, o_il, o_al, o_is, o_as, o_inc, o_add, o_sub, o_mul, o_and, o_or, o_xor, o_shl, o_shr, o_ush, o_rem, o_dup, o_dup2, o_gf, o_pf, o_pz, o_iald, o_iast, o_zald, o_zast, o_aald, o_gs, o_min, o_acp, o_call, o_callv, zgf, zpf, zia_, zza_, zra_, zrd_, zcp_, zpop, zsm8_0, zsm8_1, zsm8_2, zsm8_3, zsm8_4, zsm8_5, zrc, zisob, t_ieq, t_ilt, t_igt, t_zeq, t_zlt, t_zgt, t_sw, zsw, t_iret, t_zret, t_aret, t_vret, zrg, List.getElem?_cons_zero, List.getElem?_cons_succ, List.set_cons_zero, List.set_cons_succ, List.length_cons, List.length_nil, Option.toList_some, Option.toList_none, List.nil_append, List.cons_append, true_and, and_true, true_or, or_true, Int.cast_ofNat_Int, Int.natCast_zero, Int.natCast_one, zsh_56, zsh_57, zsh_58, zsh_59, zsh_60, zsh_61, zsh_62, zsh_63, zsh_64, zsh_65, zsh_66, zsh_67, zsh_68, zsh_69, zsh_70, zsh_71, zsh_72, zsh_73, zsh_74, zsh_75, zsh_76, zsh_77, zsh_78, zsh_79, zsh_80, zsh_81, zsh_82, zsh_83, zsh_84, zsh_85, zsh_86, zsh_87, zup_ne, zup_eq, zup_nf, ne_eq, not_false_eq_true]
    exact ⟨by omega, fun _ => ⟨h, zlo.refl _⟩, fun w => absurd trivial w⟩
