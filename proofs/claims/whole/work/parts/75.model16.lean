/-! THE REFERENCE: files -/
def zsgs (L : List zBk) (p : List zBk × Int) (rows : List (List Int)) : List zBk × Int := rows.foldl (zsg L) p
theorem zsg_len (L : List zBk) (p : List zBk × Int) (D : List Int) : (zsg L p D).1.length ≤ p.1.length + 1 := by
  unfold zsg
  split
  · split
    · simp
    · split <;> simp
  · split <;> simp
theorem zsgs_len (L : List zBk) : ∀ (rows : List (List Int)) (p : List zBk × Int), (zsgs L p rows).1.length ≤ p.1.length + rows.length := by
  intro rows
  induction rows with
  | nil => intro p; simp [zsgs]
  | cons D r ih =>
    intro p
    have := ih (zsg L p D)
    have h2 := zsg_len L p D
    simp only [zsgs, List.foldl_cons] at this ⊢
    simp
    omega
theorem zsgs_app (L : List zBk) (p : List zBk × Int) (a : List (List Int)) (D : List Int) : zsgs L p (a ++ [D]) = zsg L (zsgs L p a) D := by simp [zsgs, List.foldl_append]
def zcut (B : List Int) (i st : Nat) (chunk : Int) : Prop := (0 < chunk ∧ (i : Int) - st + 1 = chunk) ∨ (chunk ≤ 0 ∧ (i + 1 = st + 8 ∨ (st + 2 ≤ i + 1 ∧ (B.getD i 0 + 3 * B.getD (i - 1) 0) % 5 = 0)))
set_option maxRecDepth 100000 in
set_option maxHeartbeats 4000000 in
theorem c_X11_cutBehind {d i st : Nat} {μ : zM} {B : List Int} {chunk : Int} (h : zmB μ B) (hi : i < B.length) (hst : st ≤ i) (hc : 0 ≤ chunk ∧ chunk ≤ 8) : zCt d mX11_cutBehind [.inr (some 56), .inl (i : Int), .inl (st : Int), .inl chunk] μ (zR (.inl (zb (zcut B i st chunk))) μ) := by
  obtain ⟨h1, h2, h3, h4⟩ := h
  have e1 := h3 i _ (List.getElem?_eq_getElem hi)
  have v1 := h4 _ (List.getElem_mem hi)
  have g1 : B.getD i 0 = B[i] := by simp [hi]
  refine of_X11_cutBehind (fun G hG => s_X11_cutBehind_0 hG ?_)
  simp only [b_X11_cutBehind_0, b_X11_cutBehind_11, b_X11_cutBehind_17, b_X11_cutBehind_21, b_X11_cutBehind_22, b_X11_cutBehind_23, b_X11_cutBehind_30, b_X11_cutBehind_36, b_X11_cutBehind_58, b_X11_cutBehind_62, b_X11_cutBehind_63, o_c, o_il, o_al, o_is, o_as, o_inc, o_add, o_sub, o_mul, o_and, o_or, o_xor, o_shl, o_shr, o_ush, o_rem, o_dup, o_dup2, o_gf, o_pf, o_pz, o_iald, o_iast, o_zald, o_zast, o_aald, o_gs, o_min, o_acp, o_call, o_callv, zgf, zpf, zia_, zza_, zra_, zrd_, zcp_, zpop, zsm8_0, zsm8_1, zsm8_2, zsm8_3, zsm8_4, zsm8_5, zrc, zisob, t_ieq, t_ilt, t_igt, t_zeq, t_zlt, t_zgt, t_sw, zsw, t_iret, t_zret, t_aret, t_vret, zrg, List.getElem?_cons_zero, List.getElem?_cons_succ, List.set_cons_zero, List.set_cons_succ, List.length_cons, List.length_nil, Option.toList_some, Option.toList_none, List.nil_append, List.cons_append, true_and, and_true, true_or, or_true, Int.cast_ofNat_Int, Int.natCast_zero, Int.natCast_one, zsh_56, zsh_57, zsh_58, zsh_59, zsh_60, zsh_61, zsh_62, zsh_63, zsh_64, zsh_65, zsh_66, zsh_67, zsh_68, zsh_69, zsh_70, zsh_71, zsh_72, zsh_73, zsh_74, zsh_75, zsh_76, zsh_77, zsh_78, zsh_79, zsh_80, zsh_81, zsh_82, zsh_83, zsh_84, zsh_85, zsh_86, zsh_87, zup_ne, zup_eq, zup_nf, ne_eq, not_false_eq_true]
  unfold zcut
  refine ⟨by omega, fun w => ⟨by omega, by omega, fun w2 => ?_, fun w2 => ?_⟩, fun w => ⟨by omega, by omega, fun w2 => ?_, fun w2 => ⟨by omega, by omega, fun w3 => ?_, fun w3 => ?_⟩⟩⟩
  · rw [zb_t (Or.inl ⟨w, w2⟩)]; exact ⟨rfl, rfl⟩
  · rw [zb_f (by omega)]; exact ⟨rfl, rfl⟩
  · rw [zb_t (Or.inr ⟨w, Or.inl (by omega)⟩)]; exact ⟨rfl, rfl⟩
  · rw [zb_f (by omega)]; exact ⟨rfl, rfl⟩
  · have hi1 : i - 1 < B.length := by omega
    have e2 := h3 (i - 1) _ (List.getElem?_eq_getElem hi1)
    have v2 := h4 _ (List.getElem_mem hi1)
    have g2 : B.getD (i - 1) 0 = B[i - 1] := by simp [hi1]
    rw [e1, show ((i : Int) - 1) = ((i - 1 : Nat) : Int) by omega, e2, g1, g2]
    refine ⟨by omega, by omega, by omega, by omega, by omega, fun w4 => ?_, fun w4 => ?_⟩
    · rw [zb_t (Or.inr ⟨w, Or.inr ⟨by omega, w4⟩⟩)]; exact ⟨rfl, rfl⟩
    · rw [zb_f (by omega)]; exact ⟨rfl, rfl⟩
def zmN (μ : zM) (ns : List zNo) : Prop := zAR μ 85 (ns.map (·.1)) ∧ zAR μ 86 (ns.map (·.2))
theorem zmN.at {μ : zM} {ns : List zNo} {i : Nat} {p : zNo} (h : zmN μ ns) (hp : ns[i]? = some p) : μ 85 i = p.1 ∧ μ 86 i = p.2 := ⟨h.1 i _ (by simp [hp]), h.2 i _ (by simp [hp])⟩
theorem zgrp_le {fan : Nat} (hf : 1 ≤ fan) : ∀ (f : Nat) (ns : List zNo), ∀ g ∈ zgrp fan f ns, g.length ≤ fan := by
  intro f
  induction f with
  | zero => intro ns g hg; simp [zgrp] at hg
  | succ f ih =>
    intro ns g hg
    cases ns with
    | nil => simp [zgrp] at hg
    | cons p r =>
      simp only [zgrp, List.mem_cons] at hg
      rcases hg with rfl | hg
      · simp; omega
      · exact ih _ g hg
set_option maxRecDepth 100000 in
set_option maxHeartbeats 4000000 in
theorem c_X11_raise {d s fan : Nat} {μ : zM} {L N : List zBk} {ns : List zNo} {c : Int} (hd : 3 ≤ d) (h : zmL μ s L) (hs : s < 3) (hf : 2 ≤ fan ∧ fan ≤ 4) (hN0 : zmN μ ns) (hO : zNO ns) (hn32 : ns.length ≤ 32) (hG0 : zmG μ N c) (hN80 : N.length + (zgrp fan 32 ns).length < 80) : zCt d mX11_raise [.inr (some 56), .inl (s : Int), .inl (ns.length : Int), .inl (fan : Int)] μ (fun v μ' => v = some (.inl ((zgrp fan 32 ns).length : Int)) ∧ zmN μ' ((zgrp fan 32 ns).map ztnode) ∧ zmG μ' (zsgs L (N, c) ((zgrp fan 32 ns).map ztrow)).1 (zsgs L (N, c) ((zgrp fan 32 ns).map ztrow)).2 ∧ zF [77, 78, 79, 80, 85, 86] [24, 25, 26] μ μ') := by
  obtain ⟨gs, hgs⟩ : ∃ gs, gs = zgrp fan 32 ns := ⟨_, rfl⟩
  rw [← hgs] at hN80 ⊢
  refine of_X11_raise (by omega) (fun G hG => s_X11_raise_0 hG ?_)
  have loop : ∀ (f : Nat) (first : Nat) (dn : List (List zNo)) (μ2 : zM) (x6 x7 x8 : zV), first ≤ ns.length + 4 → dn.length ≤ first → ns.length - first ≤ f → gs = dn ++ zgrp fan f (ns.drop first) → (first < ns.length → dn.length ≤ 31) → (∀ (i : Nat) (g : List zNo), dn[i]? = some g → μ2 85 i = (ztnode g).1 ∧ μ2 86 i = (ztnode g).2) → (∀ (i : Nat) (p : zNo), first ≤ i → ns[i]? = some p → μ2 85 i = p.1 ∧ μ2 86 i = p.2) → zmG μ2 (zsgs L (N, c) (dn.map ztrow)).1 (zsgs L (N, c) (dn.map ztrow)).2 → zF [77, 78, 79, 80, 85, 86] [24, 25, 26] μ μ2 → G 6 [.inr (some 56), .inl (s : Int), .inl (ns.length : Int), .inl (fan : Int), .inl (dn.length : Int), .inl (first : Int), x6, x7, x8] [] μ2 := by
    intro f
    induction f with
    | zero =>
      intro first dn μ2 x6 x7 x8 k0 k1 k2 k3 k3' k4 k5 k6 k7
      have e0 : gs = dn := by rw [k3]; simp [zgrp]
      refine s_X11_raise_6 hG ?_
      simp only [b_X11_raise_0, b_X11_raise_6, b_X11_raise_12, b_X11_raise_20, b_X11_raise_27, b_X11_raise_28, b_X11_raise_53, b_X11_raise_63, b_X11_raise_103, b_X11_raise_136, o_c, o_il, o_al, o_is, o_as, o_inc, o_add, o_sub, o_mul, o_and, o_or, o_xor, o_shl, o_shr, o_ush, o_rem, o_dup, o_dup2, o_gf, o_pf, o_pz, o_iald, o_iast, o_zald, o_zast, o_aald, o_gs, o_min, o_acp, o_call, o_callv, zgf, zpf, zia_, zza_, zra_, zrd_, zcp_, zpop, zsm8_0, zsm8_1, zsm8_2, zsm8_3, zsm8_4, zsm8_5, zrc, zisob, t_ieq, t_ilt, t_igt, t_zeq, t_zlt, t_zgt, t_sw, zsw, t_iret, t_zret, t_aret, t_vret, zrg, List.getElem?_cons_zero, List.getElem?_cons_succ, List.set_cons_zero, List.set_cons_succ, List.length_cons, List.length_nil, Option.toList_some, Option.toList_none, List.nil_append, List.cons_append, true_and, and_true, true_or, or_true, Int.cast_ofNat_Int, Int.natCast_zero, Int.natCast_one, zsh_56, zsh_57, zsh_58, zsh_59, zsh_60, zsh_61, zsh_62, zsh_63, zsh_64, zsh_65, zsh_66, zsh_67, zsh_68, zsh_69, zsh_70, zsh_71, zsh_72, zsh_73, zsh_74, zsh_75, zsh_76, zsh_77, zsh_78, zsh_79, zsh_80, zsh_81, zsh_82, zsh_83, zsh_84, zsh_85, zsh_86, zsh_87, zup_ne, zup_eq, zup_nf, ne_eq, not_false_eq_true]
      refine ⟨by omega, by omega, fun w => by omega, fun _ => ?_⟩
      rw [e0]
      exact ⟨rfl, ⟨fun j x hj => by
        simp only [List.map_map, List.getElem?_map, Option.map_eq_some_iff] at hj
        obtain ⟨g, hg, rfl⟩ := hj
        exact (k4 j g hg).1, fun j x hj => by
        simp only [List.map_map, List.getElem?_map, Option.map_eq_some_iff] at hj
        obtain ⟨g, hg, rfl⟩ := hj
        exact (k4 j g hg).2⟩, k6, k7⟩
    | succ f ih =>
      intro first dn μ2 x6 x7 x8 k0 k1 k2 k3 k3' k4 k5 k6 k7
      by_cases hfl : first < ns.length
      · -- one more group
        have hcons : ns.drop first = ns[first] :: ns.drop (first + 1) := List.drop_eq_getElem_cons hfl
        obtain ⟨g, hg⟩ : ∃ g, g = (ns.drop first).take fan := ⟨_, rfl⟩
        have k3a : gs = dn ++ (g :: zgrp fan f (ns.drop (first + fan))) := by
          rw [k3, hg]
          rw [hcons]
          simp only [zgrp]
          rw [← hcons, List.drop_drop]
        have hglen : g.length = if ns.length - first < fan then ns.length - first else fan := by
          rw [hg]; simp
          split <;> omega
        have hg1 : 1 ≤ g.length ∧ g.length ≤ 4 := by rw [hglen]; split <;> omega
        have hgat : ∀ j : Nat, j < g.length → g[j]? = ns[first + j]? := fun j hj => by
          rw [hg, List.getElem?_take_of_lt (by rw [hglen] at hj; split at hj <;> omega), List.getElem?_drop]
        have hgm : ∀ p ∈ g, p ∈ ns := fun p hp => by rw [hg] at hp; exact List.mem_of_mem_drop (List.mem_of_mem_take hp)
        have hrl : (ztrow g).length = 2 + 4 * g.length := by
          unfold ztrow
          have : ∀ l : List zNo, (l.flatMap ztpt).length = 4 * l.length := fun l => by
            induction l with
            | nil => rfl
            | cons p r ih => simp only [List.flatMap_cons, List.length_append, ih, List.length_cons]; simp [ztpt]; omega
          simp [this]; omega
        have hdl : dn.length + 1 ≤ gs.length := by rw [k3a]; simp
        have hsl := zsgs_len L (dn.map ztrow) (N, c)
        simp only [List.length_map] at hsl
        -- the links of the row
        have links : ∀ (r j : Nat) (μ3 : zM), j + r = g.length → zmR μ3 (1 :: (g.length : Int) :: (g.take j).flatMap ztpt) → zF [77] [24] μ2 μ3 → G 53 [.inr (some 56), .inl (s : Int), .inl (ns.length : Int), .inl (fan : Int), .inl (dn.length : Int), .inl (first : Int), .inl (g.length : Int), .inl (((g.take j).map (·.2)).sum), .inl ((first : Int) + j)] [] μ3 := by
          intro r
          induction r with
          | zero =>
            intro j μ3 j1 j2 j3
            rw [List.take_of_length_le (by omega)] at j2 ⊢
            have j2 : zmR μ3 (ztrow g) := j2
            refine s_X11_raise_53 hG ?_
            simp only [b_X11_raise_0, b_X11_raise_6, b_X11_raise_12, b_X11_raise_20, b_X11_raise_27, b_X11_raise_28, b_X11_raise_53, b_X11_raise_63, b_X11_raise_103, b_X11_raise_136, o_c, o_il, o_al, o_is, o_as, o_inc, o_add, o_sub, o_mul, o_and, o_or, o_xor, o_shl, o_shr, o_ush, o_rem, o_dup, o_dup2, o_gf, o_pf, o_pz, o_iald, o_iast, o_zald, o_zast, o_aald, o_gs, o_min, o_acp, o_call, o_callv, zgf, zpf, zia_, zza_, zra_, zrd_, zcp_, zpop, zsm8_0, zsm8_1, zsm8_2, zsm8_3, zsm8_4, zsm8_5, zrc, zisob, t_ieq, t_ilt, t_igt, t_zeq, t_zlt, t_zgt, t_sw, zsw, t_iret, t_zret, t_aret, t_vret, zrg, List.getElem?_cons_zero, List.getElem?_cons_succ, List.set_cons_zero, List.set_cons_succ, List.length_cons, List.length_nil, Option.toList_some, Option.toList_none, List.nil_append, List.cons_append, true_and, and_true, true_or, or_true, Int.cast_ofNat_Int, Int.natCast_zero, Int.natCast_one, zsh_56, zsh_57, zsh_58, zsh_59, zsh_60, zsh_61, zsh_62, zsh_63, zsh_64, zsh_65, zsh_66, zsh_67, zsh_68, zsh_69, zsh_70, zsh_71, zsh_72, zsh_73, zsh_74, zsh_75, zsh_76, zsh_77, zsh_78, zsh_79, zsh_80, zsh_81, zsh_82, zsh_83, zsh_84, zsh_85, zsh_86, zsh_87, zup_ne, zup_eq, zup_nf, ne_eq, not_false_eq_true]
            refine ⟨by omega, by omega, fun w => by omega, fun _ => ?_⟩
            have h3L := (h.f k7 (by simp)).f j3 (by simp)
            have k63 := k6.f j3 (by simp) (by simp)
            refine ⟨_, c_X11_stage (by omega) h3L hs j2 (by omega) k63 (by omega), ?_⟩
            rintro v μ4 ⟨rfl, p1, p2⟩
            simp only [b_X11_raise_0, b_X11_raise_6, b_X11_raise_12, b_X11_raise_20, b_X11_raise_27, b_X11_raise_28, b_X11_raise_53, b_X11_raise_63, b_X11_raise_103, b_X11_raise_136, o_c, o_il, o_al, o_is, o_as, o_inc, o_add, o_sub, o_mul, o_and, o_or, o_xor, o_shl, o_shr, o_ush, o_rem, o_dup, o_dup2, o_gf, o_pf, o_pz, o_iald, o_iast, o_zald, o_zast, o_aald, o_gs, o_min, o_acp, o_call, o_callv, zgf, zpf, zia_, zza_, zra_, zrd_, zcp_, zpop, zsm8_0, zsm8_1, zsm8_2, zsm8_3, zsm8_4, zsm8_5, zrc, zisob, t_ieq, t_ilt, t_igt, t_zeq, t_zlt, t_zgt, t_sw, zsw, t_iret, t_zret, t_aret, t_vret, zrg, List.getElem?_cons_zero, List.getElem?_cons_succ, List.set_cons_zero, List.set_cons_succ, List.length_cons, List.length_nil, Option.toList_some, Option.toList_none, List.nil_append, List.cons_append, true_and, and_true, true_or, or_true, Int.cast_ofNat_Int, Int.natCast_zero, Int.natCast_one, zsh_56, zsh_57, zsh_58, zsh_59, zsh_60, zsh_61, zsh_62, zsh_63, zsh_64, zsh_65, zsh_66, zsh_67, zsh_68, zsh_69, zsh_70, zsh_71, zsh_72, zsh_73, zsh_74, zsh_75, zsh_76, zsh_77, zsh_78, zsh_79, zsh_80, zsh_81, zsh_82, zsh_83, zsh_84, zsh_85, zsh_86, zsh_87, zup_ne, zup_eq, zup_nf, ne_eq, not_false_eq_true]
            have d32 := k3' hfl
            refine ⟨by omega, by omega, ?_⟩
            obtain ⟨μ5, hμ5⟩ : ∃ μ5, μ5 = zup (zup μ4 85 (dn.length : Int) (zhash (ztrow g))) 86 (dn.length : Int) ((g.map (·.2)).sum) := ⟨_, rfl⟩
            rw [← hμ5]
            have f5 : zF [77, 78, 79, 80, 85, 86] [24, 25, 26] μ2 μ5 := by
              rw [hμ5]
              exact (((j3.mono (by simp) (by simp)).trans (p2.mono (by simp) (by simp))).u (by simp) (by decide)).u (by simp) (by decide)
            have q85 : ∀ i : Int, μ5 85 i = if i = dn.length then zhash (ztrow g) else μ2 85 i := fun i => by
              have : μ4 85 = μ2 85 := by rw [p2.1 85 (by simp) (by decide), j3.1 85 (by simp) (by decide)]
              rw [hμ5, ← this]; simp [zup]
            have q86 : ∀ i : Int, μ5 86 i = if i = dn.length then (g.map (·.2)).sum else μ2 86 i := fun i => by
              have : μ4 86 = μ2 86 := by rw [p2.1 86 (by simp) (by decide), j3.1 86 (by simp) (by decide)]
              rw [hμ5, ← this]; simp [zup]
            have nx := ih (first + fan) (dn ++ [g]) μ5 (.inl (g.length : Int)) (.inl ((g.map (·.2)).sum)) (.inl ((first : Int) + j)) (by omega) (by simp; omega) (by omega) (by rw [k3a]; simp) (fun w => ?_) (fun i g' hi => ?_) (fun i p hi hp => ?_) ?_ (k7.trans f5)
            · rw [show (((dn ++ [g]).length : Nat) : Int) = (dn.length : Int) + 1 by simp, show (((first + fan : Nat) : Int)) = (first : Int) + fan by omega] at nx
              exact nx
            · have : (dn ++ [g]).length ≤ first + 1 := by simp; omega
              simp at this ⊢
              omega
            · rw [q85, q86]
              rcases Nat.lt_trichotomy i dn.length with q | q | q
              · rw [List.getElem?_append_left q] at hi
                rw [if_neg (by omega), if_neg (by omega)]
                exact k4 i g' hi
              · subst q
                rw [List.getElem?_append_right (Nat.le_refl _)] at hi
                simp at hi
                subst hi
                rw [if_pos rfl, if_pos rfl]
                exact ⟨rfl, rfl⟩
              · rw [List.getElem?_eq_none (by simp; omega)] at hi
                cases hi
            · rw [q85, q86, if_neg (by omega), if_neg (by omega)]
              exact k5 i p (by omega) hp
            · have p1' : zmG μ4 (zsgs L (N, c) ((dn ++ [g]).map ztrow)).1 (zsgs L (N, c) ((dn ++ [g]).map ztrow)).2 := by
                rw [List.map_append, List.map_cons, List.map_nil, zsgs_app]
                exact p1
              refine p1'.f (C := [85, 86]) (F := []) ?_ (by simp) (by simp)
              rw [hμ5]
              exact ((zF.refl _ _ _).u (by simp) (by decide)).u (by simp) (by decide)
          | succ r ihr =>
            intro j μ3 j1 j2 j3
            have hj : j < g.length := by omega
            obtain ⟨p, hp⟩ : ∃ p, g[j]? = some p := ⟨_, List.getElem?_eq_getElem hj⟩
            have hpm : p ∈ ns := hgm p (List.mem_of_getElem? hp)
            have hpr := hO.le hpm
            have hns : ns[first + j]? = some p := by rw [← hgat j hj]; exact hp
            obtain ⟨a1, a2⟩ := k5 (first + j) p (by omega) hns
            have hfj : first + j < ns.length := (List.getElem?_eq_some_iff.mp hns).1
            have b1 : μ3 85 ((first : Int) + j) = p.1 := by rw [j3.1 85 (by simp) (by decide), ← a1]; congr 1
            have b2 : μ3 86 ((first : Int) + j) = p.2 := by rw [j3.1 86 (by simp) (by decide), ← a2]; congr 1
            have e9 : g.take (j + 1) = g.take j ++ [p] := by rw [List.take_succ, hp]; rfl
            have hfm : ((g.take j).flatMap ztpt).length = 4 * j := by
              have : ∀ l : List zNo, (l.flatMap ztpt).length = 4 * l.length := fun l => by
                induction l with
                | nil => rfl
                | cons p r ih => simp only [List.flatMap_cons, List.length_append, ih, List.length_cons]; simp [ztpt]; omega
              rw [this]; simp; omega
            refine s_X11_raise_53 hG ?_
            simp only [b_X11_raise_0, b_X11_raise_6, b_X11_raise_12, b_X11_raise_20, b_X11_raise_27, b_X11_raise_28, b_X11_raise_53, b_X11_raise_63, b_X11_raise_103, b_X11_raise_136, o_c, o_il, o_al, o_is, o_as, o_inc, o_add, o_sub, o_mul, o_and, o_or, o_xor, o_shl, o_shr, o_ush, o_rem, o_dup, o_dup2, o_gf, o_pf, o_pz, o_iald, o_iast, o_zald, o_zast, o_aald, o_gs, o_min, o_acp, o_call, o_callv, zgf, zpf, zia_, zza_, zra_, zrd_, zcp_, zpop, zsm8_0, zsm8_1, zsm8_2, zsm8_3, zsm8_4, zsm8_5, zrc, zisob, t_ieq, t_ilt, t_igt, t_zeq, t_zlt, t_zgt, t_sw, zsw, t_iret, t_zret, t_aret, t_vret, zrg, List.getElem?_cons_zero, List.getElem?_cons_succ, List.set_cons_zero, List.set_cons_succ, List.length_cons, List.length_nil, Option.toList_some, Option.toList_none, List.nil_append, List.cons_append, true_and, and_true, true_or, or_true, Int.cast_ofNat_Int, Int.natCast_zero, Int.natCast_one, zsh_56, zsh_57, zsh_58, zsh_59, zsh_60, zsh_61, zsh_62, zsh_63, zsh_64, zsh_65, zsh_66, zsh_67, zsh_68, zsh_69, zsh_70, zsh_71, zsh_72, zsh_73, zsh_74, zsh_75, zsh_76, zsh_77, zsh_78, zsh_79, zsh_80, zsh_81, zsh_82, zsh_83, zsh_84, zsh_85, zsh_86, zsh_87, zup_ne, zup_eq, zup_nf, ne_eq, not_false_eq_true]
            rw [b2]
            refine ⟨by omega, by omega, fun _ => ⟨by omega, ?_⟩, fun w => by omega⟩
            refine ⟨_, c_X11_addTwo (by omega) j2 (by simp only [List.length_cons, hfm]; omega) ⟨by omega, by omega⟩, ?_⟩
            rintro v μ4 ⟨rfl, p1, p2⟩
            simp only [b_X11_raise_0, b_X11_raise_6, b_X11_raise_12, b_X11_raise_20, b_X11_raise_27, b_X11_raise_28, b_X11_raise_53, b_X11_raise_63, b_X11_raise_103, b_X11_raise_136, o_c, o_il, o_al, o_is, o_as, o_inc, o_add, o_sub, o_mul, o_and, o_or, o_xor, o_shl, o_shr, o_ush, o_rem, o_dup, o_dup2, o_gf, o_pf, o_pz, o_iald, o_iast, o_zald, o_zast, o_aald, o_gs, o_min, o_acp, o_call, o_callv, zgf, zpf, zia_, zza_, zra_, zrd_, zcp_, zpop, zsm8_0, zsm8_1, zsm8_2, zsm8_3, zsm8_4, zsm8_5, zrc, zisob, t_ieq, t_ilt, t_igt, t_zeq, t_zlt, t_zgt, t_sw, zsw, t_iret, t_zret, t_aret, t_vret, zrg, List.getElem?_cons_zero, List.getElem?_cons_succ, List.set_cons_zero, List.set_cons_succ, List.length_cons, List.length_nil, Option.toList_some, Option.toList_none, List.nil_append, List.cons_append, true_and, and_true, true_or, or_true, Int.cast_ofNat_Int, Int.natCast_zero, Int.natCast_one, zsh_56, zsh_57, zsh_58, zsh_59, zsh_60, zsh_61, zsh_62, zsh_63, zsh_64, zsh_65, zsh_66, zsh_67, zsh_68, zsh_69, zsh_70, zsh_71, zsh_72, zsh_73, zsh_74, zsh_75, zsh_76, zsh_77, zsh_78, zsh_79, zsh_80, zsh_81, zsh_82, zsh_83, zsh_84, zsh_85, zsh_86, zsh_87, zup_ne, zup_eq, zup_nf, ne_eq, not_false_eq_true]
            have b3 : μ4 85 ((first : Int) + j) = p.1 := by rw [p2.1 85 (by simp) (by decide)]; exact b1
            rw [b3]
            refine ⟨by omega, ?_⟩
            refine ⟨_, c_X11_addTwo (by omega) p1 (by simp only [List.length_cons, List.length_append, hfm, List.length_nil]; omega) ⟨by omega, by omega⟩, ?_⟩
            rintro v μ5 ⟨rfl, p3, p4⟩
            simp only [b_X11_raise_0, b_X11_raise_6, b_X11_raise_12, b_X11_raise_20, b_X11_raise_27, b_X11_raise_28, b_X11_raise_53, b_X11_raise_63, b_X11_raise_103, b_X11_raise_136, o_c, o_il, o_al, o_is, o_as, o_inc, o_add, o_sub, o_mul, o_and, o_or, o_xor, o_shl, o_shr, o_ush, o_rem, o_dup, o_dup2, o_gf, o_pf, o_pz, o_iald, o_iast, o_zald, o_zast, o_aald, o_gs, o_min, o_acp, o_call, o_callv, zgf, zpf, zia_, zza_, zra_, zrd_, zcp_, zpop, zsm8_0, zsm8_1, zsm8_2, zsm8_3, zsm8_4, zsm8_5, zrc, zisob, t_ieq, t_ilt, t_igt, t_zeq, t_zlt, t_zgt, t_sw, zsw, t_iret, t_zret, t_aret, t_vret, zrg, List.getElem?_cons_zero, List.getElem?_cons_succ, List.set_cons_zero, List.set_cons_succ, List.length_cons, List.length_nil, Option.toList_some, Option.toList_none, List.nil_append, List.cons_append, true_and, and_true, true_or, or_true, Int.cast_ofNat_Int, Int.natCast_zero, Int.natCast_one, zsh_56, zsh_57, zsh_58, zsh_59, zsh_60, zsh_61, zsh_62, zsh_63, zsh_64, zsh_65, zsh_66, zsh_67, zsh_68, zsh_69, zsh_70, zsh_71, zsh_72, zsh_73, zsh_74, zsh_75, zsh_76, zsh_77, zsh_78, zsh_79, zsh_80, zsh_81, zsh_82, zsh_83, zsh_84, zsh_85, zsh_86, zsh_87, zup_ne, zup_eq, zup_nf, ne_eq, not_false_eq_true]
            have b4 : μ5 86 ((first : Int) + j) = p.2 := by rw [p4.1 86 (by simp) (by decide), p2.1 86 (by simp) (by decide)]; exact b2
            rw [b4]
            refine ⟨by omega, ?_⟩
            have nx := ihr (j + 1) μ5 (by omega) ?_ ((j3.trans p2).trans p4)
            · have es : ((g.take (j + 1)).map (·.2)).sum = ((g.take j).map (·.2)).sum + p.2 := by rw [e9]; simp
              rw [es, show ((first : Int) + ((j + 1 : Nat) : Int)) = (first : Int) + j + 1 by omega] at nx
              exact nx
            · rw [e9, List.flatMap_append]
              have : [p].flatMap ztpt = [p.2 % 256, p.2 / 256, p.1 % 256, p.1 / 256] := by simp [ztpt]
              rw [this]
              simpa using p3
        have hgo : ∀ y6 : Int, y6 = g.length → ∃ Q, zCt (d - 1) mX11_push [.inr (some 56), .inl 1] (zup μ2 56 24 0) Q ∧ ∀ (v : Option zV) (μ' : zM), Q v μ' → v = none ∧ ∃ Q2, zCt (d - 1) mX11_push [.inr (some 56), .inl y6] μ' Q2 ∧ ∀ (v2 : Option zV) (μ3 : zM), Q2 v2 μ3 → v2 = none ∧ G 53 [.inr (some 56), .inl (s : Int), .inl (ns.length : Int), .inl (fan : Int), .inl (dn.length : Int), .inl (first : Int), .inl y6, .inl 0, .inl (first : Int)] [] μ3 := by
          intro y6 hy6
          refine ⟨_, c_X11_push (B := []) (zmR.nil zup_eq) (by simp) ⟨by omega, by omega⟩, ?_⟩
          rintro v μ' ⟨rfl, p1, p2⟩
          refine ⟨rfl, _, c_X11_push p1 (by simp) ⟨by omega, by omega⟩, ?_⟩
          rintro v2 μ3 ⟨rfl, p3, p4⟩
          refine ⟨rfl, ?_⟩
          have f0 : zF [77] [24] μ2 (zup μ2 56 24 0) := (zF.refl _ _ _).v (by simp)
          have := links g.length 0 μ3 (by omega) (by rw [← hy6]; simpa using p3) ((f0.trans p2).trans p4)
          rw [← hy6] at this
          simpa using this
        refine s_X11_raise_6 hG ?_
        simp only [b_X11_raise_0, b_X11_raise_6, b_X11_raise_12, b_X11_raise_20, b_X11_raise_27, b_X11_raise_28, b_X11_raise_53, b_X11_raise_63, b_X11_raise_103, b_X11_raise_136, o_c, o_il, o_al, o_is, o_as, o_inc, o_add, o_sub, o_mul, o_and, o_or, o_xor, o_shl, o_shr, o_ush, o_rem, o_dup, o_dup2, o_gf, o_pf, o_pz, o_iald, o_iast, o_zald, o_zast, o_aald, o_gs, o_min, o_acp, o_call, o_callv, zgf, zpf, zia_, zza_, zra_, zrd_, zcp_, zpop, zsm8_0, zsm8_1, zsm8_2, zsm8_3, zsm8_4, zsm8_5, zrc, zisob, t_ieq, t_ilt, t_igt, t_zeq, t_zlt, t_zgt, t_sw, zsw, t_iret, t_zret, t_aret, t_vret, zrg, List.getElem?_cons_zero, List.getElem?_cons_succ, List.set_cons_zero, List.set_cons_succ, List.length_cons, List.length_nil, Option.toList_some, Option.toList_none, List.nil_append, List.cons_append, true_and, and_true, true_or, or_true, Int.cast_ofNat_Int, Int.natCast_zero, Int.natCast_one, zsh_56, zsh_57, zsh_58, zsh_59, zsh_60, zsh_61, zsh_62, zsh_63, zsh_64, zsh_65, zsh_66, zsh_67, zsh_68, zsh_69, zsh_70, zsh_71, zsh_72, zsh_73, zsh_74, zsh_75, zsh_76, zsh_77, zsh_78, zsh_79, zsh_80, zsh_81, zsh_82, zsh_83, zsh_84, zsh_85, zsh_86, zsh_87, zup_ne, zup_eq, zup_nf, ne_eq, not_false_eq_true]
        refine ⟨by omega, by omega, fun _ => ⟨by omega, by omega, fun w => ?_, fun w => ?_⟩, fun w => by omega⟩
        · obtain ⟨Q, y1, y2⟩ := hgo ((ns.length : Int) - first) (by rw [hglen, if_pos (by omega)]; omega)
          refine ⟨Q, y1, fun v μ' hq => ?_⟩
          obtain ⟨rfl, Q2, z1, z2⟩ := y2 v μ' hq
          simp only [b_X11_raise_0, b_X11_raise_6, b_X11_raise_12, b_X11_raise_20, b_X11_raise_27, b_X11_raise_28, b_X11_raise_53, b_X11_raise_63, b_X11_raise_103, b_X11_raise_136, o_c, o_il, o_al, o_is, o_as, o_inc, o_add, o_sub, o_mul, o_and, o_or, o_xor, o_shl, o_shr, o_ush, o_rem, o_dup, o_dup2, o_gf, o_pf, o_pz, o_iald, o_iast, o_zald, o_zast, o_aald, o_gs, o_min, o_acp, o_call, o_callv, zgf, zpf, zia_, zza_, zra_, zrd_, zcp_, zpop, zsm8_0, zsm8_1, zsm8_2, zsm8_3, zsm8_4, zsm8_5, zrc, zisob, t_ieq, t_ilt, t_igt, t_zeq, t_zlt, t_zgt, t_sw, zsw, t_iret, t_zret, t_aret, t_vret, zrg, List.getElem?_cons_zero, List.getElem?_cons_succ, List.set_cons_zero, List.set_cons_succ, List.length_cons, List.length_nil, Option.toList_some, Option.toList_none, List.nil_append, List.cons_append, true_and, and_true, true_or, or_true, Int.cast_ofNat_Int, Int.natCast_zero, Int.natCast_one, zsh_56, zsh_57, zsh_58, zsh_59, zsh_60, zsh_61, zsh_62, zsh_63, zsh_64, zsh_65, zsh_66, zsh_67, zsh_68, zsh_69, zsh_70, zsh_71, zsh_72, zsh_73, zsh_74, zsh_75, zsh_76, zsh_77, zsh_78, zsh_79, zsh_80, zsh_81, zsh_82, zsh_83, zsh_84, zsh_85, zsh_86, zsh_87, zup_ne, zup_eq, zup_nf, ne_eq, not_false_eq_true]
          refine ⟨Q2, z1, fun v2 μ3 hq2 => ?_⟩
          obtain ⟨rfl, z3⟩ := z2 v2 μ3 hq2
          simp only [b_X11_raise_0, b_X11_raise_6, b_X11_raise_12, b_X11_raise_20, b_X11_raise_27, b_X11_raise_28, b_X11_raise_53, b_X11_raise_63, b_X11_raise_103, b_X11_raise_136, o_c, o_il, o_al, o_is, o_as, o_inc, o_add, o_sub, o_mul, o_and, o_or, o_xor, o_shl, o_shr, o_ush, o_rem, o_dup, o_dup2, o_gf, o_pf, o_pz, o_iald, o_iast, o_zald, o_zast, o_aald, o_gs, o_min, o_acp, o_call, o_callv, zgf, zpf, zia_, zza_, zra_, zrd_, zcp_, zpop, zsm8_0, zsm8_1, zsm8_2, zsm8_3, zsm8_4, zsm8_5, zrc, zisob, t_ieq, t_ilt, t_igt, t_zeq, t_zlt, t_zgt, t_sw, zsw, t_iret, t_zret, t_aret, t_vret, zrg, List.getElem?_cons_zero, List.getElem?_cons_succ, List.set_cons_zero, List.set_cons_succ, List.length_cons, List.length_nil, Option.toList_some, Option.toList_none, List.nil_append, List.cons_append, true_and, and_true, true_or, or_true, Int.cast_ofNat_Int, Int.natCast_zero, Int.natCast_one, zsh_56, zsh_57, zsh_58, zsh_59, zsh_60, zsh_61, zsh_62, zsh_63, zsh_64, zsh_65, zsh_66, zsh_67, zsh_68, zsh_69, zsh_70, zsh_71, zsh_72, zsh_73, zsh_74, zsh_75, zsh_76, zsh_77, zsh_78, zsh_79, zsh_80, zsh_81, zsh_82, zsh_83, zsh_84, zsh_85, zsh_86, zsh_87, zup_ne, zup_eq, zup_nf, ne_eq, not_false_eq_true]
          exact z3
        · obtain ⟨Q, y1, y2⟩ := hgo (fan : Int) (by rw [hglen, if_neg (by omega)])
          refine ⟨Q, y1, fun v μ' hq => ?_⟩
          obtain ⟨rfl, Q2, z1, z2⟩ := y2 v μ' hq
          simp only [b_X11_raise_0, b_X11_raise_6, b_X11_raise_12, b_X11_raise_20, b_X11_raise_27, b_X11_raise_28, b_X11_raise_53, b_X11_raise_63, b_X11_raise_103, b_X11_raise_136, o_c, o_il, o_al, o_is, o_as, o_inc, o_add, o_sub, o_mul, o_and, o_or, o_xor, o_shl, o_shr, o_ush, o_rem, o_dup, o_dup2, o_gf, o_pf, o_pz, o_iald, o_iast, o_zald, o_zast, o_aald, o_gs, o_min, o_acp, o_call, o_callv, zgf, zpf, zia_, zza_, zra_, zrd_, zcp_, zpop, zsm8_0, zsm8_1, zsm8_2, zsm8_3, zsm8_4, zsm8_5, zrc, zisob, t_ieq, t_ilt, t_igt, t_zeq, t_zlt, t_zgt, t_sw, zsw, t_iret, t_zret, t_aret, t_vret, zrg, List.getElem?_cons_zero, List.getElem?_cons_succ, List.set_cons_zero, List.set_cons_succ, List.length_cons, List.length_nil, Option.toList_some, Option.toList_none, List.nil_append, List.cons_append, true_and, and_true, true_or, or_true, Int.cast_ofNat_Int, Int.natCast_zero, Int.natCast_one, zsh_56, zsh_57, zsh_58, zsh_59, zsh_60, zsh_61, zsh_62, zsh_63, zsh_64, zsh_65, zsh_66, zsh_67, zsh_68, zsh_69, zsh_70, zsh_71, zsh_72, zsh_73, zsh_74, zsh_75, zsh_76, zsh_77, zsh_78, zsh_79, zsh_80, zsh_81, zsh_82, zsh_83, zsh_84, zsh_85, zsh_86, zsh_87, zup_ne, zup_eq, zup_nf, ne_eq, not_false_eq_true]
          refine ⟨Q2, z1, fun v2 μ3 hq2 => ?_⟩
          obtain ⟨rfl, z3⟩ := z2 v2 μ3 hq2
          simp only [b_X11_raise_0, b_X11_raise_6, b_X11_raise_12, b_X11_raise_20, b_X11_raise_27, b_X11_raise_28, b_X11_raise_53, b_X11_raise_63, b_X11_raise_103, b_X11_raise_136, o_c, o_il, o_al, o_is, o_as, o_inc, o_add, o_sub, o_mul, o_and, o_or, o_xor, o_shl, o_shr, o_ush, o_rem, o_dup, o_dup2, o_gf, o_pf, o_pz, o_iald, o_iast, o_zald, o_zast, o_aald, o_gs, o_min, o_acp, o_call, o_callv, zgf, zpf, zia_, zza_, zra_, zrd_, zcp_, zpop, zsm8_0, zsm8_1, zsm8_2, zsm8_3, zsm8_4, zsm8_5, zrc, zisob, t_ieq, t_ilt, t_igt, t_zeq, t_zlt, t_zgt, t_sw, zsw, t_iret, t_zret, t_aret, t_vret, zrg, List.getElem?_cons_zero, List.getElem?_cons_succ, List.set_cons_zero, List.set_cons_succ, List.length_cons, List.length_nil, Option.toList_some, Option.toList_none, List.nil_append, List.cons_append, true_and, and_true, true_or, or_true, Int.cast_ofNat_Int, Int.natCast_zero, Int.natCast_one, zsh_56, zsh_57, zsh_58, zsh_59, zsh_60, zsh_61, zsh_62, zsh_63, zsh_64, zsh_65, zsh_66, zsh_67, zsh_68, zsh_69, zsh_70, zsh_71, zsh_72, zsh_73, zsh_74, zsh_75, zsh_76, zsh_77, zsh_78, zsh_79, zsh_80, zsh_81, zsh_82, zsh_83, zsh_84, zsh_85, zsh_86, zsh_87, zup_ne, zup_eq, zup_nf, ne_eq, not_false_eq_true]
          exact z3
      · have e0 : gs = dn := by
          rw [k3, List.drop_of_length_le (by omega)]
          simp [zgrp]
        refine s_X11_raise_6 hG ?_
        simp only [b_X11_raise_0, b_X11_raise_6, b_X11_raise_12, b_X11_raise_20, b_X11_raise_27, b_X11_raise_28, b_X11_raise_53, b_X11_raise_63, b_X11_raise_103, b_X11_raise_136, o_c, o_il, o_al, o_is, o_as, o_inc, o_add, o_sub, o_mul, o_and, o_or, o_xor, o_shl, o_shr, o_ush, o_rem, o_dup, o_dup2, o_gf, o_pf, o_pz, o_iald, o_iast, o_zald, o_zast, o_aald, o_gs, o_min, o_acp, o_call, o_callv, zgf, zpf, zia_, zza_, zra_, zrd_, zcp_, zpop, zsm8_0, zsm8_1, zsm8_2, zsm8_3, zsm8_4, zsm8_5, zrc, zisob, t_ieq, t_ilt, t_igt, t_zeq, t_zlt, t_zgt, t_sw, zsw, t_iret, t_zret, t_aret, t_vret, zrg, List.getElem?_cons_zero, List.getElem?_cons_succ, List.set_cons_zero, List.set_cons_succ, List.length_cons, List.length_nil, Option.toList_some, Option.toList_none, List.nil_append, List.cons_append, true_and, and_true, true_or, or_true, Int.cast_ofNat_Int, Int.natCast_zero, Int.natCast_one, zsh_56, zsh_57, zsh_58, zsh_59, zsh_60, zsh_61, zsh_62, zsh_63, zsh_64, zsh_65, zsh_66, zsh_67, zsh_68, zsh_69, zsh_70, zsh_71, zsh_72, zsh_73, zsh_74, zsh_75, zsh_76, zsh_77, zsh_78, zsh_79, zsh_80, zsh_81, zsh_82, zsh_83, zsh_84, zsh_85, zsh_86, zsh_87, zup_ne, zup_eq, zup_nf, ne_eq, not_false_eq_true]
        refine ⟨by omega, by omega, fun w => by omega, fun _ => ?_⟩
        rw [e0]
        exact ⟨rfl, ⟨fun j x hj => by
          simp only [List.map_map, List.getElem?_map, Option.map_eq_some_iff] at hj
          obtain ⟨g, hg, rfl⟩ := hj
          exact (k4 j g hg).1, fun j x hj => by
          simp only [List.map_map, List.getElem?_map, Option.map_eq_some_iff] at hj
          obtain ⟨g, hg, rfl⟩ := hj
          exact (k4 j g hg).2⟩, k6, k7⟩
  simp only [b_X11_raise_0, b_X11_raise_6, b_X11_raise_12, b_X11_raise_20, b_X11_raise_27, b_X11_raise_28, b_X11_raise_53, b_X11_raise_63, b_X11_raise_103, b_X11_raise_136, o_c, o_il, o_al, o_is, o_as, o_inc, o_add, o_sub, o_mul, o_and, o_or, o_xor, o_shl, o_shr, o_ush, o_rem, o_dup, o_dup2, o_gf, o_pf, o_pz, o_iald, o_iast, o_zald, o_zast, o_aald, o_gs, o_min, o_acp, o_call, o_callv, zgf, zpf, zia_, zza_, zra_, zrd_, zcp_, zpop, zsm8_0, zsm8_1, zsm8_2, zsm8_3, zsm8_4, zsm8_5, zrc, zisob, t_ieq, t_ilt, t_igt, t_zeq, t_zlt, t_zgt, t_sw, zsw, t_iret, t_zret, t_aret, t_vret, zrg, List.getElem?_cons_zero, List.getElem?_cons_succ, List.set_cons_zero, List.set_cons_succ, List.length_cons, List.length_nil, Option.toList_some, Option.toList_none, List.nil_append, List.cons_append, true_and, and_true, true_or, or_true, Int.cast_ofNat_Int, Int.natCast_zero, Int.natCast_one, zsh_56, zsh_57, zsh_58, zsh_59, zsh_60, zsh_61, zsh_62, zsh_63, zsh_64, zsh_65, zsh_66, zsh_67, zsh_68, zsh_69, zsh_70, zsh_71, zsh_72, zsh_73, zsh_74, zsh_75, zsh_76, zsh_77, zsh_78, zsh_79, zsh_80, zsh_81, zsh_82, zsh_83, zsh_84, zsh_85, zsh_86, zsh_87, zup_ne, zup_eq, zup_nf, ne_eq, not_false_eq_true]
  exact loop 32 0 [] μ _ _ _ (by omega) (by simp) (by omega) (by rw [hgs]; simp) (fun _ => by simp) (fun i g hi => by simp at hi) (fun i p _ hp => hN0.at hp) hG0 (zF.refl _ _ _)
