/-! FILES: trees -/
abbrev zNo : Type := Int × Int
def ztpt (p : zNo) : List Int := [p.2 % 256, p.2 / 256, p.1 % 256, p.1 / 256]
def ztrow (g : List zNo) : List Int := 1 :: (g.length : Int) :: g.flatMap ztpt
def ztnode (g : List zNo) : zNo := (zhash (ztrow g), (g.map (·.2)).sum)
def zgrp (fan : Nat) : Nat → List zNo → List (List zNo)
  | 0, _ => []
  | _ + 1, [] => []
  | f + 1, p :: r => (p :: r).take fan :: zgrp fan f ((p :: r).drop fan)
def zNO (ns : List zNo) : Prop := (∀ p ∈ ns, (0 ≤ p.1 ∧ p.1 ≤ 65520) ∧ 0 ≤ p.2) ∧ (ns.map (·.2)).sum ≤ 32
theorem zsum_mem {l : List Int} (h : ∀ x ∈ l, 0 ≤ x) : 0 ≤ l.sum ∧ ∀ x ∈ l, x ≤ l.sum := by
  induction l with
  | nil => simp
  | cons a r ih =>
    have := ih (fun x hx => h x (List.mem_cons_of_mem _ hx))
    have ha := h a List.mem_cons_self
    refine ⟨by simp; omega, fun x hx => ?_⟩
    rcases List.mem_cons.mp hx with rfl | hx
    · simp; omega
    · have := this.2 x hx
      simp
      omega
theorem zNO.le {ns : List zNo} (h : zNO ns) {p : zNo} (hp : p ∈ ns) : (0 ≤ p.1 ∧ p.1 ≤ 65520) ∧ (0 ≤ p.2 ∧ p.2 ≤ 32) := by
  have h1 := h.1 p hp
  have := (zsum_mem (l := ns.map (·.2)) (fun x hx => by obtain ⟨q, hq, rfl⟩ := List.mem_map.mp hx; exact (h.1 q hq).2)).2 p.2 (List.mem_map.mpr ⟨p, hp, rfl⟩)
  have h2 := h.2
  exact ⟨h1.1, h1.2, by omega⟩
set_option maxRecDepth 100000 in
set_option maxHeartbeats 4000000 in
theorem c_X1_makeTrees {d fan : Nat} {μ : zM} {L : List zBk} {c : Int} {ns : List zNo} (hd : 3 ≤ d) (hf : 2 ≤ fan ∧ fan ≤ 4) (hF : zFM μ ns) (hN : zNO ns) (hT : zBT μ L [] c) : zCt d mX1_makeTrees [.inr (some 27), .inl (fan : Int), .inr (some 34)] μ (fun v μ' => v = none ∧ zBT μ' (zmk (L, c) ((zgrp fan 32 ns).map ztrow)).1 [] (zmk (L, c) ((zgrp fan 32 ns).map ztrow)).2 ∧ zFM μ' ((zgrp fan 32 ns).map ztnode) ∧ zfr zfmS μ μ') := by
  obtain ⟨F1, F2, F3, F4⟩ := hF
  refine of_X1_makeTrees (by omega) (fun G hG => s_X1_makeTrees_0 hG ?_)
  simp only [b_X1_makeTrees_0, b_X1_makeTrees_5, b_X1_makeTrees_14, b_X1_makeTrees_20, b_X1_makeTrees_54, b_X1_makeTrees_61, b_X1_makeTrees_101, b_X1_makeTrees_131, o_c, o_il, o_al, o_is, o_as, o_inc, o_add, o_sub, o_mul, o_and, o_or, o_xor, o_shl, o_shr, o_ush, o_rem, o_dup, o_dup2, o_gf, o_pf, o_pz, o_iald, o_iast, o_zald, o_zast, o_aald, o_gs, o_min, o_acp, o_call, o_callv, zgf, zpf, zia_, zza_, zra_, zrd_, zcp_, zpop, zsm8_0, zsm8_1, zsm8_2, zsm8_3, zsm8_4, zsm8_5, zrc, zisob, t_ieq, t_ilt, t_igt, t_zeq, t_zlt, t_zgt, t_sw, zsw, t_iret, t_zret, t_aret, t_vret, zrg, List.getElem?_cons_zero, List.getElem?_cons_succ, List.set_cons_zero, List.set_cons_succ, List.length_cons, List.length_nil, Option.toList_some, Option.toList_none, List.nil_append, List.cons_append, true_and, and_true, true_or, or_true, Int.cast_ofNat_Int, Int.natCast_zero, Int.natCast_one, zsh_27]
  have loop : ∀ (f first : Nat) (μ1 : zM) (gd : List (List zNo)) (x5 x6 x7 : zV), gd.length + f = 32 → ns.length ≤ first + f → gd.length ≤ first → (gd.length = 0 ∨ gd.length < first) → zgrp fan 32 ns = gd ++ zgrp fan f (ns.drop first) → zBT μ1 (zmk (L, c) (gd.map ztrow)).1 [] (zmk (L, c) (gd.map ztrow)).2 → μ1 27 2 = ns.length → zAR μ1 28 ((gd.map ztnode).map (·.1)) → zAR μ1 29 ((gd.map ztnode).map (·.2)) → (∀ (j : Nat) (p : zNo), first ≤ j → ns[j]? = some p → μ1 28 j = p.1 ∧ μ1 29 j = p.2) → zfr zfmS μ μ1 → first ≤ 64 → G 5 [.inr (some 27), .inl (fan : Int), .inr (some 34), .inl (gd.length : Int), .inl (first : Int), x5, x6, x7] [] μ1 := by
    intro f
    induction f with
    | zero =>
      intro first μ1 gd x5 x6 x7 h1 h2 h3 h3' h4 h5 h6 h7 h8 h9 h10 h11
      refine s_X1_makeTrees_5 hG ?_
      simp only [b_X1_makeTrees_0, b_X1_makeTrees_5, b_X1_makeTrees_14, b_X1_makeTrees_20, b_X1_makeTrees_54, b_X1_makeTrees_61, b_X1_makeTrees_101, b_X1_makeTrees_131, o_c, o_il, o_al, o_is, o_as, o_inc, o_add, o_sub, o_mul, o_and, o_or, o_xor, o_shl, o_shr, o_ush, o_rem, o_dup, o_dup2, o_gf, o_pf, o_pz, o_iald, o_iast, o_zald, o_zast, o_aald, o_gs, o_min, o_acp, o_call, o_callv, zgf, zpf, zia_, zza_, zra_, zrd_, zcp_, zpop, zsm8_0, zsm8_1, zsm8_2, zsm8_3, zsm8_4, zsm8_5, zrc, zisob, t_ieq, t_ilt, t_igt, t_zeq, t_zlt, t_zgt, t_sw, zsw, t_iret, t_zret, t_aret, t_vret, zrg, List.getElem?_cons_zero, List.getElem?_cons_succ, List.set_cons_zero, List.set_cons_succ, List.length_cons, List.length_nil, Option.toList_some, Option.toList_none, List.nil_append, List.cons_append, true_and, and_true, true_or, or_true, Int.cast_ofNat_Int, Int.natCast_zero, Int.natCast_one, zsh_27]
      rw [h6]
      refine ⟨by omega, by omega, fun w => by omega, fun w => ?_⟩
      have e0 : zgrp fan 32 ns = gd := by rw [h4]; simp [zgrp]
      rw [e0]
      have hfz : zfr [27] μ1 (zup μ1 27 2 gd.length) := fun x hx => zup_ne x (by simpa using hx)
      exact ⟨h5.fr hfz (by simp), ⟨by simp [zup], by simp; omega, h7.of (hfz 28 (by decide)), h8.of (hfz 29 (by decide))⟩, h10.trans (hfz.mono (by simp))⟩
    | succ f ih =>
      intro first μ1 gd x5 x6 x7 h1 h2 h3 h3' h4 h5 h6 h7 h8 h9 h10 h11
      refine s_X1_makeTrees_5 hG ?_
      simp only [b_X1_makeTrees_0, b_X1_makeTrees_5, b_X1_makeTrees_14, b_X1_makeTrees_20, b_X1_makeTrees_54, b_X1_makeTrees_61, b_X1_makeTrees_101, b_X1_makeTrees_131, o_c, o_il, o_al, o_is, o_as, o_inc, o_add, o_sub, o_mul, o_and, o_or, o_xor, o_shl, o_shr, o_ush, o_rem, o_dup, o_dup2, o_gf, o_pf, o_pz, o_iald, o_iast, o_zald, o_zast, o_aald, o_gs, o_min, o_acp, o_call, o_callv, zgf, zpf, zia_, zza_, zra_, zrd_, zcp_, zpop, zsm8_0, zsm8_1, zsm8_2, zsm8_3, zsm8_4, zsm8_5, zrc, zisob, t_ieq, t_ilt, t_igt, t_zeq, t_zlt, t_zgt, t_sw, zsw, t_iret, t_zret, t_aret, t_vret, zrg, List.getElem?_cons_zero, List.getElem?_cons_succ, List.set_cons_zero, List.set_cons_succ, List.length_cons, List.length_nil, Option.toList_some, Option.toList_none, List.nil_append, List.cons_append, true_and, and_true, true_or, or_true, Int.cast_ofNat_Int, Int.natCast_zero, Int.natCast_one, zsh_27, zsh_34]
      rw [h6]
      refine ⟨by omega, by omega, fun w => ⟨by omega, by omega, fun _ => ?_, fun w' => by omega⟩, fun w => ?_⟩
      · have hfl : first < ns.length := by omega
        have hm : (if (first : Int) + fan < ns.length then (first : Int) + fan else (ns.length : Int)) = ((min ns.length (first + fan) : Nat) : Int) := by split <;> omega
        rw [hm]
        generalize he : min ns.length (first + fan) = e
        have he1 : first < e := by omega
        have he2 : e ≤ ns.length := by omega
        have he3 : e ≤ first + 4 := by omega
        refine ⟨by omega, by omega, ?_⟩
        refine ⟨_, c_X0_write h5 (by simp) (by omega), ?_⟩
        rintro v μ2 ⟨rfl, g1, g2⟩
        simp only [b_X1_makeTrees_0, b_X1_makeTrees_5, b_X1_makeTrees_14, b_X1_makeTrees_20, b_X1_makeTrees_54, b_X1_makeTrees_61, b_X1_makeTrees_101, b_X1_makeTrees_131, o_c, o_il, o_al, o_is, o_as, o_inc, o_add, o_sub, o_mul, o_and, o_or, o_xor, o_shl, o_shr, o_ush, o_rem, o_dup, o_dup2, o_gf, o_pf, o_pz, o_iald, o_iast, o_zald, o_zast, o_aald, o_gs, o_min, o_acp, o_call, o_callv, zgf, zpf, zia_, zza_, zra_, zrd_, zcp_, zpop, zsm8_0, zsm8_1, zsm8_2, zsm8_3, zsm8_4, zsm8_5, zrc, zisob, t_ieq, t_ilt, t_igt, t_zeq, t_zlt, t_zgt, t_sw, zsw, t_iret, t_zret, t_aret, t_vret, zrg, List.getElem?_cons_zero, List.getElem?_cons_succ, List.set_cons_zero, List.set_cons_succ, List.length_cons, List.length_nil, Option.toList_some, Option.toList_none, List.nil_append, List.cons_append, true_and, and_true, true_or, or_true, Int.cast_ofNat_Int, Int.natCast_zero, Int.natCast_one, zsh_27, zsh_34]
        refine ⟨_, c_X0_write g1 (by simp) (by omega), ?_⟩
        rintro v μ3 ⟨rfl, g3, g4⟩
        simp only [b_X1_makeTrees_0, b_X1_makeTrees_5, b_X1_makeTrees_14, b_X1_makeTrees_20, b_X1_makeTrees_54, b_X1_makeTrees_61, b_X1_makeTrees_101, b_X1_makeTrees_131, o_c, o_il, o_al, o_is, o_as, o_inc, o_add, o_sub, o_mul, o_and, o_or, o_xor, o_shl, o_shr, o_ush, o_rem, o_dup, o_dup2, o_gf, o_pf, o_pz, o_iald, o_iast, o_zald, o_zast, o_aald, o_gs, o_min, o_acp, o_call, o_callv, zgf, zpf, zia_, zza_, zra_, zrd_, zcp_, zpop, zsm8_0, zsm8_1, zsm8_2, zsm8_3, zsm8_4, zsm8_5, zrc, zisob, t_ieq, t_ilt, t_igt, t_zeq, t_zlt, t_zgt, t_sw, zsw, t_iret, t_zret, t_aret, t_vret, zrg, List.getElem?_cons_zero, List.getElem?_cons_succ, List.set_cons_zero, List.set_cons_succ, List.length_cons, List.length_nil, Option.toList_some, Option.toList_none, List.nil_append, List.cons_append, true_and, and_true, true_or, or_true, Int.cast_ofNat_Int, Int.natCast_zero, Int.natCast_one, zsh_27, zsh_34]
        have f13 : zfr [34, 39] μ1 μ3 := g2.trans g4
        -- the group
        have hgrp : (ns.drop first).take fan = (ns.take e).drop first := by
          rw [List.drop_take]
          by_cases hle : first + fan ≤ ns.length
          · have : e - first = fan := by omega
            rw [this]
          · rw [List.take_of_length_le (by simp; omega), List.take_of_length_le (by simp; omega)]
        have hzg : zgrp fan (f + 1) (ns.drop first) = (ns.take e).drop first :: zgrp fan f (ns.drop (first + fan)) := by
          have hdr : ns.drop first = ns[first] :: ns.drop (first + 1) := List.drop_eq_getElem_cons hfl
          rw [hdr]
          simp only [zgrp]
          rw [← hdr, hgrp, List.drop_drop]
        generalize hg : (ns.take e).drop first = g at hzg
        have hgl : g.length = e - first := by rw [← hg]; simp; omega
        generalize hLp : (zmk (L, c) (gd.map ztrow)).1 = Lp at g3
        generalize hcp : (zmk (L, c) (gd.map ztrow)).2 = cp at g3
        have hmk : zmk (L, c) ((gd ++ [g]).map ztrow) = zfb Lp cp (ztrow g) := by
          unfold zmk
          rw [List.map_append, List.foldl_append]
          show zfb (zmk (L, c) (gd.map ztrow)).1 (zmk (L, c) (gd.map ztrow)).2 (ztrow g) = _
          rw [hLp, hcp]
        have inner : ∀ (r i : Nat) (μ4 : zM), i + r = e → first ≤ i → zBT μ4 Lp (1 :: ((e : Int) - first) :: ((ns.take i).drop first).flatMap ztpt) cp → zfr [34, 39] μ1 μ4 → G 54 [.inr (some 27), .inl (fan : Int), .inr (some 34), .inl (gd.length : Int), .inl (first : Int), .inl (e : Int), .inl ((((ns.take i).drop first).map (·.2)).sum), .inl (i : Int)] [] μ4 := by
          intro r
          induction r with
          | zero =>
            intro i μ4 k1 k2 k3 k4
            have hie : i = e := by omega
            subst hie
            rw [hg] at k3 ⊢
            have hrow : (1 :: ((i : Int) - first) :: g.flatMap ztpt) = ztrow g := by
              unfold ztrow
              have : ((i : Int) - first) = (g.length : Int) := by omega
              rw [this]
            rw [hrow] at k3
            refine s_X1_makeTrees_54 hG ?_
            simp only [b_X1_makeTrees_0, b_X1_makeTrees_5, b_X1_makeTrees_14, b_X1_makeTrees_20, b_X1_makeTrees_54, b_X1_makeTrees_61, b_X1_makeTrees_101, b_X1_makeTrees_131, o_c, o_il, o_al, o_is, o_as, o_inc, o_add, o_sub, o_mul, o_and, o_or, o_xor, o_shl, o_shr, o_ush, o_rem, o_dup, o_dup2, o_gf, o_pf, o_pz, o_iald, o_iast, o_zald, o_zast, o_aald, o_gs, o_min, o_acp, o_call, o_callv, zgf, zpf, zia_, zza_, zra_, zrd_, zcp_, zpop, zsm8_0, zsm8_1, zsm8_2, zsm8_3, zsm8_4, zsm8_5, zrc, zisob, t_ieq, t_ilt, t_igt, t_zeq, t_zlt, t_zgt, t_sw, zsw, t_iret, t_zret, t_aret, t_vret, zrg, List.getElem?_cons_zero, List.getElem?_cons_succ, List.set_cons_zero, List.set_cons_succ, List.length_cons, List.length_nil, Option.toList_some, Option.toList_none, List.nil_append, List.cons_append, true_and, and_true, true_or, or_true, Int.cast_ofNat_Int, Int.natCast_zero, Int.natCast_one, zsh_27, zsh_34, zsh_28, zsh_29]
            refine ⟨by omega, by omega, fun _ => by omega, fun _ => ?_⟩
            refine ⟨_, c_X0_finishBlock (by omega) k3, ?_⟩
            rintro v μ5 ⟨rfl, q1, q2⟩
            rw [← hmk] at q1
            simp only [b_X1_makeTrees_0, b_X1_makeTrees_5, b_X1_makeTrees_14, b_X1_makeTrees_20, b_X1_makeTrees_54, b_X1_makeTrees_61, b_X1_makeTrees_101, b_X1_makeTrees_131, o_c, o_il, o_al, o_is, o_as, o_inc, o_add, o_sub, o_mul, o_and, o_or, o_xor, o_shl, o_shr, o_ush, o_rem, o_dup, o_dup2, o_gf, o_pf, o_pz, o_iald, o_iast, o_zald, o_zast, o_aald, o_gs, o_min, o_acp, o_call, o_callv, zgf, zpf, zia_, zza_, zra_, zrd_, zcp_, zpop, zsm8_0, zsm8_1, zsm8_2, zsm8_3, zsm8_4, zsm8_5, zrc, zisob, t_ieq, t_ilt, t_igt, t_zeq, t_zlt, t_zgt, t_sw, zsw, t_iret, t_zret, t_aret, t_vret, zrg, List.getElem?_cons_zero, List.getElem?_cons_succ, List.set_cons_zero, List.set_cons_succ, List.length_cons, List.length_nil, Option.toList_some, Option.toList_none, List.nil_append, List.cons_append, true_and, and_true, true_or, or_true, Int.cast_ofNat_Int, Int.natCast_zero, Int.natCast_one, zsh_27, zsh_34, zsh_28, zsh_29]
            refine ⟨by omega, by omega, ?_⟩
            generalize hμ6 : zup (zup μ5 28 gd.length (zhash (ztrow g))) 29 gd.length ((g.map (·.2)).sum) = μ6
            have f56 : zfr [28, 29] μ5 μ6 := fun x hx => by
              simp only [List.mem_cons, List.not_mem_nil, or_false, not_or] at hx
              rw [← hμ6, zup_ne x hx.2, zup_ne x hx.1]
            have f15 : zfr [34, 35, 36, 37, 38, 39] μ1 μ5 := (k4.mono (by simp)).trans (q2.mono (by simp))
            have := ih (first + fan) μ6 (gd ++ [g]) (.inl (i : Int)) (.inl ((g.map (·.2)).sum)) (.inl (i : Int)) (by simp; omega) (by omega) (by simp; omega) (by simp; omega) (by rw [h4, hzg]; simp) (q1.fr f56 (by simp)) (by rw [f56 27 (by decide), f15 27 (by decide)]; exact h6) ?_ ?_ ?_ ((h10.trans (f15.mono (by simp))).trans (f56.mono (by simp))) (by omega)
            · simp only [List.length_append, List.length_singleton, Int.natCast_add, Int.natCast_one] at this
              exact this
            · rw [List.map_append, List.map_append]
              refine (h7.of (f15 28 (by decide))).push (fun j hj => ?_) ?_
              · simp at hj
                rw [← hμ6, zup_ne _ (by decide)]
                simp [zup, hj]
              · rw [← hμ6, zup_ne _ (by decide)]
                simp [zup, ztnode]
            · rw [List.map_append, List.map_append]
              refine (h8.of (f15 29 (by decide))).push (fun j hj => ?_) ?_
              · simp at hj
                rw [← hμ6]
                simp [zup, hj]
              · rw [← hμ6]
                simp [zup, ztnode]
            · intro j p hj hp
              have := h9 j p (by omega) hp
              have hne : ¬ ((j : Int) = gd.length) := by omega
              refine ⟨?_, ?_⟩
              · rw [← hμ6, zup_ne _ (by decide)]
                simp [zup, hne]
                rw [f15 28 (by decide)]
                exact this.1
              · rw [← hμ6]
                simp [zup, hne]
                rw [f15 29 (by decide)]
                exact this.2
          | succ r ih2 =>
            intro i μ4 k1 k2 k3 k4
            have hi : i < ns.length := by omega
            have hp := h9 i ns[i] (by omega) (List.getElem?_eq_getElem hi)
            have hle := hN.le (List.getElem_mem hi)
            have hsl : (((ns.take i).drop first).flatMap ztpt).length = 4 * (i - first) := by
              have : ∀ l : List zNo, (l.flatMap ztpt).length = 4 * l.length := by
                intro l
                induction l with
                | nil => rfl
                | cons a r ih => simp only [List.flatMap_cons, List.length_append, ih, List.length_cons]; simp [ztpt]; omega
              rw [this]
              simp
              omega
            have e28 : μ4 28 i = ns[i].1 := by rw [k4 28 (by decide)]; exact hp.1
            have e29 : μ4 29 i = ns[i].2 := by rw [k4 29 (by decide)]; exact hp.2
            refine s_X1_makeTrees_54 hG ?_
            simp only [b_X1_makeTrees_0, b_X1_makeTrees_5, b_X1_makeTrees_14, b_X1_makeTrees_20, b_X1_makeTrees_54, b_X1_makeTrees_61, b_X1_makeTrees_101, b_X1_makeTrees_131, o_c, o_il, o_al, o_is, o_as, o_inc, o_add, o_sub, o_mul, o_and, o_or, o_xor, o_shl, o_shr, o_ush, o_rem, o_dup, o_dup2, o_gf, o_pf, o_pz, o_iald, o_iast, o_zald, o_zast, o_aald, o_gs, o_min, o_acp, o_call, o_callv, zgf, zpf, zia_, zza_, zra_, zrd_, zcp_, zpop, zsm8_0, zsm8_1, zsm8_2, zsm8_3, zsm8_4, zsm8_5, zrc, zisob, t_ieq, t_ilt, t_igt, t_zeq, t_zlt, t_zgt, t_sw, zsw, t_iret, t_zret, t_aret, t_vret, zrg, List.getElem?_cons_zero, List.getElem?_cons_succ, List.set_cons_zero, List.set_cons_succ, List.length_cons, List.length_nil, Option.toList_some, Option.toList_none, List.nil_append, List.cons_append, true_and, and_true, true_or, or_true, Int.cast_ofNat_Int, Int.natCast_zero, Int.natCast_one, zsh_27, zsh_34, zsh_28, zsh_29]
            refine ⟨by omega, by omega, fun _ => ⟨by omega, ?_⟩, fun _ => by omega⟩
            rw [e29]
            refine ⟨_, c_X0_writePair (by omega) k3 (by simp [hsl]; omega) (by omega), ?_⟩
            rintro v μ5 ⟨rfl, q1, q2⟩
            have e28' : μ5 28 i = ns[i].1 := by rw [q2 28 (by decide)]; exact e28
            simp only [b_X1_makeTrees_0, b_X1_makeTrees_5, b_X1_makeTrees_14, b_X1_makeTrees_20, b_X1_makeTrees_54, b_X1_makeTrees_61, b_X1_makeTrees_101, b_X1_makeTrees_131, o_c, o_il, o_al, o_is, o_as, o_inc, o_add, o_sub, o_mul, o_and, o_or, o_xor, o_shl, o_shr, o_ush, o_rem, o_dup, o_dup2, o_gf, o_pf, o_pz, o_iald, o_iast, o_zald, o_zast, o_aald, o_gs, o_min, o_acp, o_call, o_callv, zgf, zpf, zia_, zza_, zra_, zrd_, zcp_, zpop, zsm8_0, zsm8_1, zsm8_2, zsm8_3, zsm8_4, zsm8_5, zrc, zisob, t_ieq, t_ilt, t_igt, t_zeq, t_zlt, t_zgt, t_sw, zsw, t_iret, t_zret, t_aret, t_vret, zrg, List.getElem?_cons_zero, List.getElem?_cons_succ, List.set_cons_zero, List.set_cons_succ, List.length_cons, List.length_nil, Option.toList_some, Option.toList_none, List.nil_append, List.cons_append, true_and, and_true, true_or, or_true, Int.cast_ofNat_Int, Int.natCast_zero, Int.natCast_one, zsh_27, zsh_34, zsh_28, zsh_29]
            refine ⟨by omega, ?_⟩
            rw [e28']
            refine ⟨_, c_X0_writePair (by omega) q1 (by simp [hsl]; omega) (by omega), ?_⟩
            rintro v μ6 ⟨rfl, q3, q4⟩
            have e29' : μ6 29 i = ns[i].2 := by rw [q4 29 (by decide), q2 29 (by decide)]; exact e29
            simp only [b_X1_makeTrees_0, b_X1_makeTrees_5, b_X1_makeTrees_14, b_X1_makeTrees_20, b_X1_makeTrees_54, b_X1_makeTrees_61, b_X1_makeTrees_101, b_X1_makeTrees_131, o_c, o_il, o_al, o_is, o_as, o_inc, o_add, o_sub, o_mul, o_and, o_or, o_xor, o_shl, o_shr, o_ush, o_rem, o_dup, o_dup2, o_gf, o_pf, o_pz, o_iald, o_iast, o_zald, o_zast, o_aald, o_gs, o_min, o_acp, o_call, o_callv, zgf, zpf, zia_, zza_, zra_, zrd_, zcp_, zpop, zsm8_0, zsm8_1, zsm8_2, zsm8_3, zsm8_4, zsm8_5, zrc, zisob, t_ieq, t_ilt, t_igt, t_zeq, t_zlt, t_zgt, t_sw, zsw, t_iret, t_zret, t_aret, t_vret, zrg, List.getElem?_cons_zero, List.getElem?_cons_succ, List.set_cons_zero, List.set_cons_succ, List.length_cons, List.length_nil, Option.toList_some, Option.toList_none, List.nil_append, List.cons_append, true_and, and_true, true_or, or_true, Int.cast_ofNat_Int, Int.natCast_zero, Int.natCast_one, zsh_27, zsh_34, zsh_28, zsh_29]
            refine ⟨by omega, ?_⟩
            rw [e29']
            have e9 : (ns.take (i + 1)).drop first = (ns.take i).drop first ++ [ns[i]] := by
              rw [List.take_succ, List.getElem?_eq_getElem hi]
              rw [List.drop_append_of_le_length (by simp; omega)]
              rfl
            have := ih2 (i + 1) μ6 (by omega) (by omega) (by rw [e9, List.flatMap_append]; simpa [ztpt] using q3) ((k4.trans q2).trans q4)
            rw [e9, List.map_append, List.sum_append] at this
            simp only [List.map_cons, List.map_nil, List.sum_cons, List.sum_nil, Int.add_zero] at this
            exact this
        have := inner (e - first) first μ3 (by omega) (by omega) ?_ f13
        · have e9 : (ns.take first).drop first = [] := List.drop_eq_nil_of_le (by simp; omega)
          rw [e9] at this
          exact this
        · have e9 : (ns.take first).drop first = [] := List.drop_eq_nil_of_le (by simp; omega)
          rw [e9]
          simpa using g3
      · have hdr : ns.drop first = [] := List.drop_eq_nil_of_le (by omega)
        have e0 : zgrp fan 32 ns = gd := by rw [h4, hdr]; simp [zgrp]
        rw [e0]
        have hfz : zfr [27] μ1 (zup μ1 27 2 gd.length) := fun x hx => zup_ne x (by simpa using hx)
        exact ⟨h5.fr hfz (by simp), ⟨by simp [zup], by simp; omega, h7.of (hfz 28 (by decide)), h8.of (hfz 29 (by decide))⟩, h10.trans (hfz.mono (by simp))⟩
  exact loop 32 0 μ [] _ _ _ (by simp) (by omega) (by simp) (Or.inl rfl) rfl hT F1 (fun j x hj => by simp at hj) (fun j x hj => by simp at hj) (fun j p _ hp => ⟨F3 j p.1 (by simp [hp]), F4 j p.2 (by simp [hp])⟩) (zfr.refl _ _) (by omega)
def zlevs (fan : Nat) : Nat → List zNo → List (List Int) × List zNo
  | 0, ns => ([], ns)
  | f + 1, ns => if ns.length ≤ 1 then ([], ns) else ((zgrp fan 32 ns).map ztrow ++ (zlevs fan f ((zgrp fan 32 ns).map ztnode)).1, (zlevs fan f ((zgrp fan 32 ns).map ztnode)).2)
theorem zgrp_sum {fan : Nat} (hf : 2 ≤ fan) : ∀ (f : Nat) (ns : List zNo), ns.length ≤ f → (∀ p ∈ ns, 0 ≤ p.2) → ((zgrp fan f ns).map (fun g => (g.map (·.2)).sum)).sum = (ns.map (·.2)).sum := by
  intro f
  induction f with
  | zero => intro ns h _; have : ns = [] := List.length_eq_zero_iff.mp (by omega); simp [this, zgrp]
  | succ f ih =>
    intro ns h h0
    cases ns with
    | nil => simp [zgrp]
    | cons p r =>
      simp only [zgrp, List.map_cons, List.sum_cons]
      rw [ih _ (by simp at h ⊢; omega) (fun q hq => h0 q (List.mem_of_mem_drop hq))]
      rw [← List.sum_append, ← List.map_append, List.take_append_drop]
      simp
theorem zgrp_mem {fan : Nat} : ∀ (f : Nat) (ns : List zNo) (g : List zNo), g ∈ zgrp fan f ns → ∀ p ∈ g, p ∈ ns := by
  intro f
  induction f with
  | zero => intro ns g hg; simp [zgrp] at hg
  | succ f ih =>
    intro ns g hg p hp
    cases ns with
    | nil => simp [zgrp] at hg
    | cons q r =>
      simp only [zgrp, List.mem_cons] at hg
      rcases hg with rfl | hg
      · exact List.mem_of_mem_take hp
      · exact List.mem_of_mem_drop (ih _ g hg p hp)
theorem zNO.grp {fan : Nat} {ns : List zNo} (hf : 2 ≤ fan) (hl : ns.length ≤ 32) (h : zNO ns) : zNO ((zgrp fan 32 ns).map ztnode) := by
  refine ⟨fun p hp => ?_, ?_⟩
  · obtain ⟨g, hg, rfl⟩ := List.mem_map.mp hp
    refine ⟨zhash_rg _, ?_⟩
    exact (zsum_mem (fun x hx => by obtain ⟨q, hq, rfl⟩ := List.mem_map.mp hx; exact (h.1 q (zgrp_mem 32 ns g hg q hq)).2)).1
  · rw [List.map_map]
    have := zgrp_sum hf 32 ns hl (fun p hp => (h.1 p hp).2)
    have h2 := h.2
    show ((zgrp fan 32 ns).map (fun g => (g.map (·.2)).sum)).sum ≤ 32
    omega
theorem zgrp_len {fan : Nat} (hf : 2 ≤ fan) : ∀ (f : Nat) (ns : List zNo), (zgrp fan f ns).length ≤ ns.length ∧ (2 ≤ ns.length → (zgrp fan f ns).length < ns.length) ∧ (1 ≤ f → 1 ≤ ns.length → 1 ≤ (zgrp fan f ns).length) := by
  intro f
  induction f with
  | zero => intro ns; simp [zgrp]; omega
  | succ f ih =>
    intro ns
    cases ns with
    | nil => simp [zgrp]
    | cons p r =>
      have := ih ((p :: r).drop fan)
      simp only [zgrp, List.length_cons, List.length_drop] at this ⊢
      omega
def zfnod (B : List Int) (chunk : Int) : List zNo := (zpcs B chunk 32 0).map (fun p => (zhash (0 :: p), (p.length : Int)))
def zfrow (B : List Int) (chunk : Int) (fan : Nat) : List (List Int) := (zpcs B chunk 32 0).map (0 :: ·) ++ (zlevs fan 32 (zfnod B chunk)).1
def zftop (B : List Int) (chunk : Int) (fan : Nat) : Int := ((zlevs fan 32 (zfnod B chunk)).2.headD (0, 0)).1
theorem zpcs_sum (B : List Int) {chunk : Int} (hc : 0 ≤ chunk ∧ chunk ≤ 8) : ∀ (f st : Nat), st ≤ B.length → ((zpcs B chunk f st).map (fun p => (p.length : Int))).sum ≤ B.length - st := by
  intro f
  induction f with
  | zero => intro st h; simp [zpcs]; omega
  | succ f ih =>
    intro st h
    have he := zend_rg B hc h
    simp only [zpcs, List.map_cons, List.sum_cons]
    have hlp : ((zpce B chunk st).length : Int) = (zend B chunk st : Int) - st := by unfold zpce; simp; omega
    rw [hlp]
    split
    · have := ih (zend B chunk st) he.2.1
      omega
    · simp
      omega
theorem zpcs_len (B : List Int) (chunk : Int) : ∀ (f st : Nat), (zpcs B chunk f st).length ≤ f ∧ (1 ≤ f → 1 ≤ (zpcs B chunk f st).length) := by
  intro f
  induction f with
  | zero => intro st; simp [zpcs]
  | succ f ih =>
    intro st
    simp only [zpcs, List.length_cons]
    split
    · have := ih (zend B chunk st); omega
    · simp
theorem zfnod_ok {B : List Int} {chunk : Int} (hc : 0 ≤ chunk ∧ chunk ≤ 8) (hl : B.length ≤ 32) : zNO (zfnod B chunk) ∧ (zfnod B chunk).length ≤ 32 ∧ 1 ≤ (zfnod B chunk).length := by
  have h1 := zpcs_len B chunk 32 0
  have h2 := zpcs_sum B hc 32 0 (by omega)
  refine ⟨⟨fun p hp => ?_, ?_⟩, by simp [zfnod]; omega, by simp [zfnod]; omega⟩
  · obtain ⟨g, hg, rfl⟩ := List.mem_map.mp hp
    exact ⟨zhash_rg _, by simp⟩
  · unfold zfnod
    rw [List.map_map]
    show ((zpcs B chunk 32 0).map (fun p => (p.length : Int))).sum ≤ 32
    omega
set_option maxRecDepth 100000 in
set_option maxHeartbeats 4000000 in
theorem c_X1_makeFile {d fan : Nat} {μ : zM} {B : List Int} {L : List zBk} {c chunk : Int} (hd : 4 ≤ d) (hf : 2 ≤ fan ∧ fan ≤ 4) (hB : zAR μ 26 B) (hl : B.length ≤ 32) (hv : ∀ x ∈ B, 0 ≤ x ∧ x ≤ 255) (hc : 0 ≤ chunk ∧ chunk ≤ 8) (hT : zBT μ L [] c) : zCt d mX1_makeFile [.inr (some 27), .inr (some 26), .inl (B.length : Int), .inl chunk, .inl (fan : Int), .inr (some 34)] μ (fun v μ' => v = some (.inl (zftop B chunk fan)) ∧ zBT μ' (zmk (L, c) (zfrow B chunk fan)).1 [] (zmk (L, c) (zfrow B chunk fan)).2 ∧ zfr zfmS μ μ') := by
  obtain ⟨o1, o2, o3⟩ := zfnod_ok hc hl
  refine of_X1_makeFile (by omega) (fun G hG => s_X1_makeFile_0 hG ?_)
  simp only [b_X1_makeFile_0, b_X1_makeFile_12, b_X1_makeFile_19, b_X1_makeFile_27, b_X1_makeFile_41, o_c, o_il, o_al, o_is, o_as, o_inc, o_add, o_sub, o_mul, o_and, o_or, o_xor, o_shl, o_shr, o_ush, o_rem, o_dup, o_dup2, o_gf, o_pf, o_pz, o_iald, o_iast, o_zald, o_zast, o_aald, o_gs, o_min, o_acp, o_call, o_callv, zgf, zpf, zia_, zza_, zra_, zrd_, zcp_, zpop, zsm8_0, zsm8_1, zsm8_2, zsm8_3, zsm8_4, zsm8_5, zrc, zisob, t_ieq, t_ilt, t_igt, t_zeq, t_zlt, t_zgt, t_sw, zsw, t_iret, t_zret, t_aret, t_vret, zrg, List.getElem?_cons_zero, List.getElem?_cons_succ, List.set_cons_zero, List.set_cons_succ, List.length_cons, List.length_nil, Option.toList_some, Option.toList_none, List.nil_append, List.cons_append, true_and, and_true, true_or, or_true, Int.cast_ofNat_Int, Int.natCast_zero, Int.natCast_one, zsh_27]
  refine ⟨_, c_X1_makeLeaves (by omega) hB hl hv hc hT, ?_⟩
  rintro v μ1 ⟨rfl, b1, b2, b3⟩
  simp only [b_X1_makeFile_0, b_X1_makeFile_12, b_X1_makeFile_19, b_X1_makeFile_27, b_X1_makeFile_41, o_c, o_il, o_al, o_is, o_as, o_inc, o_add, o_sub, o_mul, o_and, o_or, o_xor, o_shl, o_shr, o_ush, o_rem, o_dup, o_dup2, o_gf, o_pf, o_pz, o_iald, o_iast, o_zald, o_zast, o_aald, o_gs, o_min, o_acp, o_call, o_callv, zgf, zpf, zia_, zza_, zra_, zrd_, zcp_, zpop, zsm8_0, zsm8_1, zsm8_2, zsm8_3, zsm8_4, zsm8_5, zrc, zisob, t_ieq, t_ilt, t_igt, t_zeq, t_zlt, t_zgt, t_sw, zsw, t_iret, t_zret, t_aret, t_vret, zrg, List.getElem?_cons_zero, List.getElem?_cons_succ, List.set_cons_zero, List.set_cons_succ, List.length_cons, List.length_nil, Option.toList_some, Option.toList_none, List.nil_append, List.cons_append, true_and, and_true, true_or, or_true, Int.cast_ofNat_Int, Int.natCast_zero, Int.natCast_one, zsh_27]
  have loop : ∀ (f i : Nat) (μ2 : zM) (ns : List zNo) (rows : List (List Int)), i + f = 32 → zNO ns → ns.length ≤ f + 1 → ns.length ≤ 32 → 1 ≤ ns.length → zfrow B chunk fan = rows ++ (zlevs fan f ns).1 → zftop B chunk fan = ((zlevs fan f ns).2.headD (0, 0)).1 → zBT μ2 (zmk (L, c) rows).1 [] (zmk (L, c) rows).2 → zFM μ2 ns → zfr zfmS μ μ2 → G 12 [.inr (some 27), .inr (some 26), .inl (B.length : Int), .inl chunk, .inl (fan : Int), .inr (some 34), .inl (i : Int)] [] μ2 := by
    intro f
    induction f with
    | zero =>
      intro i μ2 ns rows h1 h2 h3 h4 h4' h5 h6 h7 h8 h9
      obtain ⟨m1, m2, m3, m4⟩ := h8
      refine s_X1_makeFile_12 hG ?_
      simp only [b_X1_makeFile_0, b_X1_makeFile_12, b_X1_makeFile_19, b_X1_makeFile_27, b_X1_makeFile_41, o_c, o_il, o_al, o_is, o_as, o_inc, o_add, o_sub, o_mul, o_and, o_or, o_xor, o_shl, o_shr, o_ush, o_rem, o_dup, o_dup2, o_gf, o_pf, o_pz, o_iald, o_iast, o_zald, o_zast, o_aald, o_gs, o_min, o_acp, o_call, o_callv, zgf, zpf, zia_, zza_, zra_, zrd_, zcp_, zpop, zsm8_0, zsm8_1, zsm8_2, zsm8_3, zsm8_4, zsm8_5, zrc, zisob, t_ieq, t_ilt, t_igt, t_zeq, t_zlt, t_zgt, t_sw, zsw, t_iret, t_zret, t_aret, t_vret, zrg, List.getElem?_cons_zero, List.getElem?_cons_succ, List.set_cons_zero, List.set_cons_succ, List.length_cons, List.length_nil, Option.toList_some, Option.toList_none, List.nil_append, List.cons_append, true_and, and_true, true_or, or_true, Int.cast_ofNat_Int, Int.natCast_zero, Int.natCast_one, zsh_27, zsh_28]
      have hz : (zlevs fan 0 ns) = ([], ns) := rfl
      rw [hz] at h5 h6
      simp at h5
      have h0 : ns[0]? = some (ns.headD (0, 0)) := by cases ns with | nil => simp at h4' | cons a r => rfl
      have e28 : μ2 28 0 = zftop B chunk fan := by
        rw [h6]
        exact m3 0 _ (by simp [h0])
      refine ⟨by omega, by omega, fun w => by omega, fun w => ?_⟩
      rw [e28, h5]
      exact ⟨by omega, rfl, h7, h9⟩
    | succ f ih =>
      intro i μ2 ns rows h1 h2 h3 h4 h4' h5 h6 h7 h8 h9
      have hh8 := h8
      obtain ⟨m1, m2, m3, m4⟩ := h8
      refine s_X1_makeFile_12 hG ?_
      simp only [b_X1_makeFile_0, b_X1_makeFile_12, b_X1_makeFile_19, b_X1_makeFile_27, b_X1_makeFile_41, o_c, o_il, o_al, o_is, o_as, o_inc, o_add, o_sub, o_mul, o_and, o_or, o_xor, o_shl, o_shr, o_ush, o_rem, o_dup, o_dup2, o_gf, o_pf, o_pz, o_iald, o_iast, o_zald, o_zast, o_aald, o_gs, o_min, o_acp, o_call, o_callv, zgf, zpf, zia_, zza_, zra_, zrd_, zcp_, zpop, zsm8_0, zsm8_1, zsm8_2, zsm8_3, zsm8_4, zsm8_5, zrc, zisob, t_ieq, t_ilt, t_igt, t_zeq, t_zlt, t_zgt, t_sw, zsw, t_iret, t_zret, t_aret, t_vret, zrg, List.getElem?_cons_zero, List.getElem?_cons_succ, List.set_cons_zero, List.set_cons_succ, List.length_cons, List.length_nil, Option.toList_some, Option.toList_none, List.nil_append, List.cons_append, true_and, and_true, true_or, or_true, Int.cast_ofNat_Int, Int.natCast_zero, Int.natCast_one, zsh_27, zsh_28]
      simp only [zlevs] at h5 h6
      rw [m1]
      refine ⟨by omega, by omega, fun w => ⟨by omega, by omega, fun w2 => ?_, fun w2 => ?_⟩, fun w => by omega⟩
      · rw [if_neg (by omega)] at h5 h6
        refine ⟨_, c_X1_makeTrees (by omega) hf hh8 h2 h7, ?_⟩
        rintro v μ3 ⟨rfl, g1, g2, g3⟩
        simp only [b_X1_makeFile_0, b_X1_makeFile_12, b_X1_makeFile_19, b_X1_makeFile_27, b_X1_makeFile_41, o_c, o_il, o_al, o_is, o_as, o_inc, o_add, o_sub, o_mul, o_and, o_or, o_xor, o_shl, o_shr, o_ush, o_rem, o_dup, o_dup2, o_gf, o_pf, o_pz, o_iald, o_iast, o_zald, o_zast, o_aald, o_gs, o_min, o_acp, o_call, o_callv, zgf, zpf, zia_, zza_, zra_, zrd_, zcp_, zpop, zsm8_0, zsm8_1, zsm8_2, zsm8_3, zsm8_4, zsm8_5, zrc, zisob, t_ieq, t_ilt, t_igt, t_zeq, t_zlt, t_zgt, t_sw, zsw, t_iret, t_zret, t_aret, t_vret, zrg, List.getElem?_cons_zero, List.getElem?_cons_succ, List.set_cons_zero, List.set_cons_succ, List.length_cons, List.length_nil, Option.toList_some, Option.toList_none, List.nil_append, List.cons_append, true_and, and_true, true_or, or_true, Int.cast_ofNat_Int, Int.natCast_zero, Int.natCast_one, zsh_27, zsh_28]
        have hgl := zgrp_len hf.1 32 ns
        refine ih (i + 1) μ3 _ (rows ++ (zgrp fan 32 ns).map ztrow) (by omega) (h2.grp hf.1 h4) (by simp; omega) (by simp; omega) (by simp; omega) (by rw [h5]; simp) h6 ?_ g2 (h9.trans g3)
        have e : zmk (L, c) (rows ++ (zgrp fan 32 ns).map ztrow) = zmk (zmk (L, c) rows) ((zgrp fan 32 ns).map ztrow) := by unfold zmk; rw [List.foldl_append]
        rw [e]
        exact g1
      · rw [if_pos (by omega)] at h5 h6
        simp at h5
        have h0 : ns[0]? = some (ns.headD (0, 0)) := by cases ns with | nil => simp at h4' | cons a r => rfl
        have e28 : μ2 28 0 = zftop B chunk fan := by
          rw [h6]
          exact m3 0 _ (by simp [h0])
        rw [e28, h5]
        exact ⟨by omega, rfl, h7, h9⟩
  exact loop 32 0 μ1 (zfnod B chunk) _ (by omega) o1 (by omega) o2 o3 rfl rfl b1 b2 b3
