/-! THE CLASS: put, add, folder -/
theorem zfb_nil (D : List Int) : zfb [] 0 D = ([(zhash D, D)], 0) := by
  have e : zix [] (zhash D) = -1 := rfl
  unfold zfb
  rw [e, if_pos (by omega)]
  rfl
theorem zisB.len {bs : List Int} (h : zisB (some bs)) : bs.length ≤ 18 ∧ 1 ≤ bs.length := by
  have hc := h.cnt
  rcases h with ⟨h1, h2⟩ | ⟨h1, h2, h3, h4⟩
  · unfold zp_size at h2
    simp only at h2
    refine ⟨by omega, ?_⟩
    cases bs with
    | nil => simp [zknd, zp_byte] at h1
    | cons a r => simp
  · unfold zp_size at h3
    simp only at h3
    have hw : 0 ≤ zpw (zknd (some bs)) ∧ zpw (zknd (some bs)) ≤ 4 := zpw_rg _
    have hm : 0 ≤ zcnt (some bs) * zpw (zknd (some bs)) ∧ zcnt (some bs) * zpw (zknd (some bs)) ≤ 16 := by
      generalize zpw (zknd (some bs)) = w at hw
      have hw4 : w = 0 ∨ w = 1 ∨ w = 2 ∨ w = 3 ∨ w = 4 := by omega
      rcases hw4 with rfl | rfl | rfl | rfl | rfl <;> omega
    omega
theorem zNd_one (b : zBk) : zNd [b] := fun i j a c ha hc _ => by
  have h1 := (List.getElem?_eq_some_iff.mp ha).1
  have h2 := (List.getElem?_eq_some_iff.mp hc).1
  simp at h1 h2
  omega
theorem zVS.take {x : zStt} {Lb : List zBk} (h : zVS x) (hb : zVB Lb) (hN : zNd Lb) : zVS (x.1 ++ zfre x.1 Lb, x.2) := by
  refine ⟨fun b hb2 => ?_, fun i j a b ha hb2 e => ?_⟩
  · rcases List.mem_append.mp hb2 with q | q
    · exact h.1 b q
    · exact hb b (List.mem_filter.mp q).1
  · have key : ∀ (i : Nat) (a : zBk), (x.1 ++ zfre x.1 Lb)[i]? = some a → (i < x.1.length ∧ x.1[i]? = some a) ∨ (x.1.length ≤ i ∧ (zfre x.1 Lb)[i - x.1.length]? = some a) := fun i a ha => by
      by_cases hi : i < x.1.length
      · left; rw [List.getElem?_append_left hi] at ha; exact ⟨hi, ha⟩
      · right; rw [List.getElem?_append_right (by omega)] at ha; exact ⟨by omega, ha⟩
    have hnew : ∀ a ∈ zfre x.1 Lb, ∀ b ∈ x.1, b.1 ≠ a.1 := fun a ha => zix_neg.mp (by simpa using (List.mem_filter.mp ha).2)
    have hfN : ∀ (i j : Nat) (a b : zBk), (zfre x.1 Lb)[i]? = some a → (zfre x.1 Lb)[j]? = some b → a.1 = b.1 → i = j := by
      unfold zfre
      generalize (fun b : zBk => decide (zix x.1 b.1 < 0)) = p
      clear hb hnew key hb2 ha
      have pw : Lb.Pairwise (fun a b => a.1 ≠ b.1) := List.pairwise_iff_getElem.mpr (fun i j hi hj hij e => by
        have := hN i j _ _ (List.getElem?_eq_getElem hi) (List.getElem?_eq_getElem hj) e
        omega)
      have pw2 := pw.filter p
      intro i j a b ha hb e
      obtain ⟨h1, rfl⟩ := List.getElem?_eq_some_iff.mp ha
      obtain ⟨h2, rfl⟩ := List.getElem?_eq_some_iff.mp hb
      rcases Nat.lt_trichotomy i j with q | q | q
      · exact absurd e (List.pairwise_iff_getElem.mp pw2 i j h1 h2 q)
      · exact q
      · exact absurd e.symm (List.pairwise_iff_getElem.mp pw2 j i h2 h1 q)
    rcases key i a ha with ⟨i1, i2⟩ | ⟨i1, i2⟩ <;> rcases key j b hb2 with ⟨j1, j2⟩ | ⟨j1, j2⟩
    · exact h.2 i j a b i2 j2 e
    · exact absurd e (hnew b (List.mem_of_getElem? j2) a (List.mem_of_getElem? i2))
    · exact absurd e.symm (hnew a (List.mem_of_getElem? i2) b (List.mem_of_getElem? j2))
    · have := hfN _ _ a b i2 j2 e
      omega
/-- a store takes rows: the answer, the store then -/
noncomputable def zinO (x : zStt) (rows : List (List Int)) (top : Int) : Int := zbiC x.1 (zmk ([], 0) rows).1 (zmk ([], 0) rows).2 top
noncomputable def zinS (x : zStt) (rows : List (List Int)) : zStt := zbiS x (zmk ([], 0) rows).1 (zmk ([], 0) rows).2
noncomputable def zptO (B : List Int) (St : Nat → zStt) (store : Int) : Int := if zb ((0 ≤ store ∧ store ≤ 2) ∧ zisB (some B)) = 1 then zinO (St store.toNat) [B] (zhash B) else -1
noncomputable def zptS (B : List Int) (St : Nat → zStt) (store : Int) : Nat → zStt := if zb ((0 ≤ store ∧ store ≤ 2) ∧ zisB (some B)) = 1 then zSu St store.toNat (zinS (St store.toNat) [B]) else St
def zcB (B : List Int) (ans : Int) : List Int := if 0 ≤ ans then [] else B
theorem zbiC_rg {L Lb : List zBk} {c top : Int} (ht : 0 ≤ top ∧ top ≤ 65520) : -3 ≤ zbiC L Lb c top ∧ zbiC L Lb c top ≤ 65520 := by
  have := ztkc_rg L Lb c
  unfold zbiC
  split <;> omega
theorem zRC.tm {μ μ' : zM} {B : List Int} {T : List zPp} {Ms : List zMg} {St : Nat → zStt} {S : List Nat} (h : zRC μ B T Ms St) (f : zfr S μ μ') (hS : ∀ c ∈ S, (27 ≤ c ∧ c ≤ 29) ∨ (33 ≤ c ∧ c ≤ 39)) (hb : ∃ Lb D c, zBT μ' Lb D c) : zRC μ' B T Ms St := by
  obtain ⟨h1, h2, h3, h4, h5⟩ := h
  refine ⟨h1.of (f 0 (fun w => by have := hS _ w; omega)) (f 26 (fun w => by have := hS _ w; omega)), h2.fr f (fun c hc => by have := hS c hc; omega), h3.fr f (fun c hc => by have := hS c hc; omega), fun t ht => (h4 t ht).fr f (fun c hc => by have := hS c hc; omega), hb, ?_, ?_⟩
  · obtain ⟨R, M, V, hw⟩ := h5.2.1
    exact ⟨R, M, V, hw.fr f (fun c hc => by have := hS c hc; omega)⟩
  · obtain ⟨R, M, V, hw⟩ := h5.2.2
    exact ⟨R, M, V, hw.fr f (fun c hc => by have := hS c hc; omega)⟩
theorem zRC.b0 {μ : zM} {B : List Int} {T : List zPp} {Ms : List zMg} {St : Nat → zStt} (h : zRC μ B T Ms St) : zRC (zup μ 0 2 0) [] T Ms St ∧ zfr zCS μ (zup μ 0 2 0) := by
  have f0 : zfr [0] μ (zup μ 0 2 0) := fun x hx => zup_ne x (by simpa using hx)
  obtain ⟨h1, h2, h3, h4, h5⟩ := h
  exact ⟨⟨⟨by simp [zup], by simp, fun j x hj => by simp at hj, by simp⟩, h2.fr f0 (by simp), h3.fr f0 (by simp), fun t ht => (h4 t ht).fr f0 (by simp <;> omega), h5.fr f0 (by simp)⟩, f0.cs (by simp)⟩
set_option maxRecDepth 100000 in
set_option maxHeartbeats 4000000 in
theorem c_X10_put {d : Nat} {μ : zM} {B : List Int} {T : List zPp} {Ms : List zMg} {St : Nat → zStt} {store : Int} (hd : 6 ≤ d) (h : zRC μ B T Ms St) (hV : ∀ s, s < 3 → zVS (St s)) (hs : zrg store) : zCt d mX10_put [.inr (some 0), .inl store] μ (fun v μ' => v = some (.inl (zptO B St store)) ∧ zRC μ' (zcB B (zptO B St store)) T Ms (zptS B St store) ∧ zfr zCS μ μ') := by
  have hBl := h.1.2.1
  have hc0 := h.1.1
  by_cases hc : 0 ≤ store ∧ store ≤ 2
  · obtain ⟨s, rfl, h3⟩ := zs3 hc
    have hk := zk3 h3
    refine of_X10_put (by omega) (fun G hG => s_X10_put_0 hG ?_)
    simp only [b_X10_put_0, b_X10_put_7, b_X10_put_16, b_X10_put_18, b_X10_put_27, b_X10_put_35, b_X10_put_54, b_X10_put_76, b_X10_put_78, b_X10_put_89, b_X10_put_94, o_c, o_il, o_al, o_is, o_as, o_inc, o_add, o_sub, o_mul, o_and, o_or, o_xor, o_shl, o_shr, o_ush, o_rem, o_dup, o_dup2, o_gf, o_pf, o_pz, o_iald, o_iast, o_zald, o_zast, o_aald, o_gs, o_min, o_acp, o_call, o_callv, zgf, zpf, zia_, zza_, zra_, zrd_, zcp_, zpop, zsm8_0, zsm8_1, zsm8_2, zsm8_3, zsm8_4, zsm8_5, zrc, zisob, t_ieq, t_ilt, t_igt, t_zeq, t_zlt, t_zgt, t_sw, zsw, t_iret, t_zret, t_aret, t_vret, zrg, List.getElem?_cons_zero, List.getElem?_cons_succ, List.set_cons_zero, List.set_cons_succ, List.length_cons, List.length_nil, Option.toList_some, Option.toList_none, List.nil_append, List.cons_append, true_and, and_true, true_or, or_true, Int.cast_ofNat_Int, Int.natCast_zero, Int.natCast_one, zsh_0, zsh_34]
    refine zcall (c_X10_isStore hs) ?_
    rw [zb_t hc]
    simp only [b_X10_put_0, b_X10_put_7, b_X10_put_16, b_X10_put_18, b_X10_put_27, b_X10_put_35, b_X10_put_54, b_X10_put_76, b_X10_put_78, b_X10_put_89, b_X10_put_94, o_c, o_il, o_al, o_is, o_as, o_inc, o_add, o_sub, o_mul, o_and, o_or, o_xor, o_shl, o_shr, o_ush, o_rem, o_dup, o_dup2, o_gf, o_pf, o_pz, o_iald, o_iast, o_zald, o_zast, o_aald, o_gs, o_min, o_acp, o_call, o_callv, zgf, zpf, zia_, zza_, zra_, zrd_, zcp_, zpop, zsm8_0, zsm8_1, zsm8_2, zsm8_3, zsm8_4, zsm8_5, zrc, zisob, t_ieq, t_ilt, t_igt, t_zeq, t_zlt, t_zgt, t_sw, zsw, t_iret, t_zret, t_aret, t_vret, zrg, List.getElem?_cons_zero, List.getElem?_cons_succ, List.set_cons_zero, List.set_cons_succ, List.length_cons, List.length_nil, Option.toList_some, Option.toList_none, List.nil_append, List.cons_append, true_and, and_true, true_or, or_true, Int.cast_ofNat_Int, Int.natCast_zero, Int.natCast_one, zsh_0, zsh_34]
    have hbad : ¬ zisB (some B) → zptO B St s = -1 ∧ zptS B St s = St := fun w => by
      unfold zptO zptS
      rw [if_neg (by rw [zb_f (fun q => w q.2)]; decide), if_neg (by rw [zb_f (fun q => w q.2)]; decide)]
      exact ⟨rfl, rfl⟩
    rw [hc0]
    refine ⟨by omega, fun w => by omega, fun _ => ⟨by omega, by omega, fun w => ?_, fun w => ?_⟩⟩
    · obtain ⟨e1, e2⟩ := hbad (fun q => by have := q.len; omega)
      rw [e1, e2]
      exact ⟨rfl, h, zfr.refl _ _⟩
    · obtain ⟨Lb, D, c, hb⟩ := h.2.2.2.2.1
      refine ⟨_, c_X0_restart (by omega) hb, ?_⟩
      rintro v μ1 ⟨rfl, b1, b2⟩
      simp only [b_X10_put_0, b_X10_put_7, b_X10_put_16, b_X10_put_18, b_X10_put_27, b_X10_put_35, b_X10_put_54, b_X10_put_76, b_X10_put_78, b_X10_put_89, b_X10_put_94, o_c, o_il, o_al, o_is, o_as, o_inc, o_add, o_sub, o_mul, o_and, o_or, o_xor, o_shl, o_shr, o_ush, o_rem, o_dup, o_dup2, o_gf, o_pf, o_pz, o_iald, o_iast, o_zald, o_zast, o_aald, o_gs, o_min, o_acp, o_call, o_callv, zgf, zpf, zia_, zza_, zra_, zrd_, zcp_, zpop, zsm8_0, zsm8_1, zsm8_2, zsm8_3, zsm8_4, zsm8_5, zrc, zisob, t_ieq, t_ilt, t_igt, t_zeq, t_zlt, t_zgt, t_sw, zsw, t_iret, t_zret, t_aret, t_vret, zrg, List.getElem?_cons_zero, List.getElem?_cons_succ, List.set_cons_zero, List.set_cons_succ, List.length_cons, List.length_nil, Option.toList_some, Option.toList_none, List.nil_append, List.cons_append, true_and, and_true, true_or, or_true, Int.cast_ofNat_Int, Int.natCast_zero, Int.natCast_one, zsh_0, zsh_34]
      have hR1 : zRC μ1 B T Ms St := h.tm b2 (by simp) ⟨_, _, _, b1⟩
      have loop : ∀ (r i : Nat) (μ2 : zM) (x3 : zV), i + r = B.length → zBT μ2 [] (B.take i) 0 → zRC μ2 B T Ms St → zfr zCS μ μ2 → G 27 [.inr (some 0), .inl (s : Int), .inl (i : Int), x3] [] μ2 := by
        intro r
        induction r with
        | zero =>
          intro i μ2 x3 k1 k2 k3 k4
          rw [List.take_of_length_le (by omega)] at k2
          refine s_X10_put_27 hG ?_
          simp only [b_X10_put_0, b_X10_put_7, b_X10_put_16, b_X10_put_18, b_X10_put_27, b_X10_put_35, b_X10_put_54, b_X10_put_76, b_X10_put_78, b_X10_put_89, b_X10_put_94, o_c, o_il, o_al, o_is, o_as, o_inc, o_add, o_sub, o_mul, o_and, o_or, o_xor, o_shl, o_shr, o_ush, o_rem, o_dup, o_dup2, o_gf, o_pf, o_pz, o_iald, o_iast, o_zald, o_zast, o_aald, o_gs, o_min, o_acp, o_call, o_callv, zgf, zpf, zia_, zza_, zra_, zrd_, zcp_, zpop, zsm8_0, zsm8_1, zsm8_2, zsm8_3, zsm8_4, zsm8_5, zrc, zisob, t_ieq, t_ilt, t_igt, t_zeq, t_zlt, t_zgt, t_sw, zsw, t_iret, t_zret, t_aret, t_vret, zrg, List.getElem?_cons_zero, List.getElem?_cons_succ, List.set_cons_zero, List.set_cons_succ, List.length_cons, List.length_nil, Option.toList_some, Option.toList_none, List.nil_append, List.cons_append, true_and, and_true, true_or, or_true, Int.cast_ofNat_Int, Int.natCast_zero, Int.natCast_one, zsh_0, zsh_34, zsh_35]
          have e0 := k3.1.1
          refine ⟨by omega, by omega, fun w => by omega, fun _ => ?_⟩
          refine ⟨_, c_X0_finishBlock (by omega) k2, ?_⟩
          rw [zfb_nil]
          rintro v μ3 ⟨rfl, g1, g2⟩
          simp only [b_X10_put_0, b_X10_put_7, b_X10_put_16, b_X10_put_18, b_X10_put_27, b_X10_put_35, b_X10_put_54, b_X10_put_76, b_X10_put_78, b_X10_put_89, b_X10_put_94, o_c, o_il, o_al, o_is, o_as, o_inc, o_add, o_sub, o_mul, o_and, o_or, o_xor, o_shl, o_shr, o_ush, o_rem, o_dup, o_dup2, o_gf, o_pf, o_pz, o_iald, o_iast, o_zald, o_zast, o_aald, o_gs, o_min, o_acp, o_call, o_callv, zgf, zpf, zia_, zza_, zra_, zrd_, zcp_, zpop, zsm8_0, zsm8_1, zsm8_2, zsm8_3, zsm8_4, zsm8_5, zrc, zisob, t_ieq, t_ilt, t_igt, t_zeq, t_zlt, t_zgt, t_sw, zsw, t_iret, t_zret, t_aret, t_vret, zrg, List.getElem?_cons_zero, List.getElem?_cons_succ, List.set_cons_zero, List.set_cons_succ, List.length_cons, List.length_nil, Option.toList_some, Option.toList_none, List.nil_append, List.cons_append, true_and, and_true, true_or, or_true, Int.cast_ofNat_Int, Int.natCast_zero, Int.natCast_one, zsh_0, zsh_34, zsh_35]
          refine zcall c_X0_made ?_
          simp only [b_X10_put_0, b_X10_put_7, b_X10_put_16, b_X10_put_18, b_X10_put_27, b_X10_put_35, b_X10_put_54, b_X10_put_76, b_X10_put_78, b_X10_put_89, b_X10_put_94, o_c, o_il, o_al, o_is, o_as, o_inc, o_add, o_sub, o_mul, o_and, o_or, o_xor, o_shl, o_shr, o_ush, o_rem, o_dup, o_dup2, o_gf, o_pf, o_pz, o_iald, o_iast, o_zald, o_zast, o_aald, o_gs, o_min, o_acp, o_call, o_callv, zgf, zpf, zia_, zza_, zra_, zrd_, zcp_, zpop, zsm8_0, zsm8_1, zsm8_2, zsm8_3, zsm8_4, zsm8_5, zrc, zisob, t_ieq, t_ilt, t_igt, t_zeq, t_zlt, t_zgt, t_sw, zsw, t_iret, t_zret, t_aret, t_vret, zrg, List.getElem?_cons_zero, List.getElem?_cons_succ, List.set_cons_zero, List.set_cons_succ, List.length_cons, List.length_nil, Option.toList_some, Option.toList_none, List.nil_append, List.cons_append, true_and, and_true, true_or, or_true, Int.cast_ofNat_Int, Int.natCast_zero, Int.natCast_one, zsh_0, zsh_34, zsh_35]
          have hR3 : zRC μ3 B T Ms St := k3.tm g2 (by simp) ⟨_, _, _, g1⟩
          refine zcall (c_X2_isBlock (by omega) g1.1 (slot := 0) ⟨by omega, by omega⟩) ?_
          have ho : zoat [(zhash B, B)] 0 = some B := rfl
          rw [ho]
          simp only [b_X10_put_0, b_X10_put_7, b_X10_put_16, b_X10_put_18, b_X10_put_27, b_X10_put_35, b_X10_put_54, b_X10_put_76, b_X10_put_78, b_X10_put_89, b_X10_put_94, o_c, o_il, o_al, o_is, o_as, o_inc, o_add, o_sub, o_mul, o_and, o_or, o_xor, o_shl, o_shr, o_ush, o_rem, o_dup, o_dup2, o_gf, o_pf, o_pz, o_iald, o_iast, o_zald, o_zast, o_aald, o_gs, o_min, o_acp, o_call, o_callv, zgf, zpf, zia_, zza_, zra_, zrd_, zcp_, zpop, zsm8_0, zsm8_1, zsm8_2, zsm8_3, zsm8_4, zsm8_5, zrc, zisob, t_ieq, t_ilt, t_igt, t_zeq, t_zlt, t_zgt, t_sw, zsw, t_iret, t_zret, t_aret, t_vret, zrg, List.getElem?_cons_zero, List.getElem?_cons_succ, List.set_cons_zero, List.set_cons_succ, List.length_cons, List.length_nil, Option.toList_some, Option.toList_none, List.nil_append, List.cons_append, true_and, and_true, true_or, or_true, Int.cast_ofNat_Int, Int.natCast_zero, Int.natCast_one, zsh_0, zsh_34, zsh_35]
          have f4 : zfr zCS μ μ3 := k4.trans (g2.cs (by simp))
          rcases zb_or (zisB (some B)) with ⟨q1, q2⟩ | ⟨q1, q2⟩
          · rw [q1]
            have hbO : zb ((0 ≤ (s : Int) ∧ (s : Int) ≤ 2) ∧ zisB (some B)) = 1 := zb_t ⟨hc, q2⟩
            have hmk : zmk ([], 0) [B] = ([(zhash B, B)], 0) := by unfold zmk; simp only [List.foldl_cons, List.foldl_nil]; exact zfb_nil B
            have eO : zptO B St s = zbiC (St s).1 [(zhash B, B)] 0 (zhash B) := by unfold zptO zinO; rw [if_pos hbO, hmk]; rfl
            have eS : zptS B St s = zSu St s (zbiS (St s) [(zhash B, B)] 0) := by unfold zptS zinS; rw [if_pos hbO, hmk]; rfl
            refine ⟨by omega, fun w => by omega, fun _ => ?_⟩
            refine ⟨_, c_X10_bringIn (top := zhash B) (by omega) hR3 g1 (zNd_one _) h3 ((hV s h3).take (fun b hb => by rw [List.mem_singleton.mp hb]; exact q2) (zNd_one _)), ?_⟩
            rw [← eO, ← eS]
            rintro v μ4 ⟨rfl, p1, p2⟩
            simp only [b_X10_put_0, b_X10_put_7, b_X10_put_16, b_X10_put_18, b_X10_put_27, b_X10_put_35, b_X10_put_54, b_X10_put_76, b_X10_put_78, b_X10_put_89, b_X10_put_94, o_c, o_il, o_al, o_is, o_as, o_inc, o_add, o_sub, o_mul, o_and, o_or, o_xor, o_shl, o_shr, o_ush, o_rem, o_dup, o_dup2, o_gf, o_pf, o_pz, o_iald, o_iast, o_zald, o_zast, o_aald, o_gs, o_min, o_acp, o_call, o_callv, zgf, zpf, zia_, zza_, zra_, zrd_, zcp_, zpop, zsm8_0, zsm8_1, zsm8_2, zsm8_3, zsm8_4, zsm8_5, zrc, zisob, t_ieq, t_ilt, t_igt, t_zeq, t_zlt, t_zgt, t_sw, zsw, t_iret, t_zret, t_aret, t_vret, zrg, List.getElem?_cons_zero, List.getElem?_cons_succ, List.set_cons_zero, List.set_cons_succ, List.length_cons, List.length_nil, Option.toList_some, Option.toList_none, List.nil_append, List.cons_append, true_and, and_true, true_or, or_true, Int.cast_ofNat_Int, Int.natCast_zero, Int.natCast_one, zsh_0, zsh_34, zsh_35]
            have hrg : -3 ≤ zptO B St s ∧ zptO B St s ≤ 65520 := by rw [eO]; exact zbiC_rg (zhash_rg B)
            unfold zcB
            refine ⟨by omega, fun w => ?_, fun w => ?_⟩
            · rw [if_neg (by omega)]
              exact ⟨p1, f4.trans p2⟩
            · rw [if_pos w]
              exact ⟨p1.b0.1, (f4.trans p2).trans p1.b0.2⟩
          · rw [q1]
            obtain ⟨e1, e2⟩ := hbad q2
            rw [e1, e2]
            exact ⟨by omega, fun _ => ⟨rfl, hR3, f4⟩, fun w => absurd rfl w⟩
        | succ r ih =>
          intro i μ2 x3 k1 k2 k3 k4
          have hi : i < B.length := by omega
          refine s_X10_put_27 hG ?_
          have e0 := k3.1.1
          have e26 := k3.1.2.2.1 i B[i] (List.getElem?_eq_getElem hi)
          have hv := k3.1.2.2.2 B[i] (List.getElem_mem hi)
          simp only [b_X10_put_0, b_X10_put_7, b_X10_put_16, b_X10_put_18, b_X10_put_27, b_X10_put_35, b_X10_put_54, b_X10_put_76, b_X10_put_78, b_X10_put_89, b_X10_put_94, o_c, o_il, o_al, o_is, o_as, o_inc, o_add, o_sub, o_mul, o_and, o_or, o_xor, o_shl, o_shr, o_ush, o_rem, o_dup, o_dup2, o_gf, o_pf, o_pz, o_iald, o_iast, o_zald, o_zast, o_aald, o_gs, o_min, o_acp, o_call, o_callv, zgf, zpf, zia_, zza_, zra_, zrd_, zcp_, zpop, zsm8_0, zsm8_1, zsm8_2, zsm8_3, zsm8_4, zsm8_5, zrc, zisob, t_ieq, t_ilt, t_igt, t_zeq, t_zlt, t_zgt, t_sw, zsw, t_iret, t_zret, t_aret, t_vret, zrg, List.getElem?_cons_zero, List.getElem?_cons_succ, List.set_cons_zero, List.set_cons_succ, List.length_cons, List.length_nil, Option.toList_some, Option.toList_none, List.nil_append, List.cons_append, true_and, and_true, true_or, or_true, Int.cast_ofNat_Int, Int.natCast_zero, Int.natCast_one, zsh_0, zsh_34, zsh_35, zsh_26]
          refine ⟨by omega, by omega, fun _ => ⟨by omega, ?_⟩, fun w => by omega⟩
          rw [e26]
          refine ⟨_, c_X0_write k2 (by simp; omega) hv, ?_⟩
          rintro v μ3 ⟨rfl, g1, g2⟩
          simp only [b_X10_put_0, b_X10_put_7, b_X10_put_16, b_X10_put_18, b_X10_put_27, b_X10_put_35, b_X10_put_54, b_X10_put_76, b_X10_put_78, b_X10_put_89, b_X10_put_94, o_c, o_il, o_al, o_is, o_as, o_inc, o_add, o_sub, o_mul, o_and, o_or, o_xor, o_shl, o_shr, o_ush, o_rem, o_dup, o_dup2, o_gf, o_pf, o_pz, o_iald, o_iast, o_zald, o_zast, o_aald, o_gs, o_min, o_acp, o_call, o_callv, zgf, zpf, zia_, zza_, zra_, zrd_, zcp_, zpop, zsm8_0, zsm8_1, zsm8_2, zsm8_3, zsm8_4, zsm8_5, zrc, zisob, t_ieq, t_ilt, t_igt, t_zeq, t_zlt, t_zgt, t_sw, zsw, t_iret, t_zret, t_aret, t_vret, zrg, List.getElem?_cons_zero, List.getElem?_cons_succ, List.set_cons_zero, List.set_cons_succ, List.length_cons, List.length_nil, Option.toList_some, Option.toList_none, List.nil_append, List.cons_append, true_and, and_true, true_or, or_true, Int.cast_ofNat_Int, Int.natCast_zero, Int.natCast_one, zsh_0, zsh_34, zsh_35]
          have e9 : B.take (i + 1) = B.take i ++ [B[i]] := by rw [List.take_succ]; simp [hi]
          rw [← e9] at g1
          exact ih (i + 1) μ3 _ (by omega) g1 (k3.tm g2 (by simp) ⟨_, _, _, g1⟩) (k4.trans (g2.cs (by simp)))
      exact loop B.length 0 μ1 _ (by omega) (by simpa using b1) hR1 (b2.cs (by simp))
  · have e1 : zptO B St store = -1 := by unfold zptO; rw [if_neg (by rw [zb_f (fun q => hc q.1)]; decide)]
    have e2 : zptS B St store = St := by unfold zptS; rw [if_neg (by rw [zb_f (fun q => hc q.1)]; decide)]
    rw [e1, e2]
    refine of_X10_put (by omega) (fun G hG => s_X10_put_0 hG ?_)
    simp only [b_X10_put_0, b_X10_put_7, b_X10_put_16, b_X10_put_18, b_X10_put_27, b_X10_put_35, b_X10_put_54, b_X10_put_76, b_X10_put_78, b_X10_put_89, b_X10_put_94, o_c, o_il, o_al, o_is, o_as, o_inc, o_add, o_sub, o_mul, o_and, o_or, o_xor, o_shl, o_shr, o_ush, o_rem, o_dup, o_dup2, o_gf, o_pf, o_pz, o_iald, o_iast, o_zald, o_zast, o_aald, o_gs, o_min, o_acp, o_call, o_callv, zgf, zpf, zia_, zza_, zra_, zrd_, zcp_, zpop, zsm8_0, zsm8_1, zsm8_2, zsm8_3, zsm8_4, zsm8_5, zrc, zisob, t_ieq, t_ilt, t_igt, t_zeq, t_zlt, t_zgt, t_sw, zsw, t_iret, t_zret, t_aret, t_vret, zrg, List.getElem?_cons_zero, List.getElem?_cons_succ, List.set_cons_zero, List.set_cons_succ, List.length_cons, List.length_nil, Option.toList_some, Option.toList_none, List.nil_append, List.cons_append, true_and, and_true, true_or, or_true, Int.cast_ofNat_Int, Int.natCast_zero, Int.natCast_one, zsh_0, zsh_34]
    refine zcall (c_X10_isStore hs) ?_
    rw [zb_f (P := 0 ≤ store ∧ store ≤ 2) hc]
    simp only [b_X10_put_0, b_X10_put_7, b_X10_put_16, b_X10_put_18, b_X10_put_27, b_X10_put_35, b_X10_put_54, b_X10_put_76, b_X10_put_78, b_X10_put_89, b_X10_put_94, o_c, o_il, o_al, o_is, o_as, o_inc, o_add, o_sub, o_mul, o_and, o_or, o_xor, o_shl, o_shr, o_ush, o_rem, o_dup, o_dup2, o_gf, o_pf, o_pz, o_iald, o_iast, o_zald, o_zast, o_aald, o_gs, o_min, o_acp, o_call, o_callv, zgf, zpf, zia_, zza_, zra_, zrd_, zcp_, zpop, zsm8_0, zsm8_1, zsm8_2, zsm8_3, zsm8_4, zsm8_5, zrc, zisob, t_ieq, t_ilt, t_igt, t_zeq, t_zlt, t_zgt, t_sw, zsw, t_iret, t_zret, t_aret, t_vret, zrg, List.getElem?_cons_zero, List.getElem?_cons_succ, List.set_cons_zero, List.set_cons_succ, List.length_cons, List.length_nil, Option.toList_some, Option.toList_none, List.nil_append, List.cons_append, true_and, and_true, true_or, or_true, Int.cast_ofNat_Int, Int.natCast_zero, Int.natCast_one, zsh_0, zsh_34]
    exact ⟨by omega, fun _ => ⟨h, zfr.refl _ _⟩, fun w => absurd trivial w⟩
/-- rows of good blocks make a batch of good blocks with one name each -/
def zgR (rows : List (List Int)) : Prop := zVB (zmk ([], 0) rows).1 ∧ zNd (zmk ([], 0) rows).1
def zadK (store chunk fan : Int) : Prop := (0 ≤ store ∧ store ≤ 2) ∧ (0 ≤ chunk ∧ chunk ≤ 8) ∧ (2 ≤ fan ∧ fan ≤ 4)
noncomputable def zadO (B : List Int) (St : Nat → zStt) (store chunk fan : Int) : Int := if zb (zadK store chunk fan) = 1 then zinO (St store.toNat) (zfrow B chunk fan.toNat) (zftop B chunk fan.toNat) else -1
noncomputable def zadS (B : List Int) (St : Nat → zStt) (store chunk fan : Int) : Nat → zStt := if zb (zadK store chunk fan) = 1 then zSu St store.toNat (zinS (St store.toNat) (zfrow B chunk fan.toNat)) else St
theorem zlevs_top {fan : Nat} (hf : 2 ≤ fan) : ∀ (f : Nat) (ns : List zNo), zNO ns → 1 ≤ ns.length → ns.length ≤ 32 → 0 ≤ ((zlevs fan f ns).2.headD (0, 0)).1 ∧ ((zlevs fan f ns).2.headD (0, 0)).1 ≤ 65520 := by
  intro f
  induction f with
  | zero =>
    intro ns h hl h32
    cases ns with
    | nil => simp at hl
    | cons p r => exact (h.1 p List.mem_cons_self).1
  | succ f ih =>
    intro ns h hl h32
    simp only [zlevs]
    split
    · cases ns with
      | nil => simp at hl
      | cons p r => exact (h.1 p List.mem_cons_self).1
    · have hg := zgrp_len hf 32 ns
      exact ih _ (h.grp hf h32) (by simp; omega) (by simp; omega)
set_option maxRecDepth 100000 in
set_option maxHeartbeats 4000000 in
theorem c_X10_add {d : Nat} {μ : zM} {B : List Int} {T : List zPp} {Ms : List zMg} {St : Nat → zStt} {store chunk fan : Int} (hd : 6 ≤ d) (h : zRC μ B T Ms St) (hV : ∀ s, s < 3 → zVS (St s)) (hG0 : zadK store chunk fan → zgR (zfrow B chunk fan.toNat)) (hs : zrg store) (hch : zrg chunk) (hfn : zrg fan) : zCt d mX10_add [.inr (some 0), .inl store, .inl chunk, .inl fan] μ (fun v μ' => v = some (.inl (zadO B St store chunk fan)) ∧ zRC μ' (zcB B (zadO B St store chunk fan)) T Ms (zadS B St store chunk fan) ∧ zfr zCS μ μ') := by
  have hBl := h.1.2.1
  have hc0 := h.1.1
  unfold zrg at hch hfn
  by_cases hK : zadK store chunk fan
  · have hgr := hG0 hK
    obtain ⟨hc, k1, k2⟩ := id hK
    obtain ⟨s, rfl, h3⟩ := zs3 hc
    obtain ⟨fn, rfl⟩ := Int.eq_ofNat_of_zero_le (show 0 ≤ fan by omega)
    have hk := zk3 h3
    rw [Int.toNat_natCast] at hgr
    have eO : zadO B St s chunk fn = zbiC (St s).1 (zmk ([], 0) (zfrow B chunk fn)).1 (zmk ([], 0) (zfrow B chunk fn)).2 (zftop B chunk fn) := by unfold zadO zinO; rw [if_pos (zb_t hK)]; rfl
    have eS : zadS B St s chunk fn = zSu St s (zbiS (St s) (zmk ([], 0) (zfrow B chunk fn)).1 (zmk ([], 0) (zfrow B chunk fn)).2) := by unfold zadS zinS; rw [if_pos (zb_t hK)]; rfl
    refine of_X10_add (by omega) (fun G hG => s_X10_add_0 hG ?_)
    simp only [b_X10_add_0, b_X10_add_7, b_X10_add_11, b_X10_add_17, b_X10_add_22, b_X10_add_27, b_X10_add_29, b_X10_add_73, b_X10_add_78, o_c, o_il, o_al, o_is, o_as, o_inc, o_add, o_sub, o_mul, o_and, o_or, o_xor, o_shl, o_shr, o_ush, o_rem, o_dup, o_dup2, o_gf, o_pf, o_pz, o_iald, o_iast, o_zald, o_zast, o_aald, o_gs, o_min, o_acp, o_call, o_callv, zgf, zpf, zia_, zza_, zra_, zrd_, zcp_, zpop, zsm8_0, zsm8_1, zsm8_2, zsm8_3, zsm8_4, zsm8_5, zrc, zisob, t_ieq, t_ilt, t_igt, t_zeq, t_zlt, t_zgt, t_sw, zsw, t_iret, t_zret, t_aret, t_vret, zrg, List.getElem?_cons_zero, List.getElem?_cons_succ, List.set_cons_zero, List.set_cons_succ, List.length_cons, List.length_nil, Option.toList_some, Option.toList_none, List.nil_append, List.cons_append, true_and, and_true, true_or, or_true, Int.cast_ofNat_Int, Int.natCast_zero, Int.natCast_one, zsh_0, zsh_34, zsh_27]
    refine zcall (c_X10_isStore hs) ?_
    rw [zb_t hc]
    simp only [b_X10_add_0, b_X10_add_7, b_X10_add_11, b_X10_add_17, b_X10_add_22, b_X10_add_27, b_X10_add_29, b_X10_add_73, b_X10_add_78, o_c, o_il, o_al, o_is, o_as, o_inc, o_add, o_sub, o_mul, o_and, o_or, o_xor, o_shl, o_shr, o_ush, o_rem, o_dup, o_dup2, o_gf, o_pf, o_pz, o_iald, o_iast, o_zald, o_zast, o_aald, o_gs, o_min, o_acp, o_call, o_callv, zgf, zpf, zia_, zza_, zra_, zrd_, zcp_, zpop, zsm8_0, zsm8_1, zsm8_2, zsm8_3, zsm8_4, zsm8_5, zrc, zisob, t_ieq, t_ilt, t_igt, t_zeq, t_zlt, t_zgt, t_sw, zsw, t_iret, t_zret, t_aret, t_vret, zrg, List.getElem?_cons_zero, List.getElem?_cons_succ, List.set_cons_zero, List.set_cons_succ, List.length_cons, List.length_nil, Option.toList_some, Option.toList_none, List.nil_append, List.cons_append, true_and, and_true, true_or, or_true, Int.cast_ofNat_Int, Int.natCast_zero, Int.natCast_one, zsh_0, zsh_34, zsh_27]
    refine ⟨by omega, fun w => by omega, fun _ => ⟨by omega, fun w => by omega, fun _ => ⟨by omega, by omega, fun w => by omega, fun _ => ⟨by omega, by omega, fun w => by omega, fun _ => ⟨by omega, by omega, fun w => by omega, fun _ => ?_⟩⟩⟩⟩⟩
    obtain ⟨Lb, D, c, hb⟩ := h.2.2.2.2.1
    refine ⟨_, c_X0_restart (by omega) hb, ?_⟩
    rintro v μ1 ⟨rfl, b1, b2⟩
    have hR1 : zRC μ1 B T Ms St := h.tm b2 (by simp) ⟨_, _, _, b1⟩
    simp only [b_X10_add_0, b_X10_add_7, b_X10_add_11, b_X10_add_17, b_X10_add_22, b_X10_add_27, b_X10_add_29, b_X10_add_73, b_X10_add_78, o_c, o_il, o_al, o_is, o_as, o_inc, o_add, o_sub, o_mul, o_and, o_or, o_xor, o_shl, o_shr, o_ush, o_rem, o_dup, o_dup2, o_gf, o_pf, o_pz, o_iald, o_iast, o_zald, o_zast, o_aald, o_gs, o_min, o_acp, o_call, o_callv, zgf, zpf, zia_, zza_, zra_, zrd_, zcp_, zpop, zsm8_0, zsm8_1, zsm8_2, zsm8_3, zsm8_4, zsm8_5, zrc, zisob, t_ieq, t_ilt, t_igt, t_zeq, t_zlt, t_zgt, t_sw, zsw, t_iret, t_zret, t_aret, t_vret, zrg, List.getElem?_cons_zero, List.getElem?_cons_succ, List.set_cons_zero, List.set_cons_succ, List.length_cons, List.length_nil, Option.toList_some, Option.toList_none, List.nil_append, List.cons_append, true_and, and_true, true_or, or_true, Int.cast_ofNat_Int, Int.natCast_zero, Int.natCast_one, zsh_0, zsh_34, zsh_27]
    rw [hR1.1.1]
    refine ⟨_, c_X1_makeFile (by omega) ⟨by omega, by omega⟩ hR1.1.2.2.1 hBl hR1.1.2.2.2 k1 b1, ?_⟩
    rintro v μ2 ⟨rfl, g1, g2⟩
    simp only [b_X10_add_0, b_X10_add_7, b_X10_add_11, b_X10_add_17, b_X10_add_22, b_X10_add_27, b_X10_add_29, b_X10_add_73, b_X10_add_78, o_c, o_il, o_al, o_is, o_as, o_inc, o_add, o_sub, o_mul, o_and, o_or, o_xor, o_shl, o_shr, o_ush, o_rem, o_dup, o_dup2, o_gf, o_pf, o_pz, o_iald, o_iast, o_zald, o_zast, o_aald, o_gs, o_min, o_acp, o_call, o_callv, zgf, zpf, zia_, zza_, zra_, zrd_, zcp_, zpop, zsm8_0, zsm8_1, zsm8_2, zsm8_3, zsm8_4, zsm8_5, zrc, zisob, t_ieq, t_ilt, t_igt, t_zeq, t_zlt, t_zgt, t_sw, zsw, t_iret, t_zret, t_aret, t_vret, zrg, List.getElem?_cons_zero, List.getElem?_cons_succ, List.set_cons_zero, List.set_cons_succ, List.length_cons, List.length_nil, Option.toList_some, Option.toList_none, List.nil_append, List.cons_append, true_and, and_true, true_or, or_true, Int.cast_ofNat_Int, Int.natCast_zero, Int.natCast_one, zsh_0, zsh_34, zsh_27]
    have hR2 : zRC μ2 B T Ms St := hR1.tm g2 (by simp) ⟨_, _, _, g1⟩
    refine ⟨_, c_X10_bringIn (top := zftop B chunk fn) (by omega) hR2 g1 hgr.2 h3 ((hV s h3).take hgr.1 hgr.2), ?_⟩
    rw [← eO, ← eS]
    rintro v μ4 ⟨rfl, p1, p2⟩
    simp only [b_X10_add_0, b_X10_add_7, b_X10_add_11, b_X10_add_17, b_X10_add_22, b_X10_add_27, b_X10_add_29, b_X10_add_73, b_X10_add_78, o_c, o_il, o_al, o_is, o_as, o_inc, o_add, o_sub, o_mul, o_and, o_or, o_xor, o_shl, o_shr, o_ush, o_rem, o_dup, o_dup2, o_gf, o_pf, o_pz, o_iald, o_iast, o_zald, o_zast, o_aald, o_gs, o_min, o_acp, o_call, o_callv, zgf, zpf, zia_, zza_, zra_, zrd_, zcp_, zpop, zsm8_0, zsm8_1, zsm8_2, zsm8_3, zsm8_4, zsm8_5, zrc, zisob, t_ieq, t_ilt, t_igt, t_zeq, t_zlt, t_zgt, t_sw, zsw, t_iret, t_zret, t_aret, t_vret, zrg, List.getElem?_cons_zero, List.getElem?_cons_succ, List.set_cons_zero, List.set_cons_succ, List.length_cons, List.length_nil, Option.toList_some, Option.toList_none, List.nil_append, List.cons_append, true_and, and_true, true_or, or_true, Int.cast_ofNat_Int, Int.natCast_zero, Int.natCast_one, zsh_0, zsh_34, zsh_27]
    obtain ⟨o1, o2, o3⟩ := zfnod_ok (B := B) k1 hBl
    have htop := zlevs_top (fan := fn) (by omega) 32 (zfnod B chunk) o1 o3 o2
    have hrg : -3 ≤ zadO B St s chunk fn ∧ zadO B St s chunk fn ≤ 65520 := by rw [eO]; exact zbiC_rg htop
    have f4 : zfr zCS μ μ2 := (b2.cs (by simp)).trans (g2.cs (by simp))
    unfold zcB
    refine ⟨by omega, fun w => ?_, fun w => ?_⟩
    · rw [if_neg (by omega)]
      exact ⟨p1, f4.trans p2⟩
    · rw [if_pos w]
      exact ⟨p1.b0.1, (f4.trans p2).trans p1.b0.2⟩
  · have e1 : zadO B St store chunk fan = -1 := by unfold zadO; rw [if_neg (by rw [zb_f hK]; decide)]
    have e2 : zadS B St store chunk fan = St := by unfold zadS; rw [if_neg (by rw [zb_f hK]; decide)]
    rw [e1, e2]
    unfold zadK at hK
    refine of_X10_add (by omega) (fun G hG => s_X10_add_0 hG ?_)
    simp only [b_X10_add_0, b_X10_add_7, b_X10_add_11, b_X10_add_17, b_X10_add_22, b_X10_add_27, b_X10_add_29, b_X10_add_73, b_X10_add_78, o_c, o_il, o_al, o_is, o_as, o_inc, o_add, o_sub, o_mul, o_and, o_or, o_xor, o_shl, o_shr, o_ush, o_rem, o_dup, o_dup2, o_gf, o_pf, o_pz, o_iald, o_iast, o_zald, o_zast, o_aald, o_gs, o_min, o_acp, o_call, o_callv, zgf, zpf, zia_, zza_, zra_, zrd_, zcp_, zpop, zsm8_0, zsm8_1, zsm8_2, zsm8_3, zsm8_4, zsm8_5, zrc, zisob, t_ieq, t_ilt, t_igt, t_zeq, t_zlt, t_zgt, t_sw, zsw, t_iret, t_zret, t_aret, t_vret, zrg, List.getElem?_cons_zero, List.getElem?_cons_succ, List.set_cons_zero, List.set_cons_succ, List.length_cons, List.length_nil, Option.toList_some, Option.toList_none, List.nil_append, List.cons_append, true_and, and_true, true_or, or_true, Int.cast_ofNat_Int, Int.natCast_zero, Int.natCast_one, zsh_0, zsh_34, zsh_27]
    refine zcall (c_X10_isStore hs) ?_
    rcases zb_or (0 ≤ store ∧ store ≤ 2) with ⟨q1, q2⟩ | ⟨q1, q2⟩
    · rw [q1]
      simp only [b_X10_add_0, b_X10_add_7, b_X10_add_11, b_X10_add_17, b_X10_add_22, b_X10_add_27, b_X10_add_29, b_X10_add_73, b_X10_add_78, o_c, o_il, o_al, o_is, o_as, o_inc, o_add, o_sub, o_mul, o_and, o_or, o_xor, o_shl, o_shr, o_ush, o_rem, o_dup, o_dup2, o_gf, o_pf, o_pz, o_iald, o_iast, o_zald, o_zast, o_aald, o_gs, o_min, o_acp, o_call, o_callv, zgf, zpf, zia_, zza_, zra_, zrd_, zcp_, zpop, zsm8_0, zsm8_1, zsm8_2, zsm8_3, zsm8_4, zsm8_5, zrc, zisob, t_ieq, t_ilt, t_igt, t_zeq, t_zlt, t_zgt, t_sw, zsw, t_iret, t_zret, t_aret, t_vret, zrg, List.getElem?_cons_zero, List.getElem?_cons_succ, List.set_cons_zero, List.set_cons_succ, List.length_cons, List.length_nil, Option.toList_some, Option.toList_none, List.nil_append, List.cons_append, true_and, and_true, true_or, or_true, Int.cast_ofNat_Int, Int.natCast_zero, Int.natCast_one, zsh_0, zsh_34, zsh_27]
      have R : zRC μ (zcB B (-1)) T Ms St ∧ zfr zCS μ μ := ⟨h, zfr.refl _ _⟩
      refine ⟨by omega, fun w => by omega, fun _ => ⟨by omega, fun w => R, fun _ => ⟨by omega, by omega, fun w => R, fun _ => ⟨by omega, by omega, fun w => R, fun _ => ⟨by omega, by omega, fun w => R, fun _ => ?_⟩⟩⟩⟩⟩
      exfalso
      apply hK
      omega
    · rw [q1]
      simp only [b_X10_add_0, b_X10_add_7, b_X10_add_11, b_X10_add_17, b_X10_add_22, b_X10_add_27, b_X10_add_29, b_X10_add_73, b_X10_add_78, o_c, o_il, o_al, o_is, o_as, o_inc, o_add, o_sub, o_mul, o_and, o_or, o_xor, o_shl, o_shr, o_ush, o_rem, o_dup, o_dup2, o_gf, o_pf, o_pz, o_iald, o_iast, o_zald, o_zast, o_aald, o_gs, o_min, o_acp, o_call, o_callv, zgf, zpf, zia_, zza_, zra_, zrd_, zcp_, zpop, zsm8_0, zsm8_1, zsm8_2, zsm8_3, zsm8_4, zsm8_5, zrc, zisob, t_ieq, t_ilt, t_igt, t_zeq, t_zlt, t_zgt, t_sw, zsw, t_iret, t_zret, t_aret, t_vret, zrg, List.getElem?_cons_zero, List.getElem?_cons_succ, List.set_cons_zero, List.set_cons_succ, List.length_cons, List.length_nil, Option.toList_some, Option.toList_none, List.nil_append, List.cons_append, true_and, and_true, true_or, or_true, Int.cast_ofNat_Int, Int.natCast_zero, Int.natCast_one, zsh_0, zsh_34, zsh_27]
      exact ⟨by omega, fun _ => ⟨h, zfr.refl _ _⟩, fun w => absurd trivial w⟩
noncomputable def zfoO (T : List zPp) (St : Nat → zStt) (store : Int) : Int := if 0 ≤ store ∧ store ≤ 2 then zinO (St store.toNat) (zlvl 4 0 T).1 (zlvl 4 0 T).2 else -1
noncomputable def zfoS (T : List zPp) (St : Nat → zStt) (store : Int) : Nat → zStt := if 0 ≤ store ∧ store ≤ 2 then zSu St store.toNat (zinS (St store.toNat) (zlvl 4 0 T).1) else St
def zcT (T : List zPp) (ans : Int) : List zPp := if 0 ≤ ans then [] else T
theorem zRC.t0 {μ μ' : zM} {B : List Int} {T : List zPp} {Ms : List zMg} {St : Nat → zStt} (h : zRC μ B T Ms St) (ht : zTL μ' []) (f : zfr [30] μ μ') : zRC μ' B [] Ms St := by
  obtain ⟨h1, h2, h3, h4, h5⟩ := h
  exact ⟨h1.of (f 0 (by decide)) (f 26 (by decide)), ht, h3.fr f (by simp), fun t htt => (h4 t htt).fr f (by simp <;> omega), h5.fr f (by simp)⟩
set_option maxRecDepth 100000 in
set_option maxHeartbeats 4000000 in
theorem c_X10_folder {d : Nat} {μ : zM} {B : List Int} {T : List zPp} {Ms : List zMg} {St : Nat → zStt} {store : Int} (hd : 10 ≤ d) (h : zRC μ B T Ms St) (hS : zSo T) (hV : ∀ s, s < 3 → zVS (St s)) (hgr : zgR (zlvl 4 0 T).1) (hs : zrg store) : zCt d mX10_folder [.inr (some 0), .inl store] μ (fun v μ' => v = some (.inl (zfoO T St store)) ∧ zRC μ' B (zcT T (zfoO T St store)) Ms (zfoS T St store) ∧ zfr zCS μ μ') := by
  by_cases hc : 0 ≤ store ∧ store ≤ 2
  · obtain ⟨s, rfl, h3⟩ := zs3 hc
    have hk := zk3 h3
    have eO : zfoO T St s = zbiC (St s).1 (zmk ([], 0) (zlvl 4 0 T).1).1 (zmk ([], 0) (zlvl 4 0 T).1).2 (zlvl 4 0 T).2 := by unfold zfoO zinO; rw [if_pos hc]; rfl
    have eS : zfoS T St s = zSu St s (zbiS (St s) (zmk ([], 0) (zlvl 4 0 T).1).1 (zmk ([], 0) (zlvl 4 0 T).1).2) := by unfold zfoS zinS; rw [if_pos hc]; rfl
    refine of_X10_folder (by omega) (fun G hG => s_X10_folder_0 hG ?_)
    simp only [b_X10_folder_0, b_X10_folder_7, b_X10_folder_9, b_X10_folder_39, b_X10_folder_46, o_c, o_il, o_al, o_is, o_as, o_inc, o_add, o_sub, o_mul, o_and, o_or, o_xor, o_shl, o_shr, o_ush, o_rem, o_dup, o_dup2, o_gf, o_pf, o_pz, o_iald, o_iast, o_zald, o_zast, o_aald, o_gs, o_min, o_acp, o_call, o_callv, zgf, zpf, zia_, zza_, zra_, zrd_, zcp_, zpop, zsm8_0, zsm8_1, zsm8_2, zsm8_3, zsm8_4, zsm8_5, zrc, zisob, t_ieq, t_ilt, t_igt, t_zeq, t_zlt, t_zgt, t_sw, zsw, t_iret, t_zret, t_aret, t_vret, zrg, List.getElem?_cons_zero, List.getElem?_cons_succ, List.set_cons_zero, List.set_cons_succ, List.length_cons, List.length_nil, Option.toList_some, Option.toList_none, List.nil_append, List.cons_append, true_and, and_true, true_or, or_true, Int.cast_ofNat_Int, Int.natCast_zero, Int.natCast_one, zsh_0, zsh_34, zsh_30]
    refine zcall (c_X10_isStore hs) ?_
    rw [zb_t hc]
    simp only [b_X10_folder_0, b_X10_folder_7, b_X10_folder_9, b_X10_folder_39, b_X10_folder_46, o_c, o_il, o_al, o_is, o_as, o_inc, o_add, o_sub, o_mul, o_and, o_or, o_xor, o_shl, o_shr, o_ush, o_rem, o_dup, o_dup2, o_gf, o_pf, o_pz, o_iald, o_iast, o_zald, o_zast, o_aald, o_gs, o_min, o_acp, o_call, o_callv, zgf, zpf, zia_, zza_, zra_, zrd_, zcp_, zpop, zsm8_0, zsm8_1, zsm8_2, zsm8_3, zsm8_4, zsm8_5, zrc, zisob, t_ieq, t_ilt, t_igt, t_zeq, t_zlt, t_zgt, t_sw, zsw, t_iret, t_zret, t_aret, t_vret, zrg, List.getElem?_cons_zero, List.getElem?_cons_succ, List.set_cons_zero, List.set_cons_succ, List.length_cons, List.length_nil, Option.toList_some, Option.toList_none, List.nil_append, List.cons_append, true_and, and_true, true_or, or_true, Int.cast_ofNat_Int, Int.natCast_zero, Int.natCast_one, zsh_0, zsh_34, zsh_30]
    refine ⟨by omega, fun w => by omega, fun _ => ?_⟩
    obtain ⟨Lb, D, c, hb⟩ := h.2.2.2.2.1
    refine ⟨_, c_X0_restart (by omega) hb, ?_⟩
    rintro v μ1 ⟨rfl, b1, b2⟩
    have hR1 : zRC μ1 B T Ms St := h.tm b2 (by simp) ⟨_, _, _, b1⟩
    simp only [b_X10_folder_0, b_X10_folder_7, b_X10_folder_9, b_X10_folder_39, b_X10_folder_46, o_c, o_il, o_al, o_is, o_as, o_inc, o_add, o_sub, o_mul, o_and, o_or, o_xor, o_shl, o_shr, o_ush, o_rem, o_dup, o_dup2, o_gf, o_pf, o_pz, o_iald, o_iast, o_zald, o_zast, o_aald, o_gs, o_min, o_acp, o_call, o_callv, zgf, zpf, zia_, zza_, zra_, zrd_, zcp_, zpop, zsm8_0, zsm8_1, zsm8_2, zsm8_3, zsm8_4, zsm8_5, zrc, zisob, t_ieq, t_ilt, t_igt, t_zeq, t_zlt, t_zgt, t_sw, zsw, t_iret, t_zret, t_aret, t_vret, zrg, List.getElem?_cons_zero, List.getElem?_cons_succ, List.set_cons_zero, List.set_cons_succ, List.length_cons, List.length_nil, Option.toList_some, Option.toList_none, List.nil_append, List.cons_append, true_and, and_true, true_or, or_true, Int.cast_ofNat_Int, Int.natCast_zero, Int.natCast_one, zsh_0, zsh_34, zsh_30]
    refine ⟨_, c_X8_makeFolder (by omega) hR1.2.1 hS b1, ?_⟩
    rintro v μ2 ⟨rfl, g1, g2⟩
    simp only [b_X10_folder_0, b_X10_folder_7, b_X10_folder_9, b_X10_folder_39, b_X10_folder_46, o_c, o_il, o_al, o_is, o_as, o_inc, o_add, o_sub, o_mul, o_and, o_or, o_xor, o_shl, o_shr, o_ush, o_rem, o_dup, o_dup2, o_gf, o_pf, o_pz, o_iald, o_iast, o_zald, o_zast, o_aald, o_gs, o_min, o_acp, o_call, o_callv, zgf, zpf, zia_, zza_, zra_, zrd_, zcp_, zpop, zsm8_0, zsm8_1, zsm8_2, zsm8_3, zsm8_4, zsm8_5, zrc, zisob, t_ieq, t_ilt, t_igt, t_zeq, t_zlt, t_zgt, t_sw, zsw, t_iret, t_zret, t_aret, t_vret, zrg, List.getElem?_cons_zero, List.getElem?_cons_succ, List.set_cons_zero, List.set_cons_succ, List.length_cons, List.length_nil, Option.toList_some, Option.toList_none, List.nil_append, List.cons_append, true_and, and_true, true_or, or_true, Int.cast_ofNat_Int, Int.natCast_zero, Int.natCast_one, zsh_0, zsh_34, zsh_30]
    have hR2 : zRC μ2 B T Ms St := hR1.tm g2 (by simp) ⟨_, _, _, g1⟩
    refine ⟨_, c_X10_bringIn (top := (zlvl 4 0 T).2) (by omega) hR2 g1 hgr.2 h3 ((hV s h3).take hgr.1 hgr.2), ?_⟩
    rw [← eO, ← eS]
    rintro v μ4 ⟨rfl, p1, p2⟩
    simp only [b_X10_folder_0, b_X10_folder_7, b_X10_folder_9, b_X10_folder_39, b_X10_folder_46, o_c, o_il, o_al, o_is, o_as, o_inc, o_add, o_sub, o_mul, o_and, o_or, o_xor, o_shl, o_shr, o_ush, o_rem, o_dup, o_dup2, o_gf, o_pf, o_pz, o_iald, o_iast, o_zald, o_zast, o_aald, o_gs, o_min, o_acp, o_call, o_callv, zgf, zpf, zia_, zza_, zra_, zrd_, zcp_, zpop, zsm8_0, zsm8_1, zsm8_2, zsm8_3, zsm8_4, zsm8_5, zrc, zisob, t_ieq, t_ilt, t_igt, t_zeq, t_zlt, t_zgt, t_sw, zsw, t_iret, t_zret, t_aret, t_vret, zrg, List.getElem?_cons_zero, List.getElem?_cons_succ, List.set_cons_zero, List.set_cons_succ, List.length_cons, List.length_nil, Option.toList_some, Option.toList_none, List.nil_append, List.cons_append, true_and, and_true, true_or, or_true, Int.cast_ofNat_Int, Int.natCast_zero, Int.natCast_one, zsh_0, zsh_34, zsh_30]
    have hrg : -3 ≤ zfoO T St s ∧ zfoO T St s ≤ 65520 := by rw [eO]; exact zbiC_rg (zlvl_rg _ _ _)
    have f4 : zfr zCS μ μ2 := (b2.cs (by simp)).trans (g2.cs (by simp))
    unfold zcT
    refine ⟨by omega, fun w => ?_, fun w => ?_⟩
    · rw [if_neg (by omega)]
      exact ⟨p1, f4.trans p2⟩
    · rw [if_pos w]
      refine ⟨_, c_X8_makeEmpty p1.2.1, ?_⟩
      rintro v μ5 ⟨rfl, q1, q2⟩
      simp only [b_X10_folder_0, b_X10_folder_7, b_X10_folder_9, b_X10_folder_39, b_X10_folder_46, o_c, o_il, o_al, o_is, o_as, o_inc, o_add, o_sub, o_mul, o_and, o_or, o_xor, o_shl, o_shr, o_ush, o_rem, o_dup, o_dup2, o_gf, o_pf, o_pz, o_iald, o_iast, o_zald, o_zast, o_aald, o_gs, o_min, o_acp, o_call, o_callv, zgf, zpf, zia_, zza_, zra_, zrd_, zcp_, zpop, zsm8_0, zsm8_1, zsm8_2, zsm8_3, zsm8_4, zsm8_5, zrc, zisob, t_ieq, t_ilt, t_igt, t_zeq, t_zlt, t_zgt, t_sw, zsw, t_iret, t_zret, t_aret, t_vret, zrg, List.getElem?_cons_zero, List.getElem?_cons_succ, List.set_cons_zero, List.set_cons_succ, List.length_cons, List.length_nil, Option.toList_some, Option.toList_none, List.nil_append, List.cons_append, true_and, and_true, true_or, or_true, Int.cast_ofNat_Int, Int.natCast_zero, Int.natCast_one, zsh_0, zsh_34, zsh_30]
      exact ⟨p1.t0 q1 q2, (f4.trans p2).trans (q2.cs (by simp))⟩
  · have e1 : zfoO T St store = -1 := by unfold zfoO; rw [if_neg hc]
    have e2 : zfoS T St store = St := by unfold zfoS; rw [if_neg hc]
    rw [e1, e2]
    refine of_X10_folder (by omega) (fun G hG => s_X10_folder_0 hG ?_)
    simp only [b_X10_folder_0, b_X10_folder_7, b_X10_folder_9, b_X10_folder_39, b_X10_folder_46, o_c, o_il, o_al, o_is, o_as, o_inc, o_add, o_sub, o_mul, o_and, o_or, o_xor, o_shl, o_shr, o_ush, o_rem, o_dup, o_dup2, o_gf, o_pf, o_pz, o_iald, o_iast, o_zald, o_zast, o_aald, o_gs, o_min, o_acp, o_call, o_callv, zgf, zpf, zia_, zza_, zra_, zrd_, zcp_, zpop, zsm8_0, zsm8_1, zsm8_2, zsm8_3, zsm8_4, zsm8_5, zrc, zisob, t_ieq, t_ilt, t_igt, t_zeq, t_zlt, t_zgt, t_sw, zsw, t_iret, t_zret, t_aret, t_vret, zrg, List.getElem?_cons_zero, List.getElem?_cons_succ, List.set_cons_zero, List.set_cons_succ, List.length_cons, List.length_nil, Option.toList_some, Option.toList_none, List.nil_append, List.cons_append, true_and, and_true, true_or, or_true, Int.cast_ofNat_Int, Int.natCast_zero, Int.natCast_one, zsh_0, zsh_34, zsh_30]
    refine zcall (c_X10_isStore hs) ?_
    rw [zb_f (P := 0 ≤ store ∧ store ≤ 2) hc]
    simp only [b_X10_folder_0, b_X10_folder_7, b_X10_folder_9, b_X10_folder_39, b_X10_folder_46, o_c, o_il, o_al, o_is, o_as, o_inc, o_add, o_sub, o_mul, o_and, o_or, o_xor, o_shl, o_shr, o_ush, o_rem, o_dup, o_dup2, o_gf, o_pf, o_pz, o_iald, o_iast, o_zald, o_zast, o_aald, o_gs, o_min, o_acp, o_call, o_callv, zgf, zpf, zia_, zza_, zra_, zrd_, zcp_, zpop, zsm8_0, zsm8_1, zsm8_2, zsm8_3, zsm8_4, zsm8_5, zrc, zisob, t_ieq, t_ilt, t_igt, t_zeq, t_zlt, t_zgt, t_sw, zsw, t_iret, t_zret, t_aret, t_vret, zrg, List.getElem?_cons_zero, List.getElem?_cons_succ, List.set_cons_zero, List.set_cons_succ, List.length_cons, List.length_nil, Option.toList_some, Option.toList_none, List.nil_append, List.cons_append, true_and, and_true, true_or, or_true, Int.cast_ofNat_Int, Int.natCast_zero, Int.natCast_one, zsh_0, zsh_34, zsh_30]
    exact ⟨by omega, fun _ => ⟨h, zfr.refl _ _⟩, fun w => absurd trivial w⟩
