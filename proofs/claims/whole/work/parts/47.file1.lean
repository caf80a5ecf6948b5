/-! FILES: leaves -/
def zmk (p : List zBk × Int) (rows : List (List Int)) : List zBk × Int := rows.foldl (fun p D => zfb p.1 p.2 D) p
def zebf (B : List Int) : Nat → Nat → Nat → Nat
  | 0, _, m => m
  | f + 1, e, m => if e < m then (if (B.getD (e - 1) 0 + 3 * B.getD (e - 2) 0) % 5 = 0 then e else zebf B f (e + 1) m) else m
def zebc (B : List Int) (st : Nat) : Nat := zebf B 8 (st + 2) (min B.length (st + 8))
def zend (B : List Int) (chunk : Int) (st : Nat) : Nat := if chunk = 0 then zebc B st else min B.length (st + chunk.toNat)
def zpce (B : List Int) (chunk : Int) (st : Nat) : List Int := (B.take (zend B chunk st)).drop st
def zpcs (B : List Int) (chunk : Int) : Nat → Nat → List (List Int)
  | 0, _ => []
  | f + 1, st => zpce B chunk st :: (if zend B chunk st < B.length then zpcs B chunk f (zend B chunk st) else [])
theorem zebf_rg (B : List Int) : ∀ (f e m : Nat), (e ≤ m ∨ zebf B f e m = m) → (zebf B f e m ≤ m ∧ (e ≤ zebf B f e m ∨ zebf B f e m = m)) := by
  intro f
  induction f with
  | zero => intro e m h; simp [zebf]
  | succ f ih =>
    intro e m h
    simp only [zebf]
    split
    · rename_i h1
      split
      · omega
      · have := ih (e + 1) m (by omega)
        omega
    · omega
theorem zebc_rg (B : List Int) {st : Nat} (h : st ≤ B.length) : st ≤ zebc B st ∧ zebc B st ≤ B.length ∧ zebc B st ≤ st + 8 ∧ (st < B.length → st < zebc B st) := by
  unfold zebc
  by_cases h1 : st + 2 ≤ min B.length (st + 8)
  · have := zebf_rg B 8 (st + 2) (min B.length (st + 8)) (Or.inl h1)
    omega
  · have e : zebf B 8 (st + 2) (min B.length (st + 8)) = min B.length (st + 8) := by
      simp only [zebf]
      rw [if_neg (by omega)]
    rw [e]
    omega
theorem zend_rg (B : List Int) {chunk : Int} {st : Nat} (hc : 0 ≤ chunk ∧ chunk ≤ 8) (h : st ≤ B.length) : st ≤ zend B chunk st ∧ zend B chunk st ≤ B.length ∧ zend B chunk st ≤ st + 8 ∧ (st < B.length → st < zend B chunk st) := by
  unfold zend
  split
  · exact zebc_rg B h
  · omega
set_option maxRecDepth 100000 in
set_option maxHeartbeats 4000000 in
theorem c_X1_endByContent {d : Nat} {μ : zM} {B : List Int} {st : Nat} (hd : 1 ≤ d) (hB : zAR μ 26 B) (hl : B.length ≤ 32) (hv : ∀ x ∈ B, 0 ≤ x ∧ x ≤ 255) (hst : st ≤ B.length) : zCt d mX1_endByContent [.inr (some 26), .inl (B.length : Int), .inl (st : Int)] μ (zR (.inl (zebc B st : Int)) μ) := by
  refine of_X1_endByContent hd (fun G hG => s_X1_endByContent_0 hG ?_)
  simp only [b_X1_endByContent_0, b_X1_endByContent_14, b_X1_endByContent_20, b_X1_endByContent_40, b_X1_endByContent_43, b_X1_endByContent_49, o_c, o_il, o_al, o_is, o_as, o_inc, o_add, o_sub, o_mul, o_and, o_or, o_xor, o_shl, o_shr, o_ush, o_rem, o_dup, o_dup2, o_gf, o_pf, o_pz, o_iald, o_iast, o_zald, o_zast, o_aald, o_gs, o_min, o_acp, o_call, o_callv, zgf, zpf, zia_, zza_, zra_, zrd_, zcp_, zpop, zsm8_0, zsm8_1, zsm8_2, zsm8_3, zsm8_4, zsm8_5, zrc, zisob, t_ieq, t_ilt, t_igt, t_zeq, t_zlt, t_zgt, t_sw, zsw, t_iret, t_zret, t_aret, t_vret, zrg, List.getElem?_cons_zero, List.getElem?_cons_succ, List.set_cons_zero, List.set_cons_succ, List.length_cons, List.length_nil, Option.toList_some, Option.toList_none, List.nil_append, List.cons_append, true_and, and_true, true_or, or_true, Int.cast_ofNat_Int, Int.natCast_zero, Int.natCast_one, zsh_26]
  have e1 : (if (st : Int) + 8 < B.length then (st : Int) + 8 else (B.length : Int)) = ((min B.length (st + 8) : Nat) : Int) := by split <;> omega
  rw [e1]
  refine ⟨by omega, by omega, ?_⟩
  generalize hm : min B.length (st + 8) = m
  have hmB : m ≤ B.length := by omega
  have hm8 : m ≤ st + 8 := by omega
  have hres : zebc B st = zebf B 8 (st + 2) m := by unfold zebc; rw [hm]
  have loop : ∀ (f e : Nat), e + f = st + 10 → st + 2 ≤ e → zebc B st = zebf B f e m → G 14 [.inr (some 26), .inl (B.length : Int), .inl (st : Int), .inl (m : Int), .inl (e : Int)] [] μ := by
    intro f
    induction f with
    | zero =>
      intro e h1 h2 h3
      refine s_X1_endByContent_14 hG ?_
      simp only [b_X1_endByContent_0, b_X1_endByContent_14, b_X1_endByContent_20, b_X1_endByContent_40, b_X1_endByContent_43, b_X1_endByContent_49, o_c, o_il, o_al, o_is, o_as, o_inc, o_add, o_sub, o_mul, o_and, o_or, o_xor, o_shl, o_shr, o_ush, o_rem, o_dup, o_dup2, o_gf, o_pf, o_pz, o_iald, o_iast, o_zald, o_zast, o_aald, o_gs, o_min, o_acp, o_call, o_callv, zgf, zpf, zia_, zza_, zra_, zrd_, zcp_, zpop, zsm8_0, zsm8_1, zsm8_2, zsm8_3, zsm8_4, zsm8_5, zrc, zisob, t_ieq, t_ilt, t_igt, t_zeq, t_zlt, t_zgt, t_sw, zsw, t_iret, t_zret, t_aret, t_vret, zrg, List.getElem?_cons_zero, List.getElem?_cons_succ, List.set_cons_zero, List.set_cons_succ, List.length_cons, List.length_nil, Option.toList_some, Option.toList_none, List.nil_append, List.cons_append, true_and, and_true, true_or, or_true, Int.cast_ofNat_Int, Int.natCast_zero, Int.natCast_one, zsh_26]
      refine ⟨by omega, by omega, fun _ => by omega, fun _ => ?_⟩
      rw [h3]
      exact ⟨rfl, rfl⟩
    | succ f ih =>
      intro e h1 h2 h3
      refine s_X1_endByContent_14 hG ?_
      simp only [zebf] at h3
      simp only [b_X1_endByContent_0, b_X1_endByContent_14, b_X1_endByContent_20, b_X1_endByContent_40, b_X1_endByContent_43, b_X1_endByContent_49, o_c, o_il, o_al, o_is, o_as, o_inc, o_add, o_sub, o_mul, o_and, o_or, o_xor, o_shl, o_shr, o_ush, o_rem, o_dup, o_dup2, o_gf, o_pf, o_pz, o_iald, o_iast, o_zald, o_zast, o_aald, o_gs, o_min, o_acp, o_call, o_callv, zgf, zpf, zia_, zza_, zra_, zrd_, zcp_, zpop, zsm8_0, zsm8_1, zsm8_2, zsm8_3, zsm8_4, zsm8_5, zrc, zisob, t_ieq, t_ilt, t_igt, t_zeq, t_zlt, t_zgt, t_sw, zsw, t_iret, t_zret, t_aret, t_vret, zrg, List.getElem?_cons_zero, List.getElem?_cons_succ, List.set_cons_zero, List.set_cons_succ, List.length_cons, List.length_nil, Option.toList_some, Option.toList_none, List.nil_append, List.cons_append, true_and, and_true, true_or, or_true, Int.cast_ofNat_Int, Int.natCast_zero, Int.natCast_one, zsh_26]
      refine ⟨by omega, by omega, fun q => ?_, fun q => ?_⟩
      · rw [if_pos (by omega)] at h3
        have a1 : e - 1 < B.length := by omega
        have a2 : e - 2 < B.length := by omega
        have g1 := hB (e - 1) B[e - 1] (List.getElem?_eq_getElem a1)
        have g2 := hB (e - 2) B[e - 2] (List.getElem?_eq_getElem a2)
        have v1 := hv B[e - 1] (List.getElem_mem a1)
        have v2 := hv B[e - 2] (List.getElem_mem a2)
        have c1 : ((e : Int) - 1) = ((e - 1 : Nat) : Int) := by omega
        have c2 : ((e : Int) - 2) = ((e - 2 : Nat) : Int) := by omega
        have d1 : B.getD (e - 1) 0 = B[e - 1] := by simp [a1]
        have d2 : B.getD (e - 2) 0 = B[e - 2] := by simp [a2]
        rw [c1, c2, g1, g2]
        rw [d1, d2] at h3
        refine ⟨by omega, by omega, by omega, by omega, by omega, fun w => ?_, fun w => ?_⟩
        · rw [if_pos w] at h3
          rw [h3]
          exact ⟨rfl, rfl⟩
        · rw [if_neg w] at h3
          exact ih (e + 1) (by omega) (by omega) h3
      · rw [if_neg (by omega)] at h3
        rw [h3]
        exact ⟨rfl, rfl⟩
  exact loop 8 (st + 2) (by omega) (by omega) hres
/-- the file maker's nodes: names and lengths -/
def zFM (μ : zM) (ns : List (Int × Int)) : Prop := μ 27 2 = ns.length ∧ ns.length ≤ 32 ∧ zAR μ 28 (ns.map (·.1)) ∧ zAR μ 29 (ns.map (·.2))
abbrev zfmS : List Nat := [27, 28, 29, 34, 35, 36, 37, 38, 39]
set_option maxRecDepth 100000 in
set_option maxHeartbeats 4000000 in
theorem c_X1_makeLeaves {d : Nat} {μ : zM} {B : List Int} {L : List zBk} {c chunk : Int} (hd : 3 ≤ d) (hB : zAR μ 26 B) (hl : B.length ≤ 32) (hv : ∀ x ∈ B, 0 ≤ x ∧ x ≤ 255) (hc : 0 ≤ chunk ∧ chunk ≤ 8) (hT : zBT μ L [] c) : zCt d mX1_makeLeaves [.inr (some 27), .inr (some 26), .inl (B.length : Int), .inl chunk, .inr (some 34)] μ (fun v μ' => v = none ∧ zBT μ' (zmk (L, c) ((zpcs B chunk 32 0).map (0 :: ·))).1 [] (zmk (L, c) ((zpcs B chunk 32 0).map (0 :: ·))).2 ∧ zFM μ' ((zpcs B chunk 32 0).map (fun p => (zhash (0 :: p), (p.length : Int)))) ∧ zfr zfmS μ μ') := by
  refine of_X1_makeLeaves (by omega) (fun G hG => s_X1_makeLeaves_0 hG ?_)
  simp only [b_X1_makeLeaves_0, b_X1_makeLeaves_8, b_X1_makeLeaves_12, b_X1_makeLeaves_22, b_X1_makeLeaves_30, b_X1_makeLeaves_42, b_X1_makeLeaves_49, b_X1_makeLeaves_64, b_X1_makeLeaves_112, b_X1_makeLeaves_121, o_c, o_il, o_al, o_is, o_as, o_inc, o_add, o_sub, o_mul, o_and, o_or, o_xor, o_shl, o_shr, o_ush, o_rem, o_dup, o_dup2, o_gf, o_pf, o_pz, o_iald, o_iast, o_zald, o_zast, o_aald, o_gs, o_min, o_acp, o_call, o_callv, zgf, zpf, zia_, zza_, zra_, zrd_, zcp_, zpop, zsm8_0, zsm8_1, zsm8_2, zsm8_3, zsm8_4, zsm8_5, zrc, zisob, t_ieq, t_ilt, t_igt, t_zeq, t_zlt, t_zgt, t_sw, zsw, t_iret, t_zret, t_aret, t_vret, zrg, List.getElem?_cons_zero, List.getElem?_cons_succ, List.set_cons_zero, List.set_cons_succ, List.length_cons, List.length_nil, Option.toList_some, Option.toList_none, List.nil_append, List.cons_append, true_and, and_true, true_or, or_true, Int.cast_ofNat_Int, Int.natCast_zero, Int.natCast_one, zsh_27]
  have body : ∀ (f st : Nat) (μ1 : zM) (done : List (List Int)) (x6 x7 : zV), done.length + (f + 1) = 32 → st ≤ B.length → zpcs B chunk 32 0 = done ++ zpcs B chunk (f + 1) st → zBT μ1 (zmk (L, c) (done.map (0 :: ·))).1 [] (zmk (L, c) (done.map (0 :: ·))).2 → zFM μ1 (done.map (fun p => (zhash (0 :: p), (p.length : Int)))) → zfr zfmS μ μ1 → (∀ (μ2 : zM) (x6 x7 : zV), 1 ≤ f → zpcs B chunk 32 0 = (done ++ [zpce B chunk st]) ++ zpcs B chunk f (zend B chunk st) → zBT μ2 (zmk (L, c) ((done ++ [zpce B chunk st]).map (0 :: ·))).1 [] (zmk (L, c) ((done ++ [zpce B chunk st]).map (0 :: ·))).2 → zFM μ2 ((done ++ [zpce B chunk st]).map (fun p => (zhash (0 :: p), (p.length : Int)))) → zfr zfmS μ μ2 → G 8 [.inr (some 27), .inr (some 26), .inl (B.length : Int), .inl chunk, .inr (some 34), .inl (zend B chunk st : Int), x6, x7] [] μ2) → G 8 [.inr (some 27), .inr (some 26), .inl (B.length : Int), .inl chunk, .inr (some 34), .inl (st : Int), x6, x7] [] μ1 := by
    intro f st μ1 done x6 x7 h1 h2 h3 h4 h5 h6 next
    have her := zend_rg B hc h2
    generalize hLp : (zmk (L, c) (done.map (0 :: ·))).1 = Lp at h4
    generalize hcp : (zmk (L, c) (done.map (0 :: ·))).2 = cp at h4
    generalize he : zend B chunk st = e at her next
    have hpc : zpce B chunk st = (B.take e).drop st := by unfold zpce; rw [he]
    have hstep : zpcs B chunk (f + 1) st = zpce B chunk st :: (if e < B.length then zpcs B chunk f e else []) := by simp only [zpcs]; rw [he]
    have hmk : zmk (L, c) ((done ++ [zpce B chunk st]).map (0 :: ·)) = zfb Lp cp (0 :: zpce B chunk st) := by
      unfold zmk
      rw [List.map_append, List.foldl_append]
      show zfb (zmk (L, c) (done.map (0 :: ·))).1 (zmk (L, c) (done.map (0 :: ·))).2 (0 :: zpce B chunk st) = _
      rw [hLp, hcp]
    have hB1 : ∀ μ2, zfr zfmS μ μ2 → zAR μ2 26 B := fun μ2 hf => hB.of (hf 26 (by decide))
    -- the copying loop and what follows
    have inner : ∀ (r i : Nat) (μ2 : zM), i + r = e → st ≤ i → zBT μ2 Lp (0 :: (B.take i).drop st) cp → zFM μ2 (done.map (fun p => (zhash (0 :: p), (p.length : Int)))) → zfr zfmS μ μ2 → G 42 [.inr (some 27), .inr (some 26), .inl (B.length : Int), .inl chunk, .inr (some 34), .inl (st : Int), .inl (e : Int), .inl (i : Int)] [] μ2 := by
      intro r
      induction r with
      | zero =>
        intro i μ2 k1 k2 k3 k4 k5
        have hie : i = e := by omega
        subst hie
        rw [← hpc] at k3
        refine s_X1_makeLeaves_42 hG ?_
        simp only [b_X1_makeLeaves_0, b_X1_makeLeaves_8, b_X1_makeLeaves_12, b_X1_makeLeaves_22, b_X1_makeLeaves_30, b_X1_makeLeaves_42, b_X1_makeLeaves_49, b_X1_makeLeaves_64, b_X1_makeLeaves_112, b_X1_makeLeaves_121, o_c, o_il, o_al, o_is, o_as, o_inc, o_add, o_sub, o_mul, o_and, o_or, o_xor, o_shl, o_shr, o_ush, o_rem, o_dup, o_dup2, o_gf, o_pf, o_pz, o_iald, o_iast, o_zald, o_zast, o_aald, o_gs, o_min, o_acp, o_call, o_callv, zgf, zpf, zia_, zza_, zra_, zrd_, zcp_, zpop, zsm8_0, zsm8_1, zsm8_2, zsm8_3, zsm8_4, zsm8_5, zrc, zisob, t_ieq, t_ilt, t_igt, t_zeq, t_zlt, t_zgt, t_sw, zsw, t_iret, t_zret, t_aret, t_vret, zrg, List.getElem?_cons_zero, List.getElem?_cons_succ, List.set_cons_zero, List.set_cons_succ, List.length_cons, List.length_nil, Option.toList_some, Option.toList_none, List.nil_append, List.cons_append, true_and, and_true, true_or, or_true, Int.cast_ofNat_Int, Int.natCast_zero, Int.natCast_one, zsh_27, zsh_34, zsh_28, zsh_29, zsh_26]
        refine ⟨by omega, by omega, fun _ => by omega, fun _ => ?_⟩
        refine ⟨_, c_X0_finishBlock (by omega) k3, ?_⟩
        rintro v μ3 ⟨rfl, g1, g2⟩
        rw [← hmk] at g1
        obtain ⟨m1, m2, m3, m4⟩ := k4
        simp only [List.length_map] at m1 m2
        have e27 : μ2 27 2 = done.length := m1
        rw [e27]
        simp only [b_X1_makeLeaves_0, b_X1_makeLeaves_8, b_X1_makeLeaves_12, b_X1_makeLeaves_22, b_X1_makeLeaves_30, b_X1_makeLeaves_42, b_X1_makeLeaves_49, b_X1_makeLeaves_64, b_X1_makeLeaves_112, b_X1_makeLeaves_121, o_c, o_il, o_al, o_is, o_as, o_inc, o_add, o_sub, o_mul, o_and, o_or, o_xor, o_shl, o_shr, o_ush, o_rem, o_dup, o_dup2, o_gf, o_pf, o_pz, o_iald, o_iast, o_zald, o_zast, o_aald, o_gs, o_min, o_acp, o_call, o_callv, zgf, zpf, zia_, zza_, zra_, zrd_, zcp_, zpop, zsm8_0, zsm8_1, zsm8_2, zsm8_3, zsm8_4, zsm8_5, zrc, zisob, t_ieq, t_ilt, t_igt, t_zeq, t_zlt, t_zgt, t_sw, zsw, t_iret, t_zret, t_aret, t_vret, zrg, List.getElem?_cons_zero, List.getElem?_cons_succ, List.set_cons_zero, List.set_cons_succ, List.length_cons, List.length_nil, Option.toList_some, Option.toList_none, List.nil_append, List.cons_append, true_and, and_true, true_or, or_true, Int.cast_ofNat_Int, Int.natCast_zero, Int.natCast_one, zsh_27, zsh_34, zsh_28, zsh_29, zsh_26]
        have q1 : zup μ3 28 done.length (zhash (0 :: zpce B chunk st)) 27 2 = done.length := by rw [zup_ne _ (by decide), g2 27 (by decide)]; exact m1
        rw [q1]
        refine ⟨by omega, by omega, ?_⟩
        have q2 : zup (zup μ3 28 done.length (zhash (0 :: zpce B chunk st))) 29 done.length ((i : Int) - st) 27 2 = done.length := by rw [zup_ne _ (by decide)]; exact q1
        rw [q2]
        generalize hμ4 : zup (zup (zup μ3 28 done.length (zhash (0 :: zpce B chunk st))) 29 done.length ((i : Int) - st)) 27 2 ((done.length : Int) + 1) = μ4
        have hlp : ((zpce B chunk st).length : Int) = (i : Int) - st := by rw [hpc]; simp; omega
        have f34 : zfr [27, 28, 29] μ3 μ4 := fun x hx => by
          simp only [List.mem_cons, List.not_mem_nil, or_false, not_or] at hx
          rw [← hμ4, zup_ne x hx.1, zup_ne x hx.2.2, zup_ne x hx.2.1]
        have hFM : zFM μ4 ((done ++ [zpce B chunk st]).map (fun p => (zhash (0 :: p), (p.length : Int)))) := by
          refine ⟨by rw [← hμ4]; simp [zup], by simp; omega, ?_, ?_⟩
          · rw [List.map_append, List.map_append]
            refine (m3.of (g2 28 (by decide))).push (fun j hj => ?_) ?_
            · simp at hj
              rw [← hμ4, zup_ne _ (by decide), zup_ne _ (by decide)]
              simp [zup, hj]
            · rw [← hμ4, zup_ne _ (by decide), zup_ne _ (by decide)]
              simp [zup]
          · rw [List.map_append, List.map_append]
            refine (m4.of (g2 29 (by decide))).push (fun j hj => ?_) ?_
            · simp at hj
              rw [← hμ4, zup_ne _ (by decide)]
              simp [zup, hj]
            · rw [← hμ4, zup_ne _ (by decide)]
              simp [zup, hlp]
        have hT4 : zBT μ4 (zmk (L, c) ((done ++ [zpce B chunk st]).map (0 :: ·))).1 [] (zmk (L, c) ((done ++ [zpce B chunk st]).map (0 :: ·))).2 := g1.fr f34 (by simp)
        have hf4 : zfr zfmS μ μ4 := (k5.trans (g2.mono (by simp))).trans (f34.mono (by simp))
        have fin : zpcs B chunk 32 0 = done ++ [zpce B chunk st] → zBT μ4 (zmk (L, c) ((zpcs B chunk 32 0).map (0 :: ·))).1 [] (zmk (L, c) ((zpcs B chunk 32 0).map (0 :: ·))).2 ∧ zFM μ4 ((zpcs B chunk 32 0).map (fun p => (zhash (0 :: p), (p.length : Int)))) ∧ zfr zfmS μ μ4 := fun w => by
          rw [w]
          exact ⟨hT4, hFM, hf4⟩
        refine ⟨by omega, by omega, fun w => ?_, fun w => ?_⟩
        · rw [hstep, if_pos (by omega)] at h3
          have e4 : μ4 27 2 = (done.length : Int) + 1 := by rw [← hμ4]; simp [zup]
          rw [e4]
          refine ⟨by omega, by omega, fun w2 => ?_, fun w2 => ?_⟩
          · exact next μ4 _ _ (by omega) (by rw [h3]; simp) hT4 hFM hf4
          · have hf0 : f = 0 := by omega
            rw [hf0] at h3
            exact fin h3
        · rw [hstep, if_neg (by omega)] at h3
          exact fin h3
      | succ r ih2 =>
        intro i μ2 k1 k2 k3 k4 k5
        refine s_X1_makeLeaves_42 hG ?_
        have hi : i < B.length := by omega
        have hb2 := hB1 μ2 k5 i B[i] (List.getElem?_eq_getElem hi)
        have hvb := hv B[i] (List.getElem_mem hi)
        simp only [b_X1_makeLeaves_0, b_X1_makeLeaves_8, b_X1_makeLeaves_12, b_X1_makeLeaves_22, b_X1_makeLeaves_30, b_X1_makeLeaves_42, b_X1_makeLeaves_49, b_X1_makeLeaves_64, b_X1_makeLeaves_112, b_X1_makeLeaves_121, o_c, o_il, o_al, o_is, o_as, o_inc, o_add, o_sub, o_mul, o_and, o_or, o_xor, o_shl, o_shr, o_ush, o_rem, o_dup, o_dup2, o_gf, o_pf, o_pz, o_iald, o_iast, o_zald, o_zast, o_aald, o_gs, o_min, o_acp, o_call, o_callv, zgf, zpf, zia_, zza_, zra_, zrd_, zcp_, zpop, zsm8_0, zsm8_1, zsm8_2, zsm8_3, zsm8_4, zsm8_5, zrc, zisob, t_ieq, t_ilt, t_igt, t_zeq, t_zlt, t_zgt, t_sw, zsw, t_iret, t_zret, t_aret, t_vret, zrg, List.getElem?_cons_zero, List.getElem?_cons_succ, List.set_cons_zero, List.set_cons_succ, List.length_cons, List.length_nil, Option.toList_some, Option.toList_none, List.nil_append, List.cons_append, true_and, and_true, true_or, or_true, Int.cast_ofNat_Int, Int.natCast_zero, Int.natCast_one, zsh_27, zsh_34, zsh_28, zsh_29, zsh_26]
        refine ⟨by omega, by omega, fun _ => ⟨by omega, ?_⟩, fun _ => by omega⟩
        rw [hb2]
        refine ⟨_, c_X0_write k3 (by simp; omega) hvb, ?_⟩
        rintro v μ3 ⟨rfl, g1, g2⟩
        simp only [b_X1_makeLeaves_0, b_X1_makeLeaves_8, b_X1_makeLeaves_12, b_X1_makeLeaves_22, b_X1_makeLeaves_30, b_X1_makeLeaves_42, b_X1_makeLeaves_49, b_X1_makeLeaves_64, b_X1_makeLeaves_112, b_X1_makeLeaves_121, o_c, o_il, o_al, o_is, o_as, o_inc, o_add, o_sub, o_mul, o_and, o_or, o_xor, o_shl, o_shr, o_ush, o_rem, o_dup, o_dup2, o_gf, o_pf, o_pz, o_iald, o_iast, o_zald, o_zast, o_aald, o_gs, o_min, o_acp, o_call, o_callv, zgf, zpf, zia_, zza_, zra_, zrd_, zcp_, zpop, zsm8_0, zsm8_1, zsm8_2, zsm8_3, zsm8_4, zsm8_5, zrc, zisob, t_ieq, t_ilt, t_igt, t_zeq, t_zlt, t_zgt, t_sw, zsw, t_iret, t_zret, t_aret, t_vret, zrg, List.getElem?_cons_zero, List.getElem?_cons_succ, List.set_cons_zero, List.set_cons_succ, List.length_cons, List.length_nil, Option.toList_some, Option.toList_none, List.nil_append, List.cons_append, true_and, and_true, true_or, or_true, Int.cast_ofNat_Int, Int.natCast_zero, Int.natCast_one, zsh_27, zsh_34, zsh_28, zsh_29, zsh_26]
        refine ih2 (i + 1) μ3 (by omega) (by omega) ?_ ?_ (k5.trans (g2.mono (by simp)))
        · have e9 : (B.take (i + 1)).drop st = (B.take i).drop st ++ [B[i]] := by
            rw [List.take_succ, List.getElem?_eq_getElem hi]
            rw [List.drop_append_of_le_length (by simp; omega)]
            rfl
          rw [e9]
          exact g1
        · obtain ⟨m1, m2, m3, m4⟩ := k4
          exact ⟨by rw [g2 27 (by decide)]; exact m1, m2, m3.of (g2 28 (by decide)), m4.of (g2 29 (by decide))⟩
    have from30 : ∃ Q, zCt (d - 1) mX0_write [.inr (some 34), .inl 0] μ1 Q ∧ ∀ (v : Option zV) (μ' : zM), Q v μ' → G 42 [.inr (some 27), .inr (some 26), .inl (B.length : Int), .inl chunk, .inr (some 34), .inl (st : Int), .inl (e : Int), .inl (st : Int)] (v.toList ++ []) μ' := by
      refine ⟨_, c_X0_write h4 (by simp) (by omega), ?_⟩
      rintro v μ2 ⟨rfl, g1, g2⟩
      obtain ⟨m1, m2, m3, m4⟩ := h5
      refine inner (e - st) st μ2 (by omega) (by omega) ?_ ⟨by rw [g2 27 (by decide)]; exact m1, m2, m3.of (g2 28 (by decide)), m4.of (g2 29 (by decide))⟩ (h6.trans (g2.mono (by simp)))
      have e9 : (B.take st).drop st = [] := List.drop_eq_nil_of_le (by simp; omega)
      rw [e9]
      simpa using g1
    refine s_X1_makeLeaves_8 hG ?_
    simp only [b_X1_makeLeaves_0, b_X1_makeLeaves_8, b_X1_makeLeaves_12, b_X1_makeLeaves_22, b_X1_makeLeaves_30, b_X1_makeLeaves_42, b_X1_makeLeaves_49, b_X1_makeLeaves_64, b_X1_makeLeaves_112, b_X1_makeLeaves_121, o_c, o_il, o_al, o_is, o_as, o_inc, o_add, o_sub, o_mul, o_and, o_or, o_xor, o_shl, o_shr, o_ush, o_rem, o_dup, o_dup2, o_gf, o_pf, o_pz, o_iald, o_iast, o_zald, o_zast, o_aald, o_gs, o_min, o_acp, o_call, o_callv, zgf, zpf, zia_, zza_, zra_, zrd_, zcp_, zpop, zsm8_0, zsm8_1, zsm8_2, zsm8_3, zsm8_4, zsm8_5, zrc, zisob, t_ieq, t_ilt, t_igt, t_zeq, t_zlt, t_zgt, t_sw, zsw, t_iret, t_zret, t_aret, t_vret, zrg, List.getElem?_cons_zero, List.getElem?_cons_succ, List.set_cons_zero, List.set_cons_succ, List.length_cons, List.length_nil, Option.toList_some, Option.toList_none, List.nil_append, List.cons_append, true_and, and_true, true_or, or_true, Int.cast_ofNat_Int, Int.natCast_zero, Int.natCast_one, zsh_27, zsh_34, zsh_28, zsh_29, zsh_26]
    refine ⟨by omega, fun w => ?_, fun w => ?_⟩
    · have hz : zebc B st = e := by rw [← he]; unfold zend; rw [if_pos w]
      refine zcall (c_X1_endByContent (by omega) (hB1 μ1 h6) hl hv h2) ?_
      rw [hz]
      simp only [b_X1_makeLeaves_0, b_X1_makeLeaves_8, b_X1_makeLeaves_12, b_X1_makeLeaves_22, b_X1_makeLeaves_30, b_X1_makeLeaves_42, b_X1_makeLeaves_49, b_X1_makeLeaves_64, b_X1_makeLeaves_112, b_X1_makeLeaves_121, o_c, o_il, o_al, o_is, o_as, o_inc, o_add, o_sub, o_mul, o_and, o_or, o_xor, o_shl, o_shr, o_ush, o_rem, o_dup, o_dup2, o_gf, o_pf, o_pz, o_iald, o_iast, o_zald, o_zast, o_aald, o_gs, o_min, o_acp, o_call, o_callv, zgf, zpf, zia_, zza_, zra_, zrd_, zcp_, zpop, zsm8_0, zsm8_1, zsm8_2, zsm8_3, zsm8_4, zsm8_5, zrc, zisob, t_ieq, t_ilt, t_igt, t_zeq, t_zlt, t_zgt, t_sw, zsw, t_iret, t_zret, t_aret, t_vret, zrg, List.getElem?_cons_zero, List.getElem?_cons_succ, List.set_cons_zero, List.set_cons_succ, List.length_cons, List.length_nil, Option.toList_some, Option.toList_none, List.nil_append, List.cons_append, true_and, and_true, true_or, or_true, Int.cast_ofNat_Int, Int.natCast_zero, Int.natCast_one, zsh_27, zsh_34, zsh_28, zsh_29, zsh_26]
      exact from30
    · have hz : (if (st : Int) + chunk < B.length then (st : Int) + chunk else (B.length : Int)) = e := by
        have : e = min B.length (st + chunk.toNat) := by rw [← he]; unfold zend; rw [if_neg w]
        split <;> omega
      rw [hz]
      refine ⟨by omega, by omega, from30⟩
  have loop : ∀ (f st : Nat) (μ1 : zM) (done : List (List Int)) (x6 x7 : zV), done.length + (f + 1) = 32 → st ≤ B.length → zpcs B chunk 32 0 = done ++ zpcs B chunk (f + 1) st → zBT μ1 (zmk (L, c) (done.map (0 :: ·))).1 [] (zmk (L, c) (done.map (0 :: ·))).2 → zFM μ1 (done.map (fun p => (zhash (0 :: p), (p.length : Int)))) → zfr zfmS μ μ1 → G 8 [.inr (some 27), .inr (some 26), .inl (B.length : Int), .inl chunk, .inr (some 34), .inl (st : Int), x6, x7] [] μ1 := by
    intro f
    induction f with
    | zero =>
      intro st μ1 done x6 x7 h1 h2 h3 h4 h5 h6
      exact body 0 st μ1 done x6 x7 h1 h2 h3 h4 h5 h6 (fun _ _ _ w => by omega)
    | succ f ih =>
      intro st μ1 done x6 x7 h1 h2 h3 h4 h5 h6
      refine body (f + 1) st μ1 done x6 x7 h1 h2 h3 h4 h5 h6 (fun μ2 y6 y7 _ k1 k2 k3 k4 => ?_)
      exact ih (zend B chunk st) μ2 _ _ _ (by simp; omega) (zend_rg B hc h2).2.1 k1 k2 k3 k4
  refine loop 31 0 _ [] _ _ (by simp) (by omega) rfl ?_ ?_ ?_
  · exact hT.fr (S := [27]) (fun x hx => zup_ne x (by simpa using hx)) (by simp)
  · exact ⟨by simp [zup], by simp, fun j x hj => by simp at hj, fun j x hj => by simp at hj⟩
  · exact fun x hx => zup_ne x (fun e => hx (by simp [e]))
