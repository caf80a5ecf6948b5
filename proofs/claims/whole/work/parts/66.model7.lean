/-! THE REFERENCE: its state -/
def zmP (μ : zM) (s : Nat) (P : List zPp) : Prop := μ 62 s = P.length ∧ P.length ≤ 8 ∧ (∀ (i : Nat) (p : zPp), P[i]? = some p → μ 63 (8 * s + i) = p.1 ∧ μ 64 (8 * s + i) = p.2) ∧ ∀ p ∈ P, (0 ≤ p.1 ∧ p.1 ≤ 65520) ∧ (p.2 = 0 ∨ p.2 = 1)
def zmF (μ : zM) (s : Nat) (fs fp fr : Int) : Prop := μ 65 s = fs ∧ μ 67 s = fp ∧ μ 66 s = fr ∧ (0 ≤ fs ∧ fs ≤ 3) ∧ (0 ≤ fp ∧ fp ≤ 2) ∧ (0 ≤ fr ∧ fr ≤ 65520)
def zmT (μ : zM) (T : List zPp) : Prop := μ 56 20 = T.length ∧ T.length ≤ 16 ∧ zAR μ 75 (T.map (·.1)) ∧ zAR μ 76 (T.map (·.2)) ∧ ∀ p ∈ T, (1 ≤ p.1 ∧ p.1 ≤ 255) ∧ (0 ≤ p.2 ∧ p.2 ≤ 65520)
def zMk (m : zMg) : Prop := (0 ≤ m.1.1 ∧ m.1.1 ≤ 2) ∧ (0 ≤ m.1.2.1 ∧ m.1.2.1 ≤ 2) ∧ (0 ≤ m.1.2.2 ∧ m.1.2.2 ≤ 2) ∧ zBOK m.2 ∧ (m.1.1 ≠ 1 → m.2.2 = []) ∧ (m.1.1 = 1 → m.2.1 = zhash m.2.2)
def zmM (μ : zM) (i : Nat) (m : zMg) : Prop := μ 68 i = m.1.1 ∧ μ 69 i = m.1.2.1 ∧ μ 70 i = m.1.2.2 ∧ (m.1.1 ≠ 1 → μ 71 i = m.2.1) ∧ μ 72 i = m.2.2.length ∧ ∀ (j : Nat) (x : Int), m.2.2[j]? = some x → μ 73 (18 * i + j) = x
def zmW (μ : zM) (Ms : List zMg) : Prop := μ 56 11 = Ms.length ∧ Ms.length ≤ 24 ∧ (∀ m ∈ Ms, zMk m) ∧ ∀ (i : Nat) (m : zMg), Ms[i]? = some m → zmM μ i m
def zmD (μ : zM) (s : Nat) (x : zStt) : Prop := zmL μ s x.1 ∧ zmP μ s x.2.1 ∧ zmF μ s x.2.2.1 x.2.2.2.1 x.2.2.2.2
/-- the reference's memory holds this state -/
def zRN (μ : zM) (B : List Int) (T : List zPp) (Ms : List zMg) (Sm : Nat → zStt) : Prop := zmB μ B ∧ zmT μ T ∧ zmW μ Ms ∧ ∀ s, s < 3 → zmD μ s (Sm s)
def zlo (μ μ' : zM) : Prop := ∀ c, c < 56 → μ' c = μ c
theorem zlo.refl (μ : zM) : zlo μ μ := fun _ _ => rfl
theorem zlo.trans {a b c : zM} (h1 : zlo a b) (h2 : zlo b c) : zlo a c := fun k hk => (h2 k hk).trans (h1 k hk)
theorem zF.lo {C : List Nat} {F : List Int} {μ μ' : zM} (h : zF C F μ μ') (hc : ∀ c ∈ C, 56 < c) : zlo μ μ' := fun c hcl => h.1 c (fun w => by have := hc c w; omega) (by omega)
theorem zmX.lo {s : Nat} {μ μ' : zM} (h : zmX s μ μ') : zlo μ μ' := fun c hcl => h.1 c (by simp; omega)
theorem zmP.e {μ μ' : zM} {s : Nat} {P : List zPp} (h : zmP μ s P) (e : ∀ c, 62 ≤ c → c ≤ 64 → μ' c = μ c) : zmP μ' s P := by
  unfold zmP
  rw [e 62 (by omega) (by omega), e 63 (by omega) (by omega), e 64 (by omega) (by omega)]
  exact h
theorem zmF.e {μ μ' : zM} {s : Nat} {fs fp fr : Int} (h : zmF μ s fs fp fr) (e : ∀ c, 65 ≤ c → c ≤ 67 → μ' c = μ c) : zmF μ' s fs fp fr := by
  unfold zmF
  rw [e 65 (by omega) (by omega), e 66 (by omega) (by omega), e 67 (by omega) (by omega)]
  exact h
theorem zmT.e {μ μ' : zM} {T : List zPp} (h : zmT μ T) (e : ∀ c, 75 ≤ c → c ≤ 76 → μ' c = μ c) (e2 : μ' 56 20 = μ 56 20) : zmT μ' T := ⟨by rw [e2]; exact h.1, h.2.1, h.2.2.1.of (e 75 (by omega) (by omega)), h.2.2.2.1.of (e 76 (by omega) (by omega)), h.2.2.2.2⟩
theorem zmB.e {μ μ' : zM} {B : List Int} (h : zmB μ B) (e : μ' 74 = μ 74) (e2 : μ' 56 18 = μ 56 18) : zmB μ' B := ⟨by rw [e2]; exact h.1, h.2.1, h.2.2.1.of e, h.2.2.2⟩
theorem zmM.e {μ μ' : zM} {i : Nat} {m : zMg} (h : zmM μ i m) (e : ∀ c, 68 ≤ c → c ≤ 73 → μ' c = μ c) : zmM μ' i m := by
  unfold zmM
  rw [e 68 (by omega) (by omega), e 69 (by omega) (by omega), e 70 (by omega) (by omega), e 71 (by omega) (by omega), e 72 (by omega) (by omega), e 73 (by omega) (by omega)]
  exact h
theorem zmW.e {μ μ' : zM} {Ms : List zMg} (h : zmW μ Ms) (e : ∀ c, 68 ≤ c → c ≤ 73 → μ' c = μ c) (e2 : μ' 56 11 = μ 56 11) : zmW μ' Ms := ⟨by rw [e2]; exact h.1, h.2.1, h.2.2.1, fun i m hm => (h.2.2.2 i m hm).e e⟩
theorem zmL.e {μ μ' : zM} {s : Nat} {L : List zBk} (h : zmL μ s L) (e : ∀ c, 57 ≤ c → c ≤ 60 → μ' c = μ c) : zmL μ' s L := by
  unfold zmL
  rw [e 57 (by omega) (by omega), e 58 (by omega) (by omega), e 59 (by omega) (by omega), e 60 (by omega) (by omega)]
  exact h
theorem zmD.e {μ μ' : zM} {s : Nat} {x : zStt} (h : zmD μ s x) (e : ∀ c, 57 ≤ c → c ≤ 67 → c ≠ 61 → μ' c = μ c) : zmD μ' s x := ⟨h.1.e (fun c h1 h2 => e c (by omega) (by omega) (by omega)), h.2.1.e (fun c h1 h2 => e c (by omega) (by omega) (by omega)), h.2.2.e (fun c h1 h2 => e c (by omega) (by omega) (by omega))⟩
theorem zRN.f {μ μ' : zM} {B : List Int} {T : List zPp} {Ms : List zMg} {Sm : Nat → zStt} {C : List Nat} {F : List Int} (h : zRN μ B T Ms Sm) (f : zF C F μ μ') (hC : ∀ c ∈ C, c = 61 ∨ 77 ≤ c) (hF : ∀ i ∈ F, i ≠ 11 ∧ i ≠ 18 ∧ i ≠ 20) : zRN μ' B T Ms Sm := by
  have e : ∀ c, 57 ≤ c → c ≤ 76 → c ≠ 61 → μ' c = μ c := fun c h1 h2 h3 => f.1 c (fun w => by have := hC c w; omega) (by omega)
  have g : ∀ i : Int, (i = 11 ∨ i = 18 ∨ i = 20) → μ' 56 i = μ 56 i := fun i hi => f.2 i (fun w => by have := hF i w; omega)
  exact ⟨h.1.e (e 74 (by omega) (by omega) (by omega)) (g 18 (by omega)), h.2.1.e (fun c h1 h2 => e c (by omega) (by omega) (by omega)) (g 20 (by omega)), h.2.2.1.e (fun c h1 h2 => e c (by omega) (by omega) (by omega)) (g 11 (by omega)), fun s hs => (h.2.2.2 s hs).e (fun c h1 h2 h3 => e c (by omega) (by omega) h3)⟩
theorem zRN.x {μ μ' : zM} {B : List Int} {T : List zPp} {Ms : List zMg} {Sm : Nat → zStt} {s : Nat} {L : List zBk} (h : zRN μ B T Ms Sm) (hL : zmL μ' s L) (f : zmX s μ μ') : zRN μ' B T Ms (zSu Sm s (L, (Sm s).2)) := by
  have e : ∀ c, c ≠ 57 → c ≠ 58 → c ≠ 59 → c ≠ 60 → μ' c = μ c := fun c a1 a2 a3 a4 => f.1 c (by simp; omega)
  have e56 : μ' 56 = μ 56 := e 56 (by omega) (by omega) (by omega) (by omega)
  refine ⟨h.1.e (e 74 (by omega) (by omega) (by omega) (by omega)) (by rw [e56]), h.2.1.e (fun c h1 h2 => e c (by omega) (by omega) (by omega) (by omega)) (by rw [e56]), h.2.2.1.e (fun c h1 h2 => e c (by omega) (by omega) (by omega) (by omega)) (by rw [e56]), fun t ht => ?_⟩
  have h4 := h.2.2.2 t ht
  unfold zSu
  split
  · rename_i q
    subst q
    exact ⟨hL, h4.2.1.e (fun c h1 h2 => e c (by omega) (by omega) (by omega) (by omega)), h4.2.2.e (fun c h1 h2 => e c (by omega) (by omega) (by omega) (by omega))⟩
  · rename_i q
    exact ⟨h4.1.x f q, h4.2.1.e (fun c h1 h2 => e c (by omega) (by omega) (by omega) (by omega)), h4.2.2.e (fun c h1 h2 => e c (by omega) (by omega) (by omega) (by omega))⟩
/-- the fetch of one store changes -/
theorem zRN.ft {μ μ' : zM} {B : List Int} {T : List zPp} {Ms : List zMg} {Sm : Nat → zStt} {s : Nat} {fs fp fr : Int} {C : List Nat} {F : List Int} (h : zRN μ B T Ms Sm) (hf : zmF μ' s fs fp fr) (f : zF C F μ μ') (hC : ∀ c ∈ C, c = 61 ∨ c = 65 ∨ c = 66 ∨ c = 67 ∨ 77 ≤ c) (hF : ∀ i ∈ F, i ≠ 11 ∧ i ≠ 18 ∧ i ≠ 20) (ht : ∀ t : Int, t ≠ s → μ' 65 t = μ 65 t ∧ μ' 66 t = μ 66 t ∧ μ' 67 t = μ 67 t) : zRN μ' B T Ms (zSu Sm s ((Sm s).1, (Sm s).2.1, (fs, fp, fr))) := by
  have e : ∀ c, 57 ≤ c → c ≤ 76 → c ≠ 61 → c ≠ 65 → c ≠ 66 → c ≠ 67 → μ' c = μ c := fun c h1 h2 h3 h4 h5 h6 => f.1 c (fun w => by have := hC c w; omega) (by omega)
  have g : ∀ i : Int, (i = 11 ∨ i = 18 ∨ i = 20) → μ' 56 i = μ 56 i := fun i hi => f.2 i (fun w => by have := hF i w; omega)
  refine ⟨h.1.e (e 74 (by omega) (by omega) (by omega) (by omega) (by omega) (by omega)) (g 18 (by omega)), h.2.1.e (fun c h1 h2 => e c (by omega) (by omega) (by omega) (by omega) (by omega) (by omega)) (g 20 (by omega)), h.2.2.1.e (fun c h1 h2 => e c (by omega) (by omega) (by omega) (by omega) (by omega) (by omega)) (g 11 (by omega)), fun t htt => ?_⟩
  have h4 := h.2.2.2 t htt
  have hl := h4.1.e (μ' := μ') (fun c h1 h2 => e c (by omega) (by omega) (by omega) (by omega) (by omega) (by omega))
  have hp := h4.2.1.e (μ' := μ') (fun c h1 h2 => e c (by omega) (by omega) (by omega) (by omega) (by omega) (by omega))
  unfold zSu
  split
  · rename_i q
    subst q
    exact ⟨hl, hp, hf⟩
  · rename_i q
    have := ht t (by omega)
    refine ⟨hl, hp, ?_⟩
    unfold zmF
    rw [this.1, this.2.1, this.2.2]
    exact h4.2.2
set_option maxRecDepth 100000 in
set_option maxHeartbeats 4000000 in
theorem c_X11_beginWalk {d : Nat} {μ : zM} : zCt d mX11_beginWalk [.inr (some 56)] μ (fun v μ' => v = none ∧ μ' 56 30 = 0 ∧ μ' 56 34 = 0 ∧ zF [] [30, 34] μ μ') := by
  refine of_X11_beginWalk (fun G hG => s_X11_beginWalk_0 hG ?_)
  simp only [b_X11_beginWalk_0, o_c, o_il, o_al, o_is, o_as, o_inc, o_add, o_sub, o_mul, o_and, o_or, o_xor, o_shl, o_shr, o_ush, o_rem, o_dup, o_dup2, o_gf, o_pf, o_pz, o_iald, o_iast, o_zald, o_zast, o_aald, o_gs, o_min, o_acp, o_call, o_callv, zgf, zpf, zia_, zza_, zra_, zrd_, zcp_, zpop, zsm8_0, zsm8_1, zsm8_2, zsm8_3, zsm8_4, zsm8_5, zrc, zisob, t_ieq, t_ilt, t_igt, t_zeq, t_zlt, t_zgt, t_sw, zsw, t_iret, t_zret, t_aret, t_vret, zrg, List.getElem?_cons_zero, List.getElem?_cons_succ, List.set_cons_zero, List.set_cons_succ, List.length_cons, List.length_nil, Option.toList_some, Option.toList_none, List.nil_append, List.cons_append, true_and, and_true, true_or, or_true, Int.cast_ofNat_Int, Int.natCast_zero, Int.natCast_one, zsh_56, zsh_57, zsh_58, zsh_59, zsh_60, zsh_61, zsh_62, zsh_63, zsh_64, zsh_65, zsh_66, zsh_67, zsh_68, zsh_69, zsh_70, zsh_71, zsh_72, zsh_73, zsh_74, zsh_75, zsh_76, zsh_77, zsh_78, zsh_79, zsh_80, zsh_81, zsh_82, zsh_83, zsh_84, zsh_85, zsh_86, zsh_87, zup_ne, zup_eq, zup_nf, ne_eq, not_false_eq_true]
  have f0 : zF [] [30, 34] μ (zup (zup μ 56 30 0) 56 34 0) := ((zF.refl _ _ _).v (by simp)).v (by simp)
  exact ⟨by simp [zup], f0⟩
theorem zmS.nil {μ : zM} {L : List zBk} (h1 : μ 56 30 = 0) (h2 : μ 56 34 = 0) : zmS μ L [] := ⟨⟨by simpa using h1, fun j x hj => by simp at hj⟩, ⟨by simpa [zmis] using h2, fun j x hj => by simp [zmis] at hj⟩, fun x hx => by simp at hx⟩
set_option maxRecDepth 100000 in
set_option maxHeartbeats 4000000 in
theorem c_X11_findMissing {d s : Nat} {μ : zM} {x : zStt} (hd : 4 ≤ d) (h : zmD μ s x) (hs : s < 3) (hV : zVS x) : zCt d mX11_findMissing [.inr (some 56), .inl (s : Int)] μ (fun v μ' => v = none ∧ zmS μ' x.1 (zsee x.1 x.2.2.2.2) ∧ (μ' 56 34 = ((zms x).length : Nat) ∧ zAR μ' 83 (zms x) ∧ zNm (zms x) ∧ (zms x).length ≤ 300) ∧ zF [61, 81, 82, 83] [30, 32, 34] μ μ') := by
  have hl64 := h.1.2.1
  refine of_X11_findMissing (by omega) (fun G hG => s_X11_findMissing_0 hG ?_)
  simp only [b_X11_findMissing_0, o_c, o_il, o_al, o_is, o_as, o_inc, o_add, o_sub, o_mul, o_and, o_or, o_xor, o_shl, o_shr, o_ush, o_rem, o_dup, o_dup2, o_gf, o_pf, o_pz, o_iald, o_iast, o_zald, o_zast, o_aald, o_gs, o_min, o_acp, o_call, o_callv, zgf, zpf, zia_, zza_, zra_, zrd_, zcp_, zpop, zsm8_0, zsm8_1, zsm8_2, zsm8_3, zsm8_4, zsm8_5, zrc, zisob, t_ieq, t_ilt, t_igt, t_zeq, t_zlt, t_zgt, t_sw, zsw, t_iret, t_zret, t_aret, t_vret, zrg, List.getElem?_cons_zero, List.getElem?_cons_succ, List.set_cons_zero, List.set_cons_succ, List.length_cons, List.length_nil, Option.toList_some, Option.toList_none, List.nil_append, List.cons_append, true_and, and_true, true_or, or_true, Int.cast_ofNat_Int, Int.natCast_zero, Int.natCast_one, zsh_56, zsh_57, zsh_58, zsh_59, zsh_60, zsh_61, zsh_62, zsh_63, zsh_64, zsh_65, zsh_66, zsh_67, zsh_68, zsh_69, zsh_70, zsh_71, zsh_72, zsh_73, zsh_74, zsh_75, zsh_76, zsh_77, zsh_78, zsh_79, zsh_80, zsh_81, zsh_82, zsh_83, zsh_84, zsh_85, zsh_86, zsh_87, zup_ne, zup_eq, zup_nf, ne_eq, not_false_eq_true]
  refine ⟨_, c_X11_beginWalk, ?_⟩
  rintro v μ1 ⟨rfl, b1, b2, b3⟩
  simp only [b_X11_findMissing_0, o_c, o_il, o_al, o_is, o_as, o_inc, o_add, o_sub, o_mul, o_and, o_or, o_xor, o_shl, o_shr, o_ush, o_rem, o_dup, o_dup2, o_gf, o_pf, o_pz, o_iald, o_iast, o_zald, o_zast, o_aald, o_gs, o_min, o_acp, o_call, o_callv, zgf, zpf, zia_, zza_, zra_, zrd_, zcp_, zpop, zsm8_0, zsm8_1, zsm8_2, zsm8_3, zsm8_4, zsm8_5, zrc, zisob, t_ieq, t_ilt, t_igt, t_zeq, t_zlt, t_zgt, t_sw, zsw, t_iret, t_zret, t_aret, t_vret, zrg, List.getElem?_cons_zero, List.getElem?_cons_succ, List.set_cons_zero, List.set_cons_succ, List.length_cons, List.length_nil, Option.toList_some, Option.toList_none, List.nil_append, List.cons_append, true_and, and_true, true_or, or_true, Int.cast_ofNat_Int, Int.natCast_zero, Int.natCast_one, zsh_56, zsh_57, zsh_58, zsh_59, zsh_60, zsh_61, zsh_62, zsh_63, zsh_64, zsh_65, zsh_66, zsh_67, zsh_68, zsh_69, zsh_70, zsh_71, zsh_72, zsh_73, zsh_74, zsh_75, zsh_76, zsh_77, zsh_78, zsh_79, zsh_80, zsh_81, zsh_82, zsh_83, zsh_84, zsh_85, zsh_86, zsh_87, zup_ne, zup_eq, zup_nf, ne_eq, not_false_eq_true]
  refine ⟨by omega, ?_⟩
  have e66 : μ1 66 s = x.2.2.2.2 := by rw [b3.1 66 (by simp) (by decide)]; exact h.2.2.2.2.1
  rw [e66]
  have hus := zun_le x.1 []
  refine ⟨_, c_X11_walk (K := 256) (by omega) (h.1.f b3 (by simp)) hs hV.1 hV.2 (zmS.nil b1 b2) h.2.2.2.2.2.2.2 (by simp; omega) (by omega), ?_⟩
  rintro v μ2 ⟨rfl, g1, g2, g3, g4⟩
  simp only [b_X11_findMissing_0, o_c, o_il, o_al, o_is, o_as, o_inc, o_add, o_sub, o_mul, o_and, o_or, o_xor, o_shl, o_shr, o_ush, o_rem, o_dup, o_dup2, o_gf, o_pf, o_pz, o_iald, o_iast, o_zald, o_zast, o_aald, o_gs, o_min, o_acp, o_call, o_callv, zgf, zpf, zia_, zza_, zra_, zrd_, zcp_, zpop, zsm8_0, zsm8_1, zsm8_2, zsm8_3, zsm8_4, zsm8_5, zrc, zisob, t_ieq, t_ilt, t_igt, t_zeq, t_zlt, t_zgt, t_sw, zsw, t_iret, t_zret, t_aret, t_vret, zrg, List.getElem?_cons_zero, List.getElem?_cons_succ, List.set_cons_zero, List.set_cons_succ, List.length_cons, List.length_nil, Option.toList_some, Option.toList_none, List.nil_append, List.cons_append, true_and, and_true, true_or, or_true, Int.cast_ofNat_Int, Int.natCast_zero, Int.natCast_one, zsh_56, zsh_57, zsh_58, zsh_59, zsh_60, zsh_61, zsh_62, zsh_63, zsh_64, zsh_65, zsh_66, zsh_67, zsh_68, zsh_69, zsh_70, zsh_71, zsh_72, zsh_73, zsh_74, zsh_75, zsh_76, zsh_77, zsh_78, zsh_79, zsh_80, zsh_81, zsh_82, zsh_83, zsh_84, zsh_85, zsh_86, zsh_87, zup_ne, zup_eq, zup_nf, ne_eq, not_false_eq_true]
  have g1 : zmS μ2 x.1 (zsee x.1 x.2.2.2.2) := g1
  refine ⟨g1, ⟨g1.2.1.1, g1.2.1.2, fun y hy => g1.2.2 y (List.mem_filter.mp hy).1, ?_⟩, (b3.mono (by simp) (by simp)).trans g2⟩
  have := zmis_le x.1 (zsee x.1 x.2.2.2.2)
  have h9 := zsee_len x.1 x.2.2.2.2
  unfold zms
  omega
set_option maxRecDepth 100000 in
set_option maxHeartbeats 4000000 in
theorem c_X11_settle {d s : Nat} {μ : zM} {B : List Int} {T : List zPp} {Ms : List zMg} {Sm : Nat → zStt} (hd : 5 ≤ d) (h : zRN μ B T Ms Sm) (hs : s < 3) (hV : zVS (Sm s)) : zCt d mX11_settle [.inr (some 56), .inl (s : Int)] μ (fun v μ' => v = none ∧ zRN μ' B T Ms (zSu Sm s (zwst (Sm s))) ∧ zF [61, 65, 81, 82, 83] [30, 32, 34] μ μ') := by
  have h4 := h.2.2.2 s hs
  have e65 := h4.2.2.1
  have hr := h4.2.2.2.2.2
  refine of_X11_settle (by omega) (fun G hG => s_X11_settle_0 hG ?_)
  simp only [b_X11_settle_0, b_X11_settle_10, b_X11_settle_11, b_X11_settle_23, b_X11_settle_30, o_c, o_il, o_al, o_is, o_as, o_inc, o_add, o_sub, o_mul, o_and, o_or, o_xor, o_shl, o_shr, o_ush, o_rem, o_dup, o_dup2, o_gf, o_pf, o_pz, o_iald, o_iast, o_zald, o_zast, o_aald, o_gs, o_min, o_acp, o_call, o_callv, zgf, zpf, zia_, zza_, zra_, zrd_, zcp_, zpop, zsm8_0, zsm8_1, zsm8_2, zsm8_3, zsm8_4, zsm8_5, zrc, zisob, t_ieq, t_ilt, t_igt, t_zeq, t_zlt, t_zgt, t_sw, zsw, t_iret, t_zret, t_aret, t_vret, zrg, List.getElem?_cons_zero, List.getElem?_cons_succ, List.set_cons_zero, List.set_cons_succ, List.length_cons, List.length_nil, Option.toList_some, Option.toList_none, List.nil_append, List.cons_append, true_and, and_true, true_or, or_true, Int.cast_ofNat_Int, Int.natCast_zero, Int.natCast_one, zsh_56, zsh_57, zsh_58, zsh_59, zsh_60, zsh_61, zsh_62, zsh_63, zsh_64, zsh_65, zsh_66, zsh_67, zsh_68, zsh_69, zsh_70, zsh_71, zsh_72, zsh_73, zsh_74, zsh_75, zsh_76, zsh_77, zsh_78, zsh_79, zsh_80, zsh_81, zsh_82, zsh_83, zsh_84, zsh_85, zsh_86, zsh_87, zup_ne, zup_eq, zup_nf, ne_eq, not_false_eq_true]
  rw [e65]
  refine ⟨by omega, by omega, by omega, fun w => ?_, fun w => ?_⟩
  · refine ⟨_, c_X11_findMissing (by omega) h4 hs hV, ?_⟩
    rintro v μ1 ⟨rfl, b1, b2, b3⟩
    simp only [b_X11_settle_0, b_X11_settle_10, b_X11_settle_11, b_X11_settle_23, b_X11_settle_30, o_c, o_il, o_al, o_is, o_as, o_inc, o_add, o_sub, o_mul, o_and, o_or, o_xor, o_shl, o_shr, o_ush, o_rem, o_dup, o_dup2, o_gf, o_pf, o_pz, o_iald, o_iast, o_zald, o_zast, o_aald, o_gs, o_min, o_acp, o_call, o_callv, zgf, zpf, zia_, zza_, zra_, zrd_, zcp_, zpop, zsm8_0, zsm8_1, zsm8_2, zsm8_3, zsm8_4, zsm8_5, zrc, zisob, t_ieq, t_ilt, t_igt, t_zeq, t_zlt, t_zgt, t_sw, zsw, t_iret, t_zret, t_aret, t_vret, zrg, List.getElem?_cons_zero, List.getElem?_cons_succ, List.set_cons_zero, List.set_cons_succ, List.length_cons, List.length_nil, Option.toList_some, Option.toList_none, List.nil_append, List.cons_append, true_and, and_true, true_or, or_true, Int.cast_ofNat_Int, Int.natCast_zero, Int.natCast_one, zsh_56, zsh_57, zsh_58, zsh_59, zsh_60, zsh_61, zsh_62, zsh_63, zsh_64, zsh_65, zsh_66, zsh_67, zsh_68, zsh_69, zsh_70, zsh_71, zsh_72, zsh_73, zsh_74, zsh_75, zsh_76, zsh_77, zsh_78, zsh_79, zsh_80, zsh_81, zsh_82, zsh_83, zsh_84, zsh_85, zsh_86, zsh_87, zup_ne, zup_eq, zup_nf, ne_eq, not_false_eq_true]
    rw [b2.1]
    have hl3 := b2.2.2.2
    refine ⟨by omega, fun w2 => ⟨by omega, ?_⟩, fun w2 => ?_⟩
    · have hz : zms (Sm s) = [] := List.length_eq_zero_iff.mp (by omega)
      have e : zwst (Sm s) = ((Sm s).1, (Sm s).2.1, (2, (Sm s).2.2.2.1, (Sm s).2.2.2.2)) := by
        unfold zwst zwfs
        rw [if_pos ⟨w, hz⟩]
      have f2 : zF [61, 65, 81, 82, 83] [30, 32, 34] μ (zup μ1 65 s 2) := (b3.mono (by simp) (by simp)).u (by simp) (by decide)
      rw [e]
      refine ⟨h.ft ⟨zup_eq, ?_, ?_, by omega, hr.2.1, hr.2.2⟩ f2 (by simp) (by simp) (fun t ht => ?_), f2⟩
      · rw [zup_ne _ (by decide), b3.1 67 (by simp) (by decide)]; exact h4.2.2.2.1
      · rw [zup_ne _ (by decide), b3.1 66 (by simp) (by decide)]; exact h4.2.2.2.2.1
      · rw [zup_nf ht, zup_ne _ (by decide), zup_ne _ (by decide), b3.1 65 (by simp) (by decide), b3.1 66 (by simp) (by decide), b3.1 67 (by simp) (by decide)]
        exact ⟨rfl, rfl, rfl⟩
    · have e : zwst (Sm s) = Sm s := zrnI.w (fun _ hz => by rw [hz] at w2; simp at w2)
      rw [e, zSu_id]
      exact ⟨h.f b3 (by simp) (by simp), b3.mono (by simp) (by simp)⟩
  · have e : zwst (Sm s) = Sm s := zrnI.w (fun q => absurd q w)
    rw [e, zSu_id]
    exact ⟨h, zF.refl _ _ _⟩
set_option maxRecDepth 100000 in
set_option maxHeartbeats 4000000 in
theorem c_X11_clear {d : Nat} {μ : zM} {B : List Int} {T : List zPp} {Ms : List zMg} {Sm : Nat → zStt} (h : zRN μ B T Ms Sm) : zCt d mX11_clear [.inr (some 56)] μ (fun v μ' => v = none ∧ zRN μ' [] [] Ms Sm ∧ zlo μ μ') := by
  refine of_X11_clear (fun G hG => s_X11_clear_0 hG ?_)
  simp only [b_X11_clear_0, o_c, o_il, o_al, o_is, o_as, o_inc, o_add, o_sub, o_mul, o_and, o_or, o_xor, o_shl, o_shr, o_ush, o_rem, o_dup, o_dup2, o_gf, o_pf, o_pz, o_iald, o_iast, o_zald, o_zast, o_aald, o_gs, o_min, o_acp, o_call, o_callv, zgf, zpf, zia_, zza_, zra_, zrd_, zcp_, zpop, zsm8_0, zsm8_1, zsm8_2, zsm8_3, zsm8_4, zsm8_5, zrc, zisob, t_ieq, t_ilt, t_igt, t_zeq, t_zlt, t_zgt, t_sw, zsw, t_iret, t_zret, t_aret, t_vret, zrg, List.getElem?_cons_zero, List.getElem?_cons_succ, List.set_cons_zero, List.set_cons_succ, List.length_cons, List.length_nil, Option.toList_some, Option.toList_none, List.nil_append, List.cons_append, true_and, and_true, true_or, or_true, Int.cast_ofNat_Int, Int.natCast_zero, Int.natCast_one, zsh_56, zsh_57, zsh_58, zsh_59, zsh_60, zsh_61, zsh_62, zsh_63, zsh_64, zsh_65, zsh_66, zsh_67, zsh_68, zsh_69, zsh_70, zsh_71, zsh_72, zsh_73, zsh_74, zsh_75, zsh_76, zsh_77, zsh_78, zsh_79, zsh_80, zsh_81, zsh_82, zsh_83, zsh_84, zsh_85, zsh_86, zsh_87, zup_ne, zup_eq, zup_nf, ne_eq, not_false_eq_true]
  have e : ∀ c, 57 ≤ c → zup (zup μ 56 18 0) 56 20 0 c = μ c := fun c hc => by rw [zup_ne _ (by omega), zup_ne _ (by omega)]
  refine ⟨⟨⟨by rw [zup_nf (by decide), zup_eq]; rfl, by simp, fun j x hj => by simp at hj, by simp⟩, ⟨by rw [zup_eq]; rfl, by simp, fun j x hj => by simp at hj, fun j x hj => by simp at hj, by simp⟩, h.2.2.1.e (fun c h1 h2 => e c (by omega)) (by rw [zup_nf (by decide), zup_nf (by decide)]), fun s hs => (h.2.2.2 s hs).e (fun c h1 h2 h3 => e c (by omega))⟩, fun c hc => by rw [zup_ne _ (by omega), zup_ne _ (by omega)]⟩
set_option maxRecDepth 100000 in
set_option maxHeartbeats 4000000 in
theorem c_X11_blocks {d : Nat} {μ : zM} {B : List Int} {T : List zPp} {Ms : List zMg} {Sm : Nat → zStt} {store : Int} (hd : 1 ≤ d) (h : zRN μ B T Ms Sm) (hs : zrg store) : zCt d mX11_blocks [.inr (some 56), .inl store] μ (zR (.inl (if 0 ≤ store ∧ store ≤ 2 then ((Sm store.toNat).1.length : Int) else -1)) μ) := by
  by_cases hc : 0 ≤ store ∧ store ≤ 2
  · rw [if_pos hc]
    obtain ⟨s, rfl, h3⟩ := zs3 hc
    rw [Int.toNat_natCast]
    refine of_X11_blocks hd (fun G hG => s_X11_blocks_0 hG ?_)
    simp only [b_X11_blocks_0, b_X11_blocks_7, b_X11_blocks_16, b_X11_blocks_17, o_c, o_il, o_al, o_is, o_as, o_inc, o_add, o_sub, o_mul, o_and, o_or, o_xor, o_shl, o_shr, o_ush, o_rem, o_dup, o_dup2, o_gf, o_pf, o_pz, o_iald, o_iast, o_zald, o_zast, o_aald, o_gs, o_min, o_acp, o_call, o_callv, zgf, zpf, zia_, zza_, zra_, zrd_, zcp_, zpop, zsm8_0, zsm8_1, zsm8_2, zsm8_3, zsm8_4, zsm8_5, zrc, zisob, t_ieq, t_ilt, t_igt, t_zeq, t_zlt, t_zgt, t_sw, zsw, t_iret, t_zret, t_aret, t_vret, zrg, List.getElem?_cons_zero, List.getElem?_cons_succ, List.set_cons_zero, List.set_cons_succ, List.length_cons, List.length_nil, Option.toList_some, Option.toList_none, List.nil_append, List.cons_append, true_and, and_true, true_or, or_true, Int.cast_ofNat_Int, Int.natCast_zero, Int.natCast_one, zsh_56, zsh_57, zsh_58, zsh_59, zsh_60, zsh_61, zsh_62, zsh_63, zsh_64, zsh_65, zsh_66, zsh_67, zsh_68, zsh_69, zsh_70, zsh_71, zsh_72, zsh_73, zsh_74, zsh_75, zsh_76, zsh_77, zsh_78, zsh_79, zsh_80, zsh_81, zsh_82, zsh_83, zsh_84, zsh_85, zsh_86, zsh_87, zup_ne, zup_eq, zup_nf, ne_eq, not_false_eq_true]
    refine zcall (c_X11_isStore hs) ?_
    rw [zb_t hc]
    simp only [b_X11_blocks_0, b_X11_blocks_7, b_X11_blocks_16, b_X11_blocks_17, o_c, o_il, o_al, o_is, o_as, o_inc, o_add, o_sub, o_mul, o_and, o_or, o_xor, o_shl, o_shr, o_ush, o_rem, o_dup, o_dup2, o_gf, o_pf, o_pz, o_iald, o_iast, o_zald, o_zast, o_aald, o_gs, o_min, o_acp, o_call, o_callv, zgf, zpf, zia_, zza_, zra_, zrd_, zcp_, zpop, zsm8_0, zsm8_1, zsm8_2, zsm8_3, zsm8_4, zsm8_5, zrc, zisob, t_ieq, t_ilt, t_igt, t_zeq, t_zlt, t_zgt, t_sw, zsw, t_iret, t_zret, t_aret, t_vret, zrg, List.getElem?_cons_zero, List.getElem?_cons_succ, List.set_cons_zero, List.set_cons_succ, List.length_cons, List.length_nil, Option.toList_some, Option.toList_none, List.nil_append, List.cons_append, true_and, and_true, true_or, or_true, Int.cast_ofNat_Int, Int.natCast_zero, Int.natCast_one, zsh_56, zsh_57, zsh_58, zsh_59, zsh_60, zsh_61, zsh_62, zsh_63, zsh_64, zsh_65, zsh_66, zsh_67, zsh_68, zsh_69, zsh_70, zsh_71, zsh_72, zsh_73, zsh_74, zsh_75, zsh_76, zsh_77, zsh_78, zsh_79, zsh_80, zsh_81, zsh_82, zsh_83, zsh_84, zsh_85, zsh_86, zsh_87, zup_ne, zup_eq, zup_nf, ne_eq, not_false_eq_true]
    refine ⟨by omega, fun w => by omega, fun _ => ⟨by omega, ?_⟩⟩
    rw [(h.2.2.2 s h3).1.1]
    exact ⟨rfl, rfl⟩
  · rw [if_neg hc]
    refine of_X11_blocks hd (fun G hG => s_X11_blocks_0 hG ?_)
    simp only [b_X11_blocks_0, b_X11_blocks_7, b_X11_blocks_16, b_X11_blocks_17, o_c, o_il, o_al, o_is, o_as, o_inc, o_add, o_sub, o_mul, o_and, o_or, o_xor, o_shl, o_shr, o_ush, o_rem, o_dup, o_dup2, o_gf, o_pf, o_pz, o_iald, o_iast, o_zald, o_zast, o_aald, o_gs, o_min, o_acp, o_call, o_callv, zgf, zpf, zia_, zza_, zra_, zrd_, zcp_, zpop, zsm8_0, zsm8_1, zsm8_2, zsm8_3, zsm8_4, zsm8_5, zrc, zisob, t_ieq, t_ilt, t_igt, t_zeq, t_zlt, t_zgt, t_sw, zsw, t_iret, t_zret, t_aret, t_vret, zrg, List.getElem?_cons_zero, List.getElem?_cons_succ, List.set_cons_zero, List.set_cons_succ, List.length_cons, List.length_nil, Option.toList_some, Option.toList_none, List.nil_append, List.cons_append, true_and, and_true, true_or, or_true, Int.cast_ofNat_Int, Int.natCast_zero, Int.natCast_one, zsh_56, zsh_57, zsh_58, zsh_59, zsh_60, zsh_61, zsh_62, zsh_63, zsh_64, zsh_65, zsh_66, zsh_67, zsh_68, zsh_69, zsh_70, zsh_71, zsh_72, zsh_73, zsh_74, zsh_75, zsh_76, zsh_77, zsh_78, zsh_79, zsh_80, zsh_81, zsh_82, zsh_83, zsh_84, zsh_85, zsh_86, zsh_87, zup_ne, zup_eq, zup_nf, ne_eq, not_false_eq_true]
    refine zcall (c_X11_isStore hs) ?_
    rw [zb_f (P := 0 ≤ store ∧ store ≤ 2) hc]
    simp only [b_X11_blocks_0, b_X11_blocks_7, b_X11_blocks_16, b_X11_blocks_17, o_c, o_il, o_al, o_is, o_as, o_inc, o_add, o_sub, o_mul, o_and, o_or, o_xor, o_shl, o_shr, o_ush, o_rem, o_dup, o_dup2, o_gf, o_pf, o_pz, o_iald, o_iast, o_zald, o_zast, o_aald, o_gs, o_min, o_acp, o_call, o_callv, zgf, zpf, zia_, zza_, zra_, zrd_, zcp_, zpop, zsm8_0, zsm8_1, zsm8_2, zsm8_3, zsm8_4, zsm8_5, zrc, zisob, t_ieq, t_ilt, t_igt, t_zeq, t_zlt, t_zgt, t_sw, zsw, t_iret, t_zret, t_aret, t_vret, zrg, List.getElem?_cons_zero, List.getElem?_cons_succ, List.set_cons_zero, List.set_cons_succ, List.length_cons, List.length_nil, Option.toList_some, Option.toList_none, List.nil_append, List.cons_append, true_and, and_true, true_or, or_true, Int.cast_ofNat_Int, Int.natCast_zero, Int.natCast_one, zsh_56, zsh_57, zsh_58, zsh_59, zsh_60, zsh_61, zsh_62, zsh_63, zsh_64, zsh_65, zsh_66, zsh_67, zsh_68, zsh_69, zsh_70, zsh_71, zsh_72, zsh_73, zsh_74, zsh_75, zsh_76, zsh_77, zsh_78, zsh_79, zsh_80, zsh_81, zsh_82, zsh_83, zsh_84, zsh_85, zsh_86, zsh_87, zup_ne, zup_eq, zup_nf, ne_eq, not_false_eq_true]
    exact ⟨by omega, fun _ => ⟨rfl, rfl⟩, fun w => absurd trivial w⟩
set_option maxRecDepth 100000 in
set_option maxHeartbeats 4000000 in
theorem c_X11_state {d : Nat} {μ : zM} {B : List Int} {T : List zPp} {Ms : List zMg} {Sm : Nat → zStt} {store : Int} (hd : 1 ≤ d) (h : zRN μ B T Ms Sm) (hs : zrg store) : zCt d mX11_state [.inr (some 56), .inl store] μ (zR (.inl (if 0 ≤ store ∧ store ≤ 2 then (Sm store.toNat).2.2.1 else -1)) μ) := by
  by_cases hc : 0 ≤ store ∧ store ≤ 2
  · rw [if_pos hc]
    obtain ⟨s, rfl, h3⟩ := zs3 hc
    rw [Int.toNat_natCast]
    refine of_X11_state hd (fun G hG => s_X11_state_0 hG ?_)
    simp only [b_X11_state_0, b_X11_state_7, b_X11_state_16, b_X11_state_17, o_c, o_il, o_al, o_is, o_as, o_inc, o_add, o_sub, o_mul, o_and, o_or, o_xor, o_shl, o_shr, o_ush, o_rem, o_dup, o_dup2, o_gf, o_pf, o_pz, o_iald, o_iast, o_zald, o_zast, o_aald, o_gs, o_min, o_acp, o_call, o_callv, zgf, zpf, zia_, zza_, zra_, zrd_, zcp_, zpop, zsm8_0, zsm8_1, zsm8_2, zsm8_3, zsm8_4, zsm8_5, zrc, zisob, t_ieq, t_ilt, t_igt, t_zeq, t_zlt, t_zgt, t_sw, zsw, t_iret, t_zret, t_aret, t_vret, zrg, List.getElem?_cons_zero, List.getElem?_cons_succ, List.set_cons_zero, List.set_cons_succ, List.length_cons, List.length_nil, Option.toList_some, Option.toList_none, List.nil_append, List.cons_append, true_and, and_true, true_or, or_true, Int.cast_ofNat_Int, Int.natCast_zero, Int.natCast_one, zsh_56, zsh_57, zsh_58, zsh_59, zsh_60, zsh_61, zsh_62, zsh_63, zsh_64, zsh_65, zsh_66, zsh_67, zsh_68, zsh_69, zsh_70, zsh_71, zsh_72, zsh_73, zsh_74, zsh_75, zsh_76, zsh_77, zsh_78, zsh_79, zsh_80, zsh_81, zsh_82, zsh_83, zsh_84, zsh_85, zsh_86, zsh_87, zup_ne, zup_eq, zup_nf, ne_eq, not_false_eq_true]
    refine zcall (c_X11_isStore hs) ?_
    rw [zb_t hc]
    simp only [b_X11_state_0, b_X11_state_7, b_X11_state_16, b_X11_state_17, o_c, o_il, o_al, o_is, o_as, o_inc, o_add, o_sub, o_mul, o_and, o_or, o_xor, o_shl, o_shr, o_ush, o_rem, o_dup, o_dup2, o_gf, o_pf, o_pz, o_iald, o_iast, o_zald, o_zast, o_aald, o_gs, o_min, o_acp, o_call, o_callv, zgf, zpf, zia_, zza_, zra_, zrd_, zcp_, zpop, zsm8_0, zsm8_1, zsm8_2, zsm8_3, zsm8_4, zsm8_5, zrc, zisob, t_ieq, t_ilt, t_igt, t_zeq, t_zlt, t_zgt, t_sw, zsw, t_iret, t_zret, t_aret, t_vret, zrg, List.getElem?_cons_zero, List.getElem?_cons_succ, List.set_cons_zero, List.set_cons_succ, List.length_cons, List.length_nil, Option.toList_some, Option.toList_none, List.nil_append, List.cons_append, true_and, and_true, true_or, or_true, Int.cast_ofNat_Int, Int.natCast_zero, Int.natCast_one, zsh_56, zsh_57, zsh_58, zsh_59, zsh_60, zsh_61, zsh_62, zsh_63, zsh_64, zsh_65, zsh_66, zsh_67, zsh_68, zsh_69, zsh_70, zsh_71, zsh_72, zsh_73, zsh_74, zsh_75, zsh_76, zsh_77, zsh_78, zsh_79, zsh_80, zsh_81, zsh_82, zsh_83, zsh_84, zsh_85, zsh_86, zsh_87, zup_ne, zup_eq, zup_nf, ne_eq, not_false_eq_true]
    refine ⟨by omega, fun w => by omega, fun _ => ⟨by omega, ?_⟩⟩
    rw [(h.2.2.2 s h3).2.2.1]
    exact ⟨rfl, rfl⟩
  · rw [if_neg hc]
    refine of_X11_state hd (fun G hG => s_X11_state_0 hG ?_)
    simp only [b_X11_state_0, b_X11_state_7, b_X11_state_16, b_X11_state_17, o_c, o_il, o_al, o_is, o_as, o_inc, o_add, o_sub, o_mul, o_and, o_or, o_xor, o_shl, o_shr, o_ush, o_rem, o_dup, o_dup2, o_gf, o_pf, o_pz, o_iald, o_iast, o_zald, o_zast, o_aald, o_gs, o_min, o_acp, o_call, o_callv, zgf, zpf, zia_, zza_, zra_, zrd_, zcp_, zpop, zsm8_0, zsm8_1, zsm8_2, zsm8_3, zsm8_4, zsm8_5, zrc, zisob, t_ieq, t_ilt, t_igt, t_zeq, t_zlt, t_zgt, t_sw, zsw, t_iret, t_zret, t_aret, t_vret, zrg, List.getElem?_cons_zero, List.getElem?_cons_succ, List.set_cons_zero, List.set_cons_succ, List.length_cons, List.length_nil, Option.toList_some, Option.toList_none, List.nil_append, List.cons_append, true_and, and_true, true_or, or_true, Int.cast_ofNat_Int, Int.natCast_zero, Int.natCast_one, zsh_56, zsh_57, zsh_58, zsh_59, zsh_60, zsh_61, zsh_62, zsh_63, zsh_64, zsh_65, zsh_66, zsh_67, zsh_68, zsh_69, zsh_70, zsh_71, zsh_72, zsh_73, zsh_74, zsh_75, zsh_76, zsh_77, zsh_78, zsh_79, zsh_80, zsh_81, zsh_82, zsh_83, zsh_84, zsh_85, zsh_86, zsh_87, zup_ne, zup_eq, zup_nf, ne_eq, not_false_eq_true]
    refine zcall (c_X11_isStore hs) ?_
    rw [zb_f (P := 0 ≤ store ∧ store ≤ 2) hc]
    simp only [b_X11_state_0, b_X11_state_7, b_X11_state_16, b_X11_state_17, o_c, o_il, o_al, o_is, o_as, o_inc, o_add, o_sub, o_mul, o_and, o_or, o_xor, o_shl, o_shr, o_ush, o_rem, o_dup, o_dup2, o_gf, o_pf, o_pz, o_iald, o_iast, o_zald, o_zast, o_aald, o_gs, o_min, o_acp, o_call, o_callv, zgf, zpf, zia_, zza_, zra_, zrd_, zcp_, zpop, zsm8_0, zsm8_1, zsm8_2, zsm8_3, zsm8_4, zsm8_5, zrc, zisob, t_ieq, t_ilt, t_igt, t_zeq, t_zlt, t_zgt, t_sw, zsw, t_iret, t_zret, t_aret, t_vret, zrg, List.getElem?_cons_zero, List.getElem?_cons_succ, List.set_cons_zero, List.set_cons_succ, List.length_cons, List.length_nil, Option.toList_some, Option.toList_none, List.nil_append, List.cons_append, true_and, and_true, true_or, or_true, Int.cast_ofNat_Int, Int.natCast_zero, Int.natCast_one, zsh_56, zsh_57, zsh_58, zsh_59, zsh_60, zsh_61, zsh_62, zsh_63, zsh_64, zsh_65, zsh_66, zsh_67, zsh_68, zsh_69, zsh_70, zsh_71, zsh_72, zsh_73, zsh_74, zsh_75, zsh_76, zsh_77, zsh_78, zsh_79, zsh_80, zsh_81, zsh_82, zsh_83, zsh_84, zsh_85, zsh_86, zsh_87, zup_ne, zup_eq, zup_nf, ne_eq, not_false_eq_true]
    exact ⟨by omega, fun _ => ⟨rfl, rfl⟩, fun w => absurd trivial w⟩
set_option maxRecDepth 100000 in
set_option maxHeartbeats 4000000 in
theorem c_X11_waiting {d : Nat} {μ : zM} {B : List Int} {T : List zPp} {Ms : List zMg} {Sm : Nat → zStt} (h : zRN μ B T Ms Sm) : zCt d mX11_waiting [.inr (some 56)] μ (zR (.inl (Ms.length : Int)) μ) := by
  refine of_X11_waiting (fun G hG => s_X11_waiting_0 hG ?_)
  simp only [b_X11_waiting_0, o_c, o_il, o_al, o_is, o_as, o_inc, o_add, o_sub, o_mul, o_and, o_or, o_xor, o_shl, o_shr, o_ush, o_rem, o_dup, o_dup2, o_gf, o_pf, o_pz, o_iald, o_iast, o_zald, o_zast, o_aald, o_gs, o_min, o_acp, o_call, o_callv, zgf, zpf, zia_, zza_, zra_, zrd_, zcp_, zpop, zsm8_0, zsm8_1, zsm8_2, zsm8_3, zsm8_4, zsm8_5, zrc, zisob, t_ieq, t_ilt, t_igt, t_zeq, t_zlt, t_zgt, t_sw, zsw, t_iret, t_zret, t_aret, t_vret, zrg, List.getElem?_cons_zero, List.getElem?_cons_succ, List.set_cons_zero, List.set_cons_succ, List.length_cons, List.length_nil, Option.toList_some, Option.toList_none, List.nil_append, List.cons_append, true_and, and_true, true_or, or_true, Int.cast_ofNat_Int, Int.natCast_zero, Int.natCast_one, zsh_56, zsh_57, zsh_58, zsh_59, zsh_60, zsh_61, zsh_62, zsh_63, zsh_64, zsh_65, zsh_66, zsh_67, zsh_68, zsh_69, zsh_70, zsh_71, zsh_72, zsh_73, zsh_74, zsh_75, zsh_76, zsh_77, zsh_78, zsh_79, zsh_80, zsh_81, zsh_82, zsh_83, zsh_84, zsh_85, zsh_86, zsh_87, zup_ne, zup_eq, zup_nf, ne_eq, not_false_eq_true]
  rw [h.2.2.1.1]
  exact ⟨rfl, rfl⟩
