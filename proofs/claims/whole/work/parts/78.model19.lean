/-! THE REFERENCE: entries, counts -/
def zrent (t n : Int) : List zPp → List zPp
  | [] => [(t, n)]
  | p :: r => if p.1 = t then (t, n) :: r else p :: zrent t n r
theorem zrent_at (t n : Int) : ∀ (T : List zPp) (i : Nat), i ≤ T.length → (∀ (j : Nat) (p : zPp), j < i → T[j]? = some p → p.1 ≠ t) → (∀ p, T[i]? = some p → p.1 = t) → zrent t n T = if i < T.length then T.set i (t, n) else T ++ [(t, n)] := by
  intro T
  induction T with
  | nil => intro i h1 h2 h3; simp [zrent]
  | cons p r ih =>
    intro i h1 h2 h3
    cases i with
    | zero =>
      have e := h3 p rfl
      simp only [zrent]
      rw [if_pos e]
      simp
    | succ i =>
      have e := h2 0 p (by omega) rfl
      simp only [zrent]
      rw [if_neg e, ih i (by simpa using h1) (fun j q hj hq => h2 (j + 1) q (by omega) (by simpa using hq)) (fun q hq => h3 q (by simpa using hq))]
      by_cases hl : i < r.length
      · rw [if_pos hl, if_pos (by simpa using hl)]
        rfl
      · rw [if_neg hl, if_neg (by simpa using hl)]
        rfl
noncomputable def zentR (T : List zPp) (t n : Int) : List zPp := if zb (zenO T t n) = 1 then zrent t n T else T
theorem zAR.set {μ μ' : zM} {c i : Nat} {l : List Int} {x : Int} (h : zAR μ c l) (h1 : ∀ j : Int, j ≠ i → μ' c j = μ c j) (h2 : μ' c i = x) : zAR μ' c (l.set i x) := by
  intro j y hy
  by_cases e : j = i
  · subst e
    by_cases hl : j < l.length
    · rw [List.getElem?_set_self hl] at hy
      rw [h2]; exact Option.some.inj hy
    · rw [List.getElem?_eq_none (by simp; omega)] at hy
      cases hy
  · rw [List.getElem?_set_ne (fun q => e q.symm)] at hy
    rw [h1 j (by omega)]
    exact h j y hy
theorem zRN.tt {μ μ' : zM} {B : List Int} {T T' : List zPp} {Ms : List zMg} {Sm : Nat → zStt} (h : zRN μ B T Ms Sm) (ht : zmT μ' T') (f : zF [75, 76] [20] μ μ') : zRN μ' B T' Ms Sm := by
  have e : ∀ c, 57 ≤ c → c ≠ 75 → c ≠ 76 → μ' c = μ c := fun c h1 h2 h3 => f.1 c (by simp; omega) (by omega)
  exact ⟨h.1.e (e 74 (by omega) (by omega) (by omega)) (f.2 18 (by simp)), ht, h.2.2.1.e (fun c h1 h2 => e c (by omega) (by omega) (by omega)) (f.2 11 (by simp)), fun s hs => (h.2.2.2 s hs).e (fun c h1 h2 h3 => e c (by omega) (by omega) (by omega))⟩
theorem zmT.at {μ : zM} {T : List zPp} {i : Nat} {p : zPp} (h : zmT μ T) (hp : T[i]? = some p) : μ 75 i = p.1 ∧ μ 76 i = p.2 ∧ (1 ≤ p.1 ∧ p.1 ≤ 255) ∧ (0 ≤ p.2 ∧ p.2 ≤ 65520) := ⟨h.2.2.1 i _ (by simp [hp]), h.2.2.2.1 i _ (by simp [hp]), h.2.2.2.2 p (List.mem_of_getElem? hp)⟩
set_option maxRecDepth 100000 in
set_option maxHeartbeats 4000000 in
theorem c_X11_entry {d : Nat} {μ : zM} {B : List Int} {T : List zPp} {Ms : List zMg} {Sm : Nat → zStt} {t n : Int} (h : zRN μ B T Ms Sm) (ht : zrg t) (hn : zrg n) : zCt d mX11_entry [.inr (some 56), .inl t, .inl n] μ (fun v μ' => v = some (.inl (zb (zenO T t n))) ∧ zRN μ' B (zentR T t n) Ms Sm ∧ zlo μ μ') := by
  unfold zrg at ht hn
  have hT := h.2.1
  have hl16 := hT.2.1
  by_cases hok : (1 ≤ t ∧ t ≤ 255) ∧ (0 ≤ n ∧ n ≤ 65520)
  · refine of_X11_entry (fun G hG => s_X11_entry_0 hG ?_)
    have fin : ∀ i : Nat, i ≤ T.length → (∀ (j : Nat) (p : zPp), j < i → T[j]? = some p → p.1 ≠ t) → (∀ p, T[i]? = some p → p.1 = t) → G 50 [.inr (some 56), .inl t, .inl n, .inl (i : Int)] [] μ := by
      intro i k1 k2 k3
      refine s_X11_entry_50 hG ?_
      simp only [b_X11_entry_0, b_X11_entry_5, b_X11_entry_12, b_X11_entry_16, b_X11_entry_22, b_X11_entry_24, b_X11_entry_26, b_X11_entry_34, b_X11_entry_44, b_X11_entry_50, b_X11_entry_56, b_X11_entry_58, b_X11_entry_81, b_X11_entry_90, b_X11_entry_94, o_c, o_il, o_al, o_is, o_as, o_inc, o_add, o_sub, o_mul, o_and, o_or, o_xor, o_shl, o_shr, o_ush, o_rem, o_dup, o_dup2, o_gf, o_pf, o_pz, o_iald, o_iast, o_zald, o_zast, o_aald, o_gs, o_min, o_acp, o_call, o_callv, zgf, zpf, zia_, zza_, zra_, zrd_, zcp_, zpop, zsm8_0, zsm8_1, zsm8_2, zsm8_3, zsm8_4, zsm8_5, zrc, zisob, t_ieq, t_ilt, t_igt, t_zeq, t_zlt, t_zgt, t_sw, zsw, t_iret, t_zret, t_aret, t_vret, zrg, List.getElem?_cons_zero, List.getElem?_cons_succ, List.set_cons_zero, List.set_cons_succ, List.length_cons, List.length_nil, Option.toList_some, Option.toList_none, List.nil_append, List.cons_append, true_and, and_true, true_or, or_true, Int.cast_ofNat_Int, Int.natCast_zero, Int.natCast_one, zsh_56, zsh_57, zsh_58, zsh_59, zsh_60, zsh_61, zsh_62, zsh_63, zsh_64, zsh_65, zsh_66, zsh_67, zsh_68, zsh_69, zsh_70, zsh_71, zsh_72, zsh_73, zsh_74, zsh_75, zsh_76, zsh_77, zsh_78, zsh_79, zsh_80, zsh_81, zsh_82, zsh_83, zsh_84, zsh_85, zsh_86, zsh_87, zup_ne, zup_eq, zup_nf, ne_eq, not_false_eq_true]
      by_cases h16 : i = 16
      · have hno : ¬ zenO T t n := by
          rintro ⟨_, _, q | q⟩
          · obtain ⟨p, hp, e⟩ := q
            obtain ⟨j, hj⟩ := List.getElem?_of_mem hp
            exact k2 j p (by have := (List.getElem?_eq_some_iff.mp hj).1; omega) hj e
          · omega
        unfold zentR
        rw [zb_f hno, if_neg (by decide)]
        exact ⟨by omega, by omega, fun _ => ⟨rfl, h, zlo.refl _⟩, fun w => by omega⟩
      · have hyes : zenO T t n := by
          refine ⟨hok.1, hok.2, ?_⟩
          by_cases hi : i < T.length
          · exact Or.inl ⟨T[i], List.getElem_mem hi, k3 _ (List.getElem?_eq_getElem hi)⟩
          · exact Or.inr (by omega)
        have e20 : ∀ x y : Int, zup (zup μ 75 (i : Int) x) 76 (i : Int) y 56 20 = T.length := fun x y => by
          rw [zup_ne 56 (by decide), zup_ne 56 (by decide)]; exact hT.1
        unfold zentR
        rw [zb_t hyes, if_pos rfl, zrent_at t n T i k1 k2 k3]
        simp only [e20]
        have f1 : ∀ z : Int, zF [75, 76] [20] μ (zup (zup (zup μ 75 (i : Int) t) 76 (i : Int) n) 56 20 z) := fun z => (((zF.refl _ _ _).u (by simp) (by decide)).u (by simp) (by decide)).v (by simp)
        have q75 : ∀ z j : Int, zup (zup (zup μ 75 (i : Int) t) 76 (i : Int) n) 56 20 z 75 j = if j = i then t else μ 75 j := fun z j => by simp [zup]
        have q76 : ∀ z j : Int, zup (zup (zup μ 75 (i : Int) t) 76 (i : Int) n) 56 20 z 76 j = if j = i then n else μ 76 j := fun z j => by simp [zup]
        refine ⟨by omega, by omega, fun w => by omega, fun _ => ⟨by omega, by omega, by omega, by omega, fun w => ?_, fun w => ?_⟩⟩
        · rw [if_neg (by omega)]
          refine ⟨trivial, h.tt ⟨?_, by simp; omega, ?_, ?_, fun p hp => ?_⟩ (f1 _), (f1 _).lo (by simp)⟩
          · rw [zup_eq]; simp
          · rw [List.map_append]
            refine zAR.push hT.2.2.1 (fun j hj => ?_) ?_
            · rw [q75, if_neg (by simp at hj; omega)]
            · rw [q75, if_pos (by simp; omega)]
          · rw [List.map_append]
            refine zAR.push hT.2.2.2.1 (fun j hj => ?_) ?_
            · rw [q76, if_neg (by simp at hj; omega)]
            · rw [q76, if_pos (by simp; omega)]
          · rcases List.mem_append.mp hp with q | q
            · exact hT.2.2.2.2 p q
            · simp at q
              subst q
              exact hok
        · rw [if_pos (by omega)]
          refine ⟨trivial, h.tt ⟨?_, by simp; omega, ?_, ?_, fun p hp => ?_⟩ (f1 _), (f1 _).lo (by simp)⟩
          · rw [zup_eq]; simp
          · rw [List.map_set]
            refine zAR.set hT.2.2.1 (fun j hj => ?_) ?_
            · rw [q75, if_neg hj]
            · rw [q75, if_pos rfl]
          · rw [List.map_set]
            refine zAR.set hT.2.2.2.1 (fun j hj => ?_) ?_
            · rw [q76, if_neg hj]
            · rw [q76, if_pos rfl]
          · rcases List.mem_or_eq_of_mem_set hp with q | q
            · exact hT.2.2.2.2 p q
            · subst q
              exact hok
    have loop : ∀ (r i : Nat), i + r = T.length → (∀ (j : Nat) (p : zPp), j < i → T[j]? = some p → p.1 ≠ t) → G 26 [.inr (some 56), .inl t, .inl n, .inl (i : Int)] [] μ := by
      intro r
      induction r with
      | zero =>
        intro i k1 k2
        refine s_X11_entry_26 hG ?_
        simp only [b_X11_entry_0, b_X11_entry_5, b_X11_entry_12, b_X11_entry_16, b_X11_entry_22, b_X11_entry_24, b_X11_entry_26, b_X11_entry_34, b_X11_entry_44, b_X11_entry_50, b_X11_entry_56, b_X11_entry_58, b_X11_entry_81, b_X11_entry_90, b_X11_entry_94, o_c, o_il, o_al, o_is, o_as, o_inc, o_add, o_sub, o_mul, o_and, o_or, o_xor, o_shl, o_shr, o_ush, o_rem, o_dup, o_dup2, o_gf, o_pf, o_pz, o_iald, o_iast, o_zald, o_zast, o_aald, o_gs, o_min, o_acp, o_call, o_callv, zgf, zpf, zia_, zza_, zra_, zrd_, zcp_, zpop, zsm8_0, zsm8_1, zsm8_2, zsm8_3, zsm8_4, zsm8_5, zrc, zisob, t_ieq, t_ilt, t_igt, t_zeq, t_zlt, t_zgt, t_sw, zsw, t_iret, t_zret, t_aret, t_vret, zrg, List.getElem?_cons_zero, List.getElem?_cons_succ, List.set_cons_zero, List.set_cons_succ, List.length_cons, List.length_nil, Option.toList_some, Option.toList_none, List.nil_append, List.cons_append, true_and, and_true, true_or, or_true, Int.cast_ofNat_Int, Int.natCast_zero, Int.natCast_one, zsh_56, zsh_57, zsh_58, zsh_59, zsh_60, zsh_61, zsh_62, zsh_63, zsh_64, zsh_65, zsh_66, zsh_67, zsh_68, zsh_69, zsh_70, zsh_71, zsh_72, zsh_73, zsh_74, zsh_75, zsh_76, zsh_77, zsh_78, zsh_79, zsh_80, zsh_81, zsh_82, zsh_83, zsh_84, zsh_85, zsh_86, zsh_87, zup_ne, zup_eq, zup_nf, ne_eq, not_false_eq_true]
        rw [hT.1]
        exact ⟨by omega, by omega, fun w => by omega, fun _ => fin i (by omega) k2 (fun p hp => by rw [List.getElem?_eq_none (by omega)] at hp; cases hp)⟩
      | succ r ih =>
        intro i k1 k2
        have hi : i < T.length := by omega
        obtain ⟨a1, a2, a3, a4⟩ := hT.at (List.getElem?_eq_getElem hi)
        refine s_X11_entry_26 hG ?_
        simp only [b_X11_entry_0, b_X11_entry_5, b_X11_entry_12, b_X11_entry_16, b_X11_entry_22, b_X11_entry_24, b_X11_entry_26, b_X11_entry_34, b_X11_entry_44, b_X11_entry_50, b_X11_entry_56, b_X11_entry_58, b_X11_entry_81, b_X11_entry_90, b_X11_entry_94, o_c, o_il, o_al, o_is, o_as, o_inc, o_add, o_sub, o_mul, o_and, o_or, o_xor, o_shl, o_shr, o_ush, o_rem, o_dup, o_dup2, o_gf, o_pf, o_pz, o_iald, o_iast, o_zald, o_zast, o_aald, o_gs, o_min, o_acp, o_call, o_callv, zgf, zpf, zia_, zza_, zra_, zrd_, zcp_, zpop, zsm8_0, zsm8_1, zsm8_2, zsm8_3, zsm8_4, zsm8_5, zrc, zisob, t_ieq, t_ilt, t_igt, t_zeq, t_zlt, t_zgt, t_sw, zsw, t_iret, t_zret, t_aret, t_vret, zrg, List.getElem?_cons_zero, List.getElem?_cons_succ, List.set_cons_zero, List.set_cons_succ, List.length_cons, List.length_nil, Option.toList_some, Option.toList_none, List.nil_append, List.cons_append, true_and, and_true, true_or, or_true, Int.cast_ofNat_Int, Int.natCast_zero, Int.natCast_one, zsh_56, zsh_57, zsh_58, zsh_59, zsh_60, zsh_61, zsh_62, zsh_63, zsh_64, zsh_65, zsh_66, zsh_67, zsh_68, zsh_69, zsh_70, zsh_71, zsh_72, zsh_73, zsh_74, zsh_75, zsh_76, zsh_77, zsh_78, zsh_79, zsh_80, zsh_81, zsh_82, zsh_83, zsh_84, zsh_85, zsh_86, zsh_87, zup_ne, zup_eq, zup_nf, ne_eq, not_false_eq_true]
        rw [hT.1, a1]
        refine ⟨by omega, by omega, fun _ => ⟨by omega, by omega, by omega, fun w => ?_, fun w => ?_⟩, fun w => by omega⟩
        · exact fin i (by omega) k2 (fun p hp => by rw [List.getElem?_eq_getElem hi] at hp; cases hp; exact w)
        · have := ih (i + 1) (by omega) (fun j p hj hp => by
            by_cases e : j = i
            · subst e
              rw [List.getElem?_eq_getElem hi] at hp
              cases hp
              exact w
            · exact k2 j p (by omega) hp)
          rw [show (((i + 1 : Nat)) : Int) = (i : Int) + 1 by omega] at this
          exact this
    simp only [b_X11_entry_0, b_X11_entry_5, b_X11_entry_12, b_X11_entry_16, b_X11_entry_22, b_X11_entry_24, b_X11_entry_26, b_X11_entry_34, b_X11_entry_44, b_X11_entry_50, b_X11_entry_56, b_X11_entry_58, b_X11_entry_81, b_X11_entry_90, b_X11_entry_94, o_c, o_il, o_al, o_is, o_as, o_inc, o_add, o_sub, o_mul, o_and, o_or, o_xor, o_shl, o_shr, o_ush, o_rem, o_dup, o_dup2, o_gf, o_pf, o_pz, o_iald, o_iast, o_zald, o_zast, o_aald, o_gs, o_min, o_acp, o_call, o_callv, zgf, zpf, zia_, zza_, zra_, zrd_, zcp_, zpop, zsm8_0, zsm8_1, zsm8_2, zsm8_3, zsm8_4, zsm8_5, zrc, zisob, t_ieq, t_ilt, t_igt, t_zeq, t_zlt, t_zgt, t_sw, zsw, t_iret, t_zret, t_aret, t_vret, zrg, List.getElem?_cons_zero, List.getElem?_cons_succ, List.set_cons_zero, List.set_cons_succ, List.length_cons, List.length_nil, Option.toList_some, Option.toList_none, List.nil_append, List.cons_append, true_and, and_true, true_or, or_true, Int.cast_ofNat_Int, Int.natCast_zero, Int.natCast_one, zsh_56, zsh_57, zsh_58, zsh_59, zsh_60, zsh_61, zsh_62, zsh_63, zsh_64, zsh_65, zsh_66, zsh_67, zsh_68, zsh_69, zsh_70, zsh_71, zsh_72, zsh_73, zsh_74, zsh_75, zsh_76, zsh_77, zsh_78, zsh_79, zsh_80, zsh_81, zsh_82, zsh_83, zsh_84, zsh_85, zsh_86, zsh_87, zup_ne, zup_eq, zup_nf, ne_eq, not_false_eq_true]
    refine ⟨by omega, by omega, fun w => by omega, fun _ => ⟨by omega, by omega, fun w => by omega, fun _ => ⟨by omega, fun w => by omega, fun _ => ⟨by omega, by omega, fun w => by omega, fun _ => ?_⟩⟩⟩⟩
    exact loop T.length 0 (by omega) (fun j p hj => by omega)
  · have hno : ¬ zenO T t n := fun q => hok ⟨q.1, q.2.1⟩
    unfold zentR
    rw [zb_f hno, if_neg (by decide)]
    refine of_X11_entry (fun G hG => s_X11_entry_0 hG ?_)
    simp only [b_X11_entry_0, b_X11_entry_5, b_X11_entry_12, b_X11_entry_16, b_X11_entry_22, b_X11_entry_24, b_X11_entry_26, b_X11_entry_34, b_X11_entry_44, b_X11_entry_50, b_X11_entry_56, b_X11_entry_58, b_X11_entry_81, b_X11_entry_90, b_X11_entry_94, o_c, o_il, o_al, o_is, o_as, o_inc, o_add, o_sub, o_mul, o_and, o_or, o_xor, o_shl, o_shr, o_ush, o_rem, o_dup, o_dup2, o_gf, o_pf, o_pz, o_iald, o_iast, o_zald, o_zast, o_aald, o_gs, o_min, o_acp, o_call, o_callv, zgf, zpf, zia_, zza_, zra_, zrd_, zcp_, zpop, zsm8_0, zsm8_1, zsm8_2, zsm8_3, zsm8_4, zsm8_5, zrc, zisob, t_ieq, t_ilt, t_igt, t_zeq, t_zlt, t_zgt, t_sw, zsw, t_iret, t_zret, t_aret, t_vret, zrg, List.getElem?_cons_zero, List.getElem?_cons_succ, List.set_cons_zero, List.set_cons_succ, List.length_cons, List.length_nil, Option.toList_some, Option.toList_none, List.nil_append, List.cons_append, true_and, and_true, true_or, or_true, Int.cast_ofNat_Int, Int.natCast_zero, Int.natCast_one, zsh_56, zsh_57, zsh_58, zsh_59, zsh_60, zsh_61, zsh_62, zsh_63, zsh_64, zsh_65, zsh_66, zsh_67, zsh_68, zsh_69, zsh_70, zsh_71, zsh_72, zsh_73, zsh_74, zsh_75, zsh_76, zsh_77, zsh_78, zsh_79, zsh_80, zsh_81, zsh_82, zsh_83, zsh_84, zsh_85, zsh_86, zsh_87, zup_ne, zup_eq, zup_nf, ne_eq, not_false_eq_true]
    have R : zRN μ B T Ms Sm ∧ zlo μ μ := ⟨h, zlo.refl _⟩
    refine ⟨by omega, by omega, fun _ => R, fun _ => ⟨by omega, by omega, fun _ => R, fun _ => ⟨by omega, fun _ => R, fun _ => ⟨by omega, by omega, fun _ => R, fun _ => ?_⟩⟩⟩⟩
    exfalso
    apply hok
    omega
/-- the titles whose numbers have p in their lowest 2 s bits -/
def zsl (T : List zPp) (s : Nat) (p : Int) : List zPp := T.filter (fun q => decide (37 * q.1 % 256 % 4 ^ s = p))
theorem zm4 {s : Nat} (hs : s ≤ 4) (x : Int) : zand x (zshl 1 (2 * (s : Int)) - 1) = x % 4 ^ s := by
  have h : s = 0 ∨ s = 1 ∨ s = 2 ∨ s = 3 ∨ s = 4 := by omega
  rcases h with rfl | rfl | rfl | rfl | rfl
  · rw [show zshl 1 (2 * ((0 : Nat) : Int)) - 1 = 0 by decide +kernel]
    exact zand_m 0 (by omega) (by decide)
  · rw [show zshl 1 (2 * ((1 : Nat) : Int)) - 1 = 3 by decide +kernel]
    exact zand_m 2 (by omega) (by decide)
  · rw [show zshl 1 (2 * ((2 : Nat) : Int)) - 1 = 15 by decide +kernel]
    exact zand_m 4 (by omega) (by decide)
  · rw [show zshl 1 (2 * ((3 : Nat) : Int)) - 1 = 63 by decide +kernel]
    exact zand_m 6 (by omega) (by decide)
  · rw [show zshl 1 (2 * ((4 : Nat) : Int)) - 1 = 255 by decide +kernel]
    exact zand_m 8 (by omega) (by decide)
theorem zm4_rg {s : Nat} (hs : s ≤ 4) (x : Int) : 0 ≤ x % 4 ^ s ∧ x % 4 ^ s < 4 ^ s ∧ (4 : Int) ^ s ≤ 256 := by
  have h : s = 0 ∨ s = 1 ∨ s = 2 ∨ s = 3 ∨ s = 4 := by omega
  rcases h with rfl | rfl | rfl | rfl | rfl <;> simp only [Int.reducePow] <;> omega
theorem zsl_snoc {T : List zPp} {s i : Nat} {p : Int} (hi : i < T.length) : (zsl (T.take (i + 1)) s p).length = (zsl (T.take i) s p).length + if 37 * T[i].1 % 256 % 4 ^ s = p then 1 else 0 := by
  have e : T.take (i + 1) = T.take i ++ [T[i]] := by rw [List.take_succ]; simp [hi]
  rw [e]
  unfold zsl
  rw [List.filter_append]
  by_cases q : 37 * T[i].1 % 256 % 4 ^ s = p
  · simp [q]
  · simp [q]
set_option maxRecDepth 100000 in
set_option maxHeartbeats 4000000 in
theorem c_X11_countOf {d s : Nat} {μ : zM} {T : List zPp} {p : Int} (hd : 1 ≤ d) (h : zmT μ T) (hs : s ≤ 4) (hp : zrg p) : zCt d mX11_countOf [.inr (some 56), .inl (s : Int), .inl p] μ (zR (.inl ((zsl T s p).length : Int)) μ) := by
  unfold zrg at hp
  have hl := h.2.1
  refine of_X11_countOf hd (fun G hG => s_X11_countOf_0 hG ?_)
  have loop : ∀ (r i : Nat), i + r = T.length → G 5 [.inr (some 56), .inl (s : Int), .inl p, .inl ((zsl (T.take i) s p).length : Int), .inl (i : Int)] [] μ := by
    intro r
    induction r with
    | zero =>
      intro i k1
      refine s_X11_countOf_5 hG ?_
      simp only [b_X11_countOf_0, b_X11_countOf_5, b_X11_countOf_14, b_X11_countOf_37, b_X11_countOf_41, b_X11_countOf_42, b_X11_countOf_50, o_c, o_il, o_al, o_is, o_as, o_inc, o_add, o_sub, o_mul, o_and, o_or, o_xor, o_shl, o_shr, o_ush, o_rem, o_dup, o_dup2, o_gf, o_pf, o_pz, o_iald, o_iast, o_zald, o_zast, o_aald, o_gs, o_min, o_acp, o_call, o_callv, zgf, zpf, zia_, zza_, zra_, zrd_, zcp_, zpop, zsm8_0, zsm8_1, zsm8_2, zsm8_3, zsm8_4, zsm8_5, zrc, zisob, t_ieq, t_ilt, t_igt, t_zeq, t_zlt, t_zgt, t_sw, zsw, t_iret, t_zret, t_aret, t_vret, zrg, List.getElem?_cons_zero, List.getElem?_cons_succ, List.set_cons_zero, List.set_cons_succ, List.length_cons, List.length_nil, Option.toList_some, Option.toList_none, List.nil_append, List.cons_append, true_and, and_true, true_or, or_true, Int.cast_ofNat_Int, Int.natCast_zero, Int.natCast_one, zsh_56, zsh_57, zsh_58, zsh_59, zsh_60, zsh_61, zsh_62, zsh_63, zsh_64, zsh_65, zsh_66, zsh_67, zsh_68, zsh_69, zsh_70, zsh_71, zsh_72, zsh_73, zsh_74, zsh_75, zsh_76, zsh_77, zsh_78, zsh_79, zsh_80, zsh_81, zsh_82, zsh_83, zsh_84, zsh_85, zsh_86, zsh_87, zup_ne, zup_eq, zup_nf, ne_eq, not_false_eq_true]
      rw [h.1]
      refine ⟨by omega, by omega, fun w => by omega, fun _ => ?_⟩
      rw [List.take_of_length_le (by omega)]
      exact ⟨rfl, rfl⟩
    | succ r ih =>
      intro i k1
      have hi : i < T.length := by omega
      obtain ⟨a1, a2, a3, a4⟩ := h.at (List.getElem?_eq_getElem hi)
      have hn : (zsl (T.take i) s p).length ≤ 16 := by
        have : (zsl (T.take i) s p).length ≤ (T.take i).length := List.length_filter_le _ _
        simp at this
        omega
      refine s_X11_countOf_5 hG ?_
      simp only [b_X11_countOf_0, b_X11_countOf_5, b_X11_countOf_14, b_X11_countOf_37, b_X11_countOf_41, b_X11_countOf_42, b_X11_countOf_50, o_c, o_il, o_al, o_is, o_as, o_inc, o_add, o_sub, o_mul, o_and, o_or, o_xor, o_shl, o_shr, o_ush, o_rem, o_dup, o_dup2, o_gf, o_pf, o_pz, o_iald, o_iast, o_zald, o_zast, o_aald, o_gs, o_min, o_acp, o_call, o_callv, zgf, zpf, zia_, zza_, zra_, zrd_, zcp_, zpop, zsm8_0, zsm8_1, zsm8_2, zsm8_3, zsm8_4, zsm8_5, zrc, zisob, t_ieq, t_ilt, t_igt, t_zeq, t_zlt, t_zgt, t_sw, zsw, t_iret, t_zret, t_aret, t_vret, zrg, List.getElem?_cons_zero, List.getElem?_cons_succ, List.set_cons_zero, List.set_cons_succ, List.length_cons, List.length_nil, Option.toList_some, Option.toList_none, List.nil_append, List.cons_append, true_and, and_true, true_or, or_true, Int.cast_ofNat_Int, Int.natCast_zero, Int.natCast_one, zsh_56, zsh_57, zsh_58, zsh_59, zsh_60, zsh_61, zsh_62, zsh_63, zsh_64, zsh_65, zsh_66, zsh_67, zsh_68, zsh_69, zsh_70, zsh_71, zsh_72, zsh_73, zsh_74, zsh_75, zsh_76, zsh_77, zsh_78, zsh_79, zsh_80, zsh_81, zsh_82, zsh_83, zsh_84, zsh_85, zsh_86, zsh_87, zup_ne, zup_eq, zup_nf, ne_eq, not_false_eq_true]
      rw [h.1, a1]
      refine ⟨by omega, by omega, fun _ => ⟨by omega, ?_⟩, fun w => by omega⟩
      refine zcall c_X11_hash ?_
      simp only [b_X11_countOf_0, b_X11_countOf_5, b_X11_countOf_14, b_X11_countOf_37, b_X11_countOf_41, b_X11_countOf_42, b_X11_countOf_50, o_c, o_il, o_al, o_is, o_as, o_inc, o_add, o_sub, o_mul, o_and, o_or, o_xor, o_shl, o_shr, o_ush, o_rem, o_dup, o_dup2, o_gf, o_pf, o_pz, o_iald, o_iast, o_zald, o_zast, o_aald, o_gs, o_min, o_acp, o_call, o_callv, zgf, zpf, zia_, zza_, zra_, zrd_, zcp_, zpop, zsm8_0, zsm8_1, zsm8_2, zsm8_3, zsm8_4, zsm8_5, zrc, zisob, t_ieq, t_ilt, t_igt, t_zeq, t_zlt, t_zgt, t_sw, zsw, t_iret, t_zret, t_aret, t_vret, zrg, List.getElem?_cons_zero, List.getElem?_cons_succ, List.set_cons_zero, List.set_cons_succ, List.length_cons, List.length_nil, Option.toList_some, Option.toList_none, List.nil_append, List.cons_append, true_and, and_true, true_or, or_true, Int.cast_ofNat_Int, Int.natCast_zero, Int.natCast_one, zsh_56, zsh_57, zsh_58, zsh_59, zsh_60, zsh_61, zsh_62, zsh_63, zsh_64, zsh_65, zsh_66, zsh_67, zsh_68, zsh_69, zsh_70, zsh_71, zsh_72, zsh_73, zsh_74, zsh_75, zsh_76, zsh_77, zsh_78, zsh_79, zsh_80, zsh_81, zsh_82, zsh_83, zsh_84, zsh_85, zsh_86, zsh_87, zup_ne, zup_eq, zup_nf, ne_eq, not_false_eq_true]
      have nx := ih (i + 1) (by omega)
      rw [zsl_snoc hi, show (((i + 1 : Nat)) : Int) = (i : Int) + 1 by omega] at nx
      have z1 := zm4_rg hs (37 * T[i].1 % 256)
      rw [zm4 hs]
      refine ⟨by omega, by omega, fun w => ?_, fun w => ?_⟩
      · rw [if_pos w] at nx
        simpa using nx
      · rw [if_neg w] at nx
        simpa using nx
  simp only [b_X11_countOf_0, b_X11_countOf_5, b_X11_countOf_14, b_X11_countOf_37, b_X11_countOf_41, b_X11_countOf_42, b_X11_countOf_50, o_c, o_il, o_al, o_is, o_as, o_inc, o_add, o_sub, o_mul, o_and, o_or, o_xor, o_shl, o_shr, o_ush, o_rem, o_dup, o_dup2, o_gf, o_pf, o_pz, o_iald, o_iast, o_zald, o_zast, o_aald, o_gs, o_min, o_acp, o_call, o_callv, zgf, zpf, zia_, zza_, zra_, zrd_, zcp_, zpop, zsm8_0, zsm8_1, zsm8_2, zsm8_3, zsm8_4, zsm8_5, zrc, zisob, t_ieq, t_ilt, t_igt, t_zeq, t_zlt, t_zgt, t_sw, zsw, t_iret, t_zret, t_aret, t_vret, zrg, List.getElem?_cons_zero, List.getElem?_cons_succ, List.set_cons_zero, List.set_cons_succ, List.length_cons, List.length_nil, Option.toList_some, Option.toList_none, List.nil_append, List.cons_append, true_and, and_true, true_or, or_true, Int.cast_ofNat_Int, Int.natCast_zero, Int.natCast_one, zsh_56, zsh_57, zsh_58, zsh_59, zsh_60, zsh_61, zsh_62, zsh_63, zsh_64, zsh_65, zsh_66, zsh_67, zsh_68, zsh_69, zsh_70, zsh_71, zsh_72, zsh_73, zsh_74, zsh_75, zsh_76, zsh_77, zsh_78, zsh_79, zsh_80, zsh_81, zsh_82, zsh_83, zsh_84, zsh_85, zsh_86, zsh_87, zup_ne, zup_eq, zup_nf, ne_eq, not_false_eq_true]
  exact loop T.length 0 (by omega)
