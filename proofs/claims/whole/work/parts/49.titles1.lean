/-! TITLES: the list -/
def zTL (μ : zM) (T : List zPp) : Prop := μ 30 2 = T.length ∧ T.length ≤ 16 ∧ zAR μ 31 (T.map (·.1)) ∧ zAR μ 32 (T.map (·.2)) ∧ ∀ p ∈ T, (1 ≤ p.1 ∧ p.1 ≤ 255) ∧ (0 ≤ p.2 ∧ p.2 ≤ 65520)
theorem zTL.fr {μ μ' : zM} {T : List zPp} {S : List Nat} (h : zTL μ T) (f : zfr S μ μ') (hS : ∀ c ∈ S, c < 30 ∨ 32 < c) : zTL μ' T := by
  have key : ∀ c, 30 ≤ c → c ≤ 32 → μ' c = μ c := fun c h1 h2 => f c (fun w => by have := hS c w; omega)
  exact ⟨by rw [key 30 (by omega) (by omega)]; exact h.1, h.2.1, h.2.2.1.of (key 31 (by omega) (by omega)), h.2.2.2.1.of (key 32 (by omega) (by omega)), h.2.2.2.2⟩
theorem zTL.at {μ : zM} {T : List zPp} {i : Nat} {p : zPp} (h : zTL μ T) (hp : T[i]? = some p) : μ 31 i = p.1 ∧ μ 32 i = p.2 ∧ (1 ≤ p.1 ∧ p.1 ≤ 255) ∧ (0 ≤ p.2 ∧ p.2 ≤ 65520) := ⟨h.2.2.1 i _ (by simp [hp]), h.2.2.2.1 i _ (by simp [hp]), h.2.2.2.2 p (List.mem_of_getElem? hp)⟩
set_option maxRecDepth 100000 in
set_option maxHeartbeats 4000000 in
theorem c_X8_makeEmpty {d : Nat} {μ : zM} {T : List zPp} (h : zTL μ T) : zCt d mX8_makeEmpty [.inr (some 30)] μ (fun v μ' => v = none ∧ zTL μ' [] ∧ zfr [30] μ μ') := by
  refine of_X8_makeEmpty (fun G hG => s_X8_makeEmpty_0 hG ?_)
  simp only [b_X8_makeEmpty_0, o_c, o_il, o_al, o_is, o_as, o_inc, o_add, o_sub, o_mul, o_and, o_or, o_xor, o_shl, o_shr, o_ush, o_rem, o_dup, o_dup2, o_gf, o_pf, o_pz, o_iald, o_iast, o_zald, o_zast, o_aald, o_gs, o_min, o_acp, o_call, o_callv, zgf, zpf, zia_, zza_, zra_, zrd_, zcp_, zpop, zsm8_0, zsm8_1, zsm8_2, zsm8_3, zsm8_4, zsm8_5, zrc, zisob, t_ieq, t_ilt, t_igt, t_zeq, t_zlt, t_zgt, t_sw, zsw, t_iret, t_zret, t_aret, t_vret, zrg, List.getElem?_cons_zero, List.getElem?_cons_succ, List.set_cons_zero, List.set_cons_succ, List.length_cons, List.length_nil, Option.toList_some, Option.toList_none, List.nil_append, List.cons_append, true_and, and_true, true_or, or_true, Int.cast_ofNat_Int, Int.natCast_zero, Int.natCast_one, zsh_30]
  exact ⟨⟨by simp [zup], by simp, fun j x hj => by simp at hj, fun j x hj => by simp at hj, by simp⟩, fun c hc => zup_ne c (by simpa using hc)⟩
def zent (t n : Int) : List zPp → List zPp
  | [] => [(t, n)]
  | p :: r => if p.1 < t then p :: zent t n r else if p.1 = t then (t, n) :: r else (t, n) :: p :: r
def zhasT (T : List zPp) (t : Int) : Prop := ∃ p ∈ T, p.1 = t
theorem zent_at (t n : Int) : ∀ (T : List zPp) (i : Nat), i ≤ T.length → (∀ (j : Nat) (p : zPp), j < i → T[j]? = some p → p.1 < t) → (∀ p, T[i]? = some p → t ≤ p.1) → zent t n T = T.take i ++ (match T[i]? with
    | some p => if p.1 = t then (t, n) :: T.drop (i + 1) else (t, n) :: T.drop i
    | none => [(t, n)]) := by
  intro T
  induction T with
  | nil => intro i hi h1 h2; simp at hi; subst hi; simp [zent]
  | cons q r ih =>
    intro i hi h1 h2
    cases i with
    | zero =>
      have := h2 q rfl
      simp only [zent, List.take_zero, List.nil_append, List.getElem?_cons_zero]
      rw [if_neg (by omega)]
      simp
    | succ i =>
      have hq := h1 0 q (by omega) rfl
      simp only [zent]
      rw [if_pos hq, ih i (by simpa using hi) (fun j p hj hp => h1 (j + 1) p (by omega) (by simpa using hp)) (fun p hp => h2 p (by simpa using hp))]
      simp
def zSo (T : List zPp) : Prop := T.Pairwise (fun a b => a.1 < b.1)
theorem zSo.lt {T : List zPp} (h : zSo T) {i j : Nat} {a b : zPp} (hij : i < j) (ha : T[i]? = some a) (hb : T[j]? = some b) : a.1 < b.1 := by
  obtain ⟨h1, rfl⟩ := List.getElem?_eq_some_iff.mp ha
  obtain ⟨h2, rfl⟩ := List.getElem?_eq_some_iff.mp hb
  exact List.pairwise_iff_getElem.mp h i j h1 h2 hij
noncomputable def zentL (T : List zPp) (t n : Int) : List zPp := if zb (zhasT T t ∨ T.length < 16) = 1 then zent t n T else T
set_option maxRecDepth 100000 in
set_option maxHeartbeats 4000000 in
theorem c_X8_enter {d : Nat} {μ : zM} {T : List zPp} {t n : Int} (hd : 1 ≤ d) (h : zTL μ T) (hS : zSo T) (ht : 1 ≤ t ∧ t ≤ 255) (hn : 0 ≤ n ∧ n ≤ 65520) : zCt d mX8_enter [.inr (some 30), .inl t, .inl n] μ (fun v μ' => v = some (.inl (zb (zhasT T t ∨ T.length < 16))) ∧ zTL μ' (zentL T t n) ∧ zfr [30, 31, 32] μ μ') := by
  have hl := h.2.1
  have hc := h.1
  refine of_X8_enter hd (fun G hG => s_X8_enter_0 hG ?_)
  simp only [b_X8_enter_0, b_X8_enter_2, b_X8_enter_10, b_X8_enter_20, b_X8_enter_26, b_X8_enter_34, b_X8_enter_44, b_X8_enter_53, b_X8_enter_55, b_X8_enter_107, o_c, o_il, o_al, o_is, o_as, o_inc, o_add, o_sub, o_mul, o_and, o_or, o_xor, o_shl, o_shr, o_ush, o_rem, o_dup, o_dup2, o_gf, o_pf, o_pz, o_iald, o_iast, o_zald, o_zast, o_aald, o_gs, o_min, o_acp, o_call, o_callv, zgf, zpf, zia_, zza_, zra_, zrd_, zcp_, zpop, zsm8_0, zsm8_1, zsm8_2, zsm8_3, zsm8_4, zsm8_5, zrc, zisob, t_ieq, t_ilt, t_igt, t_zeq, t_zlt, t_zgt, t_sw, zsw, t_iret, t_zret, t_aret, t_vret, zrg, List.getElem?_cons_zero, List.getElem?_cons_succ, List.set_cons_zero, List.set_cons_succ, List.length_cons, List.length_nil, Option.toList_some, Option.toList_none, List.nil_append, List.cons_append, true_and, and_true, true_or, or_true, Int.cast_ofNat_Int, Int.natCast_zero, Int.natCast_one, zsh_30]
  have fin26 : ∀ (i : Nat), i ≤ T.length → (∀ (j : Nat) (p : zPp), j < i → T[j]? = some p → p.1 < t) → (∀ p, T[i]? = some p → t ≤ p.1) → G 26 [.inr (some 30), .inl t, .inl n, .inl (i : Int)] [] μ := by
    intro i h1 h2 h3
    have hz := zent_at t n T i h1 h2 h3
    -- a new title
    have new44 : (∀ p, T[i]? = some p → t < p.1) → G 44 [.inr (some 30), .inl t, .inl n, .inl (i : Int)] [] μ := by
      intro h4
      have hno : ¬ zhasT T t := by
        rintro ⟨p, hp, e⟩
        obtain ⟨j, hj⟩ := List.getElem?_of_mem hp
        rcases Nat.lt_trichotomy j i with hlt | heq | hgt
        · have := h2 j p hlt hj; omega
        · subst heq; have := h4 p hj; omega
        · have hi : i < T.length := by have := (List.getElem?_eq_some_iff.mp hj).1; omega
          have a1 := h4 T[i] (List.getElem?_eq_getElem hi)
          have a2 := hS.lt hgt (List.getElem?_eq_getElem hi) hj
          omega
      refine s_X8_enter_44 hG ?_
      simp only [b_X8_enter_0, b_X8_enter_2, b_X8_enter_10, b_X8_enter_20, b_X8_enter_26, b_X8_enter_34, b_X8_enter_44, b_X8_enter_53, b_X8_enter_55, b_X8_enter_107, o_c, o_il, o_al, o_is, o_as, o_inc, o_add, o_sub, o_mul, o_and, o_or, o_xor, o_shl, o_shr, o_ush, o_rem, o_dup, o_dup2, o_gf, o_pf, o_pz, o_iald, o_iast, o_zald, o_zast, o_aald, o_gs, o_min, o_acp, o_call, o_callv, zgf, zpf, zia_, zza_, zra_, zrd_, zcp_, zpop, zsm8_0, zsm8_1, zsm8_2, zsm8_3, zsm8_4, zsm8_5, zrc, zisob, t_ieq, t_ilt, t_igt, t_zeq, t_zlt, t_zgt, t_sw, zsw, t_iret, t_zret, t_aret, t_vret, zrg, List.getElem?_cons_zero, List.getElem?_cons_succ, List.set_cons_zero, List.set_cons_succ, List.length_cons, List.length_nil, Option.toList_some, Option.toList_none, List.nil_append, List.cons_append, true_and, and_true, true_or, or_true, Int.cast_ofNat_Int, Int.natCast_zero, Int.natCast_one, zsh_30, zsh_31, zsh_32]
      rw [hc]
      refine ⟨by omega, by omega, fun w => ?_, fun w => ?_⟩
      · have hb : zb (zhasT T t ∨ T.length < 16) = 1 := zb_t (Or.inr (by omega))
        have hzl : zentL T t n = T.take i ++ (t, n) :: T.drop i := by
          unfold zentL
          rw [if_pos hb, hz]
          congr 1
          cases hti : T[i]? with
          | none => simp [List.drop_eq_nil_of_le (by simpa using hti)]
          | some p => have := h4 p hti; simp only; rw [if_neg (by omega)]
        rw [hb, hzl]
        have e1 : zcp μ 31 31 i ((i : Int) + 1) (T.length - i) 30 2 = T.length := by rw [zcp_ne _ (by decide)]; exact hc
        rw [e1]
        have e2 : zcp (zcp μ 31 31 i ((i : Int) + 1) (T.length - i)) 32 32 i ((i : Int) + 1) (T.length - i) 30 2 = T.length := by rw [zcp_ne _ (by decide)]; exact e1
        rw [e2]
        refine ⟨by omega, by omega, by omega, by omega, rfl, ⟨?_, by simp; omega, ?_, ?_, fun p hp => ?_⟩, fun x hx => ?_⟩
        · simp [zup]
          omega
        · intro j x hj
          rw [zup_ne _ (by decide)]
          rw [List.map_append, List.map_cons] at hj
          by_cases hji : j = i
          · subst hji
            rw [List.getElem?_append_right (by simp; omega)] at hj
            simp at hj
            have e9 : j - min j T.length = 0 := by omega
            rw [e9] at hj
            simp at hj
            simp [zup, hj]
          · have hne : ¬ ((j : Int) = i) := by omega
            simp only [zup]
            rw [if_neg (by simp [hne]), if_neg (by simp), zcp_ne _ (by decide)]
            by_cases hlt : j < i
            · rw [List.getElem?_append_left (by simp; omega), List.getElem?_map, List.getElem?_take_of_lt hlt, ← List.getElem?_map] at hj
              simp only [zcp]
              rw [if_neg (by omega)]
              exact h.2.2.1 j x hj
            · rw [List.getElem?_append_right (by simp; omega)] at hj
              have e9 : j - (T.take i |>.map (·.1)).length = (j - i - 1) + 1 := by simp; omega
              rw [e9, List.getElem?_cons_succ, List.getElem?_map, List.getElem?_drop, ← List.getElem?_map] at hj
              have hjl : i + (j - i - 1) < T.length := by
                have := (List.getElem?_eq_some_iff.mp hj).1
                simpa using this
              simp only [zcp]
              rw [if_pos ⟨trivial, by omega, by omega⟩]
              have e8 : (i : Int) + ((j : Int) - (i + 1)) = ((i + (j - i - 1) : Nat) : Int) := by omega
              rw [e8]
              exact h.2.2.1 _ x hj
        · intro j x hj
          rw [List.map_append, List.map_cons] at hj
          by_cases hji : j = i
          · subst hji
            rw [List.getElem?_append_right (by simp; omega)] at hj
            simp at hj
            have e9 : j - min j T.length = 0 := by omega
            rw [e9] at hj
            simp at hj
            simp [zup, hj]
          · have hne : ¬ ((j : Int) = i) := by omega
            simp only [zup]
            rw [if_neg (by simp [hne]), if_neg (by simp), if_neg (by simp)]
            by_cases hlt : j < i
            · rw [List.getElem?_append_left (by simp; omega), List.getElem?_map, List.getElem?_take_of_lt hlt, ← List.getElem?_map] at hj
              simp only [zcp]
              rw [if_neg (by omega), if_neg (by simp)]
              exact h.2.2.2.1 j x hj
            · rw [List.getElem?_append_right (by simp; omega)] at hj
              have e9 : j - (T.take i |>.map (·.2)).length = (j - i - 1) + 1 := by simp; omega
              rw [e9, List.getElem?_cons_succ, List.getElem?_map, List.getElem?_drop, ← List.getElem?_map] at hj
              have hjl : i + (j - i - 1) < T.length := by
                have := (List.getElem?_eq_some_iff.mp hj).1
                simpa using this
              simp only [zcp]
              rw [if_pos ⟨trivial, by omega, by omega⟩, if_neg (by simp)]
              have e8 : (i : Int) + ((j : Int) - (i + 1)) = ((i + (j - i - 1) : Nat) : Int) := by omega
              rw [e8]
              exact h.2.2.2.1 _ x hj
        · rcases List.mem_append.mp hp with q | q
          · exact h.2.2.2.2 p (List.mem_of_mem_take q)
          · rcases List.mem_cons.mp q with q | q
            · rw [q]; exact ⟨ht, hn⟩
            · exact h.2.2.2.2 p (List.mem_of_mem_drop q)
        · simp only [List.mem_cons, List.not_mem_nil, or_false, not_or] at hx
          rw [zup_ne x hx.2.2, zup_ne x hx.2.1, zup_ne x hx.1, zcp_ne x hx.2.2, zcp_ne x hx.2.1]
      · have hb : zb (zhasT T t ∨ T.length < 16) = 0 := zb_f (fun q => q.elim hno (fun z => by omega))
        rw [hb]
        unfold zentL
        rw [if_neg (by omega)]
        exact ⟨rfl, h, zfr.refl _ _⟩
    refine s_X8_enter_26 hG ?_
    simp only [b_X8_enter_0, b_X8_enter_2, b_X8_enter_10, b_X8_enter_20, b_X8_enter_26, b_X8_enter_34, b_X8_enter_44, b_X8_enter_53, b_X8_enter_55, b_X8_enter_107, o_c, o_il, o_al, o_is, o_as, o_inc, o_add, o_sub, o_mul, o_and, o_or, o_xor, o_shl, o_shr, o_ush, o_rem, o_dup, o_dup2, o_gf, o_pf, o_pz, o_iald, o_iast, o_zald, o_zast, o_aald, o_gs, o_min, o_acp, o_call, o_callv, zgf, zpf, zia_, zza_, zra_, zrd_, zcp_, zpop, zsm8_0, zsm8_1, zsm8_2, zsm8_3, zsm8_4, zsm8_5, zrc, zisob, t_ieq, t_ilt, t_igt, t_zeq, t_zlt, t_zgt, t_sw, zsw, t_iret, t_zret, t_aret, t_vret, zrg, List.getElem?_cons_zero, List.getElem?_cons_succ, List.set_cons_zero, List.set_cons_succ, List.length_cons, List.length_nil, Option.toList_some, Option.toList_none, List.nil_append, List.cons_append, true_and, and_true, true_or, or_true, Int.cast_ofNat_Int, Int.natCast_zero, Int.natCast_one, zsh_30, zsh_31, zsh_32]
    rw [hc]
    refine ⟨by omega, by omega, fun w => ?_, fun w => new44 (fun p hp => by have := (List.getElem?_eq_some_iff.mp hp).1; omega)⟩
    have hi : i < T.length := by omega
    have hti : T[i]? = some T[i] := List.getElem?_eq_getElem hi
    obtain ⟨a1, a2, a3, a4⟩ := h.at hti
    have a5 := h3 _ hti
    refine ⟨by omega, by omega, by omega, fun e => ?_, fun e => new44 (fun p hp => by rw [hti] at hp; cases hp; omega)⟩
    have hhas : zhasT T t := ⟨T[i], List.getElem_mem hi, by omega⟩
    have hb : zb (zhasT T t ∨ T.length < 16) = 1 := zb_t (Or.inl hhas)
    have hzl : zentL T t n = T.set i (t, n) := by
      unfold zentL
      rw [if_pos hb, hz, hti]
      simp only
      rw [if_pos (by omega), List.set_eq_take_append_cons_drop, if_pos hi]
    rw [hb, hzl]
    refine ⟨by omega, by omega, rfl, ⟨by simp [zup, hc], by simpa using hl, ?_, ?_, fun p hp => ?_⟩, fun x hx => ?_⟩
    · rw [zAR]
      intro j x hj
      rw [List.map_set, List.getElem?_set] at hj
      rw [zup_ne _ (by decide)]
      by_cases e2 : i = j
      · subst e2
        simp [hi] at hj
        simp [zup, hj]
      · rw [if_neg e2] at hj
        have : ¬ ((j : Int) = i) := by omega
        simp [zup, this]
        exact h.2.2.1 j x hj
    · intro j x hj
      rw [List.map_set, List.getElem?_set] at hj
      by_cases e2 : i = j
      · subst e2
        simp [hi] at hj
        simp [zup, hj]
      · rw [if_neg e2] at hj
        have : ¬ ((j : Int) = i) := by omega
        simp [zup, this]
        exact h.2.2.2.1 j x hj
    · rcases List.mem_or_eq_of_mem_set hp with q | q
      · exact h.2.2.2.2 p q
      · rw [q]; exact ⟨ht, hn⟩
    · simp only [List.mem_cons, List.not_mem_nil, or_false, not_or] at hx
      rw [zup_ne x hx.2.2, zup_ne x hx.2.1]
  have loop : ∀ (r i : Nat), i + r = T.length → (∀ (j : Nat) (p : zPp), j < i → T[j]? = some p → p.1 < t) → G 2 [.inr (some 30), .inl t, .inl n, .inl (i : Int)] [] μ := by
    intro r
    induction r with
    | zero =>
      intro i h1 h2
      refine s_X8_enter_2 hG ?_
      simp only [b_X8_enter_0, b_X8_enter_2, b_X8_enter_10, b_X8_enter_20, b_X8_enter_26, b_X8_enter_34, b_X8_enter_44, b_X8_enter_53, b_X8_enter_55, b_X8_enter_107, o_c, o_il, o_al, o_is, o_as, o_inc, o_add, o_sub, o_mul, o_and, o_or, o_xor, o_shl, o_shr, o_ush, o_rem, o_dup, o_dup2, o_gf, o_pf, o_pz, o_iald, o_iast, o_zald, o_zast, o_aald, o_gs, o_min, o_acp, o_call, o_callv, zgf, zpf, zia_, zza_, zra_, zrd_, zcp_, zpop, zsm8_0, zsm8_1, zsm8_2, zsm8_3, zsm8_4, zsm8_5, zrc, zisob, t_ieq, t_ilt, t_igt, t_zeq, t_zlt, t_zgt, t_sw, zsw, t_iret, t_zret, t_aret, t_vret, zrg, List.getElem?_cons_zero, List.getElem?_cons_succ, List.set_cons_zero, List.set_cons_succ, List.length_cons, List.length_nil, Option.toList_some, Option.toList_none, List.nil_append, List.cons_append, true_and, and_true, true_or, or_true, Int.cast_ofNat_Int, Int.natCast_zero, Int.natCast_one, zsh_30, zsh_31]
      rw [hc]
      exact ⟨by omega, by omega, fun w => by omega, fun w => fin26 i (by omega) h2 (fun p hp => by have := (List.getElem?_eq_some_iff.mp hp).1; omega)⟩
    | succ r ih =>
      intro i h1 h2
      have hi : i < T.length := by omega
      have hti : T[i]? = some T[i] := List.getElem?_eq_getElem hi
      obtain ⟨a1, a2, a3, a4⟩ := h.at hti
      refine s_X8_enter_2 hG ?_
      simp only [b_X8_enter_0, b_X8_enter_2, b_X8_enter_10, b_X8_enter_20, b_X8_enter_26, b_X8_enter_34, b_X8_enter_44, b_X8_enter_53, b_X8_enter_55, b_X8_enter_107, o_c, o_il, o_al, o_is, o_as, o_inc, o_add, o_sub, o_mul, o_and, o_or, o_xor, o_shl, o_shr, o_ush, o_rem, o_dup, o_dup2, o_gf, o_pf, o_pz, o_iald, o_iast, o_zald, o_zast, o_aald, o_gs, o_min, o_acp, o_call, o_callv, zgf, zpf, zia_, zza_, zra_, zrd_, zcp_, zpop, zsm8_0, zsm8_1, zsm8_2, zsm8_3, zsm8_4, zsm8_5, zrc, zisob, t_ieq, t_ilt, t_igt, t_zeq, t_zlt, t_zgt, t_sw, zsw, t_iret, t_zret, t_aret, t_vret, zrg, List.getElem?_cons_zero, List.getElem?_cons_succ, List.set_cons_zero, List.set_cons_succ, List.length_cons, List.length_nil, Option.toList_some, Option.toList_none, List.nil_append, List.cons_append, true_and, and_true, true_or, or_true, Int.cast_ofNat_Int, Int.natCast_zero, Int.natCast_one, zsh_30, zsh_31]
      rw [hc]
      refine ⟨by omega, by omega, fun w => ⟨by omega, by omega, by omega, fun e => ?_, fun e => ?_⟩, fun w => by omega⟩
      · refine ih (i + 1) (by omega) (fun j p hj hp => ?_)
        by_cases e2 : j = i
        · subst e2
          rw [hti] at hp
          cases hp
          omega
        · exact h2 j p (by omega) hp
      · exact fin26 i (by omega) h2 (fun p hp => by rw [hti] at hp; cases hp; omega)
  exact loop T.length 0 (by omega) (fun j p hj => by omega)
