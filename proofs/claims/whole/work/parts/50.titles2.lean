/-! TITLES: folders are made -/
def zself : List zPp → Nat → Nat → List zPp
  | [], _, _ => []
  | p :: r, i, m => if m.testBit i then p :: zself r (i + 1) m else zself r (i + 1) m
theorem zself_drop {T : List zPp} {i m : Nat} (h : i < T.length) : zself (T.drop i) i m = if m.testBit i then T[i] :: zself (T.drop (i + 1)) (i + 1) m else zself (T.drop (i + 1)) (i + 1) m := by
  rw [List.drop_eq_getElem_cons h]
  rfl
theorem zself_sub (m : Nat) : ∀ (T : List zPp) (i : Nat), (zself T i m).Sublist T := by
  intro T
  induction T with
  | nil => intro i; exact List.Sublist.refl _
  | cons p r ih =>
    intro i
    simp only [zself]
    split
    · exact (ih (i + 1)).cons₂ p
    · exact (ih (i + 1)).cons p
theorem zpcn_0 : ∀ f, zpcn f 0 = 0 := by
  intro f
  induction f with
  | zero => rfl
  | succ f ih => simp [zpcn, ih]
theorem zself_len (m : Nat) : ∀ (T : List zPp) (i f : Nat), T.length ≤ f → m / 2 ^ i < 2 ^ T.length → (zself T i m).length = zpcn f (m / 2 ^ i) := by
  intro T
  induction T with
  | nil =>
    intro i f h1 h2
    have h3 : m / 2 ^ i = 0 := by
      simp only [List.length_nil, Nat.pow_zero] at h2
      exact Nat.lt_one_iff.mp h2
    rw [h3]
    simp [zself, zpcn_0]
  | cons p r ih =>
    intro i f h1 h2
    cases f with
    | zero => simp at h1
    | succ f =>
      have e : m / 2 ^ i / 2 = m / 2 ^ (i + 1) := by rw [Nat.div_div_eq_div_mul, Nat.pow_succ]
      have h3 : m / 2 ^ (i + 1) < 2 ^ r.length := by
        rw [← e]
        simp only [List.length_cons, Nat.pow_succ] at h2
        omega
      have := ih (i + 1) f (by simp at h1; omega) h3
      simp only [zself, zpcn]
      rw [e, ← this, Nat.testBit_eq_decide_div_mod_eq]
      by_cases hb : m / 2 ^ i % 2 = 1
      · simp [hb]; omega
      · have : m / 2 ^ i % 2 = 0 := by omega
        simp [this]
theorem zself_all : ∀ (T : List zPp) (i m : Nat), (∀ j, j < T.length → m.testBit (i + j) = true) → zself T i m = T := by
  intro T
  induction T with
  | nil => intro i m h; rfl
  | cons p r ih =>
    intro i m h
    simp only [zself]
    have h0 := h 0 (by simp)
    rw [Nat.add_zero] at h0
    rw [if_pos h0, ih (i + 1) m (fun j hj => by have := h (j + 1) (by simp; omega); rw [Nat.add_assoc, Nat.add_comm 1 j]; exact this)]
theorem zself_filter (Pd : zPp → Bool) : ∀ (T : List zPp) (i m m' : Nat), (∀ (j : Nat) (p : zPp), T[j]? = some p → m'.testBit (i + j) = (m.testBit (i + j) && Pd p)) → zself T i m' = (zself T i m).filter Pd := by
  intro T
  induction T with
  | nil => intro i m m' h; rfl
  | cons p r ih =>
    intro i m m' h
    have h0 := h 0 p rfl
    rw [Nat.add_zero] at h0
    have h1 := ih (i + 1) m m' (fun j q hq => by have := h (j + 1) q (by simpa using hq); rw [Nat.add_assoc, Nat.add_comm 1 j]; exact this)
    simp only [zself]
    rw [h0, h1]
    by_cases a : m.testBit i = true
    · by_cases b : Pd p = true
      · simp [a, b]
      · simp [a, b]
    · simp [a]
theorem zbit_and {m i : Nat} (hm : m < 65536) (hi : i < 32) : zand (zshr (m : Int) (i : Int)) 1 = if m.testBit i then 1 else 0 := by
  have := Nat.div_le_self m (2 ^ i)
  rw [zshr_nat hi (by omega), zand_m 1 (by omega) (by decide), Nat.testBit_eq_decide_div_mod_eq]
  generalize m / 2 ^ i = q
  split
  · rename_i hb
    simp at hb
    omega
  · rename_i hb
    simp at hb
    omega
set_option maxRecDepth 100000 in
set_option maxHeartbeats 4000000 in
theorem c_X8_membersOnWay {d s w m : Nat} {μ : zM} {T : List zPp} (hd : 1 ≤ d) (h : zTL μ T) (hm : m < 65536) (hs : s ≤ 4) (hw : w ≤ 3) : zCt d mX8_membersOnWay [.inr (some 30), .inl (m : Int), .inl (s : Int), .inl (w : Int)] μ (fun v μ' => (∃ m' : Nat, v = some (.inl (m' : Int)) ∧ m' < 2 ^ T.length ∧ zself T 0 m' = (zself T 0 m).filter (fun p => decide (zway p.1 s = w)) ∧ (m' = 0 ↔ zself T 0 m' = [])) ∧ μ' = μ) := by
  have hl := h.2.1
  have hc := h.1
  refine of_X8_membersOnWay hd (fun G hG => s_X8_membersOnWay_0 hG ?_)
  simp only [b_X8_membersOnWay_0, b_X8_membersOnWay_6, b_X8_membersOnWay_15, b_X8_membersOnWay_25, b_X8_membersOnWay_40, b_X8_membersOnWay_49, b_X8_membersOnWay_55, o_c, o_il, o_al, o_is, o_as, o_inc, o_add, o_sub, o_mul, o_and, o_or, o_xor, o_shl, o_shr, o_ush, o_rem, o_dup, o_dup2, o_gf, o_pf, o_pz, o_iald, o_iast, o_zald, o_zast, o_aald, o_gs, o_min, o_acp, o_call, o_callv, zgf, zpf, zia_, zza_, zra_, zrd_, zcp_, zpop, zsm8_0, zsm8_1, zsm8_2, zsm8_3, zsm8_4, zsm8_5, zrc, zisob, t_ieq, t_ilt, t_igt, t_zeq, t_zlt, t_zgt, t_sw, zsw, t_iret, t_zret, t_aret, t_vret, zrg, List.getElem?_cons_zero, List.getElem?_cons_succ, List.set_cons_zero, List.set_cons_succ, List.length_cons, List.length_nil, Option.toList_some, Option.toList_none, List.nil_append, List.cons_append, true_and, and_true, true_or, or_true, Int.cast_ofNat_Int, Int.natCast_zero, Int.natCast_one, zsh_30, zsh_31]
  have loop : ∀ (r i q : Nat), i + r = T.length → q < 2 ^ i → (∀ (j : Nat) (p : zPp), j < i → T[j]? = some p → q.testBit j = (m.testBit j && decide (zway p.1 s = w))) → G 6 [.inr (some 30), .inl (m : Int), .inl (s : Int), .inl (w : Int), .inl (q : Int), .inl (i : Int)] [] μ := by
    intro r
    induction r with
    | zero =>
      intro i q h1 h2 h3
      have h216 : (2 : Nat) ^ i ≤ 2 ^ 16 := Nat.pow_le_pow_right (by omega) (by omega)
      refine s_X8_membersOnWay_6 hG ?_
      simp only [b_X8_membersOnWay_0, b_X8_membersOnWay_6, b_X8_membersOnWay_15, b_X8_membersOnWay_25, b_X8_membersOnWay_40, b_X8_membersOnWay_49, b_X8_membersOnWay_55, o_c, o_il, o_al, o_is, o_as, o_inc, o_add, o_sub, o_mul, o_and, o_or, o_xor, o_shl, o_shr, o_ush, o_rem, o_dup, o_dup2, o_gf, o_pf, o_pz, o_iald, o_iast, o_zald, o_zast, o_aald, o_gs, o_min, o_acp, o_call, o_callv, zgf, zpf, zia_, zza_, zra_, zrd_, zcp_, zpop, zsm8_0, zsm8_1, zsm8_2, zsm8_3, zsm8_4, zsm8_5, zrc, zisob, t_ieq, t_ilt, t_igt, t_zeq, t_zlt, t_zgt, t_sw, zsw, t_iret, t_zret, t_aret, t_vret, zrg, List.getElem?_cons_zero, List.getElem?_cons_succ, List.set_cons_zero, List.set_cons_succ, List.length_cons, List.length_nil, Option.toList_some, Option.toList_none, List.nil_append, List.cons_append, true_and, and_true, true_or, or_true, Int.cast_ofNat_Int, Int.natCast_zero, Int.natCast_one, zsh_30, zsh_31]
      rw [hc]
      have hself : zself T 0 q = (zself T 0 m).filter (fun p => decide (zway p.1 s = w)) := zself_filter _ T 0 m q (fun j p hp => by
        rw [Nat.zero_add]
        exact h3 j p (by have := (List.getElem?_eq_some_iff.mp hp).1; omega) hp)
      refine ⟨by omega, by omega, fun z => by omega, fun z => ⟨q, rfl, by rw [← h1]; exact h2, hself, ?_, ?_⟩⟩
      · intro e
        rw [e]
        have hl0 := zself_len 0 T 0 16 hl (by simp; exact Nat.pow_pos (by omega))
        simp only [Nat.zero_div, zpcn_0] at hl0
        exact List.length_eq_zero_iff.mp hl0
      · intro e
        -- no bit, so zero
        apply Nat.eq_of_testBit_eq
        intro j
        rw [Nat.zero_testBit]
        by_cases hj : j < T.length
        · cases hq : q.testBit j with
          | false => rfl
          | true =>
            exfalso
            have hmem : ∀ (T : List zPp) (i j : Nat), j < T.length → q.testBit (i + j) = true → zself T i q ≠ [] := by
              intro T
              induction T with
              | nil => intro i j hj; simp at hj
              | cons p r ih =>
                intro i j hj hq
                simp only [zself]
                cases j with
                | zero => rw [Nat.add_zero] at hq; rw [if_pos hq]; simp
                | succ j =>
                  split
                  · simp
                  · exact ih (i + 1) j (by simpa using hj) (by rw [Nat.add_assoc, Nat.add_comm 1 j]; exact hq)
            exact hmem T 0 j hj (by rw [Nat.zero_add]; exact hq) e
        · exact Nat.testBit_lt_two_pow (Nat.lt_of_lt_of_le h2 (Nat.pow_le_pow_right (by omega) (by omega)))
    | succ r ih =>
      intro i q h1 h2 h3
      have hi : i < T.length := by omega
      have h216 : (2 : Nat) ^ (i + 1) ≤ 2 ^ 16 := Nat.pow_le_pow_right (by omega) (by omega)
      have hp1 : (2 : Nat) ^ (i + 1) = 2 * 2 ^ i := by rw [Nat.pow_succ]; omega
      have hti : T[i]? = some T[i] := List.getElem?_eq_getElem hi
      obtain ⟨a1, a2, a3, a4⟩ := h.at hti
      have hwr := zway_rg T[i].1 s
      refine s_X8_membersOnWay_6 hG ?_
      simp only [b_X8_membersOnWay_0, b_X8_membersOnWay_6, b_X8_membersOnWay_15, b_X8_membersOnWay_25, b_X8_membersOnWay_40, b_X8_membersOnWay_49, b_X8_membersOnWay_55, o_c, o_il, o_al, o_is, o_as, o_inc, o_add, o_sub, o_mul, o_and, o_or, o_xor, o_shl, o_shr, o_ush, o_rem, o_dup, o_dup2, o_gf, o_pf, o_pz, o_iald, o_iast, o_zald, o_zast, o_aald, o_gs, o_min, o_acp, o_call, o_callv, zgf, zpf, zia_, zza_, zra_, zrd_, zcp_, zpop, zsm8_0, zsm8_1, zsm8_2, zsm8_3, zsm8_4, zsm8_5, zrc, zisob, t_ieq, t_ilt, t_igt, t_zeq, t_zlt, t_zgt, t_sw, zsw, t_iret, t_zret, t_aret, t_vret, zrg, List.getElem?_cons_zero, List.getElem?_cons_succ, List.set_cons_zero, List.set_cons_succ, List.length_cons, List.length_nil, Option.toList_some, Option.toList_none, List.nil_append, List.cons_append, true_and, and_true, true_or, or_true, Int.cast_ofNat_Int, Int.natCast_zero, Int.natCast_one, zsh_30, zsh_31]
      rw [hc, zbit_and hm (by omega)]
      have hq0 : q.testBit i = false := Nat.testBit_lt_two_pow h2
      have next : ∀ q' : Nat, q' < 2 ^ (i + 1) → (∀ j, j < i → q'.testBit j = q.testBit j) → q'.testBit i = (m.testBit i && decide (zway T[i].1 s = w)) → G 6 [.inr (some 30), .inl (m : Int), .inl (s : Int), .inl (w : Int), .inl (q' : Int), .inl ((i : Int) + 1)] [] μ := fun q' n1 n2 n3 => ih (i + 1) q' (by omega) n1 (fun j p hj hp => by
        by_cases e : j = i
        · subst e
          rw [hti] at hp
          cases hp
          exact n3
        · rw [n2 j (by omega)]
          exact h3 j p (by omega) hp)
      refine ⟨by omega, by omega, fun z => ?_, fun z => by omega⟩
      by_cases hb : m.testBit i = true
      · rw [if_pos hb]
        refine ⟨by omega, by omega, fun _ => ⟨by omega, ?_⟩, fun w => absurd rfl w⟩
        rw [a1]
        refine zcall (c_X2_wayOf hs) ?_
        simp only [b_X8_membersOnWay_0, b_X8_membersOnWay_6, b_X8_membersOnWay_15, b_X8_membersOnWay_25, b_X8_membersOnWay_40, b_X8_membersOnWay_49, b_X8_membersOnWay_55, o_c, o_il, o_al, o_is, o_as, o_inc, o_add, o_sub, o_mul, o_and, o_or, o_xor, o_shl, o_shr, o_ush, o_rem, o_dup, o_dup2, o_gf, o_pf, o_pz, o_iald, o_iast, o_zald, o_zast, o_aald, o_gs, o_min, o_acp, o_call, o_callv, zgf, zpf, zia_, zza_, zra_, zrd_, zcp_, zpop, zsm8_0, zsm8_1, zsm8_2, zsm8_3, zsm8_4, zsm8_5, zrc, zisob, t_ieq, t_ilt, t_igt, t_zeq, t_zlt, t_zgt, t_sw, zsw, t_iret, t_zret, t_aret, t_vret, zrg, List.getElem?_cons_zero, List.getElem?_cons_succ, List.set_cons_zero, List.set_cons_succ, List.length_cons, List.length_nil, Option.toList_some, Option.toList_none, List.nil_append, List.cons_append, true_and, and_true, true_or, or_true, Int.cast_ofNat_Int, Int.natCast_zero, Int.natCast_one, zsh_30, zsh_31]
        refine ⟨by omega, by omega, fun e => ?_, fun e => ?_⟩
        · have e1 : zshl 1 (i : Int) = ((2 ^ i : Nat) : Int) := by
            have := zshl_nat (a := 1) (s := i) (by omega) (by omega)
            simpa using this
          rw [e1, zor_nat (by omega) (by omega)]
          refine next (q ||| 2 ^ i) (Nat.or_lt_two_pow (by omega) (by omega)) (fun j hj => ?_) ?_
          · rw [Nat.testBit_or, Nat.testBit_two_pow]
            have : ¬ (i = j) := by omega
            simp [this]
          · rw [Nat.testBit_or, Nat.testBit_two_pow]
            simp [hb, e]
        · exact next q (by omega) (fun j _ => rfl) (by rw [hq0]; simp [hb, e])
      · rw [if_neg hb]
        exact ⟨by omega, by omega, fun w => by omega, fun _ => next q (by omega) (fun j _ => rfl) (by rw [hq0]; simp [hb])⟩
  exact loop T.length 0 0 (by omega) (by simp) (fun j p hj => by omega)
def zfpt (p : zPp) : List Int := [p.1, p.2 % 256, p.2 / 256]
def zforow (sel : List zPp) : List Int := 2 :: (sel.length : Int) :: sel.flatMap zfpt
theorem zfpt_len (l : List zPp) : (l.flatMap zfpt).length = 3 * l.length := by
  induction l with
  | nil => rfl
  | cons a r ih => simp only [List.flatMap_cons, List.length_append, ih, List.length_cons]; simp [zfpt]; omega
set_option maxRecDepth 100000 in
set_option maxHeartbeats 4000000 in
theorem c_X8_makeOneFolder {d m : Nat} {μ : zM} {T : List zPp} {L : List zBk} {c : Int} (hd : 3 ≤ d) (h : zTL μ T) (hT : zBT μ L [] c) (hm : m < 2 ^ T.length) (hs : (zself T 0 m).length ≤ 4) : zCt d mX8_makeOneFolder [.inr (some 30), .inl (m : Int), .inr (some 34)] μ (fun v μ' => v = some (.inl (zhash (zforow (zself T 0 m)))) ∧ zBT μ' (zfb L c (zforow (zself T 0 m))).1 [] (zfb L c (zforow (zself T 0 m))).2 ∧ zfr [34, 35, 36, 37, 38, 39] μ μ') := by
  have hl := h.2.1
  have h216 : (2 : Nat) ^ T.length ≤ 2 ^ 16 := Nat.pow_le_pow_right (by omega) hl
  have hlen := zself_len m T 0 16 hl (by simpa using hm)
  simp at hlen
  refine of_X8_makeOneFolder (by omega) (fun G hG => s_X8_makeOneFolder_0 hG ?_)
  simp only [b_X8_makeOneFolder_0, b_X8_makeOneFolder_15, b_X8_makeOneFolder_23, b_X8_makeOneFolder_32, b_X8_makeOneFolder_52, b_X8_makeOneFolder_58, o_c, o_il, o_al, o_is, o_as, o_inc, o_add, o_sub, o_mul, o_and, o_or, o_xor, o_shl, o_shr, o_ush, o_rem, o_dup, o_dup2, o_gf, o_pf, o_pz, o_iald, o_iast, o_zald, o_zast, o_aald, o_gs, o_min, o_acp, o_call, o_callv, zgf, zpf, zia_, zza_, zra_, zrd_, zcp_, zpop, zsm8_0, zsm8_1, zsm8_2, zsm8_3, zsm8_4, zsm8_5, zrc, zisob, t_ieq, t_ilt, t_igt, t_zeq, t_zlt, t_zgt, t_sw, zsw, t_iret, t_zret, t_aret, t_vret, zrg, List.getElem?_cons_zero, List.getElem?_cons_succ, List.set_cons_zero, List.set_cons_succ, List.length_cons, List.length_nil, Option.toList_some, Option.toList_none, List.nil_append, List.cons_append, true_and, and_true, true_or, or_true, Int.cast_ofNat_Int, Int.natCast_zero, Int.natCast_one, zsh_30, zsh_34]
  refine ⟨_, c_X0_write hT (by simp) (by omega), ?_⟩
  rintro v μ1 ⟨rfl, b1, b2⟩
  simp only [b_X8_makeOneFolder_0, b_X8_makeOneFolder_15, b_X8_makeOneFolder_23, b_X8_makeOneFolder_32, b_X8_makeOneFolder_52, b_X8_makeOneFolder_58, o_c, o_il, o_al, o_is, o_as, o_inc, o_add, o_sub, o_mul, o_and, o_or, o_xor, o_shl, o_shr, o_ush, o_rem, o_dup, o_dup2, o_gf, o_pf, o_pz, o_iald, o_iast, o_zald, o_zast, o_aald, o_gs, o_min, o_acp, o_call, o_callv, zgf, zpf, zia_, zza_, zra_, zrd_, zcp_, zpop, zsm8_0, zsm8_1, zsm8_2, zsm8_3, zsm8_4, zsm8_5, zrc, zisob, t_ieq, t_ilt, t_igt, t_zeq, t_zlt, t_zgt, t_sw, zsw, t_iret, t_zret, t_aret, t_vret, zrg, List.getElem?_cons_zero, List.getElem?_cons_succ, List.set_cons_zero, List.set_cons_succ, List.length_cons, List.length_nil, Option.toList_some, Option.toList_none, List.nil_append, List.cons_append, true_and, and_true, true_or, or_true, Int.cast_ofNat_Int, Int.natCast_zero, Int.natCast_one, zsh_30, zsh_34]
  refine zcall (c_J6_bitCount (by omega)) ?_
  simp only [b_X8_makeOneFolder_0, b_X8_makeOneFolder_15, b_X8_makeOneFolder_23, b_X8_makeOneFolder_32, b_X8_makeOneFolder_52, b_X8_makeOneFolder_58, o_c, o_il, o_al, o_is, o_as, o_inc, o_add, o_sub, o_mul, o_and, o_or, o_xor, o_shl, o_shr, o_ush, o_rem, o_dup, o_dup2, o_gf, o_pf, o_pz, o_iald, o_iast, o_zald, o_zast, o_aald, o_gs, o_min, o_acp, o_call, o_callv, zgf, zpf, zia_, zza_, zra_, zrd_, zcp_, zpop, zsm8_0, zsm8_1, zsm8_2, zsm8_3, zsm8_4, zsm8_5, zrc, zisob, t_ieq, t_ilt, t_igt, t_zeq, t_zlt, t_zgt, t_sw, zsw, t_iret, t_zret, t_aret, t_vret, zrg, List.getElem?_cons_zero, List.getElem?_cons_succ, List.set_cons_zero, List.set_cons_succ, List.length_cons, List.length_nil, Option.toList_some, Option.toList_none, List.nil_append, List.cons_append, true_and, and_true, true_or, or_true, Int.cast_ofNat_Int, Int.natCast_zero, Int.natCast_one, zsh_30, zsh_34]
  rw [← hlen]
  refine ⟨_, c_X0_write b1 (by simp) (by omega), ?_⟩
  rintro v μ2 ⟨rfl, b3, b4⟩
  simp only [b_X8_makeOneFolder_0, b_X8_makeOneFolder_15, b_X8_makeOneFolder_23, b_X8_makeOneFolder_32, b_X8_makeOneFolder_52, b_X8_makeOneFolder_58, o_c, o_il, o_al, o_is, o_as, o_inc, o_add, o_sub, o_mul, o_and, o_or, o_xor, o_shl, o_shr, o_ush, o_rem, o_dup, o_dup2, o_gf, o_pf, o_pz, o_iald, o_iast, o_zald, o_zast, o_aald, o_gs, o_min, o_acp, o_call, o_callv, zgf, zpf, zia_, zza_, zra_, zrd_, zcp_, zpop, zsm8_0, zsm8_1, zsm8_2, zsm8_3, zsm8_4, zsm8_5, zrc, zisob, t_ieq, t_ilt, t_igt, t_zeq, t_zlt, t_zgt, t_sw, zsw, t_iret, t_zret, t_aret, t_vret, zrg, List.getElem?_cons_zero, List.getElem?_cons_succ, List.set_cons_zero, List.set_cons_succ, List.length_cons, List.length_nil, Option.toList_some, Option.toList_none, List.nil_append, List.cons_append, true_and, and_true, true_or, or_true, Int.cast_ofNat_Int, Int.natCast_zero, Int.natCast_one, zsh_30, zsh_34]
  have loop : ∀ (r i : Nat) (μ3 : zM) (dn : List zPp), i + r = T.length → zself T 0 m = dn ++ zself (T.drop i) i m → zBT μ3 L (2 :: ((zself T 0 m).length : Int) :: dn.flatMap zfpt) c → zfr [34, 35, 36, 37, 38, 39] μ μ3 → G 15 [.inr (some 30), .inl (m : Int), .inr (some 34), .inl (i : Int)] [] μ3 := by
    intro r
    induction r with
    | zero =>
      intro i μ3 dn h1 h2 h3 h4
      have hc3 : μ3 30 2 = T.length := by rw [h4 30 (by decide)]; exact h.1
      refine s_X8_makeOneFolder_15 hG ?_
      simp only [b_X8_makeOneFolder_0, b_X8_makeOneFolder_15, b_X8_makeOneFolder_23, b_X8_makeOneFolder_32, b_X8_makeOneFolder_52, b_X8_makeOneFolder_58, o_c, o_il, o_al, o_is, o_as, o_inc, o_add, o_sub, o_mul, o_and, o_or, o_xor, o_shl, o_shr, o_ush, o_rem, o_dup, o_dup2, o_gf, o_pf, o_pz, o_iald, o_iast, o_zald, o_zast, o_aald, o_gs, o_min, o_acp, o_call, o_callv, zgf, zpf, zia_, zza_, zra_, zrd_, zcp_, zpop, zsm8_0, zsm8_1, zsm8_2, zsm8_3, zsm8_4, zsm8_5, zrc, zisob, t_ieq, t_ilt, t_igt, t_zeq, t_zlt, t_zgt, t_sw, zsw, t_iret, t_zret, t_aret, t_vret, zrg, List.getElem?_cons_zero, List.getElem?_cons_succ, List.set_cons_zero, List.set_cons_succ, List.length_cons, List.length_nil, Option.toList_some, Option.toList_none, List.nil_append, List.cons_append, true_and, and_true, true_or, or_true, Int.cast_ofNat_Int, Int.natCast_zero, Int.natCast_one, zsh_30, zsh_34]
      rw [List.drop_eq_nil_of_le (by omega)] at h2
      simp only [zself, List.append_nil] at h2
      rw [← h2] at h3
      refine ⟨by omega, by omega, fun w => by omega, fun _ => ?_⟩
      refine ⟨_, c_X0_finishBlock (by omega) h3, ?_⟩
      rintro v μ4 ⟨rfl, g1, g2⟩
      simp only [b_X8_makeOneFolder_0, b_X8_makeOneFolder_15, b_X8_makeOneFolder_23, b_X8_makeOneFolder_32, b_X8_makeOneFolder_52, b_X8_makeOneFolder_58, o_c, o_il, o_al, o_is, o_as, o_inc, o_add, o_sub, o_mul, o_and, o_or, o_xor, o_shl, o_shr, o_ush, o_rem, o_dup, o_dup2, o_gf, o_pf, o_pz, o_iald, o_iast, o_zald, o_zast, o_aald, o_gs, o_min, o_acp, o_call, o_callv, zgf, zpf, zia_, zza_, zra_, zrd_, zcp_, zpop, zsm8_0, zsm8_1, zsm8_2, zsm8_3, zsm8_4, zsm8_5, zrc, zisob, t_ieq, t_ilt, t_igt, t_zeq, t_zlt, t_zgt, t_sw, zsw, t_iret, t_zret, t_aret, t_vret, zrg, List.getElem?_cons_zero, List.getElem?_cons_succ, List.set_cons_zero, List.set_cons_succ, List.length_cons, List.length_nil, Option.toList_some, Option.toList_none, List.nil_append, List.cons_append, true_and, and_true, true_or, or_true, Int.cast_ofNat_Int, Int.natCast_zero, Int.natCast_one, zsh_30, zsh_34]
      exact ⟨rfl, g1, h4.trans (g2.mono (by simp))⟩
    | succ r ih =>
      intro i μ3 dn h1 h2 h3 h4
      have hi : i < T.length := by omega
      have hT3 : zTL μ3 T := h.fr h4 (by simp)
      have hc3 := hT3.1
      obtain ⟨a1, a2, a3, a4⟩ := hT3.at (List.getElem?_eq_getElem hi)
      refine s_X8_makeOneFolder_15 hG ?_
      rw [zself_drop hi] at h2
      simp only [b_X8_makeOneFolder_0, b_X8_makeOneFolder_15, b_X8_makeOneFolder_23, b_X8_makeOneFolder_32, b_X8_makeOneFolder_52, b_X8_makeOneFolder_58, o_c, o_il, o_al, o_is, o_as, o_inc, o_add, o_sub, o_mul, o_and, o_or, o_xor, o_shl, o_shr, o_ush, o_rem, o_dup, o_dup2, o_gf, o_pf, o_pz, o_iald, o_iast, o_zald, o_zast, o_aald, o_gs, o_min, o_acp, o_call, o_callv, zgf, zpf, zia_, zza_, zra_, zrd_, zcp_, zpop, zsm8_0, zsm8_1, zsm8_2, zsm8_3, zsm8_4, zsm8_5, zrc, zisob, t_ieq, t_ilt, t_igt, t_zeq, t_zlt, t_zgt, t_sw, zsw, t_iret, t_zret, t_aret, t_vret, zrg, List.getElem?_cons_zero, List.getElem?_cons_succ, List.set_cons_zero, List.set_cons_succ, List.length_cons, List.length_nil, Option.toList_some, Option.toList_none, List.nil_append, List.cons_append, true_and, and_true, true_or, or_true, Int.cast_ofNat_Int, Int.natCast_zero, Int.natCast_one, zsh_30, zsh_34, zsh_31, zsh_32]
      rw [zbit_and (by omega) (by omega)]
      refine ⟨by omega, by omega, fun _ => ?_, fun w => by omega⟩
      by_cases hb : m.testBit i = true
      · rw [if_pos hb] at h2 ⊢
        have hdl : dn.length + 1 ≤ 4 := by
          have := congrArg List.length h2
          simp at this
          omega
        have hfl := zfpt_len dn
        refine ⟨by omega, by omega, fun _ => ⟨by omega, ?_⟩, fun w => absurd rfl w⟩
        rw [a1]
        refine ⟨_, c_X0_write h3 (by simp [hfl]; omega) (by omega), ?_⟩
        rintro v μ4 ⟨rfl, g1, g2⟩
        have e32 : μ4 32 i = T[i].2 := by rw [g2 32 (by decide)]; exact a2
        simp only [b_X8_makeOneFolder_0, b_X8_makeOneFolder_15, b_X8_makeOneFolder_23, b_X8_makeOneFolder_32, b_X8_makeOneFolder_52, b_X8_makeOneFolder_58, o_c, o_il, o_al, o_is, o_as, o_inc, o_add, o_sub, o_mul, o_and, o_or, o_xor, o_shl, o_shr, o_ush, o_rem, o_dup, o_dup2, o_gf, o_pf, o_pz, o_iald, o_iast, o_zald, o_zast, o_aald, o_gs, o_min, o_acp, o_call, o_callv, zgf, zpf, zia_, zza_, zra_, zrd_, zcp_, zpop, zsm8_0, zsm8_1, zsm8_2, zsm8_3, zsm8_4, zsm8_5, zrc, zisob, t_ieq, t_ilt, t_igt, t_zeq, t_zlt, t_zgt, t_sw, zsw, t_iret, t_zret, t_aret, t_vret, zrg, List.getElem?_cons_zero, List.getElem?_cons_succ, List.set_cons_zero, List.set_cons_succ, List.length_cons, List.length_nil, Option.toList_some, Option.toList_none, List.nil_append, List.cons_append, true_and, and_true, true_or, or_true, Int.cast_ofNat_Int, Int.natCast_zero, Int.natCast_one, zsh_30, zsh_34, zsh_31, zsh_32]
        refine ⟨by omega, ?_⟩
        rw [e32]
        refine ⟨_, c_X0_writePair (by omega) g1 (by simp [hfl]; omega) (by omega), ?_⟩
        rintro v μ5 ⟨rfl, g3, g4⟩
        simp only [b_X8_makeOneFolder_0, b_X8_makeOneFolder_15, b_X8_makeOneFolder_23, b_X8_makeOneFolder_32, b_X8_makeOneFolder_52, b_X8_makeOneFolder_58, o_c, o_il, o_al, o_is, o_as, o_inc, o_add, o_sub, o_mul, o_and, o_or, o_xor, o_shl, o_shr, o_ush, o_rem, o_dup, o_dup2, o_gf, o_pf, o_pz, o_iald, o_iast, o_zald, o_zast, o_aald, o_gs, o_min, o_acp, o_call, o_callv, zgf, zpf, zia_, zza_, zra_, zrd_, zcp_, zpop, zsm8_0, zsm8_1, zsm8_2, zsm8_3, zsm8_4, zsm8_5, zrc, zisob, t_ieq, t_ilt, t_igt, t_zeq, t_zlt, t_zgt, t_sw, zsw, t_iret, t_zret, t_aret, t_vret, zrg, List.getElem?_cons_zero, List.getElem?_cons_succ, List.set_cons_zero, List.set_cons_succ, List.length_cons, List.length_nil, Option.toList_some, Option.toList_none, List.nil_append, List.cons_append, true_and, and_true, true_or, or_true, Int.cast_ofNat_Int, Int.natCast_zero, Int.natCast_one, zsh_30, zsh_34, zsh_31, zsh_32]
        refine ih (i + 1) μ5 (dn ++ [T[i]]) (by omega) (by rw [h2]; simp) (by rw [List.flatMap_append]; simpa [zfpt] using g3) ((h4.trans (g2.mono (by simp))).trans (g4.mono (by simp)))
      · rw [if_neg hb] at h2 ⊢
        exact ⟨by omega, by omega, fun w => by omega, fun _ => ih (i + 1) μ3 dn (by omega) h2 h3 h4⟩
  exact loop T.length 0 μ2 [] (by omega) (by simp) (by simpa using b3) ((b2.mono (by simp)).trans (b4.mono (by simp)))
def zsrow (mask : Nat) (lk : Nat → Int) : List Int := 3 :: (mask : Int) :: (List.range 4).flatMap (fun w => if mask.testBit w then [lk w % 256, lk w / 256] else [])
set_option maxRecDepth 100000 in
set_option maxHeartbeats 4000000 in
theorem c_X8_makeShard {d mask s : Nat} {μ : zM} {L : List zBk} {c : Int} (hd : 3 ≤ d) (hT : zBT μ L [] c) (hm : mask < 16) (hs : s ≤ 3) (hl : ∀ w : Nat, w < 4 → mask.testBit w = true → 0 ≤ μ 33 (4 * s + w) ∧ μ 33 (4 * s + w) ≤ 65520) : zCt d mX8_makeShard [.inr (some 30), .inl (mask : Int), .inl (s : Int), .inr (some 34)] μ (fun v μ' => v = some (.inl (zhash (zsrow mask (fun w => μ 33 (4 * s + w))))) ∧ zBT μ' (zfb L c (zsrow mask (fun w => μ 33 (4 * s + w)))).1 [] (zfb L c (zsrow mask (fun w => μ 33 (4 * s + w)))).2 ∧ zfr [34, 35, 36, 37, 38, 39] μ μ') := by
  generalize hlk : (fun w : Nat => μ 33 (4 * s + w)) = lk
  have hlk' : ∀ w : Nat, μ 33 (4 * s + w) = lk w := fun w => by rw [← hlk]
  refine of_X8_makeShard (by omega) (fun G hG => s_X8_makeShard_0 hG ?_)
  simp only [b_X8_makeShard_0, b_X8_makeShard_13, b_X8_makeShard_19, b_X8_makeShard_29, b_X8_makeShard_44, b_X8_makeShard_50, o_c, o_il, o_al, o_is, o_as, o_inc, o_add, o_sub, o_mul, o_and, o_or, o_xor, o_shl, o_shr, o_ush, o_rem, o_dup, o_dup2, o_gf, o_pf, o_pz, o_iald, o_iast, o_zald, o_zast, o_aald, o_gs, o_min, o_acp, o_call, o_callv, zgf, zpf, zia_, zza_, zra_, zrd_, zcp_, zpop, zsm8_0, zsm8_1, zsm8_2, zsm8_3, zsm8_4, zsm8_5, zrc, zisob, t_ieq, t_ilt, t_igt, t_zeq, t_zlt, t_zgt, t_sw, zsw, t_iret, t_zret, t_aret, t_vret, zrg, List.getElem?_cons_zero, List.getElem?_cons_succ, List.set_cons_zero, List.set_cons_succ, List.length_cons, List.length_nil, Option.toList_some, Option.toList_none, List.nil_append, List.cons_append, true_and, and_true, true_or, or_true, Int.cast_ofNat_Int, Int.natCast_zero, Int.natCast_one, zsh_30, zsh_34]
  refine ⟨_, c_X0_write hT (by simp) (by omega), ?_⟩
  rintro v μ1 ⟨rfl, b1, b2⟩
  simp only [b_X8_makeShard_0, b_X8_makeShard_13, b_X8_makeShard_19, b_X8_makeShard_29, b_X8_makeShard_44, b_X8_makeShard_50, o_c, o_il, o_al, o_is, o_as, o_inc, o_add, o_sub, o_mul, o_and, o_or, o_xor, o_shl, o_shr, o_ush, o_rem, o_dup, o_dup2, o_gf, o_pf, o_pz, o_iald, o_iast, o_zald, o_zast, o_aald, o_gs, o_min, o_acp, o_call, o_callv, zgf, zpf, zia_, zza_, zra_, zrd_, zcp_, zpop, zsm8_0, zsm8_1, zsm8_2, zsm8_3, zsm8_4, zsm8_5, zrc, zisob, t_ieq, t_ilt, t_igt, t_zeq, t_zlt, t_zgt, t_sw, zsw, t_iret, t_zret, t_aret, t_vret, zrg, List.getElem?_cons_zero, List.getElem?_cons_succ, List.set_cons_zero, List.set_cons_succ, List.length_cons, List.length_nil, Option.toList_some, Option.toList_none, List.nil_append, List.cons_append, true_and, and_true, true_or, or_true, Int.cast_ofNat_Int, Int.natCast_zero, Int.natCast_one, zsh_30, zsh_34]
  refine ⟨_, c_X0_write b1 (by simp) (by omega), ?_⟩
  rintro v μ2 ⟨rfl, b3, b4⟩
  simp only [b_X8_makeShard_0, b_X8_makeShard_13, b_X8_makeShard_19, b_X8_makeShard_29, b_X8_makeShard_44, b_X8_makeShard_50, o_c, o_il, o_al, o_is, o_as, o_inc, o_add, o_sub, o_mul, o_and, o_or, o_xor, o_shl, o_shr, o_ush, o_rem, o_dup, o_dup2, o_gf, o_pf, o_pz, o_iald, o_iast, o_zald, o_zast, o_aald, o_gs, o_min, o_acp, o_call, o_callv, zgf, zpf, zia_, zza_, zra_, zrd_, zcp_, zpop, zsm8_0, zsm8_1, zsm8_2, zsm8_3, zsm8_4, zsm8_5, zrc, zisob, t_ieq, t_ilt, t_igt, t_zeq, t_zlt, t_zgt, t_sw, zsw, t_iret, t_zret, t_aret, t_vret, zrg, List.getElem?_cons_zero, List.getElem?_cons_succ, List.set_cons_zero, List.set_cons_succ, List.length_cons, List.length_nil, Option.toList_some, Option.toList_none, List.nil_append, List.cons_append, true_and, and_true, true_or, or_true, Int.cast_ofNat_Int, Int.natCast_zero, Int.natCast_one, zsh_30, zsh_34]
  have hlen : ∀ i : Nat, ((List.range i).flatMap (fun w => if mask.testBit w then [lk w % 256, lk w / 256] else [])).length ≤ 2 * i := by
    intro i
    induction i with
    | zero => simp
    | succ i ih =>
      rw [List.range_succ, List.flatMap_append, List.length_append]
      have : ((if mask.testBit i = true then [lk i % 256, lk i / 256] else []) : List Int).length ≤ 2 := by split <;> simp
      simp only [List.flatMap_cons, List.flatMap_nil, List.append_nil]
      omega
  have loop : ∀ (r i : Nat) (μ3 : zM), i + r = 4 → zBT μ3 L (3 :: (mask : Int) :: (List.range i).flatMap (fun w => if mask.testBit w then [lk w % 256, lk w / 256] else [])) c → zfr [34, 35, 36, 37, 38, 39] μ μ3 → G 13 [.inr (some 30), .inl (mask : Int), .inl (s : Int), .inr (some 34), .inl (i : Int)] [] μ3 := by
    intro r
    induction r with
    | zero =>
      intro i μ3 h1 h2 h3
      have : i = 4 := by omega
      subst this
      refine s_X8_makeShard_13 hG ?_
      simp only [b_X8_makeShard_0, b_X8_makeShard_13, b_X8_makeShard_19, b_X8_makeShard_29, b_X8_makeShard_44, b_X8_makeShard_50, o_c, o_il, o_al, o_is, o_as, o_inc, o_add, o_sub, o_mul, o_and, o_or, o_xor, o_shl, o_shr, o_ush, o_rem, o_dup, o_dup2, o_gf, o_pf, o_pz, o_iald, o_iast, o_zald, o_zast, o_aald, o_gs, o_min, o_acp, o_call, o_callv, zgf, zpf, zia_, zza_, zra_, zrd_, zcp_, zpop, zsm8_0, zsm8_1, zsm8_2, zsm8_3, zsm8_4, zsm8_5, zrc, zisob, t_ieq, t_ilt, t_igt, t_zeq, t_zlt, t_zgt, t_sw, zsw, t_iret, t_zret, t_aret, t_vret, zrg, List.getElem?_cons_zero, List.getElem?_cons_succ, List.set_cons_zero, List.set_cons_succ, List.length_cons, List.length_nil, Option.toList_some, Option.toList_none, List.nil_append, List.cons_append, true_and, and_true, true_or, or_true, Int.cast_ofNat_Int, Int.natCast_zero, Int.natCast_one, zsh_30, zsh_34]
      refine ⟨by omega, by omega, fun w => by omega, fun _ => ?_⟩
      refine ⟨_, c_X0_finishBlock (by omega) h2, ?_⟩
      rintro v μ4 ⟨rfl, g1, g2⟩
      simp only [b_X8_makeShard_0, b_X8_makeShard_13, b_X8_makeShard_19, b_X8_makeShard_29, b_X8_makeShard_44, b_X8_makeShard_50, o_c, o_il, o_al, o_is, o_as, o_inc, o_add, o_sub, o_mul, o_and, o_or, o_xor, o_shl, o_shr, o_ush, o_rem, o_dup, o_dup2, o_gf, o_pf, o_pz, o_iald, o_iast, o_zald, o_zast, o_aald, o_gs, o_min, o_acp, o_call, o_callv, zgf, zpf, zia_, zza_, zra_, zrd_, zcp_, zpop, zsm8_0, zsm8_1, zsm8_2, zsm8_3, zsm8_4, zsm8_5, zrc, zisob, t_ieq, t_ilt, t_igt, t_zeq, t_zlt, t_zgt, t_sw, zsw, t_iret, t_zret, t_aret, t_vret, zrg, List.getElem?_cons_zero, List.getElem?_cons_succ, List.set_cons_zero, List.set_cons_succ, List.length_cons, List.length_nil, Option.toList_some, Option.toList_none, List.nil_append, List.cons_append, true_and, and_true, true_or, or_true, Int.cast_ofNat_Int, Int.natCast_zero, Int.natCast_one, zsh_30, zsh_34]
      exact ⟨rfl, g1, h3.trans (g2.mono (by simp))⟩
    | succ r ih =>
      intro i μ3 h1 h2 h3
      refine s_X8_makeShard_13 hG ?_
      have e33 : μ3 33 (4 * s + i) = lk i := by rw [h3 33 (by decide)]; exact hlk' i
      simp only [b_X8_makeShard_0, b_X8_makeShard_13, b_X8_makeShard_19, b_X8_makeShard_29, b_X8_makeShard_44, b_X8_makeShard_50, o_c, o_il, o_al, o_is, o_as, o_inc, o_add, o_sub, o_mul, o_and, o_or, o_xor, o_shl, o_shr, o_ush, o_rem, o_dup, o_dup2, o_gf, o_pf, o_pz, o_iald, o_iast, o_zald, o_zast, o_aald, o_gs, o_min, o_acp, o_call, o_callv, zgf, zpf, zia_, zza_, zra_, zrd_, zcp_, zpop, zsm8_0, zsm8_1, zsm8_2, zsm8_3, zsm8_4, zsm8_5, zrc, zisob, t_ieq, t_ilt, t_igt, t_zeq, t_zlt, t_zgt, t_sw, zsw, t_iret, t_zret, t_aret, t_vret, zrg, List.getElem?_cons_zero, List.getElem?_cons_succ, List.set_cons_zero, List.set_cons_succ, List.length_cons, List.length_nil, Option.toList_some, Option.toList_none, List.nil_append, List.cons_append, true_and, and_true, true_or, or_true, Int.cast_ofNat_Int, Int.natCast_zero, Int.natCast_one, zsh_30, zsh_34, zsh_33]
      rw [zbit_and (by omega) (by omega)]
      refine ⟨by omega, by omega, fun _ => ?_, fun w => by omega⟩
      have hli := hlen i
      by_cases hb : mask.testBit i = true
      · rw [if_pos hb]
        have hr := hl i (by omega) hb
        rw [hlk' i] at hr
        refine ⟨by omega, by omega, fun _ => ⟨by omega, ?_⟩, fun w => absurd rfl w⟩
        rw [e33]
        refine ⟨_, c_X0_writePair (by omega) h2 (by simp only [List.length_cons]; omega) (by omega), ?_⟩
        rintro v μ4 ⟨rfl, g1, g2⟩
        simp only [b_X8_makeShard_0, b_X8_makeShard_13, b_X8_makeShard_19, b_X8_makeShard_29, b_X8_makeShard_44, b_X8_makeShard_50, o_c, o_il, o_al, o_is, o_as, o_inc, o_add, o_sub, o_mul, o_and, o_or, o_xor, o_shl, o_shr, o_ush, o_rem, o_dup, o_dup2, o_gf, o_pf, o_pz, o_iald, o_iast, o_zald, o_zast, o_aald, o_gs, o_min, o_acp, o_call, o_callv, zgf, zpf, zia_, zza_, zra_, zrd_, zcp_, zpop, zsm8_0, zsm8_1, zsm8_2, zsm8_3, zsm8_4, zsm8_5, zrc, zisob, t_ieq, t_ilt, t_igt, t_zeq, t_zlt, t_zgt, t_sw, zsw, t_iret, t_zret, t_aret, t_vret, zrg, List.getElem?_cons_zero, List.getElem?_cons_succ, List.set_cons_zero, List.set_cons_succ, List.length_cons, List.length_nil, Option.toList_some, Option.toList_none, List.nil_append, List.cons_append, true_and, and_true, true_or, or_true, Int.cast_ofNat_Int, Int.natCast_zero, Int.natCast_one, zsh_30, zsh_34, zsh_33]
        refine ih (i + 1) μ4 (by omega) ?_ (h3.trans (g2.mono (by simp)))
        rw [List.range_succ, List.flatMap_append]
        simp only [List.flatMap_cons, List.flatMap_nil, List.append_nil, if_pos hb]
        simpa using g1
      · rw [if_neg hb]
        refine ⟨by omega, by omega, fun w => by omega, fun _ => ih (i + 1) μ3 (by omega) ?_ h3⟩
        rw [List.range_succ, List.flatMap_append]
        simp only [List.flatMap_cons, List.flatMap_nil, List.append_nil, if_neg hb]
        exact h2
  exact loop 4 0 μ2 (by omega) (by simpa using b3) ((b2.mono (by simp)).trans (b4.mono (by simp)))
