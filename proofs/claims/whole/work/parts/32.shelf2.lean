/-! SHELVES: what is written; names of rows -/
def zhashf (h : Int) : List Int → Int
  | [] => h
  | b :: r => zhashf ((263 * h + b + 1) % 65521) r
def zhash (bs : List Int) : Int := zhashf 40503 bs
theorem zhashf_rg : ∀ {bs : List Int} {h : Int}, (0 ≤ h ∧ h ≤ 65520) → 0 ≤ zhashf h bs ∧ zhashf h bs ≤ 65520 := by
  intro bs
  induction bs with
  | nil => intro h hh; exact hh
  | cons b r ih => intro h hh; exact ih (by omega)
theorem zhash_rg (bs : List Int) : 0 ≤ zhash bs ∧ zhash bs ≤ 65520 := zhashf_rg (by omega)
def zbys (μ : zM) (c : Nat) : Int → Nat → List Int
  | _, 0 => []
  | o, n + 1 => μ c o :: zbys μ c (o + 1) n
theorem zbys_len {μ : zM} {c : Nat} : ∀ {n : Nat} {o : Int}, (zbys μ c o n).length = n := by
  intro n
  induction n with
  | zero => intro o; rfl
  | succ n ih => intro o; simp [zbys, ih]
theorem zbys_get {μ : zM} {c : Nat} : ∀ {n : Nat} {o : Int} {j : Nat}, j < n → (zbys μ c o n)[j]? = some (μ c (o + j)) := by
  intro n
  induction n with
  | zero => intro o j h; omega
  | succ n ih =>
    intro o j h
    cases j with
    | zero => simp [zbys]
    | succ j =>
      simp only [zbys, List.getElem?_cons_succ]
      rw [ih (by omega)]
      congr 2
      omega
theorem zbys_mem {μ : zM} {c n : Nat} {o x : Int} (h : x ∈ zbys μ c o n) : ∃ j : Nat, j < n ∧ x = μ c (o + j) := by
  obtain ⟨j, hj⟩ := List.getElem?_of_mem h
  have h1 : j < n := by
    have := (List.getElem?_eq_some_iff.mp hj).1
    rwa [zbys_len] at this
  rw [zbys_get h1] at hj
  exact ⟨j, h1, (Option.some.inj hj).symm⟩
theorem zbys_eq {μ : zM} {c : Nat} {o : Int} {bs : List Int} (h : ∀ (j : Nat) (x : Int), bs[j]? = some x → μ c (o + j) = x) : zbys μ c o bs.length = bs := by
  apply List.ext_getElem?
  intro j
  by_cases hj : j < bs.length
  · rw [zbys_get hj, List.getElem?_eq_getElem hj, h j bs[j] (List.getElem?_eq_getElem hj)]
  · rw [List.getElem?_eq_none (by rw [zbys_len]; omega), List.getElem?_eq_none (by omega)]
theorem zbys_congr {μ μ' : zM} {c c' : Nat} {o o' : Int} {n : Nat} (h : ∀ j : Nat, j < n → μ' c' (o' + j) = μ c (o + j)) : zbys μ' c' o' n = zbys μ c o n := by
  apply List.ext_getElem?
  intro j
  by_cases hj : j < n
  · rw [zbys_get hj, zbys_get hj, h j hj]
  · rw [List.getElem?_eq_none (by rw [zbys_len]; omega), List.getElem?_eq_none (by rw [zbys_len]; omega)]
theorem zSH.bys {μ : zM} {k : Nat} {n : Int} {L : List zBk} {i : Nat} {b : zBk} (h : zSH μ k n L) (hb : L[i]? = some b) : zbys μ (k + 1) (i * 18) b.2.length = b.2 := zbys_eq (h.2.2.2.2.2 i b hb).2.2
set_option maxRecDepth 100000 in
set_option maxHeartbeats 4000000 in
theorem c_X10_nameOf {d : Nat} {μ : zM} {k n : Nat} {o N : Int} (hk : zsh k = zia N) (ho : 0 ≤ o) (hn : o + n ≤ N) (hv : ∀ x ∈ zbys μ k o n, 0 ≤ x ∧ x ≤ 255) : zCt d mX10_nameOf [.inr (some k), .inl o, .inl (n : Int)] μ (zR (.inl (zhash (zbys μ k o n))) μ) := by
  have hN : N ≤ 2147483647 := by
    have h9 := zsm k
    rw [hk] at h9
    exact h9
  refine of_X10_nameOf (fun G hG => s_X10_nameOf_0 hG ?_)
  simp only [b_X10_nameOf_0, b_X10_nameOf_6, b_X10_nameOf_14, b_X10_nameOf_36, o_c, o_il, o_al, o_is, o_as, o_inc, o_add, o_sub, o_mul, o_and, o_or, o_xor, o_shl, o_shr, o_ush, o_rem, o_dup, o_dup2, o_gf, o_pf, o_pz, o_iald, o_iast, o_zald, o_zast, o_aald, o_gs, o_min, o_acp, o_call, o_callv, zgf, zpf, zia_, zza_, zra_, zrd_, zcp_, zpop, zsm8_0, zsm8_1, zsm8_2, zsm8_3, zsm8_4, zsm8_5, zrc, zisob, t_ieq, t_ilt, t_igt, t_zeq, t_zlt, t_zgt, t_sw, zsw, t_iret, t_zret, t_aret, t_vret, zrg, List.getElem?_cons_zero, List.getElem?_cons_succ, List.set_cons_zero, List.set_cons_succ, List.length_cons, List.length_nil, Option.toList_some, Option.toList_none, List.nil_append, List.cons_append, true_and, and_true, true_or, or_true, Int.cast_ofNat_Int, Int.natCast_zero, Int.natCast_one, hk]
  have loop : ∀ (r : Nat) (h i : Int), i + r = o + n → o ≤ i → (0 ≤ h ∧ h ≤ 65520) → (∀ x ∈ zbys μ k i r, 0 ≤ x ∧ x ≤ 255) → zhash (zbys μ k o n) = zhashf h (zbys μ k i r) → G 6 [.inr (some k), .inl o, .inl (n : Int), .inl h, .inl i] [] μ := by
    intro r
    induction r with
    | zero =>
      intro h i h1 h2 h3 h4 h5
      refine s_X10_nameOf_6 hG ?_
      simp only [b_X10_nameOf_0, b_X10_nameOf_6, b_X10_nameOf_14, b_X10_nameOf_36, o_c, o_il, o_al, o_is, o_as, o_inc, o_add, o_sub, o_mul, o_and, o_or, o_xor, o_shl, o_shr, o_ush, o_rem, o_dup, o_dup2, o_gf, o_pf, o_pz, o_iald, o_iast, o_zald, o_zast, o_aald, o_gs, o_min, o_acp, o_call, o_callv, zgf, zpf, zia_, zza_, zra_, zrd_, zcp_, zpop, zsm8_0, zsm8_1, zsm8_2, zsm8_3, zsm8_4, zsm8_5, zrc, zisob, t_ieq, t_ilt, t_igt, t_zeq, t_zlt, t_zgt, t_sw, zsw, t_iret, t_zret, t_aret, t_vret, zrg, List.getElem?_cons_zero, List.getElem?_cons_succ, List.set_cons_zero, List.set_cons_succ, List.length_cons, List.length_nil, Option.toList_some, Option.toList_none, List.nil_append, List.cons_append, true_and, and_true, true_or, or_true, Int.cast_ofNat_Int, Int.natCast_zero, Int.natCast_one, hk]
      repeat' (first | with_reducible apply And.intro | intro _)
      all_goals first | omega | rfl | (exfalso; omega) | (rw [h5]; rfl)
    | succ r ih =>
      intro h i h1 h2 h3 h4 h5
      have hx := h4 (μ k i) (by simp [zbys])
      refine s_X10_nameOf_6 hG ?_
      simp only [b_X10_nameOf_0, b_X10_nameOf_6, b_X10_nameOf_14, b_X10_nameOf_36, o_c, o_il, o_al, o_is, o_as, o_inc, o_add, o_sub, o_mul, o_and, o_or, o_xor, o_shl, o_shr, o_ush, o_rem, o_dup, o_dup2, o_gf, o_pf, o_pz, o_iald, o_iast, o_zald, o_zast, o_aald, o_gs, o_min, o_acp, o_call, o_callv, zgf, zpf, zia_, zza_, zra_, zrd_, zcp_, zpop, zsm8_0, zsm8_1, zsm8_2, zsm8_3, zsm8_4, zsm8_5, zrc, zisob, t_ieq, t_ilt, t_igt, t_zeq, t_zlt, t_zgt, t_sw, zsw, t_iret, t_zret, t_aret, t_vret, zrg, List.getElem?_cons_zero, List.getElem?_cons_succ, List.set_cons_zero, List.set_cons_succ, List.length_cons, List.length_nil, Option.toList_some, Option.toList_none, List.nil_append, List.cons_append, true_and, and_true, true_or, or_true, Int.cast_ofNat_Int, Int.natCast_zero, Int.natCast_one, hk]
      refine ⟨by omega, by omega, fun _ => ⟨by omega, by omega, by omega, ?_⟩, fun _ => by omega⟩
      exact ih _ (i + 1) (by omega) (by omega) (by omega) (fun x hx => h4 x (by simp [zbys, hx])) h5
  exact loop n 40503 o rfl (by omega) (by omega) hv rfl
theorem zSH.push {μ μ' : zM} {k : Nat} {n : Int} {L : List zBk} {b : zBk} (h : zSH μ k n L) (hlt : (L.length : Int) < n) (hb : zBOK b) (h0 : μ' k 0 = μ k 0) (h4 : μ' k 4 = L.length + 1) (h3 : ∀ i : Int, μ' (k + 3) i = if i = L.length then b.1 else μ (k + 3) i) (h2 : ∀ i : Int, μ' (k + 2) i = if i = L.length then (b.2.length : Int) else μ (k + 2) i) (h1 : ∀ i : Int, i < L.length * 18 → μ' (k + 1) i = μ (k + 1) i) (h1' : ∀ (j : Nat) (x : Int), b.2[j]? = some x → μ' (k + 1) (L.length * 18 + j) = x) : zSH μ' k n (L ++ [b]) := by
  obtain ⟨hk, e0, e4, hle, hok, hat⟩ := h
  refine ⟨hk, by rw [h0, e0], by simp [h4], by simp; omega, ?_, ?_⟩
  · intro x hx
    rcases List.mem_append.mp hx with hx | hx
    · exact hok x hx
    · rw [List.mem_singleton.mp hx]; exact hb
  · intro i x hx
    by_cases hi : i < L.length
    · rw [List.getElem?_append_left hi] at hx
      obtain ⟨a1, a2, a3⟩ := hat i x hx
      have hl := (hok x (List.mem_of_getElem? hx)).2.1
      refine ⟨by rw [h3, if_neg (by omega), a1], by rw [h2, if_neg (by omega), a2], fun j y hy => ?_⟩
      have hj := (List.getElem?_eq_some_iff.mp hy).1
      rw [h1 _ (by omega), a3 j y hy]
    · rw [List.getElem?_append_right (by omega)] at hx
      have hz : i - L.length = 0 := by
        have := (List.getElem?_eq_some_iff.mp hx).1
        simp at this
        omega
      rw [hz] at hx
      cases hx
      have e : i = L.length := by omega
      subst e
      exact ⟨by rw [h3, if_pos rfl], by rw [h2, if_pos rfl], h1'⟩
def zapp (n : Int) (L : List zBk) (b : zBk) : List zBk := if (L.length : Int) < n then L ++ [b] else L
set_option maxRecDepth 100000 in
set_option maxHeartbeats 4000000 in
theorem c_X6_append {d : Nat} {μ : zM} {k rk sz : Nat} {n nm o N : Int} {L : List zBk} (hd : 1 ≤ d) (h : zSH μ k n L) (hr : zsh rk = zia N) (ho : 0 ≤ o) (hN : o + sz ≤ N) (hs : sz ≤ 18) (hb : zBOK (nm, zbys μ rk o sz)) : zCt d mX6_append [.inr (some k), .inl nm, .inr (some rk), .inl o, .inl (sz : Int)] μ (fun r μ' => r = none ∧ zSH μ' k n (zapp n L (nm, zbys μ rk o sz)) ∧ zfr [k, k + 1, k + 2, k + 3] μ μ') := by
  have hh := h
  obtain ⟨hk, h0, h4, hle, hok, hat⟩ := h
  have hn := hk.n
  refine of_X6_append hd (fun G hG => s_X6_append_0 hG ?_)
  simp only [b_X6_append_0, b_X6_append_7, b_X6_append_14, b_X6_append_15, o_c, o_il, o_al, o_is, o_as, o_inc, o_add, o_sub, o_mul, o_and, o_or, o_xor, o_shl, o_shr, o_ush, o_rem, o_dup, o_dup2, o_gf, o_pf, o_pz, o_iald, o_iast, o_zald, o_zast, o_aald, o_gs, o_min, o_acp, o_call, o_callv, zgf, zpf, zia_, zza_, zra_, zrd_, zcp_, zpop, zsm8_0, zsm8_1, zsm8_2, zsm8_3, zsm8_4, zsm8_5, zrc, zisob, t_ieq, t_ilt, t_igt, t_zeq, t_zlt, t_zgt, t_sw, zsw, t_iret, t_zret, t_aret, t_vret, zrg, List.getElem?_cons_zero, List.getElem?_cons_succ, List.set_cons_zero, List.set_cons_succ, List.length_cons, List.length_nil, Option.toList_some, Option.toList_none, List.nil_append, List.cons_append, true_and, and_true, true_or, or_true, Int.cast_ofNat_Int, Int.natCast_zero, Int.natCast_one, hk.ob, hk.c1, hk.c2, hk.c3, hr]
  refine zcall (c_X6_isFull hh) ?_
  simp only [b_X6_append_0, b_X6_append_7, b_X6_append_14, b_X6_append_15, o_c, o_il, o_al, o_is, o_as, o_inc, o_add, o_sub, o_mul, o_and, o_or, o_xor, o_shl, o_shr, o_ush, o_rem, o_dup, o_dup2, o_gf, o_pf, o_pz, o_iald, o_iast, o_zald, o_zast, o_aald, o_gs, o_min, o_acp, o_call, o_callv, zgf, zpf, zia_, zza_, zra_, zrd_, zcp_, zpop, zsm8_0, zsm8_1, zsm8_2, zsm8_3, zsm8_4, zsm8_5, zrc, zisob, t_ieq, t_ilt, t_igt, t_zeq, t_zlt, t_zgt, t_sw, zsw, t_iret, t_zret, t_aret, t_vret, zrg, List.getElem?_cons_zero, List.getElem?_cons_succ, List.set_cons_zero, List.set_cons_succ, List.length_cons, List.length_nil, Option.toList_some, Option.toList_none, List.nil_append, List.cons_append, true_and, and_true, true_or, or_true, Int.cast_ofNat_Int, Int.natCast_zero, Int.natCast_one, hk.ob, hk.c1, hk.c2, hk.c3, hr]
  unfold zapp
  by_cases hc : n ≤ L.length
  · rw [if_pos hc, if_neg (by omega)]
    repeat' (first | with_reducible apply And.intro | intro _)
    all_goals first | omega | rfl | (exfalso; omega) | exact hh | exact zfr.refl _ _
  · rw [if_neg hc, if_pos (by omega)]
    refine ⟨by omega, fun _ => ⟨by omega, by omega, fun _ => by omega, fun _ => ⟨by omega, ?_⟩⟩, fun w => absurd rfl w⟩
    have c4 : zcp μ rk (k + 1) o (μ k 4 * 18) sz k 4 = μ k 4 := by simp [zcp]
    rw [c4]
    refine ⟨by omega, ?_⟩
    have c5 : zup (zcp μ rk (k + 1) o (μ k 4 * 18) sz) (k + 2) (μ k 4) sz k 4 = μ k 4 := by simp [zcp, zup]
    rw [c5]
    refine ⟨by omega, ?_⟩
    have c6 : zup (zup (zcp μ rk (k + 1) o (μ k 4 * 18) sz) (k + 2) (μ k 4) sz) (k + 3) (μ k 4) nm k 4 = μ k 4 := by simp [zcp, zup]
    rw [c6]
    refine ⟨?_, ?_⟩
    · refine hh.push (by omega) hb (by simp [zup, zcp]) (by simp [zup, h4]) (fun i => ?_) (fun i => ?_) (fun i hi => ?_) (fun j x hj => ?_)
      · simp [zup, zcp, h4]
      · simp [zup, zcp, h4, zbys_len]
      · have : ¬ ((L.length : Int) * 18 ≤ i) := by omega
        simp [zup, zcp, h4, this]
      · have hj2 := (List.getElem?_eq_some_iff.mp hj).1
        simp only [zbys_len] at hj2
        simp only [zbys_get hj2] at hj
        have e1 : (L.length : Int) * 18 ≤ L.length * 18 + j := by omega
        have e2 : (L.length : Int) * 18 + j < L.length * 18 + sz := by omega
        have e3 : (L.length : Int) * 18 + j - L.length * 18 = j := by omega
        simp [zup, zcp, h4, e1, e2, e3]
        exact Option.some.inj hj
    · intro c hc
      simp only [List.mem_cons, List.not_mem_nil, or_false, not_or] at hc
      funext i
      simp [zup, zcp, hc.1, hc.2.1, hc.2.2.1, hc.2.2.2]
