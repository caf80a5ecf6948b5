/-! PINS -/
def zstK (q : Nat) : Prop := q = 2 ∨ q = 10 ∨ q = 18
theorem zstK.ob {q : Nat} (h : zstK q) : zsh q = zob 5 [some (q + 1), some (q + 5), none, none, none] := by rcases h with rfl | rfl | rfl <;> rfl
theorem zstK.p {q : Nat} (h : zstK q) : zsh (q + 5) = zob 3 [some (q + 6), some (q + 7), none] := by rcases h with rfl | rfl | rfl <;> rfl
theorem zstK.p1 {q : Nat} (h : zstK q) : zsh (q + 6) = zia 8 := by rcases h with rfl | rfl | rfl <;> rfl
theorem zstK.p2 {q : Nat} (h : zstK q) : zsh (q + 7) = zza 8 := by rcases h with rfl | rfl | rfl <;> rfl
theorem zstK.sh {q : Nat} (h : zstK q) : zshK (q + 1) 64 := by rcases h with rfl | rfl | rfl <;> simp [zshK]
theorem zstK.sob {q : Nat} (h : zstK q) : zsh (q + 1) = zob 4 [none, some (q + 2), some (q + 3), some (q + 4), none] := by rcases h with rfl | rfl | rfl <;> rfl
abbrev zPp : Type := Int × Int
def zPN (μ : zM) (q : Nat) (P : List zPp) : Prop := zstK q ∧ μ (q + 5) 2 = P.length ∧ P.length ≤ 8 ∧ zAR μ (q + 6) (P.map (·.1)) ∧ zAR μ (q + 7) (P.map (·.2)) ∧ ∀ p ∈ P, (0 ≤ p.1 ∧ p.1 ≤ 65520) ∧ (p.2 = 0 ∨ p.2 = 1)
theorem zPN.fr {μ μ' : zM} {q : Nat} {P : List zPp} {S : List Nat} (h : zPN μ q P) (f : zfr S μ μ') (hS : ∀ c ∈ S, c < q + 5 ∨ q + 7 < c) : zPN μ' q P := by
  have key : ∀ c, q + 5 ≤ c → c ≤ q + 7 → μ' c = μ c := fun c h1 h2 => f c (fun w => by have := hS c w; omega)
  unfold zPN zAR at h ⊢
  rw [key (q + 5) (by omega) (by omega), key (q + 6) (by omega) (by omega), key (q + 7) (by omega) (by omega)]
  exact h
theorem zPN.at {μ : zM} {q i : Nat} {P : List zPp} {p : zPp} (h : zPN μ q P) (hp : P[i]? = some p) : μ (q + 6) i = p.1 ∧ μ (q + 7) i = p.2 ∧ (0 ≤ p.1 ∧ p.1 ≤ 65520) ∧ (p.2 = 0 ∨ p.2 = 1) := by
  obtain ⟨h1, h2, h3, h4, h5, h6⟩ := h
  have := h6 p (List.mem_of_getElem? hp)
  exact ⟨h4 i p.1 (by simp [hp]), h5 i p.2 (by simp [hp]), this⟩
def zplf (p : zPp) : List zPp → Int → Int
  | [], _ => -1
  | b :: r, i => if b = p then i else zplf p r (i + 1)
def zpl (P : List zPp) (p : zPp) : Int := zplf p P 0
theorem zplf_drop {p : zPp} {P : List zPp} {i : Nat} (h : i < P.length) : zplf p (P.drop i) i = if P[i] = p then (i : Int) else zplf p (P.drop (i + 1)) ((i + 1 : Nat) : Int) := by
  rw [List.drop_eq_getElem_cons h]
  simp [zplf]
theorem zpl_rg (P : List zPp) (p : zPp) : zpl P p = -1 ∨ ∃ i : Nat, zpl P p = i ∧ i < P.length ∧ P[i]? = some p := by
  have key : ∀ (P : List zPp) (i : Nat), zplf p P i = -1 ∨ ∃ s : Nat, zplf p P i = ((i + s : Nat) : Int) ∧ s < P.length ∧ P[s]? = some p := by
    intro P
    induction P with
    | nil => intro i; left; rfl
    | cons a r ih =>
      intro i
      simp only [zplf]
      by_cases e : a = p
      · right
        rw [if_pos e]
        exact ⟨0, by simp, by simp, by simp [e]⟩
      · rw [if_neg e]
        rcases ih (i + 1) with h1 | ⟨s, h1, h2, h3⟩
        · left; exact h1
        · right
          refine ⟨s + 1, ?_, by simp; omega, by simpa using h3⟩
          have : ((i : Int) + 1) = ((i + 1 : Nat) : Int) := by omega
          rw [this, h1]
          omega
  have := key P 0
  simpa [zpl] using this
set_option maxRecDepth 100000 in
set_option maxHeartbeats 4000000 in
theorem c_X5_placeOf {d : Nat} {μ : zM} {q : Nat} {P : List zPp} {nm dp : Int} (h : zPN μ q P) (hn : zrg nm) (hd : dp = 0 ∨ dp = 1) : zCt d mX5_placeOf [.inr (some (q + 5)), .inl nm, .inl dp] μ (zR (.inl (zpl P (nm, dp))) μ) := by
  have hk := h.1
  have hc := h.2.1
  have hl := h.2.2.1
  unfold zrg at hn
  refine of_X5_placeOf (fun G hG => s_X5_placeOf_0 hG ?_)
  simp only [b_X5_placeOf_0, b_X5_placeOf_2, b_X5_placeOf_10, b_X5_placeOf_20, b_X5_placeOf_30, b_X5_placeOf_32, b_X5_placeOf_38, o_c, o_il, o_al, o_is, o_as, o_inc, o_add, o_sub, o_mul, o_and, o_or, o_xor, o_shl, o_shr, o_ush, o_rem, o_dup, o_dup2, o_gf, o_pf, o_pz, o_iald, o_iast, o_zald, o_zast, o_aald, o_gs, o_min, o_acp, o_call, o_callv, zgf, zpf, zia_, zza_, zra_, zrd_, zcp_, zpop, zsm8_0, zsm8_1, zsm8_2, zsm8_3, zsm8_4, zsm8_5, zrc, zisob, t_ieq, t_ilt, t_igt, t_zeq, t_zlt, t_zgt, t_sw, zsw, t_iret, t_zret, t_aret, t_vret, zrg, List.getElem?_cons_zero, List.getElem?_cons_succ, List.set_cons_zero, List.set_cons_succ, List.length_cons, List.length_nil, Option.toList_some, Option.toList_none, List.nil_append, List.cons_append, true_and, and_true, true_or, or_true, Int.cast_ofNat_Int, Int.natCast_zero, Int.natCast_one, hk.p, hk.p1, hk.p2]
  have loop : ∀ (r i : Nat), i + r = P.length → zpl P (nm, dp) = zplf (nm, dp) (P.drop i) i → G 2 [.inr (some (q + 5)), .inl nm, .inl dp, .inl (i : Int)] [] μ := by
    intro r
    induction r with
    | zero =>
      intro i h1 h2
      refine s_X5_placeOf_2 hG ?_
      rw [List.drop_eq_nil_of_le (by omega)] at h2
      simp only [b_X5_placeOf_0, b_X5_placeOf_2, b_X5_placeOf_10, b_X5_placeOf_20, b_X5_placeOf_30, b_X5_placeOf_32, b_X5_placeOf_38, o_c, o_il, o_al, o_is, o_as, o_inc, o_add, o_sub, o_mul, o_and, o_or, o_xor, o_shl, o_shr, o_ush, o_rem, o_dup, o_dup2, o_gf, o_pf, o_pz, o_iald, o_iast, o_zald, o_zast, o_aald, o_gs, o_min, o_acp, o_call, o_callv, zgf, zpf, zia_, zza_, zra_, zrd_, zcp_, zpop, zsm8_0, zsm8_1, zsm8_2, zsm8_3, zsm8_4, zsm8_5, zrc, zisob, t_ieq, t_ilt, t_igt, t_zeq, t_zlt, t_zgt, t_sw, zsw, t_iret, t_zret, t_aret, t_vret, zrg, List.getElem?_cons_zero, List.getElem?_cons_succ, List.set_cons_zero, List.set_cons_succ, List.length_cons, List.length_nil, Option.toList_some, Option.toList_none, List.nil_append, List.cons_append, true_and, and_true, true_or, or_true, Int.cast_ofNat_Int, Int.natCast_zero, Int.natCast_one, hk.p, hk.p1, hk.p2]
      refine ⟨by omega, by omega, fun _ => by omega, fun _ => ?_⟩
      rw [h2]
      exact ⟨rfl, rfl⟩
    | succ r ih =>
      intro i h1 h2
      have hi : i < P.length := by omega
      rw [zplf_drop hi] at h2
      obtain ⟨a1, a2, a3, a4⟩ := h.at (List.getElem?_eq_getElem hi)
      refine s_X5_placeOf_2 hG ?_
      simp only [b_X5_placeOf_0, b_X5_placeOf_2, b_X5_placeOf_10, b_X5_placeOf_20, b_X5_placeOf_30, b_X5_placeOf_32, b_X5_placeOf_38, o_c, o_il, o_al, o_is, o_as, o_inc, o_add, o_sub, o_mul, o_and, o_or, o_xor, o_shl, o_shr, o_ush, o_rem, o_dup, o_dup2, o_gf, o_pf, o_pz, o_iald, o_iast, o_zald, o_zast, o_aald, o_gs, o_min, o_acp, o_call, o_callv, zgf, zpf, zia_, zza_, zra_, zrd_, zcp_, zpop, zsm8_0, zsm8_1, zsm8_2, zsm8_3, zsm8_4, zsm8_5, zrc, zisob, t_ieq, t_ilt, t_igt, t_zeq, t_zlt, t_zgt, t_sw, zsw, t_iret, t_zret, t_aret, t_vret, zrg, List.getElem?_cons_zero, List.getElem?_cons_succ, List.set_cons_zero, List.set_cons_succ, List.length_cons, List.length_nil, Option.toList_some, Option.toList_none, List.nil_append, List.cons_append, true_and, and_true, true_or, or_true, Int.cast_ofNat_Int, Int.natCast_zero, Int.natCast_one, hk.p, hk.p1, hk.p2]
      have next : ¬ P[i] = (nm, dp) → G 2 [.inr (some (q + 5)), .inl nm, .inl dp, .inl ((i : Int) + 1)] [] μ := fun e => by
        rw [if_neg e] at h2
        exact ih (i + 1) (by omega) h2
      refine ⟨by omega, by omega, fun _ => ⟨by omega, by omega, by omega, fun e => ⟨by omega, by omega, by omega, fun e2 => ?_, fun e2 => next (fun w => e2 (by rw [a2, w]))⟩, fun e => next (fun w => e (by rw [a1, w]))⟩, fun _ => by omega⟩
      rw [if_pos (Prod.ext (a1.symm.trans e) (a2.symm.trans e2))] at h2
      rw [h2]
      exact ⟨rfl, rfl⟩
  exact loop P.length 0 (by omega) rfl
def zpin (P : List zPp) (p : zPp) : Prop := P.length < 8 ∧ zpl P p < 0
def zpA (P : List zPp) (p : zPp) : List zPp := if P.length < 8 ∧ zpl P p < 0 then P ++ [p] else P
set_option maxRecDepth 100000 in
set_option maxHeartbeats 4000000 in
theorem c_X5_insert {d : Nat} {μ : zM} {q : Nat} {P : List zPp} {nm dp : Int} (hd1 : 1 ≤ d) (h : zPN μ q P) (hn : 0 ≤ nm ∧ nm ≤ 65520) (hd : dp = 0 ∨ dp = 1) : zCt d mX5_insert [.inr (some (q + 5)), .inl nm, .inl dp] μ (fun r μ' => r = some (.inl (zb (zpin P (nm, dp)))) ∧ zPN μ' q (zpA P (nm, dp)) ∧ zfr [q + 5, q + 6, q + 7] μ μ') := by
  have hh := h
  obtain ⟨hk, hc, hl, h4, h5, h6⟩ := h
  have hpr := zpl_rg P (nm, dp)
  have hpr2 : -1 ≤ zpl P (nm, dp) ∧ zpl P (nm, dp) ≤ 8 := by rcases hpr with e | ⟨i, e, hi, _⟩ <;> omega
  by_cases hc0 : P.length < 8 ∧ zpl P (nm, dp) < 0
  · rw [zb_t (P := zpin P (nm, dp)) hc0, zpA, if_pos hc0]
    refine of_X5_insert hd1 (fun G hG => s_X5_insert_0 hG ?_)
    simp only [b_X5_insert_0, b_X5_insert_9, b_X5_insert_18, b_X5_insert_20, o_c, o_il, o_al, o_is, o_as, o_inc, o_add, o_sub, o_mul, o_and, o_or, o_xor, o_shl, o_shr, o_ush, o_rem, o_dup, o_dup2, o_gf, o_pf, o_pz, o_iald, o_iast, o_zald, o_zast, o_aald, o_gs, o_min, o_acp, o_call, o_callv, zgf, zpf, zia_, zza_, zra_, zrd_, zcp_, zpop, zsm8_0, zsm8_1, zsm8_2, zsm8_3, zsm8_4, zsm8_5, zrc, zisob, t_ieq, t_ilt, t_igt, t_zeq, t_zlt, t_zgt, t_sw, zsw, t_iret, t_zret, t_aret, t_vret, zrg, List.getElem?_cons_zero, List.getElem?_cons_succ, List.set_cons_zero, List.set_cons_succ, List.length_cons, List.length_nil, Option.toList_some, Option.toList_none, List.nil_append, List.cons_append, true_and, and_true, true_or, or_true, Int.cast_ofNat_Int, Int.natCast_zero, Int.natCast_one, hk.p, hk.p1, hk.p2]
    refine ⟨by omega, by omega, fun e => ?_, fun e => by omega⟩
    refine zcall (c_X5_placeOf hh ⟨by omega, by omega⟩ hd) ?_
    simp only [b_X5_insert_0, b_X5_insert_9, b_X5_insert_18, b_X5_insert_20, o_c, o_il, o_al, o_is, o_as, o_inc, o_add, o_sub, o_mul, o_and, o_or, o_xor, o_shl, o_shr, o_ush, o_rem, o_dup, o_dup2, o_gf, o_pf, o_pz, o_iald, o_iast, o_zald, o_zast, o_aald, o_gs, o_min, o_acp, o_call, o_callv, zgf, zpf, zia_, zza_, zra_, zrd_, zcp_, zpop, zsm8_0, zsm8_1, zsm8_2, zsm8_3, zsm8_4, zsm8_5, zrc, zisob, t_ieq, t_ilt, t_igt, t_zeq, t_zlt, t_zgt, t_sw, zsw, t_iret, t_zret, t_aret, t_vret, zrg, List.getElem?_cons_zero, List.getElem?_cons_succ, List.set_cons_zero, List.set_cons_succ, List.length_cons, List.length_nil, Option.toList_some, Option.toList_none, List.nil_append, List.cons_append, true_and, and_true, true_or, or_true, Int.cast_ofNat_Int, Int.natCast_zero, Int.natCast_one, hk.p, hk.p1, hk.p2]
    have e1 : zup μ (q + 6) (μ (q + 5) 2) nm (q + 5) 2 = μ (q + 5) 2 := by simp [zup]
    have e2 : zup (zup μ (q + 6) (μ (q + 5) 2) nm) (q + 7) (μ (q + 5) 2) dp (q + 5) 2 = μ (q + 5) 2 := by simp [zup]
    rw [e1, e2]
    refine ⟨by omega, fun e3 => ⟨by omega, hd, by omega, ⟨hk, by simp [zup, hc], by simp; omega, ?_, ?_, ?_⟩, fun c hcc => ?_⟩, fun e3 => by omega⟩
    · rw [List.map_append]
      refine h4.push (fun i hi => ?_) ?_
      · rw [zup_ne _ (by omega), zup_ne _ (by omega)]
        simp at hi
        simp [zup, hc, hi]
      · rw [zup_ne _ (by omega), zup_ne _ (by omega)]
        simp [zup, hc]
    · rw [List.map_append]
      refine h5.push (fun i hi => ?_) ?_
      · rw [zup_ne _ (by omega)]
        simp at hi
        simp [zup, hc, hi]
      · rw [zup_ne _ (by omega)]
        simp [zup, hc]
    · intro p hp
      rcases List.mem_append.mp hp with w | w
      · exact h6 p w
      · rw [List.mem_singleton.mp w]; exact ⟨hn, hd⟩
    · simp only [List.mem_cons, List.not_mem_nil, or_false, not_or] at hcc
      rw [zup_ne c hcc.1, zup_ne c hcc.2.2, zup_ne c hcc.2.1]
  · rw [zb_f (P := zpin P (nm, dp)) hc0, zpA, if_neg hc0]
    refine of_X5_insert hd1 (fun G hG => s_X5_insert_0 hG ?_)
    simp only [b_X5_insert_0, b_X5_insert_9, b_X5_insert_18, b_X5_insert_20, o_c, o_il, o_al, o_is, o_as, o_inc, o_add, o_sub, o_mul, o_and, o_or, o_xor, o_shl, o_shr, o_ush, o_rem, o_dup, o_dup2, o_gf, o_pf, o_pz, o_iald, o_iast, o_zald, o_zast, o_aald, o_gs, o_min, o_acp, o_call, o_callv, zgf, zpf, zia_, zza_, zra_, zrd_, zcp_, zpop, zsm8_0, zsm8_1, zsm8_2, zsm8_3, zsm8_4, zsm8_5, zrc, zisob, t_ieq, t_ilt, t_igt, t_zeq, t_zlt, t_zgt, t_sw, zsw, t_iret, t_zret, t_aret, t_vret, zrg, List.getElem?_cons_zero, List.getElem?_cons_succ, List.set_cons_zero, List.set_cons_succ, List.length_cons, List.length_nil, Option.toList_some, Option.toList_none, List.nil_append, List.cons_append, true_and, and_true, true_or, or_true, Int.cast_ofNat_Int, Int.natCast_zero, Int.natCast_one, hk.p, hk.p1, hk.p2]
    refine ⟨by omega, by omega, fun e => ?_, fun e => ⟨hh, zfr.refl _ _⟩⟩
    refine zcall (c_X5_placeOf hh ⟨by omega, by omega⟩ hd) ?_
    simp only [b_X5_insert_0, b_X5_insert_9, b_X5_insert_18, b_X5_insert_20, o_c, o_il, o_al, o_is, o_as, o_inc, o_add, o_sub, o_mul, o_and, o_or, o_xor, o_shl, o_shr, o_ush, o_rem, o_dup, o_dup2, o_gf, o_pf, o_pz, o_iald, o_iast, o_zald, o_zast, o_aald, o_gs, o_min, o_acp, o_call, o_callv, zgf, zpf, zia_, zza_, zra_, zrd_, zcp_, zpop, zsm8_0, zsm8_1, zsm8_2, zsm8_3, zsm8_4, zsm8_5, zrc, zisob, t_ieq, t_ilt, t_igt, t_zeq, t_zlt, t_zgt, t_sw, zsw, t_iret, t_zret, t_aret, t_vret, zrg, List.getElem?_cons_zero, List.getElem?_cons_succ, List.set_cons_zero, List.set_cons_succ, List.length_cons, List.length_nil, Option.toList_some, Option.toList_none, List.nil_append, List.cons_append, true_and, and_true, true_or, or_true, Int.cast_ofNat_Int, Int.natCast_zero, Int.natCast_one, hk.p, hk.p1, hk.p2]
    exact ⟨by omega, fun e3 => by omega, fun e3 => ⟨hh, zfr.refl _ _⟩⟩
/-- the last one takes the place of the i-th -/
def zprm (P : List zPp) (i : Nat) : List zPp := (P.set i (P.getLastD (0, 0))).dropLast
theorem zprm_get {P : List zPp} {i j : Nat} (hi : i < P.length) (hj : j + 1 < P.length) : (zprm P i)[j]? = if j = i then P[P.length - 1]? else P[j]? := by
  unfold zprm
  rw [List.getElem?_dropLast]
  have e : P.getLastD (0, 0) = P[P.length - 1] := by
    rw [List.getLastD_eq_getLast?, List.getLast?_eq_getElem?, List.getElem?_eq_getElem (by omega)]
    rfl
  simp only [List.length_set]
  rw [if_pos (by omega), List.getElem?_set, e]
  by_cases h : j = i
  · subst h
    simp [hi, List.getElem?_eq_getElem (show P.length - 1 < P.length by omega)]
  · rw [if_neg (fun w => h w.symm), if_neg h]
def zpD (P : List zPp) (p : zPp) : List zPp := if 0 ≤ zpl P p then zprm P (zpl P p).toNat else P
set_option maxRecDepth 100000 in
set_option maxHeartbeats 4000000 in
theorem c_X5_remove {d : Nat} {μ : zM} {q : Nat} {P : List zPp} {nm dp : Int} (hd1 : 1 ≤ d) (h : zPN μ q P) (hn : zrg nm) (hd : dp = 0 ∨ dp = 1) : zCt d mX5_remove [.inr (some (q + 5)), .inl nm, .inl dp] μ (fun r μ' => r = some (.inl (zb (0 ≤ zpl P (nm, dp)))) ∧ zPN μ' q (zpD P (nm, dp)) ∧ zfr [q + 5, q + 6, q + 7] μ μ') := by
  have hh := h
  obtain ⟨hk, hc, hl, h4, h5, h6⟩ := h
  rcases zpl_rg P (nm, dp) with e | ⟨i, e, hi, hp⟩
  · rw [zb_f (P := 0 ≤ zpl P (nm, dp)) (by omega), zpD, if_neg (by omega)]
    refine of_X5_remove hd1 (fun G hG => s_X5_remove_0 hG ?_)
    simp only [b_X5_remove_0, b_X5_remove_11, b_X5_remove_13, o_c, o_il, o_al, o_is, o_as, o_inc, o_add, o_sub, o_mul, o_and, o_or, o_xor, o_shl, o_shr, o_ush, o_rem, o_dup, o_dup2, o_gf, o_pf, o_pz, o_iald, o_iast, o_zald, o_zast, o_aald, o_gs, o_min, o_acp, o_call, o_callv, zgf, zpf, zia_, zza_, zra_, zrd_, zcp_, zpop, zsm8_0, zsm8_1, zsm8_2, zsm8_3, zsm8_4, zsm8_5, zrc, zisob, t_ieq, t_ilt, t_igt, t_zeq, t_zlt, t_zgt, t_sw, zsw, t_iret, t_zret, t_aret, t_vret, zrg, List.getElem?_cons_zero, List.getElem?_cons_succ, List.set_cons_zero, List.set_cons_succ, List.length_cons, List.length_nil, Option.toList_some, Option.toList_none, List.nil_append, List.cons_append, true_and, and_true, true_or, or_true, Int.cast_ofNat_Int, Int.natCast_zero, Int.natCast_one, hk.p, hk.p1, hk.p2]
    refine zcall (c_X5_placeOf hh hn hd) ?_
    simp only [b_X5_remove_0, b_X5_remove_11, b_X5_remove_13, o_c, o_il, o_al, o_is, o_as, o_inc, o_add, o_sub, o_mul, o_and, o_or, o_xor, o_shl, o_shr, o_ush, o_rem, o_dup, o_dup2, o_gf, o_pf, o_pz, o_iald, o_iast, o_zald, o_zast, o_aald, o_gs, o_min, o_acp, o_call, o_callv, zgf, zpf, zia_, zza_, zra_, zrd_, zcp_, zpop, zsm8_0, zsm8_1, zsm8_2, zsm8_3, zsm8_4, zsm8_5, zrc, zisob, t_ieq, t_ilt, t_igt, t_zeq, t_zlt, t_zgt, t_sw, zsw, t_iret, t_zret, t_aret, t_vret, zrg, List.getElem?_cons_zero, List.getElem?_cons_succ, List.set_cons_zero, List.set_cons_succ, List.length_cons, List.length_nil, Option.toList_some, Option.toList_none, List.nil_append, List.cons_append, true_and, and_true, true_or, or_true, Int.cast_ofNat_Int, Int.natCast_zero, Int.natCast_one, hk.p, hk.p1, hk.p2]
    rw [e]
    exact ⟨by omega, fun _ => ⟨hh, zfr.refl _ _⟩, fun w => by omega⟩
  · rw [zb_t (P := 0 ≤ zpl P (nm, dp)) (by omega), zpD, if_pos (by omega), e]
    refine of_X5_remove hd1 (fun G hG => s_X5_remove_0 hG ?_)
    simp only [b_X5_remove_0, b_X5_remove_11, b_X5_remove_13, o_c, o_il, o_al, o_is, o_as, o_inc, o_add, o_sub, o_mul, o_and, o_or, o_xor, o_shl, o_shr, o_ush, o_rem, o_dup, o_dup2, o_gf, o_pf, o_pz, o_iald, o_iast, o_zald, o_zast, o_aald, o_gs, o_min, o_acp, o_call, o_callv, zgf, zpf, zia_, zza_, zra_, zrd_, zcp_, zpop, zsm8_0, zsm8_1, zsm8_2, zsm8_3, zsm8_4, zsm8_5, zrc, zisob, t_ieq, t_ilt, t_igt, t_zeq, t_zlt, t_zgt, t_sw, zsw, t_iret, t_zret, t_aret, t_vret, zrg, List.getElem?_cons_zero, List.getElem?_cons_succ, List.set_cons_zero, List.set_cons_succ, List.length_cons, List.length_nil, Option.toList_some, Option.toList_none, List.nil_append, List.cons_append, true_and, and_true, true_or, or_true, Int.cast_ofNat_Int, Int.natCast_zero, Int.natCast_one, hk.p, hk.p1, hk.p2]
    refine zcall (c_X5_placeOf hh hn hd) ?_
    rw [e]
    simp only [b_X5_remove_0, b_X5_remove_11, b_X5_remove_13, o_c, o_il, o_al, o_is, o_as, o_inc, o_add, o_sub, o_mul, o_and, o_or, o_xor, o_shl, o_shr, o_ush, o_rem, o_dup, o_dup2, o_gf, o_pf, o_pz, o_iald, o_iast, o_zald, o_zast, o_aald, o_gs, o_min, o_acp, o_call, o_callv, zgf, zpf, zia_, zza_, zra_, zrd_, zcp_, zpop, zsm8_0, zsm8_1, zsm8_2, zsm8_3, zsm8_4, zsm8_5, zrc, zisob, t_ieq, t_ilt, t_igt, t_zeq, t_zlt, t_zgt, t_sw, zsw, t_iret, t_zret, t_aret, t_vret, zrg, List.getElem?_cons_zero, List.getElem?_cons_succ, List.set_cons_zero, List.set_cons_succ, List.length_cons, List.length_nil, Option.toList_some, Option.toList_none, List.nil_append, List.cons_append, true_and, and_true, true_or, or_true, Int.cast_ofNat_Int, Int.natCast_zero, Int.natCast_one, hk.p, hk.p1, hk.p2]
    have hlast := hh.at (List.getElem?_eq_getElem (show P.length - 1 < P.length by omega))
    have c1 : zup μ (q + 5) 2 (μ (q + 5) 2 - 1) (q + 5) 2 = ((P.length - 1 : Nat) : Int) := by simp [zup, hc]; omega
    have c2 : zup μ (q + 5) 2 (μ (q + 5) 2 - 1) (q + 6) ((P.length - 1 : Nat) : Int) = P[P.length - 1].1 := by rw [zup_ne _ (by omega)]; exact hlast.1
    rw [c1, c2]
    have c3 : zup (zup μ (q + 5) 2 (μ (q + 5) 2 - 1)) (q + 6) (i : Int) P[P.length - 1].1 (q + 5) 2 = ((P.length - 1 : Nat) : Int) := by rw [zup_ne _ (by omega)]; exact c1
    have c4 : zup (zup μ (q + 5) 2 (μ (q + 5) 2 - 1)) (q + 6) (i : Int) P[P.length - 1].1 (q + 7) ((P.length - 1 : Nat) : Int) = P[P.length - 1].2 := by rw [zup_ne _ (by omega), zup_ne _ (by omega)]; exact hlast.2.1
    rw [c3, c4]
    have hlen : (zprm P i).length = P.length - 1 := by simp [zprm]
    refine ⟨by omega, fun w => by omega, fun _ => ⟨by omega, by omega, by omega, hlast.2.2.2, by omega, ?_, fun c hcc => ?_⟩⟩
    · simp only [Int.toNat_natCast]
      have hget : ∀ (j : Nat) (p : zPp), (zprm P i)[j]? = some p → j + 1 < P.length ∧ (if j = i then P[P.length - 1]? else P[j]?) = some p := fun j p hj => by
        have hj2 := (List.getElem?_eq_some_iff.mp hj).1
        rw [hlen] at hj2
        rw [zprm_get hi (by omega)] at hj
        exact ⟨by omega, hj⟩
      refine ⟨hk, by rw [hlen]; simp [zup, hc]; omega, by omega, ?_, ?_, ?_⟩
      · intro j x hj
        rw [List.getElem?_map] at hj
        cases hz : (zprm P i)[j]? with
        | none => rw [hz] at hj; cases hj
        | some p =>
          rw [hz] at hj
          cases hj
          obtain ⟨g1, g2⟩ := hget j p hz
          rw [zup_ne _ (by omega)]
          by_cases ej : j = i
          · rw [if_pos ej, List.getElem?_eq_getElem (by omega)] at g2
            cases g2
            simp [zup, ej]
          · rw [if_neg ej] at g2
            have : ¬ ((j : Int) = i) := by omega
            simp [zup, this]
            exact (hh.at g2).1
      · intro j x hj
        rw [List.getElem?_map] at hj
        cases hz : (zprm P i)[j]? with
        | none => rw [hz] at hj; cases hj
        | some p =>
          rw [hz] at hj
          cases hj
          obtain ⟨g1, g2⟩ := hget j p hz
          by_cases ej : j = i
          · rw [if_pos ej, List.getElem?_eq_getElem (by omega)] at g2
            cases g2
            simp [zup, ej]
          · rw [if_neg ej] at g2
            have : ¬ ((j : Int) = i) := by omega
            simp [zup, this]
            exact (hh.at g2).2.1
      · intro p hp2
        obtain ⟨j, hj⟩ := List.getElem?_of_mem hp2
        obtain ⟨g1, g2⟩ := hget j p hj
        by_cases ej : j = i
        · rw [if_pos ej] at g2; exact h6 p (List.mem_of_getElem? g2)
        · rw [if_neg ej] at g2; exact h6 p (List.mem_of_getElem? g2)
    · simp only [List.mem_cons, List.not_mem_nil, or_false, not_or] at hcc
      rw [zup_ne c hcc.2.2, zup_ne c hcc.2.1, zup_ne c hcc.1]
def zdeep (L : List zBk) : List zPp → List Int → List Int
  | [], S => S
  | p :: r, S => zdeep L r (if p.2 = 1 then zdfs L 257 S [p.1] else S)
set_option maxRecDepth 100000 in
set_option maxHeartbeats 4000000 in
theorem c_X5_reachUnderDeep {d : Nat} {μ : zM} {q w : Nat} {P : List zPp} {L : List zBk} {S T0 : List Int} (hd1 : 4 ≤ d) (h : zPN μ q P) (hW : zWS μ w L S T0) (hL : zSH μ (q + 1) 64 L) (hV : zVB L) (hN : zNd L) (hkw : q + 7 < w) : zCt d mX5_reachUnderDeep [.inr (some (q + 5)), .inr (some (q + 1)), .inr (some w)] μ (fun r μ' => r = none ∧ (∃ T, zWS μ' w L (zdeep L P S) T) ∧ zfr [w, w + 1, w + 2, w + 3] μ μ') := by
  have hk := h.1
  have hc := h.2.1
  have hl := h.2.2.1
  have hwk : zwK w := by obtain ⟨R, M, a, _⟩ := hW; exact a.1
  refine of_X5_reachUnderDeep (by omega) (fun G hG => s_X5_reachUnderDeep_0 hG ?_)
  simp only [b_X5_reachUnderDeep_0, b_X5_reachUnderDeep_2, b_X5_reachUnderDeep_10, b_X5_reachUnderDeep_19, b_X5_reachUnderDeep_30, b_X5_reachUnderDeep_36, o_c, o_il, o_al, o_is, o_as, o_inc, o_add, o_sub, o_mul, o_and, o_or, o_xor, o_shl, o_shr, o_ush, o_rem, o_dup, o_dup2, o_gf, o_pf, o_pz, o_iald, o_iast, o_zald, o_zast, o_aald, o_gs, o_min, o_acp, o_call, o_callv, zgf, zpf, zia_, zza_, zra_, zrd_, zcp_, zpop, zsm8_0, zsm8_1, zsm8_2, zsm8_3, zsm8_4, zsm8_5, zrc, zisob, t_ieq, t_ilt, t_igt, t_zeq, t_zlt, t_zgt, t_sw, zsw, t_iret, t_zret, t_aret, t_vret, zrg, List.getElem?_cons_zero, List.getElem?_cons_succ, List.set_cons_zero, List.set_cons_succ, List.length_cons, List.length_nil, Option.toList_some, Option.toList_none, List.nil_append, List.cons_append, true_and, and_true, true_or, or_true, Int.cast_ofNat_Int, Int.natCast_zero, Int.natCast_one, hk.p, hk.p1, hk.p2, hwk.ob]
  have loop : ∀ (r i : Nat) (μ2 : zM) (S2 T2 : List Int), i + r = P.length → zWS μ2 w L S2 T2 → zdeep L P S = zdeep L (P.drop i) S2 → zfr [w, w + 1, w + 2, w + 3] μ μ2 → G 2 [.inr (some (q + 5)), .inr (some (q + 1)), .inr (some w), .inl (i : Int)] [] μ2 := by
    intro r
    induction r with
    | zero =>
      intro i μ2 S2 T2 h1 h2 h3 h4
      refine s_X5_reachUnderDeep_2 hG ?_
      have hc2 : μ2 (q + 5) 2 = P.length := by rw [h4 _ (by simp; omega)]; exact hc
      simp only [b_X5_reachUnderDeep_0, b_X5_reachUnderDeep_2, b_X5_reachUnderDeep_10, b_X5_reachUnderDeep_19, b_X5_reachUnderDeep_30, b_X5_reachUnderDeep_36, o_c, o_il, o_al, o_is, o_as, o_inc, o_add, o_sub, o_mul, o_and, o_or, o_xor, o_shl, o_shr, o_ush, o_rem, o_dup, o_dup2, o_gf, o_pf, o_pz, o_iald, o_iast, o_zald, o_zast, o_aald, o_gs, o_min, o_acp, o_call, o_callv, zgf, zpf, zia_, zza_, zra_, zrd_, zcp_, zpop, zsm8_0, zsm8_1, zsm8_2, zsm8_3, zsm8_4, zsm8_5, zrc, zisob, t_ieq, t_ilt, t_igt, t_zeq, t_zlt, t_zgt, t_sw, zsw, t_iret, t_zret, t_aret, t_vret, zrg, List.getElem?_cons_zero, List.getElem?_cons_succ, List.set_cons_zero, List.set_cons_succ, List.length_cons, List.length_nil, Option.toList_some, Option.toList_none, List.nil_append, List.cons_append, true_and, and_true, true_or, or_true, Int.cast_ofNat_Int, Int.natCast_zero, Int.natCast_one, hk.p, hk.p1, hk.p2, hwk.ob]
      rw [List.drop_eq_nil_of_le (by omega)] at h3
      refine ⟨by omega, by omega, fun _ => by omega, fun _ => ⟨⟨T2, ?_⟩, h4⟩⟩
      rw [h3]
      exact h2
    | succ r ih =>
      intro i μ2 S2 T2 h1 h2 h3 h4
      have hi : i < P.length := by omega
      have hP2 : zPN μ2 q P := h.fr h4 (by simp; omega)
      have hL2 : zSH μ2 (q + 1) 64 L := hL.fr h4 (by simp; omega)
      obtain ⟨a1, a2, a3, a4⟩ := hP2.at (List.getElem?_eq_getElem hi)
      have hc2 := hP2.2.1
      refine s_X5_reachUnderDeep_2 hG ?_
      rw [List.drop_eq_getElem_cons hi] at h3
      simp only [zdeep] at h3
      simp only [b_X5_reachUnderDeep_0, b_X5_reachUnderDeep_2, b_X5_reachUnderDeep_10, b_X5_reachUnderDeep_19, b_X5_reachUnderDeep_30, b_X5_reachUnderDeep_36, o_c, o_il, o_al, o_is, o_as, o_inc, o_add, o_sub, o_mul, o_and, o_or, o_xor, o_shl, o_shr, o_ush, o_rem, o_dup, o_dup2, o_gf, o_pf, o_pz, o_iald, o_iast, o_zald, o_zast, o_aald, o_gs, o_min, o_acp, o_call, o_callv, zgf, zpf, zia_, zza_, zra_, zrd_, zcp_, zpop, zsm8_0, zsm8_1, zsm8_2, zsm8_3, zsm8_4, zsm8_5, zrc, zisob, t_ieq, t_ilt, t_igt, t_zeq, t_zlt, t_zgt, t_sw, zsw, t_iret, t_zret, t_aret, t_vret, zrg, List.getElem?_cons_zero, List.getElem?_cons_succ, List.set_cons_zero, List.set_cons_succ, List.length_cons, List.length_nil, Option.toList_some, Option.toList_none, List.nil_append, List.cons_append, true_and, and_true, true_or, or_true, Int.cast_ofNat_Int, Int.natCast_zero, Int.natCast_one, hk.p, hk.p1, hk.p2, hwk.ob]
      refine ⟨by omega, by omega, fun _ => ⟨by omega, by omega, fun e => ?_, fun e => ⟨by omega, ?_⟩⟩, fun _ => by omega⟩
      · rw [if_neg (by omega)] at h3
        exact ih (i + 1) μ2 S2 T2 (by omega) h2 h3 h4
      · rw [if_pos (by omega)] at h3
        rw [a1]
        have hob : zisob (zsh (q + 1)) 4 := by rw [hk.sob]; rfl
        refine ⟨_, c_X9_goUnder (by omega) h2 hL2 hV hN (by omega) a3, ?_⟩
        rintro r μ3 ⟨rfl, b1, b2⟩
        simp only [b_X5_reachUnderDeep_0, b_X5_reachUnderDeep_2, b_X5_reachUnderDeep_10, b_X5_reachUnderDeep_19, b_X5_reachUnderDeep_30, b_X5_reachUnderDeep_36, o_c, o_il, o_al, o_is, o_as, o_inc, o_add, o_sub, o_mul, o_and, o_or, o_xor, o_shl, o_shr, o_ush, o_rem, o_dup, o_dup2, o_gf, o_pf, o_pz, o_iald, o_iast, o_zald, o_zast, o_aald, o_gs, o_min, o_acp, o_call, o_callv, zgf, zpf, zia_, zza_, zra_, zrd_, zcp_, zpop, zsm8_0, zsm8_1, zsm8_2, zsm8_3, zsm8_4, zsm8_5, zrc, zisob, t_ieq, t_ilt, t_igt, t_zeq, t_zlt, t_zgt, t_sw, zsw, t_iret, t_zret, t_aret, t_vret, zrg, List.getElem?_cons_zero, List.getElem?_cons_succ, List.set_cons_zero, List.set_cons_succ, List.length_cons, List.length_nil, Option.toList_some, Option.toList_none, List.nil_append, List.cons_append, true_and, and_true, true_or, or_true, Int.cast_ofNat_Int, Int.natCast_zero, Int.natCast_one, hk.p, hk.p1, hk.p2, hwk.ob]
        exact ih (i + 1) μ3 _ [] (by omega) b1 h3 (h4.trans b2)
  exact loop P.length 0 μ S T0 (by omega) hW rfl (zfr.refl _ _)
/-- which slots are reached, no more -/
def zWR (μ : zM) (w : Nat) (L : List zBk) (S : List Int) : Prop := ∃ (R : Nat → Bool) (M V : List Int), zWK μ w R M V ∧ (∀ (i : Nat) (b : zBk), L[i]? = some b → (R i = true ↔ b.1 ∈ S))
set_option maxRecDepth 100000 in
set_option maxHeartbeats 4000000 in
theorem c_X5_reachPinned {d : Nat} {μ : zM} {q w : Nat} {P : List zPp} {L : List zBk} {S : List Int} (hd1 : 1 ≤ d) (h : zPN μ q P) (hW : zWR μ w L S) (hL : zSH μ (q + 1) 64 L) (hN : zNd L) (hkw : q + 7 < w) : zCt d mX5_reachPinned [.inr (some (q + 5)), .inr (some (q + 1)), .inr (some w)] μ (fun r μ' => r = none ∧ zWR μ' w L (S ++ P.map (·.1)) ∧ zfr [w + 1] μ μ') := by
  have hk := h.1
  have hl := h.2.2.1
  have hwk : zwK w := by obtain ⟨R, M, V, a, _⟩ := hW; exact a.1
  have hl64 : L.length ≤ 64 := by have := hL.2.2.2.1; omega
  refine of_X5_reachPinned hd1 (fun G hG => s_X5_reachPinned_0 hG ?_)
  simp only [b_X5_reachPinned_0, b_X5_reachPinned_2, b_X5_reachPinned_10, b_X5_reachPinned_30, o_c, o_il, o_al, o_is, o_as, o_inc, o_add, o_sub, o_mul, o_and, o_or, o_xor, o_shl, o_shr, o_ush, o_rem, o_dup, o_dup2, o_gf, o_pf, o_pz, o_iald, o_iast, o_zald, o_zast, o_aald, o_gs, o_min, o_acp, o_call, o_callv, zgf, zpf, zia_, zza_, zra_, zrd_, zcp_, zpop, zsm8_0, zsm8_1, zsm8_2, zsm8_3, zsm8_4, zsm8_5, zrc, zisob, t_ieq, t_ilt, t_igt, t_zeq, t_zlt, t_zgt, t_sw, zsw, t_iret, t_zret, t_aret, t_vret, zrg, List.getElem?_cons_zero, List.getElem?_cons_succ, List.set_cons_zero, List.set_cons_succ, List.length_cons, List.length_nil, Option.toList_some, Option.toList_none, List.nil_append, List.cons_append, true_and, and_true, true_or, or_true, Int.cast_ofNat_Int, Int.natCast_zero, Int.natCast_one, hk.p, hk.p1, hk.p2, hwk.ob]
  have loop : ∀ (r i : Nat) (μ2 : zM), i + r = P.length → zWR μ2 w L (S ++ (P.map (·.1)).take i) → zfr [w + 1] μ μ2 → G 2 [.inr (some (q + 5)), .inr (some (q + 1)), .inr (some w), .inl (i : Int)] [] μ2 := by
    intro r
    induction r with
    | zero =>
      intro i μ2 h1 h2 h4
      refine s_X5_reachPinned_2 hG ?_
      have hc2 : μ2 (q + 5) 2 = P.length := by rw [h4 _ (by simp; omega)]; exact h.2.1
      simp only [b_X5_reachPinned_0, b_X5_reachPinned_2, b_X5_reachPinned_10, b_X5_reachPinned_30, o_c, o_il, o_al, o_is, o_as, o_inc, o_add, o_sub, o_mul, o_and, o_or, o_xor, o_shl, o_shr, o_ush, o_rem, o_dup, o_dup2, o_gf, o_pf, o_pz, o_iald, o_iast, o_zald, o_zast, o_aald, o_gs, o_min, o_acp, o_call, o_callv, zgf, zpf, zia_, zza_, zra_, zrd_, zcp_, zpop, zsm8_0, zsm8_1, zsm8_2, zsm8_3, zsm8_4, zsm8_5, zrc, zisob, t_ieq, t_ilt, t_igt, t_zeq, t_zlt, t_zgt, t_sw, zsw, t_iret, t_zret, t_aret, t_vret, zrg, List.getElem?_cons_zero, List.getElem?_cons_succ, List.set_cons_zero, List.set_cons_succ, List.length_cons, List.length_nil, Option.toList_some, Option.toList_none, List.nil_append, List.cons_append, true_and, and_true, true_or, or_true, Int.cast_ofNat_Int, Int.natCast_zero, Int.natCast_one, hk.p, hk.p1, hk.p2, hwk.ob]
      rw [List.take_of_length_le (by simp; omega)] at h2
      exact ⟨by omega, by omega, fun _ => by omega, fun _ => ⟨h2, h4⟩⟩
    | succ r ih =>
      intro i μ2 h1 h2 h4
      have hi : i < P.length := by omega
      have hP2 : zPN μ2 q P := h.fr h4 (by simp; omega)
      have hL2 : zSH μ2 (q + 1) 64 L := hL.fr h4 (by simp; omega)
      obtain ⟨a1, a2, a3, a4⟩ := hP2.at (List.getElem?_eq_getElem hi)
      have hc2 := hP2.2.1
      refine s_X5_reachPinned_2 hG ?_
      simp only [b_X5_reachPinned_0, b_X5_reachPinned_2, b_X5_reachPinned_10, b_X5_reachPinned_30, o_c, o_il, o_al, o_is, o_as, o_inc, o_add, o_sub, o_mul, o_and, o_or, o_xor, o_shl, o_shr, o_ush, o_rem, o_dup, o_dup2, o_gf, o_pf, o_pz, o_iald, o_iast, o_zald, o_zast, o_aald, o_gs, o_min, o_acp, o_call, o_callv, zgf, zpf, zia_, zza_, zra_, zrd_, zcp_, zpop, zsm8_0, zsm8_1, zsm8_2, zsm8_3, zsm8_4, zsm8_5, zrc, zisob, t_ieq, t_ilt, t_igt, t_zeq, t_zlt, t_zgt, t_sw, zsw, t_iret, t_zret, t_aret, t_vret, zrg, List.getElem?_cons_zero, List.getElem?_cons_succ, List.set_cons_zero, List.set_cons_succ, List.length_cons, List.length_nil, Option.toList_some, Option.toList_none, List.nil_append, List.cons_append, true_and, and_true, true_or, or_true, Int.cast_ofNat_Int, Int.natCast_zero, Int.natCast_one, hk.p, hk.p1, hk.p2, hk.sob, hwk.ob]
      refine ⟨by omega, by omega, fun _ => ⟨by omega, ?_⟩, fun _ => by omega⟩
      rw [a1]
      refine zcall (c_X6_slotOf hL2 ⟨by omega, by omega⟩) ?_
      simp only [b_X5_reachPinned_0, b_X5_reachPinned_2, b_X5_reachPinned_10, b_X5_reachPinned_30, o_c, o_il, o_al, o_is, o_as, o_inc, o_add, o_sub, o_mul, o_and, o_or, o_xor, o_shl, o_shr, o_ush, o_rem, o_dup, o_dup2, o_gf, o_pf, o_pz, o_iald, o_iast, o_zald, o_zast, o_aald, o_gs, o_min, o_acp, o_call, o_callv, zgf, zpf, zia_, zza_, zra_, zrd_, zcp_, zpop, zsm8_0, zsm8_1, zsm8_2, zsm8_3, zsm8_4, zsm8_5, zrc, zisob, t_ieq, t_ilt, t_igt, t_zeq, t_zlt, t_zgt, t_sw, zsw, t_iret, t_zret, t_aret, t_vret, zrg, List.getElem?_cons_zero, List.getElem?_cons_succ, List.set_cons_zero, List.set_cons_succ, List.length_cons, List.length_nil, Option.toList_some, Option.toList_none, List.nil_append, List.cons_append, true_and, and_true, true_or, or_true, Int.cast_ofNat_Int, Int.natCast_zero, Int.natCast_one, hk.p, hk.p1, hk.p2, hk.sob, hwk.ob]
      obtain ⟨R, M, V, b1, b2⟩ := h2
      have hixr : -1 ≤ zix L P[i].1 ∧ zix L P[i].1 < 64 := by
        rcases zix_cases L P[i].1 with ⟨e, _⟩ | ⟨s, b, e, hb, _⟩
        · omega
        · have := (List.getElem?_eq_some_iff.mp hb).1
          omega
      refine ⟨_, c_X9_reachSlot b1 hixr, ?_⟩
      rintro r μ3 ⟨rfl, b3, b4⟩
      simp only [b_X5_reachPinned_0, b_X5_reachPinned_2, b_X5_reachPinned_10, b_X5_reachPinned_30, o_c, o_il, o_al, o_is, o_as, o_inc, o_add, o_sub, o_mul, o_and, o_or, o_xor, o_shl, o_shr, o_ush, o_rem, o_dup, o_dup2, o_gf, o_pf, o_pz, o_iald, o_iast, o_zald, o_zast, o_aald, o_gs, o_min, o_acp, o_call, o_callv, zgf, zpf, zia_, zza_, zra_, zrd_, zcp_, zpop, zsm8_0, zsm8_1, zsm8_2, zsm8_3, zsm8_4, zsm8_5, zrc, zisob, t_ieq, t_ilt, t_igt, t_zeq, t_zlt, t_zgt, t_sw, zsw, t_iret, t_zret, t_aret, t_vret, zrg, List.getElem?_cons_zero, List.getElem?_cons_succ, List.set_cons_zero, List.set_cons_succ, List.length_cons, List.length_nil, Option.toList_some, Option.toList_none, List.nil_append, List.cons_append, true_and, and_true, true_or, or_true, Int.cast_ofNat_Int, Int.natCast_zero, Int.natCast_one, hk.p, hk.p1, hk.p2, hk.sob, hwk.ob]
      refine ih (i + 1) μ3 (by omega) ⟨_, M, V, b3, fun j b hb => ?_⟩ (h4.trans b4)
      have hj := b2 j b hb
      have hiff : ((j : Int) = zix L P[i].1) ↔ b.1 = P[i].1 := by
        rcases zix_cases L P[i].1 with ⟨e, hno⟩ | ⟨s, b', e, hb', hbx⟩
        · rw [e]
          have := hno b (List.mem_of_getElem? hb)
          constructor
          · intro w; omega
          · intro w; exact absurd w this
        · rw [e]
          constructor
          · intro w
            have : j = s := by omega
            subst this
            rw [hb] at hb'
            cases hb'
            exact hbx
          · intro w
            have := hN j s b b' hb hb' (by rw [w, hbx])
            omega
      have htk : (P.map (·.1)).take (i + 1) = (P.map (·.1)).take i ++ [P[i].1] := by
        rw [List.take_succ]
        simp [hi]
      rw [htk, ← List.append_assoc]
      simp only [Bool.or_eq_true, decide_eq_true_eq, List.mem_append, List.mem_singleton]
      rw [hiff, hj]
      simp only [List.mem_append]
  exact loop P.length 0 μ (by omega) (by simpa using hW) (zfr.refl _ _)
