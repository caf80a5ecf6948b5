/-! TITLES: levels of shards -/
def zpt (sel : List zPp) (s w : Nat) : List zPp := sel.filter (fun p => decide (zway p.1 s = w))
def zbm (sel : List zPp) (s w : Nat) : Nat := if zpt sel s w = [] then 0 else 2 ^ w
def zmask (sel : List zPp) (s : Nat) : Nat := zbm sel s 0 ||| zbm sel s 1 ||| zbm sel s 2 ||| zbm sel s 3
def zlvl : Nat → Nat → List zPp → List (List Int) × Int
  | 0, _, sel => ([zforow sel], zhash (zforow sel))
  | f + 1, s, sel => if sel.length ≤ 4 then ([zforow sel], zhash (zforow sel)) else
      ((List.range 4).flatMap (fun w => if zpt sel s w = [] then [] else (zlvl f (s + 1) (zpt sel s w)).1) ++ [zsrow (zmask sel s) (fun w => (zlvl f (s + 1) (zpt sel s w)).2)],
       zhash (zsrow (zmask sel s) (fun w => (zlvl f (s + 1) (zpt sel s w)).2)))
theorem zlvl_rg (f s : Nat) (sel : List zPp) : 0 ≤ (zlvl f s sel).2 ∧ (zlvl f s sel).2 ≤ 65520 := by
  cases f with
  | zero => exact zhash_rg _
  | succ f => simp only [zlvl]; split <;> exact zhash_rg _
/-- how many numbers from lo on, f of them, are such -/
def zcn (P : Int → Bool) : Nat → Int → Nat
  | 0, _ => 0
  | f + 1, lo => (if P lo then 1 else 0) + zcn P f (lo + 1)
theorem zcn_le (P : Int → Bool) : ∀ (f : Nat) (lo : Int) (l : List Int), l.Pairwise (· < ·) → (∀ x ∈ l, lo ≤ x ∧ x < lo + f ∧ P x = true) → l.length ≤ zcn P f lo := by
  intro f
  induction f with
  | zero =>
    intro lo l h1 h2
    cases l with
    | nil => simp
    | cons a r => have := h2 a List.mem_cons_self; simp at this; omega
  | succ f ih =>
    intro lo l h1 h2
    simp only [zcn]
    cases l with
    | nil => simp
    | cons a r =>
      have ha := h2 a List.mem_cons_self
      have hr := List.pairwise_cons.mp h1
      by_cases e : a = lo
      · subst e
        have := ih (a + 1) r hr.2 (fun x hx => by
          have h3 := hr.1 x hx
          have h4 := h2 x (List.mem_cons_of_mem _ hx)
          exact ⟨by omega, by omega, h4.2.2⟩)
        rw [if_pos ha.2.2]
        simp
        omega
      · have := ih (lo + 1) (a :: r) h1 (fun x hx => by
          have h4 := h2 x hx
          refine ⟨?_, by omega, h4.2.2⟩
          rcases List.mem_cons.mp hx with rfl | hx
          · omega
          · have := hr.1 x hx; omega)
        omega
theorem zcn64 : ∀ r : Fin 64, zcn (fun t => decide (37 * t % 256 % 64 = (r : Int))) 255 1 ≤ 4 := by decide +kernel
/-- all titles agree in the lowest 2 s bits of their numbers -/
def zRs (s : Nat) (sel : List zPp) : Prop := ∃ r : Int, ∀ p ∈ sel, 37 * p.1 % 256 % 4 ^ s = r
theorem zpig {sel : List zPp} (hS : zSo sel) (hr : ∀ p ∈ sel, 1 ≤ p.1 ∧ p.1 ≤ 255) (h : zRs 3 sel) : sel.length ≤ 4 := by
  obtain ⟨r, h⟩ := h
  cases sel with
  | nil => simp
  | cons a l =>
    have ha := h a List.mem_cons_self
    have hrr : 0 ≤ r ∧ r < 64 := by
      have e : (4 : Int) ^ 3 = 64 := by decide
      rw [e] at ha
      omega
    have := zcn_le (fun t => decide (37 * t % 256 % 64 = r)) 255 1 ((a :: l).map (·.1)) (List.pairwise_map.mpr (show List.Pairwise (fun a b : zPp => a.1 < b.1) (a :: l) from hS)) (fun x hx => by
      obtain ⟨p, hp, rfl⟩ := List.mem_map.mp hx
      have h1 := hr p hp
      have h2 := h p hp
      have e : (4 : Int) ^ 3 = 64 := by decide
      rw [e] at h2
      exact ⟨by omega, by omega, by simp [h2]⟩)
    have h4 := zcn64 ⟨r.toNat, by omega⟩
    simp only [Int.toNat_of_nonneg hrr.1] at h4
    simp only [List.length_map] at this
    omega
theorem zRs.next {s w : Nat} {sel : List zPp} (hs : s ≤ 3) (h : zRs s sel) : zRs (s + 1) (zpt sel s w) := by
  obtain ⟨r, h⟩ := h
  refine ⟨r + 4 ^ s * w, fun p hp => ?_⟩
  obtain ⟨h1, h2⟩ := List.mem_filter.mp hp
  have h3 := h p h1
  have h4 : zway p.1 s = w := by simpa using h2
  unfold zway at h4
  simp only [Int.toNat_natCast] at h4
  generalize 37 * p.1 % 256 = x at h3 h4 ⊢
  have hs4 : s = 0 ∨ s = 1 ∨ s = 2 ∨ s = 3 := by omega
  rcases hs4 with rfl | rfl | rfl | rfl
  · simp at h3 h4 ⊢; omega
  · simp at h3 h4 ⊢; omega
  · have e1 : (4 : Int) ^ 2 = 16 := by decide
    have e2 : (4 : Int) ^ (2 + 1) = 64 := by decide
    rw [e1] at h3 h4 ⊢
    rw [e2]
    omega
  · have e1 : (4 : Int) ^ 3 = 64 := by decide
    have e2 : (4 : Int) ^ (3 + 1) = 256 := by decide
    rw [e1] at h3 h4 ⊢
    rw [e2]
    omega
theorem zRs.low {sel : List zPp} (h : zRs 4 sel) : zRs 3 sel := by
  obtain ⟨r, h⟩ := h
  refine ⟨r % 64, fun p hp => ?_⟩
  have := h p hp
  have e1 : (4 : Int) ^ 3 = 64 := by decide
  have e2 : (4 : Int) ^ 4 = 256 := by decide
  rw [e2] at this
  rw [e1]
  omega
theorem zmask_bit (sel : List zPp) (s : Nat) : zmask sel s < 16 ∧ ∀ w : Nat, w < 4 → ((zmask sel s).testBit w = true ↔ zpt sel s w ≠ []) := by
  unfold zmask zbm
  refine ⟨?_, fun w hw => ?_⟩
  · have h : ∀ (a : List zPp) (k : Nat), k < 4 → (if a = [] then 0 else 2 ^ k) < 2 ^ 4 := fun a k hk => by
      split
      · decide
      · exact Nat.pow_lt_pow_right (by omega) hk
    exact Nat.or_lt_two_pow (Nat.or_lt_two_pow (Nat.or_lt_two_pow (h _ 0 (by omega)) (h _ 1 (by omega))) (h _ 2 (by omega))) (h _ 3 (by omega))
  · have h : ∀ (a : List zPp) (k : Nat), (if a = [] then 0 else 2 ^ k).testBit w = (decide (a ≠ []) && decide (k = w)) := fun a k => by
      split
      · rename_i e; simp [e]
      · rename_i e; rw [Nat.testBit_two_pow]; simp [e]
    simp only [Nat.testBit_or, h]
    have hw4 : w = 0 ∨ w = 1 ∨ w = 2 ∨ w = 3 := by omega
    rcases hw4 with rfl | rfl | rfl | rfl <;> simp
abbrev zttS : List Nat := [33, 34, 35, 36, 37, 38, 39]
set_option maxRecDepth 100000 in
set_option maxHeartbeats 4000000 in
theorem c_X8_makeLevel : ∀ (f s d m : Nat) (μ : zM) (T : List zPp) (L : List zBk) (c : Int), s + f = 4 → f + 4 ≤ d → zTL μ T → zSo T → zBT μ L [] c → m < 2 ^ T.length → zRs s (zself T 0 m) → zCt d mX8_makeLevel [.inr (some 30), .inl (m : Int), .inl (s : Int), .inr (some 34)] μ (fun v μ' => v = some (.inl (zlvl f s (zself T 0 m)).2) ∧ zBT μ' (zmk (L, c) (zlvl f s (zself T 0 m)).1).1 [] (zmk (L, c) (zlvl f s (zself T 0 m)).1).2 ∧ (∀ i : Int, i < 4 * s → μ' 33 i = μ 33 i) ∧ zfr zttS μ μ') := by
  intro f
  induction f with
  | zero =>
    intro s d m μ T L c h1 hd h hS hT hm hR
    have hl := h.2.1
    have h216 : (2 : Nat) ^ T.length ≤ 2 ^ 16 := Nat.pow_le_pow_right (by omega) hl
    have hlen := zself_len m T 0 16 hl (by simpa using hm)
    simp at hlen
    have hs4 : s = 4 := by omega
    subst hs4
    have hle := zpig ((hS.sublist (zself_sub m T 0))) (fun p hp => (h.2.2.2.2 p ((zself_sub m T 0).subset hp)).1) hR.low
    refine of_X8_makeLevel (by omega) (fun G hG => s_X8_makeLevel_0 hG ?_)
    simp only [b_X8_makeLevel_0, b_X8_makeLevel_8, b_X8_makeLevel_13, b_X8_makeLevel_20, b_X8_makeLevel_26, b_X8_makeLevel_32, b_X8_makeLevel_47, b_X8_makeLevel_77, b_X8_makeLevel_83, o_c, o_il, o_al, o_is, o_as, o_inc, o_add, o_sub, o_mul, o_and, o_or, o_xor, o_shl, o_shr, o_ush, o_rem, o_dup, o_dup2, o_gf, o_pf, o_pz, o_iald, o_iast, o_zald, o_zast, o_aald, o_gs, o_min, o_acp, o_call, o_callv, zgf, zpf, zia_, zza_, zra_, zrd_, zcp_, zpop, zsm8_0, zsm8_1, zsm8_2, zsm8_3, zsm8_4, zsm8_5, zrc, zisob, t_ieq, t_ilt, t_igt, t_zeq, t_zlt, t_zgt, t_sw, zsw, t_iret, t_zret, t_aret, t_vret, zrg, List.getElem?_cons_zero, List.getElem?_cons_succ, List.set_cons_zero, List.set_cons_succ, List.length_cons, List.length_nil, Option.toList_some, Option.toList_none, List.nil_append, List.cons_append, true_and, and_true, true_or, or_true, Int.cast_ofNat_Int, Int.natCast_zero, Int.natCast_one, zsh_30]
    refine zcall (c_J6_bitCount (by omega)) ?_
    simp only [b_X8_makeLevel_0, b_X8_makeLevel_8, b_X8_makeLevel_13, b_X8_makeLevel_20, b_X8_makeLevel_26, b_X8_makeLevel_32, b_X8_makeLevel_47, b_X8_makeLevel_77, b_X8_makeLevel_83, o_c, o_il, o_al, o_is, o_as, o_inc, o_add, o_sub, o_mul, o_and, o_or, o_xor, o_shl, o_shr, o_ush, o_rem, o_dup, o_dup2, o_gf, o_pf, o_pz, o_iald, o_iast, o_zald, o_zast, o_aald, o_gs, o_min, o_acp, o_call, o_callv, zgf, zpf, zia_, zza_, zra_, zrd_, zcp_, zpop, zsm8_0, zsm8_1, zsm8_2, zsm8_3, zsm8_4, zsm8_5, zrc, zisob, t_ieq, t_ilt, t_igt, t_zeq, t_zlt, t_zgt, t_sw, zsw, t_iret, t_zret, t_aret, t_vret, zrg, List.getElem?_cons_zero, List.getElem?_cons_succ, List.set_cons_zero, List.set_cons_succ, List.length_cons, List.length_nil, Option.toList_some, Option.toList_none, List.nil_append, List.cons_append, true_and, and_true, true_or, or_true, Int.cast_ofNat_Int, Int.natCast_zero, Int.natCast_one, zsh_30]
    rw [← hlen]
    refine ⟨by omega, by omega, fun w => by omega, fun _ => ?_⟩
    refine ⟨_, c_X8_makeOneFolder (by omega) h hT hm hle, ?_⟩
    rintro v μ1 ⟨rfl, b1, b2⟩
    simp only [b_X8_makeLevel_0, b_X8_makeLevel_8, b_X8_makeLevel_13, b_X8_makeLevel_20, b_X8_makeLevel_26, b_X8_makeLevel_32, b_X8_makeLevel_47, b_X8_makeLevel_77, b_X8_makeLevel_83, o_c, o_il, o_al, o_is, o_as, o_inc, o_add, o_sub, o_mul, o_and, o_or, o_xor, o_shl, o_shr, o_ush, o_rem, o_dup, o_dup2, o_gf, o_pf, o_pz, o_iald, o_iast, o_zald, o_zast, o_aald, o_gs, o_min, o_acp, o_call, o_callv, zgf, zpf, zia_, zza_, zra_, zrd_, zcp_, zpop, zsm8_0, zsm8_1, zsm8_2, zsm8_3, zsm8_4, zsm8_5, zrc, zisob, t_ieq, t_ilt, t_igt, t_zeq, t_zlt, t_zgt, t_sw, zsw, t_iret, t_zret, t_aret, t_vret, zrg, List.getElem?_cons_zero, List.getElem?_cons_succ, List.set_cons_zero, List.set_cons_succ, List.length_cons, List.length_nil, Option.toList_some, Option.toList_none, List.nil_append, List.cons_append, true_and, and_true, true_or, or_true, Int.cast_ofNat_Int, Int.natCast_zero, Int.natCast_one, zsh_30]
    exact ⟨rfl, b1, fun i _ => by rw [b2 33 (by decide)], b2.mono (by simp)⟩
  | succ f ih =>
    intro s d m μ T L c h1 hd h hS hT hm hR
    have hl := h.2.1
    have h216 : (2 : Nat) ^ T.length ≤ 2 ^ 16 := Nat.pow_le_pow_right (by omega) hl
    have hlen := zself_len m T 0 16 hl (by simpa using hm)
    simp at hlen
    generalize hsel : zself T 0 m = sel at hlen hR
    have hselS : zSo sel := by rw [← hsel]; exact hS.sublist (zself_sub m T 0)
    have hselr : ∀ p ∈ sel, 1 ≤ p.1 ∧ p.1 ≤ 255 := fun p hp => (h.2.2.2.2 p ((zself_sub m T 0).subset (by rw [hsel]; exact hp))).1
    refine of_X8_makeLevel (by omega) (fun G hG => s_X8_makeLevel_0 hG ?_)
    simp only [b_X8_makeLevel_0, b_X8_makeLevel_8, b_X8_makeLevel_13, b_X8_makeLevel_20, b_X8_makeLevel_26, b_X8_makeLevel_32, b_X8_makeLevel_47, b_X8_makeLevel_77, b_X8_makeLevel_83, o_c, o_il, o_al, o_is, o_as, o_inc, o_add, o_sub, o_mul, o_and, o_or, o_xor, o_shl, o_shr, o_ush, o_rem, o_dup, o_dup2, o_gf, o_pf, o_pz, o_iald, o_iast, o_zald, o_zast, o_aald, o_gs, o_min, o_acp, o_call, o_callv, zgf, zpf, zia_, zza_, zra_, zrd_, zcp_, zpop, zsm8_0, zsm8_1, zsm8_2, zsm8_3, zsm8_4, zsm8_5, zrc, zisob, t_ieq, t_ilt, t_igt, t_zeq, t_zlt, t_zgt, t_sw, zsw, t_iret, t_zret, t_aret, t_vret, zrg, List.getElem?_cons_zero, List.getElem?_cons_succ, List.set_cons_zero, List.set_cons_succ, List.length_cons, List.length_nil, Option.toList_some, Option.toList_none, List.nil_append, List.cons_append, true_and, and_true, true_or, or_true, Int.cast_ofNat_Int, Int.natCast_zero, Int.natCast_one, zsh_30]
    refine zcall (c_J6_bitCount (by omega)) ?_
    simp only [b_X8_makeLevel_0, b_X8_makeLevel_8, b_X8_makeLevel_13, b_X8_makeLevel_20, b_X8_makeLevel_26, b_X8_makeLevel_32, b_X8_makeLevel_47, b_X8_makeLevel_77, b_X8_makeLevel_83, o_c, o_il, o_al, o_is, o_as, o_inc, o_add, o_sub, o_mul, o_and, o_or, o_xor, o_shl, o_shr, o_ush, o_rem, o_dup, o_dup2, o_gf, o_pf, o_pz, o_iald, o_iast, o_zald, o_zast, o_aald, o_gs, o_min, o_acp, o_call, o_callv, zgf, zpf, zia_, zza_, zra_, zrd_, zcp_, zpop, zsm8_0, zsm8_1, zsm8_2, zsm8_3, zsm8_4, zsm8_5, zrc, zisob, t_ieq, t_ilt, t_igt, t_zeq, t_zlt, t_zgt, t_sw, zsw, t_iret, t_zret, t_aret, t_vret, zrg, List.getElem?_cons_zero, List.getElem?_cons_succ, List.set_cons_zero, List.set_cons_succ, List.length_cons, List.length_nil, Option.toList_some, Option.toList_none, List.nil_append, List.cons_append, true_and, and_true, true_or, or_true, Int.cast_ofNat_Int, Int.natCast_zero, Int.natCast_one, zsh_30]
    rw [← hlen]
    by_cases hc : sel.length ≤ 4
    · have hz : zlvl (f + 1) s sel = ([zforow sel], zhash (zforow sel)) := by simp only [zlvl]; rw [if_pos hc]
      rw [hz]
      refine ⟨by omega, by omega, fun w => by omega, fun _ => ?_⟩
      refine ⟨_, c_X8_makeOneFolder (by omega) h hT hm (by rw [hsel]; exact hc), ?_⟩
      rintro v μ1 ⟨rfl, b1, b2⟩
      simp only [b_X8_makeLevel_0, b_X8_makeLevel_8, b_X8_makeLevel_13, b_X8_makeLevel_20, b_X8_makeLevel_26, b_X8_makeLevel_32, b_X8_makeLevel_47, b_X8_makeLevel_77, b_X8_makeLevel_83, o_c, o_il, o_al, o_is, o_as, o_inc, o_add, o_sub, o_mul, o_and, o_or, o_xor, o_shl, o_shr, o_ush, o_rem, o_dup, o_dup2, o_gf, o_pf, o_pz, o_iald, o_iast, o_zald, o_zast, o_aald, o_gs, o_min, o_acp, o_call, o_callv, zgf, zpf, zia_, zza_, zra_, zrd_, zcp_, zpop, zsm8_0, zsm8_1, zsm8_2, zsm8_3, zsm8_4, zsm8_5, zrc, zisob, t_ieq, t_ilt, t_igt, t_zeq, t_zlt, t_zgt, t_sw, zsw, t_iret, t_zret, t_aret, t_vret, zrg, List.getElem?_cons_zero, List.getElem?_cons_succ, List.set_cons_zero, List.set_cons_succ, List.length_cons, List.length_nil, Option.toList_some, Option.toList_none, List.nil_append, List.cons_append, true_and, and_true, true_or, or_true, Int.cast_ofNat_Int, Int.natCast_zero, Int.natCast_one, zsh_30]
      rw [hsel] at b1 ⊢
      exact ⟨rfl, b1, fun i _ => by rw [b2 33 (by decide)], b2.mono (by simp)⟩
    · have hs2 : s ≤ 2 := by
        rcases Nat.lt_or_ge s 3 with q | q
        · omega
        · exfalso
          have : s = 3 := by omega
          subst this
          exact hc (zpig hselS hselr hR)
      have hsel16 : sel.length ≤ 16 := by rw [← hsel]; exact Nat.le_trans (zself_sub m T 0).length_le hl
      refine ⟨by omega, by omega, fun _ => ⟨by omega, by omega, fun _ => ?_, fun w => by omega⟩, fun w => by omega⟩
      generalize hsub : (fun w : Nat => (zlvl f (s + 1) (zpt sel s w)).2) = lk
      have hlk : ∀ w, (zlvl f (s + 1) (zpt sel s w)).2 = lk w := fun w => by rw [← hsub]
      have hz : zlvl (f + 1) s sel = ((List.range 4).flatMap (fun w => if zpt sel s w = [] then [] else (zlvl f (s + 1) (zpt sel s w)).1) ++ [zsrow (zmask sel s) lk], zhash (zsrow (zmask sel s) lk)) := by
        simp only [zlvl]
        rw [if_neg hc, hsub]
      have hmb := zmask_bit sel s
      -- the mask so far
      have loop : ∀ (r i : Nat) (μ2 : zM) (q : Nat) (x6 : zV), i + r = 4 → q < 16 → (∀ w : Nat, w < 4 → (q.testBit w = true ↔ w < i ∧ zpt sel s w ≠ [])) → zBT μ2 (zmk (L, c) ((List.range i).flatMap (fun w => if zpt sel s w = [] then [] else (zlvl f (s + 1) (zpt sel s w)).1))).1 [] (zmk (L, c) ((List.range i).flatMap (fun w => if zpt sel s w = [] then [] else (zlvl f (s + 1) (zpt sel s w)).1))).2 → (∀ w : Nat, w < i → zpt sel s w ≠ [] → μ2 33 (4 * s + w) = lk w) → (∀ j : Int, j < 4 * s → μ2 33 j = μ 33 j) → zfr zttS μ μ2 → G 26 [.inr (some 30), .inl (m : Int), .inl (s : Int), .inr (some 34), .inl (q : Int), .inl (i : Int), x6] [] μ2 := by
        intro r
        induction r with
        | zero =>
          intro i μ2 q x6 k1 k2 k3 k4 k5 k6 k7
          have hi4 : i = 4 := by omega
          subst hi4
          have hq : q = zmask sel s := by
            apply Nat.eq_of_testBit_eq
            intro w
            by_cases hw : w < 4
            · have a1 := k3 w hw
              have a2 := hmb.2 w hw
              have : (q.testBit w = true) ↔ ((zmask sel s).testBit w = true) := by rw [a1, a2]; exact ⟨fun z => z.2, fun z => ⟨hw, z⟩⟩
              cases e1 : q.testBit w <;> cases e2 : (zmask sel s).testBit w <;> simp_all
            · have h16 : (16 : Nat) ≤ 2 ^ w := by
                have : (2 : Nat) ^ 4 ≤ 2 ^ w := Nat.pow_le_pow_right (by omega) (by omega)
                omega
              rw [Nat.testBit_lt_two_pow (by omega), Nat.testBit_lt_two_pow (by omega)]
          refine s_X8_makeLevel_26 hG ?_
          simp only [b_X8_makeLevel_0, b_X8_makeLevel_8, b_X8_makeLevel_13, b_X8_makeLevel_20, b_X8_makeLevel_26, b_X8_makeLevel_32, b_X8_makeLevel_47, b_X8_makeLevel_77, b_X8_makeLevel_83, o_c, o_il, o_al, o_is, o_as, o_inc, o_add, o_sub, o_mul, o_and, o_or, o_xor, o_shl, o_shr, o_ush, o_rem, o_dup, o_dup2, o_gf, o_pf, o_pz, o_iald, o_iast, o_zald, o_zast, o_aald, o_gs, o_min, o_acp, o_call, o_callv, zgf, zpf, zia_, zza_, zra_, zrd_, zcp_, zpop, zsm8_0, zsm8_1, zsm8_2, zsm8_3, zsm8_4, zsm8_5, zrc, zisob, t_ieq, t_ilt, t_igt, t_zeq, t_zlt, t_zgt, t_sw, zsw, t_iret, t_zret, t_aret, t_vret, zrg, List.getElem?_cons_zero, List.getElem?_cons_succ, List.set_cons_zero, List.set_cons_succ, List.length_cons, List.length_nil, Option.toList_some, Option.toList_none, List.nil_append, List.cons_append, true_and, and_true, true_or, or_true, Int.cast_ofNat_Int, Int.natCast_zero, Int.natCast_one, zsh_30]
          refine ⟨by omega, by omega, fun w => by omega, fun _ => ?_⟩
          have hlnk : ∀ w : Nat, w < 4 → q.testBit w = true → μ2 33 (4 * s + w) = lk w := fun w hw hb => k5 w hw ((k3 w hw).mp hb).2
          have hrow : zsrow q (fun w => μ2 33 (4 * s + w)) = zsrow (zmask sel s) lk := by
            rw [← hq]
            unfold zsrow
            congr 2
            have : ∀ (l : List Nat), (∀ w ∈ l, w < 4) → l.flatMap (fun w => if q.testBit w then [μ2 33 (4 * s + w) % 256, μ2 33 (4 * s + w) / 256] else []) = l.flatMap (fun w => if q.testBit w then [lk w % 256, lk w / 256] else []) := by
              intro l
              induction l with
              | nil => intro _; rfl
              | cons a b ihl =>
                intro hl
                simp only [List.flatMap_cons]
                rw [ihl (fun w hw => hl w (List.mem_cons_of_mem _ hw))]
                congr 1
                by_cases hb : q.testBit a = true
                · rw [if_pos hb, if_pos hb, hlnk a (hl a List.mem_cons_self) hb]
                · rw [if_neg hb, if_neg hb]
            exact this (List.range 4) (fun w hw => List.mem_range.mp hw)
          refine ⟨_, c_X8_makeShard (by omega) k4 k2 (by omega) (fun w hw hb => by rw [hlnk w hw hb, ← hlk]; exact zlvl_rg _ _ _), ?_⟩
          rw [hrow]
          rintro v μ3 ⟨rfl, b1, b2⟩
          simp only [b_X8_makeLevel_0, b_X8_makeLevel_8, b_X8_makeLevel_13, b_X8_makeLevel_20, b_X8_makeLevel_26, b_X8_makeLevel_32, b_X8_makeLevel_47, b_X8_makeLevel_77, b_X8_makeLevel_83, o_c, o_il, o_al, o_is, o_as, o_inc, o_add, o_sub, o_mul, o_and, o_or, o_xor, o_shl, o_shr, o_ush, o_rem, o_dup, o_dup2, o_gf, o_pf, o_pz, o_iald, o_iast, o_zald, o_zast, o_aald, o_gs, o_min, o_acp, o_call, o_callv, zgf, zpf, zia_, zza_, zra_, zrd_, zcp_, zpop, zsm8_0, zsm8_1, zsm8_2, zsm8_3, zsm8_4, zsm8_5, zrc, zisob, t_ieq, t_ilt, t_igt, t_zeq, t_zlt, t_zgt, t_sw, zsw, t_iret, t_zret, t_aret, t_vret, zrg, List.getElem?_cons_zero, List.getElem?_cons_succ, List.set_cons_zero, List.set_cons_succ, List.length_cons, List.length_nil, Option.toList_some, Option.toList_none, List.nil_append, List.cons_append, true_and, and_true, true_or, or_true, Int.cast_ofNat_Int, Int.natCast_zero, Int.natCast_one, zsh_30]
          rw [hz]
          refine ⟨rfl, ?_, fun j hj => by rw [b2 33 (by decide)]; exact k6 j hj, k7.trans (b2.mono (by simp))⟩
          have e : ∀ (a : List (List Int)) (x : List Int), zmk (L, c) (a ++ [x]) = zfb (zmk (L, c) a).1 (zmk (L, c) a).2 x := fun a x => by
            unfold zmk
            rw [List.foldl_append]
            rfl
          rw [e]
          exact b1
        | succ r ih2 =>
          intro i μ2 q x6 k1 k2 k3 k4 k5 k6 k7
          have hT2 : zTL μ2 T := h.fr k7 (by simp)
          refine s_X8_makeLevel_26 hG ?_
          simp only [b_X8_makeLevel_0, b_X8_makeLevel_8, b_X8_makeLevel_13, b_X8_makeLevel_20, b_X8_makeLevel_26, b_X8_makeLevel_32, b_X8_makeLevel_47, b_X8_makeLevel_77, b_X8_makeLevel_83, o_c, o_il, o_al, o_is, o_as, o_inc, o_add, o_sub, o_mul, o_and, o_or, o_xor, o_shl, o_shr, o_ush, o_rem, o_dup, o_dup2, o_gf, o_pf, o_pz, o_iald, o_iast, o_zald, o_zast, o_aald, o_gs, o_min, o_acp, o_call, o_callv, zgf, zpf, zia_, zza_, zra_, zrd_, zcp_, zpop, zsm8_0, zsm8_1, zsm8_2, zsm8_3, zsm8_4, zsm8_5, zrc, zisob, t_ieq, t_ilt, t_igt, t_zeq, t_zlt, t_zgt, t_sw, zsw, t_iret, t_zret, t_aret, t_vret, zrg, List.getElem?_cons_zero, List.getElem?_cons_succ, List.set_cons_zero, List.set_cons_succ, List.length_cons, List.length_nil, Option.toList_some, Option.toList_none, List.nil_append, List.cons_append, true_and, and_true, true_or, or_true, Int.cast_ofNat_Int, Int.natCast_zero, Int.natCast_one, zsh_30]
          refine ⟨by omega, by omega, fun _ => ?_, fun w => by omega⟩
          refine ⟨_, c_X8_membersOnWay (by omega) hT2 (m := m) (s := s) (w := i) (by omega) (by omega) (by omega), ?_⟩
          rintro v μ3 ⟨⟨m', rfl, g1, g2, g3⟩, rfl⟩
          rw [hsel] at g2
          have g2' : zself T 0 m' = zpt sel s i := g2
          simp only [b_X8_makeLevel_0, b_X8_makeLevel_8, b_X8_makeLevel_13, b_X8_makeLevel_20, b_X8_makeLevel_26, b_X8_makeLevel_32, b_X8_makeLevel_47, b_X8_makeLevel_77, b_X8_makeLevel_83, o_c, o_il, o_al, o_is, o_as, o_inc, o_add, o_sub, o_mul, o_and, o_or, o_xor, o_shl, o_shr, o_ush, o_rem, o_dup, o_dup2, o_gf, o_pf, o_pz, o_iald, o_iast, o_zald, o_zast, o_aald, o_gs, o_min, o_acp, o_call, o_callv, zgf, zpf, zia_, zza_, zra_, zrd_, zcp_, zpop, zsm8_0, zsm8_1, zsm8_2, zsm8_3, zsm8_4, zsm8_5, zrc, zisob, t_ieq, t_ilt, t_igt, t_zeq, t_zlt, t_zgt, t_sw, zsw, t_iret, t_zret, t_aret, t_vret, zrg, List.getElem?_cons_zero, List.getElem?_cons_succ, List.set_cons_zero, List.set_cons_succ, List.length_cons, List.length_nil, Option.toList_some, Option.toList_none, List.nil_append, List.cons_append, true_and, and_true, true_or, or_true, Int.cast_ofNat_Int, Int.natCast_zero, Int.natCast_one, zsh_30, zsh_33]
          refine ⟨by omega, fun e => ?_, fun e => ?_⟩
          · have hem : zpt sel s i = [] := by rw [← g2']; exact g3.mp (by omega)
            have := ih2 (i + 1) μ3 q (.inl (m' : Int)) (by omega) k2 (fun w hw => ?_) ?_ (fun w hw hne => ?_) k6 k7
            · exact this
            · rw [k3 w hw]
              constructor
              · intro z; exact ⟨by omega, z.2⟩
              · intro z
                refine ⟨?_, z.2⟩
                by_cases ew : w = i
                · subst ew; exact absurd hem z.2
                · omega
            · rw [List.range_succ, List.flatMap_append]
              simp only [List.flatMap_cons, List.flatMap_nil, List.append_nil, if_pos hem]
              exact k4
            · by_cases ew : w = i
              · subst ew; exact absurd hem hne
              · exact k5 w (by omega) hne
          · have hne : zpt sel s i ≠ [] := by rw [← g2']; exact fun z => e (by have := g3.mpr z; omega)
            have e1 : zshl 1 (i : Int) = ((2 ^ i : Nat) : Int) := by
              have hp4 : (2 : Nat) ^ i ≤ 2 ^ 4 := Nat.pow_le_pow_right (by omega) (by omega)
              have := zshl_nat (a := 1) (s := i) (by omega) (by omega)
              simpa using this
            have hp8 : (2 : Nat) ^ i < 2 ^ 4 := Nat.pow_lt_pow_right (by omega) (by omega)
            rw [e1, zor_nat (by omega) (by omega)]
            have hRn : zRs (s + 1) (zself T 0 m') := by rw [g2']; exact hR.next (by omega)
            have e2 : ((s : Int) + 1) = ((s + 1 : Nat) : Int) := by omega
            rw [e2]
            refine ⟨_, ih (s + 1) (d - 1) m' μ3 T _ _ (by omega) (by omega) hT2 hS k4 g1 hRn, ?_⟩
            rw [g2']
            rintro v μ4 ⟨rfl, b1, b2, b3⟩
            simp only [b_X8_makeLevel_0, b_X8_makeLevel_8, b_X8_makeLevel_13, b_X8_makeLevel_20, b_X8_makeLevel_26, b_X8_makeLevel_32, b_X8_makeLevel_47, b_X8_makeLevel_77, b_X8_makeLevel_83, o_c, o_il, o_al, o_is, o_as, o_inc, o_add, o_sub, o_mul, o_and, o_or, o_xor, o_shl, o_shr, o_ush, o_rem, o_dup, o_dup2, o_gf, o_pf, o_pz, o_iald, o_iast, o_zald, o_zast, o_aald, o_gs, o_min, o_acp, o_call, o_callv, zgf, zpf, zia_, zza_, zra_, zrd_, zcp_, zpop, zsm8_0, zsm8_1, zsm8_2, zsm8_3, zsm8_4, zsm8_5, zrc, zisob, t_ieq, t_ilt, t_igt, t_zeq, t_zlt, t_zgt, t_sw, zsw, t_iret, t_zret, t_aret, t_vret, zrg, List.getElem?_cons_zero, List.getElem?_cons_succ, List.set_cons_zero, List.set_cons_succ, List.length_cons, List.length_nil, Option.toList_some, Option.toList_none, List.nil_append, List.cons_append, true_and, and_true, true_or, or_true, Int.cast_ofNat_Int, Int.natCast_zero, Int.natCast_one, zsh_30, zsh_33]
            refine ⟨by omega, ?_⟩
            have f5 : zfr [33] μ4 (zup μ4 33 (4 * s + i) (zlvl f (s + 1) (zpt sel s i)).2) := fun x hx => zup_ne x (by simpa using hx)
            have := ih2 (i + 1) (zup μ4 33 (4 * s + i) (zlvl f (s + 1) (zpt sel s i)).2) (q ||| 2 ^ i) (.inl (m' : Int)) (by omega) (Nat.or_lt_two_pow (n := 4) k2 hp8) (fun w hw => ?_) ?_ (fun w hw hwn => ?_) (fun j hj => ?_) ((k7.trans b3).trans (f5.mono (by simp)))
            · exact this
            · rw [Nat.testBit_or, Nat.testBit_two_pow, Bool.or_eq_true, k3 w hw]
              constructor
              · rintro (z | z)
                · exact ⟨by omega, z.2⟩
                · have : i = w := by simpa using z
                  subst this
                  exact ⟨by omega, hne⟩
              · intro z
                by_cases ew : w = i
                · right; simp [ew]
                · left; exact ⟨by omega, z.2⟩
            · rw [List.range_succ, List.flatMap_append]
              simp only [List.flatMap_cons, List.flatMap_nil, List.append_nil, if_neg hne]
              have e3 : ∀ (a b : List (List Int)), zmk (L, c) (a ++ b) = zmk (zmk (L, c) a) b := fun a b => by unfold zmk; rw [List.foldl_append]
              rw [e3]
              exact b1.fr f5 (by simp)
            · by_cases ew : w = i
              · subst ew
                simp [zup, hlk]
              · have hnw : ¬ ((4 * (s : Int) + w) = 4 * s + i) := by omega
                simp only [zup]
                rw [if_neg (by simp [hnw]), b2 _ (by omega)]
                exact k5 w (by omega) hwn
            · have hnw : ¬ (j = 4 * (s : Int) + i) := by omega
              simp only [zup]
              rw [if_neg (by simp [hnw]), b2 j (by omega)]
              exact k6 j hj
      exact loop 4 0 μ 0 _ (by omega) (by omega) (fun w hw => by simp) (by simpa [zmk] using hT) (fun w hw => by omega) (fun j _ => rfl) (zfr.refl _ _)
set_option maxRecDepth 100000 in
set_option maxHeartbeats 4000000 in
theorem c_X8_makeFolder {d : Nat} {μ : zM} {T : List zPp} {L : List zBk} {c : Int} (hd : 9 ≤ d) (h : zTL μ T) (hS : zSo T) (hT : zBT μ L [] c) : zCt d mX8_makeFolder [.inr (some 30), .inr (some 34)] μ (fun v μ' => v = some (.inl (zlvl 4 0 T).2) ∧ zBT μ' (zmk (L, c) (zlvl 4 0 T).1).1 [] (zmk (L, c) (zlvl 4 0 T).1).2 ∧ zfr zttS μ μ') := by
  have hl := h.2.1
  have h216 : (2 : Nat) ^ T.length ≤ 2 ^ 16 := Nat.pow_le_pow_right (by omega) hl
  have hpos : 0 < (2 : Nat) ^ T.length := Nat.pow_pos (by omega)
  refine of_X8_makeFolder (by omega) (fun G hG => s_X8_makeFolder_0 hG ?_)
  simp only [b_X8_makeFolder_0, o_c, o_il, o_al, o_is, o_as, o_inc, o_add, o_sub, o_mul, o_and, o_or, o_xor, o_shl, o_shr, o_ush, o_rem, o_dup, o_dup2, o_gf, o_pf, o_pz, o_iald, o_iast, o_zald, o_zast, o_aald, o_gs, o_min, o_acp, o_call, o_callv, zgf, zpf, zia_, zza_, zra_, zrd_, zcp_, zpop, zsm8_0, zsm8_1, zsm8_2, zsm8_3, zsm8_4, zsm8_5, zrc, zisob, t_ieq, t_ilt, t_igt, t_zeq, t_zlt, t_zgt, t_sw, zsw, t_iret, t_zret, t_aret, t_vret, zrg, List.getElem?_cons_zero, List.getElem?_cons_succ, List.set_cons_zero, List.set_cons_succ, List.length_cons, List.length_nil, Option.toList_some, Option.toList_none, List.nil_append, List.cons_append, true_and, and_true, true_or, or_true, Int.cast_ofNat_Int, Int.natCast_zero, Int.natCast_one, zsh_30]
  rw [h.1]
  have e1 : zshl 1 (T.length : Int) - 1 = ((2 ^ T.length - 1 : Nat) : Int) := by
    have := zshl_nat (a := 1) (s := T.length) (by omega) (by omega)
    simp only [Int.natCast_one] at this
    rw [this]
    omega
  rw [e1]
  have hall : zself T 0 (2 ^ T.length - 1) = T := zself_all T 0 _ (fun j hj => by rw [Nat.zero_add, Nat.testBit_two_pow_sub_one]; simp [hj])
  refine ⟨_, c_X8_makeLevel 4 0 (d - 1) (2 ^ T.length - 1) μ T L c (by omega) (by omega) h hS hT (by omega) ⟨0, fun p _ => by simp⟩, ?_⟩
  rw [hall]
  rintro v μ1 ⟨rfl, b1, b2, b3⟩
  simp only [b_X8_makeFolder_0, o_c, o_il, o_al, o_is, o_as, o_inc, o_add, o_sub, o_mul, o_and, o_or, o_xor, o_shl, o_shr, o_ush, o_rem, o_dup, o_dup2, o_gf, o_pf, o_pz, o_iald, o_iast, o_zald, o_zast, o_aald, o_gs, o_min, o_acp, o_call, o_callv, zgf, zpf, zia_, zza_, zra_, zrd_, zcp_, zpop, zsm8_0, zsm8_1, zsm8_2, zsm8_3, zsm8_4, zsm8_5, zrc, zisob, t_ieq, t_ilt, t_igt, t_zeq, t_zlt, t_zgt, t_sw, zsw, t_iret, t_zret, t_aret, t_vret, zrg, List.getElem?_cons_zero, List.getElem?_cons_succ, List.set_cons_zero, List.set_cons_succ, List.length_cons, List.length_nil, Option.toList_some, Option.toList_none, List.nil_append, List.cons_append, true_and, and_true, true_or, or_true, Int.cast_ofNat_Int, Int.natCast_zero, Int.natCast_one, zsh_30]
  exact ⟨b1, b3⟩
