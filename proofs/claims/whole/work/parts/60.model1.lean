/-! THE REFERENCE: its cells 56 to 87 -/
theorem zup_eq {μ : zM} {k : Nat} {i x : Int} : zup μ k i x k i = x := by simp [zup]
theorem zup_nf {μ : zM} {k : Nat} {i j x : Int} (h : j ≠ i) : zup μ k i x k j = μ k j := by simp [zup, h]
/-- memories that agree but on some cells and some fields of the object -/
def zF (C : List Nat) (F : List Int) (μ μ' : zM) : Prop := (∀ c, c ∉ C → c ≠ 56 → μ' c = μ c) ∧ ∀ i : Int, i ∉ F → μ' 56 i = μ 56 i
theorem zF.refl (C : List Nat) (F : List Int) (μ : zM) : zF C F μ μ := ⟨fun _ _ _ => rfl, fun _ _ => rfl⟩
theorem zF.trans {C : List Nat} {F : List Int} {a b c : zM} (h1 : zF C F a b) (h2 : zF C F b c) : zF C F a c := ⟨fun k hk h56 => (h2.1 k hk h56).trans (h1.1 k hk h56), fun i hi => (h2.2 i hi).trans (h1.2 i hi)⟩
theorem zF.mono {C C' : List Nat} {F F' : List Int} {a b : zM} (h : zF C F a b) (hc : ∀ x ∈ C, x ∈ C') (hf : ∀ x ∈ F, x ∈ F') : zF C' F' a b := ⟨fun k hk h56 => h.1 k (fun w => hk (hc k w)) h56, fun i hi => h.2 i (fun w => hi (hf i w))⟩
theorem zF.u {C : List Nat} {F : List Int} {a b : zM} {c : Nat} {i x : Int} (h : zF C F a b) (hc : c ∈ C) (h56 : c ≠ 56) : zF C F a (zup b c i x) := ⟨fun k hk q => by rw [zup_ne k (fun w => hk (w ▸ hc))]; exact h.1 k hk q, fun j hj => by rw [zup_ne 56 (fun w => h56 w.symm)]; exact h.2 j hj⟩
theorem zF.v {C : List Nat} {F : List Int} {a b : zM} {i x : Int} (h : zF C F a b) (hi : i ∈ F) : zF C F a (zup b 56 i x) := ⟨fun k hk q => by rw [zup_ne k q]; exact h.1 k hk q, fun j hj => by rw [zup_nf (i := i) (j := j) (fun w => hj (by rw [w]; exact hi))]; exact h.2 j hj⟩
/-- the buffer; the row -/
def zmB (μ : zM) (B : List Int) : Prop := μ 56 18 = B.length ∧ B.length ≤ 32 ∧ zAR μ 74 B ∧ ∀ x ∈ B, 0 ≤ x ∧ x ≤ 255
def zmR (μ : zM) (D : List Int) : Prop := μ 56 24 = D.length ∧ D.length ≤ 32 ∧ zAR μ 77 D ∧ ∀ x ∈ D, 0 ≤ x ∧ x ≤ 255
theorem zmB.f {μ μ' : zM} {B : List Int} {C : List Nat} {F : List Int} (h : zmB μ B) (f : zF C F μ μ') (hc : 74 ∉ C) (hf : 18 ∉ F) : zmB μ' B := ⟨by rw [f.2 _ hf]; exact h.1, h.2.1, h.2.2.1.of (f.1 _ hc (by decide)), h.2.2.2⟩
theorem zmR.f {μ μ' : zM} {B : List Int} {C : List Nat} {F : List Int} (h : zmR μ B) (f : zF C F μ μ') (hc : 77 ∉ C) (hf : 24 ∉ F) : zmR μ' B := ⟨by rw [f.2 _ hf]; exact h.1, h.2.1, h.2.2.1.of (f.1 _ hc (by decide)), h.2.2.2⟩
theorem zmR.nil {μ : zM} (h : μ 56 24 = 0) : zmR μ [] := ⟨by simpa using h, by simp, fun j x hj => by simp at hj, by simp⟩
set_option maxRecDepth 100000 in
set_option maxHeartbeats 4000000 in
theorem c_X11_isStore {d : Nat} {μ : zM} {x : Int} (hx : zrg x) : zCt d mX11_isStore [.inl x] μ (zR (.inl (zb (0 ≤ x ∧ x ≤ 2))) μ) := by
  unfold zrg at hx
  by_cases hc : 0 ≤ x ∧ x ≤ 2
  · rw [zb_t hc]
    refine of_X11_isStore (fun G hG => s_X11_isStore_0 hG ?_)
    simp only [b_X11_isStore_0, b_X11_isStore_4, b_X11_isStore_9, b_X11_isStore_13, b_X11_isStore_14, o_c, o_il, o_al, o_is, o_as, o_inc, o_add, o_sub, o_mul, o_and, o_or, o_xor, o_shl, o_shr, o_ush, o_rem, o_dup, o_dup2, o_gf, o_pf, o_pz, o_iald, o_iast, o_zald, o_zast, o_aald, o_gs, o_min, o_acp, o_call, o_callv, zgf, zpf, zia_, zza_, zra_, zrd_, zcp_, zpop, zsm8_0, zsm8_1, zsm8_2, zsm8_3, zsm8_4, zsm8_5, zrc, zisob, t_ieq, t_ilt, t_igt, t_zeq, t_zlt, t_zgt, t_sw, zsw, t_iret, t_zret, t_aret, t_vret, zrg, List.getElem?_cons_zero, List.getElem?_cons_succ, List.set_cons_zero, List.set_cons_succ, List.length_cons, List.length_nil, Option.toList_some, Option.toList_none, List.nil_append, List.cons_append, true_and, and_true, true_or, or_true, Int.cast_ofNat_Int, Int.natCast_zero, Int.natCast_one]
    repeat' (first | with_reducible apply And.intro | intro _)
    all_goals first | omega | rfl | trivial | decide | (exfalso; omega)
  · rw [zb_f hc]
    refine of_X11_isStore (fun G hG => s_X11_isStore_0 hG ?_)
    simp only [b_X11_isStore_0, b_X11_isStore_4, b_X11_isStore_9, b_X11_isStore_13, b_X11_isStore_14, o_c, o_il, o_al, o_is, o_as, o_inc, o_add, o_sub, o_mul, o_and, o_or, o_xor, o_shl, o_shr, o_ush, o_rem, o_dup, o_dup2, o_gf, o_pf, o_pz, o_iald, o_iast, o_zald, o_zast, o_aald, o_gs, o_min, o_acp, o_call, o_callv, zgf, zpf, zia_, zza_, zra_, zrd_, zcp_, zpop, zsm8_0, zsm8_1, zsm8_2, zsm8_3, zsm8_4, zsm8_5, zrc, zisob, t_ieq, t_ilt, t_igt, t_zeq, t_zlt, t_zgt, t_sw, zsw, t_iret, t_zret, t_aret, t_vret, zrg, List.getElem?_cons_zero, List.getElem?_cons_succ, List.set_cons_zero, List.set_cons_succ, List.length_cons, List.length_nil, Option.toList_some, Option.toList_none, List.nil_append, List.cons_append, true_and, and_true, true_or, or_true, Int.cast_ofNat_Int, Int.natCast_zero, Int.natCast_one]
    repeat' (first | with_reducible apply And.intro | intro _)
    all_goals first | omega | rfl | trivial | decide | (exfalso; omega)
set_option maxRecDepth 100000 in
set_option maxHeartbeats 4000000 in
theorem c_X11_type {d : Nat} {μ : zM} {B : List Int} {b : Int} (h : zmB μ B) (hb : zrg b) : zCt d mX11_type [.inr (some 56), .inl b] μ (fun v μ' => v = some (.inl (if (0 ≤ b ∧ b ≤ 255) ∧ B.length < 32 then 1 else 0)) ∧ zmB μ' (if (0 ≤ b ∧ b ≤ 255) ∧ B.length < 32 then B ++ [b] else B) ∧ zF [74] [18] μ μ') := by
  have hh := h
  obtain ⟨h1, h2, h3, h4⟩ := h
  unfold zrg at hb
  by_cases hc : (0 ≤ b ∧ b ≤ 255) ∧ B.length < 32
  · rw [if_pos hc, if_pos hc]
    refine of_X11_type (fun G hG => s_X11_type_0 hG ?_)
    simp only [b_X11_type_0, b_X11_type_4, b_X11_type_11, b_X11_type_20, b_X11_type_22, o_c, o_il, o_al, o_is, o_as, o_inc, o_add, o_sub, o_mul, o_and, o_or, o_xor, o_shl, o_shr, o_ush, o_rem, o_dup, o_dup2, o_gf, o_pf, o_pz, o_iald, o_iast, o_zald, o_zast, o_aald, o_gs, o_min, o_acp, o_call, o_callv, zgf, zpf, zia_, zza_, zra_, zrd_, zcp_, zpop, zsm8_0, zsm8_1, zsm8_2, zsm8_3, zsm8_4, zsm8_5, zrc, zisob, t_ieq, t_ilt, t_igt, t_zeq, t_zlt, t_zgt, t_sw, zsw, t_iret, t_zret, t_aret, t_vret, zrg, List.getElem?_cons_zero, List.getElem?_cons_succ, List.set_cons_zero, List.set_cons_succ, List.length_cons, List.length_nil, Option.toList_some, Option.toList_none, List.nil_append, List.cons_append, true_and, and_true, true_or, or_true, Int.cast_ofNat_Int, Int.natCast_zero, Int.natCast_one, zsh_56, zsh_57, zsh_58, zsh_59, zsh_60, zsh_61, zsh_62, zsh_63, zsh_64, zsh_65, zsh_66, zsh_67, zsh_68, zsh_69, zsh_70, zsh_71, zsh_72, zsh_73, zsh_74, zsh_75, zsh_76, zsh_77, zsh_78, zsh_79, zsh_80, zsh_81, zsh_82, zsh_83, zsh_84, zsh_85, zsh_86, zsh_87, zup_ne, zup_eq, zup_nf, ne_eq, not_false_eq_true]
    refine ⟨by omega, fun w => by omega, fun _ => ⟨by omega, by omega, fun w => by omega, fun _ => ⟨by omega, by omega, fun w => by omega, fun _ => ⟨by omega, ⟨by simp [zup, h1], by simp; omega, h3.push (fun i hi => ?_) ?_, fun x hx => ?_⟩, ((zF.refl _ _ _).u (by simp) (by simp)).v (by simp)⟩⟩⟩⟩
    · rw [zup_ne _ (by decide), ← h1] at *
      rw [zup_nf hi]
    · rw [zup_ne _ (by decide), h1, zup_eq]
    · rcases List.mem_append.mp hx with q | q
      · exact h4 x q
      · rw [List.mem_singleton.mp q]; exact hc.1
  · rw [if_neg hc, if_neg hc]
    refine of_X11_type (fun G hG => s_X11_type_0 hG ?_)
    simp only [b_X11_type_0, b_X11_type_4, b_X11_type_11, b_X11_type_20, b_X11_type_22, o_c, o_il, o_al, o_is, o_as, o_inc, o_add, o_sub, o_mul, o_and, o_or, o_xor, o_shl, o_shr, o_ush, o_rem, o_dup, o_dup2, o_gf, o_pf, o_pz, o_iald, o_iast, o_zald, o_zast, o_aald, o_gs, o_min, o_acp, o_call, o_callv, zgf, zpf, zia_, zza_, zra_, zrd_, zcp_, zpop, zsm8_0, zsm8_1, zsm8_2, zsm8_3, zsm8_4, zsm8_5, zrc, zisob, t_ieq, t_ilt, t_igt, t_zeq, t_zlt, t_zgt, t_sw, zsw, t_iret, t_zret, t_aret, t_vret, zrg, List.getElem?_cons_zero, List.getElem?_cons_succ, List.set_cons_zero, List.set_cons_succ, List.length_cons, List.length_nil, Option.toList_some, Option.toList_none, List.nil_append, List.cons_append, true_and, and_true, true_or, or_true, Int.cast_ofNat_Int, Int.natCast_zero, Int.natCast_one, zsh_56, zsh_57, zsh_58, zsh_59, zsh_60, zsh_61, zsh_62, zsh_63, zsh_64, zsh_65, zsh_66, zsh_67, zsh_68, zsh_69, zsh_70, zsh_71, zsh_72, zsh_73, zsh_74, zsh_75, zsh_76, zsh_77, zsh_78, zsh_79, zsh_80, zsh_81, zsh_82, zsh_83, zsh_84, zsh_85, zsh_86, zsh_87, zup_ne, zup_eq, zup_nf, ne_eq, not_false_eq_true]
    exact ⟨by omega, fun _ => ⟨hh, zF.refl _ _ _⟩, fun _ => ⟨by omega, by omega, fun _ => ⟨hh, zF.refl _ _ _⟩, fun _ => ⟨by omega, by omega, fun _ => ⟨hh, zF.refl _ _ _⟩, fun _ => by omega⟩⟩⟩
set_option maxRecDepth 100000 in
set_option maxHeartbeats 4000000 in
theorem c_X11_step {d : Nat} {μ : zM} {h b : Int} (hh : 0 ≤ h ∧ h ≤ 65520) (hb : 0 ≤ b ∧ b ≤ 255) : zCt d mX11_step [.inl h, .inl b] μ (zR (.inl ((263 * h + b + 1) % 65521)) μ) := by
  refine of_X11_step (fun G hG => s_X11_step_0 hG ?_)
  simp only [b_X11_step_0, o_c, o_il, o_al, o_is, o_as, o_inc, o_add, o_sub, o_mul, o_and, o_or, o_xor, o_shl, o_shr, o_ush, o_rem, o_dup, o_dup2, o_gf, o_pf, o_pz, o_iald, o_iast, o_zald, o_zast, o_aald, o_gs, o_min, o_acp, o_call, o_callv, zgf, zpf, zia_, zza_, zra_, zrd_, zcp_, zpop, zsm8_0, zsm8_1, zsm8_2, zsm8_3, zsm8_4, zsm8_5, zrc, zisob, t_ieq, t_ilt, t_igt, t_zeq, t_zlt, t_zgt, t_sw, zsw, t_iret, t_zret, t_aret, t_vret, zrg, List.getElem?_cons_zero, List.getElem?_cons_succ, List.set_cons_zero, List.set_cons_succ, List.length_cons, List.length_nil, Option.toList_some, Option.toList_none, List.nil_append, List.cons_append, true_and, and_true, true_or, or_true, Int.cast_ofNat_Int, Int.natCast_zero, Int.natCast_one]
  exact ⟨by omega, by omega, rfl, rfl⟩
set_option maxRecDepth 100000 in
set_option maxHeartbeats 4000000 in
theorem c_X11_hash {d : Nat} {μ : zM} {t : Int} : zCt d mX11_hash [.inl t] μ (zR (.inl ((37 * t) % 256)) μ) := by
  refine of_X11_hash (fun G hG => s_X11_hash_0 hG ?_)
  simp only [b_X11_hash_0, o_c, o_il, o_al, o_is, o_as, o_inc, o_add, o_sub, o_mul, o_and, o_or, o_xor, o_shl, o_shr, o_ush, o_rem, o_dup, o_dup2, o_gf, o_pf, o_pz, o_iald, o_iast, o_zald, o_zast, o_aald, o_gs, o_min, o_acp, o_call, o_callv, zgf, zpf, zia_, zza_, zra_, zrd_, zcp_, zpop, zsm8_0, zsm8_1, zsm8_2, zsm8_3, zsm8_4, zsm8_5, zrc, zisob, t_ieq, t_ilt, t_igt, t_zeq, t_zlt, t_zgt, t_sw, zsw, t_iret, t_zret, t_aret, t_vret, zrg, List.getElem?_cons_zero, List.getElem?_cons_succ, List.set_cons_zero, List.set_cons_succ, List.length_cons, List.length_nil, Option.toList_some, Option.toList_none, List.nil_append, List.cons_append, true_and, and_true, true_or, or_true, Int.cast_ofNat_Int, Int.natCast_zero, Int.natCast_one]
  rw [zand_m 8 (by decide) (by decide)]
  exact ⟨rfl, rfl⟩
theorem zbits16 : ∀ m : Fin 16, zand ((m : Nat) : Int) 1 + zand (zshr ((m : Nat) : Int) 1) 1 + zand (zshr ((m : Nat) : Int) 2) 1 + zand (zshr ((m : Nat) : Int) 3) 1 = zpc ((m : Nat) : Int) := by decide +kernel
set_option maxRecDepth 100000 in
set_option maxHeartbeats 4000000 in
theorem c_X11_bits {d : Nat} {μ : zM} {t : Int} (h : 0 ≤ t ∧ t ≤ 15) : zCt d mX11_bits [.inl t] μ (zR (.inl (zpc t)) μ) := by
  obtain ⟨n, rfl⟩ := Int.eq_ofNat_of_zero_le h.1
  have := zbits16 ⟨n, by omega⟩
  refine of_X11_bits (fun G hG => s_X11_bits_0 hG ?_)
  simp only [b_X11_bits_0, o_c, o_il, o_al, o_is, o_as, o_inc, o_add, o_sub, o_mul, o_and, o_or, o_xor, o_shl, o_shr, o_ush, o_rem, o_dup, o_dup2, o_gf, o_pf, o_pz, o_iald, o_iast, o_zald, o_zast, o_aald, o_gs, o_min, o_acp, o_call, o_callv, zgf, zpf, zia_, zza_, zra_, zrd_, zcp_, zpop, zsm8_0, zsm8_1, zsm8_2, zsm8_3, zsm8_4, zsm8_5, zrc, zisob, t_ieq, t_ilt, t_igt, t_zeq, t_zlt, t_zgt, t_sw, zsw, t_iret, t_zret, t_aret, t_vret, zrg, List.getElem?_cons_zero, List.getElem?_cons_succ, List.set_cons_zero, List.set_cons_succ, List.length_cons, List.length_nil, Option.toList_some, Option.toList_none, List.nil_append, List.cons_append, true_and, and_true, true_or, or_true, Int.cast_ofNat_Int, Int.natCast_zero, Int.natCast_one]
  simp only at this
  rw [this]
  exact ⟨rfl, rfl⟩
def zfst (s : Int) : Int := if s = 0 then 0 else if s = 1 then 1 else if s = 2 then 5 else 21
set_option maxRecDepth 100000 in
set_option maxHeartbeats 4000000 in
theorem c_X11_first {d : Nat} {μ : zM} {t : Int} (h : 0 ≤ t ∧ t ≤ 3) : zCt d mX11_first [.inl t] μ (zR (.inl (zfst t)) μ) := by
  refine of_X11_first (fun G hG => s_X11_first_0 hG ?_)
  simp only [b_X11_first_0, b_X11_first_4, b_X11_first_8, b_X11_first_13, b_X11_first_17, b_X11_first_22, b_X11_first_26, b_X11_first_28, o_c, o_il, o_al, o_is, o_as, o_inc, o_add, o_sub, o_mul, o_and, o_or, o_xor, o_shl, o_shr, o_ush, o_rem, o_dup, o_dup2, o_gf, o_pf, o_pz, o_iald, o_iast, o_zald, o_zast, o_aald, o_gs, o_min, o_acp, o_call, o_callv, zgf, zpf, zia_, zza_, zra_, zrd_, zcp_, zpop, zsm8_0, zsm8_1, zsm8_2, zsm8_3, zsm8_4, zsm8_5, zrc, zisob, t_ieq, t_ilt, t_igt, t_zeq, t_zlt, t_zgt, t_sw, zsw, t_iret, t_zret, t_aret, t_vret, zrg, List.getElem?_cons_zero, List.getElem?_cons_succ, List.set_cons_zero, List.set_cons_succ, List.length_cons, List.length_nil, Option.toList_some, Option.toList_none, List.nil_append, List.cons_append, true_and, and_true, true_or, or_true, Int.cast_ofNat_Int, Int.natCast_zero, Int.natCast_one]
  unfold zfst
  repeat' (first | with_reducible apply And.intro | intro _)
  all_goals first | omega | rfl | (subst_vars; rfl) | simp_all
/-- a loop that hashes a row -/
theorem zhashf_drop {h : Int} {bs : List Int} {i : Nat} (hi : i < bs.length) : zhashf h (bs.drop i) = zhashf ((263 * h + bs[i] + 1) % 65521) (bs.drop (i + 1)) := by
  rw [List.drop_eq_getElem_cons hi]; rfl
set_option maxRecDepth 100000 in
set_option maxHeartbeats 4000000 in
theorem c_X11_name {d : Nat} {μ : zM} {B : List Int} (hd : 1 ≤ d) (h : zmB μ B) : zCt d mX11_name [.inr (some 56)] μ (zR (.inl (zhash B)) μ) := by
  obtain ⟨h1, h2, h3, h4⟩ := h
  refine of_X11_name hd (fun G hG => s_X11_name_0 hG ?_)
  have loop : ∀ (r i : Nat) (x : Int), i + r = B.length → (0 ≤ x ∧ x ≤ 65520) → zhash B = zhashf x (B.drop i) → G 5 [.inr (some 56), .inl x, .inl (i : Int)] [] μ := by
    intro r
    induction r with
    | zero =>
      intro i x k1 k2 k3
      rw [List.drop_of_length_le (by omega)] at k3
      refine s_X11_name_5 hG ?_
      simp only [b_X11_name_0, b_X11_name_5, b_X11_name_13, b_X11_name_30, o_c, o_il, o_al, o_is, o_as, o_inc, o_add, o_sub, o_mul, o_and, o_or, o_xor, o_shl, o_shr, o_ush, o_rem, o_dup, o_dup2, o_gf, o_pf, o_pz, o_iald, o_iast, o_zald, o_zast, o_aald, o_gs, o_min, o_acp, o_call, o_callv, zgf, zpf, zia_, zza_, zra_, zrd_, zcp_, zpop, zsm8_0, zsm8_1, zsm8_2, zsm8_3, zsm8_4, zsm8_5, zrc, zisob, t_ieq, t_ilt, t_igt, t_zeq, t_zlt, t_zgt, t_sw, zsw, t_iret, t_zret, t_aret, t_vret, zrg, List.getElem?_cons_zero, List.getElem?_cons_succ, List.set_cons_zero, List.set_cons_succ, List.length_cons, List.length_nil, Option.toList_some, Option.toList_none, List.nil_append, List.cons_append, true_and, and_true, true_or, or_true, Int.cast_ofNat_Int, Int.natCast_zero, Int.natCast_one, zsh_56, zsh_57, zsh_58, zsh_59, zsh_60, zsh_61, zsh_62, zsh_63, zsh_64, zsh_65, zsh_66, zsh_67, zsh_68, zsh_69, zsh_70, zsh_71, zsh_72, zsh_73, zsh_74, zsh_75, zsh_76, zsh_77, zsh_78, zsh_79, zsh_80, zsh_81, zsh_82, zsh_83, zsh_84, zsh_85, zsh_86, zsh_87, zup_ne, zup_eq, zup_nf, ne_eq, not_false_eq_true]
      refine ⟨by omega, by omega, fun w => by omega, fun _ => ?_⟩
      rw [k3]
      exact ⟨rfl, rfl⟩
    | succ r ih =>
      intro i x k1 k2 k3
      have hi : i < B.length := by omega
      have e26 := h3 i B[i] (List.getElem?_eq_getElem hi)
      have hv := h4 B[i] (List.getElem_mem hi)
      refine s_X11_name_5 hG ?_
      simp only [b_X11_name_0, b_X11_name_5, b_X11_name_13, b_X11_name_30, o_c, o_il, o_al, o_is, o_as, o_inc, o_add, o_sub, o_mul, o_and, o_or, o_xor, o_shl, o_shr, o_ush, o_rem, o_dup, o_dup2, o_gf, o_pf, o_pz, o_iald, o_iast, o_zald, o_zast, o_aald, o_gs, o_min, o_acp, o_call, o_callv, zgf, zpf, zia_, zza_, zra_, zrd_, zcp_, zpop, zsm8_0, zsm8_1, zsm8_2, zsm8_3, zsm8_4, zsm8_5, zrc, zisob, t_ieq, t_ilt, t_igt, t_zeq, t_zlt, t_zgt, t_sw, zsw, t_iret, t_zret, t_aret, t_vret, zrg, List.getElem?_cons_zero, List.getElem?_cons_succ, List.set_cons_zero, List.set_cons_succ, List.length_cons, List.length_nil, Option.toList_some, Option.toList_none, List.nil_append, List.cons_append, true_and, and_true, true_or, or_true, Int.cast_ofNat_Int, Int.natCast_zero, Int.natCast_one, zsh_56, zsh_57, zsh_58, zsh_59, zsh_60, zsh_61, zsh_62, zsh_63, zsh_64, zsh_65, zsh_66, zsh_67, zsh_68, zsh_69, zsh_70, zsh_71, zsh_72, zsh_73, zsh_74, zsh_75, zsh_76, zsh_77, zsh_78, zsh_79, zsh_80, zsh_81, zsh_82, zsh_83, zsh_84, zsh_85, zsh_86, zsh_87, zup_ne, zup_eq, zup_nf, ne_eq, not_false_eq_true]
      refine ⟨by omega, by omega, fun _ => ⟨by omega, ?_⟩, fun w => by omega⟩
      rw [e26]
      refine zcall (c_X11_step k2 hv) ?_
      simp only [b_X11_name_0, b_X11_name_5, b_X11_name_13, b_X11_name_30, o_c, o_il, o_al, o_is, o_as, o_inc, o_add, o_sub, o_mul, o_and, o_or, o_xor, o_shl, o_shr, o_ush, o_rem, o_dup, o_dup2, o_gf, o_pf, o_pz, o_iald, o_iast, o_zald, o_zast, o_aald, o_gs, o_min, o_acp, o_call, o_callv, zgf, zpf, zia_, zza_, zra_, zrd_, zcp_, zpop, zsm8_0, zsm8_1, zsm8_2, zsm8_3, zsm8_4, zsm8_5, zrc, zisob, t_ieq, t_ilt, t_igt, t_zeq, t_zlt, t_zgt, t_sw, zsw, t_iret, t_zret, t_aret, t_vret, zrg, List.getElem?_cons_zero, List.getElem?_cons_succ, List.set_cons_zero, List.set_cons_succ, List.length_cons, List.length_nil, Option.toList_some, Option.toList_none, List.nil_append, List.cons_append, true_and, and_true, true_or, or_true, Int.cast_ofNat_Int, Int.natCast_zero, Int.natCast_one, zsh_56, zsh_57, zsh_58, zsh_59, zsh_60, zsh_61, zsh_62, zsh_63, zsh_64, zsh_65, zsh_66, zsh_67, zsh_68, zsh_69, zsh_70, zsh_71, zsh_72, zsh_73, zsh_74, zsh_75, zsh_76, zsh_77, zsh_78, zsh_79, zsh_80, zsh_81, zsh_82, zsh_83, zsh_84, zsh_85, zsh_86, zsh_87, zup_ne, zup_eq, zup_nf, ne_eq, not_false_eq_true]
      exact ih (i + 1) _ (by omega) (by omega) (by rw [k3, zhashf_drop hi])
  simp only [b_X11_name_0, b_X11_name_5, b_X11_name_13, b_X11_name_30, o_c, o_il, o_al, o_is, o_as, o_inc, o_add, o_sub, o_mul, o_and, o_or, o_xor, o_shl, o_shr, o_ush, o_rem, o_dup, o_dup2, o_gf, o_pf, o_pz, o_iald, o_iast, o_zald, o_zast, o_aald, o_gs, o_min, o_acp, o_call, o_callv, zgf, zpf, zia_, zza_, zra_, zrd_, zcp_, zpop, zsm8_0, zsm8_1, zsm8_2, zsm8_3, zsm8_4, zsm8_5, zrc, zisob, t_ieq, t_ilt, t_igt, t_zeq, t_zlt, t_zgt, t_sw, zsw, t_iret, t_zret, t_aret, t_vret, zrg, List.getElem?_cons_zero, List.getElem?_cons_succ, List.set_cons_zero, List.set_cons_succ, List.length_cons, List.length_nil, Option.toList_some, Option.toList_none, List.nil_append, List.cons_append, true_and, and_true, true_or, or_true, Int.cast_ofNat_Int, Int.natCast_zero, Int.natCast_one, zsh_56, zsh_57, zsh_58, zsh_59, zsh_60, zsh_61, zsh_62, zsh_63, zsh_64, zsh_65, zsh_66, zsh_67, zsh_68, zsh_69, zsh_70, zsh_71, zsh_72, zsh_73, zsh_74, zsh_75, zsh_76, zsh_77, zsh_78, zsh_79, zsh_80, zsh_81, zsh_82, zsh_83, zsh_84, zsh_85, zsh_86, zsh_87, zup_ne, zup_eq, zup_nf, ne_eq, not_false_eq_true]
  exact loop B.length 0 40503 (by omega) (by omega) rfl
set_option maxRecDepth 100000 in
set_option maxHeartbeats 4000000 in
theorem c_X11_rowName {d : Nat} {μ : zM} {B : List Int} (hd : 1 ≤ d) (h : zmR μ B) : zCt d mX11_rowName [.inr (some 56)] μ (zR (.inl (zhash B)) μ) := by
  obtain ⟨h1, h2, h3, h4⟩ := h
  refine of_X11_rowName hd (fun G hG => s_X11_rowName_0 hG ?_)
  have loop : ∀ (r i : Nat) (x : Int), i + r = B.length → (0 ≤ x ∧ x ≤ 65520) → zhash B = zhashf x (B.drop i) → G 5 [.inr (some 56), .inl x, .inl (i : Int)] [] μ := by
    intro r
    induction r with
    | zero =>
      intro i x k1 k2 k3
      rw [List.drop_of_length_le (by omega)] at k3
      refine s_X11_rowName_5 hG ?_
      simp only [b_X11_rowName_0, b_X11_rowName_5, b_X11_rowName_13, b_X11_rowName_30, o_c, o_il, o_al, o_is, o_as, o_inc, o_add, o_sub, o_mul, o_and, o_or, o_xor, o_shl, o_shr, o_ush, o_rem, o_dup, o_dup2, o_gf, o_pf, o_pz, o_iald, o_iast, o_zald, o_zast, o_aald, o_gs, o_min, o_acp, o_call, o_callv, zgf, zpf, zia_, zza_, zra_, zrd_, zcp_, zpop, zsm8_0, zsm8_1, zsm8_2, zsm8_3, zsm8_4, zsm8_5, zrc, zisob, t_ieq, t_ilt, t_igt, t_zeq, t_zlt, t_zgt, t_sw, zsw, t_iret, t_zret, t_aret, t_vret, zrg, List.getElem?_cons_zero, List.getElem?_cons_succ, List.set_cons_zero, List.set_cons_succ, List.length_cons, List.length_nil, Option.toList_some, Option.toList_none, List.nil_append, List.cons_append, true_and, and_true, true_or, or_true, Int.cast_ofNat_Int, Int.natCast_zero, Int.natCast_one, zsh_56, zsh_57, zsh_58, zsh_59, zsh_60, zsh_61, zsh_62, zsh_63, zsh_64, zsh_65, zsh_66, zsh_67, zsh_68, zsh_69, zsh_70, zsh_71, zsh_72, zsh_73, zsh_74, zsh_75, zsh_76, zsh_77, zsh_78, zsh_79, zsh_80, zsh_81, zsh_82, zsh_83, zsh_84, zsh_85, zsh_86, zsh_87, zup_ne, zup_eq, zup_nf, ne_eq, not_false_eq_true]
      refine ⟨by omega, by omega, fun w => by omega, fun _ => ?_⟩
      rw [k3]
      exact ⟨rfl, rfl⟩
    | succ r ih =>
      intro i x k1 k2 k3
      have hi : i < B.length := by omega
      have e26 := h3 i B[i] (List.getElem?_eq_getElem hi)
      have hv := h4 B[i] (List.getElem_mem hi)
      refine s_X11_rowName_5 hG ?_
      simp only [b_X11_rowName_0, b_X11_rowName_5, b_X11_rowName_13, b_X11_rowName_30, o_c, o_il, o_al, o_is, o_as, o_inc, o_add, o_sub, o_mul, o_and, o_or, o_xor, o_shl, o_shr, o_ush, o_rem, o_dup, o_dup2, o_gf, o_pf, o_pz, o_iald, o_iast, o_zald, o_zast, o_aald, o_gs, o_min, o_acp, o_call, o_callv, zgf, zpf, zia_, zza_, zra_, zrd_, zcp_, zpop, zsm8_0, zsm8_1, zsm8_2, zsm8_3, zsm8_4, zsm8_5, zrc, zisob, t_ieq, t_ilt, t_igt, t_zeq, t_zlt, t_zgt, t_sw, zsw, t_iret, t_zret, t_aret, t_vret, zrg, List.getElem?_cons_zero, List.getElem?_cons_succ, List.set_cons_zero, List.set_cons_succ, List.length_cons, List.length_nil, Option.toList_some, Option.toList_none, List.nil_append, List.cons_append, true_and, and_true, true_or, or_true, Int.cast_ofNat_Int, Int.natCast_zero, Int.natCast_one, zsh_56, zsh_57, zsh_58, zsh_59, zsh_60, zsh_61, zsh_62, zsh_63, zsh_64, zsh_65, zsh_66, zsh_67, zsh_68, zsh_69, zsh_70, zsh_71, zsh_72, zsh_73, zsh_74, zsh_75, zsh_76, zsh_77, zsh_78, zsh_79, zsh_80, zsh_81, zsh_82, zsh_83, zsh_84, zsh_85, zsh_86, zsh_87, zup_ne, zup_eq, zup_nf, ne_eq, not_false_eq_true]
      refine ⟨by omega, by omega, fun _ => ⟨by omega, ?_⟩, fun w => by omega⟩
      rw [e26]
      refine zcall (c_X11_step k2 hv) ?_
      simp only [b_X11_rowName_0, b_X11_rowName_5, b_X11_rowName_13, b_X11_rowName_30, o_c, o_il, o_al, o_is, o_as, o_inc, o_add, o_sub, o_mul, o_and, o_or, o_xor, o_shl, o_shr, o_ush, o_rem, o_dup, o_dup2, o_gf, o_pf, o_pz, o_iald, o_iast, o_zald, o_zast, o_aald, o_gs, o_min, o_acp, o_call, o_callv, zgf, zpf, zia_, zza_, zra_, zrd_, zcp_, zpop, zsm8_0, zsm8_1, zsm8_2, zsm8_3, zsm8_4, zsm8_5, zrc, zisob, t_ieq, t_ilt, t_igt, t_zeq, t_zlt, t_zgt, t_sw, zsw, t_iret, t_zret, t_aret, t_vret, zrg, List.getElem?_cons_zero, List.getElem?_cons_succ, List.set_cons_zero, List.set_cons_succ, List.length_cons, List.length_nil, Option.toList_some, Option.toList_none, List.nil_append, List.cons_append, true_and, and_true, true_or, or_true, Int.cast_ofNat_Int, Int.natCast_zero, Int.natCast_one, zsh_56, zsh_57, zsh_58, zsh_59, zsh_60, zsh_61, zsh_62, zsh_63, zsh_64, zsh_65, zsh_66, zsh_67, zsh_68, zsh_69, zsh_70, zsh_71, zsh_72, zsh_73, zsh_74, zsh_75, zsh_76, zsh_77, zsh_78, zsh_79, zsh_80, zsh_81, zsh_82, zsh_83, zsh_84, zsh_85, zsh_86, zsh_87, zup_ne, zup_eq, zup_nf, ne_eq, not_false_eq_true]
      exact ih (i + 1) _ (by omega) (by omega) (by rw [k3, zhashf_drop hi])
  simp only [b_X11_rowName_0, b_X11_rowName_5, b_X11_rowName_13, b_X11_rowName_30, o_c, o_il, o_al, o_is, o_as, o_inc, o_add, o_sub, o_mul, o_and, o_or, o_xor, o_shl, o_shr, o_ush, o_rem, o_dup, o_dup2, o_gf, o_pf, o_pz, o_iald, o_iast, o_zald, o_zast, o_aald, o_gs, o_min, o_acp, o_call, o_callv, zgf, zpf, zia_, zza_, zra_, zrd_, zcp_, zpop, zsm8_0, zsm8_1, zsm8_2, zsm8_3, zsm8_4, zsm8_5, zrc, zisob, t_ieq, t_ilt, t_igt, t_zeq, t_zlt, t_zgt, t_sw, zsw, t_iret, t_zret, t_aret, t_vret, zrg, List.getElem?_cons_zero, List.getElem?_cons_succ, List.set_cons_zero, List.set_cons_succ, List.length_cons, List.length_nil, Option.toList_some, Option.toList_none, List.nil_append, List.cons_append, true_and, and_true, true_or, or_true, Int.cast_ofNat_Int, Int.natCast_zero, Int.natCast_one, zsh_56, zsh_57, zsh_58, zsh_59, zsh_60, zsh_61, zsh_62, zsh_63, zsh_64, zsh_65, zsh_66, zsh_67, zsh_68, zsh_69, zsh_70, zsh_71, zsh_72, zsh_73, zsh_74, zsh_75, zsh_76, zsh_77, zsh_78, zsh_79, zsh_80, zsh_81, zsh_82, zsh_83, zsh_84, zsh_85, zsh_86, zsh_87, zup_ne, zup_eq, zup_nf, ne_eq, not_false_eq_true]
  exact loop B.length 0 40503 (by omega) (by omega) rfl
set_option maxRecDepth 100000 in
set_option maxHeartbeats 4000000 in
theorem c_X11_push {d : Nat} {μ : zM} {B : List Int} {b : Int} (h : zmR μ B) (hl : B.length < 32) (hb : 0 ≤ b ∧ b ≤ 255) : zCt d mX11_push [.inr (some 56), .inl b] μ (fun v μ' => v = none ∧ zmR μ' (B ++ [b]) ∧ zF [77] [24] μ μ') := by
  obtain ⟨h1, h2, h3, h4⟩ := h
  refine of_X11_push (fun G hG => s_X11_push_0 hG ?_)
  simp only [b_X11_push_0, o_c, o_il, o_al, o_is, o_as, o_inc, o_add, o_sub, o_mul, o_and, o_or, o_xor, o_shl, o_shr, o_ush, o_rem, o_dup, o_dup2, o_gf, o_pf, o_pz, o_iald, o_iast, o_zald, o_zast, o_aald, o_gs, o_min, o_acp, o_call, o_callv, zgf, zpf, zia_, zza_, zra_, zrd_, zcp_, zpop, zsm8_0, zsm8_1, zsm8_2, zsm8_3, zsm8_4, zsm8_5, zrc, zisob, t_ieq, t_ilt, t_igt, t_zeq, t_zlt, t_zgt, t_sw, zsw, t_iret, t_zret, t_aret, t_vret, zrg, List.getElem?_cons_zero, List.getElem?_cons_succ, List.set_cons_zero, List.set_cons_succ, List.length_cons, List.length_nil, Option.toList_some, Option.toList_none, List.nil_append, List.cons_append, true_and, and_true, true_or, or_true, Int.cast_ofNat_Int, Int.natCast_zero, Int.natCast_one, zsh_56, zsh_57, zsh_58, zsh_59, zsh_60, zsh_61, zsh_62, zsh_63, zsh_64, zsh_65, zsh_66, zsh_67, zsh_68, zsh_69, zsh_70, zsh_71, zsh_72, zsh_73, zsh_74, zsh_75, zsh_76, zsh_77, zsh_78, zsh_79, zsh_80, zsh_81, zsh_82, zsh_83, zsh_84, zsh_85, zsh_86, zsh_87, zup_ne, zup_eq, zup_nf, ne_eq, not_false_eq_true]
  refine ⟨by omega, ⟨by simp [zup, h1], by simp; omega, h3.push (fun i hi => ?_) ?_, fun x hx => ?_⟩, ((zF.refl _ _ _).u (by simp) (by simp)).v (by simp)⟩
  · rw [zup_ne _ (by decide), ← h1] at *
    rw [zup_nf hi]
  · rw [zup_ne _ (by decide), h1, zup_eq]
  · rcases List.mem_append.mp hx with q | q
    · exact h4 x q
    · rw [List.mem_singleton.mp q]; exact hb
set_option maxRecDepth 100000 in
set_option maxHeartbeats 4000000 in
theorem c_X11_addTwo {d : Nat} {μ : zM} {B : List Int} {b : Int} (hd : 1 ≤ d) (h : zmR μ B) (hl : B.length < 31) (hb : 0 ≤ b ∧ b ≤ 65535) : zCt d mX11_addTwo [.inr (some 56), .inl b] μ (fun v μ' => v = none ∧ zmR μ' (B ++ [b % 256, b / 256]) ∧ zF [77] [24] μ μ') := by
  refine of_X11_addTwo hd (fun G hG => s_X11_addTwo_0 hG ?_)
  simp only [b_X11_addTwo_0, o_c, o_il, o_al, o_is, o_as, o_inc, o_add, o_sub, o_mul, o_and, o_or, o_xor, o_shl, o_shr, o_ush, o_rem, o_dup, o_dup2, o_gf, o_pf, o_pz, o_iald, o_iast, o_zald, o_zast, o_aald, o_gs, o_min, o_acp, o_call, o_callv, zgf, zpf, zia_, zza_, zra_, zrd_, zcp_, zpop, zsm8_0, zsm8_1, zsm8_2, zsm8_3, zsm8_4, zsm8_5, zrc, zisob, t_ieq, t_ilt, t_igt, t_zeq, t_zlt, t_zgt, t_sw, zsw, t_iret, t_zret, t_aret, t_vret, zrg, List.getElem?_cons_zero, List.getElem?_cons_succ, List.set_cons_zero, List.set_cons_succ, List.length_cons, List.length_nil, Option.toList_some, Option.toList_none, List.nil_append, List.cons_append, true_and, and_true, true_or, or_true, Int.cast_ofNat_Int, Int.natCast_zero, Int.natCast_one, zsh_56, zsh_57, zsh_58, zsh_59, zsh_60, zsh_61, zsh_62, zsh_63, zsh_64, zsh_65, zsh_66, zsh_67, zsh_68, zsh_69, zsh_70, zsh_71, zsh_72, zsh_73, zsh_74, zsh_75, zsh_76, zsh_77, zsh_78, zsh_79, zsh_80, zsh_81, zsh_82, zsh_83, zsh_84, zsh_85, zsh_86, zsh_87, zup_ne, zup_eq, zup_nf, ne_eq, not_false_eq_true]
  rw [zand_m 8 (by decide) (by decide)]
  obtain ⟨n, rfl⟩ := Int.eq_ofNat_of_zero_le hb.1
  refine ⟨_, c_X11_push h (by omega) (by omega), ?_⟩
  rintro v μ1 ⟨rfl, g1, g2⟩
  simp only [b_X11_addTwo_0, o_c, o_il, o_al, o_is, o_as, o_inc, o_add, o_sub, o_mul, o_and, o_or, o_xor, o_shl, o_shr, o_ush, o_rem, o_dup, o_dup2, o_gf, o_pf, o_pz, o_iald, o_iast, o_zald, o_zast, o_aald, o_gs, o_min, o_acp, o_call, o_callv, zgf, zpf, zia_, zza_, zra_, zrd_, zcp_, zpop, zsm8_0, zsm8_1, zsm8_2, zsm8_3, zsm8_4, zsm8_5, zrc, zisob, t_ieq, t_ilt, t_igt, t_zeq, t_zlt, t_zgt, t_sw, zsw, t_iret, t_zret, t_aret, t_vret, zrg, List.getElem?_cons_zero, List.getElem?_cons_succ, List.set_cons_zero, List.set_cons_succ, List.length_cons, List.length_nil, Option.toList_some, Option.toList_none, List.nil_append, List.cons_append, true_and, and_true, true_or, or_true, Int.cast_ofNat_Int, Int.natCast_zero, Int.natCast_one, zsh_56, zsh_57, zsh_58, zsh_59, zsh_60, zsh_61, zsh_62, zsh_63, zsh_64, zsh_65, zsh_66, zsh_67, zsh_68, zsh_69, zsh_70, zsh_71, zsh_72, zsh_73, zsh_74, zsh_75, zsh_76, zsh_77, zsh_78, zsh_79, zsh_80, zsh_81, zsh_82, zsh_83, zsh_84, zsh_85, zsh_86, zsh_87, zup_ne, zup_eq, zup_nf, ne_eq, not_false_eq_true]
  have e8 : zshr (n : Int) 8 = (n : Int) / 256 := by
    have := @zshr_nat n 8 (by decide) (by omega)
    rw [show ((8 : Nat) : Int) = 8 from rfl] at this
    rw [this]
    omega
  rw [e8]
  refine ⟨_, c_X11_push g1 (by simp; omega) (by omega), ?_⟩
  rintro v μ2 ⟨rfl, g3, g4⟩
  simp only [b_X11_addTwo_0, o_c, o_il, o_al, o_is, o_as, o_inc, o_add, o_sub, o_mul, o_and, o_or, o_xor, o_shl, o_shr, o_ush, o_rem, o_dup, o_dup2, o_gf, o_pf, o_pz, o_iald, o_iast, o_zald, o_zast, o_aald, o_gs, o_min, o_acp, o_call, o_callv, zgf, zpf, zia_, zza_, zra_, zrd_, zcp_, zpop, zsm8_0, zsm8_1, zsm8_2, zsm8_3, zsm8_4, zsm8_5, zrc, zisob, t_ieq, t_ilt, t_igt, t_zeq, t_zlt, t_zgt, t_sw, zsw, t_iret, t_zret, t_aret, t_vret, zrg, List.getElem?_cons_zero, List.getElem?_cons_succ, List.set_cons_zero, List.set_cons_succ, List.length_cons, List.length_nil, Option.toList_some, Option.toList_none, List.nil_append, List.cons_append, true_and, and_true, true_or, or_true, Int.cast_ofNat_Int, Int.natCast_zero, Int.natCast_one, zsh_56, zsh_57, zsh_58, zsh_59, zsh_60, zsh_61, zsh_62, zsh_63, zsh_64, zsh_65, zsh_66, zsh_67, zsh_68, zsh_69, zsh_70, zsh_71, zsh_72, zsh_73, zsh_74, zsh_75, zsh_76, zsh_77, zsh_78, zsh_79, zsh_80, zsh_81, zsh_82, zsh_83, zsh_84, zsh_85, zsh_86, zsh_87, zup_ne, zup_eq, zup_nf, ne_eq, not_false_eq_true]
  exact ⟨by simpa using g3, g2.trans g4⟩
