/-! THE CLASS: its state, and the methods that read -/
abbrev zStt : Type := List zBk × (List zPp × (Int × Int × Int))
def zBU (μ : zM) (B : List Int) : Prop := μ 0 2 = B.length ∧ B.length ≤ 32 ∧ zAR μ 26 B ∧ ∀ x ∈ B, 0 ≤ x ∧ x ≤ 255
def zSTs (μ : zM) (s : Nat) (x : zStt) : Prop := zSH μ (2 + 8 * s + 1) 64 x.1 ∧ zPN μ (2 + 8 * s) x.2.1 ∧ zFE μ (2 + 8 * s) x.2.2.1 x.2.2.2.1 x.2.2.2.2
def zTM (μ : zM) : Prop := (∃ Lb D c, zBT μ Lb D c) ∧ (∃ R M V, zWK μ 48 R M V) ∧ (∃ R M V, zWK μ 52 R M V)
def zRC (μ : zM) (B : List Int) (T : List zPp) (Ms : List zMg) (St : Nat → zStt) : Prop := zBU μ B ∧ zTL μ T ∧ zLI μ Ms ∧ (∀ s, s < 3 → zSTs μ s (St s)) ∧ zTM μ
theorem zk3 {s : Nat} (h : s < 3) : zstK (2 + 8 * s) := by
  have : s = 0 ∨ s = 1 ∨ s = 2 := by omega
  rcases this with rfl | rfl | rfl <;> simp [zstK]
theorem zg3 {s : Nat} (h : s < 3) : ([2, 10, 18] : List Nat).getD ((s : Int)).toNat 0 = 2 + 8 * s := by
  have : s = 0 ∨ s = 1 ∨ s = 2 := by omega
  rcases this with rfl | rfl | rfl <;> rfl
theorem zs3 {x : Int} (h : 0 ≤ x ∧ x ≤ 2) : ∃ s : Nat, x = s ∧ s < 3 := ⟨x.toNat, by omega, by omega⟩
theorem zBU.of {μ μ' : zM} {B : List Int} (h : zBU μ B) (e0 : μ' 0 = μ 0) (e1 : μ' 26 = μ 26) : zBU μ' B := ⟨by rw [e0]; exact h.1, h.2.1, h.2.2.1.of e1, h.2.2.2⟩
theorem zSTs.fr {μ μ' : zM} {s : Nat} {x : zStt} {S : List Nat} (h : zSTs μ s x) (f : zfr S μ μ') (hS : ∀ c ∈ S, c < 2 + 8 * s ∨ 2 + 8 * s + 7 < c) : zSTs μ' s x := by
  refine ⟨h.1.fr f (fun c hc => by have := hS c hc; omega), h.2.1.fr f (fun c hc => by have := hS c hc; omega), h.2.2.of (f _ (fun w => by have := hS _ w; omega))⟩
theorem zTM.fr {μ μ' : zM} {S : List Nat} (h : zTM μ) (f : zfr S μ μ') (hS : ∀ c ∈ S, c < 34 ∨ (39 < c ∧ c < 48)) : zTM μ' := by
  obtain ⟨⟨Lb, D, c, h1⟩, ⟨R, M, V, h2⟩, ⟨R', M', V', h3⟩⟩ := h
  exact ⟨⟨Lb, D, c, h1.fr f (fun c hc => by have := hS c hc; omega)⟩, ⟨R, M, V, h2.fr f (fun c hc => by have := hS c hc; omega)⟩, ⟨R', M', V', h3.fr f (fun c hc => by have := hS c hc; omega)⟩⟩
theorem zWK.ws {μ : zM} {w : Nat} {R : Nat → Bool} {M V : List Int} (h : zWK μ w R M V) : zWS μ w [] M V.reverse := ⟨R, M, by rw [List.reverse_reverse]; exact h, fun i b hb => by simp at hb, fun _ => by
  unfold zmis
  have : M.filter (fun x => decide (zix [] x < 0)) = M := List.filter_eq_self.mpr (fun x _ => by simp [zix, zixf])
  exact this.symm⟩
theorem zWS.wk {μ : zM} {w : Nat} {L : List zBk} {S T : List Int} (h : zWS μ w L S T) : ∃ R M V, zWK μ w R M V := by
  obtain ⟨R, M, a, _⟩ := h
  exact ⟨R, M, _, a⟩
set_option maxRecDepth 100000 in
set_option maxHeartbeats 4000000 in
theorem c_X10_type {d : Nat} {μ : zM} {B : List Int} {b : Int} (h : zBU μ B) (hb : zrg b) : zCt d mX10_type [.inr (some 0), .inl b] μ (fun v μ' => v = some (.inl (if (0 ≤ b ∧ b ≤ 255) ∧ B.length < 32 then 1 else 0)) ∧ zBU μ' (if (0 ≤ b ∧ b ≤ 255) ∧ B.length < 32 then B ++ [b] else B) ∧ zfr [0, 26] μ μ') := by
  have hh := h
  obtain ⟨h1, h2, h3, h4⟩ := h
  unfold zrg at hb
  by_cases hc : (0 ≤ b ∧ b ≤ 255) ∧ B.length < 32
  · rw [if_pos hc, if_pos hc]
    refine of_X10_type (fun G hG => s_X10_type_0 hG ?_)
    simp only [b_X10_type_0, b_X10_type_4, b_X10_type_11, b_X10_type_20, b_X10_type_22, o_c, o_il, o_al, o_is, o_as, o_inc, o_add, o_sub, o_mul, o_and, o_or, o_xor, o_shl, o_shr, o_ush, o_rem, o_dup, o_dup2, o_gf, o_pf, o_pz, o_iald, o_iast, o_zald, o_zast, o_aald, o_gs, o_min, o_acp, o_call, o_callv, zgf, zpf, zia_, zza_, zra_, zrd_, zcp_, zpop, zsm8_0, zsm8_1, zsm8_2, zsm8_3, zsm8_4, zsm8_5, zrc, zisob, t_ieq, t_ilt, t_igt, t_zeq, t_zlt, t_zgt, t_sw, zsw, t_iret, t_zret, t_aret, t_vret, zrg, List.getElem?_cons_zero, List.getElem?_cons_succ, List.set_cons_zero, List.set_cons_succ, List.length_cons, List.length_nil, Option.toList_some, Option.toList_none, List.nil_append, List.cons_append, true_and, and_true, true_or, or_true, Int.cast_ofNat_Int, Int.natCast_zero, Int.natCast_one, zsh_0, zsh_26]
    have e1 : zup μ 26 (μ 0 2) b 0 2 = μ 0 2 := by simp [zup]
    rw [e1]
    refine ⟨by omega, fun w => by omega, fun _ => ⟨by omega, by omega, fun w => by omega, fun _ => ⟨by omega, by omega, fun _ => ⟨by omega, ⟨by simp [zup, h1], by simp; omega, h3.push (fun i hi => ?_) ?_, fun x hx => ?_⟩, fun x hx => ?_⟩, fun w => by omega⟩⟩⟩
    · rw [zup_ne _ (by decide)]
      simp [zup, h1, hi]
    · rw [zup_ne _ (by decide)]
      simp [zup, h1]
    · rcases List.mem_append.mp hx with q | q
      · exact h4 x q
      · rw [List.mem_singleton.mp q]; exact hc.1
    · simp only [List.mem_cons, List.not_mem_nil, or_false, not_or] at hx
      rw [zup_ne x hx.1, zup_ne x hx.2]
  · rw [if_neg hc, if_neg hc]
    refine of_X10_type (fun G hG => s_X10_type_0 hG ?_)
    simp only [b_X10_type_0, b_X10_type_4, b_X10_type_11, b_X10_type_20, b_X10_type_22, o_c, o_il, o_al, o_is, o_as, o_inc, o_add, o_sub, o_mul, o_and, o_or, o_xor, o_shl, o_shr, o_ush, o_rem, o_dup, o_dup2, o_gf, o_pf, o_pz, o_iald, o_iast, o_zald, o_zast, o_aald, o_gs, o_min, o_acp, o_call, o_callv, zgf, zpf, zia_, zza_, zra_, zrd_, zcp_, zpop, zsm8_0, zsm8_1, zsm8_2, zsm8_3, zsm8_4, zsm8_5, zrc, zisob, t_ieq, t_ilt, t_igt, t_zeq, t_zlt, t_zgt, t_sw, zsw, t_iret, t_zret, t_aret, t_vret, zrg, List.getElem?_cons_zero, List.getElem?_cons_succ, List.set_cons_zero, List.set_cons_succ, List.length_cons, List.length_nil, Option.toList_some, Option.toList_none, List.nil_append, List.cons_append, true_and, and_true, true_or, or_true, Int.cast_ofNat_Int, Int.natCast_zero, Int.natCast_one, zsh_0, zsh_26]
    exact ⟨by omega, fun _ => ⟨hh, zfr.refl _ _⟩, fun _ => ⟨by omega, by omega, fun _ => ⟨hh, zfr.refl _ _⟩, fun _ => ⟨by omega, by omega, fun _ => by omega, fun _ => ⟨hh, zfr.refl _ _⟩⟩⟩⟩
set_option maxRecDepth 100000 in
set_option maxHeartbeats 4000000 in
theorem c_X10_clear {d : Nat} {μ : zM} {B : List Int} {T : List zPp} (hd : 1 ≤ d) (h : zBU μ B) (hT : zTL μ T) : zCt d mX10_clear [.inr (some 0)] μ (fun v μ' => v = none ∧ zBU μ' [] ∧ zTL μ' [] ∧ zfr [0, 30] μ μ') := by
  refine of_X10_clear hd (fun G hG => s_X10_clear_0 hG ?_)
  simp only [b_X10_clear_0, o_c, o_il, o_al, o_is, o_as, o_inc, o_add, o_sub, o_mul, o_and, o_or, o_xor, o_shl, o_shr, o_ush, o_rem, o_dup, o_dup2, o_gf, o_pf, o_pz, o_iald, o_iast, o_zald, o_zast, o_aald, o_gs, o_min, o_acp, o_call, o_callv, zgf, zpf, zia_, zza_, zra_, zrd_, zcp_, zpop, zsm8_0, zsm8_1, zsm8_2, zsm8_3, zsm8_4, zsm8_5, zrc, zisob, t_ieq, t_ilt, t_igt, t_zeq, t_zlt, t_zgt, t_sw, zsw, t_iret, t_zret, t_aret, t_vret, zrg, List.getElem?_cons_zero, List.getElem?_cons_succ, List.set_cons_zero, List.set_cons_succ, List.length_cons, List.length_nil, Option.toList_some, Option.toList_none, List.nil_append, List.cons_append, true_and, and_true, true_or, or_true, Int.cast_ofNat_Int, Int.natCast_zero, Int.natCast_one, zsh_0, zsh_30]
  have f0 : zfr [0] μ (zup μ 0 2 0) := fun x hx => zup_ne x (by simpa using hx)
  refine ⟨_, c_X8_makeEmpty (hT.fr f0 (by simp)), ?_⟩
  rintro v μ1 ⟨rfl, b1, b2⟩
  simp only [b_X10_clear_0, o_c, o_il, o_al, o_is, o_as, o_inc, o_add, o_sub, o_mul, o_and, o_or, o_xor, o_shl, o_shr, o_ush, o_rem, o_dup, o_dup2, o_gf, o_pf, o_pz, o_iald, o_iast, o_zald, o_zast, o_aald, o_gs, o_min, o_acp, o_call, o_callv, zgf, zpf, zia_, zza_, zra_, zrd_, zcp_, zpop, zsm8_0, zsm8_1, zsm8_2, zsm8_3, zsm8_4, zsm8_5, zrc, zisob, t_ieq, t_ilt, t_igt, t_zeq, t_zlt, t_zgt, t_sw, zsw, t_iret, t_zret, t_aret, t_vret, zrg, List.getElem?_cons_zero, List.getElem?_cons_succ, List.set_cons_zero, List.set_cons_succ, List.length_cons, List.length_nil, Option.toList_some, Option.toList_none, List.nil_append, List.cons_append, true_and, and_true, true_or, or_true, Int.cast_ofNat_Int, Int.natCast_zero, Int.natCast_one, zsh_0, zsh_30]
  refine ⟨⟨by rw [b2 0 (by decide)]; simp [zup], by simp, fun j x hj => by simp at hj, by simp⟩, b1, (f0.mono (by simp)).trans (b2.mono (by simp))⟩
theorem zBU.dr {μ : zM} {B : List Int} (h : zBU μ B) : zbys μ 26 0 B.length = B := zbys_eq (fun j x hj => by rw [Int.zero_add]; exact h.2.2.1 j x hj)
set_option maxRecDepth 100000 in
set_option maxHeartbeats 4000000 in
theorem c_X10_name {d : Nat} {μ : zM} {B : List Int} (hd : 1 ≤ d) (h : zBU μ B) : zCt d mX10_name [.inr (some 0)] μ (zR (.inl (zhash B)) μ) := by
  have hl := h.2.1
  refine of_X10_name hd (fun G hG => s_X10_name_0 hG ?_)
  simp only [b_X10_name_0, o_c, o_il, o_al, o_is, o_as, o_inc, o_add, o_sub, o_mul, o_and, o_or, o_xor, o_shl, o_shr, o_ush, o_rem, o_dup, o_dup2, o_gf, o_pf, o_pz, o_iald, o_iast, o_zald, o_zast, o_aald, o_gs, o_min, o_acp, o_call, o_callv, zgf, zpf, zia_, zza_, zra_, zrd_, zcp_, zpop, zsm8_0, zsm8_1, zsm8_2, zsm8_3, zsm8_4, zsm8_5, zrc, zisob, t_ieq, t_ilt, t_igt, t_zeq, t_zlt, t_zgt, t_sw, zsw, t_iret, t_zret, t_aret, t_vret, zrg, List.getElem?_cons_zero, List.getElem?_cons_succ, List.set_cons_zero, List.set_cons_succ, List.length_cons, List.length_nil, Option.toList_some, Option.toList_none, List.nil_append, List.cons_append, true_and, and_true, true_or, or_true, Int.cast_ofNat_Int, Int.natCast_zero, Int.natCast_one, zsh_0]
  rw [h.1]
  refine zcall (c_X10_nameOf zsh_26 (by omega) (by omega) (by rw [h.dr]; exact h.2.2.2)) ?_
  rw [h.dr]
  simp only [b_X10_name_0, o_c, o_il, o_al, o_is, o_as, o_inc, o_add, o_sub, o_mul, o_and, o_or, o_xor, o_shl, o_shr, o_ush, o_rem, o_dup, o_dup2, o_gf, o_pf, o_pz, o_iald, o_iast, o_zald, o_zast, o_aald, o_gs, o_min, o_acp, o_call, o_callv, zgf, zpf, zia_, zza_, zra_, zrd_, zcp_, zpop, zsm8_0, zsm8_1, zsm8_2, zsm8_3, zsm8_4, zsm8_5, zrc, zisob, t_ieq, t_ilt, t_igt, t_zeq, t_zlt, t_zgt, t_sw, zsw, t_iret, t_zret, t_aret, t_vret, zrg, List.getElem?_cons_zero, List.getElem?_cons_succ, List.set_cons_zero, List.set_cons_succ, List.length_cons, List.length_nil, Option.toList_some, Option.toList_none, List.nil_append, List.cons_append, true_and, and_true, true_or, or_true, Int.cast_ofNat_Int, Int.natCast_zero, Int.natCast_one, zsh_0]
  exact ⟨rfl, rfl⟩
noncomputable def zenO (T : List zPp) (t n : Int) : Prop := (1 ≤ t ∧ t ≤ 255) ∧ (0 ≤ n ∧ n ≤ 65520) ∧ (zhasT T t ∨ T.length < 16)
set_option maxRecDepth 100000 in
set_option maxHeartbeats 4000000 in
theorem c_X10_entry {d : Nat} {μ : zM} {T : List zPp} {t n : Int} (hd : 2 ≤ d) (h : zTL μ T) (hS : zSo T) (ht : zrg t) (hn : zrg n) : zCt d mX10_entry [.inr (some 0), .inl t, .inl n] μ (fun v μ' => v = some (.inl (zb (zenO T t n))) ∧ zTL μ' (if (1 ≤ t ∧ t ≤ 255) ∧ (0 ≤ n ∧ n ≤ 65520) then zentL T t n else T) ∧ zfr [30, 31, 32] μ μ') := by
  have hn0 := hn
  unfold zrg at ht hn
  by_cases hc : (1 ≤ t ∧ t ≤ 255) ∧ (0 ≤ n ∧ n ≤ 65520)
  · have e : zb (zenO T t n) = zb (zhasT T t ∨ T.length < 16) := by
      rcases zb_or (zhasT T t ∨ T.length < 16) with ⟨q1, q2⟩ | ⟨q1, q2⟩
      · rw [q1]; exact zb_t ⟨hc.1, hc.2, q2⟩
      · rw [q1]; exact zb_f (fun w => q2 w.2.2)
    rw [e, if_pos hc]
    refine of_X10_entry (by omega) (fun G hG => s_X10_entry_0 hG ?_)
    simp only [b_X10_entry_0, b_X10_entry_5, b_X10_entry_12, b_X10_entry_19, b_X10_entry_21, o_c, o_il, o_al, o_is, o_as, o_inc, o_add, o_sub, o_mul, o_and, o_or, o_xor, o_shl, o_shr, o_ush, o_rem, o_dup, o_dup2, o_gf, o_pf, o_pz, o_iald, o_iast, o_zald, o_zast, o_aald, o_gs, o_min, o_acp, o_call, o_callv, zgf, zpf, zia_, zza_, zra_, zrd_, zcp_, zpop, zsm8_0, zsm8_1, zsm8_2, zsm8_3, zsm8_4, zsm8_5, zrc, zisob, t_ieq, t_ilt, t_igt, t_zeq, t_zlt, t_zgt, t_sw, zsw, t_iret, t_zret, t_aret, t_vret, zrg, List.getElem?_cons_zero, List.getElem?_cons_succ, List.set_cons_zero, List.set_cons_succ, List.length_cons, List.length_nil, Option.toList_some, Option.toList_none, List.nil_append, List.cons_append, true_and, and_true, true_or, or_true, Int.cast_ofNat_Int, Int.natCast_zero, Int.natCast_one, zsh_0, zsh_30]
    refine ⟨by omega, by omega, fun w => by omega, fun _ => ⟨by omega, by omega, fun w => by omega, fun _ => ?_⟩⟩
    refine zcall (c_X10_isName hn0) ?_
    rw [zb_t hc.2]
    simp only [b_X10_entry_0, b_X10_entry_5, b_X10_entry_12, b_X10_entry_19, b_X10_entry_21, o_c, o_il, o_al, o_is, o_as, o_inc, o_add, o_sub, o_mul, o_and, o_or, o_xor, o_shl, o_shr, o_ush, o_rem, o_dup, o_dup2, o_gf, o_pf, o_pz, o_iald, o_iast, o_zald, o_zast, o_aald, o_gs, o_min, o_acp, o_call, o_callv, zgf, zpf, zia_, zza_, zra_, zrd_, zcp_, zpop, zsm8_0, zsm8_1, zsm8_2, zsm8_3, zsm8_4, zsm8_5, zrc, zisob, t_ieq, t_ilt, t_igt, t_zeq, t_zlt, t_zgt, t_sw, zsw, t_iret, t_zret, t_aret, t_vret, zrg, List.getElem?_cons_zero, List.getElem?_cons_succ, List.set_cons_zero, List.set_cons_succ, List.length_cons, List.length_nil, Option.toList_some, Option.toList_none, List.nil_append, List.cons_append, true_and, and_true, true_or, or_true, Int.cast_ofNat_Int, Int.natCast_zero, Int.natCast_one, zsh_0, zsh_30]
    refine ⟨by omega, fun w => by omega, fun _ => ?_⟩
    refine ⟨_, c_X8_enter (by omega) h hS hc.1 hc.2, ?_⟩
    rintro v μ1 ⟨rfl, b1, b2⟩
    simp only [b_X10_entry_0, b_X10_entry_5, b_X10_entry_12, b_X10_entry_19, b_X10_entry_21, o_c, o_il, o_al, o_is, o_as, o_inc, o_add, o_sub, o_mul, o_and, o_or, o_xor, o_shl, o_shr, o_ush, o_rem, o_dup, o_dup2, o_gf, o_pf, o_pz, o_iald, o_iast, o_zald, o_zast, o_aald, o_gs, o_min, o_acp, o_call, o_callv, zgf, zpf, zia_, zza_, zra_, zrd_, zcp_, zpop, zsm8_0, zsm8_1, zsm8_2, zsm8_3, zsm8_4, zsm8_5, zrc, zisob, t_ieq, t_ilt, t_igt, t_zeq, t_zlt, t_zgt, t_sw, zsw, t_iret, t_zret, t_aret, t_vret, zrg, List.getElem?_cons_zero, List.getElem?_cons_succ, List.set_cons_zero, List.set_cons_succ, List.length_cons, List.length_nil, Option.toList_some, Option.toList_none, List.nil_append, List.cons_append, true_and, and_true, true_or, or_true, Int.cast_ofNat_Int, Int.natCast_zero, Int.natCast_one, zsh_0, zsh_30]
    exact ⟨zb_rg _, b1, b2⟩
  · rw [zb_f (P := zenO T t n) (fun w => hc ⟨w.1, w.2.1⟩), if_neg hc]
    refine of_X10_entry (by omega) (fun G hG => s_X10_entry_0 hG ?_)
    simp only [b_X10_entry_0, b_X10_entry_5, b_X10_entry_12, b_X10_entry_19, b_X10_entry_21, o_c, o_il, o_al, o_is, o_as, o_inc, o_add, o_sub, o_mul, o_and, o_or, o_xor, o_shl, o_shr, o_ush, o_rem, o_dup, o_dup2, o_gf, o_pf, o_pz, o_iald, o_iast, o_zald, o_zast, o_aald, o_gs, o_min, o_acp, o_call, o_callv, zgf, zpf, zia_, zza_, zra_, zrd_, zcp_, zpop, zsm8_0, zsm8_1, zsm8_2, zsm8_3, zsm8_4, zsm8_5, zrc, zisob, t_ieq, t_ilt, t_igt, t_zeq, t_zlt, t_zgt, t_sw, zsw, t_iret, t_zret, t_aret, t_vret, zrg, List.getElem?_cons_zero, List.getElem?_cons_succ, List.set_cons_zero, List.set_cons_succ, List.length_cons, List.length_nil, Option.toList_some, Option.toList_none, List.nil_append, List.cons_append, true_and, and_true, true_or, or_true, Int.cast_ofNat_Int, Int.natCast_zero, Int.natCast_one, zsh_0, zsh_30]
    refine ⟨by omega, by omega, fun _ => ⟨h, zfr.refl _ _⟩, fun _ => ⟨by omega, by omega, fun _ => ⟨h, zfr.refl _ _⟩, fun _ => ?_⟩⟩
    refine zcall (c_X10_isName hn0) ?_
    rw [zb_f (P := 0 ≤ n ∧ n ≤ 65520) (by omega)]
    simp only [b_X10_entry_0, b_X10_entry_5, b_X10_entry_12, b_X10_entry_19, b_X10_entry_21, o_c, o_il, o_al, o_is, o_as, o_inc, o_add, o_sub, o_mul, o_and, o_or, o_xor, o_shl, o_shr, o_ush, o_rem, o_dup, o_dup2, o_gf, o_pf, o_pz, o_iald, o_iast, o_zald, o_zast, o_aald, o_gs, o_min, o_acp, o_call, o_callv, zgf, zpf, zia_, zza_, zra_, zrd_, zcp_, zpop, zsm8_0, zsm8_1, zsm8_2, zsm8_3, zsm8_4, zsm8_5, zrc, zisob, t_ieq, t_ilt, t_igt, t_zeq, t_zlt, t_zgt, t_sw, zsw, t_iret, t_zret, t_aret, t_vret, zrg, List.getElem?_cons_zero, List.getElem?_cons_succ, List.set_cons_zero, List.set_cons_succ, List.length_cons, List.length_nil, Option.toList_some, Option.toList_none, List.nil_append, List.cons_append, true_and, and_true, true_or, or_true, Int.cast_ofNat_Int, Int.natCast_zero, Int.natCast_one, zsh_0, zsh_30]
    exact ⟨by omega, fun _ => ⟨h, zfr.refl _ _⟩, fun w => absurd trivial w⟩
set_option maxRecDepth 100000 in
set_option maxHeartbeats 4000000 in
theorem c_X10_bytes {d : Nat} {μ : zM} {St : Nat → zStt} {store nm : Int} (hd : 3 ≤ d) (h : ∀ s, s < 3 → zSTs μ s (St s)) (hs : zrg store) (hn : zrg nm) : zCt d mX10_bytes [.inr (some 0), .inl store, .inl nm] μ (zR (.inl (if 0 ≤ store ∧ store ≤ 2 then zp_size (zlk (St store.toNat).1 nm) else -1)) μ) := by
  by_cases hc : 0 ≤ store ∧ store ≤ 2
  · rw [if_pos hc]
    obtain ⟨s, rfl, h3⟩ := zs3 hc
    have hk := zk3 h3
    have hx := h s h3
    rw [Int.toNat_natCast]
    refine of_X10_bytes (by omega) (fun G hG => s_X10_bytes_0 hG ?_)
    simp only [b_X10_bytes_0, b_X10_bytes_7, b_X10_bytes_9, o_c, o_il, o_al, o_is, o_as, o_inc, o_add, o_sub, o_mul, o_and, o_or, o_xor, o_shl, o_shr, o_ush, o_rem, o_dup, o_dup2, o_gf, o_pf, o_pz, o_iald, o_iast, o_zald, o_zast, o_aald, o_gs, o_min, o_acp, o_call, o_callv, zgf, zpf, zia_, zza_, zra_, zrd_, zcp_, zpop, zsm8_0, zsm8_1, zsm8_2, zsm8_3, zsm8_4, zsm8_5, zrc, zisob, t_ieq, t_ilt, t_igt, t_zeq, t_zlt, t_zgt, t_sw, zsw, t_iret, t_zret, t_aret, t_vret, zrg, List.getElem?_cons_zero, List.getElem?_cons_succ, List.set_cons_zero, List.set_cons_succ, List.length_cons, List.length_nil, Option.toList_some, Option.toList_none, List.nil_append, List.cons_append, true_and, and_true, true_or, or_true, Int.cast_ofNat_Int, Int.natCast_zero, Int.natCast_one, zsh_0, zsh_1]
    refine zcall (c_X10_isStore hs) ?_
    rw [zb_t hc]
    simp only [b_X10_bytes_0, b_X10_bytes_7, b_X10_bytes_9, o_c, o_il, o_al, o_is, o_as, o_inc, o_add, o_sub, o_mul, o_and, o_or, o_xor, o_shl, o_shr, o_ush, o_rem, o_dup, o_dup2, o_gf, o_pf, o_pz, o_iald, o_iast, o_zald, o_zast, o_aald, o_gs, o_min, o_acp, o_call, o_callv, zgf, zpf, zia_, zza_, zra_, zrd_, zcp_, zpop, zsm8_0, zsm8_1, zsm8_2, zsm8_3, zsm8_4, zsm8_5, zrc, zisob, t_ieq, t_ilt, t_igt, t_zeq, t_zlt, t_zgt, t_sw, zsw, t_iret, t_zret, t_aret, t_vret, zrg, List.getElem?_cons_zero, List.getElem?_cons_succ, List.set_cons_zero, List.set_cons_succ, List.length_cons, List.length_nil, Option.toList_some, Option.toList_none, List.nil_append, List.cons_append, true_and, and_true, true_or, or_true, Int.cast_ofNat_Int, Int.natCast_zero, Int.natCast_one, zsh_0, zsh_1, zg3 h3, hk.ob, hk.sob]
    refine ⟨by omega, fun w => by omega, fun _ => ⟨by omega, ?_⟩⟩
    refine zcall (c_X7_shelf hk) ?_
    simp only [b_X10_bytes_0, b_X10_bytes_7, b_X10_bytes_9, o_c, o_il, o_al, o_is, o_as, o_inc, o_add, o_sub, o_mul, o_and, o_or, o_xor, o_shl, o_shr, o_ush, o_rem, o_dup, o_dup2, o_gf, o_pf, o_pz, o_iald, o_iast, o_zald, o_zast, o_aald, o_gs, o_min, o_acp, o_call, o_callv, zgf, zpf, zia_, zza_, zra_, zrd_, zcp_, zpop, zsm8_0, zsm8_1, zsm8_2, zsm8_3, zsm8_4, zsm8_5, zrc, zisob, t_ieq, t_ilt, t_igt, t_zeq, t_zlt, t_zgt, t_sw, zsw, t_iret, t_zret, t_aret, t_vret, zrg, List.getElem?_cons_zero, List.getElem?_cons_succ, List.set_cons_zero, List.set_cons_succ, List.length_cons, List.length_nil, Option.toList_some, Option.toList_none, List.nil_append, List.cons_append, true_and, and_true, true_or, or_true, Int.cast_ofNat_Int, Int.natCast_zero, Int.natCast_one, zsh_0, zsh_1, zg3 h3, hk.ob, hk.sob]
    refine zcall (c_X6_slotOf hx.1 hn) ?_
    simp only [b_X10_bytes_0, b_X10_bytes_7, b_X10_bytes_9, o_c, o_il, o_al, o_is, o_as, o_inc, o_add, o_sub, o_mul, o_and, o_or, o_xor, o_shl, o_shr, o_ush, o_rem, o_dup, o_dup2, o_gf, o_pf, o_pz, o_iald, o_iast, o_zald, o_zast, o_aald, o_gs, o_min, o_acp, o_call, o_callv, zgf, zpf, zia_, zza_, zra_, zrd_, zcp_, zpop, zsm8_0, zsm8_1, zsm8_2, zsm8_3, zsm8_4, zsm8_5, zrc, zisob, t_ieq, t_ilt, t_igt, t_zeq, t_zlt, t_zgt, t_sw, zsw, t_iret, t_zret, t_aret, t_vret, zrg, List.getElem?_cons_zero, List.getElem?_cons_succ, List.set_cons_zero, List.set_cons_succ, List.length_cons, List.length_nil, Option.toList_some, Option.toList_none, List.nil_append, List.cons_append, true_and, and_true, true_or, or_true, Int.cast_ofNat_Int, Int.natCast_zero, Int.natCast_one, zsh_0, zsh_1, zg3 h3, hk.ob, hk.sob]
    refine zcall (c_X6_sizeAt (by omega) hx.1 (hx.1.ix nm).1) ?_
    simp only [b_X10_bytes_0, b_X10_bytes_7, b_X10_bytes_9, o_c, o_il, o_al, o_is, o_as, o_inc, o_add, o_sub, o_mul, o_and, o_or, o_xor, o_shl, o_shr, o_ush, o_rem, o_dup, o_dup2, o_gf, o_pf, o_pz, o_iald, o_iast, o_zald, o_zast, o_aald, o_gs, o_min, o_acp, o_call, o_callv, zgf, zpf, zia_, zza_, zra_, zrd_, zcp_, zpop, zsm8_0, zsm8_1, zsm8_2, zsm8_3, zsm8_4, zsm8_5, zrc, zisob, t_ieq, t_ilt, t_igt, t_zeq, t_zlt, t_zgt, t_sw, zsw, t_iret, t_zret, t_aret, t_vret, zrg, List.getElem?_cons_zero, List.getElem?_cons_succ, List.set_cons_zero, List.set_cons_succ, List.length_cons, List.length_nil, Option.toList_some, Option.toList_none, List.nil_append, List.cons_append, true_and, and_true, true_or, or_true, Int.cast_ofNat_Int, Int.natCast_zero, Int.natCast_one, zsh_0, zsh_1, zg3 h3, hk.ob, hk.sob]
    exact ⟨rfl, rfl⟩
  · rw [if_neg hc]
    refine of_X10_bytes (by omega) (fun G hG => s_X10_bytes_0 hG ?_)
    simp only [b_X10_bytes_0, b_X10_bytes_7, b_X10_bytes_9, o_c, o_il, o_al, o_is, o_as, o_inc, o_add, o_sub, o_mul, o_and, o_or, o_xor, o_shl, o_shr, o_ush, o_rem, o_dup, o_dup2, o_gf, o_pf, o_pz, o_iald, o_iast, o_zald, o_zast, o_aald, o_gs, o_min, o_acp, o_call, o_callv, zgf, zpf, zia_, zza_, zra_, zrd_, zcp_, zpop, zsm8_0, zsm8_1, zsm8_2, zsm8_3, zsm8_4, zsm8_5, zrc, zisob, t_ieq, t_ilt, t_igt, t_zeq, t_zlt, t_zgt, t_sw, zsw, t_iret, t_zret, t_aret, t_vret, zrg, List.getElem?_cons_zero, List.getElem?_cons_succ, List.set_cons_zero, List.set_cons_succ, List.length_cons, List.length_nil, Option.toList_some, Option.toList_none, List.nil_append, List.cons_append, true_and, and_true, true_or, or_true, Int.cast_ofNat_Int, Int.natCast_zero, Int.natCast_one, zsh_0, zsh_1]
    refine zcall (c_X10_isStore hs) ?_
    rw [zb_f (P := 0 ≤ store ∧ store ≤ 2) hc]
    simp only [b_X10_bytes_0, b_X10_bytes_7, b_X10_bytes_9, o_c, o_il, o_al, o_is, o_as, o_inc, o_add, o_sub, o_mul, o_and, o_or, o_xor, o_shl, o_shr, o_ush, o_rem, o_dup, o_dup2, o_gf, o_pf, o_pz, o_iald, o_iast, o_zald, o_zast, o_aald, o_gs, o_min, o_acp, o_call, o_callv, zgf, zpf, zia_, zza_, zra_, zrd_, zcp_, zpop, zsm8_0, zsm8_1, zsm8_2, zsm8_3, zsm8_4, zsm8_5, zrc, zisob, t_ieq, t_ilt, t_igt, t_zeq, t_zlt, t_zgt, t_sw, zsw, t_iret, t_zret, t_aret, t_vret, zrg, List.getElem?_cons_zero, List.getElem?_cons_succ, List.set_cons_zero, List.set_cons_succ, List.length_cons, List.length_nil, Option.toList_some, Option.toList_none, List.nil_append, List.cons_append, true_and, and_true, true_or, or_true, Int.cast_ofNat_Int, Int.natCast_zero, Int.natCast_one, zsh_0, zsh_1]
    exact ⟨by omega, fun _ => ⟨rfl, rfl⟩, fun w => absurd trivial w⟩
set_option maxRecDepth 100000 in
set_option maxHeartbeats 4000000 in
theorem c_X10_raw {d : Nat} {μ : zM} {St : Nat → zStt} {store nm i : Int} (hd : 3 ≤ d) (h : ∀ s, s < 3 → zSTs μ s (St s)) (hs : zrg store) (hn : zrg nm) (hi : zrg i) : zCt d mX10_raw [.inr (some 0), .inl store, .inl nm, .inl i] μ (zR (.inl (if 0 ≤ store ∧ store ≤ 2 then zp_byte (zlk (St store.toNat).1 nm) i else -1)) μ) := by
  by_cases hc : 0 ≤ store ∧ store ≤ 2
  · rw [if_pos hc]
    obtain ⟨s, rfl, h3⟩ := zs3 hc
    have hk := zk3 h3
    have hx := h s h3
    rw [Int.toNat_natCast]
    refine of_X10_raw (by omega) (fun G hG => s_X10_raw_0 hG ?_)
    simp only [b_X10_raw_0, b_X10_raw_7, b_X10_raw_9, o_c, o_il, o_al, o_is, o_as, o_inc, o_add, o_sub, o_mul, o_and, o_or, o_xor, o_shl, o_shr, o_ush, o_rem, o_dup, o_dup2, o_gf, o_pf, o_pz, o_iald, o_iast, o_zald, o_zast, o_aald, o_gs, o_min, o_acp, o_call, o_callv, zgf, zpf, zia_, zza_, zra_, zrd_, zcp_, zpop, zsm8_0, zsm8_1, zsm8_2, zsm8_3, zsm8_4, zsm8_5, zrc, zisob, t_ieq, t_ilt, t_igt, t_zeq, t_zlt, t_zgt, t_sw, zsw, t_iret, t_zret, t_aret, t_vret, zrg, List.getElem?_cons_zero, List.getElem?_cons_succ, List.set_cons_zero, List.set_cons_succ, List.length_cons, List.length_nil, Option.toList_some, Option.toList_none, List.nil_append, List.cons_append, true_and, and_true, true_or, or_true, Int.cast_ofNat_Int, Int.natCast_zero, Int.natCast_one, zsh_0, zsh_1]
    refine zcall (c_X10_isStore hs) ?_
    rw [zb_t hc]
    simp only [b_X10_raw_0, b_X10_raw_7, b_X10_raw_9, o_c, o_il, o_al, o_is, o_as, o_inc, o_add, o_sub, o_mul, o_and, o_or, o_xor, o_shl, o_shr, o_ush, o_rem, o_dup, o_dup2, o_gf, o_pf, o_pz, o_iald, o_iast, o_zald, o_zast, o_aald, o_gs, o_min, o_acp, o_call, o_callv, zgf, zpf, zia_, zza_, zra_, zrd_, zcp_, zpop, zsm8_0, zsm8_1, zsm8_2, zsm8_3, zsm8_4, zsm8_5, zrc, zisob, t_ieq, t_ilt, t_igt, t_zeq, t_zlt, t_zgt, t_sw, zsw, t_iret, t_zret, t_aret, t_vret, zrg, List.getElem?_cons_zero, List.getElem?_cons_succ, List.set_cons_zero, List.set_cons_succ, List.length_cons, List.length_nil, Option.toList_some, Option.toList_none, List.nil_append, List.cons_append, true_and, and_true, true_or, or_true, Int.cast_ofNat_Int, Int.natCast_zero, Int.natCast_one, zsh_0, zsh_1, zg3 h3, hk.ob, hk.sob]
    refine ⟨by omega, fun w => by omega, fun _ => ⟨by omega, ?_⟩⟩
    refine zcall (c_X7_shelf hk) ?_
    simp only [b_X10_raw_0, b_X10_raw_7, b_X10_raw_9, o_c, o_il, o_al, o_is, o_as, o_inc, o_add, o_sub, o_mul, o_and, o_or, o_xor, o_shl, o_shr, o_ush, o_rem, o_dup, o_dup2, o_gf, o_pf, o_pz, o_iald, o_iast, o_zald, o_zast, o_aald, o_gs, o_min, o_acp, o_call, o_callv, zgf, zpf, zia_, zza_, zra_, zrd_, zcp_, zpop, zsm8_0, zsm8_1, zsm8_2, zsm8_3, zsm8_4, zsm8_5, zrc, zisob, t_ieq, t_ilt, t_igt, t_zeq, t_zlt, t_zgt, t_sw, zsw, t_iret, t_zret, t_aret, t_vret, zrg, List.getElem?_cons_zero, List.getElem?_cons_succ, List.set_cons_zero, List.set_cons_succ, List.length_cons, List.length_nil, Option.toList_some, Option.toList_none, List.nil_append, List.cons_append, true_and, and_true, true_or, or_true, Int.cast_ofNat_Int, Int.natCast_zero, Int.natCast_one, zsh_0, zsh_1, zg3 h3, hk.ob, hk.sob]
    refine zcall (c_X6_slotOf hx.1 hn) ?_
    simp only [b_X10_raw_0, b_X10_raw_7, b_X10_raw_9, o_c, o_il, o_al, o_is, o_as, o_inc, o_add, o_sub, o_mul, o_and, o_or, o_xor, o_shl, o_shr, o_ush, o_rem, o_dup, o_dup2, o_gf, o_pf, o_pz, o_iald, o_iast, o_zald, o_zast, o_aald, o_gs, o_min, o_acp, o_call, o_callv, zgf, zpf, zia_, zza_, zra_, zrd_, zcp_, zpop, zsm8_0, zsm8_1, zsm8_2, zsm8_3, zsm8_4, zsm8_5, zrc, zisob, t_ieq, t_ilt, t_igt, t_zeq, t_zlt, t_zgt, t_sw, zsw, t_iret, t_zret, t_aret, t_vret, zrg, List.getElem?_cons_zero, List.getElem?_cons_succ, List.set_cons_zero, List.set_cons_succ, List.length_cons, List.length_nil, Option.toList_some, Option.toList_none, List.nil_append, List.cons_append, true_and, and_true, true_or, or_true, Int.cast_ofNat_Int, Int.natCast_zero, Int.natCast_one, zsh_0, zsh_1, zg3 h3, hk.ob, hk.sob]
    refine zcall (c_X6_byteAt hx.1 (hx.1.ix nm).1 hi) ?_
    simp only [b_X10_raw_0, b_X10_raw_7, b_X10_raw_9, o_c, o_il, o_al, o_is, o_as, o_inc, o_add, o_sub, o_mul, o_and, o_or, o_xor, o_shl, o_shr, o_ush, o_rem, o_dup, o_dup2, o_gf, o_pf, o_pz, o_iald, o_iast, o_zald, o_zast, o_aald, o_gs, o_min, o_acp, o_call, o_callv, zgf, zpf, zia_, zza_, zra_, zrd_, zcp_, zpop, zsm8_0, zsm8_1, zsm8_2, zsm8_3, zsm8_4, zsm8_5, zrc, zisob, t_ieq, t_ilt, t_igt, t_zeq, t_zlt, t_zgt, t_sw, zsw, t_iret, t_zret, t_aret, t_vret, zrg, List.getElem?_cons_zero, List.getElem?_cons_succ, List.set_cons_zero, List.set_cons_succ, List.length_cons, List.length_nil, Option.toList_some, Option.toList_none, List.nil_append, List.cons_append, true_and, and_true, true_or, or_true, Int.cast_ofNat_Int, Int.natCast_zero, Int.natCast_one, zsh_0, zsh_1, zg3 h3, hk.ob, hk.sob]
    exact ⟨rfl, rfl⟩
  · rw [if_neg hc]
    refine of_X10_raw (by omega) (fun G hG => s_X10_raw_0 hG ?_)
    simp only [b_X10_raw_0, b_X10_raw_7, b_X10_raw_9, o_c, o_il, o_al, o_is, o_as, o_inc, o_add, o_sub, o_mul, o_and, o_or, o_xor, o_shl, o_shr, o_ush, o_rem, o_dup, o_dup2, o_gf, o_pf, o_pz, o_iald, o_iast, o_zald, o_zast, o_aald, o_gs, o_min, o_acp, o_call, o_callv, zgf, zpf, zia_, zza_, zra_, zrd_, zcp_, zpop, zsm8_0, zsm8_1, zsm8_2, zsm8_3, zsm8_4, zsm8_5, zrc, zisob, t_ieq, t_ilt, t_igt, t_zeq, t_zlt, t_zgt, t_sw, zsw, t_iret, t_zret, t_aret, t_vret, zrg, List.getElem?_cons_zero, List.getElem?_cons_succ, List.set_cons_zero, List.set_cons_succ, List.length_cons, List.length_nil, Option.toList_some, Option.toList_none, List.nil_append, List.cons_append, true_and, and_true, true_or, or_true, Int.cast_ofNat_Int, Int.natCast_zero, Int.natCast_one, zsh_0, zsh_1]
    refine zcall (c_X10_isStore hs) ?_
    rw [zb_f (P := 0 ≤ store ∧ store ≤ 2) hc]
    simp only [b_X10_raw_0, b_X10_raw_7, b_X10_raw_9, o_c, o_il, o_al, o_is, o_as, o_inc, o_add, o_sub, o_mul, o_and, o_or, o_xor, o_shl, o_shr, o_ush, o_rem, o_dup, o_dup2, o_gf, o_pf, o_pz, o_iald, o_iast, o_zald, o_zast, o_aald, o_gs, o_min, o_acp, o_call, o_callv, zgf, zpf, zia_, zza_, zra_, zrd_, zcp_, zpop, zsm8_0, zsm8_1, zsm8_2, zsm8_3, zsm8_4, zsm8_5, zrc, zisob, t_ieq, t_ilt, t_igt, t_zeq, t_zlt, t_zgt, t_sw, zsw, t_iret, t_zret, t_aret, t_vret, zrg, List.getElem?_cons_zero, List.getElem?_cons_succ, List.set_cons_zero, List.set_cons_succ, List.length_cons, List.length_nil, Option.toList_some, Option.toList_none, List.nil_append, List.cons_append, true_and, and_true, true_or, or_true, Int.cast_ofNat_Int, Int.natCast_zero, Int.natCast_one, zsh_0, zsh_1]
    exact ⟨by omega, fun _ => ⟨rfl, rfl⟩, fun w => absurd trivial w⟩
set_option maxRecDepth 100000 in
set_option maxHeartbeats 4000000 in
theorem c_X10_length {d : Nat} {μ : zM} {St : Nat → zStt} {store nm : Int} (hd : 4 ≤ d) (h : ∀ s, s < 3 → zSTs μ s (St s)) (hs : zrg store) (hn : zrg nm) : zCt d mX10_length [.inr (some 0), .inl store, .inl nm] μ (zR (.inl (if 0 ≤ store ∧ store ≤ 2 then zlen (zlk (St store.toNat).1 nm) else -1)) μ) := by
  by_cases hc : 0 ≤ store ∧ store ≤ 2
  · rw [if_pos hc]
    obtain ⟨s, rfl, h3⟩ := zs3 hc
    have hk := zk3 h3
    have hx := h s h3
    rw [Int.toNat_natCast]
    refine of_X10_length (by omega) (fun G hG => s_X10_length_0 hG ?_)
    simp only [b_X10_length_0, b_X10_length_7, b_X10_length_9, o_c, o_il, o_al, o_is, o_as, o_inc, o_add, o_sub, o_mul, o_and, o_or, o_xor, o_shl, o_shr, o_ush, o_rem, o_dup, o_dup2, o_gf, o_pf, o_pz, o_iald, o_iast, o_zald, o_zast, o_aald, o_gs, o_min, o_acp, o_call, o_callv, zgf, zpf, zia_, zza_, zra_, zrd_, zcp_, zpop, zsm8_0, zsm8_1, zsm8_2, zsm8_3, zsm8_4, zsm8_5, zrc, zisob, t_ieq, t_ilt, t_igt, t_zeq, t_zlt, t_zgt, t_sw, zsw, t_iret, t_zret, t_aret, t_vret, zrg, List.getElem?_cons_zero, List.getElem?_cons_succ, List.set_cons_zero, List.set_cons_succ, List.length_cons, List.length_nil, Option.toList_some, Option.toList_none, List.nil_append, List.cons_append, true_and, and_true, true_or, or_true, Int.cast_ofNat_Int, Int.natCast_zero, Int.natCast_one, zsh_0, zsh_1]
    refine zcall (c_X10_isStore hs) ?_
    rw [zb_t hc]
    simp only [b_X10_length_0, b_X10_length_7, b_X10_length_9, o_c, o_il, o_al, o_is, o_as, o_inc, o_add, o_sub, o_mul, o_and, o_or, o_xor, o_shl, o_shr, o_ush, o_rem, o_dup, o_dup2, o_gf, o_pf, o_pz, o_iald, o_iast, o_zald, o_zast, o_aald, o_gs, o_min, o_acp, o_call, o_callv, zgf, zpf, zia_, zza_, zra_, zrd_, zcp_, zpop, zsm8_0, zsm8_1, zsm8_2, zsm8_3, zsm8_4, zsm8_5, zrc, zisob, t_ieq, t_ilt, t_igt, t_zeq, t_zlt, t_zgt, t_sw, zsw, t_iret, t_zret, t_aret, t_vret, zrg, List.getElem?_cons_zero, List.getElem?_cons_succ, List.set_cons_zero, List.set_cons_succ, List.length_cons, List.length_nil, Option.toList_some, Option.toList_none, List.nil_append, List.cons_append, true_and, and_true, true_or, or_true, Int.cast_ofNat_Int, Int.natCast_zero, Int.natCast_one, zsh_0, zsh_1, zg3 h3, hk.ob, hk.sob]
    refine ⟨by omega, fun w => by omega, fun _ => ⟨by omega, ?_⟩⟩
    refine zcall (c_X7_shelf hk) ?_
    simp only [b_X10_length_0, b_X10_length_7, b_X10_length_9, o_c, o_il, o_al, o_is, o_as, o_inc, o_add, o_sub, o_mul, o_and, o_or, o_xor, o_shl, o_shr, o_ush, o_rem, o_dup, o_dup2, o_gf, o_pf, o_pz, o_iald, o_iast, o_zald, o_zast, o_aald, o_gs, o_min, o_acp, o_call, o_callv, zgf, zpf, zia_, zza_, zra_, zrd_, zcp_, zpop, zsm8_0, zsm8_1, zsm8_2, zsm8_3, zsm8_4, zsm8_5, zrc, zisob, t_ieq, t_ilt, t_igt, t_zeq, t_zlt, t_zgt, t_sw, zsw, t_iret, t_zret, t_aret, t_vret, zrg, List.getElem?_cons_zero, List.getElem?_cons_succ, List.set_cons_zero, List.set_cons_succ, List.length_cons, List.length_nil, Option.toList_some, Option.toList_none, List.nil_append, List.cons_append, true_and, and_true, true_or, or_true, Int.cast_ofNat_Int, Int.natCast_zero, Int.natCast_one, zsh_0, zsh_1, zg3 h3, hk.ob, hk.sob]
    refine zcall (c_X6_slotOf hx.1 hn) ?_
    simp only [b_X10_length_0, b_X10_length_7, b_X10_length_9, o_c, o_il, o_al, o_is, o_as, o_inc, o_add, o_sub, o_mul, o_and, o_or, o_xor, o_shl, o_shr, o_ush, o_rem, o_dup, o_dup2, o_gf, o_pf, o_pz, o_iald, o_iast, o_zald, o_zast, o_aald, o_gs, o_min, o_acp, o_call, o_callv, zgf, zpf, zia_, zza_, zra_, zrd_, zcp_, zpop, zsm8_0, zsm8_1, zsm8_2, zsm8_3, zsm8_4, zsm8_5, zrc, zisob, t_ieq, t_ilt, t_igt, t_zeq, t_zlt, t_zgt, t_sw, zsw, t_iret, t_zret, t_aret, t_vret, zrg, List.getElem?_cons_zero, List.getElem?_cons_succ, List.set_cons_zero, List.set_cons_succ, List.length_cons, List.length_nil, Option.toList_some, Option.toList_none, List.nil_append, List.cons_append, true_and, and_true, true_or, or_true, Int.cast_ofNat_Int, Int.natCast_zero, Int.natCast_one, zsh_0, zsh_1, zg3 h3, hk.ob, hk.sob]
    refine zcall (c_X2_lengthAt (by omega) hx.1 (hx.1.ix nm).1) ?_
    simp only [b_X10_length_0, b_X10_length_7, b_X10_length_9, o_c, o_il, o_al, o_is, o_as, o_inc, o_add, o_sub, o_mul, o_and, o_or, o_xor, o_shl, o_shr, o_ush, o_rem, o_dup, o_dup2, o_gf, o_pf, o_pz, o_iald, o_iast, o_zald, o_zast, o_aald, o_gs, o_min, o_acp, o_call, o_callv, zgf, zpf, zia_, zza_, zra_, zrd_, zcp_, zpop, zsm8_0, zsm8_1, zsm8_2, zsm8_3, zsm8_4, zsm8_5, zrc, zisob, t_ieq, t_ilt, t_igt, t_zeq, t_zlt, t_zgt, t_sw, zsw, t_iret, t_zret, t_aret, t_vret, zrg, List.getElem?_cons_zero, List.getElem?_cons_succ, List.set_cons_zero, List.set_cons_succ, List.length_cons, List.length_nil, Option.toList_some, Option.toList_none, List.nil_append, List.cons_append, true_and, and_true, true_or, or_true, Int.cast_ofNat_Int, Int.natCast_zero, Int.natCast_one, zsh_0, zsh_1, zg3 h3, hk.ob, hk.sob]
    exact ⟨rfl, rfl⟩
  · rw [if_neg hc]
    refine of_X10_length (by omega) (fun G hG => s_X10_length_0 hG ?_)
    simp only [b_X10_length_0, b_X10_length_7, b_X10_length_9, o_c, o_il, o_al, o_is, o_as, o_inc, o_add, o_sub, o_mul, o_and, o_or, o_xor, o_shl, o_shr, o_ush, o_rem, o_dup, o_dup2, o_gf, o_pf, o_pz, o_iald, o_iast, o_zald, o_zast, o_aald, o_gs, o_min, o_acp, o_call, o_callv, zgf, zpf, zia_, zza_, zra_, zrd_, zcp_, zpop, zsm8_0, zsm8_1, zsm8_2, zsm8_3, zsm8_4, zsm8_5, zrc, zisob, t_ieq, t_ilt, t_igt, t_zeq, t_zlt, t_zgt, t_sw, zsw, t_iret, t_zret, t_aret, t_vret, zrg, List.getElem?_cons_zero, List.getElem?_cons_succ, List.set_cons_zero, List.set_cons_succ, List.length_cons, List.length_nil, Option.toList_some, Option.toList_none, List.nil_append, List.cons_append, true_and, and_true, true_or, or_true, Int.cast_ofNat_Int, Int.natCast_zero, Int.natCast_one, zsh_0, zsh_1]
    refine zcall (c_X10_isStore hs) ?_
    rw [zb_f (P := 0 ≤ store ∧ store ≤ 2) hc]
    simp only [b_X10_length_0, b_X10_length_7, b_X10_length_9, o_c, o_il, o_al, o_is, o_as, o_inc, o_add, o_sub, o_mul, o_and, o_or, o_xor, o_shl, o_shr, o_ush, o_rem, o_dup, o_dup2, o_gf, o_pf, o_pz, o_iald, o_iast, o_zald, o_zast, o_aald, o_gs, o_min, o_acp, o_call, o_callv, zgf, zpf, zia_, zza_, zra_, zrd_, zcp_, zpop, zsm8_0, zsm8_1, zsm8_2, zsm8_3, zsm8_4, zsm8_5, zrc, zisob, t_ieq, t_ilt, t_igt, t_zeq, t_zlt, t_zgt, t_sw, zsw, t_iret, t_zret, t_aret, t_vret, zrg, List.getElem?_cons_zero, List.getElem?_cons_succ, List.set_cons_zero, List.set_cons_succ, List.length_cons, List.length_nil, Option.toList_some, Option.toList_none, List.nil_append, List.cons_append, true_and, and_true, true_or, or_true, Int.cast_ofNat_Int, Int.natCast_zero, Int.natCast_one, zsh_0, zsh_1]
    exact ⟨by omega, fun _ => ⟨rfl, rfl⟩, fun w => absurd trivial w⟩
set_option maxRecDepth 100000 in
set_option maxHeartbeats 4000000 in
theorem c_X10_read {d : Nat} {μ : zM} {St : Nat → zStt} {store nm p : Int} (hd : 5 ≤ d) (h : ∀ s, s < 3 → zSTs μ s (St s)) (hs : zrg store) (hn : zrg nm) (hp : zrg p) (hV : ∀ s, s < 3 → zV3 (St s).1) : zCt d mX10_read [.inr (some 0), .inl store, .inl nm, .inl p] μ (zR (.inl (if 0 ≤ store ∧ store ≤ 2 then zrdf (St store.toNat).1 nm p else -1)) μ) := by
  by_cases hc : 0 ≤ store ∧ store ≤ 2
  · rw [if_pos hc]
    obtain ⟨s, rfl, h3⟩ := zs3 hc
    have hk := zk3 h3
    have hx := h s h3
    rw [Int.toNat_natCast]
    refine of_X10_read (by omega) (fun G hG => s_X10_read_0 hG ?_)
    simp only [b_X10_read_0, b_X10_read_7, b_X10_read_24, b_X10_read_25, o_c, o_il, o_al, o_is, o_as, o_inc, o_add, o_sub, o_mul, o_and, o_or, o_xor, o_shl, o_shr, o_ush, o_rem, o_dup, o_dup2, o_gf, o_pf, o_pz, o_iald, o_iast, o_zald, o_zast, o_aald, o_gs, o_min, o_acp, o_call, o_callv, zgf, zpf, zia_, zza_, zra_, zrd_, zcp_, zpop, zsm8_0, zsm8_1, zsm8_2, zsm8_3, zsm8_4, zsm8_5, zrc, zisob, t_ieq, t_ilt, t_igt, t_zeq, t_zlt, t_zgt, t_sw, zsw, t_iret, t_zret, t_aret, t_vret, zrg, List.getElem?_cons_zero, List.getElem?_cons_succ, List.set_cons_zero, List.set_cons_succ, List.length_cons, List.length_nil, Option.toList_some, Option.toList_none, List.nil_append, List.cons_append, true_and, and_true, true_or, or_true, Int.cast_ofNat_Int, Int.natCast_zero, Int.natCast_one, zsh_0, zsh_1]
    refine zcall (c_X10_isStore hs) ?_
    rw [zb_t hc]
    simp only [b_X10_read_0, b_X10_read_7, b_X10_read_24, b_X10_read_25, o_c, o_il, o_al, o_is, o_as, o_inc, o_add, o_sub, o_mul, o_and, o_or, o_xor, o_shl, o_shr, o_ush, o_rem, o_dup, o_dup2, o_gf, o_pf, o_pz, o_iald, o_iast, o_zald, o_zast, o_aald, o_gs, o_min, o_acp, o_call, o_callv, zgf, zpf, zia_, zza_, zra_, zrd_, zcp_, zpop, zsm8_0, zsm8_1, zsm8_2, zsm8_3, zsm8_4, zsm8_5, zrc, zisob, t_ieq, t_ilt, t_igt, t_zeq, t_zlt, t_zgt, t_sw, zsw, t_iret, t_zret, t_aret, t_vret, zrg, List.getElem?_cons_zero, List.getElem?_cons_succ, List.set_cons_zero, List.set_cons_succ, List.length_cons, List.length_nil, Option.toList_some, Option.toList_none, List.nil_append, List.cons_append, true_and, and_true, true_or, or_true, Int.cast_ofNat_Int, Int.natCast_zero, Int.natCast_one, zsh_0, zsh_1, zg3 h3, hk.ob, hk.sob]
    refine ⟨by omega, fun w => by omega, fun _ => ⟨by omega, ?_⟩⟩
    refine zcall (c_X7_shelf hk) ?_
    simp only [b_X10_read_0, b_X10_read_7, b_X10_read_24, b_X10_read_25, o_c, o_il, o_al, o_is, o_as, o_inc, o_add, o_sub, o_mul, o_and, o_or, o_xor, o_shl, o_shr, o_ush, o_rem, o_dup, o_dup2, o_gf, o_pf, o_pz, o_iald, o_iast, o_zald, o_zast, o_aald, o_gs, o_min, o_acp, o_call, o_callv, zgf, zpf, zia_, zza_, zra_, zrd_, zcp_, zpop, zsm8_0, zsm8_1, zsm8_2, zsm8_3, zsm8_4, zsm8_5, zrc, zisob, t_ieq, t_ilt, t_igt, t_zeq, t_zlt, t_zgt, t_sw, zsw, t_iret, t_zret, t_aret, t_vret, zrg, List.getElem?_cons_zero, List.getElem?_cons_succ, List.set_cons_zero, List.set_cons_succ, List.length_cons, List.length_nil, Option.toList_some, Option.toList_none, List.nil_append, List.cons_append, true_and, and_true, true_or, or_true, Int.cast_ofNat_Int, Int.natCast_zero, Int.natCast_one, zsh_0, zsh_1, zg3 h3, hk.ob, hk.sob]
    refine zcall (c_X4_readByte (by omega) hx.1 (hV s h3) hn hp) ?_
    simp only [b_X10_read_0, b_X10_read_7, b_X10_read_24, b_X10_read_25, o_c, o_il, o_al, o_is, o_as, o_inc, o_add, o_sub, o_mul, o_and, o_or, o_xor, o_shl, o_shr, o_ush, o_rem, o_dup, o_dup2, o_gf, o_pf, o_pz, o_iald, o_iast, o_zald, o_zast, o_aald, o_gs, o_min, o_acp, o_call, o_callv, zgf, zpf, zia_, zza_, zra_, zrd_, zcp_, zpop, zsm8_0, zsm8_1, zsm8_2, zsm8_3, zsm8_4, zsm8_5, zrc, zisob, t_ieq, t_ilt, t_igt, t_zeq, t_zlt, t_zgt, t_sw, zsw, t_iret, t_zret, t_aret, t_vret, zrg, List.getElem?_cons_zero, List.getElem?_cons_succ, List.set_cons_zero, List.set_cons_succ, List.length_cons, List.length_nil, Option.toList_some, Option.toList_none, List.nil_append, List.cons_append, true_and, and_true, true_or, or_true, Int.cast_ofNat_Int, Int.natCast_zero, Int.natCast_one, zsh_0, zsh_1, zg3 h3, hk.ob, hk.sob]
    exact ⟨rfl, rfl⟩
  · rw [if_neg hc]
    refine of_X10_read (by omega) (fun G hG => s_X10_read_0 hG ?_)
    simp only [b_X10_read_0, b_X10_read_7, b_X10_read_24, b_X10_read_25, o_c, o_il, o_al, o_is, o_as, o_inc, o_add, o_sub, o_mul, o_and, o_or, o_xor, o_shl, o_shr, o_ush, o_rem, o_dup, o_dup2, o_gf, o_pf, o_pz, o_iald, o_iast, o_zald, o_zast, o_aald, o_gs, o_min, o_acp, o_call, o_callv, zgf, zpf, zia_, zza_, zra_, zrd_, zcp_, zpop, zsm8_0, zsm8_1, zsm8_2, zsm8_3, zsm8_4, zsm8_5, zrc, zisob, t_ieq, t_ilt, t_igt, t_zeq, t_zlt, t_zgt, t_sw, zsw, t_iret, t_zret, t_aret, t_vret, zrg, List.getElem?_cons_zero, List.getElem?_cons_succ, List.set_cons_zero, List.set_cons_succ, List.length_cons, List.length_nil, Option.toList_some, Option.toList_none, List.nil_append, List.cons_append, true_and, and_true, true_or, or_true, Int.cast_ofNat_Int, Int.natCast_zero, Int.natCast_one, zsh_0, zsh_1]
    refine zcall (c_X10_isStore hs) ?_
    rw [zb_f (P := 0 ≤ store ∧ store ≤ 2) hc]
    simp only [b_X10_read_0, b_X10_read_7, b_X10_read_24, b_X10_read_25, o_c, o_il, o_al, o_is, o_as, o_inc, o_add, o_sub, o_mul, o_and, o_or, o_xor, o_shl, o_shr, o_ush, o_rem, o_dup, o_dup2, o_gf, o_pf, o_pz, o_iald, o_iast, o_zald, o_zast, o_aald, o_gs, o_min, o_acp, o_call, o_callv, zgf, zpf, zia_, zza_, zra_, zrd_, zcp_, zpop, zsm8_0, zsm8_1, zsm8_2, zsm8_3, zsm8_4, zsm8_5, zrc, zisob, t_ieq, t_ilt, t_igt, t_zeq, t_zlt, t_zgt, t_sw, zsw, t_iret, t_zret, t_aret, t_vret, zrg, List.getElem?_cons_zero, List.getElem?_cons_succ, List.set_cons_zero, List.set_cons_succ, List.length_cons, List.length_nil, Option.toList_some, Option.toList_none, List.nil_append, List.cons_append, true_and, and_true, true_or, or_true, Int.cast_ofNat_Int, Int.natCast_zero, Int.natCast_one, zsh_0, zsh_1]
    exact ⟨by omega, fun _ => ⟨rfl, rfl⟩, fun w => absurd trivial w⟩
set_option maxRecDepth 100000 in
set_option maxHeartbeats 4000000 in
theorem c_X10_find {d : Nat} {μ : zM} {St : Nat → zStt} {store nm t : Int} (hd : 5 ≤ d) (h : ∀ s, s < 3 → zSTs μ s (St s)) (hs : zrg store) (hn : zrg nm) (ht : zrg t) (hV : ∀ s, s < 3 → zV3 (St s).1) : zCt d mX10_find [.inr (some 0), .inl store, .inl nm, .inl t] μ (zR (.inl (if 0 ≤ store ∧ store ≤ 2 then zfnd (St store.toNat).1 nm t else -1)) μ) := by
  by_cases hc : 0 ≤ store ∧ store ≤ 2
  · rw [if_pos hc]
    obtain ⟨s, rfl, h3⟩ := zs3 hc
    have hk := zk3 h3
    have hx := h s h3
    rw [Int.toNat_natCast]
    refine of_X10_find (by omega) (fun G hG => s_X10_find_0 hG ?_)
    simp only [b_X10_find_0, b_X10_find_7, b_X10_find_24, b_X10_find_25, o_c, o_il, o_al, o_is, o_as, o_inc, o_add, o_sub, o_mul, o_and, o_or, o_xor, o_shl, o_shr, o_ush, o_rem, o_dup, o_dup2, o_gf, o_pf, o_pz, o_iald, o_iast, o_zald, o_zast, o_aald, o_gs, o_min, o_acp, o_call, o_callv, zgf, zpf, zia_, zza_, zra_, zrd_, zcp_, zpop, zsm8_0, zsm8_1, zsm8_2, zsm8_3, zsm8_4, zsm8_5, zrc, zisob, t_ieq, t_ilt, t_igt, t_zeq, t_zlt, t_zgt, t_sw, zsw, t_iret, t_zret, t_aret, t_vret, zrg, List.getElem?_cons_zero, List.getElem?_cons_succ, List.set_cons_zero, List.set_cons_succ, List.length_cons, List.length_nil, Option.toList_some, Option.toList_none, List.nil_append, List.cons_append, true_and, and_true, true_or, or_true, Int.cast_ofNat_Int, Int.natCast_zero, Int.natCast_one, zsh_0, zsh_1]
    refine zcall (c_X10_isStore hs) ?_
    rw [zb_t hc]
    simp only [b_X10_find_0, b_X10_find_7, b_X10_find_24, b_X10_find_25, o_c, o_il, o_al, o_is, o_as, o_inc, o_add, o_sub, o_mul, o_and, o_or, o_xor, o_shl, o_shr, o_ush, o_rem, o_dup, o_dup2, o_gf, o_pf, o_pz, o_iald, o_iast, o_zald, o_zast, o_aald, o_gs, o_min, o_acp, o_call, o_callv, zgf, zpf, zia_, zza_, zra_, zrd_, zcp_, zpop, zsm8_0, zsm8_1, zsm8_2, zsm8_3, zsm8_4, zsm8_5, zrc, zisob, t_ieq, t_ilt, t_igt, t_zeq, t_zlt, t_zgt, t_sw, zsw, t_iret, t_zret, t_aret, t_vret, zrg, List.getElem?_cons_zero, List.getElem?_cons_succ, List.set_cons_zero, List.set_cons_succ, List.length_cons, List.length_nil, Option.toList_some, Option.toList_none, List.nil_append, List.cons_append, true_and, and_true, true_or, or_true, Int.cast_ofNat_Int, Int.natCast_zero, Int.natCast_one, zsh_0, zsh_1, zg3 h3, hk.ob, hk.sob]
    refine ⟨by omega, fun w => by omega, fun _ => ⟨by omega, ?_⟩⟩
    refine zcall (c_X7_shelf hk) ?_
    simp only [b_X10_find_0, b_X10_find_7, b_X10_find_24, b_X10_find_25, o_c, o_il, o_al, o_is, o_as, o_inc, o_add, o_sub, o_mul, o_and, o_or, o_xor, o_shl, o_shr, o_ush, o_rem, o_dup, o_dup2, o_gf, o_pf, o_pz, o_iald, o_iast, o_zald, o_zast, o_aald, o_gs, o_min, o_acp, o_call, o_callv, zgf, zpf, zia_, zza_, zra_, zrd_, zcp_, zpop, zsm8_0, zsm8_1, zsm8_2, zsm8_3, zsm8_4, zsm8_5, zrc, zisob, t_ieq, t_ilt, t_igt, t_zeq, t_zlt, t_zgt, t_sw, zsw, t_iret, t_zret, t_aret, t_vret, zrg, List.getElem?_cons_zero, List.getElem?_cons_succ, List.set_cons_zero, List.set_cons_succ, List.length_cons, List.length_nil, Option.toList_some, Option.toList_none, List.nil_append, List.cons_append, true_and, and_true, true_or, or_true, Int.cast_ofNat_Int, Int.natCast_zero, Int.natCast_one, zsh_0, zsh_1, zg3 h3, hk.ob, hk.sob]
    refine zcall (c_X4_findTitle (by omega) hx.1 (hV s h3) hn ht) ?_
    simp only [b_X10_find_0, b_X10_find_7, b_X10_find_24, b_X10_find_25, o_c, o_il, o_al, o_is, o_as, o_inc, o_add, o_sub, o_mul, o_and, o_or, o_xor, o_shl, o_shr, o_ush, o_rem, o_dup, o_dup2, o_gf, o_pf, o_pz, o_iald, o_iast, o_zald, o_zast, o_aald, o_gs, o_min, o_acp, o_call, o_callv, zgf, zpf, zia_, zza_, zra_, zrd_, zcp_, zpop, zsm8_0, zsm8_1, zsm8_2, zsm8_3, zsm8_4, zsm8_5, zrc, zisob, t_ieq, t_ilt, t_igt, t_zeq, t_zlt, t_zgt, t_sw, zsw, t_iret, t_zret, t_aret, t_vret, zrg, List.getElem?_cons_zero, List.getElem?_cons_succ, List.set_cons_zero, List.set_cons_succ, List.length_cons, List.length_nil, Option.toList_some, Option.toList_none, List.nil_append, List.cons_append, true_and, and_true, true_or, or_true, Int.cast_ofNat_Int, Int.natCast_zero, Int.natCast_one, zsh_0, zsh_1, zg3 h3, hk.ob, hk.sob]
    exact ⟨rfl, rfl⟩
  · rw [if_neg hc]
    refine of_X10_find (by omega) (fun G hG => s_X10_find_0 hG ?_)
    simp only [b_X10_find_0, b_X10_find_7, b_X10_find_24, b_X10_find_25, o_c, o_il, o_al, o_is, o_as, o_inc, o_add, o_sub, o_mul, o_and, o_or, o_xor, o_shl, o_shr, o_ush, o_rem, o_dup, o_dup2, o_gf, o_pf, o_pz, o_iald, o_iast, o_zald, o_zast, o_aald, o_gs, o_min, o_acp, o_call, o_callv, zgf, zpf, zia_, zza_, zra_, zrd_, zcp_, zpop, zsm8_0, zsm8_1, zsm8_2, zsm8_3, zsm8_4, zsm8_5, zrc, zisob, t_ieq, t_ilt, t_igt, t_zeq, t_zlt, t_zgt, t_sw, zsw, t_iret, t_zret, t_aret, t_vret, zrg, List.getElem?_cons_zero, List.getElem?_cons_succ, List.set_cons_zero, List.set_cons_succ, List.length_cons, List.length_nil, Option.toList_some, Option.toList_none, List.nil_append, List.cons_append, true_and, and_true, true_or, or_true, Int.cast_ofNat_Int, Int.natCast_zero, Int.natCast_one, zsh_0, zsh_1]
    refine zcall (c_X10_isStore hs) ?_
    rw [zb_f (P := 0 ≤ store ∧ store ≤ 2) hc]
    simp only [b_X10_find_0, b_X10_find_7, b_X10_find_24, b_X10_find_25, o_c, o_il, o_al, o_is, o_as, o_inc, o_add, o_sub, o_mul, o_and, o_or, o_xor, o_shl, o_shr, o_ush, o_rem, o_dup, o_dup2, o_gf, o_pf, o_pz, o_iald, o_iast, o_zald, o_zast, o_aald, o_gs, o_min, o_acp, o_call, o_callv, zgf, zpf, zia_, zza_, zra_, zrd_, zcp_, zpop, zsm8_0, zsm8_1, zsm8_2, zsm8_3, zsm8_4, zsm8_5, zrc, zisob, t_ieq, t_ilt, t_igt, t_zeq, t_zlt, t_zgt, t_sw, zsw, t_iret, t_zret, t_aret, t_vret, zrg, List.getElem?_cons_zero, List.getElem?_cons_succ, List.set_cons_zero, List.set_cons_succ, List.length_cons, List.length_nil, Option.toList_some, Option.toList_none, List.nil_append, List.cons_append, true_and, and_true, true_or, or_true, Int.cast_ofNat_Int, Int.natCast_zero, Int.natCast_one, zsh_0, zsh_1]
    exact ⟨by omega, fun _ => ⟨rfl, rfl⟩, fun w => absurd trivial w⟩
set_option maxRecDepth 100000 in
set_option maxHeartbeats 4000000 in
theorem c_X10_blocks {d : Nat} {μ : zM} {St : Nat → zStt} {store : Int} (hd : 3 ≤ d) (h : ∀ s, s < 3 → zSTs μ s (St s)) (hs : zrg store) : zCt d mX10_blocks [.inr (some 0), .inl store] μ (zR (.inl (if 0 ≤ store ∧ store ≤ 2 then ((St store.toNat).1.length : Int) else -1)) μ) := by
  by_cases hc : 0 ≤ store ∧ store ≤ 2
  · rw [if_pos hc]
    obtain ⟨s, rfl, h3⟩ := zs3 hc
    have hk := zk3 h3
    have hx := h s h3
    rw [Int.toNat_natCast]
    refine of_X10_blocks (by omega) (fun G hG => s_X10_blocks_0 hG ?_)
    simp only [b_X10_blocks_0, b_X10_blocks_7, b_X10_blocks_22, b_X10_blocks_23, o_c, o_il, o_al, o_is, o_as, o_inc, o_add, o_sub, o_mul, o_and, o_or, o_xor, o_shl, o_shr, o_ush, o_rem, o_dup, o_dup2, o_gf, o_pf, o_pz, o_iald, o_iast, o_zald, o_zast, o_aald, o_gs, o_min, o_acp, o_call, o_callv, zgf, zpf, zia_, zza_, zra_, zrd_, zcp_, zpop, zsm8_0, zsm8_1, zsm8_2, zsm8_3, zsm8_4, zsm8_5, zrc, zisob, t_ieq, t_ilt, t_igt, t_zeq, t_zlt, t_zgt, t_sw, zsw, t_iret, t_zret, t_aret, t_vret, zrg, List.getElem?_cons_zero, List.getElem?_cons_succ, List.set_cons_zero, List.set_cons_succ, List.length_cons, List.length_nil, Option.toList_some, Option.toList_none, List.nil_append, List.cons_append, true_and, and_true, true_or, or_true, Int.cast_ofNat_Int, Int.natCast_zero, Int.natCast_one, zsh_0, zsh_1]
    refine zcall (c_X10_isStore hs) ?_
    rw [zb_t hc]
    simp only [b_X10_blocks_0, b_X10_blocks_7, b_X10_blocks_22, b_X10_blocks_23, o_c, o_il, o_al, o_is, o_as, o_inc, o_add, o_sub, o_mul, o_and, o_or, o_xor, o_shl, o_shr, o_ush, o_rem, o_dup, o_dup2, o_gf, o_pf, o_pz, o_iald, o_iast, o_zald, o_zast, o_aald, o_gs, o_min, o_acp, o_call, o_callv, zgf, zpf, zia_, zza_, zra_, zrd_, zcp_, zpop, zsm8_0, zsm8_1, zsm8_2, zsm8_3, zsm8_4, zsm8_5, zrc, zisob, t_ieq, t_ilt, t_igt, t_zeq, t_zlt, t_zgt, t_sw, zsw, t_iret, t_zret, t_aret, t_vret, zrg, List.getElem?_cons_zero, List.getElem?_cons_succ, List.set_cons_zero, List.set_cons_succ, List.length_cons, List.length_nil, Option.toList_some, Option.toList_none, List.nil_append, List.cons_append, true_and, and_true, true_or, or_true, Int.cast_ofNat_Int, Int.natCast_zero, Int.natCast_one, zsh_0, zsh_1, zg3 h3, hk.ob, hk.sob]
    refine ⟨by omega, fun w => by omega, fun _ => ⟨by omega, ?_⟩⟩
    refine zcall (c_X7_shelf hk) ?_
    simp only [b_X10_blocks_0, b_X10_blocks_7, b_X10_blocks_22, b_X10_blocks_23, o_c, o_il, o_al, o_is, o_as, o_inc, o_add, o_sub, o_mul, o_and, o_or, o_xor, o_shl, o_shr, o_ush, o_rem, o_dup, o_dup2, o_gf, o_pf, o_pz, o_iald, o_iast, o_zald, o_zast, o_aald, o_gs, o_min, o_acp, o_call, o_callv, zgf, zpf, zia_, zza_, zra_, zrd_, zcp_, zpop, zsm8_0, zsm8_1, zsm8_2, zsm8_3, zsm8_4, zsm8_5, zrc, zisob, t_ieq, t_ilt, t_igt, t_zeq, t_zlt, t_zgt, t_sw, zsw, t_iret, t_zret, t_aret, t_vret, zrg, List.getElem?_cons_zero, List.getElem?_cons_succ, List.set_cons_zero, List.set_cons_succ, List.length_cons, List.length_nil, Option.toList_some, Option.toList_none, List.nil_append, List.cons_append, true_and, and_true, true_or, or_true, Int.cast_ofNat_Int, Int.natCast_zero, Int.natCast_one, zsh_0, zsh_1, zg3 h3, hk.ob, hk.sob]
    refine zcall (c_X6_count hx.1) ?_
    simp only [b_X10_blocks_0, b_X10_blocks_7, b_X10_blocks_22, b_X10_blocks_23, o_c, o_il, o_al, o_is, o_as, o_inc, o_add, o_sub, o_mul, o_and, o_or, o_xor, o_shl, o_shr, o_ush, o_rem, o_dup, o_dup2, o_gf, o_pf, o_pz, o_iald, o_iast, o_zald, o_zast, o_aald, o_gs, o_min, o_acp, o_call, o_callv, zgf, zpf, zia_, zza_, zra_, zrd_, zcp_, zpop, zsm8_0, zsm8_1, zsm8_2, zsm8_3, zsm8_4, zsm8_5, zrc, zisob, t_ieq, t_ilt, t_igt, t_zeq, t_zlt, t_zgt, t_sw, zsw, t_iret, t_zret, t_aret, t_vret, zrg, List.getElem?_cons_zero, List.getElem?_cons_succ, List.set_cons_zero, List.set_cons_succ, List.length_cons, List.length_nil, Option.toList_some, Option.toList_none, List.nil_append, List.cons_append, true_and, and_true, true_or, or_true, Int.cast_ofNat_Int, Int.natCast_zero, Int.natCast_one, zsh_0, zsh_1, zg3 h3, hk.ob, hk.sob]
    exact ⟨rfl, rfl⟩
  · rw [if_neg hc]
    refine of_X10_blocks (by omega) (fun G hG => s_X10_blocks_0 hG ?_)
    simp only [b_X10_blocks_0, b_X10_blocks_7, b_X10_blocks_22, b_X10_blocks_23, o_c, o_il, o_al, o_is, o_as, o_inc, o_add, o_sub, o_mul, o_and, o_or, o_xor, o_shl, o_shr, o_ush, o_rem, o_dup, o_dup2, o_gf, o_pf, o_pz, o_iald, o_iast, o_zald, o_zast, o_aald, o_gs, o_min, o_acp, o_call, o_callv, zgf, zpf, zia_, zza_, zra_, zrd_, zcp_, zpop, zsm8_0, zsm8_1, zsm8_2, zsm8_3, zsm8_4, zsm8_5, zrc, zisob, t_ieq, t_ilt, t_igt, t_zeq, t_zlt, t_zgt, t_sw, zsw, t_iret, t_zret, t_aret, t_vret, zrg, List.getElem?_cons_zero, List.getElem?_cons_succ, List.set_cons_zero, List.set_cons_succ, List.length_cons, List.length_nil, Option.toList_some, Option.toList_none, List.nil_append, List.cons_append, true_and, and_true, true_or, or_true, Int.cast_ofNat_Int, Int.natCast_zero, Int.natCast_one, zsh_0, zsh_1]
    refine zcall (c_X10_isStore hs) ?_
    rw [zb_f (P := 0 ≤ store ∧ store ≤ 2) hc]
    simp only [b_X10_blocks_0, b_X10_blocks_7, b_X10_blocks_22, b_X10_blocks_23, o_c, o_il, o_al, o_is, o_as, o_inc, o_add, o_sub, o_mul, o_and, o_or, o_xor, o_shl, o_shr, o_ush, o_rem, o_dup, o_dup2, o_gf, o_pf, o_pz, o_iald, o_iast, o_zald, o_zast, o_aald, o_gs, o_min, o_acp, o_call, o_callv, zgf, zpf, zia_, zza_, zra_, zrd_, zcp_, zpop, zsm8_0, zsm8_1, zsm8_2, zsm8_3, zsm8_4, zsm8_5, zrc, zisob, t_ieq, t_ilt, t_igt, t_zeq, t_zlt, t_zgt, t_sw, zsw, t_iret, t_zret, t_aret, t_vret, zrg, List.getElem?_cons_zero, List.getElem?_cons_succ, List.set_cons_zero, List.set_cons_succ, List.length_cons, List.length_nil, Option.toList_some, Option.toList_none, List.nil_append, List.cons_append, true_and, and_true, true_or, or_true, Int.cast_ofNat_Int, Int.natCast_zero, Int.natCast_one, zsh_0, zsh_1]
    exact ⟨by omega, fun _ => ⟨rfl, rfl⟩, fun w => absurd trivial w⟩
set_option maxRecDepth 100000 in
set_option maxHeartbeats 4000000 in
theorem c_X10_state {d : Nat} {μ : zM} {St : Nat → zStt} {store : Int} (hd : 3 ≤ d) (h : ∀ s, s < 3 → zSTs μ s (St s)) (hs : zrg store) : zCt d mX10_state [.inr (some 0), .inl store] μ (zR (.inl (if 0 ≤ store ∧ store ≤ 2 then (St store.toNat).2.2.1 else -1)) μ) := by
  by_cases hc : 0 ≤ store ∧ store ≤ 2
  · rw [if_pos hc]
    obtain ⟨s, rfl, h3⟩ := zs3 hc
    have hk := zk3 h3
    have hx := h s h3
    rw [Int.toNat_natCast]
    refine of_X10_state (by omega) (fun G hG => s_X10_state_0 hG ?_)
    simp only [b_X10_state_0, b_X10_state_7, b_X10_state_19, b_X10_state_20, o_c, o_il, o_al, o_is, o_as, o_inc, o_add, o_sub, o_mul, o_and, o_or, o_xor, o_shl, o_shr, o_ush, o_rem, o_dup, o_dup2, o_gf, o_pf, o_pz, o_iald, o_iast, o_zald, o_zast, o_aald, o_gs, o_min, o_acp, o_call, o_callv, zgf, zpf, zia_, zza_, zra_, zrd_, zcp_, zpop, zsm8_0, zsm8_1, zsm8_2, zsm8_3, zsm8_4, zsm8_5, zrc, zisob, t_ieq, t_ilt, t_igt, t_zeq, t_zlt, t_zgt, t_sw, zsw, t_iret, t_zret, t_aret, t_vret, zrg, List.getElem?_cons_zero, List.getElem?_cons_succ, List.set_cons_zero, List.set_cons_succ, List.length_cons, List.length_nil, Option.toList_some, Option.toList_none, List.nil_append, List.cons_append, true_and, and_true, true_or, or_true, Int.cast_ofNat_Int, Int.natCast_zero, Int.natCast_one, zsh_0, zsh_1]
    refine zcall (c_X10_isStore hs) ?_
    rw [zb_t hc]
    simp only [b_X10_state_0, b_X10_state_7, b_X10_state_19, b_X10_state_20, o_c, o_il, o_al, o_is, o_as, o_inc, o_add, o_sub, o_mul, o_and, o_or, o_xor, o_shl, o_shr, o_ush, o_rem, o_dup, o_dup2, o_gf, o_pf, o_pz, o_iald, o_iast, o_zald, o_zast, o_aald, o_gs, o_min, o_acp, o_call, o_callv, zgf, zpf, zia_, zza_, zra_, zrd_, zcp_, zpop, zsm8_0, zsm8_1, zsm8_2, zsm8_3, zsm8_4, zsm8_5, zrc, zisob, t_ieq, t_ilt, t_igt, t_zeq, t_zlt, t_zgt, t_sw, zsw, t_iret, t_zret, t_aret, t_vret, zrg, List.getElem?_cons_zero, List.getElem?_cons_succ, List.set_cons_zero, List.set_cons_succ, List.length_cons, List.length_nil, Option.toList_some, Option.toList_none, List.nil_append, List.cons_append, true_and, and_true, true_or, or_true, Int.cast_ofNat_Int, Int.natCast_zero, Int.natCast_one, zsh_0, zsh_1, zg3 h3, hk.ob, hk.sob]
    refine ⟨by omega, fun w => by omega, fun _ => ⟨by omega, ?_⟩⟩
    refine zcall (c_X7_fetchState hx.2.2) ?_
    simp only [b_X10_state_0, b_X10_state_7, b_X10_state_19, b_X10_state_20, o_c, o_il, o_al, o_is, o_as, o_inc, o_add, o_sub, o_mul, o_and, o_or, o_xor, o_shl, o_shr, o_ush, o_rem, o_dup, o_dup2, o_gf, o_pf, o_pz, o_iald, o_iast, o_zald, o_zast, o_aald, o_gs, o_min, o_acp, o_call, o_callv, zgf, zpf, zia_, zza_, zra_, zrd_, zcp_, zpop, zsm8_0, zsm8_1, zsm8_2, zsm8_3, zsm8_4, zsm8_5, zrc, zisob, t_ieq, t_ilt, t_igt, t_zeq, t_zlt, t_zgt, t_sw, zsw, t_iret, t_zret, t_aret, t_vret, zrg, List.getElem?_cons_zero, List.getElem?_cons_succ, List.set_cons_zero, List.set_cons_succ, List.length_cons, List.length_nil, Option.toList_some, Option.toList_none, List.nil_append, List.cons_append, true_and, and_true, true_or, or_true, Int.cast_ofNat_Int, Int.natCast_zero, Int.natCast_one, zsh_0, zsh_1, zg3 h3, hk.ob, hk.sob]
    exact ⟨rfl, rfl⟩
  · rw [if_neg hc]
    refine of_X10_state (by omega) (fun G hG => s_X10_state_0 hG ?_)
    simp only [b_X10_state_0, b_X10_state_7, b_X10_state_19, b_X10_state_20, o_c, o_il, o_al, o_is, o_as, o_inc, o_add, o_sub, o_mul, o_and, o_or, o_xor, o_shl, o_shr, o_ush, o_rem, o_dup, o_dup2, o_gf, o_pf, o_pz, o_iald, o_iast, o_zald, o_zast, o_aald, o_gs, o_min, o_acp, o_call, o_callv, zgf, zpf, zia_, zza_, zra_, zrd_, zcp_, zpop, zsm8_0, zsm8_1, zsm8_2, zsm8_3, zsm8_4, zsm8_5, zrc, zisob, t_ieq, t_ilt, t_igt, t_zeq, t_zlt, t_zgt, t_sw, zsw, t_iret, t_zret, t_aret, t_vret, zrg, List.getElem?_cons_zero, List.getElem?_cons_succ, List.set_cons_zero, List.set_cons_succ, List.length_cons, List.length_nil, Option.toList_some, Option.toList_none, List.nil_append, List.cons_append, true_and, and_true, true_or, or_true, Int.cast_ofNat_Int, Int.natCast_zero, Int.natCast_one, zsh_0, zsh_1]
    refine zcall (c_X10_isStore hs) ?_
    rw [zb_f (P := 0 ≤ store ∧ store ≤ 2) hc]
    simp only [b_X10_state_0, b_X10_state_7, b_X10_state_19, b_X10_state_20, o_c, o_il, o_al, o_is, o_as, o_inc, o_add, o_sub, o_mul, o_and, o_or, o_xor, o_shl, o_shr, o_ush, o_rem, o_dup, o_dup2, o_gf, o_pf, o_pz, o_iald, o_iast, o_zald, o_zast, o_aald, o_gs, o_min, o_acp, o_call, o_callv, zgf, zpf, zia_, zza_, zra_, zrd_, zcp_, zpop, zsm8_0, zsm8_1, zsm8_2, zsm8_3, zsm8_4, zsm8_5, zrc, zisob, t_ieq, t_ilt, t_igt, t_zeq, t_zlt, t_zgt, t_sw, zsw, t_iret, t_zret, t_aret, t_vret, zrg, List.getElem?_cons_zero, List.getElem?_cons_succ, List.set_cons_zero, List.set_cons_succ, List.length_cons, List.length_nil, Option.toList_some, Option.toList_none, List.nil_append, List.cons_append, true_and, and_true, true_or, or_true, Int.cast_ofNat_Int, Int.natCast_zero, Int.natCast_one, zsh_0, zsh_1]
    exact ⟨by omega, fun _ => ⟨rfl, rfl⟩, fun w => absurd trivial w⟩
set_option maxRecDepth 100000 in
set_option maxHeartbeats 4000000 in
theorem c_X10_waiting {d : Nat} {μ : zM} {Ms : List zMg} (hd : 2 ≤ d) (h : zLI μ Ms) : zCt d mX10_waiting [.inr (some 0)] μ (zR (.inl Ms.length) μ) := by
  refine of_X10_waiting (by omega) (fun G hG => s_X10_waiting_0 hG ?_)
  simp only [b_X10_waiting_0, o_c, o_il, o_al, o_is, o_as, o_inc, o_add, o_sub, o_mul, o_and, o_or, o_xor, o_shl, o_shr, o_ush, o_rem, o_dup, o_dup2, o_gf, o_pf, o_pz, o_iald, o_iast, o_zald, o_zast, o_aald, o_gs, o_min, o_acp, o_call, o_callv, zgf, zpf, zia_, zza_, zra_, zrd_, zcp_, zpop, zsm8_0, zsm8_1, zsm8_2, zsm8_3, zsm8_4, zsm8_5, zrc, zisob, t_ieq, t_ilt, t_igt, t_zeq, t_zlt, t_zgt, t_sw, zsw, t_iret, t_zret, t_aret, t_vret, zrg, List.getElem?_cons_zero, List.getElem?_cons_succ, List.set_cons_zero, List.set_cons_succ, List.length_cons, List.length_nil, Option.toList_some, Option.toList_none, List.nil_append, List.cons_append, true_and, and_true, true_or, or_true, Int.cast_ofNat_Int, Int.natCast_zero, Int.natCast_one, zsh_0, zsh_40]
  refine zcall (c_X3_count (by omega) h) ?_
  simp only [b_X10_waiting_0, o_c, o_il, o_al, o_is, o_as, o_inc, o_add, o_sub, o_mul, o_and, o_or, o_xor, o_shl, o_shr, o_ush, o_rem, o_dup, o_dup2, o_gf, o_pf, o_pz, o_iald, o_iast, o_zald, o_zast, o_aald, o_gs, o_min, o_acp, o_call, o_callv, zgf, zpf, zia_, zza_, zra_, zrd_, zcp_, zpop, zsm8_0, zsm8_1, zsm8_2, zsm8_3, zsm8_4, zsm8_5, zrc, zisob, t_ieq, t_ilt, t_igt, t_zeq, t_zlt, t_zgt, t_sw, zsw, t_iret, t_zret, t_aret, t_vret, zrg, List.getElem?_cons_zero, List.getElem?_cons_succ, List.set_cons_zero, List.set_cons_succ, List.length_cons, List.length_nil, Option.toList_some, Option.toList_none, List.nil_append, List.cons_append, true_and, and_true, true_or, or_true, Int.cast_ofNat_Int, Int.natCast_zero, Int.natCast_one, zsh_0, zsh_40]
  exact ⟨rfl, rfl⟩
def zmsg (m : zMg) (what : Int) : Int := if what = 0 then m.1.1 else if what = 1 then m.1.2.1 else if what = 2 then m.1.2.2 else if what = 3 then m.2.1 else -1
def zmsgA (Ms : List zMg) (k what : Int) : Int := if 0 ≤ k then (match Ms[k.toNat]? with
  | some m => zmsg m what
  | none => -1) else -1
theorem zms_cases (Ms : List zMg) (k : Int) : (¬ (0 ≤ k ∧ k < Ms.length) ∧ ∀ w, zmsgA Ms k w = -1) ∨ ∃ (i : Nat) (m : zMg), k = i ∧ Ms[i]? = some m ∧ i < Ms.length := by
  by_cases h : 0 ≤ k ∧ k < Ms.length
  · right
    refine ⟨k.toNat, Ms[k.toNat]'(by omega), by omega, List.getElem?_eq_getElem _, by omega⟩
  · left
    refine ⟨h, fun w => ?_⟩
    unfold zmsgA
    by_cases hk : 0 ≤ k
    · rw [if_pos hk, List.getElem?_eq_none (by omega)]
    · rw [if_neg hk]
set_option maxRecDepth 100000 in
set_option maxHeartbeats 4000000 in
theorem c_X10_message {d : Nat} {μ : zM} {Ms : List zMg} {k what : Int} (hd : 3 ≤ d) (h : zLI μ Ms) (hk : zrg k) (hw : zrg what) : zCt d mX10_message [.inr (some 0), .inl k, .inl what] μ (zR (.inl (zmsgA Ms k what)) μ) := by
  unfold zrg at hw
  rcases zms_cases Ms k with ⟨hc, e⟩ | ⟨i, m, rfl, hm, hi⟩
  · rw [e]
    refine of_X10_message (by omega) (fun G hG => s_X10_message_0 hG ?_)
    simp only [b_X10_message_0, b_X10_message_11, b_X10_message_13, b_X10_message_44, b_X10_message_53, b_X10_message_62, b_X10_message_71, b_X10_message_80, o_c, o_il, o_al, o_is, o_as, o_inc, o_add, o_sub, o_mul, o_and, o_or, o_xor, o_shl, o_shr, o_ush, o_rem, o_dup, o_dup2, o_gf, o_pf, o_pz, o_iald, o_iast, o_zald, o_zast, o_aald, o_gs, o_min, o_acp, o_call, o_callv, zgf, zpf, zia_, zza_, zra_, zrd_, zcp_, zpop, zsm8_0, zsm8_1, zsm8_2, zsm8_3, zsm8_4, zsm8_5, zrc, zisob, t_ieq, t_ilt, t_igt, t_zeq, t_zlt, t_zgt, t_sw, zsw, t_iret, t_zret, t_aret, t_vret, zrg, List.getElem?_cons_zero, List.getElem?_cons_succ, List.set_cons_zero, List.set_cons_succ, List.length_cons, List.length_nil, Option.toList_some, Option.toList_none, List.nil_append, List.cons_append, true_and, and_true, true_or, or_true, Int.cast_ofNat_Int, Int.natCast_zero, Int.natCast_one, zsh_0, zsh_40]
    refine zcall (c_X3_has (by omega) h hk) ?_
    rw [if_neg hc]
    simp only [b_X10_message_0, b_X10_message_11, b_X10_message_13, b_X10_message_44, b_X10_message_53, b_X10_message_62, b_X10_message_71, b_X10_message_80, o_c, o_il, o_al, o_is, o_as, o_inc, o_add, o_sub, o_mul, o_and, o_or, o_xor, o_shl, o_shr, o_ush, o_rem, o_dup, o_dup2, o_gf, o_pf, o_pz, o_iald, o_iast, o_zald, o_zast, o_aald, o_gs, o_min, o_acp, o_call, o_callv, zgf, zpf, zia_, zza_, zra_, zrd_, zcp_, zpop, zsm8_0, zsm8_1, zsm8_2, zsm8_3, zsm8_4, zsm8_5, zrc, zisob, t_ieq, t_ilt, t_igt, t_zeq, t_zlt, t_zgt, t_sw, zsw, t_iret, t_zret, t_aret, t_vret, zrg, List.getElem?_cons_zero, List.getElem?_cons_succ, List.set_cons_zero, List.set_cons_succ, List.length_cons, List.length_nil, Option.toList_some, Option.toList_none, List.nil_append, List.cons_append, true_and, and_true, true_or, or_true, Int.cast_ofNat_Int, Int.natCast_zero, Int.natCast_one, zsh_0, zsh_40]
    exact ⟨by omega, fun _ => ⟨rfl, rfl⟩, fun w => absurd trivial w⟩
  · have e : zmsgA Ms (i : Int) what = zmsg m what := by unfold zmsgA; rw [if_pos (by omega)]; simp only [Int.toNat_natCast, hm]
    rw [e]
    refine of_X10_message (by omega) (fun G hG => s_X10_message_0 hG ?_)
    simp only [b_X10_message_0, b_X10_message_11, b_X10_message_13, b_X10_message_44, b_X10_message_53, b_X10_message_62, b_X10_message_71, b_X10_message_80, o_c, o_il, o_al, o_is, o_as, o_inc, o_add, o_sub, o_mul, o_and, o_or, o_xor, o_shl, o_shr, o_ush, o_rem, o_dup, o_dup2, o_gf, o_pf, o_pz, o_iald, o_iast, o_zald, o_zast, o_aald, o_gs, o_min, o_acp, o_call, o_callv, zgf, zpf, zia_, zza_, zra_, zrd_, zcp_, zpop, zsm8_0, zsm8_1, zsm8_2, zsm8_3, zsm8_4, zsm8_5, zrc, zisob, t_ieq, t_ilt, t_igt, t_zeq, t_zlt, t_zgt, t_sw, zsw, t_iret, t_zret, t_aret, t_vret, zrg, List.getElem?_cons_zero, List.getElem?_cons_succ, List.set_cons_zero, List.set_cons_succ, List.length_cons, List.length_nil, Option.toList_some, Option.toList_none, List.nil_append, List.cons_append, true_and, and_true, true_or, or_true, Int.cast_ofNat_Int, Int.natCast_zero, Int.natCast_one, zsh_0, zsh_40]
    refine zcall (c_X3_has (by omega) h hk) ?_
    rw [if_pos (by omega)]
    simp only [b_X10_message_0, b_X10_message_11, b_X10_message_13, b_X10_message_44, b_X10_message_53, b_X10_message_62, b_X10_message_71, b_X10_message_80, o_c, o_il, o_al, o_is, o_as, o_inc, o_add, o_sub, o_mul, o_and, o_or, o_xor, o_shl, o_shr, o_ush, o_rem, o_dup, o_dup2, o_gf, o_pf, o_pz, o_iald, o_iast, o_zald, o_zast, o_aald, o_gs, o_min, o_acp, o_call, o_callv, zgf, zpf, zia_, zza_, zra_, zrd_, zcp_, zpop, zsm8_0, zsm8_1, zsm8_2, zsm8_3, zsm8_4, zsm8_5, zrc, zisob, t_ieq, t_ilt, t_igt, t_zeq, t_zlt, t_zgt, t_sw, zsw, t_iret, t_zret, t_aret, t_vret, zrg, List.getElem?_cons_zero, List.getElem?_cons_succ, List.set_cons_zero, List.set_cons_succ, List.length_cons, List.length_nil, Option.toList_some, Option.toList_none, List.nil_append, List.cons_append, true_and, and_true, true_or, or_true, Int.cast_ofNat_Int, Int.natCast_zero, Int.natCast_one, zsh_0, zsh_40]
    unfold zmsg
    refine ⟨by omega, fun w => by omega, fun _ => ⟨by omega, fun w0 => ?_, fun w0 => ⟨fun w1 => ?_, fun w1 => ⟨fun w2 => ?_, fun w2 => ⟨fun w3 => ?_, fun w3 => ?_⟩⟩⟩⟩⟩
    · refine zcall (c_X3_kindAt (by omega) h hm) ?_
      simp only [b_X10_message_0, b_X10_message_11, b_X10_message_13, b_X10_message_44, b_X10_message_53, b_X10_message_62, b_X10_message_71, b_X10_message_80, o_c, o_il, o_al, o_is, o_as, o_inc, o_add, o_sub, o_mul, o_and, o_or, o_xor, o_shl, o_shr, o_ush, o_rem, o_dup, o_dup2, o_gf, o_pf, o_pz, o_iald, o_iast, o_zald, o_zast, o_aald, o_gs, o_min, o_acp, o_call, o_callv, zgf, zpf, zia_, zza_, zra_, zrd_, zcp_, zpop, zsm8_0, zsm8_1, zsm8_2, zsm8_3, zsm8_4, zsm8_5, zrc, zisob, t_ieq, t_ilt, t_igt, t_zeq, t_zlt, t_zgt, t_sw, zsw, t_iret, t_zret, t_aret, t_vret, zrg, List.getElem?_cons_zero, List.getElem?_cons_succ, List.set_cons_zero, List.set_cons_succ, List.length_cons, List.length_nil, Option.toList_some, Option.toList_none, List.nil_append, List.cons_append, true_and, and_true, true_or, or_true, Int.cast_ofNat_Int, Int.natCast_zero, Int.natCast_one, zsh_0, zsh_40]
      rw [if_pos w0]
      exact ⟨rfl, rfl⟩
    · refine zcall (c_X3_senderAt (by omega) h hm) ?_
      simp only [b_X10_message_0, b_X10_message_11, b_X10_message_13, b_X10_message_44, b_X10_message_53, b_X10_message_62, b_X10_message_71, b_X10_message_80, o_c, o_il, o_al, o_is, o_as, o_inc, o_add, o_sub, o_mul, o_and, o_or, o_xor, o_shl, o_shr, o_ush, o_rem, o_dup, o_dup2, o_gf, o_pf, o_pz, o_iald, o_iast, o_zald, o_zast, o_aald, o_gs, o_min, o_acp, o_call, o_callv, zgf, zpf, zia_, zza_, zra_, zrd_, zcp_, zpop, zsm8_0, zsm8_1, zsm8_2, zsm8_3, zsm8_4, zsm8_5, zrc, zisob, t_ieq, t_ilt, t_igt, t_zeq, t_zlt, t_zgt, t_sw, zsw, t_iret, t_zret, t_aret, t_vret, zrg, List.getElem?_cons_zero, List.getElem?_cons_succ, List.set_cons_zero, List.set_cons_succ, List.length_cons, List.length_nil, Option.toList_some, Option.toList_none, List.nil_append, List.cons_append, true_and, and_true, true_or, or_true, Int.cast_ofNat_Int, Int.natCast_zero, Int.natCast_one, zsh_0, zsh_40]
      rw [if_neg w0, if_pos w1]
      exact ⟨rfl, rfl⟩
    · refine zcall (c_X3_receiverAt (by omega) h hm) ?_
      simp only [b_X10_message_0, b_X10_message_11, b_X10_message_13, b_X10_message_44, b_X10_message_53, b_X10_message_62, b_X10_message_71, b_X10_message_80, o_c, o_il, o_al, o_is, o_as, o_inc, o_add, o_sub, o_mul, o_and, o_or, o_xor, o_shl, o_shr, o_ush, o_rem, o_dup, o_dup2, o_gf, o_pf, o_pz, o_iald, o_iast, o_zald, o_zast, o_aald, o_gs, o_min, o_acp, o_call, o_callv, zgf, zpf, zia_, zza_, zra_, zrd_, zcp_, zpop, zsm8_0, zsm8_1, zsm8_2, zsm8_3, zsm8_4, zsm8_5, zrc, zisob, t_ieq, t_ilt, t_igt, t_zeq, t_zlt, t_zgt, t_sw, zsw, t_iret, t_zret, t_aret, t_vret, zrg, List.getElem?_cons_zero, List.getElem?_cons_succ, List.set_cons_zero, List.set_cons_succ, List.length_cons, List.length_nil, Option.toList_some, Option.toList_none, List.nil_append, List.cons_append, true_and, and_true, true_or, or_true, Int.cast_ofNat_Int, Int.natCast_zero, Int.natCast_one, zsh_0, zsh_40]
      rw [if_neg w0, if_neg w1, if_pos w2]
      exact ⟨rfl, rfl⟩
    · refine zcall (c_X3_nameAt (by omega) h hm) ?_
      simp only [b_X10_message_0, b_X10_message_11, b_X10_message_13, b_X10_message_44, b_X10_message_53, b_X10_message_62, b_X10_message_71, b_X10_message_80, o_c, o_il, o_al, o_is, o_as, o_inc, o_add, o_sub, o_mul, o_and, o_or, o_xor, o_shl, o_shr, o_ush, o_rem, o_dup, o_dup2, o_gf, o_pf, o_pz, o_iald, o_iast, o_zald, o_zast, o_aald, o_gs, o_min, o_acp, o_call, o_callv, zgf, zpf, zia_, zza_, zra_, zrd_, zcp_, zpop, zsm8_0, zsm8_1, zsm8_2, zsm8_3, zsm8_4, zsm8_5, zrc, zisob, t_ieq, t_ilt, t_igt, t_zeq, t_zlt, t_zgt, t_sw, zsw, t_iret, t_zret, t_aret, t_vret, zrg, List.getElem?_cons_zero, List.getElem?_cons_succ, List.set_cons_zero, List.set_cons_succ, List.length_cons, List.length_nil, Option.toList_some, Option.toList_none, List.nil_append, List.cons_append, true_and, and_true, true_or, or_true, Int.cast_ofNat_Int, Int.natCast_zero, Int.natCast_one, zsh_0, zsh_40]
      rw [if_neg w0, if_neg w1, if_neg w2, if_pos w3]
      exact ⟨rfl, rfl⟩
    · rw [if_neg w0, if_neg w1, if_neg w2, if_neg w3]
      exact ⟨rfl, rfl⟩
