/-! WALKS: going under a name -/
def zlks (o : Option (List Int)) : List Int := (List.range (zcnt o).toNat).map (fun i : Nat => zlnk o i)
def zdfs (L : List zBk) : Nat → List Int → List Int → List Int
  | 0, S, _ => S
  | _ + 1, S, [] => S
  | f + 1, S, x :: T => if x ∈ S then zdfs L f S T else zdfs L f (S ++ [x]) (zlks (zlk L x) ++ T)
theorem zdfs_nil (L : List zBk) (f : Nat) (S : List Int) : zdfs L f S [] = S := by cases f <;> rfl
theorem zdfs_len (L : List zBk) : ∀ (f : Nat) (S T : List Int), (zdfs L f S T).length ≤ S.length + f := by
  intro f
  induction f with
  | zero => intro S T; simp [zdfs]
  | succ f ih =>
    intro S T
    cases T with
    | nil => simp [zdfs]
    | cons x T =>
      simp only [zdfs]
      split
      · have := ih S T; omega
      · have := ih (S ++ [x]) (zlks (zlk L x) ++ T)
        simp at this
        omega
def zun (L : List zBk) (S : List Int) : Nat := (L.filter (fun b => decide (b.1 ∉ S))).length
theorem zun_le (L : List zBk) (S : List Int) : zun L S ≤ L.length := List.length_filter_le _ _
theorem zun_mono (L : List zBk) (S : List Int) (x : Int) : zun L (S ++ [x]) ≤ zun L S := by
  unfold zun
  induction L with
  | nil => simp
  | cons b r ih =>
    simp only [List.filter_cons]
    by_cases h : b.1 ∈ S
    · simp [h]
      simpa using ih
    · by_cases h2 : b.1 = x
      · subst h2
        simp [h]
        have := ih
        simp at this
        omega
      · simp [h, h2]
        simpa using ih
theorem zun_lt {L : List zBk} {S : List Int} {b : zBk} (hb : b ∈ L) (hS : b.1 ∉ S) : zun L (S ++ [b.1]) + 1 ≤ zun L S := by
  unfold zun
  induction L with
  | nil => cases hb
  | cons a r ih =>
    have hmono := zun_mono r S b.1
    unfold zun at hmono
    simp only [List.filter_cons]
    by_cases e : a.1 = b.1
    · rw [e]
      simp [hS]
      simpa using hmono
    · have hr : b ∈ r := by
        rcases List.mem_cons.mp hb with h | h
        · exact absurd (by rw [h]) e
        · exact h
      have := ih hr
      by_cases h : a.1 ∈ S
      · simp [h, e]
        simpa using this
      · simp [h, e]
        simp at this
        omega
def zVB (L : List zBk) : Prop := ∀ b ∈ L, zisB (some b.2)
theorem zpc15 : ∀ x : Fin 16, zpcn 16 x ≤ 4 := by decide +kernel
theorem zisB.cnt {o : Option (List Int)} (h : zisB o) : 0 ≤ zcnt o ∧ zcnt o ≤ 4 := by
  unfold zcnt
  rcases h with ⟨h1, _⟩ | ⟨h1, h2, _⟩
  · rw [if_neg (by omega), if_neg (by omega)]; omega
  · unfold zgs at h2
    split
    · omega
    · rw [if_pos (by omega)]
      have h3 : 1 ≤ zp_byte o 1 ∧ zp_byte o 1 ≤ 15 := by omega
      have := zpc15 ⟨(zp_byte o 1).toNat, by omega⟩
      unfold zpc
      simp only at this
      omega
theorem zisB.lnk {o : Option (List Int)} (h : zisB o) {i : Nat} (hi : (i : Int) < zcnt o) : 0 ≤ zlnk o i ∧ zlnk o i ≤ 65520 := by
  rcases h with ⟨h1, _⟩ | ⟨h1, h2, h3, h4⟩
  · exfalso
    unfold zcnt at hi
    rw [if_neg (by omega), if_neg (by omega)] at hi
    omega
  · exact (h4 i hi).1
theorem zVB.v3 {L : List zBk} (h : zVB L) : zV3 L := fun b hb e => by
  rcases h b hb with ⟨h1, _⟩ | ⟨h1, h2, _⟩
  · omega
  · unfold zgs at h2; omega
theorem zix_cases (L : List zBk) (x : Int) : (zix L x = -1 ∧ ∀ b ∈ L, b.1 ≠ x) ∨ (∃ (s : Nat) (b : zBk), zix L x = s ∧ L[s]? = some b ∧ b.1 = x) := by
  have key : ∀ (L : List zBk) (i : Nat), (zixf x L i = -1 ∧ ∀ b ∈ L, b.1 ≠ x) ∨ (∃ (s : Nat) (b : zBk), zixf x L i = ((i + s : Nat) : Int) ∧ L[s]? = some b ∧ b.1 = x) := by
    intro L
    induction L with
    | nil => intro i; left; exact ⟨rfl, fun b hb => by cases hb⟩
    | cons a r ih =>
      intro i
      simp only [zixf]
      by_cases e : a.1 = x
      · right
        rw [if_pos e]
        exact ⟨0, a, by simp, rfl, e⟩
      · rw [if_neg e]
        rcases ih (i + 1) with ⟨h1, h2⟩ | ⟨s, b, h1, h2, h3⟩
        · left
          refine ⟨h1, fun b hb => ?_⟩
          rcases List.mem_cons.mp hb with h | h
          · rw [h]; exact e
          · exact h2 b h
        · right
          refine ⟨s + 1, b, ?_, h2, h3⟩
          have : ((i : Int) + 1) = ((i + 1 : Nat) : Int) := by omega
          rw [this, h1]
          omega
  have := key L 0
  simpa [zix] using this
def zNd (L : List zBk) : Prop := ∀ (i j : Nat) (a b : zBk), L[i]? = some a → L[j]? = some b → a.1 = b.1 → i = j
def zmis (L : List zBk) (S : List Int) : List Int := S.filter (fun x => decide (zix L x < 0))
/-- a walk over the shelf's blocks L: the names seen S, in their order; what is to visit T, the next one first -/
def zWS (μ : zM) (w : Nat) (L : List zBk) (S T : List Int) : Prop := ∃ (R : Nat → Bool) (M : List Int), zWK μ w R M T.reverse ∧ (∀ (i : Nat) (b : zBk), L[i]? = some b → (R i = true ↔ b.1 ∈ S)) ∧ (S.length ≤ 257 → M = zmis L S)
theorem zfr4 {μ μ' : zM} {w : Nat} {S : List Nat} (h : zfr S μ μ') (hs : ∀ x ∈ S, x = w ∨ x = w + 1 ∨ x = w + 2 ∨ x = w + 3) : zfr [w, w + 1, w + 2, w + 3] μ μ' := h.mono (fun x hx => by have := hs x hx; simp; omega)
set_option maxRecDepth 100000 in
set_option maxHeartbeats 4000000 in
theorem c_X9_visit {d : Nat} {μ : zM} {w k : Nat} {L : List zBk} {S T : List Int} {x : Int} (hd : 2 ≤ d) (h : zWS μ w L S T) (hL : zSH μ k 64 L) (hV : zVB L) (hN : zNd L) (hkw : k + 3 < w) (hx : 0 ≤ x ∧ x ≤ 65520) (hT : x ∉ S → T.length + (zlks (zlk L x)).length ≤ 257) : zCt d mX9_visit [.inr (some w), .inr (some k), .inl x] μ (fun r μ' => r = none ∧ (if x ∈ S then zWS μ' w L S T else zWS μ' w L (S ++ [x]) (zlks (zlk L x) ++ T)) ∧ zfr [w, w + 1, w + 2, w + 3] μ μ') := by
  obtain ⟨R, M, hW, hR, hM⟩ := h
  have hix := hL.ix x
  have hl64 : L.length ≤ 64 := by have := hL.2.2.2.1; omega
  refine of_X9_visit (by omega) (fun G hG => s_X9_visit_0 hG ?_)
  simp only [b_X9_visit_0, b_X9_visit_10, b_X9_visit_18, b_X9_visit_26, b_X9_visit_40, b_X9_visit_45, b_X9_visit_62, o_c, o_il, o_al, o_is, o_as, o_inc, o_add, o_sub, o_mul, o_and, o_or, o_xor, o_shl, o_shr, o_ush, o_rem, o_dup, o_dup2, o_gf, o_pf, o_pz, o_iald, o_iast, o_zald, o_zast, o_aald, o_gs, o_min, o_acp, o_call, o_callv, zgf, zpf, zia_, zza_, zra_, zrd_, zcp_, zpop, zsm8_0, zsm8_1, zsm8_2, zsm8_3, zsm8_4, zsm8_5, zrc, zisob, t_ieq, t_ilt, t_igt, t_zeq, t_zlt, t_zgt, t_sw, zsw, t_iret, t_zret, t_aret, t_vret, zrg, List.getElem?_cons_zero, List.getElem?_cons_succ, List.set_cons_zero, List.set_cons_succ, List.length_cons, List.length_nil, Option.toList_some, Option.toList_none, List.nil_append, List.cons_append, true_and, and_true, true_or, or_true, Int.cast_ofNat_Int, Int.natCast_zero, Int.natCast_one, hW.1.ob, hL.1.ob]
  refine zcall (c_X6_slotOf hL ⟨by omega, by omega⟩) ?_
  simp only [b_X9_visit_0, b_X9_visit_10, b_X9_visit_18, b_X9_visit_26, b_X9_visit_40, b_X9_visit_45, b_X9_visit_62, o_c, o_il, o_al, o_is, o_as, o_inc, o_add, o_sub, o_mul, o_and, o_or, o_xor, o_shl, o_shr, o_ush, o_rem, o_dup, o_dup2, o_gf, o_pf, o_pz, o_iald, o_iast, o_zald, o_zast, o_aald, o_gs, o_min, o_acp, o_call, o_callv, zgf, zpf, zia_, zza_, zra_, zrd_, zcp_, zpop, zsm8_0, zsm8_1, zsm8_2, zsm8_3, zsm8_4, zsm8_5, zrc, zisob, t_ieq, t_ilt, t_igt, t_zeq, t_zlt, t_zgt, t_sw, zsw, t_iret, t_zret, t_aret, t_vret, zrg, List.getElem?_cons_zero, List.getElem?_cons_succ, List.set_cons_zero, List.set_cons_succ, List.length_cons, List.length_nil, Option.toList_some, Option.toList_none, List.nil_append, List.cons_append, true_and, and_true, true_or, or_true, Int.cast_ofNat_Int, Int.natCast_zero, Int.natCast_one, hW.1.ob, hL.1.ob]
  unfold zrg at hix
  rcases zix_cases L x with ⟨e1, hno⟩ | ⟨s, b, e1, hb, hbx⟩
  · rw [e1]
    refine ⟨by omega, fun _ => ?_, fun e => by omega⟩
    refine ⟨_, c_X9_noteMissing (by omega) hW hx, ?_⟩
    rintro r μ' ⟨rfl, b1, b2⟩
    simp only [b_X9_visit_0, b_X9_visit_10, b_X9_visit_18, b_X9_visit_26, b_X9_visit_40, b_X9_visit_45, b_X9_visit_62, o_c, o_il, o_al, o_is, o_as, o_inc, o_add, o_sub, o_mul, o_and, o_or, o_xor, o_shl, o_shr, o_ush, o_rem, o_dup, o_dup2, o_gf, o_pf, o_pz, o_iald, o_iast, o_zald, o_zast, o_aald, o_gs, o_min, o_acp, o_call, o_callv, zgf, zpf, zia_, zza_, zra_, zrd_, zcp_, zpop, zsm8_0, zsm8_1, zsm8_2, zsm8_3, zsm8_4, zsm8_5, zrc, zisob, t_ieq, t_ilt, t_igt, t_zeq, t_zlt, t_zgt, t_sw, zsw, t_iret, t_zret, t_aret, t_vret, zrg, List.getElem?_cons_zero, List.getElem?_cons_succ, List.set_cons_zero, List.set_cons_succ, List.length_cons, List.length_nil, Option.toList_some, Option.toList_none, List.nil_append, List.cons_append, true_and, and_true, true_or, or_true, Int.cast_ofNat_Int, Int.natCast_zero, Int.natCast_one, hW.1.ob, hL.1.ob]
    have hmem : x ∈ zmis L S ↔ x ∈ S := by simp [zmis, e1]
    have hlk0 : zlks (zlk L x) = [] := by
      have : zlk L x = none := by unfold zlk; rw [e1]; simp [zoat]
      rw [this]
      simp [zlks, zcnt, zknd, zp_byte]
    refine ⟨?_, zfr4 b2 (by simp)⟩
    by_cases hS : x ∈ S
    · rw [if_pos hS]
      refine ⟨R, _, b1, hR, fun hl => ?_⟩
      have := hM hl
      unfold zntm
      rw [if_neg (fun q => q.2 (by rw [this]; exact hmem.mpr hS))]
      exact this
    · rw [if_neg hS, hlk0]
      refine ⟨R, _, b1, fun i a ha => ?_, fun hl => ?_⟩
      · rw [hR i a ha]
        have := hno a (List.mem_of_getElem? ha)
        simp [this]
      · have hl2 : S.length ≤ 256 := by simp at hl; omega
        have := hM (by omega)
        have hml : M.length ≤ 256 := by
          rw [this]
          exact Nat.le_trans (List.length_filter_le _ _) hl2
        unfold zntm
        rw [if_pos ⟨hml, fun q => hS (hmem.mp (by rw [← this]; exact q))⟩, this]
        simp [zmis, e1]
  · have hs64 : s < 64 := by
      have := (List.getElem?_eq_some_iff.mp hb).1
      omega
    have hoat : zlk L x = some b.2 := by
      unfold zlk
      rw [e1]
      simp [zoat, hb]
    have hisB : zisB (zlk L x) := by rw [hoat]; exact hV b (List.mem_of_getElem? hb)
    have hcnt := hisB.cnt
    rw [e1] at hix ⊢
    have hsl : zoat L (s : Int) = zlk L x := by unfold zlk; rw [e1]
    refine ⟨by omega, fun e => by omega, fun _ => ?_⟩
    refine zcall (c_X9_hasReached hW hs64) ?_
    simp only [b_X9_visit_0, b_X9_visit_10, b_X9_visit_18, b_X9_visit_26, b_X9_visit_40, b_X9_visit_45, b_X9_visit_62, o_c, o_il, o_al, o_is, o_as, o_inc, o_add, o_sub, o_mul, o_and, o_or, o_xor, o_shl, o_shr, o_ush, o_rem, o_dup, o_dup2, o_gf, o_pf, o_pz, o_iald, o_iast, o_zald, o_zast, o_aald, o_gs, o_min, o_acp, o_call, o_callv, zgf, zpf, zia_, zza_, zra_, zrd_, zcp_, zpop, zsm8_0, zsm8_1, zsm8_2, zsm8_3, zsm8_4, zsm8_5, zrc, zisob, t_ieq, t_ilt, t_igt, t_zeq, t_zlt, t_zgt, t_sw, zsw, t_iret, t_zret, t_aret, t_vret, zrg, List.getElem?_cons_zero, List.getElem?_cons_succ, List.set_cons_zero, List.set_cons_succ, List.length_cons, List.length_nil, Option.toList_some, Option.toList_none, List.nil_append, List.cons_append, true_and, and_true, true_or, or_true, Int.cast_ofNat_Int, Int.natCast_zero, Int.natCast_one, hW.1.ob, hL.1.ob]
    have hRs := hR s b hb
    rw [hbx] at hRs
    by_cases hS : x ∈ S
    · rw [if_pos (hRs.mpr hS), if_pos hS]
      exact ⟨by omega, fun w => by omega, fun _ => ⟨⟨R, M, hW, hR, hM⟩, zfr.refl _ _⟩⟩
    · rw [if_neg (fun q => hS (hRs.mp q)), if_neg hS]
      refine ⟨by omega, fun _ => ?_, fun w => absurd rfl w⟩
      refine ⟨_, c_X9_reachSlot hW (by omega), ?_⟩
      rintro r μ1 ⟨rfl, b1, b2⟩
      simp only [b_X9_visit_0, b_X9_visit_10, b_X9_visit_18, b_X9_visit_26, b_X9_visit_40, b_X9_visit_45, b_X9_visit_62, o_c, o_il, o_al, o_is, o_as, o_inc, o_add, o_sub, o_mul, o_and, o_or, o_xor, o_shl, o_shr, o_ush, o_rem, o_dup, o_dup2, o_gf, o_pf, o_pz, o_iald, o_iast, o_zald, o_zast, o_aald, o_gs, o_min, o_acp, o_call, o_callv, zgf, zpf, zia_, zza_, zra_, zrd_, zcp_, zpop, zsm8_0, zsm8_1, zsm8_2, zsm8_3, zsm8_4, zsm8_5, zrc, zisob, t_ieq, t_ilt, t_igt, t_zeq, t_zlt, t_zgt, t_sw, zsw, t_iret, t_zret, t_aret, t_vret, zrg, List.getElem?_cons_zero, List.getElem?_cons_succ, List.set_cons_zero, List.set_cons_succ, List.length_cons, List.length_nil, Option.toList_some, Option.toList_none, List.nil_append, List.cons_append, true_and, and_true, true_or, or_true, Int.cast_ofNat_Int, Int.natCast_zero, Int.natCast_one, hW.1.ob, hL.1.ob]
      have hL1 : zSH μ1 k 64 L := hL.fr b2 (by simp; omega)
      refine zcall (c_X2_partCount (by omega) hL1 ⟨by omega, by omega⟩ (hV.v3.at s)) ?_
      simp only [b_X9_visit_0, b_X9_visit_10, b_X9_visit_18, b_X9_visit_26, b_X9_visit_40, b_X9_visit_45, b_X9_visit_62, o_c, o_il, o_al, o_is, o_as, o_inc, o_add, o_sub, o_mul, o_and, o_or, o_xor, o_shl, o_shr, o_ush, o_rem, o_dup, o_dup2, o_gf, o_pf, o_pz, o_iald, o_iast, o_zald, o_zast, o_aald, o_gs, o_min, o_acp, o_call, o_callv, zgf, zpf, zia_, zza_, zra_, zrd_, zcp_, zpop, zsm8_0, zsm8_1, zsm8_2, zsm8_3, zsm8_4, zsm8_5, zrc, zisob, t_ieq, t_ilt, t_igt, t_zeq, t_zlt, t_zgt, t_sw, zsw, t_iret, t_zret, t_aret, t_vret, zrg, List.getElem?_cons_zero, List.getElem?_cons_succ, List.set_cons_zero, List.set_cons_succ, List.length_cons, List.length_nil, Option.toList_some, Option.toList_none, List.nil_append, List.cons_append, true_and, and_true, true_or, or_true, Int.cast_ofNat_Int, Int.natCast_zero, Int.natCast_one, hW.1.ob, hL.1.ob]
      rw [hsl]
      have hlen : (zlks (zlk L x)).length = (zcnt (zlk L x)).toNat := by simp [zlks]
      have hT := hT hS
      have loop : ∀ (i : Nat) (μ2 : zM), (i : Int) ≤ zcnt (zlk L x) → zWK μ2 w (fun j => R j || decide ((j : Int) = s)) M ((zlks (zlk L x)).drop i ++ T).reverse → zfr [w, w + 1, w + 2, w + 3] μ μ2 → G 40 [.inr (some w), .inr (some k), .inl x, .inl (s : Int), .inl ((i : Int) - 1)] [] μ2 := by
        intro i
        induction i with
        | zero =>
          intro μ2 h1 h2 h3
          refine s_X9_visit_40 hG ?_
          simp only [b_X9_visit_0, b_X9_visit_10, b_X9_visit_18, b_X9_visit_26, b_X9_visit_40, b_X9_visit_45, b_X9_visit_62, o_c, o_il, o_al, o_is, o_as, o_inc, o_add, o_sub, o_mul, o_and, o_or, o_xor, o_shl, o_shr, o_ush, o_rem, o_dup, o_dup2, o_gf, o_pf, o_pz, o_iald, o_iast, o_zald, o_zast, o_aald, o_gs, o_min, o_acp, o_call, o_callv, zgf, zpf, zia_, zza_, zra_, zrd_, zcp_, zpop, zsm8_0, zsm8_1, zsm8_2, zsm8_3, zsm8_4, zsm8_5, zrc, zisob, t_ieq, t_ilt, t_igt, t_zeq, t_zlt, t_zgt, t_sw, zsw, t_iret, t_zret, t_aret, t_vret, zrg, List.getElem?_cons_zero, List.getElem?_cons_succ, List.set_cons_zero, List.set_cons_succ, List.length_cons, List.length_nil, Option.toList_some, Option.toList_none, List.nil_append, List.cons_append, true_and, and_true, true_or, or_true, Int.cast_ofNat_Int, Int.natCast_zero, Int.natCast_one, hW.1.ob, hL.1.ob]
          refine ⟨by omega, fun _ => ?_, fun e => by omega⟩
          rw [if_neg hS]
          refine ⟨⟨_, M, by simpa using h2, fun i a ha => ?_, fun hl => ?_⟩, h3⟩
          · have := hR i a ha
            have h9 : i = s ↔ a.1 = x := ⟨fun e => by subst e; rw [hb] at ha; cases ha; exact hbx, fun e => hN i s a b ha hb (by rw [e, hbx])⟩
            have h8 : ((i : Int) = s) ↔ i = s := by omega
            simp [this]
            rw [h8, h9]
          · rw [hM (by simp at hl; omega)]
            have : ¬ (zix L x < 0) := by omega
            simp [zmis, this]
        | succ i ih =>
          intro μ2 h1 h2 h3
          refine s_X9_visit_40 hG ?_
          simp only [b_X9_visit_0, b_X9_visit_10, b_X9_visit_18, b_X9_visit_26, b_X9_visit_40, b_X9_visit_45, b_X9_visit_62, o_c, o_il, o_al, o_is, o_as, o_inc, o_add, o_sub, o_mul, o_and, o_or, o_xor, o_shl, o_shr, o_ush, o_rem, o_dup, o_dup2, o_gf, o_pf, o_pz, o_iald, o_iast, o_zald, o_zast, o_aald, o_gs, o_min, o_acp, o_call, o_callv, zgf, zpf, zia_, zza_, zra_, zrd_, zcp_, zpop, zsm8_0, zsm8_1, zsm8_2, zsm8_3, zsm8_4, zsm8_5, zrc, zisob, t_ieq, t_ilt, t_igt, t_zeq, t_zlt, t_zgt, t_sw, zsw, t_iret, t_zret, t_aret, t_vret, zrg, List.getElem?_cons_zero, List.getElem?_cons_succ, List.set_cons_zero, List.set_cons_succ, List.length_cons, List.length_nil, Option.toList_some, Option.toList_none, List.nil_append, List.cons_append, true_and, and_true, true_or, or_true, Int.cast_ofNat_Int, Int.natCast_zero, Int.natCast_one, hW.1.ob, hL.1.ob]
          refine ⟨by omega, fun e => by omega, fun _ => ?_⟩
          have hL2 : zSH μ2 k 64 L := hL.fr h3 (by simp; omega)
          have e9 : (((i + 1 : Nat) : Int) - 1) = (i : Int) := by omega
          rw [e9]
          refine zcall (c_X2_linkAt (by omega) hL2 ⟨by omega, by omega⟩ (by omega)) ?_
          rw [hsl]
          simp only [b_X9_visit_0, b_X9_visit_10, b_X9_visit_18, b_X9_visit_26, b_X9_visit_40, b_X9_visit_45, b_X9_visit_62, o_c, o_il, o_al, o_is, o_as, o_inc, o_add, o_sub, o_mul, o_and, o_or, o_xor, o_shl, o_shr, o_ush, o_rem, o_dup, o_dup2, o_gf, o_pf, o_pz, o_iald, o_iast, o_zald, o_zast, o_aald, o_gs, o_min, o_acp, o_call, o_callv, zgf, zpf, zia_, zza_, zra_, zrd_, zcp_, zpop, zsm8_0, zsm8_1, zsm8_2, zsm8_3, zsm8_4, zsm8_5, zrc, zisob, t_ieq, t_ilt, t_igt, t_zeq, t_zlt, t_zgt, t_sw, zsw, t_iret, t_zret, t_aret, t_vret, zrg, List.getElem?_cons_zero, List.getElem?_cons_succ, List.set_cons_zero, List.set_cons_succ, List.length_cons, List.length_nil, Option.toList_some, Option.toList_none, List.nil_append, List.cons_append, true_and, and_true, true_or, or_true, Int.cast_ofNat_Int, Int.natCast_zero, Int.natCast_one, hW.1.ob, hL.1.ob]
          refine ⟨_, c_X9_remember h2 (by simp; omega) (hisB.lnk (by omega)), ?_⟩
          rintro r μ3 ⟨rfl, b3, b4⟩
          simp only [b_X9_visit_0, b_X9_visit_10, b_X9_visit_18, b_X9_visit_26, b_X9_visit_40, b_X9_visit_45, b_X9_visit_62, o_c, o_il, o_al, o_is, o_as, o_inc, o_add, o_sub, o_mul, o_and, o_or, o_xor, o_shl, o_shr, o_ush, o_rem, o_dup, o_dup2, o_gf, o_pf, o_pz, o_iald, o_iast, o_zald, o_zast, o_aald, o_gs, o_min, o_acp, o_call, o_callv, zgf, zpf, zia_, zza_, zra_, zrd_, zcp_, zpop, zsm8_0, zsm8_1, zsm8_2, zsm8_3, zsm8_4, zsm8_5, zrc, zisob, t_ieq, t_ilt, t_igt, t_zeq, t_zlt, t_zgt, t_sw, zsw, t_iret, t_zret, t_aret, t_vret, zrg, List.getElem?_cons_zero, List.getElem?_cons_succ, List.set_cons_zero, List.set_cons_succ, List.length_cons, List.length_nil, Option.toList_some, Option.toList_none, List.nil_append, List.cons_append, true_and, and_true, true_or, or_true, Int.cast_ofNat_Int, Int.natCast_zero, Int.natCast_one, hW.1.ob, hL.1.ob]
          have hdrop : (zlks (zlk L x)).drop i = zlnk (zlk L x) i :: (zlks (zlk L x)).drop (i + 1) := by
            have hil : i < (zlks (zlk L x)).length := by rw [hlen]; omega
            rw [List.drop_eq_getElem_cons hil]
            congr 1
            simp [zlks]
          refine ih μ3 (by omega) ?_ (h3.trans (zfr4 b4 (by simp)))
          rw [hdrop]
          simpa using b3
      have := loop (zcnt (zlk L x)).toNat μ1 (by omega) (by rw [← hlen, List.drop_length]; simpa using b1) (zfr4 b2 (by simp))
      rw [Int.toNat_of_nonneg hcnt.1] at this
      exact this
set_option maxRecDepth 100000 in
set_option maxHeartbeats 4000000 in
theorem c_X9_goUnder {d : Nat} {μ : zM} {w k : Nat} {L : List zBk} {S T0 : List Int} {x : Int} (hd : 3 ≤ d) (h : zWS μ w L S T0) (hL : zSH μ k 64 L) (hV : zVB L) (hN : zNd L) (hkw : k + 3 < w) (hx : 0 ≤ x ∧ x ≤ 65520) : zCt d mX9_goUnder [.inr (some w), .inr (some k), .inl x] μ (fun r μ' => r = none ∧ zWS μ' w L (zdfs L 257 S [x]) [] ∧ zfr [w, w + 1, w + 2, w + 3] μ μ') := by
  obtain ⟨R, M, hW, hR, hM⟩ := h
  have hl64 : L.length ≤ 64 := by have := hL.2.2.2.1; omega
  have hwk := hW.1
  refine of_X9_goUnder (by omega) (fun G hG => s_X9_goUnder_0 hG ?_)
  simp only [b_X9_goUnder_0, b_X9_goUnder_12, b_X9_goUnder_19, b_X9_goUnder_26, b_X9_goUnder_56, o_c, o_il, o_al, o_is, o_as, o_inc, o_add, o_sub, o_mul, o_and, o_or, o_xor, o_shl, o_shr, o_ush, o_rem, o_dup, o_dup2, o_gf, o_pf, o_pz, o_iald, o_iast, o_zald, o_zast, o_aald, o_gs, o_min, o_acp, o_call, o_callv, zgf, zpf, zia_, zza_, zra_, zrd_, zcp_, zpop, zsm8_0, zsm8_1, zsm8_2, zsm8_3, zsm8_4, zsm8_5, zrc, zisob, t_ieq, t_ilt, t_igt, t_zeq, t_zlt, t_zgt, t_sw, zsw, t_iret, t_zret, t_aret, t_vret, zrg, List.getElem?_cons_zero, List.getElem?_cons_succ, List.set_cons_zero, List.set_cons_succ, List.length_cons, List.length_nil, Option.toList_some, Option.toList_none, List.nil_append, List.cons_append, true_and, and_true, true_or, or_true, Int.cast_ofNat_Int, Int.natCast_zero, Int.natCast_one, hwk.ob, hwk.c3, hL.1.ob]
  have hW0 : zWK (zup μ w 4 0) w R M [] := by
    obtain ⟨a1, a2, a3, a4⟩ := hW
    refine ⟨a1, fun i hi => by rw [zup_ne _ (by omega)]; exact a2 i hi, ⟨by simp [zup, a3.1], a3.2.1, a3.2.2.1.of (zup_ne _ (by omega)), a3.2.2.2⟩, ⟨by simp [zup], by simp, fun j x hj => by simp at hj, fun x hx => by simp at hx⟩⟩
  refine ⟨_, c_X9_remember hW0 (by simp) hx, ?_⟩
  rintro r μ1 ⟨rfl, b1, b2⟩
  simp only [b_X9_goUnder_0, b_X9_goUnder_12, b_X9_goUnder_19, b_X9_goUnder_26, b_X9_goUnder_56, o_c, o_il, o_al, o_is, o_as, o_inc, o_add, o_sub, o_mul, o_and, o_or, o_xor, o_shl, o_shr, o_ush, o_rem, o_dup, o_dup2, o_gf, o_pf, o_pz, o_iald, o_iast, o_zald, o_zast, o_aald, o_gs, o_min, o_acp, o_call, o_callv, zgf, zpf, zia_, zza_, zra_, zrd_, zcp_, zpop, zsm8_0, zsm8_1, zsm8_2, zsm8_3, zsm8_4, zsm8_5, zrc, zisob, t_ieq, t_ilt, t_igt, t_zeq, t_zlt, t_zgt, t_sw, zsw, t_iret, t_zret, t_aret, t_vret, zrg, List.getElem?_cons_zero, List.getElem?_cons_succ, List.set_cons_zero, List.set_cons_succ, List.length_cons, List.length_nil, Option.toList_some, Option.toList_none, List.nil_append, List.cons_append, true_and, and_true, true_or, or_true, Int.cast_ofNat_Int, Int.natCast_zero, Int.natCast_one, hwk.ob, hwk.c3, hL.1.ob]
  have loop : ∀ (f i : Nat) (μ2 : zM) (S2 T2 : List Int), i + f = 257 → zWS μ2 w L S2 T2 → T2.length + 4 * zun L S2 ≤ f → zdfs L 257 S [x] = zdfs L f S2 T2 → zNm T2 → zfr [w, w + 1, w + 2, w + 3] μ μ2 → G 12 [.inr (some w), .inr (some k), .inl x, .inl (i : Int)] [] μ2 := by
    intro f
    induction f with
    | zero =>
      intro i μ2 S2 T2 h1 h2 h3 h4 h5 h6
      refine s_X9_goUnder_12 hG ?_
      simp only [b_X9_goUnder_0, b_X9_goUnder_12, b_X9_goUnder_19, b_X9_goUnder_26, b_X9_goUnder_56, o_c, o_il, o_al, o_is, o_as, o_inc, o_add, o_sub, o_mul, o_and, o_or, o_xor, o_shl, o_shr, o_ush, o_rem, o_dup, o_dup2, o_gf, o_pf, o_pz, o_iald, o_iast, o_zald, o_zast, o_aald, o_gs, o_min, o_acp, o_call, o_callv, zgf, zpf, zia_, zza_, zra_, zrd_, zcp_, zpop, zsm8_0, zsm8_1, zsm8_2, zsm8_3, zsm8_4, zsm8_5, zrc, zisob, t_ieq, t_ilt, t_igt, t_zeq, t_zlt, t_zgt, t_sw, zsw, t_iret, t_zret, t_aret, t_vret, zrg, List.getElem?_cons_zero, List.getElem?_cons_succ, List.set_cons_zero, List.set_cons_succ, List.length_cons, List.length_nil, Option.toList_some, Option.toList_none, List.nil_append, List.cons_append, true_and, and_true, true_or, or_true, Int.cast_ofNat_Int, Int.natCast_zero, Int.natCast_one, hwk.ob, hwk.c3, hL.1.ob]
      refine ⟨by omega, by omega, fun _ => ⟨?_, h6⟩, fun _ => by omega⟩
      have hT : T2 = [] := by cases T2 with | nil => rfl | cons a b => simp at h3
      rw [h4, hT, zdfs_nil]
      rw [hT] at h2
      exact h2
    | succ f ih =>
      intro i μ2 S2 T2 h1 h2 h3 h4 h5 h6
      obtain ⟨R2, M2, hW2, hR2, hM2⟩ := h2
      refine s_X9_goUnder_12 hG ?_
      simp only [b_X9_goUnder_0, b_X9_goUnder_12, b_X9_goUnder_19, b_X9_goUnder_26, b_X9_goUnder_56, o_c, o_il, o_al, o_is, o_as, o_inc, o_add, o_sub, o_mul, o_and, o_or, o_xor, o_shl, o_shr, o_ush, o_rem, o_dup, o_dup2, o_gf, o_pf, o_pz, o_iald, o_iast, o_zald, o_zast, o_aald, o_gs, o_min, o_acp, o_call, o_callv, zgf, zpf, zia_, zza_, zra_, zrd_, zcp_, zpop, zsm8_0, zsm8_1, zsm8_2, zsm8_3, zsm8_4, zsm8_5, zrc, zisob, t_ieq, t_ilt, t_igt, t_zeq, t_zlt, t_zgt, t_sw, zsw, t_iret, t_zret, t_aret, t_vret, zrg, List.getElem?_cons_zero, List.getElem?_cons_succ, List.set_cons_zero, List.set_cons_succ, List.length_cons, List.length_nil, Option.toList_some, Option.toList_none, List.nil_append, List.cons_append, true_and, and_true, true_or, or_true, Int.cast_ofNat_Int, Int.natCast_zero, Int.natCast_one, hwk.ob, hwk.c3, hL.1.ob]
      refine ⟨by omega, by omega, fun _ => by omega, fun _ => ?_⟩
      have hv := hW2.2.2.2
      cases T2 with
      | nil =>
        have e4 : μ2 w 4 = 0 := by rw [hv.1]; simp
        refine ⟨by omega, fun _ => by omega, fun _ => ⟨?_, h6⟩⟩
        rw [h4, zdfs_nil]
        exact ⟨R2, M2, hW2, hR2, hM2⟩
      | cons y T3 =>
        have e4 : μ2 w 4 = T3.length + 1 := by rw [hv.1]; simp
        have hy := h5 y List.mem_cons_self
        have hty : μ2 (w + 3) T3.length = y := by
          have := hv.2.2.1 T3.length y (by simp)
          exact this
        simp only [List.length_cons] at h3
        have e5 : zup μ2 w 4 (μ2 w 4 - 1) w 4 = T3.length := by simp [zup, e4]
        have e6 : zup μ2 w 4 (μ2 w 4 - 1) (w + 3) T3.length = y := by rw [zup_ne _ (by omega)]; exact hty
        rw [e5, e6]
        refine ⟨by omega, fun _ => ⟨by omega, ?_⟩, fun _ => by omega⟩
        have hWp : zWS (zup μ2 w 4 (μ2 w 4 - 1)) w L S2 T3 := by
          obtain ⟨a1, a2, a3, a4⟩ := hW2
          refine ⟨R2, M2, ⟨a1, fun i hi => by rw [zup_ne _ (by omega)]; exact a2 i hi, ⟨by simp [zup, a3.1], a3.2.1, a3.2.2.1.of (zup_ne _ (by omega)), a3.2.2.2⟩, ⟨by simp [zup, e4], by simp; omega, ?_, ?_⟩⟩, hR2, hM2⟩
          · have : zAR μ2 (w + 3) (T3.reverse ++ [y]) := by simpa using a4.2.2.1
            exact this.pre.of (zup_ne _ (by omega))
          · intro z hz
            exact h5 z (by simp at hz; simp [hz])
        have hf1 : zfr [w, w + 1, w + 2, w + 3] μ (zup μ2 w 4 (μ2 w 4 - 1)) := fun c hc => by
          have : c ≠ w := fun e => hc (by simp [e])
          rw [zup_ne c this]
          exact h6 c hc
        have hL2 : zSH (zup μ2 w 4 (μ2 w 4 - 1)) k 64 L := hL.fr hf1 (by simp; omega)
        -- how the measure falls
        have hmeas : y ∉ S2 → (zlks (zlk L y) ++ T3).length + 4 * zun L (S2 ++ [y]) ≤ f ∧ zNm (zlks (zlk L y)) ∧ (zlks (zlk L y)).length ≤ 4 * zun L S2 := by
          intro hyS
          rcases zix_cases L y with ⟨e1, hno⟩ | ⟨s, b, e1, hb, hbx⟩
          · have : zlk L y = none := by unfold zlk; rw [e1]; simp [zoat]
            have hz : zlks (zlk L y) = [] := by rw [this]; simp [zlks, zcnt, zknd, zp_byte]
            have := zun_mono L S2 y
            rw [hz]
            exact ⟨by simp; omega, (fun z hz => absurd hz List.not_mem_nil), Nat.zero_le _⟩
          · have hoat : zlk L y = some b.2 := by unfold zlk; rw [e1]; simp [zoat, hb]
            have hisB : zisB (zlk L y) := by rw [hoat]; exact hV b (List.mem_of_getElem? hb)
            have hcnt := hisB.cnt
            have hlen : (zlks (zlk L y)).length = (zcnt (zlk L y)).toNat := by simp [zlks]
            have := zun_lt (S := S2) (List.mem_of_getElem? hb) (by rw [hbx]; exact hyS)
            rw [hbx] at this
            refine ⟨by simp only [List.length_append, hlen]; omega, fun z hz => ?_, by omega⟩
            obtain ⟨j, hj, rfl⟩ := List.mem_map.mp hz
            exact hisB.lnk (by have := List.mem_range.mp hj; omega)
        by_cases hyS : y ∈ S2
        · refine ⟨_, c_X9_visit (by omega) hWp hL2 hV hN hkw hy (fun q => absurd hyS q), ?_⟩
          rintro r μ3 ⟨rfl, b3, b4⟩
          rw [if_pos hyS] at b3
          simp only [b_X9_goUnder_0, b_X9_goUnder_12, b_X9_goUnder_19, b_X9_goUnder_26, b_X9_goUnder_56, o_c, o_il, o_al, o_is, o_as, o_inc, o_add, o_sub, o_mul, o_and, o_or, o_xor, o_shl, o_shr, o_ush, o_rem, o_dup, o_dup2, o_gf, o_pf, o_pz, o_iald, o_iast, o_zald, o_zast, o_aald, o_gs, o_min, o_acp, o_call, o_callv, zgf, zpf, zia_, zza_, zra_, zrd_, zcp_, zpop, zsm8_0, zsm8_1, zsm8_2, zsm8_3, zsm8_4, zsm8_5, zrc, zisob, t_ieq, t_ilt, t_igt, t_zeq, t_zlt, t_zgt, t_sw, zsw, t_iret, t_zret, t_aret, t_vret, zrg, List.getElem?_cons_zero, List.getElem?_cons_succ, List.set_cons_zero, List.set_cons_succ, List.length_cons, List.length_nil, Option.toList_some, Option.toList_none, List.nil_append, List.cons_append, true_and, and_true, true_or, or_true, Int.cast_ofNat_Int, Int.natCast_zero, Int.natCast_one, hwk.ob, hwk.c3, hL.1.ob]
          simp only [zdfs] at h4
          rw [if_pos hyS] at h4
          exact ih (i + 1) μ3 S2 T3 (by omega) b3 (by omega) h4 (fun z hz => h5 z (List.mem_cons_of_mem _ hz)) (hf1.trans b4)
        · obtain ⟨m1, m2, m3⟩ := hmeas hyS
          refine ⟨_, c_X9_visit (by omega) hWp hL2 hV hN hkw hy (fun _ => by omega), ?_⟩
          rintro r μ3 ⟨rfl, b3, b4⟩
          rw [if_neg hyS] at b3
          simp only [b_X9_goUnder_0, b_X9_goUnder_12, b_X9_goUnder_19, b_X9_goUnder_26, b_X9_goUnder_56, o_c, o_il, o_al, o_is, o_as, o_inc, o_add, o_sub, o_mul, o_and, o_or, o_xor, o_shl, o_shr, o_ush, o_rem, o_dup, o_dup2, o_gf, o_pf, o_pz, o_iald, o_iast, o_zald, o_zast, o_aald, o_gs, o_min, o_acp, o_call, o_callv, zgf, zpf, zia_, zza_, zra_, zrd_, zcp_, zpop, zsm8_0, zsm8_1, zsm8_2, zsm8_3, zsm8_4, zsm8_5, zrc, zisob, t_ieq, t_ilt, t_igt, t_zeq, t_zlt, t_zgt, t_sw, zsw, t_iret, t_zret, t_aret, t_vret, zrg, List.getElem?_cons_zero, List.getElem?_cons_succ, List.set_cons_zero, List.set_cons_succ, List.length_cons, List.length_nil, Option.toList_some, Option.toList_none, List.nil_append, List.cons_append, true_and, and_true, true_or, or_true, Int.cast_ofNat_Int, Int.natCast_zero, Int.natCast_one, hwk.ob, hwk.c3, hL.1.ob]
          simp only [zdfs] at h4
          rw [if_neg hyS] at h4
          refine ih (i + 1) μ3 (S2 ++ [y]) _ (by omega) b3 m1 h4 (fun z hz => ?_) (hf1.trans b4)
          rcases List.mem_append.mp hz with q | q
          · exact m2 z q
          · exact h5 z (List.mem_cons_of_mem _ q)
  refine loop 257 0 μ1 S [x] (by omega) ⟨R, M, by simpa using b1, hR, hM⟩ (by have := zun_le L S; simp; omega) rfl (fun z hz => by rw [List.mem_singleton.mp hz]; exact hx) (fun c hc => ?_)
  have h9 := zfr4 b2 (by simp) c hc
  rw [h9]
  exact zup_ne c (fun e => hc (by simp [e]))
