/-! bitCount; FORMS: what is read of a block -/
set_option maxRecDepth 100000 in
set_option maxHeartbeats 4000000 in
theorem c_J6_bitCount {d n : Nat} {μ : zM} (h : n < 65536) : zCt d mJ6_bitCount_0f7a4 [.inl (n : Int)] μ (zR (.inl (zpcn 16 n : Int)) μ) := by
  refine of_J6_bitCount_0f7a4 (fun G hG => s_J6_bitCount_0f7a4_0 hG ?_)
  simp only [b_J6_bitCount_0f7a4_0, o_c, o_il, o_al, o_is, o_as, o_inc, o_add, o_sub, o_mul, o_and, o_or, o_xor, o_shl, o_shr, o_ush, o_rem, o_dup, o_dup2, o_gf, o_pf, o_pz, o_iald, o_iast, o_zald, o_zast, o_aald, o_gs, o_min, o_acp, o_call, o_callv, zgf, zpf, zia_, zza_, zra_, zrd_, zcp_, zpop, zsm8_0, zsm8_1, zsm8_2, zsm8_3, zsm8_4, zsm8_5, zrc, zisob, t_ieq, t_ilt, t_igt, t_zeq, t_zlt, t_zgt, t_sw, zsw, t_iret, t_zret, t_aret, t_vret, zrg, List.getElem?_cons_zero, List.getElem?_cons_succ, List.set_cons_zero, List.set_cons_succ, List.length_cons, List.length_nil, Option.toList_some, Option.toList_none, List.nil_append, List.cons_append, true_and, and_true, true_or, or_true, Int.cast_ofNat_Int, Int.natCast_zero, Int.natCast_one]
  have aux : ∀ (m s k : Nat), m < 131072 → s < 32 → k < 2 ^ 31 → zand (zush (m : Int) (s : Int)) (k : Int) = ((m / 2 ^ s &&& k : Nat) : Int) := fun m s k h1 h2 h3 => by
    have := Nat.div_le_self m (2 ^ s)
    rw [zush_nat h2 (by omega), zand_nat (by omega) h3]
  have e1 : (n : Int) - zand (zush n 1) 1431655765 = (zbc1 n : Int) := by
    have := aux n 1 1431655765 (by omega) (by omega) (by omega)
    have a1 : (n / 2 &&& 1431655765) ≤ n / 2 := Nat.and_le_left
    simp only [Int.cast_ofNat_Int, Int.natCast_one, Nat.pow_one] at this
    rw [this]
    unfold zbc1
    omega
  have b1 : zbc1 n < 65536 := by unfold zbc1; omega
  rw [e1]
  have e9 : zbcf n = zbc5 (zbc4 (zbc3 (zbc2 (zbc1 n)))) := rfl
  rw [← zbc_all h, e9]
  generalize zbc1 n = m1 at b1 ⊢
  have e2 : zand (m1 : Int) 858993459 + zand (zush m1 2) 858993459 = (zbc2 m1 : Int) := by
    have t1 := zand_nat (a := m1) (b := 858993459) (by omega) (by omega)
    have t2 := aux m1 2 858993459 (by omega) (by omega) (by omega)
    simp only [Int.cast_ofNat_Int] at t1 t2
    rw [t1, t2]
    unfold zbc2
    simp
  have b2 : zbc2 m1 < 131072 := by
    unfold zbc2
    have a1 : (m1 &&& 858993459) ≤ m1 := Nat.and_le_left
    have a2 : (m1 / 4 &&& 858993459) ≤ m1 / 4 := Nat.and_le_left
    omega
  rw [e2]
  generalize zbc2 m1 = m2 at b2 ⊢
  have e3 : zand ((m2 : Int) + zush m2 4) 252645135 = (zbc3 m2 : Int) := by
    have t1 := zush_nat (a := m2) (s := 4) (by omega) (by omega)
    simp only [Int.cast_ofNat_Int] at t1
    rw [t1]
    have t2 := zand_nat (a := m2 + m2 / 2 ^ 4) (b := 252645135) (by omega) (by omega)
    simp only [Int.cast_ofNat_Int, Int.natCast_add] at t2
    rw [t2]
    unfold zbc3
    simp
  have b3 : zbc3 m2 < 262144 := by
    unfold zbc3
    have a1 : ((m2 + m2 / 16) &&& 252645135) ≤ m2 + m2 / 16 := Nat.and_le_left
    omega
  rw [e3]
  generalize zbc3 m2 = m3 at b3 ⊢
  have e4 : (m3 : Int) + zush m3 8 = (zbc4 m3 : Int) := by
    have t1 := zush_nat (a := m3) (s := 8) (by omega) (by omega)
    simp only [Int.cast_ofNat_Int] at t1
    rw [t1]
    unfold zbc4
    simp
  have b4 : zbc4 m3 < 524288 := by unfold zbc4; omega
  rw [e4]
  generalize zbc4 m3 = m4 at b4 ⊢
  have e5 : zand ((m4 : Int) + zush m4 16) 63 = (zbc5 m4 : Int) := by
    have t1 := zush_nat (a := m4) (s := 16) (by omega) (by omega)
    simp only [Int.cast_ofNat_Int] at t1
    rw [t1]
    have t2 := zand_nat (a := m4 + m4 / 2 ^ 16) (b := 63) (by omega) (by omega)
    simp only [Int.cast_ofNat_Int, Int.natCast_add] at t2
    rw [t2]
    unfold zbc5
    simp
  rw [e5]
  exact ⟨rfl, rfl⟩
def zknd (o : Option (List Int)) : Int := zp_byte o 0
def zcnt (o : Option (List Int)) : Int := if zknd o = 1 ∨ zknd o = 2 then zp_byte o 1 else if zknd o = 3 then zpc (zp_byte o 1) else 0
def zlnk (o : Option (List Int)) (i : Int) : Int := if 1 ≤ zknd o ∧ zknd o ≤ 3 then zp_pair o (2 + (i + 1) * zpw (zknd o) - 2) else -1
def zpsz (o : Option (List Int)) (i : Int) : Int := zp_pair o (2 + i * 4)
def zptt (o : Option (List Int)) (i : Int) : Int := zp_byte o (2 + i * 3)
def zsum (f : Int → Int) : Nat → Int
  | 0 => 0
  | n + 1 => zsum f n + f n
def zlen (o : Option (List Int)) : Int := if zknd o = 0 then zp_size o - 1 else if zknd o = 1 then zsum (zpsz o) (zp_byte o 1).toNat else -1
/-- which two bits choose the way, s links down -/
def zway (title s : Int) : Int := (37 * title) % 256 / 4 ^ s.toNat % 4
theorem zSH.byt {μ : zM} {k : Nat} {n : Int} {L : List zBk} (h : zSH μ k n L) (s i : Int) : -1 ≤ zp_byte (zoat L s) i ∧ zp_byte (zoat L s) i ≤ 255 := zp_byte_rg (fun bs hb => (h.oat s bs hb).2) i
theorem zSH.pair {μ : zM} {k : Nat} {n : Int} {L : List zBk} (h : zSH μ k n L) (s i : Int) : -257 ≤ zp_pair (zoat L s) i ∧ zp_pair (zoat L s) i ≤ 65535 := by
  have h1 := h.byt s i
  have h2 := h.byt s (i + 1)
  unfold zp_pair
  split <;> omega
set_option maxRecDepth 100000 in
set_option maxHeartbeats 4000000 in
theorem c_X2_isFile {d : Nat} {μ : zM} {k : Nat} {n slot : Int} {L : List zBk} (hd : 1 ≤ d) (h : zSH μ k n L) (hs : zrg slot) : zCt d mX2_isFile [.inr (some k), .inl slot] μ (zR (.inl (if zknd (zoat L slot) = 0 ∨ zknd (zoat L slot) = 1 then 1 else 0)) μ) := by
  have hb := h.byt slot 0
  refine of_X2_isFile hd (fun G hG => s_X2_isFile_0 hG ?_)
  simp only [b_X2_isFile_0, b_X2_isFile_10, b_X2_isFile_15, b_X2_isFile_19, b_X2_isFile_20, o_c, o_il, o_al, o_is, o_as, o_inc, o_add, o_sub, o_mul, o_and, o_or, o_xor, o_shl, o_shr, o_ush, o_rem, o_dup, o_dup2, o_gf, o_pf, o_pz, o_iald, o_iast, o_zald, o_zast, o_aald, o_gs, o_min, o_acp, o_call, o_callv, zgf, zpf, zia_, zza_, zra_, zrd_, zcp_, zpop, zsm8_0, zsm8_1, zsm8_2, zsm8_3, zsm8_4, zsm8_5, zrc, zisob, t_ieq, t_ilt, t_igt, t_zeq, t_zlt, t_zgt, t_sw, zsw, t_iret, t_zret, t_aret, t_vret, zrg, List.getElem?_cons_zero, List.getElem?_cons_succ, List.set_cons_zero, List.set_cons_succ, List.length_cons, List.length_nil, Option.toList_some, Option.toList_none, List.nil_append, List.cons_append, true_and, and_true, true_or, or_true, Int.cast_ofNat_Int, Int.natCast_zero, Int.natCast_one, h.1.ob]
  refine zcall (c_X6_kindAt h hs) ?_
  simp only [b_X2_isFile_0, b_X2_isFile_10, b_X2_isFile_15, b_X2_isFile_19, b_X2_isFile_20, o_c, o_il, o_al, o_is, o_as, o_inc, o_add, o_sub, o_mul, o_and, o_or, o_xor, o_shl, o_shr, o_ush, o_rem, o_dup, o_dup2, o_gf, o_pf, o_pz, o_iald, o_iast, o_zald, o_zast, o_aald, o_gs, o_min, o_acp, o_call, o_callv, zgf, zpf, zia_, zza_, zra_, zrd_, zcp_, zpop, zsm8_0, zsm8_1, zsm8_2, zsm8_3, zsm8_4, zsm8_5, zrc, zisob, t_ieq, t_ilt, t_igt, t_zeq, t_zlt, t_zgt, t_sw, zsw, t_iret, t_zret, t_aret, t_vret, zrg, List.getElem?_cons_zero, List.getElem?_cons_succ, List.set_cons_zero, List.set_cons_succ, List.length_cons, List.length_nil, Option.toList_some, Option.toList_none, List.nil_append, List.cons_append, true_and, and_true, true_or, or_true, Int.cast_ofNat_Int, Int.natCast_zero, Int.natCast_one, h.1.ob]
  unfold zknd
  split <;> repeat' (first | with_reducible apply And.intro | intro _)
  all_goals first | omega | rfl | trivial | decide | (exfalso; omega)
set_option maxRecDepth 100000 in
set_option maxHeartbeats 4000000 in
theorem c_X2_isFolderOrShard {d : Nat} {μ : zM} {k : Nat} {n slot : Int} {L : List zBk} (hd : 1 ≤ d) (h : zSH μ k n L) (hs : zrg slot) : zCt d mX2_isFolderOrShard [.inr (some k), .inl slot] μ (zR (.inl (if zknd (zoat L slot) = 2 ∨ zknd (zoat L slot) = 3 then 1 else 0)) μ) := by
  have hb := h.byt slot 0
  refine of_X2_isFolderOrShard hd (fun G hG => s_X2_isFolderOrShard_0 hG ?_)
  simp only [b_X2_isFolderOrShard_0, b_X2_isFolderOrShard_11, b_X2_isFolderOrShard_16, b_X2_isFolderOrShard_20, b_X2_isFolderOrShard_21, o_c, o_il, o_al, o_is, o_as, o_inc, o_add, o_sub, o_mul, o_and, o_or, o_xor, o_shl, o_shr, o_ush, o_rem, o_dup, o_dup2, o_gf, o_pf, o_pz, o_iald, o_iast, o_zald, o_zast, o_aald, o_gs, o_min, o_acp, o_call, o_callv, zgf, zpf, zia_, zza_, zra_, zrd_, zcp_, zpop, zsm8_0, zsm8_1, zsm8_2, zsm8_3, zsm8_4, zsm8_5, zrc, zisob, t_ieq, t_ilt, t_igt, t_zeq, t_zlt, t_zgt, t_sw, zsw, t_iret, t_zret, t_aret, t_vret, zrg, List.getElem?_cons_zero, List.getElem?_cons_succ, List.set_cons_zero, List.set_cons_succ, List.length_cons, List.length_nil, Option.toList_some, Option.toList_none, List.nil_append, List.cons_append, true_and, and_true, true_or, or_true, Int.cast_ofNat_Int, Int.natCast_zero, Int.natCast_one, h.1.ob]
  refine zcall (c_X6_kindAt h hs) ?_
  simp only [b_X2_isFolderOrShard_0, b_X2_isFolderOrShard_11, b_X2_isFolderOrShard_16, b_X2_isFolderOrShard_20, b_X2_isFolderOrShard_21, o_c, o_il, o_al, o_is, o_as, o_inc, o_add, o_sub, o_mul, o_and, o_or, o_xor, o_shl, o_shr, o_ush, o_rem, o_dup, o_dup2, o_gf, o_pf, o_pz, o_iald, o_iast, o_zald, o_zast, o_aald, o_gs, o_min, o_acp, o_call, o_callv, zgf, zpf, zia_, zza_, zra_, zrd_, zcp_, zpop, zsm8_0, zsm8_1, zsm8_2, zsm8_3, zsm8_4, zsm8_5, zrc, zisob, t_ieq, t_ilt, t_igt, t_zeq, t_zlt, t_zgt, t_sw, zsw, t_iret, t_zret, t_aret, t_vret, zrg, List.getElem?_cons_zero, List.getElem?_cons_succ, List.set_cons_zero, List.set_cons_succ, List.length_cons, List.length_nil, Option.toList_some, Option.toList_none, List.nil_append, List.cons_append, true_and, and_true, true_or, or_true, Int.cast_ofNat_Int, Int.natCast_zero, Int.natCast_one, h.1.ob]
  unfold zknd
  split <;> repeat' (first | with_reducible apply And.intro | intro _)
  all_goals first | omega | rfl | trivial | decide | (exfalso; omega)
set_option maxRecDepth 100000 in
set_option maxHeartbeats 4000000 in
theorem c_X2_partCount {d : Nat} {μ : zM} {k : Nat} {n slot : Int} {L : List zBk} (hd : 1 ≤ d) (h : zSH μ k n L) (hs : zrg slot) (h3 : zknd (zoat L slot) = 3 → 0 ≤ zp_byte (zoat L slot) 1) : zCt d mX2_partCount [.inr (some k), .inl slot] μ (zR (.inl (zcnt (zoat L slot))) μ) := by
  have hb := h.byt slot 0
  have hb1 := h.byt slot 1
  refine of_X2_partCount hd (fun G hG => s_X2_partCount_0 hG ?_)
  simp only [b_X2_partCount_0, b_X2_partCount_32, b_X2_partCount_39, b_X2_partCount_49, o_c, o_il, o_al, o_is, o_as, o_inc, o_add, o_sub, o_mul, o_and, o_or, o_xor, o_shl, o_shr, o_ush, o_rem, o_dup, o_dup2, o_gf, o_pf, o_pz, o_iald, o_iast, o_zald, o_zast, o_aald, o_gs, o_min, o_acp, o_call, o_callv, zgf, zpf, zia_, zza_, zra_, zrd_, zcp_, zpop, zsm8_0, zsm8_1, zsm8_2, zsm8_3, zsm8_4, zsm8_5, zrc, zisob, t_ieq, t_ilt, t_igt, t_zeq, t_zlt, t_zgt, t_sw, zsw, t_iret, t_zret, t_aret, t_vret, zrg, List.getElem?_cons_zero, List.getElem?_cons_succ, List.set_cons_zero, List.set_cons_succ, List.length_cons, List.length_nil, Option.toList_some, Option.toList_none, List.nil_append, List.cons_append, true_and, and_true, true_or, or_true, Int.cast_ofNat_Int, Int.natCast_zero, Int.natCast_one, h.1.ob]
  refine zcall (c_X6_kindAt h hs) ?_
  simp only [b_X2_partCount_0, b_X2_partCount_32, b_X2_partCount_39, b_X2_partCount_49, o_c, o_il, o_al, o_is, o_as, o_inc, o_add, o_sub, o_mul, o_and, o_or, o_xor, o_shl, o_shr, o_ush, o_rem, o_dup, o_dup2, o_gf, o_pf, o_pz, o_iald, o_iast, o_zald, o_zast, o_aald, o_gs, o_min, o_acp, o_call, o_callv, zgf, zpf, zia_, zza_, zra_, zrd_, zcp_, zpop, zsm8_0, zsm8_1, zsm8_2, zsm8_3, zsm8_4, zsm8_5, zrc, zisob, t_ieq, t_ilt, t_igt, t_zeq, t_zlt, t_zgt, t_sw, zsw, t_iret, t_zret, t_aret, t_vret, zrg, List.getElem?_cons_zero, List.getElem?_cons_succ, List.set_cons_zero, List.set_cons_succ, List.length_cons, List.length_nil, Option.toList_some, Option.toList_none, List.nil_append, List.cons_append, true_and, and_true, true_or, or_true, Int.cast_ofNat_Int, Int.natCast_zero, Int.natCast_one, h.1.ob]
  unfold zcnt zknd
  unfold zknd at h3
  refine ⟨by omega, fun e => ?_, fun e1 => ⟨fun e => ?_, fun e2 => ⟨fun e => ?_, fun e3 => ?_⟩⟩⟩
  · refine zcall (c_X6_byteAt h hs (i := 1) ⟨by omega, by omega⟩) ?_
    simp only [b_X2_partCount_0, b_X2_partCount_32, b_X2_partCount_39, b_X2_partCount_49, o_c, o_il, o_al, o_is, o_as, o_inc, o_add, o_sub, o_mul, o_and, o_or, o_xor, o_shl, o_shr, o_ush, o_rem, o_dup, o_dup2, o_gf, o_pf, o_pz, o_iald, o_iast, o_zald, o_zast, o_aald, o_gs, o_min, o_acp, o_call, o_callv, zgf, zpf, zia_, zza_, zra_, zrd_, zcp_, zpop, zsm8_0, zsm8_1, zsm8_2, zsm8_3, zsm8_4, zsm8_5, zrc, zisob, t_ieq, t_ilt, t_igt, t_zeq, t_zlt, t_zgt, t_sw, zsw, t_iret, t_zret, t_aret, t_vret, zrg, List.getElem?_cons_zero, List.getElem?_cons_succ, List.set_cons_zero, List.set_cons_succ, List.length_cons, List.length_nil, Option.toList_some, Option.toList_none, List.nil_append, List.cons_append, true_and, and_true, true_or, or_true, Int.cast_ofNat_Int, Int.natCast_zero, Int.natCast_one, h.1.ob]
    rw [if_pos (Or.inl e)]
    exact ⟨rfl, rfl⟩
  · refine zcall (c_X6_byteAt h hs (i := 1) ⟨by omega, by omega⟩) ?_
    simp only [b_X2_partCount_0, b_X2_partCount_32, b_X2_partCount_39, b_X2_partCount_49, o_c, o_il, o_al, o_is, o_as, o_inc, o_add, o_sub, o_mul, o_and, o_or, o_xor, o_shl, o_shr, o_ush, o_rem, o_dup, o_dup2, o_gf, o_pf, o_pz, o_iald, o_iast, o_zald, o_zast, o_aald, o_gs, o_min, o_acp, o_call, o_callv, zgf, zpf, zia_, zza_, zra_, zrd_, zcp_, zpop, zsm8_0, zsm8_1, zsm8_2, zsm8_3, zsm8_4, zsm8_5, zrc, zisob, t_ieq, t_ilt, t_igt, t_zeq, t_zlt, t_zgt, t_sw, zsw, t_iret, t_zret, t_aret, t_vret, zrg, List.getElem?_cons_zero, List.getElem?_cons_succ, List.set_cons_zero, List.set_cons_succ, List.length_cons, List.length_nil, Option.toList_some, Option.toList_none, List.nil_append, List.cons_append, true_and, and_true, true_or, or_true, Int.cast_ofNat_Int, Int.natCast_zero, Int.natCast_one, h.1.ob]
    rw [if_pos (Or.inr e)]
    exact ⟨rfl, rfl⟩
  · refine zcall (c_X6_byteAt h hs (i := 1) ⟨by omega, by omega⟩) ?_
    simp only [b_X2_partCount_0, b_X2_partCount_32, b_X2_partCount_39, b_X2_partCount_49, o_c, o_il, o_al, o_is, o_as, o_inc, o_add, o_sub, o_mul, o_and, o_or, o_xor, o_shl, o_shr, o_ush, o_rem, o_dup, o_dup2, o_gf, o_pf, o_pz, o_iald, o_iast, o_zald, o_zast, o_aald, o_gs, o_min, o_acp, o_call, o_callv, zgf, zpf, zia_, zza_, zra_, zrd_, zcp_, zpop, zsm8_0, zsm8_1, zsm8_2, zsm8_3, zsm8_4, zsm8_5, zrc, zisob, t_ieq, t_ilt, t_igt, t_zeq, t_zlt, t_zgt, t_sw, zsw, t_iret, t_zret, t_aret, t_vret, zrg, List.getElem?_cons_zero, List.getElem?_cons_succ, List.set_cons_zero, List.set_cons_succ, List.length_cons, List.length_nil, Option.toList_some, Option.toList_none, List.nil_append, List.cons_append, true_and, and_true, true_or, or_true, Int.cast_ofNat_Int, Int.natCast_zero, Int.natCast_one, h.1.ob]
    obtain ⟨q, hq⟩ := Int.eq_ofNat_of_zero_le (h3 e)
    rw [hq]
    refine zcall (c_J6_bitCount (by omega)) ?_
    simp only [b_X2_partCount_0, b_X2_partCount_32, b_X2_partCount_39, b_X2_partCount_49, o_c, o_il, o_al, o_is, o_as, o_inc, o_add, o_sub, o_mul, o_and, o_or, o_xor, o_shl, o_shr, o_ush, o_rem, o_dup, o_dup2, o_gf, o_pf, o_pz, o_iald, o_iast, o_zald, o_zast, o_aald, o_gs, o_min, o_acp, o_call, o_callv, zgf, zpf, zia_, zza_, zra_, zrd_, zcp_, zpop, zsm8_0, zsm8_1, zsm8_2, zsm8_3, zsm8_4, zsm8_5, zrc, zisob, t_ieq, t_ilt, t_igt, t_zeq, t_zlt, t_zgt, t_sw, zsw, t_iret, t_zret, t_aret, t_vret, zrg, List.getElem?_cons_zero, List.getElem?_cons_succ, List.set_cons_zero, List.set_cons_succ, List.length_cons, List.length_nil, Option.toList_some, Option.toList_none, List.nil_append, List.cons_append, true_and, and_true, true_or, or_true, Int.cast_ofNat_Int, Int.natCast_zero, Int.natCast_one, h.1.ob]
    rw [if_neg (by omega), if_pos e]
    exact ⟨rfl, rfl⟩
  · rw [if_neg (by omega), if_neg (by omega)]
    exact ⟨rfl, rfl⟩
theorem zpw_rg (x : Int) : 0 ≤ zpw x ∧ zpw x ≤ 4 := by
  unfold zpw
  split
  · omega
  · split
    · omega
    · split <;> omega
set_option maxRecDepth 100000 in
set_option maxHeartbeats 4000000 in
theorem c_X2_linkAt {d : Nat} {μ : zM} {k : Nat} {n slot i : Int} {L : List zBk} (hd : 1 ≤ d) (h : zSH μ k n L) (hs : zrg slot) (hi : -1 ≤ i ∧ i ≤ 1000) : zCt d mX2_linkAt [.inr (some k), .inl slot, .inl i] μ (zR (.inl (zlnk (zoat L slot) i)) μ) := by
  have hb := h.byt slot 0
  refine of_X2_linkAt hd (fun G hG => s_X2_linkAt_0 hG ?_)
  simp only [b_X2_linkAt_0, b_X2_linkAt_10, b_X2_linkAt_15, b_X2_linkAt_17, o_c, o_il, o_al, o_is, o_as, o_inc, o_add, o_sub, o_mul, o_and, o_or, o_xor, o_shl, o_shr, o_ush, o_rem, o_dup, o_dup2, o_gf, o_pf, o_pz, o_iald, o_iast, o_zald, o_zast, o_aald, o_gs, o_min, o_acp, o_call, o_callv, zgf, zpf, zia_, zza_, zra_, zrd_, zcp_, zpop, zsm8_0, zsm8_1, zsm8_2, zsm8_3, zsm8_4, zsm8_5, zrc, zisob, t_ieq, t_ilt, t_igt, t_zeq, t_zlt, t_zgt, t_sw, zsw, t_iret, t_zret, t_aret, t_vret, zrg, List.getElem?_cons_zero, List.getElem?_cons_succ, List.set_cons_zero, List.set_cons_succ, List.length_cons, List.length_nil, Option.toList_some, Option.toList_none, List.nil_append, List.cons_append, true_and, and_true, true_or, or_true, Int.cast_ofNat_Int, Int.natCast_zero, Int.natCast_one, h.1.ob, zsh_1000]
  refine zcall (c_X6_kindAt h hs) ?_
  simp only [b_X2_linkAt_0, b_X2_linkAt_10, b_X2_linkAt_15, b_X2_linkAt_17, o_c, o_il, o_al, o_is, o_as, o_inc, o_add, o_sub, o_mul, o_and, o_or, o_xor, o_shl, o_shr, o_ush, o_rem, o_dup, o_dup2, o_gf, o_pf, o_pz, o_iald, o_iast, o_zald, o_zast, o_aald, o_gs, o_min, o_acp, o_call, o_callv, zgf, zpf, zia_, zza_, zra_, zrd_, zcp_, zpop, zsm8_0, zsm8_1, zsm8_2, zsm8_3, zsm8_4, zsm8_5, zrc, zisob, t_ieq, t_ilt, t_igt, t_zeq, t_zlt, t_zgt, t_sw, zsw, t_iret, t_zret, t_aret, t_vret, zrg, List.getElem?_cons_zero, List.getElem?_cons_succ, List.set_cons_zero, List.set_cons_succ, List.length_cons, List.length_nil, Option.toList_some, Option.toList_none, List.nil_append, List.cons_append, true_and, and_true, true_or, or_true, Int.cast_ofNat_Int, Int.natCast_zero, Int.natCast_one, h.1.ob, zsh_1000]
  unfold zlnk zknd
  by_cases hc : 1 ≤ zp_byte (zoat L slot) 0 ∧ zp_byte (zoat L slot) 0 ≤ 3
  · rw [if_pos hc]
    refine ⟨by omega, fun _ => ⟨by omega, by omega, fun _ => by omega, fun _ => ⟨by omega, ?_⟩⟩, fun _ => by omega⟩
    have hw := zpw_rg (zp_byte (zoat L slot) 0)
    have hw2 : -100000 ≤ (i + 1) * zpw (zp_byte (zoat L slot) 0) ∧ (i + 1) * zpw (zp_byte (zoat L slot) 0) ≤ 100000 := by
      generalize zpw (zp_byte (zoat L slot) 0) = w at hw
      have hw4 : w = 0 ∨ w = 1 ∨ w = 2 ∨ w = 3 ∨ w = 4 := by omega
      rcases hw4 with rfl | rfl | rfl | rfl | rfl <;> omega
    refine zcall (c_X6_pairAt h hs ⟨by omega, by omega⟩) ?_
    simp only [b_X2_linkAt_0, b_X2_linkAt_10, b_X2_linkAt_15, b_X2_linkAt_17, o_c, o_il, o_al, o_is, o_as, o_inc, o_add, o_sub, o_mul, o_and, o_or, o_xor, o_shl, o_shr, o_ush, o_rem, o_dup, o_dup2, o_gf, o_pf, o_pz, o_iald, o_iast, o_zald, o_zast, o_aald, o_gs, o_min, o_acp, o_call, o_callv, zgf, zpf, zia_, zza_, zra_, zrd_, zcp_, zpop, zsm8_0, zsm8_1, zsm8_2, zsm8_3, zsm8_4, zsm8_5, zrc, zisob, t_ieq, t_ilt, t_igt, t_zeq, t_zlt, t_zgt, t_sw, zsw, t_iret, t_zret, t_aret, t_vret, zrg, List.getElem?_cons_zero, List.getElem?_cons_succ, List.set_cons_zero, List.set_cons_succ, List.length_cons, List.length_nil, Option.toList_some, Option.toList_none, List.nil_append, List.cons_append, true_and, and_true, true_or, or_true, Int.cast_ofNat_Int, Int.natCast_zero, Int.natCast_one, h.1.ob, zsh_1000]
    exact ⟨rfl, rfl⟩
  · rw [if_neg hc]
    repeat' (first | with_reducible apply And.intro | intro _)
    all_goals first | omega | rfl | trivial | decide | (exfalso; omega)
set_option maxRecDepth 100000 in
set_option maxHeartbeats 4000000 in
theorem c_X2_partSize {d : Nat} {μ : zM} {k : Nat} {n slot i : Int} {L : List zBk} (hd : 1 ≤ d) (h : zSH μ k n L) (hs : zrg slot) (hi : -1 ≤ i ∧ i ≤ 1000) : zCt d mX2_partSize [.inr (some k), .inl slot, .inl i] μ (zR (.inl (zpsz (zoat L slot) i)) μ) := by
  refine of_X2_partSize hd (fun G hG => s_X2_partSize_0 hG ?_)
  simp only [b_X2_partSize_0, o_c, o_il, o_al, o_is, o_as, o_inc, o_add, o_sub, o_mul, o_and, o_or, o_xor, o_shl, o_shr, o_ush, o_rem, o_dup, o_dup2, o_gf, o_pf, o_pz, o_iald, o_iast, o_zald, o_zast, o_aald, o_gs, o_min, o_acp, o_call, o_callv, zgf, zpf, zia_, zza_, zra_, zrd_, zcp_, zpop, zsm8_0, zsm8_1, zsm8_2, zsm8_3, zsm8_4, zsm8_5, zrc, zisob, t_ieq, t_ilt, t_igt, t_zeq, t_zlt, t_zgt, t_sw, zsw, t_iret, t_zret, t_aret, t_vret, zrg, List.getElem?_cons_zero, List.getElem?_cons_succ, List.set_cons_zero, List.set_cons_succ, List.length_cons, List.length_nil, Option.toList_some, Option.toList_none, List.nil_append, List.cons_append, true_and, and_true, true_or, or_true, Int.cast_ofNat_Int, Int.natCast_zero, Int.natCast_one, h.1.ob, zsh_1000]
  refine ⟨by omega, ?_⟩
  have e : zpw 1 = 4 := rfl
  rw [e]
  refine zcall (c_X6_pairAt h hs ⟨by omega, by omega⟩) ?_
  simp only [b_X2_partSize_0, o_c, o_il, o_al, o_is, o_as, o_inc, o_add, o_sub, o_mul, o_and, o_or, o_xor, o_shl, o_shr, o_ush, o_rem, o_dup, o_dup2, o_gf, o_pf, o_pz, o_iald, o_iast, o_zald, o_zast, o_aald, o_gs, o_min, o_acp, o_call, o_callv, zgf, zpf, zia_, zza_, zra_, zrd_, zcp_, zpop, zsm8_0, zsm8_1, zsm8_2, zsm8_3, zsm8_4, zsm8_5, zrc, zisob, t_ieq, t_ilt, t_igt, t_zeq, t_zlt, t_zgt, t_sw, zsw, t_iret, t_zret, t_aret, t_vret, zrg, List.getElem?_cons_zero, List.getElem?_cons_succ, List.set_cons_zero, List.set_cons_succ, List.length_cons, List.length_nil, Option.toList_some, Option.toList_none, List.nil_append, List.cons_append, true_and, and_true, true_or, or_true, Int.cast_ofNat_Int, Int.natCast_zero, Int.natCast_one, h.1.ob, zsh_1000]
  exact ⟨rfl, rfl⟩
set_option maxRecDepth 100000 in
set_option maxHeartbeats 4000000 in
theorem c_X2_partTitle {d : Nat} {μ : zM} {k : Nat} {n slot i : Int} {L : List zBk} (hd : 1 ≤ d) (h : zSH μ k n L) (hs : zrg slot) (hi : -1 ≤ i ∧ i ≤ 1000) : zCt d mX2_partTitle [.inr (some k), .inl slot, .inl i] μ (zR (.inl (zptt (zoat L slot) i)) μ) := by
  refine of_X2_partTitle hd (fun G hG => s_X2_partTitle_0 hG ?_)
  simp only [b_X2_partTitle_0, o_c, o_il, o_al, o_is, o_as, o_inc, o_add, o_sub, o_mul, o_and, o_or, o_xor, o_shl, o_shr, o_ush, o_rem, o_dup, o_dup2, o_gf, o_pf, o_pz, o_iald, o_iast, o_zald, o_zast, o_aald, o_gs, o_min, o_acp, o_call, o_callv, zgf, zpf, zia_, zza_, zra_, zrd_, zcp_, zpop, zsm8_0, zsm8_1, zsm8_2, zsm8_3, zsm8_4, zsm8_5, zrc, zisob, t_ieq, t_ilt, t_igt, t_zeq, t_zlt, t_zgt, t_sw, zsw, t_iret, t_zret, t_aret, t_vret, zrg, List.getElem?_cons_zero, List.getElem?_cons_succ, List.set_cons_zero, List.set_cons_succ, List.length_cons, List.length_nil, Option.toList_some, Option.toList_none, List.nil_append, List.cons_append, true_and, and_true, true_or, or_true, Int.cast_ofNat_Int, Int.natCast_zero, Int.natCast_one, h.1.ob, zsh_1000]
  refine ⟨by omega, ?_⟩
  have e : zpw 2 = 3 := rfl
  rw [e]
  refine zcall (c_X6_byteAt h hs ⟨by omega, by omega⟩) ?_
  simp only [b_X2_partTitle_0, o_c, o_il, o_al, o_is, o_as, o_inc, o_add, o_sub, o_mul, o_and, o_or, o_xor, o_shl, o_shr, o_ush, o_rem, o_dup, o_dup2, o_gf, o_pf, o_pz, o_iald, o_iast, o_zald, o_zast, o_aald, o_gs, o_min, o_acp, o_call, o_callv, zgf, zpf, zia_, zza_, zra_, zrd_, zcp_, zpop, zsm8_0, zsm8_1, zsm8_2, zsm8_3, zsm8_4, zsm8_5, zrc, zisob, t_ieq, t_ilt, t_igt, t_zeq, t_zlt, t_zgt, t_sw, zsw, t_iret, t_zret, t_aret, t_vret, zrg, List.getElem?_cons_zero, List.getElem?_cons_succ, List.set_cons_zero, List.set_cons_succ, List.length_cons, List.length_nil, Option.toList_some, Option.toList_none, List.nil_append, List.cons_append, true_and, and_true, true_or, or_true, Int.cast_ofNat_Int, Int.natCast_zero, Int.natCast_one, h.1.ob, zsh_1000]
  exact ⟨rfl, rfl⟩
set_option maxRecDepth 100000 in
set_option maxHeartbeats 4000000 in
theorem c_X2_wayOf {d s : Nat} {μ : zM} {t : Int} (hs : s ≤ 4) : zCt d mX2_wayOf [.inl t, .inl (s : Int)] μ (zR (.inl (zway t s)) μ) := by
  refine of_X2_wayOf (fun G hG => s_X2_wayOf_0 hG ?_)
  simp only [b_X2_wayOf_0, o_c, o_il, o_al, o_is, o_as, o_inc, o_add, o_sub, o_mul, o_and, o_or, o_xor, o_shl, o_shr, o_ush, o_rem, o_dup, o_dup2, o_gf, o_pf, o_pz, o_iald, o_iast, o_zald, o_zast, o_aald, o_gs, o_min, o_acp, o_call, o_callv, zgf, zpf, zia_, zza_, zra_, zrd_, zcp_, zpop, zsm8_0, zsm8_1, zsm8_2, zsm8_3, zsm8_4, zsm8_5, zrc, zisob, t_ieq, t_ilt, t_igt, t_zeq, t_zlt, t_zgt, t_sw, zsw, t_iret, t_zret, t_aret, t_vret, zrg, List.getElem?_cons_zero, List.getElem?_cons_succ, List.set_cons_zero, List.set_cons_succ, List.length_cons, List.length_nil, Option.toList_some, Option.toList_none, List.nil_append, List.cons_append, true_and, and_true, true_or, or_true, Int.cast_ofNat_Int, Int.natCast_zero, Int.natCast_one]
  have e1 : zand (37 * t) 255 = 37 * t % 256 := zand_m 8 (by omega) (by decide)
  obtain ⟨q, hq⟩ := Int.eq_ofNat_of_zero_le (show 0 ≤ 37 * t % 256 by omega)
  have hq2 : q < 256 := by omega
  have e2 : zshr (q : Int) (2 * s) = ((q / 2 ^ (2 * s) : Nat) : Int) := by
    have := zshr_nat (a := q) (s := 2 * s) (by omega) (by omega)
    simpa using this
  have e3 : zand ((q / 2 ^ (2 * s) : Nat) : Int) 3 = ((q / 2 ^ (2 * s) : Nat) : Int) % 4 := zand_m 2 (by omega) (by decide)
  rw [e1, hq, e2, e3]
  unfold zway
  rw [hq, Nat.pow_mul]
  exact ⟨by simp, rfl⟩
