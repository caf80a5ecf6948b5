/-! SHELVES: a byte is changed, a place goes -/
set_option maxRecDepth 100000 in
set_option maxHeartbeats 4000000 in
theorem c_X6_removeSlot {d : Nat} {μ : zM} {k s : Nat} {n : Int} {L : List zBk} (hd : 1 ≤ d) (h : zSH μ k n L) (hs : s < L.length) : zCt d mX6_removeSlot [.inr (some k), .inl (s : Int)] μ (fun r μ' => r = none ∧ zSH μ' k n (L.eraseIdx s) ∧ zfr [k, k + 1, k + 2, k + 3] μ μ') := by
  have hh := h
  obtain ⟨hk, h0, h4, hle, hok, hat⟩ := h
  have hn := hk.n
  refine of_X6_removeSlot hd (fun G hG => s_X6_removeSlot_0 hG ?_)
  simp only [b_X6_removeSlot_0, b_X6_removeSlot_8, b_X6_removeSlot_9, o_c, o_il, o_al, o_is, o_as, o_inc, o_add, o_sub, o_mul, o_and, o_or, o_xor, o_shl, o_shr, o_ush, o_rem, o_dup, o_dup2, o_gf, o_pf, o_pz, o_iald, o_iast, o_zald, o_zast, o_aald, o_gs, o_min, o_acp, o_call, o_callv, zgf, zpf, zia_, zza_, zra_, zrd_, zcp_, zpop, zsm8_0, zsm8_1, zsm8_2, zsm8_3, zsm8_4, zsm8_5, zrc, zisob, t_ieq, t_ilt, t_igt, t_zeq, t_zlt, t_zgt, t_sw, zsw, t_iret, t_zret, t_aret, t_vret, zrg, List.getElem?_cons_zero, List.getElem?_cons_succ, List.set_cons_zero, List.set_cons_succ, List.length_cons, List.length_nil, Option.toList_some, Option.toList_none, List.nil_append, List.cons_append, true_and, and_true, true_or, or_true, Int.cast_ofNat_Int, Int.natCast_zero, Int.natCast_one, hk.ob, hk.c1, hk.c2, hk.c3]
  refine zcall (c_X6_hasSlot hh (s := s) ⟨by omega, by omega⟩) ?_
  simp only [b_X6_removeSlot_0, b_X6_removeSlot_8, b_X6_removeSlot_9, o_c, o_il, o_al, o_is, o_as, o_inc, o_add, o_sub, o_mul, o_and, o_or, o_xor, o_shl, o_shr, o_ush, o_rem, o_dup, o_dup2, o_gf, o_pf, o_pz, o_iald, o_iast, o_zald, o_zast, o_aald, o_gs, o_min, o_acp, o_call, o_callv, zgf, zpf, zia_, zza_, zra_, zrd_, zcp_, zpop, zsm8_0, zsm8_1, zsm8_2, zsm8_3, zsm8_4, zsm8_5, zrc, zisob, t_ieq, t_ilt, t_igt, t_zeq, t_zlt, t_zgt, t_sw, zsw, t_iret, t_zret, t_aret, t_vret, zrg, List.getElem?_cons_zero, List.getElem?_cons_succ, List.set_cons_zero, List.set_cons_succ, List.length_cons, List.length_nil, Option.toList_some, Option.toList_none, List.nil_append, List.cons_append, true_and, and_true, true_or, or_true, Int.cast_ofNat_Int, Int.natCast_zero, Int.natCast_one, hk.ob, hk.c1, hk.c2, hk.c3]
  unfold zhas
  rw [if_pos (by omega : 0 ≤ (s : Int) ∧ (s : Int) < L.length)]
  refine ⟨by omega, fun w => by omega, fun _ => ⟨by omega, by omega, by omega, ?_, ?_⟩⟩
  · generalize hc : (μ k 4 - (s : Int) - 1) = bh
    have hbh : bh = L.length - s - 1 := by omega
    refine ⟨hk, by simp [zup, zcp, h0], ?_, ?_, ?_, ?_⟩
    · have e : (L.eraseIdx s).length = L.length - 1 := List.length_eraseIdx_of_lt hs
      simp [zup, zcp, h4, e]
      omega
    · have e : (L.eraseIdx s).length = L.length - 1 := List.length_eraseIdx_of_lt hs
      rw [e]; omega
    · intro b hb
      exact hok b (List.mem_of_mem_eraseIdx hb)
    · intro i b hb
      rw [List.getElem?_eraseIdx] at hb
      split at hb
      · rename_i hi
        obtain ⟨a1, a2, a3⟩ := hat i b hb
        have hl := (hok b (List.mem_of_getElem? hb)).2.1
        refine ⟨?_, ?_, fun j x hj => ?_⟩
        · have : ¬ ((s : Int) ≤ i) := by omega
          simp [zup, zcp, this, a1]
        · have : ¬ ((s : Int) ≤ i) := by omega
          simp [zup, zcp, this, a2]
        · have hj2 := (List.getElem?_eq_some_iff.mp hj).1
          have : ¬ ((s : Int) * 18 ≤ i * 18 + j) := by omega
          simp [zup, zcp, this, a3 j x hj]
      · rename_i hi
        have hi2 : i + 1 < L.length := (List.getElem?_eq_some_iff.mp hb).1
        obtain ⟨a1, a2, a3⟩ := hat (i + 1) b hb
        have hl := (hok b (List.mem_of_getElem? hb)).2.1
        have q1 : (s : Int) ≤ i := by omega
        have q2 : (i : Int) < s + bh := by omega
        have q3 : (s : Int) + 1 + (i - s) = ((i + 1 : Nat) : Int) := by omega
        refine ⟨?_, ?_, fun j x hj => ?_⟩
        · simp only [zup, zcp]
          simp [q1, q2, q3]
          exact a1
        · simp only [zup, zcp]
          simp [q1, q2, q3]
          exact a2
        · have hj2 := (List.getElem?_eq_some_iff.mp hj).1
          have q4 : (s : Int) * 18 ≤ i * 18 + j := by omega
          have q5 : (i : Int) * 18 + j < s * 18 + bh * 18 := by omega
          have q6 : ((s : Int) + 1) * 18 + (i * 18 + j - s * 18) = ((i + 1 : Nat) : Int) * 18 + j := by omega
          simp only [zup, zcp]
          simp [q4, q5, q6]
          have := a3 j x hj
          simpa using this
  · intro c hc
    simp only [List.mem_cons, List.not_mem_nil, or_false, not_or] at hc
    funext i
    simp [zup, zcp, hc.1, hc.2.1, hc.2.2.1, hc.2.2.2]
set_option maxRecDepth 100000 in
set_option maxHeartbeats 4000000 in
theorem c_X6_changeByte {d : Nat} {μ : zM} {k s j : Nat} {n bv : Int} {L : List zBk} {b : zBk} (hd : 1 ≤ d) (h : zSH μ k n L) (hb : L[s]? = some b) (hj : j < b.2.length) (hv : 0 ≤ bv ∧ bv ≤ 255) : zCt d mX6_changeByte [.inr (some k), .inl (s : Int), .inl (j : Int), .inl bv] μ (fun r μ' => r = none ∧ zSH μ' k n (L.set s (zhash (b.2.set j bv), b.2.set j bv)) ∧ zfr [k, k + 1, k + 2, k + 3] μ μ') := by
  have hh := h
  obtain ⟨hk, h0, h4, hle, hok, hat⟩ := h
  have hn := hk.n
  have hsl : s < L.length := (List.getElem?_eq_some_iff.mp hb).1
  obtain ⟨a1, a2, a3⟩ := hat s b hb
  have hbk := hok b (List.mem_of_getElem? hb)
  have hbl := hbk.2.1
  have hnew : ∀ x ∈ b.2.set j bv, 0 ≤ x ∧ x ≤ 255 := by
    intro x hx
    rcases List.mem_or_eq_of_mem_set hx with h1 | h1
    · exact hbk.2.2 x h1
    · rw [h1]; exact hv
  have hbyt : zp_byte (zoat L (s : Int)) (j : Int) = b.2[j] := by
    rcases zoat_cases L (s : Int) with ⟨w, _⟩ | ⟨i, b', e1, e2, e3, e4⟩
    · omega
    · have : i = s := by omega
      subst this
      rw [hb] at e3
      cases e3
      rw [e4]
      simp [zp_byte, hj]
  have hpos := hbk.2.2 b.2[j] (List.getElem_mem hj)
  refine of_X6_changeByte hd (fun G hG => s_X6_changeByte_0 hG ?_)
  simp only [b_X6_changeByte_0, b_X6_changeByte_10, b_X6_changeByte_45, o_c, o_il, o_al, o_is, o_as, o_inc, o_add, o_sub, o_mul, o_and, o_or, o_xor, o_shl, o_shr, o_ush, o_rem, o_dup, o_dup2, o_gf, o_pf, o_pz, o_iald, o_iast, o_zald, o_zast, o_aald, o_gs, o_min, o_acp, o_call, o_callv, zgf, zpf, zia_, zza_, zra_, zrd_, zcp_, zpop, zsm8_0, zsm8_1, zsm8_2, zsm8_3, zsm8_4, zsm8_5, zrc, zisob, t_ieq, t_ilt, t_igt, t_zeq, t_zlt, t_zgt, t_sw, zsw, t_iret, t_zret, t_aret, t_vret, zrg, List.getElem?_cons_zero, List.getElem?_cons_succ, List.set_cons_zero, List.set_cons_succ, List.length_cons, List.length_nil, Option.toList_some, Option.toList_none, List.nil_append, List.cons_append, true_and, and_true, true_or, or_true, Int.cast_ofNat_Int, Int.natCast_zero, Int.natCast_one, hk.ob, hk.c1, hk.c2, hk.c3]
  refine zcall (c_X6_byteAt hh (slot := s) (i := j) ⟨by omega, by omega⟩ ⟨by omega, by omega⟩) ?_
  rw [hbyt]
  simp only [b_X6_changeByte_0, b_X6_changeByte_10, b_X6_changeByte_45, o_c, o_il, o_al, o_is, o_as, o_inc, o_add, o_sub, o_mul, o_and, o_or, o_xor, o_shl, o_shr, o_ush, o_rem, o_dup, o_dup2, o_gf, o_pf, o_pz, o_iald, o_iast, o_zald, o_zast, o_aald, o_gs, o_min, o_acp, o_call, o_callv, zgf, zpf, zia_, zza_, zra_, zrd_, zcp_, zpop, zsm8_0, zsm8_1, zsm8_2, zsm8_3, zsm8_4, zsm8_5, zrc, zisob, t_ieq, t_ilt, t_igt, t_zeq, t_zlt, t_zgt, t_sw, zsw, t_iret, t_zret, t_aret, t_vret, zrg, List.getElem?_cons_zero, List.getElem?_cons_succ, List.set_cons_zero, List.set_cons_succ, List.length_cons, List.length_nil, Option.toList_some, Option.toList_none, List.nil_append, List.cons_append, true_and, and_true, true_or, or_true, Int.cast_ofNat_Int, Int.natCast_zero, Int.natCast_one, hk.ob, hk.c1, hk.c2, hk.c3]
  refine ⟨by omega, by omega, fun w => by omega, fun _ => ⟨by omega, by omega, ?_⟩⟩
  have e2 : zup μ (k + 1) (↑s * 18 + ↑j) bv (k + 2) s = b.2.length := by simp [zup, a2]
  rw [e2]
  have hby : zbys (zup μ (k + 1) (↑s * 18 + ↑j) bv) (k + 1) (s * 18) b.2.length = b.2.set j bv := by
    have e3 : b.2.length = (b.2.set j bv).length := by simp
    rw [e3]
    apply zbys_eq
    intro i x hx
    rw [List.getElem?_set] at hx
    by_cases e4 : j = i
    · subst e4
      simp [hj] at hx
      simp [zup, hx]
    · rw [if_neg e4] at hx
      have : ¬ ((s : Int) * 18 + i = s * 18 + j) := by omega
      simp [zup, this]
      exact a3 i x hx
  refine zcall (c_X10_nameOf hk.c1 (by omega) (by omega) (by rw [hby]; exact hnew)) ?_
  rw [hby]
  simp only [b_X6_changeByte_0, b_X6_changeByte_10, b_X6_changeByte_45, o_c, o_il, o_al, o_is, o_as, o_inc, o_add, o_sub, o_mul, o_and, o_or, o_xor, o_shl, o_shr, o_ush, o_rem, o_dup, o_dup2, o_gf, o_pf, o_pz, o_iald, o_iast, o_zald, o_zast, o_aald, o_gs, o_min, o_acp, o_call, o_callv, zgf, zpf, zia_, zza_, zra_, zrd_, zcp_, zpop, zsm8_0, zsm8_1, zsm8_2, zsm8_3, zsm8_4, zsm8_5, zrc, zisob, t_ieq, t_ilt, t_igt, t_zeq, t_zlt, t_zgt, t_sw, zsw, t_iret, t_zret, t_aret, t_vret, zrg, List.getElem?_cons_zero, List.getElem?_cons_succ, List.set_cons_zero, List.set_cons_succ, List.length_cons, List.length_nil, Option.toList_some, Option.toList_none, List.nil_append, List.cons_append, true_and, and_true, true_or, or_true, Int.cast_ofNat_Int, Int.natCast_zero, Int.natCast_one, hk.ob, hk.c1, hk.c2, hk.c3]
  refine ⟨by omega, ⟨hk, by simp [zup, h0], by simp [zup, h4], by simp; omega, ?_, ?_⟩, ?_⟩
  · intro x hx
    rcases List.mem_or_eq_of_mem_set hx with h1 | h1
    · exact hok x h1
    · rw [h1]; exact ⟨zhash_rg _, by simp; omega, hnew⟩
  · intro i x hx
    rw [List.getElem?_set] at hx
    by_cases e4 : s = i
    · subst e4
      simp [hsl] at hx
      subst hx
      refine ⟨by simp [zup], by simp [zup, a2], fun q y hy => ?_⟩
      rw [List.getElem?_set] at hy
      by_cases e5 : j = q
      · subst e5
        simp [hj] at hy
        simp [zup, hy]
      · rw [if_neg e5] at hy
        have : ¬ ((s : Int) * 18 + q = s * 18 + j) := by omega
        simp [zup, this]
        exact a3 q y hy
    · rw [if_neg e4] at hx
      obtain ⟨c1, c2, c3⟩ := hat i x hx
      have hl := (hok x (List.mem_of_getElem? hx)).2.1
      have n1 : ¬ ((i : Int) = s) := by omega
      refine ⟨by simp [zup, n1, c1], by simp [zup, c2], fun q y hy => ?_⟩
      have hq := (List.getElem?_eq_some_iff.mp hy).1
      have : ¬ ((i : Int) * 18 + q = s * 18 + j) := by omega
      simp [zup, this]
      exact c3 q y hy
  · intro c hc
    simp only [List.mem_cons, List.not_mem_nil, or_false, not_or] at hc
    funext i
    simp [zup, hc.1, hc.2.1, hc.2.2.1, hc.2.2.2]
