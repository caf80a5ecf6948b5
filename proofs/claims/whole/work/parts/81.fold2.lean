/-! THE REFERENCE: folder -/
noncomputable def zfqO (Ts : List zPp) (Sm : Nat → zStt) (store : Int) : Int := if 0 ≤ store ∧ store ≤ 2 then zinO (Sm store.toNat) (zlr Ts 4) (zlvl 4 0 Ts).2 else -1
noncomputable def zfqS (Ts : List zPp) (Sm : Nat → zStt) (store : Int) : Nat → zStt := if 0 ≤ store ∧ store ≤ 2 then zSu Sm store.toNat (zinS (Sm store.toNat) (zlr Ts 4)) else Sm
theorem zsh4 {s : Nat} (hs : s ≤ 3) : zshl 1 (2 * (s : Int)) = 4 ^ s := by
  have h : s = 0 ∨ s = 1 ∨ s = 2 ∨ s = 3 := by omega
  rcases h with rfl | rfl | rfl | rfl <;> decide +kernel
theorem zfst_rg {s n : Nat} (hs : s ≤ 3) (hn : n < 4 ^ s) : 0 ≤ zfst (s : Int) + n ∧ zfst (s : Int) + n < 85 ∧ n < 64 ∧ 4 ^ s ≤ 64 := by
  have h : s = 0 ∨ s = 1 ∨ s = 2 ∨ s = 3 := by omega
  rcases h with rfl | rfl | rfl | rfl
  · rw [show zfst ((0 : Nat) : Int) = 0 by decide]; simp only [Nat.reducePow] at hn ⊢; omega
  · rw [show zfst ((1 : Nat) : Int) = 1 by decide]; simp only [Nat.reducePow] at hn ⊢; omega
  · rw [show zfst ((2 : Nat) : Int) = 5 by decide]; simp only [Nat.reducePow] at hn ⊢; omega
  · rw [show zfst ((3 : Nat) : Int) = 21 by decide]; simp only [Nat.reducePow] at hn ⊢; omega
theorem zfst_ap {s t n p : Nat} (hs : s ≤ 3) (ht : t ≤ 3) (hn : n < 4 ^ s) (hp : p < 4 ^ t) (hne : t ≠ s) : zfst (t : Int) + p ≠ zfst (s : Int) + n := by
  have h : s = 0 ∨ s = 1 ∨ s = 2 ∨ s = 3 := by omega
  have h' : t = 0 ∨ t = 1 ∨ t = 2 ∨ t = 3 := by omega
  have f0 : zfst ((0 : Nat) : Int) = 0 := by decide
  have f1 : zfst ((1 : Nat) : Int) = 1 := by decide
  have f2 : zfst ((2 : Nat) : Int) = 5 := by decide
  have f3 : zfst ((3 : Nat) : Int) = 21 := by decide
  rcases h with rfl | rfl | rfl | rfl <;> rcases h' with rfl | rfl | rfl | rfl <;> simp only [Nat.reducePow] at hn hp <;> simp only [f0, f1, f2, f3] <;> omega
abbrev zfoC : List Nat := [77, 78, 79, 80, 87]
abbrev zfoF : List Int := [24, 25, 26]
/-- the nodes of the levels above 3 - k -/
def zNV (Ts : List zPp) (k : Nat) (μ : zM) : Prop := ∀ (t p : Nat), 4 ≤ t + k → t ≤ 3 → p < 4 ^ t → zndb Ts t p = true → μ 87 (zfst (t : Int) + (p : Int)) = znod Ts t p
set_option maxRecDepth 100000 in
set_option maxHeartbeats 4000000 in
theorem c_X11_folder {d : Nat} {μ : zM} {B : List Int} {T Ts : List zPp} {Ms : List zMg} {Sm : Nat → zStt} {store : Int} (hd : 7 ≤ d) (h : zRN μ B T Ms Sm) (hPe : T.Perm Ts) (hSo : zSo Ts) (hV : ∀ s, s < 3 → zVS (Sm s)) (hgr : zgR (zlr Ts 4)) (hs : zrg store) : zCt d mX11_folder [.inr (some 56), .inl store] μ (fun v μ' => v = some (.inl (zfqO Ts Sm store)) ∧ zRN μ' B (zcT T (zfqO Ts Sm store)) Ms (zfqS Ts Sm store) ∧ zlo μ μ') := by
  by_cases hc : 0 ≤ store ∧ store ≤ 2
  · obtain ⟨s0, rfl, h3⟩ := zs3 hc
    have hT := h.2.1
    have hl16 : Ts.length ≤ 16 := by rw [← hPe.length_eq]; exact hT.2.1
    have hr : ∀ q ∈ Ts, 1 ≤ q.1 ∧ q.1 ≤ 255 := fun q hq => (hT.2.2.2.2 q (hPe.mem_iff.mpr hq)).1
    obtain ⟨L, hL⟩ : ∃ L, L = (Sm s0).1 := ⟨_, rfl⟩
    have hst := h.2.2.2 s0 h3
    have hmL : zmL μ s0 L := by rw [hL]; exact hst.1
    obtain ⟨ll3, ll4, ll2, ll1⟩ := zlr_len hl16
    obtain ⟨ad1, ad2, ad3⟩ := zsg_ad (x := Sm s0) (rows := zlr Ts 4) (by omega)
    rw [← hL] at ad1 ad2 ad3
    have eO : zfqO Ts Sm s0 = zbiC L (zmk ([], 0) (zlr Ts 4)).1 (zmk ([], 0) (zlr Ts 4)).2 (zlvl 4 0 Ts).2 := by unfold zfqO zinO; rw [if_pos hc, hL]; rfl
    have eS : zfqS Ts Sm s0 = zSu Sm s0 (zinS (Sm s0) (zlr Ts 4)) := by unfold zfqS; rw [if_pos hc]; rfl
    have htop := zlvl_rg 4 0 Ts
    have hz0 : zsl Ts 0 ((0 : Nat) : Int) = Ts := by
      unfold zsl
      exact List.filter_eq_self.mpr (fun q _ => by simp)
    have hnp := fun s p => zndb_perm hPe s p
    have hlen := fun s p => (zsl_perm hPe s p).length_eq
    have lle : ∀ k, k ≤ 4 → (zlr Ts k).length ≤ 49 := fun k hk => by
      have : k = 0 ∨ k = 1 ∨ k = 2 ∨ k = 3 ∨ k = 4 := by omega
      rcases this with rfl | rfl | rfl | rfl | rfl
      · simp [zlr]
      all_goals omega
    refine of_X11_folder (by omega) (fun G hG => s_X11_folder_0 hG ?_)
    have outer : ∀ (r k : Nat) (sI : Int) (μ2 : zM) (x3 x4 x5 : zV), k + r = 4 → sI = 3 - (k : Int) → zNV Ts k μ2 → zmG μ2 (zsgs L ([], 0) (zlr Ts k)).1 (zsgs L ([], 0) (zlr Ts k)).2 → zF zfoC zfoF μ μ2 → G 21 [.inr (some 56), .inl (s0 : Int), .inl sI, x3, x4, x5] [] μ2 := by
      intro r
      induction r with
      | zero =>
        intro k sI μ2 x3 x4 x5 k1 k2 k3 k4 k5
        have e4 : k = 4 := by omega
        subst e4
        have e87 : μ2 87 0 = (zlvl 4 0 Ts).2 := by
          have := k3 0 0 (by omega) (by omega) (by omega) (by simp [zndb])
          unfold znod at this
          rw [hz0] at this
          exact this
        have hR2 := h.f k5 (by simp) (by simp)
        have hVx : zadC (Sm s0) (zsgs L ([], 0) (zlr Ts 4)).1 (zsgs L ([], 0) (zlr Ts 4)).2 = 0 → zVS ((Sm s0).1 ++ (zsgs L ([], 0) (zlr Ts 4)).1, (Sm s0).2) := fun _ => by
          rw [ad1, hL]
          exact (hV s0 h3).take hgr.1 hgr.2
        refine s_X11_folder_21 hG ?_
        simp only [b_X11_folder_0, b_X11_folder_7, b_X11_folder_9, b_X11_folder_21, b_X11_folder_25, b_X11_folder_27, b_X11_folder_36, b_X11_folder_48, b_X11_folder_53, b_X11_folder_75, b_X11_folder_79, b_X11_folder_80, b_X11_folder_87, b_X11_folder_90, b_X11_folder_96, b_X11_folder_105, b_X11_folder_111, b_X11_folder_127, b_X11_folder_133, b_X11_folder_139, b_X11_folder_156, b_X11_folder_158, o_c, o_il, o_al, o_is, o_as, o_inc, o_add, o_sub, o_mul, o_and, o_or, o_xor, o_shl, o_shr, o_ush, o_rem, o_dup, o_dup2, o_gf, o_pf, o_pz, o_iald, o_iast, o_zald, o_zast, o_aald, o_gs, o_min, o_acp, o_call, o_callv, zgf, zpf, zia_, zza_, zra_, zrd_, zcp_, zpop, zsm8_0, zsm8_1, zsm8_2, zsm8_3, zsm8_4, zsm8_5, zrc, zisob, t_ieq, t_ilt, t_igt, t_zeq, t_zlt, t_zgt, t_sw, zsw, t_iret, t_zret, t_aret, t_vret, zrg, List.getElem?_cons_zero, List.getElem?_cons_succ, List.set_cons_zero, List.set_cons_succ, List.length_cons, List.length_nil, Option.toList_some, Option.toList_none, List.nil_append, List.cons_append, true_and, and_true, true_or, or_true, Int.cast_ofNat_Int, Int.natCast_zero, Int.natCast_one, zsh_56, zsh_57, zsh_58, zsh_59, zsh_60, zsh_61, zsh_62, zsh_63, zsh_64, zsh_65, zsh_66, zsh_67, zsh_68, zsh_69, zsh_70, zsh_71, zsh_72, zsh_73, zsh_74, zsh_75, zsh_76, zsh_77, zsh_78, zsh_79, zsh_80, zsh_81, zsh_82, zsh_83, zsh_84, zsh_85, zsh_86, zsh_87, zup_ne, zup_eq, zup_nf, ne_eq, not_false_eq_true]
        rw [e87]
        refine ⟨by omega, fun _ => ⟨by omega, ?_⟩, fun w => by omega⟩
        refine ⟨_, c_X11_admit (by omega) hR2 h3 k4 hVx, ?_⟩
        rw [ad2, ad3]
        rintro v μ3 ⟨rfl, p1, p2⟩
        simp only [b_X11_folder_0, b_X11_folder_7, b_X11_folder_9, b_X11_folder_21, b_X11_folder_25, b_X11_folder_27, b_X11_folder_36, b_X11_folder_48, b_X11_folder_53, b_X11_folder_75, b_X11_folder_79, b_X11_folder_80, b_X11_folder_87, b_X11_folder_90, b_X11_folder_96, b_X11_folder_105, b_X11_folder_111, b_X11_folder_127, b_X11_folder_133, b_X11_folder_139, b_X11_folder_156, b_X11_folder_158, o_c, o_il, o_al, o_is, o_as, o_inc, o_add, o_sub, o_mul, o_and, o_or, o_xor, o_shl, o_shr, o_ush, o_rem, o_dup, o_dup2, o_gf, o_pf, o_pz, o_iald, o_iast, o_zald, o_zast, o_aald, o_gs, o_min, o_acp, o_call, o_callv, zgf, zpf, zia_, zza_, zra_, zrd_, zcp_, zpop, zsm8_0, zsm8_1, zsm8_2, zsm8_3, zsm8_4, zsm8_5, zrc, zisob, t_ieq, t_ilt, t_igt, t_zeq, t_zlt, t_zgt, t_sw, zsw, t_iret, t_zret, t_aret, t_vret, zrg, List.getElem?_cons_zero, List.getElem?_cons_succ, List.set_cons_zero, List.set_cons_succ, List.length_cons, List.length_nil, Option.toList_some, Option.toList_none, List.nil_append, List.cons_append, true_and, and_true, true_or, or_true, Int.cast_ofNat_Int, Int.natCast_zero, Int.natCast_one, zsh_56, zsh_57, zsh_58, zsh_59, zsh_60, zsh_61, zsh_62, zsh_63, zsh_64, zsh_65, zsh_66, zsh_67, zsh_68, zsh_69, zsh_70, zsh_71, zsh_72, zsh_73, zsh_74, zsh_75, zsh_76, zsh_77, zsh_78, zsh_79, zsh_80, zsh_81, zsh_82, zsh_83, zsh_84, zsh_85, zsh_86, zsh_87, zup_ne, zup_eq, zup_nf, ne_eq, not_false_eq_true]
        have hrg := ztkc_rg L (zmk ([], 0) (zlr Ts 4)).1 (zmk ([], 0) (zlr Ts 4)).2
        have l3 := (k5.lo (by simp)).trans p2
        rw [eO, eS]
        unfold zbiC
        refine ⟨by omega, fun w => ?_, fun w => ?_⟩
        · rw [if_neg (by omega)]
          unfold zcT
          rw [if_neg (by omega)]
          exact ⟨rfl, p1, l3⟩
        · rw [if_pos (by omega)]
          unfold zcT
          rw [if_pos htop.1]
          exact ⟨rfl, p1.ls.1, l3.trans p1.ls.2⟩
      | succ r ih =>
        intro k sI μ2 x3 x4 x5 k1 k2 k3 k4 k5
        obtain ⟨s, hs3⟩ : ∃ s : Nat, s = 3 - k := ⟨_, rfl⟩
        have hsI : sI = (s : Int) := by omega
        have hs4 : s ≤ 3 := by omega
        subst hsI
        have elr : zlr Ts (k + 1) = zlr Ts k ++ zrws Ts s (4 ^ s) := by simp only [zlr]; rw [hs3]
        have inner : ∀ (q n : Nat) (μ3 : zM) (x4 x5 : zV), n + q = 4 ^ s → (∀ p : Nat, p < n → zndb Ts s p = true → μ3 87 (zfst (s : Int) + (p : Int)) = znod Ts s p) → zNV Ts k μ3 → zmG μ3 (zsgs L ([], 0) (zlr Ts k ++ zrws Ts s n)).1 (zsgs L ([], 0) (zlr Ts k ++ zrws Ts s n)).2 → zF zfoC zfoF μ μ3 → G 27 [.inr (some 56), .inl (s0 : Int), .inl (s : Int), .inl (n : Int), x4, x5] [] μ3 := by
          intro q
          induction q with
          | zero =>
            intro n μ3 x4 x5 j1 j2 j3 j4 j5
            have en : n = 4 ^ s := by omega
            have e64 : 4 ^ s ≤ 64 := (zfst_rg (n := 0) hs4 (Nat.pow_pos (by omega))).2.2.2
            refine s_X11_folder_27 hG ?_
            simp only [b_X11_folder_0, b_X11_folder_7, b_X11_folder_9, b_X11_folder_21, b_X11_folder_25, b_X11_folder_27, b_X11_folder_36, b_X11_folder_48, b_X11_folder_53, b_X11_folder_75, b_X11_folder_79, b_X11_folder_80, b_X11_folder_87, b_X11_folder_90, b_X11_folder_96, b_X11_folder_105, b_X11_folder_111, b_X11_folder_127, b_X11_folder_133, b_X11_folder_139, b_X11_folder_156, b_X11_folder_158, o_c, o_il, o_al, o_is, o_as, o_inc, o_add, o_sub, o_mul, o_and, o_or, o_xor, o_shl, o_shr, o_ush, o_rem, o_dup, o_dup2, o_gf, o_pf, o_pz, o_iald, o_iast, o_zald, o_zast, o_aald, o_gs, o_min, o_acp, o_call, o_callv, zgf, zpf, zia_, zza_, zra_, zrd_, zcp_, zpop, zsm8_0, zsm8_1, zsm8_2, zsm8_3, zsm8_4, zsm8_5, zrc, zisob, t_ieq, t_ilt, t_igt, t_zeq, t_zlt, t_zgt, t_sw, zsw, t_iret, t_zret, t_aret, t_vret, zrg, List.getElem?_cons_zero, List.getElem?_cons_succ, List.set_cons_zero, List.set_cons_succ, List.length_cons, List.length_nil, Option.toList_some, Option.toList_none, List.nil_append, List.cons_append, true_and, and_true, true_or, or_true, Int.cast_ofNat_Int, Int.natCast_zero, Int.natCast_one, zsh_56, zsh_57, zsh_58, zsh_59, zsh_60, zsh_61, zsh_62, zsh_63, zsh_64, zsh_65, zsh_66, zsh_67, zsh_68, zsh_69, zsh_70, zsh_71, zsh_72, zsh_73, zsh_74, zsh_75, zsh_76, zsh_77, zsh_78, zsh_79, zsh_80, zsh_81, zsh_82, zsh_83, zsh_84, zsh_85, zsh_86, zsh_87, zup_ne, zup_eq, zup_nf, ne_eq, not_false_eq_true]
            rw [zsh4 hs4]
            have ei : ((4 : Int) ^ s) = (n : Int) := by rw [en]; simp
            rw [ei]
            refine ⟨by omega, by omega, fun w => by omega, fun _ => ?_⟩
            refine ih (k + 1) _ μ3 _ x4 x5 (by omega) (by omega) (fun t p t1 t2 t3 t4 => ?_) (by rw [elr, ← en]; exact j4) j5
            by_cases e : t = s
            · subst e
              exact j2 p (by omega) t4
            · exact j3 t p (by omega) t2 t3 t4
          | succ q ihq =>
            intro n μ3 x4 x5 j1 j2 j3 j4 j5
            have hn : n < 4 ^ s := by omega
            obtain ⟨g1, g2, g3, g4⟩ := zfst_rg hs4 hn
            have hnI : (n : Int) < 4 ^ s := by exact_mod_cast hn
            have h4I : (4 : Int) ^ s ≤ 64 := by exact_mod_cast g4
            have hT3 : zmT μ3 T := hT.e (fun c c1 c2 => j5.1 c (by simp; omega) (by omega)) (j5.2 20 (by simp))
            have hcl : (zsl T s (n : Int)).length ≤ 16 := by
              have : (zsl T s (n : Int)).length ≤ T.length := List.length_filter_le _ _
              have := hT.2.1
              omega
            have erw : zrws Ts s (n + 1) = zrws Ts s n ++ (if zndb Ts s n then [zrow Ts s n] else []) := rfl
            -- behind the test
            have aft : G 80 [.inr (some 56), .inl (s0 : Int), .inl (s : Int), .inl (n : Int), .inl ((zsl T s (n : Int)).length : Int), x5] [.inl (if zndb Ts s n = true then 1 else 0)] μ3 := by
              refine s_X11_folder_80 hG ?_
              by_cases hb : zndb Ts s n = true
              · rw [if_pos hb]
                simp only [b_X11_folder_0, b_X11_folder_7, b_X11_folder_9, b_X11_folder_21, b_X11_folder_25, b_X11_folder_27, b_X11_folder_36, b_X11_folder_48, b_X11_folder_53, b_X11_folder_75, b_X11_folder_79, b_X11_folder_80, b_X11_folder_87, b_X11_folder_90, b_X11_folder_96, b_X11_folder_105, b_X11_folder_111, b_X11_folder_127, b_X11_folder_133, b_X11_folder_139, b_X11_folder_156, b_X11_folder_158, o_c, o_il, o_al, o_is, o_as, o_inc, o_add, o_sub, o_mul, o_and, o_or, o_xor, o_shl, o_shr, o_ush, o_rem, o_dup, o_dup2, o_gf, o_pf, o_pz, o_iald, o_iast, o_zald, o_zast, o_aald, o_gs, o_min, o_acp, o_call, o_callv, zgf, zpf, zia_, zza_, zra_, zrd_, zcp_, zpop, zsm8_0, zsm8_1, zsm8_2, zsm8_3, zsm8_4, zsm8_5, zrc, zisob, t_ieq, t_ilt, t_igt, t_zeq, t_zlt, t_zgt, t_sw, zsw, t_iret, t_zret, t_aret, t_vret, zrg, List.getElem?_cons_zero, List.getElem?_cons_succ, List.set_cons_zero, List.set_cons_succ, List.length_cons, List.length_nil, Option.toList_some, Option.toList_none, List.nil_append, List.cons_append, true_and, and_true, true_or, or_true, Int.cast_ofNat_Int, Int.natCast_zero, Int.natCast_one, zsh_56, zsh_57, zsh_58, zsh_59, zsh_60, zsh_61, zsh_62, zsh_63, zsh_64, zsh_65, zsh_66, zsh_67, zsh_68, zsh_69, zsh_70, zsh_71, zsh_72, zsh_73, zsh_74, zsh_75, zsh_76, zsh_77, zsh_78, zsh_79, zsh_80, zsh_81, zsh_82, zsh_83, zsh_84, zsh_85, zsh_86, zsh_87, zup_ne, zup_eq, zup_nf, ne_eq, not_false_eq_true]
                refine ⟨by omega, fun w => by omega, fun _ => ⟨by omega, by omega, fun w => ?_, fun w => ?_⟩⟩
                · -- a shard
                  have hs2 : s ≤ 2 := by
                    by_cases e3 : s = 3
                    · exfalso
                      subst e3
                      have := zpig (zsl_so hSo 3 (n : Int)) (fun q hq => hr q (List.mem_filter.mp hq).1) ⟨(n : Int), fun q hq => by simpa using (List.mem_filter.mp hq).2⟩
                      rw [hlen] at w
                      omega
                    · omega
                  have hw4 : ∀ w : Nat, w < 4 → n + w * 4 ^ s < 4 ^ (s + 1) ∧ ((n + w * 4 ^ s : Nat) : Int) % 4 ^ s = n := fun w hw => by
                    have hs3' : s = 0 ∨ s = 1 ∨ s = 2 := by omega
                    rcases hs3' with e | e | e <;> rw [e] at hn ⊢ <;> simp only [Nat.reduceAdd, Nat.reducePow, Int.reducePow] at hn ⊢ <;> omega
                  have hnv : ∀ w : Nat, w < 4 → zsl T (s + 1) ((n : Int) + w * 4 ^ s) ≠ [] → μ3 87 (zfst ((s : Int) + 1) + ((n : Int) + w * 4 ^ s)) = znod Ts (s + 1) ((n : Int) + w * 4 ^ s) := fun w hw hne => by
                    obtain ⟨a1, a2⟩ := hw4 w hw
                    have ec : (((n + w * 4 ^ s : Nat)) : Int) = (n : Int) + w * 4 ^ s := by simp
                    have := j3 (s + 1) (n + w * 4 ^ s) (by omega) (by omega) a1 (by
                      unfold zndb
                      rw [Nat.add_sub_cancel, a2, ec]
                      have b1 : zsl Ts (s + 1) ((n : Int) + w * 4 ^ s) ≠ [] := fun q => hne ((zperm_nil (zsl_perm hPe _ _)).mpr q)
                      have b2 : 4 < (zsl Ts s (n : Int)).length := by rw [← hlen]; omega
                      simp [b1, b2])
                    rw [ec] at this
                    simpa using this
                  have hrw : zrow Ts s n = zsrow (zmask (zsl Ts s (n : Int)) s) (fun w => (zlvl (3 - s) (s + 1) (zpt (zsl Ts s (n : Int)) s w)).2) := by
                    unfold zrow
                    rw [if_neg (by rw [← hlen]; omega)]
                  have hsr := zsh_row hPe hs2 (p := (n : Int)) ⟨by omega, hnI⟩ hnv
                  have h18 : (zrow Ts s n).length ≤ 18 := by
                    rw [hrw, ← hsr]
                    have := zsf_len T s (n : Int) (fun w => μ3 87 (zfst ((s : Int) + 1) + ((n : Int) + w * 4 ^ s))) 4
                    simp only [List.length_cons]
                    omega
                  refine ⟨_, c_X11_shardRow (by omega) hT3 hs2 (p := (n : Int)) ⟨by omega, hnI⟩ (fun w hw hne => by rw [hnv w hw hne]; exact zlvl_rg _ _ _), ?_⟩
                  rintro v μ4 ⟨rfl, p1, p2⟩
                  rw [hsr, ← hrw] at p1
                  simp only [b_X11_folder_0, b_X11_folder_7, b_X11_folder_9, b_X11_folder_21, b_X11_folder_25, b_X11_folder_27, b_X11_folder_36, b_X11_folder_48, b_X11_folder_53, b_X11_folder_75, b_X11_folder_79, b_X11_folder_80, b_X11_folder_87, b_X11_folder_90, b_X11_folder_96, b_X11_folder_105, b_X11_folder_111, b_X11_folder_127, b_X11_folder_133, b_X11_folder_139, b_X11_folder_156, b_X11_folder_158, o_c, o_il, o_al, o_is, o_as, o_inc, o_add, o_sub, o_mul, o_and, o_or, o_xor, o_shl, o_shr, o_ush, o_rem, o_dup, o_dup2, o_gf, o_pf, o_pz, o_iald, o_iast, o_zald, o_zast, o_aald, o_gs, o_min, o_acp, o_call, o_callv, zgf, zpf, zia_, zza_, zra_, zrd_, zcp_, zpop, zsm8_0, zsm8_1, zsm8_2, zsm8_3, zsm8_4, zsm8_5, zrc, zisob, t_ieq, t_ilt, t_igt, t_zeq, t_zlt, t_zgt, t_sw, zsw, t_iret, t_zret, t_aret, t_vret, zrg, List.getElem?_cons_zero, List.getElem?_cons_succ, List.set_cons_zero, List.set_cons_succ, List.length_cons, List.length_nil, Option.toList_some, Option.toList_none, List.nil_append, List.cons_append, true_and, and_true, true_or, or_true, Int.cast_ofNat_Int, Int.natCast_zero, Int.natCast_one, zsh_56, zsh_57, zsh_58, zsh_59, zsh_60, zsh_61, zsh_62, zsh_63, zsh_64, zsh_65, zsh_66, zsh_67, zsh_68, zsh_69, zsh_70, zsh_71, zsh_72, zsh_73, zsh_74, zsh_75, zsh_76, zsh_77, zsh_78, zsh_79, zsh_80, zsh_81, zsh_82, zsh_83, zsh_84, zsh_85, zsh_86, zsh_87, zup_ne, zup_eq, zup_nf, ne_eq, not_false_eq_true]
                  refine zcall (c_X11_first (by omega)) ?_
                  simp only [b_X11_folder_0, b_X11_folder_7, b_X11_folder_9, b_X11_folder_21, b_X11_folder_25, b_X11_folder_27, b_X11_folder_36, b_X11_folder_48, b_X11_folder_53, b_X11_folder_75, b_X11_folder_79, b_X11_folder_80, b_X11_folder_87, b_X11_folder_90, b_X11_folder_96, b_X11_folder_105, b_X11_folder_111, b_X11_folder_127, b_X11_folder_133, b_X11_folder_139, b_X11_folder_156, b_X11_folder_158, o_c, o_il, o_al, o_is, o_as, o_inc, o_add, o_sub, o_mul, o_and, o_or, o_xor, o_shl, o_shr, o_ush, o_rem, o_dup, o_dup2, o_gf, o_pf, o_pz, o_iald, o_iast, o_zald, o_zast, o_aald, o_gs, o_min, o_acp, o_call, o_callv, zgf, zpf, zia_, zza_, zra_, zrd_, zcp_, zpop, zsm8_0, zsm8_1, zsm8_2, zsm8_3, zsm8_4, zsm8_5, zrc, zisob, t_ieq, t_ilt, t_igt, t_zeq, t_zlt, t_zgt, t_sw, zsw, t_iret, t_zret, t_aret, t_vret, zrg, List.getElem?_cons_zero, List.getElem?_cons_succ, List.set_cons_zero, List.set_cons_succ, List.length_cons, List.length_nil, Option.toList_some, Option.toList_none, List.nil_append, List.cons_append, true_and, and_true, true_or, or_true, Int.cast_ofNat_Int, Int.natCast_zero, Int.natCast_one, zsh_56, zsh_57, zsh_58, zsh_59, zsh_60, zsh_61, zsh_62, zsh_63, zsh_64, zsh_65, zsh_66, zsh_67, zsh_68, zsh_69, zsh_70, zsh_71, zsh_72, zsh_73, zsh_74, zsh_75, zsh_76, zsh_77, zsh_78, zsh_79, zsh_80, zsh_81, zsh_82, zsh_83, zsh_84, zsh_85, zsh_86, zsh_87, zup_ne, zup_eq, zup_nf, ne_eq, not_false_eq_true]
                  have hsl := zsgs_len L (zlr Ts k ++ zrws Ts s n) ([], 0)
                  simp only [List.length_nil] at hsl
                  have hbd : (zlr Ts k ++ zrws Ts s n).length ≤ 65 := by
                    rw [List.length_append]
                    have h1 := lle k (by omega)
                    by_cases e0 : s = 0
                    · have : n = 0 := by rw [e0] at hn; simp at hn; exact hn
                      subst this
                      simp [zrws]
                      omega
                    · have h2 := zrws_16 (T := Ts) (s := s) (n := n) (by omega)
                      omega
                  have cs := c_X11_stage (d := d - 1) (by omega) ((hmL.f j5 (by simp)).f p2 (by simp)) h3 p1 h18 (j4.f p2 (by simp) (by simp)) (by omega)
                  refine ⟨_, cs, ?_⟩
                  rintro v μ5 ⟨rfl, p3, p4⟩
                  simp only [b_X11_folder_0, b_X11_folder_7, b_X11_folder_9, b_X11_folder_21, b_X11_folder_25, b_X11_folder_27, b_X11_folder_36, b_X11_folder_48, b_X11_folder_53, b_X11_folder_75, b_X11_folder_79, b_X11_folder_80, b_X11_folder_87, b_X11_folder_90, b_X11_folder_96, b_X11_folder_105, b_X11_folder_111, b_X11_folder_127, b_X11_folder_133, b_X11_folder_139, b_X11_folder_156, b_X11_folder_158, o_c, o_il, o_al, o_is, o_as, o_inc, o_add, o_sub, o_mul, o_and, o_or, o_xor, o_shl, o_shr, o_ush, o_rem, o_dup, o_dup2, o_gf, o_pf, o_pz, o_iald, o_iast, o_zald, o_zast, o_aald, o_gs, o_min, o_acp, o_call, o_callv, zgf, zpf, zia_, zza_, zra_, zrd_, zcp_, zpop, zsm8_0, zsm8_1, zsm8_2, zsm8_3, zsm8_4, zsm8_5, zrc, zisob, t_ieq, t_ilt, t_igt, t_zeq, t_zlt, t_zgt, t_sw, zsw, t_iret, t_zret, t_aret, t_vret, zrg, List.getElem?_cons_zero, List.getElem?_cons_succ, List.set_cons_zero, List.set_cons_succ, List.length_cons, List.length_nil, Option.toList_some, Option.toList_none, List.nil_append, List.cons_append, true_and, and_true, true_or, or_true, Int.cast_ofNat_Int, Int.natCast_zero, Int.natCast_one, zsh_56, zsh_57, zsh_58, zsh_59, zsh_60, zsh_61, zsh_62, zsh_63, zsh_64, zsh_65, zsh_66, zsh_67, zsh_68, zsh_69, zsh_70, zsh_71, zsh_72, zsh_73, zsh_74, zsh_75, zsh_76, zsh_77, zsh_78, zsh_79, zsh_80, zsh_81, zsh_82, zsh_83, zsh_84, zsh_85, zsh_86, zsh_87, zup_ne, zup_eq, zup_nf, ne_eq, not_false_eq_true]
                  refine ⟨by omega, ?_⟩
                  obtain ⟨μ6, hμ6⟩ : ∃ μ6, μ6 = zup μ5 87 (zfst (s : Int) + n) (zhash (zrow Ts s n)) := ⟨_, rfl⟩
                  rw [← hμ6]
                  have q87 : ∀ x : Int, μ6 87 x = if x = zfst (s : Int) + n then zhash (zrow Ts s n) else μ3 87 x := fun x => by
                    have : μ5 87 = μ3 87 := by rw [p4.1 87 (by simp) (by decide), p2.1 87 (by simp) (by decide)]
                    rw [hμ6, ← this]; simp [zup]
                  have f6 : zF zfoC zfoF μ3 μ6 := by
                    rw [hμ6]
                    exact ((p2.mono (by simp) (by simp)).trans (p4.mono (by simp) (by simp))).u (by simp) (by decide)
                  have nx := ihq (n + 1) μ6 (.inl ((zsl T s (n : Int)).length : Int)) (.inl 1) (by omega) (fun p hp hpn => ?_) (fun t p t1 t2 t3 t4 => ?_) ?_ (j5.trans f6)
                  · rw [show (((n + 1 : Nat)) : Int) = (n : Int) + 1 by omega] at nx
                    exact nx
                  · rw [q87]
                    by_cases e : p = n
                    · subst e
                      rw [if_pos rfl, znod_eq hs4]
                    · rw [if_neg (by omega)]
                      exact j2 p (by omega) hpn
                  · rw [q87, if_neg (zfst_ap hs4 t2 hn t3 (by omega))]
                    exact j3 t p t1 t2 t3 t4
                  · rw [erw, if_pos hb, ← List.append_assoc, zsgs_app]
                    refine zmG.f (μ := μ5) ?_ (C := [87]) (F := []) ?_ (by simp) (by simp)
                    · exact p3
                    · rw [hμ6]
                      exact (zF.refl _ _ _).u (by simp) (by decide)
                · -- a folder
                  have hrw : zrow Ts s n = zforow (zsl Ts s (n : Int)) := by
                    unfold zrow
                    rw [if_pos (by rw [← hlen]; omega)]
                  have h18 : (zrow Ts s n).length ≤ 18 := by
                    rw [hrw]
                    unfold zforow
                    simp only [List.length_cons, zfpt_len]
                    rw [← hlen]
                    omega
                  refine ⟨_, c_X11_folderRow (by omega) hT3 (by omega) (p := (n : Int)) ⟨by omega, by omega⟩ (by omega), ?_⟩
                  rintro v μ4 ⟨rfl, p1, p2⟩
                  rw [zfo_row hPe hSo hr, ← hrw] at p1
                  simp only [b_X11_folder_0, b_X11_folder_7, b_X11_folder_9, b_X11_folder_21, b_X11_folder_25, b_X11_folder_27, b_X11_folder_36, b_X11_folder_48, b_X11_folder_53, b_X11_folder_75, b_X11_folder_79, b_X11_folder_80, b_X11_folder_87, b_X11_folder_90, b_X11_folder_96, b_X11_folder_105, b_X11_folder_111, b_X11_folder_127, b_X11_folder_133, b_X11_folder_139, b_X11_folder_156, b_X11_folder_158, o_c, o_il, o_al, o_is, o_as, o_inc, o_add, o_sub, o_mul, o_and, o_or, o_xor, o_shl, o_shr, o_ush, o_rem, o_dup, o_dup2, o_gf, o_pf, o_pz, o_iald, o_iast, o_zald, o_zast, o_aald, o_gs, o_min, o_acp, o_call, o_callv, zgf, zpf, zia_, zza_, zra_, zrd_, zcp_, zpop, zsm8_0, zsm8_1, zsm8_2, zsm8_3, zsm8_4, zsm8_5, zrc, zisob, t_ieq, t_ilt, t_igt, t_zeq, t_zlt, t_zgt, t_sw, zsw, t_iret, t_zret, t_aret, t_vret, zrg, List.getElem?_cons_zero, List.getElem?_cons_succ, List.set_cons_zero, List.set_cons_succ, List.length_cons, List.length_nil, Option.toList_some, Option.toList_none, List.nil_append, List.cons_append, true_and, and_true, true_or, or_true, Int.cast_ofNat_Int, Int.natCast_zero, Int.natCast_one, zsh_56, zsh_57, zsh_58, zsh_59, zsh_60, zsh_61, zsh_62, zsh_63, zsh_64, zsh_65, zsh_66, zsh_67, zsh_68, zsh_69, zsh_70, zsh_71, zsh_72, zsh_73, zsh_74, zsh_75, zsh_76, zsh_77, zsh_78, zsh_79, zsh_80, zsh_81, zsh_82, zsh_83, zsh_84, zsh_85, zsh_86, zsh_87, zup_ne, zup_eq, zup_nf, ne_eq, not_false_eq_true]
                  refine zcall (c_X11_first (by omega)) ?_
                  simp only [b_X11_folder_0, b_X11_folder_7, b_X11_folder_9, b_X11_folder_21, b_X11_folder_25, b_X11_folder_27, b_X11_folder_36, b_X11_folder_48, b_X11_folder_53, b_X11_folder_75, b_X11_folder_79, b_X11_folder_80, b_X11_folder_87, b_X11_folder_90, b_X11_folder_96, b_X11_folder_105, b_X11_folder_111, b_X11_folder_127, b_X11_folder_133, b_X11_folder_139, b_X11_folder_156, b_X11_folder_158, o_c, o_il, o_al, o_is, o_as, o_inc, o_add, o_sub, o_mul, o_and, o_or, o_xor, o_shl, o_shr, o_ush, o_rem, o_dup, o_dup2, o_gf, o_pf, o_pz, o_iald, o_iast, o_zald, o_zast, o_aald, o_gs, o_min, o_acp, o_call, o_callv, zgf, zpf, zia_, zza_, zra_, zrd_, zcp_, zpop, zsm8_0, zsm8_1, zsm8_2, zsm8_3, zsm8_4, zsm8_5, zrc, zisob, t_ieq, t_ilt, t_igt, t_zeq, t_zlt, t_zgt, t_sw, zsw, t_iret, t_zret, t_aret, t_vret, zrg, List.getElem?_cons_zero, List.getElem?_cons_succ, List.set_cons_zero, List.set_cons_succ, List.length_cons, List.length_nil, Option.toList_some, Option.toList_none, List.nil_append, List.cons_append, true_and, and_true, true_or, or_true, Int.cast_ofNat_Int, Int.natCast_zero, Int.natCast_one, zsh_56, zsh_57, zsh_58, zsh_59, zsh_60, zsh_61, zsh_62, zsh_63, zsh_64, zsh_65, zsh_66, zsh_67, zsh_68, zsh_69, zsh_70, zsh_71, zsh_72, zsh_73, zsh_74, zsh_75, zsh_76, zsh_77, zsh_78, zsh_79, zsh_80, zsh_81, zsh_82, zsh_83, zsh_84, zsh_85, zsh_86, zsh_87, zup_ne, zup_eq, zup_nf, ne_eq, not_false_eq_true]
                  have hsl := zsgs_len L (zlr Ts k ++ zrws Ts s n) ([], 0)
                  simp only [List.length_nil] at hsl
                  have hbd : (zlr Ts k ++ zrws Ts s n).length ≤ 65 := by
                    rw [List.length_append]
                    have h1 := lle k (by omega)
                    by_cases e0 : s = 0
                    · have : n = 0 := by rw [e0] at hn; simp at hn; exact hn
                      subst this
                      simp [zrws]
                      omega
                    · have h2 := zrws_16 (T := Ts) (s := s) (n := n) (by omega)
                      omega
                  have cs := c_X11_stage (d := d - 1) (by omega) ((hmL.f j5 (by simp)).f p2 (by simp)) h3 p1 h18 (j4.f p2 (by simp) (by simp)) (by omega)
                  refine ⟨_, cs, ?_⟩
                  rintro v μ5 ⟨rfl, p3, p4⟩
                  simp only [b_X11_folder_0, b_X11_folder_7, b_X11_folder_9, b_X11_folder_21, b_X11_folder_25, b_X11_folder_27, b_X11_folder_36, b_X11_folder_48, b_X11_folder_53, b_X11_folder_75, b_X11_folder_79, b_X11_folder_80, b_X11_folder_87, b_X11_folder_90, b_X11_folder_96, b_X11_folder_105, b_X11_folder_111, b_X11_folder_127, b_X11_folder_133, b_X11_folder_139, b_X11_folder_156, b_X11_folder_158, o_c, o_il, o_al, o_is, o_as, o_inc, o_add, o_sub, o_mul, o_and, o_or, o_xor, o_shl, o_shr, o_ush, o_rem, o_dup, o_dup2, o_gf, o_pf, o_pz, o_iald, o_iast, o_zald, o_zast, o_aald, o_gs, o_min, o_acp, o_call, o_callv, zgf, zpf, zia_, zza_, zra_, zrd_, zcp_, zpop, zsm8_0, zsm8_1, zsm8_2, zsm8_3, zsm8_4, zsm8_5, zrc, zisob, t_ieq, t_ilt, t_igt, t_zeq, t_zlt, t_zgt, t_sw, zsw, t_iret, t_zret, t_aret, t_vret, zrg, List.getElem?_cons_zero, List.getElem?_cons_succ, List.set_cons_zero, List.set_cons_succ, List.length_cons, List.length_nil, Option.toList_some, Option.toList_none, List.nil_append, List.cons_append, true_and, and_true, true_or, or_true, Int.cast_ofNat_Int, Int.natCast_zero, Int.natCast_one, zsh_56, zsh_57, zsh_58, zsh_59, zsh_60, zsh_61, zsh_62, zsh_63, zsh_64, zsh_65, zsh_66, zsh_67, zsh_68, zsh_69, zsh_70, zsh_71, zsh_72, zsh_73, zsh_74, zsh_75, zsh_76, zsh_77, zsh_78, zsh_79, zsh_80, zsh_81, zsh_82, zsh_83, zsh_84, zsh_85, zsh_86, zsh_87, zup_ne, zup_eq, zup_nf, ne_eq, not_false_eq_true]
                  refine ⟨by omega, ?_⟩
                  obtain ⟨μ6, hμ6⟩ : ∃ μ6, μ6 = zup μ5 87 (zfst (s : Int) + n) (zhash (zrow Ts s n)) := ⟨_, rfl⟩
                  rw [← hμ6]
                  have q87 : ∀ x : Int, μ6 87 x = if x = zfst (s : Int) + n then zhash (zrow Ts s n) else μ3 87 x := fun x => by
                    have : μ5 87 = μ3 87 := by rw [p4.1 87 (by simp) (by decide), p2.1 87 (by simp) (by decide)]
                    rw [hμ6, ← this]; simp [zup]
                  have f6 : zF zfoC zfoF μ3 μ6 := by
                    rw [hμ6]
                    exact ((p2.mono (by simp) (by simp)).trans (p4.mono (by simp) (by simp))).u (by simp) (by decide)
                  have nx := ihq (n + 1) μ6 (.inl ((zsl T s (n : Int)).length : Int)) (.inl 1) (by omega) (fun p hp hpn => ?_) (fun t p t1 t2 t3 t4 => ?_) ?_ (j5.trans f6)
                  · rw [show (((n + 1 : Nat)) : Int) = (n : Int) + 1 by omega] at nx
                    exact nx
                  · rw [q87]
                    by_cases e : p = n
                    · subst e
                      rw [if_pos rfl, znod_eq hs4]
                    · rw [if_neg (by omega)]
                      exact j2 p (by omega) hpn
                  · rw [q87, if_neg (zfst_ap hs4 t2 hn t3 (by omega))]
                    exact j3 t p t1 t2 t3 t4
                  · rw [erw, if_pos hb, ← List.append_assoc, zsgs_app]
                    refine zmG.f (μ := μ5) ?_ (C := [87]) (F := []) ?_ (by simp) (by simp)
                    · exact p3
                    · rw [hμ6]
                      exact (zF.refl _ _ _).u (by simp) (by decide)
              · rw [if_neg hb]
                simp only [b_X11_folder_0, b_X11_folder_7, b_X11_folder_9, b_X11_folder_21, b_X11_folder_25, b_X11_folder_27, b_X11_folder_36, b_X11_folder_48, b_X11_folder_53, b_X11_folder_75, b_X11_folder_79, b_X11_folder_80, b_X11_folder_87, b_X11_folder_90, b_X11_folder_96, b_X11_folder_105, b_X11_folder_111, b_X11_folder_127, b_X11_folder_133, b_X11_folder_139, b_X11_folder_156, b_X11_folder_158, o_c, o_il, o_al, o_is, o_as, o_inc, o_add, o_sub, o_mul, o_and, o_or, o_xor, o_shl, o_shr, o_ush, o_rem, o_dup, o_dup2, o_gf, o_pf, o_pz, o_iald, o_iast, o_zald, o_zast, o_aald, o_gs, o_min, o_acp, o_call, o_callv, zgf, zpf, zia_, zza_, zra_, zrd_, zcp_, zpop, zsm8_0, zsm8_1, zsm8_2, zsm8_3, zsm8_4, zsm8_5, zrc, zisob, t_ieq, t_ilt, t_igt, t_zeq, t_zlt, t_zgt, t_sw, zsw, t_iret, t_zret, t_aret, t_vret, zrg, List.getElem?_cons_zero, List.getElem?_cons_succ, List.set_cons_zero, List.set_cons_succ, List.length_cons, List.length_nil, Option.toList_some, Option.toList_none, List.nil_append, List.cons_append, true_and, and_true, true_or, or_true, Int.cast_ofNat_Int, Int.natCast_zero, Int.natCast_one, zsh_56, zsh_57, zsh_58, zsh_59, zsh_60, zsh_61, zsh_62, zsh_63, zsh_64, zsh_65, zsh_66, zsh_67, zsh_68, zsh_69, zsh_70, zsh_71, zsh_72, zsh_73, zsh_74, zsh_75, zsh_76, zsh_77, zsh_78, zsh_79, zsh_80, zsh_81, zsh_82, zsh_83, zsh_84, zsh_85, zsh_86, zsh_87, zup_ne, zup_eq, zup_nf, ne_eq, not_false_eq_true]
                refine ⟨by omega, fun _ => ?_, fun w => absurd trivial w⟩
                have nx := ihq (n + 1) μ3 (.inl ((zsl T s (n : Int)).length : Int)) (.inl 0) (by omega) (fun p hp hpn => ?_) j3 ?_ j5
                · rw [show (((n + 1 : Nat)) : Int) = (n : Int) + 1 by omega] at nx
                  exact nx
                · by_cases e : p = n
                  · subst e
                    exact absurd hpn hb
                  · exact j2 p (by omega) hpn
                · rw [erw, if_neg hb, List.append_nil]
                  exact j4
            refine s_X11_folder_27 hG ?_
            simp only [b_X11_folder_0, b_X11_folder_7, b_X11_folder_9, b_X11_folder_21, b_X11_folder_25, b_X11_folder_27, b_X11_folder_36, b_X11_folder_48, b_X11_folder_53, b_X11_folder_75, b_X11_folder_79, b_X11_folder_80, b_X11_folder_87, b_X11_folder_90, b_X11_folder_96, b_X11_folder_105, b_X11_folder_111, b_X11_folder_127, b_X11_folder_133, b_X11_folder_139, b_X11_folder_156, b_X11_folder_158, o_c, o_il, o_al, o_is, o_as, o_inc, o_add, o_sub, o_mul, o_and, o_or, o_xor, o_shl, o_shr, o_ush, o_rem, o_dup, o_dup2, o_gf, o_pf, o_pz, o_iald, o_iast, o_zald, o_zast, o_aald, o_gs, o_min, o_acp, o_call, o_callv, zgf, zpf, zia_, zza_, zra_, zrd_, zcp_, zpop, zsm8_0, zsm8_1, zsm8_2, zsm8_3, zsm8_4, zsm8_5, zrc, zisob, t_ieq, t_ilt, t_igt, t_zeq, t_zlt, t_zgt, t_sw, zsw, t_iret, t_zret, t_aret, t_vret, zrg, List.getElem?_cons_zero, List.getElem?_cons_succ, List.set_cons_zero, List.set_cons_succ, List.length_cons, List.length_nil, Option.toList_some, Option.toList_none, List.nil_append, List.cons_append, true_and, and_true, true_or, or_true, Int.cast_ofNat_Int, Int.natCast_zero, Int.natCast_one, zsh_56, zsh_57, zsh_58, zsh_59, zsh_60, zsh_61, zsh_62, zsh_63, zsh_64, zsh_65, zsh_66, zsh_67, zsh_68, zsh_69, zsh_70, zsh_71, zsh_72, zsh_73, zsh_74, zsh_75, zsh_76, zsh_77, zsh_78, zsh_79, zsh_80, zsh_81, zsh_82, zsh_83, zsh_84, zsh_85, zsh_86, zsh_87, zup_ne, zup_eq, zup_nf, ne_eq, not_false_eq_true]
            rw [zsh4 hs4]
            refine ⟨by omega, by omega, fun _ => ?_, fun w => by omega⟩
            refine zcall (c_X11_countOf (by omega) hT3 (by omega) ⟨by omega, by omega⟩) ?_
            simp only [b_X11_folder_0, b_X11_folder_7, b_X11_folder_9, b_X11_folder_21, b_X11_folder_25, b_X11_folder_27, b_X11_folder_36, b_X11_folder_48, b_X11_folder_53, b_X11_folder_75, b_X11_folder_79, b_X11_folder_80, b_X11_folder_87, b_X11_folder_90, b_X11_folder_96, b_X11_folder_105, b_X11_folder_111, b_X11_folder_127, b_X11_folder_133, b_X11_folder_139, b_X11_folder_156, b_X11_folder_158, o_c, o_il, o_al, o_is, o_as, o_inc, o_add, o_sub, o_mul, o_and, o_or, o_xor, o_shl, o_shr, o_ush, o_rem, o_dup, o_dup2, o_gf, o_pf, o_pz, o_iald, o_iast, o_zald, o_zast, o_aald, o_gs, o_min, o_acp, o_call, o_callv, zgf, zpf, zia_, zza_, zra_, zrd_, zcp_, zpop, zsm8_0, zsm8_1, zsm8_2, zsm8_3, zsm8_4, zsm8_5, zrc, zisob, t_ieq, t_ilt, t_igt, t_zeq, t_zlt, t_zgt, t_sw, zsw, t_iret, t_zret, t_aret, t_vret, zrg, List.getElem?_cons_zero, List.getElem?_cons_succ, List.set_cons_zero, List.set_cons_succ, List.length_cons, List.length_nil, Option.toList_some, Option.toList_none, List.nil_append, List.cons_append, true_and, and_true, true_or, or_true, Int.cast_ofNat_Int, Int.natCast_zero, Int.natCast_one, zsh_56, zsh_57, zsh_58, zsh_59, zsh_60, zsh_61, zsh_62, zsh_63, zsh_64, zsh_65, zsh_66, zsh_67, zsh_68, zsh_69, zsh_70, zsh_71, zsh_72, zsh_73, zsh_74, zsh_75, zsh_76, zsh_77, zsh_78, zsh_79, zsh_80, zsh_81, zsh_82, zsh_83, zsh_84, zsh_85, zsh_86, zsh_87, zup_ne, zup_eq, zup_nf, ne_eq, not_false_eq_true]
            by_cases e0 : s = 0
            · have hb : zndb Ts s n = true := by simp [zndb, e0]
              rw [if_pos hb] at aft
              exact ⟨by omega, fun _ => aft, fun w => by omega⟩
            · have hzl : zand (n : Int) (zshl 1 (2 * (s : Int) - 2) - 1) = (n : Int) % 4 ^ (s - 1) := by
                have := zm4 (s := s - 1) (by omega) (n : Int)
                rw [show (2 * (((s - 1 : Nat)) : Int)) = 2 * (s : Int) - 2 by omega] at this
                exact this
              have z1 := zm4_rg (s := s - 1) (by omega) (n : Int)
              rw [hzl]
              refine ⟨by omega, fun w => by omega, fun _ => ⟨by omega, fun w => ?_, fun w => ?_⟩⟩
              · have cnt := c_X11_countOf (d := d - 1) (s := s - 1) (p := (n : Int) % 4 ^ (s - 1)) (by omega) hT3 (by omega) ⟨by omega, by omega⟩
                rw [show (((s - 1 : Nat)) : Int) = (s : Int) - 1 by omega] at cnt
                refine zcall cnt ?_
                simp only [b_X11_folder_0, b_X11_folder_7, b_X11_folder_9, b_X11_folder_21, b_X11_folder_25, b_X11_folder_27, b_X11_folder_36, b_X11_folder_48, b_X11_folder_53, b_X11_folder_75, b_X11_folder_79, b_X11_folder_80, b_X11_folder_87, b_X11_folder_90, b_X11_folder_96, b_X11_folder_105, b_X11_folder_111, b_X11_folder_127, b_X11_folder_133, b_X11_folder_139, b_X11_folder_156, b_X11_folder_158, o_c, o_il, o_al, o_is, o_as, o_inc, o_add, o_sub, o_mul, o_and, o_or, o_xor, o_shl, o_shr, o_ush, o_rem, o_dup, o_dup2, o_gf, o_pf, o_pz, o_iald, o_iast, o_zald, o_zast, o_aald, o_gs, o_min, o_acp, o_call, o_callv, zgf, zpf, zia_, zza_, zra_, zrd_, zcp_, zpop, zsm8_0, zsm8_1, zsm8_2, zsm8_3, zsm8_4, zsm8_5, zrc, zisob, t_ieq, t_ilt, t_igt, t_zeq, t_zlt, t_zgt, t_sw, zsw, t_iret, t_zret, t_aret, t_vret, zrg, List.getElem?_cons_zero, List.getElem?_cons_succ, List.set_cons_zero, List.set_cons_succ, List.length_cons, List.length_nil, Option.toList_some, Option.toList_none, List.nil_append, List.cons_append, true_and, and_true, true_or, or_true, Int.cast_ofNat_Int, Int.natCast_zero, Int.natCast_one, zsh_56, zsh_57, zsh_58, zsh_59, zsh_60, zsh_61, zsh_62, zsh_63, zsh_64, zsh_65, zsh_66, zsh_67, zsh_68, zsh_69, zsh_70, zsh_71, zsh_72, zsh_73, zsh_74, zsh_75, zsh_76, zsh_77, zsh_78, zsh_79, zsh_80, zsh_81, zsh_82, zsh_83, zsh_84, zsh_85, zsh_86, zsh_87, zup_ne, zup_eq, zup_nf, ne_eq, not_false_eq_true]
                have hcl2 : (zsl T (s - 1) ((n : Int) % 4 ^ (s - 1))).length ≤ 16 := by
                  have : (zsl T (s - 1) ((n : Int) % 4 ^ (s - 1))).length ≤ T.length := List.length_filter_le _ _
                  have := hT.2.1
                  omega
                have hne : zsl Ts s (n : Int) ≠ [] := fun q => by
                  have := hlen s (n : Int)
                  rw [q] at this
                  simp at this
                  rw [this] at w
                  simp at w
                have hl2 := hlen (s - 1) ((n : Int) % 4 ^ (s - 1))
                refine ⟨by omega, by omega, fun w2 => ?_, fun w2 => ?_⟩
                · have hb : zndb Ts s n = true := by
                    unfold zndb
                    have b2 : 4 < (zsl Ts (s - 1) ((n : Int) % 4 ^ (s - 1))).length := by omega
                    simp [hne, b2]
                  rw [if_pos hb] at aft
                  exact aft
                · have hb : ¬ zndb Ts s n = true := by
                    unfold zndb
                    have b2 : ¬ 4 < (zsl Ts (s - 1) ((n : Int) % 4 ^ (s - 1))).length := by omega
                    simp [e0, b2]
                  rw [if_neg hb] at aft
                  exact aft
              · have hb : ¬ zndb Ts s n = true := by
                  unfold zndb
                  have b2 : zsl Ts s (n : Int) = [] := List.eq_nil_of_length_eq_zero (by rw [← hlen]; omega)
                  simp [e0, b2]
                rw [if_neg hb] at aft
                exact aft
        refine s_X11_folder_21 hG ?_
        simp only [b_X11_folder_0, b_X11_folder_7, b_X11_folder_9, b_X11_folder_21, b_X11_folder_25, b_X11_folder_27, b_X11_folder_36, b_X11_folder_48, b_X11_folder_53, b_X11_folder_75, b_X11_folder_79, b_X11_folder_80, b_X11_folder_87, b_X11_folder_90, b_X11_folder_96, b_X11_folder_105, b_X11_folder_111, b_X11_folder_127, b_X11_folder_133, b_X11_folder_139, b_X11_folder_156, b_X11_folder_158, o_c, o_il, o_al, o_is, o_as, o_inc, o_add, o_sub, o_mul, o_and, o_or, o_xor, o_shl, o_shr, o_ush, o_rem, o_dup, o_dup2, o_gf, o_pf, o_pz, o_iald, o_iast, o_zald, o_zast, o_aald, o_gs, o_min, o_acp, o_call, o_callv, zgf, zpf, zia_, zza_, zra_, zrd_, zcp_, zpop, zsm8_0, zsm8_1, zsm8_2, zsm8_3, zsm8_4, zsm8_5, zrc, zisob, t_ieq, t_ilt, t_igt, t_zeq, t_zlt, t_zgt, t_sw, zsw, t_iret, t_zret, t_aret, t_vret, zrg, List.getElem?_cons_zero, List.getElem?_cons_succ, List.set_cons_zero, List.set_cons_succ, List.length_cons, List.length_nil, Option.toList_some, Option.toList_none, List.nil_append, List.cons_append, true_and, and_true, true_or, or_true, Int.cast_ofNat_Int, Int.natCast_zero, Int.natCast_one, zsh_56, zsh_57, zsh_58, zsh_59, zsh_60, zsh_61, zsh_62, zsh_63, zsh_64, zsh_65, zsh_66, zsh_67, zsh_68, zsh_69, zsh_70, zsh_71, zsh_72, zsh_73, zsh_74, zsh_75, zsh_76, zsh_77, zsh_78, zsh_79, zsh_80, zsh_81, zsh_82, zsh_83, zsh_84, zsh_85, zsh_86, zsh_87, zup_ne, zup_eq, zup_nf, ne_eq, not_false_eq_true]
        refine ⟨by omega, fun w => by omega, fun _ => ?_⟩
        exact inner (4 ^ s) 0 μ2 _ _ (by omega) (fun p hp => by omega) k3 (by simpa [zrws] using k4) k5
    simp only [b_X11_folder_0, b_X11_folder_7, b_X11_folder_9, b_X11_folder_21, b_X11_folder_25, b_X11_folder_27, b_X11_folder_36, b_X11_folder_48, b_X11_folder_53, b_X11_folder_75, b_X11_folder_79, b_X11_folder_80, b_X11_folder_87, b_X11_folder_90, b_X11_folder_96, b_X11_folder_105, b_X11_folder_111, b_X11_folder_127, b_X11_folder_133, b_X11_folder_139, b_X11_folder_156, b_X11_folder_158, o_c, o_il, o_al, o_is, o_as, o_inc, o_add, o_sub, o_mul, o_and, o_or, o_xor, o_shl, o_shr, o_ush, o_rem, o_dup, o_dup2, o_gf, o_pf, o_pz, o_iald, o_iast, o_zald, o_zast, o_aald, o_gs, o_min, o_acp, o_call, o_callv, zgf, zpf, zia_, zza_, zra_, zrd_, zcp_, zpop, zsm8_0, zsm8_1, zsm8_2, zsm8_3, zsm8_4, zsm8_5, zrc, zisob, t_ieq, t_ilt, t_igt, t_zeq, t_zlt, t_zgt, t_sw, zsw, t_iret, t_zret, t_aret, t_vret, zrg, List.getElem?_cons_zero, List.getElem?_cons_succ, List.set_cons_zero, List.set_cons_succ, List.length_cons, List.length_nil, Option.toList_some, Option.toList_none, List.nil_append, List.cons_append, true_and, and_true, true_or, or_true, Int.cast_ofNat_Int, Int.natCast_zero, Int.natCast_one, zsh_56, zsh_57, zsh_58, zsh_59, zsh_60, zsh_61, zsh_62, zsh_63, zsh_64, zsh_65, zsh_66, zsh_67, zsh_68, zsh_69, zsh_70, zsh_71, zsh_72, zsh_73, zsh_74, zsh_75, zsh_76, zsh_77, zsh_78, zsh_79, zsh_80, zsh_81, zsh_82, zsh_83, zsh_84, zsh_85, zsh_86, zsh_87, zup_ne, zup_eq, zup_nf, ne_eq, not_false_eq_true]
    refine zcall (c_X11_isStore hs) ?_
    rw [zb_t hc]
    simp only [b_X11_folder_0, b_X11_folder_7, b_X11_folder_9, b_X11_folder_21, b_X11_folder_25, b_X11_folder_27, b_X11_folder_36, b_X11_folder_48, b_X11_folder_53, b_X11_folder_75, b_X11_folder_79, b_X11_folder_80, b_X11_folder_87, b_X11_folder_90, b_X11_folder_96, b_X11_folder_105, b_X11_folder_111, b_X11_folder_127, b_X11_folder_133, b_X11_folder_139, b_X11_folder_156, b_X11_folder_158, o_c, o_il, o_al, o_is, o_as, o_inc, o_add, o_sub, o_mul, o_and, o_or, o_xor, o_shl, o_shr, o_ush, o_rem, o_dup, o_dup2, o_gf, o_pf, o_pz, o_iald, o_iast, o_zald, o_zast, o_aald, o_gs, o_min, o_acp, o_call, o_callv, zgf, zpf, zia_, zza_, zra_, zrd_, zcp_, zpop, zsm8_0, zsm8_1, zsm8_2, zsm8_3, zsm8_4, zsm8_5, zrc, zisob, t_ieq, t_ilt, t_igt, t_zeq, t_zlt, t_zgt, t_sw, zsw, t_iret, t_zret, t_aret, t_vret, zrg, List.getElem?_cons_zero, List.getElem?_cons_succ, List.set_cons_zero, List.set_cons_succ, List.length_cons, List.length_nil, Option.toList_some, Option.toList_none, List.nil_append, List.cons_append, true_and, and_true, true_or, or_true, Int.cast_ofNat_Int, Int.natCast_zero, Int.natCast_one, zsh_56, zsh_57, zsh_58, zsh_59, zsh_60, zsh_61, zsh_62, zsh_63, zsh_64, zsh_65, zsh_66, zsh_67, zsh_68, zsh_69, zsh_70, zsh_71, zsh_72, zsh_73, zsh_74, zsh_75, zsh_76, zsh_77, zsh_78, zsh_79, zsh_80, zsh_81, zsh_82, zsh_83, zsh_84, zsh_85, zsh_86, zsh_87, zup_ne, zup_eq, zup_nf, ne_eq, not_false_eq_true]
    refine ⟨by omega, fun w => by omega, fun _ => ?_⟩
    have f0 : zF zfoC zfoF μ (zup (zup μ 56 25 0) 56 26 0) := ((zF.refl _ _ _).v (by simp)).v (by simp)
    exact outer 4 0 3 _ _ _ _ (by omega) (by omega) (fun t p t1 t2 => by omega) ⟨by rw [zup_nf (by decide), zup_eq]; rfl, by simp [zlr, zsgs], zup_eq, Or.inl rfl, by simp [zlr, zsgs], fun i b hb => by simp [zlr, zsgs] at hb⟩ f0
  · have e1 : zfqO Ts Sm store = -1 := by unfold zfqO; rw [if_neg hc]
    have e2 : zfqS Ts Sm store = Sm := by unfold zfqS; rw [if_neg hc]
    rw [e1, e2]
    refine of_X11_folder (by omega) (fun G hG => s_X11_folder_0 hG ?_)
    simp only [b_X11_folder_0, b_X11_folder_7, b_X11_folder_9, b_X11_folder_21, b_X11_folder_25, b_X11_folder_27, b_X11_folder_36, b_X11_folder_48, b_X11_folder_53, b_X11_folder_75, b_X11_folder_79, b_X11_folder_80, b_X11_folder_87, b_X11_folder_90, b_X11_folder_96, b_X11_folder_105, b_X11_folder_111, b_X11_folder_127, b_X11_folder_133, b_X11_folder_139, b_X11_folder_156, b_X11_folder_158, o_c, o_il, o_al, o_is, o_as, o_inc, o_add, o_sub, o_mul, o_and, o_or, o_xor, o_shl, o_shr, o_ush, o_rem, o_dup, o_dup2, o_gf, o_pf, o_pz, o_iald, o_iast, o_zald, o_zast, o_aald, o_gs, o_min, o_acp, o_call, o_callv, zgf, zpf, zia_, zza_, zra_, zrd_, zcp_, zpop, zsm8_0, zsm8_1, zsm8_2, zsm8_3, zsm8_4, zsm8_5, zrc, zisob, t_ieq, t_ilt, t_igt, t_zeq, t_zlt, t_zgt, t_sw, zsw, t_iret, t_zret, t_aret, t_vret, zrg, List.getElem?_cons_zero, List.getElem?_cons_succ, List.set_cons_zero, List.set_cons_succ, List.length_cons, List.length_nil, Option.toList_some, Option.toList_none, List.nil_append, List.cons_append, true_and, and_true, true_or, or_true, Int.cast_ofNat_Int, Int.natCast_zero, Int.natCast_one, zsh_56, zsh_57, zsh_58, zsh_59, zsh_60, zsh_61, zsh_62, zsh_63, zsh_64, zsh_65, zsh_66, zsh_67, zsh_68, zsh_69, zsh_70, zsh_71, zsh_72, zsh_73, zsh_74, zsh_75, zsh_76, zsh_77, zsh_78, zsh_79, zsh_80, zsh_81, zsh_82, zsh_83, zsh_84, zsh_85, zsh_86, zsh_87, zup_ne, zup_eq, zup_nf, ne_eq, not_false_eq_true]
    refine zcall (c_X11_isStore hs) ?_
    have R : zRN μ B (zcT T (-1)) Ms Sm ∧ zlo μ μ := ⟨h, zlo.refl _⟩
    rw [zb_f hc]
    simp only [b_X11_folder_0, b_X11_folder_7, b_X11_folder_9, b_X11_folder_21, b_X11_folder_25, b_X11_folder_27, b_X11_folder_36, b_X11_folder_48, b_X11_folder_53, b_X11_folder_75, b_X11_folder_79, b_X11_folder_80, b_X11_folder_87, b_X11_folder_90, b_X11_folder_96, b_X11_folder_105, b_X11_folder_111, b_X11_folder_127, b_X11_folder_133, b_X11_folder_139, b_X11_folder_156, b_X11_folder_158, o_c, o_il, o_al, o_is, o_as, o_inc, o_add, o_sub, o_mul, o_and, o_or, o_xor, o_shl, o_shr, o_ush, o_rem, o_dup, o_dup2, o_gf, o_pf, o_pz, o_iald, o_iast, o_zald, o_zast, o_aald, o_gs, o_min, o_acp, o_call, o_callv, zgf, zpf, zia_, zza_, zra_, zrd_, zcp_, zpop, zsm8_0, zsm8_1, zsm8_2, zsm8_3, zsm8_4, zsm8_5, zrc, zisob, t_ieq, t_ilt, t_igt, t_zeq, t_zlt, t_zgt, t_sw, zsw, t_iret, t_zret, t_aret, t_vret, zrg, List.getElem?_cons_zero, List.getElem?_cons_succ, List.set_cons_zero, List.set_cons_succ, List.length_cons, List.length_nil, Option.toList_some, Option.toList_none, List.nil_append, List.cons_append, true_and, and_true, true_or, or_true, Int.cast_ofNat_Int, Int.natCast_zero, Int.natCast_one, zsh_56, zsh_57, zsh_58, zsh_59, zsh_60, zsh_61, zsh_62, zsh_63, zsh_64, zsh_65, zsh_66, zsh_67, zsh_68, zsh_69, zsh_70, zsh_71, zsh_72, zsh_73, zsh_74, zsh_75, zsh_76, zsh_77, zsh_78, zsh_79, zsh_80, zsh_81, zsh_82, zsh_83, zsh_84, zsh_85, zsh_86, zsh_87, zup_ne, zup_eq, zup_nf, ne_eq, not_false_eq_true]
    exact ⟨by omega, fun _ => R, fun w => absurd trivial w⟩
