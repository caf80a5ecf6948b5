/-! calls, returns, switches; contracts -/
abbrev zMd : Type := MethodName × (ByteArray × (Nat × Option FieldType))
def zws (M : zMd) : List Cond := .code M.1 M.2.1 M.2.2.1 M.2.2.2 :: zTB
def zrm (d : Nat) : Room := { frames := d, cells := 0, slots := 0, locals := 96 * d }
def zPc (E : zE) (av : List zV) (μ : zM) : Array Value → State → Prop := va_Pc (av.map (zcv (zal E))) (fun U => zEv E U U.heap ∧ va_P (zaD E) vwCl (zwl E μ) U.heap)
def zQc (E : zE) (Q : zQ) : Array Value → State → Outcome → State → Prop := fun _ st oc t => (∃ (r : Option zV) (μ' : zM), oc = .returned (r.map (zcv (zal E))) ∧ Q r μ' ∧ va_P (zaD E) vwCl (zwl E μ') t.heap) ∧ va_F (zaA E) st t
/-- THE CONTRACT: the method M, called with av in the memory μ, returns, and Q holds of what it answers and of the memory then -/
def zCt (d : Nat) (M : zMd) (av : List zV) (μ : zM) (Q : zQ) : Prop := ∀ (l : Launch) (E : zE), Met l M.1 (zws M) (zrm d) (zPc E av μ) (zQc E Q) 0 0 (zaA E)
theorem lg_sl_zcv (al : Nat → Nat) (av : List zV) : lg_sl (av.map (zcv al)) = av.map (fun v => Slot.val (zcv al v)) := by
  induction av with
  | nil => rfl
  | cons v r ih =>
    simp only [lg_sl, List.map_cons, List.flatMap_cons] at ih ⊢
    rw [ih]
    simp [zcv_cat]
theorem zlv_entry (E : zE) (av : List zV) {n : Nat} (h : av.length ≤ n) : zlv E ((lg_sl (av.map (zcv (zal E))) ++ List.replicate (n - (lg_sl (av.map (zcv (zal E)))).length) Slot.unset).toArray) n (av ++ List.replicate (n - av.length) (.inr none)) := by
  have hl : (lg_sl (av.map (zcv (zal E)))).length = av.length := by rw [lg_sl_zcv]; simp
  have he := lv_entry (av.map (zcv (zal E))) (n := n) (by rw [hl]; exact h)
  refine ⟨he.1, he.2.1, by simp; omega, fun i v hi hv => ?_⟩
  by_cases hlt : i < av.length
  · rw [List.getElem?_append_left hlt] at hi
    rw [lg_sl_zcv]
    simp only [List.getElem?_toArray]
    rw [List.getElem?_append_left (by simpa using hlt), List.getElem?_map, hi]
    rfl
  · rw [List.getElem?_append_right (by omega)] at hi
    rw [List.getElem?_replicate] at hi
    split at hi
    · cases hi; exact absurd rfl hv
    · cases hi
theorem zCt.mk {d : Nat} {M : zMd} {av : List zV} {μ : zM} {Q : zQ} (hy : plainName M.1.cls = true) (hlen : av.length ≤ M.2.2.1)
    (h : ∀ (p : Program) (l : Launch) (e : Env) (s : State) (m : MethodId) (args : Array Value) (below : List Frame) (meth : Method) (c : Code) (E : zE), zB p s m args c E M.1.cls M.2.1 M.2.2.1 → meth.sig.returnType = M.2.2.2 → meth.locks = false → zG p l e (zrm d) s m args below meth c E M.2.2.1 0 0 (MQ below (zQc E Q) args s 0 0 (zaA E)) 0 (av ++ List.replicate (M.2.2.1 - av.length) (.inr none)) [] μ) : zCt d M av μ Q := by
  intro l E
  refine Met.ofW (cc := M.2.1) (maxL := M.2.2.1) (ret := M.2.2.2) hy rfl ?_
  intro p e s m args below meth c s₁ B hml hv
  obtain ⟨rfl, hE, hP⟩ := hv
  have hts := atoms_spec (ws := zws M) B.pre
  have hown : s.vm.findClass M.1.cls = some m.cls := findClass_of_methodNamed B.named
  rw [lg_entry_eq]
  exact h p l e s m _ below meth c E ⟨B.exec, B.bytes, hml, hown, fun w hw => hts w (List.mem_cons_of_mem _ hw), hE⟩ B.returns B.notSynchronized s.heap [] _ hP va_S.rf (zlv_entry E av hlen)
theorem zCt.mono {d : Nat} {M : zMd} {av : List zV} {μ : zM} {Q Q' : zQ} (h : zCt d M av μ Q) (hq : ∀ r μ', Q r μ' → Q' r μ') : zCt d M av μ Q' := by
  intro l E
  have h1 := h l E
  unfold Met MetFree at h1 ⊢
  intro p e ha hc hk s m args below hf happ hP hT
  obtain ⟨k, o, a1, a2, a3, ⟨⟨⟨r, μ', b1, b2, b3⟩, b4⟩, b5⟩⟩ := h1 p e ha hc hk s m args below hf happ hP hT
  exact ⟨k, o, a1, a2, a3, ⟨⟨⟨r, μ', b1, hq r μ' b2, b3⟩, b4⟩, b5⟩⟩
theorem zEv.same {E : zE} {u U : State} {H : Heap} (h : zEv E u H) (hv : u.vm = U.vm) : zEv E U H := by
  have hA : u.vm.Alike U.vm := by rw [hv]; exact Vm.Alike.refl _
  exact ⟨h.1.moved hA, h.2.1.moved hA, h.2.2.1.moved hA, h.2.2.2.1, h.2.2.2.2.1, h.2.2.2.2.2.1.same rfl hv, h.2.2.2.2.2.2.1.same rfl hv, h.2.2.2.2.2.2.2.same rfl hv⟩
theorem zPc_blind (E : zE) (av : List zV) (μ : zM) : FrameBlind (zPc E av μ) := fun a U g mk q => ⟨q.1, q.2.1.same rfl, q.2.2⟩
theorem zgood {M : zMd} (hc : Cond.code M.1 M.2.1 M.2.2.1 M.2.2.2 ∈ zTB) : GoodIn zTB (zws M) := fun w hw => by
  have h : w ∈ zTB := by
    rcases List.mem_cons.mp hw with rfl | h
    · exact hc
    · exact h
  exact ⟨h, good_of_word (List.mem_filter.mp h).2⟩
theorem zpop_of {n : Nat} : ∀ {st acc : List zV} {C : List zV → List zV → Prop}, zpop n st acc C → ∃ as r, st = as.reverse ++ r ∧ as.length = n ∧ C (as ++ acc) r := by
  induction n with
  | zero => intro st acc C h; exact ⟨[], st, rfl, rfl, h⟩
  | succ n ih =>
    intro st acc C h
    cases st with
    | nil => exact h.elim
    | cons v st =>
      obtain ⟨as, r, h1, h2, h3⟩ := ih (st := st) (acc := v :: acc) h
      exact ⟨as ++ [v], r, by rw [h1]; simp, by simp [h2], by simpa using h3⟩
theorem zcat (al : Nat → Nat) (r : List zV) : ((r.map (zcv al)).map fun v => v.category).sum = r.length := by
  induction r with
  | nil => rfl
  | cons v r ih =>
    simp only [List.map_cons, List.sum_cons, List.length_cons]
    rw [ih, zcv_cat, Nat.add_comm]
section
variable {p : Program} {l : Launch} {e : Env} {R : Room} {s : State} {m : MethodId} {args : Array Value} {below : List Frame} {meth : Method} {c : Code} {E : zE} {nL cells slots : Nat} {QQ : State → Prop} {own : String} {cc : ByteArray} {pc : Nat} {K K1 K2 : zK}
theorem z_run {H : Heap} {locs : List Loc} {sl : Array Slot} {st0 rest : List Value} {a : Array Value} {Q : zQ} {ls restA : List zV} (hr : va_Run p l e R s m args below meth c H locs cells slots 0 0 (F0 m pc sl st0) rest (zQc E Q a) (zaA E)) (hS : va_S (zaA E) s.heap H locs) (hl : zlv E sl nL ls) (hrest : rest = restA.map (zcv (zal E))) (kk : ∀ r μ', Q r μ' → (zG p l e R s m args below meth c E nL cells slots QQ) (pc + 3) ls (r.toList ++ restA) μ') : W p l e R s m args below meth c H locs cells slots QQ (F0 m pc sl st0) := by
  intro T hT X
  obtain ⟨v, st₀, t, T', L, h0, X', hL, e1, e2, ⟨⟨r, μ', hv, hq, hb⟩, hz, hk⟩, st⟩ := hr T hT X
  cases hv
  rw [h0] at hz hk
  obtain ⟨t2, a1, b1⟩ := kk r μ' hq T'.heap (locs ++ L) sl (by rw [e1]; exact hb)
    ⟨Nat.le_trans hS.1 (by rw [e1]; exact hz), fun q h1 h2 => by rw [e1, hk q (Nat.lt_of_lt_of_le h1 hS.1) h2]; exact hS.2.1 q h1 h2, fun q hq => by
      rcases List.mem_append.mp hq with h | h
      · exact hS.2.2 q h
      · exact hL q h⟩ hl T' rfl X'
  refine ⟨t2, st t2 ?_, b1⟩
  have e9 : (r.toList ++ restA).map (zcv (zal E)) = (r.map (zcv (zal E))).toList ++ rest := by rw [hrest]; cases r <;> simp
  rw [e9] at a1
  exact a1
theorem zEv.now {H : Heap} {locs : List Loc} {U : State} (h : zEv E s s.heap) (hS : va_S (zaA E) s.heap H locs) (hU : U.heap = H) (hW : s.WarmedH U.vm) : zEv E U U.heap := by
  rw [hU]
  exact (h.kept (fun a h1 h2 => hS.2.1 a h1 h2)).warm hW
abbrev zcdw (M : zMd) : Cond := Cond.code M.1 M.2.1 M.2.2.1 M.2.2.2
theorem lk_callv {M : zMd} {d index n ci : Nat} {T : u_T} {N : Nat} (B : zB p s m args c E own cc nL) (hR : (zrm d).frames + 1 ≤ R.frames ∧ 8 + (M.2.2.1 + 11) + (zrm d).locals ≤ R.locals) (hcR : cells ≤ R.cells ∧ slots ≤ R.slots) (hc : vwCl[ci]? = some (M.1.cls, T, N)) (hw : ∀ w ∈ [zcdw M, .methodLink own index M.1, .instanceMethod M.1, .selects M.1.cls M.1 M.1, .initialized M.1.cls], w ∈ zTB)
    (hdd : M.1.cls ≠ "java/lang/invoke/MethodHandle" ∧ M.1.cls ≠ "java/lang/invoke/VarHandle" ∧ (parseMethodDescriptor M.1.desc).map (fun d => d.parameters.length) = some n) (hd : decode cc pc = .ok (.invokevirtual index, 3)) (k : zLk (zG p l e R s m args below meth c E nL cells slots QQ) (pc + 3) K) : zLk (zG p l e R s m args below meth c E nL cells slots QQ) pc (o_callv (zCt d M) ci (n + 1) K) := by
  intro ls st μ h H locs sl hP hS hl
  obtain ⟨as, r, rfl, hn, hrc, h8, Q, hM, hk⟩ := zpop_of h
  clear h
  rw [List.append_nil] at hrc hM
  unfold zrc at hrc
  split at hrc
  · rename_i a ar
    unfold zisob at hrc
    split at hrc
    · rename_i c' fl hq
      subst hrc
      have hN : a < zN := zsh_lt (by rw [hq]; intro w; cases w) (by
        rw [hq]; intro w; cases w; simp [vwCl] at hc)
      have hg := zwl_get (E := E) (μ := μ) hN
      rw [hq] at hg
      refine z_run (a := (Value.ref (zal E a) :: ar.map (zcv (zal E))).toArray) (rest := r.map (zcv (zal E))) ?_ hS hl rfl (fun v μ' hq => k ls _ μ' (hk v μ' hq))
      refine va_runV (C := M.1.cls) (As := ar.map (zcv (zal E))) (rest := r.map (zcv (zal E))) (mc := 0) (ms := 0) (n := n) (b := zal E a) ⟨B.1, B.2.1, B.2.2.1, B.2.2.2.1, B.2.2.2.2.1⟩ (hM l E) ⟨callB_of n B.2.2.2.2.1 (zgood (hw _ (by simp))) rfl rfl rfl (B.2.2.2.2.1 _ (hw _ (by simp))) (B.2.2.2.2.1 _ (hw _ (by simp))) hdd hR, B.2.2.2.2.1 _ (hw _ (by simp)), B.2.2.2.2.1 _ (hw _ (by simp))⟩ ⟨zPc_blind E _ μ, va_recv B.2.2.2.2.2.1 hP hc hg, fun U hU hW => ⟨rfl, B.2.2.2.2.2.now hS hU hW, by rw [hU]; exact hP⟩⟩ rfl (by simp at hn; simpa using hn) hl.1 (by simp [zcv]) (lv_room (by rw [zcat]; exact h8)) hd ⟨hcR.1, hcR.2⟩
    · exact hrc.elim
  · exact hrc.elim
theorem lk_calls {M : zMd} {d index n : Nat} (B : zB p s m args c E own cc nL) (hR : (zrm d).frames + 1 ≤ R.frames ∧ 8 + (M.2.2.1 + 11) + (zrm d).locals ≤ R.locals) (hcR : cells ≤ R.cells ∧ slots ≤ R.slots) (hw : ∀ w ∈ [zcdw M, .methodLink own index M.1, .static M.1, .initialized M.1.cls], w ∈ zTB)
    (hdd : M.1.cls ≠ "java/lang/invoke/MethodHandle" ∧ M.1.cls ≠ "java/lang/invoke/VarHandle" ∧ (parseMethodDescriptor M.1.desc).map (fun d => d.parameters.length) = some n) (hd : decode cc pc = .ok (.invokestatic index, 3)) (k : zLk (zG p l e R s m args below meth c E nL cells slots QQ) (pc + 3) K) : zLk (zG p l e R s m args below meth c E nL cells slots QQ) pc (o_call (zCt d M) n K) := by
  intro ls st μ h H locs sl hP hS hl
  obtain ⟨as, r, rfl, hn, h8, Q, hM, h⟩ := zpop_of h
  rw [List.append_nil] at hM
  refine z_run (a := (as.map (zcv (zal E))).toArray) (rest := r.map (zcv (zal E))) ?_ hS hl rfl (fun v μ' hq => k ls _ μ' (h v μ' hq))
  exact va_runS (As := as.map (zcv (zal E))) (rest := r.map (zcv (zal E))) (mc := 0) (ms := 0) (n := n) ⟨B.1, B.2.1, B.2.2.1, B.2.2.2.1, B.2.2.2.2.1⟩ (hM l E) ⟨callB_of n B.2.2.2.2.1 (zgood (hw _ (by simp))) rfl rfl rfl (B.2.2.2.2.1 _ (hw _ (by simp))) (B.2.2.2.2.1 _ (hw _ (by simp))) hdd hR, B.2.2.2.2.1 _ (hw _ (by simp))⟩ ⟨zPc_blind E _ μ, fun U hU hW => ⟨rfl, B.2.2.2.2.2.now hS hU hW, by rw [hU]; exact hP⟩⟩ rfl (by simpa using hn) hl.1 (by simp) (lv_room (by rw [zcat]; exact h8)) hd ⟨hcR.1, hcR.2⟩
theorem lk_calln {M : zMd} {d index n : Nat} {host : String} (B : zB p s m args c E own cc nL) (hR : (zrm d).frames + 1 ≤ R.frames ∧ 8 + (M.2.2.1 + 11) + (zrm d).locals ≤ R.locals) (hcR : cells ≤ R.cells ∧ slots ≤ R.slots) (hl0 : va_Nw (.methodLinkNest own index M.1 host) s) (hw : ∀ w ∈ [zcdw M, .static M.1, .initialized M.1.cls], w ∈ zTB)
    (hdd : M.1.cls ≠ "java/lang/invoke/MethodHandle" ∧ M.1.cls ≠ "java/lang/invoke/VarHandle" ∧ (parseMethodDescriptor M.1.desc).map (fun d => d.parameters.length) = some n) (hd : decode cc pc = .ok (.invokestatic index, 3)) (k : zLk (zG p l e R s m args below meth c E nL cells slots QQ) (pc + 3) K) : zLk (zG p l e R s m args below meth c E nL cells slots QQ) pc (o_call (zCt d M) n K) := by
  intro ls st μ h H locs sl hP hS hl
  obtain ⟨as, r, rfl, hn, h8, Q, hM, h⟩ := zpop_of h
  rw [List.append_nil] at hM
  refine z_run (a := (as.map (zcv (zal E))).toArray) (rest := r.map (zcv (zal E))) ?_ hS hl rfl (fun v μ' hq => k ls _ μ' (h v μ' hq))
  exact va_runSN (As := as.map (zcv (zal E))) (rest := r.map (zcv (zal E))) (mc := 0) (ms := 0) (n := n) ⟨B.1, B.2.1, B.2.2.1, B.2.2.2.1, B.2.2.2.2.1⟩ (hM l E) ⟨va_cnB n B.2.2.2.2.1 (zgood (hw _ (by simp))) rfl rfl rfl hl0 (B.2.2.2.2.1 _ (hw _ (by simp))) hdd hR, B.2.2.2.2.1 _ (hw _ (by simp)), trivial⟩ ⟨zPc_blind E _ μ, fun U hU hW => ⟨rfl, B.2.2.2.2.2.now hS hU hW, by rw [hU]; exact hP⟩⟩ rfl (by simpa using hn) hl.1 (by simp) (lv_room (by rw [zcat]; exact h8)) hd ⟨hcR.1, hcR.2⟩
theorem lk_min {index : Nat} (B : zB p s m args c E own cc nL) (hR : 1 ≤ R.frames ∧ 21 ≤ R.locals) (hcR : cells ≤ R.cells ∧ slots ≤ R.slots) (hw : ∀ w ∈ [.methodLink own index Lib.Math.min.name, .static Lib.Math.min.name, .initialized "java/lang/Math", .code Lib.Math.min.name Lib.Math.min.code 2 (some .int)], w ∈ zTB) (hd : decode cc pc = .ok (.invokestatic index, 3)) (k : zLk (zG p l e R s m args below meth c E nL cells slots QQ) (pc + 3) K) : zLk (zG p l e R s m args below meth c E nL cells slots QQ) pc (o_min K) := by
  intro ls st μ h H locs sl hP hS hl
  unfold o_min at h
  split at h
  · rename_i y x r
    obtain ⟨h8, hx, hy, h⟩ := h
    refine va_mmin B.1 B.2.1 (B.2.2.1.trans hl.1.symm) B.2.2.2.1 (B.2.2.2.2.1 _ (hw _ (by simp))) (B.2.2.2.2.1 _ (hw _ (by simp))) (B.2.2.2.2.1 _ (hw _ (by simp))) (B.2.2.2.2.1 _ (hw _ (by simp))) hR.1 (by rw [zcat]; have := hR.2; unfold zsm8 at h8; omega) hcR.1 hcR.2 hd ?_
    have h2 := k ls _ μ h H locs sl hP hS hl
    have e9 : (if Int32.ofInt y < Int32.ofInt x then Int32.ofInt y else Int32.ofInt x) = Int32.ofInt (if y < x then y else x) := by
      by_cases hyx : y < x
      · rw [if_pos hyx, if_pos ((z32_lt hy hx).mpr hyx)]
      · rw [if_neg hyx, if_neg (fun w => hyx ((z32_lt hy hx).mp w))]
    rw [e9]
    exact h2
  · exact h.elim
theorem zcp_ne {μ : zM} {k1 k2 : Nat} {sp dp n : Int} (j : Nat) (h : j ≠ k2) : zcp μ k1 k2 sp dp n j = μ j := by
  funext w
  simp [zcp, h]
theorem zcp_arr {k1 k2 : Nat} {μ : zM} {sp dp n : Int} (hs : 0 ≤ sp) (hd : 0 ≤ dp) (hn : 0 ≤ n) : (fun j : Nat => Int32.ofInt (zcp μ k1 k2 sp dp n k2 j)) = va_cpy (fun j : Nat => Int32.ofInt (μ k1 j)) (fun j : Nat => Int32.ofInt (μ k2 j)) sp.toNat dp.toNat n.toNat := by
  funext j
  unfold zcp va_cpy
  by_cases h : dp ≤ (j : Int) ∧ (j : Int) < dp + n
  · have h2 : dp.toNat ≤ j ∧ j < dp.toNat + n.toNat := by omega
    have e9 : ((sp.toNat + (j - dp.toNat) : Nat) : Int) = sp + (j - dp) := by omega
    simp only [h, h2, true_and, and_self, if_true, e9]
  · have h2 : ¬ (dp.toNat ≤ j ∧ j < dp.toNat + n.toNat) := by omega
    simp only [h, h2, and_false, if_false]
theorem lk_acp {index : Nat} (B : zB p s m args c E own cc nL) (hR : 1 ≤ R.frames ∧ 8 + (nativeFrameWords "java/lang/System" "arraycopy" 5 + 11) ≤ R.locals) (hw : ∀ w ∈ [.methodLink own index arraycopyName, .native arraycopyName, .static arraycopyName, .initialized "java/lang/System"], w ∈ zTB) (hd : decode cc pc = .ok (.invokestatic index, 3)) (k : zLk (zG p l e R s m args below meth c E nL cells slots QQ) (pc + 3) K) : zLk (zG p l e R s m args below meth c E nL cells slots QQ) pc (o_acp K) := by
  intro ls st μ h H locs sl hP hS hl
  unfold o_acp at h
  split at h
  · rename_i n dp a2 sp a1 r
    obtain ⟨h8, h⟩ := h
    unfold zcp_ at h
    split at h
    · rename_i n1 n2 hq1 hq2
      obtain ⟨⟨b1, b2, b3, b4, b5⟩, h⟩ := h
      have hN1 : a1 < zN := zsh_lt (by rw [hq1]; intro w; cases w) (by rw [hq1]; intro w; cases w)
      have hN2 : a2 < zN := zsh_lt (by rw [hq2]; intro w; cases w) (by rw [hq2]; intro w; cases w)
      have hg1 := zwl_get (E := E) (μ := μ) hN1
      have hg2 := zwl_get (E := E) (μ := μ) hN2
      rw [hq1] at hg1
      rw [hq2] at hg2
      have hs1 : n1 ≤ 2147483647 := by
        have h9 := zsm a1
        rw [hq1] at h9
        exact h9
      have hs2 : n2 ≤ 2147483647 := by
        have h9 := zsm a2
        rw [hq2] at h9
        exact h9
      have nn : ∀ z : Int, 0 ≤ z → z ≤ 2147483647 → ¬ Int32.ofInt z < 0 := fun z h1 h2 w => by
        rw [z32_0, z32_lt ⟨by omega, by omega⟩ zrg_0] at w; omega
      refine va_copyi (q0 := a1) (q1 := a2) (t0 := 0) (t1 := 0) (ty := .int) B.1 B.2.1 (B.2.2.1.trans hl.1.symm) B.2.2.2.1 (B.2.2.2.2.1 _ (hw _ (by simp))) (B.2.2.2.2.1 _ (hw _ (by simp))) (B.2.2.2.2.1 _ (hw _ (by simp))) (B.2.2.2.2.1 _ (hw _ (by simp))) B.2.2.2.2.2.1 hP (B.2.2.2.2.2.D μ) hS hg1 hg2 rfl rfl rfl (sp := Int32.ofInt sp) (dp := Int32.ofInt dp) (n := Int32.ofInt n) (nn _ b1 (by omega)) (nn _ b2 (by omega)) (nn _ b3 (by omega)) (by rw [z32_cl ⟨b1, by omega⟩, z32_cl ⟨b3, by omega⟩]; omega) (by rw [z32_cl ⟨b2, by omega⟩, z32_cl ⟨b3, by omega⟩]; omega) (fun _ _ => rfl) hR.1 (by rw [zcat]; have := hR.2; unfold zsm8 at h8; omega) hd (fun H1 locs1 hP1 _ hS1 => ?_)
      rw [z32_cl ⟨b1, by omega⟩, z32_cl ⟨b2, by omega⟩, z32_cl ⟨b3, by omega⟩, zwl_set (μ' := zcp μ a1 a2 sp dp n) hN2 (by rw [hq2]; simp only [zce]; rw [zcp_arr b1 b2 b3]) (fun j hj => zcp_ne j hj)] at hP1
      exact k ls _ _ h H1 locs1 sl hP1 hS1 hl
    · exact h.elim
  · exact h.elim
theorem lk_iret {Q : zQ} (B : zB p s m args c E own cc nL) (hr : meth.sig.returnType = some .int) (hlk : meth.locks = false) (hd : decode cc pc = .ok (.ireturn, 1)) : zLk (zG p l e R s m args below meth c E nL 0 0 (MQ below (zQc E Q) args s 0 0 (zaA E))) pc (t_iret Q) := by
  intro ls st μ h H locs sl hP hS hl
  unfold t_iret at h
  split at h
  · rename_i x
    exact W.iret (v := Int32.ofInt x) B.1 B.2.1 hr (fun t ht hW => ⟨⟨some (.inl x), μ, rfl, h, by rw [ht]; exact hP⟩, hS.F ht⟩) hS.2.2 hd hlk
  · exact h.elim
theorem lk_zret {Q : zQ} (B : zB p s m args c E own cc nL) (hr : meth.sig.returnType = some .boolean) (hlk : meth.locks = false) (hd : decode cc pc = .ok (.ireturn, 1)) : zLk (zG p l e R s m args below meth c E nL 0 0 (MQ below (zQc E Q) args s 0 0 (zaA E))) pc (t_zret Q) := by
  intro ls st μ h H locs sl hP hS hl
  unfold t_zret at h
  split at h
  · rename_i x
    exact W.zret (ty := .boolean) (v := Int32.ofInt x) B.1 B.2.1 hr (by rcases h.1 with rfl | rfl <;> decide +kernel) (fun t ht hW => ⟨⟨some (.inl x), μ, rfl, h.2, by rw [ht]; exact hP⟩, hS.F ht⟩) hS.2.2 hd hlk
  · exact h.elim
theorem lk_aret {Q : zQ} {C : String} (B : zB p s m args c E own cc nL) (hr : meth.sig.returnType = some (.object C)) (hlk : meth.locks = false) (hd : decode cc pc = .ok (.areturn, 1)) : zLk (zG p l e R s m args below meth c E nL 0 0 (MQ below (zQc E Q) args s 0 0 (zaA E))) pc (t_aret Q) := by
  intro ls st μ h H locs sl hP hS hl
  unfold t_aret at h
  split at h
  · rename_i x
    exact W.aret (v := .ref (zal E x)) B.1 B.2.1 hr (Or.inl ⟨_, rfl⟩) (Or.inr ⟨_, rfl⟩) (fun t ht hW => ⟨⟨some (.inr (some x)), μ, rfl, h, by rw [ht]; exact hP⟩, hS.F ht⟩) hS.2.2 hd hlk
  · exact h.elim
theorem lk_vret {Q : zQ} (B : zB p s m args c E own cc nL) (hr : meth.sig.returnType = none) (hlk : meth.locks = false) (hd : decode cc pc = .ok (.return_, 1)) : zLk (zG p l e R s m args below meth c E nL 0 0 (MQ below (zQc E Q) args s 0 0 (zaA E))) pc (t_vret Q) := by
  intro ls st μ h H locs sl hP hS hl
  unfold t_vret at h
  split at h
  · exact W.vret B.1 B.2.1 hr (fun t ht hW => ⟨⟨none, μ, rfl, h, by rw [ht]; exact hP⟩, hS.F ht⟩) hS.2.2 hd hlk
  · exact h.elim
theorem zsw_in {x : Int} {d : zK} {ls st : List zV} {μ : zM} : ∀ {ps : List (Int × zK)}, zsw x ps d ls st μ → (∃ q ∈ ps, q.1 = x ∧ q.2 ls st μ) ∨ ((∀ q ∈ ps, q.1 ≠ x) ∧ d ls st μ) := by
  intro ps
  induction ps with
  | nil => intro h; exact Or.inr ⟨fun q hq => (by cases hq), h⟩
  | cons q r ih =>
    intro h
    by_cases hx : x = q.1
    · exact Or.inl ⟨q, List.mem_cons_self, hx.symm, h.1 hx⟩
    · rcases ih (h.2 hx) with ⟨q', h1, h2⟩ | ⟨h1, h2⟩
      · exact Or.inl ⟨q', List.mem_cons_of_mem _ h1, h2⟩
      · refine Or.inr ⟨fun q' hq' => ?_, h2⟩
        rcases List.mem_cons.mp hq' with rfl | h3
        · exact fun w => hx w.symm
        · exact h1 q' h3
theorem lk_tsw {dflt lo hi : Int} {offs : Array Int} {len dt : Nat} {ps : List (Int × zK)} {d : zK} (B : zB p s m args c E own cc nL) (hd : decode cc pc = .ok (.tableswitch dflt lo hi offs, len)) (hin : ∀ q ∈ ps, ∃ (off : Int) (tgt : Nat), lo ≤ q.1 ∧ q.1 ≤ hi ∧ offs[(q.1 - lo).toNat]? = some off ∧ (pc : Int) + off = (tgt : Int) ∧ zLk (zG p l e R s m args below meth c E nL cells slots QQ) tgt q.2) (hall : ∀ x, lo ≤ x → x ≤ hi → ∃ q ∈ ps, q.1 = x) (hdt : (pc : Int) + dflt = (dt : Int)) (kd : zLk (zG p l e R s m args below meth c E nL cells slots QQ) dt d) : zLk (zG p l e R s m args below meth c E nL cells slots QQ) pc (t_sw ps d) := by
  intro ls st μ h H locs sl hP hS hl
  unfold t_sw at h
  split at h
  · rename_i x r
    obtain ⟨hx, h⟩ := h
    rcases zsw_in h with ⟨q, hq, rfl, hk⟩ | ⟨hno, hk⟩
    · obtain ⟨off, tgt, h1, h2, h3, h4, h5⟩ := hin q hq
      exact lv_tableIn (x := Int32.ofInt q.1) B.1 B.2.1 hd (by rw [z32 hx]; omega) (by rw [z32 hx]; omega) (by rw [z32 hx]; exact h3) h4 (h5 ls _ μ hk H locs sl hP hS hl)
    · refine lv_tableOut (x := Int32.ofInt x) B.1 B.2.1 hd ?_ hdt (kd ls _ μ hk H locs sl hP hS hl)
      rw [z32 hx]
      by_cases a1 : x < lo
      · exact Or.inl a1
      · by_cases a2 : hi < x
        · exact Or.inr a2
        · obtain ⟨q, hq, e⟩ := hall x (by omega) (by omega)
          exact absurd e (hno q hq)
  · exact h.elim
theorem lk_lsw {dflt : Int} {pz : Array (Int × Int)} {len dt : Nat} {ps : List (Int × zK)} {d : zK} (B : zB p s m args c E own cc nL) (hd : decode cc pc = .ok (.lookupswitch dflt pz, len)) (hz : (pz.toList.zip (pz.toList.drop 1)).all (fun (a, next) => a.1 < next.1) = true) (hin : ∀ q ∈ ps, ∃ (tgt : Nat), (pc : Int) + Op.lookupswitch.offset pz.toList dflt q.1 = (tgt : Int) ∧ zLk (zG p l e R s m args below meth c E nL cells slots QQ) tgt q.2) (hall : ∀ x : Int, (∀ q ∈ ps, q.1 ≠ x) → Op.lookupswitch.offset pz.toList dflt x = dflt) (hdt : (pc : Int) + dflt = (dt : Int)) (kd : zLk (zG p l e R s m args below meth c E nL cells slots QQ) dt d) : zLk (zG p l e R s m args below meth c E nL cells slots QQ) pc (t_sw ps d) := by
  intro ls st μ h H locs sl hP hS hl
  unfold t_sw at h
  split at h
  · rename_i x r
    obtain ⟨hx, h⟩ := h
    rcases zsw_in h with ⟨q, hq, rfl, hk⟩ | ⟨hno, hk⟩
    · obtain ⟨tgt, h4, h5⟩ := hin q hq
      exact lv_lookup (x := Int32.ofInt q.1) B.1 B.2.1 hd hz (by rw [z32 hx]) h4 (h5 ls _ μ hk H locs sl hP hS hl)
    · exact lv_lookup (x := Int32.ofInt x) B.1 B.2.1 hd hz (by rw [z32 hx]; exact hall x hno) hdt (kd ls _ μ hk H locs sl hP hS hl)
  · exact h.elim
end
