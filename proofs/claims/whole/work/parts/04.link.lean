/-! THE LINK of the abstract machine with the kit's. -/
def zTB : List Cond := lw_tbl.filter goodWord
theorem zTB_mem (i : Nat) {w : Cond} (h : lw_tbl[i]? = some w) (hg : goodWord w = true) : w ∈ zTB := List.mem_filter.mpr ⟨List.mem_of_getElem? h, hg⟩
abbrev zn1 : Cond := .methodLinkNest RX0 40 yX10_nameOf "BlockExchange"
abbrev zn2 : Cond := .methodLinkNest RX2 44 yX10_isName "BlockExchange"
abbrev zn3 : Cond := .methodLinkNest RX6 52 yX10_nameOf "BlockExchange"
def zce (E : zE) (S : zS) (f : Int → Int) : va_E := match S with
  | .inl (.inl n) => .inl (zaI E, n.toNat, .inl (fun j : Nat => Int32.ofInt (f j)))
  | .inl (.inr (.inl n)) => .inl (zaZ E, n.toNat, .inl (fun j : Nat => Int32.ofInt (f j)))
  | .inl (.inr (.inr _)) => .inl (zaI E, 0, .inl (fun _ => 0))
  | .inr (.inl l) => .inl (zaS E, l.length, .inr (.inr (.inr (.inr (fun j => some (zal E (l.getD j 0)))))))
  | .inr (.inr (c, fl)) => .inr (c, fl.mapIdx (fun (j : Nat) (o : Option Nat) => match o with
    | none => Value.int (Int32.ofInt (f j))
    | some t => Value.ref (zal E t)))
def zwl (E : zE) (μ : zM) : va_W := (List.range zN).map (fun k => (zal E k, zce E (zsh k) (μ k)))
theorem zwl_get {E : zE} {μ : zM} {k : Nat} (h : k < zN) : (zwl E μ)[k]? = some (zal E k, zce E (zsh k) (μ k)) := by
  simp [zwl, h]
theorem zwl_of {E : zE} {μ : zM} {k : Nat} {q : Nat × va_E} (h : (zwl E μ)[k]? = some q) : k < zN ∧ q = (zal E k, zce E (zsh k) (μ k)) := by
  have h1 : k < zN := by
    have := (List.getElem?_eq_some_iff.mp h).1
    simpa [zwl] using this
  rw [zwl_get h1] at h
  exact ⟨h1, (Option.some.inj h).symm⟩
theorem zwl_set {E : zE} {μ μ' : zM} {k : Nat} {e : va_E} (h : k < zN) (he : e = zce E (zsh k) (μ' k)) (ho : ∀ j, j ≠ k → μ' j = μ j) : (zwl E μ).set k (zal E k, e) = zwl E μ' := by
  apply List.ext_getElem?
  intro j
  have hlen : (zwl E μ).length = zN := by simp [zwl]
  by_cases hj : j = k
  · subst hj
    rw [List.getElem?_set_self (by rw [hlen]; exact h), zwl_get h, he]
  · rw [List.getElem?_set_ne (Ne.symm hj)]
    by_cases hN : j < zN
    · rw [zwl_get hN, zwl_get hN, ho j hj]
    · rw [List.getElem?_eq_none (by rw [hlen]; exact Nat.le_of_not_lt hN), List.getElem?_eq_none (by simp [zwl]; exact Nat.le_of_not_lt hN)]
abbrev zty (E : zE) : List (ClassId × FieldType) := [(zaI E, .int), (zaZ E, .boolean), (zaS E, .object "BlockExchange$Store")]
/-- what a state and a heap must have beside the cells -/
def zEv (E : zE) (U : State) (H : Heap) : Prop := va_K (zaD E) vwCl (zty E) U ∧ va_Z RX2 "PART_WIDTHS" "[I" (.ref (zal E 1000)) (zaA E) U H ∧ va_T .int (zal E 1000) 4 (fun j : Nat => .int (Int32.ofInt (zpw j))) (zaA E) U H ∧ (∀ i j, i < zN → j < zN → zal E i = zal E j → i = j) ∧ (∀ k, k < zN → zaA E (zal E k)) ∧ va_Nw zn1 U ∧ va_Nw zn2 U ∧ va_Nw zn3 U
theorem zEv.D {E : zE} {U : State} {H : Heap} (h : zEv E U H) (μ : zM) : va_D (zaA E) (zwl E μ) := by
  refine ⟨fun i j p q hi hj hpq => ?_, fun k q hk => ?_⟩
  · obtain ⟨h1, rfl⟩ := zwl_of hi
    obtain ⟨h2, rfl⟩ := zwl_of hj
    exact h.2.2.2.1 i j h1 h2 hpq
  · obtain ⟨h1, rfl⟩ := zwl_of hk
    exact h.2.2.2.2.1 k h1
theorem zEv.kept {E : zE} {U : State} {H H1 : Heap} (h : zEv E U H) (hq : ∀ a : Nat, a < H.size → ¬ zaA E a → H1[a]? = H[a]?) : zEv E U H1 := ⟨h.1, h.2.1.kept hq, h.2.2.1.kept hq, h.2.2.2⟩
theorem zEv.warm {E : zE} {s U : State} {H : Heap} (h : zEv E s H) (hW : s.WarmedH U.vm) : zEv E U H := ⟨h.1.moved hW.alike, h.2.1.moved hW.alike, h.2.2.1.moved hW.alike, h.2.2.2.1, h.2.2.2.2.1, h.2.2.2.2.2.1.warmM hW, h.2.2.2.2.2.2.1.warmM hW, h.2.2.2.2.2.2.2.warmM hW⟩
def zlv (E : zE) (sl : Array Slot) (nL : Nat) (ls : List zV) : Prop := sl.size = nL ∧ lv_wf sl ∧ ls.length = nL ∧ ∀ (i : Nat) (v : zV), ls[i]? = some v → v ≠ .inr none → sl[i]? = some (.val (zcv (zal E) v))
theorem zlv.at {E : zE} {sl : Array Slot} {nL : Nat} {ls : List zV} (h : zlv E sl nL ls) {i : Nat} {v : zV} (hi : ls[i]? = some v) (hv : v ≠ .inr none) : sl[i]? = some (.val (zcv (zal E) v)) := h.2.2.2 i v hi hv
theorem zcv_cat (al : Nat → Nat) (v : zV) : (zcv al v).category = 1 := by
  rcases v with x | _ | k <;> rfl
def zll (E : zE) (ls : List zV) : List (Nat × Value) := (List.range ls.length).filterMap (fun i => match (ls[i]? : Option zV) with
  | some (.inr none) => none
  | some v => some (i, zcv (zal E) v)
  | none => none)
theorem zll_mem {E : zE} {ls : List zV} {i : Nat} {v : zV} (hi : ls[i]? = some v) (hv : v ≠ .inr none) : (i, zcv (zal E) v) ∈ zll E ls := by
  refine List.mem_filterMap.mpr ⟨i, List.mem_range.mpr (List.getElem?_eq_some_iff.mp hi).1, ?_⟩
  rw [hi]
  rcases v with x | _ | k
  · rfl
  · exact absurd rfl hv
  · rfl
theorem zll_of {E : zE} {ls : List zV} {q : Nat × Value} (h : q ∈ zll E ls) : ∃ v, ls[q.1]? = some v ∧ v ≠ .inr none ∧ q.2 = zcv (zal E) v := by
  obtain ⟨i, -, h2⟩ := List.mem_filterMap.mp h
  split at h2
  · cases h2
  · rename_i v hv hn
    cases h2
    exact ⟨v, hn, fun e => hv e, rfl⟩
  · cases h2
theorem zlv.has {E : zE} {sl : Array Slot} {nL : Nat} {ls : List zV} (h : zlv E sl nL ls) : lv_has sl nL (zll E ls) := by
  refine ⟨h.1, h.2.1, fun q hq => ?_⟩
  obtain ⟨v, h1, h2, h3⟩ := zll_of hq
  rw [h3]
  exact h.2.2.2 _ _ h1 h2
theorem zlv.set {E : zE} {sl sl' : Array Slot} {nL i : Nat} {ls : List zV} (v : zV) (h : zlv E sl nL ls) (hi : i < nL) (h' : lv_has sl' nL ((i, zcv (zal E) v) :: (zll E ls).filter (fun q => !(q.1 == i) && !(q.1 + 1 == i && q.2.category == 2)))) : zlv E sl' nL (ls.set i v) := by
  refine ⟨h'.1, h'.2.1, by rw [List.length_set]; exact h.2.2.1, fun j w hj hw => ?_⟩
  by_cases e : j = i
  · subst e
    rw [List.getElem?_set_self (by rw [h.2.2.1]; exact hi)] at hj
    cases hj
    exact h'.2.2 (j, zcv (zal E) v) List.mem_cons_self
  · rw [List.getElem?_set_ne (Ne.symm e)] at hj
    refine h'.2.2 (j, zcv (zal E) w) (List.mem_cons_of_mem _ (List.mem_filter.mpr ⟨zll_mem hj hw, ?_⟩))
    simp [e, zcv_cat]
def zG (p : Program) (l : Launch) (e : Env) (R : Room) (s : State) (m : MethodId) (args : Array Value) (below : List Frame) (meth : Method) (c : Code) (E : zE) (nL cells slots : Nat) (QQ : State → Prop) (pc : Nat) : zK := fun ls st μ =>
  ∀ (H : Heap) (locs : List Loc) (sl : Array Slot), va_P (zaD E) vwCl (zwl E μ) H → va_S (zaA E) s.heap H locs → zlv E sl nL ls → W p l e R s m args below meth c H locs cells slots QQ (F0 m pc sl (st.map (zcv (zal E))))
def zLk (G : Nat → zK) (pc : Nat) (T : zK) : Prop := ∀ ls st μ, T ls st μ → G pc ls st μ
def zB (p : Program) (s : State) (m : MethodId) (args : Array Value) (c : Code) (E : zE) (own : String) (cc : ByteArray) (nL : Nat) : Prop :=
  p.tables.exec = Jvm.exec ∧ c.code = cc ∧ c.maxLocals = nL ∧ s.vm.findClass own = some m.cls ∧ (∀ w ∈ zTB, w.before args s = true) ∧ zEv E s s.heap
theorem z32 {x : Int} (h : zrg x) : (Int32.ofInt x).toInt = x := Int32.toInt_ofInt_of_le (by have := h.1; omega) (by have := h.2; omega)
theorem z32_eq {x y : Int} (hx : zrg x) (hy : zrg y) : Int32.ofInt x = Int32.ofInt y ↔ x = y := by
  rw [← Int32.toInt_inj, z32 hx, z32 hy]
theorem z32_lt {x y : Int} (hx : zrg x) (hy : zrg y) : Int32.ofInt x < Int32.ofInt y ↔ x < y := by
  rw [Int32.lt_iff_toInt_lt, z32 hx, z32 hy]
theorem z32_le {x y : Int} (hx : zrg x) (hy : zrg y) : Int32.ofInt x ≤ Int32.ofInt y ↔ x ≤ y := by
  rw [Int32.le_iff_toInt_le, z32 hx, z32 hy]
theorem z32_0 : (0 : Int32) = Int32.ofInt 0 := rfl
theorem zrg_0 : zrg 0 := ⟨by omega, by omega⟩
theorem z32_cl {x : Int} (h : 0 ≤ x ∧ x ≤ 2147483647) : (Int32.ofInt x).toNatClampNeg = x.toNat := by
  show (Int32.ofInt x).toInt.toNat = _
  rw [z32 ⟨by omega, h.2⟩]
theorem z32_in {x n : Int} (h : 0 ≤ x ∧ x < n) (hn : n ≤ 2147483647) : vp_in (Int32.ofInt x) n.toNat := by
  intro hh
  rcases hh with hh | hh
  · rw [z32_0, z32_lt ⟨by omega, by omega⟩ zrg_0] at hh; omega
  · rw [z32_cl ⟨h.1, by omega⟩] at hh; omega
section
variable {p : Program} {l : Launch} {e : Env} {R : Room} {s : State} {m : MethodId} {args : Array Value} {below : List Frame} {meth : Method} {c : Code} {E : zE} {nL cells slots : Nat} {QQ : State → Prop} {own : String} {cc : ByteArray} {pc : Nat} {K K1 K2 : zK}
theorem lk_c {v : Int} (B : zB p s m args c E own cc nL) (hd : decode cc pc = .ok (.iconst v, 1)) (k : zLk (zG p l e R s m args below meth c E nL cells slots QQ) (pc + 1) K) : zLk (zG p l e R s m args below meth c E nL cells slots QQ) pc (o_c v K) := fun ls st μ h H locs sl hP hS hl => lv_iconst B.1 B.2.1 hd rfl (k ls _ μ h H locs sl hP hS hl)
theorem lk_b {v : Int} (B : zB p s m args c E own cc nL) (hd : decode cc pc = .ok (.bipush v, 2)) (hv : (Int8.ofInt v).toInt32 = Int32.ofInt v) (k : zLk (zG p l e R s m args below meth c E nL cells slots QQ) (pc + 2) K) : zLk (zG p l e R s m args below meth c E nL cells slots QQ) pc (o_c v K) := fun ls st μ h H locs sl hP hS hl => lv_bipush B.1 B.2.1 hd hv (k ls _ μ h H locs sl hP hS hl)
theorem lk_s {v : Int} (B : zB p s m args c E own cc nL) (hd : decode cc pc = .ok (.sipush v, 3)) (hv : (Int16.ofInt v).toInt32 = Int32.ofInt v) (k : zLk (zG p l e R s m args below meth c E nL cells slots QQ) (pc + 3) K) : zLk (zG p l e R s m args below meth c E nL cells slots QQ) pc (o_c v K) := fun ls st μ h H locs sl hP hS hl => lv_sipush B.1 B.2.1 hd hv (k ls _ μ h H locs sl hP hS hl)
theorem lk_ldc {v : Int} {i : Nat} {w : Int32} (B : zB p s m args c E own cc nL) (hw : Jvm.Cond.constant own i w ∈ zTB) (hv : w = Int32.ofInt v) (hd : decode cc pc = .ok (.ldc i, 2)) (k : zLk (zG p l e R s m args below meth c E nL cells slots QQ) (pc + 2) K) : zLk (zG p l e R s m args below meth c E nL cells slots QQ) pc (o_c v K) := fun ls st μ h H locs sl hP hS hl => by
  subst hv
  exact lv_ldc B.1 B.2.1 B.2.2.2.1 (B.2.2.2.2.1 _ hw) hd (k ls _ μ h H locs sl hP hS hl)
theorem lk_ldcw {v : Int} {i : Nat} {w : Int32} (B : zB p s m args c E own cc nL) (hw : Jvm.Cond.constant own i w ∈ zTB) (hv : w = Int32.ofInt v) (hd : decode cc pc = .ok (.ldc_w i, 3)) (k : zLk (zG p l e R s m args below meth c E nL cells slots QQ) (pc + 3) K) : zLk (zG p l e R s m args below meth c E nL cells slots QQ) pc (o_c v K) := fun ls st μ h H locs sl hP hS hl => by
  subst hv
  exact lv_ldcw B.1 B.2.1 B.2.2.2.1 (B.2.2.2.2.1 _ hw) hd (k ls _ μ h H locs sl hP hS hl)
theorem lk_iln {i : Fin 4} {j : Nat} (B : zB p s m args c E own cc nL) (hd : decode cc pc = .ok (.iload_n i, 1)) (hj : (i : Nat) = j) (k : zLk (zG p l e R s m args below meth c E nL cells slots QQ) (pc + 1) K) : zLk (zG p l e R s m args below meth c E nL cells slots QQ) pc (o_il j K) := by
  intro ls st μ h H locs sl hP hS hl
  unfold o_il at h
  split at h
  · rename_i x hx
    exact lv_iload_n B.1 B.2.1 hd hj (hl.at hx (by simp)) (k ls _ μ h H locs sl hP hS hl)
  · exact h.elim
theorem lk_il {j : Nat} (B : zB p s m args c E own cc nL) (hd : decode cc pc = .ok (.iload j, 2)) (k : zLk (zG p l e R s m args below meth c E nL cells slots QQ) (pc + 2) K) : zLk (zG p l e R s m args below meth c E nL cells slots QQ) pc (o_il j K) := by
  intro ls st μ h H locs sl hP hS hl
  unfold o_il at h
  split at h
  · rename_i x hx
    exact lv_iload B.1 B.2.1 hd (hl.at hx (by simp)) (k ls _ μ h H locs sl hP hS hl)
  · exact h.elim
theorem lk_aln {i : Fin 4} {j : Nat} (B : zB p s m args c E own cc nL) (hd : decode cc pc = .ok (.aload_n i, 1)) (hj : (i : Nat) = j) (k : zLk (zG p l e R s m args below meth c E nL cells slots QQ) (pc + 1) K) : zLk (zG p l e R s m args below meth c E nL cells slots QQ) pc (o_al j K) := by
  intro ls st μ h H locs sl hP hS hl
  unfold o_al at h
  split at h
  · rename_i x hx
    exact lv_aload_n B.1 B.2.1 hd hj (hl.at hx (by simp)) (k ls _ μ h H locs sl hP hS hl)
  · exact h.elim
theorem lk_al {j : Nat} (B : zB p s m args c E own cc nL) (hd : decode cc pc = .ok (.aload j, 2)) (k : zLk (zG p l e R s m args below meth c E nL cells slots QQ) (pc + 2) K) : zLk (zG p l e R s m args below meth c E nL cells slots QQ) pc (o_al j K) := by
  intro ls st μ h H locs sl hP hS hl
  unfold o_al at h
  split at h
  · rename_i x hx
    exact lv_aload B.1 B.2.1 hd (hl.at hx (by simp)) (k ls _ μ h H locs sl hP hS hl)
  · exact h.elim
theorem lk_isn {i : Fin 4} {j : Nat} (B : zB p s m args c E own cc nL) (hd : decode cc pc = .ok (.istore_n i, 1)) (hj : (i : Nat) = j) (hn : j < nL) (k : zLk (zG p l e R s m args below meth c E nL cells slots QQ) (pc + 1) K) : zLk (zG p l e R s m args below meth c E nL cells slots QQ) pc (o_is j K) := by
  intro ls st μ h H locs sl hP hS hl
  unfold o_is at h
  split at h
  · rename_i x r
    exact lv_istore_n B.1 B.2.1 hd hj hl.has hn rfl (fun sl' hl' => k _ _ μ h H locs sl' hP hS (hl.set (.inl x) hn hl'))
  · exact h.elim
theorem lk_is {j : Nat} (B : zB p s m args c E own cc nL) (hd : decode cc pc = .ok (.istore j, 2)) (hn : j < nL) (k : zLk (zG p l e R s m args below meth c E nL cells slots QQ) (pc + 2) K) : zLk (zG p l e R s m args below meth c E nL cells slots QQ) pc (o_is j K) := by
  intro ls st μ h H locs sl hP hS hl
  unfold o_is at h
  split at h
  · rename_i x r
    exact lv_istore B.1 B.2.1 hd hl.has hn rfl (fun sl' hl' => k _ _ μ h H locs sl' hP hS (hl.set (.inl x) hn hl'))
  · exact h.elim
theorem lk_asn {i : Fin 4} {j : Nat} (B : zB p s m args c E own cc nL) (hd : decode cc pc = .ok (.astore_n i, 1)) (hj : (i : Nat) = j) (hn : j < nL) (k : zLk (zG p l e R s m args below meth c E nL cells slots QQ) (pc + 1) K) : zLk (zG p l e R s m args below meth c E nL cells slots QQ) pc (o_as j K) := by
  intro ls st μ h H locs sl hP hS hl
  unfold o_as at h
  split at h
  · rename_i x r
    exact lv_astore_n B.1 B.2.1 hd hj hl.has hn rfl (fun sl' hl' => k _ _ μ h H locs sl' hP hS (hl.set (.inr (some x)) hn hl'))
  · exact h.elim
theorem lk_as {j : Nat} (B : zB p s m args c E own cc nL) (hd : decode cc pc = .ok (.astore j, 2)) (hn : j < nL) (k : zLk (zG p l e R s m args below meth c E nL cells slots QQ) (pc + 2) K) : zLk (zG p l e R s m args below meth c E nL cells slots QQ) pc (o_as j K) := by
  intro ls st μ h H locs sl hP hS hl
  unfold o_as at h
  split at h
  · rename_i x r
    exact lv_astore B.1 B.2.1 hd hl.has hn rfl (fun sl' hl' => k _ _ μ h H locs sl' hP hS (hl.set (.inr (some x)) hn hl'))
  · exact h.elim
theorem zll_get {E : zE} {ls : List zV} {i : Nat} {v : zV} (hi : ls[i]? = some v) (hv : v ≠ .inr none) : ∃ k : Nat, (zll E ls)[k]? = some (i, zcv (zal E) v) := List.getElem?_of_mem (zll_mem hi hv)
theorem lk_inc {j : Nat} {n : Int} (B : zB p s m args c E own cc nL) (hd : decode cc pc = .ok (.iinc j n, 3)) (hn : j < nL) (k : zLk (zG p l e R s m args below meth c E nL cells slots QQ) (pc + 3) K) : zLk (zG p l e R s m args below meth c E nL cells slots QQ) pc (o_inc j n K) := by
  intro ls st μ h H locs sl hP hS hl
  unfold o_inc at h
  split at h
  · rename_i x hx
    obtain ⟨q, hq⟩ := zll_get (E := E) hx (by simp)
    exact lv_iinc (v := Int32.ofInt (x + n)) B.1 B.2.1 hd hl.has hq (by rw [Int32.ofInt_add]) hn rfl (fun sl' hl' => k _ _ μ h H locs sl' hP hS (hl.set (.inl (x + n)) hn hl'))
  · exact h.elim
theorem lk_add (B : zB p s m args c E own cc nL) (hd : decode cc pc = .ok (.iadd, 1)) (k : zLk (zG p l e R s m args below meth c E nL cells slots QQ) (pc + 1) K) : zLk (zG p l e R s m args below meth c E nL cells slots QQ) pc (o_add K) := by
  intro ls st μ h H locs sl hP hS hl
  unfold o_add at h
  split at h
  · rename_i y x r
    refine lv_iadd B.1 B.2.1 hd ?_
    rw [← Int32.ofInt_add]
    exact k ls _ μ h H locs sl hP hS hl
  · exact h.elim
theorem lk_sub (B : zB p s m args c E own cc nL) (hd : decode cc pc = .ok (.isub, 1)) (k : zLk (zG p l e R s m args below meth c E nL cells slots QQ) (pc + 1) K) : zLk (zG p l e R s m args below meth c E nL cells slots QQ) pc (o_sub K) := by
  intro ls st μ h H locs sl hP hS hl
  unfold o_sub at h
  split at h
  · rename_i y x r
    refine lv_isub B.1 B.2.1 hd ?_
    rw [← Int32.ofInt_sub]
    exact k ls _ μ h H locs sl hP hS hl
  · exact h.elim
theorem lk_mul (B : zB p s m args c E own cc nL) (hd : decode cc pc = .ok (.imul, 1)) (k : zLk (zG p l e R s m args below meth c E nL cells slots QQ) (pc + 1) K) : zLk (zG p l e R s m args below meth c E nL cells slots QQ) pc (o_mul K) := by
  intro ls st μ h H locs sl hP hS hl
  unfold o_mul at h
  split at h
  · rename_i y x r
    refine lv_imul B.1 B.2.1 hd ?_
    rw [← Int32.ofInt_mul]
    exact k ls _ μ h H locs sl hP hS hl
  · exact h.elim
theorem lk_and (B : zB p s m args c E own cc nL) (hd : decode cc pc = .ok (.iand, 1)) (k : zLk (zG p l e R s m args below meth c E nL cells slots QQ) (pc + 1) K) : zLk (zG p l e R s m args below meth c E nL cells slots QQ) pc (o_and K) := by
  intro ls st μ h H locs sl hP hS hl
  unfold o_and at h
  split at h
  · rename_i y x r
    refine lv_iand B.1 B.2.1 hd ?_
    have := k ls _ μ h H locs sl hP hS hl
    simp only [List.map_cons, zcv, zand, Int32.ofInt_toInt] at this
    exact this
  · exact h.elim
theorem lk_or (B : zB p s m args c E own cc nL) (hd : decode cc pc = .ok (.ior, 1)) (k : zLk (zG p l e R s m args below meth c E nL cells slots QQ) (pc + 1) K) : zLk (zG p l e R s m args below meth c E nL cells slots QQ) pc (o_or K) := by
  intro ls st μ h H locs sl hP hS hl
  unfold o_or at h
  split at h
  · rename_i y x r
    refine lv_ior B.1 B.2.1 hd ?_
    have := k ls _ μ h H locs sl hP hS hl
    simp only [List.map_cons, zcv, zor, Int32.ofInt_toInt] at this
    exact this
  · exact h.elim
theorem lk_xor (B : zB p s m args c E own cc nL) (hd : decode cc pc = .ok (.ixor, 1)) (k : zLk (zG p l e R s m args below meth c E nL cells slots QQ) (pc + 1) K) : zLk (zG p l e R s m args below meth c E nL cells slots QQ) pc (o_xor K) := by
  intro ls st μ h H locs sl hP hS hl
  unfold o_xor at h
  split at h
  · rename_i y x r
    refine lv_ixor B.1 B.2.1 hd ?_
    have := k ls _ μ h H locs sl hP hS hl
    simp only [List.map_cons, zcv, zxor, Int32.ofInt_toInt] at this
    exact this
  · exact h.elim
theorem lk_shl (B : zB p s m args c E own cc nL) (hd : decode cc pc = .ok (.ishl, 1)) (k : zLk (zG p l e R s m args below meth c E nL cells slots QQ) (pc + 1) K) : zLk (zG p l e R s m args below meth c E nL cells slots QQ) pc (o_shl K) := by
  intro ls st μ h H locs sl hP hS hl
  unfold o_shl at h
  split at h
  · rename_i y x r
    refine lv_ishl B.1 B.2.1 hd ?_
    have := k ls _ μ h H locs sl hP hS hl
    simp only [List.map_cons, zcv, zshl, Int32.ofInt_toInt] at this
    exact this
  · exact h.elim
theorem lk_shr (B : zB p s m args c E own cc nL) (hd : decode cc pc = .ok (.ishr, 1)) (k : zLk (zG p l e R s m args below meth c E nL cells slots QQ) (pc + 1) K) : zLk (zG p l e R s m args below meth c E nL cells slots QQ) pc (o_shr K) := by
  intro ls st μ h H locs sl hP hS hl
  unfold o_shr at h
  split at h
  · rename_i y x r
    refine lv_ishr B.1 B.2.1 hd ?_
    have := k ls _ μ h H locs sl hP hS hl
    simp only [List.map_cons, zcv, zshr, Int32.ofInt_toInt] at this
    exact this
  · exact h.elim
theorem lk_ush (B : zB p s m args c E own cc nL) (hd : decode cc pc = .ok (.iushr, 1)) (k : zLk (zG p l e R s m args below meth c E nL cells slots QQ) (pc + 1) K) : zLk (zG p l e R s m args below meth c E nL cells slots QQ) pc (o_ush K) := by
  intro ls st μ h H locs sl hP hS hl
  unfold o_ush at h
  split at h
  · rename_i y x r
    refine lv_iushr B.1 B.2.1 hd rfl ?_
    have := k ls _ μ h H locs sl hP hS hl
    simp only [List.map_cons, zcv, zush, Int32.ofInt_toInt] at this
    exact this
  · exact h.elim
theorem z32_nat {x : Int} (h : 0 ≤ x) : Int32.ofInt x = nI x.toNat := by
  obtain ⟨n, rfl⟩ := Int.eq_ofNat_of_zero_le h
  rfl
theorem lk_rem (B : zB p s m args c E own cc nL) (hd : decode cc pc = .ok (.irem, 1)) (k : zLk (zG p l e R s m args below meth c E nL cells slots QQ) (pc + 1) K) : zLk (zG p l e R s m args below meth c E nL cells slots QQ) pc (o_rem K) := by
  intro ls st μ h H locs sl hP hS hl
  unfold o_rem at h
  split at h
  · rename_i y x r
    obtain ⟨hx, hy, h⟩ := h
    refine lv_irem B.1 B.2.1 hd (fun h0 => by rw [z32_0, z32_eq ⟨by omega, by omega⟩ zrg_0] at h0; omega) ?_
    have := k ls _ μ h H locs sl hP hS hl
    simp only [List.map_cons, zcv] at this
    rw [z32_nat hx.1, z32_nat (by omega : (0 : Int) ≤ y), pk_rem (by omega) (by omega) (by omega)]
    have e : Int32.ofInt (x % y) = nI (x.toNat % y.toNat) := by
      rw [z32_nat (Int.emod_nonneg _ (by omega)), Int.toNat_emod hx.1 (by omega)]
    rw [e] at this
    exact this
  · exact h.elim
theorem lk_dup (B : zB p s m args c E own cc nL) (hd : decode cc pc = .ok (.dup, 1)) (k : zLk (zG p l e R s m args below meth c E nL cells slots QQ) (pc + 1) K) : zLk (zG p l e R s m args below meth c E nL cells slots QQ) pc (o_dup K) := by
  intro ls st μ h H locs sl hP hS hl
  unfold o_dup at h
  split at h
  · exact lv_dup B.1 B.2.1 hd (zcv_cat _ _) (k ls _ μ h H locs sl hP hS hl)
  · exact h.elim
theorem lk_dup2 (B : zB p s m args c E own cc nL) (hd : decode cc pc = .ok (.dup2, 1)) (k : zLk (zG p l e R s m args below meth c E nL cells slots QQ) (pc + 1) K) : zLk (zG p l e R s m args below meth c E nL cells slots QQ) pc (o_dup2 K) := by
  intro ls st μ h H locs sl hP hS hl
  unfold o_dup2 at h
  split at h
  · exact lv_dup2_11 B.1 B.2.1 hd (zcv_cat _ _) (zcv_cat _ _) (k ls _ μ h H locs sl hP hS hl)
  · exact h.elim
theorem lk_goto {off : Int} {tgt : Nat} (B : zB p s m args c E own cc nL) (hd : decode cc pc = .ok (.goto off, 3)) (ht : (pc : Int) + off = (tgt : Int)) (k : zLk (zG p l e R s m args below meth c E nL cells slots QQ) tgt K) : zLk (zG p l e R s m args below meth c E nL cells slots QQ) pc K := fun ls st μ h H locs sl hP hS hl => lv_goto B.1 B.2.1 hd ht (k ls st μ h H locs sl hP hS hl)
theorem lk_ieq {off : Int} {tgt : Nat} (B : zB p s m args c E own cc nL) (hd : decode cc pc = .ok (.if_icmp .eq off, 3)) (ht : (pc : Int) + off = (tgt : Int)) (k1 : zLk (zG p l e R s m args below meth c E nL cells slots QQ) tgt K1) (k2 : zLk (zG p l e R s m args below meth c E nL cells slots QQ) (pc + 3) K2) : zLk (zG p l e R s m args below meth c E nL cells slots QQ) pc (t_ieq K1 K2) := by
  intro ls st μ h H locs sl hP hS hl
  unfold t_ieq at h
  split at h
  · rename_i y x r
    obtain ⟨hx, hy, h1, h2⟩ := h
    refine lv_icmp_eq B.1 B.2.1 hd ht (fun q => k1 ls _ μ (h1 ?_) H locs sl hP hS hl) (fun q => k2 ls _ μ (h2 ?_) H locs sl hP hS hl)
    · exact (z32_eq hx hy).mp q
    · exact fun w => q ((z32_eq hx hy).mpr w)
  · exact h.elim
theorem lk_zeq {off : Int} {tgt : Nat} (B : zB p s m args c E own cc nL) (hd : decode cc pc = .ok (.ifCond .eq off, 3)) (ht : (pc : Int) + off = (tgt : Int)) (k1 : zLk (zG p l e R s m args below meth c E nL cells slots QQ) tgt K1) (k2 : zLk (zG p l e R s m args below meth c E nL cells slots QQ) (pc + 3) K2) : zLk (zG p l e R s m args below meth c E nL cells slots QQ) pc (t_zeq K1 K2) := by
  intro ls st μ h H locs sl hP hS hl
  unfold t_zeq at h
  split at h
  · rename_i x r
    obtain ⟨hx, h1, h2⟩ := h
    refine lv_if_eq B.1 B.2.1 hd ht (fun q => k1 ls _ μ (h1 ?_) H locs sl hP hS hl) (fun q => k2 ls _ μ (h2 ?_) H locs sl hP hS hl)
    · rw [z32_0] at q; exact (z32_eq hx zrg_0).mp q
    · rw [z32_0] at q; exact fun w => q ((z32_eq hx zrg_0).mpr w)
  · exact h.elim
theorem lk_ine {off : Int} {tgt : Nat} (B : zB p s m args c E own cc nL) (hd : decode cc pc = .ok (.if_icmp .ne off, 3)) (ht : (pc : Int) + off = (tgt : Int)) (k1 : zLk (zG p l e R s m args below meth c E nL cells slots QQ) tgt K1) (k2 : zLk (zG p l e R s m args below meth c E nL cells slots QQ) (pc + 3) K2) : zLk (zG p l e R s m args below meth c E nL cells slots QQ) pc (t_ieq K2 K1) := by
  intro ls st μ h H locs sl hP hS hl
  unfold t_ieq at h
  split at h
  · rename_i y x r
    obtain ⟨hx, hy, h1, h2⟩ := h
    refine lv_icmp_ne B.1 B.2.1 hd ht (fun q => k1 ls _ μ (h2 ?_) H locs sl hP hS hl) (fun q => k2 ls _ μ (h1 ?_) H locs sl hP hS hl)
    · exact fun w => q ((z32_eq hx hy).mpr w)
    · exact (z32_eq hx hy).mp q
  · exact h.elim
theorem lk_zne {off : Int} {tgt : Nat} (B : zB p s m args c E own cc nL) (hd : decode cc pc = .ok (.ifCond .ne off, 3)) (ht : (pc : Int) + off = (tgt : Int)) (k1 : zLk (zG p l e R s m args below meth c E nL cells slots QQ) tgt K1) (k2 : zLk (zG p l e R s m args below meth c E nL cells slots QQ) (pc + 3) K2) : zLk (zG p l e R s m args below meth c E nL cells slots QQ) pc (t_zeq K2 K1) := by
  intro ls st μ h H locs sl hP hS hl
  unfold t_zeq at h
  split at h
  · rename_i x r
    obtain ⟨hx, h1, h2⟩ := h
    refine lv_if_ne B.1 B.2.1 hd ht (fun q => k1 ls _ μ (h2 ?_) H locs sl hP hS hl) (fun q => k2 ls _ μ (h1 ?_) H locs sl hP hS hl)
    · rw [z32_0] at q; exact fun w => q ((z32_eq hx zrg_0).mpr w)
    · rw [z32_0] at q; exact (z32_eq hx zrg_0).mp q
  · exact h.elim
theorem lk_ilt {off : Int} {tgt : Nat} (B : zB p s m args c E own cc nL) (hd : decode cc pc = .ok (.if_icmp .lt off, 3)) (ht : (pc : Int) + off = (tgt : Int)) (k1 : zLk (zG p l e R s m args below meth c E nL cells slots QQ) tgt K1) (k2 : zLk (zG p l e R s m args below meth c E nL cells slots QQ) (pc + 3) K2) : zLk (zG p l e R s m args below meth c E nL cells slots QQ) pc (t_ilt K1 K2) := by
  intro ls st μ h H locs sl hP hS hl
  unfold t_ilt at h
  split at h
  · rename_i y x r
    obtain ⟨hx, hy, h1, h2⟩ := h
    refine lv_icmp_lt B.1 B.2.1 hd ht (fun q => k1 ls _ μ (h1 ?_) H locs sl hP hS hl) (fun q => k2 ls _ μ (h2 ?_) H locs sl hP hS hl)
    · exact (z32_lt hx hy).mp q
    · exact Int.not_lt.mp (fun w => q ((z32_lt hx hy).mpr w))
  · exact h.elim
theorem lk_zlt {off : Int} {tgt : Nat} (B : zB p s m args c E own cc nL) (hd : decode cc pc = .ok (.ifCond .lt off, 3)) (ht : (pc : Int) + off = (tgt : Int)) (k1 : zLk (zG p l e R s m args below meth c E nL cells slots QQ) tgt K1) (k2 : zLk (zG p l e R s m args below meth c E nL cells slots QQ) (pc + 3) K2) : zLk (zG p l e R s m args below meth c E nL cells slots QQ) pc (t_zlt K1 K2) := by
  intro ls st μ h H locs sl hP hS hl
  unfold t_zlt at h
  split at h
  · rename_i x r
    obtain ⟨hx, h1, h2⟩ := h
    refine lv_if_lt B.1 B.2.1 hd ht (fun q => k1 ls _ μ (h1 ?_) H locs sl hP hS hl) (fun q => k2 ls _ μ (h2 ?_) H locs sl hP hS hl)
    · rw [z32_0] at q; exact (z32_lt hx zrg_0).mp q
    · rw [z32_0] at q; exact Int.not_lt.mp (fun w => q ((z32_lt hx zrg_0).mpr w))
  · exact h.elim
theorem lk_ige {off : Int} {tgt : Nat} (B : zB p s m args c E own cc nL) (hd : decode cc pc = .ok (.if_icmp .ge off, 3)) (ht : (pc : Int) + off = (tgt : Int)) (k1 : zLk (zG p l e R s m args below meth c E nL cells slots QQ) tgt K1) (k2 : zLk (zG p l e R s m args below meth c E nL cells slots QQ) (pc + 3) K2) : zLk (zG p l e R s m args below meth c E nL cells slots QQ) pc (t_ilt K2 K1) := by
  intro ls st μ h H locs sl hP hS hl
  unfold t_ilt at h
  split at h
  · rename_i y x r
    obtain ⟨hx, hy, h1, h2⟩ := h
    refine lv_icmp_ge B.1 B.2.1 hd ht (fun q => k1 ls _ μ (h2 ?_) H locs sl hP hS hl) (fun q => k2 ls _ μ (h1 ?_) H locs sl hP hS hl)
    · exact (z32_le hy hx).mp q
    · exact Int.not_le.mp (fun w => q ((z32_le hy hx).mpr w))
  · exact h.elim
theorem lk_zge {off : Int} {tgt : Nat} (B : zB p s m args c E own cc nL) (hd : decode cc pc = .ok (.ifCond .ge off, 3)) (ht : (pc : Int) + off = (tgt : Int)) (k1 : zLk (zG p l e R s m args below meth c E nL cells slots QQ) tgt K1) (k2 : zLk (zG p l e R s m args below meth c E nL cells slots QQ) (pc + 3) K2) : zLk (zG p l e R s m args below meth c E nL cells slots QQ) pc (t_zlt K2 K1) := by
  intro ls st μ h H locs sl hP hS hl
  unfold t_zlt at h
  split at h
  · rename_i x r
    obtain ⟨hx, h1, h2⟩ := h
    refine lv_if_ge B.1 B.2.1 hd ht (fun q => k1 ls _ μ (h2 ?_) H locs sl hP hS hl) (fun q => k2 ls _ μ (h1 ?_) H locs sl hP hS hl)
    · rw [z32_0] at q; exact (z32_le zrg_0 hx).mp q
    · rw [z32_0] at q; exact Int.not_le.mp (fun w => q ((z32_le zrg_0 hx).mpr w))
  · exact h.elim
theorem lk_igt {off : Int} {tgt : Nat} (B : zB p s m args c E own cc nL) (hd : decode cc pc = .ok (.if_icmp .gt off, 3)) (ht : (pc : Int) + off = (tgt : Int)) (k1 : zLk (zG p l e R s m args below meth c E nL cells slots QQ) tgt K1) (k2 : zLk (zG p l e R s m args below meth c E nL cells slots QQ) (pc + 3) K2) : zLk (zG p l e R s m args below meth c E nL cells slots QQ) pc (t_igt K1 K2) := by
  intro ls st μ h H locs sl hP hS hl
  unfold t_igt at h
  split at h
  · rename_i y x r
    obtain ⟨hx, hy, h1, h2⟩ := h
    refine lv_icmp_gt B.1 B.2.1 hd ht (fun q => k1 ls _ μ (h1 ?_) H locs sl hP hS hl) (fun q => k2 ls _ μ (h2 ?_) H locs sl hP hS hl)
    · exact (z32_lt hy hx).mp q
    · exact Int.not_lt.mp (fun w => q ((z32_lt hy hx).mpr w))
  · exact h.elim
theorem lk_zgt {off : Int} {tgt : Nat} (B : zB p s m args c E own cc nL) (hd : decode cc pc = .ok (.ifCond .gt off, 3)) (ht : (pc : Int) + off = (tgt : Int)) (k1 : zLk (zG p l e R s m args below meth c E nL cells slots QQ) tgt K1) (k2 : zLk (zG p l e R s m args below meth c E nL cells slots QQ) (pc + 3) K2) : zLk (zG p l e R s m args below meth c E nL cells slots QQ) pc (t_zgt K1 K2) := by
  intro ls st μ h H locs sl hP hS hl
  unfold t_zgt at h
  split at h
  · rename_i x r
    obtain ⟨hx, h1, h2⟩ := h
    refine lv_if_gt B.1 B.2.1 hd ht (fun q => k1 ls _ μ (h1 ?_) H locs sl hP hS hl) (fun q => k2 ls _ μ (h2 ?_) H locs sl hP hS hl)
    · rw [z32_0] at q; exact (z32_lt zrg_0 hx).mp q
    · rw [z32_0] at q; exact Int.not_lt.mp (fun w => q ((z32_lt zrg_0 hx).mpr w))
  · exact h.elim
theorem lk_ile {off : Int} {tgt : Nat} (B : zB p s m args c E own cc nL) (hd : decode cc pc = .ok (.if_icmp .le off, 3)) (ht : (pc : Int) + off = (tgt : Int)) (k1 : zLk (zG p l e R s m args below meth c E nL cells slots QQ) tgt K1) (k2 : zLk (zG p l e R s m args below meth c E nL cells slots QQ) (pc + 3) K2) : zLk (zG p l e R s m args below meth c E nL cells slots QQ) pc (t_igt K2 K1) := by
  intro ls st μ h H locs sl hP hS hl
  unfold t_igt at h
  split at h
  · rename_i y x r
    obtain ⟨hx, hy, h1, h2⟩ := h
    refine lv_icmp_le B.1 B.2.1 hd ht (fun q => k1 ls _ μ (h2 ?_) H locs sl hP hS hl) (fun q => k2 ls _ μ (h1 ?_) H locs sl hP hS hl)
    · exact (z32_le hx hy).mp q
    · exact Int.not_le.mp (fun w => q ((z32_le hx hy).mpr w))
  · exact h.elim
theorem lk_zle {off : Int} {tgt : Nat} (B : zB p s m args c E own cc nL) (hd : decode cc pc = .ok (.ifCond .le off, 3)) (ht : (pc : Int) + off = (tgt : Int)) (k1 : zLk (zG p l e R s m args below meth c E nL cells slots QQ) tgt K1) (k2 : zLk (zG p l e R s m args below meth c E nL cells slots QQ) (pc + 3) K2) : zLk (zG p l e R s m args below meth c E nL cells slots QQ) pc (t_zgt K2 K1) := by
  intro ls st μ h H locs sl hP hS hl
  unfold t_zgt at h
  split at h
  · rename_i x r
    obtain ⟨hx, h1, h2⟩ := h
    refine lv_if_le B.1 B.2.1 hd ht (fun q => k1 ls _ μ (h2 ?_) H locs sl hP hS hl) (fun q => k2 ls _ μ (h1 ?_) H locs sl hP hS hl)
    · rw [z32_0] at q; exact (z32_le hx zrg_0).mp q
    · rw [z32_0] at q; exact Int.not_le.mp (fun w => q ((z32_le hx zrg_0).mpr w))
  · exact h.elim
theorem lk_aald (B : zB p s m args c E own cc nL) (hd : decode cc pc = .ok (.aaload, 1)) (k : zLk (zG p l e R s m args below meth c E nL cells slots QQ) (pc + 1) K) : zLk (zG p l e R s m args below meth c E nL cells slots QQ) pc (o_aald K) := by
  intro ls st μ h H locs sl hP hS hl
  unfold o_aald at h
  split at h
  · rename_i i a r
    unfold zra_ at h
    split at h
    · rename_i q hq
      obtain ⟨hi, h⟩ := h
      have hN : a < zN := zsh_lt (by rw [hq]; intro w; cases w) (by rw [hq]; intro w; cases w)
      have hg := zwl_get (E := E) (μ := μ) hN
      rw [hq] at hg
      have hsmall : (q.length : Int) ≤ 2147483647 := by
        have h9 := zsm a
        rw [hq] at h9
        exact h9
      have := va_aldq (q0 := a) (t0 := 2) B.1 B.2.1 B.2.2.2.2.2.1 hP hg rfl (i := Int32.ofInt i) (by have := z32_in hi hsmall; simpa using this) hd (rest := r.map (zcv (zal E))) (ls := sl) (by
        have h2 := k ls _ μ h H locs sl hP hS hl
        rw [z32_cl ⟨hi.1, by omega⟩]
        exact h2)
      exact this
    · exact h.elim
  · exact h.elim
theorem lk_iald (B : zB p s m args c E own cc nL) (hd : decode cc pc = .ok (.iaload, 1)) (k : zLk (zG p l e R s m args below meth c E nL cells slots QQ) (pc + 1) K) : zLk (zG p l e R s m args below meth c E nL cells slots QQ) pc (o_iald K) := by
  intro ls st μ h H locs sl hP hS hl
  unfold o_iald at h
  split at h
  · rename_i i a r
    unfold zrd_ at h
    split at h
    · rename_i n hq
      obtain ⟨hi, h⟩ := h
      have hN : a < zN := zsh_lt (by rw [hq]; intro w; cases w) (by rw [hq]; intro w; cases w)
      have hg := zwl_get (E := E) (μ := μ) hN
      rw [hq] at hg
      have hsmall : n ≤ 2147483647 := by
        have h9 := zsm a
        rw [hq] at h9
        exact h9
      refine va_iald (q0 := a) (t0 := 0) B.1 B.2.1 B.2.2.2.2.2.1 hP hg rfl (i := Int32.ofInt i) (z32_in hi hsmall) hd ?_
      have h2 := k ls _ μ h H locs sl hP hS hl
      rw [z32_cl ⟨hi.1, by omega⟩, Int.toNat_of_nonneg hi.1]
      exact h2
    · rename_i hq
      obtain ⟨hi, h⟩ := h
      have ha : a = 1000 := zsh_pa hq
      subst ha
      refine va_ti B.1 B.2.1 B.2.2.2.2.2.2.2.1 hS (i := Int32.ofInt i) (z32_in (n := 4) hi (by omega)) rfl hd ?_
      have h2 := k ls _ μ h H locs sl hP hS hl
      rw [z32_cl ⟨hi.1, by omega⟩, Int.toNat_of_nonneg hi.1]
      exact h2
    · exact h.elim
  · exact h.elim
theorem lk_zald (B : zB p s m args c E own cc nL) (hd : decode cc pc = .ok (.baload, 1)) (k : zLk (zG p l e R s m args below meth c E nL cells slots QQ) (pc + 1) K) : zLk (zG p l e R s m args below meth c E nL cells slots QQ) pc (o_zald K) := by
  intro ls st μ h H locs sl hP hS hl
  unfold o_zald at h
  split at h
  · rename_i i a r
    unfold zza_ at h
    split at h
    · rename_i n hq
      obtain ⟨hi, h⟩ := h
      have hN : a < zN := zsh_lt (by rw [hq]; intro w; cases w) (by rw [hq]; intro w; cases w)
      have hg := zwl_get (E := E) (μ := μ) hN
      rw [hq] at hg
      have hsmall : n ≤ 2147483647 := by
        have h9 := zsm a
        rw [hq] at h9
        exact h9
      refine va_zald (q0 := a) (t0 := 1) B.1 B.2.1 B.2.2.2.2.2.1 hP hg rfl (i := Int32.ofInt i) (z32_in hi hsmall) hd ?_
      have h2 := k ls _ μ h H locs sl hP hS hl
      rw [z32_cl ⟨hi.1, by omega⟩, Int.toNat_of_nonneg hi.1]
      exact h2
    · exact h.elim
  · exact h.elim
theorem zup_ne {μ : zM} {k : Nat} {i x : Int} (j : Nat) (h : j ≠ k) : zup μ k i x j = μ j := by
  funext w
  simp [zup, h]
theorem zup_arr {f : Int → Int} {k : Nat} {μ : zM} {i x : Int} (hi : 0 ≤ i) (hf : f = μ k) : (fun j : Nat => Int32.ofInt (zup μ k i x k j)) = upd (fun j : Nat => Int32.ofInt (f j)) i.toNat (Int32.ofInt x) := by
  funext j
  subst hf
  by_cases hj : j = i.toNat
  · subst hj
    simp [zup, upd, Int.toNat_of_nonneg hi]
  · have : ¬ (j : Int) = i := by omega
    simp [zup, upd, hj, this]
theorem lk_iast (B : zB p s m args c E own cc nL) (hd : decode cc pc = .ok (.iastore, 1)) (k : zLk (zG p l e R s m args below meth c E nL cells slots QQ) (pc + 1) K) : zLk (zG p l e R s m args below meth c E nL cells slots QQ) pc (o_iast K) := by
  intro ls st μ h H locs sl hP hS hl
  unfold o_iast at h
  split at h
  · rename_i x i a r
    unfold zia_ at h
    split at h
    · rename_i n hq
      obtain ⟨hi, h⟩ := h
      have hN : a < zN := zsh_lt (by rw [hq]; intro w; cases w) (by rw [hq]; intro w; cases w)
      have hg := zwl_get (E := E) (μ := μ) hN
      have hg' := hg
      rw [hq] at hg
      have hsmall : n ≤ 2147483647 := by
        have h9 := zsm a
        rw [hq] at h9
        exact h9
      refine va_iast (q0 := a) (t0 := 0) B.1 B.2.1 B.2.2.2.2.2.1 hP (B.2.2.2.2.2.D μ) hS hg rfl (i := Int32.ofInt i) (x := Int32.ofInt x) (z32_in hi hsmall) hd (fun H1 locs1 hP1 _ hS1 => ?_)
      rw [z32_cl ⟨hi.1, by omega⟩, zwl_set (μ' := zup μ a i x) hN (by rw [hq]; simp only [zce]; rw [zup_arr hi.1 rfl]) (fun j hj => zup_ne j hj)] at hP1
      exact k ls _ _ h H1 locs1 sl hP1 hS1 hl
    · exact h.elim
  · exact h.elim
theorem lk_zast (B : zB p s m args c E own cc nL) (hd : decode cc pc = .ok (.bastore, 1)) (k : zLk (zG p l e R s m args below meth c E nL cells slots QQ) (pc + 1) K) : zLk (zG p l e R s m args below meth c E nL cells slots QQ) pc (o_zast K) := by
  intro ls st μ h H locs sl hP hS hl
  unfold o_zast at h
  split at h
  · rename_i x i a r
    obtain ⟨hx, h⟩ := h
    unfold zza_ at h
    split at h
    · rename_i n hq
      obtain ⟨hi, h⟩ := h
      have hN : a < zN := zsh_lt (by rw [hq]; intro w; cases w) (by rw [hq]; intro w; cases w)
      have hg := zwl_get (E := E) (μ := μ) hN
      rw [hq] at hg
      have hsmall : n ≤ 2147483647 := by
        have h9 := zsm a
        rw [hq] at h9
        exact h9
      have hnar : vp_nar .boolean (Int32.ofInt x) = Int32.ofInt x := by rcases hx with rfl | rfl <;> decide +kernel
      refine va_zast (q0 := a) (t0 := 1) B.1 B.2.1 B.2.2.2.2.2.1 hP (B.2.2.2.2.2.D μ) hS hg rfl (i := Int32.ofInt i) (x := Int32.ofInt x) (z32_in hi hsmall) hd (fun H1 locs1 hP1 _ hS1 => ?_)
      rw [hnar, z32_cl ⟨hi.1, by omega⟩, zwl_set (μ' := zup μ a i x) hN (by rw [hq]; simp only [zce]; rw [zup_arr hi.1 rfl]) (fun j hj => zup_ne j hj)] at hP1
      exact k ls _ _ h H1 locs1 sl hP1 hS1 hl
    · exact h.elim
  · exact h.elim
theorem lk_gf {C : String} {T : u_T} {N ci j index : Nat} (B : zB p s m args c E own cc nL) (hc : vwCl[ci]? = some (C, T, N)) (hj : j < N) (hin : ∀ w ∈ u_ws C T N, w ∈ zTB) (hlk : Cond.fieldLink own index (T j).1 (T j).2.1 (T j).2.2.1 ∈ zTB) (hd : decode cc pc = .ok (.getfield index, 3)) (k : zLk (zG p l e R s m args below meth c E nL cells slots QQ) (pc + 3) K) : zLk (zG p l e R s m args below meth c E nL cells slots QQ) pc (o_gf ci j K) := by
  intro ls st μ h H locs sl hP hS hl
  unfold o_gf at h
  split at h
  · rename_i a r
    unfold zgf at h
    split at h
    · rename_i c' fl hq
      obtain ⟨rfl, h⟩ := h
      have hN : a < zN := zsh_lt (by rw [hq]; intro w; cases w) (by
        rw [hq]; intro w; cases w; simp [vwCl] at hc)
      have hg := zwl_get (E := E) (μ := μ) hN
      rw [hq] at hg
      split at h
      · rename_i hfl
        refine va_get (v := .int (Int32.ofInt (μ a j))) (q0 := a) B.1 B.2.1 B.2.2.2.2.1 hin B.2.2.2.1 B.2.2.2.2.2.1 hP hg hc j hj (B.2.2.2.2.1 _ hlk) (fun _ w => w) (by simp [hfl]) hd (k ls _ μ h H locs sl hP hS hl)
      · rename_i t hfl
        refine va_get (v := .ref (zal E t)) (q0 := a) B.1 B.2.1 B.2.2.2.2.1 hin B.2.2.2.1 B.2.2.2.2.2.1 hP hg hc j hj (B.2.2.2.2.1 _ hlk) (fun _ w => w) (by simp [hfl]) hd (k ls _ μ h H locs sl hP hS hl)
      · exact h.elim
    · exact h.elim
  · exact h.elim
theorem zup_fld {E : zE} {fl : List (Option Nat)} {j k : Nat} {μ : zM} {x : Int} (hj : fl[j]? = some none) : fl.mapIdx (fun (i : Nat) (o : Option Nat) => match o with
    | none => Value.int (Int32.ofInt (zup μ k j x k i))
    | some t => Value.ref (zal E t)) = (fl.mapIdx (fun (i : Nat) (o : Option Nat) => match o with
    | none => Value.int (Int32.ofInt (μ k i))
    | some t => Value.ref (zal E t))).set j (Value.int (Int32.ofInt x)) := by
  apply List.ext_getElem?
  intro i
  by_cases hi : i = j
  · subst hi
    have hlt := (List.getElem?_eq_some_iff.mp hj).1
    rw [List.getElem?_set_self (by simpa using hlt)]
    simp [List.getElem?_mapIdx, hj, zup]
  · rw [List.getElem?_set_ne (Ne.symm hi)]
    have : ¬ (i : Int) = (j : Int) := by omega
    simp [List.getElem?_mapIdx, zup, this]
theorem lk_pf_ {C : String} {T : u_T} {N ci j index : Nat} {ty0 : Nat → FieldType} {ty : FieldType} {x : Int} (B : zB p s m args c E own cc nL) (hc : vwCl[ci]? = some (C, T, N)) (hj : j < N) (hin : ∀ w ∈ u_ws C T N, w ∈ zTB) (hty : ∀ k, k < N → parseFieldDescriptor (T k).2.2.1 = some (ty0 k)) (hnm : ∀ a, a < N → ∀ b, b < N → a ≠ b → (T a).2.1 ≠ (T b).2.1) (hlk : Cond.fieldLink own index (T j).1 (T j).2.1 (T j).2.2.1 ∈ zTB) (hfin : (T j).2.2.2 = false) (hdd : parseFieldDescriptor (T j).2.2.1 = some ty) (hn : narrow ty (.int (Int32.ofInt x)) = .int (Int32.ofInt x)) (hfit : fits ty (.int (Int32.ofInt x)) = true) (hd : decode cc pc = .ok (.putfield index, 3)) (k : zLk (zG p l e R s m args below meth c E nL cells slots QQ) (pc + 3) K) {a : Nat} {ls r : List zV} {μ : zM} (h : zpf (zsh a) ci j (K ls r (zup μ a j x))) : (zG p l e R s m args below meth c E nL cells slots QQ) pc ls (.inl x :: .inr (some a) :: r) μ := by
  intro H locs sl hP hS hl
  unfold zpf at h
  split at h
  · rename_i c' fl hq
    obtain ⟨rfl, hfl, h⟩ := h
    have hN : a < zN := zsh_lt (by rw [hq]; intro w; cases w) (by
      rw [hq]; intro w; cases w; simp [vwCl] at hc)
    have hg := zwl_get (E := E) (μ := μ) hN
    rw [hq] at hg
    refine va_put (ty := ty) (q0 := a) B.1 B.2.1 B.2.2.2.2.1 hin ty0 hty hnm B.2.2.2.1 B.2.2.2.2.2.1 hP (B.2.2.2.2.2.D μ) hS hg hc j hj (B.2.2.2.2.1 _ hlk) (fun _ w => w) hfin hdd hn hfit (by simpa using (List.getElem?_eq_some_iff.mp hfl).1) hd (fun H1 locs1 hP1 _ hS1 => ?_)
    rw [zwl_set (μ' := zup μ a j x) hN (by rw [hq]; simp only [zce]; rw [zup_fld hfl]; rfl) (fun i hi => zup_ne i hi)] at hP1
    exact k ls _ _ h H1 locs1 sl hP1 hS1 hl
  · exact h.elim
theorem lk_pf {C : String} {T : u_T} {N ci j index : Nat} {ty0 : Nat → FieldType} (B : zB p s m args c E own cc nL) (hc : vwCl[ci]? = some (C, T, N)) (hj : j < N) (hin : ∀ w ∈ u_ws C T N, w ∈ zTB) (hty : ∀ k, k < N → parseFieldDescriptor (T k).2.2.1 = some (ty0 k)) (hnm : ∀ a, a < N → ∀ b, b < N → a ≠ b → (T a).2.1 ≠ (T b).2.1) (hlk : Cond.fieldLink own index (T j).1 (T j).2.1 (T j).2.2.1 ∈ zTB) (hfin : (T j).2.2.2 = false) (hdd : parseFieldDescriptor (T j).2.2.1 = some .int) (hd : decode cc pc = .ok (.putfield index, 3)) (k : zLk (zG p l e R s m args below meth c E nL cells slots QQ) (pc + 3) K) : zLk (zG p l e R s m args below meth c E nL cells slots QQ) pc (o_pf ci j K) := by
  intro ls st μ h
  unfold o_pf at h
  split at h
  · exact lk_pf_ B hc hj hin hty hnm hlk hfin hdd rfl rfl hd k h
  · exact h.elim
theorem lk_pz {C : String} {T : u_T} {N ci j index : Nat} {ty0 : Nat → FieldType} (B : zB p s m args c E own cc nL) (hc : vwCl[ci]? = some (C, T, N)) (hj : j < N) (hin : ∀ w ∈ u_ws C T N, w ∈ zTB) (hty : ∀ k, k < N → parseFieldDescriptor (T k).2.2.1 = some (ty0 k)) (hnm : ∀ a, a < N → ∀ b, b < N → a ≠ b → (T a).2.1 ≠ (T b).2.1) (hlk : Cond.fieldLink own index (T j).1 (T j).2.1 (T j).2.2.1 ∈ zTB) (hfin : (T j).2.2.2 = false) (hdd : parseFieldDescriptor (T j).2.2.1 = some .boolean) (hd : decode cc pc = .ok (.putfield index, 3)) (k : zLk (zG p l e R s m args below meth c E nL cells slots QQ) (pc + 3) K) : zLk (zG p l e R s m args below meth c E nL cells slots QQ) pc (o_pz ci j K) := by
  intro ls st μ h
  unfold o_pz at h
  split at h
  · obtain ⟨hx, h⟩ := h
    exact lk_pf_ B hc hj hin hty hnm hlk hfin hdd (by rcases hx with rfl | rfl <;> decide +kernel) (by rcases hx with rfl | rfl <;> decide +kernel) hd k h
  · exact h.elim
theorem lk_gs {index : Nat} (B : zB p s m args c E own cc nL) (hlk : Cond.fieldLink own index RX2 "PART_WIDTHS" "[I" ∈ zTB) (hd : decode cc pc = .ok (.getstatic index, 3)) (k : zLk (zG p l e R s m args below meth c E nL cells slots QQ) (pc + 3) K) : zLk (zG p l e R s m args below meth c E nL cells slots QQ) pc (o_gs K) := fun ls st μ h H locs sl hP hS hl =>
  va_gets B.1 B.2.1 B.2.2.2.2.2.2.1 hS B.2.2.2.1 (B.2.2.2.2.1 _ hlk) (fun _ w => w) hd (k ls _ μ h H locs sl hP hS hl)
end
