/-! THE CLAIM OUT OF ONE WALK OF THE LAW'S BODY. Your part is whole_start (and what it stands on); all else here is the same for every law, but numbers. -/
def R_law : String := "BlockExchangeLaw"
def lw_P (b : Addr) (xs : List Int32) (args : Array Value) (s : State) : Prop := args = #[.ref b] ∧ s.IntsAt b xs ∧ xs.length ≤ 320 ∧ (Jvm.Cond.and given_1 narrow_1).before args s = true
def lw_Q (_ : Array Value) (s : State) (o : Outcome) (t : State) : Prop := o = .returned (some (.int 1)) ∧ Framed s o t [] 600000 7302250
def lw_Z (below : List Frame) (a : Array Value) (s : State) : State → Prop := fun t => ∃ o, t.status = .running ∧ Ended t below o ∧ lw_Q a s o t
/-- the law's own end, with 1 on the stack, nothing written that was there before, its room as the claim has it -/
theorem lw_ret {p : Program} {l : Launch} {e : Env} {s : State} {m : MethodId} {below : List Frame} {meth : Method} {c : Code} {b : Nat} (hx : p.tables.exec = Jvm.exec) (hb : c.code = code) (hr : meth.sig.returnType = ret) (hlocks : meth.locks = false) {pc : Nat} {H : Heap} {ls : Array Slot} (hdg : decode code pc = .ok (.ireturn, 1)) : W p l e room_1 s m #[Value.ref b] below meth c H [] 600000 7302250 (lw_Z below #[Value.ref b] s) (F0 m pc ls [.int 1]) := by
  intro T hT X
  obtain ⟨fs, hret, hrun, hended, hW, hframe⟩ := X.leave (v := some (.int 1)) (hlocks := hlocks) (fun h => by rw [hr] at h; cases h)
  have hmeth' : T.vm.method? m = some meth := X.method'
  refine ⟨T.setFrames fs, ?_, .returned (some (.int 1)), hrun, hended, rfl, ⟨_, rfl⟩, hW, hframe⟩
  jvm_step X.here [X.here.top, hx, hb, hdg, hmeth', hr, ret, narrow_b1]
  (try refine ⟨rfl, ?_⟩); (try refine ⟨rfl, ?_⟩)
  first | (intro acts; rw [hret _ acts rfl rfl rfl]) | rw [hret _ _ rfl rfl rfl]
  exact Steps.refl _
/-- what holds at the law's entry: the machine, the code, the tables' words (any of lw_tbl by 'hts w (by decide +kernel)'), the script of L ints xs at the cell b, what the Statement gives of the start (any of its parts by flat_of_before) -/
def lw_At (p : Program) (s : State) (m : MethodId) (meth : Method) (c : Code) (b L : Nat) (xs : Nat → Int32) : Prop :=
  p.tables.exec = Jvm.exec ∧ c.code = code ∧ meth.sig.returnType = ret ∧ c.maxLocals = 4 ∧ s.vm.findClass R_law = some m.cls ∧ (∀ w ∈ lw_tbl, w.before #[Value.ref b] s = true) ∧ va_X b L xs s s.heap ∧ b < s.heap.size ∧ meth.locks = false ∧ (Jvm.Cond.and given_1 narrow_1).before #[Value.ref b] s = true

theorem lk_script_rg (x : Int32) : zrg x.toInt := ⟨by have := Int32.le_toInt x; omega, by have := Int32.toInt_lt x; omega⟩
def o_sl (xs : Nat → Int32) (L : Nat) (K : zK) : zK := fun ls st μ => match st with
  | .inl i :: .inr (some k) :: r => k = 1001 ∧ (0 ≤ i ∧ i < L) ∧ K ls (.inl (xs i.toNat).toInt :: r) μ
  | _ => False
def o_sn (L : Nat) (K : zK) : zK := fun ls st μ => match st with
  | .inr (some k) :: r => k = 1001 ∧ K ls (.inl (L : Int) :: r) μ
  | _ => False
def t_same (K : zK) : zK := fun ls st μ => match st with
  | .inl y :: .inl x :: r => x = y ∧ K ls r μ
  | _ => False
def t_end : zK := fun _ st _ => match st with
  | [.inl x] => x = 1
  | _ => False
/-- what the law's walk stands on -/
def zLw (p : Program) (s : State) (m : MethodId) (c : Code) (E : zE) (b L : Nat) (xs : Nat → Int32) : Prop := zB p s m #[Value.ref b] c E RL code 4 ∧ zal E 1001 = b ∧ va_X b L xs s s.heap ∧ b < s.heap.size ∧ (∀ q, zaA E q → s.heap.size ≤ q) ∧ L ≤ 320
section
variable {p : Program} {l : Launch} {e : Env} {R : Room} {s : State} {m : MethodId} {below : List Frame} {meth : Method} {c : Code} {E : zE} {cells slots : Nat} {QQ : State → Prop} {b L : Nat} {xs : Nat → Int32} {pc : Nat} {K : zK}
theorem lk_sld (B : zLw p s m c E b L xs) (hd : decode code pc = .ok (.iaload, 1)) (k : zLk (zG p l e R s m #[Value.ref b] below meth c E 4 cells slots QQ) (pc + 1) K) : zLk (zG p l e R s m #[Value.ref b] below meth c E 4 cells slots QQ) pc (o_sl xs L K) := by
  intro ls st μ h H locs sl hP hS hl
  obtain ⟨B, hal, hX, hbl, hA, hL⟩ := B
  unfold o_sl at h
  split at h
  · rename_i i k9 r
    obtain ⟨rfl, ⟨h1, h2⟩, h⟩ := h
    have hbA : ¬ zaA E b := fun q => by have := hA b q; omega
    have h3 := k ls _ μ h H locs sl hP hS hl
    have e1 : (List.map (zcv (zal E)) (.inl i :: .inr (some 1001) :: r)) = (.int (Int32.ofInt i) :: .ref b :: r.map (zcv (zal E))) := by simp [zcv, hal]
    rw [e1]
    refine va_sld B.1 B.2.1 hX hbl hbA hS (z32_in (n := (L : Int)) ⟨h1, h2⟩ (by omega)) hd ?_
    rw [z32_cl ⟨h1, by omega⟩]
    have e2 : (List.map (zcv (zal E)) (.inl (xs i.toNat).toInt :: r)) = (.int (xs i.toNat) :: r.map (zcv (zal E))) := by simp [zcv]
    rw [e2] at h3
    exact h3
  · exact h.elim
theorem lk_sln (B : zLw p s m c E b L xs) (hd : decode code pc = .ok (.arraylength, 1)) (k : zLk (zG p l e R s m #[Value.ref b] below meth c E 4 cells slots QQ) (pc + 1) K) : zLk (zG p l e R s m #[Value.ref b] below meth c E 4 cells slots QQ) pc (o_sn L K) := by
  intro ls st μ h H locs sl hP hS hl
  obtain ⟨B, hal, hX, hbl, hA, hL⟩ := B
  unfold o_sn at h
  split at h
  · rename_i k9 r
    obtain ⟨rfl, h⟩ := h
    have hbA : ¬ zaA E b := fun q => by have := hA b q; omega
    have h3 := k ls _ μ h H locs sl hP hS hl
    have e1 : (List.map (zcv (zal E)) (.inr (some 1001) :: r)) = (.ref b :: r.map (zcv (zal E))) := by simp [zcv, hal]
    rw [e1]
    refine va_slen B.1 B.2.1 hX hbl hbA hS hd ?_
    have e2 : (List.map (zcv (zal E)) (.inl (L : Int) :: r)) = (.int (Int32.ofNat L) :: r.map (zcv (zal E))) := by
      simp only [List.map_cons, zcv]
      rfl
    rw [e2] at h3
    exact h3
  · exact h.elim
theorem lk_same {off : Int} {tgt : Nat} (B : zLw p s m c E b L xs) (hd : decode code pc = .ok (.if_icmp .eq off, 3)) (ht : (pc : Int) + off = (tgt : Int)) (k : zLk (zG p l e R s m #[Value.ref b] below meth c E 4 cells slots QQ) tgt K) : zLk (zG p l e R s m #[Value.ref b] below meth c E 4 cells slots QQ) pc (t_same K) := by
  intro ls st μ h H locs sl hP hS hl
  unfold t_same at h
  split at h
  · rename_i y x r
    obtain ⟨rfl, h⟩ := h
    exact lv_icmp_eq (tgt := tgt) B.1.1 B.1.2.1 hd ht (fun _ => k ls _ μ h H locs sl hP hS hl) (fun q => absurd rfl q)
  · exact h.elim
theorem lk_end (B : zLw p s m c E b L xs) (hr : meth.sig.returnType = ret) (hlk : meth.locks = false) (hd : decode code pc = .ok (.ireturn, 1)) : zLk (zG p l e room_1 s m #[Value.ref b] below meth c E 4 600000 7302250 (lw_Z below #[Value.ref b] s)) pc t_end := by
  intro ls st μ h H locs sl hP hS hl
  unfold t_end at h
  split at h
  · rename_i x
    subst h
    refine va_forget (fun q hq => B.2.2.2.2.1 _ (hS.2.2 q hq)) ?_
    exact lw_ret B.1.1 B.1.2.1 hr hlk hd
  · exact h.elim
end
