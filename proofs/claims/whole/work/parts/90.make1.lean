/-! MAKING: rows for the constructors -/
abbrev ztyC (cI cZ cS : ClassId) : List (ClassId × FieldType) := [(cI, .int), (cZ, .boolean), (cS, .object "BlockExchange$Store")]
def zrmc (d mc ms : Nat) : Room := { frames := d, cells := mc, slots := ms, locals := 96 * d }
abbrev zsto : String := "BlockExchange$Store"
def zBi (p : Program) (s : State) (m : MethodId) (args : Array Value) (c : Code) (D : va_G) (cI cZ cS : ClassId) (own : String) (cc : ByteArray) (nL : Nat) : Prop := p.tables.exec = Jvm.exec ∧ c.code = cc ∧ c.maxLocals = nL ∧ s.vm.findClass own = some m.cls ∧ (∀ w ∈ zTB, w.before args s = true) ∧ va_K D vwCl (ztyC cI cZ cS) s ∧ va_AO zsto s
def zPi (D : va_G) (cI cZ cS : ClassId) (av : List Value) (w0 : va_W) (sz : Nat) : Array Value → State → Prop := va_Pc av (fun U => U.heap.size = sz ∧ va_P D vwCl w0 U.heap ∧ va_K D vwCl (ztyC cI cZ cS) U ∧ va_D (fun _ => True) w0 ∧ va_AO zsto U)
def zQj (D : va_G) (wf : (Nat → Nat) → va_W) (A : Nat → Prop) : Array Value → State → Outcome → State → Prop := va_Qv (fun _ : Nat → Nat => True) (fun u t => va_P D vwCl (wf u) t.heap ∧ va_D A (wf u)) A
/-- the contract of a constructor: the cell at h0 becomes the world wf -/
def zCi (d : Nat) (M : zMd) (D : va_G) (cI cZ cS : ClassId) (h0 : Nat) (e0 : va_E) (As : List Value) (wf : (Nat → Nat) → va_W) (mc ms : Nat) : Prop := ∀ (l : Launch) (sz : Nat), Met l M.1 (zws M) (zrmc d mc ms) (zPi D cI cZ cS (.ref h0 :: As) [(h0, e0)] sz) (zQj D wf (va_A [(h0, e0)] sz)) mc ms (va_A [(h0, e0)] sz)
theorem zCi.mk {d mc ms h0 : Nat} {M : zMd} {D : va_G} {cI cZ cS : ClassId} {e0 : va_E} {As : List Value} {wf : (Nat → Nat) → va_W} (hy : plainName M.1.cls = true) (hlen : (lg_sl (.ref h0 :: As)).length ≤ M.2.2.1) (hnm : M.1.name = "<init>")
    (h : ∀ (p : Program) (l : Launch) (e : Env) (s : State) (m : MethodId) (args : Array Value) (below : List Frame) (meth : Method) (c : Code) (A : Nat → Prop) (ls : Array Slot), zBi p s m args c D cI cZ cS M.1.cls M.2.1 M.2.2.1 → meth.sig.returnType = M.2.2.2 → meth.locks = false → meth.name = "<init>" → (∀ q, s.heap.size ≤ q → A q) → va_D A [(h0, e0)] → va_P D vwCl [(h0, e0)] s.heap → lv_has ls M.2.2.1 (lv_args 0 (.ref h0 :: As)) → W p l e (zrmc d mc ms) s m args below meth c s.heap [] 0 0 (MQ below (zQj D wf A) args s mc ms A) (F0 m 0 ls [])) : zCi d M D cI cZ cS h0 e0 As wf mc ms := by
  intro l sz
  refine Met.ofW (cc := M.2.1) (maxL := M.2.2.1) (ret := M.2.2.2) hy rfl ?_
  intro p e s m args below meth c s₁ B hml hv
  obtain ⟨rfl, hsz, hP, hK, hD0, hAO⟩ := hv
  have hts := atoms_spec (ws := zws M) B.pre
  have hown : s.vm.findClass M.1.cls = some m.cls := findClass_of_methodNamed B.named
  have hin : meth.name = "<init>" := ((name_of_methodNamed B.named B.method).1).trans hnm
  subst hsz
  have hD := hD0.self (sz := s.heap.size)
  rw [lg_entry_eq]
  exact h p l e s m _ below meth c _ _ ⟨B.exec, B.bytes, hml, hown, fun w hw => hts w (List.mem_cons_of_mem _ hw), hK, hAO⟩ B.returns B.notSynchronized hin (fun q hq => Or.inr hq) hD hP (lv_entry (.ref h0 :: As) hlen)
section
variable {p : Program} {l : Launch} {e : Env} {R : Room} {s : State} {m : MethodId} {args : Array Value} {below : List Frame} {meth : Method} {c : Code} {H : Heap} {locs : List Loc} {cells slots : Nat} {Q : State → Prop}
variable {cc : ByteArray} {pc nL : Nat} {ls : Array Slot} {rest : List Value} {D : va_G} {A : Nat → Prop} {ws : va_W} {H0 : Heap} {cI cZ cS : ClassId} {own : String}
theorem zar_i : (Cond.arrayClass .int) ∈ zTB := zTB_mem 101 (by decide +kernel) (by decide +kernel)
theorem zar_z : (Cond.arrayClass .boolean) ∈ zTB := zTB_mem 118 (by decide +kernel) (by decide +kernel)
theorem z_newi {n : Int32} {N : Nat} (B : zBi p s m args c D cI cZ cS own cc nL) (hP : va_P D vwCl ws H) (hD : va_D A ws) (hS : va_S A H0 H locs) (hA : ∀ q, H0.size ≤ q → A q) (hn : ¬ n < 0) (hN : n.toNatClampNeg = N) (hbt : N ≤ 10000) (hcells : cells + 1 ≤ R.cells) (hslots : slots + N ≤ R.slots) (hdg : decode cc pc = .ok (.newarray .int, 2))
    (kk : ∀ (q : Nat) (H1 : Heap), va_P D vwCl (ws ++ [(q, .inl (cI, N, .inl (fun _ => 0)))]) H1 → va_D A (ws ++ [(q, .inl (cI, N, .inl (fun _ => 0)))]) → va_S A H0 H1 locs → W p l e R s m args below meth c H1 locs (cells + 1) (slots + N) Q (F0 m (pc + 2) ls (.ref q :: rest))) : W p l e R s m args below meth c H locs cells slots Q (F0 m pc ls (.int n :: rest)) := by
  refine va_newa (a0 := (N, .inl (fun _ => 0))) (atype := .int) (ty := .int) B.1 B.2.1 (B.2.2.2.2.1 _ zar_i) rfl B.2.2.2.2.2.1 hP hD hS hA (fun cA => rfl) hn hN (by show N * 4 ≤ _; omega) hcells hslots hdg (fun q cA H1 hK1 hP1 hD1 hS1 => ?_)
  have h1 : s.vm.findClass ("[" ++ FieldType.int.toString) = some cA := (hK1.2 3 (cA, .int) rfl).2
  have h2 : s.vm.findClass ("[" ++ FieldType.int.toString) = some cI := (hK1.2 0 (cI, .int) rfl).2
  have e : cA = cI := Option.some.inj (h1.symm.trans h2)
  subst e
  exact kk q H1 hP1 hD1 hS1
theorem z_newz {n : Int32} {N : Nat} (B : zBi p s m args c D cI cZ cS own cc nL) (hP : va_P D vwCl ws H) (hD : va_D A ws) (hS : va_S A H0 H locs) (hA : ∀ q, H0.size ≤ q → A q) (hn : ¬ n < 0) (hN : n.toNatClampNeg = N) (hbt : N ≤ 10000) (hcells : cells + 1 ≤ R.cells) (hslots : slots + N ≤ R.slots) (hdg : decode cc pc = .ok (.newarray .boolean, 2))
    (kk : ∀ (q : Nat) (H1 : Heap), va_P D vwCl (ws ++ [(q, .inl (cZ, N, .inl (fun _ => 0)))]) H1 → va_D A (ws ++ [(q, .inl (cZ, N, .inl (fun _ => 0)))]) → va_S A H0 H1 locs → W p l e R s m args below meth c H1 locs (cells + 1) (slots + N) Q (F0 m (pc + 2) ls (.ref q :: rest))) : W p l e R s m args below meth c H locs cells slots Q (F0 m pc ls (.int n :: rest)) := by
  refine va_newa (a0 := (N, .inl (fun _ => 0))) (atype := .boolean) (ty := .boolean) B.1 B.2.1 (B.2.2.2.2.1 _ zar_z) rfl B.2.2.2.2.2.1 hP hD hS hA (fun cA => rfl) hn hN (by show N * 1 ≤ _; omega) hcells hslots hdg (fun q cA H1 hK1 hP1 hD1 hS1 => ?_)
  have h1 : s.vm.findClass ("[" ++ FieldType.boolean.toString) = some cA := (hK1.2 3 (cA, .boolean) rfl).2
  have h2 : s.vm.findClass ("[" ++ FieldType.boolean.toString) = some cZ := (hK1.2 1 (cZ, .boolean) rfl).2
  have e : cA = cZ := Option.some.inj (h1.symm.trans h2)
  subst e
  exact kk q H1 hP1 hD1 hS1
theorem z_newq {n : Int32} {N index : Nat} (B : zBi p s m args c D cI cZ cS own cc nL) (hcl : (Cond.classLink own index zsto) ∈ zTB) (hP : va_P D vwCl ws H) (hD : va_D A ws) (hS : va_S A H0 H locs) (hA : ∀ q, H0.size ≤ q → A q) (hn : ¬ n < 0) (hN : n.toNatClampNeg = N) (hbt : N ≤ 10000) (hcells : cells + 1 ≤ R.cells) (hslots : slots + N ≤ R.slots) (hdg : decode cc pc = .ok (.anewarray index, 3))
    (kk : ∀ (q : Nat) (H1 : Heap), va_P D vwCl (ws ++ [(q, .inl (cS, N, .inr (.inr (.inr (.inr (fun _ => none))))))]) H1 → va_D A (ws ++ [(q, .inl (cS, N, .inr (.inr (.inr (.inr (fun _ => none))))))]) → va_S A H0 H1 locs → W p l e R s m args below meth c H1 locs (cells + 1) (slots + N) Q (F0 m (pc + 3) ls (.ref q :: rest))) : W p l e R s m args below meth c H locs cells slots Q (F0 m pc ls (.int n :: rest)) := by
  refine va_newq (C := zsto) B.1 B.2.1 B.2.2.2.1 (B.2.2.2.2.1 _ hcl) B.2.2.2.2.2.2 B.2.2.2.2.2.1 hP hD hS hA hn hN (by omega) hcells hslots hdg (fun q cA H1 hK1 hP1 hD1 hS1 => ?_)
  obtain ⟨kA, comp, -, -, -, h1⟩ := (hK1.2 3 (cA, .object zsto) rfl).2
  obtain ⟨kA', comp', -, -, -, h2⟩ := (hK1.2 2 (cS, .object zsto) rfl).2
  have e : cA = cS := Option.some.inj (h1.symm.trans h2)
  subst e
  exact kk q H1 hP1 hD1 hS1
/-- a constructor is called on the newest cell -/
theorem z_ctor {M : zMd} {d n mc ms index q : Nat} {e0 : va_E} {As : List Value} {wf : (Nat → Nat) → va_W} (B : zBi p s m args c D cI cZ cS own cc nL) (hM : zCi d M D cI cZ cS q e0 As wf mc ms) (hw : ∀ w ∈ [.code M.1 M.2.1 M.2.2.1 none, .methodLink own index M.1, .instanceMethod M.1, .initialized M.1.cls], w ∈ zTB) (hret : M.2.2.2 = none) (hnm : M.1.name = "<init>")
    (hdd : M.1.cls ≠ "java/lang/invoke/MethodHandle" ∧ M.1.cls ≠ "java/lang/invoke/VarHandle" ∧ (parseMethodDescriptor M.1.desc).map (fun d => d.parameters.length) = some n) (hR : d + 1 ≤ R.frames ∧ 8 + (M.2.2.1 + 11) + 96 * d ≤ R.locals) (hn : As.length = n) (hsz : ls.size = nL) (h8 : (rest.map fun v => v.category).sum ≤ 8)
    (hP : va_P D vwCl (ws ++ [(q, e0)]) H) (hD : va_D A (ws ++ [(q, e0)])) (hS : va_S A H0 H locs) (hA : ∀ q, H0.size ≤ q → A q) (hf : cells + mc ≤ R.cells ∧ slots + ms ≤ R.slots) (hdg : decode cc pc = .ok (.invokespecial index, 3))
    (kk : ∀ (u : Nat → Nat) (H1 : Heap) (locs1 : List Loc), va_P D vwCl (ws ++ wf u) H1 → va_D A (ws ++ wf u) → va_S A H0 H1 locs1 → W p l e R s m args below meth c H1 locs1 (cells + mc) (slots + ms) Q (F0 m (pc + 3) ls rest)) : W p l e R s m args below meth c H locs cells slots Q (F0 m pc ls (As.reverse ++ .ref q :: rest)) := by
  have hq : (ws ++ [(q, e0)])[ws.length]? = some (q, e0) := by simp
  have hleft : ∀ (k : Nat) (x : Nat × va_E), ws[k]? = some x → (ws ++ [(q, e0)])[k]? = some x ∧ k < ws.length := fun k x hx => by
    have hl := (List.getElem?_eq_some_iff.mp hx).1
    exact ⟨by rw [List.getElem?_append_left hl]; exact hx, hl⟩
  have hPc : va_P D vwCl [(q, e0)] H := fun k x hx => by
    have hz : k < 1 := (List.getElem?_eq_some_iff.mp hx).1
    rw [show k = 0 by omega] at hx
    cases hx
    exact hP ws.length _ hq
  have hDc : va_D (fun _ => True) [(q, e0)] := ⟨fun i j x y hi hj _ => by
    have h1 := (List.getElem?_eq_some_iff.mp hi).1
    have h2 := (List.getElem?_eq_some_iff.mp hj).1
    simp at h1 h2
    omega, fun _ _ _ => trivial⟩
  have hFc : ∀ z, va_A [(q, e0)] H.size z → A z := by
    rintro z (⟨k, e', hk⟩ | hz)
    · have hz : k < 1 := (List.getElem?_eq_some_iff.mp hk).1
      rw [show k = 0 by omega] at hk
      cases hk
      exact hD.2 ws.length _ hq
    · exact hA z (Nat.le_trans hS.1 hz)
  have hG : GoodIn zTB (zws M) := zgood (by rw [hret]; exact hw _ (by simp))
  refine va_callv (va_runI (b := q) (As := As) (rest := rest) (n := n) ⟨B.1, B.2.1, B.2.2.1, B.2.2.2.1, B.2.2.2.2.1⟩ (hM l H.size) (cwI n B.2.2.2.2.1 hG (by rw [← hret]; rfl) rfl rfl (B.2.2.2.2.1 _ (hw _ (by simp))) (B.2.2.2.2.1 _ (hw _ (by simp))) (B.2.2.2.2.1 _ (hw _ (by simp))) hnm hdd hR) ⟨fun a U g mk qq => ?_, fun U hU hW => ⟨rfl, by rw [hU], by rw [hU]; exact hPc, va_K.moved hW.alike B.2.2.2.2.2.1, hDc, va_AO.moved hW.alike B.2.2.2.2.2.2⟩⟩ rfl hn hsz rfl (lv_room h8) hdg hf) hS (fun z _ h => hFc z h) hFc (fun u t H1 locs1 ht hvm _ hB hz1 hk1 hS1 => ?_)
  · obtain ⟨q0, q1, qP, qK, qD, qA⟩ := qq
    exact ⟨q0, q1, qP, va_K.moved (u := U) (U := U.calling g mk a) (Vm.Alike.refl U.vm) qK, qD, va_AO.moved (u := U) (U := U.calling g mk a) (Vm.Alike.refl U.vm) qA⟩
  · obtain ⟨hP1, hD1⟩ := hB
    rw [ht] at hP1
    have apart : ∀ (k : Nat) (x : Nat × va_E), ws[k]? = some x → x.1 < H.size ∧ ¬ va_A [(q, e0)] H.size x.1 := fun k x hx => by
      obtain ⟨h1, h2⟩ := hleft k x hx
      have hl := (hP k x h1).lt
      refine ⟨hl, ?_⟩
      rintro (⟨j, e', hj⟩ | hz)
      · have hz : j < 1 := (List.getElem?_eq_some_iff.mp hj).1
        rw [show j = 0 by omega] at hj
        have e9 : q = x.1 := by cases hj; rfl
        have := hD.1 k ws.length x (q, e0) h1 hq e9.symm
        omega
      · omega
    refine kk u H1 locs1 (va_P.app (fun k x hx => (hP k x (hleft k x hx).1).kept (hk1 x.1 (apart k x hx).1 (apart k x hx).2)) hP1) (va_D.app ⟨fun i j x y hi hj e9 => hD.1 i j x y (hleft i x hi).1 (hleft j y hj).1 e9, fun k x hk => hD.2 k x (hleft k x hk).1⟩ (hD1.weaken (fun k x _ h => hFc x.1 h)) (fun i j x y hx hy e9 => (apart i x hx).2 (by rw [e9]; exact hD1.2 j y hy))) hS1
theorem z_obj {idx : Nat} {a : Nat} (B : zBi p s m args c D cI cZ cS own cc nL) (hw : (Cond.methodLink own idx Lib.objectInit) ∈ zTB) (hi : (Cond.instanceMethod Lib.objectInit) ∈ zTB) (hc : (Cond.code Lib.objectInit ⟨#[0xb1]⟩ 1 none) ∈ zTB) (hsz : ls.size = nL) (hR : 1 ≤ R.frames ∧ 12 ≤ R.locals) (hdg : decode cc pc = .ok (.invokespecial idx, 3)) (kk : W p l e R s m args below meth c H locs cells slots Q (F0 m (pc + 3) ls [])) : W p l e R s m args below meth c H locs cells slots Q (F0 m pc ls [.ref a]) :=
  W.objInit B.1 B.2.1 B.2.2.2.1 (B.2.2.2.2.1 _ hw) (B.2.2.2.2.1 _ hi) (B.2.2.2.2.1 _ hc) rfl (hsz.trans B.2.2.1.symm) rfl hdg hR.1 (by show 2 * 0 + 0 + 12 ≤ _; exact hR.2) kk
theorem z_vret {wf : (Nat → Nat) → va_W} {mc ms : Nat} (B : zBi p s m args c D cI cZ cS own cc nL) (hr : meth.sig.returnType = none) (hlk : meth.locks = false) (u : Nat → Nat) (hP : va_P D vwCl (wf u) H) (hD : va_D A (wf u)) (hS : va_S A s.heap H locs) (hc : cells ≤ mc) (hs : slots ≤ ms) (hdg : decode cc pc = .ok (.return_, 1)) : W p l e R s m args below meth c H locs cells slots (MQ below (zQj D wf A) args s mc ms A) (F0 m pc ls []) :=
  W.widen hc hs (W.vret B.1 B.2.1 hr (fun t ht hW => ⟨⟨u, rfl, trivial, by rw [ht]; exact hP, hD⟩, hS.F ht⟩) hS.2.2 hdg hlk)
end
