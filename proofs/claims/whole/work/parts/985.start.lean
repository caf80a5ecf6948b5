/-! THE LAW, from its entry -/
set_option maxHeartbeats 8000000 in
set_option maxRecDepth 100000 in
theorem whole_start {p : Program} {e : Env} {s : State} {m : MethodId} {below : List Frame} {meth : Method} {c : Code} (l : Launch) {b L : Nat} {xs : Nat → Int32} (hL : L ≤ 320) (C0 : lw_At p s m meth c b L xs) : W p l e room_1 s m #[Value.ref b] below meth c s.heap [] 0 0 (lw_Z below #[Value.ref b] s) (entryFrame m ([Value.ref b] : List Value).toArray 4) := by
  obtain ⟨hx, hb, hr, hml, hown, htb, hX, hbl, hlocks, hgv⟩ := id C0
  have hts : ∀ w ∈ zTB, w.before #[Value.ref b] s = true := fun w hw => htb w (List.mem_filter.mp hw).1
  have hown : s.vm.findClass RL = some m.cls := hown
  obtain ⟨c0, i0, k0⟩ := u_known (C := RX0) (T := TX0) (N := 4) (n := 4) hts in_X0 (hts _ zx_171)
  obtain ⟨c1, i1, k1⟩ := u_known (C := RX1) (T := TX1) (N := 3) (n := 3) hts in_X1 (hts _ zx_136)
  obtain ⟨c2, i2, k2⟩ := u_known (C := RX3) (T := TX3) (N := 4) (n := 4) hts in_X3 (hts _ zx_192)
  obtain ⟨c3, i3, k3⟩ := u_known (C := RX5) (T := TX5) (N := 3) (n := 3) hts in_X5 (hts _ zx_103)
  obtain ⟨c4, i4, k4⟩ := u_known (C := RX6) (T := TX6) (N := 5) (n := 5) hts in_X6 (hts _ zx_80)
  obtain ⟨c5, i5, k5⟩ := u_known (C := RX7) (T := TX7) (N := 5) (n := 5) hts in_X7 (hts _ zx_74)
  obtain ⟨c6, i6, k6⟩ := u_known (C := RX8) (T := TX8) (N := 4) (n := 4) hts in_X8 (hts _ zx_152)
  obtain ⟨c7, i7, k7⟩ := u_known (C := RX9) (T := TX9) (N := 5) (n := 5) hts in_X9 (hts _ zx_213)
  obtain ⟨c8, i8, k8⟩ := u_known (C := RX10) (T := TX10) (N := 9) (n := 9) hts in_X10 (hts _ zx_65)
  obtain ⟨c9, i9, k9⟩ := u_known (C := RX11) (T := TX11) (N := 41) (n := 41) hts in_X11 (hts _ zx_783)
  obtain ⟨D, hKc⟩ : ∃ D : va_G, ∀ (k : Nat) (q : vw_C), vwCl[k]? = some q → u_Kn s q.1 q.2.1 q.2.2 (D.1 k) (D.2 k) := by
    refine ⟨(fun k => if k = 0 then c0 else if k = 1 then c1 else if k = 2 then c2 else if k = 3 then c3 else if k = 4 then c4 else if k = 5 then c5 else if k = 6 then c6 else if k = 7 then c7 else if k = 8 then c8 else c9, fun k => if k = 0 then i0 else if k = 1 then i1 else if k = 2 then i2 else if k = 3 then i3 else if k = 4 then i4 else if k = 5 then i5 else if k = 6 then i6 else if k = 7 then i7 else if k = 8 then i8 else i9), ?_⟩
    intro k q hq
    match k, hq with
    | 0, hq => cases hq; exact k0
    | 1, hq => cases hq; exact k1
    | 2, hq => cases hq; exact k2
    | 3, hq => cases hq; exact k3
    | 4, hq => cases hq; exact k4
    | 5, hq => cases hq; exact k5
    | 6, hq => cases hq; exact k6
    | 7, hq => cases hq; exact k7
    | 8, hq => cases hq; exact k8
    | 9, hq => cases hq; exact k9
    | k + 10, hq => simp [vwCl] at hq
  obtain ⟨cI, kI, compI, f1, f2, f3⟩ := Cond.arrayClass_spec (hts _ zar_i)
  obtain ⟨cZ, kZ, compZ, g1, g2, g3⟩ := Cond.arrayClass_spec (hts _ zar_z)
  have hov : (Cond.arrayOver (.object zsto)).before #[Value.ref b] s = true := htb _ (List.mem_of_getElem? (i := 73) (by decide +kernel))
  obtain ⟨compS, cS, kS, s1, s2, s3, s4, s5⟩ := Cond.arrayOver_spec hov
  have hAO : va_AO zsto s := va_AO.of hov
  have hK : va_K D vwCl (ztyC cI cZ cS) s := ⟨hKc, fun k q h => by
    match k, h with
    | 0, h => cases h; exact ⟨fun N z => ⟨(fun k h => by cases h), kI, f2, compI, f3⟩, f1⟩
    | 1, h => cases h; exact ⟨fun N z => ⟨(fun k h => by cases h), kZ, g2, compZ, g3⟩, g1⟩
    | 2, h => cases h; exact ⟨fun N z => ⟨(fun k h => by cases h), kS, s3, compS, s4⟩, kS, compS, s3, s4, s1, s5⟩
    | k + 3, h => simp at h⟩
  obtain ⟨A, hAe⟩ : ∃ A : Nat → Prop, A = fun q : Nat => s.heap.size ≤ q := ⟨_, rfl⟩
  have hA : ∀ q : Nat, s.heap.size ≤ q → A q := fun q h => by rw [hAe]; exact h
  have hA2 : ∀ q : Nat, A q → s.heap.size ≤ q := fun q h => by rw [hAe] at h; exact h
  have hnA : ∀ a : Nat, a < s.heap.size → ¬ A a := fun a h q => by have := hA2 a q; omega
  have hs := flat_of_before _ hgv
  obtain ⟨tP, htP, hT⟩ := va_Tof (args := #[Value.ref b]) (s := s) (tm := .static "BlockExchange$Form" "PART_WIDTHS" "[I") (ty := .int) (N := 4) (f := fun j : Nat => .int (Int32.ofInt (zpw j))) (A := A) (by decide) (hs _ (by decide +kernel)) (va_eqt (hs _ (by decide +kernel))) (fun j hj => by
    have h4 : j = 0 ∨ j = 1 ∨ j = 2 ∨ j = 3 := by omega
    rcases h4 with rfl | rfl | rfl | rfl
    · exact va_eqt (z := 0) (hs _ (by decide +kernel))
    · exact va_eqt (z := 4) (hs _ (by decide +kernel))
    · exact va_eqt (z := 3) (hs _ (by decide +kernel))
    · exact va_eqt (z := 2) (hs _ (by decide +kernel))) hnA
  have hZ : va_Z RX2 "PART_WIDTHS" "[I" (.ref tP) A s s.heap := va_Zref (htb _ (List.mem_of_getElem? (i := 362) (by decide +kernel))) (hts _ zw_60) htP hnA
  have n1 : va_Nw zn1 s := va_Nw.of rfl (htb _ (List.mem_of_getElem? (i := 306) (by decide +kernel)))
  have n2 : va_Nw zn2 s := va_Nw.of rfl (htb _ (List.mem_of_getElem? (i := 373) (by decide +kernel)))
  have n3 : va_Nw zn3 s := va_Nw.of rfl (htb _ (List.mem_of_getElem? (i := 761) (by decide +kernel)))
  have B : zBi p s m #[Value.ref b] c D cI cZ cS RL code 4 := ⟨hx, hb, hml, hown, hts, hK, hAO⟩
  have hS : va_S A s.heap s.heap [] := va_S.rf
  have hP : va_P D vwCl [] s.heap := fun k q h => by simp at h
  have hD : va_D A [] := ⟨fun i j p q h => by simp at h, fun k q h => by simp at h⟩
  have hl := lv_entry ([.ref b]) (n := 4) (Nat.le_of_ble_eq_true rfl)
  rw [lg_entry_eq]
  generalize (lg_sl ([.ref b]) ++ List.replicate (4 - (lg_sl ([.ref b])).length) Slot.unset).toArray = ls at hl ⊢
  have hl : lv_has ls 4 [(0, .ref b)] := hl
  refine va_new (ci := 8) (fs := [.null, .null, .int 0, .null, .null, .null, .null, .null, .null]) (C := RX10) (T := TX10) (N := 9) hx hb hts in_X10 tyX10 tyX10_ok hown (hts _ zx_64) (hts _ zx_65) (hts _ zw_49) hK hP hD hS hA rfl (fun j hj => by rcases (show j = 0 ∨ j = 1 ∨ j = 2 ∨ j = 3 ∨ j = 4 ∨ j = 5 ∨ j = 6 ∨ j = 7 ∨ j = 8 by omega) with rfl | rfl | rfl | rfl | rfl | rfl | rfl | rfl | rfl <;> rfl) (Nat.le_of_ble_eq_true rfl) (Nat.le_of_ble_eq_true rfl) dL_law_0 (fun q0 H hP hD hS => ?_)
  refine lv_dup hx hb dL_law_3 rfl ?_
  refine z_ctor (M := mX10_init) (n := 0) (ws := []) (As := []) (rest := [.ref q0]) B (ci_X10 D cI cZ cS q0) (zw4 zx_68 zx_66 zx_67 zw_49) rfl rfl (by decide +kernel) ⟨(Nat.le_of_ble_eq_true rfl), (Nat.le_of_ble_eq_true rfl)⟩ rfl hl.1 (Nat.le_of_ble_eq_true rfl) hP hD hS hA ⟨(Nat.le_of_ble_eq_true rfl), (Nat.le_of_ble_eq_true rfl)⟩ dL_law_4 (fun u H locs hP hD hS => ?_)
  have hP : va_P D vwCl (wX10 cI cZ cS q0 u) H := hP
  have hD : va_D A (wX10 cI cZ cS q0 u) := hD
  refine lv_astore_n (lv' := [(1, .ref q0), (0, .ref b)]) hx hb dL_law_7 rfl hl (by decide) rfl (fun ls hl => ?_)
  refine va_new (ci := 9) (fs := [.null, .null, .null, .null, .null, .null, .null, .null, .null, .null, .null, .int 0, .null, .null, .null, .null, .null, .null, .int 0, .null, .int 0, .null, .null, .null, .int 0, .int 0, .int 0, .null, .null, .null, .int 0, .null, .int 0, .null, .int 0, .null, .int 0, .null, .null, .null, .null]) (C := RX11) (T := TX11) (N := 41) hx hb hts in_X11 tyX11 tyX11_ok hown (hts _ zx_782) (hts _ zx_783) (hts _ zw_58) hK hP hD hS hA rfl (fun j hj => by rcases (show j = 0 ∨ j = 1 ∨ j = 2 ∨ j = 3 ∨ j = 4 ∨ j = 5 ∨ j = 6 ∨ j = 7 ∨ j = 8 ∨ j = 9 ∨ j = 10 ∨ j = 11 ∨ j = 12 ∨ j = 13 ∨ j = 14 ∨ j = 15 ∨ j = 16 ∨ j = 17 ∨ j = 18 ∨ j = 19 ∨ j = 20 ∨ j = 21 ∨ j = 22 ∨ j = 23 ∨ j = 24 ∨ j = 25 ∨ j = 26 ∨ j = 27 ∨ j = 28 ∨ j = 29 ∨ j = 30 ∨ j = 31 ∨ j = 32 ∨ j = 33 ∨ j = 34 ∨ j = 35 ∨ j = 36 ∨ j = 37 ∨ j = 38 ∨ j = 39 ∨ j = 40 by omega) with rfl | rfl | rfl | rfl | rfl | rfl | rfl | rfl | rfl | rfl | rfl | rfl | rfl | rfl | rfl | rfl | rfl | rfl | rfl | rfl | rfl | rfl | rfl | rfl | rfl | rfl | rfl | rfl | rfl | rfl | rfl | rfl | rfl | rfl | rfl | rfl | rfl | rfl | rfl | rfl | rfl <;> rfl) (Nat.le_of_ble_eq_true rfl) (Nat.le_of_ble_eq_true rfl) dL_law_8 (fun q1 H hP hD hS => ?_)
  refine lv_dup hx hb dL_law_11 rfl ?_
  refine z_ctor (M := mX11_init) (n := 0) (ws := wX10 cI cZ cS q0 u) (As := []) (rest := [.ref q1]) B (ci_X11 D cI cZ cS q1) (zw4 zx_786 zx_784 zx_785 zw_58) rfl rfl (by decide +kernel) ⟨(Nat.le_of_ble_eq_true rfl), (Nat.le_of_ble_eq_true rfl)⟩ rfl hl.1 (Nat.le_of_ble_eq_true rfl) hP hD hS hA ⟨(Nat.le_of_ble_eq_true rfl), (Nat.le_of_ble_eq_true rfl)⟩ dL_law_12 (fun v H locs hP hD hS => ?_)
  refine W.widen (k := 600000) (n := 7302250) (Nat.le_of_ble_eq_true rfl) (Nat.le_of_ble_eq_true rfl) ?_
  refine lv_astore_n (lv' := [(2, .ref q1), (1, .ref q0), (0, .ref b)]) hx hb dL_law_15 rfl hl (by decide) rfl (fun ls hl => ?_)
  refine lv_iconst (v := 0) hx hb dL_law_16 (by decide) ?_
  refine lv_istore_n (lv' := [(3, .int 0), (2, .ref q1), (1, .ref q0), (0, .ref b)]) hx hb dL_law_17 rfl hl (by decide) rfl (fun ls hl => ?_)
  obtain ⟨al, hal⟩ : ∃ al : Nat → Nat, al = zal0 q0 u q1 v tP b := ⟨_, rfl⟩
  have a0 : q0 = al 0 := by rw [hal]; rfl
  have a56 : q1 = al 56 := by rw [hal]; rfl
  have a1000 : al 1000 = tP := by rw [hal]; rfl
  have a1001 : al 1001 = b := by rw [hal]; rfl
  have au : ∀ i, 1 ≤ i → i < 56 → u i = al i := fun i h1 h2 => by
    rw [hal]; unfold zal0; rw [if_neg (by omega), if_pos h2]
  have av : ∀ i, 1 ≤ i → i < 32 → v i = (fun i => al (56 + i)) i := fun i h1 h2 => by
    simp only
    rw [hal]; unfold zal0; rw [if_neg (by omega), if_neg (by omega), if_neg (by omega), if_pos (by omega)]
    congr 1
    omega
  rw [zw10_c a0 au, zw11_c a56 av] at hP hD
  clear hal
  have hP1 : va_P D vwCl (wX10 cI cZ cS (al 0) al) H := fun k q hk => hP k q (by rw [List.getElem?_append_left (List.getElem?_eq_some_iff.mp hk).1]; exact hk)
  have hP2 : va_P D vwCl (wX11 cI cZ cS (al 56) (fun i => al (56 + i))) H := fun k q hk => hP ((wX10 cI cZ cS (al 0) al).length + k) q (by rw [List.getElem?_append_right (by omega), Nat.add_sub_cancel_left]; exact hk)
  have hw : va_P D vwCl (zwl (zE0 D cI cZ cS al A) zmu0) H := zworld hP1 hP2
  have hEv : zEv (zE0 D cI cZ cS al A) s s.heap := by
    refine ⟨hK, ?_, ?_, fun i j hi hj he => ?_, fun k hk => ?_, n1, n2, n3⟩
    · show va_Z RX2 "PART_WIDTHS" "[I" (.ref (al 1000)) A s s.heap
      rw [a1000]; exact hZ
    · show va_T .int (al 1000) 4 _ A s s.heap
      rw [a1000]; exact hT
    · obtain ⟨e1, h1⟩ := zW_at cI cZ cS al (i := i) hi
      obtain ⟨e2, h2⟩ := zW_at cI cZ cS al (i := j) hj
      exact hD.1 i j _ _ h1 h2 he
    · obtain ⟨e1, h1⟩ := zW_at cI cZ cS al (i := k) hk
      exact hD.2 k _ h1
  refine law_loop (E := zE0 D cI cZ cS al A) ⟨⟨hx, hb, hml, hown, hts, hEv⟩, a1001, hX, hbl, hA2, hL⟩ hr hlocks 64 0 zmu0 (by omega) (by omega) zST_0 H locs ls hw hS ?_
  refine ⟨hl.1, hl.2.1, rfl, fun i w hi hw2 => ?_⟩
  match i, hi with
  | 0, hi =>
    cases hi
    show ls[0]? = some (.val (.ref (al 1001)))
    rw [a1001]
    exact lv_at hl 3 rfl
  | 1, hi =>
    cases hi
    show ls[1]? = some (.val (.ref (al 0)))
    rw [← a0]
    exact lv_at hl 2 rfl
  | 2, hi =>
    cases hi
    show ls[2]? = some (.val (.ref (al 56)))
    rw [← a56]
    exact lv_at hl 1 rfl
  | 3, hi =>
    cases hi
    exact lv_at hl 0 rfl
  | i + 4, hi => simp at hi
