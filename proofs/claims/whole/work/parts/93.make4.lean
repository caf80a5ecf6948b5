/-! MAKING -/
abbrev mX0_init : zMd := (yX0_init, cX0_init, 1, none)
theorem dX0_init_0 : decode cX0_init 0 = .ok (.aload_n 0, 1) := by decide +kernel
theorem dX0_init_1 : decode cX0_init 1 = .ok (.invokespecial 3, 3) := by decide +kernel
theorem dX0_init_4 : decode cX0_init 4 = .ok (.aload_n 0, 1) := by decide +kernel
theorem dX0_init_5 : decode cX0_init 5 = .ok (.new 9, 3) := by decide +kernel
theorem dX0_init_8 : decode cX0_init 8 = .ok (.dup, 1) := by decide +kernel
theorem dX0_init_9 : decode cX0_init 9 = .ok (.bipush 64, 2) := by decide +kernel
theorem dX0_init_11 : decode cX0_init 11 = .ok (.invokespecial 11, 3) := by decide +kernel
theorem dX0_init_14 : decode cX0_init 14 = .ok (.putfield 14, 3) := by decide +kernel
theorem dX0_init_17 : decode cX0_init 17 = .ok (.aload_n 0, 1) := by decide +kernel
theorem dX0_init_18 : decode cX0_init 18 = .ok (.bipush 18, 2) := by decide +kernel
theorem dX0_init_20 : decode cX0_init 20 = .ok (.newarray .int, 2) := by decide +kernel
theorem dX0_init_22 : decode cX0_init 22 = .ok (.putfield 22, 3) := by decide +kernel
theorem dX0_init_25 : decode cX0_init 25 = .ok (.aload_n 0, 1) := by decide +kernel
theorem dX0_init_26 : decode cX0_init 26 = .ok (.iconst 0, 1) := by decide +kernel
theorem dX0_init_27 : decode cX0_init 27 = .ok (.putfield 26, 3) := by decide +kernel
theorem dX0_init_30 : decode cX0_init 30 = .ok (.aload_n 0, 1) := by decide +kernel
theorem dX0_init_31 : decode cX0_init 31 = .ok (.iconst 0, 1) := by decide +kernel
theorem dX0_init_32 : decode cX0_init 32 = .ok (.putfield 30, 3) := by decide +kernel
theorem dX0_init_35 : decode cX0_init 35 = .ok (.return_, 1) := by decide +kernel
abbrev wX0 (cI cZ cS : ClassId) (h0 : Nat) (u : Nat → Nat) : va_W := [(h0, .inr (0, [.ref (u 1), .ref (u 5), .int 0, .int 0])), (u 1, .inr (4, [.int 64, .ref (u 2), .ref (u 3), .ref (u 4), .int 0])), (u 2, .inl (cI, 1152, .inl (fun _ => 0))), (u 3, .inl (cI, 64, .inl (fun _ => 0))), (u 4, .inl (cI, 64, .inl (fun _ => 0))), (u 5, .inl (cI, 18, .inl (fun _ => 0)))]
set_option maxRecDepth 100000 in
set_option maxHeartbeats 4000000 in
theorem ci_X0 (D : va_G) (cI cZ cS : ClassId) (h0 : Nat) : zCi 2 mX0_init D cI cZ cS h0 (.inr (0, [.null, .null, .int 0, .int 0])) [] (wX0 cI cZ cS h0) 5 1303 := by
  refine zCi.mk (by decide) (Nat.le_of_ble_eq_true rfl) rfl ?_
  intro p l e s m args below meth c A ls B hr hlk hin hA hD hP hl
  obtain ⟨hx, hb, hml, hown, hts, hK, hAO⟩ := id B
  have hl : lv_has ls 1 [(0, .ref h0)] := hl
  have hS : va_S A s.heap s.heap [] := va_S.rf
  refine lv_aload_n hx hb dX0_init_0 rfl (lv_at hl 0 rfl) ?_
  refine z_obj B zx_175 zx_70 zx_71 hl.1 ⟨(Nat.le_of_ble_eq_true rfl), (Nat.le_of_ble_eq_true rfl)⟩ dX0_init_1 ?_
  refine lv_aload_n hx hb dX0_init_4 rfl (lv_at hl 0 rfl) ?_
  refine va_new (ci := 4) (fs := [.int 0, .null, .null, .null, .int 0]) (C := RX6) (T := TX6) (N := 5) hx hb hts in_X6 tyX6 tyX6_ok hown (hts _ zx_176) (hts _ zx_80) (hts _ zw_51) hK hP hD hS hA rfl (fun j hj => by rcases (show j = 0 ∨ j = 1 ∨ j = 2 ∨ j = 3 ∨ j = 4 by omega) with rfl | rfl | rfl | rfl | rfl <;> rfl) (Nat.le_of_ble_eq_true rfl) (Nat.le_of_ble_eq_true rfl) dX0_init_5 (fun q4 H hP hD hS => ?_)
  have hP : va_P D vwCl [(h0, .inr (0, [.null, .null, .int 0, .int 0])), (q4, .inr (4, [.int 0, .null, .null, .null, .int 0]))] H := hP
  have hD : va_D A [(h0, .inr (0, [.null, .null, .int 0, .int 0])), (q4, .inr (4, [.int 0, .null, .null, .null, .int 0]))] := hD
  refine lv_dup hx hb dX0_init_8 rfl ?_
  refine lv_bipush (v := 64) hx hb dX0_init_9 (by decide) ?_
  refine z_ctor (M := mX6_init) (n := 1) (ws := [(h0, .inr (0, [.null, .null, .int 0, .int 0]))]) (As := [.int 64]) (rest := [.ref q4, .ref h0]) B (ci_X6_64 D cI cZ cS q4) (zw4 zx_83 zx_177 zx_82 zw_51) rfl rfl (by decide +kernel) ⟨(Nat.le_of_ble_eq_true rfl), (Nat.le_of_ble_eq_true rfl)⟩ rfl hl.1 (Nat.le_of_ble_eq_true rfl) hP hD hS hA ⟨(Nat.le_of_ble_eq_true rfl), (Nat.le_of_ble_eq_true rfl)⟩ dX0_init_11 (fun u7 H locs hP hD hS => ?_)
  have hP : va_P D vwCl [(h0, .inr (0, [.null, .null, .int 0, .int 0])), (q4, .inr (4, [.int 64, .ref (u7 1), .ref (u7 2), .ref (u7 3), .int 0])), (u7 1, .inl (cI, 1152, .inl (fun _ => 0))), (u7 2, .inl (cI, 64, .inl (fun _ => 0))), (u7 3, .inl (cI, 64, .inl (fun _ => 0)))] H := hP
  have hD : va_D A [(h0, .inr (0, [.null, .null, .int 0, .int 0])), (q4, .inr (4, [.int 64, .ref (u7 1), .ref (u7 2), .ref (u7 3), .int 0])), (u7 1, .inl (cI, 1152, .inl (fun _ => 0))), (u7 2, .inl (cI, 64, .inl (fun _ => 0))), (u7 3, .inl (cI, 64, .inl (fun _ => 0)))] := hD
  refine va_putF (D := D) (ci := 0) (v := .ref q4) (ty := .object "BlockExchange$Shelf") (C := RX0) (T := TX0) (N := 4) hx hb hts in_X0 tyX0 tyX0_ok nmX0 hown hK hP hD hS 0 rfl rfl 0 (by decide) (hts _ zw_178) (fun _ h9 => h9) rfl hin rfl (by decide +kernel) (by first | rfl | decide +kernel) rfl (Nat.le_of_ble_eq_true rfl) dX0_init_14 (fun H locs hP hD hS => ?_)
  have hP : va_P D vwCl [(h0, .inr (0, [.ref q4, .null, .int 0, .int 0])), (q4, .inr (4, [.int 64, .ref (u7 1), .ref (u7 2), .ref (u7 3), .int 0])), (u7 1, .inl (cI, 1152, .inl (fun _ => 0))), (u7 2, .inl (cI, 64, .inl (fun _ => 0))), (u7 3, .inl (cI, 64, .inl (fun _ => 0)))] H := hP
  have hD : va_D A [(h0, .inr (0, [.ref q4, .null, .int 0, .int 0])), (q4, .inr (4, [.int 64, .ref (u7 1), .ref (u7 2), .ref (u7 3), .int 0])), (u7 1, .inl (cI, 1152, .inl (fun _ => 0))), (u7 2, .inl (cI, 64, .inl (fun _ => 0))), (u7 3, .inl (cI, 64, .inl (fun _ => 0)))] := hD
  refine lv_aload_n hx hb dX0_init_17 rfl (lv_at hl 0 rfl) ?_
  refine lv_bipush (v := 18) hx hb dX0_init_18 (by decide) ?_
  refine z_newi (N := 18) B hP hD hS hA (by decide) (by decide) (by decide) (Nat.le_of_ble_eq_true rfl) (Nat.le_of_ble_eq_true rfl) dX0_init_20 (fun q11 H hP hD hS => ?_)
  have hP : va_P D vwCl [(h0, .inr (0, [.ref q4, .null, .int 0, .int 0])), (q4, .inr (4, [.int 64, .ref (u7 1), .ref (u7 2), .ref (u7 3), .int 0])), (u7 1, .inl (cI, 1152, .inl (fun _ => 0))), (u7 2, .inl (cI, 64, .inl (fun _ => 0))), (u7 3, .inl (cI, 64, .inl (fun _ => 0))), (q11, .inl (cI, 18, .inl (fun _ => 0)))] H := hP
  have hD : va_D A [(h0, .inr (0, [.ref q4, .null, .int 0, .int 0])), (q4, .inr (4, [.int 64, .ref (u7 1), .ref (u7 2), .ref (u7 3), .int 0])), (u7 1, .inl (cI, 1152, .inl (fun _ => 0))), (u7 2, .inl (cI, 64, .inl (fun _ => 0))), (u7 3, .inl (cI, 64, .inl (fun _ => 0))), (q11, .inl (cI, 18, .inl (fun _ => 0)))] := hD
  refine va_putF (D := D) (ci := 0) (v := .ref q11) (ty := .array .int) (C := RX0) (T := TX0) (N := 4) hx hb hts in_X0 tyX0 tyX0_ok nmX0 hown hK hP hD hS 0 rfl rfl 1 (by decide) (hts _ zw_179) (fun _ h9 => h9) rfl hin rfl (by decide +kernel) (by first | rfl | decide +kernel) rfl (Nat.le_of_ble_eq_true rfl) dX0_init_22 (fun H locs hP hD hS => ?_)
  have hP : va_P D vwCl [(h0, .inr (0, [.ref q4, .ref q11, .int 0, .int 0])), (q4, .inr (4, [.int 64, .ref (u7 1), .ref (u7 2), .ref (u7 3), .int 0])), (u7 1, .inl (cI, 1152, .inl (fun _ => 0))), (u7 2, .inl (cI, 64, .inl (fun _ => 0))), (u7 3, .inl (cI, 64, .inl (fun _ => 0))), (q11, .inl (cI, 18, .inl (fun _ => 0)))] H := hP
  have hD : va_D A [(h0, .inr (0, [.ref q4, .ref q11, .int 0, .int 0])), (q4, .inr (4, [.int 64, .ref (u7 1), .ref (u7 2), .ref (u7 3), .int 0])), (u7 1, .inl (cI, 1152, .inl (fun _ => 0))), (u7 2, .inl (cI, 64, .inl (fun _ => 0))), (u7 3, .inl (cI, 64, .inl (fun _ => 0))), (q11, .inl (cI, 18, .inl (fun _ => 0)))] := hD
  refine lv_aload_n hx hb dX0_init_25 rfl (lv_at hl 0 rfl) ?_
  refine lv_iconst (v := 0) hx hb dX0_init_26 (by decide) ?_
  refine va_put (D := D) (ci := 0) (v := .int 0) (ty := .int) (C := RX0) (T := TX0) (N := 4) hx hb hts in_X0 tyX0 tyX0_ok nmX0 hown hK hP hD hS 0 rfl rfl 2 (by decide) (hts _ zw_180) (fun _ h9 => h9) rfl (by decide +kernel) (by first | rfl | decide +kernel) rfl (Nat.le_of_ble_eq_true rfl) dX0_init_27 (fun H locs hP hD hS => ?_)
  have hP : va_P D vwCl [(h0, .inr (0, [.ref q4, .ref q11, .int 0, .int 0])), (q4, .inr (4, [.int 64, .ref (u7 1), .ref (u7 2), .ref (u7 3), .int 0])), (u7 1, .inl (cI, 1152, .inl (fun _ => 0))), (u7 2, .inl (cI, 64, .inl (fun _ => 0))), (u7 3, .inl (cI, 64, .inl (fun _ => 0))), (q11, .inl (cI, 18, .inl (fun _ => 0)))] H := hP
  have hD : va_D A [(h0, .inr (0, [.ref q4, .ref q11, .int 0, .int 0])), (q4, .inr (4, [.int 64, .ref (u7 1), .ref (u7 2), .ref (u7 3), .int 0])), (u7 1, .inl (cI, 1152, .inl (fun _ => 0))), (u7 2, .inl (cI, 64, .inl (fun _ => 0))), (u7 3, .inl (cI, 64, .inl (fun _ => 0))), (q11, .inl (cI, 18, .inl (fun _ => 0)))] := hD
  refine lv_aload_n hx hb dX0_init_30 rfl (lv_at hl 0 rfl) ?_
  refine lv_iconst (v := 0) hx hb dX0_init_31 (by decide) ?_
  refine va_put (D := D) (ci := 0) (v := .int 0) (ty := .boolean) (C := RX0) (T := TX0) (N := 4) hx hb hts in_X0 tyX0 tyX0_ok nmX0 hown hK hP hD hS 0 rfl rfl 3 (by decide) (hts _ zw_181) (fun _ h9 => h9) rfl (by decide +kernel) (by first | rfl | decide +kernel) rfl (Nat.le_of_ble_eq_true rfl) dX0_init_32 (fun H locs hP hD hS => ?_)
  have hP : va_P D vwCl [(h0, .inr (0, [.ref q4, .ref q11, .int 0, .int 0])), (q4, .inr (4, [.int 64, .ref (u7 1), .ref (u7 2), .ref (u7 3), .int 0])), (u7 1, .inl (cI, 1152, .inl (fun _ => 0))), (u7 2, .inl (cI, 64, .inl (fun _ => 0))), (u7 3, .inl (cI, 64, .inl (fun _ => 0))), (q11, .inl (cI, 18, .inl (fun _ => 0)))] H := hP
  have hD : va_D A [(h0, .inr (0, [.ref q4, .ref q11, .int 0, .int 0])), (q4, .inr (4, [.int 64, .ref (u7 1), .ref (u7 2), .ref (u7 3), .int 0])), (u7 1, .inl (cI, 1152, .inl (fun _ => 0))), (u7 2, .inl (cI, 64, .inl (fun _ => 0))), (u7 3, .inl (cI, 64, .inl (fun _ => 0))), (q11, .inl (cI, 18, .inl (fun _ => 0)))] := hD
  exact z_vret (wf := wX0 cI cZ cS h0) B hr hlk (fun i => ([h0, q4, (u7 1), (u7 2), (u7 3), q11] : List Nat).getD i 0) hP hD hS (Nat.le_of_ble_eq_true rfl) (Nat.le_of_ble_eq_true rfl) dX0_init_35
abbrev mX3_init : zMd := (yX3_init, cX3_init, 1, none)
theorem dX3_init_0 : decode cX3_init 0 = .ok (.aload_n 0, 1) := by decide +kernel
theorem dX3_init_1 : decode cX3_init 1 = .ok (.invokespecial 3, 3) := by decide +kernel
theorem dX3_init_4 : decode cX3_init 4 = .ok (.aload_n 0, 1) := by decide +kernel
theorem dX3_init_5 : decode cX3_init 5 = .ok (.new 9, 3) := by decide +kernel
theorem dX3_init_8 : decode cX3_init 8 = .ok (.dup, 1) := by decide +kernel
theorem dX3_init_9 : decode cX3_init 9 = .ok (.bipush 24, 2) := by decide +kernel
theorem dX3_init_11 : decode cX3_init 11 = .ok (.invokespecial 13, 3) := by decide +kernel
theorem dX3_init_14 : decode cX3_init 14 = .ok (.putfield 16, 3) := by decide +kernel
theorem dX3_init_17 : decode cX3_init 17 = .ok (.aload_n 0, 1) := by decide +kernel
theorem dX3_init_18 : decode cX3_init 18 = .ok (.bipush 24, 2) := by decide +kernel
theorem dX3_init_20 : decode cX3_init 20 = .ok (.newarray .int, 2) := by decide +kernel
theorem dX3_init_22 : decode cX3_init 22 = .ok (.putfield 20, 3) := by decide +kernel
theorem dX3_init_25 : decode cX3_init 25 = .ok (.aload_n 0, 1) := by decide +kernel
theorem dX3_init_26 : decode cX3_init 26 = .ok (.bipush 24, 2) := by decide +kernel
theorem dX3_init_28 : decode cX3_init 28 = .ok (.newarray .int, 2) := by decide +kernel
theorem dX3_init_30 : decode cX3_init 30 = .ok (.putfield 24, 3) := by decide +kernel
theorem dX3_init_33 : decode cX3_init 33 = .ok (.aload_n 0, 1) := by decide +kernel
theorem dX3_init_34 : decode cX3_init 34 = .ok (.bipush 24, 2) := by decide +kernel
theorem dX3_init_36 : decode cX3_init 36 = .ok (.newarray .int, 2) := by decide +kernel
theorem dX3_init_38 : decode cX3_init 38 = .ok (.putfield 27, 3) := by decide +kernel
theorem dX3_init_41 : decode cX3_init 41 = .ok (.return_, 1) := by decide +kernel
abbrev wX3 (cI cZ cS : ClassId) (h0 : Nat) (u : Nat → Nat) : va_W := [(h0, .inr (2, [.ref (u 1), .ref (u 5), .ref (u 6), .ref (u 7)])), (u 1, .inr (4, [.int 24, .ref (u 2), .ref (u 3), .ref (u 4), .int 0])), (u 2, .inl (cI, 432, .inl (fun _ => 0))), (u 3, .inl (cI, 24, .inl (fun _ => 0))), (u 4, .inl (cI, 24, .inl (fun _ => 0))), (u 5, .inl (cI, 24, .inl (fun _ => 0))), (u 6, .inl (cI, 24, .inl (fun _ => 0))), (u 7, .inl (cI, 24, .inl (fun _ => 0)))]
set_option maxRecDepth 100000 in
set_option maxHeartbeats 4000000 in
theorem ci_X3 (D : va_G) (cI cZ cS : ClassId) (h0 : Nat) : zCi 2 mX3_init D cI cZ cS h0 (.inr (2, [.null, .null, .null, .null])) [] (wX3 cI cZ cS h0) 7 557 := by
  refine zCi.mk (by decide) (Nat.le_of_ble_eq_true rfl) rfl ?_
  intro p l e s m args below meth c A ls B hr hlk hin hA hD hP hl
  obtain ⟨hx, hb, hml, hown, hts, hK, hAO⟩ := id B
  have hl : lv_has ls 1 [(0, .ref h0)] := hl
  have hS : va_S A s.heap s.heap [] := va_S.rf
  refine lv_aload_n hx hb dX3_init_0 rfl (lv_at hl 0 rfl) ?_
  refine z_obj B zx_196 zx_70 zx_71 hl.1 ⟨(Nat.le_of_ble_eq_true rfl), (Nat.le_of_ble_eq_true rfl)⟩ dX3_init_1 ?_
  refine lv_aload_n hx hb dX3_init_4 rfl (lv_at hl 0 rfl) ?_
  refine va_new (ci := 4) (fs := [.int 0, .null, .null, .null, .int 0]) (C := RX6) (T := TX6) (N := 5) hx hb hts in_X6 tyX6 tyX6_ok hown (hts _ zx_197) (hts _ zx_80) (hts _ zw_51) hK hP hD hS hA rfl (fun j hj => by rcases (show j = 0 ∨ j = 1 ∨ j = 2 ∨ j = 3 ∨ j = 4 by omega) with rfl | rfl | rfl | rfl | rfl <;> rfl) (Nat.le_of_ble_eq_true rfl) (Nat.le_of_ble_eq_true rfl) dX3_init_5 (fun q4 H hP hD hS => ?_)
  have hP : va_P D vwCl [(h0, .inr (2, [.null, .null, .null, .null])), (q4, .inr (4, [.int 0, .null, .null, .null, .int 0]))] H := hP
  have hD : va_D A [(h0, .inr (2, [.null, .null, .null, .null])), (q4, .inr (4, [.int 0, .null, .null, .null, .int 0]))] := hD
  refine lv_dup hx hb dX3_init_8 rfl ?_
  refine lv_bipush (v := 24) hx hb dX3_init_9 (by decide) ?_
  refine z_ctor (M := mX6_init) (n := 1) (ws := [(h0, .inr (2, [.null, .null, .null, .null]))]) (As := [.int 24]) (rest := [.ref q4, .ref h0]) B (ci_X6_24 D cI cZ cS q4) (zw4 zx_83 zx_198 zx_82 zw_51) rfl rfl (by decide +kernel) ⟨(Nat.le_of_ble_eq_true rfl), (Nat.le_of_ble_eq_true rfl)⟩ rfl hl.1 (Nat.le_of_ble_eq_true rfl) hP hD hS hA ⟨(Nat.le_of_ble_eq_true rfl), (Nat.le_of_ble_eq_true rfl)⟩ dX3_init_11 (fun u7 H locs hP hD hS => ?_)
  have hP : va_P D vwCl [(h0, .inr (2, [.null, .null, .null, .null])), (q4, .inr (4, [.int 24, .ref (u7 1), .ref (u7 2), .ref (u7 3), .int 0])), (u7 1, .inl (cI, 432, .inl (fun _ => 0))), (u7 2, .inl (cI, 24, .inl (fun _ => 0))), (u7 3, .inl (cI, 24, .inl (fun _ => 0)))] H := hP
  have hD : va_D A [(h0, .inr (2, [.null, .null, .null, .null])), (q4, .inr (4, [.int 24, .ref (u7 1), .ref (u7 2), .ref (u7 3), .int 0])), (u7 1, .inl (cI, 432, .inl (fun _ => 0))), (u7 2, .inl (cI, 24, .inl (fun _ => 0))), (u7 3, .inl (cI, 24, .inl (fun _ => 0)))] := hD
  refine va_putF (D := D) (ci := 2) (v := .ref q4) (ty := .object "BlockExchange$Shelf") (C := RX3) (T := TX3) (N := 4) hx hb hts in_X3 tyX3 tyX3_ok nmX3 hown hK hP hD hS 0 rfl rfl 0 (by decide) (hts _ zw_199) (fun _ h9 => h9) rfl hin rfl (by decide +kernel) (by first | rfl | decide +kernel) rfl (Nat.le_of_ble_eq_true rfl) dX3_init_14 (fun H locs hP hD hS => ?_)
  have hP : va_P D vwCl [(h0, .inr (2, [.ref q4, .null, .null, .null])), (q4, .inr (4, [.int 24, .ref (u7 1), .ref (u7 2), .ref (u7 3), .int 0])), (u7 1, .inl (cI, 432, .inl (fun _ => 0))), (u7 2, .inl (cI, 24, .inl (fun _ => 0))), (u7 3, .inl (cI, 24, .inl (fun _ => 0)))] H := hP
  have hD : va_D A [(h0, .inr (2, [.ref q4, .null, .null, .null])), (q4, .inr (4, [.int 24, .ref (u7 1), .ref (u7 2), .ref (u7 3), .int 0])), (u7 1, .inl (cI, 432, .inl (fun _ => 0))), (u7 2, .inl (cI, 24, .inl (fun _ => 0))), (u7 3, .inl (cI, 24, .inl (fun _ => 0)))] := hD
  refine lv_aload_n hx hb dX3_init_17 rfl (lv_at hl 0 rfl) ?_
  refine lv_bipush (v := 24) hx hb dX3_init_18 (by decide) ?_
  refine z_newi (N := 24) B hP hD hS hA (by decide) (by decide) (by decide) (Nat.le_of_ble_eq_true rfl) (Nat.le_of_ble_eq_true rfl) dX3_init_20 (fun q11 H hP hD hS => ?_)
  have hP : va_P D vwCl [(h0, .inr (2, [.ref q4, .null, .null, .null])), (q4, .inr (4, [.int 24, .ref (u7 1), .ref (u7 2), .ref (u7 3), .int 0])), (u7 1, .inl (cI, 432, .inl (fun _ => 0))), (u7 2, .inl (cI, 24, .inl (fun _ => 0))), (u7 3, .inl (cI, 24, .inl (fun _ => 0))), (q11, .inl (cI, 24, .inl (fun _ => 0)))] H := hP
  have hD : va_D A [(h0, .inr (2, [.ref q4, .null, .null, .null])), (q4, .inr (4, [.int 24, .ref (u7 1), .ref (u7 2), .ref (u7 3), .int 0])), (u7 1, .inl (cI, 432, .inl (fun _ => 0))), (u7 2, .inl (cI, 24, .inl (fun _ => 0))), (u7 3, .inl (cI, 24, .inl (fun _ => 0))), (q11, .inl (cI, 24, .inl (fun _ => 0)))] := hD
  refine va_putF (D := D) (ci := 2) (v := .ref q11) (ty := .array .int) (C := RX3) (T := TX3) (N := 4) hx hb hts in_X3 tyX3 tyX3_ok nmX3 hown hK hP hD hS 0 rfl rfl 1 (by decide) (hts _ zw_200) (fun _ h9 => h9) rfl hin rfl (by decide +kernel) (by first | rfl | decide +kernel) rfl (Nat.le_of_ble_eq_true rfl) dX3_init_22 (fun H locs hP hD hS => ?_)
  have hP : va_P D vwCl [(h0, .inr (2, [.ref q4, .ref q11, .null, .null])), (q4, .inr (4, [.int 24, .ref (u7 1), .ref (u7 2), .ref (u7 3), .int 0])), (u7 1, .inl (cI, 432, .inl (fun _ => 0))), (u7 2, .inl (cI, 24, .inl (fun _ => 0))), (u7 3, .inl (cI, 24, .inl (fun _ => 0))), (q11, .inl (cI, 24, .inl (fun _ => 0)))] H := hP
  have hD : va_D A [(h0, .inr (2, [.ref q4, .ref q11, .null, .null])), (q4, .inr (4, [.int 24, .ref (u7 1), .ref (u7 2), .ref (u7 3), .int 0])), (u7 1, .inl (cI, 432, .inl (fun _ => 0))), (u7 2, .inl (cI, 24, .inl (fun _ => 0))), (u7 3, .inl (cI, 24, .inl (fun _ => 0))), (q11, .inl (cI, 24, .inl (fun _ => 0)))] := hD
  refine lv_aload_n hx hb dX3_init_25 rfl (lv_at hl 0 rfl) ?_
  refine lv_bipush (v := 24) hx hb dX3_init_26 (by decide) ?_
  refine z_newi (N := 24) B hP hD hS hA (by decide) (by decide) (by decide) (Nat.le_of_ble_eq_true rfl) (Nat.le_of_ble_eq_true rfl) dX3_init_28 (fun q15 H hP hD hS => ?_)
  have hP : va_P D vwCl [(h0, .inr (2, [.ref q4, .ref q11, .null, .null])), (q4, .inr (4, [.int 24, .ref (u7 1), .ref (u7 2), .ref (u7 3), .int 0])), (u7 1, .inl (cI, 432, .inl (fun _ => 0))), (u7 2, .inl (cI, 24, .inl (fun _ => 0))), (u7 3, .inl (cI, 24, .inl (fun _ => 0))), (q11, .inl (cI, 24, .inl (fun _ => 0))), (q15, .inl (cI, 24, .inl (fun _ => 0)))] H := hP
  have hD : va_D A [(h0, .inr (2, [.ref q4, .ref q11, .null, .null])), (q4, .inr (4, [.int 24, .ref (u7 1), .ref (u7 2), .ref (u7 3), .int 0])), (u7 1, .inl (cI, 432, .inl (fun _ => 0))), (u7 2, .inl (cI, 24, .inl (fun _ => 0))), (u7 3, .inl (cI, 24, .inl (fun _ => 0))), (q11, .inl (cI, 24, .inl (fun _ => 0))), (q15, .inl (cI, 24, .inl (fun _ => 0)))] := hD
  refine va_putF (D := D) (ci := 2) (v := .ref q15) (ty := .array .int) (C := RX3) (T := TX3) (N := 4) hx hb hts in_X3 tyX3 tyX3_ok nmX3 hown hK hP hD hS 0 rfl rfl 2 (by decide) (hts _ zw_201) (fun _ h9 => h9) rfl hin rfl (by decide +kernel) (by first | rfl | decide +kernel) rfl (Nat.le_of_ble_eq_true rfl) dX3_init_30 (fun H locs hP hD hS => ?_)
  have hP : va_P D vwCl [(h0, .inr (2, [.ref q4, .ref q11, .ref q15, .null])), (q4, .inr (4, [.int 24, .ref (u7 1), .ref (u7 2), .ref (u7 3), .int 0])), (u7 1, .inl (cI, 432, .inl (fun _ => 0))), (u7 2, .inl (cI, 24, .inl (fun _ => 0))), (u7 3, .inl (cI, 24, .inl (fun _ => 0))), (q11, .inl (cI, 24, .inl (fun _ => 0))), (q15, .inl (cI, 24, .inl (fun _ => 0)))] H := hP
  have hD : va_D A [(h0, .inr (2, [.ref q4, .ref q11, .ref q15, .null])), (q4, .inr (4, [.int 24, .ref (u7 1), .ref (u7 2), .ref (u7 3), .int 0])), (u7 1, .inl (cI, 432, .inl (fun _ => 0))), (u7 2, .inl (cI, 24, .inl (fun _ => 0))), (u7 3, .inl (cI, 24, .inl (fun _ => 0))), (q11, .inl (cI, 24, .inl (fun _ => 0))), (q15, .inl (cI, 24, .inl (fun _ => 0)))] := hD
  refine lv_aload_n hx hb dX3_init_33 rfl (lv_at hl 0 rfl) ?_
  refine lv_bipush (v := 24) hx hb dX3_init_34 (by decide) ?_
  refine z_newi (N := 24) B hP hD hS hA (by decide) (by decide) (by decide) (Nat.le_of_ble_eq_true rfl) (Nat.le_of_ble_eq_true rfl) dX3_init_36 (fun q19 H hP hD hS => ?_)
  have hP : va_P D vwCl [(h0, .inr (2, [.ref q4, .ref q11, .ref q15, .null])), (q4, .inr (4, [.int 24, .ref (u7 1), .ref (u7 2), .ref (u7 3), .int 0])), (u7 1, .inl (cI, 432, .inl (fun _ => 0))), (u7 2, .inl (cI, 24, .inl (fun _ => 0))), (u7 3, .inl (cI, 24, .inl (fun _ => 0))), (q11, .inl (cI, 24, .inl (fun _ => 0))), (q15, .inl (cI, 24, .inl (fun _ => 0))), (q19, .inl (cI, 24, .inl (fun _ => 0)))] H := hP
  have hD : va_D A [(h0, .inr (2, [.ref q4, .ref q11, .ref q15, .null])), (q4, .inr (4, [.int 24, .ref (u7 1), .ref (u7 2), .ref (u7 3), .int 0])), (u7 1, .inl (cI, 432, .inl (fun _ => 0))), (u7 2, .inl (cI, 24, .inl (fun _ => 0))), (u7 3, .inl (cI, 24, .inl (fun _ => 0))), (q11, .inl (cI, 24, .inl (fun _ => 0))), (q15, .inl (cI, 24, .inl (fun _ => 0))), (q19, .inl (cI, 24, .inl (fun _ => 0)))] := hD
  refine va_putF (D := D) (ci := 2) (v := .ref q19) (ty := .array .int) (C := RX3) (T := TX3) (N := 4) hx hb hts in_X3 tyX3 tyX3_ok nmX3 hown hK hP hD hS 0 rfl rfl 3 (by decide) (hts _ zw_202) (fun _ h9 => h9) rfl hin rfl (by decide +kernel) (by first | rfl | decide +kernel) rfl (Nat.le_of_ble_eq_true rfl) dX3_init_38 (fun H locs hP hD hS => ?_)
  have hP : va_P D vwCl [(h0, .inr (2, [.ref q4, .ref q11, .ref q15, .ref q19])), (q4, .inr (4, [.int 24, .ref (u7 1), .ref (u7 2), .ref (u7 3), .int 0])), (u7 1, .inl (cI, 432, .inl (fun _ => 0))), (u7 2, .inl (cI, 24, .inl (fun _ => 0))), (u7 3, .inl (cI, 24, .inl (fun _ => 0))), (q11, .inl (cI, 24, .inl (fun _ => 0))), (q15, .inl (cI, 24, .inl (fun _ => 0))), (q19, .inl (cI, 24, .inl (fun _ => 0)))] H := hP
  have hD : va_D A [(h0, .inr (2, [.ref q4, .ref q11, .ref q15, .ref q19])), (q4, .inr (4, [.int 24, .ref (u7 1), .ref (u7 2), .ref (u7 3), .int 0])), (u7 1, .inl (cI, 432, .inl (fun _ => 0))), (u7 2, .inl (cI, 24, .inl (fun _ => 0))), (u7 3, .inl (cI, 24, .inl (fun _ => 0))), (q11, .inl (cI, 24, .inl (fun _ => 0))), (q15, .inl (cI, 24, .inl (fun _ => 0))), (q19, .inl (cI, 24, .inl (fun _ => 0)))] := hD
  exact z_vret (wf := wX3 cI cZ cS h0) B hr hlk (fun i => ([h0, q4, (u7 1), (u7 2), (u7 3), q11, q15, q19] : List Nat).getD i 0) hP hD hS (Nat.le_of_ble_eq_true rfl) (Nat.le_of_ble_eq_true rfl) dX3_init_41
abbrev mX7_init : zMd := (yX7_init, cX7_init, 1, none)
theorem dX7_init_0 : decode cX7_init 0 = .ok (.aload_n 0, 1) := by decide +kernel
theorem dX7_init_1 : decode cX7_init 1 = .ok (.invokespecial 3, 3) := by decide +kernel
theorem dX7_init_4 : decode cX7_init 4 = .ok (.aload_n 0, 1) := by decide +kernel
theorem dX7_init_5 : decode cX7_init 5 = .ok (.new 9, 3) := by decide +kernel
theorem dX7_init_8 : decode cX7_init 8 = .ok (.dup, 1) := by decide +kernel
theorem dX7_init_9 : decode cX7_init 9 = .ok (.bipush 64, 2) := by decide +kernel
theorem dX7_init_11 : decode cX7_init 11 = .ok (.invokespecial 11, 3) := by decide +kernel
theorem dX7_init_14 : decode cX7_init 14 = .ok (.putfield 14, 3) := by decide +kernel
theorem dX7_init_17 : decode cX7_init 17 = .ok (.aload_n 0, 1) := by decide +kernel
theorem dX7_init_18 : decode cX7_init 18 = .ok (.new 20, 3) := by decide +kernel
theorem dX7_init_21 : decode cX7_init 21 = .ok (.dup, 1) := by decide +kernel
theorem dX7_init_22 : decode cX7_init 22 = .ok (.invokespecial 22, 3) := by decide +kernel
theorem dX7_init_25 : decode cX7_init 25 = .ok (.putfield 23, 3) := by decide +kernel
theorem dX7_init_28 : decode cX7_init 28 = .ok (.aload_n 0, 1) := by decide +kernel
theorem dX7_init_29 : decode cX7_init 29 = .ok (.iconst 0, 1) := by decide +kernel
theorem dX7_init_30 : decode cX7_init 30 = .ok (.putfield 27, 3) := by decide +kernel
theorem dX7_init_33 : decode cX7_init 33 = .ok (.aload_n 0, 1) := by decide +kernel
theorem dX7_init_34 : decode cX7_init 34 = .ok (.iconst 0, 1) := by decide +kernel
theorem dX7_init_35 : decode cX7_init 35 = .ok (.putfield 31, 3) := by decide +kernel
theorem dX7_init_38 : decode cX7_init 38 = .ok (.aload_n 0, 1) := by decide +kernel
theorem dX7_init_39 : decode cX7_init 39 = .ok (.iconst 0, 1) := by decide +kernel
theorem dX7_init_40 : decode cX7_init 40 = .ok (.putfield 34, 3) := by decide +kernel
theorem dX7_init_43 : decode cX7_init 43 = .ok (.return_, 1) := by decide +kernel
abbrev wX7 (cI cZ cS : ClassId) (h0 : Nat) (u : Nat → Nat) : va_W := [(h0, .inr (5, [.ref (u 1), .ref (u 5), .int 0, .int 0, .int 0])), (u 1, .inr (4, [.int 64, .ref (u 2), .ref (u 3), .ref (u 4), .int 0])), (u 2, .inl (cI, 1152, .inl (fun _ => 0))), (u 3, .inl (cI, 64, .inl (fun _ => 0))), (u 4, .inl (cI, 64, .inl (fun _ => 0))), (u 5, .inr (3, [.ref (u 6), .ref (u 7), .int 0])), (u 6, .inl (cI, 8, .inl (fun _ => 0))), (u 7, .inl (cZ, 8, .inl (fun _ => 0)))]
set_option maxRecDepth 100000 in
set_option maxHeartbeats 4000000 in
theorem ci_X7 (D : va_G) (cI cZ cS : ClassId) (h0 : Nat) : zCi 2 mX7_init D cI cZ cS h0 (.inr (5, [.null, .null, .int 0, .int 0, .int 0])) [] (wX7 cI cZ cS h0) 7 1304 := by
  refine zCi.mk (by decide) (Nat.le_of_ble_eq_true rfl) rfl ?_
  intro p l e s m args below meth c A ls B hr hlk hin hA hD hP hl
  obtain ⟨hx, hb, hml, hown, hts, hK, hAO⟩ := id B
  have hl : lv_has ls 1 [(0, .ref h0)] := hl
  have hS : va_S A s.heap s.heap [] := va_S.rf
  refine lv_aload_n hx hb dX7_init_0 rfl (lv_at hl 0 rfl) ?_
  refine z_obj B zx_78 zx_70 zx_71 hl.1 ⟨(Nat.le_of_ble_eq_true rfl), (Nat.le_of_ble_eq_true rfl)⟩ dX7_init_1 ?_
  refine lv_aload_n hx hb dX7_init_4 rfl (lv_at hl 0 rfl) ?_
  refine va_new (ci := 4) (fs := [.int 0, .null, .null, .null, .int 0]) (C := RX6) (T := TX6) (N := 5) hx hb hts in_X6 tyX6 tyX6_ok hown (hts _ zx_79) (hts _ zx_80) (hts _ zw_51) hK hP hD hS hA rfl (fun j hj => by rcases (show j = 0 ∨ j = 1 ∨ j = 2 ∨ j = 3 ∨ j = 4 by omega) with rfl | rfl | rfl | rfl | rfl <;> rfl) (Nat.le_of_ble_eq_true rfl) (Nat.le_of_ble_eq_true rfl) dX7_init_5 (fun q4 H hP hD hS => ?_)
  have hP : va_P D vwCl [(h0, .inr (5, [.null, .null, .int 0, .int 0, .int 0])), (q4, .inr (4, [.int 0, .null, .null, .null, .int 0]))] H := hP
  have hD : va_D A [(h0, .inr (5, [.null, .null, .int 0, .int 0, .int 0])), (q4, .inr (4, [.int 0, .null, .null, .null, .int 0]))] := hD
  refine lv_dup hx hb dX7_init_8 rfl ?_
  refine lv_bipush (v := 64) hx hb dX7_init_9 (by decide) ?_
  refine z_ctor (M := mX6_init) (n := 1) (ws := [(h0, .inr (5, [.null, .null, .int 0, .int 0, .int 0]))]) (As := [.int 64]) (rest := [.ref q4, .ref h0]) B (ci_X6_64 D cI cZ cS q4) (zw4 zx_83 zx_81 zx_82 zw_51) rfl rfl (by decide +kernel) ⟨(Nat.le_of_ble_eq_true rfl), (Nat.le_of_ble_eq_true rfl)⟩ rfl hl.1 (Nat.le_of_ble_eq_true rfl) hP hD hS hA ⟨(Nat.le_of_ble_eq_true rfl), (Nat.le_of_ble_eq_true rfl)⟩ dX7_init_11 (fun u7 H locs hP hD hS => ?_)
  have hP : va_P D vwCl [(h0, .inr (5, [.null, .null, .int 0, .int 0, .int 0])), (q4, .inr (4, [.int 64, .ref (u7 1), .ref (u7 2), .ref (u7 3), .int 0])), (u7 1, .inl (cI, 1152, .inl (fun _ => 0))), (u7 2, .inl (cI, 64, .inl (fun _ => 0))), (u7 3, .inl (cI, 64, .inl (fun _ => 0)))] H := hP
  have hD : va_D A [(h0, .inr (5, [.null, .null, .int 0, .int 0, .int 0])), (q4, .inr (4, [.int 64, .ref (u7 1), .ref (u7 2), .ref (u7 3), .int 0])), (u7 1, .inl (cI, 1152, .inl (fun _ => 0))), (u7 2, .inl (cI, 64, .inl (fun _ => 0))), (u7 3, .inl (cI, 64, .inl (fun _ => 0)))] := hD
  refine va_putF (D := D) (ci := 5) (v := .ref q4) (ty := .object "BlockExchange$Shelf") (C := RX7) (T := TX7) (N := 5) hx hb hts in_X7 tyX7 tyX7_ok nmX7 hown hK hP hD hS 0 rfl rfl 0 (by decide) (hts _ zw_119) (fun _ h9 => h9) rfl hin rfl (by decide +kernel) (by first | rfl | decide +kernel) rfl (Nat.le_of_ble_eq_true rfl) dX7_init_14 (fun H locs hP hD hS => ?_)
  have hP : va_P D vwCl [(h0, .inr (5, [.ref q4, .null, .int 0, .int 0, .int 0])), (q4, .inr (4, [.int 64, .ref (u7 1), .ref (u7 2), .ref (u7 3), .int 0])), (u7 1, .inl (cI, 1152, .inl (fun _ => 0))), (u7 2, .inl (cI, 64, .inl (fun _ => 0))), (u7 3, .inl (cI, 64, .inl (fun _ => 0)))] H := hP
  have hD : va_D A [(h0, .inr (5, [.ref q4, .null, .int 0, .int 0, .int 0])), (q4, .inr (4, [.int 64, .ref (u7 1), .ref (u7 2), .ref (u7 3), .int 0])), (u7 1, .inl (cI, 1152, .inl (fun _ => 0))), (u7 2, .inl (cI, 64, .inl (fun _ => 0))), (u7 3, .inl (cI, 64, .inl (fun _ => 0)))] := hD
  refine lv_aload_n hx hb dX7_init_17 rfl (lv_at hl 0 rfl) ?_
  refine va_new (ci := 3) (fs := [.null, .null, .int 0]) (C := RX5) (T := TX5) (N := 3) hx hb hts in_X5 tyX5 tyX5_ok hown (hts _ zx_102) (hts _ zx_103) (hts _ zw_52) hK hP hD hS hA rfl (fun j hj => by rcases (show j = 0 ∨ j = 1 ∨ j = 2 by omega) with rfl | rfl | rfl <;> rfl) (Nat.le_of_ble_eq_true rfl) (Nat.le_of_ble_eq_true rfl) dX7_init_18 (fun q10 H hP hD hS => ?_)
  have hP : va_P D vwCl [(h0, .inr (5, [.ref q4, .null, .int 0, .int 0, .int 0])), (q4, .inr (4, [.int 64, .ref (u7 1), .ref (u7 2), .ref (u7 3), .int 0])), (u7 1, .inl (cI, 1152, .inl (fun _ => 0))), (u7 2, .inl (cI, 64, .inl (fun _ => 0))), (u7 3, .inl (cI, 64, .inl (fun _ => 0))), (q10, .inr (3, [.null, .null, .int 0]))] H := hP
  have hD : va_D A [(h0, .inr (5, [.ref q4, .null, .int 0, .int 0, .int 0])), (q4, .inr (4, [.int 64, .ref (u7 1), .ref (u7 2), .ref (u7 3), .int 0])), (u7 1, .inl (cI, 1152, .inl (fun _ => 0))), (u7 2, .inl (cI, 64, .inl (fun _ => 0))), (u7 3, .inl (cI, 64, .inl (fun _ => 0))), (q10, .inr (3, [.null, .null, .int 0]))] := hD
  refine lv_dup hx hb dX7_init_21 rfl ?_
  refine z_ctor (M := mX5_init) (n := 0) (ws := [(h0, .inr (5, [.ref q4, .null, .int 0, .int 0, .int 0])), (q4, .inr (4, [.int 64, .ref (u7 1), .ref (u7 2), .ref (u7 3), .int 0])), (u7 1, .inl (cI, 1152, .inl (fun _ => 0))), (u7 2, .inl (cI, 64, .inl (fun _ => 0))), (u7 3, .inl (cI, 64, .inl (fun _ => 0)))]) (As := []) (rest := [.ref q10, .ref h0]) B (ci_X5 D cI cZ cS q10) (zw4 zx_106 zx_104 zx_105 zw_52) rfl rfl (by decide +kernel) ⟨(Nat.le_of_ble_eq_true rfl), (Nat.le_of_ble_eq_true rfl)⟩ rfl hl.1 (Nat.le_of_ble_eq_true rfl) hP hD hS hA ⟨(Nat.le_of_ble_eq_true rfl), (Nat.le_of_ble_eq_true rfl)⟩ dX7_init_22 (fun u12 H locs hP hD hS => ?_)
  have hP : va_P D vwCl [(h0, .inr (5, [.ref q4, .null, .int 0, .int 0, .int 0])), (q4, .inr (4, [.int 64, .ref (u7 1), .ref (u7 2), .ref (u7 3), .int 0])), (u7 1, .inl (cI, 1152, .inl (fun _ => 0))), (u7 2, .inl (cI, 64, .inl (fun _ => 0))), (u7 3, .inl (cI, 64, .inl (fun _ => 0))), (q10, .inr (3, [.ref (u12 1), .ref (u12 2), .int 0])), (u12 1, .inl (cI, 8, .inl (fun _ => 0))), (u12 2, .inl (cZ, 8, .inl (fun _ => 0)))] H := hP
  have hD : va_D A [(h0, .inr (5, [.ref q4, .null, .int 0, .int 0, .int 0])), (q4, .inr (4, [.int 64, .ref (u7 1), .ref (u7 2), .ref (u7 3), .int 0])), (u7 1, .inl (cI, 1152, .inl (fun _ => 0))), (u7 2, .inl (cI, 64, .inl (fun _ => 0))), (u7 3, .inl (cI, 64, .inl (fun _ => 0))), (q10, .inr (3, [.ref (u12 1), .ref (u12 2), .int 0])), (u12 1, .inl (cI, 8, .inl (fun _ => 0))), (u12 2, .inl (cZ, 8, .inl (fun _ => 0)))] := hD
  refine va_putF (D := D) (ci := 5) (v := .ref q10) (ty := .object "BlockExchange$Pins") (C := RX7) (T := TX7) (N := 5) hx hb hts in_X7 tyX7 tyX7_ok nmX7 hown hK hP hD hS 0 rfl rfl 1 (by decide) (hts _ zw_120) (fun _ h9 => h9) rfl hin rfl (by decide +kernel) (by first | rfl | decide +kernel) rfl (Nat.le_of_ble_eq_true rfl) dX7_init_25 (fun H locs hP hD hS => ?_)
  have hP : va_P D vwCl [(h0, .inr (5, [.ref q4, .ref q10, .int 0, .int 0, .int 0])), (q4, .inr (4, [.int 64, .ref (u7 1), .ref (u7 2), .ref (u7 3), .int 0])), (u7 1, .inl (cI, 1152, .inl (fun _ => 0))), (u7 2, .inl (cI, 64, .inl (fun _ => 0))), (u7 3, .inl (cI, 64, .inl (fun _ => 0))), (q10, .inr (3, [.ref (u12 1), .ref (u12 2), .int 0])), (u12 1, .inl (cI, 8, .inl (fun _ => 0))), (u12 2, .inl (cZ, 8, .inl (fun _ => 0)))] H := hP
  have hD : va_D A [(h0, .inr (5, [.ref q4, .ref q10, .int 0, .int 0, .int 0])), (q4, .inr (4, [.int 64, .ref (u7 1), .ref (u7 2), .ref (u7 3), .int 0])), (u7 1, .inl (cI, 1152, .inl (fun _ => 0))), (u7 2, .inl (cI, 64, .inl (fun _ => 0))), (u7 3, .inl (cI, 64, .inl (fun _ => 0))), (q10, .inr (3, [.ref (u12 1), .ref (u12 2), .int 0])), (u12 1, .inl (cI, 8, .inl (fun _ => 0))), (u12 2, .inl (cZ, 8, .inl (fun _ => 0)))] := hD
  refine lv_aload_n hx hb dX7_init_28 rfl (lv_at hl 0 rfl) ?_
  refine lv_iconst (v := 0) hx hb dX7_init_29 (by decide) ?_
  refine va_put (D := D) (ci := 5) (v := .int 0) (ty := .int) (C := RX7) (T := TX7) (N := 5) hx hb hts in_X7 tyX7 tyX7_ok nmX7 hown hK hP hD hS 0 rfl rfl 2 (by decide) (hts _ zw_121) (fun _ h9 => h9) rfl (by decide +kernel) (by first | rfl | decide +kernel) rfl (Nat.le_of_ble_eq_true rfl) dX7_init_30 (fun H locs hP hD hS => ?_)
  have hP : va_P D vwCl [(h0, .inr (5, [.ref q4, .ref q10, .int 0, .int 0, .int 0])), (q4, .inr (4, [.int 64, .ref (u7 1), .ref (u7 2), .ref (u7 3), .int 0])), (u7 1, .inl (cI, 1152, .inl (fun _ => 0))), (u7 2, .inl (cI, 64, .inl (fun _ => 0))), (u7 3, .inl (cI, 64, .inl (fun _ => 0))), (q10, .inr (3, [.ref (u12 1), .ref (u12 2), .int 0])), (u12 1, .inl (cI, 8, .inl (fun _ => 0))), (u12 2, .inl (cZ, 8, .inl (fun _ => 0)))] H := hP
  have hD : va_D A [(h0, .inr (5, [.ref q4, .ref q10, .int 0, .int 0, .int 0])), (q4, .inr (4, [.int 64, .ref (u7 1), .ref (u7 2), .ref (u7 3), .int 0])), (u7 1, .inl (cI, 1152, .inl (fun _ => 0))), (u7 2, .inl (cI, 64, .inl (fun _ => 0))), (u7 3, .inl (cI, 64, .inl (fun _ => 0))), (q10, .inr (3, [.ref (u12 1), .ref (u12 2), .int 0])), (u12 1, .inl (cI, 8, .inl (fun _ => 0))), (u12 2, .inl (cZ, 8, .inl (fun _ => 0)))] := hD
  refine lv_aload_n hx hb dX7_init_33 rfl (lv_at hl 0 rfl) ?_
  refine lv_iconst (v := 0) hx hb dX7_init_34 (by decide) ?_
  refine va_put (D := D) (ci := 5) (v := .int 0) (ty := .int) (C := RX7) (T := TX7) (N := 5) hx hb hts in_X7 tyX7 tyX7_ok nmX7 hown hK hP hD hS 0 rfl rfl 3 (by decide) (hts _ zw_122) (fun _ h9 => h9) rfl (by decide +kernel) (by first | rfl | decide +kernel) rfl (Nat.le_of_ble_eq_true rfl) dX7_init_35 (fun H locs hP hD hS => ?_)
  have hP : va_P D vwCl [(h0, .inr (5, [.ref q4, .ref q10, .int 0, .int 0, .int 0])), (q4, .inr (4, [.int 64, .ref (u7 1), .ref (u7 2), .ref (u7 3), .int 0])), (u7 1, .inl (cI, 1152, .inl (fun _ => 0))), (u7 2, .inl (cI, 64, .inl (fun _ => 0))), (u7 3, .inl (cI, 64, .inl (fun _ => 0))), (q10, .inr (3, [.ref (u12 1), .ref (u12 2), .int 0])), (u12 1, .inl (cI, 8, .inl (fun _ => 0))), (u12 2, .inl (cZ, 8, .inl (fun _ => 0)))] H := hP
  have hD : va_D A [(h0, .inr (5, [.ref q4, .ref q10, .int 0, .int 0, .int 0])), (q4, .inr (4, [.int 64, .ref (u7 1), .ref (u7 2), .ref (u7 3), .int 0])), (u7 1, .inl (cI, 1152, .inl (fun _ => 0))), (u7 2, .inl (cI, 64, .inl (fun _ => 0))), (u7 3, .inl (cI, 64, .inl (fun _ => 0))), (q10, .inr (3, [.ref (u12 1), .ref (u12 2), .int 0])), (u12 1, .inl (cI, 8, .inl (fun _ => 0))), (u12 2, .inl (cZ, 8, .inl (fun _ => 0)))] := hD
  refine lv_aload_n hx hb dX7_init_38 rfl (lv_at hl 0 rfl) ?_
  refine lv_iconst (v := 0) hx hb dX7_init_39 (by decide) ?_
  refine va_put (D := D) (ci := 5) (v := .int 0) (ty := .int) (C := RX7) (T := TX7) (N := 5) hx hb hts in_X7 tyX7 tyX7_ok nmX7 hown hK hP hD hS 0 rfl rfl 4 (by decide) (hts _ zw_123) (fun _ h9 => h9) rfl (by decide +kernel) (by first | rfl | decide +kernel) rfl (Nat.le_of_ble_eq_true rfl) dX7_init_40 (fun H locs hP hD hS => ?_)
  have hP : va_P D vwCl [(h0, .inr (5, [.ref q4, .ref q10, .int 0, .int 0, .int 0])), (q4, .inr (4, [.int 64, .ref (u7 1), .ref (u7 2), .ref (u7 3), .int 0])), (u7 1, .inl (cI, 1152, .inl (fun _ => 0))), (u7 2, .inl (cI, 64, .inl (fun _ => 0))), (u7 3, .inl (cI, 64, .inl (fun _ => 0))), (q10, .inr (3, [.ref (u12 1), .ref (u12 2), .int 0])), (u12 1, .inl (cI, 8, .inl (fun _ => 0))), (u12 2, .inl (cZ, 8, .inl (fun _ => 0)))] H := hP
  have hD : va_D A [(h0, .inr (5, [.ref q4, .ref q10, .int 0, .int 0, .int 0])), (q4, .inr (4, [.int 64, .ref (u7 1), .ref (u7 2), .ref (u7 3), .int 0])), (u7 1, .inl (cI, 1152, .inl (fun _ => 0))), (u7 2, .inl (cI, 64, .inl (fun _ => 0))), (u7 3, .inl (cI, 64, .inl (fun _ => 0))), (q10, .inr (3, [.ref (u12 1), .ref (u12 2), .int 0])), (u12 1, .inl (cI, 8, .inl (fun _ => 0))), (u12 2, .inl (cZ, 8, .inl (fun _ => 0)))] := hD
  exact z_vret (wf := wX7 cI cZ cS h0) B hr hlk (fun i => ([h0, q4, (u7 1), (u7 2), (u7 3), q10, (u12 1), (u12 2)] : List Nat).getD i 0) hP hD hS (Nat.le_of_ble_eq_true rfl) (Nat.le_of_ble_eq_true rfl) dX7_init_43
