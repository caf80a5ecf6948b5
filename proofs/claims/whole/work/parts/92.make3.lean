/-! MAKING -/
abbrev mX6_init : zMd := (yX6_init, cX6_init, 2, none)
theorem dX6_init_0 : decode cX6_init 0 = .ok (.aload_n 0, 1) := by decide +kernel
theorem dX6_init_1 : decode cX6_init 1 = .ok (.invokespecial 3, 3) := by decide +kernel
theorem dX6_init_4 : decode cX6_init 4 = .ok (.aload_n 0, 1) := by decide +kernel
theorem dX6_init_5 : decode cX6_init 5 = .ok (.iload_n 1, 1) := by decide +kernel
theorem dX6_init_6 : decode cX6_init 6 = .ok (.putfield 9, 3) := by decide +kernel
theorem dX6_init_9 : decode cX6_init 9 = .ok (.aload_n 0, 1) := by decide +kernel
theorem dX6_init_10 : decode cX6_init 10 = .ok (.iload_n 1, 1) := by decide +kernel
theorem dX6_init_11 : decode cX6_init 11 = .ok (.bipush 18, 2) := by decide +kernel
theorem dX6_init_13 : decode cX6_init 13 = .ok (.imul, 1) := by decide +kernel
theorem dX6_init_14 : decode cX6_init 14 = .ok (.newarray .int, 2) := by decide +kernel
theorem dX6_init_16 : decode cX6_init 16 = .ok (.putfield 17, 3) := by decide +kernel
theorem dX6_init_19 : decode cX6_init 19 = .ok (.aload_n 0, 1) := by decide +kernel
theorem dX6_init_20 : decode cX6_init 20 = .ok (.iload_n 1, 1) := by decide +kernel
theorem dX6_init_21 : decode cX6_init 21 = .ok (.newarray .int, 2) := by decide +kernel
theorem dX6_init_23 : decode cX6_init 23 = .ok (.putfield 21, 3) := by decide +kernel
theorem dX6_init_26 : decode cX6_init 26 = .ok (.aload_n 0, 1) := by decide +kernel
theorem dX6_init_27 : decode cX6_init 27 = .ok (.iload_n 1, 1) := by decide +kernel
theorem dX6_init_28 : decode cX6_init 28 = .ok (.newarray .int, 2) := by decide +kernel
theorem dX6_init_30 : decode cX6_init 30 = .ok (.putfield 24, 3) := by decide +kernel
theorem dX6_init_33 : decode cX6_init 33 = .ok (.aload_n 0, 1) := by decide +kernel
theorem dX6_init_34 : decode cX6_init 34 = .ok (.iconst 0, 1) := by decide +kernel
theorem dX6_init_35 : decode cX6_init 35 = .ok (.putfield 27, 3) := by decide +kernel
theorem dX6_init_38 : decode cX6_init 38 = .ok (.return_, 1) := by decide +kernel
abbrev wX6_64 (cI cZ cS : ClassId) (h0 : Nat) (u : Nat → Nat) : va_W := [(h0, .inr (4, [.int 64, .ref (u 1), .ref (u 2), .ref (u 3), .int 0])), (u 1, .inl (cI, 1152, .inl (fun _ => 0))), (u 2, .inl (cI, 64, .inl (fun _ => 0))), (u 3, .inl (cI, 64, .inl (fun _ => 0)))]
set_option maxRecDepth 100000 in
set_option maxHeartbeats 4000000 in
theorem ci_X6_64 (D : va_G) (cI cZ cS : ClassId) (h0 : Nat) : zCi 1 mX6_init D cI cZ cS h0 (.inr (4, [.int 0, .null, .null, .null, .int 0])) [.int 64] (wX6_64 cI cZ cS h0) 3 1280 := by
  refine zCi.mk (by decide) (Nat.le_of_ble_eq_true rfl) rfl ?_
  intro p l e s m args below meth c A ls B hr hlk hin hA hD hP hl
  obtain ⟨hx, hb, hml, hown, hts, hK, hAO⟩ := id B
  have hl : lv_has ls 2 [(0, .ref h0), (1, .int 64)] := hl
  have hS : va_S A s.heap s.heap [] := va_S.rf
  refine lv_aload_n hx hb dX6_init_0 rfl (lv_at hl 0 rfl) ?_
  refine z_obj B zx_84 zx_70 zx_71 hl.1 ⟨(Nat.le_of_ble_eq_true rfl), (Nat.le_of_ble_eq_true rfl)⟩ dX6_init_1 ?_
  refine lv_aload_n hx hb dX6_init_4 rfl (lv_at hl 0 rfl) ?_
  refine lv_iload_n hx hb dX6_init_5 rfl (lv_at hl 1 rfl) ?_
  refine va_putF (D := D) (ci := 4) (v := .int 64) (ty := .int) (C := RX6) (T := TX6) (N := 5) hx hb hts in_X6 tyX6 tyX6_ok nmX6 hown hK hP hD hS 0 rfl rfl 0 (by decide) (hts _ zw_85) (fun _ h9 => h9) rfl hin rfl (by decide +kernel) (by first | rfl | decide +kernel) rfl (Nat.le_of_ble_eq_true rfl) dX6_init_6 (fun H locs hP hD hS => ?_)
  have hP : va_P D vwCl [(h0, .inr (4, [.int 64, .null, .null, .null, .int 0]))] H := hP
  have hD : va_D A [(h0, .inr (4, [.int 64, .null, .null, .null, .int 0]))] := hD
  refine lv_aload_n hx hb dX6_init_9 rfl (lv_at hl 0 rfl) ?_
  refine lv_iload_n hx hb dX6_init_10 rfl (lv_at hl 1 rfl) ?_
  refine lv_bipush (v := 18) hx hb dX6_init_11 (by decide) ?_
  refine lv_imul hx hb dX6_init_13 ?_
  refine z_newi (N := 1152) B hP hD hS hA (by decide) (by decide) (by decide) (Nat.le_of_ble_eq_true rfl) (Nat.le_of_ble_eq_true rfl) dX6_init_14 (fun q10 H hP hD hS => ?_)
  have hP : va_P D vwCl [(h0, .inr (4, [.int 64, .null, .null, .null, .int 0])), (q10, .inl (cI, 1152, .inl (fun _ => 0)))] H := hP
  have hD : va_D A [(h0, .inr (4, [.int 64, .null, .null, .null, .int 0])), (q10, .inl (cI, 1152, .inl (fun _ => 0)))] := hD
  refine va_putF (D := D) (ci := 4) (v := .ref q10) (ty := .array .int) (C := RX6) (T := TX6) (N := 5) hx hb hts in_X6 tyX6 tyX6_ok nmX6 hown hK hP hD hS 0 rfl rfl 1 (by decide) (hts _ zw_86) (fun _ h9 => h9) rfl hin rfl (by decide +kernel) (by first | rfl | decide +kernel) rfl (Nat.le_of_ble_eq_true rfl) dX6_init_16 (fun H locs hP hD hS => ?_)
  have hP : va_P D vwCl [(h0, .inr (4, [.int 64, .ref q10, .null, .null, .int 0])), (q10, .inl (cI, 1152, .inl (fun _ => 0)))] H := hP
  have hD : va_D A [(h0, .inr (4, [.int 64, .ref q10, .null, .null, .int 0])), (q10, .inl (cI, 1152, .inl (fun _ => 0)))] := hD
  refine lv_aload_n hx hb dX6_init_19 rfl (lv_at hl 0 rfl) ?_
  refine lv_iload_n hx hb dX6_init_20 rfl (lv_at hl 1 rfl) ?_
  refine z_newi (N := 64) B hP hD hS hA (by decide) (by decide) (by decide) (Nat.le_of_ble_eq_true rfl) (Nat.le_of_ble_eq_true rfl) dX6_init_21 (fun q14 H hP hD hS => ?_)
  have hP : va_P D vwCl [(h0, .inr (4, [.int 64, .ref q10, .null, .null, .int 0])), (q10, .inl (cI, 1152, .inl (fun _ => 0))), (q14, .inl (cI, 64, .inl (fun _ => 0)))] H := hP
  have hD : va_D A [(h0, .inr (4, [.int 64, .ref q10, .null, .null, .int 0])), (q10, .inl (cI, 1152, .inl (fun _ => 0))), (q14, .inl (cI, 64, .inl (fun _ => 0)))] := hD
  refine va_putF (D := D) (ci := 4) (v := .ref q14) (ty := .array .int) (C := RX6) (T := TX6) (N := 5) hx hb hts in_X6 tyX6 tyX6_ok nmX6 hown hK hP hD hS 0 rfl rfl 2 (by decide) (hts _ zw_87) (fun _ h9 => h9) rfl hin rfl (by decide +kernel) (by first | rfl | decide +kernel) rfl (Nat.le_of_ble_eq_true rfl) dX6_init_23 (fun H locs hP hD hS => ?_)
  have hP : va_P D vwCl [(h0, .inr (4, [.int 64, .ref q10, .ref q14, .null, .int 0])), (q10, .inl (cI, 1152, .inl (fun _ => 0))), (q14, .inl (cI, 64, .inl (fun _ => 0)))] H := hP
  have hD : va_D A [(h0, .inr (4, [.int 64, .ref q10, .ref q14, .null, .int 0])), (q10, .inl (cI, 1152, .inl (fun _ => 0))), (q14, .inl (cI, 64, .inl (fun _ => 0)))] := hD
  refine lv_aload_n hx hb dX6_init_26 rfl (lv_at hl 0 rfl) ?_
  refine lv_iload_n hx hb dX6_init_27 rfl (lv_at hl 1 rfl) ?_
  refine z_newi (N := 64) B hP hD hS hA (by decide) (by decide) (by decide) (Nat.le_of_ble_eq_true rfl) (Nat.le_of_ble_eq_true rfl) dX6_init_28 (fun q18 H hP hD hS => ?_)
  have hP : va_P D vwCl [(h0, .inr (4, [.int 64, .ref q10, .ref q14, .null, .int 0])), (q10, .inl (cI, 1152, .inl (fun _ => 0))), (q14, .inl (cI, 64, .inl (fun _ => 0))), (q18, .inl (cI, 64, .inl (fun _ => 0)))] H := hP
  have hD : va_D A [(h0, .inr (4, [.int 64, .ref q10, .ref q14, .null, .int 0])), (q10, .inl (cI, 1152, .inl (fun _ => 0))), (q14, .inl (cI, 64, .inl (fun _ => 0))), (q18, .inl (cI, 64, .inl (fun _ => 0)))] := hD
  refine va_putF (D := D) (ci := 4) (v := .ref q18) (ty := .array .int) (C := RX6) (T := TX6) (N := 5) hx hb hts in_X6 tyX6 tyX6_ok nmX6 hown hK hP hD hS 0 rfl rfl 3 (by decide) (hts _ zw_88) (fun _ h9 => h9) rfl hin rfl (by decide +kernel) (by first | rfl | decide +kernel) rfl (Nat.le_of_ble_eq_true rfl) dX6_init_30 (fun H locs hP hD hS => ?_)
  have hP : va_P D vwCl [(h0, .inr (4, [.int 64, .ref q10, .ref q14, .ref q18, .int 0])), (q10, .inl (cI, 1152, .inl (fun _ => 0))), (q14, .inl (cI, 64, .inl (fun _ => 0))), (q18, .inl (cI, 64, .inl (fun _ => 0)))] H := hP
  have hD : va_D A [(h0, .inr (4, [.int 64, .ref q10, .ref q14, .ref q18, .int 0])), (q10, .inl (cI, 1152, .inl (fun _ => 0))), (q14, .inl (cI, 64, .inl (fun _ => 0))), (q18, .inl (cI, 64, .inl (fun _ => 0)))] := hD
  refine lv_aload_n hx hb dX6_init_33 rfl (lv_at hl 0 rfl) ?_
  refine lv_iconst (v := 0) hx hb dX6_init_34 (by decide) ?_
  refine va_put (D := D) (ci := 4) (v := .int 0) (ty := .int) (C := RX6) (T := TX6) (N := 5) hx hb hts in_X6 tyX6 tyX6_ok nmX6 hown hK hP hD hS 0 rfl rfl 4 (by decide) (hts _ zw_89) (fun _ h9 => h9) rfl (by decide +kernel) (by first | rfl | decide +kernel) rfl (Nat.le_of_ble_eq_true rfl) dX6_init_35 (fun H locs hP hD hS => ?_)
  have hP : va_P D vwCl [(h0, .inr (4, [.int 64, .ref q10, .ref q14, .ref q18, .int 0])), (q10, .inl (cI, 1152, .inl (fun _ => 0))), (q14, .inl (cI, 64, .inl (fun _ => 0))), (q18, .inl (cI, 64, .inl (fun _ => 0)))] H := hP
  have hD : va_D A [(h0, .inr (4, [.int 64, .ref q10, .ref q14, .ref q18, .int 0])), (q10, .inl (cI, 1152, .inl (fun _ => 0))), (q14, .inl (cI, 64, .inl (fun _ => 0))), (q18, .inl (cI, 64, .inl (fun _ => 0)))] := hD
  exact z_vret (wf := wX6_64 cI cZ cS h0) B hr hlk (fun i => ([h0, q10, q14, q18] : List Nat).getD i 0) hP hD hS (Nat.le_of_ble_eq_true rfl) (Nat.le_of_ble_eq_true rfl) dX6_init_38
abbrev wX6_24 (cI cZ cS : ClassId) (h0 : Nat) (u : Nat → Nat) : va_W := [(h0, .inr (4, [.int 24, .ref (u 1), .ref (u 2), .ref (u 3), .int 0])), (u 1, .inl (cI, 432, .inl (fun _ => 0))), (u 2, .inl (cI, 24, .inl (fun _ => 0))), (u 3, .inl (cI, 24, .inl (fun _ => 0)))]
set_option maxRecDepth 100000 in
set_option maxHeartbeats 4000000 in
theorem ci_X6_24 (D : va_G) (cI cZ cS : ClassId) (h0 : Nat) : zCi 1 mX6_init D cI cZ cS h0 (.inr (4, [.int 0, .null, .null, .null, .int 0])) [.int 24] (wX6_24 cI cZ cS h0) 3 480 := by
  refine zCi.mk (by decide) (Nat.le_of_ble_eq_true rfl) rfl ?_
  intro p l e s m args below meth c A ls B hr hlk hin hA hD hP hl
  obtain ⟨hx, hb, hml, hown, hts, hK, hAO⟩ := id B
  have hl : lv_has ls 2 [(0, .ref h0), (1, .int 24)] := hl
  have hS : va_S A s.heap s.heap [] := va_S.rf
  refine lv_aload_n hx hb dX6_init_0 rfl (lv_at hl 0 rfl) ?_
  refine z_obj B zx_84 zx_70 zx_71 hl.1 ⟨(Nat.le_of_ble_eq_true rfl), (Nat.le_of_ble_eq_true rfl)⟩ dX6_init_1 ?_
  refine lv_aload_n hx hb dX6_init_4 rfl (lv_at hl 0 rfl) ?_
  refine lv_iload_n hx hb dX6_init_5 rfl (lv_at hl 1 rfl) ?_
  refine va_putF (D := D) (ci := 4) (v := .int 24) (ty := .int) (C := RX6) (T := TX6) (N := 5) hx hb hts in_X6 tyX6 tyX6_ok nmX6 hown hK hP hD hS 0 rfl rfl 0 (by decide) (hts _ zw_85) (fun _ h9 => h9) rfl hin rfl (by decide +kernel) (by first | rfl | decide +kernel) rfl (Nat.le_of_ble_eq_true rfl) dX6_init_6 (fun H locs hP hD hS => ?_)
  have hP : va_P D vwCl [(h0, .inr (4, [.int 24, .null, .null, .null, .int 0]))] H := hP
  have hD : va_D A [(h0, .inr (4, [.int 24, .null, .null, .null, .int 0]))] := hD
  refine lv_aload_n hx hb dX6_init_9 rfl (lv_at hl 0 rfl) ?_
  refine lv_iload_n hx hb dX6_init_10 rfl (lv_at hl 1 rfl) ?_
  refine lv_bipush (v := 18) hx hb dX6_init_11 (by decide) ?_
  refine lv_imul hx hb dX6_init_13 ?_
  refine z_newi (N := 432) B hP hD hS hA (by decide) (by decide) (by decide) (Nat.le_of_ble_eq_true rfl) (Nat.le_of_ble_eq_true rfl) dX6_init_14 (fun q10 H hP hD hS => ?_)
  have hP : va_P D vwCl [(h0, .inr (4, [.int 24, .null, .null, .null, .int 0])), (q10, .inl (cI, 432, .inl (fun _ => 0)))] H := hP
  have hD : va_D A [(h0, .inr (4, [.int 24, .null, .null, .null, .int 0])), (q10, .inl (cI, 432, .inl (fun _ => 0)))] := hD
  refine va_putF (D := D) (ci := 4) (v := .ref q10) (ty := .array .int) (C := RX6) (T := TX6) (N := 5) hx hb hts in_X6 tyX6 tyX6_ok nmX6 hown hK hP hD hS 0 rfl rfl 1 (by decide) (hts _ zw_86) (fun _ h9 => h9) rfl hin rfl (by decide +kernel) (by first | rfl | decide +kernel) rfl (Nat.le_of_ble_eq_true rfl) dX6_init_16 (fun H locs hP hD hS => ?_)
  have hP : va_P D vwCl [(h0, .inr (4, [.int 24, .ref q10, .null, .null, .int 0])), (q10, .inl (cI, 432, .inl (fun _ => 0)))] H := hP
  have hD : va_D A [(h0, .inr (4, [.int 24, .ref q10, .null, .null, .int 0])), (q10, .inl (cI, 432, .inl (fun _ => 0)))] := hD
  refine lv_aload_n hx hb dX6_init_19 rfl (lv_at hl 0 rfl) ?_
  refine lv_iload_n hx hb dX6_init_20 rfl (lv_at hl 1 rfl) ?_
  refine z_newi (N := 24) B hP hD hS hA (by decide) (by decide) (by decide) (Nat.le_of_ble_eq_true rfl) (Nat.le_of_ble_eq_true rfl) dX6_init_21 (fun q14 H hP hD hS => ?_)
  have hP : va_P D vwCl [(h0, .inr (4, [.int 24, .ref q10, .null, .null, .int 0])), (q10, .inl (cI, 432, .inl (fun _ => 0))), (q14, .inl (cI, 24, .inl (fun _ => 0)))] H := hP
  have hD : va_D A [(h0, .inr (4, [.int 24, .ref q10, .null, .null, .int 0])), (q10, .inl (cI, 432, .inl (fun _ => 0))), (q14, .inl (cI, 24, .inl (fun _ => 0)))] := hD
  refine va_putF (D := D) (ci := 4) (v := .ref q14) (ty := .array .int) (C := RX6) (T := TX6) (N := 5) hx hb hts in_X6 tyX6 tyX6_ok nmX6 hown hK hP hD hS 0 rfl rfl 2 (by decide) (hts _ zw_87) (fun _ h9 => h9) rfl hin rfl (by decide +kernel) (by first | rfl | decide +kernel) rfl (Nat.le_of_ble_eq_true rfl) dX6_init_23 (fun H locs hP hD hS => ?_)
  have hP : va_P D vwCl [(h0, .inr (4, [.int 24, .ref q10, .ref q14, .null, .int 0])), (q10, .inl (cI, 432, .inl (fun _ => 0))), (q14, .inl (cI, 24, .inl (fun _ => 0)))] H := hP
  have hD : va_D A [(h0, .inr (4, [.int 24, .ref q10, .ref q14, .null, .int 0])), (q10, .inl (cI, 432, .inl (fun _ => 0))), (q14, .inl (cI, 24, .inl (fun _ => 0)))] := hD
  refine lv_aload_n hx hb dX6_init_26 rfl (lv_at hl 0 rfl) ?_
  refine lv_iload_n hx hb dX6_init_27 rfl (lv_at hl 1 rfl) ?_
  refine z_newi (N := 24) B hP hD hS hA (by decide) (by decide) (by decide) (Nat.le_of_ble_eq_true rfl) (Nat.le_of_ble_eq_true rfl) dX6_init_28 (fun q18 H hP hD hS => ?_)
  have hP : va_P D vwCl [(h0, .inr (4, [.int 24, .ref q10, .ref q14, .null, .int 0])), (q10, .inl (cI, 432, .inl (fun _ => 0))), (q14, .inl (cI, 24, .inl (fun _ => 0))), (q18, .inl (cI, 24, .inl (fun _ => 0)))] H := hP
  have hD : va_D A [(h0, .inr (4, [.int 24, .ref q10, .ref q14, .null, .int 0])), (q10, .inl (cI, 432, .inl (fun _ => 0))), (q14, .inl (cI, 24, .inl (fun _ => 0))), (q18, .inl (cI, 24, .inl (fun _ => 0)))] := hD
  refine va_putF (D := D) (ci := 4) (v := .ref q18) (ty := .array .int) (C := RX6) (T := TX6) (N := 5) hx hb hts in_X6 tyX6 tyX6_ok nmX6 hown hK hP hD hS 0 rfl rfl 3 (by decide) (hts _ zw_88) (fun _ h9 => h9) rfl hin rfl (by decide +kernel) (by first | rfl | decide +kernel) rfl (Nat.le_of_ble_eq_true rfl) dX6_init_30 (fun H locs hP hD hS => ?_)
  have hP : va_P D vwCl [(h0, .inr (4, [.int 24, .ref q10, .ref q14, .ref q18, .int 0])), (q10, .inl (cI, 432, .inl (fun _ => 0))), (q14, .inl (cI, 24, .inl (fun _ => 0))), (q18, .inl (cI, 24, .inl (fun _ => 0)))] H := hP
  have hD : va_D A [(h0, .inr (4, [.int 24, .ref q10, .ref q14, .ref q18, .int 0])), (q10, .inl (cI, 432, .inl (fun _ => 0))), (q14, .inl (cI, 24, .inl (fun _ => 0))), (q18, .inl (cI, 24, .inl (fun _ => 0)))] := hD
  refine lv_aload_n hx hb dX6_init_33 rfl (lv_at hl 0 rfl) ?_
  refine lv_iconst (v := 0) hx hb dX6_init_34 (by decide) ?_
  refine va_put (D := D) (ci := 4) (v := .int 0) (ty := .int) (C := RX6) (T := TX6) (N := 5) hx hb hts in_X6 tyX6 tyX6_ok nmX6 hown hK hP hD hS 0 rfl rfl 4 (by decide) (hts _ zw_89) (fun _ h9 => h9) rfl (by decide +kernel) (by first | rfl | decide +kernel) rfl (Nat.le_of_ble_eq_true rfl) dX6_init_35 (fun H locs hP hD hS => ?_)
  have hP : va_P D vwCl [(h0, .inr (4, [.int 24, .ref q10, .ref q14, .ref q18, .int 0])), (q10, .inl (cI, 432, .inl (fun _ => 0))), (q14, .inl (cI, 24, .inl (fun _ => 0))), (q18, .inl (cI, 24, .inl (fun _ => 0)))] H := hP
  have hD : va_D A [(h0, .inr (4, [.int 24, .ref q10, .ref q14, .ref q18, .int 0])), (q10, .inl (cI, 432, .inl (fun _ => 0))), (q14, .inl (cI, 24, .inl (fun _ => 0))), (q18, .inl (cI, 24, .inl (fun _ => 0)))] := hD
  exact z_vret (wf := wX6_24 cI cZ cS h0) B hr hlk (fun i => ([h0, q10, q14, q18] : List Nat).getD i 0) hP hD hS (Nat.le_of_ble_eq_true rfl) (Nat.le_of_ble_eq_true rfl) dX6_init_38
abbrev mX5_init : zMd := (yX5_init, cX5_init, 1, none)
theorem dX5_init_0 : decode cX5_init 0 = .ok (.aload_n 0, 1) := by decide +kernel
theorem dX5_init_1 : decode cX5_init 1 = .ok (.invokespecial 3, 3) := by decide +kernel
theorem dX5_init_4 : decode cX5_init 4 = .ok (.aload_n 0, 1) := by decide +kernel
theorem dX5_init_5 : decode cX5_init 5 = .ok (.bipush 8, 2) := by decide +kernel
theorem dX5_init_7 : decode cX5_init 7 = .ok (.newarray .int, 2) := by decide +kernel
theorem dX5_init_9 : decode cX5_init 9 = .ok (.putfield 11, 3) := by decide +kernel
theorem dX5_init_12 : decode cX5_init 12 = .ok (.aload_n 0, 1) := by decide +kernel
theorem dX5_init_13 : decode cX5_init 13 = .ok (.bipush 8, 2) := by decide +kernel
theorem dX5_init_15 : decode cX5_init 15 = .ok (.newarray .boolean, 2) := by decide +kernel
theorem dX5_init_17 : decode cX5_init 17 = .ok (.putfield 15, 3) := by decide +kernel
theorem dX5_init_20 : decode cX5_init 20 = .ok (.aload_n 0, 1) := by decide +kernel
theorem dX5_init_21 : decode cX5_init 21 = .ok (.iconst 0, 1) := by decide +kernel
theorem dX5_init_22 : decode cX5_init 22 = .ok (.putfield 19, 3) := by decide +kernel
theorem dX5_init_25 : decode cX5_init 25 = .ok (.return_, 1) := by decide +kernel
abbrev wX5 (cI cZ cS : ClassId) (h0 : Nat) (u : Nat → Nat) : va_W := [(h0, .inr (3, [.ref (u 1), .ref (u 2), .int 0])), (u 1, .inl (cI, 8, .inl (fun _ => 0))), (u 2, .inl (cZ, 8, .inl (fun _ => 0)))]
set_option maxRecDepth 100000 in
set_option maxHeartbeats 4000000 in
theorem ci_X5 (D : va_G) (cI cZ cS : ClassId) (h0 : Nat) : zCi 1 mX5_init D cI cZ cS h0 (.inr (3, [.null, .null, .int 0])) [] (wX5 cI cZ cS h0) 2 16 := by
  refine zCi.mk (by decide) (Nat.le_of_ble_eq_true rfl) rfl ?_
  intro p l e s m args below meth c A ls B hr hlk hin hA hD hP hl
  obtain ⟨hx, hb, hml, hown, hts, hK, hAO⟩ := id B
  have hl : lv_has ls 1 [(0, .ref h0)] := hl
  have hS : va_S A s.heap s.heap [] := va_S.rf
  refine lv_aload_n hx hb dX5_init_0 rfl (lv_at hl 0 rfl) ?_
  refine z_obj B zx_107 zx_70 zx_71 hl.1 ⟨(Nat.le_of_ble_eq_true rfl), (Nat.le_of_ble_eq_true rfl)⟩ dX5_init_1 ?_
  refine lv_aload_n hx hb dX5_init_4 rfl (lv_at hl 0 rfl) ?_
  refine lv_bipush (v := 8) hx hb dX5_init_5 (by decide) ?_
  refine z_newi (N := 8) B hP hD hS hA (by decide) (by decide) (by decide) (Nat.le_of_ble_eq_true rfl) (Nat.le_of_ble_eq_true rfl) dX5_init_7 (fun q5 H hP hD hS => ?_)
  have hP : va_P D vwCl [(h0, .inr (3, [.null, .null, .int 0])), (q5, .inl (cI, 8, .inl (fun _ => 0)))] H := hP
  have hD : va_D A [(h0, .inr (3, [.null, .null, .int 0])), (q5, .inl (cI, 8, .inl (fun _ => 0)))] := hD
  refine va_putF (D := D) (ci := 3) (v := .ref q5) (ty := .array .int) (C := RX5) (T := TX5) (N := 3) hx hb hts in_X5 tyX5 tyX5_ok nmX5 hown hK hP hD hS 0 rfl rfl 0 (by decide) (hts _ zw_108) (fun _ h9 => h9) rfl hin rfl (by decide +kernel) (by first | rfl | decide +kernel) rfl (Nat.le_of_ble_eq_true rfl) dX5_init_9 (fun H locs hP hD hS => ?_)
  have hP : va_P D vwCl [(h0, .inr (3, [.ref q5, .null, .int 0])), (q5, .inl (cI, 8, .inl (fun _ => 0)))] H := hP
  have hD : va_D A [(h0, .inr (3, [.ref q5, .null, .int 0])), (q5, .inl (cI, 8, .inl (fun _ => 0)))] := hD
  refine lv_aload_n hx hb dX5_init_12 rfl (lv_at hl 0 rfl) ?_
  refine lv_bipush (v := 8) hx hb dX5_init_13 (by decide) ?_
  refine z_newz (N := 8) B hP hD hS hA (by decide) (by decide) (by decide) (Nat.le_of_ble_eq_true rfl) (Nat.le_of_ble_eq_true rfl) dX5_init_15 (fun q9 H hP hD hS => ?_)
  have hP : va_P D vwCl [(h0, .inr (3, [.ref q5, .null, .int 0])), (q5, .inl (cI, 8, .inl (fun _ => 0))), (q9, .inl (cZ, 8, .inl (fun _ => 0)))] H := hP
  have hD : va_D A [(h0, .inr (3, [.ref q5, .null, .int 0])), (q5, .inl (cI, 8, .inl (fun _ => 0))), (q9, .inl (cZ, 8, .inl (fun _ => 0)))] := hD
  refine va_putF (D := D) (ci := 3) (v := .ref q9) (ty := .array .boolean) (C := RX5) (T := TX5) (N := 3) hx hb hts in_X5 tyX5 tyX5_ok nmX5 hown hK hP hD hS 0 rfl rfl 1 (by decide) (hts _ zw_109) (fun _ h9 => h9) rfl hin rfl (by decide +kernel) (by first | rfl | decide +kernel) rfl (Nat.le_of_ble_eq_true rfl) dX5_init_17 (fun H locs hP hD hS => ?_)
  have hP : va_P D vwCl [(h0, .inr (3, [.ref q5, .ref q9, .int 0])), (q5, .inl (cI, 8, .inl (fun _ => 0))), (q9, .inl (cZ, 8, .inl (fun _ => 0)))] H := hP
  have hD : va_D A [(h0, .inr (3, [.ref q5, .ref q9, .int 0])), (q5, .inl (cI, 8, .inl (fun _ => 0))), (q9, .inl (cZ, 8, .inl (fun _ => 0)))] := hD
  refine lv_aload_n hx hb dX5_init_20 rfl (lv_at hl 0 rfl) ?_
  refine lv_iconst (v := 0) hx hb dX5_init_21 (by decide) ?_
  refine va_put (D := D) (ci := 3) (v := .int 0) (ty := .int) (C := RX5) (T := TX5) (N := 3) hx hb hts in_X5 tyX5 tyX5_ok nmX5 hown hK hP hD hS 0 rfl rfl 2 (by decide) (hts _ zw_110) (fun _ h9 => h9) rfl (by decide +kernel) (by first | rfl | decide +kernel) rfl (Nat.le_of_ble_eq_true rfl) dX5_init_22 (fun H locs hP hD hS => ?_)
  have hP : va_P D vwCl [(h0, .inr (3, [.ref q5, .ref q9, .int 0])), (q5, .inl (cI, 8, .inl (fun _ => 0))), (q9, .inl (cZ, 8, .inl (fun _ => 0)))] H := hP
  have hD : va_D A [(h0, .inr (3, [.ref q5, .ref q9, .int 0])), (q5, .inl (cI, 8, .inl (fun _ => 0))), (q9, .inl (cZ, 8, .inl (fun _ => 0)))] := hD
  exact z_vret (wf := wX5 cI cZ cS h0) B hr hlk (fun i => ([h0, q5, q9] : List Nat).getD i 0) hP hD hS (Nat.le_of_ble_eq_true rfl) (Nat.le_of_ble_eq_true rfl) dX5_init_25
abbrev mX1_init : zMd := (yX1_init, cX1_init, 1, none)
theorem dX1_init_0 : decode cX1_init 0 = .ok (.aload_n 0, 1) := by decide +kernel
theorem dX1_init_1 : decode cX1_init 1 = .ok (.invokespecial 3, 3) := by decide +kernel
theorem dX1_init_4 : decode cX1_init 4 = .ok (.aload_n 0, 1) := by decide +kernel
theorem dX1_init_5 : decode cX1_init 5 = .ok (.bipush 32, 2) := by decide +kernel
theorem dX1_init_7 : decode cX1_init 7 = .ok (.newarray .int, 2) := by decide +kernel
theorem dX1_init_9 : decode cX1_init 9 = .ok (.putfield 9, 3) := by decide +kernel
theorem dX1_init_12 : decode cX1_init 12 = .ok (.aload_n 0, 1) := by decide +kernel
theorem dX1_init_13 : decode cX1_init 13 = .ok (.bipush 32, 2) := by decide +kernel
theorem dX1_init_15 : decode cX1_init 15 = .ok (.newarray .int, 2) := by decide +kernel
theorem dX1_init_17 : decode cX1_init 17 = .ok (.putfield 15, 3) := by decide +kernel
theorem dX1_init_20 : decode cX1_init 20 = .ok (.aload_n 0, 1) := by decide +kernel
theorem dX1_init_21 : decode cX1_init 21 = .ok (.iconst 0, 1) := by decide +kernel
theorem dX1_init_22 : decode cX1_init 22 = .ok (.putfield 18, 3) := by decide +kernel
theorem dX1_init_25 : decode cX1_init 25 = .ok (.return_, 1) := by decide +kernel
abbrev wX1 (cI cZ cS : ClassId) (h0 : Nat) (u : Nat → Nat) : va_W := [(h0, .inr (1, [.ref (u 1), .ref (u 2), .int 0])), (u 1, .inl (cI, 32, .inl (fun _ => 0))), (u 2, .inl (cI, 32, .inl (fun _ => 0)))]
set_option maxRecDepth 100000 in
set_option maxHeartbeats 4000000 in
theorem ci_X1 (D : va_G) (cI cZ cS : ClassId) (h0 : Nat) : zCi 1 mX1_init D cI cZ cS h0 (.inr (1, [.null, .null, .int 0])) [] (wX1 cI cZ cS h0) 2 64 := by
  refine zCi.mk (by decide) (Nat.le_of_ble_eq_true rfl) rfl ?_
  intro p l e s m args below meth c A ls B hr hlk hin hA hD hP hl
  obtain ⟨hx, hb, hml, hown, hts, hK, hAO⟩ := id B
  have hl : lv_has ls 1 [(0, .ref h0)] := hl
  have hS : va_S A s.heap s.heap [] := va_S.rf
  refine lv_aload_n hx hb dX1_init_0 rfl (lv_at hl 0 rfl) ?_
  refine z_obj B zx_140 zx_70 zx_71 hl.1 ⟨(Nat.le_of_ble_eq_true rfl), (Nat.le_of_ble_eq_true rfl)⟩ dX1_init_1 ?_
  refine lv_aload_n hx hb dX1_init_4 rfl (lv_at hl 0 rfl) ?_
  refine lv_bipush (v := 32) hx hb dX1_init_5 (by decide) ?_
  refine z_newi (N := 32) B hP hD hS hA (by decide) (by decide) (by decide) (Nat.le_of_ble_eq_true rfl) (Nat.le_of_ble_eq_true rfl) dX1_init_7 (fun q5 H hP hD hS => ?_)
  have hP : va_P D vwCl [(h0, .inr (1, [.null, .null, .int 0])), (q5, .inl (cI, 32, .inl (fun _ => 0)))] H := hP
  have hD : va_D A [(h0, .inr (1, [.null, .null, .int 0])), (q5, .inl (cI, 32, .inl (fun _ => 0)))] := hD
  refine va_putF (D := D) (ci := 1) (v := .ref q5) (ty := .array .int) (C := RX1) (T := TX1) (N := 3) hx hb hts in_X1 tyX1 tyX1_ok nmX1 hown hK hP hD hS 0 rfl rfl 0 (by decide) (hts _ zw_141) (fun _ h9 => h9) rfl hin rfl (by decide +kernel) (by first | rfl | decide +kernel) rfl (Nat.le_of_ble_eq_true rfl) dX1_init_9 (fun H locs hP hD hS => ?_)
  have hP : va_P D vwCl [(h0, .inr (1, [.ref q5, .null, .int 0])), (q5, .inl (cI, 32, .inl (fun _ => 0)))] H := hP
  have hD : va_D A [(h0, .inr (1, [.ref q5, .null, .int 0])), (q5, .inl (cI, 32, .inl (fun _ => 0)))] := hD
  refine lv_aload_n hx hb dX1_init_12 rfl (lv_at hl 0 rfl) ?_
  refine lv_bipush (v := 32) hx hb dX1_init_13 (by decide) ?_
  refine z_newi (N := 32) B hP hD hS hA (by decide) (by decide) (by decide) (Nat.le_of_ble_eq_true rfl) (Nat.le_of_ble_eq_true rfl) dX1_init_15 (fun q9 H hP hD hS => ?_)
  have hP : va_P D vwCl [(h0, .inr (1, [.ref q5, .null, .int 0])), (q5, .inl (cI, 32, .inl (fun _ => 0))), (q9, .inl (cI, 32, .inl (fun _ => 0)))] H := hP
  have hD : va_D A [(h0, .inr (1, [.ref q5, .null, .int 0])), (q5, .inl (cI, 32, .inl (fun _ => 0))), (q9, .inl (cI, 32, .inl (fun _ => 0)))] := hD
  refine va_putF (D := D) (ci := 1) (v := .ref q9) (ty := .array .int) (C := RX1) (T := TX1) (N := 3) hx hb hts in_X1 tyX1 tyX1_ok nmX1 hown hK hP hD hS 0 rfl rfl 1 (by decide) (hts _ zw_142) (fun _ h9 => h9) rfl hin rfl (by decide +kernel) (by first | rfl | decide +kernel) rfl (Nat.le_of_ble_eq_true rfl) dX1_init_17 (fun H locs hP hD hS => ?_)
  have hP : va_P D vwCl [(h0, .inr (1, [.ref q5, .ref q9, .int 0])), (q5, .inl (cI, 32, .inl (fun _ => 0))), (q9, .inl (cI, 32, .inl (fun _ => 0)))] H := hP
  have hD : va_D A [(h0, .inr (1, [.ref q5, .ref q9, .int 0])), (q5, .inl (cI, 32, .inl (fun _ => 0))), (q9, .inl (cI, 32, .inl (fun _ => 0)))] := hD
  refine lv_aload_n hx hb dX1_init_20 rfl (lv_at hl 0 rfl) ?_
  refine lv_iconst (v := 0) hx hb dX1_init_21 (by decide) ?_
  refine va_put (D := D) (ci := 1) (v := .int 0) (ty := .int) (C := RX1) (T := TX1) (N := 3) hx hb hts in_X1 tyX1 tyX1_ok nmX1 hown hK hP hD hS 0 rfl rfl 2 (by decide) (hts _ zw_143) (fun _ h9 => h9) rfl (by decide +kernel) (by first | rfl | decide +kernel) rfl (Nat.le_of_ble_eq_true rfl) dX1_init_22 (fun H locs hP hD hS => ?_)
  have hP : va_P D vwCl [(h0, .inr (1, [.ref q5, .ref q9, .int 0])), (q5, .inl (cI, 32, .inl (fun _ => 0))), (q9, .inl (cI, 32, .inl (fun _ => 0)))] H := hP
  have hD : va_D A [(h0, .inr (1, [.ref q5, .ref q9, .int 0])), (q5, .inl (cI, 32, .inl (fun _ => 0))), (q9, .inl (cI, 32, .inl (fun _ => 0)))] := hD
  exact z_vret (wf := wX1 cI cZ cS h0) B hr hlk (fun i => ([h0, q5, q9] : List Nat).getD i 0) hP hD hS (Nat.le_of_ble_eq_true rfl) (Nat.le_of_ble_eq_true rfl) dX1_init_25
abbrev mX8_init : zMd := (yX8_init, cX8_init, 1, none)
theorem dX8_init_0 : decode cX8_init 0 = .ok (.aload_n 0, 1) := by decide +kernel
theorem dX8_init_1 : decode cX8_init 1 = .ok (.invokespecial 1, 3) := by decide +kernel
theorem dX8_init_4 : decode cX8_init 4 = .ok (.aload_n 0, 1) := by decide +kernel
theorem dX8_init_5 : decode cX8_init 5 = .ok (.bipush 16, 2) := by decide +kernel
theorem dX8_init_7 : decode cX8_init 7 = .ok (.newarray .int, 2) := by decide +kernel
theorem dX8_init_9 : decode cX8_init 9 = .ok (.putfield 9, 3) := by decide +kernel
theorem dX8_init_12 : decode cX8_init 12 = .ok (.aload_n 0, 1) := by decide +kernel
theorem dX8_init_13 : decode cX8_init 13 = .ok (.bipush 16, 2) := by decide +kernel
theorem dX8_init_15 : decode cX8_init 15 = .ok (.newarray .int, 2) := by decide +kernel
theorem dX8_init_17 : decode cX8_init 17 = .ok (.putfield 13, 3) := by decide +kernel
theorem dX8_init_20 : decode cX8_init 20 = .ok (.aload_n 0, 1) := by decide +kernel
theorem dX8_init_21 : decode cX8_init 21 = .ok (.iconst 0, 1) := by decide +kernel
theorem dX8_init_22 : decode cX8_init 22 = .ok (.putfield 16, 3) := by decide +kernel
theorem dX8_init_25 : decode cX8_init 25 = .ok (.aload_n 0, 1) := by decide +kernel
theorem dX8_init_26 : decode cX8_init 26 = .ok (.bipush 16, 2) := by decide +kernel
theorem dX8_init_28 : decode cX8_init 28 = .ok (.newarray .int, 2) := by decide +kernel
theorem dX8_init_30 : decode cX8_init 30 = .ok (.putfield 20, 3) := by decide +kernel
theorem dX8_init_33 : decode cX8_init 33 = .ok (.return_, 1) := by decide +kernel
abbrev wX8 (cI cZ cS : ClassId) (h0 : Nat) (u : Nat → Nat) : va_W := [(h0, .inr (6, [.ref (u 1), .ref (u 2), .int 0, .ref (u 3)])), (u 1, .inl (cI, 16, .inl (fun _ => 0))), (u 2, .inl (cI, 16, .inl (fun _ => 0))), (u 3, .inl (cI, 16, .inl (fun _ => 0)))]
set_option maxRecDepth 100000 in
set_option maxHeartbeats 4000000 in
theorem ci_X8 (D : va_G) (cI cZ cS : ClassId) (h0 : Nat) : zCi 1 mX8_init D cI cZ cS h0 (.inr (6, [.null, .null, .int 0, .null])) [] (wX8 cI cZ cS h0) 3 48 := by
  refine zCi.mk (by decide) (Nat.le_of_ble_eq_true rfl) rfl ?_
  intro p l e s m args below meth c A ls B hr hlk hin hA hD hP hl
  obtain ⟨hx, hb, hml, hown, hts, hK, hAO⟩ := id B
  have hl : lv_has ls 1 [(0, .ref h0)] := hl
  have hS : va_S A s.heap s.heap [] := va_S.rf
  refine lv_aload_n hx hb dX8_init_0 rfl (lv_at hl 0 rfl) ?_
  refine z_obj B zx_156 zx_70 zx_71 hl.1 ⟨(Nat.le_of_ble_eq_true rfl), (Nat.le_of_ble_eq_true rfl)⟩ dX8_init_1 ?_
  refine lv_aload_n hx hb dX8_init_4 rfl (lv_at hl 0 rfl) ?_
  refine lv_bipush (v := 16) hx hb dX8_init_5 (by decide) ?_
  refine z_newi (N := 16) B hP hD hS hA (by decide) (by decide) (by decide) (Nat.le_of_ble_eq_true rfl) (Nat.le_of_ble_eq_true rfl) dX8_init_7 (fun q5 H hP hD hS => ?_)
  have hP : va_P D vwCl [(h0, .inr (6, [.null, .null, .int 0, .null])), (q5, .inl (cI, 16, .inl (fun _ => 0)))] H := hP
  have hD : va_D A [(h0, .inr (6, [.null, .null, .int 0, .null])), (q5, .inl (cI, 16, .inl (fun _ => 0)))] := hD
  refine va_putF (D := D) (ci := 6) (v := .ref q5) (ty := .array .int) (C := RX8) (T := TX8) (N := 4) hx hb hts in_X8 tyX8 tyX8_ok nmX8 hown hK hP hD hS 0 rfl rfl 0 (by decide) (hts _ zw_157) (fun _ h9 => h9) rfl hin rfl (by decide +kernel) (by first | rfl | decide +kernel) rfl (Nat.le_of_ble_eq_true rfl) dX8_init_9 (fun H locs hP hD hS => ?_)
  have hP : va_P D vwCl [(h0, .inr (6, [.ref q5, .null, .int 0, .null])), (q5, .inl (cI, 16, .inl (fun _ => 0)))] H := hP
  have hD : va_D A [(h0, .inr (6, [.ref q5, .null, .int 0, .null])), (q5, .inl (cI, 16, .inl (fun _ => 0)))] := hD
  refine lv_aload_n hx hb dX8_init_12 rfl (lv_at hl 0 rfl) ?_
  refine lv_bipush (v := 16) hx hb dX8_init_13 (by decide) ?_
  refine z_newi (N := 16) B hP hD hS hA (by decide) (by decide) (by decide) (Nat.le_of_ble_eq_true rfl) (Nat.le_of_ble_eq_true rfl) dX8_init_15 (fun q9 H hP hD hS => ?_)
  have hP : va_P D vwCl [(h0, .inr (6, [.ref q5, .null, .int 0, .null])), (q5, .inl (cI, 16, .inl (fun _ => 0))), (q9, .inl (cI, 16, .inl (fun _ => 0)))] H := hP
  have hD : va_D A [(h0, .inr (6, [.ref q5, .null, .int 0, .null])), (q5, .inl (cI, 16, .inl (fun _ => 0))), (q9, .inl (cI, 16, .inl (fun _ => 0)))] := hD
  refine va_putF (D := D) (ci := 6) (v := .ref q9) (ty := .array .int) (C := RX8) (T := TX8) (N := 4) hx hb hts in_X8 tyX8 tyX8_ok nmX8 hown hK hP hD hS 0 rfl rfl 1 (by decide) (hts _ zw_158) (fun _ h9 => h9) rfl hin rfl (by decide +kernel) (by first | rfl | decide +kernel) rfl (Nat.le_of_ble_eq_true rfl) dX8_init_17 (fun H locs hP hD hS => ?_)
  have hP : va_P D vwCl [(h0, .inr (6, [.ref q5, .ref q9, .int 0, .null])), (q5, .inl (cI, 16, .inl (fun _ => 0))), (q9, .inl (cI, 16, .inl (fun _ => 0)))] H := hP
  have hD : va_D A [(h0, .inr (6, [.ref q5, .ref q9, .int 0, .null])), (q5, .inl (cI, 16, .inl (fun _ => 0))), (q9, .inl (cI, 16, .inl (fun _ => 0)))] := hD
  refine lv_aload_n hx hb dX8_init_20 rfl (lv_at hl 0 rfl) ?_
  refine lv_iconst (v := 0) hx hb dX8_init_21 (by decide) ?_
  refine va_put (D := D) (ci := 6) (v := .int 0) (ty := .int) (C := RX8) (T := TX8) (N := 4) hx hb hts in_X8 tyX8 tyX8_ok nmX8 hown hK hP hD hS 0 rfl rfl 2 (by decide) (hts _ zw_159) (fun _ h9 => h9) rfl (by decide +kernel) (by first | rfl | decide +kernel) rfl (Nat.le_of_ble_eq_true rfl) dX8_init_22 (fun H locs hP hD hS => ?_)
  have hP : va_P D vwCl [(h0, .inr (6, [.ref q5, .ref q9, .int 0, .null])), (q5, .inl (cI, 16, .inl (fun _ => 0))), (q9, .inl (cI, 16, .inl (fun _ => 0)))] H := hP
  have hD : va_D A [(h0, .inr (6, [.ref q5, .ref q9, .int 0, .null])), (q5, .inl (cI, 16, .inl (fun _ => 0))), (q9, .inl (cI, 16, .inl (fun _ => 0)))] := hD
  refine lv_aload_n hx hb dX8_init_25 rfl (lv_at hl 0 rfl) ?_
  refine lv_bipush (v := 16) hx hb dX8_init_26 (by decide) ?_
  refine z_newi (N := 16) B hP hD hS hA (by decide) (by decide) (by decide) (Nat.le_of_ble_eq_true rfl) (Nat.le_of_ble_eq_true rfl) dX8_init_28 (fun q16 H hP hD hS => ?_)
  have hP : va_P D vwCl [(h0, .inr (6, [.ref q5, .ref q9, .int 0, .null])), (q5, .inl (cI, 16, .inl (fun _ => 0))), (q9, .inl (cI, 16, .inl (fun _ => 0))), (q16, .inl (cI, 16, .inl (fun _ => 0)))] H := hP
  have hD : va_D A [(h0, .inr (6, [.ref q5, .ref q9, .int 0, .null])), (q5, .inl (cI, 16, .inl (fun _ => 0))), (q9, .inl (cI, 16, .inl (fun _ => 0))), (q16, .inl (cI, 16, .inl (fun _ => 0)))] := hD
  refine va_putF (D := D) (ci := 6) (v := .ref q16) (ty := .array .int) (C := RX8) (T := TX8) (N := 4) hx hb hts in_X8 tyX8 tyX8_ok nmX8 hown hK hP hD hS 0 rfl rfl 3 (by decide) (hts _ zw_160) (fun _ h9 => h9) rfl hin rfl (by decide +kernel) (by first | rfl | decide +kernel) rfl (Nat.le_of_ble_eq_true rfl) dX8_init_30 (fun H locs hP hD hS => ?_)
  have hP : va_P D vwCl [(h0, .inr (6, [.ref q5, .ref q9, .int 0, .ref q16])), (q5, .inl (cI, 16, .inl (fun _ => 0))), (q9, .inl (cI, 16, .inl (fun _ => 0))), (q16, .inl (cI, 16, .inl (fun _ => 0)))] H := hP
  have hD : va_D A [(h0, .inr (6, [.ref q5, .ref q9, .int 0, .ref q16])), (q5, .inl (cI, 16, .inl (fun _ => 0))), (q9, .inl (cI, 16, .inl (fun _ => 0))), (q16, .inl (cI, 16, .inl (fun _ => 0)))] := hD
  exact z_vret (wf := wX8 cI cZ cS h0) B hr hlk (fun i => ([h0, q5, q9, q16] : List Nat).getD i 0) hP hD hS (Nat.le_of_ble_eq_true rfl) (Nat.le_of_ble_eq_true rfl) dX8_init_33
abbrev mX9_init : zMd := (yX9_init, cX9_init, 1, none)
theorem dX9_init_0 : decode cX9_init 0 = .ok (.aload_n 0, 1) := by decide +kernel
theorem dX9_init_1 : decode cX9_init 1 = .ok (.invokespecial 5, 3) := by decide +kernel
theorem dX9_init_4 : decode cX9_init 4 = .ok (.aload_n 0, 1) := by decide +kernel
theorem dX9_init_5 : decode cX9_init 5 = .ok (.bipush 64, 2) := by decide +kernel
theorem dX9_init_7 : decode cX9_init 7 = .ok (.newarray .boolean, 2) := by decide +kernel
theorem dX9_init_9 : decode cX9_init 9 = .ok (.putfield 11, 3) := by decide +kernel
theorem dX9_init_12 : decode cX9_init 12 = .ok (.aload_n 0, 1) := by decide +kernel
theorem dX9_init_13 : decode cX9_init 13 = .ok (.sipush 257, 3) := by decide +kernel
theorem dX9_init_16 : decode cX9_init 16 = .ok (.newarray .int, 2) := by decide +kernel
theorem dX9_init_18 : decode cX9_init 18 = .ok (.putfield 17, 3) := by decide +kernel
theorem dX9_init_21 : decode cX9_init 21 = .ok (.aload_n 0, 1) := by decide +kernel
theorem dX9_init_22 : decode cX9_init 22 = .ok (.iconst 0, 1) := by decide +kernel
theorem dX9_init_23 : decode cX9_init 23 = .ok (.putfield 21, 3) := by decide +kernel
theorem dX9_init_26 : decode cX9_init 26 = .ok (.aload_n 0, 1) := by decide +kernel
theorem dX9_init_27 : decode cX9_init 27 = .ok (.sipush 257, 3) := by decide +kernel
theorem dX9_init_30 : decode cX9_init 30 = .ok (.newarray .int, 2) := by decide +kernel
theorem dX9_init_32 : decode cX9_init 32 = .ok (.putfield 25, 3) := by decide +kernel
theorem dX9_init_35 : decode cX9_init 35 = .ok (.aload_n 0, 1) := by decide +kernel
theorem dX9_init_36 : decode cX9_init 36 = .ok (.iconst 0, 1) := by decide +kernel
theorem dX9_init_37 : decode cX9_init 37 = .ok (.putfield 28, 3) := by decide +kernel
theorem dX9_init_40 : decode cX9_init 40 = .ok (.return_, 1) := by decide +kernel
abbrev wX9 (cI cZ cS : ClassId) (h0 : Nat) (u : Nat → Nat) : va_W := [(h0, .inr (7, [.ref (u 1), .ref (u 2), .int 0, .ref (u 3), .int 0])), (u 1, .inl (cZ, 64, .inl (fun _ => 0))), (u 2, .inl (cI, 257, .inl (fun _ => 0))), (u 3, .inl (cI, 257, .inl (fun _ => 0)))]
set_option maxRecDepth 100000 in
set_option maxHeartbeats 4000000 in
theorem ci_X9 (D : va_G) (cI cZ cS : ClassId) (h0 : Nat) : zCi 1 mX9_init D cI cZ cS h0 (.inr (7, [.null, .null, .int 0, .null, .int 0])) [] (wX9 cI cZ cS h0) 3 578 := by
  refine zCi.mk (by decide) (Nat.le_of_ble_eq_true rfl) rfl ?_
  intro p l e s m args below meth c A ls B hr hlk hin hA hD hP hl
  obtain ⟨hx, hb, hml, hown, hts, hK, hAO⟩ := id B
  have hl : lv_has ls 1 [(0, .ref h0)] := hl
  have hS : va_S A s.heap s.heap [] := va_S.rf
  refine lv_aload_n hx hb dX9_init_0 rfl (lv_at hl 0 rfl) ?_
  refine z_obj B zx_217 zx_70 zx_71 hl.1 ⟨(Nat.le_of_ble_eq_true rfl), (Nat.le_of_ble_eq_true rfl)⟩ dX9_init_1 ?_
  refine lv_aload_n hx hb dX9_init_4 rfl (lv_at hl 0 rfl) ?_
  refine lv_bipush (v := 64) hx hb dX9_init_5 (by decide) ?_
  refine z_newz (N := 64) B hP hD hS hA (by decide) (by decide) (by decide) (Nat.le_of_ble_eq_true rfl) (Nat.le_of_ble_eq_true rfl) dX9_init_7 (fun q5 H hP hD hS => ?_)
  have hP : va_P D vwCl [(h0, .inr (7, [.null, .null, .int 0, .null, .int 0])), (q5, .inl (cZ, 64, .inl (fun _ => 0)))] H := hP
  have hD : va_D A [(h0, .inr (7, [.null, .null, .int 0, .null, .int 0])), (q5, .inl (cZ, 64, .inl (fun _ => 0)))] := hD
  refine va_putF (D := D) (ci := 7) (v := .ref q5) (ty := .array .boolean) (C := RX9) (T := TX9) (N := 5) hx hb hts in_X9 tyX9 tyX9_ok nmX9 hown hK hP hD hS 0 rfl rfl 0 (by decide) (hts _ zw_218) (fun _ h9 => h9) rfl hin rfl (by decide +kernel) (by first | rfl | decide +kernel) rfl (Nat.le_of_ble_eq_true rfl) dX9_init_9 (fun H locs hP hD hS => ?_)
  have hP : va_P D vwCl [(h0, .inr (7, [.ref q5, .null, .int 0, .null, .int 0])), (q5, .inl (cZ, 64, .inl (fun _ => 0)))] H := hP
  have hD : va_D A [(h0, .inr (7, [.ref q5, .null, .int 0, .null, .int 0])), (q5, .inl (cZ, 64, .inl (fun _ => 0)))] := hD
  refine lv_aload_n hx hb dX9_init_12 rfl (lv_at hl 0 rfl) ?_
  refine lv_sipush (v := 257) hx hb dX9_init_13 (by decide) ?_
  refine z_newi (N := 257) B hP hD hS hA (by decide) (by decide) (by decide) (Nat.le_of_ble_eq_true rfl) (Nat.le_of_ble_eq_true rfl) dX9_init_16 (fun q9 H hP hD hS => ?_)
  have hP : va_P D vwCl [(h0, .inr (7, [.ref q5, .null, .int 0, .null, .int 0])), (q5, .inl (cZ, 64, .inl (fun _ => 0))), (q9, .inl (cI, 257, .inl (fun _ => 0)))] H := hP
  have hD : va_D A [(h0, .inr (7, [.ref q5, .null, .int 0, .null, .int 0])), (q5, .inl (cZ, 64, .inl (fun _ => 0))), (q9, .inl (cI, 257, .inl (fun _ => 0)))] := hD
  refine va_putF (D := D) (ci := 7) (v := .ref q9) (ty := .array .int) (C := RX9) (T := TX9) (N := 5) hx hb hts in_X9 tyX9 tyX9_ok nmX9 hown hK hP hD hS 0 rfl rfl 1 (by decide) (hts _ zw_219) (fun _ h9 => h9) rfl hin rfl (by decide +kernel) (by first | rfl | decide +kernel) rfl (Nat.le_of_ble_eq_true rfl) dX9_init_18 (fun H locs hP hD hS => ?_)
  have hP : va_P D vwCl [(h0, .inr (7, [.ref q5, .ref q9, .int 0, .null, .int 0])), (q5, .inl (cZ, 64, .inl (fun _ => 0))), (q9, .inl (cI, 257, .inl (fun _ => 0)))] H := hP
  have hD : va_D A [(h0, .inr (7, [.ref q5, .ref q9, .int 0, .null, .int 0])), (q5, .inl (cZ, 64, .inl (fun _ => 0))), (q9, .inl (cI, 257, .inl (fun _ => 0)))] := hD
  refine lv_aload_n hx hb dX9_init_21 rfl (lv_at hl 0 rfl) ?_
  refine lv_iconst (v := 0) hx hb dX9_init_22 (by decide) ?_
  refine va_put (D := D) (ci := 7) (v := .int 0) (ty := .int) (C := RX9) (T := TX9) (N := 5) hx hb hts in_X9 tyX9 tyX9_ok nmX9 hown hK hP hD hS 0 rfl rfl 2 (by decide) (hts _ zw_220) (fun _ h9 => h9) rfl (by decide +kernel) (by first | rfl | decide +kernel) rfl (Nat.le_of_ble_eq_true rfl) dX9_init_23 (fun H locs hP hD hS => ?_)
  have hP : va_P D vwCl [(h0, .inr (7, [.ref q5, .ref q9, .int 0, .null, .int 0])), (q5, .inl (cZ, 64, .inl (fun _ => 0))), (q9, .inl (cI, 257, .inl (fun _ => 0)))] H := hP
  have hD : va_D A [(h0, .inr (7, [.ref q5, .ref q9, .int 0, .null, .int 0])), (q5, .inl (cZ, 64, .inl (fun _ => 0))), (q9, .inl (cI, 257, .inl (fun _ => 0)))] := hD
  refine lv_aload_n hx hb dX9_init_26 rfl (lv_at hl 0 rfl) ?_
  refine lv_sipush (v := 257) hx hb dX9_init_27 (by decide) ?_
  refine z_newi (N := 257) B hP hD hS hA (by decide) (by decide) (by decide) (Nat.le_of_ble_eq_true rfl) (Nat.le_of_ble_eq_true rfl) dX9_init_30 (fun q16 H hP hD hS => ?_)
  have hP : va_P D vwCl [(h0, .inr (7, [.ref q5, .ref q9, .int 0, .null, .int 0])), (q5, .inl (cZ, 64, .inl (fun _ => 0))), (q9, .inl (cI, 257, .inl (fun _ => 0))), (q16, .inl (cI, 257, .inl (fun _ => 0)))] H := hP
  have hD : va_D A [(h0, .inr (7, [.ref q5, .ref q9, .int 0, .null, .int 0])), (q5, .inl (cZ, 64, .inl (fun _ => 0))), (q9, .inl (cI, 257, .inl (fun _ => 0))), (q16, .inl (cI, 257, .inl (fun _ => 0)))] := hD
  refine va_putF (D := D) (ci := 7) (v := .ref q16) (ty := .array .int) (C := RX9) (T := TX9) (N := 5) hx hb hts in_X9 tyX9 tyX9_ok nmX9 hown hK hP hD hS 0 rfl rfl 3 (by decide) (hts _ zw_221) (fun _ h9 => h9) rfl hin rfl (by decide +kernel) (by first | rfl | decide +kernel) rfl (Nat.le_of_ble_eq_true rfl) dX9_init_32 (fun H locs hP hD hS => ?_)
  have hP : va_P D vwCl [(h0, .inr (7, [.ref q5, .ref q9, .int 0, .ref q16, .int 0])), (q5, .inl (cZ, 64, .inl (fun _ => 0))), (q9, .inl (cI, 257, .inl (fun _ => 0))), (q16, .inl (cI, 257, .inl (fun _ => 0)))] H := hP
  have hD : va_D A [(h0, .inr (7, [.ref q5, .ref q9, .int 0, .ref q16, .int 0])), (q5, .inl (cZ, 64, .inl (fun _ => 0))), (q9, .inl (cI, 257, .inl (fun _ => 0))), (q16, .inl (cI, 257, .inl (fun _ => 0)))] := hD
  refine lv_aload_n hx hb dX9_init_35 rfl (lv_at hl 0 rfl) ?_
  refine lv_iconst (v := 0) hx hb dX9_init_36 (by decide) ?_
  refine va_put (D := D) (ci := 7) (v := .int 0) (ty := .int) (C := RX9) (T := TX9) (N := 5) hx hb hts in_X9 tyX9 tyX9_ok nmX9 hown hK hP hD hS 0 rfl rfl 4 (by decide) (hts _ zw_222) (fun _ h9 => h9) rfl (by decide +kernel) (by first | rfl | decide +kernel) rfl (Nat.le_of_ble_eq_true rfl) dX9_init_37 (fun H locs hP hD hS => ?_)
  have hP : va_P D vwCl [(h0, .inr (7, [.ref q5, .ref q9, .int 0, .ref q16, .int 0])), (q5, .inl (cZ, 64, .inl (fun _ => 0))), (q9, .inl (cI, 257, .inl (fun _ => 0))), (q16, .inl (cI, 257, .inl (fun _ => 0)))] H := hP
  have hD : va_D A [(h0, .inr (7, [.ref q5, .ref q9, .int 0, .ref q16, .int 0])), (q5, .inl (cZ, 64, .inl (fun _ => 0))), (q9, .inl (cI, 257, .inl (fun _ => 0))), (q16, .inl (cI, 257, .inl (fun _ => 0)))] := hD
  exact z_vret (wf := wX9 cI cZ cS h0) B hr hlk (fun i => ([h0, q5, q9, q16] : List Nat).getD i 0) hP hD hS (Nat.le_of_ble_eq_true rfl) (Nat.le_of_ble_eq_true rfl) dX9_init_40
