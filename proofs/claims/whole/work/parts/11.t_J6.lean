theorem dJ6_bitCount_0f7a4_0 : decode cJ6_bitCount_0f7a4 0 = .ok (.iload_n 0, 1) := by decide +kernel
theorem dJ6_bitCount_0f7a4_1 : decode cJ6_bitCount_0f7a4 1 = .ok (.iload_n 0, 1) := by decide +kernel
theorem dJ6_bitCount_0f7a4_2 : decode cJ6_bitCount_0f7a4 2 = .ok (.iconst 1, 1) := by decide +kernel
theorem dJ6_bitCount_0f7a4_3 : decode cJ6_bitCount_0f7a4 3 = .ok (.iushr, 1) := by decide +kernel
theorem dJ6_bitCount_0f7a4_4 : decode cJ6_bitCount_0f7a4 4 = .ok (.ldc_w 265, 3) := by decide +kernel
theorem dJ6_bitCount_0f7a4_7 : decode cJ6_bitCount_0f7a4 7 = .ok (.iand, 1) := by decide +kernel
theorem dJ6_bitCount_0f7a4_8 : decode cJ6_bitCount_0f7a4 8 = .ok (.isub, 1) := by decide +kernel
theorem dJ6_bitCount_0f7a4_9 : decode cJ6_bitCount_0f7a4 9 = .ok (.istore_n 0, 1) := by decide +kernel
theorem dJ6_bitCount_0f7a4_10 : decode cJ6_bitCount_0f7a4 10 = .ok (.iload_n 0, 1) := by decide +kernel
theorem dJ6_bitCount_0f7a4_11 : decode cJ6_bitCount_0f7a4 11 = .ok (.ldc_w 266, 3) := by decide +kernel
theorem dJ6_bitCount_0f7a4_14 : decode cJ6_bitCount_0f7a4 14 = .ok (.iand, 1) := by decide +kernel
theorem dJ6_bitCount_0f7a4_15 : decode cJ6_bitCount_0f7a4 15 = .ok (.iload_n 0, 1) := by decide +kernel
theorem dJ6_bitCount_0f7a4_16 : decode cJ6_bitCount_0f7a4 16 = .ok (.iconst 2, 1) := by decide +kernel
theorem dJ6_bitCount_0f7a4_17 : decode cJ6_bitCount_0f7a4 17 = .ok (.iushr, 1) := by decide +kernel
theorem dJ6_bitCount_0f7a4_18 : decode cJ6_bitCount_0f7a4 18 = .ok (.ldc_w 266, 3) := by decide +kernel
theorem dJ6_bitCount_0f7a4_21 : decode cJ6_bitCount_0f7a4 21 = .ok (.iand, 1) := by decide +kernel
theorem dJ6_bitCount_0f7a4_22 : decode cJ6_bitCount_0f7a4 22 = .ok (.iadd, 1) := by decide +kernel
theorem dJ6_bitCount_0f7a4_23 : decode cJ6_bitCount_0f7a4 23 = .ok (.istore_n 0, 1) := by decide +kernel
theorem dJ6_bitCount_0f7a4_24 : decode cJ6_bitCount_0f7a4 24 = .ok (.iload_n 0, 1) := by decide +kernel
theorem dJ6_bitCount_0f7a4_25 : decode cJ6_bitCount_0f7a4 25 = .ok (.iload_n 0, 1) := by decide +kernel
theorem dJ6_bitCount_0f7a4_26 : decode cJ6_bitCount_0f7a4 26 = .ok (.iconst 4, 1) := by decide +kernel
theorem dJ6_bitCount_0f7a4_27 : decode cJ6_bitCount_0f7a4 27 = .ok (.iushr, 1) := by decide +kernel
theorem dJ6_bitCount_0f7a4_28 : decode cJ6_bitCount_0f7a4 28 = .ok (.iadd, 1) := by decide +kernel
theorem dJ6_bitCount_0f7a4_29 : decode cJ6_bitCount_0f7a4 29 = .ok (.ldc_w 267, 3) := by decide +kernel
theorem dJ6_bitCount_0f7a4_32 : decode cJ6_bitCount_0f7a4 32 = .ok (.iand, 1) := by decide +kernel
theorem dJ6_bitCount_0f7a4_33 : decode cJ6_bitCount_0f7a4 33 = .ok (.istore_n 0, 1) := by decide +kernel
theorem dJ6_bitCount_0f7a4_34 : decode cJ6_bitCount_0f7a4 34 = .ok (.iload_n 0, 1) := by decide +kernel
theorem dJ6_bitCount_0f7a4_35 : decode cJ6_bitCount_0f7a4 35 = .ok (.iload_n 0, 1) := by decide +kernel
theorem dJ6_bitCount_0f7a4_36 : decode cJ6_bitCount_0f7a4 36 = .ok (.bipush 8, 2) := by decide +kernel
theorem dJ6_bitCount_0f7a4_38 : decode cJ6_bitCount_0f7a4 38 = .ok (.iushr, 1) := by decide +kernel
theorem dJ6_bitCount_0f7a4_39 : decode cJ6_bitCount_0f7a4 39 = .ok (.iadd, 1) := by decide +kernel
theorem dJ6_bitCount_0f7a4_40 : decode cJ6_bitCount_0f7a4 40 = .ok (.istore_n 0, 1) := by decide +kernel
theorem dJ6_bitCount_0f7a4_41 : decode cJ6_bitCount_0f7a4 41 = .ok (.iload_n 0, 1) := by decide +kernel
theorem dJ6_bitCount_0f7a4_42 : decode cJ6_bitCount_0f7a4 42 = .ok (.iload_n 0, 1) := by decide +kernel
theorem dJ6_bitCount_0f7a4_43 : decode cJ6_bitCount_0f7a4 43 = .ok (.bipush 16, 2) := by decide +kernel
theorem dJ6_bitCount_0f7a4_45 : decode cJ6_bitCount_0f7a4 45 = .ok (.iushr, 1) := by decide +kernel
theorem dJ6_bitCount_0f7a4_46 : decode cJ6_bitCount_0f7a4 46 = .ok (.iadd, 1) := by decide +kernel
theorem dJ6_bitCount_0f7a4_47 : decode cJ6_bitCount_0f7a4 47 = .ok (.istore_n 0, 1) := by decide +kernel
theorem dJ6_bitCount_0f7a4_48 : decode cJ6_bitCount_0f7a4 48 = .ok (.iload_n 0, 1) := by decide +kernel
theorem dJ6_bitCount_0f7a4_49 : decode cJ6_bitCount_0f7a4 49 = .ok (.bipush 63, 2) := by decide +kernel
theorem dJ6_bitCount_0f7a4_51 : decode cJ6_bitCount_0f7a4 51 = .ok (.iand, 1) := by decide +kernel
theorem dJ6_bitCount_0f7a4_52 : decode cJ6_bitCount_0f7a4 52 = .ok (.ireturn, 1) := by decide +kernel
def b_J6_bitCount_0f7a4_0 (d : Nat) (G : Nat → zK) (Q : zQ) : zK := o_il 0 <| o_il 0 <| o_c 1 <| o_ush <| o_c 1431655765 <| o_and <| o_sub <| o_is 0 <| o_il 0 <| o_c 858993459 <| o_and <| o_il 0 <| o_c 2 <| o_ush <| o_c 858993459 <| o_and <| o_add <| o_is 0 <| o_il 0 <| o_il 0 <| o_c 4 <| o_ush <| o_add <| o_c 252645135 <| o_and <| o_is 0 <| o_il 0 <| o_il 0 <| o_c 8 <| o_ush <| o_add <| o_is 0 <| o_il 0 <| o_il 0 <| o_c 16 <| o_ush <| o_add <| o_is 0 <| o_il 0 <| o_c 63 <| o_and <| t_iret Q
set_option maxRecDepth 20000 in
theorem k_J6_bitCount_0f7a4_0 {p : Program} {l : Launch} {e : Env} {s : State} {m : MethodId} {args : Array Value} {below : List Frame} {meth : Method} {c : Code} {E : zE} {d : Nat} {Q : zQ} (B : zB p s m args c E mJ6_bitCount_0f7a4.1.cls mJ6_bitCount_0f7a4.2.1 mJ6_bitCount_0f7a4.2.2.1) (hr : meth.sig.returnType = mJ6_bitCount_0f7a4.2.2.2) (hlk : meth.locks = false) : zLk (zG p l e (zrm d) s m args below meth c E mJ6_bitCount_0f7a4.2.2.1 0 0 (MQ below (zQc E Q) args s 0 0 (zaA E))) 0 (b_J6_bitCount_0f7a4_0 d (zG p l e (zrm d) s m args below meth c E mJ6_bitCount_0f7a4.2.2.1 0 0 (MQ below (zQc E Q) args s 0 0 (zaA E))) Q) := by
  unfold b_J6_bitCount_0f7a4_0
  exact lk_iln B dJ6_bitCount_0f7a4_0 rfl (lk_iln B dJ6_bitCount_0f7a4_1 rfl (lk_c B dJ6_bitCount_0f7a4_2 (lk_ush B dJ6_bitCount_0f7a4_3 (lk_ldcw B zw_358 rfl dJ6_bitCount_0f7a4_4 (lk_and B dJ6_bitCount_0f7a4_7 (lk_sub B dJ6_bitCount_0f7a4_8 (lk_isn B dJ6_bitCount_0f7a4_9 rfl (by decide) (lk_iln B dJ6_bitCount_0f7a4_10 rfl (lk_ldcw B zw_359 rfl dJ6_bitCount_0f7a4_11 (lk_and B dJ6_bitCount_0f7a4_14 (lk_iln B dJ6_bitCount_0f7a4_15 rfl (lk_c B dJ6_bitCount_0f7a4_16 (lk_ush B dJ6_bitCount_0f7a4_17 (lk_ldcw B zw_359 rfl dJ6_bitCount_0f7a4_18 (lk_and B dJ6_bitCount_0f7a4_21 (lk_add B dJ6_bitCount_0f7a4_22 (lk_isn B dJ6_bitCount_0f7a4_23 rfl (by decide) (lk_iln B dJ6_bitCount_0f7a4_24 rfl (lk_iln B dJ6_bitCount_0f7a4_25 rfl (lk_c B dJ6_bitCount_0f7a4_26 (lk_ush B dJ6_bitCount_0f7a4_27 (lk_add B dJ6_bitCount_0f7a4_28 (lk_ldcw B zw_360 rfl dJ6_bitCount_0f7a4_29 (lk_and B dJ6_bitCount_0f7a4_32 (lk_isn B dJ6_bitCount_0f7a4_33 rfl (by decide) (lk_iln B dJ6_bitCount_0f7a4_34 rfl (lk_iln B dJ6_bitCount_0f7a4_35 rfl (lk_b B dJ6_bitCount_0f7a4_36 rfl (lk_ush B dJ6_bitCount_0f7a4_38 (lk_add B dJ6_bitCount_0f7a4_39 (lk_isn B dJ6_bitCount_0f7a4_40 rfl (by decide) (lk_iln B dJ6_bitCount_0f7a4_41 rfl (lk_iln B dJ6_bitCount_0f7a4_42 rfl (lk_b B dJ6_bitCount_0f7a4_43 rfl (lk_ush B dJ6_bitCount_0f7a4_45 (lk_add B dJ6_bitCount_0f7a4_46 (lk_isn B dJ6_bitCount_0f7a4_47 rfl (by decide) (lk_iln B dJ6_bitCount_0f7a4_48 rfl (lk_b B dJ6_bitCount_0f7a4_49 rfl (lk_and B dJ6_bitCount_0f7a4_51 (lk_iret B hr hlk dJ6_bitCount_0f7a4_52)))))))))))))))))))))))))))))))))))))))))
def S_J6_bitCount_0f7a4 (d : Nat) (G : Nat → zK) (Q : zQ) : Prop := zLk G 0 (b_J6_bitCount_0f7a4_0 d G Q)
theorem s_J6_bitCount_0f7a4_0 {d : Nat} {G : Nat → zK} {Q : zQ} (h : S_J6_bitCount_0f7a4 d G Q) {ls st : List zV} {μ : zM} (k : b_J6_bitCount_0f7a4_0 d G Q ls st μ) : G 0 ls st μ := h ls st μ k
theorem of_J6_bitCount_0f7a4 {d : Nat} {a0 : zV} {μ : zM} {Q : zQ} (h : ∀ G : Nat → zK, S_J6_bitCount_0f7a4 d G Q → G 0 [a0] [] μ) : zCt d mJ6_bitCount_0f7a4 [a0] μ Q := zCt.mk (by decide) (Nat.le_of_ble_eq_true rfl) (fun p l e s m args below meth c E B hr hlk => h _ (k_J6_bitCount_0f7a4_0 B hr hlk))
