theorem dX10_type_0 : decode cX10_type 0 = .ok (.iload_n 1, 1) := by decide +kernel
theorem dX10_type_1 : decode cX10_type 1 = .ok (.ifCond .lt 19, 3) := by decide +kernel
theorem dX10_type_4 : decode cX10_type 4 = .ok (.iload_n 1, 1) := by decide +kernel
theorem dX10_type_5 : decode cX10_type 5 = .ok (.sipush 255, 3) := by decide +kernel
theorem dX10_type_8 : decode cX10_type 8 = .ok (.if_icmp .gt 12, 3) := by decide +kernel
theorem dX10_type_11 : decode cX10_type 11 = .ok (.aload_n 0, 1) := by decide +kernel
theorem dX10_type_12 : decode cX10_type 12 = .ok (.getfield 20, 3) := by decide +kernel
theorem dX10_type_15 : decode cX10_type 15 = .ok (.bipush 32, 2) := by decide +kernel
theorem dX10_type_17 : decode cX10_type 17 = .ok (.if_icmp .lt 5, 3) := by decide +kernel
theorem dX10_type_20 : decode cX10_type 20 = .ok (.iconst 0, 1) := by decide +kernel
theorem dX10_type_21 : decode cX10_type 21 = .ok (.ireturn, 1) := by decide +kernel
theorem dX10_type_22 : decode cX10_type 22 = .ok (.aload_n 0, 1) := by decide +kernel
theorem dX10_type_23 : decode cX10_type 23 = .ok (.getfield 16, 3) := by decide +kernel
theorem dX10_type_26 : decode cX10_type 26 = .ok (.aload_n 0, 1) := by decide +kernel
theorem dX10_type_27 : decode cX10_type 27 = .ok (.getfield 20, 3) := by decide +kernel
theorem dX10_type_30 : decode cX10_type 30 = .ok (.iload_n 1, 1) := by decide +kernel
theorem dX10_type_31 : decode cX10_type 31 = .ok (.iastore, 1) := by decide +kernel
theorem dX10_type_32 : decode cX10_type 32 = .ok (.aload_n 0, 1) := by decide +kernel
theorem dX10_type_33 : decode cX10_type 33 = .ok (.dup, 1) := by decide +kernel
theorem dX10_type_34 : decode cX10_type 34 = .ok (.getfield 20, 3) := by decide +kernel
theorem dX10_type_37 : decode cX10_type 37 = .ok (.iconst 1, 1) := by decide +kernel
theorem dX10_type_38 : decode cX10_type 38 = .ok (.iadd, 1) := by decide +kernel
theorem dX10_type_39 : decode cX10_type 39 = .ok (.putfield 20, 3) := by decide +kernel
theorem dX10_type_42 : decode cX10_type 42 = .ok (.iconst 1, 1) := by decide +kernel
theorem dX10_type_43 : decode cX10_type 43 = .ok (.ireturn, 1) := by decide +kernel
def b_X10_type_20 (d : Nat) (G : Nat → zK) (Q : zQ) : zK := o_c 0 <| t_zret Q
def b_X10_type_22 (d : Nat) (G : Nat → zK) (Q : zQ) : zK := o_al 0 <| o_gf 8 1 <| o_al 0 <| o_gf 8 2 <| o_il 1 <| o_iast <| o_al 0 <| o_dup <| o_gf 8 2 <| o_c 1 <| o_add <| o_pf 8 2 <| o_c 1 <| t_zret Q
def b_X10_type_11 (d : Nat) (G : Nat → zK) (Q : zQ) : zK := o_al 0 <| o_gf 8 2 <| o_c 32 <| t_ilt (b_X10_type_22 d G Q) (b_X10_type_20 d G Q)
def b_X10_type_4 (d : Nat) (G : Nat → zK) (Q : zQ) : zK := o_il 1 <| o_c 255 <| t_igt (b_X10_type_20 d G Q) (b_X10_type_11 d G Q)
def b_X10_type_0 (d : Nat) (G : Nat → zK) (Q : zQ) : zK := o_il 1 <| t_zlt (b_X10_type_20 d G Q) (b_X10_type_4 d G Q)
set_option maxRecDepth 20000 in
theorem k_X10_type_20 {p : Program} {l : Launch} {e : Env} {s : State} {m : MethodId} {args : Array Value} {below : List Frame} {meth : Method} {c : Code} {E : zE} {d : Nat} {Q : zQ} (B : zB p s m args c E mX10_type.1.cls mX10_type.2.1 mX10_type.2.2.1) (hr : meth.sig.returnType = mX10_type.2.2.2) (hlk : meth.locks = false) : zLk (zG p l e (zrm d) s m args below meth c E mX10_type.2.2.1 0 0 (MQ below (zQc E Q) args s 0 0 (zaA E))) 20 (b_X10_type_20 d (zG p l e (zrm d) s m args below meth c E mX10_type.2.2.1 0 0 (MQ below (zQc E Q) args s 0 0 (zaA E))) Q) := by
  unfold b_X10_type_20
  exact lk_c B dX10_type_20 (lk_zret B hr hlk dX10_type_21)
set_option maxRecDepth 20000 in
theorem k_X10_type_22 {p : Program} {l : Launch} {e : Env} {s : State} {m : MethodId} {args : Array Value} {below : List Frame} {meth : Method} {c : Code} {E : zE} {d : Nat} {Q : zQ} (B : zB p s m args c E mX10_type.1.cls mX10_type.2.1 mX10_type.2.2.1) (hr : meth.sig.returnType = mX10_type.2.2.2) (hlk : meth.locks = false) : zLk (zG p l e (zrm d) s m args below meth c E mX10_type.2.2.1 0 0 (MQ below (zQc E Q) args s 0 0 (zaA E))) 22 (b_X10_type_22 d (zG p l e (zrm d) s m args below meth c E mX10_type.2.2.1 0 0 (MQ below (zQc E Q) args s 0 0 (zaA E))) Q) := by
  unfold b_X10_type_22
  exact lk_aln B dX10_type_22 rfl (lk_gf (T := TX10) B cl_X10 (by decide) in_X10 zw_235 dX10_type_23 (lk_aln B dX10_type_26 rfl (lk_gf (T := TX10) B cl_X10 (by decide) in_X10 zw_236 dX10_type_27 (lk_iln B dX10_type_30 rfl (lk_iast B dX10_type_31 (lk_aln B dX10_type_32 rfl (lk_dup B dX10_type_33 (lk_gf (T := TX10) B cl_X10 (by decide) in_X10 zw_236 dX10_type_34 (lk_c B dX10_type_37 (lk_add B dX10_type_38 (lk_pf (T := TX10) B cl_X10 (by decide) in_X10 tyX10_ok nmX10 zw_236 rfl (by decide +kernel) dX10_type_39 (lk_c B dX10_type_42 (lk_zret B hr hlk dX10_type_43)))))))))))))
set_option maxRecDepth 20000 in
theorem k_X10_type_11 {p : Program} {l : Launch} {e : Env} {s : State} {m : MethodId} {args : Array Value} {below : List Frame} {meth : Method} {c : Code} {E : zE} {d : Nat} {Q : zQ} (B : zB p s m args c E mX10_type.1.cls mX10_type.2.1 mX10_type.2.2.1) (hr : meth.sig.returnType = mX10_type.2.2.2) (hlk : meth.locks = false) : zLk (zG p l e (zrm d) s m args below meth c E mX10_type.2.2.1 0 0 (MQ below (zQc E Q) args s 0 0 (zaA E))) 11 (b_X10_type_11 d (zG p l e (zrm d) s m args below meth c E mX10_type.2.2.1 0 0 (MQ below (zQc E Q) args s 0 0 (zaA E))) Q) := by
  unfold b_X10_type_11
  exact lk_aln B dX10_type_11 rfl (lk_gf (T := TX10) B cl_X10 (by decide) in_X10 zw_236 dX10_type_12 (lk_b B dX10_type_15 rfl (lk_ilt B dX10_type_17 (by decide) (k_X10_type_22 B hr hlk) (k_X10_type_20 B hr hlk))))
set_option maxRecDepth 20000 in
theorem k_X10_type_4 {p : Program} {l : Launch} {e : Env} {s : State} {m : MethodId} {args : Array Value} {below : List Frame} {meth : Method} {c : Code} {E : zE} {d : Nat} {Q : zQ} (B : zB p s m args c E mX10_type.1.cls mX10_type.2.1 mX10_type.2.2.1) (hr : meth.sig.returnType = mX10_type.2.2.2) (hlk : meth.locks = false) : zLk (zG p l e (zrm d) s m args below meth c E mX10_type.2.2.1 0 0 (MQ below (zQc E Q) args s 0 0 (zaA E))) 4 (b_X10_type_4 d (zG p l e (zrm d) s m args below meth c E mX10_type.2.2.1 0 0 (MQ below (zQc E Q) args s 0 0 (zaA E))) Q) := by
  unfold b_X10_type_4
  exact lk_iln B dX10_type_4 rfl (lk_s B dX10_type_5 rfl (lk_igt B dX10_type_8 (by decide) (k_X10_type_20 B hr hlk) (k_X10_type_11 B hr hlk)))
set_option maxRecDepth 20000 in
theorem k_X10_type_0 {p : Program} {l : Launch} {e : Env} {s : State} {m : MethodId} {args : Array Value} {below : List Frame} {meth : Method} {c : Code} {E : zE} {d : Nat} {Q : zQ} (B : zB p s m args c E mX10_type.1.cls mX10_type.2.1 mX10_type.2.2.1) (hr : meth.sig.returnType = mX10_type.2.2.2) (hlk : meth.locks = false) : zLk (zG p l e (zrm d) s m args below meth c E mX10_type.2.2.1 0 0 (MQ below (zQc E Q) args s 0 0 (zaA E))) 0 (b_X10_type_0 d (zG p l e (zrm d) s m args below meth c E mX10_type.2.2.1 0 0 (MQ below (zQc E Q) args s 0 0 (zaA E))) Q) := by
  unfold b_X10_type_0
  exact lk_iln B dX10_type_0 rfl (lk_zlt B dX10_type_1 (by decide) (k_X10_type_20 B hr hlk) (k_X10_type_4 B hr hlk))
def S_X10_type (d : Nat) (G : Nat → zK) (Q : zQ) : Prop := zLk G 0 (b_X10_type_0 d G Q)
theorem s_X10_type_0 {d : Nat} {G : Nat → zK} {Q : zQ} (h : S_X10_type d G Q) {ls st : List zV} {μ : zM} (k : b_X10_type_0 d G Q ls st μ) : G 0 ls st μ := h ls st μ k
theorem of_X10_type {d : Nat} {a0 a1 : zV} {μ : zM} {Q : zQ} (h : ∀ G : Nat → zK, S_X10_type d G Q → G 0 [a0, a1] [] μ) : zCt d mX10_type [a0, a1] μ Q := zCt.mk (by decide) (Nat.le_of_ble_eq_true rfl) (fun p l e s m args below meth c E B hr hlk => h _ (k_X10_type_0 B hr hlk))
theorem dX10_clear_0 : decode cX10_clear 0 = .ok (.aload_n 0, 1) := by decide +kernel
theorem dX10_clear_1 : decode cX10_clear 1 = .ok (.iconst 0, 1) := by decide +kernel
theorem dX10_clear_2 : decode cX10_clear 2 = .ok (.putfield 20, 3) := by decide +kernel
theorem dX10_clear_5 : decode cX10_clear 5 = .ok (.aload_n 0, 1) := by decide +kernel
theorem dX10_clear_6 : decode cX10_clear 6 = .ok (.getfield 34, 3) := by decide +kernel
theorem dX10_clear_9 : decode cX10_clear 9 = .ok (.invokevirtual 62, 3) := by decide +kernel
theorem dX10_clear_12 : decode cX10_clear 12 = .ok (.return_, 1) := by decide +kernel
def b_X10_clear_0 (d : Nat) (G : Nat → zK) (Q : zQ) : zK := o_al 0 <| o_c 0 <| o_pf 8 2 <| o_al 0 <| o_gf 8 4 <| o_callv (zCt (d - 1) mX8_makeEmpty) 6 1 <| t_vret Q
set_option maxRecDepth 20000 in
theorem k_X10_clear_0 {p : Program} {l : Launch} {e : Env} {s : State} {m : MethodId} {args : Array Value} {below : List Frame} {meth : Method} {c : Code} {E : zE} {d : Nat} {Q : zQ} (hd1 : 1 ≤ d) (B : zB p s m args c E mX10_clear.1.cls mX10_clear.2.1 mX10_clear.2.2.1) (hr : meth.sig.returnType = mX10_clear.2.2.2) (hlk : meth.locks = false) : zLk (zG p l e (zrm d) s m args below meth c E mX10_clear.2.2.1 0 0 (MQ below (zQc E Q) args s 0 0 (zaA E))) 0 (b_X10_clear_0 d (zG p l e (zrm d) s m args below meth c E mX10_clear.2.2.1 0 0 (MQ below (zQc E Q) args s 0 0 (zaA E))) Q) := by
  unfold b_X10_clear_0
  exact lk_aln B dX10_clear_0 rfl (lk_c B dX10_clear_1 (lk_pf (T := TX10) B cl_X10 (by decide) in_X10 tyX10_ok nmX10 zw_236 rfl (by decide +kernel) dX10_clear_2 (lk_aln B dX10_clear_5 rfl (lk_gf (T := TX10) B cl_X10 (by decide) in_X10 zw_238 dX10_clear_6 (lk_callv (M := mX8_makeEmpty) (T := TX8) (N := 4) B (zhR hd1 (by decide)) ⟨Nat.zero_le _, Nat.zero_le _⟩ cl_X8 (zw5 zw_273 zw_270 zw_271 zw_272 zw_54) (by decide +kernel) dX10_clear_9 (lk_vret B hr hlk dX10_clear_12))))))
def S_X10_clear (d : Nat) (G : Nat → zK) (Q : zQ) : Prop := zLk G 0 (b_X10_clear_0 d G Q)
theorem s_X10_clear_0 {d : Nat} {G : Nat → zK} {Q : zQ} (h : S_X10_clear d G Q) {ls st : List zV} {μ : zM} (k : b_X10_clear_0 d G Q ls st μ) : G 0 ls st μ := h ls st μ k
theorem of_X10_clear {d : Nat} {a0 : zV} {μ : zM} {Q : zQ} (hd1 : 1 ≤ d) (h : ∀ G : Nat → zK, S_X10_clear d G Q → G 0 [a0] [] μ) : zCt d mX10_clear [a0] μ Q := zCt.mk (by decide) (Nat.le_of_ble_eq_true rfl) (fun p l e s m args below meth c E B hr hlk => h _ (k_X10_clear_0 hd1 B hr hlk))
theorem dX10_name_0 : decode cX10_name 0 = .ok (.aload_n 0, 1) := by decide +kernel
theorem dX10_name_1 : decode cX10_name 1 = .ok (.getfield 16, 3) := by decide +kernel
theorem dX10_name_4 : decode cX10_name 4 = .ok (.iconst 0, 1) := by decide +kernel
theorem dX10_name_5 : decode cX10_name 5 = .ok (.aload_n 0, 1) := by decide +kernel
theorem dX10_name_6 : decode cX10_name 6 = .ok (.getfield 20, 3) := by decide +kernel
theorem dX10_name_9 : decode cX10_name 9 = .ok (.invokestatic 65, 3) := by decide +kernel
theorem dX10_name_12 : decode cX10_name 12 = .ok (.ireturn, 1) := by decide +kernel
def b_X10_name_0 (d : Nat) (G : Nat → zK) (Q : zQ) : zK := o_al 0 <| o_gf 8 1 <| o_c 0 <| o_al 0 <| o_gf 8 2 <| o_call (zCt (d - 1) mX10_nameOf) 3 <| t_iret Q
set_option maxRecDepth 20000 in
theorem k_X10_name_0 {p : Program} {l : Launch} {e : Env} {s : State} {m : MethodId} {args : Array Value} {below : List Frame} {meth : Method} {c : Code} {E : zE} {d : Nat} {Q : zQ} (hd1 : 1 ≤ d) (B : zB p s m args c E mX10_name.1.cls mX10_name.2.1 mX10_name.2.2.1) (hr : meth.sig.returnType = mX10_name.2.2.2) (hlk : meth.locks = false) : zLk (zG p l e (zrm d) s m args below meth c E mX10_name.2.2.1 0 0 (MQ below (zQc E Q) args s 0 0 (zaA E))) 0 (b_X10_name_0 d (zG p l e (zrm d) s m args below meth c E mX10_name.2.2.1 0 0 (MQ below (zQc E Q) args s 0 0 (zaA E))) Q) := by
  unfold b_X10_name_0
  exact lk_aln B dX10_name_0 rfl (lk_gf (T := TX10) B cl_X10 (by decide) in_X10 zw_235 dX10_name_1 (lk_c B dX10_name_4 (lk_aln B dX10_name_5 rfl (lk_gf (T := TX10) B cl_X10 (by decide) in_X10 zw_236 dX10_name_6 (lk_calls (M := mX10_nameOf) B (zhR hd1 (by decide)) ⟨Nat.zero_le _, Nat.zero_le _⟩ (zw4 zw_280 zw_278 zw_279 zw_49) (by decide +kernel) dX10_name_9 (lk_iret B hr hlk dX10_name_12))))))
def S_X10_name (d : Nat) (G : Nat → zK) (Q : zQ) : Prop := zLk G 0 (b_X10_name_0 d G Q)
theorem s_X10_name_0 {d : Nat} {G : Nat → zK} {Q : zQ} (h : S_X10_name d G Q) {ls st : List zV} {μ : zM} (k : b_X10_name_0 d G Q ls st μ) : G 0 ls st μ := h ls st μ k
theorem of_X10_name {d : Nat} {a0 : zV} {μ : zM} {Q : zQ} (hd1 : 1 ≤ d) (h : ∀ G : Nat → zK, S_X10_name d G Q → G 0 [a0] [] μ) : zCt d mX10_name [a0] μ Q := zCt.mk (by decide) (Nat.le_of_ble_eq_true rfl) (fun p l e s m args below meth c E B hr hlk => h _ (k_X10_name_0 hd1 B hr hlk))
theorem dX10_put_0 : decode cX10_put 0 = .ok (.iload_n 1, 1) := by decide +kernel
theorem dX10_put_1 : decode cX10_put 1 = .ok (.invokestatic 69, 3) := by decide +kernel
theorem dX10_put_4 : decode cX10_put 4 = .ok (.ifCond .eq 12, 3) := by decide +kernel
theorem dX10_put_7 : decode cX10_put 7 = .ok (.aload_n 0, 1) := by decide +kernel
theorem dX10_put_8 : decode cX10_put 8 = .ok (.getfield 20, 3) := by decide +kernel
theorem dX10_put_11 : decode cX10_put 11 = .ok (.bipush 18, 2) := by decide +kernel
theorem dX10_put_13 : decode cX10_put 13 = .ok (.if_icmp .le 5, 3) := by decide +kernel
theorem dX10_put_16 : decode cX10_put 16 = .ok (.iconst (-1), 1) := by decide +kernel
theorem dX10_put_17 : decode cX10_put 17 = .ok (.ireturn, 1) := by decide +kernel
theorem dX10_put_18 : decode cX10_put 18 = .ok (.aload_n 0, 1) := by decide +kernel
theorem dX10_put_19 : decode cX10_put 19 = .ok (.getfield 41, 3) := by decide +kernel
theorem dX10_put_22 : decode cX10_put 22 = .ok (.invokevirtual 75, 3) := by decide +kernel
theorem dX10_put_25 : decode cX10_put 25 = .ok (.iconst 0, 1) := by decide +kernel
theorem dX10_put_26 : decode cX10_put 26 = .ok (.istore_n 2, 1) := by decide +kernel
theorem dX10_put_27 : decode cX10_put 27 = .ok (.iload_n 2, 1) := by decide +kernel
theorem dX10_put_28 : decode cX10_put 28 = .ok (.aload_n 0, 1) := by decide +kernel
theorem dX10_put_29 : decode cX10_put 29 = .ok (.getfield 20, 3) := by decide +kernel
theorem dX10_put_32 : decode cX10_put 32 = .ok (.if_icmp .ge 22, 3) := by decide +kernel
theorem dX10_put_35 : decode cX10_put 35 = .ok (.aload_n 0, 1) := by decide +kernel
theorem dX10_put_36 : decode cX10_put 36 = .ok (.getfield 41, 3) := by decide +kernel
theorem dX10_put_39 : decode cX10_put 39 = .ok (.aload_n 0, 1) := by decide +kernel
theorem dX10_put_40 : decode cX10_put 40 = .ok (.getfield 16, 3) := by decide +kernel
theorem dX10_put_43 : decode cX10_put 43 = .ok (.iload_n 2, 1) := by decide +kernel
theorem dX10_put_44 : decode cX10_put 44 = .ok (.iaload, 1) := by decide +kernel
theorem dX10_put_45 : decode cX10_put 45 = .ok (.invokevirtual 78, 3) := by decide +kernel
theorem dX10_put_48 : decode cX10_put 48 = .ok (.iinc 2 1, 3) := by decide +kernel
theorem dX10_put_51 : decode cX10_put 51 = .ok (.goto (-24), 3) := by decide +kernel
theorem dX10_put_54 : decode cX10_put 54 = .ok (.aload_n 0, 1) := by decide +kernel
theorem dX10_put_55 : decode cX10_put 55 = .ok (.getfield 41, 3) := by decide +kernel
theorem dX10_put_58 : decode cX10_put 58 = .ok (.invokevirtual 82, 3) := by decide +kernel
theorem dX10_put_61 : decode cX10_put 61 = .ok (.istore_n 2, 1) := by decide +kernel
theorem dX10_put_62 : decode cX10_put 62 = .ok (.aload_n 0, 1) := by decide +kernel
theorem dX10_put_63 : decode cX10_put 63 = .ok (.getfield 41, 3) := by decide +kernel
theorem dX10_put_66 : decode cX10_put 66 = .ok (.invokevirtual 86, 3) := by decide +kernel
theorem dX10_put_69 : decode cX10_put 69 = .ok (.iconst 0, 1) := by decide +kernel
theorem dX10_put_70 : decode cX10_put 70 = .ok (.invokestatic 90, 3) := by decide +kernel
theorem dX10_put_73 : decode cX10_put 73 = .ok (.ifCond .ne 5, 3) := by decide +kernel
theorem dX10_put_76 : decode cX10_put 76 = .ok (.iconst (-1), 1) := by decide +kernel
theorem dX10_put_77 : decode cX10_put 77 = .ok (.ireturn, 1) := by decide +kernel
theorem dX10_put_78 : decode cX10_put 78 = .ok (.aload_n 0, 1) := by decide +kernel
theorem dX10_put_79 : decode cX10_put 79 = .ok (.iload_n 1, 1) := by decide +kernel
theorem dX10_put_80 : decode cX10_put 80 = .ok (.iload_n 2, 1) := by decide +kernel
theorem dX10_put_81 : decode cX10_put 81 = .ok (.invokevirtual 94, 3) := by decide +kernel
theorem dX10_put_84 : decode cX10_put 84 = .ok (.istore_n 3, 1) := by decide +kernel
theorem dX10_put_85 : decode cX10_put 85 = .ok (.iload_n 3, 1) := by decide +kernel
theorem dX10_put_86 : decode cX10_put 86 = .ok (.ifCond .lt 8, 3) := by decide +kernel
theorem dX10_put_89 : decode cX10_put 89 = .ok (.aload_n 0, 1) := by decide +kernel
theorem dX10_put_90 : decode cX10_put 90 = .ok (.iconst 0, 1) := by decide +kernel
theorem dX10_put_91 : decode cX10_put 91 = .ok (.putfield 20, 3) := by decide +kernel
theorem dX10_put_94 : decode cX10_put 94 = .ok (.iload_n 3, 1) := by decide +kernel
theorem dX10_put_95 : decode cX10_put 95 = .ok (.ireturn, 1) := by decide +kernel
def b_X10_put_16 (d : Nat) (G : Nat → zK) (Q : zQ) : zK := o_c (-1) <| t_iret Q
def b_X10_put_18 (d : Nat) (G : Nat → zK) (Q : zQ) : zK := o_al 0 <| o_gf 8 5 <| o_callv (zCt (d - 1) mX0_restart) 0 1 <| o_c 0 <| o_is 2 <| G 27
def b_X10_put_7 (d : Nat) (G : Nat → zK) (Q : zQ) : zK := o_al 0 <| o_gf 8 2 <| o_c 18 <| t_igt (b_X10_put_16 d G Q) (b_X10_put_18 d G Q)
def b_X10_put_0 (d : Nat) (G : Nat → zK) (Q : zQ) : zK := o_il 1 <| o_call (zCt (d - 1) mX10_isStore) 1 <| t_zeq (b_X10_put_16 d G Q) (b_X10_put_7 d G Q)
def b_X10_put_94 (d : Nat) (G : Nat → zK) (Q : zQ) : zK := o_il 3 <| t_iret Q
def b_X10_put_89 (d : Nat) (G : Nat → zK) (Q : zQ) : zK := o_al 0 <| o_c 0 <| o_pf 8 2 <| b_X10_put_94 d G Q
def b_X10_put_78 (d : Nat) (G : Nat → zK) (Q : zQ) : zK := o_al 0 <| o_il 1 <| o_il 2 <| o_callv (zCt (d - 1) mX10_bringIn) 8 3 <| o_is 3 <| o_il 3 <| t_zlt (b_X10_put_94 d G Q) (b_X10_put_89 d G Q)
def b_X10_put_76 (d : Nat) (G : Nat → zK) (Q : zQ) : zK := o_c (-1) <| t_iret Q
def b_X10_put_54 (d : Nat) (G : Nat → zK) (Q : zQ) : zK := o_al 0 <| o_gf 8 5 <| o_callv (zCt (d - 1) mX0_finishBlock) 0 1 <| o_is 2 <| o_al 0 <| o_gf 8 5 <| o_callv (zCt (d - 1) mX0_made) 0 1 <| o_c 0 <| o_call (zCt (d - 1) mX2_isBlock) 2 <| t_zeq (b_X10_put_76 d G Q) (b_X10_put_78 d G Q)
def b_X10_put_35 (d : Nat) (G : Nat → zK) (Q : zQ) : zK := o_al 0 <| o_gf 8 5 <| o_al 0 <| o_gf 8 1 <| o_il 2 <| o_iald <| o_callv (zCt (d - 1) mX0_write) 0 2 <| o_inc 2 1 <| G 27
def b_X10_put_27 (d : Nat) (G : Nat → zK) (Q : zQ) : zK := o_il 2 <| o_al 0 <| o_gf 8 2 <| t_ilt (b_X10_put_35 d G Q) (b_X10_put_54 d G Q)
set_option maxRecDepth 20000 in
theorem k_X10_put_16 {p : Program} {l : Launch} {e : Env} {s : State} {m : MethodId} {args : Array Value} {below : List Frame} {meth : Method} {c : Code} {E : zE} {d : Nat} {Q : zQ} (hd1 : 1 ≤ d) (B : zB p s m args c E mX10_put.1.cls mX10_put.2.1 mX10_put.2.2.1) (hr : meth.sig.returnType = mX10_put.2.2.2) (hlk : meth.locks = false) : zLk (zG p l e (zrm d) s m args below meth c E mX10_put.2.2.1 0 0 (MQ below (zQc E Q) args s 0 0 (zaA E))) 16 (b_X10_put_16 d (zG p l e (zrm d) s m args below meth c E mX10_put.2.2.1 0 0 (MQ below (zQc E Q) args s 0 0 (zaA E))) Q) := by
  unfold b_X10_put_16
  exact lk_c B dX10_put_16 (lk_iret B hr hlk dX10_put_17)
set_option maxRecDepth 20000 in
theorem k_X10_put_18 {p : Program} {l : Launch} {e : Env} {s : State} {m : MethodId} {args : Array Value} {below : List Frame} {meth : Method} {c : Code} {E : zE} {d : Nat} {Q : zQ} (hd1 : 1 ≤ d) (B : zB p s m args c E mX10_put.1.cls mX10_put.2.1 mX10_put.2.2.1) (hr : meth.sig.returnType = mX10_put.2.2.2) (hlk : meth.locks = false) : zLk (zG p l e (zrm d) s m args below meth c E mX10_put.2.2.1 0 0 (MQ below (zQc E Q) args s 0 0 (zaA E))) 18 (b_X10_put_18 d (zG p l e (zrm d) s m args below meth c E mX10_put.2.2.1 0 0 (MQ below (zQc E Q) args s 0 0 (zaA E))) Q) := by
  unfold b_X10_put_18
  exact lk_aln B dX10_put_18 rfl (lk_gf (T := TX10) B cl_X10 (by decide) in_X10 zw_239 dX10_put_19 (lk_callv (M := mX0_restart) (T := TX0) (N := 4) B (zhR hd1 (by decide)) ⟨Nat.zero_le _, Nat.zero_le _⟩ cl_X0 (zw5 zw_293 zw_290 zw_291 zw_292 zw_55) (by decide +kernel) dX10_put_22 (lk_c B dX10_put_25 (lk_isn B dX10_put_26 rfl (by decide) (fun _ _ _ h => h)))))
set_option maxRecDepth 20000 in
theorem k_X10_put_7 {p : Program} {l : Launch} {e : Env} {s : State} {m : MethodId} {args : Array Value} {below : List Frame} {meth : Method} {c : Code} {E : zE} {d : Nat} {Q : zQ} (hd1 : 1 ≤ d) (B : zB p s m args c E mX10_put.1.cls mX10_put.2.1 mX10_put.2.2.1) (hr : meth.sig.returnType = mX10_put.2.2.2) (hlk : meth.locks = false) : zLk (zG p l e (zrm d) s m args below meth c E mX10_put.2.2.1 0 0 (MQ below (zQc E Q) args s 0 0 (zaA E))) 7 (b_X10_put_7 d (zG p l e (zrm d) s m args below meth c E mX10_put.2.2.1 0 0 (MQ below (zQc E Q) args s 0 0 (zaA E))) Q) := by
  unfold b_X10_put_7
  exact lk_aln B dX10_put_7 rfl (lk_gf (T := TX10) B cl_X10 (by decide) in_X10 zw_236 dX10_put_8 (lk_b B dX10_put_11 rfl (lk_ile B dX10_put_13 (by decide) (k_X10_put_18 hd1 B hr hlk) (k_X10_put_16 hd1 B hr hlk))))
set_option maxRecDepth 20000 in
theorem k_X10_put_0 {p : Program} {l : Launch} {e : Env} {s : State} {m : MethodId} {args : Array Value} {below : List Frame} {meth : Method} {c : Code} {E : zE} {d : Nat} {Q : zQ} (hd1 : 1 ≤ d) (B : zB p s m args c E mX10_put.1.cls mX10_put.2.1 mX10_put.2.2.1) (hr : meth.sig.returnType = mX10_put.2.2.2) (hlk : meth.locks = false) : zLk (zG p l e (zrm d) s m args below meth c E mX10_put.2.2.1 0 0 (MQ below (zQc E Q) args s 0 0 (zaA E))) 0 (b_X10_put_0 d (zG p l e (zrm d) s m args below meth c E mX10_put.2.2.1 0 0 (MQ below (zQc E Q) args s 0 0 (zaA E))) Q) := by
  unfold b_X10_put_0
  exact lk_iln B dX10_put_0 rfl (lk_calls (M := mX10_isStore) B (zhR hd1 (by decide)) ⟨Nat.zero_le _, Nat.zero_le _⟩ (zw4 zw_289 zw_287 zw_288 zw_49) (by decide +kernel) dX10_put_1 (lk_zeq B dX10_put_4 (by decide) (k_X10_put_16 hd1 B hr hlk) (k_X10_put_7 hd1 B hr hlk)))
set_option maxRecDepth 20000 in
theorem k_X10_put_94 {p : Program} {l : Launch} {e : Env} {s : State} {m : MethodId} {args : Array Value} {below : List Frame} {meth : Method} {c : Code} {E : zE} {d : Nat} {Q : zQ} (hd1 : 1 ≤ d) (B : zB p s m args c E mX10_put.1.cls mX10_put.2.1 mX10_put.2.2.1) (hr : meth.sig.returnType = mX10_put.2.2.2) (hlk : meth.locks = false) : zLk (zG p l e (zrm d) s m args below meth c E mX10_put.2.2.1 0 0 (MQ below (zQc E Q) args s 0 0 (zaA E))) 94 (b_X10_put_94 d (zG p l e (zrm d) s m args below meth c E mX10_put.2.2.1 0 0 (MQ below (zQc E Q) args s 0 0 (zaA E))) Q) := by
  unfold b_X10_put_94
  exact lk_iln B dX10_put_94 rfl (lk_iret B hr hlk dX10_put_95)
set_option maxRecDepth 20000 in
theorem k_X10_put_89 {p : Program} {l : Launch} {e : Env} {s : State} {m : MethodId} {args : Array Value} {below : List Frame} {meth : Method} {c : Code} {E : zE} {d : Nat} {Q : zQ} (hd1 : 1 ≤ d) (B : zB p s m args c E mX10_put.1.cls mX10_put.2.1 mX10_put.2.2.1) (hr : meth.sig.returnType = mX10_put.2.2.2) (hlk : meth.locks = false) : zLk (zG p l e (zrm d) s m args below meth c E mX10_put.2.2.1 0 0 (MQ below (zQc E Q) args s 0 0 (zaA E))) 89 (b_X10_put_89 d (zG p l e (zrm d) s m args below meth c E mX10_put.2.2.1 0 0 (MQ below (zQc E Q) args s 0 0 (zaA E))) Q) := by
  unfold b_X10_put_89
  exact lk_aln B dX10_put_89 rfl (lk_c B dX10_put_90 (lk_pf (T := TX10) B cl_X10 (by decide) in_X10 tyX10_ok nmX10 zw_236 rfl (by decide +kernel) dX10_put_91 (k_X10_put_94 hd1 B hr hlk)))
set_option maxRecDepth 20000 in
theorem k_X10_put_78 {p : Program} {l : Launch} {e : Env} {s : State} {m : MethodId} {args : Array Value} {below : List Frame} {meth : Method} {c : Code} {E : zE} {d : Nat} {Q : zQ} (hd1 : 1 ≤ d) (B : zB p s m args c E mX10_put.1.cls mX10_put.2.1 mX10_put.2.2.1) (hr : meth.sig.returnType = mX10_put.2.2.2) (hlk : meth.locks = false) : zLk (zG p l e (zrm d) s m args below meth c E mX10_put.2.2.1 0 0 (MQ below (zQc E Q) args s 0 0 (zaA E))) 78 (b_X10_put_78 d (zG p l e (zrm d) s m args below meth c E mX10_put.2.2.1 0 0 (MQ below (zQc E Q) args s 0 0 (zaA E))) Q) := by
  unfold b_X10_put_78
  exact lk_aln B dX10_put_78 rfl (lk_iln B dX10_put_79 rfl (lk_iln B dX10_put_80 rfl (lk_callv (M := mX10_bringIn) (T := TX10) (N := 9) B (zhR hd1 (by decide)) ⟨Nat.zero_le _, Nat.zero_le _⟩ cl_X10 (zw5 zw_385 zw_382 zw_384 zw_0 zw_49) (by decide +kernel) dX10_put_81 (lk_isn B dX10_put_84 rfl (by decide) (lk_iln B dX10_put_85 rfl (lk_zlt B dX10_put_86 (by decide) (k_X10_put_94 hd1 B hr hlk) (k_X10_put_89 hd1 B hr hlk)))))))
set_option maxRecDepth 20000 in
theorem k_X10_put_76 {p : Program} {l : Launch} {e : Env} {s : State} {m : MethodId} {args : Array Value} {below : List Frame} {meth : Method} {c : Code} {E : zE} {d : Nat} {Q : zQ} (hd1 : 1 ≤ d) (B : zB p s m args c E mX10_put.1.cls mX10_put.2.1 mX10_put.2.2.1) (hr : meth.sig.returnType = mX10_put.2.2.2) (hlk : meth.locks = false) : zLk (zG p l e (zrm d) s m args below meth c E mX10_put.2.2.1 0 0 (MQ below (zQc E Q) args s 0 0 (zaA E))) 76 (b_X10_put_76 d (zG p l e (zrm d) s m args below meth c E mX10_put.2.2.1 0 0 (MQ below (zQc E Q) args s 0 0 (zaA E))) Q) := by
  unfold b_X10_put_76
  exact lk_c B dX10_put_76 (lk_iret B hr hlk dX10_put_77)
set_option maxRecDepth 20000 in
theorem k_X10_put_54 {p : Program} {l : Launch} {e : Env} {s : State} {m : MethodId} {args : Array Value} {below : List Frame} {meth : Method} {c : Code} {E : zE} {d : Nat} {Q : zQ} (hd1 : 1 ≤ d) (B : zB p s m args c E mX10_put.1.cls mX10_put.2.1 mX10_put.2.2.1) (hr : meth.sig.returnType = mX10_put.2.2.2) (hlk : meth.locks = false) : zLk (zG p l e (zrm d) s m args below meth c E mX10_put.2.2.1 0 0 (MQ below (zQc E Q) args s 0 0 (zaA E))) 54 (b_X10_put_54 d (zG p l e (zrm d) s m args below meth c E mX10_put.2.2.1 0 0 (MQ below (zQc E Q) args s 0 0 (zaA E))) Q) := by
  unfold b_X10_put_54
  exact lk_aln B dX10_put_54 rfl (lk_gf (T := TX10) B cl_X10 (by decide) in_X10 zw_239 dX10_put_55 (lk_callv (M := mX0_finishBlock) (T := TX0) (N := 4) B (zhR hd1 (by decide)) ⟨Nat.zero_le _, Nat.zero_le _⟩ cl_X0 (zw5 zw_305 zw_302 zw_303 zw_304 zw_55) (by decide +kernel) dX10_put_58 (lk_isn B dX10_put_61 rfl (by decide) (lk_aln B dX10_put_62 rfl (lk_gf (T := TX10) B cl_X10 (by decide) in_X10 zw_239 dX10_put_63 (lk_callv (M := mX0_made) (T := TX0) (N := 4) B (zhR hd1 (by decide)) ⟨Nat.zero_le _, Nat.zero_le _⟩ cl_X0 (zw5 zw_333 zw_330 zw_331 zw_332 zw_55) (by decide +kernel) dX10_put_66 (lk_c B dX10_put_69 (lk_calls (M := mX2_isBlock) B (zhR hd1 (by decide)) ⟨Nat.zero_le _, Nat.zero_le _⟩ (zw4 zw_336 zw_334 zw_335 zw_60) (by decide +kernel) dX10_put_70 (lk_zne B dX10_put_73 (by decide) (k_X10_put_78 hd1 B hr hlk) (k_X10_put_76 hd1 B hr hlk))))))))))
set_option maxRecDepth 20000 in
theorem k_X10_put_35 {p : Program} {l : Launch} {e : Env} {s : State} {m : MethodId} {args : Array Value} {below : List Frame} {meth : Method} {c : Code} {E : zE} {d : Nat} {Q : zQ} (hd1 : 1 ≤ d) (B : zB p s m args c E mX10_put.1.cls mX10_put.2.1 mX10_put.2.2.1) (hr : meth.sig.returnType = mX10_put.2.2.2) (hlk : meth.locks = false) : zLk (zG p l e (zrm d) s m args below meth c E mX10_put.2.2.1 0 0 (MQ below (zQc E Q) args s 0 0 (zaA E))) 35 (b_X10_put_35 d (zG p l e (zrm d) s m args below meth c E mX10_put.2.2.1 0 0 (MQ below (zQc E Q) args s 0 0 (zaA E))) Q) := by
  unfold b_X10_put_35
  exact lk_aln B dX10_put_35 rfl (lk_gf (T := TX10) B cl_X10 (by decide) in_X10 zw_239 dX10_put_36 (lk_aln B dX10_put_39 rfl (lk_gf (T := TX10) B cl_X10 (by decide) in_X10 zw_235 dX10_put_40 (lk_iln B dX10_put_43 rfl (lk_iald B dX10_put_44 (lk_callv (M := mX0_write) (T := TX0) (N := 4) B (zhR hd1 (by decide)) ⟨Nat.zero_le _, Nat.zero_le _⟩ cl_X0 (zw5 zw_301 zw_298 zw_299 zw_300 zw_55) (by decide +kernel) dX10_put_45 (lk_inc B dX10_put_48 (by decide) (lk_goto B dX10_put_51 (by decide) (fun _ _ _ h => h)))))))))
set_option maxRecDepth 20000 in
theorem k_X10_put_27 {p : Program} {l : Launch} {e : Env} {s : State} {m : MethodId} {args : Array Value} {below : List Frame} {meth : Method} {c : Code} {E : zE} {d : Nat} {Q : zQ} (hd1 : 1 ≤ d) (B : zB p s m args c E mX10_put.1.cls mX10_put.2.1 mX10_put.2.2.1) (hr : meth.sig.returnType = mX10_put.2.2.2) (hlk : meth.locks = false) : zLk (zG p l e (zrm d) s m args below meth c E mX10_put.2.2.1 0 0 (MQ below (zQc E Q) args s 0 0 (zaA E))) 27 (b_X10_put_27 d (zG p l e (zrm d) s m args below meth c E mX10_put.2.2.1 0 0 (MQ below (zQc E Q) args s 0 0 (zaA E))) Q) := by
  unfold b_X10_put_27
  exact lk_iln B dX10_put_27 rfl (lk_aln B dX10_put_28 rfl (lk_gf (T := TX10) B cl_X10 (by decide) in_X10 zw_236 dX10_put_29 (lk_ige B dX10_put_32 (by decide) (k_X10_put_54 hd1 B hr hlk) (k_X10_put_35 hd1 B hr hlk))))
def S_X10_put (d : Nat) (G : Nat → zK) (Q : zQ) : Prop := zLk G 0 (b_X10_put_0 d G Q) ∧ zLk G 27 (b_X10_put_27 d G Q)
theorem s_X10_put_0 {d : Nat} {G : Nat → zK} {Q : zQ} (h : S_X10_put d G Q) {ls st : List zV} {μ : zM} (k : b_X10_put_0 d G Q ls st μ) : G 0 ls st μ := h.1 ls st μ k
theorem s_X10_put_27 {d : Nat} {G : Nat → zK} {Q : zQ} (h : S_X10_put d G Q) {ls st : List zV} {μ : zM} (k : b_X10_put_27 d G Q ls st μ) : G 27 ls st μ := h.2 ls st μ k
theorem of_X10_put {d : Nat} {a0 a1 : zV} {μ : zM} {Q : zQ} (hd1 : 1 ≤ d) (h : ∀ G : Nat → zK, S_X10_put d G Q → G 0 [a0, a1, .inr none, .inr none] [] μ) : zCt d mX10_put [a0, a1] μ Q := zCt.mk (by decide) (Nat.le_of_ble_eq_true rfl) (fun p l e s m args below meth c E B hr hlk => h _ ⟨k_X10_put_0 hd1 B hr hlk, k_X10_put_27 hd1 B hr hlk⟩)
theorem dX10_add_0 : decode cX10_add 0 = .ok (.iload_n 1, 1) := by decide +kernel
theorem dX10_add_1 : decode cX10_add 1 = .ok (.invokestatic 69, 3) := by decide +kernel
theorem dX10_add_4 : decode cX10_add 4 = .ok (.ifCond .eq 23, 3) := by decide +kernel
theorem dX10_add_7 : decode cX10_add 7 = .ok (.iload_n 2, 1) := by decide +kernel
theorem dX10_add_8 : decode cX10_add 8 = .ok (.ifCond .lt 19, 3) := by decide +kernel
theorem dX10_add_11 : decode cX10_add 11 = .ok (.iload_n 2, 1) := by decide +kernel
theorem dX10_add_12 : decode cX10_add 12 = .ok (.bipush 8, 2) := by decide +kernel
theorem dX10_add_14 : decode cX10_add 14 = .ok (.if_icmp .gt 13, 3) := by decide +kernel
theorem dX10_add_17 : decode cX10_add 17 = .ok (.iload_n 3, 1) := by decide +kernel
theorem dX10_add_18 : decode cX10_add 18 = .ok (.iconst 2, 1) := by decide +kernel
theorem dX10_add_19 : decode cX10_add 19 = .ok (.if_icmp .lt 8, 3) := by decide +kernel
theorem dX10_add_22 : decode cX10_add 22 = .ok (.iload_n 3, 1) := by decide +kernel
theorem dX10_add_23 : decode cX10_add 23 = .ok (.iconst 4, 1) := by decide +kernel
theorem dX10_add_24 : decode cX10_add 24 = .ok (.if_icmp .le 5, 3) := by decide +kernel
theorem dX10_add_27 : decode cX10_add 27 = .ok (.iconst (-1), 1) := by decide +kernel
theorem dX10_add_28 : decode cX10_add 28 = .ok (.ireturn, 1) := by decide +kernel
theorem dX10_add_29 : decode cX10_add 29 = .ok (.aload_n 0, 1) := by decide +kernel
theorem dX10_add_30 : decode cX10_add 30 = .ok (.getfield 41, 3) := by decide +kernel
theorem dX10_add_33 : decode cX10_add 33 = .ok (.invokevirtual 75, 3) := by decide +kernel
theorem dX10_add_36 : decode cX10_add 36 = .ok (.aload_n 0, 1) := by decide +kernel
theorem dX10_add_37 : decode cX10_add 37 = .ok (.getfield 27, 3) := by decide +kernel
theorem dX10_add_40 : decode cX10_add 40 = .ok (.aload_n 0, 1) := by decide +kernel
theorem dX10_add_41 : decode cX10_add 41 = .ok (.getfield 16, 3) := by decide +kernel
theorem dX10_add_44 : decode cX10_add 44 = .ok (.aload_n 0, 1) := by decide +kernel
theorem dX10_add_45 : decode cX10_add 45 = .ok (.getfield 20, 3) := by decide +kernel
theorem dX10_add_48 : decode cX10_add 48 = .ok (.iload_n 2, 1) := by decide +kernel
theorem dX10_add_49 : decode cX10_add 49 = .ok (.iload_n 3, 1) := by decide +kernel
theorem dX10_add_50 : decode cX10_add 50 = .ok (.aload_n 0, 1) := by decide +kernel
theorem dX10_add_51 : decode cX10_add 51 = .ok (.getfield 41, 3) := by decide +kernel
theorem dX10_add_54 : decode cX10_add 54 = .ok (.invokevirtual 98, 3) := by decide +kernel
theorem dX10_add_57 : decode cX10_add 57 = .ok (.istore 4, 2) := by decide +kernel
theorem dX10_add_59 : decode cX10_add 59 = .ok (.aload_n 0, 1) := by decide +kernel
theorem dX10_add_60 : decode cX10_add 60 = .ok (.iload_n 1, 1) := by decide +kernel
theorem dX10_add_61 : decode cX10_add 61 = .ok (.iload 4, 2) := by decide +kernel
theorem dX10_add_63 : decode cX10_add 63 = .ok (.invokevirtual 94, 3) := by decide +kernel
theorem dX10_add_66 : decode cX10_add 66 = .ok (.istore 5, 2) := by decide +kernel
theorem dX10_add_68 : decode cX10_add 68 = .ok (.iload 5, 2) := by decide +kernel
theorem dX10_add_70 : decode cX10_add 70 = .ok (.ifCond .lt 8, 3) := by decide +kernel
theorem dX10_add_73 : decode cX10_add 73 = .ok (.aload_n 0, 1) := by decide +kernel
theorem dX10_add_74 : decode cX10_add 74 = .ok (.iconst 0, 1) := by decide +kernel
theorem dX10_add_75 : decode cX10_add 75 = .ok (.putfield 20, 3) := by decide +kernel
theorem dX10_add_78 : decode cX10_add 78 = .ok (.iload 5, 2) := by decide +kernel
theorem dX10_add_80 : decode cX10_add 80 = .ok (.ireturn, 1) := by decide +kernel
def b_X10_add_27 (d : Nat) (G : Nat → zK) (Q : zQ) : zK := o_c (-1) <| t_iret Q
def b_X10_add_78 (d : Nat) (G : Nat → zK) (Q : zQ) : zK := o_il 5 <| t_iret Q
def b_X10_add_73 (d : Nat) (G : Nat → zK) (Q : zQ) : zK := o_al 0 <| o_c 0 <| o_pf 8 2 <| b_X10_add_78 d G Q
def b_X10_add_29 (d : Nat) (G : Nat → zK) (Q : zQ) : zK := o_al 0 <| o_gf 8 5 <| o_callv (zCt (d - 1) mX0_restart) 0 1 <| o_al 0 <| o_gf 8 3 <| o_al 0 <| o_gf 8 1 <| o_al 0 <| o_gf 8 2 <| o_il 2 <| o_il 3 <| o_al 0 <| o_gf 8 5 <| o_callv (zCt (d - 1) mX1_makeFile) 1 6 <| o_is 4 <| o_al 0 <| o_il 1 <| o_il 4 <| o_callv (zCt (d - 1) mX10_bringIn) 8 3 <| o_is 5 <| o_il 5 <| t_zlt (b_X10_add_78 d G Q) (b_X10_add_73 d G Q)
def b_X10_add_22 (d : Nat) (G : Nat → zK) (Q : zQ) : zK := o_il 3 <| o_c 4 <| t_igt (b_X10_add_27 d G Q) (b_X10_add_29 d G Q)
def b_X10_add_17 (d : Nat) (G : Nat → zK) (Q : zQ) : zK := o_il 3 <| o_c 2 <| t_ilt (b_X10_add_27 d G Q) (b_X10_add_22 d G Q)
def b_X10_add_11 (d : Nat) (G : Nat → zK) (Q : zQ) : zK := o_il 2 <| o_c 8 <| t_igt (b_X10_add_27 d G Q) (b_X10_add_17 d G Q)
def b_X10_add_7 (d : Nat) (G : Nat → zK) (Q : zQ) : zK := o_il 2 <| t_zlt (b_X10_add_27 d G Q) (b_X10_add_11 d G Q)
def b_X10_add_0 (d : Nat) (G : Nat → zK) (Q : zQ) : zK := o_il 1 <| o_call (zCt (d - 1) mX10_isStore) 1 <| t_zeq (b_X10_add_27 d G Q) (b_X10_add_7 d G Q)
set_option maxRecDepth 20000 in
theorem k_X10_add_27 {p : Program} {l : Launch} {e : Env} {s : State} {m : MethodId} {args : Array Value} {below : List Frame} {meth : Method} {c : Code} {E : zE} {d : Nat} {Q : zQ} (hd1 : 1 ≤ d) (B : zB p s m args c E mX10_add.1.cls mX10_add.2.1 mX10_add.2.2.1) (hr : meth.sig.returnType = mX10_add.2.2.2) (hlk : meth.locks = false) : zLk (zG p l e (zrm d) s m args below meth c E mX10_add.2.2.1 0 0 (MQ below (zQc E Q) args s 0 0 (zaA E))) 27 (b_X10_add_27 d (zG p l e (zrm d) s m args below meth c E mX10_add.2.2.1 0 0 (MQ below (zQc E Q) args s 0 0 (zaA E))) Q) := by
  unfold b_X10_add_27
  exact lk_c B dX10_add_27 (lk_iret B hr hlk dX10_add_28)
set_option maxRecDepth 20000 in
theorem k_X10_add_78 {p : Program} {l : Launch} {e : Env} {s : State} {m : MethodId} {args : Array Value} {below : List Frame} {meth : Method} {c : Code} {E : zE} {d : Nat} {Q : zQ} (hd1 : 1 ≤ d) (B : zB p s m args c E mX10_add.1.cls mX10_add.2.1 mX10_add.2.2.1) (hr : meth.sig.returnType = mX10_add.2.2.2) (hlk : meth.locks = false) : zLk (zG p l e (zrm d) s m args below meth c E mX10_add.2.2.1 0 0 (MQ below (zQc E Q) args s 0 0 (zaA E))) 78 (b_X10_add_78 d (zG p l e (zrm d) s m args below meth c E mX10_add.2.2.1 0 0 (MQ below (zQc E Q) args s 0 0 (zaA E))) Q) := by
  unfold b_X10_add_78
  exact lk_il B dX10_add_78 (lk_iret B hr hlk dX10_add_80)
set_option maxRecDepth 20000 in
theorem k_X10_add_73 {p : Program} {l : Launch} {e : Env} {s : State} {m : MethodId} {args : Array Value} {below : List Frame} {meth : Method} {c : Code} {E : zE} {d : Nat} {Q : zQ} (hd1 : 1 ≤ d) (B : zB p s m args c E mX10_add.1.cls mX10_add.2.1 mX10_add.2.2.1) (hr : meth.sig.returnType = mX10_add.2.2.2) (hlk : meth.locks = false) : zLk (zG p l e (zrm d) s m args below meth c E mX10_add.2.2.1 0 0 (MQ below (zQc E Q) args s 0 0 (zaA E))) 73 (b_X10_add_73 d (zG p l e (zrm d) s m args below meth c E mX10_add.2.2.1 0 0 (MQ below (zQc E Q) args s 0 0 (zaA E))) Q) := by
  unfold b_X10_add_73
  exact lk_aln B dX10_add_73 rfl (lk_c B dX10_add_74 (lk_pf (T := TX10) B cl_X10 (by decide) in_X10 tyX10_ok nmX10 zw_236 rfl (by decide +kernel) dX10_add_75 (k_X10_add_78 hd1 B hr hlk)))
set_option maxRecDepth 20000 in
theorem k_X10_add_29 {p : Program} {l : Launch} {e : Env} {s : State} {m : MethodId} {args : Array Value} {below : List Frame} {meth : Method} {c : Code} {E : zE} {d : Nat} {Q : zQ} (hd1 : 1 ≤ d) (B : zB p s m args c E mX10_add.1.cls mX10_add.2.1 mX10_add.2.2.1) (hr : meth.sig.returnType = mX10_add.2.2.2) (hlk : meth.locks = false) : zLk (zG p l e (zrm d) s m args below meth c E mX10_add.2.2.1 0 0 (MQ below (zQc E Q) args s 0 0 (zaA E))) 29 (b_X10_add_29 d (zG p l e (zrm d) s m args below meth c E mX10_add.2.2.1 0 0 (MQ below (zQc E Q) args s 0 0 (zaA E))) Q) := by
  unfold b_X10_add_29
  exact lk_aln B dX10_add_29 rfl (lk_gf (T := TX10) B cl_X10 (by decide) in_X10 zw_239 dX10_add_30 (lk_callv (M := mX0_restart) (T := TX0) (N := 4) B (zhR hd1 (by decide)) ⟨Nat.zero_le _, Nat.zero_le _⟩ cl_X0 (zw5 zw_293 zw_290 zw_291 zw_292 zw_55) (by decide +kernel) dX10_add_33 (lk_aln B dX10_add_36 rfl (lk_gf (T := TX10) B cl_X10 (by decide) in_X10 zw_237 dX10_add_37 (lk_aln B dX10_add_40 rfl (lk_gf (T := TX10) B cl_X10 (by decide) in_X10 zw_235 dX10_add_41 (lk_aln B dX10_add_44 rfl (lk_gf (T := TX10) B cl_X10 (by decide) in_X10 zw_236 dX10_add_45 (lk_iln B dX10_add_48 rfl (lk_iln B dX10_add_49 rfl (lk_aln B dX10_add_50 rfl (lk_gf (T := TX10) B cl_X10 (by decide) in_X10 zw_239 dX10_add_51 (lk_callv (M := mX1_makeFile) (T := TX1) (N := 3) B (zhR hd1 (by decide)) ⟨Nat.zero_le _, Nat.zero_le _⟩ cl_X1 (zw5 zw_468 zw_465 zw_466 zw_467 zw_53) (by decide +kernel) dX10_add_54 (lk_is B dX10_add_57 (by decide) (lk_aln B dX10_add_59 rfl (lk_iln B dX10_add_60 rfl (lk_il B dX10_add_61 (lk_callv (M := mX10_bringIn) (T := TX10) (N := 9) B (zhR hd1 (by decide)) ⟨Nat.zero_le _, Nat.zero_le _⟩ cl_X10 (zw5 zw_385 zw_382 zw_384 zw_0 zw_49) (by decide +kernel) dX10_add_63 (lk_is B dX10_add_66 (by decide) (lk_il B dX10_add_68 (lk_zlt B dX10_add_70 (by decide) (k_X10_add_78 hd1 B hr hlk) (k_X10_add_73 hd1 B hr hlk))))))))))))))))))))))
set_option maxRecDepth 20000 in
theorem k_X10_add_22 {p : Program} {l : Launch} {e : Env} {s : State} {m : MethodId} {args : Array Value} {below : List Frame} {meth : Method} {c : Code} {E : zE} {d : Nat} {Q : zQ} (hd1 : 1 ≤ d) (B : zB p s m args c E mX10_add.1.cls mX10_add.2.1 mX10_add.2.2.1) (hr : meth.sig.returnType = mX10_add.2.2.2) (hlk : meth.locks = false) : zLk (zG p l e (zrm d) s m args below meth c E mX10_add.2.2.1 0 0 (MQ below (zQc E Q) args s 0 0 (zaA E))) 22 (b_X10_add_22 d (zG p l e (zrm d) s m args below meth c E mX10_add.2.2.1 0 0 (MQ below (zQc E Q) args s 0 0 (zaA E))) Q) := by
  unfold b_X10_add_22
  exact lk_iln B dX10_add_22 rfl (lk_c B dX10_add_23 (lk_ile B dX10_add_24 (by decide) (k_X10_add_29 hd1 B hr hlk) (k_X10_add_27 hd1 B hr hlk)))
set_option maxRecDepth 20000 in
theorem k_X10_add_17 {p : Program} {l : Launch} {e : Env} {s : State} {m : MethodId} {args : Array Value} {below : List Frame} {meth : Method} {c : Code} {E : zE} {d : Nat} {Q : zQ} (hd1 : 1 ≤ d) (B : zB p s m args c E mX10_add.1.cls mX10_add.2.1 mX10_add.2.2.1) (hr : meth.sig.returnType = mX10_add.2.2.2) (hlk : meth.locks = false) : zLk (zG p l e (zrm d) s m args below meth c E mX10_add.2.2.1 0 0 (MQ below (zQc E Q) args s 0 0 (zaA E))) 17 (b_X10_add_17 d (zG p l e (zrm d) s m args below meth c E mX10_add.2.2.1 0 0 (MQ below (zQc E Q) args s 0 0 (zaA E))) Q) := by
  unfold b_X10_add_17
  exact lk_iln B dX10_add_17 rfl (lk_c B dX10_add_18 (lk_ilt B dX10_add_19 (by decide) (k_X10_add_27 hd1 B hr hlk) (k_X10_add_22 hd1 B hr hlk)))
set_option maxRecDepth 20000 in
theorem k_X10_add_11 {p : Program} {l : Launch} {e : Env} {s : State} {m : MethodId} {args : Array Value} {below : List Frame} {meth : Method} {c : Code} {E : zE} {d : Nat} {Q : zQ} (hd1 : 1 ≤ d) (B : zB p s m args c E mX10_add.1.cls mX10_add.2.1 mX10_add.2.2.1) (hr : meth.sig.returnType = mX10_add.2.2.2) (hlk : meth.locks = false) : zLk (zG p l e (zrm d) s m args below meth c E mX10_add.2.2.1 0 0 (MQ below (zQc E Q) args s 0 0 (zaA E))) 11 (b_X10_add_11 d (zG p l e (zrm d) s m args below meth c E mX10_add.2.2.1 0 0 (MQ below (zQc E Q) args s 0 0 (zaA E))) Q) := by
  unfold b_X10_add_11
  exact lk_iln B dX10_add_11 rfl (lk_b B dX10_add_12 rfl (lk_igt B dX10_add_14 (by decide) (k_X10_add_27 hd1 B hr hlk) (k_X10_add_17 hd1 B hr hlk)))
set_option maxRecDepth 20000 in
theorem k_X10_add_7 {p : Program} {l : Launch} {e : Env} {s : State} {m : MethodId} {args : Array Value} {below : List Frame} {meth : Method} {c : Code} {E : zE} {d : Nat} {Q : zQ} (hd1 : 1 ≤ d) (B : zB p s m args c E mX10_add.1.cls mX10_add.2.1 mX10_add.2.2.1) (hr : meth.sig.returnType = mX10_add.2.2.2) (hlk : meth.locks = false) : zLk (zG p l e (zrm d) s m args below meth c E mX10_add.2.2.1 0 0 (MQ below (zQc E Q) args s 0 0 (zaA E))) 7 (b_X10_add_7 d (zG p l e (zrm d) s m args below meth c E mX10_add.2.2.1 0 0 (MQ below (zQc E Q) args s 0 0 (zaA E))) Q) := by
  unfold b_X10_add_7
  exact lk_iln B dX10_add_7 rfl (lk_zlt B dX10_add_8 (by decide) (k_X10_add_27 hd1 B hr hlk) (k_X10_add_11 hd1 B hr hlk))
set_option maxRecDepth 20000 in
theorem k_X10_add_0 {p : Program} {l : Launch} {e : Env} {s : State} {m : MethodId} {args : Array Value} {below : List Frame} {meth : Method} {c : Code} {E : zE} {d : Nat} {Q : zQ} (hd1 : 1 ≤ d) (B : zB p s m args c E mX10_add.1.cls mX10_add.2.1 mX10_add.2.2.1) (hr : meth.sig.returnType = mX10_add.2.2.2) (hlk : meth.locks = false) : zLk (zG p l e (zrm d) s m args below meth c E mX10_add.2.2.1 0 0 (MQ below (zQc E Q) args s 0 0 (zaA E))) 0 (b_X10_add_0 d (zG p l e (zrm d) s m args below meth c E mX10_add.2.2.1 0 0 (MQ below (zQc E Q) args s 0 0 (zaA E))) Q) := by
  unfold b_X10_add_0
  exact lk_iln B dX10_add_0 rfl (lk_calls (M := mX10_isStore) B (zhR hd1 (by decide)) ⟨Nat.zero_le _, Nat.zero_le _⟩ (zw4 zw_289 zw_287 zw_288 zw_49) (by decide +kernel) dX10_add_1 (lk_zeq B dX10_add_4 (by decide) (k_X10_add_27 hd1 B hr hlk) (k_X10_add_7 hd1 B hr hlk)))
def S_X10_add (d : Nat) (G : Nat → zK) (Q : zQ) : Prop := zLk G 0 (b_X10_add_0 d G Q)
theorem s_X10_add_0 {d : Nat} {G : Nat → zK} {Q : zQ} (h : S_X10_add d G Q) {ls st : List zV} {μ : zM} (k : b_X10_add_0 d G Q ls st μ) : G 0 ls st μ := h ls st μ k
theorem of_X10_add {d : Nat} {a0 a1 a2 a3 : zV} {μ : zM} {Q : zQ} (hd1 : 1 ≤ d) (h : ∀ G : Nat → zK, S_X10_add d G Q → G 0 [a0, a1, a2, a3, .inr none, .inr none] [] μ) : zCt d mX10_add [a0, a1, a2, a3] μ Q := zCt.mk (by decide) (Nat.le_of_ble_eq_true rfl) (fun p l e s m args below meth c E B hr hlk => h _ (k_X10_add_0 hd1 B hr hlk))
theorem dX10_entry_0 : decode cX10_entry 0 = .ok (.iload_n 1, 1) := by decide +kernel
theorem dX10_entry_1 : decode cX10_entry 1 = .ok (.iconst 1, 1) := by decide +kernel
theorem dX10_entry_2 : decode cX10_entry 2 = .ok (.if_icmp .lt 17, 3) := by decide +kernel
theorem dX10_entry_5 : decode cX10_entry 5 = .ok (.iload_n 1, 1) := by decide +kernel
theorem dX10_entry_6 : decode cX10_entry 6 = .ok (.sipush 255, 3) := by decide +kernel
theorem dX10_entry_9 : decode cX10_entry 9 = .ok (.if_icmp .gt 10, 3) := by decide +kernel
theorem dX10_entry_12 : decode cX10_entry 12 = .ok (.iload_n 2, 1) := by decide +kernel
theorem dX10_entry_13 : decode cX10_entry 13 = .ok (.invokestatic 102, 3) := by decide +kernel
theorem dX10_entry_16 : decode cX10_entry 16 = .ok (.ifCond .ne 5, 3) := by decide +kernel
theorem dX10_entry_19 : decode cX10_entry 19 = .ok (.iconst 0, 1) := by decide +kernel
theorem dX10_entry_20 : decode cX10_entry 20 = .ok (.ireturn, 1) := by decide +kernel
theorem dX10_entry_21 : decode cX10_entry 21 = .ok (.aload_n 0, 1) := by decide +kernel
theorem dX10_entry_22 : decode cX10_entry 22 = .ok (.getfield 34, 3) := by decide +kernel
theorem dX10_entry_25 : decode cX10_entry 25 = .ok (.iload_n 1, 1) := by decide +kernel
theorem dX10_entry_26 : decode cX10_entry 26 = .ok (.iload_n 2, 1) := by decide +kernel
theorem dX10_entry_27 : decode cX10_entry 27 = .ok (.invokevirtual 105, 3) := by decide +kernel
theorem dX10_entry_30 : decode cX10_entry 30 = .ok (.ireturn, 1) := by decide +kernel
def b_X10_entry_19 (d : Nat) (G : Nat → zK) (Q : zQ) : zK := o_c 0 <| t_zret Q
def b_X10_entry_21 (d : Nat) (G : Nat → zK) (Q : zQ) : zK := o_al 0 <| o_gf 8 4 <| o_il 1 <| o_il 2 <| o_callv (zCt (d - 1) mX8_enter) 6 3 <| t_zret Q
def b_X10_entry_12 (d : Nat) (G : Nat → zK) (Q : zQ) : zK := o_il 2 <| o_call (zCt (d - 1) mX10_isName) 1 <| t_zeq (b_X10_entry_19 d G Q) (b_X10_entry_21 d G Q)
def b_X10_entry_5 (d : Nat) (G : Nat → zK) (Q : zQ) : zK := o_il 1 <| o_c 255 <| t_igt (b_X10_entry_19 d G Q) (b_X10_entry_12 d G Q)
def b_X10_entry_0 (d : Nat) (G : Nat → zK) (Q : zQ) : zK := o_il 1 <| o_c 1 <| t_ilt (b_X10_entry_19 d G Q) (b_X10_entry_5 d G Q)
set_option maxRecDepth 20000 in
theorem k_X10_entry_19 {p : Program} {l : Launch} {e : Env} {s : State} {m : MethodId} {args : Array Value} {below : List Frame} {meth : Method} {c : Code} {E : zE} {d : Nat} {Q : zQ} (hd1 : 1 ≤ d) (B : zB p s m args c E mX10_entry.1.cls mX10_entry.2.1 mX10_entry.2.2.1) (hr : meth.sig.returnType = mX10_entry.2.2.2) (hlk : meth.locks = false) : zLk (zG p l e (zrm d) s m args below meth c E mX10_entry.2.2.1 0 0 (MQ below (zQc E Q) args s 0 0 (zaA E))) 19 (b_X10_entry_19 d (zG p l e (zrm d) s m args below meth c E mX10_entry.2.2.1 0 0 (MQ below (zQc E Q) args s 0 0 (zaA E))) Q) := by
  unfold b_X10_entry_19
  exact lk_c B dX10_entry_19 (lk_zret B hr hlk dX10_entry_20)
set_option maxRecDepth 20000 in
theorem k_X10_entry_21 {p : Program} {l : Launch} {e : Env} {s : State} {m : MethodId} {args : Array Value} {below : List Frame} {meth : Method} {c : Code} {E : zE} {d : Nat} {Q : zQ} (hd1 : 1 ≤ d) (B : zB p s m args c E mX10_entry.1.cls mX10_entry.2.1 mX10_entry.2.2.1) (hr : meth.sig.returnType = mX10_entry.2.2.2) (hlk : meth.locks = false) : zLk (zG p l e (zrm d) s m args below meth c E mX10_entry.2.2.1 0 0 (MQ below (zQc E Q) args s 0 0 (zaA E))) 21 (b_X10_entry_21 d (zG p l e (zrm d) s m args below meth c E mX10_entry.2.2.1 0 0 (MQ below (zQc E Q) args s 0 0 (zaA E))) Q) := by
  unfold b_X10_entry_21
  exact lk_aln B dX10_entry_21 rfl (lk_gf (T := TX10) B cl_X10 (by decide) in_X10 zw_238 dX10_entry_22 (lk_iln B dX10_entry_25 rfl (lk_iln B dX10_entry_26 rfl (lk_callv (M := mX8_enter) (T := TX8) (N := 4) B (zhR hd1 (by decide)) ⟨Nat.zero_le _, Nat.zero_le _⟩ cl_X8 (zw5 zw_498 zw_495 zw_496 zw_497 zw_54) (by decide +kernel) dX10_entry_27 (lk_zret B hr hlk dX10_entry_30)))))
set_option maxRecDepth 20000 in
theorem k_X10_entry_12 {p : Program} {l : Launch} {e : Env} {s : State} {m : MethodId} {args : Array Value} {below : List Frame} {meth : Method} {c : Code} {E : zE} {d : Nat} {Q : zQ} (hd1 : 1 ≤ d) (B : zB p s m args c E mX10_entry.1.cls mX10_entry.2.1 mX10_entry.2.2.1) (hr : meth.sig.returnType = mX10_entry.2.2.2) (hlk : meth.locks = false) : zLk (zG p l e (zrm d) s m args below meth c E mX10_entry.2.2.1 0 0 (MQ below (zQc E Q) args s 0 0 (zaA E))) 12 (b_X10_entry_12 d (zG p l e (zrm d) s m args below meth c E mX10_entry.2.2.1 0 0 (MQ below (zQc E Q) args s 0 0 (zaA E))) Q) := by
  unfold b_X10_entry_12
  exact lk_iln B dX10_entry_12 rfl (lk_calls (M := mX10_isName) B (zhR hd1 (by decide)) ⟨Nat.zero_le _, Nat.zero_le _⟩ (zw4 zw_375 zw_494 zw_374 zw_49) (by decide +kernel) dX10_entry_13 (lk_zne B dX10_entry_16 (by decide) (k_X10_entry_21 hd1 B hr hlk) (k_X10_entry_19 hd1 B hr hlk)))
set_option maxRecDepth 20000 in
theorem k_X10_entry_5 {p : Program} {l : Launch} {e : Env} {s : State} {m : MethodId} {args : Array Value} {below : List Frame} {meth : Method} {c : Code} {E : zE} {d : Nat} {Q : zQ} (hd1 : 1 ≤ d) (B : zB p s m args c E mX10_entry.1.cls mX10_entry.2.1 mX10_entry.2.2.1) (hr : meth.sig.returnType = mX10_entry.2.2.2) (hlk : meth.locks = false) : zLk (zG p l e (zrm d) s m args below meth c E mX10_entry.2.2.1 0 0 (MQ below (zQc E Q) args s 0 0 (zaA E))) 5 (b_X10_entry_5 d (zG p l e (zrm d) s m args below meth c E mX10_entry.2.2.1 0 0 (MQ below (zQc E Q) args s 0 0 (zaA E))) Q) := by
  unfold b_X10_entry_5
  exact lk_iln B dX10_entry_5 rfl (lk_s B dX10_entry_6 rfl (lk_igt B dX10_entry_9 (by decide) (k_X10_entry_19 hd1 B hr hlk) (k_X10_entry_12 hd1 B hr hlk)))
set_option maxRecDepth 20000 in
theorem k_X10_entry_0 {p : Program} {l : Launch} {e : Env} {s : State} {m : MethodId} {args : Array Value} {below : List Frame} {meth : Method} {c : Code} {E : zE} {d : Nat} {Q : zQ} (hd1 : 1 ≤ d) (B : zB p s m args c E mX10_entry.1.cls mX10_entry.2.1 mX10_entry.2.2.1) (hr : meth.sig.returnType = mX10_entry.2.2.2) (hlk : meth.locks = false) : zLk (zG p l e (zrm d) s m args below meth c E mX10_entry.2.2.1 0 0 (MQ below (zQc E Q) args s 0 0 (zaA E))) 0 (b_X10_entry_0 d (zG p l e (zrm d) s m args below meth c E mX10_entry.2.2.1 0 0 (MQ below (zQc E Q) args s 0 0 (zaA E))) Q) := by
  unfold b_X10_entry_0
  exact lk_iln B dX10_entry_0 rfl (lk_c B dX10_entry_1 (lk_ilt B dX10_entry_2 (by decide) (k_X10_entry_19 hd1 B hr hlk) (k_X10_entry_5 hd1 B hr hlk)))
def S_X10_entry (d : Nat) (G : Nat → zK) (Q : zQ) : Prop := zLk G 0 (b_X10_entry_0 d G Q)
theorem s_X10_entry_0 {d : Nat} {G : Nat → zK} {Q : zQ} (h : S_X10_entry d G Q) {ls st : List zV} {μ : zM} (k : b_X10_entry_0 d G Q ls st μ) : G 0 ls st μ := h ls st μ k
theorem of_X10_entry {d : Nat} {a0 a1 a2 : zV} {μ : zM} {Q : zQ} (hd1 : 1 ≤ d) (h : ∀ G : Nat → zK, S_X10_entry d G Q → G 0 [a0, a1, a2] [] μ) : zCt d mX10_entry [a0, a1, a2] μ Q := zCt.mk (by decide) (Nat.le_of_ble_eq_true rfl) (fun p l e s m args below meth c E B hr hlk => h _ (k_X10_entry_0 hd1 B hr hlk))
theorem dX10_folder_0 : decode cX10_folder 0 = .ok (.iload_n 1, 1) := by decide +kernel
theorem dX10_folder_1 : decode cX10_folder 1 = .ok (.invokestatic 69, 3) := by decide +kernel
theorem dX10_folder_4 : decode cX10_folder 4 = .ok (.ifCond .ne 5, 3) := by decide +kernel
theorem dX10_folder_7 : decode cX10_folder 7 = .ok (.iconst (-1), 1) := by decide +kernel
theorem dX10_folder_8 : decode cX10_folder 8 = .ok (.ireturn, 1) := by decide +kernel
theorem dX10_folder_9 : decode cX10_folder 9 = .ok (.aload_n 0, 1) := by decide +kernel
theorem dX10_folder_10 : decode cX10_folder 10 = .ok (.getfield 41, 3) := by decide +kernel
theorem dX10_folder_13 : decode cX10_folder 13 = .ok (.invokevirtual 75, 3) := by decide +kernel
theorem dX10_folder_16 : decode cX10_folder 16 = .ok (.aload_n 0, 1) := by decide +kernel
theorem dX10_folder_17 : decode cX10_folder 17 = .ok (.getfield 34, 3) := by decide +kernel
theorem dX10_folder_20 : decode cX10_folder 20 = .ok (.aload_n 0, 1) := by decide +kernel
theorem dX10_folder_21 : decode cX10_folder 21 = .ok (.getfield 41, 3) := by decide +kernel
theorem dX10_folder_24 : decode cX10_folder 24 = .ok (.invokevirtual 109, 3) := by decide +kernel
theorem dX10_folder_27 : decode cX10_folder 27 = .ok (.istore_n 2, 1) := by decide +kernel
theorem dX10_folder_28 : decode cX10_folder 28 = .ok (.aload_n 0, 1) := by decide +kernel
theorem dX10_folder_29 : decode cX10_folder 29 = .ok (.iload_n 1, 1) := by decide +kernel
theorem dX10_folder_30 : decode cX10_folder 30 = .ok (.iload_n 2, 1) := by decide +kernel
theorem dX10_folder_31 : decode cX10_folder 31 = .ok (.invokevirtual 94, 3) := by decide +kernel
theorem dX10_folder_34 : decode cX10_folder 34 = .ok (.istore_n 3, 1) := by decide +kernel
theorem dX10_folder_35 : decode cX10_folder 35 = .ok (.iload_n 3, 1) := by decide +kernel
theorem dX10_folder_36 : decode cX10_folder 36 = .ok (.ifCond .lt 10, 3) := by decide +kernel
theorem dX10_folder_39 : decode cX10_folder 39 = .ok (.aload_n 0, 1) := by decide +kernel
theorem dX10_folder_40 : decode cX10_folder 40 = .ok (.getfield 34, 3) := by decide +kernel
theorem dX10_folder_43 : decode cX10_folder 43 = .ok (.invokevirtual 62, 3) := by decide +kernel
theorem dX10_folder_46 : decode cX10_folder 46 = .ok (.iload_n 3, 1) := by decide +kernel
theorem dX10_folder_47 : decode cX10_folder 47 = .ok (.ireturn, 1) := by decide +kernel
def b_X10_folder_46 (d : Nat) (G : Nat → zK) (Q : zQ) : zK := o_il 3 <| t_iret Q
def b_X10_folder_39 (d : Nat) (G : Nat → zK) (Q : zQ) : zK := o_al 0 <| o_gf 8 4 <| o_callv (zCt (d - 1) mX8_makeEmpty) 6 1 <| b_X10_folder_46 d G Q
def b_X10_folder_9 (d : Nat) (G : Nat → zK) (Q : zQ) : zK := o_al 0 <| o_gf 8 5 <| o_callv (zCt (d - 1) mX0_restart) 0 1 <| o_al 0 <| o_gf 8 4 <| o_al 0 <| o_gf 8 5 <| o_callv (zCt (d - 1) mX8_makeFolder) 6 2 <| o_is 2 <| o_al 0 <| o_il 1 <| o_il 2 <| o_callv (zCt (d - 1) mX10_bringIn) 8 3 <| o_is 3 <| o_il 3 <| t_zlt (b_X10_folder_46 d G Q) (b_X10_folder_39 d G Q)
def b_X10_folder_7 (d : Nat) (G : Nat → zK) (Q : zQ) : zK := o_c (-1) <| t_iret Q
def b_X10_folder_0 (d : Nat) (G : Nat → zK) (Q : zQ) : zK := o_il 1 <| o_call (zCt (d - 1) mX10_isStore) 1 <| t_zeq (b_X10_folder_7 d G Q) (b_X10_folder_9 d G Q)
set_option maxRecDepth 20000 in
theorem k_X10_folder_46 {p : Program} {l : Launch} {e : Env} {s : State} {m : MethodId} {args : Array Value} {below : List Frame} {meth : Method} {c : Code} {E : zE} {d : Nat} {Q : zQ} (hd1 : 1 ≤ d) (B : zB p s m args c E mX10_folder.1.cls mX10_folder.2.1 mX10_folder.2.2.1) (hr : meth.sig.returnType = mX10_folder.2.2.2) (hlk : meth.locks = false) : zLk (zG p l e (zrm d) s m args below meth c E mX10_folder.2.2.1 0 0 (MQ below (zQc E Q) args s 0 0 (zaA E))) 46 (b_X10_folder_46 d (zG p l e (zrm d) s m args below meth c E mX10_folder.2.2.1 0 0 (MQ below (zQc E Q) args s 0 0 (zaA E))) Q) := by
  unfold b_X10_folder_46
  exact lk_iln B dX10_folder_46 rfl (lk_iret B hr hlk dX10_folder_47)
set_option maxRecDepth 20000 in
theorem k_X10_folder_39 {p : Program} {l : Launch} {e : Env} {s : State} {m : MethodId} {args : Array Value} {below : List Frame} {meth : Method} {c : Code} {E : zE} {d : Nat} {Q : zQ} (hd1 : 1 ≤ d) (B : zB p s m args c E mX10_folder.1.cls mX10_folder.2.1 mX10_folder.2.2.1) (hr : meth.sig.returnType = mX10_folder.2.2.2) (hlk : meth.locks = false) : zLk (zG p l e (zrm d) s m args below meth c E mX10_folder.2.2.1 0 0 (MQ below (zQc E Q) args s 0 0 (zaA E))) 39 (b_X10_folder_39 d (zG p l e (zrm d) s m args below meth c E mX10_folder.2.2.1 0 0 (MQ below (zQc E Q) args s 0 0 (zaA E))) Q) := by
  unfold b_X10_folder_39
  exact lk_aln B dX10_folder_39 rfl (lk_gf (T := TX10) B cl_X10 (by decide) in_X10 zw_238 dX10_folder_40 (lk_callv (M := mX8_makeEmpty) (T := TX8) (N := 4) B (zhR hd1 (by decide)) ⟨Nat.zero_le _, Nat.zero_le _⟩ cl_X8 (zw5 zw_273 zw_270 zw_271 zw_272 zw_54) (by decide +kernel) dX10_folder_43 (k_X10_folder_46 hd1 B hr hlk)))
set_option maxRecDepth 20000 in
theorem k_X10_folder_9 {p : Program} {l : Launch} {e : Env} {s : State} {m : MethodId} {args : Array Value} {below : List Frame} {meth : Method} {c : Code} {E : zE} {d : Nat} {Q : zQ} (hd1 : 1 ≤ d) (B : zB p s m args c E mX10_folder.1.cls mX10_folder.2.1 mX10_folder.2.2.1) (hr : meth.sig.returnType = mX10_folder.2.2.2) (hlk : meth.locks = false) : zLk (zG p l e (zrm d) s m args below meth c E mX10_folder.2.2.1 0 0 (MQ below (zQc E Q) args s 0 0 (zaA E))) 9 (b_X10_folder_9 d (zG p l e (zrm d) s m args below meth c E mX10_folder.2.2.1 0 0 (MQ below (zQc E Q) args s 0 0 (zaA E))) Q) := by
  unfold b_X10_folder_9
  exact lk_aln B dX10_folder_9 rfl (lk_gf (T := TX10) B cl_X10 (by decide) in_X10 zw_239 dX10_folder_10 (lk_callv (M := mX0_restart) (T := TX0) (N := 4) B (zhR hd1 (by decide)) ⟨Nat.zero_le _, Nat.zero_le _⟩ cl_X0 (zw5 zw_293 zw_290 zw_291 zw_292 zw_55) (by decide +kernel) dX10_folder_13 (lk_aln B dX10_folder_16 rfl (lk_gf (T := TX10) B cl_X10 (by decide) in_X10 zw_238 dX10_folder_17 (lk_aln B dX10_folder_20 rfl (lk_gf (T := TX10) B cl_X10 (by decide) in_X10 zw_239 dX10_folder_21 (lk_callv (M := mX8_makeFolder) (T := TX8) (N := 4) B (zhR hd1 (by decide)) ⟨Nat.zero_le _, Nat.zero_le _⟩ cl_X8 (zw5 zw_507 zw_504 zw_505 zw_506 zw_54) (by decide +kernel) dX10_folder_24 (lk_isn B dX10_folder_27 rfl (by decide) (lk_aln B dX10_folder_28 rfl (lk_iln B dX10_folder_29 rfl (lk_iln B dX10_folder_30 rfl (lk_callv (M := mX10_bringIn) (T := TX10) (N := 9) B (zhR hd1 (by decide)) ⟨Nat.zero_le _, Nat.zero_le _⟩ cl_X10 (zw5 zw_385 zw_382 zw_384 zw_0 zw_49) (by decide +kernel) dX10_folder_31 (lk_isn B dX10_folder_34 rfl (by decide) (lk_iln B dX10_folder_35 rfl (lk_zlt B dX10_folder_36 (by decide) (k_X10_folder_46 hd1 B hr hlk) (k_X10_folder_39 hd1 B hr hlk))))))))))))))))
set_option maxRecDepth 20000 in
theorem k_X10_folder_7 {p : Program} {l : Launch} {e : Env} {s : State} {m : MethodId} {args : Array Value} {below : List Frame} {meth : Method} {c : Code} {E : zE} {d : Nat} {Q : zQ} (hd1 : 1 ≤ d) (B : zB p s m args c E mX10_folder.1.cls mX10_folder.2.1 mX10_folder.2.2.1) (hr : meth.sig.returnType = mX10_folder.2.2.2) (hlk : meth.locks = false) : zLk (zG p l e (zrm d) s m args below meth c E mX10_folder.2.2.1 0 0 (MQ below (zQc E Q) args s 0 0 (zaA E))) 7 (b_X10_folder_7 d (zG p l e (zrm d) s m args below meth c E mX10_folder.2.2.1 0 0 (MQ below (zQc E Q) args s 0 0 (zaA E))) Q) := by
  unfold b_X10_folder_7
  exact lk_c B dX10_folder_7 (lk_iret B hr hlk dX10_folder_8)
set_option maxRecDepth 20000 in
theorem k_X10_folder_0 {p : Program} {l : Launch} {e : Env} {s : State} {m : MethodId} {args : Array Value} {below : List Frame} {meth : Method} {c : Code} {E : zE} {d : Nat} {Q : zQ} (hd1 : 1 ≤ d) (B : zB p s m args c E mX10_folder.1.cls mX10_folder.2.1 mX10_folder.2.2.1) (hr : meth.sig.returnType = mX10_folder.2.2.2) (hlk : meth.locks = false) : zLk (zG p l e (zrm d) s m args below meth c E mX10_folder.2.2.1 0 0 (MQ below (zQc E Q) args s 0 0 (zaA E))) 0 (b_X10_folder_0 d (zG p l e (zrm d) s m args below meth c E mX10_folder.2.2.1 0 0 (MQ below (zQc E Q) args s 0 0 (zaA E))) Q) := by
  unfold b_X10_folder_0
  exact lk_iln B dX10_folder_0 rfl (lk_calls (M := mX10_isStore) B (zhR hd1 (by decide)) ⟨Nat.zero_le _, Nat.zero_le _⟩ (zw4 zw_289 zw_287 zw_288 zw_49) (by decide +kernel) dX10_folder_1 (lk_zne B dX10_folder_4 (by decide) (k_X10_folder_9 hd1 B hr hlk) (k_X10_folder_7 hd1 B hr hlk)))
def S_X10_folder (d : Nat) (G : Nat → zK) (Q : zQ) : Prop := zLk G 0 (b_X10_folder_0 d G Q)
theorem s_X10_folder_0 {d : Nat} {G : Nat → zK} {Q : zQ} (h : S_X10_folder d G Q) {ls st : List zV} {μ : zM} (k : b_X10_folder_0 d G Q ls st μ) : G 0 ls st μ := h ls st μ k
theorem of_X10_folder {d : Nat} {a0 a1 : zV} {μ : zM} {Q : zQ} (hd1 : 1 ≤ d) (h : ∀ G : Nat → zK, S_X10_folder d G Q → G 0 [a0, a1, .inr none, .inr none] [] μ) : zCt d mX10_folder [a0, a1] μ Q := zCt.mk (by decide) (Nat.le_of_ble_eq_true rfl) (fun p l e s m args below meth c E B hr hlk => h _ (k_X10_folder_0 hd1 B hr hlk))
theorem dX10_bytes_0 : decode cX10_bytes 0 = .ok (.iload_n 1, 1) := by decide +kernel
theorem dX10_bytes_1 : decode cX10_bytes 1 = .ok (.invokestatic 69, 3) := by decide +kernel
theorem dX10_bytes_4 : decode cX10_bytes 4 = .ok (.ifCond .ne 5, 3) := by decide +kernel
theorem dX10_bytes_7 : decode cX10_bytes 7 = .ok (.iconst (-1), 1) := by decide +kernel
theorem dX10_bytes_8 : decode cX10_bytes 8 = .ok (.ireturn, 1) := by decide +kernel
theorem dX10_bytes_9 : decode cX10_bytes 9 = .ok (.aload_n 0, 1) := by decide +kernel
theorem dX10_bytes_10 : decode cX10_bytes 10 = .ok (.getfield 11, 3) := by decide +kernel
theorem dX10_bytes_13 : decode cX10_bytes 13 = .ok (.iload_n 1, 1) := by decide +kernel
theorem dX10_bytes_14 : decode cX10_bytes 14 = .ok (.aaload, 1) := by decide +kernel
theorem dX10_bytes_15 : decode cX10_bytes 15 = .ok (.invokevirtual 113, 3) := by decide +kernel
theorem dX10_bytes_18 : decode cX10_bytes 18 = .ok (.astore_n 3, 1) := by decide +kernel
theorem dX10_bytes_19 : decode cX10_bytes 19 = .ok (.aload_n 3, 1) := by decide +kernel
theorem dX10_bytes_20 : decode cX10_bytes 20 = .ok (.aload_n 3, 1) := by decide +kernel
theorem dX10_bytes_21 : decode cX10_bytes 21 = .ok (.iload_n 2, 1) := by decide +kernel
theorem dX10_bytes_22 : decode cX10_bytes 22 = .ok (.invokevirtual 116, 3) := by decide +kernel
theorem dX10_bytes_25 : decode cX10_bytes 25 = .ok (.invokevirtual 122, 3) := by decide +kernel
theorem dX10_bytes_28 : decode cX10_bytes 28 = .ok (.ireturn, 1) := by decide +kernel
def b_X10_bytes_9 (d : Nat) (G : Nat → zK) (Q : zQ) : zK := o_al 0 <| o_gf 8 0 <| o_il 1 <| o_aald <| o_callv (zCt (d - 1) mX7_shelf) 5 1 <| o_as 3 <| o_al 3 <| o_al 3 <| o_il 2 <| o_callv (zCt (d - 1) mX6_slotOf) 4 2 <| o_callv (zCt (d - 1) mX6_sizeAt) 4 2 <| t_iret Q
def b_X10_bytes_7 (d : Nat) (G : Nat → zK) (Q : zQ) : zK := o_c (-1) <| t_iret Q
def b_X10_bytes_0 (d : Nat) (G : Nat → zK) (Q : zQ) : zK := o_il 1 <| o_call (zCt (d - 1) mX10_isStore) 1 <| t_zeq (b_X10_bytes_7 d G Q) (b_X10_bytes_9 d G Q)
set_option maxRecDepth 20000 in
theorem k_X10_bytes_9 {p : Program} {l : Launch} {e : Env} {s : State} {m : MethodId} {args : Array Value} {below : List Frame} {meth : Method} {c : Code} {E : zE} {d : Nat} {Q : zQ} (hd1 : 1 ≤ d) (B : zB p s m args c E mX10_bytes.1.cls mX10_bytes.2.1 mX10_bytes.2.2.1) (hr : meth.sig.returnType = mX10_bytes.2.2.2) (hlk : meth.locks = false) : zLk (zG p l e (zrm d) s m args below meth c E mX10_bytes.2.2.1 0 0 (MQ below (zQc E Q) args s 0 0 (zaA E))) 9 (b_X10_bytes_9 d (zG p l e (zrm d) s m args below meth c E mX10_bytes.2.2.1 0 0 (MQ below (zQc E Q) args s 0 0 (zaA E))) Q) := by
  unfold b_X10_bytes_9
  exact lk_aln B dX10_bytes_9 rfl (lk_gf (T := TX10) B cl_X10 (by decide) in_X10 zw_234 dX10_bytes_10 (lk_iln B dX10_bytes_13 rfl (lk_aald B dX10_bytes_14 (lk_callv (M := mX7_shelf) (T := TX7) (N := 5) B (zhR hd1 (by decide)) ⟨Nat.zero_le _, Nat.zero_le _⟩ cl_X7 (zw5 zw_538 zw_535 zw_536 zw_537 zw_50) (by decide +kernel) dX10_bytes_15 (lk_asn B dX10_bytes_18 rfl (by decide) (lk_aln B dX10_bytes_19 rfl (lk_aln B dX10_bytes_20 rfl (lk_iln B dX10_bytes_21 rfl (lk_callv (M := mX6_slotOf) (T := TX6) (N := 5) B (zhR hd1 (by decide)) ⟨Nat.zero_le _, Nat.zero_le _⟩ cl_X6 (zw5 zw_310 zw_539 zw_308 zw_309 zw_51) (by decide +kernel) dX10_bytes_22 (lk_callv (M := mX6_sizeAt) (T := TX6) (N := 5) B (zhR hd1 (by decide)) ⟨Nat.zero_le _, Nat.zero_le _⟩ cl_X6 (zw5 zw_340 zw_540 zw_338 zw_339 zw_51) (by decide +kernel) dX10_bytes_25 (lk_iret B hr hlk dX10_bytes_28)))))))))))
set_option maxRecDepth 20000 in
theorem k_X10_bytes_7 {p : Program} {l : Launch} {e : Env} {s : State} {m : MethodId} {args : Array Value} {below : List Frame} {meth : Method} {c : Code} {E : zE} {d : Nat} {Q : zQ} (hd1 : 1 ≤ d) (B : zB p s m args c E mX10_bytes.1.cls mX10_bytes.2.1 mX10_bytes.2.2.1) (hr : meth.sig.returnType = mX10_bytes.2.2.2) (hlk : meth.locks = false) : zLk (zG p l e (zrm d) s m args below meth c E mX10_bytes.2.2.1 0 0 (MQ below (zQc E Q) args s 0 0 (zaA E))) 7 (b_X10_bytes_7 d (zG p l e (zrm d) s m args below meth c E mX10_bytes.2.2.1 0 0 (MQ below (zQc E Q) args s 0 0 (zaA E))) Q) := by
  unfold b_X10_bytes_7
  exact lk_c B dX10_bytes_7 (lk_iret B hr hlk dX10_bytes_8)
set_option maxRecDepth 20000 in
theorem k_X10_bytes_0 {p : Program} {l : Launch} {e : Env} {s : State} {m : MethodId} {args : Array Value} {below : List Frame} {meth : Method} {c : Code} {E : zE} {d : Nat} {Q : zQ} (hd1 : 1 ≤ d) (B : zB p s m args c E mX10_bytes.1.cls mX10_bytes.2.1 mX10_bytes.2.2.1) (hr : meth.sig.returnType = mX10_bytes.2.2.2) (hlk : meth.locks = false) : zLk (zG p l e (zrm d) s m args below meth c E mX10_bytes.2.2.1 0 0 (MQ below (zQc E Q) args s 0 0 (zaA E))) 0 (b_X10_bytes_0 d (zG p l e (zrm d) s m args below meth c E mX10_bytes.2.2.1 0 0 (MQ below (zQc E Q) args s 0 0 (zaA E))) Q) := by
  unfold b_X10_bytes_0
  exact lk_iln B dX10_bytes_0 rfl (lk_calls (M := mX10_isStore) B (zhR hd1 (by decide)) ⟨Nat.zero_le _, Nat.zero_le _⟩ (zw4 zw_289 zw_287 zw_288 zw_49) (by decide +kernel) dX10_bytes_1 (lk_zne B dX10_bytes_4 (by decide) (k_X10_bytes_9 hd1 B hr hlk) (k_X10_bytes_7 hd1 B hr hlk)))
def S_X10_bytes (d : Nat) (G : Nat → zK) (Q : zQ) : Prop := zLk G 0 (b_X10_bytes_0 d G Q)
theorem s_X10_bytes_0 {d : Nat} {G : Nat → zK} {Q : zQ} (h : S_X10_bytes d G Q) {ls st : List zV} {μ : zM} (k : b_X10_bytes_0 d G Q ls st μ) : G 0 ls st μ := h ls st μ k
theorem of_X10_bytes {d : Nat} {a0 a1 a2 : zV} {μ : zM} {Q : zQ} (hd1 : 1 ≤ d) (h : ∀ G : Nat → zK, S_X10_bytes d G Q → G 0 [a0, a1, a2, .inr none] [] μ) : zCt d mX10_bytes [a0, a1, a2] μ Q := zCt.mk (by decide) (Nat.le_of_ble_eq_true rfl) (fun p l e s m args below meth c E B hr hlk => h _ (k_X10_bytes_0 hd1 B hr hlk))
theorem dX10_raw_0 : decode cX10_raw 0 = .ok (.iload_n 1, 1) := by decide +kernel
theorem dX10_raw_1 : decode cX10_raw 1 = .ok (.invokestatic 69, 3) := by decide +kernel
theorem dX10_raw_4 : decode cX10_raw 4 = .ok (.ifCond .ne 5, 3) := by decide +kernel
theorem dX10_raw_7 : decode cX10_raw 7 = .ok (.iconst (-1), 1) := by decide +kernel
theorem dX10_raw_8 : decode cX10_raw 8 = .ok (.ireturn, 1) := by decide +kernel
theorem dX10_raw_9 : decode cX10_raw 9 = .ok (.aload_n 0, 1) := by decide +kernel
theorem dX10_raw_10 : decode cX10_raw 10 = .ok (.getfield 11, 3) := by decide +kernel
theorem dX10_raw_13 : decode cX10_raw 13 = .ok (.iload_n 1, 1) := by decide +kernel
theorem dX10_raw_14 : decode cX10_raw 14 = .ok (.aaload, 1) := by decide +kernel
theorem dX10_raw_15 : decode cX10_raw 15 = .ok (.invokevirtual 113, 3) := by decide +kernel
theorem dX10_raw_18 : decode cX10_raw 18 = .ok (.astore 4, 2) := by decide +kernel
theorem dX10_raw_20 : decode cX10_raw 20 = .ok (.aload 4, 2) := by decide +kernel
theorem dX10_raw_22 : decode cX10_raw 22 = .ok (.aload 4, 2) := by decide +kernel
theorem dX10_raw_24 : decode cX10_raw 24 = .ok (.iload_n 2, 1) := by decide +kernel
theorem dX10_raw_25 : decode cX10_raw 25 = .ok (.invokevirtual 116, 3) := by decide +kernel
theorem dX10_raw_28 : decode cX10_raw 28 = .ok (.iload_n 3, 1) := by decide +kernel
theorem dX10_raw_29 : decode cX10_raw 29 = .ok (.invokevirtual 125, 3) := by decide +kernel
theorem dX10_raw_32 : decode cX10_raw 32 = .ok (.ireturn, 1) := by decide +kernel
def b_X10_raw_9 (d : Nat) (G : Nat → zK) (Q : zQ) : zK := o_al 0 <| o_gf 8 0 <| o_il 1 <| o_aald <| o_callv (zCt (d - 1) mX7_shelf) 5 1 <| o_as 4 <| o_al 4 <| o_al 4 <| o_il 2 <| o_callv (zCt (d - 1) mX6_slotOf) 4 2 <| o_il 3 <| o_callv (zCt (d - 1) mX6_byteAt) 4 3 <| t_iret Q
def b_X10_raw_7 (d : Nat) (G : Nat → zK) (Q : zQ) : zK := o_c (-1) <| t_iret Q
def b_X10_raw_0 (d : Nat) (G : Nat → zK) (Q : zQ) : zK := o_il 1 <| o_call (zCt (d - 1) mX10_isStore) 1 <| t_zeq (b_X10_raw_7 d G Q) (b_X10_raw_9 d G Q)
set_option maxRecDepth 20000 in
theorem k_X10_raw_9 {p : Program} {l : Launch} {e : Env} {s : State} {m : MethodId} {args : Array Value} {below : List Frame} {meth : Method} {c : Code} {E : zE} {d : Nat} {Q : zQ} (hd1 : 1 ≤ d) (B : zB p s m args c E mX10_raw.1.cls mX10_raw.2.1 mX10_raw.2.2.1) (hr : meth.sig.returnType = mX10_raw.2.2.2) (hlk : meth.locks = false) : zLk (zG p l e (zrm d) s m args below meth c E mX10_raw.2.2.1 0 0 (MQ below (zQc E Q) args s 0 0 (zaA E))) 9 (b_X10_raw_9 d (zG p l e (zrm d) s m args below meth c E mX10_raw.2.2.1 0 0 (MQ below (zQc E Q) args s 0 0 (zaA E))) Q) := by
  unfold b_X10_raw_9
  exact lk_aln B dX10_raw_9 rfl (lk_gf (T := TX10) B cl_X10 (by decide) in_X10 zw_234 dX10_raw_10 (lk_iln B dX10_raw_13 rfl (lk_aald B dX10_raw_14 (lk_callv (M := mX7_shelf) (T := TX7) (N := 5) B (zhR hd1 (by decide)) ⟨Nat.zero_le _, Nat.zero_le _⟩ cl_X7 (zw5 zw_538 zw_535 zw_536 zw_537 zw_50) (by decide +kernel) dX10_raw_15 (lk_as B dX10_raw_18 (by decide) (lk_al B dX10_raw_20 (lk_al B dX10_raw_22 (lk_iln B dX10_raw_24 rfl (lk_callv (M := mX6_slotOf) (T := TX6) (N := 5) B (zhR hd1 (by decide)) ⟨Nat.zero_le _, Nat.zero_le _⟩ cl_X6 (zw5 zw_310 zw_539 zw_308 zw_309 zw_51) (by decide +kernel) dX10_raw_25 (lk_iln B dX10_raw_28 rfl (lk_callv (M := mX6_byteAt) (T := TX6) (N := 5) B (zhR hd1 (by decide)) ⟨Nat.zero_le _, Nat.zero_le _⟩ cl_X6 (zw5 zw_348 zw_545 zw_346 zw_347 zw_51) (by decide +kernel) dX10_raw_29 (lk_iret B hr hlk dX10_raw_32))))))))))))
set_option maxRecDepth 20000 in
theorem k_X10_raw_7 {p : Program} {l : Launch} {e : Env} {s : State} {m : MethodId} {args : Array Value} {below : List Frame} {meth : Method} {c : Code} {E : zE} {d : Nat} {Q : zQ} (hd1 : 1 ≤ d) (B : zB p s m args c E mX10_raw.1.cls mX10_raw.2.1 mX10_raw.2.2.1) (hr : meth.sig.returnType = mX10_raw.2.2.2) (hlk : meth.locks = false) : zLk (zG p l e (zrm d) s m args below meth c E mX10_raw.2.2.1 0 0 (MQ below (zQc E Q) args s 0 0 (zaA E))) 7 (b_X10_raw_7 d (zG p l e (zrm d) s m args below meth c E mX10_raw.2.2.1 0 0 (MQ below (zQc E Q) args s 0 0 (zaA E))) Q) := by
  unfold b_X10_raw_7
  exact lk_c B dX10_raw_7 (lk_iret B hr hlk dX10_raw_8)
set_option maxRecDepth 20000 in
theorem k_X10_raw_0 {p : Program} {l : Launch} {e : Env} {s : State} {m : MethodId} {args : Array Value} {below : List Frame} {meth : Method} {c : Code} {E : zE} {d : Nat} {Q : zQ} (hd1 : 1 ≤ d) (B : zB p s m args c E mX10_raw.1.cls mX10_raw.2.1 mX10_raw.2.2.1) (hr : meth.sig.returnType = mX10_raw.2.2.2) (hlk : meth.locks = false) : zLk (zG p l e (zrm d) s m args below meth c E mX10_raw.2.2.1 0 0 (MQ below (zQc E Q) args s 0 0 (zaA E))) 0 (b_X10_raw_0 d (zG p l e (zrm d) s m args below meth c E mX10_raw.2.2.1 0 0 (MQ below (zQc E Q) args s 0 0 (zaA E))) Q) := by
  unfold b_X10_raw_0
  exact lk_iln B dX10_raw_0 rfl (lk_calls (M := mX10_isStore) B (zhR hd1 (by decide)) ⟨Nat.zero_le _, Nat.zero_le _⟩ (zw4 zw_289 zw_287 zw_288 zw_49) (by decide +kernel) dX10_raw_1 (lk_zne B dX10_raw_4 (by decide) (k_X10_raw_9 hd1 B hr hlk) (k_X10_raw_7 hd1 B hr hlk)))
def S_X10_raw (d : Nat) (G : Nat → zK) (Q : zQ) : Prop := zLk G 0 (b_X10_raw_0 d G Q)
theorem s_X10_raw_0 {d : Nat} {G : Nat → zK} {Q : zQ} (h : S_X10_raw d G Q) {ls st : List zV} {μ : zM} (k : b_X10_raw_0 d G Q ls st μ) : G 0 ls st μ := h ls st μ k
theorem of_X10_raw {d : Nat} {a0 a1 a2 a3 : zV} {μ : zM} {Q : zQ} (hd1 : 1 ≤ d) (h : ∀ G : Nat → zK, S_X10_raw d G Q → G 0 [a0, a1, a2, a3, .inr none] [] μ) : zCt d mX10_raw [a0, a1, a2, a3] μ Q := zCt.mk (by decide) (Nat.le_of_ble_eq_true rfl) (fun p l e s m args below meth c E B hr hlk => h _ (k_X10_raw_0 hd1 B hr hlk))
theorem dX10_length_0 : decode cX10_length 0 = .ok (.iload_n 1, 1) := by decide +kernel
theorem dX10_length_1 : decode cX10_length 1 = .ok (.invokestatic 69, 3) := by decide +kernel
theorem dX10_length_4 : decode cX10_length 4 = .ok (.ifCond .ne 5, 3) := by decide +kernel
theorem dX10_length_7 : decode cX10_length 7 = .ok (.iconst (-1), 1) := by decide +kernel
theorem dX10_length_8 : decode cX10_length 8 = .ok (.ireturn, 1) := by decide +kernel
theorem dX10_length_9 : decode cX10_length 9 = .ok (.aload_n 0, 1) := by decide +kernel
theorem dX10_length_10 : decode cX10_length 10 = .ok (.getfield 11, 3) := by decide +kernel
theorem dX10_length_13 : decode cX10_length 13 = .ok (.iload_n 1, 1) := by decide +kernel
theorem dX10_length_14 : decode cX10_length 14 = .ok (.aaload, 1) := by decide +kernel
theorem dX10_length_15 : decode cX10_length 15 = .ok (.invokevirtual 113, 3) := by decide +kernel
theorem dX10_length_18 : decode cX10_length 18 = .ok (.astore_n 3, 1) := by decide +kernel
theorem dX10_length_19 : decode cX10_length 19 = .ok (.aload_n 3, 1) := by decide +kernel
theorem dX10_length_20 : decode cX10_length 20 = .ok (.aload_n 3, 1) := by decide +kernel
theorem dX10_length_21 : decode cX10_length 21 = .ok (.iload_n 2, 1) := by decide +kernel
theorem dX10_length_22 : decode cX10_length 22 = .ok (.invokevirtual 116, 3) := by decide +kernel
theorem dX10_length_25 : decode cX10_length 25 = .ok (.invokestatic 128, 3) := by decide +kernel
theorem dX10_length_28 : decode cX10_length 28 = .ok (.ireturn, 1) := by decide +kernel
def b_X10_length_9 (d : Nat) (G : Nat → zK) (Q : zQ) : zK := o_al 0 <| o_gf 8 0 <| o_il 1 <| o_aald <| o_callv (zCt (d - 1) mX7_shelf) 5 1 <| o_as 3 <| o_al 3 <| o_al 3 <| o_il 2 <| o_callv (zCt (d - 1) mX6_slotOf) 4 2 <| o_call (zCt (d - 1) mX2_lengthAt) 2 <| t_iret Q
def b_X10_length_7 (d : Nat) (G : Nat → zK) (Q : zQ) : zK := o_c (-1) <| t_iret Q
def b_X10_length_0 (d : Nat) (G : Nat → zK) (Q : zQ) : zK := o_il 1 <| o_call (zCt (d - 1) mX10_isStore) 1 <| t_zeq (b_X10_length_7 d G Q) (b_X10_length_9 d G Q)
set_option maxRecDepth 20000 in
theorem k_X10_length_9 {p : Program} {l : Launch} {e : Env} {s : State} {m : MethodId} {args : Array Value} {below : List Frame} {meth : Method} {c : Code} {E : zE} {d : Nat} {Q : zQ} (hd1 : 1 ≤ d) (B : zB p s m args c E mX10_length.1.cls mX10_length.2.1 mX10_length.2.2.1) (hr : meth.sig.returnType = mX10_length.2.2.2) (hlk : meth.locks = false) : zLk (zG p l e (zrm d) s m args below meth c E mX10_length.2.2.1 0 0 (MQ below (zQc E Q) args s 0 0 (zaA E))) 9 (b_X10_length_9 d (zG p l e (zrm d) s m args below meth c E mX10_length.2.2.1 0 0 (MQ below (zQc E Q) args s 0 0 (zaA E))) Q) := by
  unfold b_X10_length_9
  exact lk_aln B dX10_length_9 rfl (lk_gf (T := TX10) B cl_X10 (by decide) in_X10 zw_234 dX10_length_10 (lk_iln B dX10_length_13 rfl (lk_aald B dX10_length_14 (lk_callv (M := mX7_shelf) (T := TX7) (N := 5) B (zhR hd1 (by decide)) ⟨Nat.zero_le _, Nat.zero_le _⟩ cl_X7 (zw5 zw_538 zw_535 zw_536 zw_537 zw_50) (by decide +kernel) dX10_length_15 (lk_asn B dX10_length_18 rfl (by decide) (lk_aln B dX10_length_19 rfl (lk_aln B dX10_length_20 rfl (lk_iln B dX10_length_21 rfl (lk_callv (M := mX6_slotOf) (T := TX6) (N := 5) B (zhR hd1 (by decide)) ⟨Nat.zero_le _, Nat.zero_le _⟩ cl_X6 (zw5 zw_310 zw_539 zw_308 zw_309 zw_51) (by decide +kernel) dX10_length_22 (lk_calls (M := mX2_lengthAt) B (zhR hd1 (by decide)) ⟨Nat.zero_le _, Nat.zero_le _⟩ (zw4 zw_552 zw_550 zw_551 zw_60) (by decide +kernel) dX10_length_25 (lk_iret B hr hlk dX10_length_28)))))))))))
set_option maxRecDepth 20000 in
theorem k_X10_length_7 {p : Program} {l : Launch} {e : Env} {s : State} {m : MethodId} {args : Array Value} {below : List Frame} {meth : Method} {c : Code} {E : zE} {d : Nat} {Q : zQ} (hd1 : 1 ≤ d) (B : zB p s m args c E mX10_length.1.cls mX10_length.2.1 mX10_length.2.2.1) (hr : meth.sig.returnType = mX10_length.2.2.2) (hlk : meth.locks = false) : zLk (zG p l e (zrm d) s m args below meth c E mX10_length.2.2.1 0 0 (MQ below (zQc E Q) args s 0 0 (zaA E))) 7 (b_X10_length_7 d (zG p l e (zrm d) s m args below meth c E mX10_length.2.2.1 0 0 (MQ below (zQc E Q) args s 0 0 (zaA E))) Q) := by
  unfold b_X10_length_7
  exact lk_c B dX10_length_7 (lk_iret B hr hlk dX10_length_8)
set_option maxRecDepth 20000 in
theorem k_X10_length_0 {p : Program} {l : Launch} {e : Env} {s : State} {m : MethodId} {args : Array Value} {below : List Frame} {meth : Method} {c : Code} {E : zE} {d : Nat} {Q : zQ} (hd1 : 1 ≤ d) (B : zB p s m args c E mX10_length.1.cls mX10_length.2.1 mX10_length.2.2.1) (hr : meth.sig.returnType = mX10_length.2.2.2) (hlk : meth.locks = false) : zLk (zG p l e (zrm d) s m args below meth c E mX10_length.2.2.1 0 0 (MQ below (zQc E Q) args s 0 0 (zaA E))) 0 (b_X10_length_0 d (zG p l e (zrm d) s m args below meth c E mX10_length.2.2.1 0 0 (MQ below (zQc E Q) args s 0 0 (zaA E))) Q) := by
  unfold b_X10_length_0
  exact lk_iln B dX10_length_0 rfl (lk_calls (M := mX10_isStore) B (zhR hd1 (by decide)) ⟨Nat.zero_le _, Nat.zero_le _⟩ (zw4 zw_289 zw_287 zw_288 zw_49) (by decide +kernel) dX10_length_1 (lk_zne B dX10_length_4 (by decide) (k_X10_length_9 hd1 B hr hlk) (k_X10_length_7 hd1 B hr hlk)))
def S_X10_length (d : Nat) (G : Nat → zK) (Q : zQ) : Prop := zLk G 0 (b_X10_length_0 d G Q)
theorem s_X10_length_0 {d : Nat} {G : Nat → zK} {Q : zQ} (h : S_X10_length d G Q) {ls st : List zV} {μ : zM} (k : b_X10_length_0 d G Q ls st μ) : G 0 ls st μ := h ls st μ k
theorem of_X10_length {d : Nat} {a0 a1 a2 : zV} {μ : zM} {Q : zQ} (hd1 : 1 ≤ d) (h : ∀ G : Nat → zK, S_X10_length d G Q → G 0 [a0, a1, a2, .inr none] [] μ) : zCt d mX10_length [a0, a1, a2] μ Q := zCt.mk (by decide) (Nat.le_of_ble_eq_true rfl) (fun p l e s m args below meth c E B hr hlk => h _ (k_X10_length_0 hd1 B hr hlk))
theorem dX10_read_0 : decode cX10_read 0 = .ok (.iload_n 1, 1) := by decide +kernel
theorem dX10_read_1 : decode cX10_read 1 = .ok (.invokestatic 69, 3) := by decide +kernel
theorem dX10_read_4 : decode cX10_read 4 = .ok (.ifCond .eq 20, 3) := by decide +kernel
theorem dX10_read_7 : decode cX10_read 7 = .ok (.aload_n 0, 1) := by decide +kernel
theorem dX10_read_8 : decode cX10_read 8 = .ok (.getfield 11, 3) := by decide +kernel
theorem dX10_read_11 : decode cX10_read 11 = .ok (.iload_n 1, 1) := by decide +kernel
theorem dX10_read_12 : decode cX10_read 12 = .ok (.aaload, 1) := by decide +kernel
theorem dX10_read_13 : decode cX10_read 13 = .ok (.invokevirtual 113, 3) := by decide +kernel
theorem dX10_read_16 : decode cX10_read 16 = .ok (.iload_n 2, 1) := by decide +kernel
theorem dX10_read_17 : decode cX10_read 17 = .ok (.iload_n 3, 1) := by decide +kernel
theorem dX10_read_18 : decode cX10_read 18 = .ok (.invokestatic 132, 3) := by decide +kernel
theorem dX10_read_21 : decode cX10_read 21 = .ok (.goto 4, 3) := by decide +kernel
theorem dX10_read_24 : decode cX10_read 24 = .ok (.iconst (-1), 1) := by decide +kernel
theorem dX10_read_25 : decode cX10_read 25 = .ok (.ireturn, 1) := by decide +kernel
def b_X10_read_25 (d : Nat) (G : Nat → zK) (Q : zQ) : zK := t_iret Q
def b_X10_read_24 (d : Nat) (G : Nat → zK) (Q : zQ) : zK := o_c (-1) <| b_X10_read_25 d G Q
def b_X10_read_7 (d : Nat) (G : Nat → zK) (Q : zQ) : zK := o_al 0 <| o_gf 8 0 <| o_il 1 <| o_aald <| o_callv (zCt (d - 1) mX7_shelf) 5 1 <| o_il 2 <| o_il 3 <| o_call (zCt (d - 1) mX4_readByte) 3 <| b_X10_read_25 d G Q
def b_X10_read_0 (d : Nat) (G : Nat → zK) (Q : zQ) : zK := o_il 1 <| o_call (zCt (d - 1) mX10_isStore) 1 <| t_zeq (b_X10_read_24 d G Q) (b_X10_read_7 d G Q)
set_option maxRecDepth 20000 in
theorem k_X10_read_25 {p : Program} {l : Launch} {e : Env} {s : State} {m : MethodId} {args : Array Value} {below : List Frame} {meth : Method} {c : Code} {E : zE} {d : Nat} {Q : zQ} (hd1 : 1 ≤ d) (B : zB p s m args c E mX10_read.1.cls mX10_read.2.1 mX10_read.2.2.1) (hr : meth.sig.returnType = mX10_read.2.2.2) (hlk : meth.locks = false) : zLk (zG p l e (zrm d) s m args below meth c E mX10_read.2.2.1 0 0 (MQ below (zQc E Q) args s 0 0 (zaA E))) 25 (b_X10_read_25 d (zG p l e (zrm d) s m args below meth c E mX10_read.2.2.1 0 0 (MQ below (zQc E Q) args s 0 0 (zaA E))) Q) := by
  unfold b_X10_read_25
  exact lk_iret B hr hlk dX10_read_25
set_option maxRecDepth 20000 in
theorem k_X10_read_24 {p : Program} {l : Launch} {e : Env} {s : State} {m : MethodId} {args : Array Value} {below : List Frame} {meth : Method} {c : Code} {E : zE} {d : Nat} {Q : zQ} (hd1 : 1 ≤ d) (B : zB p s m args c E mX10_read.1.cls mX10_read.2.1 mX10_read.2.2.1) (hr : meth.sig.returnType = mX10_read.2.2.2) (hlk : meth.locks = false) : zLk (zG p l e (zrm d) s m args below meth c E mX10_read.2.2.1 0 0 (MQ below (zQc E Q) args s 0 0 (zaA E))) 24 (b_X10_read_24 d (zG p l e (zrm d) s m args below meth c E mX10_read.2.2.1 0 0 (MQ below (zQc E Q) args s 0 0 (zaA E))) Q) := by
  unfold b_X10_read_24
  exact lk_c B dX10_read_24 (k_X10_read_25 hd1 B hr hlk)
set_option maxRecDepth 20000 in
theorem k_X10_read_7 {p : Program} {l : Launch} {e : Env} {s : State} {m : MethodId} {args : Array Value} {below : List Frame} {meth : Method} {c : Code} {E : zE} {d : Nat} {Q : zQ} (hd1 : 1 ≤ d) (B : zB p s m args c E mX10_read.1.cls mX10_read.2.1 mX10_read.2.2.1) (hr : meth.sig.returnType = mX10_read.2.2.2) (hlk : meth.locks = false) : zLk (zG p l e (zrm d) s m args below meth c E mX10_read.2.2.1 0 0 (MQ below (zQc E Q) args s 0 0 (zaA E))) 7 (b_X10_read_7 d (zG p l e (zrm d) s m args below meth c E mX10_read.2.2.1 0 0 (MQ below (zQc E Q) args s 0 0 (zaA E))) Q) := by
  unfold b_X10_read_7
  exact lk_aln B dX10_read_7 rfl (lk_gf (T := TX10) B cl_X10 (by decide) in_X10 zw_234 dX10_read_8 (lk_iln B dX10_read_11 rfl (lk_aald B dX10_read_12 (lk_callv (M := mX7_shelf) (T := TX7) (N := 5) B (zhR hd1 (by decide)) ⟨Nat.zero_le _, Nat.zero_le _⟩ cl_X7 (zw5 zw_538 zw_535 zw_536 zw_537 zw_50) (by decide +kernel) dX10_read_13 (lk_iln B dX10_read_16 rfl (lk_iln B dX10_read_17 rfl (lk_calls (M := mX4_readByte) B (zhR hd1 (by decide)) ⟨Nat.zero_le _, Nat.zero_le _⟩ (zw4 zw_562 zw_560 zw_561 zw_63) (by decide +kernel) dX10_read_18 (lk_goto B dX10_read_21 (by decide) (k_X10_read_25 hd1 B hr hlk)))))))))
set_option maxRecDepth 20000 in
theorem k_X10_read_0 {p : Program} {l : Launch} {e : Env} {s : State} {m : MethodId} {args : Array Value} {below : List Frame} {meth : Method} {c : Code} {E : zE} {d : Nat} {Q : zQ} (hd1 : 1 ≤ d) (B : zB p s m args c E mX10_read.1.cls mX10_read.2.1 mX10_read.2.2.1) (hr : meth.sig.returnType = mX10_read.2.2.2) (hlk : meth.locks = false) : zLk (zG p l e (zrm d) s m args below meth c E mX10_read.2.2.1 0 0 (MQ below (zQc E Q) args s 0 0 (zaA E))) 0 (b_X10_read_0 d (zG p l e (zrm d) s m args below meth c E mX10_read.2.2.1 0 0 (MQ below (zQc E Q) args s 0 0 (zaA E))) Q) := by
  unfold b_X10_read_0
  exact lk_iln B dX10_read_0 rfl (lk_calls (M := mX10_isStore) B (zhR hd1 (by decide)) ⟨Nat.zero_le _, Nat.zero_le _⟩ (zw4 zw_289 zw_287 zw_288 zw_49) (by decide +kernel) dX10_read_1 (lk_zeq B dX10_read_4 (by decide) (k_X10_read_24 hd1 B hr hlk) (k_X10_read_7 hd1 B hr hlk)))
def S_X10_read (d : Nat) (G : Nat → zK) (Q : zQ) : Prop := zLk G 0 (b_X10_read_0 d G Q)
theorem s_X10_read_0 {d : Nat} {G : Nat → zK} {Q : zQ} (h : S_X10_read d G Q) {ls st : List zV} {μ : zM} (k : b_X10_read_0 d G Q ls st μ) : G 0 ls st μ := h ls st μ k
theorem of_X10_read {d : Nat} {a0 a1 a2 a3 : zV} {μ : zM} {Q : zQ} (hd1 : 1 ≤ d) (h : ∀ G : Nat → zK, S_X10_read d G Q → G 0 [a0, a1, a2, a3] [] μ) : zCt d mX10_read [a0, a1, a2, a3] μ Q := zCt.mk (by decide) (Nat.le_of_ble_eq_true rfl) (fun p l e s m args below meth c E B hr hlk => h _ (k_X10_read_0 hd1 B hr hlk))
theorem dX10_find_0 : decode cX10_find 0 = .ok (.iload_n 1, 1) := by decide +kernel
theorem dX10_find_1 : decode cX10_find 1 = .ok (.invokestatic 69, 3) := by decide +kernel
theorem dX10_find_4 : decode cX10_find 4 = .ok (.ifCond .eq 20, 3) := by decide +kernel
theorem dX10_find_7 : decode cX10_find 7 = .ok (.aload_n 0, 1) := by decide +kernel
theorem dX10_find_8 : decode cX10_find 8 = .ok (.getfield 11, 3) := by decide +kernel
theorem dX10_find_11 : decode cX10_find 11 = .ok (.iload_n 1, 1) := by decide +kernel
theorem dX10_find_12 : decode cX10_find 12 = .ok (.aaload, 1) := by decide +kernel
theorem dX10_find_13 : decode cX10_find 13 = .ok (.invokevirtual 113, 3) := by decide +kernel
theorem dX10_find_16 : decode cX10_find 16 = .ok (.iload_n 2, 1) := by decide +kernel
theorem dX10_find_17 : decode cX10_find 17 = .ok (.iload_n 3, 1) := by decide +kernel
theorem dX10_find_18 : decode cX10_find 18 = .ok (.invokestatic 138, 3) := by decide +kernel
theorem dX10_find_21 : decode cX10_find 21 = .ok (.goto 4, 3) := by decide +kernel
theorem dX10_find_24 : decode cX10_find 24 = .ok (.iconst (-1), 1) := by decide +kernel
theorem dX10_find_25 : decode cX10_find 25 = .ok (.ireturn, 1) := by decide +kernel
def b_X10_find_25 (d : Nat) (G : Nat → zK) (Q : zQ) : zK := t_iret Q
def b_X10_find_24 (d : Nat) (G : Nat → zK) (Q : zQ) : zK := o_c (-1) <| b_X10_find_25 d G Q
def b_X10_find_7 (d : Nat) (G : Nat → zK) (Q : zQ) : zK := o_al 0 <| o_gf 8 0 <| o_il 1 <| o_aald <| o_callv (zCt (d - 1) mX7_shelf) 5 1 <| o_il 2 <| o_il 3 <| o_call (zCt (d - 1) mX4_findTitle) 3 <| b_X10_find_25 d G Q
def b_X10_find_0 (d : Nat) (G : Nat → zK) (Q : zQ) : zK := o_il 1 <| o_call (zCt (d - 1) mX10_isStore) 1 <| t_zeq (b_X10_find_24 d G Q) (b_X10_find_7 d G Q)
set_option maxRecDepth 20000 in
theorem k_X10_find_25 {p : Program} {l : Launch} {e : Env} {s : State} {m : MethodId} {args : Array Value} {below : List Frame} {meth : Method} {c : Code} {E : zE} {d : Nat} {Q : zQ} (hd1 : 1 ≤ d) (B : zB p s m args c E mX10_find.1.cls mX10_find.2.1 mX10_find.2.2.1) (hr : meth.sig.returnType = mX10_find.2.2.2) (hlk : meth.locks = false) : zLk (zG p l e (zrm d) s m args below meth c E mX10_find.2.2.1 0 0 (MQ below (zQc E Q) args s 0 0 (zaA E))) 25 (b_X10_find_25 d (zG p l e (zrm d) s m args below meth c E mX10_find.2.2.1 0 0 (MQ below (zQc E Q) args s 0 0 (zaA E))) Q) := by
  unfold b_X10_find_25
  exact lk_iret B hr hlk dX10_find_25
set_option maxRecDepth 20000 in
theorem k_X10_find_24 {p : Program} {l : Launch} {e : Env} {s : State} {m : MethodId} {args : Array Value} {below : List Frame} {meth : Method} {c : Code} {E : zE} {d : Nat} {Q : zQ} (hd1 : 1 ≤ d) (B : zB p s m args c E mX10_find.1.cls mX10_find.2.1 mX10_find.2.2.1) (hr : meth.sig.returnType = mX10_find.2.2.2) (hlk : meth.locks = false) : zLk (zG p l e (zrm d) s m args below meth c E mX10_find.2.2.1 0 0 (MQ below (zQc E Q) args s 0 0 (zaA E))) 24 (b_X10_find_24 d (zG p l e (zrm d) s m args below meth c E mX10_find.2.2.1 0 0 (MQ below (zQc E Q) args s 0 0 (zaA E))) Q) := by
  unfold b_X10_find_24
  exact lk_c B dX10_find_24 (k_X10_find_25 hd1 B hr hlk)
set_option maxRecDepth 20000 in
theorem k_X10_find_7 {p : Program} {l : Launch} {e : Env} {s : State} {m : MethodId} {args : Array Value} {below : List Frame} {meth : Method} {c : Code} {E : zE} {d : Nat} {Q : zQ} (hd1 : 1 ≤ d) (B : zB p s m args c E mX10_find.1.cls mX10_find.2.1 mX10_find.2.2.1) (hr : meth.sig.returnType = mX10_find.2.2.2) (hlk : meth.locks = false) : zLk (zG p l e (zrm d) s m args below meth c E mX10_find.2.2.1 0 0 (MQ below (zQc E Q) args s 0 0 (zaA E))) 7 (b_X10_find_7 d (zG p l e (zrm d) s m args below meth c E mX10_find.2.2.1 0 0 (MQ below (zQc E Q) args s 0 0 (zaA E))) Q) := by
  unfold b_X10_find_7
  exact lk_aln B dX10_find_7 rfl (lk_gf (T := TX10) B cl_X10 (by decide) in_X10 zw_234 dX10_find_8 (lk_iln B dX10_find_11 rfl (lk_aald B dX10_find_12 (lk_callv (M := mX7_shelf) (T := TX7) (N := 5) B (zhR hd1 (by decide)) ⟨Nat.zero_le _, Nat.zero_le _⟩ cl_X7 (zw5 zw_538 zw_535 zw_536 zw_537 zw_50) (by decide +kernel) dX10_find_13 (lk_iln B dX10_find_16 rfl (lk_iln B dX10_find_17 rfl (lk_calls (M := mX4_findTitle) B (zhR hd1 (by decide)) ⟨Nat.zero_le _, Nat.zero_le _⟩ (zw4 zw_576 zw_574 zw_575 zw_63) (by decide +kernel) dX10_find_18 (lk_goto B dX10_find_21 (by decide) (k_X10_find_25 hd1 B hr hlk)))))))))
set_option maxRecDepth 20000 in
theorem k_X10_find_0 {p : Program} {l : Launch} {e : Env} {s : State} {m : MethodId} {args : Array Value} {below : List Frame} {meth : Method} {c : Code} {E : zE} {d : Nat} {Q : zQ} (hd1 : 1 ≤ d) (B : zB p s m args c E mX10_find.1.cls mX10_find.2.1 mX10_find.2.2.1) (hr : meth.sig.returnType = mX10_find.2.2.2) (hlk : meth.locks = false) : zLk (zG p l e (zrm d) s m args below meth c E mX10_find.2.2.1 0 0 (MQ below (zQc E Q) args s 0 0 (zaA E))) 0 (b_X10_find_0 d (zG p l e (zrm d) s m args below meth c E mX10_find.2.2.1 0 0 (MQ below (zQc E Q) args s 0 0 (zaA E))) Q) := by
  unfold b_X10_find_0
  exact lk_iln B dX10_find_0 rfl (lk_calls (M := mX10_isStore) B (zhR hd1 (by decide)) ⟨Nat.zero_le _, Nat.zero_le _⟩ (zw4 zw_289 zw_287 zw_288 zw_49) (by decide +kernel) dX10_find_1 (lk_zeq B dX10_find_4 (by decide) (k_X10_find_24 hd1 B hr hlk) (k_X10_find_7 hd1 B hr hlk)))
def S_X10_find (d : Nat) (G : Nat → zK) (Q : zQ) : Prop := zLk G 0 (b_X10_find_0 d G Q)
theorem s_X10_find_0 {d : Nat} {G : Nat → zK} {Q : zQ} (h : S_X10_find d G Q) {ls st : List zV} {μ : zM} (k : b_X10_find_0 d G Q ls st μ) : G 0 ls st μ := h ls st μ k
theorem of_X10_find {d : Nat} {a0 a1 a2 a3 : zV} {μ : zM} {Q : zQ} (hd1 : 1 ≤ d) (h : ∀ G : Nat → zK, S_X10_find d G Q → G 0 [a0, a1, a2, a3] [] μ) : zCt d mX10_find [a0, a1, a2, a3] μ Q := zCt.mk (by decide) (Nat.le_of_ble_eq_true rfl) (fun p l e s m args below meth c E B hr hlk => h _ (k_X10_find_0 hd1 B hr hlk))
theorem dX10_pin_0 : decode cX10_pin 0 = .ok (.iload_n 1, 1) := by decide +kernel
theorem dX10_pin_1 : decode cX10_pin 1 = .ok (.invokestatic 69, 3) := by decide +kernel
theorem dX10_pin_4 : decode cX10_pin 4 = .ok (.ifCond .ne 5, 3) := by decide +kernel
theorem dX10_pin_7 : decode cX10_pin 7 = .ok (.iconst 0, 1) := by decide +kernel
theorem dX10_pin_8 : decode cX10_pin 8 = .ok (.ireturn, 1) := by decide +kernel
theorem dX10_pin_9 : decode cX10_pin 9 = .ok (.iload 4, 2) := by decide +kernel
theorem dX10_pin_11 : decode cX10_pin 11 = .ok (.ifCond .eq 17, 3) := by decide +kernel
theorem dX10_pin_14 : decode cX10_pin 14 = .ok (.aload_n 0, 1) := by decide +kernel
theorem dX10_pin_15 : decode cX10_pin 15 = .ok (.getfield 11, 3) := by decide +kernel
theorem dX10_pin_18 : decode cX10_pin 18 = .ok (.iload_n 1, 1) := by decide +kernel
theorem dX10_pin_19 : decode cX10_pin 19 = .ok (.aaload, 1) := by decide +kernel
theorem dX10_pin_20 : decode cX10_pin 20 = .ok (.iload_n 2, 1) := by decide +kernel
theorem dX10_pin_21 : decode cX10_pin 21 = .ok (.iload_n 3, 1) := by decide +kernel
theorem dX10_pin_22 : decode cX10_pin 22 = .ok (.invokevirtual 141, 3) := by decide +kernel
theorem dX10_pin_25 : decode cX10_pin 25 = .ok (.goto 14, 3) := by decide +kernel
theorem dX10_pin_28 : decode cX10_pin 28 = .ok (.aload_n 0, 1) := by decide +kernel
theorem dX10_pin_29 : decode cX10_pin 29 = .ok (.getfield 11, 3) := by decide +kernel
theorem dX10_pin_32 : decode cX10_pin 32 = .ok (.iload_n 1, 1) := by decide +kernel
theorem dX10_pin_33 : decode cX10_pin 33 = .ok (.aaload, 1) := by decide +kernel
theorem dX10_pin_34 : decode cX10_pin 34 = .ok (.iload_n 2, 1) := by decide +kernel
theorem dX10_pin_35 : decode cX10_pin 35 = .ok (.iload_n 3, 1) := by decide +kernel
theorem dX10_pin_36 : decode cX10_pin 36 = .ok (.invokevirtual 145, 3) := by decide +kernel
theorem dX10_pin_39 : decode cX10_pin 39 = .ok (.ireturn, 1) := by decide +kernel
def b_X10_pin_39 (d : Nat) (G : Nat → zK) (Q : zQ) : zK := t_zret Q
def b_X10_pin_28 (d : Nat) (G : Nat → zK) (Q : zQ) : zK := o_al 0 <| o_gf 8 0 <| o_il 1 <| o_aald <| o_il 2 <| o_il 3 <| o_callv (zCt (d - 1) mX7_unpinBlock) 5 3 <| b_X10_pin_39 d G Q
def b_X10_pin_14 (d : Nat) (G : Nat → zK) (Q : zQ) : zK := o_al 0 <| o_gf 8 0 <| o_il 1 <| o_aald <| o_il 2 <| o_il 3 <| o_callv (zCt (d - 1) mX7_pinBlock) 5 3 <| b_X10_pin_39 d G Q
def b_X10_pin_9 (d : Nat) (G : Nat → zK) (Q : zQ) : zK := o_il 4 <| t_zeq (b_X10_pin_28 d G Q) (b_X10_pin_14 d G Q)
def b_X10_pin_7 (d : Nat) (G : Nat → zK) (Q : zQ) : zK := o_c 0 <| t_zret Q
def b_X10_pin_0 (d : Nat) (G : Nat → zK) (Q : zQ) : zK := o_il 1 <| o_call (zCt (d - 1) mX10_isStore) 1 <| t_zeq (b_X10_pin_7 d G Q) (b_X10_pin_9 d G Q)
set_option maxRecDepth 20000 in
theorem k_X10_pin_39 {p : Program} {l : Launch} {e : Env} {s : State} {m : MethodId} {args : Array Value} {below : List Frame} {meth : Method} {c : Code} {E : zE} {d : Nat} {Q : zQ} (hd1 : 1 ≤ d) (B : zB p s m args c E mX10_pin.1.cls mX10_pin.2.1 mX10_pin.2.2.1) (hr : meth.sig.returnType = mX10_pin.2.2.2) (hlk : meth.locks = false) : zLk (zG p l e (zrm d) s m args below meth c E mX10_pin.2.2.1 0 0 (MQ below (zQc E Q) args s 0 0 (zaA E))) 39 (b_X10_pin_39 d (zG p l e (zrm d) s m args below meth c E mX10_pin.2.2.1 0 0 (MQ below (zQc E Q) args s 0 0 (zaA E))) Q) := by
  unfold b_X10_pin_39
  exact lk_zret B hr hlk dX10_pin_39
set_option maxRecDepth 20000 in
theorem k_X10_pin_28 {p : Program} {l : Launch} {e : Env} {s : State} {m : MethodId} {args : Array Value} {below : List Frame} {meth : Method} {c : Code} {E : zE} {d : Nat} {Q : zQ} (hd1 : 1 ≤ d) (B : zB p s m args c E mX10_pin.1.cls mX10_pin.2.1 mX10_pin.2.2.1) (hr : meth.sig.returnType = mX10_pin.2.2.2) (hlk : meth.locks = false) : zLk (zG p l e (zrm d) s m args below meth c E mX10_pin.2.2.1 0 0 (MQ below (zQc E Q) args s 0 0 (zaA E))) 28 (b_X10_pin_28 d (zG p l e (zrm d) s m args below meth c E mX10_pin.2.2.1 0 0 (MQ below (zQc E Q) args s 0 0 (zaA E))) Q) := by
  unfold b_X10_pin_28
  exact lk_aln B dX10_pin_28 rfl (lk_gf (T := TX10) B cl_X10 (by decide) in_X10 zw_234 dX10_pin_29 (lk_iln B dX10_pin_32 rfl (lk_aald B dX10_pin_33 (lk_iln B dX10_pin_34 rfl (lk_iln B dX10_pin_35 rfl (lk_callv (M := mX7_unpinBlock) (T := TX7) (N := 5) B (zhR hd1 (by decide)) ⟨Nat.zero_le _, Nat.zero_le _⟩ cl_X7 (zw5 zw_605 zw_602 zw_603 zw_604 zw_50) (by decide +kernel) dX10_pin_36 (k_X10_pin_39 hd1 B hr hlk)))))))
set_option maxRecDepth 20000 in
theorem k_X10_pin_14 {p : Program} {l : Launch} {e : Env} {s : State} {m : MethodId} {args : Array Value} {below : List Frame} {meth : Method} {c : Code} {E : zE} {d : Nat} {Q : zQ} (hd1 : 1 ≤ d) (B : zB p s m args c E mX10_pin.1.cls mX10_pin.2.1 mX10_pin.2.2.1) (hr : meth.sig.returnType = mX10_pin.2.2.2) (hlk : meth.locks = false) : zLk (zG p l e (zrm d) s m args below meth c E mX10_pin.2.2.1 0 0 (MQ below (zQc E Q) args s 0 0 (zaA E))) 14 (b_X10_pin_14 d (zG p l e (zrm d) s m args below meth c E mX10_pin.2.2.1 0 0 (MQ below (zQc E Q) args s 0 0 (zaA E))) Q) := by
  unfold b_X10_pin_14
  exact lk_aln B dX10_pin_14 rfl (lk_gf (T := TX10) B cl_X10 (by decide) in_X10 zw_234 dX10_pin_15 (lk_iln B dX10_pin_18 rfl (lk_aald B dX10_pin_19 (lk_iln B dX10_pin_20 rfl (lk_iln B dX10_pin_21 rfl (lk_callv (M := mX7_pinBlock) (T := TX7) (N := 5) B (zhR hd1 (by decide)) ⟨Nat.zero_le _, Nat.zero_le _⟩ cl_X7 (zw5 zw_593 zw_590 zw_591 zw_592 zw_50) (by decide +kernel) dX10_pin_22 (lk_goto B dX10_pin_25 (by decide) (k_X10_pin_39 hd1 B hr hlk))))))))
set_option maxRecDepth 20000 in
theorem k_X10_pin_9 {p : Program} {l : Launch} {e : Env} {s : State} {m : MethodId} {args : Array Value} {below : List Frame} {meth : Method} {c : Code} {E : zE} {d : Nat} {Q : zQ} (hd1 : 1 ≤ d) (B : zB p s m args c E mX10_pin.1.cls mX10_pin.2.1 mX10_pin.2.2.1) (hr : meth.sig.returnType = mX10_pin.2.2.2) (hlk : meth.locks = false) : zLk (zG p l e (zrm d) s m args below meth c E mX10_pin.2.2.1 0 0 (MQ below (zQc E Q) args s 0 0 (zaA E))) 9 (b_X10_pin_9 d (zG p l e (zrm d) s m args below meth c E mX10_pin.2.2.1 0 0 (MQ below (zQc E Q) args s 0 0 (zaA E))) Q) := by
  unfold b_X10_pin_9
  exact lk_il B dX10_pin_9 (lk_zeq B dX10_pin_11 (by decide) (k_X10_pin_28 hd1 B hr hlk) (k_X10_pin_14 hd1 B hr hlk))
set_option maxRecDepth 20000 in
theorem k_X10_pin_7 {p : Program} {l : Launch} {e : Env} {s : State} {m : MethodId} {args : Array Value} {below : List Frame} {meth : Method} {c : Code} {E : zE} {d : Nat} {Q : zQ} (hd1 : 1 ≤ d) (B : zB p s m args c E mX10_pin.1.cls mX10_pin.2.1 mX10_pin.2.2.1) (hr : meth.sig.returnType = mX10_pin.2.2.2) (hlk : meth.locks = false) : zLk (zG p l e (zrm d) s m args below meth c E mX10_pin.2.2.1 0 0 (MQ below (zQc E Q) args s 0 0 (zaA E))) 7 (b_X10_pin_7 d (zG p l e (zrm d) s m args below meth c E mX10_pin.2.2.1 0 0 (MQ below (zQc E Q) args s 0 0 (zaA E))) Q) := by
  unfold b_X10_pin_7
  exact lk_c B dX10_pin_7 (lk_zret B hr hlk dX10_pin_8)
set_option maxRecDepth 20000 in
theorem k_X10_pin_0 {p : Program} {l : Launch} {e : Env} {s : State} {m : MethodId} {args : Array Value} {below : List Frame} {meth : Method} {c : Code} {E : zE} {d : Nat} {Q : zQ} (hd1 : 1 ≤ d) (B : zB p s m args c E mX10_pin.1.cls mX10_pin.2.1 mX10_pin.2.2.1) (hr : meth.sig.returnType = mX10_pin.2.2.2) (hlk : meth.locks = false) : zLk (zG p l e (zrm d) s m args below meth c E mX10_pin.2.2.1 0 0 (MQ below (zQc E Q) args s 0 0 (zaA E))) 0 (b_X10_pin_0 d (zG p l e (zrm d) s m args below meth c E mX10_pin.2.2.1 0 0 (MQ below (zQc E Q) args s 0 0 (zaA E))) Q) := by
  unfold b_X10_pin_0
  exact lk_iln B dX10_pin_0 rfl (lk_calls (M := mX10_isStore) B (zhR hd1 (by decide)) ⟨Nat.zero_le _, Nat.zero_le _⟩ (zw4 zw_289 zw_287 zw_288 zw_49) (by decide +kernel) dX10_pin_1 (lk_zne B dX10_pin_4 (by decide) (k_X10_pin_9 hd1 B hr hlk) (k_X10_pin_7 hd1 B hr hlk)))
def S_X10_pin (d : Nat) (G : Nat → zK) (Q : zQ) : Prop := zLk G 0 (b_X10_pin_0 d G Q)
theorem s_X10_pin_0 {d : Nat} {G : Nat → zK} {Q : zQ} (h : S_X10_pin d G Q) {ls st : List zV} {μ : zM} (k : b_X10_pin_0 d G Q ls st μ) : G 0 ls st μ := h ls st μ k
theorem of_X10_pin {d : Nat} {a0 a1 a2 a3 a4 : zV} {μ : zM} {Q : zQ} (hd1 : 1 ≤ d) (h : ∀ G : Nat → zK, S_X10_pin d G Q → G 0 [a0, a1, a2, a3, a4] [] μ) : zCt d mX10_pin [a0, a1, a2, a3, a4] μ Q := zCt.mk (by decide) (Nat.le_of_ble_eq_true rfl) (fun p l e s m args below meth c E B hr hlk => h _ (k_X10_pin_0 hd1 B hr hlk))
theorem dX10_collect_0 : decode cX10_collect 0 = .ok (.iload_n 1, 1) := by decide +kernel
theorem dX10_collect_1 : decode cX10_collect 1 = .ok (.invokestatic 69, 3) := by decide +kernel
theorem dX10_collect_4 : decode cX10_collect 4 = .ok (.ifCond .eq 19, 3) := by decide +kernel
theorem dX10_collect_7 : decode cX10_collect 7 = .ok (.aload_n 0, 1) := by decide +kernel
theorem dX10_collect_8 : decode cX10_collect 8 = .ok (.getfield 11, 3) := by decide +kernel
theorem dX10_collect_11 : decode cX10_collect 11 = .ok (.iload_n 1, 1) := by decide +kernel
theorem dX10_collect_12 : decode cX10_collect 12 = .ok (.aaload, 1) := by decide +kernel
theorem dX10_collect_13 : decode cX10_collect 13 = .ok (.aload_n 0, 1) := by decide +kernel
theorem dX10_collect_14 : decode cX10_collect 14 = .ok (.getfield 59, 3) := by decide +kernel
theorem dX10_collect_17 : decode cX10_collect 17 = .ok (.invokevirtual 148, 3) := by decide +kernel
theorem dX10_collect_20 : decode cX10_collect 20 = .ok (.goto 4, 3) := by decide +kernel
theorem dX10_collect_23 : decode cX10_collect 23 = .ok (.iconst (-1), 1) := by decide +kernel
theorem dX10_collect_24 : decode cX10_collect 24 = .ok (.ireturn, 1) := by decide +kernel
def b_X10_collect_24 (d : Nat) (G : Nat → zK) (Q : zQ) : zK := t_iret Q
def b_X10_collect_23 (d : Nat) (G : Nat → zK) (Q : zQ) : zK := o_c (-1) <| b_X10_collect_24 d G Q
def b_X10_collect_7 (d : Nat) (G : Nat → zK) (Q : zQ) : zK := o_al 0 <| o_gf 8 0 <| o_il 1 <| o_aald <| o_al 0 <| o_gf 8 8 <| o_callv (zCt (d - 1) mX7_sweep) 5 2 <| b_X10_collect_24 d G Q
def b_X10_collect_0 (d : Nat) (G : Nat → zK) (Q : zQ) : zK := o_il 1 <| o_call (zCt (d - 1) mX10_isStore) 1 <| t_zeq (b_X10_collect_23 d G Q) (b_X10_collect_7 d G Q)
set_option maxRecDepth 20000 in
theorem k_X10_collect_24 {p : Program} {l : Launch} {e : Env} {s : State} {m : MethodId} {args : Array Value} {below : List Frame} {meth : Method} {c : Code} {E : zE} {d : Nat} {Q : zQ} (hd1 : 1 ≤ d) (B : zB p s m args c E mX10_collect.1.cls mX10_collect.2.1 mX10_collect.2.2.1) (hr : meth.sig.returnType = mX10_collect.2.2.2) (hlk : meth.locks = false) : zLk (zG p l e (zrm d) s m args below meth c E mX10_collect.2.2.1 0 0 (MQ below (zQc E Q) args s 0 0 (zaA E))) 24 (b_X10_collect_24 d (zG p l e (zrm d) s m args below meth c E mX10_collect.2.2.1 0 0 (MQ below (zQc E Q) args s 0 0 (zaA E))) Q) := by
  unfold b_X10_collect_24
  exact lk_iret B hr hlk dX10_collect_24
set_option maxRecDepth 20000 in
theorem k_X10_collect_23 {p : Program} {l : Launch} {e : Env} {s : State} {m : MethodId} {args : Array Value} {below : List Frame} {meth : Method} {c : Code} {E : zE} {d : Nat} {Q : zQ} (hd1 : 1 ≤ d) (B : zB p s m args c E mX10_collect.1.cls mX10_collect.2.1 mX10_collect.2.2.1) (hr : meth.sig.returnType = mX10_collect.2.2.2) (hlk : meth.locks = false) : zLk (zG p l e (zrm d) s m args below meth c E mX10_collect.2.2.1 0 0 (MQ below (zQc E Q) args s 0 0 (zaA E))) 23 (b_X10_collect_23 d (zG p l e (zrm d) s m args below meth c E mX10_collect.2.2.1 0 0 (MQ below (zQc E Q) args s 0 0 (zaA E))) Q) := by
  unfold b_X10_collect_23
  exact lk_c B dX10_collect_23 (k_X10_collect_24 hd1 B hr hlk)
set_option maxRecDepth 20000 in
theorem k_X10_collect_7 {p : Program} {l : Launch} {e : Env} {s : State} {m : MethodId} {args : Array Value} {below : List Frame} {meth : Method} {c : Code} {E : zE} {d : Nat} {Q : zQ} (hd1 : 1 ≤ d) (B : zB p s m args c E mX10_collect.1.cls mX10_collect.2.1 mX10_collect.2.2.1) (hr : meth.sig.returnType = mX10_collect.2.2.2) (hlk : meth.locks = false) : zLk (zG p l e (zrm d) s m args below meth c E mX10_collect.2.2.1 0 0 (MQ below (zQc E Q) args s 0 0 (zaA E))) 7 (b_X10_collect_7 d (zG p l e (zrm d) s m args below meth c E mX10_collect.2.2.1 0 0 (MQ below (zQc E Q) args s 0 0 (zaA E))) Q) := by
  unfold b_X10_collect_7
  exact lk_aln B dX10_collect_7 rfl (lk_gf (T := TX10) B cl_X10 (by decide) in_X10 zw_234 dX10_collect_8 (lk_iln B dX10_collect_11 rfl (lk_aald B dX10_collect_12 (lk_aln B dX10_collect_13 rfl (lk_gf (T := TX10) B cl_X10 (by decide) in_X10 zw_242 dX10_collect_14 (lk_callv (M := mX7_sweep) (T := TX7) (N := 5) B (zhR hd1 (by decide)) ⟨Nat.zero_le _, Nat.zero_le _⟩ cl_X7 (zw5 zw_617 zw_614 zw_615 zw_616 zw_50) (by decide +kernel) dX10_collect_17 (lk_goto B dX10_collect_20 (by decide) (k_X10_collect_24 hd1 B hr hlk))))))))
set_option maxRecDepth 20000 in
theorem k_X10_collect_0 {p : Program} {l : Launch} {e : Env} {s : State} {m : MethodId} {args : Array Value} {below : List Frame} {meth : Method} {c : Code} {E : zE} {d : Nat} {Q : zQ} (hd1 : 1 ≤ d) (B : zB p s m args c E mX10_collect.1.cls mX10_collect.2.1 mX10_collect.2.2.1) (hr : meth.sig.returnType = mX10_collect.2.2.2) (hlk : meth.locks = false) : zLk (zG p l e (zrm d) s m args below meth c E mX10_collect.2.2.1 0 0 (MQ below (zQc E Q) args s 0 0 (zaA E))) 0 (b_X10_collect_0 d (zG p l e (zrm d) s m args below meth c E mX10_collect.2.2.1 0 0 (MQ below (zQc E Q) args s 0 0 (zaA E))) Q) := by
  unfold b_X10_collect_0
  exact lk_iln B dX10_collect_0 rfl (lk_calls (M := mX10_isStore) B (zhR hd1 (by decide)) ⟨Nat.zero_le _, Nat.zero_le _⟩ (zw4 zw_289 zw_287 zw_288 zw_49) (by decide +kernel) dX10_collect_1 (lk_zeq B dX10_collect_4 (by decide) (k_X10_collect_23 hd1 B hr hlk) (k_X10_collect_7 hd1 B hr hlk)))
def S_X10_collect (d : Nat) (G : Nat → zK) (Q : zQ) : Prop := zLk G 0 (b_X10_collect_0 d G Q)
theorem s_X10_collect_0 {d : Nat} {G : Nat → zK} {Q : zQ} (h : S_X10_collect d G Q) {ls st : List zV} {μ : zM} (k : b_X10_collect_0 d G Q ls st μ) : G 0 ls st μ := h ls st μ k
theorem of_X10_collect {d : Nat} {a0 a1 : zV} {μ : zM} {Q : zQ} (hd1 : 1 ≤ d) (h : ∀ G : Nat → zK, S_X10_collect d G Q → G 0 [a0, a1] [] μ) : zCt d mX10_collect [a0, a1] μ Q := zCt.mk (by decide) (Nat.le_of_ble_eq_true rfl) (fun p l e s m args below meth c E B hr hlk => h _ (k_X10_collect_0 hd1 B hr hlk))
theorem dX10_blocks_0 : decode cX10_blocks 0 = .ok (.iload_n 1, 1) := by decide +kernel
theorem dX10_blocks_1 : decode cX10_blocks 1 = .ok (.invokestatic 69, 3) := by decide +kernel
theorem dX10_blocks_4 : decode cX10_blocks 4 = .ok (.ifCond .eq 18, 3) := by decide +kernel
theorem dX10_blocks_7 : decode cX10_blocks 7 = .ok (.aload_n 0, 1) := by decide +kernel
theorem dX10_blocks_8 : decode cX10_blocks 8 = .ok (.getfield 11, 3) := by decide +kernel
theorem dX10_blocks_11 : decode cX10_blocks 11 = .ok (.iload_n 1, 1) := by decide +kernel
theorem dX10_blocks_12 : decode cX10_blocks 12 = .ok (.aaload, 1) := by decide +kernel
theorem dX10_blocks_13 : decode cX10_blocks 13 = .ok (.invokevirtual 113, 3) := by decide +kernel
theorem dX10_blocks_16 : decode cX10_blocks 16 = .ok (.invokevirtual 152, 3) := by decide +kernel
theorem dX10_blocks_19 : decode cX10_blocks 19 = .ok (.goto 4, 3) := by decide +kernel
theorem dX10_blocks_22 : decode cX10_blocks 22 = .ok (.iconst (-1), 1) := by decide +kernel
theorem dX10_blocks_23 : decode cX10_blocks 23 = .ok (.ireturn, 1) := by decide +kernel
def b_X10_blocks_23 (d : Nat) (G : Nat → zK) (Q : zQ) : zK := t_iret Q
def b_X10_blocks_22 (d : Nat) (G : Nat → zK) (Q : zQ) : zK := o_c (-1) <| b_X10_blocks_23 d G Q
def b_X10_blocks_7 (d : Nat) (G : Nat → zK) (Q : zQ) : zK := o_al 0 <| o_gf 8 0 <| o_il 1 <| o_aald <| o_callv (zCt (d - 1) mX7_shelf) 5 1 <| o_callv (zCt (d - 1) mX6_count) 4 1 <| b_X10_blocks_23 d G Q
def b_X10_blocks_0 (d : Nat) (G : Nat → zK) (Q : zQ) : zK := o_il 1 <| o_call (zCt (d - 1) mX10_isStore) 1 <| t_zeq (b_X10_blocks_22 d G Q) (b_X10_blocks_7 d G Q)
set_option maxRecDepth 20000 in
theorem k_X10_blocks_23 {p : Program} {l : Launch} {e : Env} {s : State} {m : MethodId} {args : Array Value} {below : List Frame} {meth : Method} {c : Code} {E : zE} {d : Nat} {Q : zQ} (hd1 : 1 ≤ d) (B : zB p s m args c E mX10_blocks.1.cls mX10_blocks.2.1 mX10_blocks.2.2.1) (hr : meth.sig.returnType = mX10_blocks.2.2.2) (hlk : meth.locks = false) : zLk (zG p l e (zrm d) s m args below meth c E mX10_blocks.2.2.1 0 0 (MQ below (zQc E Q) args s 0 0 (zaA E))) 23 (b_X10_blocks_23 d (zG p l e (zrm d) s m args below meth c E mX10_blocks.2.2.1 0 0 (MQ below (zQc E Q) args s 0 0 (zaA E))) Q) := by
  unfold b_X10_blocks_23
  exact lk_iret B hr hlk dX10_blocks_23
set_option maxRecDepth 20000 in
theorem k_X10_blocks_22 {p : Program} {l : Launch} {e : Env} {s : State} {m : MethodId} {args : Array Value} {below : List Frame} {meth : Method} {c : Code} {E : zE} {d : Nat} {Q : zQ} (hd1 : 1 ≤ d) (B : zB p s m args c E mX10_blocks.1.cls mX10_blocks.2.1 mX10_blocks.2.2.1) (hr : meth.sig.returnType = mX10_blocks.2.2.2) (hlk : meth.locks = false) : zLk (zG p l e (zrm d) s m args below meth c E mX10_blocks.2.2.1 0 0 (MQ below (zQc E Q) args s 0 0 (zaA E))) 22 (b_X10_blocks_22 d (zG p l e (zrm d) s m args below meth c E mX10_blocks.2.2.1 0 0 (MQ below (zQc E Q) args s 0 0 (zaA E))) Q) := by
  unfold b_X10_blocks_22
  exact lk_c B dX10_blocks_22 (k_X10_blocks_23 hd1 B hr hlk)
set_option maxRecDepth 20000 in
theorem k_X10_blocks_7 {p : Program} {l : Launch} {e : Env} {s : State} {m : MethodId} {args : Array Value} {below : List Frame} {meth : Method} {c : Code} {E : zE} {d : Nat} {Q : zQ} (hd1 : 1 ≤ d) (B : zB p s m args c E mX10_blocks.1.cls mX10_blocks.2.1 mX10_blocks.2.2.1) (hr : meth.sig.returnType = mX10_blocks.2.2.2) (hlk : meth.locks = false) : zLk (zG p l e (zrm d) s m args below meth c E mX10_blocks.2.2.1 0 0 (MQ below (zQc E Q) args s 0 0 (zaA E))) 7 (b_X10_blocks_7 d (zG p l e (zrm d) s m args below meth c E mX10_blocks.2.2.1 0 0 (MQ below (zQc E Q) args s 0 0 (zaA E))) Q) := by
  unfold b_X10_blocks_7
  exact lk_aln B dX10_blocks_7 rfl (lk_gf (T := TX10) B cl_X10 (by decide) in_X10 zw_234 dX10_blocks_8 (lk_iln B dX10_blocks_11 rfl (lk_aald B dX10_blocks_12 (lk_callv (M := mX7_shelf) (T := TX7) (N := 5) B (zhR hd1 (by decide)) ⟨Nat.zero_le _, Nat.zero_le _⟩ cl_X7 (zw5 zw_538 zw_535 zw_536 zw_537 zw_50) (by decide +kernel) dX10_blocks_13 (lk_callv (M := mX6_count) (T := TX6) (N := 5) B (zhR hd1 (by decide)) ⟨Nat.zero_le _, Nat.zero_le _⟩ cl_X6 (zw5 zw_398 zw_639 zw_396 zw_397 zw_51) (by decide +kernel) dX10_blocks_16 (lk_goto B dX10_blocks_19 (by decide) (k_X10_blocks_23 hd1 B hr hlk)))))))
set_option maxRecDepth 20000 in
theorem k_X10_blocks_0 {p : Program} {l : Launch} {e : Env} {s : State} {m : MethodId} {args : Array Value} {below : List Frame} {meth : Method} {c : Code} {E : zE} {d : Nat} {Q : zQ} (hd1 : 1 ≤ d) (B : zB p s m args c E mX10_blocks.1.cls mX10_blocks.2.1 mX10_blocks.2.2.1) (hr : meth.sig.returnType = mX10_blocks.2.2.2) (hlk : meth.locks = false) : zLk (zG p l e (zrm d) s m args below meth c E mX10_blocks.2.2.1 0 0 (MQ below (zQc E Q) args s 0 0 (zaA E))) 0 (b_X10_blocks_0 d (zG p l e (zrm d) s m args below meth c E mX10_blocks.2.2.1 0 0 (MQ below (zQc E Q) args s 0 0 (zaA E))) Q) := by
  unfold b_X10_blocks_0
  exact lk_iln B dX10_blocks_0 rfl (lk_calls (M := mX10_isStore) B (zhR hd1 (by decide)) ⟨Nat.zero_le _, Nat.zero_le _⟩ (zw4 zw_289 zw_287 zw_288 zw_49) (by decide +kernel) dX10_blocks_1 (lk_zeq B dX10_blocks_4 (by decide) (k_X10_blocks_22 hd1 B hr hlk) (k_X10_blocks_7 hd1 B hr hlk)))
def S_X10_blocks (d : Nat) (G : Nat → zK) (Q : zQ) : Prop := zLk G 0 (b_X10_blocks_0 d G Q)
theorem s_X10_blocks_0 {d : Nat} {G : Nat → zK} {Q : zQ} (h : S_X10_blocks d G Q) {ls st : List zV} {μ : zM} (k : b_X10_blocks_0 d G Q ls st μ) : G 0 ls st μ := h ls st μ k
theorem of_X10_blocks {d : Nat} {a0 a1 : zV} {μ : zM} {Q : zQ} (hd1 : 1 ≤ d) (h : ∀ G : Nat → zK, S_X10_blocks d G Q → G 0 [a0, a1] [] μ) : zCt d mX10_blocks [a0, a1] μ Q := zCt.mk (by decide) (Nat.le_of_ble_eq_true rfl) (fun p l e s m args below meth c E B hr hlk => h _ (k_X10_blocks_0 hd1 B hr hlk))
theorem dX10_fetch_0 : decode cX10_fetch 0 = .ok (.iload_n 1, 1) := by decide +kernel
theorem dX10_fetch_1 : decode cX10_fetch 1 = .ok (.invokestatic 69, 3) := by decide +kernel
theorem dX10_fetch_4 : decode cX10_fetch 4 = .ok (.ifCond .eq 22, 3) := by decide +kernel
theorem dX10_fetch_7 : decode cX10_fetch 7 = .ok (.iload_n 2, 1) := by decide +kernel
theorem dX10_fetch_8 : decode cX10_fetch 8 = .ok (.invokestatic 69, 3) := by decide +kernel
theorem dX10_fetch_11 : decode cX10_fetch 11 = .ok (.ifCond .eq 15, 3) := by decide +kernel
theorem dX10_fetch_14 : decode cX10_fetch 14 = .ok (.iload_n 1, 1) := by decide +kernel
theorem dX10_fetch_15 : decode cX10_fetch 15 = .ok (.iload_n 2, 1) := by decide +kernel
theorem dX10_fetch_16 : decode cX10_fetch 16 = .ok (.if_icmp .eq 10, 3) := by decide +kernel
theorem dX10_fetch_19 : decode cX10_fetch 19 = .ok (.iload_n 3, 1) := by decide +kernel
theorem dX10_fetch_20 : decode cX10_fetch 20 = .ok (.invokestatic 102, 3) := by decide +kernel
theorem dX10_fetch_23 : decode cX10_fetch 23 = .ok (.ifCond .ne 5, 3) := by decide +kernel
theorem dX10_fetch_26 : decode cX10_fetch 26 = .ok (.iconst (-1), 1) := by decide +kernel
theorem dX10_fetch_27 : decode cX10_fetch 27 = .ok (.ireturn, 1) := by decide +kernel
theorem dX10_fetch_28 : decode cX10_fetch 28 = .ok (.aload_n 0, 1) := by decide +kernel
theorem dX10_fetch_29 : decode cX10_fetch 29 = .ok (.getfield 11, 3) := by decide +kernel
theorem dX10_fetch_32 : decode cX10_fetch 32 = .ok (.iload_n 1, 1) := by decide +kernel
theorem dX10_fetch_33 : decode cX10_fetch 33 = .ok (.aaload, 1) := by decide +kernel
theorem dX10_fetch_34 : decode cX10_fetch 34 = .ok (.iload_n 2, 1) := by decide +kernel
theorem dX10_fetch_35 : decode cX10_fetch 35 = .ok (.iload_n 3, 1) := by decide +kernel
theorem dX10_fetch_36 : decode cX10_fetch 36 = .ok (.invokevirtual 155, 3) := by decide +kernel
theorem dX10_fetch_39 : decode cX10_fetch 39 = .ok (.aload_n 0, 1) := by decide +kernel
theorem dX10_fetch_40 : decode cX10_fetch 40 = .ok (.iload_n 1, 1) := by decide +kernel
theorem dX10_fetch_41 : decode cX10_fetch 41 = .ok (.invokevirtual 159, 3) := by decide +kernel
theorem dX10_fetch_44 : decode cX10_fetch 44 = .ok (.ireturn, 1) := by decide +kernel
def b_X10_fetch_26 (d : Nat) (G : Nat → zK) (Q : zQ) : zK := o_c (-1) <| t_iret Q
def b_X10_fetch_28 (d : Nat) (G : Nat → zK) (Q : zQ) : zK := o_al 0 <| o_gf 8 0 <| o_il 1 <| o_aald <| o_il 2 <| o_il 3 <| o_callv (zCt (d - 1) mX7_startFetch) 5 3 <| o_al 0 <| o_il 1 <| o_callv (zCt (d - 1) mX10_wantAllMissing) 8 2 <| t_iret Q
def b_X10_fetch_19 (d : Nat) (G : Nat → zK) (Q : zQ) : zK := o_il 3 <| o_call (zCt (d - 1) mX10_isName) 1 <| t_zeq (b_X10_fetch_26 d G Q) (b_X10_fetch_28 d G Q)
def b_X10_fetch_14 (d : Nat) (G : Nat → zK) (Q : zQ) : zK := o_il 1 <| o_il 2 <| t_ieq (b_X10_fetch_26 d G Q) (b_X10_fetch_19 d G Q)
def b_X10_fetch_7 (d : Nat) (G : Nat → zK) (Q : zQ) : zK := o_il 2 <| o_call (zCt (d - 1) mX10_isStore) 1 <| t_zeq (b_X10_fetch_26 d G Q) (b_X10_fetch_14 d G Q)
def b_X10_fetch_0 (d : Nat) (G : Nat → zK) (Q : zQ) : zK := o_il 1 <| o_call (zCt (d - 1) mX10_isStore) 1 <| t_zeq (b_X10_fetch_26 d G Q) (b_X10_fetch_7 d G Q)
set_option maxRecDepth 20000 in
theorem k_X10_fetch_26 {p : Program} {l : Launch} {e : Env} {s : State} {m : MethodId} {args : Array Value} {below : List Frame} {meth : Method} {c : Code} {E : zE} {d : Nat} {Q : zQ} (hd1 : 1 ≤ d) (B : zB p s m args c E mX10_fetch.1.cls mX10_fetch.2.1 mX10_fetch.2.2.1) (hr : meth.sig.returnType = mX10_fetch.2.2.2) (hlk : meth.locks = false) : zLk (zG p l e (zrm d) s m args below meth c E mX10_fetch.2.2.1 0 0 (MQ below (zQc E Q) args s 0 0 (zaA E))) 26 (b_X10_fetch_26 d (zG p l e (zrm d) s m args below meth c E mX10_fetch.2.2.1 0 0 (MQ below (zQc E Q) args s 0 0 (zaA E))) Q) := by
  unfold b_X10_fetch_26
  exact lk_c B dX10_fetch_26 (lk_iret B hr hlk dX10_fetch_27)
set_option maxRecDepth 20000 in
theorem k_X10_fetch_28 {p : Program} {l : Launch} {e : Env} {s : State} {m : MethodId} {args : Array Value} {below : List Frame} {meth : Method} {c : Code} {E : zE} {d : Nat} {Q : zQ} (hd1 : 1 ≤ d) (B : zB p s m args c E mX10_fetch.1.cls mX10_fetch.2.1 mX10_fetch.2.2.1) (hr : meth.sig.returnType = mX10_fetch.2.2.2) (hlk : meth.locks = false) : zLk (zG p l e (zrm d) s m args below meth c E mX10_fetch.2.2.1 0 0 (MQ below (zQc E Q) args s 0 0 (zaA E))) 28 (b_X10_fetch_28 d (zG p l e (zrm d) s m args below meth c E mX10_fetch.2.2.1 0 0 (MQ below (zQc E Q) args s 0 0 (zaA E))) Q) := by
  unfold b_X10_fetch_28
  exact lk_aln B dX10_fetch_28 rfl (lk_gf (T := TX10) B cl_X10 (by decide) in_X10 zw_234 dX10_fetch_29 (lk_iln B dX10_fetch_32 rfl (lk_aald B dX10_fetch_33 (lk_iln B dX10_fetch_34 rfl (lk_iln B dX10_fetch_35 rfl (lk_callv (M := mX7_startFetch) (T := TX7) (N := 5) B (zhR hd1 (by decide)) ⟨Nat.zero_le _, Nat.zero_le _⟩ cl_X7 (zw5 zw_647 zw_644 zw_645 zw_646 zw_50) (by decide +kernel) dX10_fetch_36 (lk_aln B dX10_fetch_39 rfl (lk_iln B dX10_fetch_40 rfl (lk_callv (M := mX10_wantAllMissing) (T := TX10) (N := 9) B (zhR hd1 (by decide)) ⟨Nat.zero_le _, Nat.zero_le _⟩ cl_X10 (zw5 zw_651 zw_648 zw_650 zw_11 zw_49) (by decide +kernel) dX10_fetch_41 (lk_iret B hr hlk dX10_fetch_44))))))))))
set_option maxRecDepth 20000 in
theorem k_X10_fetch_19 {p : Program} {l : Launch} {e : Env} {s : State} {m : MethodId} {args : Array Value} {below : List Frame} {meth : Method} {c : Code} {E : zE} {d : Nat} {Q : zQ} (hd1 : 1 ≤ d) (B : zB p s m args c E mX10_fetch.1.cls mX10_fetch.2.1 mX10_fetch.2.2.1) (hr : meth.sig.returnType = mX10_fetch.2.2.2) (hlk : meth.locks = false) : zLk (zG p l e (zrm d) s m args below meth c E mX10_fetch.2.2.1 0 0 (MQ below (zQc E Q) args s 0 0 (zaA E))) 19 (b_X10_fetch_19 d (zG p l e (zrm d) s m args below meth c E mX10_fetch.2.2.1 0 0 (MQ below (zQc E Q) args s 0 0 (zaA E))) Q) := by
  unfold b_X10_fetch_19
  exact lk_iln B dX10_fetch_19 rfl (lk_calls (M := mX10_isName) B (zhR hd1 (by decide)) ⟨Nat.zero_le _, Nat.zero_le _⟩ (zw4 zw_375 zw_494 zw_374 zw_49) (by decide +kernel) dX10_fetch_20 (lk_zne B dX10_fetch_23 (by decide) (k_X10_fetch_28 hd1 B hr hlk) (k_X10_fetch_26 hd1 B hr hlk)))
set_option maxRecDepth 20000 in
theorem k_X10_fetch_14 {p : Program} {l : Launch} {e : Env} {s : State} {m : MethodId} {args : Array Value} {below : List Frame} {meth : Method} {c : Code} {E : zE} {d : Nat} {Q : zQ} (hd1 : 1 ≤ d) (B : zB p s m args c E mX10_fetch.1.cls mX10_fetch.2.1 mX10_fetch.2.2.1) (hr : meth.sig.returnType = mX10_fetch.2.2.2) (hlk : meth.locks = false) : zLk (zG p l e (zrm d) s m args below meth c E mX10_fetch.2.2.1 0 0 (MQ below (zQc E Q) args s 0 0 (zaA E))) 14 (b_X10_fetch_14 d (zG p l e (zrm d) s m args below meth c E mX10_fetch.2.2.1 0 0 (MQ below (zQc E Q) args s 0 0 (zaA E))) Q) := by
  unfold b_X10_fetch_14
  exact lk_iln B dX10_fetch_14 rfl (lk_iln B dX10_fetch_15 rfl (lk_ieq B dX10_fetch_16 (by decide) (k_X10_fetch_26 hd1 B hr hlk) (k_X10_fetch_19 hd1 B hr hlk)))
set_option maxRecDepth 20000 in
theorem k_X10_fetch_7 {p : Program} {l : Launch} {e : Env} {s : State} {m : MethodId} {args : Array Value} {below : List Frame} {meth : Method} {c : Code} {E : zE} {d : Nat} {Q : zQ} (hd1 : 1 ≤ d) (B : zB p s m args c E mX10_fetch.1.cls mX10_fetch.2.1 mX10_fetch.2.2.1) (hr : meth.sig.returnType = mX10_fetch.2.2.2) (hlk : meth.locks = false) : zLk (zG p l e (zrm d) s m args below meth c E mX10_fetch.2.2.1 0 0 (MQ below (zQc E Q) args s 0 0 (zaA E))) 7 (b_X10_fetch_7 d (zG p l e (zrm d) s m args below meth c E mX10_fetch.2.2.1 0 0 (MQ below (zQc E Q) args s 0 0 (zaA E))) Q) := by
  unfold b_X10_fetch_7
  exact lk_iln B dX10_fetch_7 rfl (lk_calls (M := mX10_isStore) B (zhR hd1 (by decide)) ⟨Nat.zero_le _, Nat.zero_le _⟩ (zw4 zw_289 zw_287 zw_288 zw_49) (by decide +kernel) dX10_fetch_8 (lk_zeq B dX10_fetch_11 (by decide) (k_X10_fetch_26 hd1 B hr hlk) (k_X10_fetch_14 hd1 B hr hlk)))
set_option maxRecDepth 20000 in
theorem k_X10_fetch_0 {p : Program} {l : Launch} {e : Env} {s : State} {m : MethodId} {args : Array Value} {below : List Frame} {meth : Method} {c : Code} {E : zE} {d : Nat} {Q : zQ} (hd1 : 1 ≤ d) (B : zB p s m args c E mX10_fetch.1.cls mX10_fetch.2.1 mX10_fetch.2.2.1) (hr : meth.sig.returnType = mX10_fetch.2.2.2) (hlk : meth.locks = false) : zLk (zG p l e (zrm d) s m args below meth c E mX10_fetch.2.2.1 0 0 (MQ below (zQc E Q) args s 0 0 (zaA E))) 0 (b_X10_fetch_0 d (zG p l e (zrm d) s m args below meth c E mX10_fetch.2.2.1 0 0 (MQ below (zQc E Q) args s 0 0 (zaA E))) Q) := by
  unfold b_X10_fetch_0
  exact lk_iln B dX10_fetch_0 rfl (lk_calls (M := mX10_isStore) B (zhR hd1 (by decide)) ⟨Nat.zero_le _, Nat.zero_le _⟩ (zw4 zw_289 zw_287 zw_288 zw_49) (by decide +kernel) dX10_fetch_1 (lk_zeq B dX10_fetch_4 (by decide) (k_X10_fetch_26 hd1 B hr hlk) (k_X10_fetch_7 hd1 B hr hlk)))
def S_X10_fetch (d : Nat) (G : Nat → zK) (Q : zQ) : Prop := zLk G 0 (b_X10_fetch_0 d G Q)
theorem s_X10_fetch_0 {d : Nat} {G : Nat → zK} {Q : zQ} (h : S_X10_fetch d G Q) {ls st : List zV} {μ : zM} (k : b_X10_fetch_0 d G Q ls st μ) : G 0 ls st μ := h ls st μ k
theorem of_X10_fetch {d : Nat} {a0 a1 a2 a3 : zV} {μ : zM} {Q : zQ} (hd1 : 1 ≤ d) (h : ∀ G : Nat → zK, S_X10_fetch d G Q → G 0 [a0, a1, a2, a3] [] μ) : zCt d mX10_fetch [a0, a1, a2, a3] μ Q := zCt.mk (by decide) (Nat.le_of_ble_eq_true rfl) (fun p l e s m args below meth c E B hr hlk => h _ (k_X10_fetch_0 hd1 B hr hlk))
theorem dX10_retry_0 : decode cX10_retry 0 = .ok (.iload_n 1, 1) := by decide +kernel
theorem dX10_retry_1 : decode cX10_retry 1 = .ok (.invokestatic 69, 3) := by decide +kernel
theorem dX10_retry_4 : decode cX10_retry 4 = .ok (.ifCond .eq 15, 3) := by decide +kernel
theorem dX10_retry_7 : decode cX10_retry 7 = .ok (.aload_n 0, 1) := by decide +kernel
theorem dX10_retry_8 : decode cX10_retry 8 = .ok (.getfield 11, 3) := by decide +kernel
theorem dX10_retry_11 : decode cX10_retry 11 = .ok (.iload_n 1, 1) := by decide +kernel
theorem dX10_retry_12 : decode cX10_retry 12 = .ok (.aaload, 1) := by decide +kernel
theorem dX10_retry_13 : decode cX10_retry 13 = .ok (.invokevirtual 162, 3) := by decide +kernel
theorem dX10_retry_16 : decode cX10_retry 16 = .ok (.ifCond .ne 5, 3) := by decide +kernel
theorem dX10_retry_19 : decode cX10_retry 19 = .ok (.iconst (-1), 1) := by decide +kernel
theorem dX10_retry_20 : decode cX10_retry 20 = .ok (.ireturn, 1) := by decide +kernel
theorem dX10_retry_21 : decode cX10_retry 21 = .ok (.aload_n 0, 1) := by decide +kernel
theorem dX10_retry_22 : decode cX10_retry 22 = .ok (.iload_n 1, 1) := by decide +kernel
theorem dX10_retry_23 : decode cX10_retry 23 = .ok (.invokevirtual 159, 3) := by decide +kernel
theorem dX10_retry_26 : decode cX10_retry 26 = .ok (.ireturn, 1) := by decide +kernel
def b_X10_retry_19 (d : Nat) (G : Nat → zK) (Q : zQ) : zK := o_c (-1) <| t_iret Q
def b_X10_retry_21 (d : Nat) (G : Nat → zK) (Q : zQ) : zK := o_al 0 <| o_il 1 <| o_callv (zCt (d - 1) mX10_wantAllMissing) 8 2 <| t_iret Q
def b_X10_retry_7 (d : Nat) (G : Nat → zK) (Q : zQ) : zK := o_al 0 <| o_gf 8 0 <| o_il 1 <| o_aald <| o_callv (zCt (d - 1) mX7_isFetching) 5 1 <| t_zeq (b_X10_retry_19 d G Q) (b_X10_retry_21 d G Q)
def b_X10_retry_0 (d : Nat) (G : Nat → zK) (Q : zQ) : zK := o_il 1 <| o_call (zCt (d - 1) mX10_isStore) 1 <| t_zeq (b_X10_retry_19 d G Q) (b_X10_retry_7 d G Q)
set_option maxRecDepth 20000 in
theorem k_X10_retry_19 {p : Program} {l : Launch} {e : Env} {s : State} {m : MethodId} {args : Array Value} {below : List Frame} {meth : Method} {c : Code} {E : zE} {d : Nat} {Q : zQ} (hd1 : 1 ≤ d) (B : zB p s m args c E mX10_retry.1.cls mX10_retry.2.1 mX10_retry.2.2.1) (hr : meth.sig.returnType = mX10_retry.2.2.2) (hlk : meth.locks = false) : zLk (zG p l e (zrm d) s m args below meth c E mX10_retry.2.2.1 0 0 (MQ below (zQc E Q) args s 0 0 (zaA E))) 19 (b_X10_retry_19 d (zG p l e (zrm d) s m args below meth c E mX10_retry.2.2.1 0 0 (MQ below (zQc E Q) args s 0 0 (zaA E))) Q) := by
  unfold b_X10_retry_19
  exact lk_c B dX10_retry_19 (lk_iret B hr hlk dX10_retry_20)
set_option maxRecDepth 20000 in
theorem k_X10_retry_21 {p : Program} {l : Launch} {e : Env} {s : State} {m : MethodId} {args : Array Value} {below : List Frame} {meth : Method} {c : Code} {E : zE} {d : Nat} {Q : zQ} (hd1 : 1 ≤ d) (B : zB p s m args c E mX10_retry.1.cls mX10_retry.2.1 mX10_retry.2.2.1) (hr : meth.sig.returnType = mX10_retry.2.2.2) (hlk : meth.locks = false) : zLk (zG p l e (zrm d) s m args below meth c E mX10_retry.2.2.1 0 0 (MQ below (zQc E Q) args s 0 0 (zaA E))) 21 (b_X10_retry_21 d (zG p l e (zrm d) s m args below meth c E mX10_retry.2.2.1 0 0 (MQ below (zQc E Q) args s 0 0 (zaA E))) Q) := by
  unfold b_X10_retry_21
  exact lk_aln B dX10_retry_21 rfl (lk_iln B dX10_retry_22 rfl (lk_callv (M := mX10_wantAllMissing) (T := TX10) (N := 9) B (zhR hd1 (by decide)) ⟨Nat.zero_le _, Nat.zero_le _⟩ cl_X10 (zw5 zw_651 zw_648 zw_650 zw_11 zw_49) (by decide +kernel) dX10_retry_23 (lk_iret B hr hlk dX10_retry_26)))
set_option maxRecDepth 20000 in
theorem k_X10_retry_7 {p : Program} {l : Launch} {e : Env} {s : State} {m : MethodId} {args : Array Value} {below : List Frame} {meth : Method} {c : Code} {E : zE} {d : Nat} {Q : zQ} (hd1 : 1 ≤ d) (B : zB p s m args c E mX10_retry.1.cls mX10_retry.2.1 mX10_retry.2.2.1) (hr : meth.sig.returnType = mX10_retry.2.2.2) (hlk : meth.locks = false) : zLk (zG p l e (zrm d) s m args below meth c E mX10_retry.2.2.1 0 0 (MQ below (zQc E Q) args s 0 0 (zaA E))) 7 (b_X10_retry_7 d (zG p l e (zrm d) s m args below meth c E mX10_retry.2.2.1 0 0 (MQ below (zQc E Q) args s 0 0 (zaA E))) Q) := by
  unfold b_X10_retry_7
  exact lk_aln B dX10_retry_7 rfl (lk_gf (T := TX10) B cl_X10 (by decide) in_X10 zw_234 dX10_retry_8 (lk_iln B dX10_retry_11 rfl (lk_aald B dX10_retry_12 (lk_callv (M := mX7_isFetching) (T := TX7) (N := 5) B (zhR hd1 (by decide)) ⟨Nat.zero_le _, Nat.zero_le _⟩ cl_X7 (zw5 zw_417 zw_414 zw_415 zw_416 zw_50) (by decide +kernel) dX10_retry_13 (lk_zne B dX10_retry_16 (by decide) (k_X10_retry_21 hd1 B hr hlk) (k_X10_retry_19 hd1 B hr hlk))))))
set_option maxRecDepth 20000 in
theorem k_X10_retry_0 {p : Program} {l : Launch} {e : Env} {s : State} {m : MethodId} {args : Array Value} {below : List Frame} {meth : Method} {c : Code} {E : zE} {d : Nat} {Q : zQ} (hd1 : 1 ≤ d) (B : zB p s m args c E mX10_retry.1.cls mX10_retry.2.1 mX10_retry.2.2.1) (hr : meth.sig.returnType = mX10_retry.2.2.2) (hlk : meth.locks = false) : zLk (zG p l e (zrm d) s m args below meth c E mX10_retry.2.2.1 0 0 (MQ below (zQc E Q) args s 0 0 (zaA E))) 0 (b_X10_retry_0 d (zG p l e (zrm d) s m args below meth c E mX10_retry.2.2.1 0 0 (MQ below (zQc E Q) args s 0 0 (zaA E))) Q) := by
  unfold b_X10_retry_0
  exact lk_iln B dX10_retry_0 rfl (lk_calls (M := mX10_isStore) B (zhR hd1 (by decide)) ⟨Nat.zero_le _, Nat.zero_le _⟩ (zw4 zw_289 zw_287 zw_288 zw_49) (by decide +kernel) dX10_retry_1 (lk_zeq B dX10_retry_4 (by decide) (k_X10_retry_19 hd1 B hr hlk) (k_X10_retry_7 hd1 B hr hlk)))
def S_X10_retry (d : Nat) (G : Nat → zK) (Q : zQ) : Prop := zLk G 0 (b_X10_retry_0 d G Q)
theorem s_X10_retry_0 {d : Nat} {G : Nat → zK} {Q : zQ} (h : S_X10_retry d G Q) {ls st : List zV} {μ : zM} (k : b_X10_retry_0 d G Q ls st μ) : G 0 ls st μ := h ls st μ k
theorem of_X10_retry {d : Nat} {a0 a1 : zV} {μ : zM} {Q : zQ} (hd1 : 1 ≤ d) (h : ∀ G : Nat → zK, S_X10_retry d G Q → G 0 [a0, a1] [] μ) : zCt d mX10_retry [a0, a1] μ Q := zCt.mk (by decide) (Nat.le_of_ble_eq_true rfl) (fun p l e s m args below meth c E B hr hlk => h _ (k_X10_retry_0 hd1 B hr hlk))
theorem dX10_deliver_0 : decode cX10_deliver 0 = .ok (.aload_n 0, 1) := by decide +kernel
theorem dX10_deliver_1 : decode cX10_deliver 1 = .ok (.getfield 48, 3) := by decide +kernel
theorem dX10_deliver_4 : decode cX10_deliver 4 = .ok (.iload_n 1, 1) := by decide +kernel
theorem dX10_deliver_5 : decode cX10_deliver 5 = .ok (.invokevirtual 166, 3) := by decide +kernel
theorem dX10_deliver_8 : decode cX10_deliver 8 = .ok (.ifCond .ne 5, 3) := by decide +kernel
theorem dX10_deliver_11 : decode cX10_deliver 11 = .ok (.iconst (-1), 1) := by decide +kernel
theorem dX10_deliver_12 : decode cX10_deliver 12 = .ok (.ireturn, 1) := by decide +kernel
theorem dX10_deliver_13 : decode cX10_deliver 13 = .ok (.aload_n 0, 1) := by decide +kernel
theorem dX10_deliver_14 : decode cX10_deliver 14 = .ok (.getfield 48, 3) := by decide +kernel
theorem dX10_deliver_17 : decode cX10_deliver 17 = .ok (.iload_n 1, 1) := by decide +kernel
theorem dX10_deliver_18 : decode cX10_deliver 18 = .ok (.invokevirtual 169, 3) := by decide +kernel
theorem dX10_deliver_21 : decode cX10_deliver 21 = .ok (.istore_n 2, 1) := by decide +kernel
theorem dX10_deliver_22 : decode cX10_deliver 22 = .ok (.aload_n 0, 1) := by decide +kernel
theorem dX10_deliver_23 : decode cX10_deliver 23 = .ok (.getfield 48, 3) := by decide +kernel
theorem dX10_deliver_26 : decode cX10_deliver 26 = .ok (.iload_n 1, 1) := by decide +kernel
theorem dX10_deliver_27 : decode cX10_deliver 27 = .ok (.invokevirtual 172, 3) := by decide +kernel
theorem dX10_deliver_30 : decode cX10_deliver 30 = .ok (.istore_n 3, 1) := by decide +kernel
theorem dX10_deliver_31 : decode cX10_deliver 31 = .ok (.aload_n 0, 1) := by decide +kernel
theorem dX10_deliver_32 : decode cX10_deliver 32 = .ok (.getfield 48, 3) := by decide +kernel
theorem dX10_deliver_35 : decode cX10_deliver 35 = .ok (.iload_n 1, 1) := by decide +kernel
theorem dX10_deliver_36 : decode cX10_deliver 36 = .ok (.invokevirtual 175, 3) := by decide +kernel
theorem dX10_deliver_39 : decode cX10_deliver 39 = .ok (.istore 4, 2) := by decide +kernel
theorem dX10_deliver_41 : decode cX10_deliver 41 = .ok (.aload_n 0, 1) := by decide +kernel
theorem dX10_deliver_42 : decode cX10_deliver 42 = .ok (.getfield 48, 3) := by decide +kernel
theorem dX10_deliver_45 : decode cX10_deliver 45 = .ok (.iload_n 1, 1) := by decide +kernel
theorem dX10_deliver_46 : decode cX10_deliver 46 = .ok (.invokevirtual 178, 3) := by decide +kernel
theorem dX10_deliver_49 : decode cX10_deliver 49 = .ok (.istore 5, 2) := by decide +kernel
theorem dX10_deliver_51 : decode cX10_deliver 51 = .ok (.iload_n 2, 1) := by decide +kernel
theorem dX10_deliver_52 : decode cX10_deliver 52 = .ok (.iconst 1, 1) := by decide +kernel
theorem dX10_deliver_53 : decode cX10_deliver 53 = .ok (.if_icmp .ne 25, 3) := by decide +kernel
theorem dX10_deliver_56 : decode cX10_deliver 56 = .ok (.aload_n 0, 1) := by decide +kernel
theorem dX10_deliver_57 : decode cX10_deliver 57 = .ok (.getfield 41, 3) := by decide +kernel
theorem dX10_deliver_60 : decode cX10_deliver 60 = .ok (.invokevirtual 75, 3) := by decide +kernel
theorem dX10_deliver_63 : decode cX10_deliver 63 = .ok (.aload_n 0, 1) := by decide +kernel
theorem dX10_deliver_64 : decode cX10_deliver 64 = .ok (.getfield 41, 3) := by decide +kernel
theorem dX10_deliver_67 : decode cX10_deliver 67 = .ok (.aload_n 0, 1) := by decide +kernel
theorem dX10_deliver_68 : decode cX10_deliver 68 = .ok (.getfield 48, 3) := by decide +kernel
theorem dX10_deliver_71 : decode cX10_deliver 71 = .ok (.invokevirtual 181, 3) := by decide +kernel
theorem dX10_deliver_74 : decode cX10_deliver 74 = .ok (.iload_n 1, 1) := by decide +kernel
theorem dX10_deliver_75 : decode cX10_deliver 75 = .ok (.invokevirtual 184, 3) := by decide +kernel
theorem dX10_deliver_78 : decode cX10_deliver 78 = .ok (.aload_n 0, 1) := by decide +kernel
theorem dX10_deliver_79 : decode cX10_deliver 79 = .ok (.getfield 48, 3) := by decide +kernel
theorem dX10_deliver_82 : decode cX10_deliver 82 = .ok (.iload_n 1, 1) := by decide +kernel
theorem dX10_deliver_83 : decode cX10_deliver 83 = .ok (.invokevirtual 188, 3) := by decide +kernel
theorem dX10_deliver_86 : decode cX10_deliver 86 = .ok (.iload_n 2, 1) := by decide +kernel
theorem dX10_deliver_87 : decode cX10_deliver 87 = .ok (.ifCond .ne 15, 3) := by decide +kernel
theorem dX10_deliver_90 : decode cX10_deliver 90 = .ok (.aload_n 0, 1) := by decide +kernel
theorem dX10_deliver_91 : decode cX10_deliver 91 = .ok (.iload_n 3, 1) := by decide +kernel
theorem dX10_deliver_92 : decode cX10_deliver 92 = .ok (.iload 4, 2) := by decide +kernel
theorem dX10_deliver_94 : decode cX10_deliver 94 = .ok (.iload 5, 2) := by decide +kernel
theorem dX10_deliver_96 : decode cX10_deliver 96 = .ok (.invokevirtual 191, 3) := by decide +kernel
theorem dX10_deliver_99 : decode cX10_deliver 99 = .ok (.goto 29, 3) := by decide +kernel
theorem dX10_deliver_102 : decode cX10_deliver 102 = .ok (.iload_n 2, 1) := by decide +kernel
theorem dX10_deliver_103 : decode cX10_deliver 103 = .ok (.iconst 1, 1) := by decide +kernel
theorem dX10_deliver_104 : decode cX10_deliver 104 = .ok (.if_icmp .ne 15, 3) := by decide +kernel
theorem dX10_deliver_107 : decode cX10_deliver 107 = .ok (.aload_n 0, 1) := by decide +kernel
theorem dX10_deliver_108 : decode cX10_deliver 108 = .ok (.iload_n 3, 1) := by decide +kernel
theorem dX10_deliver_109 : decode cX10_deliver 109 = .ok (.iload 4, 2) := by decide +kernel
theorem dX10_deliver_111 : decode cX10_deliver 111 = .ok (.iload 5, 2) := by decide +kernel
theorem dX10_deliver_113 : decode cX10_deliver 113 = .ok (.invokevirtual 195, 3) := by decide +kernel
theorem dX10_deliver_116 : decode cX10_deliver 116 = .ok (.goto 12, 3) := by decide +kernel
theorem dX10_deliver_119 : decode cX10_deliver 119 = .ok (.aload_n 0, 1) := by decide +kernel
theorem dX10_deliver_120 : decode cX10_deliver 120 = .ok (.iload_n 3, 1) := by decide +kernel
theorem dX10_deliver_121 : decode cX10_deliver 121 = .ok (.iload 4, 2) := by decide +kernel
theorem dX10_deliver_123 : decode cX10_deliver 123 = .ok (.iload 5, 2) := by decide +kernel
theorem dX10_deliver_125 : decode cX10_deliver 125 = .ok (.invokevirtual 198, 3) := by decide +kernel
theorem dX10_deliver_128 : decode cX10_deliver 128 = .ok (.iload_n 2, 1) := by decide +kernel
theorem dX10_deliver_129 : decode cX10_deliver 129 = .ok (.ireturn, 1) := by decide +kernel
def b_X10_deliver_56 (d : Nat) (G : Nat → zK) (Q : zQ) : zK := o_al 0 <| o_gf 8 5 <| o_callv (zCt (d - 1) mX0_restart) 0 1 <| o_al 0 <| o_gf 8 5 <| o_al 0 <| o_gf 8 6 <| o_callv (zCt (d - 1) mX3_rows) 2 1 <| o_il 1 <| o_callv (zCt (d - 1) mX0_takeCopy) 0 3 <| G 78
def b_X10_deliver_13 (d : Nat) (G : Nat → zK) (Q : zQ) : zK := o_al 0 <| o_gf 8 6 <| o_il 1 <| o_callv (zCt (d - 1) mX3_kindAt) 2 2 <| o_is 2 <| o_al 0 <| o_gf 8 6 <| o_il 1 <| o_callv (zCt (d - 1) mX3_senderAt) 2 2 <| o_is 3 <| o_al 0 <| o_gf 8 6 <| o_il 1 <| o_callv (zCt (d - 1) mX3_receiverAt) 2 2 <| o_is 4 <| o_al 0 <| o_gf 8 6 <| o_il 1 <| o_callv (zCt (d - 1) mX3_nameAt) 2 2 <| o_is 5 <| o_il 2 <| o_c 1 <| t_ieq (b_X10_deliver_56 d G Q) (G 78)
def b_X10_deliver_11 (d : Nat) (G : Nat → zK) (Q : zQ) : zK := o_c (-1) <| t_iret Q
def b_X10_deliver_0 (d : Nat) (G : Nat → zK) (Q : zQ) : zK := o_al 0 <| o_gf 8 6 <| o_il 1 <| o_callv (zCt (d - 1) mX3_has) 2 2 <| t_zeq (b_X10_deliver_11 d G Q) (b_X10_deliver_13 d G Q)
def b_X10_deliver_128 (d : Nat) (G : Nat → zK) (Q : zQ) : zK := o_il 2 <| t_iret Q
def b_X10_deliver_119 (d : Nat) (G : Nat → zK) (Q : zQ) : zK := o_al 0 <| o_il 3 <| o_il 4 <| o_il 5 <| o_callv (zCt (d - 1) mX10_receiveNone) 8 4 <| b_X10_deliver_128 d G Q
def b_X10_deliver_107 (d : Nat) (G : Nat → zK) (Q : zQ) : zK := o_al 0 <| o_il 3 <| o_il 4 <| o_il 5 <| o_callv (zCt (d - 1) mX10_receiveGive) 8 4 <| b_X10_deliver_128 d G Q
def b_X10_deliver_102 (d : Nat) (G : Nat → zK) (Q : zQ) : zK := o_il 2 <| o_c 1 <| t_ieq (b_X10_deliver_107 d G Q) (b_X10_deliver_119 d G Q)
def b_X10_deliver_90 (d : Nat) (G : Nat → zK) (Q : zQ) : zK := o_al 0 <| o_il 3 <| o_il 4 <| o_il 5 <| o_callv (zCt (d - 1) mX10_answerWant) 8 4 <| b_X10_deliver_128 d G Q
def b_X10_deliver_78 (d : Nat) (G : Nat → zK) (Q : zQ) : zK := o_al 0 <| o_gf 8 6 <| o_il 1 <| o_callv (zCt (d - 1) mX3_lose) 2 2 <| o_il 2 <| t_zeq (b_X10_deliver_90 d G Q) (b_X10_deliver_102 d G Q)
set_option maxRecDepth 20000 in
theorem k_X10_deliver_56 {p : Program} {l : Launch} {e : Env} {s : State} {m : MethodId} {args : Array Value} {below : List Frame} {meth : Method} {c : Code} {E : zE} {d : Nat} {Q : zQ} (hd1 : 1 ≤ d) (B : zB p s m args c E mX10_deliver.1.cls mX10_deliver.2.1 mX10_deliver.2.2.1) (hr : meth.sig.returnType = mX10_deliver.2.2.2) (hlk : meth.locks = false) : zLk (zG p l e (zrm d) s m args below meth c E mX10_deliver.2.2.1 0 0 (MQ below (zQc E Q) args s 0 0 (zaA E))) 56 (b_X10_deliver_56 d (zG p l e (zrm d) s m args below meth c E mX10_deliver.2.2.1 0 0 (MQ below (zQc E Q) args s 0 0 (zaA E))) Q) := by
  unfold b_X10_deliver_56
  exact lk_aln B dX10_deliver_56 rfl (lk_gf (T := TX10) B cl_X10 (by decide) in_X10 zw_239 dX10_deliver_57 (lk_callv (M := mX0_restart) (T := TX0) (N := 4) B (zhR hd1 (by decide)) ⟨Nat.zero_le _, Nat.zero_le _⟩ cl_X0 (zw5 zw_293 zw_290 zw_291 zw_292 zw_55) (by decide +kernel) dX10_deliver_60 (lk_aln B dX10_deliver_63 rfl (lk_gf (T := TX10) B cl_X10 (by decide) in_X10 zw_239 dX10_deliver_64 (lk_aln B dX10_deliver_67 rfl (lk_gf (T := TX10) B cl_X10 (by decide) in_X10 zw_240 dX10_deliver_68 (lk_callv (M := mX3_rows) (T := TX3) (N := 4) B (zhR hd1 (by decide)) ⟨Nat.zero_le _, Nat.zero_le _⟩ cl_X3 (zw5 zw_709 zw_706 zw_707 zw_708 zw_56) (by decide +kernel) dX10_deliver_71 (lk_iln B dX10_deliver_74 rfl (lk_callv (M := mX0_takeCopy) (T := TX0) (N := 4) B (zhR hd1 (by decide)) ⟨Nat.zero_le _, Nat.zero_le _⟩ cl_X0 (zw5 zw_713 zw_710 zw_711 zw_712 zw_55) (by decide +kernel) dX10_deliver_75 (fun _ _ _ h => h))))))))))
set_option maxRecDepth 20000 in
theorem k_X10_deliver_13 {p : Program} {l : Launch} {e : Env} {s : State} {m : MethodId} {args : Array Value} {below : List Frame} {meth : Method} {c : Code} {E : zE} {d : Nat} {Q : zQ} (hd1 : 1 ≤ d) (B : zB p s m args c E mX10_deliver.1.cls mX10_deliver.2.1 mX10_deliver.2.2.1) (hr : meth.sig.returnType = mX10_deliver.2.2.2) (hlk : meth.locks = false) : zLk (zG p l e (zrm d) s m args below meth c E mX10_deliver.2.2.1 0 0 (MQ below (zQc E Q) args s 0 0 (zaA E))) 13 (b_X10_deliver_13 d (zG p l e (zrm d) s m args below meth c E mX10_deliver.2.2.1 0 0 (MQ below (zQc E Q) args s 0 0 (zaA E))) Q) := by
  unfold b_X10_deliver_13
  exact lk_aln B dX10_deliver_13 rfl (lk_gf (T := TX10) B cl_X10 (by decide) in_X10 zw_240 dX10_deliver_14 (lk_iln B dX10_deliver_17 rfl (lk_callv (M := mX3_kindAt) (T := TX3) (N := 4) B (zhR hd1 (by decide)) ⟨Nat.zero_le _, Nat.zero_le _⟩ cl_X3 (zw5 zw_691 zw_688 zw_689 zw_690 zw_56) (by decide +kernel) dX10_deliver_18 (lk_isn B dX10_deliver_21 rfl (by decide) (lk_aln B dX10_deliver_22 rfl (lk_gf (T := TX10) B cl_X10 (by decide) in_X10 zw_240 dX10_deliver_23 (lk_iln B dX10_deliver_26 rfl (lk_callv (M := mX3_senderAt) (T := TX3) (N := 4) B (zhR hd1 (by decide)) ⟨Nat.zero_le _, Nat.zero_le _⟩ cl_X3 (zw5 zw_696 zw_693 zw_694 zw_695 zw_56) (by decide +kernel) dX10_deliver_27 (lk_isn B dX10_deliver_30 rfl (by decide) (lk_aln B dX10_deliver_31 rfl (lk_gf (T := TX10) B cl_X10 (by decide) in_X10 zw_240 dX10_deliver_32 (lk_iln B dX10_deliver_35 rfl (lk_callv (M := mX3_receiverAt) (T := TX3) (N := 4) B (zhR hd1 (by decide)) ⟨Nat.zero_le _, Nat.zero_le _⟩ cl_X3 (zw5 zw_700 zw_697 zw_698 zw_699 zw_56) (by decide +kernel) dX10_deliver_36 (lk_is B dX10_deliver_39 (by decide) (lk_aln B dX10_deliver_41 rfl (lk_gf (T := TX10) B cl_X10 (by decide) in_X10 zw_240 dX10_deliver_42 (lk_iln B dX10_deliver_45 rfl (lk_callv (M := mX3_nameAt) (T := TX3) (N := 4) B (zhR hd1 (by decide)) ⟨Nat.zero_le _, Nat.zero_le _⟩ cl_X3 (zw5 zw_704 zw_701 zw_702 zw_703 zw_56) (by decide +kernel) dX10_deliver_46 (lk_is B dX10_deliver_49 (by decide) (lk_iln B dX10_deliver_51 rfl (lk_c B dX10_deliver_52 (lk_ine B dX10_deliver_53 (by decide) (fun _ _ _ h => h) (k_X10_deliver_56 hd1 B hr hlk)))))))))))))))))))))))
set_option maxRecDepth 20000 in
theorem k_X10_deliver_11 {p : Program} {l : Launch} {e : Env} {s : State} {m : MethodId} {args : Array Value} {below : List Frame} {meth : Method} {c : Code} {E : zE} {d : Nat} {Q : zQ} (hd1 : 1 ≤ d) (B : zB p s m args c E mX10_deliver.1.cls mX10_deliver.2.1 mX10_deliver.2.2.1) (hr : meth.sig.returnType = mX10_deliver.2.2.2) (hlk : meth.locks = false) : zLk (zG p l e (zrm d) s m args below meth c E mX10_deliver.2.2.1 0 0 (MQ below (zQc E Q) args s 0 0 (zaA E))) 11 (b_X10_deliver_11 d (zG p l e (zrm d) s m args below meth c E mX10_deliver.2.2.1 0 0 (MQ below (zQc E Q) args s 0 0 (zaA E))) Q) := by
  unfold b_X10_deliver_11
  exact lk_c B dX10_deliver_11 (lk_iret B hr hlk dX10_deliver_12)
set_option maxRecDepth 20000 in
theorem k_X10_deliver_0 {p : Program} {l : Launch} {e : Env} {s : State} {m : MethodId} {args : Array Value} {below : List Frame} {meth : Method} {c : Code} {E : zE} {d : Nat} {Q : zQ} (hd1 : 1 ≤ d) (B : zB p s m args c E mX10_deliver.1.cls mX10_deliver.2.1 mX10_deliver.2.2.1) (hr : meth.sig.returnType = mX10_deliver.2.2.2) (hlk : meth.locks = false) : zLk (zG p l e (zrm d) s m args below meth c E mX10_deliver.2.2.1 0 0 (MQ below (zQc E Q) args s 0 0 (zaA E))) 0 (b_X10_deliver_0 d (zG p l e (zrm d) s m args below meth c E mX10_deliver.2.2.1 0 0 (MQ below (zQc E Q) args s 0 0 (zaA E))) Q) := by
  unfold b_X10_deliver_0
  exact lk_aln B dX10_deliver_0 rfl (lk_gf (T := TX10) B cl_X10 (by decide) in_X10 zw_240 dX10_deliver_1 (lk_iln B dX10_deliver_4 rfl (lk_callv (M := mX3_has) (T := TX3) (N := 4) B (zhR hd1 (by decide)) ⟨Nat.zero_le _, Nat.zero_le _⟩ cl_X3 (zw5 zw_686 zw_683 zw_684 zw_685 zw_56) (by decide +kernel) dX10_deliver_5 (lk_zne B dX10_deliver_8 (by decide) (k_X10_deliver_13 hd1 B hr hlk) (k_X10_deliver_11 hd1 B hr hlk)))))
set_option maxRecDepth 20000 in
theorem k_X10_deliver_128 {p : Program} {l : Launch} {e : Env} {s : State} {m : MethodId} {args : Array Value} {below : List Frame} {meth : Method} {c : Code} {E : zE} {d : Nat} {Q : zQ} (hd1 : 1 ≤ d) (B : zB p s m args c E mX10_deliver.1.cls mX10_deliver.2.1 mX10_deliver.2.2.1) (hr : meth.sig.returnType = mX10_deliver.2.2.2) (hlk : meth.locks = false) : zLk (zG p l e (zrm d) s m args below meth c E mX10_deliver.2.2.1 0 0 (MQ below (zQc E Q) args s 0 0 (zaA E))) 128 (b_X10_deliver_128 d (zG p l e (zrm d) s m args below meth c E mX10_deliver.2.2.1 0 0 (MQ below (zQc E Q) args s 0 0 (zaA E))) Q) := by
  unfold b_X10_deliver_128
  exact lk_iln B dX10_deliver_128 rfl (lk_iret B hr hlk dX10_deliver_129)
set_option maxRecDepth 20000 in
theorem k_X10_deliver_119 {p : Program} {l : Launch} {e : Env} {s : State} {m : MethodId} {args : Array Value} {below : List Frame} {meth : Method} {c : Code} {E : zE} {d : Nat} {Q : zQ} (hd1 : 1 ≤ d) (B : zB p s m args c E mX10_deliver.1.cls mX10_deliver.2.1 mX10_deliver.2.2.1) (hr : meth.sig.returnType = mX10_deliver.2.2.2) (hlk : meth.locks = false) : zLk (zG p l e (zrm d) s m args below meth c E mX10_deliver.2.2.1 0 0 (MQ below (zQc E Q) args s 0 0 (zaA E))) 119 (b_X10_deliver_119 d (zG p l e (zrm d) s m args below meth c E mX10_deliver.2.2.1 0 0 (MQ below (zQc E Q) args s 0 0 (zaA E))) Q) := by
  unfold b_X10_deliver_119
  exact lk_aln B dX10_deliver_119 rfl (lk_iln B dX10_deliver_120 rfl (lk_il B dX10_deliver_121 (lk_il B dX10_deliver_123 (lk_callv (M := mX10_receiveNone) (T := TX10) (N := 9) B (zhR hd1 (by decide)) ⟨Nat.zero_le _, Nat.zero_le _⟩ cl_X10 (zw5 zw_746 zw_743 zw_745 zw_15 zw_49) (by decide +kernel) dX10_deliver_125 (k_X10_deliver_128 hd1 B hr hlk)))))
set_option maxRecDepth 20000 in
theorem k_X10_deliver_107 {p : Program} {l : Launch} {e : Env} {s : State} {m : MethodId} {args : Array Value} {below : List Frame} {meth : Method} {c : Code} {E : zE} {d : Nat} {Q : zQ} (hd1 : 1 ≤ d) (B : zB p s m args c E mX10_deliver.1.cls mX10_deliver.2.1 mX10_deliver.2.2.1) (hr : meth.sig.returnType = mX10_deliver.2.2.2) (hlk : meth.locks = false) : zLk (zG p l e (zrm d) s m args below meth c E mX10_deliver.2.2.1 0 0 (MQ below (zQc E Q) args s 0 0 (zaA E))) 107 (b_X10_deliver_107 d (zG p l e (zrm d) s m args below meth c E mX10_deliver.2.2.1 0 0 (MQ below (zQc E Q) args s 0 0 (zaA E))) Q) := by
  unfold b_X10_deliver_107
  exact lk_aln B dX10_deliver_107 rfl (lk_iln B dX10_deliver_108 rfl (lk_il B dX10_deliver_109 (lk_il B dX10_deliver_111 (lk_callv (M := mX10_receiveGive) (T := TX10) (N := 9) B (zhR hd1 (by decide)) ⟨Nat.zero_le _, Nat.zero_le _⟩ cl_X10 (zw5 zw_733 zw_730 zw_732 zw_14 zw_49) (by decide +kernel) dX10_deliver_113 (lk_goto B dX10_deliver_116 (by decide) (k_X10_deliver_128 hd1 B hr hlk))))))
set_option maxRecDepth 20000 in
theorem k_X10_deliver_102 {p : Program} {l : Launch} {e : Env} {s : State} {m : MethodId} {args : Array Value} {below : List Frame} {meth : Method} {c : Code} {E : zE} {d : Nat} {Q : zQ} (hd1 : 1 ≤ d) (B : zB p s m args c E mX10_deliver.1.cls mX10_deliver.2.1 mX10_deliver.2.2.1) (hr : meth.sig.returnType = mX10_deliver.2.2.2) (hlk : meth.locks = false) : zLk (zG p l e (zrm d) s m args below meth c E mX10_deliver.2.2.1 0 0 (MQ below (zQc E Q) args s 0 0 (zaA E))) 102 (b_X10_deliver_102 d (zG p l e (zrm d) s m args below meth c E mX10_deliver.2.2.1 0 0 (MQ below (zQc E Q) args s 0 0 (zaA E))) Q) := by
  unfold b_X10_deliver_102
  exact lk_iln B dX10_deliver_102 rfl (lk_c B dX10_deliver_103 (lk_ine B dX10_deliver_104 (by decide) (k_X10_deliver_119 hd1 B hr hlk) (k_X10_deliver_107 hd1 B hr hlk)))
set_option maxRecDepth 20000 in
theorem k_X10_deliver_90 {p : Program} {l : Launch} {e : Env} {s : State} {m : MethodId} {args : Array Value} {below : List Frame} {meth : Method} {c : Code} {E : zE} {d : Nat} {Q : zQ} (hd1 : 1 ≤ d) (B : zB p s m args c E mX10_deliver.1.cls mX10_deliver.2.1 mX10_deliver.2.2.1) (hr : meth.sig.returnType = mX10_deliver.2.2.2) (hlk : meth.locks = false) : zLk (zG p l e (zrm d) s m args below meth c E mX10_deliver.2.2.1 0 0 (MQ below (zQc E Q) args s 0 0 (zaA E))) 90 (b_X10_deliver_90 d (zG p l e (zrm d) s m args below meth c E mX10_deliver.2.2.1 0 0 (MQ below (zQc E Q) args s 0 0 (zaA E))) Q) := by
  unfold b_X10_deliver_90
  exact lk_aln B dX10_deliver_90 rfl (lk_iln B dX10_deliver_91 rfl (lk_il B dX10_deliver_92 (lk_il B dX10_deliver_94 (lk_callv (M := mX10_answerWant) (T := TX10) (N := 9) B (zhR hd1 (by decide)) ⟨Nat.zero_le _, Nat.zero_le _⟩ cl_X10 (zw5 zw_724 zw_721 zw_723 zw_13 zw_49) (by decide +kernel) dX10_deliver_96 (lk_goto B dX10_deliver_99 (by decide) (k_X10_deliver_128 hd1 B hr hlk))))))
set_option maxRecDepth 20000 in
theorem k_X10_deliver_78 {p : Program} {l : Launch} {e : Env} {s : State} {m : MethodId} {args : Array Value} {below : List Frame} {meth : Method} {c : Code} {E : zE} {d : Nat} {Q : zQ} (hd1 : 1 ≤ d) (B : zB p s m args c E mX10_deliver.1.cls mX10_deliver.2.1 mX10_deliver.2.2.1) (hr : meth.sig.returnType = mX10_deliver.2.2.2) (hlk : meth.locks = false) : zLk (zG p l e (zrm d) s m args below meth c E mX10_deliver.2.2.1 0 0 (MQ below (zQc E Q) args s 0 0 (zaA E))) 78 (b_X10_deliver_78 d (zG p l e (zrm d) s m args below meth c E mX10_deliver.2.2.1 0 0 (MQ below (zQc E Q) args s 0 0 (zaA E))) Q) := by
  unfold b_X10_deliver_78
  exact lk_aln B dX10_deliver_78 rfl (lk_gf (T := TX10) B cl_X10 (by decide) in_X10 zw_240 dX10_deliver_79 (lk_iln B dX10_deliver_82 rfl (lk_callv (M := mX3_lose) (T := TX3) (N := 4) B (zhR hd1 (by decide)) ⟨Nat.zero_le _, Nat.zero_le _⟩ cl_X3 (zw5 zw_718 zw_715 zw_716 zw_717 zw_56) (by decide +kernel) dX10_deliver_83 (lk_iln B dX10_deliver_86 rfl (lk_zne B dX10_deliver_87 (by decide) (k_X10_deliver_102 hd1 B hr hlk) (k_X10_deliver_90 hd1 B hr hlk))))))
def S_X10_deliver (d : Nat) (G : Nat → zK) (Q : zQ) : Prop := zLk G 0 (b_X10_deliver_0 d G Q) ∧ zLk G 78 (b_X10_deliver_78 d G Q)
theorem s_X10_deliver_0 {d : Nat} {G : Nat → zK} {Q : zQ} (h : S_X10_deliver d G Q) {ls st : List zV} {μ : zM} (k : b_X10_deliver_0 d G Q ls st μ) : G 0 ls st μ := h.1 ls st μ k
theorem s_X10_deliver_78 {d : Nat} {G : Nat → zK} {Q : zQ} (h : S_X10_deliver d G Q) {ls st : List zV} {μ : zM} (k : b_X10_deliver_78 d G Q ls st μ) : G 78 ls st μ := h.2 ls st μ k
theorem of_X10_deliver {d : Nat} {a0 a1 : zV} {μ : zM} {Q : zQ} (hd1 : 1 ≤ d) (h : ∀ G : Nat → zK, S_X10_deliver d G Q → G 0 [a0, a1, .inr none, .inr none, .inr none, .inr none] [] μ) : zCt d mX10_deliver [a0, a1] μ Q := zCt.mk (by decide) (Nat.le_of_ble_eq_true rfl) (fun p l e s m args below meth c E B hr hlk => h _ ⟨k_X10_deliver_0 hd1 B hr hlk, k_X10_deliver_78 hd1 B hr hlk⟩)
theorem dX10_harm_0 : decode cX10_harm 0 = .ok (.aload_n 0, 1) := by decide +kernel
theorem dX10_harm_1 : decode cX10_harm 1 = .ok (.getfield 48, 3) := by decide +kernel
theorem dX10_harm_4 : decode cX10_harm 4 = .ok (.iload_n 1, 1) := by decide +kernel
theorem dX10_harm_5 : decode cX10_harm 5 = .ok (.invokevirtual 166, 3) := by decide +kernel
theorem dX10_harm_8 : decode cX10_harm 8 = .ok (.ifCond .ne 5, 3) := by decide +kernel
theorem dX10_harm_11 : decode cX10_harm 11 = .ok (.iconst 0, 1) := by decide +kernel
theorem dX10_harm_12 : decode cX10_harm 12 = .ok (.ireturn, 1) := by decide +kernel
theorem dX10_harm_13 : decode cX10_harm 13 = .ok (.iload_n 3, 1) := by decide +kernel
theorem dX10_harm_14 : decode cX10_harm 14 = .ok (.ifCond .ne 13, 3) := by decide +kernel
theorem dX10_harm_17 : decode cX10_harm 17 = .ok (.aload_n 0, 1) := by decide +kernel
theorem dX10_harm_18 : decode cX10_harm 18 = .ok (.getfield 48, 3) := by decide +kernel
theorem dX10_harm_21 : decode cX10_harm 21 = .ok (.iload_n 1, 1) := by decide +kernel
theorem dX10_harm_22 : decode cX10_harm 22 = .ok (.invokevirtual 188, 3) := by decide +kernel
theorem dX10_harm_25 : decode cX10_harm 25 = .ok (.iconst 1, 1) := by decide +kernel
theorem dX10_harm_26 : decode cX10_harm 26 = .ok (.ireturn, 1) := by decide +kernel
theorem dX10_harm_27 : decode cX10_harm 27 = .ok (.aload_n 0, 1) := by decide +kernel
theorem dX10_harm_28 : decode cX10_harm 28 = .ok (.getfield 48, 3) := by decide +kernel
theorem dX10_harm_31 : decode cX10_harm 31 = .ok (.iload_n 1, 1) := by decide +kernel
theorem dX10_harm_32 : decode cX10_harm 32 = .ok (.iload_n 2, 1) := by decide +kernel
theorem dX10_harm_33 : decode cX10_harm 33 = .ok (.iload_n 3, 1) := by decide +kernel
theorem dX10_harm_34 : decode cX10_harm 34 = .ok (.invokevirtual 201, 3) := by decide +kernel
theorem dX10_harm_37 : decode cX10_harm 37 = .ok (.ireturn, 1) := by decide +kernel
def b_X10_harm_27 (d : Nat) (G : Nat → zK) (Q : zQ) : zK := o_al 0 <| o_gf 8 6 <| o_il 1 <| o_il 2 <| o_il 3 <| o_callv (zCt (d - 1) mX3_damage) 2 4 <| t_zret Q
def b_X10_harm_17 (d : Nat) (G : Nat → zK) (Q : zQ) : zK := o_al 0 <| o_gf 8 6 <| o_il 1 <| o_callv (zCt (d - 1) mX3_lose) 2 2 <| o_c 1 <| t_zret Q
def b_X10_harm_13 (d : Nat) (G : Nat → zK) (Q : zQ) : zK := o_il 3 <| t_zeq (b_X10_harm_17 d G Q) (b_X10_harm_27 d G Q)
def b_X10_harm_11 (d : Nat) (G : Nat → zK) (Q : zQ) : zK := o_c 0 <| t_zret Q
def b_X10_harm_0 (d : Nat) (G : Nat → zK) (Q : zQ) : zK := o_al 0 <| o_gf 8 6 <| o_il 1 <| o_callv (zCt (d - 1) mX3_has) 2 2 <| t_zeq (b_X10_harm_11 d G Q) (b_X10_harm_13 d G Q)
set_option maxRecDepth 20000 in
theorem k_X10_harm_27 {p : Program} {l : Launch} {e : Env} {s : State} {m : MethodId} {args : Array Value} {below : List Frame} {meth : Method} {c : Code} {E : zE} {d : Nat} {Q : zQ} (hd1 : 1 ≤ d) (B : zB p s m args c E mX10_harm.1.cls mX10_harm.2.1 mX10_harm.2.2.1) (hr : meth.sig.returnType = mX10_harm.2.2.2) (hlk : meth.locks = false) : zLk (zG p l e (zrm d) s m args below meth c E mX10_harm.2.2.1 0 0 (MQ below (zQc E Q) args s 0 0 (zaA E))) 27 (b_X10_harm_27 d (zG p l e (zrm d) s m args below meth c E mX10_harm.2.2.1 0 0 (MQ below (zQc E Q) args s 0 0 (zaA E))) Q) := by
  unfold b_X10_harm_27
  exact lk_aln B dX10_harm_27 rfl (lk_gf (T := TX10) B cl_X10 (by decide) in_X10 zw_240 dX10_harm_28 (lk_iln B dX10_harm_31 rfl (lk_iln B dX10_harm_32 rfl (lk_iln B dX10_harm_33 rfl (lk_callv (M := mX3_damage) (T := TX3) (N := 4) B (zhR hd1 (by decide)) ⟨Nat.zero_le _, Nat.zero_le _⟩ cl_X3 (zw5 zw_754 zw_751 zw_752 zw_753 zw_56) (by decide +kernel) dX10_harm_34 (lk_zret B hr hlk dX10_harm_37))))))
set_option maxRecDepth 20000 in
theorem k_X10_harm_17 {p : Program} {l : Launch} {e : Env} {s : State} {m : MethodId} {args : Array Value} {below : List Frame} {meth : Method} {c : Code} {E : zE} {d : Nat} {Q : zQ} (hd1 : 1 ≤ d) (B : zB p s m args c E mX10_harm.1.cls mX10_harm.2.1 mX10_harm.2.2.1) (hr : meth.sig.returnType = mX10_harm.2.2.2) (hlk : meth.locks = false) : zLk (zG p l e (zrm d) s m args below meth c E mX10_harm.2.2.1 0 0 (MQ below (zQc E Q) args s 0 0 (zaA E))) 17 (b_X10_harm_17 d (zG p l e (zrm d) s m args below meth c E mX10_harm.2.2.1 0 0 (MQ below (zQc E Q) args s 0 0 (zaA E))) Q) := by
  unfold b_X10_harm_17
  exact lk_aln B dX10_harm_17 rfl (lk_gf (T := TX10) B cl_X10 (by decide) in_X10 zw_240 dX10_harm_18 (lk_iln B dX10_harm_21 rfl (lk_callv (M := mX3_lose) (T := TX3) (N := 4) B (zhR hd1 (by decide)) ⟨Nat.zero_le _, Nat.zero_le _⟩ cl_X3 (zw5 zw_718 zw_715 zw_716 zw_717 zw_56) (by decide +kernel) dX10_harm_22 (lk_c B dX10_harm_25 (lk_zret B hr hlk dX10_harm_26)))))
set_option maxRecDepth 20000 in
theorem k_X10_harm_13 {p : Program} {l : Launch} {e : Env} {s : State} {m : MethodId} {args : Array Value} {below : List Frame} {meth : Method} {c : Code} {E : zE} {d : Nat} {Q : zQ} (hd1 : 1 ≤ d) (B : zB p s m args c E mX10_harm.1.cls mX10_harm.2.1 mX10_harm.2.2.1) (hr : meth.sig.returnType = mX10_harm.2.2.2) (hlk : meth.locks = false) : zLk (zG p l e (zrm d) s m args below meth c E mX10_harm.2.2.1 0 0 (MQ below (zQc E Q) args s 0 0 (zaA E))) 13 (b_X10_harm_13 d (zG p l e (zrm d) s m args below meth c E mX10_harm.2.2.1 0 0 (MQ below (zQc E Q) args s 0 0 (zaA E))) Q) := by
  unfold b_X10_harm_13
  exact lk_iln B dX10_harm_13 rfl (lk_zne B dX10_harm_14 (by decide) (k_X10_harm_27 hd1 B hr hlk) (k_X10_harm_17 hd1 B hr hlk))
set_option maxRecDepth 20000 in
theorem k_X10_harm_11 {p : Program} {l : Launch} {e : Env} {s : State} {m : MethodId} {args : Array Value} {below : List Frame} {meth : Method} {c : Code} {E : zE} {d : Nat} {Q : zQ} (hd1 : 1 ≤ d) (B : zB p s m args c E mX10_harm.1.cls mX10_harm.2.1 mX10_harm.2.2.1) (hr : meth.sig.returnType = mX10_harm.2.2.2) (hlk : meth.locks = false) : zLk (zG p l e (zrm d) s m args below meth c E mX10_harm.2.2.1 0 0 (MQ below (zQc E Q) args s 0 0 (zaA E))) 11 (b_X10_harm_11 d (zG p l e (zrm d) s m args below meth c E mX10_harm.2.2.1 0 0 (MQ below (zQc E Q) args s 0 0 (zaA E))) Q) := by
  unfold b_X10_harm_11
  exact lk_c B dX10_harm_11 (lk_zret B hr hlk dX10_harm_12)
set_option maxRecDepth 20000 in
theorem k_X10_harm_0 {p : Program} {l : Launch} {e : Env} {s : State} {m : MethodId} {args : Array Value} {below : List Frame} {meth : Method} {c : Code} {E : zE} {d : Nat} {Q : zQ} (hd1 : 1 ≤ d) (B : zB p s m args c E mX10_harm.1.cls mX10_harm.2.1 mX10_harm.2.2.1) (hr : meth.sig.returnType = mX10_harm.2.2.2) (hlk : meth.locks = false) : zLk (zG p l e (zrm d) s m args below meth c E mX10_harm.2.2.1 0 0 (MQ below (zQc E Q) args s 0 0 (zaA E))) 0 (b_X10_harm_0 d (zG p l e (zrm d) s m args below meth c E mX10_harm.2.2.1 0 0 (MQ below (zQc E Q) args s 0 0 (zaA E))) Q) := by
  unfold b_X10_harm_0
  exact lk_aln B dX10_harm_0 rfl (lk_gf (T := TX10) B cl_X10 (by decide) in_X10 zw_240 dX10_harm_1 (lk_iln B dX10_harm_4 rfl (lk_callv (M := mX3_has) (T := TX3) (N := 4) B (zhR hd1 (by decide)) ⟨Nat.zero_le _, Nat.zero_le _⟩ cl_X3 (zw5 zw_686 zw_683 zw_684 zw_685 zw_56) (by decide +kernel) dX10_harm_5 (lk_zne B dX10_harm_8 (by decide) (k_X10_harm_13 hd1 B hr hlk) (k_X10_harm_11 hd1 B hr hlk)))))
def S_X10_harm (d : Nat) (G : Nat → zK) (Q : zQ) : Prop := zLk G 0 (b_X10_harm_0 d G Q)
theorem s_X10_harm_0 {d : Nat} {G : Nat → zK} {Q : zQ} (h : S_X10_harm d G Q) {ls st : List zV} {μ : zM} (k : b_X10_harm_0 d G Q ls st μ) : G 0 ls st μ := h ls st μ k
theorem of_X10_harm {d : Nat} {a0 a1 a2 a3 : zV} {μ : zM} {Q : zQ} (hd1 : 1 ≤ d) (h : ∀ G : Nat → zK, S_X10_harm d G Q → G 0 [a0, a1, a2, a3] [] μ) : zCt d mX10_harm [a0, a1, a2, a3] μ Q := zCt.mk (by decide) (Nat.le_of_ble_eq_true rfl) (fun p l e s m args below meth c E B hr hlk => h _ (k_X10_harm_0 hd1 B hr hlk))
theorem dX10_message_0 : decode cX10_message 0 = .ok (.aload_n 0, 1) := by decide +kernel
theorem dX10_message_1 : decode cX10_message 1 = .ok (.getfield 48, 3) := by decide +kernel
theorem dX10_message_4 : decode cX10_message 4 = .ok (.iload_n 1, 1) := by decide +kernel
theorem dX10_message_5 : decode cX10_message 5 = .ok (.invokevirtual 166, 3) := by decide +kernel
theorem dX10_message_8 : decode cX10_message 8 = .ok (.ifCond .ne 5, 3) := by decide +kernel
theorem dX10_message_11 : decode cX10_message 11 = .ok (.iconst (-1), 1) := by decide +kernel
theorem dX10_message_12 : decode cX10_message 12 = .ok (.ireturn, 1) := by decide +kernel
theorem dX10_message_13 : decode cX10_message 13 = .ok (.iload_n 2, 1) := by decide +kernel
theorem dX10_message_14 : decode cX10_message 14 = .ok (.tableswitch 66 0 3 #[30, 39, 48, 57], 30) := by decide +kernel
theorem dX10_message_44 : decode cX10_message 44 = .ok (.aload_n 0, 1) := by decide +kernel
theorem dX10_message_45 : decode cX10_message 45 = .ok (.getfield 48, 3) := by decide +kernel
theorem dX10_message_48 : decode cX10_message 48 = .ok (.iload_n 1, 1) := by decide +kernel
theorem dX10_message_49 : decode cX10_message 49 = .ok (.invokevirtual 169, 3) := by decide +kernel
theorem dX10_message_52 : decode cX10_message 52 = .ok (.ireturn, 1) := by decide +kernel
theorem dX10_message_53 : decode cX10_message 53 = .ok (.aload_n 0, 1) := by decide +kernel
theorem dX10_message_54 : decode cX10_message 54 = .ok (.getfield 48, 3) := by decide +kernel
theorem dX10_message_57 : decode cX10_message 57 = .ok (.iload_n 1, 1) := by decide +kernel
theorem dX10_message_58 : decode cX10_message 58 = .ok (.invokevirtual 172, 3) := by decide +kernel
theorem dX10_message_61 : decode cX10_message 61 = .ok (.ireturn, 1) := by decide +kernel
theorem dX10_message_62 : decode cX10_message 62 = .ok (.aload_n 0, 1) := by decide +kernel
theorem dX10_message_63 : decode cX10_message 63 = .ok (.getfield 48, 3) := by decide +kernel
theorem dX10_message_66 : decode cX10_message 66 = .ok (.iload_n 1, 1) := by decide +kernel
theorem dX10_message_67 : decode cX10_message 67 = .ok (.invokevirtual 175, 3) := by decide +kernel
theorem dX10_message_70 : decode cX10_message 70 = .ok (.ireturn, 1) := by decide +kernel
theorem dX10_message_71 : decode cX10_message 71 = .ok (.aload_n 0, 1) := by decide +kernel
theorem dX10_message_72 : decode cX10_message 72 = .ok (.getfield 48, 3) := by decide +kernel
theorem dX10_message_75 : decode cX10_message 75 = .ok (.iload_n 1, 1) := by decide +kernel
theorem dX10_message_76 : decode cX10_message 76 = .ok (.invokevirtual 178, 3) := by decide +kernel
theorem dX10_message_79 : decode cX10_message 79 = .ok (.ireturn, 1) := by decide +kernel
theorem dX10_message_80 : decode cX10_message 80 = .ok (.iconst (-1), 1) := by decide +kernel
theorem dX10_message_81 : decode cX10_message 81 = .ok (.ireturn, 1) := by decide +kernel
def b_X10_message_80 (d : Nat) (G : Nat → zK) (Q : zQ) : zK := o_c (-1) <| t_iret Q
def b_X10_message_44 (d : Nat) (G : Nat → zK) (Q : zQ) : zK := o_al 0 <| o_gf 8 6 <| o_il 1 <| o_callv (zCt (d - 1) mX3_kindAt) 2 2 <| t_iret Q
def b_X10_message_53 (d : Nat) (G : Nat → zK) (Q : zQ) : zK := o_al 0 <| o_gf 8 6 <| o_il 1 <| o_callv (zCt (d - 1) mX3_senderAt) 2 2 <| t_iret Q
def b_X10_message_62 (d : Nat) (G : Nat → zK) (Q : zQ) : zK := o_al 0 <| o_gf 8 6 <| o_il 1 <| o_callv (zCt (d - 1) mX3_receiverAt) 2 2 <| t_iret Q
def b_X10_message_71 (d : Nat) (G : Nat → zK) (Q : zQ) : zK := o_al 0 <| o_gf 8 6 <| o_il 1 <| o_callv (zCt (d - 1) mX3_nameAt) 2 2 <| t_iret Q
def b_X10_message_13 (d : Nat) (G : Nat → zK) (Q : zQ) : zK := o_il 2 <| t_sw [(0, b_X10_message_44 d G Q), (1, b_X10_message_53 d G Q), (2, b_X10_message_62 d G Q), (3, b_X10_message_71 d G Q)] (b_X10_message_80 d G Q)
def b_X10_message_11 (d : Nat) (G : Nat → zK) (Q : zQ) : zK := o_c (-1) <| t_iret Q
def b_X10_message_0 (d : Nat) (G : Nat → zK) (Q : zQ) : zK := o_al 0 <| o_gf 8 6 <| o_il 1 <| o_callv (zCt (d - 1) mX3_has) 2 2 <| t_zeq (b_X10_message_11 d G Q) (b_X10_message_13 d G Q)
set_option maxRecDepth 20000 in
theorem k_X10_message_80 {p : Program} {l : Launch} {e : Env} {s : State} {m : MethodId} {args : Array Value} {below : List Frame} {meth : Method} {c : Code} {E : zE} {d : Nat} {Q : zQ} (hd1 : 1 ≤ d) (B : zB p s m args c E mX10_message.1.cls mX10_message.2.1 mX10_message.2.2.1) (hr : meth.sig.returnType = mX10_message.2.2.2) (hlk : meth.locks = false) : zLk (zG p l e (zrm d) s m args below meth c E mX10_message.2.2.1 0 0 (MQ below (zQc E Q) args s 0 0 (zaA E))) 80 (b_X10_message_80 d (zG p l e (zrm d) s m args below meth c E mX10_message.2.2.1 0 0 (MQ below (zQc E Q) args s 0 0 (zaA E))) Q) := by
  unfold b_X10_message_80
  exact lk_c B dX10_message_80 (lk_iret B hr hlk dX10_message_81)
set_option maxRecDepth 20000 in
theorem k_X10_message_44 {p : Program} {l : Launch} {e : Env} {s : State} {m : MethodId} {args : Array Value} {below : List Frame} {meth : Method} {c : Code} {E : zE} {d : Nat} {Q : zQ} (hd1 : 1 ≤ d) (B : zB p s m args c E mX10_message.1.cls mX10_message.2.1 mX10_message.2.2.1) (hr : meth.sig.returnType = mX10_message.2.2.2) (hlk : meth.locks = false) : zLk (zG p l e (zrm d) s m args below meth c E mX10_message.2.2.1 0 0 (MQ below (zQc E Q) args s 0 0 (zaA E))) 44 (b_X10_message_44 d (zG p l e (zrm d) s m args below meth c E mX10_message.2.2.1 0 0 (MQ below (zQc E Q) args s 0 0 (zaA E))) Q) := by
  unfold b_X10_message_44
  exact lk_aln B dX10_message_44 rfl (lk_gf (T := TX10) B cl_X10 (by decide) in_X10 zw_240 dX10_message_45 (lk_iln B dX10_message_48 rfl (lk_callv (M := mX3_kindAt) (T := TX3) (N := 4) B (zhR hd1 (by decide)) ⟨Nat.zero_le _, Nat.zero_le _⟩ cl_X3 (zw5 zw_691 zw_688 zw_689 zw_690 zw_56) (by decide +kernel) dX10_message_49 (lk_iret B hr hlk dX10_message_52))))
set_option maxRecDepth 20000 in
theorem k_X10_message_53 {p : Program} {l : Launch} {e : Env} {s : State} {m : MethodId} {args : Array Value} {below : List Frame} {meth : Method} {c : Code} {E : zE} {d : Nat} {Q : zQ} (hd1 : 1 ≤ d) (B : zB p s m args c E mX10_message.1.cls mX10_message.2.1 mX10_message.2.2.1) (hr : meth.sig.returnType = mX10_message.2.2.2) (hlk : meth.locks = false) : zLk (zG p l e (zrm d) s m args below meth c E mX10_message.2.2.1 0 0 (MQ below (zQc E Q) args s 0 0 (zaA E))) 53 (b_X10_message_53 d (zG p l e (zrm d) s m args below meth c E mX10_message.2.2.1 0 0 (MQ below (zQc E Q) args s 0 0 (zaA E))) Q) := by
  unfold b_X10_message_53
  exact lk_aln B dX10_message_53 rfl (lk_gf (T := TX10) B cl_X10 (by decide) in_X10 zw_240 dX10_message_54 (lk_iln B dX10_message_57 rfl (lk_callv (M := mX3_senderAt) (T := TX3) (N := 4) B (zhR hd1 (by decide)) ⟨Nat.zero_le _, Nat.zero_le _⟩ cl_X3 (zw5 zw_696 zw_693 zw_694 zw_695 zw_56) (by decide +kernel) dX10_message_58 (lk_iret B hr hlk dX10_message_61))))
set_option maxRecDepth 20000 in
theorem k_X10_message_62 {p : Program} {l : Launch} {e : Env} {s : State} {m : MethodId} {args : Array Value} {below : List Frame} {meth : Method} {c : Code} {E : zE} {d : Nat} {Q : zQ} (hd1 : 1 ≤ d) (B : zB p s m args c E mX10_message.1.cls mX10_message.2.1 mX10_message.2.2.1) (hr : meth.sig.returnType = mX10_message.2.2.2) (hlk : meth.locks = false) : zLk (zG p l e (zrm d) s m args below meth c E mX10_message.2.2.1 0 0 (MQ below (zQc E Q) args s 0 0 (zaA E))) 62 (b_X10_message_62 d (zG p l e (zrm d) s m args below meth c E mX10_message.2.2.1 0 0 (MQ below (zQc E Q) args s 0 0 (zaA E))) Q) := by
  unfold b_X10_message_62
  exact lk_aln B dX10_message_62 rfl (lk_gf (T := TX10) B cl_X10 (by decide) in_X10 zw_240 dX10_message_63 (lk_iln B dX10_message_66 rfl (lk_callv (M := mX3_receiverAt) (T := TX3) (N := 4) B (zhR hd1 (by decide)) ⟨Nat.zero_le _, Nat.zero_le _⟩ cl_X3 (zw5 zw_700 zw_697 zw_698 zw_699 zw_56) (by decide +kernel) dX10_message_67 (lk_iret B hr hlk dX10_message_70))))
set_option maxRecDepth 20000 in
theorem k_X10_message_71 {p : Program} {l : Launch} {e : Env} {s : State} {m : MethodId} {args : Array Value} {below : List Frame} {meth : Method} {c : Code} {E : zE} {d : Nat} {Q : zQ} (hd1 : 1 ≤ d) (B : zB p s m args c E mX10_message.1.cls mX10_message.2.1 mX10_message.2.2.1) (hr : meth.sig.returnType = mX10_message.2.2.2) (hlk : meth.locks = false) : zLk (zG p l e (zrm d) s m args below meth c E mX10_message.2.2.1 0 0 (MQ below (zQc E Q) args s 0 0 (zaA E))) 71 (b_X10_message_71 d (zG p l e (zrm d) s m args below meth c E mX10_message.2.2.1 0 0 (MQ below (zQc E Q) args s 0 0 (zaA E))) Q) := by
  unfold b_X10_message_71
  exact lk_aln B dX10_message_71 rfl (lk_gf (T := TX10) B cl_X10 (by decide) in_X10 zw_240 dX10_message_72 (lk_iln B dX10_message_75 rfl (lk_callv (M := mX3_nameAt) (T := TX3) (N := 4) B (zhR hd1 (by decide)) ⟨Nat.zero_le _, Nat.zero_le _⟩ cl_X3 (zw5 zw_704 zw_701 zw_702 zw_703 zw_56) (by decide +kernel) dX10_message_76 (lk_iret B hr hlk dX10_message_79))))
set_option maxRecDepth 20000 in
theorem k_X10_message_13 {p : Program} {l : Launch} {e : Env} {s : State} {m : MethodId} {args : Array Value} {below : List Frame} {meth : Method} {c : Code} {E : zE} {d : Nat} {Q : zQ} (hd1 : 1 ≤ d) (B : zB p s m args c E mX10_message.1.cls mX10_message.2.1 mX10_message.2.2.1) (hr : meth.sig.returnType = mX10_message.2.2.2) (hlk : meth.locks = false) : zLk (zG p l e (zrm d) s m args below meth c E mX10_message.2.2.1 0 0 (MQ below (zQc E Q) args s 0 0 (zaA E))) 13 (b_X10_message_13 d (zG p l e (zrm d) s m args below meth c E mX10_message.2.2.1 0 0 (MQ below (zQc E Q) args s 0 0 (zaA E))) Q) := by
  unfold b_X10_message_13
  exact lk_iln B dX10_message_13 rfl (lk_tsw B dX10_message_14 (by refine zfm ⟨30, 44, (show (0 : Int) ≤ 0 from by decide), (show (0 : Int) ≤ 3 from by decide), rfl, by decide, (k_X10_message_44 hd1 B hr hlk)⟩ ?_; refine zfm ⟨39, 53, (show (0 : Int) ≤ 1 from by decide), (show (1 : Int) ≤ 3 from by decide), rfl, by decide, (k_X10_message_53 hd1 B hr hlk)⟩ ?_; refine zfm ⟨48, 62, (show (0 : Int) ≤ 2 from by decide), (show (2 : Int) ≤ 3 from by decide), rfl, by decide, (k_X10_message_62 hd1 B hr hlk)⟩ ?_; refine zfm ⟨57, 71, (show (0 : Int) ≤ 3 from by decide), (show (3 : Int) ≤ 3 from by decide), rfl, by decide, (k_X10_message_71 hd1 B hr hlk)⟩ ?_; exact zfn) (fun x h1 h2 => by simp only [List.mem_cons, List.not_mem_nil, or_false, exists_eq_or_imp, exists_eq_left]; omega) (by decide) (k_X10_message_80 hd1 B hr hlk))
set_option maxRecDepth 20000 in
theorem k_X10_message_11 {p : Program} {l : Launch} {e : Env} {s : State} {m : MethodId} {args : Array Value} {below : List Frame} {meth : Method} {c : Code} {E : zE} {d : Nat} {Q : zQ} (hd1 : 1 ≤ d) (B : zB p s m args c E mX10_message.1.cls mX10_message.2.1 mX10_message.2.2.1) (hr : meth.sig.returnType = mX10_message.2.2.2) (hlk : meth.locks = false) : zLk (zG p l e (zrm d) s m args below meth c E mX10_message.2.2.1 0 0 (MQ below (zQc E Q) args s 0 0 (zaA E))) 11 (b_X10_message_11 d (zG p l e (zrm d) s m args below meth c E mX10_message.2.2.1 0 0 (MQ below (zQc E Q) args s 0 0 (zaA E))) Q) := by
  unfold b_X10_message_11
  exact lk_c B dX10_message_11 (lk_iret B hr hlk dX10_message_12)
set_option maxRecDepth 20000 in
theorem k_X10_message_0 {p : Program} {l : Launch} {e : Env} {s : State} {m : MethodId} {args : Array Value} {below : List Frame} {meth : Method} {c : Code} {E : zE} {d : Nat} {Q : zQ} (hd1 : 1 ≤ d) (B : zB p s m args c E mX10_message.1.cls mX10_message.2.1 mX10_message.2.2.1) (hr : meth.sig.returnType = mX10_message.2.2.2) (hlk : meth.locks = false) : zLk (zG p l e (zrm d) s m args below meth c E mX10_message.2.2.1 0 0 (MQ below (zQc E Q) args s 0 0 (zaA E))) 0 (b_X10_message_0 d (zG p l e (zrm d) s m args below meth c E mX10_message.2.2.1 0 0 (MQ below (zQc E Q) args s 0 0 (zaA E))) Q) := by
  unfold b_X10_message_0
  exact lk_aln B dX10_message_0 rfl (lk_gf (T := TX10) B cl_X10 (by decide) in_X10 zw_240 dX10_message_1 (lk_iln B dX10_message_4 rfl (lk_callv (M := mX3_has) (T := TX3) (N := 4) B (zhR hd1 (by decide)) ⟨Nat.zero_le _, Nat.zero_le _⟩ cl_X3 (zw5 zw_686 zw_683 zw_684 zw_685 zw_56) (by decide +kernel) dX10_message_5 (lk_zne B dX10_message_8 (by decide) (k_X10_message_13 hd1 B hr hlk) (k_X10_message_11 hd1 B hr hlk)))))
def S_X10_message (d : Nat) (G : Nat → zK) (Q : zQ) : Prop := zLk G 0 (b_X10_message_0 d G Q)
theorem s_X10_message_0 {d : Nat} {G : Nat → zK} {Q : zQ} (h : S_X10_message d G Q) {ls st : List zV} {μ : zM} (k : b_X10_message_0 d G Q ls st μ) : G 0 ls st μ := h ls st μ k
theorem of_X10_message {d : Nat} {a0 a1 a2 : zV} {μ : zM} {Q : zQ} (hd1 : 1 ≤ d) (h : ∀ G : Nat → zK, S_X10_message d G Q → G 0 [a0, a1, a2] [] μ) : zCt d mX10_message [a0, a1, a2] μ Q := zCt.mk (by decide) (Nat.le_of_ble_eq_true rfl) (fun p l e s m args below meth c E B hr hlk => h _ (k_X10_message_0 hd1 B hr hlk))
theorem dX10_waiting_0 : decode cX10_waiting 0 = .ok (.aload_n 0, 1) := by decide +kernel
theorem dX10_waiting_1 : decode cX10_waiting 1 = .ok (.getfield 48, 3) := by decide +kernel
theorem dX10_waiting_4 : decode cX10_waiting 4 = .ok (.invokevirtual 205, 3) := by decide +kernel
theorem dX10_waiting_7 : decode cX10_waiting 7 = .ok (.ireturn, 1) := by decide +kernel
def b_X10_waiting_0 (d : Nat) (G : Nat → zK) (Q : zQ) : zK := o_al 0 <| o_gf 8 6 <| o_callv (zCt (d - 1) mX3_count) 2 1 <| t_iret Q
set_option maxRecDepth 20000 in
theorem k_X10_waiting_0 {p : Program} {l : Launch} {e : Env} {s : State} {m : MethodId} {args : Array Value} {below : List Frame} {meth : Method} {c : Code} {E : zE} {d : Nat} {Q : zQ} (hd1 : 1 ≤ d) (B : zB p s m args c E mX10_waiting.1.cls mX10_waiting.2.1 mX10_waiting.2.2.1) (hr : meth.sig.returnType = mX10_waiting.2.2.2) (hlk : meth.locks = false) : zLk (zG p l e (zrm d) s m args below meth c E mX10_waiting.2.2.1 0 0 (MQ below (zQc E Q) args s 0 0 (zaA E))) 0 (b_X10_waiting_0 d (zG p l e (zrm d) s m args below meth c E mX10_waiting.2.2.1 0 0 (MQ below (zQc E Q) args s 0 0 (zaA E))) Q) := by
  unfold b_X10_waiting_0
  exact lk_aln B dX10_waiting_0 rfl (lk_gf (T := TX10) B cl_X10 (by decide) in_X10 zw_240 dX10_waiting_1 (lk_callv (M := mX3_count) (T := TX3) (N := 4) B (zhR hd1 (by decide)) ⟨Nat.zero_le _, Nat.zero_le _⟩ cl_X3 (zw5 zw_773 zw_770 zw_771 zw_772 zw_56) (by decide +kernel) dX10_waiting_4 (lk_iret B hr hlk dX10_waiting_7)))
def S_X10_waiting (d : Nat) (G : Nat → zK) (Q : zQ) : Prop := zLk G 0 (b_X10_waiting_0 d G Q)
theorem s_X10_waiting_0 {d : Nat} {G : Nat → zK} {Q : zQ} (h : S_X10_waiting d G Q) {ls st : List zV} {μ : zM} (k : b_X10_waiting_0 d G Q ls st μ) : G 0 ls st μ := h ls st μ k
theorem of_X10_waiting {d : Nat} {a0 : zV} {μ : zM} {Q : zQ} (hd1 : 1 ≤ d) (h : ∀ G : Nat → zK, S_X10_waiting d G Q → G 0 [a0] [] μ) : zCt d mX10_waiting [a0] μ Q := zCt.mk (by decide) (Nat.le_of_ble_eq_true rfl) (fun p l e s m args below meth c E B hr hlk => h _ (k_X10_waiting_0 hd1 B hr hlk))
theorem dX10_state_0 : decode cX10_state 0 = .ok (.iload_n 1, 1) := by decide +kernel
theorem dX10_state_1 : decode cX10_state 1 = .ok (.invokestatic 69, 3) := by decide +kernel
theorem dX10_state_4 : decode cX10_state 4 = .ok (.ifCond .eq 15, 3) := by decide +kernel
theorem dX10_state_7 : decode cX10_state 7 = .ok (.aload_n 0, 1) := by decide +kernel
theorem dX10_state_8 : decode cX10_state 8 = .ok (.getfield 11, 3) := by decide +kernel
theorem dX10_state_11 : decode cX10_state 11 = .ok (.iload_n 1, 1) := by decide +kernel
theorem dX10_state_12 : decode cX10_state 12 = .ok (.aaload, 1) := by decide +kernel
theorem dX10_state_13 : decode cX10_state 13 = .ok (.invokevirtual 206, 3) := by decide +kernel
theorem dX10_state_16 : decode cX10_state 16 = .ok (.goto 4, 3) := by decide +kernel
theorem dX10_state_19 : decode cX10_state 19 = .ok (.iconst (-1), 1) := by decide +kernel
theorem dX10_state_20 : decode cX10_state 20 = .ok (.ireturn, 1) := by decide +kernel
def b_X10_state_20 (d : Nat) (G : Nat → zK) (Q : zQ) : zK := t_iret Q
def b_X10_state_19 (d : Nat) (G : Nat → zK) (Q : zQ) : zK := o_c (-1) <| b_X10_state_20 d G Q
def b_X10_state_7 (d : Nat) (G : Nat → zK) (Q : zQ) : zK := o_al 0 <| o_gf 8 0 <| o_il 1 <| o_aald <| o_callv (zCt (d - 1) mX7_fetchState) 5 1 <| b_X10_state_20 d G Q
def b_X10_state_0 (d : Nat) (G : Nat → zK) (Q : zQ) : zK := o_il 1 <| o_call (zCt (d - 1) mX10_isStore) 1 <| t_zeq (b_X10_state_19 d G Q) (b_X10_state_7 d G Q)
set_option maxRecDepth 20000 in
theorem k_X10_state_20 {p : Program} {l : Launch} {e : Env} {s : State} {m : MethodId} {args : Array Value} {below : List Frame} {meth : Method} {c : Code} {E : zE} {d : Nat} {Q : zQ} (hd1 : 1 ≤ d) (B : zB p s m args c E mX10_state.1.cls mX10_state.2.1 mX10_state.2.2.1) (hr : meth.sig.returnType = mX10_state.2.2.2) (hlk : meth.locks = false) : zLk (zG p l e (zrm d) s m args below meth c E mX10_state.2.2.1 0 0 (MQ below (zQc E Q) args s 0 0 (zaA E))) 20 (b_X10_state_20 d (zG p l e (zrm d) s m args below meth c E mX10_state.2.2.1 0 0 (MQ below (zQc E Q) args s 0 0 (zaA E))) Q) := by
  unfold b_X10_state_20
  exact lk_iret B hr hlk dX10_state_20
set_option maxRecDepth 20000 in
theorem k_X10_state_19 {p : Program} {l : Launch} {e : Env} {s : State} {m : MethodId} {args : Array Value} {below : List Frame} {meth : Method} {c : Code} {E : zE} {d : Nat} {Q : zQ} (hd1 : 1 ≤ d) (B : zB p s m args c E mX10_state.1.cls mX10_state.2.1 mX10_state.2.2.1) (hr : meth.sig.returnType = mX10_state.2.2.2) (hlk : meth.locks = false) : zLk (zG p l e (zrm d) s m args below meth c E mX10_state.2.2.1 0 0 (MQ below (zQc E Q) args s 0 0 (zaA E))) 19 (b_X10_state_19 d (zG p l e (zrm d) s m args below meth c E mX10_state.2.2.1 0 0 (MQ below (zQc E Q) args s 0 0 (zaA E))) Q) := by
  unfold b_X10_state_19
  exact lk_c B dX10_state_19 (k_X10_state_20 hd1 B hr hlk)
set_option maxRecDepth 20000 in
theorem k_X10_state_7 {p : Program} {l : Launch} {e : Env} {s : State} {m : MethodId} {args : Array Value} {below : List Frame} {meth : Method} {c : Code} {E : zE} {d : Nat} {Q : zQ} (hd1 : 1 ≤ d) (B : zB p s m args c E mX10_state.1.cls mX10_state.2.1 mX10_state.2.2.1) (hr : meth.sig.returnType = mX10_state.2.2.2) (hlk : meth.locks = false) : zLk (zG p l e (zrm d) s m args below meth c E mX10_state.2.2.1 0 0 (MQ below (zQc E Q) args s 0 0 (zaA E))) 7 (b_X10_state_7 d (zG p l e (zrm d) s m args below meth c E mX10_state.2.2.1 0 0 (MQ below (zQc E Q) args s 0 0 (zaA E))) Q) := by
  unfold b_X10_state_7
  exact lk_aln B dX10_state_7 rfl (lk_gf (T := TX10) B cl_X10 (by decide) in_X10 zw_234 dX10_state_8 (lk_iln B dX10_state_11 rfl (lk_aald B dX10_state_12 (lk_callv (M := mX7_fetchState) (T := TX7) (N := 5) B (zhR hd1 (by decide)) ⟨Nat.zero_le _, Nat.zero_le _⟩ cl_X7 (zw5 zw_781 zw_778 zw_779 zw_780 zw_50) (by decide +kernel) dX10_state_13 (lk_goto B dX10_state_16 (by decide) (k_X10_state_20 hd1 B hr hlk))))))
set_option maxRecDepth 20000 in
theorem k_X10_state_0 {p : Program} {l : Launch} {e : Env} {s : State} {m : MethodId} {args : Array Value} {below : List Frame} {meth : Method} {c : Code} {E : zE} {d : Nat} {Q : zQ} (hd1 : 1 ≤ d) (B : zB p s m args c E mX10_state.1.cls mX10_state.2.1 mX10_state.2.2.1) (hr : meth.sig.returnType = mX10_state.2.2.2) (hlk : meth.locks = false) : zLk (zG p l e (zrm d) s m args below meth c E mX10_state.2.2.1 0 0 (MQ below (zQc E Q) args s 0 0 (zaA E))) 0 (b_X10_state_0 d (zG p l e (zrm d) s m args below meth c E mX10_state.2.2.1 0 0 (MQ below (zQc E Q) args s 0 0 (zaA E))) Q) := by
  unfold b_X10_state_0
  exact lk_iln B dX10_state_0 rfl (lk_calls (M := mX10_isStore) B (zhR hd1 (by decide)) ⟨Nat.zero_le _, Nat.zero_le _⟩ (zw4 zw_289 zw_287 zw_288 zw_49) (by decide +kernel) dX10_state_1 (lk_zeq B dX10_state_4 (by decide) (k_X10_state_19 hd1 B hr hlk) (k_X10_state_7 hd1 B hr hlk)))
def S_X10_state (d : Nat) (G : Nat → zK) (Q : zQ) : Prop := zLk G 0 (b_X10_state_0 d G Q)
theorem s_X10_state_0 {d : Nat} {G : Nat → zK} {Q : zQ} (h : S_X10_state d G Q) {ls st : List zV} {μ : zM} (k : b_X10_state_0 d G Q ls st μ) : G 0 ls st μ := h ls st μ k
theorem of_X10_state {d : Nat} {a0 a1 : zV} {μ : zM} {Q : zQ} (hd1 : 1 ≤ d) (h : ∀ G : Nat → zK, S_X10_state d G Q → G 0 [a0, a1] [] μ) : zCt d mX10_state [a0, a1] μ Q := zCt.mk (by decide) (Nat.le_of_ble_eq_true rfl) (fun p l e s m args below meth c E B hr hlk => h _ (k_X10_state_0 hd1 B hr hlk))
theorem dX10_bringIn_0 : decode cX10_bringIn 0 = .ok (.aload_n 0, 1) := by decide +kernel
theorem dX10_bringIn_1 : decode cX10_bringIn 1 = .ok (.getfield 11, 3) := by decide +kernel
theorem dX10_bringIn_4 : decode cX10_bringIn 4 = .ok (.iload_n 1, 1) := by decide +kernel
theorem dX10_bringIn_5 : decode cX10_bringIn 5 = .ok (.aaload, 1) := by decide +kernel
theorem dX10_bringIn_6 : decode cX10_bringIn 6 = .ok (.aload_n 0, 1) := by decide +kernel
theorem dX10_bringIn_7 : decode cX10_bringIn 7 = .ok (.getfield 41, 3) := by decide +kernel
theorem dX10_bringIn_10 : decode cX10_bringIn 10 = .ok (.invokevirtual 211, 3) := by decide +kernel
theorem dX10_bringIn_13 : decode cX10_bringIn 13 = .ok (.istore_n 3, 1) := by decide +kernel
theorem dX10_bringIn_14 : decode cX10_bringIn 14 = .ok (.iload_n 3, 1) := by decide +kernel
theorem dX10_bringIn_15 : decode cX10_bringIn 15 = .ok (.ifCond .eq 5, 3) := by decide +kernel
theorem dX10_bringIn_18 : decode cX10_bringIn 18 = .ok (.iload_n 3, 1) := by decide +kernel
theorem dX10_bringIn_19 : decode cX10_bringIn 19 = .ok (.ireturn, 1) := by decide +kernel
theorem dX10_bringIn_20 : decode cX10_bringIn 20 = .ok (.aload_n 0, 1) := by decide +kernel
theorem dX10_bringIn_21 : decode cX10_bringIn 21 = .ok (.getfield 11, 3) := by decide +kernel
theorem dX10_bringIn_24 : decode cX10_bringIn 24 = .ok (.iload_n 1, 1) := by decide +kernel
theorem dX10_bringIn_25 : decode cX10_bringIn 25 = .ok (.aaload, 1) := by decide +kernel
theorem dX10_bringIn_26 : decode cX10_bringIn 26 = .ok (.invokevirtual 162, 3) := by decide +kernel
theorem dX10_bringIn_29 : decode cX10_bringIn 29 = .ok (.ifCond .eq 16, 3) := by decide +kernel
theorem dX10_bringIn_32 : decode cX10_bringIn 32 = .ok (.aload_n 0, 1) := by decide +kernel
theorem dX10_bringIn_33 : decode cX10_bringIn 33 = .ok (.getfield 11, 3) := by decide +kernel
theorem dX10_bringIn_36 : decode cX10_bringIn 36 = .ok (.iload_n 1, 1) := by decide +kernel
theorem dX10_bringIn_37 : decode cX10_bringIn 37 = .ok (.aaload, 1) := by decide +kernel
theorem dX10_bringIn_38 : decode cX10_bringIn 38 = .ok (.aload_n 0, 1) := by decide +kernel
theorem dX10_bringIn_39 : decode cX10_bringIn 39 = .ok (.getfield 59, 3) := by decide +kernel
theorem dX10_bringIn_42 : decode cX10_bringIn 42 = .ok (.invokevirtual 214, 3) := by decide +kernel
theorem dX10_bringIn_45 : decode cX10_bringIn 45 = .ok (.iload_n 2, 1) := by decide +kernel
theorem dX10_bringIn_46 : decode cX10_bringIn 46 = .ok (.ireturn, 1) := by decide +kernel
def b_X10_bringIn_45 (d : Nat) (G : Nat → zK) (Q : zQ) : zK := o_il 2 <| t_iret Q
def b_X10_bringIn_32 (d : Nat) (G : Nat → zK) (Q : zQ) : zK := o_al 0 <| o_gf 8 0 <| o_il 1 <| o_aald <| o_al 0 <| o_gf 8 8 <| o_callv (zCt (d - 1) mX7_walkFetch) 5 2 <| b_X10_bringIn_45 d G Q
def b_X10_bringIn_20 (d : Nat) (G : Nat → zK) (Q : zQ) : zK := o_al 0 <| o_gf 8 0 <| o_il 1 <| o_aald <| o_callv (zCt (d - 1) mX7_isFetching) 5 1 <| t_zeq (b_X10_bringIn_45 d G Q) (b_X10_bringIn_32 d G Q)
def b_X10_bringIn_18 (d : Nat) (G : Nat → zK) (Q : zQ) : zK := o_il 3 <| t_iret Q
def b_X10_bringIn_0 (d : Nat) (G : Nat → zK) (Q : zQ) : zK := o_al 0 <| o_gf 8 0 <| o_il 1 <| o_aald <| o_al 0 <| o_gf 8 5 <| o_callv (zCt (d - 1) mX7_takeBatch) 5 2 <| o_is 3 <| o_il 3 <| t_zeq (b_X10_bringIn_20 d G Q) (b_X10_bringIn_18 d G Q)
set_option maxRecDepth 20000 in
theorem k_X10_bringIn_45 {p : Program} {l : Launch} {e : Env} {s : State} {m : MethodId} {args : Array Value} {below : List Frame} {meth : Method} {c : Code} {E : zE} {d : Nat} {Q : zQ} (hd1 : 1 ≤ d) (B : zB p s m args c E mX10_bringIn.1.cls mX10_bringIn.2.1 mX10_bringIn.2.2.1) (hr : meth.sig.returnType = mX10_bringIn.2.2.2) (hlk : meth.locks = false) : zLk (zG p l e (zrm d) s m args below meth c E mX10_bringIn.2.2.1 0 0 (MQ below (zQc E Q) args s 0 0 (zaA E))) 45 (b_X10_bringIn_45 d (zG p l e (zrm d) s m args below meth c E mX10_bringIn.2.2.1 0 0 (MQ below (zQc E Q) args s 0 0 (zaA E))) Q) := by
  unfold b_X10_bringIn_45
  exact lk_iln B dX10_bringIn_45 rfl (lk_iret B hr hlk dX10_bringIn_46)
set_option maxRecDepth 20000 in
theorem k_X10_bringIn_32 {p : Program} {l : Launch} {e : Env} {s : State} {m : MethodId} {args : Array Value} {below : List Frame} {meth : Method} {c : Code} {E : zE} {d : Nat} {Q : zQ} (hd1 : 1 ≤ d) (B : zB p s m args c E mX10_bringIn.1.cls mX10_bringIn.2.1 mX10_bringIn.2.2.1) (hr : meth.sig.returnType = mX10_bringIn.2.2.2) (hlk : meth.locks = false) : zLk (zG p l e (zrm d) s m args below meth c E mX10_bringIn.2.2.1 0 0 (MQ below (zQc E Q) args s 0 0 (zaA E))) 32 (b_X10_bringIn_32 d (zG p l e (zrm d) s m args below meth c E mX10_bringIn.2.2.1 0 0 (MQ below (zQc E Q) args s 0 0 (zaA E))) Q) := by
  unfold b_X10_bringIn_32
  exact lk_aln B dX10_bringIn_32 rfl (lk_gf (T := TX10) B cl_X10 (by decide) in_X10 zw_234 dX10_bringIn_33 (lk_iln B dX10_bringIn_36 rfl (lk_aald B dX10_bringIn_37 (lk_aln B dX10_bringIn_38 rfl (lk_gf (T := TX10) B cl_X10 (by decide) in_X10 zw_242 dX10_bringIn_39 (lk_callv (M := mX7_walkFetch) (T := TX7) (N := 5) B (zhR hd1 (by decide)) ⟨Nat.zero_le _, Nat.zero_le _⟩ cl_X7 (zw5 zw_421 zw_418 zw_419 zw_420 zw_50) (by decide +kernel) dX10_bringIn_42 (k_X10_bringIn_45 hd1 B hr hlk)))))))
set_option maxRecDepth 20000 in
theorem k_X10_bringIn_20 {p : Program} {l : Launch} {e : Env} {s : State} {m : MethodId} {args : Array Value} {below : List Frame} {meth : Method} {c : Code} {E : zE} {d : Nat} {Q : zQ} (hd1 : 1 ≤ d) (B : zB p s m args c E mX10_bringIn.1.cls mX10_bringIn.2.1 mX10_bringIn.2.2.1) (hr : meth.sig.returnType = mX10_bringIn.2.2.2) (hlk : meth.locks = false) : zLk (zG p l e (zrm d) s m args below meth c E mX10_bringIn.2.2.1 0 0 (MQ below (zQc E Q) args s 0 0 (zaA E))) 20 (b_X10_bringIn_20 d (zG p l e (zrm d) s m args below meth c E mX10_bringIn.2.2.1 0 0 (MQ below (zQc E Q) args s 0 0 (zaA E))) Q) := by
  unfold b_X10_bringIn_20
  exact lk_aln B dX10_bringIn_20 rfl (lk_gf (T := TX10) B cl_X10 (by decide) in_X10 zw_234 dX10_bringIn_21 (lk_iln B dX10_bringIn_24 rfl (lk_aald B dX10_bringIn_25 (lk_callv (M := mX7_isFetching) (T := TX7) (N := 5) B (zhR hd1 (by decide)) ⟨Nat.zero_le _, Nat.zero_le _⟩ cl_X7 (zw5 zw_417 zw_414 zw_415 zw_416 zw_50) (by decide +kernel) dX10_bringIn_26 (lk_zeq B dX10_bringIn_29 (by decide) (k_X10_bringIn_45 hd1 B hr hlk) (k_X10_bringIn_32 hd1 B hr hlk))))))
set_option maxRecDepth 20000 in
theorem k_X10_bringIn_18 {p : Program} {l : Launch} {e : Env} {s : State} {m : MethodId} {args : Array Value} {below : List Frame} {meth : Method} {c : Code} {E : zE} {d : Nat} {Q : zQ} (hd1 : 1 ≤ d) (B : zB p s m args c E mX10_bringIn.1.cls mX10_bringIn.2.1 mX10_bringIn.2.2.1) (hr : meth.sig.returnType = mX10_bringIn.2.2.2) (hlk : meth.locks = false) : zLk (zG p l e (zrm d) s m args below meth c E mX10_bringIn.2.2.1 0 0 (MQ below (zQc E Q) args s 0 0 (zaA E))) 18 (b_X10_bringIn_18 d (zG p l e (zrm d) s m args below meth c E mX10_bringIn.2.2.1 0 0 (MQ below (zQc E Q) args s 0 0 (zaA E))) Q) := by
  unfold b_X10_bringIn_18
  exact lk_iln B dX10_bringIn_18 rfl (lk_iret B hr hlk dX10_bringIn_19)
set_option maxRecDepth 20000 in
theorem k_X10_bringIn_0 {p : Program} {l : Launch} {e : Env} {s : State} {m : MethodId} {args : Array Value} {below : List Frame} {meth : Method} {c : Code} {E : zE} {d : Nat} {Q : zQ} (hd1 : 1 ≤ d) (B : zB p s m args c E mX10_bringIn.1.cls mX10_bringIn.2.1 mX10_bringIn.2.2.1) (hr : meth.sig.returnType = mX10_bringIn.2.2.2) (hlk : meth.locks = false) : zLk (zG p l e (zrm d) s m args below meth c E mX10_bringIn.2.2.1 0 0 (MQ below (zQc E Q) args s 0 0 (zaA E))) 0 (b_X10_bringIn_0 d (zG p l e (zrm d) s m args below meth c E mX10_bringIn.2.2.1 0 0 (MQ below (zQc E Q) args s 0 0 (zaA E))) Q) := by
  unfold b_X10_bringIn_0
  exact lk_aln B dX10_bringIn_0 rfl (lk_gf (T := TX10) B cl_X10 (by decide) in_X10 zw_234 dX10_bringIn_1 (lk_iln B dX10_bringIn_4 rfl (lk_aald B dX10_bringIn_5 (lk_aln B dX10_bringIn_6 rfl (lk_gf (T := TX10) B cl_X10 (by decide) in_X10 zw_239 dX10_bringIn_7 (lk_callv (M := mX7_takeBatch) (T := TX7) (N := 5) B (zhR hd1 (by decide)) ⟨Nat.zero_le _, Nat.zero_le _⟩ cl_X7 (zw5 zw_389 zw_386 zw_387 zw_388 zw_50) (by decide +kernel) dX10_bringIn_10 (lk_isn B dX10_bringIn_13 rfl (by decide) (lk_iln B dX10_bringIn_14 rfl (lk_zeq B dX10_bringIn_15 (by decide) (k_X10_bringIn_20 hd1 B hr hlk) (k_X10_bringIn_18 hd1 B hr hlk))))))))))
def S_X10_bringIn (d : Nat) (G : Nat → zK) (Q : zQ) : Prop := zLk G 0 (b_X10_bringIn_0 d G Q)
theorem s_X10_bringIn_0 {d : Nat} {G : Nat → zK} {Q : zQ} (h : S_X10_bringIn d G Q) {ls st : List zV} {μ : zM} (k : b_X10_bringIn_0 d G Q ls st μ) : G 0 ls st μ := h ls st μ k
theorem of_X10_bringIn {d : Nat} {a0 a1 a2 : zV} {μ : zM} {Q : zQ} (hd1 : 1 ≤ d) (h : ∀ G : Nat → zK, S_X10_bringIn d G Q → G 0 [a0, a1, a2, .inr none] [] μ) : zCt d mX10_bringIn [a0, a1, a2] μ Q := zCt.mk (by decide) (Nat.le_of_ble_eq_true rfl) (fun p l e s m args below meth c E B hr hlk => h _ (k_X10_bringIn_0 hd1 B hr hlk))
theorem dX10_wantAllMissing_0 : decode cX10_wantAllMissing 0 = .ok (.aload_n 0, 1) := by decide +kernel
theorem dX10_wantAllMissing_1 : decode cX10_wantAllMissing 1 = .ok (.getfield 11, 3) := by decide +kernel
theorem dX10_wantAllMissing_4 : decode cX10_wantAllMissing 4 = .ok (.iload_n 1, 1) := by decide +kernel
theorem dX10_wantAllMissing_5 : decode cX10_wantAllMissing 5 = .ok (.aaload, 1) := by decide +kernel
theorem dX10_wantAllMissing_6 : decode cX10_wantAllMissing 6 = .ok (.aload_n 0, 1) := by decide +kernel
theorem dX10_wantAllMissing_7 : decode cX10_wantAllMissing 7 = .ok (.getfield 59, 3) := by decide +kernel
theorem dX10_wantAllMissing_10 : decode cX10_wantAllMissing 10 = .ok (.invokevirtual 214, 3) := by decide +kernel
theorem dX10_wantAllMissing_13 : decode cX10_wantAllMissing 13 = .ok (.aload_n 0, 1) := by decide +kernel
theorem dX10_wantAllMissing_14 : decode cX10_wantAllMissing 14 = .ok (.getfield 59, 3) := by decide +kernel
theorem dX10_wantAllMissing_17 : decode cX10_wantAllMissing 17 = .ok (.invokevirtual 218, 3) := by decide +kernel
theorem dX10_wantAllMissing_20 : decode cX10_wantAllMissing 20 = .ok (.istore_n 2, 1) := by decide +kernel
theorem dX10_wantAllMissing_21 : decode cX10_wantAllMissing 21 = .ok (.iconst 0, 1) := by decide +kernel
theorem dX10_wantAllMissing_22 : decode cX10_wantAllMissing 22 = .ok (.istore_n 3, 1) := by decide +kernel
theorem dX10_wantAllMissing_23 : decode cX10_wantAllMissing 23 = .ok (.iload_n 3, 1) := by decide +kernel
theorem dX10_wantAllMissing_24 : decode cX10_wantAllMissing 24 = .ok (.iload_n 2, 1) := by decide +kernel
theorem dX10_wantAllMissing_25 : decode cX10_wantAllMissing 25 = .ok (.if_icmp .ge 35, 3) := by decide +kernel
theorem dX10_wantAllMissing_28 : decode cX10_wantAllMissing 28 = .ok (.aload_n 0, 1) := by decide +kernel
theorem dX10_wantAllMissing_29 : decode cX10_wantAllMissing 29 = .ok (.getfield 48, 3) := by decide +kernel
theorem dX10_wantAllMissing_32 : decode cX10_wantAllMissing 32 = .ok (.iconst 0, 1) := by decide +kernel
theorem dX10_wantAllMissing_33 : decode cX10_wantAllMissing 33 = .ok (.iload_n 1, 1) := by decide +kernel
theorem dX10_wantAllMissing_34 : decode cX10_wantAllMissing 34 = .ok (.aload_n 0, 1) := by decide +kernel
theorem dX10_wantAllMissing_35 : decode cX10_wantAllMissing 35 = .ok (.getfield 11, 3) := by decide +kernel
theorem dX10_wantAllMissing_38 : decode cX10_wantAllMissing 38 = .ok (.iload_n 1, 1) := by decide +kernel
theorem dX10_wantAllMissing_39 : decode cX10_wantAllMissing 39 = .ok (.aaload, 1) := by decide +kernel
theorem dX10_wantAllMissing_40 : decode cX10_wantAllMissing 40 = .ok (.invokevirtual 221, 3) := by decide +kernel
theorem dX10_wantAllMissing_43 : decode cX10_wantAllMissing 43 = .ok (.aload_n 0, 1) := by decide +kernel
theorem dX10_wantAllMissing_44 : decode cX10_wantAllMissing 44 = .ok (.getfield 59, 3) := by decide +kernel
theorem dX10_wantAllMissing_47 : decode cX10_wantAllMissing 47 = .ok (.iload_n 3, 1) := by decide +kernel
theorem dX10_wantAllMissing_48 : decode cX10_wantAllMissing 48 = .ok (.invokevirtual 224, 3) := by decide +kernel
theorem dX10_wantAllMissing_51 : decode cX10_wantAllMissing 51 = .ok (.invokevirtual 227, 3) := by decide +kernel
theorem dX10_wantAllMissing_54 : decode cX10_wantAllMissing 54 = .ok (.iinc 3 1, 3) := by decide +kernel
theorem dX10_wantAllMissing_57 : decode cX10_wantAllMissing 57 = .ok (.goto (-34), 3) := by decide +kernel
theorem dX10_wantAllMissing_60 : decode cX10_wantAllMissing 60 = .ok (.iload_n 2, 1) := by decide +kernel
theorem dX10_wantAllMissing_61 : decode cX10_wantAllMissing 61 = .ok (.ireturn, 1) := by decide +kernel
def b_X10_wantAllMissing_0 (d : Nat) (G : Nat → zK) (Q : zQ) : zK := o_al 0 <| o_gf 8 0 <| o_il 1 <| o_aald <| o_al 0 <| o_gf 8 8 <| o_callv (zCt (d - 1) mX7_walkFetch) 5 2 <| o_al 0 <| o_gf 8 8 <| o_callv (zCt (d - 1) mX9_missingCount) 7 1 <| o_is 2 <| o_c 0 <| o_is 3 <| G 23
def b_X10_wantAllMissing_60 (d : Nat) (G : Nat → zK) (Q : zQ) : zK := o_il 2 <| t_iret Q
def b_X10_wantAllMissing_28 (d : Nat) (G : Nat → zK) (Q : zQ) : zK := o_al 0 <| o_gf 8 6 <| o_c 0 <| o_il 1 <| o_al 0 <| o_gf 8 0 <| o_il 1 <| o_aald <| o_callv (zCt (d - 1) mX7_fetchPeer) 5 1 <| o_al 0 <| o_gf 8 8 <| o_il 3 <| o_callv (zCt (d - 1) mX9_missingAt) 7 2 <| o_callv (zCt (d - 1) mX3_sendName) 2 5 <| o_inc 3 1 <| G 23
def b_X10_wantAllMissing_23 (d : Nat) (G : Nat → zK) (Q : zQ) : zK := o_il 3 <| o_il 2 <| t_ilt (b_X10_wantAllMissing_28 d G Q) (b_X10_wantAllMissing_60 d G Q)
set_option maxRecDepth 20000 in
theorem k_X10_wantAllMissing_0 {p : Program} {l : Launch} {e : Env} {s : State} {m : MethodId} {args : Array Value} {below : List Frame} {meth : Method} {c : Code} {E : zE} {d : Nat} {Q : zQ} (hd1 : 1 ≤ d) (B : zB p s m args c E mX10_wantAllMissing.1.cls mX10_wantAllMissing.2.1 mX10_wantAllMissing.2.2.1) (hr : meth.sig.returnType = mX10_wantAllMissing.2.2.2) (hlk : meth.locks = false) : zLk (zG p l e (zrm d) s m args below meth c E mX10_wantAllMissing.2.2.1 0 0 (MQ below (zQc E Q) args s 0 0 (zaA E))) 0 (b_X10_wantAllMissing_0 d (zG p l e (zrm d) s m args below meth c E mX10_wantAllMissing.2.2.1 0 0 (MQ below (zQc E Q) args s 0 0 (zaA E))) Q) := by
  unfold b_X10_wantAllMissing_0
  exact lk_aln B dX10_wantAllMissing_0 rfl (lk_gf (T := TX10) B cl_X10 (by decide) in_X10 zw_234 dX10_wantAllMissing_1 (lk_iln B dX10_wantAllMissing_4 rfl (lk_aald B dX10_wantAllMissing_5 (lk_aln B dX10_wantAllMissing_6 rfl (lk_gf (T := TX10) B cl_X10 (by decide) in_X10 zw_242 dX10_wantAllMissing_7 (lk_callv (M := mX7_walkFetch) (T := TX7) (N := 5) B (zhR hd1 (by decide)) ⟨Nat.zero_le _, Nat.zero_le _⟩ cl_X7 (zw5 zw_421 zw_418 zw_419 zw_420 zw_50) (by decide +kernel) dX10_wantAllMissing_10 (lk_aln B dX10_wantAllMissing_13 rfl (lk_gf (T := TX10) B cl_X10 (by decide) in_X10 zw_242 dX10_wantAllMissing_14 (lk_callv (M := mX9_missingCount) (T := TX9) (N := 5) B (zhR hd1 (by decide)) ⟨Nat.zero_le _, Nat.zero_le _⟩ cl_X9 (zw5 zw_460 zw_652 zw_458 zw_459 zw_57) (by decide +kernel) dX10_wantAllMissing_17 (lk_isn B dX10_wantAllMissing_20 rfl (by decide) (lk_c B dX10_wantAllMissing_21 (lk_isn B dX10_wantAllMissing_22 rfl (by decide) (fun _ _ _ h => h)))))))))))))
set_option maxRecDepth 20000 in
theorem k_X10_wantAllMissing_60 {p : Program} {l : Launch} {e : Env} {s : State} {m : MethodId} {args : Array Value} {below : List Frame} {meth : Method} {c : Code} {E : zE} {d : Nat} {Q : zQ} (hd1 : 1 ≤ d) (B : zB p s m args c E mX10_wantAllMissing.1.cls mX10_wantAllMissing.2.1 mX10_wantAllMissing.2.2.1) (hr : meth.sig.returnType = mX10_wantAllMissing.2.2.2) (hlk : meth.locks = false) : zLk (zG p l e (zrm d) s m args below meth c E mX10_wantAllMissing.2.2.1 0 0 (MQ below (zQc E Q) args s 0 0 (zaA E))) 60 (b_X10_wantAllMissing_60 d (zG p l e (zrm d) s m args below meth c E mX10_wantAllMissing.2.2.1 0 0 (MQ below (zQc E Q) args s 0 0 (zaA E))) Q) := by
  unfold b_X10_wantAllMissing_60
  exact lk_iln B dX10_wantAllMissing_60 rfl (lk_iret B hr hlk dX10_wantAllMissing_61)
set_option maxRecDepth 20000 in
theorem k_X10_wantAllMissing_28 {p : Program} {l : Launch} {e : Env} {s : State} {m : MethodId} {args : Array Value} {below : List Frame} {meth : Method} {c : Code} {E : zE} {d : Nat} {Q : zQ} (hd1 : 1 ≤ d) (B : zB p s m args c E mX10_wantAllMissing.1.cls mX10_wantAllMissing.2.1 mX10_wantAllMissing.2.2.1) (hr : meth.sig.returnType = mX10_wantAllMissing.2.2.2) (hlk : meth.locks = false) : zLk (zG p l e (zrm d) s m args below meth c E mX10_wantAllMissing.2.2.1 0 0 (MQ below (zQc E Q) args s 0 0 (zaA E))) 28 (b_X10_wantAllMissing_28 d (zG p l e (zrm d) s m args below meth c E mX10_wantAllMissing.2.2.1 0 0 (MQ below (zQc E Q) args s 0 0 (zaA E))) Q) := by
  unfold b_X10_wantAllMissing_28
  exact lk_aln B dX10_wantAllMissing_28 rfl (lk_gf (T := TX10) B cl_X10 (by decide) in_X10 zw_240 dX10_wantAllMissing_29 (lk_c B dX10_wantAllMissing_32 (lk_iln B dX10_wantAllMissing_33 rfl (lk_aln B dX10_wantAllMissing_34 rfl (lk_gf (T := TX10) B cl_X10 (by decide) in_X10 zw_234 dX10_wantAllMissing_35 (lk_iln B dX10_wantAllMissing_38 rfl (lk_aald B dX10_wantAllMissing_39 (lk_callv (M := mX7_fetchPeer) (T := TX7) (N := 5) B (zhR hd1 (by decide)) ⟨Nat.zero_le _, Nat.zero_le _⟩ cl_X7 (zw5 zw_656 zw_653 zw_654 zw_655 zw_50) (by decide +kernel) dX10_wantAllMissing_40 (lk_aln B dX10_wantAllMissing_43 rfl (lk_gf (T := TX10) B cl_X10 (by decide) in_X10 zw_242 dX10_wantAllMissing_44 (lk_iln B dX10_wantAllMissing_47 rfl (lk_callv (M := mX9_missingAt) (T := TX9) (N := 5) B (zhR hd1 (by decide)) ⟨Nat.zero_le _, Nat.zero_le _⟩ cl_X9 (zw5 zw_660 zw_657 zw_658 zw_659 zw_57) (by decide +kernel) dX10_wantAllMissing_48 (lk_callv (M := mX3_sendName) (T := TX3) (N := 4) B (zhR hd1 (by decide)) ⟨Nat.zero_le _, Nat.zero_le _⟩ cl_X3 (zw5 zw_664 zw_661 zw_662 zw_663 zw_56) (by decide +kernel) dX10_wantAllMissing_51 (lk_inc B dX10_wantAllMissing_54 (by decide) (lk_goto B dX10_wantAllMissing_57 (by decide) (fun _ _ _ h => h))))))))))))))))
set_option maxRecDepth 20000 in
theorem k_X10_wantAllMissing_23 {p : Program} {l : Launch} {e : Env} {s : State} {m : MethodId} {args : Array Value} {below : List Frame} {meth : Method} {c : Code} {E : zE} {d : Nat} {Q : zQ} (hd1 : 1 ≤ d) (B : zB p s m args c E mX10_wantAllMissing.1.cls mX10_wantAllMissing.2.1 mX10_wantAllMissing.2.2.1) (hr : meth.sig.returnType = mX10_wantAllMissing.2.2.2) (hlk : meth.locks = false) : zLk (zG p l e (zrm d) s m args below meth c E mX10_wantAllMissing.2.2.1 0 0 (MQ below (zQc E Q) args s 0 0 (zaA E))) 23 (b_X10_wantAllMissing_23 d (zG p l e (zrm d) s m args below meth c E mX10_wantAllMissing.2.2.1 0 0 (MQ below (zQc E Q) args s 0 0 (zaA E))) Q) := by
  unfold b_X10_wantAllMissing_23
  exact lk_iln B dX10_wantAllMissing_23 rfl (lk_iln B dX10_wantAllMissing_24 rfl (lk_ige B dX10_wantAllMissing_25 (by decide) (k_X10_wantAllMissing_60 hd1 B hr hlk) (k_X10_wantAllMissing_28 hd1 B hr hlk)))
def S_X10_wantAllMissing (d : Nat) (G : Nat → zK) (Q : zQ) : Prop := zLk G 0 (b_X10_wantAllMissing_0 d G Q) ∧ zLk G 23 (b_X10_wantAllMissing_23 d G Q)
theorem s_X10_wantAllMissing_0 {d : Nat} {G : Nat → zK} {Q : zQ} (h : S_X10_wantAllMissing d G Q) {ls st : List zV} {μ : zM} (k : b_X10_wantAllMissing_0 d G Q ls st μ) : G 0 ls st μ := h.1 ls st μ k
theorem s_X10_wantAllMissing_23 {d : Nat} {G : Nat → zK} {Q : zQ} (h : S_X10_wantAllMissing d G Q) {ls st : List zV} {μ : zM} (k : b_X10_wantAllMissing_23 d G Q ls st μ) : G 23 ls st μ := h.2 ls st μ k
theorem of_X10_wantAllMissing {d : Nat} {a0 a1 : zV} {μ : zM} {Q : zQ} (hd1 : 1 ≤ d) (h : ∀ G : Nat → zK, S_X10_wantAllMissing d G Q → G 0 [a0, a1, .inr none, .inr none] [] μ) : zCt d mX10_wantAllMissing [a0, a1] μ Q := zCt.mk (by decide) (Nat.le_of_ble_eq_true rfl) (fun p l e s m args below meth c E B hr hlk => h _ ⟨k_X10_wantAllMissing_0 hd1 B hr hlk, k_X10_wantAllMissing_23 hd1 B hr hlk⟩)
theorem dX10_answerWant_0 : decode cX10_answerWant 0 = .ok (.aload_n 0, 1) := by decide +kernel
theorem dX10_answerWant_1 : decode cX10_answerWant 1 = .ok (.getfield 11, 3) := by decide +kernel
theorem dX10_answerWant_4 : decode cX10_answerWant 4 = .ok (.iload_n 2, 1) := by decide +kernel
theorem dX10_answerWant_5 : decode cX10_answerWant 5 = .ok (.aaload, 1) := by decide +kernel
theorem dX10_answerWant_6 : decode cX10_answerWant 6 = .ok (.invokevirtual 113, 3) := by decide +kernel
theorem dX10_answerWant_9 : decode cX10_answerWant 9 = .ok (.astore 4, 2) := by decide +kernel
theorem dX10_answerWant_11 : decode cX10_answerWant 11 = .ok (.aload 4, 2) := by decide +kernel
theorem dX10_answerWant_13 : decode cX10_answerWant 13 = .ok (.iload_n 3, 1) := by decide +kernel
theorem dX10_answerWant_14 : decode cX10_answerWant 14 = .ok (.invokevirtual 116, 3) := by decide +kernel
theorem dX10_answerWant_17 : decode cX10_answerWant 17 = .ok (.istore 5, 2) := by decide +kernel
theorem dX10_answerWant_19 : decode cX10_answerWant 19 = .ok (.iload 5, 2) := by decide +kernel
theorem dX10_answerWant_21 : decode cX10_answerWant 21 = .ok (.ifCond .ge 17, 3) := by decide +kernel
theorem dX10_answerWant_24 : decode cX10_answerWant 24 = .ok (.aload_n 0, 1) := by decide +kernel
theorem dX10_answerWant_25 : decode cX10_answerWant 25 = .ok (.getfield 48, 3) := by decide +kernel
theorem dX10_answerWant_28 : decode cX10_answerWant 28 = .ok (.iconst 2, 1) := by decide +kernel
theorem dX10_answerWant_29 : decode cX10_answerWant 29 = .ok (.iload_n 2, 1) := by decide +kernel
theorem dX10_answerWant_30 : decode cX10_answerWant 30 = .ok (.iload_n 1, 1) := by decide +kernel
theorem dX10_answerWant_31 : decode cX10_answerWant 31 = .ok (.iload_n 3, 1) := by decide +kernel
theorem dX10_answerWant_32 : decode cX10_answerWant 32 = .ok (.invokevirtual 227, 3) := by decide +kernel
theorem dX10_answerWant_35 : decode cX10_answerWant 35 = .ok (.goto 16, 3) := by decide +kernel
theorem dX10_answerWant_38 : decode cX10_answerWant 38 = .ok (.aload_n 0, 1) := by decide +kernel
theorem dX10_answerWant_39 : decode cX10_answerWant 39 = .ok (.getfield 48, 3) := by decide +kernel
theorem dX10_answerWant_42 : decode cX10_answerWant 42 = .ok (.iload_n 2, 1) := by decide +kernel
theorem dX10_answerWant_43 : decode cX10_answerWant 43 = .ok (.iload_n 1, 1) := by decide +kernel
theorem dX10_answerWant_44 : decode cX10_answerWant 44 = .ok (.aload 4, 2) := by decide +kernel
theorem dX10_answerWant_46 : decode cX10_answerWant 46 = .ok (.iload 5, 2) := by decide +kernel
theorem dX10_answerWant_48 : decode cX10_answerWant 48 = .ok (.invokevirtual 231, 3) := by decide +kernel
theorem dX10_answerWant_51 : decode cX10_answerWant 51 = .ok (.return_, 1) := by decide +kernel
def b_X10_answerWant_51 (d : Nat) (G : Nat → zK) (Q : zQ) : zK := t_vret Q
def b_X10_answerWant_38 (d : Nat) (G : Nat → zK) (Q : zQ) : zK := o_al 0 <| o_gf 8 6 <| o_il 2 <| o_il 1 <| o_al 4 <| o_il 5 <| o_callv (zCt (d - 1) mX3_sendBlock) 2 5 <| b_X10_answerWant_51 d G Q
def b_X10_answerWant_24 (d : Nat) (G : Nat → zK) (Q : zQ) : zK := o_al 0 <| o_gf 8 6 <| o_c 2 <| o_il 2 <| o_il 1 <| o_il 3 <| o_callv (zCt (d - 1) mX3_sendName) 2 5 <| b_X10_answerWant_51 d G Q
def b_X10_answerWant_0 (d : Nat) (G : Nat → zK) (Q : zQ) : zK := o_al 0 <| o_gf 8 0 <| o_il 2 <| o_aald <| o_callv (zCt (d - 1) mX7_shelf) 5 1 <| o_as 4 <| o_al 4 <| o_il 3 <| o_callv (zCt (d - 1) mX6_slotOf) 4 2 <| o_is 5 <| o_il 5 <| t_zlt (b_X10_answerWant_24 d G Q) (b_X10_answerWant_38 d G Q)
set_option maxRecDepth 20000 in
theorem k_X10_answerWant_51 {p : Program} {l : Launch} {e : Env} {s : State} {m : MethodId} {args : Array Value} {below : List Frame} {meth : Method} {c : Code} {E : zE} {d : Nat} {Q : zQ} (hd1 : 1 ≤ d) (B : zB p s m args c E mX10_answerWant.1.cls mX10_answerWant.2.1 mX10_answerWant.2.2.1) (hr : meth.sig.returnType = mX10_answerWant.2.2.2) (hlk : meth.locks = false) : zLk (zG p l e (zrm d) s m args below meth c E mX10_answerWant.2.2.1 0 0 (MQ below (zQc E Q) args s 0 0 (zaA E))) 51 (b_X10_answerWant_51 d (zG p l e (zrm d) s m args below meth c E mX10_answerWant.2.2.1 0 0 (MQ below (zQc E Q) args s 0 0 (zaA E))) Q) := by
  unfold b_X10_answerWant_51
  exact lk_vret B hr hlk dX10_answerWant_51
set_option maxRecDepth 20000 in
theorem k_X10_answerWant_38 {p : Program} {l : Launch} {e : Env} {s : State} {m : MethodId} {args : Array Value} {below : List Frame} {meth : Method} {c : Code} {E : zE} {d : Nat} {Q : zQ} (hd1 : 1 ≤ d) (B : zB p s m args c E mX10_answerWant.1.cls mX10_answerWant.2.1 mX10_answerWant.2.2.1) (hr : meth.sig.returnType = mX10_answerWant.2.2.2) (hlk : meth.locks = false) : zLk (zG p l e (zrm d) s m args below meth c E mX10_answerWant.2.2.1 0 0 (MQ below (zQc E Q) args s 0 0 (zaA E))) 38 (b_X10_answerWant_38 d (zG p l e (zrm d) s m args below meth c E mX10_answerWant.2.2.1 0 0 (MQ below (zQc E Q) args s 0 0 (zaA E))) Q) := by
  unfold b_X10_answerWant_38
  exact lk_aln B dX10_answerWant_38 rfl (lk_gf (T := TX10) B cl_X10 (by decide) in_X10 zw_240 dX10_answerWant_39 (lk_iln B dX10_answerWant_42 rfl (lk_iln B dX10_answerWant_43 rfl (lk_al B dX10_answerWant_44 (lk_il B dX10_answerWant_46 (lk_callv (M := mX3_sendBlock) (T := TX3) (N := 4) B (zhR hd1 (by decide)) ⟨Nat.zero_le _, Nat.zero_le _⟩ cl_X3 (zw5 zw_728 zw_725 zw_726 zw_727 zw_56) (by decide +kernel) dX10_answerWant_48 (k_X10_answerWant_51 hd1 B hr hlk)))))))
set_option maxRecDepth 20000 in
theorem k_X10_answerWant_24 {p : Program} {l : Launch} {e : Env} {s : State} {m : MethodId} {args : Array Value} {below : List Frame} {meth : Method} {c : Code} {E : zE} {d : Nat} {Q : zQ} (hd1 : 1 ≤ d) (B : zB p s m args c E mX10_answerWant.1.cls mX10_answerWant.2.1 mX10_answerWant.2.2.1) (hr : meth.sig.returnType = mX10_answerWant.2.2.2) (hlk : meth.locks = false) : zLk (zG p l e (zrm d) s m args below meth c E mX10_answerWant.2.2.1 0 0 (MQ below (zQc E Q) args s 0 0 (zaA E))) 24 (b_X10_answerWant_24 d (zG p l e (zrm d) s m args below meth c E mX10_answerWant.2.2.1 0 0 (MQ below (zQc E Q) args s 0 0 (zaA E))) Q) := by
  unfold b_X10_answerWant_24
  exact lk_aln B dX10_answerWant_24 rfl (lk_gf (T := TX10) B cl_X10 (by decide) in_X10 zw_240 dX10_answerWant_25 (lk_c B dX10_answerWant_28 (lk_iln B dX10_answerWant_29 rfl (lk_iln B dX10_answerWant_30 rfl (lk_iln B dX10_answerWant_31 rfl (lk_callv (M := mX3_sendName) (T := TX3) (N := 4) B (zhR hd1 (by decide)) ⟨Nat.zero_le _, Nat.zero_le _⟩ cl_X3 (zw5 zw_664 zw_661 zw_662 zw_663 zw_56) (by decide +kernel) dX10_answerWant_32 (lk_goto B dX10_answerWant_35 (by decide) (k_X10_answerWant_51 hd1 B hr hlk))))))))
set_option maxRecDepth 20000 in
theorem k_X10_answerWant_0 {p : Program} {l : Launch} {e : Env} {s : State} {m : MethodId} {args : Array Value} {below : List Frame} {meth : Method} {c : Code} {E : zE} {d : Nat} {Q : zQ} (hd1 : 1 ≤ d) (B : zB p s m args c E mX10_answerWant.1.cls mX10_answerWant.2.1 mX10_answerWant.2.2.1) (hr : meth.sig.returnType = mX10_answerWant.2.2.2) (hlk : meth.locks = false) : zLk (zG p l e (zrm d) s m args below meth c E mX10_answerWant.2.2.1 0 0 (MQ below (zQc E Q) args s 0 0 (zaA E))) 0 (b_X10_answerWant_0 d (zG p l e (zrm d) s m args below meth c E mX10_answerWant.2.2.1 0 0 (MQ below (zQc E Q) args s 0 0 (zaA E))) Q) := by
  unfold b_X10_answerWant_0
  exact lk_aln B dX10_answerWant_0 rfl (lk_gf (T := TX10) B cl_X10 (by decide) in_X10 zw_234 dX10_answerWant_1 (lk_iln B dX10_answerWant_4 rfl (lk_aald B dX10_answerWant_5 (lk_callv (M := mX7_shelf) (T := TX7) (N := 5) B (zhR hd1 (by decide)) ⟨Nat.zero_le _, Nat.zero_le _⟩ cl_X7 (zw5 zw_538 zw_535 zw_536 zw_537 zw_50) (by decide +kernel) dX10_answerWant_6 (lk_as B dX10_answerWant_9 (by decide) (lk_al B dX10_answerWant_11 (lk_iln B dX10_answerWant_13 rfl (lk_callv (M := mX6_slotOf) (T := TX6) (N := 5) B (zhR hd1 (by decide)) ⟨Nat.zero_le _, Nat.zero_le _⟩ cl_X6 (zw5 zw_310 zw_539 zw_308 zw_309 zw_51) (by decide +kernel) dX10_answerWant_14 (lk_is B dX10_answerWant_17 (by decide) (lk_il B dX10_answerWant_19 (lk_zge B dX10_answerWant_21 (by decide) (k_X10_answerWant_38 hd1 B hr hlk) (k_X10_answerWant_24 hd1 B hr hlk))))))))))))
def S_X10_answerWant (d : Nat) (G : Nat → zK) (Q : zQ) : Prop := zLk G 0 (b_X10_answerWant_0 d G Q)
theorem s_X10_answerWant_0 {d : Nat} {G : Nat → zK} {Q : zQ} (h : S_X10_answerWant d G Q) {ls st : List zV} {μ : zM} (k : b_X10_answerWant_0 d G Q ls st μ) : G 0 ls st μ := h ls st μ k
theorem of_X10_answerWant {d : Nat} {a0 a1 a2 a3 : zV} {μ : zM} {Q : zQ} (hd1 : 1 ≤ d) (h : ∀ G : Nat → zK, S_X10_answerWant d G Q → G 0 [a0, a1, a2, a3, .inr none, .inr none] [] μ) : zCt d mX10_answerWant [a0, a1, a2, a3] μ Q := zCt.mk (by decide) (Nat.le_of_ble_eq_true rfl) (fun p l e s m args below meth c E B hr hlk => h _ (k_X10_answerWant_0 hd1 B hr hlk))
theorem dX10_receiveGive_0 : decode cX10_receiveGive 0 = .ok (.aload_n 0, 1) := by decide +kernel
theorem dX10_receiveGive_1 : decode cX10_receiveGive 1 = .ok (.getfield 11, 3) := by decide +kernel
theorem dX10_receiveGive_4 : decode cX10_receiveGive 4 = .ok (.iload_n 2, 1) := by decide +kernel
theorem dX10_receiveGive_5 : decode cX10_receiveGive 5 = .ok (.aaload, 1) := by decide +kernel
theorem dX10_receiveGive_6 : decode cX10_receiveGive 6 = .ok (.astore 4, 2) := by decide +kernel
theorem dX10_receiveGive_8 : decode cX10_receiveGive 8 = .ok (.aload 4, 2) := by decide +kernel
theorem dX10_receiveGive_10 : decode cX10_receiveGive 10 = .ok (.iload_n 1, 1) := by decide +kernel
theorem dX10_receiveGive_11 : decode cX10_receiveGive 11 = .ok (.invokevirtual 235, 3) := by decide +kernel
theorem dX10_receiveGive_14 : decode cX10_receiveGive 14 = .ok (.ifCond .eq 17, 3) := by decide +kernel
theorem dX10_receiveGive_17 : decode cX10_receiveGive 17 = .ok (.aload_n 0, 1) := by decide +kernel
theorem dX10_receiveGive_18 : decode cX10_receiveGive 18 = .ok (.getfield 41, 3) := by decide +kernel
theorem dX10_receiveGive_21 : decode cX10_receiveGive 21 = .ok (.invokevirtual 86, 3) := by decide +kernel
theorem dX10_receiveGive_24 : decode cX10_receiveGive 24 = .ok (.iconst 0, 1) := by decide +kernel
theorem dX10_receiveGive_25 : decode cX10_receiveGive 25 = .ok (.invokestatic 90, 3) := by decide +kernel
theorem dX10_receiveGive_28 : decode cX10_receiveGive 28 = .ok (.ifCond .ne 4, 3) := by decide +kernel
theorem dX10_receiveGive_31 : decode cX10_receiveGive 31 = .ok (.return_, 1) := by decide +kernel
theorem dX10_receiveGive_32 : decode cX10_receiveGive 32 = .ok (.aload 4, 2) := by decide +kernel
theorem dX10_receiveGive_34 : decode cX10_receiveGive 34 = .ok (.aload_n 0, 1) := by decide +kernel
theorem dX10_receiveGive_35 : decode cX10_receiveGive 35 = .ok (.getfield 55, 3) := by decide +kernel
theorem dX10_receiveGive_38 : decode cX10_receiveGive 38 = .ok (.invokevirtual 214, 3) := by decide +kernel
theorem dX10_receiveGive_41 : decode cX10_receiveGive 41 = .ok (.aload_n 0, 1) := by decide +kernel
theorem dX10_receiveGive_42 : decode cX10_receiveGive 42 = .ok (.getfield 55, 3) := by decide +kernel
theorem dX10_receiveGive_45 : decode cX10_receiveGive 45 = .ok (.iload_n 3, 1) := by decide +kernel
theorem dX10_receiveGive_46 : decode cX10_receiveGive 46 = .ok (.invokevirtual 238, 3) := by decide +kernel
theorem dX10_receiveGive_49 : decode cX10_receiveGive 49 = .ok (.ifCond .ne 4, 3) := by decide +kernel
theorem dX10_receiveGive_52 : decode cX10_receiveGive 52 = .ok (.return_, 1) := by decide +kernel
theorem dX10_receiveGive_53 : decode cX10_receiveGive 53 = .ok (.aload 4, 2) := by decide +kernel
theorem dX10_receiveGive_55 : decode cX10_receiveGive 55 = .ok (.aload_n 0, 1) := by decide +kernel
theorem dX10_receiveGive_56 : decode cX10_receiveGive 56 = .ok (.getfield 41, 3) := by decide +kernel
theorem dX10_receiveGive_59 : decode cX10_receiveGive 59 = .ok (.invokevirtual 211, 3) := by decide +kernel
theorem dX10_receiveGive_62 : decode cX10_receiveGive 62 = .ok (.ifCond .eq 9, 3) := by decide +kernel
theorem dX10_receiveGive_65 : decode cX10_receiveGive 65 = .ok (.aload 4, 2) := by decide +kernel
theorem dX10_receiveGive_67 : decode cX10_receiveGive 67 = .ok (.invokevirtual 241, 3) := by decide +kernel
theorem dX10_receiveGive_70 : decode cX10_receiveGive 70 = .ok (.return_, 1) := by decide +kernel
theorem dX10_receiveGive_71 : decode cX10_receiveGive 71 = .ok (.aload 4, 2) := by decide +kernel
theorem dX10_receiveGive_73 : decode cX10_receiveGive 73 = .ok (.aload_n 0, 1) := by decide +kernel
theorem dX10_receiveGive_74 : decode cX10_receiveGive 74 = .ok (.getfield 59, 3) := by decide +kernel
theorem dX10_receiveGive_77 : decode cX10_receiveGive 77 = .ok (.invokevirtual 214, 3) := by decide +kernel
theorem dX10_receiveGive_80 : decode cX10_receiveGive 80 = .ok (.iconst 0, 1) := by decide +kernel
theorem dX10_receiveGive_81 : decode cX10_receiveGive 81 = .ok (.istore 5, 2) := by decide +kernel
theorem dX10_receiveGive_83 : decode cX10_receiveGive 83 = .ok (.iload 5, 2) := by decide +kernel
theorem dX10_receiveGive_85 : decode cX10_receiveGive 85 = .ok (.aload_n 0, 1) := by decide +kernel
theorem dX10_receiveGive_86 : decode cX10_receiveGive 86 = .ok (.getfield 59, 3) := by decide +kernel
theorem dX10_receiveGive_89 : decode cX10_receiveGive 89 = .ok (.invokevirtual 218, 3) := by decide +kernel
theorem dX10_receiveGive_92 : decode cX10_receiveGive 92 = .ok (.if_icmp .ge 47, 3) := by decide +kernel
theorem dX10_receiveGive_95 : decode cX10_receiveGive 95 = .ok (.aload_n 0, 1) := by decide +kernel
theorem dX10_receiveGive_96 : decode cX10_receiveGive 96 = .ok (.getfield 55, 3) := by decide +kernel
theorem dX10_receiveGive_99 : decode cX10_receiveGive 99 = .ok (.aload_n 0, 1) := by decide +kernel
theorem dX10_receiveGive_100 : decode cX10_receiveGive 100 = .ok (.getfield 59, 3) := by decide +kernel
theorem dX10_receiveGive_103 : decode cX10_receiveGive 103 = .ok (.iload 5, 2) := by decide +kernel
theorem dX10_receiveGive_105 : decode cX10_receiveGive 105 = .ok (.invokevirtual 224, 3) := by decide +kernel
theorem dX10_receiveGive_108 : decode cX10_receiveGive 108 = .ok (.invokevirtual 238, 3) := by decide +kernel
theorem dX10_receiveGive_111 : decode cX10_receiveGive 111 = .ok (.ifCond .ne 22, 3) := by decide +kernel
theorem dX10_receiveGive_114 : decode cX10_receiveGive 114 = .ok (.aload_n 0, 1) := by decide +kernel
theorem dX10_receiveGive_115 : decode cX10_receiveGive 115 = .ok (.getfield 48, 3) := by decide +kernel
theorem dX10_receiveGive_118 : decode cX10_receiveGive 118 = .ok (.iconst 0, 1) := by decide +kernel
theorem dX10_receiveGive_119 : decode cX10_receiveGive 119 = .ok (.iload_n 2, 1) := by decide +kernel
theorem dX10_receiveGive_120 : decode cX10_receiveGive 120 = .ok (.iload_n 1, 1) := by decide +kernel
theorem dX10_receiveGive_121 : decode cX10_receiveGive 121 = .ok (.aload_n 0, 1) := by decide +kernel
theorem dX10_receiveGive_122 : decode cX10_receiveGive 122 = .ok (.getfield 59, 3) := by decide +kernel
theorem dX10_receiveGive_125 : decode cX10_receiveGive 125 = .ok (.iload 5, 2) := by decide +kernel
theorem dX10_receiveGive_127 : decode cX10_receiveGive 127 = .ok (.invokevirtual 224, 3) := by decide +kernel
theorem dX10_receiveGive_130 : decode cX10_receiveGive 130 = .ok (.invokevirtual 227, 3) := by decide +kernel
theorem dX10_receiveGive_133 : decode cX10_receiveGive 133 = .ok (.iinc 5 1, 3) := by decide +kernel
theorem dX10_receiveGive_136 : decode cX10_receiveGive 136 = .ok (.goto (-53), 3) := by decide +kernel
theorem dX10_receiveGive_139 : decode cX10_receiveGive 139 = .ok (.return_, 1) := by decide +kernel
def b_X10_receiveGive_31 (d : Nat) (G : Nat → zK) (Q : zQ) : zK := t_vret Q
def b_X10_receiveGive_71 (d : Nat) (G : Nat → zK) (Q : zQ) : zK := o_al 4 <| o_al 0 <| o_gf 8 8 <| o_callv (zCt (d - 1) mX7_walkFetch) 5 2 <| o_c 0 <| o_is 5 <| G 83
def b_X10_receiveGive_65 (d : Nat) (G : Nat → zK) (Q : zQ) : zK := o_al 4 <| o_callv (zCt (d - 1) mX7_failFetch) 5 1 <| t_vret Q
def b_X10_receiveGive_53 (d : Nat) (G : Nat → zK) (Q : zQ) : zK := o_al 4 <| o_al 0 <| o_gf 8 5 <| o_callv (zCt (d - 1) mX7_takeBatch) 5 2 <| t_zeq (b_X10_receiveGive_71 d G Q) (b_X10_receiveGive_65 d G Q)
def b_X10_receiveGive_52 (d : Nat) (G : Nat → zK) (Q : zQ) : zK := t_vret Q
def b_X10_receiveGive_32 (d : Nat) (G : Nat → zK) (Q : zQ) : zK := o_al 4 <| o_al 0 <| o_gf 8 7 <| o_callv (zCt (d - 1) mX7_walkFetch) 5 2 <| o_al 0 <| o_gf 8 7 <| o_il 3 <| o_callv (zCt (d - 1) mX9_misses) 7 2 <| t_zeq (b_X10_receiveGive_52 d G Q) (b_X10_receiveGive_53 d G Q)
def b_X10_receiveGive_17 (d : Nat) (G : Nat → zK) (Q : zQ) : zK := o_al 0 <| o_gf 8 5 <| o_callv (zCt (d - 1) mX0_made) 0 1 <| o_c 0 <| o_call (zCt (d - 1) mX2_isBlock) 2 <| t_zeq (b_X10_receiveGive_31 d G Q) (b_X10_receiveGive_32 d G Q)
def b_X10_receiveGive_0 (d : Nat) (G : Nat → zK) (Q : zQ) : zK := o_al 0 <| o_gf 8 0 <| o_il 2 <| o_aald <| o_as 4 <| o_al 4 <| o_il 1 <| o_callv (zCt (d - 1) mX7_isFetchingFrom) 5 2 <| t_zeq (b_X10_receiveGive_31 d G Q) (b_X10_receiveGive_17 d G Q)
def b_X10_receiveGive_139 (d : Nat) (G : Nat → zK) (Q : zQ) : zK := t_vret Q
def b_X10_receiveGive_133 (d : Nat) (G : Nat → zK) (Q : zQ) : zK := o_inc 5 1 <| G 83
def b_X10_receiveGive_114 (d : Nat) (G : Nat → zK) (Q : zQ) : zK := o_al 0 <| o_gf 8 6 <| o_c 0 <| o_il 2 <| o_il 1 <| o_al 0 <| o_gf 8 8 <| o_il 5 <| o_callv (zCt (d - 1) mX9_missingAt) 7 2 <| o_callv (zCt (d - 1) mX3_sendName) 2 5 <| b_X10_receiveGive_133 d G Q
def b_X10_receiveGive_95 (d : Nat) (G : Nat → zK) (Q : zQ) : zK := o_al 0 <| o_gf 8 7 <| o_al 0 <| o_gf 8 8 <| o_il 5 <| o_callv (zCt (d - 1) mX9_missingAt) 7 2 <| o_callv (zCt (d - 1) mX9_misses) 7 2 <| t_zeq (b_X10_receiveGive_114 d G Q) (b_X10_receiveGive_133 d G Q)
def b_X10_receiveGive_83 (d : Nat) (G : Nat → zK) (Q : zQ) : zK := o_il 5 <| o_al 0 <| o_gf 8 8 <| o_callv (zCt (d - 1) mX9_missingCount) 7 1 <| t_ilt (b_X10_receiveGive_95 d G Q) (b_X10_receiveGive_139 d G Q)
set_option maxRecDepth 20000 in
theorem k_X10_receiveGive_31 {p : Program} {l : Launch} {e : Env} {s : State} {m : MethodId} {args : Array Value} {below : List Frame} {meth : Method} {c : Code} {E : zE} {d : Nat} {Q : zQ} (hd1 : 1 ≤ d) (B : zB p s m args c E mX10_receiveGive.1.cls mX10_receiveGive.2.1 mX10_receiveGive.2.2.1) (hr : meth.sig.returnType = mX10_receiveGive.2.2.2) (hlk : meth.locks = false) : zLk (zG p l e (zrm d) s m args below meth c E mX10_receiveGive.2.2.1 0 0 (MQ below (zQc E Q) args s 0 0 (zaA E))) 31 (b_X10_receiveGive_31 d (zG p l e (zrm d) s m args below meth c E mX10_receiveGive.2.2.1 0 0 (MQ below (zQc E Q) args s 0 0 (zaA E))) Q) := by
  unfold b_X10_receiveGive_31
  exact lk_vret B hr hlk dX10_receiveGive_31
set_option maxRecDepth 20000 in
theorem k_X10_receiveGive_71 {p : Program} {l : Launch} {e : Env} {s : State} {m : MethodId} {args : Array Value} {below : List Frame} {meth : Method} {c : Code} {E : zE} {d : Nat} {Q : zQ} (hd1 : 1 ≤ d) (B : zB p s m args c E mX10_receiveGive.1.cls mX10_receiveGive.2.1 mX10_receiveGive.2.2.1) (hr : meth.sig.returnType = mX10_receiveGive.2.2.2) (hlk : meth.locks = false) : zLk (zG p l e (zrm d) s m args below meth c E mX10_receiveGive.2.2.1 0 0 (MQ below (zQc E Q) args s 0 0 (zaA E))) 71 (b_X10_receiveGive_71 d (zG p l e (zrm d) s m args below meth c E mX10_receiveGive.2.2.1 0 0 (MQ below (zQc E Q) args s 0 0 (zaA E))) Q) := by
  unfold b_X10_receiveGive_71
  exact lk_al B dX10_receiveGive_71 (lk_aln B dX10_receiveGive_73 rfl (lk_gf (T := TX10) B cl_X10 (by decide) in_X10 zw_242 dX10_receiveGive_74 (lk_callv (M := mX7_walkFetch) (T := TX7) (N := 5) B (zhR hd1 (by decide)) ⟨Nat.zero_le _, Nat.zero_le _⟩ cl_X7 (zw5 zw_421 zw_418 zw_419 zw_420 zw_50) (by decide +kernel) dX10_receiveGive_77 (lk_c B dX10_receiveGive_80 (lk_is B dX10_receiveGive_81 (by decide) (fun _ _ _ h => h))))))
set_option maxRecDepth 20000 in
theorem k_X10_receiveGive_65 {p : Program} {l : Launch} {e : Env} {s : State} {m : MethodId} {args : Array Value} {below : List Frame} {meth : Method} {c : Code} {E : zE} {d : Nat} {Q : zQ} (hd1 : 1 ≤ d) (B : zB p s m args c E mX10_receiveGive.1.cls mX10_receiveGive.2.1 mX10_receiveGive.2.2.1) (hr : meth.sig.returnType = mX10_receiveGive.2.2.2) (hlk : meth.locks = false) : zLk (zG p l e (zrm d) s m args below meth c E mX10_receiveGive.2.2.1 0 0 (MQ below (zQc E Q) args s 0 0 (zaA E))) 65 (b_X10_receiveGive_65 d (zG p l e (zrm d) s m args below meth c E mX10_receiveGive.2.2.1 0 0 (MQ below (zQc E Q) args s 0 0 (zaA E))) Q) := by
  unfold b_X10_receiveGive_65
  exact lk_al B dX10_receiveGive_65 (lk_callv (M := mX7_failFetch) (T := TX7) (N := 5) B (zhR hd1 (by decide)) ⟨Nat.zero_le _, Nat.zero_le _⟩ cl_X7 (zw5 zw_742 zw_739 zw_740 zw_741 zw_50) (by decide +kernel) dX10_receiveGive_67 (lk_vret B hr hlk dX10_receiveGive_70))
set_option maxRecDepth 20000 in
theorem k_X10_receiveGive_53 {p : Program} {l : Launch} {e : Env} {s : State} {m : MethodId} {args : Array Value} {below : List Frame} {meth : Method} {c : Code} {E : zE} {d : Nat} {Q : zQ} (hd1 : 1 ≤ d) (B : zB p s m args c E mX10_receiveGive.1.cls mX10_receiveGive.2.1 mX10_receiveGive.2.2.1) (hr : meth.sig.returnType = mX10_receiveGive.2.2.2) (hlk : meth.locks = false) : zLk (zG p l e (zrm d) s m args below meth c E mX10_receiveGive.2.2.1 0 0 (MQ below (zQc E Q) args s 0 0 (zaA E))) 53 (b_X10_receiveGive_53 d (zG p l e (zrm d) s m args below meth c E mX10_receiveGive.2.2.1 0 0 (MQ below (zQc E Q) args s 0 0 (zaA E))) Q) := by
  unfold b_X10_receiveGive_53
  exact lk_al B dX10_receiveGive_53 (lk_aln B dX10_receiveGive_55 rfl (lk_gf (T := TX10) B cl_X10 (by decide) in_X10 zw_239 dX10_receiveGive_56 (lk_callv (M := mX7_takeBatch) (T := TX7) (N := 5) B (zhR hd1 (by decide)) ⟨Nat.zero_le _, Nat.zero_le _⟩ cl_X7 (zw5 zw_389 zw_386 zw_387 zw_388 zw_50) (by decide +kernel) dX10_receiveGive_59 (lk_zeq B dX10_receiveGive_62 (by decide) (k_X10_receiveGive_71 hd1 B hr hlk) (k_X10_receiveGive_65 hd1 B hr hlk)))))
set_option maxRecDepth 20000 in
theorem k_X10_receiveGive_52 {p : Program} {l : Launch} {e : Env} {s : State} {m : MethodId} {args : Array Value} {below : List Frame} {meth : Method} {c : Code} {E : zE} {d : Nat} {Q : zQ} (hd1 : 1 ≤ d) (B : zB p s m args c E mX10_receiveGive.1.cls mX10_receiveGive.2.1 mX10_receiveGive.2.2.1) (hr : meth.sig.returnType = mX10_receiveGive.2.2.2) (hlk : meth.locks = false) : zLk (zG p l e (zrm d) s m args below meth c E mX10_receiveGive.2.2.1 0 0 (MQ below (zQc E Q) args s 0 0 (zaA E))) 52 (b_X10_receiveGive_52 d (zG p l e (zrm d) s m args below meth c E mX10_receiveGive.2.2.1 0 0 (MQ below (zQc E Q) args s 0 0 (zaA E))) Q) := by
  unfold b_X10_receiveGive_52
  exact lk_vret B hr hlk dX10_receiveGive_52
set_option maxRecDepth 20000 in
theorem k_X10_receiveGive_32 {p : Program} {l : Launch} {e : Env} {s : State} {m : MethodId} {args : Array Value} {below : List Frame} {meth : Method} {c : Code} {E : zE} {d : Nat} {Q : zQ} (hd1 : 1 ≤ d) (B : zB p s m args c E mX10_receiveGive.1.cls mX10_receiveGive.2.1 mX10_receiveGive.2.2.1) (hr : meth.sig.returnType = mX10_receiveGive.2.2.2) (hlk : meth.locks = false) : zLk (zG p l e (zrm d) s m args below meth c E mX10_receiveGive.2.2.1 0 0 (MQ below (zQc E Q) args s 0 0 (zaA E))) 32 (b_X10_receiveGive_32 d (zG p l e (zrm d) s m args below meth c E mX10_receiveGive.2.2.1 0 0 (MQ below (zQc E Q) args s 0 0 (zaA E))) Q) := by
  unfold b_X10_receiveGive_32
  exact lk_al B dX10_receiveGive_32 (lk_aln B dX10_receiveGive_34 rfl (lk_gf (T := TX10) B cl_X10 (by decide) in_X10 zw_241 dX10_receiveGive_35 (lk_callv (M := mX7_walkFetch) (T := TX7) (N := 5) B (zhR hd1 (by decide)) ⟨Nat.zero_le _, Nat.zero_le _⟩ cl_X7 (zw5 zw_421 zw_418 zw_419 zw_420 zw_50) (by decide +kernel) dX10_receiveGive_38 (lk_aln B dX10_receiveGive_41 rfl (lk_gf (T := TX10) B cl_X10 (by decide) in_X10 zw_241 dX10_receiveGive_42 (lk_iln B dX10_receiveGive_45 rfl (lk_callv (M := mX9_misses) (T := TX9) (N := 5) B (zhR hd1 (by decide)) ⟨Nat.zero_le _, Nat.zero_le _⟩ cl_X9 (zw5 zw_446 zw_738 zw_444 zw_445 zw_57) (by decide +kernel) dX10_receiveGive_46 (lk_zne B dX10_receiveGive_49 (by decide) (k_X10_receiveGive_53 hd1 B hr hlk) (k_X10_receiveGive_52 hd1 B hr hlk)))))))))
set_option maxRecDepth 20000 in
theorem k_X10_receiveGive_17 {p : Program} {l : Launch} {e : Env} {s : State} {m : MethodId} {args : Array Value} {below : List Frame} {meth : Method} {c : Code} {E : zE} {d : Nat} {Q : zQ} (hd1 : 1 ≤ d) (B : zB p s m args c E mX10_receiveGive.1.cls mX10_receiveGive.2.1 mX10_receiveGive.2.2.1) (hr : meth.sig.returnType = mX10_receiveGive.2.2.2) (hlk : meth.locks = false) : zLk (zG p l e (zrm d) s m args below meth c E mX10_receiveGive.2.2.1 0 0 (MQ below (zQc E Q) args s 0 0 (zaA E))) 17 (b_X10_receiveGive_17 d (zG p l e (zrm d) s m args below meth c E mX10_receiveGive.2.2.1 0 0 (MQ below (zQc E Q) args s 0 0 (zaA E))) Q) := by
  unfold b_X10_receiveGive_17
  exact lk_aln B dX10_receiveGive_17 rfl (lk_gf (T := TX10) B cl_X10 (by decide) in_X10 zw_239 dX10_receiveGive_18 (lk_callv (M := mX0_made) (T := TX0) (N := 4) B (zhR hd1 (by decide)) ⟨Nat.zero_le _, Nat.zero_le _⟩ cl_X0 (zw5 zw_333 zw_330 zw_331 zw_332 zw_55) (by decide +kernel) dX10_receiveGive_21 (lk_c B dX10_receiveGive_24 (lk_calls (M := mX2_isBlock) B (zhR hd1 (by decide)) ⟨Nat.zero_le _, Nat.zero_le _⟩ (zw4 zw_336 zw_334 zw_335 zw_60) (by decide +kernel) dX10_receiveGive_25 (lk_zne B dX10_receiveGive_28 (by decide) (k_X10_receiveGive_32 hd1 B hr hlk) (k_X10_receiveGive_31 hd1 B hr hlk))))))
set_option maxRecDepth 20000 in
theorem k_X10_receiveGive_0 {p : Program} {l : Launch} {e : Env} {s : State} {m : MethodId} {args : Array Value} {below : List Frame} {meth : Method} {c : Code} {E : zE} {d : Nat} {Q : zQ} (hd1 : 1 ≤ d) (B : zB p s m args c E mX10_receiveGive.1.cls mX10_receiveGive.2.1 mX10_receiveGive.2.2.1) (hr : meth.sig.returnType = mX10_receiveGive.2.2.2) (hlk : meth.locks = false) : zLk (zG p l e (zrm d) s m args below meth c E mX10_receiveGive.2.2.1 0 0 (MQ below (zQc E Q) args s 0 0 (zaA E))) 0 (b_X10_receiveGive_0 d (zG p l e (zrm d) s m args below meth c E mX10_receiveGive.2.2.1 0 0 (MQ below (zQc E Q) args s 0 0 (zaA E))) Q) := by
  unfold b_X10_receiveGive_0
  exact lk_aln B dX10_receiveGive_0 rfl (lk_gf (T := TX10) B cl_X10 (by decide) in_X10 zw_234 dX10_receiveGive_1 (lk_iln B dX10_receiveGive_4 rfl (lk_aald B dX10_receiveGive_5 (lk_as B dX10_receiveGive_6 (by decide) (lk_al B dX10_receiveGive_8 (lk_iln B dX10_receiveGive_10 rfl (lk_callv (M := mX7_isFetchingFrom) (T := TX7) (N := 5) B (zhR hd1 (by decide)) ⟨Nat.zero_le _, Nat.zero_le _⟩ cl_X7 (zw5 zw_737 zw_734 zw_735 zw_736 zw_50) (by decide +kernel) dX10_receiveGive_11 (lk_zeq B dX10_receiveGive_14 (by decide) (k_X10_receiveGive_31 hd1 B hr hlk) (k_X10_receiveGive_17 hd1 B hr hlk)))))))))
set_option maxRecDepth 20000 in
theorem k_X10_receiveGive_139 {p : Program} {l : Launch} {e : Env} {s : State} {m : MethodId} {args : Array Value} {below : List Frame} {meth : Method} {c : Code} {E : zE} {d : Nat} {Q : zQ} (hd1 : 1 ≤ d) (B : zB p s m args c E mX10_receiveGive.1.cls mX10_receiveGive.2.1 mX10_receiveGive.2.2.1) (hr : meth.sig.returnType = mX10_receiveGive.2.2.2) (hlk : meth.locks = false) : zLk (zG p l e (zrm d) s m args below meth c E mX10_receiveGive.2.2.1 0 0 (MQ below (zQc E Q) args s 0 0 (zaA E))) 139 (b_X10_receiveGive_139 d (zG p l e (zrm d) s m args below meth c E mX10_receiveGive.2.2.1 0 0 (MQ below (zQc E Q) args s 0 0 (zaA E))) Q) := by
  unfold b_X10_receiveGive_139
  exact lk_vret B hr hlk dX10_receiveGive_139
set_option maxRecDepth 20000 in
theorem k_X10_receiveGive_133 {p : Program} {l : Launch} {e : Env} {s : State} {m : MethodId} {args : Array Value} {below : List Frame} {meth : Method} {c : Code} {E : zE} {d : Nat} {Q : zQ} (hd1 : 1 ≤ d) (B : zB p s m args c E mX10_receiveGive.1.cls mX10_receiveGive.2.1 mX10_receiveGive.2.2.1) (hr : meth.sig.returnType = mX10_receiveGive.2.2.2) (hlk : meth.locks = false) : zLk (zG p l e (zrm d) s m args below meth c E mX10_receiveGive.2.2.1 0 0 (MQ below (zQc E Q) args s 0 0 (zaA E))) 133 (b_X10_receiveGive_133 d (zG p l e (zrm d) s m args below meth c E mX10_receiveGive.2.2.1 0 0 (MQ below (zQc E Q) args s 0 0 (zaA E))) Q) := by
  unfold b_X10_receiveGive_133
  exact lk_inc B dX10_receiveGive_133 (by decide) (lk_goto B dX10_receiveGive_136 (by decide) (fun _ _ _ h => h))
set_option maxRecDepth 20000 in
theorem k_X10_receiveGive_114 {p : Program} {l : Launch} {e : Env} {s : State} {m : MethodId} {args : Array Value} {below : List Frame} {meth : Method} {c : Code} {E : zE} {d : Nat} {Q : zQ} (hd1 : 1 ≤ d) (B : zB p s m args c E mX10_receiveGive.1.cls mX10_receiveGive.2.1 mX10_receiveGive.2.2.1) (hr : meth.sig.returnType = mX10_receiveGive.2.2.2) (hlk : meth.locks = false) : zLk (zG p l e (zrm d) s m args below meth c E mX10_receiveGive.2.2.1 0 0 (MQ below (zQc E Q) args s 0 0 (zaA E))) 114 (b_X10_receiveGive_114 d (zG p l e (zrm d) s m args below meth c E mX10_receiveGive.2.2.1 0 0 (MQ below (zQc E Q) args s 0 0 (zaA E))) Q) := by
  unfold b_X10_receiveGive_114
  exact lk_aln B dX10_receiveGive_114 rfl (lk_gf (T := TX10) B cl_X10 (by decide) in_X10 zw_240 dX10_receiveGive_115 (lk_c B dX10_receiveGive_118 (lk_iln B dX10_receiveGive_119 rfl (lk_iln B dX10_receiveGive_120 rfl (lk_aln B dX10_receiveGive_121 rfl (lk_gf (T := TX10) B cl_X10 (by decide) in_X10 zw_242 dX10_receiveGive_122 (lk_il B dX10_receiveGive_125 (lk_callv (M := mX9_missingAt) (T := TX9) (N := 5) B (zhR hd1 (by decide)) ⟨Nat.zero_le _, Nat.zero_le _⟩ cl_X9 (zw5 zw_660 zw_657 zw_658 zw_659 zw_57) (by decide +kernel) dX10_receiveGive_127 (lk_callv (M := mX3_sendName) (T := TX3) (N := 4) B (zhR hd1 (by decide)) ⟨Nat.zero_le _, Nat.zero_le _⟩ cl_X3 (zw5 zw_664 zw_661 zw_662 zw_663 zw_56) (by decide +kernel) dX10_receiveGive_130 (k_X10_receiveGive_133 hd1 B hr hlk))))))))))
set_option maxRecDepth 20000 in
theorem k_X10_receiveGive_95 {p : Program} {l : Launch} {e : Env} {s : State} {m : MethodId} {args : Array Value} {below : List Frame} {meth : Method} {c : Code} {E : zE} {d : Nat} {Q : zQ} (hd1 : 1 ≤ d) (B : zB p s m args c E mX10_receiveGive.1.cls mX10_receiveGive.2.1 mX10_receiveGive.2.2.1) (hr : meth.sig.returnType = mX10_receiveGive.2.2.2) (hlk : meth.locks = false) : zLk (zG p l e (zrm d) s m args below meth c E mX10_receiveGive.2.2.1 0 0 (MQ below (zQc E Q) args s 0 0 (zaA E))) 95 (b_X10_receiveGive_95 d (zG p l e (zrm d) s m args below meth c E mX10_receiveGive.2.2.1 0 0 (MQ below (zQc E Q) args s 0 0 (zaA E))) Q) := by
  unfold b_X10_receiveGive_95
  exact lk_aln B dX10_receiveGive_95 rfl (lk_gf (T := TX10) B cl_X10 (by decide) in_X10 zw_241 dX10_receiveGive_96 (lk_aln B dX10_receiveGive_99 rfl (lk_gf (T := TX10) B cl_X10 (by decide) in_X10 zw_242 dX10_receiveGive_100 (lk_il B dX10_receiveGive_103 (lk_callv (M := mX9_missingAt) (T := TX9) (N := 5) B (zhR hd1 (by decide)) ⟨Nat.zero_le _, Nat.zero_le _⟩ cl_X9 (zw5 zw_660 zw_657 zw_658 zw_659 zw_57) (by decide +kernel) dX10_receiveGive_105 (lk_callv (M := mX9_misses) (T := TX9) (N := 5) B (zhR hd1 (by decide)) ⟨Nat.zero_le _, Nat.zero_le _⟩ cl_X9 (zw5 zw_446 zw_738 zw_444 zw_445 zw_57) (by decide +kernel) dX10_receiveGive_108 (lk_zne B dX10_receiveGive_111 (by decide) (k_X10_receiveGive_133 hd1 B hr hlk) (k_X10_receiveGive_114 hd1 B hr hlk))))))))
set_option maxRecDepth 20000 in
theorem k_X10_receiveGive_83 {p : Program} {l : Launch} {e : Env} {s : State} {m : MethodId} {args : Array Value} {below : List Frame} {meth : Method} {c : Code} {E : zE} {d : Nat} {Q : zQ} (hd1 : 1 ≤ d) (B : zB p s m args c E mX10_receiveGive.1.cls mX10_receiveGive.2.1 mX10_receiveGive.2.2.1) (hr : meth.sig.returnType = mX10_receiveGive.2.2.2) (hlk : meth.locks = false) : zLk (zG p l e (zrm d) s m args below meth c E mX10_receiveGive.2.2.1 0 0 (MQ below (zQc E Q) args s 0 0 (zaA E))) 83 (b_X10_receiveGive_83 d (zG p l e (zrm d) s m args below meth c E mX10_receiveGive.2.2.1 0 0 (MQ below (zQc E Q) args s 0 0 (zaA E))) Q) := by
  unfold b_X10_receiveGive_83
  exact lk_il B dX10_receiveGive_83 (lk_aln B dX10_receiveGive_85 rfl (lk_gf (T := TX10) B cl_X10 (by decide) in_X10 zw_242 dX10_receiveGive_86 (lk_callv (M := mX9_missingCount) (T := TX9) (N := 5) B (zhR hd1 (by decide)) ⟨Nat.zero_le _, Nat.zero_le _⟩ cl_X9 (zw5 zw_460 zw_652 zw_458 zw_459 zw_57) (by decide +kernel) dX10_receiveGive_89 (lk_ige B dX10_receiveGive_92 (by decide) (k_X10_receiveGive_139 hd1 B hr hlk) (k_X10_receiveGive_95 hd1 B hr hlk)))))
def S_X10_receiveGive (d : Nat) (G : Nat → zK) (Q : zQ) : Prop := zLk G 0 (b_X10_receiveGive_0 d G Q) ∧ zLk G 83 (b_X10_receiveGive_83 d G Q)
theorem s_X10_receiveGive_0 {d : Nat} {G : Nat → zK} {Q : zQ} (h : S_X10_receiveGive d G Q) {ls st : List zV} {μ : zM} (k : b_X10_receiveGive_0 d G Q ls st μ) : G 0 ls st μ := h.1 ls st μ k
theorem s_X10_receiveGive_83 {d : Nat} {G : Nat → zK} {Q : zQ} (h : S_X10_receiveGive d G Q) {ls st : List zV} {μ : zM} (k : b_X10_receiveGive_83 d G Q ls st μ) : G 83 ls st μ := h.2 ls st μ k
theorem of_X10_receiveGive {d : Nat} {a0 a1 a2 a3 : zV} {μ : zM} {Q : zQ} (hd1 : 1 ≤ d) (h : ∀ G : Nat → zK, S_X10_receiveGive d G Q → G 0 [a0, a1, a2, a3, .inr none, .inr none] [] μ) : zCt d mX10_receiveGive [a0, a1, a2, a3] μ Q := zCt.mk (by decide) (Nat.le_of_ble_eq_true rfl) (fun p l e s m args below meth c E B hr hlk => h _ ⟨k_X10_receiveGive_0 hd1 B hr hlk, k_X10_receiveGive_83 hd1 B hr hlk⟩)
theorem dX10_receiveNone_0 : decode cX10_receiveNone 0 = .ok (.aload_n 0, 1) := by decide +kernel
theorem dX10_receiveNone_1 : decode cX10_receiveNone 1 = .ok (.getfield 11, 3) := by decide +kernel
theorem dX10_receiveNone_4 : decode cX10_receiveNone 4 = .ok (.iload_n 2, 1) := by decide +kernel
theorem dX10_receiveNone_5 : decode cX10_receiveNone 5 = .ok (.aaload, 1) := by decide +kernel
theorem dX10_receiveNone_6 : decode cX10_receiveNone 6 = .ok (.astore 4, 2) := by decide +kernel
theorem dX10_receiveNone_8 : decode cX10_receiveNone 8 = .ok (.aload 4, 2) := by decide +kernel
theorem dX10_receiveNone_10 : decode cX10_receiveNone 10 = .ok (.iload_n 1, 1) := by decide +kernel
theorem dX10_receiveNone_11 : decode cX10_receiveNone 11 = .ok (.invokevirtual 235, 3) := by decide +kernel
theorem dX10_receiveNone_14 : decode cX10_receiveNone 14 = .ok (.ifCond .ne 4, 3) := by decide +kernel
theorem dX10_receiveNone_17 : decode cX10_receiveNone 17 = .ok (.return_, 1) := by decide +kernel
theorem dX10_receiveNone_18 : decode cX10_receiveNone 18 = .ok (.aload 4, 2) := by decide +kernel
theorem dX10_receiveNone_20 : decode cX10_receiveNone 20 = .ok (.aload_n 0, 1) := by decide +kernel
theorem dX10_receiveNone_21 : decode cX10_receiveNone 21 = .ok (.getfield 59, 3) := by decide +kernel
theorem dX10_receiveNone_24 : decode cX10_receiveNone 24 = .ok (.invokevirtual 214, 3) := by decide +kernel
theorem dX10_receiveNone_27 : decode cX10_receiveNone 27 = .ok (.aload_n 0, 1) := by decide +kernel
theorem dX10_receiveNone_28 : decode cX10_receiveNone 28 = .ok (.getfield 59, 3) := by decide +kernel
theorem dX10_receiveNone_31 : decode cX10_receiveNone 31 = .ok (.iload_n 3, 1) := by decide +kernel
theorem dX10_receiveNone_32 : decode cX10_receiveNone 32 = .ok (.invokevirtual 238, 3) := by decide +kernel
theorem dX10_receiveNone_35 : decode cX10_receiveNone 35 = .ok (.ifCond .eq 8, 3) := by decide +kernel
theorem dX10_receiveNone_38 : decode cX10_receiveNone 38 = .ok (.aload 4, 2) := by decide +kernel
theorem dX10_receiveNone_40 : decode cX10_receiveNone 40 = .ok (.invokevirtual 241, 3) := by decide +kernel
theorem dX10_receiveNone_43 : decode cX10_receiveNone 43 = .ok (.return_, 1) := by decide +kernel
def b_X10_receiveNone_43 (d : Nat) (G : Nat → zK) (Q : zQ) : zK := t_vret Q
def b_X10_receiveNone_38 (d : Nat) (G : Nat → zK) (Q : zQ) : zK := o_al 4 <| o_callv (zCt (d - 1) mX7_failFetch) 5 1 <| b_X10_receiveNone_43 d G Q
def b_X10_receiveNone_18 (d : Nat) (G : Nat → zK) (Q : zQ) : zK := o_al 4 <| o_al 0 <| o_gf 8 8 <| o_callv (zCt (d - 1) mX7_walkFetch) 5 2 <| o_al 0 <| o_gf 8 8 <| o_il 3 <| o_callv (zCt (d - 1) mX9_misses) 7 2 <| t_zeq (b_X10_receiveNone_43 d G Q) (b_X10_receiveNone_38 d G Q)
def b_X10_receiveNone_17 (d : Nat) (G : Nat → zK) (Q : zQ) : zK := t_vret Q
def b_X10_receiveNone_0 (d : Nat) (G : Nat → zK) (Q : zQ) : zK := o_al 0 <| o_gf 8 0 <| o_il 2 <| o_aald <| o_as 4 <| o_al 4 <| o_il 1 <| o_callv (zCt (d - 1) mX7_isFetchingFrom) 5 2 <| t_zeq (b_X10_receiveNone_17 d G Q) (b_X10_receiveNone_18 d G Q)
set_option maxRecDepth 20000 in
theorem k_X10_receiveNone_43 {p : Program} {l : Launch} {e : Env} {s : State} {m : MethodId} {args : Array Value} {below : List Frame} {meth : Method} {c : Code} {E : zE} {d : Nat} {Q : zQ} (hd1 : 1 ≤ d) (B : zB p s m args c E mX10_receiveNone.1.cls mX10_receiveNone.2.1 mX10_receiveNone.2.2.1) (hr : meth.sig.returnType = mX10_receiveNone.2.2.2) (hlk : meth.locks = false) : zLk (zG p l e (zrm d) s m args below meth c E mX10_receiveNone.2.2.1 0 0 (MQ below (zQc E Q) args s 0 0 (zaA E))) 43 (b_X10_receiveNone_43 d (zG p l e (zrm d) s m args below meth c E mX10_receiveNone.2.2.1 0 0 (MQ below (zQc E Q) args s 0 0 (zaA E))) Q) := by
  unfold b_X10_receiveNone_43
  exact lk_vret B hr hlk dX10_receiveNone_43
set_option maxRecDepth 20000 in
theorem k_X10_receiveNone_38 {p : Program} {l : Launch} {e : Env} {s : State} {m : MethodId} {args : Array Value} {below : List Frame} {meth : Method} {c : Code} {E : zE} {d : Nat} {Q : zQ} (hd1 : 1 ≤ d) (B : zB p s m args c E mX10_receiveNone.1.cls mX10_receiveNone.2.1 mX10_receiveNone.2.2.1) (hr : meth.sig.returnType = mX10_receiveNone.2.2.2) (hlk : meth.locks = false) : zLk (zG p l e (zrm d) s m args below meth c E mX10_receiveNone.2.2.1 0 0 (MQ below (zQc E Q) args s 0 0 (zaA E))) 38 (b_X10_receiveNone_38 d (zG p l e (zrm d) s m args below meth c E mX10_receiveNone.2.2.1 0 0 (MQ below (zQc E Q) args s 0 0 (zaA E))) Q) := by
  unfold b_X10_receiveNone_38
  exact lk_al B dX10_receiveNone_38 (lk_callv (M := mX7_failFetch) (T := TX7) (N := 5) B (zhR hd1 (by decide)) ⟨Nat.zero_le _, Nat.zero_le _⟩ cl_X7 (zw5 zw_742 zw_739 zw_740 zw_741 zw_50) (by decide +kernel) dX10_receiveNone_40 (k_X10_receiveNone_43 hd1 B hr hlk))
set_option maxRecDepth 20000 in
theorem k_X10_receiveNone_18 {p : Program} {l : Launch} {e : Env} {s : State} {m : MethodId} {args : Array Value} {below : List Frame} {meth : Method} {c : Code} {E : zE} {d : Nat} {Q : zQ} (hd1 : 1 ≤ d) (B : zB p s m args c E mX10_receiveNone.1.cls mX10_receiveNone.2.1 mX10_receiveNone.2.2.1) (hr : meth.sig.returnType = mX10_receiveNone.2.2.2) (hlk : meth.locks = false) : zLk (zG p l e (zrm d) s m args below meth c E mX10_receiveNone.2.2.1 0 0 (MQ below (zQc E Q) args s 0 0 (zaA E))) 18 (b_X10_receiveNone_18 d (zG p l e (zrm d) s m args below meth c E mX10_receiveNone.2.2.1 0 0 (MQ below (zQc E Q) args s 0 0 (zaA E))) Q) := by
  unfold b_X10_receiveNone_18
  exact lk_al B dX10_receiveNone_18 (lk_aln B dX10_receiveNone_20 rfl (lk_gf (T := TX10) B cl_X10 (by decide) in_X10 zw_242 dX10_receiveNone_21 (lk_callv (M := mX7_walkFetch) (T := TX7) (N := 5) B (zhR hd1 (by decide)) ⟨Nat.zero_le _, Nat.zero_le _⟩ cl_X7 (zw5 zw_421 zw_418 zw_419 zw_420 zw_50) (by decide +kernel) dX10_receiveNone_24 (lk_aln B dX10_receiveNone_27 rfl (lk_gf (T := TX10) B cl_X10 (by decide) in_X10 zw_242 dX10_receiveNone_28 (lk_iln B dX10_receiveNone_31 rfl (lk_callv (M := mX9_misses) (T := TX9) (N := 5) B (zhR hd1 (by decide)) ⟨Nat.zero_le _, Nat.zero_le _⟩ cl_X9 (zw5 zw_446 zw_738 zw_444 zw_445 zw_57) (by decide +kernel) dX10_receiveNone_32 (lk_zeq B dX10_receiveNone_35 (by decide) (k_X10_receiveNone_43 hd1 B hr hlk) (k_X10_receiveNone_38 hd1 B hr hlk)))))))))
set_option maxRecDepth 20000 in
theorem k_X10_receiveNone_17 {p : Program} {l : Launch} {e : Env} {s : State} {m : MethodId} {args : Array Value} {below : List Frame} {meth : Method} {c : Code} {E : zE} {d : Nat} {Q : zQ} (hd1 : 1 ≤ d) (B : zB p s m args c E mX10_receiveNone.1.cls mX10_receiveNone.2.1 mX10_receiveNone.2.2.1) (hr : meth.sig.returnType = mX10_receiveNone.2.2.2) (hlk : meth.locks = false) : zLk (zG p l e (zrm d) s m args below meth c E mX10_receiveNone.2.2.1 0 0 (MQ below (zQc E Q) args s 0 0 (zaA E))) 17 (b_X10_receiveNone_17 d (zG p l e (zrm d) s m args below meth c E mX10_receiveNone.2.2.1 0 0 (MQ below (zQc E Q) args s 0 0 (zaA E))) Q) := by
  unfold b_X10_receiveNone_17
  exact lk_vret B hr hlk dX10_receiveNone_17
set_option maxRecDepth 20000 in
theorem k_X10_receiveNone_0 {p : Program} {l : Launch} {e : Env} {s : State} {m : MethodId} {args : Array Value} {below : List Frame} {meth : Method} {c : Code} {E : zE} {d : Nat} {Q : zQ} (hd1 : 1 ≤ d) (B : zB p s m args c E mX10_receiveNone.1.cls mX10_receiveNone.2.1 mX10_receiveNone.2.2.1) (hr : meth.sig.returnType = mX10_receiveNone.2.2.2) (hlk : meth.locks = false) : zLk (zG p l e (zrm d) s m args below meth c E mX10_receiveNone.2.2.1 0 0 (MQ below (zQc E Q) args s 0 0 (zaA E))) 0 (b_X10_receiveNone_0 d (zG p l e (zrm d) s m args below meth c E mX10_receiveNone.2.2.1 0 0 (MQ below (zQc E Q) args s 0 0 (zaA E))) Q) := by
  unfold b_X10_receiveNone_0
  exact lk_aln B dX10_receiveNone_0 rfl (lk_gf (T := TX10) B cl_X10 (by decide) in_X10 zw_234 dX10_receiveNone_1 (lk_iln B dX10_receiveNone_4 rfl (lk_aald B dX10_receiveNone_5 (lk_as B dX10_receiveNone_6 (by decide) (lk_al B dX10_receiveNone_8 (lk_iln B dX10_receiveNone_10 rfl (lk_callv (M := mX7_isFetchingFrom) (T := TX7) (N := 5) B (zhR hd1 (by decide)) ⟨Nat.zero_le _, Nat.zero_le _⟩ cl_X7 (zw5 zw_737 zw_734 zw_735 zw_736 zw_50) (by decide +kernel) dX10_receiveNone_11 (lk_zne B dX10_receiveNone_14 (by decide) (k_X10_receiveNone_18 hd1 B hr hlk) (k_X10_receiveNone_17 hd1 B hr hlk)))))))))
def S_X10_receiveNone (d : Nat) (G : Nat → zK) (Q : zQ) : Prop := zLk G 0 (b_X10_receiveNone_0 d G Q)
theorem s_X10_receiveNone_0 {d : Nat} {G : Nat → zK} {Q : zQ} (h : S_X10_receiveNone d G Q) {ls st : List zV} {μ : zM} (k : b_X10_receiveNone_0 d G Q ls st μ) : G 0 ls st μ := h ls st μ k
theorem of_X10_receiveNone {d : Nat} {a0 a1 a2 a3 : zV} {μ : zM} {Q : zQ} (hd1 : 1 ≤ d) (h : ∀ G : Nat → zK, S_X10_receiveNone d G Q → G 0 [a0, a1, a2, a3, .inr none] [] μ) : zCt d mX10_receiveNone [a0, a1, a2, a3] μ Q := zCt.mk (by decide) (Nat.le_of_ble_eq_true rfl) (fun p l e s m args below meth c E B hr hlk => h _ (k_X10_receiveNone_0 hd1 B hr hlk))
