theorem dX2_isBlock_0 : decode cX2_isBlock 0 = .ok (.aload_n 0, 1) := by decide +kernel
theorem dX2_isBlock_1 : decode cX2_isBlock 1 = .ok (.iload_n 1, 1) := by decide +kernel
theorem dX2_isBlock_2 : decode cX2_isBlock 2 = .ok (.invokevirtual 9, 3) := by decide +kernel
theorem dX2_isBlock_5 : decode cX2_isBlock 5 = .ok (.istore_n 2, 1) := by decide +kernel
theorem dX2_isBlock_6 : decode cX2_isBlock 6 = .ok (.aload_n 0, 1) := by decide +kernel
theorem dX2_isBlock_7 : decode cX2_isBlock 7 = .ok (.iload_n 1, 1) := by decide +kernel
theorem dX2_isBlock_8 : decode cX2_isBlock 8 = .ok (.invokevirtual 15, 3) := by decide +kernel
theorem dX2_isBlock_11 : decode cX2_isBlock 11 = .ok (.istore_n 3, 1) := by decide +kernel
theorem dX2_isBlock_12 : decode cX2_isBlock 12 = .ok (.iload_n 3, 1) := by decide +kernel
theorem dX2_isBlock_13 : decode cX2_isBlock 13 = .ok (.ifCond .ne 15, 3) := by decide +kernel
theorem dX2_isBlock_16 : decode cX2_isBlock 16 = .ok (.iload_n 2, 1) := by decide +kernel
theorem dX2_isBlock_17 : decode cX2_isBlock 17 = .ok (.bipush 9, 2) := by decide +kernel
theorem dX2_isBlock_19 : decode cX2_isBlock 19 = .ok (.if_icmp .gt 7, 3) := by decide +kernel
theorem dX2_isBlock_22 : decode cX2_isBlock 22 = .ok (.iconst 1, 1) := by decide +kernel
theorem dX2_isBlock_23 : decode cX2_isBlock 23 = .ok (.goto 4, 3) := by decide +kernel
theorem dX2_isBlock_26 : decode cX2_isBlock 26 = .ok (.iconst 0, 1) := by decide +kernel
theorem dX2_isBlock_27 : decode cX2_isBlock 27 = .ok (.ireturn, 1) := by decide +kernel
theorem dX2_isBlock_28 : decode cX2_isBlock 28 = .ok (.iload_n 3, 1) := by decide +kernel
theorem dX2_isBlock_29 : decode cX2_isBlock 29 = .ok (.ifCond .le 51, 3) := by decide +kernel
theorem dX2_isBlock_32 : decode cX2_isBlock 32 = .ok (.iload_n 3, 1) := by decide +kernel
theorem dX2_isBlock_33 : decode cX2_isBlock 33 = .ok (.iconst 3, 1) := by decide +kernel
theorem dX2_isBlock_34 : decode cX2_isBlock 34 = .ok (.if_icmp .gt 46, 3) := by decide +kernel
theorem dX2_isBlock_37 : decode cX2_isBlock 37 = .ok (.iload_n 3, 1) := by decide +kernel
theorem dX2_isBlock_38 : decode cX2_isBlock 38 = .ok (.aload_n 0, 1) := by decide +kernel
theorem dX2_isBlock_39 : decode cX2_isBlock 39 = .ok (.iload_n 1, 1) := by decide +kernel
theorem dX2_isBlock_40 : decode cX2_isBlock 40 = .ok (.iconst 1, 1) := by decide +kernel
theorem dX2_isBlock_41 : decode cX2_isBlock 41 = .ok (.invokevirtual 20, 3) := by decide +kernel
theorem dX2_isBlock_44 : decode cX2_isBlock 44 = .ok (.invokestatic 24, 3) := by decide +kernel
theorem dX2_isBlock_47 : decode cX2_isBlock 47 = .ok (.ifCond .eq 33, 3) := by decide +kernel
theorem dX2_isBlock_50 : decode cX2_isBlock 50 = .ok (.iload_n 2, 1) := by decide +kernel
theorem dX2_isBlock_51 : decode cX2_isBlock 51 = .ok (.iconst 2, 1) := by decide +kernel
theorem dX2_isBlock_52 : decode cX2_isBlock 52 = .ok (.aload_n 0, 1) := by decide +kernel
theorem dX2_isBlock_53 : decode cX2_isBlock 53 = .ok (.iload_n 1, 1) := by decide +kernel
theorem dX2_isBlock_54 : decode cX2_isBlock 54 = .ok (.invokestatic 28, 3) := by decide +kernel
theorem dX2_isBlock_57 : decode cX2_isBlock 57 = .ok (.getstatic 32, 3) := by decide +kernel
theorem dX2_isBlock_60 : decode cX2_isBlock 60 = .ok (.iload_n 3, 1) := by decide +kernel
theorem dX2_isBlock_61 : decode cX2_isBlock 61 = .ok (.iaload, 1) := by decide +kernel
theorem dX2_isBlock_62 : decode cX2_isBlock 62 = .ok (.imul, 1) := by decide +kernel
theorem dX2_isBlock_63 : decode cX2_isBlock 63 = .ok (.iadd, 1) := by decide +kernel
theorem dX2_isBlock_64 : decode cX2_isBlock 64 = .ok (.if_icmp .ne 16, 3) := by decide +kernel
theorem dX2_isBlock_67 : decode cX2_isBlock 67 = .ok (.aload_n 0, 1) := by decide +kernel
theorem dX2_isBlock_68 : decode cX2_isBlock 68 = .ok (.iload_n 1, 1) := by decide +kernel
theorem dX2_isBlock_69 : decode cX2_isBlock 69 = .ok (.iload_n 3, 1) := by decide +kernel
theorem dX2_isBlock_70 : decode cX2_isBlock 70 = .ok (.invokestatic 36, 3) := by decide +kernel
theorem dX2_isBlock_73 : decode cX2_isBlock 73 = .ok (.ifCond .eq 7, 3) := by decide +kernel
theorem dX2_isBlock_76 : decode cX2_isBlock 76 = .ok (.iconst 1, 1) := by decide +kernel
theorem dX2_isBlock_77 : decode cX2_isBlock 77 = .ok (.goto 4, 3) := by decide +kernel
theorem dX2_isBlock_80 : decode cX2_isBlock 80 = .ok (.iconst 0, 1) := by decide +kernel
theorem dX2_isBlock_81 : decode cX2_isBlock 81 = .ok (.ireturn, 1) := by decide +kernel
def b_X2_isBlock_81 (d : Nat) (G : Nat → zK) (Q : zQ) : zK := t_zret Q
def b_X2_isBlock_80 (d : Nat) (G : Nat → zK) (Q : zQ) : zK := o_c 0 <| b_X2_isBlock_81 d G Q
def b_X2_isBlock_76 (d : Nat) (G : Nat → zK) (Q : zQ) : zK := o_c 1 <| b_X2_isBlock_81 d G Q
def b_X2_isBlock_67 (d : Nat) (G : Nat → zK) (Q : zQ) : zK := o_al 0 <| o_il 1 <| o_il 3 <| o_call (zCt (d - 1) mX2_hasGoodParts) 3 <| t_zeq (b_X2_isBlock_80 d G Q) (b_X2_isBlock_76 d G Q)
def b_X2_isBlock_50 (d : Nat) (G : Nat → zK) (Q : zQ) : zK := o_il 2 <| o_c 2 <| o_al 0 <| o_il 1 <| o_call (zCt (d - 1) mX2_partCount) 2 <| o_gs <| o_il 3 <| o_iald <| o_mul <| o_add <| t_ieq (b_X2_isBlock_67 d G Q) (b_X2_isBlock_80 d G Q)
def b_X2_isBlock_37 (d : Nat) (G : Nat → zK) (Q : zQ) : zK := o_il 3 <| o_al 0 <| o_il 1 <| o_c 1 <| o_callv (zCt (d - 1) mX6_byteAt) 4 3 <| o_call (zCt (d - 1) mX2_hasGoodSecond) 2 <| t_zeq (b_X2_isBlock_80 d G Q) (b_X2_isBlock_50 d G Q)
def b_X2_isBlock_32 (d : Nat) (G : Nat → zK) (Q : zQ) : zK := o_il 3 <| o_c 3 <| t_igt (b_X2_isBlock_80 d G Q) (b_X2_isBlock_37 d G Q)
def b_X2_isBlock_28 (d : Nat) (G : Nat → zK) (Q : zQ) : zK := o_il 3 <| t_zgt (b_X2_isBlock_32 d G Q) (b_X2_isBlock_80 d G Q)
def b_X2_isBlock_27 (d : Nat) (G : Nat → zK) (Q : zQ) : zK := t_zret Q
def b_X2_isBlock_26 (d : Nat) (G : Nat → zK) (Q : zQ) : zK := o_c 0 <| b_X2_isBlock_27 d G Q
def b_X2_isBlock_22 (d : Nat) (G : Nat → zK) (Q : zQ) : zK := o_c 1 <| b_X2_isBlock_27 d G Q
def b_X2_isBlock_16 (d : Nat) (G : Nat → zK) (Q : zQ) : zK := o_il 2 <| o_c 9 <| t_igt (b_X2_isBlock_26 d G Q) (b_X2_isBlock_22 d G Q)
def b_X2_isBlock_0 (d : Nat) (G : Nat → zK) (Q : zQ) : zK := o_al 0 <| o_il 1 <| o_callv (zCt (d - 1) mX6_sizeAt) 4 2 <| o_is 2 <| o_al 0 <| o_il 1 <| o_callv (zCt (d - 1) mX6_kindAt) 4 2 <| o_is 3 <| o_il 3 <| t_zeq (b_X2_isBlock_16 d G Q) (b_X2_isBlock_28 d G Q)
set_option maxRecDepth 20000 in
theorem k_X2_isBlock_81 {p : Program} {l : Launch} {e : Env} {s : State} {m : MethodId} {args : Array Value} {below : List Frame} {meth : Method} {c : Code} {E : zE} {d : Nat} {Q : zQ} (hd1 : 1 ≤ d) (B : zB p s m args c E mX2_isBlock.1.cls mX2_isBlock.2.1 mX2_isBlock.2.2.1) (hr : meth.sig.returnType = mX2_isBlock.2.2.2) (hlk : meth.locks = false) : zLk (zG p l e (zrm d) s m args below meth c E mX2_isBlock.2.2.1 0 0 (MQ below (zQc E Q) args s 0 0 (zaA E))) 81 (b_X2_isBlock_81 d (zG p l e (zrm d) s m args below meth c E mX2_isBlock.2.2.1 0 0 (MQ below (zQc E Q) args s 0 0 (zaA E))) Q) := by
  unfold b_X2_isBlock_81
  exact lk_zret B hr hlk dX2_isBlock_81
set_option maxRecDepth 20000 in
theorem k_X2_isBlock_80 {p : Program} {l : Launch} {e : Env} {s : State} {m : MethodId} {args : Array Value} {below : List Frame} {meth : Method} {c : Code} {E : zE} {d : Nat} {Q : zQ} (hd1 : 1 ≤ d) (B : zB p s m args c E mX2_isBlock.1.cls mX2_isBlock.2.1 mX2_isBlock.2.2.1) (hr : meth.sig.returnType = mX2_isBlock.2.2.2) (hlk : meth.locks = false) : zLk (zG p l e (zrm d) s m args below meth c E mX2_isBlock.2.2.1 0 0 (MQ below (zQc E Q) args s 0 0 (zaA E))) 80 (b_X2_isBlock_80 d (zG p l e (zrm d) s m args below meth c E mX2_isBlock.2.2.1 0 0 (MQ below (zQc E Q) args s 0 0 (zaA E))) Q) := by
  unfold b_X2_isBlock_80
  exact lk_c B dX2_isBlock_80 (k_X2_isBlock_81 hd1 B hr hlk)
set_option maxRecDepth 20000 in
theorem k_X2_isBlock_76 {p : Program} {l : Launch} {e : Env} {s : State} {m : MethodId} {args : Array Value} {below : List Frame} {meth : Method} {c : Code} {E : zE} {d : Nat} {Q : zQ} (hd1 : 1 ≤ d) (B : zB p s m args c E mX2_isBlock.1.cls mX2_isBlock.2.1 mX2_isBlock.2.2.1) (hr : meth.sig.returnType = mX2_isBlock.2.2.2) (hlk : meth.locks = false) : zLk (zG p l e (zrm d) s m args below meth c E mX2_isBlock.2.2.1 0 0 (MQ below (zQc E Q) args s 0 0 (zaA E))) 76 (b_X2_isBlock_76 d (zG p l e (zrm d) s m args below meth c E mX2_isBlock.2.2.1 0 0 (MQ below (zQc E Q) args s 0 0 (zaA E))) Q) := by
  unfold b_X2_isBlock_76
  exact lk_c B dX2_isBlock_76 (lk_goto B dX2_isBlock_77 (by decide) (k_X2_isBlock_81 hd1 B hr hlk))
set_option maxRecDepth 20000 in
theorem k_X2_isBlock_67 {p : Program} {l : Launch} {e : Env} {s : State} {m : MethodId} {args : Array Value} {below : List Frame} {meth : Method} {c : Code} {E : zE} {d : Nat} {Q : zQ} (hd1 : 1 ≤ d) (B : zB p s m args c E mX2_isBlock.1.cls mX2_isBlock.2.1 mX2_isBlock.2.2.1) (hr : meth.sig.returnType = mX2_isBlock.2.2.2) (hlk : meth.locks = false) : zLk (zG p l e (zrm d) s m args below meth c E mX2_isBlock.2.2.1 0 0 (MQ below (zQc E Q) args s 0 0 (zaA E))) 67 (b_X2_isBlock_67 d (zG p l e (zrm d) s m args below meth c E mX2_isBlock.2.2.1 0 0 (MQ below (zQc E Q) args s 0 0 (zaA E))) Q) := by
  unfold b_X2_isBlock_67
  exact lk_aln B dX2_isBlock_67 rfl (lk_iln B dX2_isBlock_68 rfl (lk_iln B dX2_isBlock_69 rfl (lk_calls (M := mX2_hasGoodParts) B (zhR hd1 (by decide)) ⟨Nat.zero_le _, Nat.zero_le _⟩ (zw4 zw_365 zw_363 zw_364 zw_60) (by decide +kernel) dX2_isBlock_70 (lk_zeq B dX2_isBlock_73 (by decide) (k_X2_isBlock_80 hd1 B hr hlk) (k_X2_isBlock_76 hd1 B hr hlk)))))
set_option maxRecDepth 20000 in
theorem k_X2_isBlock_50 {p : Program} {l : Launch} {e : Env} {s : State} {m : MethodId} {args : Array Value} {below : List Frame} {meth : Method} {c : Code} {E : zE} {d : Nat} {Q : zQ} (hd1 : 1 ≤ d) (B : zB p s m args c E mX2_isBlock.1.cls mX2_isBlock.2.1 mX2_isBlock.2.2.1) (hr : meth.sig.returnType = mX2_isBlock.2.2.2) (hlk : meth.locks = false) : zLk (zG p l e (zrm d) s m args below meth c E mX2_isBlock.2.2.1 0 0 (MQ below (zQc E Q) args s 0 0 (zaA E))) 50 (b_X2_isBlock_50 d (zG p l e (zrm d) s m args below meth c E mX2_isBlock.2.2.1 0 0 (MQ below (zQc E Q) args s 0 0 (zaA E))) Q) := by
  unfold b_X2_isBlock_50
  exact lk_iln B dX2_isBlock_50 rfl (lk_c B dX2_isBlock_51 (lk_aln B dX2_isBlock_52 rfl (lk_iln B dX2_isBlock_53 rfl (lk_calls (M := mX2_partCount) B (zhR hd1 (by decide)) ⟨Nat.zero_le _, Nat.zero_le _⟩ (zw4 zw_354 zw_352 zw_353 zw_60) (by decide +kernel) dX2_isBlock_54 (lk_gs B zw_361 dX2_isBlock_57 (lk_iln B dX2_isBlock_60 rfl (lk_iald B dX2_isBlock_61 (lk_mul B dX2_isBlock_62 (lk_add B dX2_isBlock_63 (lk_ine B dX2_isBlock_64 (by decide) (k_X2_isBlock_80 hd1 B hr hlk) (k_X2_isBlock_67 hd1 B hr hlk)))))))))))
set_option maxRecDepth 20000 in
theorem k_X2_isBlock_37 {p : Program} {l : Launch} {e : Env} {s : State} {m : MethodId} {args : Array Value} {below : List Frame} {meth : Method} {c : Code} {E : zE} {d : Nat} {Q : zQ} (hd1 : 1 ≤ d) (B : zB p s m args c E mX2_isBlock.1.cls mX2_isBlock.2.1 mX2_isBlock.2.2.1) (hr : meth.sig.returnType = mX2_isBlock.2.2.2) (hlk : meth.locks = false) : zLk (zG p l e (zrm d) s m args below meth c E mX2_isBlock.2.2.1 0 0 (MQ below (zQc E Q) args s 0 0 (zaA E))) 37 (b_X2_isBlock_37 d (zG p l e (zrm d) s m args below meth c E mX2_isBlock.2.2.1 0 0 (MQ below (zQc E Q) args s 0 0 (zaA E))) Q) := by
  unfold b_X2_isBlock_37
  exact lk_iln B dX2_isBlock_37 rfl (lk_aln B dX2_isBlock_38 rfl (lk_iln B dX2_isBlock_39 rfl (lk_c B dX2_isBlock_40 (lk_callv (M := mX6_byteAt) (T := TX6) (N := 5) B (zhR hd1 (by decide)) ⟨Nat.zero_le _, Nat.zero_le _⟩ cl_X6 (zw5 zw_348 zw_345 zw_346 zw_347 zw_51) (by decide +kernel) dX2_isBlock_41 (lk_calls (M := mX2_hasGoodSecond) B (zhR hd1 (by decide)) ⟨Nat.zero_le _, Nat.zero_le _⟩ (zw4 zw_351 zw_349 zw_350 zw_60) (by decide +kernel) dX2_isBlock_44 (lk_zeq B dX2_isBlock_47 (by decide) (k_X2_isBlock_80 hd1 B hr hlk) (k_X2_isBlock_50 hd1 B hr hlk)))))))
set_option maxRecDepth 20000 in
theorem k_X2_isBlock_32 {p : Program} {l : Launch} {e : Env} {s : State} {m : MethodId} {args : Array Value} {below : List Frame} {meth : Method} {c : Code} {E : zE} {d : Nat} {Q : zQ} (hd1 : 1 ≤ d) (B : zB p s m args c E mX2_isBlock.1.cls mX2_isBlock.2.1 mX2_isBlock.2.2.1) (hr : meth.sig.returnType = mX2_isBlock.2.2.2) (hlk : meth.locks = false) : zLk (zG p l e (zrm d) s m args below meth c E mX2_isBlock.2.2.1 0 0 (MQ below (zQc E Q) args s 0 0 (zaA E))) 32 (b_X2_isBlock_32 d (zG p l e (zrm d) s m args below meth c E mX2_isBlock.2.2.1 0 0 (MQ below (zQc E Q) args s 0 0 (zaA E))) Q) := by
  unfold b_X2_isBlock_32
  exact lk_iln B dX2_isBlock_32 rfl (lk_c B dX2_isBlock_33 (lk_igt B dX2_isBlock_34 (by decide) (k_X2_isBlock_80 hd1 B hr hlk) (k_X2_isBlock_37 hd1 B hr hlk)))
set_option maxRecDepth 20000 in
theorem k_X2_isBlock_28 {p : Program} {l : Launch} {e : Env} {s : State} {m : MethodId} {args : Array Value} {below : List Frame} {meth : Method} {c : Code} {E : zE} {d : Nat} {Q : zQ} (hd1 : 1 ≤ d) (B : zB p s m args c E mX2_isBlock.1.cls mX2_isBlock.2.1 mX2_isBlock.2.2.1) (hr : meth.sig.returnType = mX2_isBlock.2.2.2) (hlk : meth.locks = false) : zLk (zG p l e (zrm d) s m args below meth c E mX2_isBlock.2.2.1 0 0 (MQ below (zQc E Q) args s 0 0 (zaA E))) 28 (b_X2_isBlock_28 d (zG p l e (zrm d) s m args below meth c E mX2_isBlock.2.2.1 0 0 (MQ below (zQc E Q) args s 0 0 (zaA E))) Q) := by
  unfold b_X2_isBlock_28
  exact lk_iln B dX2_isBlock_28 rfl (lk_zle B dX2_isBlock_29 (by decide) (k_X2_isBlock_80 hd1 B hr hlk) (k_X2_isBlock_32 hd1 B hr hlk))
set_option maxRecDepth 20000 in
theorem k_X2_isBlock_27 {p : Program} {l : Launch} {e : Env} {s : State} {m : MethodId} {args : Array Value} {below : List Frame} {meth : Method} {c : Code} {E : zE} {d : Nat} {Q : zQ} (hd1 : 1 ≤ d) (B : zB p s m args c E mX2_isBlock.1.cls mX2_isBlock.2.1 mX2_isBlock.2.2.1) (hr : meth.sig.returnType = mX2_isBlock.2.2.2) (hlk : meth.locks = false) : zLk (zG p l e (zrm d) s m args below meth c E mX2_isBlock.2.2.1 0 0 (MQ below (zQc E Q) args s 0 0 (zaA E))) 27 (b_X2_isBlock_27 d (zG p l e (zrm d) s m args below meth c E mX2_isBlock.2.2.1 0 0 (MQ below (zQc E Q) args s 0 0 (zaA E))) Q) := by
  unfold b_X2_isBlock_27
  exact lk_zret B hr hlk dX2_isBlock_27
set_option maxRecDepth 20000 in
theorem k_X2_isBlock_26 {p : Program} {l : Launch} {e : Env} {s : State} {m : MethodId} {args : Array Value} {below : List Frame} {meth : Method} {c : Code} {E : zE} {d : Nat} {Q : zQ} (hd1 : 1 ≤ d) (B : zB p s m args c E mX2_isBlock.1.cls mX2_isBlock.2.1 mX2_isBlock.2.2.1) (hr : meth.sig.returnType = mX2_isBlock.2.2.2) (hlk : meth.locks = false) : zLk (zG p l e (zrm d) s m args below meth c E mX2_isBlock.2.2.1 0 0 (MQ below (zQc E Q) args s 0 0 (zaA E))) 26 (b_X2_isBlock_26 d (zG p l e (zrm d) s m args below meth c E mX2_isBlock.2.2.1 0 0 (MQ below (zQc E Q) args s 0 0 (zaA E))) Q) := by
  unfold b_X2_isBlock_26
  exact lk_c B dX2_isBlock_26 (k_X2_isBlock_27 hd1 B hr hlk)
set_option maxRecDepth 20000 in
theorem k_X2_isBlock_22 {p : Program} {l : Launch} {e : Env} {s : State} {m : MethodId} {args : Array Value} {below : List Frame} {meth : Method} {c : Code} {E : zE} {d : Nat} {Q : zQ} (hd1 : 1 ≤ d) (B : zB p s m args c E mX2_isBlock.1.cls mX2_isBlock.2.1 mX2_isBlock.2.2.1) (hr : meth.sig.returnType = mX2_isBlock.2.2.2) (hlk : meth.locks = false) : zLk (zG p l e (zrm d) s m args below meth c E mX2_isBlock.2.2.1 0 0 (MQ below (zQc E Q) args s 0 0 (zaA E))) 22 (b_X2_isBlock_22 d (zG p l e (zrm d) s m args below meth c E mX2_isBlock.2.2.1 0 0 (MQ below (zQc E Q) args s 0 0 (zaA E))) Q) := by
  unfold b_X2_isBlock_22
  exact lk_c B dX2_isBlock_22 (lk_goto B dX2_isBlock_23 (by decide) (k_X2_isBlock_27 hd1 B hr hlk))
set_option maxRecDepth 20000 in
theorem k_X2_isBlock_16 {p : Program} {l : Launch} {e : Env} {s : State} {m : MethodId} {args : Array Value} {below : List Frame} {meth : Method} {c : Code} {E : zE} {d : Nat} {Q : zQ} (hd1 : 1 ≤ d) (B : zB p s m args c E mX2_isBlock.1.cls mX2_isBlock.2.1 mX2_isBlock.2.2.1) (hr : meth.sig.returnType = mX2_isBlock.2.2.2) (hlk : meth.locks = false) : zLk (zG p l e (zrm d) s m args below meth c E mX2_isBlock.2.2.1 0 0 (MQ below (zQc E Q) args s 0 0 (zaA E))) 16 (b_X2_isBlock_16 d (zG p l e (zrm d) s m args below meth c E mX2_isBlock.2.2.1 0 0 (MQ below (zQc E Q) args s 0 0 (zaA E))) Q) := by
  unfold b_X2_isBlock_16
  exact lk_iln B dX2_isBlock_16 rfl (lk_b B dX2_isBlock_17 rfl (lk_igt B dX2_isBlock_19 (by decide) (k_X2_isBlock_26 hd1 B hr hlk) (k_X2_isBlock_22 hd1 B hr hlk)))
set_option maxRecDepth 20000 in
theorem k_X2_isBlock_0 {p : Program} {l : Launch} {e : Env} {s : State} {m : MethodId} {args : Array Value} {below : List Frame} {meth : Method} {c : Code} {E : zE} {d : Nat} {Q : zQ} (hd1 : 1 ≤ d) (B : zB p s m args c E mX2_isBlock.1.cls mX2_isBlock.2.1 mX2_isBlock.2.2.1) (hr : meth.sig.returnType = mX2_isBlock.2.2.2) (hlk : meth.locks = false) : zLk (zG p l e (zrm d) s m args below meth c E mX2_isBlock.2.2.1 0 0 (MQ below (zQc E Q) args s 0 0 (zaA E))) 0 (b_X2_isBlock_0 d (zG p l e (zrm d) s m args below meth c E mX2_isBlock.2.2.1 0 0 (MQ below (zQc E Q) args s 0 0 (zaA E))) Q) := by
  unfold b_X2_isBlock_0
  exact lk_aln B dX2_isBlock_0 rfl (lk_iln B dX2_isBlock_1 rfl (lk_callv (M := mX6_sizeAt) (T := TX6) (N := 5) B (zhR hd1 (by decide)) ⟨Nat.zero_le _, Nat.zero_le _⟩ cl_X6 (zw5 zw_340 zw_337 zw_338 zw_339 zw_51) (by decide +kernel) dX2_isBlock_2 (lk_isn B dX2_isBlock_5 rfl (by decide) (lk_aln B dX2_isBlock_6 rfl (lk_iln B dX2_isBlock_7 rfl (lk_callv (M := mX6_kindAt) (T := TX6) (N := 5) B (zhR hd1 (by decide)) ⟨Nat.zero_le _, Nat.zero_le _⟩ cl_X6 (zw5 zw_344 zw_341 zw_342 zw_343 zw_51) (by decide +kernel) dX2_isBlock_8 (lk_isn B dX2_isBlock_11 rfl (by decide) (lk_iln B dX2_isBlock_12 rfl (lk_zne B dX2_isBlock_13 (by decide) (k_X2_isBlock_28 hd1 B hr hlk) (k_X2_isBlock_16 hd1 B hr hlk))))))))))
def S_X2_isBlock (d : Nat) (G : Nat → zK) (Q : zQ) : Prop := zLk G 0 (b_X2_isBlock_0 d G Q)
theorem s_X2_isBlock_0 {d : Nat} {G : Nat → zK} {Q : zQ} (h : S_X2_isBlock d G Q) {ls st : List zV} {μ : zM} (k : b_X2_isBlock_0 d G Q ls st μ) : G 0 ls st μ := h ls st μ k
theorem of_X2_isBlock {d : Nat} {a0 a1 : zV} {μ : zM} {Q : zQ} (hd1 : 1 ≤ d) (h : ∀ G : Nat → zK, S_X2_isBlock d G Q → G 0 [a0, a1, .inr none, .inr none] [] μ) : zCt d mX2_isBlock [a0, a1] μ Q := zCt.mk (by decide) (Nat.le_of_ble_eq_true rfl) (fun p l e s m args below meth c E B hr hlk => h _ (k_X2_isBlock_0 hd1 B hr hlk))
theorem dX2_hasGoodSecond_0 : decode cX2_hasGoodSecond 0 = .ok (.iload_n 0, 1) := by decide +kernel
theorem dX2_hasGoodSecond_1 : decode cX2_hasGoodSecond 1 = .ok (.lookupswitch 58 #[(1, 27), (2, 43)], 27) := by decide +kernel
theorem dX2_hasGoodSecond_28 : decode cX2_hasGoodSecond 28 = .ok (.iload_n 1, 1) := by decide +kernel
theorem dX2_hasGoodSecond_29 : decode cX2_hasGoodSecond 29 = .ok (.iconst 1, 1) := by decide +kernel
theorem dX2_hasGoodSecond_30 : decode cX2_hasGoodSecond 30 = .ok (.if_icmp .lt 12, 3) := by decide +kernel
theorem dX2_hasGoodSecond_33 : decode cX2_hasGoodSecond 33 = .ok (.iload_n 1, 1) := by decide +kernel
theorem dX2_hasGoodSecond_34 : decode cX2_hasGoodSecond 34 = .ok (.iconst 4, 1) := by decide +kernel
theorem dX2_hasGoodSecond_35 : decode cX2_hasGoodSecond 35 = .ok (.if_icmp .gt 7, 3) := by decide +kernel
theorem dX2_hasGoodSecond_38 : decode cX2_hasGoodSecond 38 = .ok (.iconst 1, 1) := by decide +kernel
theorem dX2_hasGoodSecond_39 : decode cX2_hasGoodSecond 39 = .ok (.goto 4, 3) := by decide +kernel
theorem dX2_hasGoodSecond_42 : decode cX2_hasGoodSecond 42 = .ok (.iconst 0, 1) := by decide +kernel
theorem dX2_hasGoodSecond_43 : decode cX2_hasGoodSecond 43 = .ok (.ireturn, 1) := by decide +kernel
theorem dX2_hasGoodSecond_44 : decode cX2_hasGoodSecond 44 = .ok (.iload_n 1, 1) := by decide +kernel
theorem dX2_hasGoodSecond_45 : decode cX2_hasGoodSecond 45 = .ok (.ifCond .lt 12, 3) := by decide +kernel
theorem dX2_hasGoodSecond_48 : decode cX2_hasGoodSecond 48 = .ok (.iload_n 1, 1) := by decide +kernel
theorem dX2_hasGoodSecond_49 : decode cX2_hasGoodSecond 49 = .ok (.iconst 4, 1) := by decide +kernel
theorem dX2_hasGoodSecond_50 : decode cX2_hasGoodSecond 50 = .ok (.if_icmp .gt 7, 3) := by decide +kernel
theorem dX2_hasGoodSecond_53 : decode cX2_hasGoodSecond 53 = .ok (.iconst 1, 1) := by decide +kernel
theorem dX2_hasGoodSecond_54 : decode cX2_hasGoodSecond 54 = .ok (.goto 4, 3) := by decide +kernel
theorem dX2_hasGoodSecond_57 : decode cX2_hasGoodSecond 57 = .ok (.iconst 0, 1) := by decide +kernel
theorem dX2_hasGoodSecond_58 : decode cX2_hasGoodSecond 58 = .ok (.ireturn, 1) := by decide +kernel
theorem dX2_hasGoodSecond_59 : decode cX2_hasGoodSecond 59 = .ok (.iload_n 1, 1) := by decide +kernel
theorem dX2_hasGoodSecond_60 : decode cX2_hasGoodSecond 60 = .ok (.iconst 1, 1) := by decide +kernel
theorem dX2_hasGoodSecond_61 : decode cX2_hasGoodSecond 61 = .ok (.if_icmp .lt 13, 3) := by decide +kernel
theorem dX2_hasGoodSecond_64 : decode cX2_hasGoodSecond 64 = .ok (.iload_n 1, 1) := by decide +kernel
theorem dX2_hasGoodSecond_65 : decode cX2_hasGoodSecond 65 = .ok (.bipush 15, 2) := by decide +kernel
theorem dX2_hasGoodSecond_67 : decode cX2_hasGoodSecond 67 = .ok (.if_icmp .gt 7, 3) := by decide +kernel
theorem dX2_hasGoodSecond_70 : decode cX2_hasGoodSecond 70 = .ok (.iconst 1, 1) := by decide +kernel
theorem dX2_hasGoodSecond_71 : decode cX2_hasGoodSecond 71 = .ok (.goto 4, 3) := by decide +kernel
theorem dX2_hasGoodSecond_74 : decode cX2_hasGoodSecond 74 = .ok (.iconst 0, 1) := by decide +kernel
theorem dX2_hasGoodSecond_75 : decode cX2_hasGoodSecond 75 = .ok (.ireturn, 1) := by decide +kernel
def b_X2_hasGoodSecond_75 (d : Nat) (G : Nat → zK) (Q : zQ) : zK := t_zret Q
def b_X2_hasGoodSecond_74 (d : Nat) (G : Nat → zK) (Q : zQ) : zK := o_c 0 <| b_X2_hasGoodSecond_75 d G Q
def b_X2_hasGoodSecond_70 (d : Nat) (G : Nat → zK) (Q : zQ) : zK := o_c 1 <| b_X2_hasGoodSecond_75 d G Q
def b_X2_hasGoodSecond_64 (d : Nat) (G : Nat → zK) (Q : zQ) : zK := o_il 1 <| o_c 15 <| t_igt (b_X2_hasGoodSecond_74 d G Q) (b_X2_hasGoodSecond_70 d G Q)
def b_X2_hasGoodSecond_59 (d : Nat) (G : Nat → zK) (Q : zQ) : zK := o_il 1 <| o_c 1 <| t_ilt (b_X2_hasGoodSecond_74 d G Q) (b_X2_hasGoodSecond_64 d G Q)
def b_X2_hasGoodSecond_43 (d : Nat) (G : Nat → zK) (Q : zQ) : zK := t_zret Q
def b_X2_hasGoodSecond_42 (d : Nat) (G : Nat → zK) (Q : zQ) : zK := o_c 0 <| b_X2_hasGoodSecond_43 d G Q
def b_X2_hasGoodSecond_38 (d : Nat) (G : Nat → zK) (Q : zQ) : zK := o_c 1 <| b_X2_hasGoodSecond_43 d G Q
def b_X2_hasGoodSecond_33 (d : Nat) (G : Nat → zK) (Q : zQ) : zK := o_il 1 <| o_c 4 <| t_igt (b_X2_hasGoodSecond_42 d G Q) (b_X2_hasGoodSecond_38 d G Q)
def b_X2_hasGoodSecond_28 (d : Nat) (G : Nat → zK) (Q : zQ) : zK := o_il 1 <| o_c 1 <| t_ilt (b_X2_hasGoodSecond_42 d G Q) (b_X2_hasGoodSecond_33 d G Q)
def b_X2_hasGoodSecond_58 (d : Nat) (G : Nat → zK) (Q : zQ) : zK := t_zret Q
def b_X2_hasGoodSecond_57 (d : Nat) (G : Nat → zK) (Q : zQ) : zK := o_c 0 <| b_X2_hasGoodSecond_58 d G Q
def b_X2_hasGoodSecond_53 (d : Nat) (G : Nat → zK) (Q : zQ) : zK := o_c 1 <| b_X2_hasGoodSecond_58 d G Q
def b_X2_hasGoodSecond_48 (d : Nat) (G : Nat → zK) (Q : zQ) : zK := o_il 1 <| o_c 4 <| t_igt (b_X2_hasGoodSecond_57 d G Q) (b_X2_hasGoodSecond_53 d G Q)
def b_X2_hasGoodSecond_44 (d : Nat) (G : Nat → zK) (Q : zQ) : zK := o_il 1 <| t_zlt (b_X2_hasGoodSecond_57 d G Q) (b_X2_hasGoodSecond_48 d G Q)
def b_X2_hasGoodSecond_0 (d : Nat) (G : Nat → zK) (Q : zQ) : zK := o_il 0 <| t_sw [(1, b_X2_hasGoodSecond_28 d G Q), (2, b_X2_hasGoodSecond_44 d G Q)] (b_X2_hasGoodSecond_59 d G Q)
set_option maxRecDepth 20000 in
theorem k_X2_hasGoodSecond_75 {p : Program} {l : Launch} {e : Env} {s : State} {m : MethodId} {args : Array Value} {below : List Frame} {meth : Method} {c : Code} {E : zE} {d : Nat} {Q : zQ} (B : zB p s m args c E mX2_hasGoodSecond.1.cls mX2_hasGoodSecond.2.1 mX2_hasGoodSecond.2.2.1) (hr : meth.sig.returnType = mX2_hasGoodSecond.2.2.2) (hlk : meth.locks = false) : zLk (zG p l e (zrm d) s m args below meth c E mX2_hasGoodSecond.2.2.1 0 0 (MQ below (zQc E Q) args s 0 0 (zaA E))) 75 (b_X2_hasGoodSecond_75 d (zG p l e (zrm d) s m args below meth c E mX2_hasGoodSecond.2.2.1 0 0 (MQ below (zQc E Q) args s 0 0 (zaA E))) Q) := by
  unfold b_X2_hasGoodSecond_75
  exact lk_zret B hr hlk dX2_hasGoodSecond_75
set_option maxRecDepth 20000 in
theorem k_X2_hasGoodSecond_74 {p : Program} {l : Launch} {e : Env} {s : State} {m : MethodId} {args : Array Value} {below : List Frame} {meth : Method} {c : Code} {E : zE} {d : Nat} {Q : zQ} (B : zB p s m args c E mX2_hasGoodSecond.1.cls mX2_hasGoodSecond.2.1 mX2_hasGoodSecond.2.2.1) (hr : meth.sig.returnType = mX2_hasGoodSecond.2.2.2) (hlk : meth.locks = false) : zLk (zG p l e (zrm d) s m args below meth c E mX2_hasGoodSecond.2.2.1 0 0 (MQ below (zQc E Q) args s 0 0 (zaA E))) 74 (b_X2_hasGoodSecond_74 d (zG p l e (zrm d) s m args below meth c E mX2_hasGoodSecond.2.2.1 0 0 (MQ below (zQc E Q) args s 0 0 (zaA E))) Q) := by
  unfold b_X2_hasGoodSecond_74
  exact lk_c B dX2_hasGoodSecond_74 (k_X2_hasGoodSecond_75 B hr hlk)
set_option maxRecDepth 20000 in
theorem k_X2_hasGoodSecond_70 {p : Program} {l : Launch} {e : Env} {s : State} {m : MethodId} {args : Array Value} {below : List Frame} {meth : Method} {c : Code} {E : zE} {d : Nat} {Q : zQ} (B : zB p s m args c E mX2_hasGoodSecond.1.cls mX2_hasGoodSecond.2.1 mX2_hasGoodSecond.2.2.1) (hr : meth.sig.returnType = mX2_hasGoodSecond.2.2.2) (hlk : meth.locks = false) : zLk (zG p l e (zrm d) s m args below meth c E mX2_hasGoodSecond.2.2.1 0 0 (MQ below (zQc E Q) args s 0 0 (zaA E))) 70 (b_X2_hasGoodSecond_70 d (zG p l e (zrm d) s m args below meth c E mX2_hasGoodSecond.2.2.1 0 0 (MQ below (zQc E Q) args s 0 0 (zaA E))) Q) := by
  unfold b_X2_hasGoodSecond_70
  exact lk_c B dX2_hasGoodSecond_70 (lk_goto B dX2_hasGoodSecond_71 (by decide) (k_X2_hasGoodSecond_75 B hr hlk))
set_option maxRecDepth 20000 in
theorem k_X2_hasGoodSecond_64 {p : Program} {l : Launch} {e : Env} {s : State} {m : MethodId} {args : Array Value} {below : List Frame} {meth : Method} {c : Code} {E : zE} {d : Nat} {Q : zQ} (B : zB p s m args c E mX2_hasGoodSecond.1.cls mX2_hasGoodSecond.2.1 mX2_hasGoodSecond.2.2.1) (hr : meth.sig.returnType = mX2_hasGoodSecond.2.2.2) (hlk : meth.locks = false) : zLk (zG p l e (zrm d) s m args below meth c E mX2_hasGoodSecond.2.2.1 0 0 (MQ below (zQc E Q) args s 0 0 (zaA E))) 64 (b_X2_hasGoodSecond_64 d (zG p l e (zrm d) s m args below meth c E mX2_hasGoodSecond.2.2.1 0 0 (MQ below (zQc E Q) args s 0 0 (zaA E))) Q) := by
  unfold b_X2_hasGoodSecond_64
  exact lk_iln B dX2_hasGoodSecond_64 rfl (lk_b B dX2_hasGoodSecond_65 rfl (lk_igt B dX2_hasGoodSecond_67 (by decide) (k_X2_hasGoodSecond_74 B hr hlk) (k_X2_hasGoodSecond_70 B hr hlk)))
set_option maxRecDepth 20000 in
theorem k_X2_hasGoodSecond_59 {p : Program} {l : Launch} {e : Env} {s : State} {m : MethodId} {args : Array Value} {below : List Frame} {meth : Method} {c : Code} {E : zE} {d : Nat} {Q : zQ} (B : zB p s m args c E mX2_hasGoodSecond.1.cls mX2_hasGoodSecond.2.1 mX2_hasGoodSecond.2.2.1) (hr : meth.sig.returnType = mX2_hasGoodSecond.2.2.2) (hlk : meth.locks = false) : zLk (zG p l e (zrm d) s m args below meth c E mX2_hasGoodSecond.2.2.1 0 0 (MQ below (zQc E Q) args s 0 0 (zaA E))) 59 (b_X2_hasGoodSecond_59 d (zG p l e (zrm d) s m args below meth c E mX2_hasGoodSecond.2.2.1 0 0 (MQ below (zQc E Q) args s 0 0 (zaA E))) Q) := by
  unfold b_X2_hasGoodSecond_59
  exact lk_iln B dX2_hasGoodSecond_59 rfl (lk_c B dX2_hasGoodSecond_60 (lk_ilt B dX2_hasGoodSecond_61 (by decide) (k_X2_hasGoodSecond_74 B hr hlk) (k_X2_hasGoodSecond_64 B hr hlk)))
set_option maxRecDepth 20000 in
theorem k_X2_hasGoodSecond_43 {p : Program} {l : Launch} {e : Env} {s : State} {m : MethodId} {args : Array Value} {below : List Frame} {meth : Method} {c : Code} {E : zE} {d : Nat} {Q : zQ} (B : zB p s m args c E mX2_hasGoodSecond.1.cls mX2_hasGoodSecond.2.1 mX2_hasGoodSecond.2.2.1) (hr : meth.sig.returnType = mX2_hasGoodSecond.2.2.2) (hlk : meth.locks = false) : zLk (zG p l e (zrm d) s m args below meth c E mX2_hasGoodSecond.2.2.1 0 0 (MQ below (zQc E Q) args s 0 0 (zaA E))) 43 (b_X2_hasGoodSecond_43 d (zG p l e (zrm d) s m args below meth c E mX2_hasGoodSecond.2.2.1 0 0 (MQ below (zQc E Q) args s 0 0 (zaA E))) Q) := by
  unfold b_X2_hasGoodSecond_43
  exact lk_zret B hr hlk dX2_hasGoodSecond_43
set_option maxRecDepth 20000 in
theorem k_X2_hasGoodSecond_42 {p : Program} {l : Launch} {e : Env} {s : State} {m : MethodId} {args : Array Value} {below : List Frame} {meth : Method} {c : Code} {E : zE} {d : Nat} {Q : zQ} (B : zB p s m args c E mX2_hasGoodSecond.1.cls mX2_hasGoodSecond.2.1 mX2_hasGoodSecond.2.2.1) (hr : meth.sig.returnType = mX2_hasGoodSecond.2.2.2) (hlk : meth.locks = false) : zLk (zG p l e (zrm d) s m args below meth c E mX2_hasGoodSecond.2.2.1 0 0 (MQ below (zQc E Q) args s 0 0 (zaA E))) 42 (b_X2_hasGoodSecond_42 d (zG p l e (zrm d) s m args below meth c E mX2_hasGoodSecond.2.2.1 0 0 (MQ below (zQc E Q) args s 0 0 (zaA E))) Q) := by
  unfold b_X2_hasGoodSecond_42
  exact lk_c B dX2_hasGoodSecond_42 (k_X2_hasGoodSecond_43 B hr hlk)
set_option maxRecDepth 20000 in
theorem k_X2_hasGoodSecond_38 {p : Program} {l : Launch} {e : Env} {s : State} {m : MethodId} {args : Array Value} {below : List Frame} {meth : Method} {c : Code} {E : zE} {d : Nat} {Q : zQ} (B : zB p s m args c E mX2_hasGoodSecond.1.cls mX2_hasGoodSecond.2.1 mX2_hasGoodSecond.2.2.1) (hr : meth.sig.returnType = mX2_hasGoodSecond.2.2.2) (hlk : meth.locks = false) : zLk (zG p l e (zrm d) s m args below meth c E mX2_hasGoodSecond.2.2.1 0 0 (MQ below (zQc E Q) args s 0 0 (zaA E))) 38 (b_X2_hasGoodSecond_38 d (zG p l e (zrm d) s m args below meth c E mX2_hasGoodSecond.2.2.1 0 0 (MQ below (zQc E Q) args s 0 0 (zaA E))) Q) := by
  unfold b_X2_hasGoodSecond_38
  exact lk_c B dX2_hasGoodSecond_38 (lk_goto B dX2_hasGoodSecond_39 (by decide) (k_X2_hasGoodSecond_43 B hr hlk))
set_option maxRecDepth 20000 in
theorem k_X2_hasGoodSecond_33 {p : Program} {l : Launch} {e : Env} {s : State} {m : MethodId} {args : Array Value} {below : List Frame} {meth : Method} {c : Code} {E : zE} {d : Nat} {Q : zQ} (B : zB p s m args c E mX2_hasGoodSecond.1.cls mX2_hasGoodSecond.2.1 mX2_hasGoodSecond.2.2.1) (hr : meth.sig.returnType = mX2_hasGoodSecond.2.2.2) (hlk : meth.locks = false) : zLk (zG p l e (zrm d) s m args below meth c E mX2_hasGoodSecond.2.2.1 0 0 (MQ below (zQc E Q) args s 0 0 (zaA E))) 33 (b_X2_hasGoodSecond_33 d (zG p l e (zrm d) s m args below meth c E mX2_hasGoodSecond.2.2.1 0 0 (MQ below (zQc E Q) args s 0 0 (zaA E))) Q) := by
  unfold b_X2_hasGoodSecond_33
  exact lk_iln B dX2_hasGoodSecond_33 rfl (lk_c B dX2_hasGoodSecond_34 (lk_igt B dX2_hasGoodSecond_35 (by decide) (k_X2_hasGoodSecond_42 B hr hlk) (k_X2_hasGoodSecond_38 B hr hlk)))
set_option maxRecDepth 20000 in
theorem k_X2_hasGoodSecond_28 {p : Program} {l : Launch} {e : Env} {s : State} {m : MethodId} {args : Array Value} {below : List Frame} {meth : Method} {c : Code} {E : zE} {d : Nat} {Q : zQ} (B : zB p s m args c E mX2_hasGoodSecond.1.cls mX2_hasGoodSecond.2.1 mX2_hasGoodSecond.2.2.1) (hr : meth.sig.returnType = mX2_hasGoodSecond.2.2.2) (hlk : meth.locks = false) : zLk (zG p l e (zrm d) s m args below meth c E mX2_hasGoodSecond.2.2.1 0 0 (MQ below (zQc E Q) args s 0 0 (zaA E))) 28 (b_X2_hasGoodSecond_28 d (zG p l e (zrm d) s m args below meth c E mX2_hasGoodSecond.2.2.1 0 0 (MQ below (zQc E Q) args s 0 0 (zaA E))) Q) := by
  unfold b_X2_hasGoodSecond_28
  exact lk_iln B dX2_hasGoodSecond_28 rfl (lk_c B dX2_hasGoodSecond_29 (lk_ilt B dX2_hasGoodSecond_30 (by decide) (k_X2_hasGoodSecond_42 B hr hlk) (k_X2_hasGoodSecond_33 B hr hlk)))
set_option maxRecDepth 20000 in
theorem k_X2_hasGoodSecond_58 {p : Program} {l : Launch} {e : Env} {s : State} {m : MethodId} {args : Array Value} {below : List Frame} {meth : Method} {c : Code} {E : zE} {d : Nat} {Q : zQ} (B : zB p s m args c E mX2_hasGoodSecond.1.cls mX2_hasGoodSecond.2.1 mX2_hasGoodSecond.2.2.1) (hr : meth.sig.returnType = mX2_hasGoodSecond.2.2.2) (hlk : meth.locks = false) : zLk (zG p l e (zrm d) s m args below meth c E mX2_hasGoodSecond.2.2.1 0 0 (MQ below (zQc E Q) args s 0 0 (zaA E))) 58 (b_X2_hasGoodSecond_58 d (zG p l e (zrm d) s m args below meth c E mX2_hasGoodSecond.2.2.1 0 0 (MQ below (zQc E Q) args s 0 0 (zaA E))) Q) := by
  unfold b_X2_hasGoodSecond_58
  exact lk_zret B hr hlk dX2_hasGoodSecond_58
set_option maxRecDepth 20000 in
theorem k_X2_hasGoodSecond_57 {p : Program} {l : Launch} {e : Env} {s : State} {m : MethodId} {args : Array Value} {below : List Frame} {meth : Method} {c : Code} {E : zE} {d : Nat} {Q : zQ} (B : zB p s m args c E mX2_hasGoodSecond.1.cls mX2_hasGoodSecond.2.1 mX2_hasGoodSecond.2.2.1) (hr : meth.sig.returnType = mX2_hasGoodSecond.2.2.2) (hlk : meth.locks = false) : zLk (zG p l e (zrm d) s m args below meth c E mX2_hasGoodSecond.2.2.1 0 0 (MQ below (zQc E Q) args s 0 0 (zaA E))) 57 (b_X2_hasGoodSecond_57 d (zG p l e (zrm d) s m args below meth c E mX2_hasGoodSecond.2.2.1 0 0 (MQ below (zQc E Q) args s 0 0 (zaA E))) Q) := by
  unfold b_X2_hasGoodSecond_57
  exact lk_c B dX2_hasGoodSecond_57 (k_X2_hasGoodSecond_58 B hr hlk)
set_option maxRecDepth 20000 in
theorem k_X2_hasGoodSecond_53 {p : Program} {l : Launch} {e : Env} {s : State} {m : MethodId} {args : Array Value} {below : List Frame} {meth : Method} {c : Code} {E : zE} {d : Nat} {Q : zQ} (B : zB p s m args c E mX2_hasGoodSecond.1.cls mX2_hasGoodSecond.2.1 mX2_hasGoodSecond.2.2.1) (hr : meth.sig.returnType = mX2_hasGoodSecond.2.2.2) (hlk : meth.locks = false) : zLk (zG p l e (zrm d) s m args below meth c E mX2_hasGoodSecond.2.2.1 0 0 (MQ below (zQc E Q) args s 0 0 (zaA E))) 53 (b_X2_hasGoodSecond_53 d (zG p l e (zrm d) s m args below meth c E mX2_hasGoodSecond.2.2.1 0 0 (MQ below (zQc E Q) args s 0 0 (zaA E))) Q) := by
  unfold b_X2_hasGoodSecond_53
  exact lk_c B dX2_hasGoodSecond_53 (lk_goto B dX2_hasGoodSecond_54 (by decide) (k_X2_hasGoodSecond_58 B hr hlk))
set_option maxRecDepth 20000 in
theorem k_X2_hasGoodSecond_48 {p : Program} {l : Launch} {e : Env} {s : State} {m : MethodId} {args : Array Value} {below : List Frame} {meth : Method} {c : Code} {E : zE} {d : Nat} {Q : zQ} (B : zB p s m args c E mX2_hasGoodSecond.1.cls mX2_hasGoodSecond.2.1 mX2_hasGoodSecond.2.2.1) (hr : meth.sig.returnType = mX2_hasGoodSecond.2.2.2) (hlk : meth.locks = false) : zLk (zG p l e (zrm d) s m args below meth c E mX2_hasGoodSecond.2.2.1 0 0 (MQ below (zQc E Q) args s 0 0 (zaA E))) 48 (b_X2_hasGoodSecond_48 d (zG p l e (zrm d) s m args below meth c E mX2_hasGoodSecond.2.2.1 0 0 (MQ below (zQc E Q) args s 0 0 (zaA E))) Q) := by
  unfold b_X2_hasGoodSecond_48
  exact lk_iln B dX2_hasGoodSecond_48 rfl (lk_c B dX2_hasGoodSecond_49 (lk_igt B dX2_hasGoodSecond_50 (by decide) (k_X2_hasGoodSecond_57 B hr hlk) (k_X2_hasGoodSecond_53 B hr hlk)))
set_option maxRecDepth 20000 in
theorem k_X2_hasGoodSecond_44 {p : Program} {l : Launch} {e : Env} {s : State} {m : MethodId} {args : Array Value} {below : List Frame} {meth : Method} {c : Code} {E : zE} {d : Nat} {Q : zQ} (B : zB p s m args c E mX2_hasGoodSecond.1.cls mX2_hasGoodSecond.2.1 mX2_hasGoodSecond.2.2.1) (hr : meth.sig.returnType = mX2_hasGoodSecond.2.2.2) (hlk : meth.locks = false) : zLk (zG p l e (zrm d) s m args below meth c E mX2_hasGoodSecond.2.2.1 0 0 (MQ below (zQc E Q) args s 0 0 (zaA E))) 44 (b_X2_hasGoodSecond_44 d (zG p l e (zrm d) s m args below meth c E mX2_hasGoodSecond.2.2.1 0 0 (MQ below (zQc E Q) args s 0 0 (zaA E))) Q) := by
  unfold b_X2_hasGoodSecond_44
  exact lk_iln B dX2_hasGoodSecond_44 rfl (lk_zlt B dX2_hasGoodSecond_45 (by decide) (k_X2_hasGoodSecond_57 B hr hlk) (k_X2_hasGoodSecond_48 B hr hlk))
set_option maxRecDepth 20000 in
theorem k_X2_hasGoodSecond_0 {p : Program} {l : Launch} {e : Env} {s : State} {m : MethodId} {args : Array Value} {below : List Frame} {meth : Method} {c : Code} {E : zE} {d : Nat} {Q : zQ} (B : zB p s m args c E mX2_hasGoodSecond.1.cls mX2_hasGoodSecond.2.1 mX2_hasGoodSecond.2.2.1) (hr : meth.sig.returnType = mX2_hasGoodSecond.2.2.2) (hlk : meth.locks = false) : zLk (zG p l e (zrm d) s m args below meth c E mX2_hasGoodSecond.2.2.1 0 0 (MQ below (zQc E Q) args s 0 0 (zaA E))) 0 (b_X2_hasGoodSecond_0 d (zG p l e (zrm d) s m args below meth c E mX2_hasGoodSecond.2.2.1 0 0 (MQ below (zQc E Q) args s 0 0 (zaA E))) Q) := by
  unfold b_X2_hasGoodSecond_0
  exact lk_iln B dX2_hasGoodSecond_0 rfl (lk_lsw B dX2_hasGoodSecond_1 (by decide) (by refine zfm ⟨28, (show ((1 : Nat) : Int) + Op.lookupswitch.offset [(1, 27), (2, 43)] 58 1 = ((28 : Nat) : Int) from by decide), (k_X2_hasGoodSecond_28 B hr hlk)⟩ ?_; refine zfm ⟨44, (show ((1 : Nat) : Int) + Op.lookupswitch.offset [(1, 27), (2, 43)] 58 2 = ((44 : Nat) : Int) from by decide), (k_X2_hasGoodSecond_44 B hr hlk)⟩ ?_; exact zfn) (fun x h => by have h1 := fun q hq => h q hq; simp only [List.mem_cons, List.not_mem_nil, or_false, forall_eq_or_imp, forall_eq] at h1; simp [Op.lookupswitch.offset, h1, eq_comm]) (by decide) (k_X2_hasGoodSecond_59 B hr hlk))
def S_X2_hasGoodSecond (d : Nat) (G : Nat → zK) (Q : zQ) : Prop := zLk G 0 (b_X2_hasGoodSecond_0 d G Q)
theorem s_X2_hasGoodSecond_0 {d : Nat} {G : Nat → zK} {Q : zQ} (h : S_X2_hasGoodSecond d G Q) {ls st : List zV} {μ : zM} (k : b_X2_hasGoodSecond_0 d G Q ls st μ) : G 0 ls st μ := h ls st μ k
theorem of_X2_hasGoodSecond {d : Nat} {a0 a1 : zV} {μ : zM} {Q : zQ} (h : ∀ G : Nat → zK, S_X2_hasGoodSecond d G Q → G 0 [a0, a1] [] μ) : zCt d mX2_hasGoodSecond [a0, a1] μ Q := zCt.mk (by decide) (Nat.le_of_ble_eq_true rfl) (fun p l e s m args below meth c E B hr hlk => h _ (k_X2_hasGoodSecond_0 B hr hlk))
theorem dX2_hasGoodParts_0 : decode cX2_hasGoodParts 0 = .ok (.iconst 0, 1) := by decide +kernel
theorem dX2_hasGoodParts_1 : decode cX2_hasGoodParts 1 = .ok (.istore_n 3, 1) := by decide +kernel
theorem dX2_hasGoodParts_2 : decode cX2_hasGoodParts 2 = .ok (.iload_n 3, 1) := by decide +kernel
theorem dX2_hasGoodParts_3 : decode cX2_hasGoodParts 3 = .ok (.aload_n 0, 1) := by decide +kernel
theorem dX2_hasGoodParts_4 : decode cX2_hasGoodParts 4 = .ok (.iload_n 1, 1) := by decide +kernel
theorem dX2_hasGoodParts_5 : decode cX2_hasGoodParts 5 = .ok (.invokestatic 28, 3) := by decide +kernel
theorem dX2_hasGoodParts_8 : decode cX2_hasGoodParts 8 = .ok (.if_icmp .ge 76, 3) := by decide +kernel
theorem dX2_hasGoodParts_11 : decode cX2_hasGoodParts 11 = .ok (.aload_n 0, 1) := by decide +kernel
theorem dX2_hasGoodParts_12 : decode cX2_hasGoodParts 12 = .ok (.iload_n 1, 1) := by decide +kernel
theorem dX2_hasGoodParts_13 : decode cX2_hasGoodParts 13 = .ok (.iload_n 3, 1) := by decide +kernel
theorem dX2_hasGoodParts_14 : decode cX2_hasGoodParts 14 = .ok (.invokestatic 40, 3) := by decide +kernel
theorem dX2_hasGoodParts_17 : decode cX2_hasGoodParts 17 = .ok (.invokestatic 44, 3) := by decide +kernel
theorem dX2_hasGoodParts_20 : decode cX2_hasGoodParts 20 = .ok (.ifCond .ne 5, 3) := by decide +kernel
theorem dX2_hasGoodParts_23 : decode cX2_hasGoodParts 23 = .ok (.iconst 0, 1) := by decide +kernel
theorem dX2_hasGoodParts_24 : decode cX2_hasGoodParts 24 = .ok (.ireturn, 1) := by decide +kernel
theorem dX2_hasGoodParts_25 : decode cX2_hasGoodParts 25 = .ok (.iload_n 2, 1) := by decide +kernel
theorem dX2_hasGoodParts_26 : decode cX2_hasGoodParts 26 = .ok (.iconst 1, 1) := by decide +kernel
theorem dX2_hasGoodParts_27 : decode cX2_hasGoodParts 27 = .ok (.if_icmp .ne 15, 3) := by decide +kernel
theorem dX2_hasGoodParts_30 : decode cX2_hasGoodParts 30 = .ok (.aload_n 0, 1) := by decide +kernel
theorem dX2_hasGoodParts_31 : decode cX2_hasGoodParts 31 = .ok (.iload_n 1, 1) := by decide +kernel
theorem dX2_hasGoodParts_32 : decode cX2_hasGoodParts 32 = .ok (.iload_n 3, 1) := by decide +kernel
theorem dX2_hasGoodParts_33 : decode cX2_hasGoodParts 33 = .ok (.invokestatic 48, 3) := by decide +kernel
theorem dX2_hasGoodParts_36 : decode cX2_hasGoodParts 36 = .ok (.iconst 1, 1) := by decide +kernel
theorem dX2_hasGoodParts_37 : decode cX2_hasGoodParts 37 = .ok (.if_icmp .ge 5, 3) := by decide +kernel
theorem dX2_hasGoodParts_40 : decode cX2_hasGoodParts 40 = .ok (.iconst 0, 1) := by decide +kernel
theorem dX2_hasGoodParts_41 : decode cX2_hasGoodParts 41 = .ok (.ireturn, 1) := by decide +kernel
theorem dX2_hasGoodParts_42 : decode cX2_hasGoodParts 42 = .ok (.iload_n 3, 1) := by decide +kernel
theorem dX2_hasGoodParts_43 : decode cX2_hasGoodParts 43 = .ok (.ifCond .ne 7, 3) := by decide +kernel
theorem dX2_hasGoodParts_46 : decode cX2_hasGoodParts 46 = .ok (.iconst 0, 1) := by decide +kernel
theorem dX2_hasGoodParts_47 : decode cX2_hasGoodParts 47 = .ok (.goto 11, 3) := by decide +kernel
theorem dX2_hasGoodParts_50 : decode cX2_hasGoodParts 50 = .ok (.aload_n 0, 1) := by decide +kernel
theorem dX2_hasGoodParts_51 : decode cX2_hasGoodParts 51 = .ok (.iload_n 1, 1) := by decide +kernel
theorem dX2_hasGoodParts_52 : decode cX2_hasGoodParts 52 = .ok (.iload_n 3, 1) := by decide +kernel
theorem dX2_hasGoodParts_53 : decode cX2_hasGoodParts 53 = .ok (.iconst 1, 1) := by decide +kernel
theorem dX2_hasGoodParts_54 : decode cX2_hasGoodParts 54 = .ok (.isub, 1) := by decide +kernel
theorem dX2_hasGoodParts_55 : decode cX2_hasGoodParts 55 = .ok (.invokestatic 51, 3) := by decide +kernel
theorem dX2_hasGoodParts_58 : decode cX2_hasGoodParts 58 = .ok (.istore 4, 2) := by decide +kernel
theorem dX2_hasGoodParts_60 : decode cX2_hasGoodParts 60 = .ok (.iload_n 2, 1) := by decide +kernel
theorem dX2_hasGoodParts_61 : decode cX2_hasGoodParts 61 = .ok (.iconst 2, 1) := by decide +kernel
theorem dX2_hasGoodParts_62 : decode cX2_hasGoodParts 62 = .ok (.if_icmp .ne 16, 3) := by decide +kernel
theorem dX2_hasGoodParts_65 : decode cX2_hasGoodParts 65 = .ok (.aload_n 0, 1) := by decide +kernel
theorem dX2_hasGoodParts_66 : decode cX2_hasGoodParts 66 = .ok (.iload_n 1, 1) := by decide +kernel
theorem dX2_hasGoodParts_67 : decode cX2_hasGoodParts 67 = .ok (.iload_n 3, 1) := by decide +kernel
theorem dX2_hasGoodParts_68 : decode cX2_hasGoodParts 68 = .ok (.invokestatic 51, 3) := by decide +kernel
theorem dX2_hasGoodParts_71 : decode cX2_hasGoodParts 71 = .ok (.iload 4, 2) := by decide +kernel
theorem dX2_hasGoodParts_73 : decode cX2_hasGoodParts 73 = .ok (.if_icmp .gt 5, 3) := by decide +kernel
theorem dX2_hasGoodParts_76 : decode cX2_hasGoodParts 76 = .ok (.iconst 0, 1) := by decide +kernel
theorem dX2_hasGoodParts_77 : decode cX2_hasGoodParts 77 = .ok (.ireturn, 1) := by decide +kernel
theorem dX2_hasGoodParts_78 : decode cX2_hasGoodParts 78 = .ok (.iinc 3 1, 3) := by decide +kernel
theorem dX2_hasGoodParts_81 : decode cX2_hasGoodParts 81 = .ok (.goto (-79), 3) := by decide +kernel
theorem dX2_hasGoodParts_84 : decode cX2_hasGoodParts 84 = .ok (.iconst 1, 1) := by decide +kernel
theorem dX2_hasGoodParts_85 : decode cX2_hasGoodParts 85 = .ok (.ireturn, 1) := by decide +kernel
def b_X2_hasGoodParts_0 (d : Nat) (G : Nat → zK) (Q : zQ) : zK := o_c 0 <| o_is 3 <| G 2
def b_X2_hasGoodParts_84 (d : Nat) (G : Nat → zK) (Q : zQ) : zK := o_c 1 <| t_zret Q
def b_X2_hasGoodParts_50 (d : Nat) (G : Nat → zK) (Q : zQ) : zK := o_al 0 <| o_il 1 <| o_il 3 <| o_c 1 <| o_sub <| o_call (zCt (d - 1) mX2_partTitle) 3 <| G 58
def b_X2_hasGoodParts_46 (d : Nat) (G : Nat → zK) (Q : zQ) : zK := o_c 0 <| G 58
def b_X2_hasGoodParts_42 (d : Nat) (G : Nat → zK) (Q : zQ) : zK := o_il 3 <| t_zeq (b_X2_hasGoodParts_46 d G Q) (b_X2_hasGoodParts_50 d G Q)
def b_X2_hasGoodParts_40 (d : Nat) (G : Nat → zK) (Q : zQ) : zK := o_c 0 <| t_zret Q
def b_X2_hasGoodParts_30 (d : Nat) (G : Nat → zK) (Q : zQ) : zK := o_al 0 <| o_il 1 <| o_il 3 <| o_call (zCt (d - 1) mX2_partSize) 3 <| o_c 1 <| t_ilt (b_X2_hasGoodParts_40 d G Q) (b_X2_hasGoodParts_42 d G Q)
def b_X2_hasGoodParts_25 (d : Nat) (G : Nat → zK) (Q : zQ) : zK := o_il 2 <| o_c 1 <| t_ieq (b_X2_hasGoodParts_30 d G Q) (b_X2_hasGoodParts_42 d G Q)
def b_X2_hasGoodParts_23 (d : Nat) (G : Nat → zK) (Q : zQ) : zK := o_c 0 <| t_zret Q
def b_X2_hasGoodParts_11 (d : Nat) (G : Nat → zK) (Q : zQ) : zK := o_al 0 <| o_il 1 <| o_il 3 <| o_call (zCt (d - 1) mX2_linkAt) 3 <| o_call (zCt (d - 1) mX10_isName) 1 <| t_zeq (b_X2_hasGoodParts_23 d G Q) (b_X2_hasGoodParts_25 d G Q)
def b_X2_hasGoodParts_2 (d : Nat) (G : Nat → zK) (Q : zQ) : zK := o_il 3 <| o_al 0 <| o_il 1 <| o_call (zCt (d - 1) mX2_partCount) 2 <| t_ilt (b_X2_hasGoodParts_11 d G Q) (b_X2_hasGoodParts_84 d G Q)
def b_X2_hasGoodParts_78 (d : Nat) (G : Nat → zK) (Q : zQ) : zK := o_inc 3 1 <| G 2
def b_X2_hasGoodParts_76 (d : Nat) (G : Nat → zK) (Q : zQ) : zK := o_c 0 <| t_zret Q
def b_X2_hasGoodParts_65 (d : Nat) (G : Nat → zK) (Q : zQ) : zK := o_al 0 <| o_il 1 <| o_il 3 <| o_call (zCt (d - 1) mX2_partTitle) 3 <| o_il 4 <| t_igt (b_X2_hasGoodParts_78 d G Q) (b_X2_hasGoodParts_76 d G Q)
def b_X2_hasGoodParts_58 (d : Nat) (G : Nat → zK) (Q : zQ) : zK := o_is 4 <| o_il 2 <| o_c 2 <| t_ieq (b_X2_hasGoodParts_65 d G Q) (b_X2_hasGoodParts_78 d G Q)
set_option maxRecDepth 20000 in
theorem k_X2_hasGoodParts_0 {p : Program} {l : Launch} {e : Env} {s : State} {m : MethodId} {args : Array Value} {below : List Frame} {meth : Method} {c : Code} {E : zE} {d : Nat} {Q : zQ} (hd1 : 1 ≤ d) (B : zB p s m args c E mX2_hasGoodParts.1.cls mX2_hasGoodParts.2.1 mX2_hasGoodParts.2.2.1) (hr : meth.sig.returnType = mX2_hasGoodParts.2.2.2) (hlk : meth.locks = false) : zLk (zG p l e (zrm d) s m args below meth c E mX2_hasGoodParts.2.2.1 0 0 (MQ below (zQc E Q) args s 0 0 (zaA E))) 0 (b_X2_hasGoodParts_0 d (zG p l e (zrm d) s m args below meth c E mX2_hasGoodParts.2.2.1 0 0 (MQ below (zQc E Q) args s 0 0 (zaA E))) Q) := by
  unfold b_X2_hasGoodParts_0
  exact lk_c B dX2_hasGoodParts_0 (lk_isn B dX2_hasGoodParts_1 rfl (by decide) (fun _ _ _ h => h))
set_option maxRecDepth 20000 in
theorem k_X2_hasGoodParts_84 {p : Program} {l : Launch} {e : Env} {s : State} {m : MethodId} {args : Array Value} {below : List Frame} {meth : Method} {c : Code} {E : zE} {d : Nat} {Q : zQ} (hd1 : 1 ≤ d) (B : zB p s m args c E mX2_hasGoodParts.1.cls mX2_hasGoodParts.2.1 mX2_hasGoodParts.2.2.1) (hr : meth.sig.returnType = mX2_hasGoodParts.2.2.2) (hlk : meth.locks = false) : zLk (zG p l e (zrm d) s m args below meth c E mX2_hasGoodParts.2.2.1 0 0 (MQ below (zQc E Q) args s 0 0 (zaA E))) 84 (b_X2_hasGoodParts_84 d (zG p l e (zrm d) s m args below meth c E mX2_hasGoodParts.2.2.1 0 0 (MQ below (zQc E Q) args s 0 0 (zaA E))) Q) := by
  unfold b_X2_hasGoodParts_84
  exact lk_c B dX2_hasGoodParts_84 (lk_zret B hr hlk dX2_hasGoodParts_85)
set_option maxRecDepth 20000 in
theorem k_X2_hasGoodParts_50 {p : Program} {l : Launch} {e : Env} {s : State} {m : MethodId} {args : Array Value} {below : List Frame} {meth : Method} {c : Code} {E : zE} {d : Nat} {Q : zQ} (hd1 : 1 ≤ d) (B : zB p s m args c E mX2_hasGoodParts.1.cls mX2_hasGoodParts.2.1 mX2_hasGoodParts.2.2.1) (hr : meth.sig.returnType = mX2_hasGoodParts.2.2.2) (hlk : meth.locks = false) : zLk (zG p l e (zrm d) s m args below meth c E mX2_hasGoodParts.2.2.1 0 0 (MQ below (zQc E Q) args s 0 0 (zaA E))) 50 (b_X2_hasGoodParts_50 d (zG p l e (zrm d) s m args below meth c E mX2_hasGoodParts.2.2.1 0 0 (MQ below (zQc E Q) args s 0 0 (zaA E))) Q) := by
  unfold b_X2_hasGoodParts_50
  exact lk_aln B dX2_hasGoodParts_50 rfl (lk_iln B dX2_hasGoodParts_51 rfl (lk_iln B dX2_hasGoodParts_52 rfl (lk_c B dX2_hasGoodParts_53 (lk_sub B dX2_hasGoodParts_54 (lk_calls (M := mX2_partTitle) B (zhR hd1 (by decide)) ⟨Nat.zero_le _, Nat.zero_le _⟩ (zw4 zw_381 zw_379 zw_380 zw_60) (by decide +kernel) dX2_hasGoodParts_55 (fun _ _ _ h => h))))))
set_option maxRecDepth 20000 in
theorem k_X2_hasGoodParts_46 {p : Program} {l : Launch} {e : Env} {s : State} {m : MethodId} {args : Array Value} {below : List Frame} {meth : Method} {c : Code} {E : zE} {d : Nat} {Q : zQ} (hd1 : 1 ≤ d) (B : zB p s m args c E mX2_hasGoodParts.1.cls mX2_hasGoodParts.2.1 mX2_hasGoodParts.2.2.1) (hr : meth.sig.returnType = mX2_hasGoodParts.2.2.2) (hlk : meth.locks = false) : zLk (zG p l e (zrm d) s m args below meth c E mX2_hasGoodParts.2.2.1 0 0 (MQ below (zQc E Q) args s 0 0 (zaA E))) 46 (b_X2_hasGoodParts_46 d (zG p l e (zrm d) s m args below meth c E mX2_hasGoodParts.2.2.1 0 0 (MQ below (zQc E Q) args s 0 0 (zaA E))) Q) := by
  unfold b_X2_hasGoodParts_46
  exact lk_c B dX2_hasGoodParts_46 (lk_goto B dX2_hasGoodParts_47 (by decide) (fun _ _ _ h => h))
set_option maxRecDepth 20000 in
theorem k_X2_hasGoodParts_42 {p : Program} {l : Launch} {e : Env} {s : State} {m : MethodId} {args : Array Value} {below : List Frame} {meth : Method} {c : Code} {E : zE} {d : Nat} {Q : zQ} (hd1 : 1 ≤ d) (B : zB p s m args c E mX2_hasGoodParts.1.cls mX2_hasGoodParts.2.1 mX2_hasGoodParts.2.2.1) (hr : meth.sig.returnType = mX2_hasGoodParts.2.2.2) (hlk : meth.locks = false) : zLk (zG p l e (zrm d) s m args below meth c E mX2_hasGoodParts.2.2.1 0 0 (MQ below (zQc E Q) args s 0 0 (zaA E))) 42 (b_X2_hasGoodParts_42 d (zG p l e (zrm d) s m args below meth c E mX2_hasGoodParts.2.2.1 0 0 (MQ below (zQc E Q) args s 0 0 (zaA E))) Q) := by
  unfold b_X2_hasGoodParts_42
  exact lk_iln B dX2_hasGoodParts_42 rfl (lk_zne B dX2_hasGoodParts_43 (by decide) (k_X2_hasGoodParts_50 hd1 B hr hlk) (k_X2_hasGoodParts_46 hd1 B hr hlk))
set_option maxRecDepth 20000 in
theorem k_X2_hasGoodParts_40 {p : Program} {l : Launch} {e : Env} {s : State} {m : MethodId} {args : Array Value} {below : List Frame} {meth : Method} {c : Code} {E : zE} {d : Nat} {Q : zQ} (hd1 : 1 ≤ d) (B : zB p s m args c E mX2_hasGoodParts.1.cls mX2_hasGoodParts.2.1 mX2_hasGoodParts.2.2.1) (hr : meth.sig.returnType = mX2_hasGoodParts.2.2.2) (hlk : meth.locks = false) : zLk (zG p l e (zrm d) s m args below meth c E mX2_hasGoodParts.2.2.1 0 0 (MQ below (zQc E Q) args s 0 0 (zaA E))) 40 (b_X2_hasGoodParts_40 d (zG p l e (zrm d) s m args below meth c E mX2_hasGoodParts.2.2.1 0 0 (MQ below (zQc E Q) args s 0 0 (zaA E))) Q) := by
  unfold b_X2_hasGoodParts_40
  exact lk_c B dX2_hasGoodParts_40 (lk_zret B hr hlk dX2_hasGoodParts_41)
set_option maxRecDepth 20000 in
theorem k_X2_hasGoodParts_30 {p : Program} {l : Launch} {e : Env} {s : State} {m : MethodId} {args : Array Value} {below : List Frame} {meth : Method} {c : Code} {E : zE} {d : Nat} {Q : zQ} (hd1 : 1 ≤ d) (B : zB p s m args c E mX2_hasGoodParts.1.cls mX2_hasGoodParts.2.1 mX2_hasGoodParts.2.2.1) (hr : meth.sig.returnType = mX2_hasGoodParts.2.2.2) (hlk : meth.locks = false) : zLk (zG p l e (zrm d) s m args below meth c E mX2_hasGoodParts.2.2.1 0 0 (MQ below (zQc E Q) args s 0 0 (zaA E))) 30 (b_X2_hasGoodParts_30 d (zG p l e (zrm d) s m args below meth c E mX2_hasGoodParts.2.2.1 0 0 (MQ below (zQc E Q) args s 0 0 (zaA E))) Q) := by
  unfold b_X2_hasGoodParts_30
  exact lk_aln B dX2_hasGoodParts_30 rfl (lk_iln B dX2_hasGoodParts_31 rfl (lk_iln B dX2_hasGoodParts_32 rfl (lk_calls (M := mX2_partSize) B (zhR hd1 (by decide)) ⟨Nat.zero_le _, Nat.zero_le _⟩ (zw4 zw_378 zw_376 zw_377 zw_60) (by decide +kernel) dX2_hasGoodParts_33 (lk_c B dX2_hasGoodParts_36 (lk_ige B dX2_hasGoodParts_37 (by decide) (k_X2_hasGoodParts_42 hd1 B hr hlk) (k_X2_hasGoodParts_40 hd1 B hr hlk))))))
set_option maxRecDepth 20000 in
theorem k_X2_hasGoodParts_25 {p : Program} {l : Launch} {e : Env} {s : State} {m : MethodId} {args : Array Value} {below : List Frame} {meth : Method} {c : Code} {E : zE} {d : Nat} {Q : zQ} (hd1 : 1 ≤ d) (B : zB p s m args c E mX2_hasGoodParts.1.cls mX2_hasGoodParts.2.1 mX2_hasGoodParts.2.2.1) (hr : meth.sig.returnType = mX2_hasGoodParts.2.2.2) (hlk : meth.locks = false) : zLk (zG p l e (zrm d) s m args below meth c E mX2_hasGoodParts.2.2.1 0 0 (MQ below (zQc E Q) args s 0 0 (zaA E))) 25 (b_X2_hasGoodParts_25 d (zG p l e (zrm d) s m args below meth c E mX2_hasGoodParts.2.2.1 0 0 (MQ below (zQc E Q) args s 0 0 (zaA E))) Q) := by
  unfold b_X2_hasGoodParts_25
  exact lk_iln B dX2_hasGoodParts_25 rfl (lk_c B dX2_hasGoodParts_26 (lk_ine B dX2_hasGoodParts_27 (by decide) (k_X2_hasGoodParts_42 hd1 B hr hlk) (k_X2_hasGoodParts_30 hd1 B hr hlk)))
set_option maxRecDepth 20000 in
theorem k_X2_hasGoodParts_23 {p : Program} {l : Launch} {e : Env} {s : State} {m : MethodId} {args : Array Value} {below : List Frame} {meth : Method} {c : Code} {E : zE} {d : Nat} {Q : zQ} (hd1 : 1 ≤ d) (B : zB p s m args c E mX2_hasGoodParts.1.cls mX2_hasGoodParts.2.1 mX2_hasGoodParts.2.2.1) (hr : meth.sig.returnType = mX2_hasGoodParts.2.2.2) (hlk : meth.locks = false) : zLk (zG p l e (zrm d) s m args below meth c E mX2_hasGoodParts.2.2.1 0 0 (MQ below (zQc E Q) args s 0 0 (zaA E))) 23 (b_X2_hasGoodParts_23 d (zG p l e (zrm d) s m args below meth c E mX2_hasGoodParts.2.2.1 0 0 (MQ below (zQc E Q) args s 0 0 (zaA E))) Q) := by
  unfold b_X2_hasGoodParts_23
  exact lk_c B dX2_hasGoodParts_23 (lk_zret B hr hlk dX2_hasGoodParts_24)
set_option maxRecDepth 20000 in
theorem k_X2_hasGoodParts_11 {p : Program} {l : Launch} {e : Env} {s : State} {m : MethodId} {args : Array Value} {below : List Frame} {meth : Method} {c : Code} {E : zE} {d : Nat} {Q : zQ} (hd1 : 1 ≤ d) (B : zB p s m args c E mX2_hasGoodParts.1.cls mX2_hasGoodParts.2.1 mX2_hasGoodParts.2.2.1) (hr : meth.sig.returnType = mX2_hasGoodParts.2.2.2) (hlk : meth.locks = false) : zLk (zG p l e (zrm d) s m args below meth c E mX2_hasGoodParts.2.2.1 0 0 (MQ below (zQc E Q) args s 0 0 (zaA E))) 11 (b_X2_hasGoodParts_11 d (zG p l e (zrm d) s m args below meth c E mX2_hasGoodParts.2.2.1 0 0 (MQ below (zQc E Q) args s 0 0 (zaA E))) Q) := by
  unfold b_X2_hasGoodParts_11
  exact lk_aln B dX2_hasGoodParts_11 rfl (lk_iln B dX2_hasGoodParts_12 rfl (lk_iln B dX2_hasGoodParts_13 rfl (lk_calls (M := mX2_linkAt) B (zhR hd1 (by decide)) ⟨Nat.zero_le _, Nat.zero_le _⟩ (zw4 zw_368 zw_366 zw_367 zw_60) (by decide +kernel) dX2_hasGoodParts_14 (lk_calln (M := mX10_isName) B (zhR hd1 (by decide)) ⟨Nat.zero_le _, Nat.zero_le _⟩ B.2.2.2.2.2.2.2.2.2.2.2.1 (zw3 zw_375 zw_374 zw_49) (by decide +kernel) dX2_hasGoodParts_17 (lk_zne B dX2_hasGoodParts_20 (by decide) (k_X2_hasGoodParts_25 hd1 B hr hlk) (k_X2_hasGoodParts_23 hd1 B hr hlk))))))
set_option maxRecDepth 20000 in
theorem k_X2_hasGoodParts_2 {p : Program} {l : Launch} {e : Env} {s : State} {m : MethodId} {args : Array Value} {below : List Frame} {meth : Method} {c : Code} {E : zE} {d : Nat} {Q : zQ} (hd1 : 1 ≤ d) (B : zB p s m args c E mX2_hasGoodParts.1.cls mX2_hasGoodParts.2.1 mX2_hasGoodParts.2.2.1) (hr : meth.sig.returnType = mX2_hasGoodParts.2.2.2) (hlk : meth.locks = false) : zLk (zG p l e (zrm d) s m args below meth c E mX2_hasGoodParts.2.2.1 0 0 (MQ below (zQc E Q) args s 0 0 (zaA E))) 2 (b_X2_hasGoodParts_2 d (zG p l e (zrm d) s m args below meth c E mX2_hasGoodParts.2.2.1 0 0 (MQ below (zQc E Q) args s 0 0 (zaA E))) Q) := by
  unfold b_X2_hasGoodParts_2
  exact lk_iln B dX2_hasGoodParts_2 rfl (lk_aln B dX2_hasGoodParts_3 rfl (lk_iln B dX2_hasGoodParts_4 rfl (lk_calls (M := mX2_partCount) B (zhR hd1 (by decide)) ⟨Nat.zero_le _, Nat.zero_le _⟩ (zw4 zw_354 zw_352 zw_353 zw_60) (by decide +kernel) dX2_hasGoodParts_5 (lk_ige B dX2_hasGoodParts_8 (by decide) (k_X2_hasGoodParts_84 hd1 B hr hlk) (k_X2_hasGoodParts_11 hd1 B hr hlk)))))
set_option maxRecDepth 20000 in
theorem k_X2_hasGoodParts_78 {p : Program} {l : Launch} {e : Env} {s : State} {m : MethodId} {args : Array Value} {below : List Frame} {meth : Method} {c : Code} {E : zE} {d : Nat} {Q : zQ} (hd1 : 1 ≤ d) (B : zB p s m args c E mX2_hasGoodParts.1.cls mX2_hasGoodParts.2.1 mX2_hasGoodParts.2.2.1) (hr : meth.sig.returnType = mX2_hasGoodParts.2.2.2) (hlk : meth.locks = false) : zLk (zG p l e (zrm d) s m args below meth c E mX2_hasGoodParts.2.2.1 0 0 (MQ below (zQc E Q) args s 0 0 (zaA E))) 78 (b_X2_hasGoodParts_78 d (zG p l e (zrm d) s m args below meth c E mX2_hasGoodParts.2.2.1 0 0 (MQ below (zQc E Q) args s 0 0 (zaA E))) Q) := by
  unfold b_X2_hasGoodParts_78
  exact lk_inc B dX2_hasGoodParts_78 (by decide) (lk_goto B dX2_hasGoodParts_81 (by decide) (fun _ _ _ h => h))
set_option maxRecDepth 20000 in
theorem k_X2_hasGoodParts_76 {p : Program} {l : Launch} {e : Env} {s : State} {m : MethodId} {args : Array Value} {below : List Frame} {meth : Method} {c : Code} {E : zE} {d : Nat} {Q : zQ} (hd1 : 1 ≤ d) (B : zB p s m args c E mX2_hasGoodParts.1.cls mX2_hasGoodParts.2.1 mX2_hasGoodParts.2.2.1) (hr : meth.sig.returnType = mX2_hasGoodParts.2.2.2) (hlk : meth.locks = false) : zLk (zG p l e (zrm d) s m args below meth c E mX2_hasGoodParts.2.2.1 0 0 (MQ below (zQc E Q) args s 0 0 (zaA E))) 76 (b_X2_hasGoodParts_76 d (zG p l e (zrm d) s m args below meth c E mX2_hasGoodParts.2.2.1 0 0 (MQ below (zQc E Q) args s 0 0 (zaA E))) Q) := by
  unfold b_X2_hasGoodParts_76
  exact lk_c B dX2_hasGoodParts_76 (lk_zret B hr hlk dX2_hasGoodParts_77)
set_option maxRecDepth 20000 in
theorem k_X2_hasGoodParts_65 {p : Program} {l : Launch} {e : Env} {s : State} {m : MethodId} {args : Array Value} {below : List Frame} {meth : Method} {c : Code} {E : zE} {d : Nat} {Q : zQ} (hd1 : 1 ≤ d) (B : zB p s m args c E mX2_hasGoodParts.1.cls mX2_hasGoodParts.2.1 mX2_hasGoodParts.2.2.1) (hr : meth.sig.returnType = mX2_hasGoodParts.2.2.2) (hlk : meth.locks = false) : zLk (zG p l e (zrm d) s m args below meth c E mX2_hasGoodParts.2.2.1 0 0 (MQ below (zQc E Q) args s 0 0 (zaA E))) 65 (b_X2_hasGoodParts_65 d (zG p l e (zrm d) s m args below meth c E mX2_hasGoodParts.2.2.1 0 0 (MQ below (zQc E Q) args s 0 0 (zaA E))) Q) := by
  unfold b_X2_hasGoodParts_65
  exact lk_aln B dX2_hasGoodParts_65 rfl (lk_iln B dX2_hasGoodParts_66 rfl (lk_iln B dX2_hasGoodParts_67 rfl (lk_calls (M := mX2_partTitle) B (zhR hd1 (by decide)) ⟨Nat.zero_le _, Nat.zero_le _⟩ (zw4 zw_381 zw_379 zw_380 zw_60) (by decide +kernel) dX2_hasGoodParts_68 (lk_il B dX2_hasGoodParts_71 (lk_igt B dX2_hasGoodParts_73 (by decide) (k_X2_hasGoodParts_78 hd1 B hr hlk) (k_X2_hasGoodParts_76 hd1 B hr hlk))))))
set_option maxRecDepth 20000 in
theorem k_X2_hasGoodParts_58 {p : Program} {l : Launch} {e : Env} {s : State} {m : MethodId} {args : Array Value} {below : List Frame} {meth : Method} {c : Code} {E : zE} {d : Nat} {Q : zQ} (hd1 : 1 ≤ d) (B : zB p s m args c E mX2_hasGoodParts.1.cls mX2_hasGoodParts.2.1 mX2_hasGoodParts.2.2.1) (hr : meth.sig.returnType = mX2_hasGoodParts.2.2.2) (hlk : meth.locks = false) : zLk (zG p l e (zrm d) s m args below meth c E mX2_hasGoodParts.2.2.1 0 0 (MQ below (zQc E Q) args s 0 0 (zaA E))) 58 (b_X2_hasGoodParts_58 d (zG p l e (zrm d) s m args below meth c E mX2_hasGoodParts.2.2.1 0 0 (MQ below (zQc E Q) args s 0 0 (zaA E))) Q) := by
  unfold b_X2_hasGoodParts_58
  exact lk_is B dX2_hasGoodParts_58 (by decide) (lk_iln B dX2_hasGoodParts_60 rfl (lk_c B dX2_hasGoodParts_61 (lk_ine B dX2_hasGoodParts_62 (by decide) (k_X2_hasGoodParts_78 hd1 B hr hlk) (k_X2_hasGoodParts_65 hd1 B hr hlk))))
def S_X2_hasGoodParts (d : Nat) (G : Nat → zK) (Q : zQ) : Prop := zLk G 0 (b_X2_hasGoodParts_0 d G Q) ∧ zLk G 2 (b_X2_hasGoodParts_2 d G Q) ∧ zLk G 58 (b_X2_hasGoodParts_58 d G Q)
theorem s_X2_hasGoodParts_0 {d : Nat} {G : Nat → zK} {Q : zQ} (h : S_X2_hasGoodParts d G Q) {ls st : List zV} {μ : zM} (k : b_X2_hasGoodParts_0 d G Q ls st μ) : G 0 ls st μ := h.1 ls st μ k
theorem s_X2_hasGoodParts_2 {d : Nat} {G : Nat → zK} {Q : zQ} (h : S_X2_hasGoodParts d G Q) {ls st : List zV} {μ : zM} (k : b_X2_hasGoodParts_2 d G Q ls st μ) : G 2 ls st μ := h.2.1 ls st μ k
theorem s_X2_hasGoodParts_58 {d : Nat} {G : Nat → zK} {Q : zQ} (h : S_X2_hasGoodParts d G Q) {ls st : List zV} {μ : zM} (k : b_X2_hasGoodParts_58 d G Q ls st μ) : G 58 ls st μ := h.2.2 ls st μ k
theorem of_X2_hasGoodParts {d : Nat} {a0 a1 a2 : zV} {μ : zM} {Q : zQ} (hd1 : 1 ≤ d) (h : ∀ G : Nat → zK, S_X2_hasGoodParts d G Q → G 0 [a0, a1, a2, .inr none, .inr none] [] μ) : zCt d mX2_hasGoodParts [a0, a1, a2] μ Q := zCt.mk (by decide) (Nat.le_of_ble_eq_true rfl) (fun p l e s m args below meth c E B hr hlk => h _ ⟨k_X2_hasGoodParts_0 hd1 B hr hlk, k_X2_hasGoodParts_2 hd1 B hr hlk, k_X2_hasGoodParts_58 hd1 B hr hlk⟩)
theorem dX2_isFile_0 : decode cX2_isFile 0 = .ok (.aload_n 0, 1) := by decide +kernel
theorem dX2_isFile_1 : decode cX2_isFile 1 = .ok (.iload_n 1, 1) := by decide +kernel
theorem dX2_isFile_2 : decode cX2_isFile 2 = .ok (.invokevirtual 15, 3) := by decide +kernel
theorem dX2_isFile_5 : decode cX2_isFile 5 = .ok (.istore_n 2, 1) := by decide +kernel
theorem dX2_isFile_6 : decode cX2_isFile 6 = .ok (.iload_n 2, 1) := by decide +kernel
theorem dX2_isFile_7 : decode cX2_isFile 7 = .ok (.ifCond .eq 8, 3) := by decide +kernel
theorem dX2_isFile_10 : decode cX2_isFile 10 = .ok (.iload_n 2, 1) := by decide +kernel
theorem dX2_isFile_11 : decode cX2_isFile 11 = .ok (.iconst 1, 1) := by decide +kernel
theorem dX2_isFile_12 : decode cX2_isFile 12 = .ok (.if_icmp .ne 7, 3) := by decide +kernel
theorem dX2_isFile_15 : decode cX2_isFile 15 = .ok (.iconst 1, 1) := by decide +kernel
theorem dX2_isFile_16 : decode cX2_isFile 16 = .ok (.goto 4, 3) := by decide +kernel
theorem dX2_isFile_19 : decode cX2_isFile 19 = .ok (.iconst 0, 1) := by decide +kernel
theorem dX2_isFile_20 : decode cX2_isFile 20 = .ok (.ireturn, 1) := by decide +kernel
def b_X2_isFile_20 (d : Nat) (G : Nat → zK) (Q : zQ) : zK := t_zret Q
def b_X2_isFile_15 (d : Nat) (G : Nat → zK) (Q : zQ) : zK := o_c 1 <| b_X2_isFile_20 d G Q
def b_X2_isFile_19 (d : Nat) (G : Nat → zK) (Q : zQ) : zK := o_c 0 <| b_X2_isFile_20 d G Q
def b_X2_isFile_10 (d : Nat) (G : Nat → zK) (Q : zQ) : zK := o_il 2 <| o_c 1 <| t_ieq (b_X2_isFile_15 d G Q) (b_X2_isFile_19 d G Q)
def b_X2_isFile_0 (d : Nat) (G : Nat → zK) (Q : zQ) : zK := o_al 0 <| o_il 1 <| o_callv (zCt (d - 1) mX6_kindAt) 4 2 <| o_is 2 <| o_il 2 <| t_zeq (b_X2_isFile_15 d G Q) (b_X2_isFile_10 d G Q)
set_option maxRecDepth 20000 in
theorem k_X2_isFile_20 {p : Program} {l : Launch} {e : Env} {s : State} {m : MethodId} {args : Array Value} {below : List Frame} {meth : Method} {c : Code} {E : zE} {d : Nat} {Q : zQ} (hd1 : 1 ≤ d) (B : zB p s m args c E mX2_isFile.1.cls mX2_isFile.2.1 mX2_isFile.2.2.1) (hr : meth.sig.returnType = mX2_isFile.2.2.2) (hlk : meth.locks = false) : zLk (zG p l e (zrm d) s m args below meth c E mX2_isFile.2.2.1 0 0 (MQ below (zQc E Q) args s 0 0 (zaA E))) 20 (b_X2_isFile_20 d (zG p l e (zrm d) s m args below meth c E mX2_isFile.2.2.1 0 0 (MQ below (zQc E Q) args s 0 0 (zaA E))) Q) := by
  unfold b_X2_isFile_20
  exact lk_zret B hr hlk dX2_isFile_20
set_option maxRecDepth 20000 in
theorem k_X2_isFile_15 {p : Program} {l : Launch} {e : Env} {s : State} {m : MethodId} {args : Array Value} {below : List Frame} {meth : Method} {c : Code} {E : zE} {d : Nat} {Q : zQ} (hd1 : 1 ≤ d) (B : zB p s m args c E mX2_isFile.1.cls mX2_isFile.2.1 mX2_isFile.2.2.1) (hr : meth.sig.returnType = mX2_isFile.2.2.2) (hlk : meth.locks = false) : zLk (zG p l e (zrm d) s m args below meth c E mX2_isFile.2.2.1 0 0 (MQ below (zQc E Q) args s 0 0 (zaA E))) 15 (b_X2_isFile_15 d (zG p l e (zrm d) s m args below meth c E mX2_isFile.2.2.1 0 0 (MQ below (zQc E Q) args s 0 0 (zaA E))) Q) := by
  unfold b_X2_isFile_15
  exact lk_c B dX2_isFile_15 (lk_goto B dX2_isFile_16 (by decide) (k_X2_isFile_20 hd1 B hr hlk))
set_option maxRecDepth 20000 in
theorem k_X2_isFile_19 {p : Program} {l : Launch} {e : Env} {s : State} {m : MethodId} {args : Array Value} {below : List Frame} {meth : Method} {c : Code} {E : zE} {d : Nat} {Q : zQ} (hd1 : 1 ≤ d) (B : zB p s m args c E mX2_isFile.1.cls mX2_isFile.2.1 mX2_isFile.2.2.1) (hr : meth.sig.returnType = mX2_isFile.2.2.2) (hlk : meth.locks = false) : zLk (zG p l e (zrm d) s m args below meth c E mX2_isFile.2.2.1 0 0 (MQ below (zQc E Q) args s 0 0 (zaA E))) 19 (b_X2_isFile_19 d (zG p l e (zrm d) s m args below meth c E mX2_isFile.2.2.1 0 0 (MQ below (zQc E Q) args s 0 0 (zaA E))) Q) := by
  unfold b_X2_isFile_19
  exact lk_c B dX2_isFile_19 (k_X2_isFile_20 hd1 B hr hlk)
set_option maxRecDepth 20000 in
theorem k_X2_isFile_10 {p : Program} {l : Launch} {e : Env} {s : State} {m : MethodId} {args : Array Value} {below : List Frame} {meth : Method} {c : Code} {E : zE} {d : Nat} {Q : zQ} (hd1 : 1 ≤ d) (B : zB p s m args c E mX2_isFile.1.cls mX2_isFile.2.1 mX2_isFile.2.2.1) (hr : meth.sig.returnType = mX2_isFile.2.2.2) (hlk : meth.locks = false) : zLk (zG p l e (zrm d) s m args below meth c E mX2_isFile.2.2.1 0 0 (MQ below (zQc E Q) args s 0 0 (zaA E))) 10 (b_X2_isFile_10 d (zG p l e (zrm d) s m args below meth c E mX2_isFile.2.2.1 0 0 (MQ below (zQc E Q) args s 0 0 (zaA E))) Q) := by
  unfold b_X2_isFile_10
  exact lk_iln B dX2_isFile_10 rfl (lk_c B dX2_isFile_11 (lk_ine B dX2_isFile_12 (by decide) (k_X2_isFile_19 hd1 B hr hlk) (k_X2_isFile_15 hd1 B hr hlk)))
set_option maxRecDepth 20000 in
theorem k_X2_isFile_0 {p : Program} {l : Launch} {e : Env} {s : State} {m : MethodId} {args : Array Value} {below : List Frame} {meth : Method} {c : Code} {E : zE} {d : Nat} {Q : zQ} (hd1 : 1 ≤ d) (B : zB p s m args c E mX2_isFile.1.cls mX2_isFile.2.1 mX2_isFile.2.2.1) (hr : meth.sig.returnType = mX2_isFile.2.2.2) (hlk : meth.locks = false) : zLk (zG p l e (zrm d) s m args below meth c E mX2_isFile.2.2.1 0 0 (MQ below (zQc E Q) args s 0 0 (zaA E))) 0 (b_X2_isFile_0 d (zG p l e (zrm d) s m args below meth c E mX2_isFile.2.2.1 0 0 (MQ below (zQc E Q) args s 0 0 (zaA E))) Q) := by
  unfold b_X2_isFile_0
  exact lk_aln B dX2_isFile_0 rfl (lk_iln B dX2_isFile_1 rfl (lk_callv (M := mX6_kindAt) (T := TX6) (N := 5) B (zhR hd1 (by decide)) ⟨Nat.zero_le _, Nat.zero_le _⟩ cl_X6 (zw5 zw_344 zw_341 zw_342 zw_343 zw_51) (by decide +kernel) dX2_isFile_2 (lk_isn B dX2_isFile_5 rfl (by decide) (lk_iln B dX2_isFile_6 rfl (lk_zeq B dX2_isFile_7 (by decide) (k_X2_isFile_15 hd1 B hr hlk) (k_X2_isFile_10 hd1 B hr hlk))))))
def S_X2_isFile (d : Nat) (G : Nat → zK) (Q : zQ) : Prop := zLk G 0 (b_X2_isFile_0 d G Q)
theorem s_X2_isFile_0 {d : Nat} {G : Nat → zK} {Q : zQ} (h : S_X2_isFile d G Q) {ls st : List zV} {μ : zM} (k : b_X2_isFile_0 d G Q ls st μ) : G 0 ls st μ := h ls st μ k
theorem of_X2_isFile {d : Nat} {a0 a1 : zV} {μ : zM} {Q : zQ} (hd1 : 1 ≤ d) (h : ∀ G : Nat → zK, S_X2_isFile d G Q → G 0 [a0, a1, .inr none] [] μ) : zCt d mX2_isFile [a0, a1] μ Q := zCt.mk (by decide) (Nat.le_of_ble_eq_true rfl) (fun p l e s m args below meth c E B hr hlk => h _ (k_X2_isFile_0 hd1 B hr hlk))
theorem dX2_isFolderOrShard_0 : decode cX2_isFolderOrShard 0 = .ok (.aload_n 0, 1) := by decide +kernel
theorem dX2_isFolderOrShard_1 : decode cX2_isFolderOrShard 1 = .ok (.iload_n 1, 1) := by decide +kernel
theorem dX2_isFolderOrShard_2 : decode cX2_isFolderOrShard 2 = .ok (.invokevirtual 15, 3) := by decide +kernel
theorem dX2_isFolderOrShard_5 : decode cX2_isFolderOrShard 5 = .ok (.istore_n 2, 1) := by decide +kernel
theorem dX2_isFolderOrShard_6 : decode cX2_isFolderOrShard 6 = .ok (.iload_n 2, 1) := by decide +kernel
theorem dX2_isFolderOrShard_7 : decode cX2_isFolderOrShard 7 = .ok (.iconst 2, 1) := by decide +kernel
theorem dX2_isFolderOrShard_8 : decode cX2_isFolderOrShard 8 = .ok (.if_icmp .eq 8, 3) := by decide +kernel
theorem dX2_isFolderOrShard_11 : decode cX2_isFolderOrShard 11 = .ok (.iload_n 2, 1) := by decide +kernel
theorem dX2_isFolderOrShard_12 : decode cX2_isFolderOrShard 12 = .ok (.iconst 3, 1) := by decide +kernel
theorem dX2_isFolderOrShard_13 : decode cX2_isFolderOrShard 13 = .ok (.if_icmp .ne 7, 3) := by decide +kernel
theorem dX2_isFolderOrShard_16 : decode cX2_isFolderOrShard 16 = .ok (.iconst 1, 1) := by decide +kernel
theorem dX2_isFolderOrShard_17 : decode cX2_isFolderOrShard 17 = .ok (.goto 4, 3) := by decide +kernel
theorem dX2_isFolderOrShard_20 : decode cX2_isFolderOrShard 20 = .ok (.iconst 0, 1) := by decide +kernel
theorem dX2_isFolderOrShard_21 : decode cX2_isFolderOrShard 21 = .ok (.ireturn, 1) := by decide +kernel
def b_X2_isFolderOrShard_21 (d : Nat) (G : Nat → zK) (Q : zQ) : zK := t_zret Q
def b_X2_isFolderOrShard_16 (d : Nat) (G : Nat → zK) (Q : zQ) : zK := o_c 1 <| b_X2_isFolderOrShard_21 d G Q
def b_X2_isFolderOrShard_20 (d : Nat) (G : Nat → zK) (Q : zQ) : zK := o_c 0 <| b_X2_isFolderOrShard_21 d G Q
def b_X2_isFolderOrShard_11 (d : Nat) (G : Nat → zK) (Q : zQ) : zK := o_il 2 <| o_c 3 <| t_ieq (b_X2_isFolderOrShard_16 d G Q) (b_X2_isFolderOrShard_20 d G Q)
def b_X2_isFolderOrShard_0 (d : Nat) (G : Nat → zK) (Q : zQ) : zK := o_al 0 <| o_il 1 <| o_callv (zCt (d - 1) mX6_kindAt) 4 2 <| o_is 2 <| o_il 2 <| o_c 2 <| t_ieq (b_X2_isFolderOrShard_16 d G Q) (b_X2_isFolderOrShard_11 d G Q)
set_option maxRecDepth 20000 in
theorem k_X2_isFolderOrShard_21 {p : Program} {l : Launch} {e : Env} {s : State} {m : MethodId} {args : Array Value} {below : List Frame} {meth : Method} {c : Code} {E : zE} {d : Nat} {Q : zQ} (hd1 : 1 ≤ d) (B : zB p s m args c E mX2_isFolderOrShard.1.cls mX2_isFolderOrShard.2.1 mX2_isFolderOrShard.2.2.1) (hr : meth.sig.returnType = mX2_isFolderOrShard.2.2.2) (hlk : meth.locks = false) : zLk (zG p l e (zrm d) s m args below meth c E mX2_isFolderOrShard.2.2.1 0 0 (MQ below (zQc E Q) args s 0 0 (zaA E))) 21 (b_X2_isFolderOrShard_21 d (zG p l e (zrm d) s m args below meth c E mX2_isFolderOrShard.2.2.1 0 0 (MQ below (zQc E Q) args s 0 0 (zaA E))) Q) := by
  unfold b_X2_isFolderOrShard_21
  exact lk_zret B hr hlk dX2_isFolderOrShard_21
set_option maxRecDepth 20000 in
theorem k_X2_isFolderOrShard_16 {p : Program} {l : Launch} {e : Env} {s : State} {m : MethodId} {args : Array Value} {below : List Frame} {meth : Method} {c : Code} {E : zE} {d : Nat} {Q : zQ} (hd1 : 1 ≤ d) (B : zB p s m args c E mX2_isFolderOrShard.1.cls mX2_isFolderOrShard.2.1 mX2_isFolderOrShard.2.2.1) (hr : meth.sig.returnType = mX2_isFolderOrShard.2.2.2) (hlk : meth.locks = false) : zLk (zG p l e (zrm d) s m args below meth c E mX2_isFolderOrShard.2.2.1 0 0 (MQ below (zQc E Q) args s 0 0 (zaA E))) 16 (b_X2_isFolderOrShard_16 d (zG p l e (zrm d) s m args below meth c E mX2_isFolderOrShard.2.2.1 0 0 (MQ below (zQc E Q) args s 0 0 (zaA E))) Q) := by
  unfold b_X2_isFolderOrShard_16
  exact lk_c B dX2_isFolderOrShard_16 (lk_goto B dX2_isFolderOrShard_17 (by decide) (k_X2_isFolderOrShard_21 hd1 B hr hlk))
set_option maxRecDepth 20000 in
theorem k_X2_isFolderOrShard_20 {p : Program} {l : Launch} {e : Env} {s : State} {m : MethodId} {args : Array Value} {below : List Frame} {meth : Method} {c : Code} {E : zE} {d : Nat} {Q : zQ} (hd1 : 1 ≤ d) (B : zB p s m args c E mX2_isFolderOrShard.1.cls mX2_isFolderOrShard.2.1 mX2_isFolderOrShard.2.2.1) (hr : meth.sig.returnType = mX2_isFolderOrShard.2.2.2) (hlk : meth.locks = false) : zLk (zG p l e (zrm d) s m args below meth c E mX2_isFolderOrShard.2.2.1 0 0 (MQ below (zQc E Q) args s 0 0 (zaA E))) 20 (b_X2_isFolderOrShard_20 d (zG p l e (zrm d) s m args below meth c E mX2_isFolderOrShard.2.2.1 0 0 (MQ below (zQc E Q) args s 0 0 (zaA E))) Q) := by
  unfold b_X2_isFolderOrShard_20
  exact lk_c B dX2_isFolderOrShard_20 (k_X2_isFolderOrShard_21 hd1 B hr hlk)
set_option maxRecDepth 20000 in
theorem k_X2_isFolderOrShard_11 {p : Program} {l : Launch} {e : Env} {s : State} {m : MethodId} {args : Array Value} {below : List Frame} {meth : Method} {c : Code} {E : zE} {d : Nat} {Q : zQ} (hd1 : 1 ≤ d) (B : zB p s m args c E mX2_isFolderOrShard.1.cls mX2_isFolderOrShard.2.1 mX2_isFolderOrShard.2.2.1) (hr : meth.sig.returnType = mX2_isFolderOrShard.2.2.2) (hlk : meth.locks = false) : zLk (zG p l e (zrm d) s m args below meth c E mX2_isFolderOrShard.2.2.1 0 0 (MQ below (zQc E Q) args s 0 0 (zaA E))) 11 (b_X2_isFolderOrShard_11 d (zG p l e (zrm d) s m args below meth c E mX2_isFolderOrShard.2.2.1 0 0 (MQ below (zQc E Q) args s 0 0 (zaA E))) Q) := by
  unfold b_X2_isFolderOrShard_11
  exact lk_iln B dX2_isFolderOrShard_11 rfl (lk_c B dX2_isFolderOrShard_12 (lk_ine B dX2_isFolderOrShard_13 (by decide) (k_X2_isFolderOrShard_20 hd1 B hr hlk) (k_X2_isFolderOrShard_16 hd1 B hr hlk)))
set_option maxRecDepth 20000 in
theorem k_X2_isFolderOrShard_0 {p : Program} {l : Launch} {e : Env} {s : State} {m : MethodId} {args : Array Value} {below : List Frame} {meth : Method} {c : Code} {E : zE} {d : Nat} {Q : zQ} (hd1 : 1 ≤ d) (B : zB p s m args c E mX2_isFolderOrShard.1.cls mX2_isFolderOrShard.2.1 mX2_isFolderOrShard.2.2.1) (hr : meth.sig.returnType = mX2_isFolderOrShard.2.2.2) (hlk : meth.locks = false) : zLk (zG p l e (zrm d) s m args below meth c E mX2_isFolderOrShard.2.2.1 0 0 (MQ below (zQc E Q) args s 0 0 (zaA E))) 0 (b_X2_isFolderOrShard_0 d (zG p l e (zrm d) s m args below meth c E mX2_isFolderOrShard.2.2.1 0 0 (MQ below (zQc E Q) args s 0 0 (zaA E))) Q) := by
  unfold b_X2_isFolderOrShard_0
  exact lk_aln B dX2_isFolderOrShard_0 rfl (lk_iln B dX2_isFolderOrShard_1 rfl (lk_callv (M := mX6_kindAt) (T := TX6) (N := 5) B (zhR hd1 (by decide)) ⟨Nat.zero_le _, Nat.zero_le _⟩ cl_X6 (zw5 zw_344 zw_341 zw_342 zw_343 zw_51) (by decide +kernel) dX2_isFolderOrShard_2 (lk_isn B dX2_isFolderOrShard_5 rfl (by decide) (lk_iln B dX2_isFolderOrShard_6 rfl (lk_c B dX2_isFolderOrShard_7 (lk_ieq B dX2_isFolderOrShard_8 (by decide) (k_X2_isFolderOrShard_16 hd1 B hr hlk) (k_X2_isFolderOrShard_11 hd1 B hr hlk)))))))
def S_X2_isFolderOrShard (d : Nat) (G : Nat → zK) (Q : zQ) : Prop := zLk G 0 (b_X2_isFolderOrShard_0 d G Q)
theorem s_X2_isFolderOrShard_0 {d : Nat} {G : Nat → zK} {Q : zQ} (h : S_X2_isFolderOrShard d G Q) {ls st : List zV} {μ : zM} (k : b_X2_isFolderOrShard_0 d G Q ls st μ) : G 0 ls st μ := h ls st μ k
theorem of_X2_isFolderOrShard {d : Nat} {a0 a1 : zV} {μ : zM} {Q : zQ} (hd1 : 1 ≤ d) (h : ∀ G : Nat → zK, S_X2_isFolderOrShard d G Q → G 0 [a0, a1, .inr none] [] μ) : zCt d mX2_isFolderOrShard [a0, a1] μ Q := zCt.mk (by decide) (Nat.le_of_ble_eq_true rfl) (fun p l e s m args below meth c E B hr hlk => h _ (k_X2_isFolderOrShard_0 hd1 B hr hlk))
theorem dX2_partCount_0 : decode cX2_partCount 0 = .ok (.aload_n 0, 1) := by decide +kernel
theorem dX2_partCount_1 : decode cX2_partCount 1 = .ok (.iload_n 1, 1) := by decide +kernel
theorem dX2_partCount_2 : decode cX2_partCount 2 = .ok (.invokevirtual 15, 3) := by decide +kernel
theorem dX2_partCount_5 : decode cX2_partCount 5 = .ok (.tableswitch 44 1 3 #[27, 27, 34], 27) := by decide +kernel
theorem dX2_partCount_32 : decode cX2_partCount 32 = .ok (.aload_n 0, 1) := by decide +kernel
theorem dX2_partCount_33 : decode cX2_partCount 33 = .ok (.iload_n 1, 1) := by decide +kernel
theorem dX2_partCount_34 : decode cX2_partCount 34 = .ok (.iconst 1, 1) := by decide +kernel
theorem dX2_partCount_35 : decode cX2_partCount 35 = .ok (.invokevirtual 20, 3) := by decide +kernel
theorem dX2_partCount_38 : decode cX2_partCount 38 = .ok (.ireturn, 1) := by decide +kernel
theorem dX2_partCount_39 : decode cX2_partCount 39 = .ok (.aload_n 0, 1) := by decide +kernel
theorem dX2_partCount_40 : decode cX2_partCount 40 = .ok (.iload_n 1, 1) := by decide +kernel
theorem dX2_partCount_41 : decode cX2_partCount 41 = .ok (.iconst 1, 1) := by decide +kernel
theorem dX2_partCount_42 : decode cX2_partCount 42 = .ok (.invokevirtual 20, 3) := by decide +kernel
theorem dX2_partCount_45 : decode cX2_partCount 45 = .ok (.invokestatic 54, 3) := by decide +kernel
theorem dX2_partCount_48 : decode cX2_partCount 48 = .ok (.ireturn, 1) := by decide +kernel
theorem dX2_partCount_49 : decode cX2_partCount 49 = .ok (.iconst 0, 1) := by decide +kernel
theorem dX2_partCount_50 : decode cX2_partCount 50 = .ok (.ireturn, 1) := by decide +kernel
def b_X2_partCount_49 (d : Nat) (G : Nat → zK) (Q : zQ) : zK := o_c 0 <| t_iret Q
def b_X2_partCount_32 (d : Nat) (G : Nat → zK) (Q : zQ) : zK := o_al 0 <| o_il 1 <| o_c 1 <| o_callv (zCt (d - 1) mX6_byteAt) 4 3 <| t_iret Q
def b_X2_partCount_39 (d : Nat) (G : Nat → zK) (Q : zQ) : zK := o_al 0 <| o_il 1 <| o_c 1 <| o_callv (zCt (d - 1) mX6_byteAt) 4 3 <| o_call (zCt (d - 1) mJ6_bitCount_0f7a4) 1 <| t_iret Q
def b_X2_partCount_0 (d : Nat) (G : Nat → zK) (Q : zQ) : zK := o_al 0 <| o_il 1 <| o_callv (zCt (d - 1) mX6_kindAt) 4 2 <| t_sw [(1, b_X2_partCount_32 d G Q), (2, b_X2_partCount_32 d G Q), (3, b_X2_partCount_39 d G Q)] (b_X2_partCount_49 d G Q)
set_option maxRecDepth 20000 in
theorem k_X2_partCount_49 {p : Program} {l : Launch} {e : Env} {s : State} {m : MethodId} {args : Array Value} {below : List Frame} {meth : Method} {c : Code} {E : zE} {d : Nat} {Q : zQ} (hd1 : 1 ≤ d) (B : zB p s m args c E mX2_partCount.1.cls mX2_partCount.2.1 mX2_partCount.2.2.1) (hr : meth.sig.returnType = mX2_partCount.2.2.2) (hlk : meth.locks = false) : zLk (zG p l e (zrm d) s m args below meth c E mX2_partCount.2.2.1 0 0 (MQ below (zQc E Q) args s 0 0 (zaA E))) 49 (b_X2_partCount_49 d (zG p l e (zrm d) s m args below meth c E mX2_partCount.2.2.1 0 0 (MQ below (zQc E Q) args s 0 0 (zaA E))) Q) := by
  unfold b_X2_partCount_49
  exact lk_c B dX2_partCount_49 (lk_iret B hr hlk dX2_partCount_50)
set_option maxRecDepth 20000 in
theorem k_X2_partCount_32 {p : Program} {l : Launch} {e : Env} {s : State} {m : MethodId} {args : Array Value} {below : List Frame} {meth : Method} {c : Code} {E : zE} {d : Nat} {Q : zQ} (hd1 : 1 ≤ d) (B : zB p s m args c E mX2_partCount.1.cls mX2_partCount.2.1 mX2_partCount.2.2.1) (hr : meth.sig.returnType = mX2_partCount.2.2.2) (hlk : meth.locks = false) : zLk (zG p l e (zrm d) s m args below meth c E mX2_partCount.2.2.1 0 0 (MQ below (zQc E Q) args s 0 0 (zaA E))) 32 (b_X2_partCount_32 d (zG p l e (zrm d) s m args below meth c E mX2_partCount.2.2.1 0 0 (MQ below (zQc E Q) args s 0 0 (zaA E))) Q) := by
  unfold b_X2_partCount_32
  exact lk_aln B dX2_partCount_32 rfl (lk_iln B dX2_partCount_33 rfl (lk_c B dX2_partCount_34 (lk_callv (M := mX6_byteAt) (T := TX6) (N := 5) B (zhR hd1 (by decide)) ⟨Nat.zero_le _, Nat.zero_le _⟩ cl_X6 (zw5 zw_348 zw_345 zw_346 zw_347 zw_51) (by decide +kernel) dX2_partCount_35 (lk_iret B hr hlk dX2_partCount_38))))
set_option maxRecDepth 20000 in
theorem k_X2_partCount_39 {p : Program} {l : Launch} {e : Env} {s : State} {m : MethodId} {args : Array Value} {below : List Frame} {meth : Method} {c : Code} {E : zE} {d : Nat} {Q : zQ} (hd1 : 1 ≤ d) (B : zB p s m args c E mX2_partCount.1.cls mX2_partCount.2.1 mX2_partCount.2.2.1) (hr : meth.sig.returnType = mX2_partCount.2.2.2) (hlk : meth.locks = false) : zLk (zG p l e (zrm d) s m args below meth c E mX2_partCount.2.2.1 0 0 (MQ below (zQc E Q) args s 0 0 (zaA E))) 39 (b_X2_partCount_39 d (zG p l e (zrm d) s m args below meth c E mX2_partCount.2.2.1 0 0 (MQ below (zQc E Q) args s 0 0 (zaA E))) Q) := by
  unfold b_X2_partCount_39
  exact lk_aln B dX2_partCount_39 rfl (lk_iln B dX2_partCount_40 rfl (lk_c B dX2_partCount_41 (lk_callv (M := mX6_byteAt) (T := TX6) (N := 5) B (zhR hd1 (by decide)) ⟨Nat.zero_le _, Nat.zero_le _⟩ cl_X6 (zw5 zw_348 zw_345 zw_346 zw_347 zw_51) (by decide +kernel) dX2_partCount_42 (lk_calls (M := mJ6_bitCount_0f7a4) B (zhR hd1 (by decide)) ⟨Nat.zero_le _, Nat.zero_le _⟩ (zw4 zw_357 zw_355 zw_356 zw_61) (by decide +kernel) dX2_partCount_45 (lk_iret B hr hlk dX2_partCount_48)))))
set_option maxRecDepth 20000 in
theorem k_X2_partCount_0 {p : Program} {l : Launch} {e : Env} {s : State} {m : MethodId} {args : Array Value} {below : List Frame} {meth : Method} {c : Code} {E : zE} {d : Nat} {Q : zQ} (hd1 : 1 ≤ d) (B : zB p s m args c E mX2_partCount.1.cls mX2_partCount.2.1 mX2_partCount.2.2.1) (hr : meth.sig.returnType = mX2_partCount.2.2.2) (hlk : meth.locks = false) : zLk (zG p l e (zrm d) s m args below meth c E mX2_partCount.2.2.1 0 0 (MQ below (zQc E Q) args s 0 0 (zaA E))) 0 (b_X2_partCount_0 d (zG p l e (zrm d) s m args below meth c E mX2_partCount.2.2.1 0 0 (MQ below (zQc E Q) args s 0 0 (zaA E))) Q) := by
  unfold b_X2_partCount_0
  exact lk_aln B dX2_partCount_0 rfl (lk_iln B dX2_partCount_1 rfl (lk_callv (M := mX6_kindAt) (T := TX6) (N := 5) B (zhR hd1 (by decide)) ⟨Nat.zero_le _, Nat.zero_le _⟩ cl_X6 (zw5 zw_344 zw_341 zw_342 zw_343 zw_51) (by decide +kernel) dX2_partCount_2 (lk_tsw B dX2_partCount_5 (by refine zfm ⟨27, 32, (show (1 : Int) ≤ 1 from by decide), (show (1 : Int) ≤ 3 from by decide), rfl, by decide, (k_X2_partCount_32 hd1 B hr hlk)⟩ ?_; refine zfm ⟨27, 32, (show (1 : Int) ≤ 2 from by decide), (show (2 : Int) ≤ 3 from by decide), rfl, by decide, (k_X2_partCount_32 hd1 B hr hlk)⟩ ?_; refine zfm ⟨34, 39, (show (1 : Int) ≤ 3 from by decide), (show (3 : Int) ≤ 3 from by decide), rfl, by decide, (k_X2_partCount_39 hd1 B hr hlk)⟩ ?_; exact zfn) (fun x h1 h2 => by simp only [List.mem_cons, List.not_mem_nil, or_false, exists_eq_or_imp, exists_eq_left]; omega) (by decide) (k_X2_partCount_49 hd1 B hr hlk))))
def S_X2_partCount (d : Nat) (G : Nat → zK) (Q : zQ) : Prop := zLk G 0 (b_X2_partCount_0 d G Q)
theorem s_X2_partCount_0 {d : Nat} {G : Nat → zK} {Q : zQ} (h : S_X2_partCount d G Q) {ls st : List zV} {μ : zM} (k : b_X2_partCount_0 d G Q ls st μ) : G 0 ls st μ := h ls st μ k
theorem of_X2_partCount {d : Nat} {a0 a1 : zV} {μ : zM} {Q : zQ} (hd1 : 1 ≤ d) (h : ∀ G : Nat → zK, S_X2_partCount d G Q → G 0 [a0, a1] [] μ) : zCt d mX2_partCount [a0, a1] μ Q := zCt.mk (by decide) (Nat.le_of_ble_eq_true rfl) (fun p l e s m args below meth c E B hr hlk => h _ (k_X2_partCount_0 hd1 B hr hlk))
theorem dX2_linkAt_0 : decode cX2_linkAt 0 = .ok (.aload_n 0, 1) := by decide +kernel
theorem dX2_linkAt_1 : decode cX2_linkAt 1 = .ok (.iload_n 1, 1) := by decide +kernel
theorem dX2_linkAt_2 : decode cX2_linkAt 2 = .ok (.invokevirtual 15, 3) := by decide +kernel
theorem dX2_linkAt_5 : decode cX2_linkAt 5 = .ok (.istore_n 3, 1) := by decide +kernel
theorem dX2_linkAt_6 : decode cX2_linkAt 6 = .ok (.iload_n 3, 1) := by decide +kernel
theorem dX2_linkAt_7 : decode cX2_linkAt 7 = .ok (.ifCond .le 8, 3) := by decide +kernel
theorem dX2_linkAt_10 : decode cX2_linkAt 10 = .ok (.iload_n 3, 1) := by decide +kernel
theorem dX2_linkAt_11 : decode cX2_linkAt 11 = .ok (.iconst 3, 1) := by decide +kernel
theorem dX2_linkAt_12 : decode cX2_linkAt 12 = .ok (.if_icmp .le 5, 3) := by decide +kernel
theorem dX2_linkAt_15 : decode cX2_linkAt 15 = .ok (.iconst (-1), 1) := by decide +kernel
theorem dX2_linkAt_16 : decode cX2_linkAt 16 = .ok (.ireturn, 1) := by decide +kernel
theorem dX2_linkAt_17 : decode cX2_linkAt 17 = .ok (.aload_n 0, 1) := by decide +kernel
theorem dX2_linkAt_18 : decode cX2_linkAt 18 = .ok (.iload_n 1, 1) := by decide +kernel
theorem dX2_linkAt_19 : decode cX2_linkAt 19 = .ok (.iconst 2, 1) := by decide +kernel
theorem dX2_linkAt_20 : decode cX2_linkAt 20 = .ok (.iload_n 2, 1) := by decide +kernel
theorem dX2_linkAt_21 : decode cX2_linkAt 21 = .ok (.iconst 1, 1) := by decide +kernel
theorem dX2_linkAt_22 : decode cX2_linkAt 22 = .ok (.iadd, 1) := by decide +kernel
theorem dX2_linkAt_23 : decode cX2_linkAt 23 = .ok (.getstatic 32, 3) := by decide +kernel
theorem dX2_linkAt_26 : decode cX2_linkAt 26 = .ok (.iload_n 3, 1) := by decide +kernel
theorem dX2_linkAt_27 : decode cX2_linkAt 27 = .ok (.iaload, 1) := by decide +kernel
theorem dX2_linkAt_28 : decode cX2_linkAt 28 = .ok (.imul, 1) := by decide +kernel
theorem dX2_linkAt_29 : decode cX2_linkAt 29 = .ok (.iadd, 1) := by decide +kernel
theorem dX2_linkAt_30 : decode cX2_linkAt 30 = .ok (.iconst 2, 1) := by decide +kernel
theorem dX2_linkAt_31 : decode cX2_linkAt 31 = .ok (.isub, 1) := by decide +kernel
theorem dX2_linkAt_32 : decode cX2_linkAt 32 = .ok (.invokevirtual 59, 3) := by decide +kernel
theorem dX2_linkAt_35 : decode cX2_linkAt 35 = .ok (.ireturn, 1) := by decide +kernel
def b_X2_linkAt_15 (d : Nat) (G : Nat → zK) (Q : zQ) : zK := o_c (-1) <| t_iret Q
def b_X2_linkAt_17 (d : Nat) (G : Nat → zK) (Q : zQ) : zK := o_al 0 <| o_il 1 <| o_c 2 <| o_il 2 <| o_c 1 <| o_add <| o_gs <| o_il 3 <| o_iald <| o_mul <| o_add <| o_c 2 <| o_sub <| o_callv (zCt (d - 1) mX6_pairAt) 4 3 <| t_iret Q
def b_X2_linkAt_10 (d : Nat) (G : Nat → zK) (Q : zQ) : zK := o_il 3 <| o_c 3 <| t_igt (b_X2_linkAt_15 d G Q) (b_X2_linkAt_17 d G Q)
def b_X2_linkAt_0 (d : Nat) (G : Nat → zK) (Q : zQ) : zK := o_al 0 <| o_il 1 <| o_callv (zCt (d - 1) mX6_kindAt) 4 2 <| o_is 3 <| o_il 3 <| t_zgt (b_X2_linkAt_10 d G Q) (b_X2_linkAt_15 d G Q)
set_option maxRecDepth 20000 in
theorem k_X2_linkAt_15 {p : Program} {l : Launch} {e : Env} {s : State} {m : MethodId} {args : Array Value} {below : List Frame} {meth : Method} {c : Code} {E : zE} {d : Nat} {Q : zQ} (hd1 : 1 ≤ d) (B : zB p s m args c E mX2_linkAt.1.cls mX2_linkAt.2.1 mX2_linkAt.2.2.1) (hr : meth.sig.returnType = mX2_linkAt.2.2.2) (hlk : meth.locks = false) : zLk (zG p l e (zrm d) s m args below meth c E mX2_linkAt.2.2.1 0 0 (MQ below (zQc E Q) args s 0 0 (zaA E))) 15 (b_X2_linkAt_15 d (zG p l e (zrm d) s m args below meth c E mX2_linkAt.2.2.1 0 0 (MQ below (zQc E Q) args s 0 0 (zaA E))) Q) := by
  unfold b_X2_linkAt_15
  exact lk_c B dX2_linkAt_15 (lk_iret B hr hlk dX2_linkAt_16)
set_option maxRecDepth 20000 in
theorem k_X2_linkAt_17 {p : Program} {l : Launch} {e : Env} {s : State} {m : MethodId} {args : Array Value} {below : List Frame} {meth : Method} {c : Code} {E : zE} {d : Nat} {Q : zQ} (hd1 : 1 ≤ d) (B : zB p s m args c E mX2_linkAt.1.cls mX2_linkAt.2.1 mX2_linkAt.2.2.1) (hr : meth.sig.returnType = mX2_linkAt.2.2.2) (hlk : meth.locks = false) : zLk (zG p l e (zrm d) s m args below meth c E mX2_linkAt.2.2.1 0 0 (MQ below (zQc E Q) args s 0 0 (zaA E))) 17 (b_X2_linkAt_17 d (zG p l e (zrm d) s m args below meth c E mX2_linkAt.2.2.1 0 0 (MQ below (zQc E Q) args s 0 0 (zaA E))) Q) := by
  unfold b_X2_linkAt_17
  exact lk_aln B dX2_linkAt_17 rfl (lk_iln B dX2_linkAt_18 rfl (lk_c B dX2_linkAt_19 (lk_iln B dX2_linkAt_20 rfl (lk_c B dX2_linkAt_21 (lk_add B dX2_linkAt_22 (lk_gs B zw_361 dX2_linkAt_23 (lk_iln B dX2_linkAt_26 rfl (lk_iald B dX2_linkAt_27 (lk_mul B dX2_linkAt_28 (lk_add B dX2_linkAt_29 (lk_c B dX2_linkAt_30 (lk_sub B dX2_linkAt_31 (lk_callv (M := mX6_pairAt) (T := TX6) (N := 5) B (zhR hd1 (by decide)) ⟨Nat.zero_le _, Nat.zero_le _⟩ cl_X6 (zw5 zw_372 zw_369 zw_370 zw_371 zw_51) (by decide +kernel) dX2_linkAt_32 (lk_iret B hr hlk dX2_linkAt_35))))))))))))))
set_option maxRecDepth 20000 in
theorem k_X2_linkAt_10 {p : Program} {l : Launch} {e : Env} {s : State} {m : MethodId} {args : Array Value} {below : List Frame} {meth : Method} {c : Code} {E : zE} {d : Nat} {Q : zQ} (hd1 : 1 ≤ d) (B : zB p s m args c E mX2_linkAt.1.cls mX2_linkAt.2.1 mX2_linkAt.2.2.1) (hr : meth.sig.returnType = mX2_linkAt.2.2.2) (hlk : meth.locks = false) : zLk (zG p l e (zrm d) s m args below meth c E mX2_linkAt.2.2.1 0 0 (MQ below (zQc E Q) args s 0 0 (zaA E))) 10 (b_X2_linkAt_10 d (zG p l e (zrm d) s m args below meth c E mX2_linkAt.2.2.1 0 0 (MQ below (zQc E Q) args s 0 0 (zaA E))) Q) := by
  unfold b_X2_linkAt_10
  exact lk_iln B dX2_linkAt_10 rfl (lk_c B dX2_linkAt_11 (lk_ile B dX2_linkAt_12 (by decide) (k_X2_linkAt_17 hd1 B hr hlk) (k_X2_linkAt_15 hd1 B hr hlk)))
set_option maxRecDepth 20000 in
theorem k_X2_linkAt_0 {p : Program} {l : Launch} {e : Env} {s : State} {m : MethodId} {args : Array Value} {below : List Frame} {meth : Method} {c : Code} {E : zE} {d : Nat} {Q : zQ} (hd1 : 1 ≤ d) (B : zB p s m args c E mX2_linkAt.1.cls mX2_linkAt.2.1 mX2_linkAt.2.2.1) (hr : meth.sig.returnType = mX2_linkAt.2.2.2) (hlk : meth.locks = false) : zLk (zG p l e (zrm d) s m args below meth c E mX2_linkAt.2.2.1 0 0 (MQ below (zQc E Q) args s 0 0 (zaA E))) 0 (b_X2_linkAt_0 d (zG p l e (zrm d) s m args below meth c E mX2_linkAt.2.2.1 0 0 (MQ below (zQc E Q) args s 0 0 (zaA E))) Q) := by
  unfold b_X2_linkAt_0
  exact lk_aln B dX2_linkAt_0 rfl (lk_iln B dX2_linkAt_1 rfl (lk_callv (M := mX6_kindAt) (T := TX6) (N := 5) B (zhR hd1 (by decide)) ⟨Nat.zero_le _, Nat.zero_le _⟩ cl_X6 (zw5 zw_344 zw_341 zw_342 zw_343 zw_51) (by decide +kernel) dX2_linkAt_2 (lk_isn B dX2_linkAt_5 rfl (by decide) (lk_iln B dX2_linkAt_6 rfl (lk_zle B dX2_linkAt_7 (by decide) (k_X2_linkAt_15 hd1 B hr hlk) (k_X2_linkAt_10 hd1 B hr hlk))))))
def S_X2_linkAt (d : Nat) (G : Nat → zK) (Q : zQ) : Prop := zLk G 0 (b_X2_linkAt_0 d G Q)
theorem s_X2_linkAt_0 {d : Nat} {G : Nat → zK} {Q : zQ} (h : S_X2_linkAt d G Q) {ls st : List zV} {μ : zM} (k : b_X2_linkAt_0 d G Q ls st μ) : G 0 ls st μ := h ls st μ k
theorem of_X2_linkAt {d : Nat} {a0 a1 a2 : zV} {μ : zM} {Q : zQ} (hd1 : 1 ≤ d) (h : ∀ G : Nat → zK, S_X2_linkAt d G Q → G 0 [a0, a1, a2, .inr none] [] μ) : zCt d mX2_linkAt [a0, a1, a2] μ Q := zCt.mk (by decide) (Nat.le_of_ble_eq_true rfl) (fun p l e s m args below meth c E B hr hlk => h _ (k_X2_linkAt_0 hd1 B hr hlk))
theorem dX2_partSize_0 : decode cX2_partSize 0 = .ok (.aload_n 0, 1) := by decide +kernel
theorem dX2_partSize_1 : decode cX2_partSize 1 = .ok (.iload_n 1, 1) := by decide +kernel
theorem dX2_partSize_2 : decode cX2_partSize 2 = .ok (.iconst 2, 1) := by decide +kernel
theorem dX2_partSize_3 : decode cX2_partSize 3 = .ok (.iload_n 2, 1) := by decide +kernel
theorem dX2_partSize_4 : decode cX2_partSize 4 = .ok (.getstatic 32, 3) := by decide +kernel
theorem dX2_partSize_7 : decode cX2_partSize 7 = .ok (.iconst 1, 1) := by decide +kernel
theorem dX2_partSize_8 : decode cX2_partSize 8 = .ok (.iaload, 1) := by decide +kernel
theorem dX2_partSize_9 : decode cX2_partSize 9 = .ok (.imul, 1) := by decide +kernel
theorem dX2_partSize_10 : decode cX2_partSize 10 = .ok (.iadd, 1) := by decide +kernel
theorem dX2_partSize_11 : decode cX2_partSize 11 = .ok (.invokevirtual 59, 3) := by decide +kernel
theorem dX2_partSize_14 : decode cX2_partSize 14 = .ok (.ireturn, 1) := by decide +kernel
def b_X2_partSize_0 (d : Nat) (G : Nat → zK) (Q : zQ) : zK := o_al 0 <| o_il 1 <| o_c 2 <| o_il 2 <| o_gs <| o_c 1 <| o_iald <| o_mul <| o_add <| o_callv (zCt (d - 1) mX6_pairAt) 4 3 <| t_iret Q
set_option maxRecDepth 20000 in
theorem k_X2_partSize_0 {p : Program} {l : Launch} {e : Env} {s : State} {m : MethodId} {args : Array Value} {below : List Frame} {meth : Method} {c : Code} {E : zE} {d : Nat} {Q : zQ} (hd1 : 1 ≤ d) (B : zB p s m args c E mX2_partSize.1.cls mX2_partSize.2.1 mX2_partSize.2.2.1) (hr : meth.sig.returnType = mX2_partSize.2.2.2) (hlk : meth.locks = false) : zLk (zG p l e (zrm d) s m args below meth c E mX2_partSize.2.2.1 0 0 (MQ below (zQc E Q) args s 0 0 (zaA E))) 0 (b_X2_partSize_0 d (zG p l e (zrm d) s m args below meth c E mX2_partSize.2.2.1 0 0 (MQ below (zQc E Q) args s 0 0 (zaA E))) Q) := by
  unfold b_X2_partSize_0
  exact lk_aln B dX2_partSize_0 rfl (lk_iln B dX2_partSize_1 rfl (lk_c B dX2_partSize_2 (lk_iln B dX2_partSize_3 rfl (lk_gs B zw_361 dX2_partSize_4 (lk_c B dX2_partSize_7 (lk_iald B dX2_partSize_8 (lk_mul B dX2_partSize_9 (lk_add B dX2_partSize_10 (lk_callv (M := mX6_pairAt) (T := TX6) (N := 5) B (zhR hd1 (by decide)) ⟨Nat.zero_le _, Nat.zero_le _⟩ cl_X6 (zw5 zw_372 zw_369 zw_370 zw_371 zw_51) (by decide +kernel) dX2_partSize_11 (lk_iret B hr hlk dX2_partSize_14))))))))))
def S_X2_partSize (d : Nat) (G : Nat → zK) (Q : zQ) : Prop := zLk G 0 (b_X2_partSize_0 d G Q)
theorem s_X2_partSize_0 {d : Nat} {G : Nat → zK} {Q : zQ} (h : S_X2_partSize d G Q) {ls st : List zV} {μ : zM} (k : b_X2_partSize_0 d G Q ls st μ) : G 0 ls st μ := h ls st μ k
theorem of_X2_partSize {d : Nat} {a0 a1 a2 : zV} {μ : zM} {Q : zQ} (hd1 : 1 ≤ d) (h : ∀ G : Nat → zK, S_X2_partSize d G Q → G 0 [a0, a1, a2] [] μ) : zCt d mX2_partSize [a0, a1, a2] μ Q := zCt.mk (by decide) (Nat.le_of_ble_eq_true rfl) (fun p l e s m args below meth c E B hr hlk => h _ (k_X2_partSize_0 hd1 B hr hlk))
theorem dX2_partTitle_0 : decode cX2_partTitle 0 = .ok (.aload_n 0, 1) := by decide +kernel
theorem dX2_partTitle_1 : decode cX2_partTitle 1 = .ok (.iload_n 1, 1) := by decide +kernel
theorem dX2_partTitle_2 : decode cX2_partTitle 2 = .ok (.iconst 2, 1) := by decide +kernel
theorem dX2_partTitle_3 : decode cX2_partTitle 3 = .ok (.iload_n 2, 1) := by decide +kernel
theorem dX2_partTitle_4 : decode cX2_partTitle 4 = .ok (.getstatic 32, 3) := by decide +kernel
theorem dX2_partTitle_7 : decode cX2_partTitle 7 = .ok (.iconst 2, 1) := by decide +kernel
theorem dX2_partTitle_8 : decode cX2_partTitle 8 = .ok (.iaload, 1) := by decide +kernel
theorem dX2_partTitle_9 : decode cX2_partTitle 9 = .ok (.imul, 1) := by decide +kernel
theorem dX2_partTitle_10 : decode cX2_partTitle 10 = .ok (.iadd, 1) := by decide +kernel
theorem dX2_partTitle_11 : decode cX2_partTitle 11 = .ok (.invokevirtual 20, 3) := by decide +kernel
theorem dX2_partTitle_14 : decode cX2_partTitle 14 = .ok (.ireturn, 1) := by decide +kernel
def b_X2_partTitle_0 (d : Nat) (G : Nat → zK) (Q : zQ) : zK := o_al 0 <| o_il 1 <| o_c 2 <| o_il 2 <| o_gs <| o_c 2 <| o_iald <| o_mul <| o_add <| o_callv (zCt (d - 1) mX6_byteAt) 4 3 <| t_iret Q
set_option maxRecDepth 20000 in
theorem k_X2_partTitle_0 {p : Program} {l : Launch} {e : Env} {s : State} {m : MethodId} {args : Array Value} {below : List Frame} {meth : Method} {c : Code} {E : zE} {d : Nat} {Q : zQ} (hd1 : 1 ≤ d) (B : zB p s m args c E mX2_partTitle.1.cls mX2_partTitle.2.1 mX2_partTitle.2.2.1) (hr : meth.sig.returnType = mX2_partTitle.2.2.2) (hlk : meth.locks = false) : zLk (zG p l e (zrm d) s m args below meth c E mX2_partTitle.2.2.1 0 0 (MQ below (zQc E Q) args s 0 0 (zaA E))) 0 (b_X2_partTitle_0 d (zG p l e (zrm d) s m args below meth c E mX2_partTitle.2.2.1 0 0 (MQ below (zQc E Q) args s 0 0 (zaA E))) Q) := by
  unfold b_X2_partTitle_0
  exact lk_aln B dX2_partTitle_0 rfl (lk_iln B dX2_partTitle_1 rfl (lk_c B dX2_partTitle_2 (lk_iln B dX2_partTitle_3 rfl (lk_gs B zw_361 dX2_partTitle_4 (lk_c B dX2_partTitle_7 (lk_iald B dX2_partTitle_8 (lk_mul B dX2_partTitle_9 (lk_add B dX2_partTitle_10 (lk_callv (M := mX6_byteAt) (T := TX6) (N := 5) B (zhR hd1 (by decide)) ⟨Nat.zero_le _, Nat.zero_le _⟩ cl_X6 (zw5 zw_348 zw_345 zw_346 zw_347 zw_51) (by decide +kernel) dX2_partTitle_11 (lk_iret B hr hlk dX2_partTitle_14))))))))))
def S_X2_partTitle (d : Nat) (G : Nat → zK) (Q : zQ) : Prop := zLk G 0 (b_X2_partTitle_0 d G Q)
theorem s_X2_partTitle_0 {d : Nat} {G : Nat → zK} {Q : zQ} (h : S_X2_partTitle d G Q) {ls st : List zV} {μ : zM} (k : b_X2_partTitle_0 d G Q ls st μ) : G 0 ls st μ := h ls st μ k
theorem of_X2_partTitle {d : Nat} {a0 a1 a2 : zV} {μ : zM} {Q : zQ} (hd1 : 1 ≤ d) (h : ∀ G : Nat → zK, S_X2_partTitle d G Q → G 0 [a0, a1, a2] [] μ) : zCt d mX2_partTitle [a0, a1, a2] μ Q := zCt.mk (by decide) (Nat.le_of_ble_eq_true rfl) (fun p l e s m args below meth c E B hr hlk => h _ (k_X2_partTitle_0 hd1 B hr hlk))
theorem dX2_lengthAt_0 : decode cX2_lengthAt 0 = .ok (.aload_n 0, 1) := by decide +kernel
theorem dX2_lengthAt_1 : decode cX2_lengthAt 1 = .ok (.iload_n 1, 1) := by decide +kernel
theorem dX2_lengthAt_2 : decode cX2_lengthAt 2 = .ok (.invokestatic 62, 3) := by decide +kernel
theorem dX2_lengthAt_5 : decode cX2_lengthAt 5 = .ok (.ifCond .ne 5, 3) := by decide +kernel
theorem dX2_lengthAt_8 : decode cX2_lengthAt 8 = .ok (.iconst (-1), 1) := by decide +kernel
theorem dX2_lengthAt_9 : decode cX2_lengthAt 9 = .ok (.ireturn, 1) := by decide +kernel
theorem dX2_lengthAt_10 : decode cX2_lengthAt 10 = .ok (.aload_n 0, 1) := by decide +kernel
theorem dX2_lengthAt_11 : decode cX2_lengthAt 11 = .ok (.iload_n 1, 1) := by decide +kernel
theorem dX2_lengthAt_12 : decode cX2_lengthAt 12 = .ok (.invokevirtual 15, 3) := by decide +kernel
theorem dX2_lengthAt_15 : decode cX2_lengthAt 15 = .ok (.ifCond .ne 11, 3) := by decide +kernel
theorem dX2_lengthAt_18 : decode cX2_lengthAt 18 = .ok (.aload_n 0, 1) := by decide +kernel
theorem dX2_lengthAt_19 : decode cX2_lengthAt 19 = .ok (.iload_n 1, 1) := by decide +kernel
theorem dX2_lengthAt_20 : decode cX2_lengthAt 20 = .ok (.invokevirtual 9, 3) := by decide +kernel
theorem dX2_lengthAt_23 : decode cX2_lengthAt 23 = .ok (.iconst 1, 1) := by decide +kernel
theorem dX2_lengthAt_24 : decode cX2_lengthAt 24 = .ok (.isub, 1) := by decide +kernel
theorem dX2_lengthAt_25 : decode cX2_lengthAt 25 = .ok (.ireturn, 1) := by decide +kernel
theorem dX2_lengthAt_26 : decode cX2_lengthAt 26 = .ok (.iconst 0, 1) := by decide +kernel
theorem dX2_lengthAt_27 : decode cX2_lengthAt 27 = .ok (.istore_n 2, 1) := by decide +kernel
theorem dX2_lengthAt_28 : decode cX2_lengthAt 28 = .ok (.iconst 0, 1) := by decide +kernel
theorem dX2_lengthAt_29 : decode cX2_lengthAt 29 = .ok (.istore_n 3, 1) := by decide +kernel
theorem dX2_lengthAt_30 : decode cX2_lengthAt 30 = .ok (.iload_n 3, 1) := by decide +kernel
theorem dX2_lengthAt_31 : decode cX2_lengthAt 31 = .ok (.aload_n 0, 1) := by decide +kernel
theorem dX2_lengthAt_32 : decode cX2_lengthAt 32 = .ok (.iload_n 1, 1) := by decide +kernel
theorem dX2_lengthAt_33 : decode cX2_lengthAt 33 = .ok (.invokestatic 28, 3) := by decide +kernel
theorem dX2_lengthAt_36 : decode cX2_lengthAt 36 = .ok (.if_icmp .ge 18, 3) := by decide +kernel
theorem dX2_lengthAt_39 : decode cX2_lengthAt 39 = .ok (.iload_n 2, 1) := by decide +kernel
theorem dX2_lengthAt_40 : decode cX2_lengthAt 40 = .ok (.aload_n 0, 1) := by decide +kernel
theorem dX2_lengthAt_41 : decode cX2_lengthAt 41 = .ok (.iload_n 1, 1) := by decide +kernel
theorem dX2_lengthAt_42 : decode cX2_lengthAt 42 = .ok (.iload_n 3, 1) := by decide +kernel
theorem dX2_lengthAt_43 : decode cX2_lengthAt 43 = .ok (.invokestatic 48, 3) := by decide +kernel
theorem dX2_lengthAt_46 : decode cX2_lengthAt 46 = .ok (.iadd, 1) := by decide +kernel
theorem dX2_lengthAt_47 : decode cX2_lengthAt 47 = .ok (.istore_n 2, 1) := by decide +kernel
theorem dX2_lengthAt_48 : decode cX2_lengthAt 48 = .ok (.iinc 3 1, 3) := by decide +kernel
theorem dX2_lengthAt_51 : decode cX2_lengthAt 51 = .ok (.goto (-21), 3) := by decide +kernel
theorem dX2_lengthAt_54 : decode cX2_lengthAt 54 = .ok (.iload_n 2, 1) := by decide +kernel
theorem dX2_lengthAt_55 : decode cX2_lengthAt 55 = .ok (.ireturn, 1) := by decide +kernel
def b_X2_lengthAt_26 (d : Nat) (G : Nat → zK) (Q : zQ) : zK := o_c 0 <| o_is 2 <| o_c 0 <| o_is 3 <| G 30
def b_X2_lengthAt_18 (d : Nat) (G : Nat → zK) (Q : zQ) : zK := o_al 0 <| o_il 1 <| o_callv (zCt (d - 1) mX6_sizeAt) 4 2 <| o_c 1 <| o_sub <| t_iret Q
def b_X2_lengthAt_10 (d : Nat) (G : Nat → zK) (Q : zQ) : zK := o_al 0 <| o_il 1 <| o_callv (zCt (d - 1) mX6_kindAt) 4 2 <| t_zeq (b_X2_lengthAt_18 d G Q) (b_X2_lengthAt_26 d G Q)
def b_X2_lengthAt_8 (d : Nat) (G : Nat → zK) (Q : zQ) : zK := o_c (-1) <| t_iret Q
def b_X2_lengthAt_0 (d : Nat) (G : Nat → zK) (Q : zQ) : zK := o_al 0 <| o_il 1 <| o_call (zCt (d - 1) mX2_isFile) 2 <| t_zeq (b_X2_lengthAt_8 d G Q) (b_X2_lengthAt_10 d G Q)
def b_X2_lengthAt_54 (d : Nat) (G : Nat → zK) (Q : zQ) : zK := o_il 2 <| t_iret Q
def b_X2_lengthAt_39 (d : Nat) (G : Nat → zK) (Q : zQ) : zK := o_il 2 <| o_al 0 <| o_il 1 <| o_il 3 <| o_call (zCt (d - 1) mX2_partSize) 3 <| o_add <| o_is 2 <| o_inc 3 1 <| G 30
def b_X2_lengthAt_30 (d : Nat) (G : Nat → zK) (Q : zQ) : zK := o_il 3 <| o_al 0 <| o_il 1 <| o_call (zCt (d - 1) mX2_partCount) 2 <| t_ilt (b_X2_lengthAt_39 d G Q) (b_X2_lengthAt_54 d G Q)
set_option maxRecDepth 20000 in
theorem k_X2_lengthAt_26 {p : Program} {l : Launch} {e : Env} {s : State} {m : MethodId} {args : Array Value} {below : List Frame} {meth : Method} {c : Code} {E : zE} {d : Nat} {Q : zQ} (hd1 : 1 ≤ d) (B : zB p s m args c E mX2_lengthAt.1.cls mX2_lengthAt.2.1 mX2_lengthAt.2.2.1) (hr : meth.sig.returnType = mX2_lengthAt.2.2.2) (hlk : meth.locks = false) : zLk (zG p l e (zrm d) s m args below meth c E mX2_lengthAt.2.2.1 0 0 (MQ below (zQc E Q) args s 0 0 (zaA E))) 26 (b_X2_lengthAt_26 d (zG p l e (zrm d) s m args below meth c E mX2_lengthAt.2.2.1 0 0 (MQ below (zQc E Q) args s 0 0 (zaA E))) Q) := by
  unfold b_X2_lengthAt_26
  exact lk_c B dX2_lengthAt_26 (lk_isn B dX2_lengthAt_27 rfl (by decide) (lk_c B dX2_lengthAt_28 (lk_isn B dX2_lengthAt_29 rfl (by decide) (fun _ _ _ h => h))))
set_option maxRecDepth 20000 in
theorem k_X2_lengthAt_18 {p : Program} {l : Launch} {e : Env} {s : State} {m : MethodId} {args : Array Value} {below : List Frame} {meth : Method} {c : Code} {E : zE} {d : Nat} {Q : zQ} (hd1 : 1 ≤ d) (B : zB p s m args c E mX2_lengthAt.1.cls mX2_lengthAt.2.1 mX2_lengthAt.2.2.1) (hr : meth.sig.returnType = mX2_lengthAt.2.2.2) (hlk : meth.locks = false) : zLk (zG p l e (zrm d) s m args below meth c E mX2_lengthAt.2.2.1 0 0 (MQ below (zQc E Q) args s 0 0 (zaA E))) 18 (b_X2_lengthAt_18 d (zG p l e (zrm d) s m args below meth c E mX2_lengthAt.2.2.1 0 0 (MQ below (zQc E Q) args s 0 0 (zaA E))) Q) := by
  unfold b_X2_lengthAt_18
  exact lk_aln B dX2_lengthAt_18 rfl (lk_iln B dX2_lengthAt_19 rfl (lk_callv (M := mX6_sizeAt) (T := TX6) (N := 5) B (zhR hd1 (by decide)) ⟨Nat.zero_le _, Nat.zero_le _⟩ cl_X6 (zw5 zw_340 zw_337 zw_338 zw_339 zw_51) (by decide +kernel) dX2_lengthAt_20 (lk_c B dX2_lengthAt_23 (lk_sub B dX2_lengthAt_24 (lk_iret B hr hlk dX2_lengthAt_25)))))
set_option maxRecDepth 20000 in
theorem k_X2_lengthAt_10 {p : Program} {l : Launch} {e : Env} {s : State} {m : MethodId} {args : Array Value} {below : List Frame} {meth : Method} {c : Code} {E : zE} {d : Nat} {Q : zQ} (hd1 : 1 ≤ d) (B : zB p s m args c E mX2_lengthAt.1.cls mX2_lengthAt.2.1 mX2_lengthAt.2.2.1) (hr : meth.sig.returnType = mX2_lengthAt.2.2.2) (hlk : meth.locks = false) : zLk (zG p l e (zrm d) s m args below meth c E mX2_lengthAt.2.2.1 0 0 (MQ below (zQc E Q) args s 0 0 (zaA E))) 10 (b_X2_lengthAt_10 d (zG p l e (zrm d) s m args below meth c E mX2_lengthAt.2.2.1 0 0 (MQ below (zQc E Q) args s 0 0 (zaA E))) Q) := by
  unfold b_X2_lengthAt_10
  exact lk_aln B dX2_lengthAt_10 rfl (lk_iln B dX2_lengthAt_11 rfl (lk_callv (M := mX6_kindAt) (T := TX6) (N := 5) B (zhR hd1 (by decide)) ⟨Nat.zero_le _, Nat.zero_le _⟩ cl_X6 (zw5 zw_344 zw_341 zw_342 zw_343 zw_51) (by decide +kernel) dX2_lengthAt_12 (lk_zne B dX2_lengthAt_15 (by decide) (k_X2_lengthAt_26 hd1 B hr hlk) (k_X2_lengthAt_18 hd1 B hr hlk))))
set_option maxRecDepth 20000 in
theorem k_X2_lengthAt_8 {p : Program} {l : Launch} {e : Env} {s : State} {m : MethodId} {args : Array Value} {below : List Frame} {meth : Method} {c : Code} {E : zE} {d : Nat} {Q : zQ} (hd1 : 1 ≤ d) (B : zB p s m args c E mX2_lengthAt.1.cls mX2_lengthAt.2.1 mX2_lengthAt.2.2.1) (hr : meth.sig.returnType = mX2_lengthAt.2.2.2) (hlk : meth.locks = false) : zLk (zG p l e (zrm d) s m args below meth c E mX2_lengthAt.2.2.1 0 0 (MQ below (zQc E Q) args s 0 0 (zaA E))) 8 (b_X2_lengthAt_8 d (zG p l e (zrm d) s m args below meth c E mX2_lengthAt.2.2.1 0 0 (MQ below (zQc E Q) args s 0 0 (zaA E))) Q) := by
  unfold b_X2_lengthAt_8
  exact lk_c B dX2_lengthAt_8 (lk_iret B hr hlk dX2_lengthAt_9)
set_option maxRecDepth 20000 in
theorem k_X2_lengthAt_0 {p : Program} {l : Launch} {e : Env} {s : State} {m : MethodId} {args : Array Value} {below : List Frame} {meth : Method} {c : Code} {E : zE} {d : Nat} {Q : zQ} (hd1 : 1 ≤ d) (B : zB p s m args c E mX2_lengthAt.1.cls mX2_lengthAt.2.1 mX2_lengthAt.2.2.1) (hr : meth.sig.returnType = mX2_lengthAt.2.2.2) (hlk : meth.locks = false) : zLk (zG p l e (zrm d) s m args below meth c E mX2_lengthAt.2.2.1 0 0 (MQ below (zQc E Q) args s 0 0 (zaA E))) 0 (b_X2_lengthAt_0 d (zG p l e (zrm d) s m args below meth c E mX2_lengthAt.2.2.1 0 0 (MQ below (zQc E Q) args s 0 0 (zaA E))) Q) := by
  unfold b_X2_lengthAt_0
  exact lk_aln B dX2_lengthAt_0 rfl (lk_iln B dX2_lengthAt_1 rfl (lk_calls (M := mX2_isFile) B (zhR hd1 (by decide)) ⟨Nat.zero_le _, Nat.zero_le _⟩ (zw4 zw_555 zw_553 zw_554 zw_60) (by decide +kernel) dX2_lengthAt_2 (lk_zne B dX2_lengthAt_5 (by decide) (k_X2_lengthAt_10 hd1 B hr hlk) (k_X2_lengthAt_8 hd1 B hr hlk))))
set_option maxRecDepth 20000 in
theorem k_X2_lengthAt_54 {p : Program} {l : Launch} {e : Env} {s : State} {m : MethodId} {args : Array Value} {below : List Frame} {meth : Method} {c : Code} {E : zE} {d : Nat} {Q : zQ} (hd1 : 1 ≤ d) (B : zB p s m args c E mX2_lengthAt.1.cls mX2_lengthAt.2.1 mX2_lengthAt.2.2.1) (hr : meth.sig.returnType = mX2_lengthAt.2.2.2) (hlk : meth.locks = false) : zLk (zG p l e (zrm d) s m args below meth c E mX2_lengthAt.2.2.1 0 0 (MQ below (zQc E Q) args s 0 0 (zaA E))) 54 (b_X2_lengthAt_54 d (zG p l e (zrm d) s m args below meth c E mX2_lengthAt.2.2.1 0 0 (MQ below (zQc E Q) args s 0 0 (zaA E))) Q) := by
  unfold b_X2_lengthAt_54
  exact lk_iln B dX2_lengthAt_54 rfl (lk_iret B hr hlk dX2_lengthAt_55)
set_option maxRecDepth 20000 in
theorem k_X2_lengthAt_39 {p : Program} {l : Launch} {e : Env} {s : State} {m : MethodId} {args : Array Value} {below : List Frame} {meth : Method} {c : Code} {E : zE} {d : Nat} {Q : zQ} (hd1 : 1 ≤ d) (B : zB p s m args c E mX2_lengthAt.1.cls mX2_lengthAt.2.1 mX2_lengthAt.2.2.1) (hr : meth.sig.returnType = mX2_lengthAt.2.2.2) (hlk : meth.locks = false) : zLk (zG p l e (zrm d) s m args below meth c E mX2_lengthAt.2.2.1 0 0 (MQ below (zQc E Q) args s 0 0 (zaA E))) 39 (b_X2_lengthAt_39 d (zG p l e (zrm d) s m args below meth c E mX2_lengthAt.2.2.1 0 0 (MQ below (zQc E Q) args s 0 0 (zaA E))) Q) := by
  unfold b_X2_lengthAt_39
  exact lk_iln B dX2_lengthAt_39 rfl (lk_aln B dX2_lengthAt_40 rfl (lk_iln B dX2_lengthAt_41 rfl (lk_iln B dX2_lengthAt_42 rfl (lk_calls (M := mX2_partSize) B (zhR hd1 (by decide)) ⟨Nat.zero_le _, Nat.zero_le _⟩ (zw4 zw_378 zw_376 zw_377 zw_60) (by decide +kernel) dX2_lengthAt_43 (lk_add B dX2_lengthAt_46 (lk_isn B dX2_lengthAt_47 rfl (by decide) (lk_inc B dX2_lengthAt_48 (by decide) (lk_goto B dX2_lengthAt_51 (by decide) (fun _ _ _ h => h)))))))))
set_option maxRecDepth 20000 in
theorem k_X2_lengthAt_30 {p : Program} {l : Launch} {e : Env} {s : State} {m : MethodId} {args : Array Value} {below : List Frame} {meth : Method} {c : Code} {E : zE} {d : Nat} {Q : zQ} (hd1 : 1 ≤ d) (B : zB p s m args c E mX2_lengthAt.1.cls mX2_lengthAt.2.1 mX2_lengthAt.2.2.1) (hr : meth.sig.returnType = mX2_lengthAt.2.2.2) (hlk : meth.locks = false) : zLk (zG p l e (zrm d) s m args below meth c E mX2_lengthAt.2.2.1 0 0 (MQ below (zQc E Q) args s 0 0 (zaA E))) 30 (b_X2_lengthAt_30 d (zG p l e (zrm d) s m args below meth c E mX2_lengthAt.2.2.1 0 0 (MQ below (zQc E Q) args s 0 0 (zaA E))) Q) := by
  unfold b_X2_lengthAt_30
  exact lk_iln B dX2_lengthAt_30 rfl (lk_aln B dX2_lengthAt_31 rfl (lk_iln B dX2_lengthAt_32 rfl (lk_calls (M := mX2_partCount) B (zhR hd1 (by decide)) ⟨Nat.zero_le _, Nat.zero_le _⟩ (zw4 zw_354 zw_352 zw_353 zw_60) (by decide +kernel) dX2_lengthAt_33 (lk_ige B dX2_lengthAt_36 (by decide) (k_X2_lengthAt_54 hd1 B hr hlk) (k_X2_lengthAt_39 hd1 B hr hlk)))))
def S_X2_lengthAt (d : Nat) (G : Nat → zK) (Q : zQ) : Prop := zLk G 0 (b_X2_lengthAt_0 d G Q) ∧ zLk G 30 (b_X2_lengthAt_30 d G Q)
theorem s_X2_lengthAt_0 {d : Nat} {G : Nat → zK} {Q : zQ} (h : S_X2_lengthAt d G Q) {ls st : List zV} {μ : zM} (k : b_X2_lengthAt_0 d G Q ls st μ) : G 0 ls st μ := h.1 ls st μ k
theorem s_X2_lengthAt_30 {d : Nat} {G : Nat → zK} {Q : zQ} (h : S_X2_lengthAt d G Q) {ls st : List zV} {μ : zM} (k : b_X2_lengthAt_30 d G Q ls st μ) : G 30 ls st μ := h.2 ls st μ k
theorem of_X2_lengthAt {d : Nat} {a0 a1 : zV} {μ : zM} {Q : zQ} (hd1 : 1 ≤ d) (h : ∀ G : Nat → zK, S_X2_lengthAt d G Q → G 0 [a0, a1, .inr none, .inr none] [] μ) : zCt d mX2_lengthAt [a0, a1] μ Q := zCt.mk (by decide) (Nat.le_of_ble_eq_true rfl) (fun p l e s m args below meth c E B hr hlk => h _ ⟨k_X2_lengthAt_0 hd1 B hr hlk, k_X2_lengthAt_30 hd1 B hr hlk⟩)
theorem dX2_wayOf_0 : decode cX2_wayOf 0 = .ok (.bipush 37, 2) := by decide +kernel
theorem dX2_wayOf_2 : decode cX2_wayOf 2 = .ok (.iload_n 0, 1) := by decide +kernel
theorem dX2_wayOf_3 : decode cX2_wayOf 3 = .ok (.imul, 1) := by decide +kernel
theorem dX2_wayOf_4 : decode cX2_wayOf 4 = .ok (.sipush 255, 3) := by decide +kernel
theorem dX2_wayOf_7 : decode cX2_wayOf 7 = .ok (.iand, 1) := by decide +kernel
theorem dX2_wayOf_8 : decode cX2_wayOf 8 = .ok (.iconst 2, 1) := by decide +kernel
theorem dX2_wayOf_9 : decode cX2_wayOf 9 = .ok (.iload_n 1, 1) := by decide +kernel
theorem dX2_wayOf_10 : decode cX2_wayOf 10 = .ok (.imul, 1) := by decide +kernel
theorem dX2_wayOf_11 : decode cX2_wayOf 11 = .ok (.ishr, 1) := by decide +kernel
theorem dX2_wayOf_12 : decode cX2_wayOf 12 = .ok (.iconst 3, 1) := by decide +kernel
theorem dX2_wayOf_13 : decode cX2_wayOf 13 = .ok (.iand, 1) := by decide +kernel
theorem dX2_wayOf_14 : decode cX2_wayOf 14 = .ok (.ireturn, 1) := by decide +kernel
def b_X2_wayOf_0 (d : Nat) (G : Nat → zK) (Q : zQ) : zK := o_c 37 <| o_il 0 <| o_mul <| o_c 255 <| o_and <| o_c 2 <| o_il 1 <| o_mul <| o_shr <| o_c 3 <| o_and <| t_iret Q
set_option maxRecDepth 20000 in
theorem k_X2_wayOf_0 {p : Program} {l : Launch} {e : Env} {s : State} {m : MethodId} {args : Array Value} {below : List Frame} {meth : Method} {c : Code} {E : zE} {d : Nat} {Q : zQ} (B : zB p s m args c E mX2_wayOf.1.cls mX2_wayOf.2.1 mX2_wayOf.2.2.1) (hr : meth.sig.returnType = mX2_wayOf.2.2.2) (hlk : meth.locks = false) : zLk (zG p l e (zrm d) s m args below meth c E mX2_wayOf.2.2.1 0 0 (MQ below (zQc E Q) args s 0 0 (zaA E))) 0 (b_X2_wayOf_0 d (zG p l e (zrm d) s m args below meth c E mX2_wayOf.2.2.1 0 0 (MQ below (zQc E Q) args s 0 0 (zaA E))) Q) := by
  unfold b_X2_wayOf_0
  exact lk_b B dX2_wayOf_0 rfl (lk_iln B dX2_wayOf_2 rfl (lk_mul B dX2_wayOf_3 (lk_s B dX2_wayOf_4 rfl (lk_and B dX2_wayOf_7 (lk_c B dX2_wayOf_8 (lk_iln B dX2_wayOf_9 rfl (lk_mul B dX2_wayOf_10 (lk_shr B dX2_wayOf_11 (lk_c B dX2_wayOf_12 (lk_and B dX2_wayOf_13 (lk_iret B hr hlk dX2_wayOf_14)))))))))))
def S_X2_wayOf (d : Nat) (G : Nat → zK) (Q : zQ) : Prop := zLk G 0 (b_X2_wayOf_0 d G Q)
theorem s_X2_wayOf_0 {d : Nat} {G : Nat → zK} {Q : zQ} (h : S_X2_wayOf d G Q) {ls st : List zV} {μ : zM} (k : b_X2_wayOf_0 d G Q ls st μ) : G 0 ls st μ := h ls st μ k
theorem of_X2_wayOf {d : Nat} {a0 a1 : zV} {μ : zM} {Q : zQ} (h : ∀ G : Nat → zK, S_X2_wayOf d G Q → G 0 [a0, a1] [] μ) : zCt d mX2_wayOf [a0, a1] μ Q := zCt.mk (by decide) (Nat.le_of_ble_eq_true rfl) (fun p l e s m args below meth c E B hr hlk => h _ (k_X2_wayOf_0 B hr hlk))
