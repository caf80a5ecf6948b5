theorem dX4_readByte_0 : decode cX4_readByte 0 = .ok (.aload_n 0, 1) := by decide +kernel
theorem dX4_readByte_1 : decode cX4_readByte 1 = .ok (.iload_n 1, 1) := by decide +kernel
theorem dX4_readByte_2 : decode cX4_readByte 2 = .ok (.invokevirtual 9, 3) := by decide +kernel
theorem dX4_readByte_5 : decode cX4_readByte 5 = .ok (.istore_n 3, 1) := by decide +kernel
theorem dX4_readByte_6 : decode cX4_readByte 6 = .ok (.iload_n 2, 1) := by decide +kernel
theorem dX4_readByte_7 : decode cX4_readByte 7 = .ok (.istore 4, 2) := by decide +kernel
theorem dX4_readByte_9 : decode cX4_readByte 9 = .ok (.iload 4, 2) := by decide +kernel
theorem dX4_readByte_11 : decode cX4_readByte 11 = .ok (.ifCond .lt 13, 3) := by decide +kernel
theorem dX4_readByte_14 : decode cX4_readByte 14 = .ok (.iload 4, 2) := by decide +kernel
theorem dX4_readByte_16 : decode cX4_readByte 16 = .ok (.aload_n 0, 1) := by decide +kernel
theorem dX4_readByte_17 : decode cX4_readByte 17 = .ok (.iload_n 3, 1) := by decide +kernel
theorem dX4_readByte_18 : decode cX4_readByte 18 = .ok (.invokestatic 15, 3) := by decide +kernel
theorem dX4_readByte_21 : decode cX4_readByte 21 = .ok (.if_icmp .lt 5, 3) := by decide +kernel
theorem dX4_readByte_24 : decode cX4_readByte 24 = .ok (.iconst (-1), 1) := by decide +kernel
theorem dX4_readByte_25 : decode cX4_readByte 25 = .ok (.ireturn, 1) := by decide +kernel
theorem dX4_readByte_26 : decode cX4_readByte 26 = .ok (.iconst 0, 1) := by decide +kernel
theorem dX4_readByte_27 : decode cX4_readByte 27 = .ok (.istore 5, 2) := by decide +kernel
theorem dX4_readByte_29 : decode cX4_readByte 29 = .ok (.iload 5, 2) := by decide +kernel
theorem dX4_readByte_31 : decode cX4_readByte 31 = .ok (.bipush 10, 2) := by decide +kernel
theorem dX4_readByte_33 : decode cX4_readByte 33 = .ok (.if_icmp .gt 106, 3) := by decide +kernel
theorem dX4_readByte_36 : decode cX4_readByte 36 = .ok (.aload_n 0, 1) := by decide +kernel
theorem dX4_readByte_37 : decode cX4_readByte 37 = .ok (.iload_n 3, 1) := by decide +kernel
theorem dX4_readByte_38 : decode cX4_readByte 38 = .ok (.invokevirtual 23, 3) := by decide +kernel
theorem dX4_readByte_41 : decode cX4_readByte 41 = .ok (.ifCond .ne 13, 3) := by decide +kernel
theorem dX4_readByte_44 : decode cX4_readByte 44 = .ok (.aload_n 0, 1) := by decide +kernel
theorem dX4_readByte_45 : decode cX4_readByte 45 = .ok (.iload_n 3, 1) := by decide +kernel
theorem dX4_readByte_46 : decode cX4_readByte 46 = .ok (.iconst 1, 1) := by decide +kernel
theorem dX4_readByte_47 : decode cX4_readByte 47 = .ok (.iload 4, 2) := by decide +kernel
theorem dX4_readByte_49 : decode cX4_readByte 49 = .ok (.iadd, 1) := by decide +kernel
theorem dX4_readByte_50 : decode cX4_readByte 50 = .ok (.invokevirtual 26, 3) := by decide +kernel
theorem dX4_readByte_53 : decode cX4_readByte 53 = .ok (.ireturn, 1) := by decide +kernel
theorem dX4_readByte_54 : decode cX4_readByte 54 = .ok (.iconst 0, 1) := by decide +kernel
theorem dX4_readByte_55 : decode cX4_readByte 55 = .ok (.istore 6, 2) := by decide +kernel
theorem dX4_readByte_57 : decode cX4_readByte 57 = .ok (.iload 6, 2) := by decide +kernel
theorem dX4_readByte_59 : decode cX4_readByte 59 = .ok (.aload_n 0, 1) := by decide +kernel
theorem dX4_readByte_60 : decode cX4_readByte 60 = .ok (.iload_n 3, 1) := by decide +kernel
theorem dX4_readByte_61 : decode cX4_readByte 61 = .ok (.invokestatic 30, 3) := by decide +kernel
theorem dX4_readByte_64 : decode cX4_readByte 64 = .ok (.iconst 1, 1) := by decide +kernel
theorem dX4_readByte_65 : decode cX4_readByte 65 = .ok (.isub, 1) := by decide +kernel
theorem dX4_readByte_66 : decode cX4_readByte 66 = .ok (.if_icmp .ge 33, 3) := by decide +kernel
theorem dX4_readByte_69 : decode cX4_readByte 69 = .ok (.iload 4, 2) := by decide +kernel
theorem dX4_readByte_71 : decode cX4_readByte 71 = .ok (.aload_n 0, 1) := by decide +kernel
theorem dX4_readByte_72 : decode cX4_readByte 72 = .ok (.iload_n 3, 1) := by decide +kernel
theorem dX4_readByte_73 : decode cX4_readByte 73 = .ok (.iload 6, 2) := by decide +kernel
theorem dX4_readByte_75 : decode cX4_readByte 75 = .ok (.invokestatic 33, 3) := by decide +kernel
theorem dX4_readByte_78 : decode cX4_readByte 78 = .ok (.if_icmp .lt 21, 3) := by decide +kernel
theorem dX4_readByte_81 : decode cX4_readByte 81 = .ok (.iload 4, 2) := by decide +kernel
theorem dX4_readByte_83 : decode cX4_readByte 83 = .ok (.aload_n 0, 1) := by decide +kernel
theorem dX4_readByte_84 : decode cX4_readByte 84 = .ok (.iload_n 3, 1) := by decide +kernel
theorem dX4_readByte_85 : decode cX4_readByte 85 = .ok (.iload 6, 2) := by decide +kernel
theorem dX4_readByte_87 : decode cX4_readByte 87 = .ok (.invokestatic 33, 3) := by decide +kernel
theorem dX4_readByte_90 : decode cX4_readByte 90 = .ok (.isub, 1) := by decide +kernel
theorem dX4_readByte_91 : decode cX4_readByte 91 = .ok (.istore 4, 2) := by decide +kernel
theorem dX4_readByte_93 : decode cX4_readByte 93 = .ok (.iinc 6 1, 3) := by decide +kernel
theorem dX4_readByte_96 : decode cX4_readByte 96 = .ok (.goto (-39), 3) := by decide +kernel
theorem dX4_readByte_99 : decode cX4_readByte 99 = .ok (.aload_n 0, 1) := by decide +kernel
theorem dX4_readByte_100 : decode cX4_readByte 100 = .ok (.iload_n 3, 1) := by decide +kernel
theorem dX4_readByte_101 : decode cX4_readByte 101 = .ok (.iload 6, 2) := by decide +kernel
theorem dX4_readByte_103 : decode cX4_readByte 103 = .ok (.invokestatic 33, 3) := by decide +kernel
theorem dX4_readByte_106 : decode cX4_readByte 106 = .ok (.istore 7, 2) := by decide +kernel
theorem dX4_readByte_108 : decode cX4_readByte 108 = .ok (.aload_n 0, 1) := by decide +kernel
theorem dX4_readByte_109 : decode cX4_readByte 109 = .ok (.aload_n 0, 1) := by decide +kernel
theorem dX4_readByte_110 : decode cX4_readByte 110 = .ok (.iload_n 3, 1) := by decide +kernel
theorem dX4_readByte_111 : decode cX4_readByte 111 = .ok (.iload 6, 2) := by decide +kernel
theorem dX4_readByte_113 : decode cX4_readByte 113 = .ok (.invokestatic 37, 3) := by decide +kernel
theorem dX4_readByte_116 : decode cX4_readByte 116 = .ok (.invokevirtual 9, 3) := by decide +kernel
theorem dX4_readByte_119 : decode cX4_readByte 119 = .ok (.istore_n 3, 1) := by decide +kernel
theorem dX4_readByte_120 : decode cX4_readByte 120 = .ok (.aload_n 0, 1) := by decide +kernel
theorem dX4_readByte_121 : decode cX4_readByte 121 = .ok (.iload_n 3, 1) := by decide +kernel
theorem dX4_readByte_122 : decode cX4_readByte 122 = .ok (.invokestatic 15, 3) := by decide +kernel
theorem dX4_readByte_125 : decode cX4_readByte 125 = .ok (.iload 7, 2) := by decide +kernel
theorem dX4_readByte_127 : decode cX4_readByte 127 = .ok (.if_icmp .eq 6, 3) := by decide +kernel
theorem dX4_readByte_130 : decode cX4_readByte 130 = .ok (.bipush (-2), 2) := by decide +kernel
theorem dX4_readByte_132 : decode cX4_readByte 132 = .ok (.ireturn, 1) := by decide +kernel
theorem dX4_readByte_133 : decode cX4_readByte 133 = .ok (.iinc 5 1, 3) := by decide +kernel
theorem dX4_readByte_136 : decode cX4_readByte 136 = .ok (.goto (-107), 3) := by decide +kernel
theorem dX4_readByte_139 : decode cX4_readByte 139 = .ok (.bipush (-2), 2) := by decide +kernel
theorem dX4_readByte_141 : decode cX4_readByte 141 = .ok (.ireturn, 1) := by decide +kernel
def b_X4_readByte_24 (d : Nat) (G : Nat → zK) (Q : zQ) : zK := o_c (-1) <| t_iret Q
def b_X4_readByte_26 (d : Nat) (G : Nat → zK) (Q : zQ) : zK := o_c 0 <| o_is 5 <| G 29
def b_X4_readByte_14 (d : Nat) (G : Nat → zK) (Q : zQ) : zK := o_il 4 <| o_al 0 <| o_il 3 <| o_call (zCt (d - 1) mX2_lengthAt) 2 <| t_ilt (b_X4_readByte_26 d G Q) (b_X4_readByte_24 d G Q)
def b_X4_readByte_0 (d : Nat) (G : Nat → zK) (Q : zQ) : zK := o_al 0 <| o_il 1 <| o_callv (zCt (d - 1) mX6_slotOf) 4 2 <| o_is 3 <| o_il 2 <| o_is 4 <| o_il 4 <| t_zlt (b_X4_readByte_24 d G Q) (b_X4_readByte_14 d G Q)
def b_X4_readByte_139 (d : Nat) (G : Nat → zK) (Q : zQ) : zK := o_c (-2) <| t_iret Q
def b_X4_readByte_54 (d : Nat) (G : Nat → zK) (Q : zQ) : zK := o_c 0 <| o_is 6 <| G 57
def b_X4_readByte_44 (d : Nat) (G : Nat → zK) (Q : zQ) : zK := o_al 0 <| o_il 3 <| o_c 1 <| o_il 4 <| o_add <| o_callv (zCt (d - 1) mX6_byteAt) 4 3 <| t_iret Q
def b_X4_readByte_36 (d : Nat) (G : Nat → zK) (Q : zQ) : zK := o_al 0 <| o_il 3 <| o_callv (zCt (d - 1) mX6_kindAt) 4 2 <| t_zeq (b_X4_readByte_44 d G Q) (b_X4_readByte_54 d G Q)
def b_X4_readByte_29 (d : Nat) (G : Nat → zK) (Q : zQ) : zK := o_il 5 <| o_c 10 <| t_igt (b_X4_readByte_139 d G Q) (b_X4_readByte_36 d G Q)
def b_X4_readByte_81 (d : Nat) (G : Nat → zK) (Q : zQ) : zK := o_il 4 <| o_al 0 <| o_il 3 <| o_il 6 <| o_call (zCt (d - 1) mX2_partSize) 3 <| o_sub <| o_is 4 <| o_inc 6 1 <| G 57
def b_X4_readByte_69 (d : Nat) (G : Nat → zK) (Q : zQ) : zK := o_il 4 <| o_al 0 <| o_il 3 <| o_il 6 <| o_call (zCt (d - 1) mX2_partSize) 3 <| t_ilt (G 99) (b_X4_readByte_81 d G Q)
def b_X4_readByte_57 (d : Nat) (G : Nat → zK) (Q : zQ) : zK := o_il 6 <| o_al 0 <| o_il 3 <| o_call (zCt (d - 1) mX2_partCount) 2 <| o_c 1 <| o_sub <| t_ilt (b_X4_readByte_69 d G Q) (G 99)
def b_X4_readByte_133 (d : Nat) (G : Nat → zK) (Q : zQ) : zK := o_inc 5 1 <| G 29
def b_X4_readByte_130 (d : Nat) (G : Nat → zK) (Q : zQ) : zK := o_c (-2) <| t_iret Q
def b_X4_readByte_99 (d : Nat) (G : Nat → zK) (Q : zQ) : zK := o_al 0 <| o_il 3 <| o_il 6 <| o_call (zCt (d - 1) mX2_partSize) 3 <| o_is 7 <| o_al 0 <| o_al 0 <| o_il 3 <| o_il 6 <| o_call (zCt (d - 1) mX2_linkAt) 3 <| o_callv (zCt (d - 1) mX6_slotOf) 4 2 <| o_is 3 <| o_al 0 <| o_il 3 <| o_call (zCt (d - 1) mX2_lengthAt) 2 <| o_il 7 <| t_ieq (b_X4_readByte_133 d G Q) (b_X4_readByte_130 d G Q)
set_option maxRecDepth 20000 in
theorem k_X4_readByte_24 {p : Program} {l : Launch} {e : Env} {s : State} {m : MethodId} {args : Array Value} {below : List Frame} {meth : Method} {c : Code} {E : zE} {d : Nat} {Q : zQ} (hd1 : 1 ≤ d) (B : zB p s m args c E mX4_readByte.1.cls mX4_readByte.2.1 mX4_readByte.2.2.1) (hr : meth.sig.returnType = mX4_readByte.2.2.2) (hlk : meth.locks = false) : zLk (zG p l e (zrm d) s m args below meth c E mX4_readByte.2.2.1 0 0 (MQ below (zQc E Q) args s 0 0 (zaA E))) 24 (b_X4_readByte_24 d (zG p l e (zrm d) s m args below meth c E mX4_readByte.2.2.1 0 0 (MQ below (zQc E Q) args s 0 0 (zaA E))) Q) := by
  unfold b_X4_readByte_24
  exact lk_c B dX4_readByte_24 (lk_iret B hr hlk dX4_readByte_25)
set_option maxRecDepth 20000 in
theorem k_X4_readByte_26 {p : Program} {l : Launch} {e : Env} {s : State} {m : MethodId} {args : Array Value} {below : List Frame} {meth : Method} {c : Code} {E : zE} {d : Nat} {Q : zQ} (hd1 : 1 ≤ d) (B : zB p s m args c E mX4_readByte.1.cls mX4_readByte.2.1 mX4_readByte.2.2.1) (hr : meth.sig.returnType = mX4_readByte.2.2.2) (hlk : meth.locks = false) : zLk (zG p l e (zrm d) s m args below meth c E mX4_readByte.2.2.1 0 0 (MQ below (zQc E Q) args s 0 0 (zaA E))) 26 (b_X4_readByte_26 d (zG p l e (zrm d) s m args below meth c E mX4_readByte.2.2.1 0 0 (MQ below (zQc E Q) args s 0 0 (zaA E))) Q) := by
  unfold b_X4_readByte_26
  exact lk_c B dX4_readByte_26 (lk_is B dX4_readByte_27 (by decide) (fun _ _ _ h => h))
set_option maxRecDepth 20000 in
theorem k_X4_readByte_14 {p : Program} {l : Launch} {e : Env} {s : State} {m : MethodId} {args : Array Value} {below : List Frame} {meth : Method} {c : Code} {E : zE} {d : Nat} {Q : zQ} (hd1 : 1 ≤ d) (B : zB p s m args c E mX4_readByte.1.cls mX4_readByte.2.1 mX4_readByte.2.2.1) (hr : meth.sig.returnType = mX4_readByte.2.2.2) (hlk : meth.locks = false) : zLk (zG p l e (zrm d) s m args below meth c E mX4_readByte.2.2.1 0 0 (MQ below (zQc E Q) args s 0 0 (zaA E))) 14 (b_X4_readByte_14 d (zG p l e (zrm d) s m args below meth c E mX4_readByte.2.2.1 0 0 (MQ below (zQc E Q) args s 0 0 (zaA E))) Q) := by
  unfold b_X4_readByte_14
  exact lk_il B dX4_readByte_14 (lk_aln B dX4_readByte_16 rfl (lk_iln B dX4_readByte_17 rfl (lk_calls (M := mX2_lengthAt) B (zhR hd1 (by decide)) ⟨Nat.zero_le _, Nat.zero_le _⟩ (zw4 zw_552 zw_564 zw_551 zw_60) (by decide +kernel) dX4_readByte_18 (lk_ilt B dX4_readByte_21 (by decide) (k_X4_readByte_26 hd1 B hr hlk) (k_X4_readByte_24 hd1 B hr hlk)))))
set_option maxRecDepth 20000 in
theorem k_X4_readByte_0 {p : Program} {l : Launch} {e : Env} {s : State} {m : MethodId} {args : Array Value} {below : List Frame} {meth : Method} {c : Code} {E : zE} {d : Nat} {Q : zQ} (hd1 : 1 ≤ d) (B : zB p s m args c E mX4_readByte.1.cls mX4_readByte.2.1 mX4_readByte.2.2.1) (hr : meth.sig.returnType = mX4_readByte.2.2.2) (hlk : meth.locks = false) : zLk (zG p l e (zrm d) s m args below meth c E mX4_readByte.2.2.1 0 0 (MQ below (zQc E Q) args s 0 0 (zaA E))) 0 (b_X4_readByte_0 d (zG p l e (zrm d) s m args below meth c E mX4_readByte.2.2.1 0 0 (MQ below (zQc E Q) args s 0 0 (zaA E))) Q) := by
  unfold b_X4_readByte_0
  exact lk_aln B dX4_readByte_0 rfl (lk_iln B dX4_readByte_1 rfl (lk_callv (M := mX6_slotOf) (T := TX6) (N := 5) B (zhR hd1 (by decide)) ⟨Nat.zero_le _, Nat.zero_le _⟩ cl_X6 (zw5 zw_310 zw_563 zw_308 zw_309 zw_51) (by decide +kernel) dX4_readByte_2 (lk_isn B dX4_readByte_5 rfl (by decide) (lk_iln B dX4_readByte_6 rfl (lk_is B dX4_readByte_7 (by decide) (lk_il B dX4_readByte_9 (lk_zlt B dX4_readByte_11 (by decide) (k_X4_readByte_24 hd1 B hr hlk) (k_X4_readByte_14 hd1 B hr hlk))))))))
set_option maxRecDepth 20000 in
theorem k_X4_readByte_139 {p : Program} {l : Launch} {e : Env} {s : State} {m : MethodId} {args : Array Value} {below : List Frame} {meth : Method} {c : Code} {E : zE} {d : Nat} {Q : zQ} (hd1 : 1 ≤ d) (B : zB p s m args c E mX4_readByte.1.cls mX4_readByte.2.1 mX4_readByte.2.2.1) (hr : meth.sig.returnType = mX4_readByte.2.2.2) (hlk : meth.locks = false) : zLk (zG p l e (zrm d) s m args below meth c E mX4_readByte.2.2.1 0 0 (MQ below (zQc E Q) args s 0 0 (zaA E))) 139 (b_X4_readByte_139 d (zG p l e (zrm d) s m args below meth c E mX4_readByte.2.2.1 0 0 (MQ below (zQc E Q) args s 0 0 (zaA E))) Q) := by
  unfold b_X4_readByte_139
  exact lk_b B dX4_readByte_139 rfl (lk_iret B hr hlk dX4_readByte_141)
set_option maxRecDepth 20000 in
theorem k_X4_readByte_54 {p : Program} {l : Launch} {e : Env} {s : State} {m : MethodId} {args : Array Value} {below : List Frame} {meth : Method} {c : Code} {E : zE} {d : Nat} {Q : zQ} (hd1 : 1 ≤ d) (B : zB p s m args c E mX4_readByte.1.cls mX4_readByte.2.1 mX4_readByte.2.2.1) (hr : meth.sig.returnType = mX4_readByte.2.2.2) (hlk : meth.locks = false) : zLk (zG p l e (zrm d) s m args below meth c E mX4_readByte.2.2.1 0 0 (MQ below (zQc E Q) args s 0 0 (zaA E))) 54 (b_X4_readByte_54 d (zG p l e (zrm d) s m args below meth c E mX4_readByte.2.2.1 0 0 (MQ below (zQc E Q) args s 0 0 (zaA E))) Q) := by
  unfold b_X4_readByte_54
  exact lk_c B dX4_readByte_54 (lk_is B dX4_readByte_55 (by decide) (fun _ _ _ h => h))
set_option maxRecDepth 20000 in
theorem k_X4_readByte_44 {p : Program} {l : Launch} {e : Env} {s : State} {m : MethodId} {args : Array Value} {below : List Frame} {meth : Method} {c : Code} {E : zE} {d : Nat} {Q : zQ} (hd1 : 1 ≤ d) (B : zB p s m args c E mX4_readByte.1.cls mX4_readByte.2.1 mX4_readByte.2.2.1) (hr : meth.sig.returnType = mX4_readByte.2.2.2) (hlk : meth.locks = false) : zLk (zG p l e (zrm d) s m args below meth c E mX4_readByte.2.2.1 0 0 (MQ below (zQc E Q) args s 0 0 (zaA E))) 44 (b_X4_readByte_44 d (zG p l e (zrm d) s m args below meth c E mX4_readByte.2.2.1 0 0 (MQ below (zQc E Q) args s 0 0 (zaA E))) Q) := by
  unfold b_X4_readByte_44
  exact lk_aln B dX4_readByte_44 rfl (lk_iln B dX4_readByte_45 rfl (lk_c B dX4_readByte_46 (lk_il B dX4_readByte_47 (lk_add B dX4_readByte_49 (lk_callv (M := mX6_byteAt) (T := TX6) (N := 5) B (zhR hd1 (by decide)) ⟨Nat.zero_le _, Nat.zero_le _⟩ cl_X6 (zw5 zw_348 zw_566 zw_346 zw_347 zw_51) (by decide +kernel) dX4_readByte_50 (lk_iret B hr hlk dX4_readByte_53))))))
set_option maxRecDepth 20000 in
theorem k_X4_readByte_36 {p : Program} {l : Launch} {e : Env} {s : State} {m : MethodId} {args : Array Value} {below : List Frame} {meth : Method} {c : Code} {E : zE} {d : Nat} {Q : zQ} (hd1 : 1 ≤ d) (B : zB p s m args c E mX4_readByte.1.cls mX4_readByte.2.1 mX4_readByte.2.2.1) (hr : meth.sig.returnType = mX4_readByte.2.2.2) (hlk : meth.locks = false) : zLk (zG p l e (zrm d) s m args below meth c E mX4_readByte.2.2.1 0 0 (MQ below (zQc E Q) args s 0 0 (zaA E))) 36 (b_X4_readByte_36 d (zG p l e (zrm d) s m args below meth c E mX4_readByte.2.2.1 0 0 (MQ below (zQc E Q) args s 0 0 (zaA E))) Q) := by
  unfold b_X4_readByte_36
  exact lk_aln B dX4_readByte_36 rfl (lk_iln B dX4_readByte_37 rfl (lk_callv (M := mX6_kindAt) (T := TX6) (N := 5) B (zhR hd1 (by decide)) ⟨Nat.zero_le _, Nat.zero_le _⟩ cl_X6 (zw5 zw_344 zw_565 zw_342 zw_343 zw_51) (by decide +kernel) dX4_readByte_38 (lk_zne B dX4_readByte_41 (by decide) (k_X4_readByte_54 hd1 B hr hlk) (k_X4_readByte_44 hd1 B hr hlk))))
set_option maxRecDepth 20000 in
theorem k_X4_readByte_29 {p : Program} {l : Launch} {e : Env} {s : State} {m : MethodId} {args : Array Value} {below : List Frame} {meth : Method} {c : Code} {E : zE} {d : Nat} {Q : zQ} (hd1 : 1 ≤ d) (B : zB p s m args c E mX4_readByte.1.cls mX4_readByte.2.1 mX4_readByte.2.2.1) (hr : meth.sig.returnType = mX4_readByte.2.2.2) (hlk : meth.locks = false) : zLk (zG p l e (zrm d) s m args below meth c E mX4_readByte.2.2.1 0 0 (MQ below (zQc E Q) args s 0 0 (zaA E))) 29 (b_X4_readByte_29 d (zG p l e (zrm d) s m args below meth c E mX4_readByte.2.2.1 0 0 (MQ below (zQc E Q) args s 0 0 (zaA E))) Q) := by
  unfold b_X4_readByte_29
  exact lk_il B dX4_readByte_29 (lk_b B dX4_readByte_31 rfl (lk_igt B dX4_readByte_33 (by decide) (k_X4_readByte_139 hd1 B hr hlk) (k_X4_readByte_36 hd1 B hr hlk)))
set_option maxRecDepth 20000 in
theorem k_X4_readByte_81 {p : Program} {l : Launch} {e : Env} {s : State} {m : MethodId} {args : Array Value} {below : List Frame} {meth : Method} {c : Code} {E : zE} {d : Nat} {Q : zQ} (hd1 : 1 ≤ d) (B : zB p s m args c E mX4_readByte.1.cls mX4_readByte.2.1 mX4_readByte.2.2.1) (hr : meth.sig.returnType = mX4_readByte.2.2.2) (hlk : meth.locks = false) : zLk (zG p l e (zrm d) s m args below meth c E mX4_readByte.2.2.1 0 0 (MQ below (zQc E Q) args s 0 0 (zaA E))) 81 (b_X4_readByte_81 d (zG p l e (zrm d) s m args below meth c E mX4_readByte.2.2.1 0 0 (MQ below (zQc E Q) args s 0 0 (zaA E))) Q) := by
  unfold b_X4_readByte_81
  exact lk_il B dX4_readByte_81 (lk_aln B dX4_readByte_83 rfl (lk_iln B dX4_readByte_84 rfl (lk_il B dX4_readByte_85 (lk_calls (M := mX2_partSize) B (zhR hd1 (by decide)) ⟨Nat.zero_le _, Nat.zero_le _⟩ (zw4 zw_378 zw_568 zw_377 zw_60) (by decide +kernel) dX4_readByte_87 (lk_sub B dX4_readByte_90 (lk_is B dX4_readByte_91 (by decide) (lk_inc B dX4_readByte_93 (by decide) (lk_goto B dX4_readByte_96 (by decide) (fun _ _ _ h => h)))))))))
set_option maxRecDepth 20000 in
theorem k_X4_readByte_69 {p : Program} {l : Launch} {e : Env} {s : State} {m : MethodId} {args : Array Value} {below : List Frame} {meth : Method} {c : Code} {E : zE} {d : Nat} {Q : zQ} (hd1 : 1 ≤ d) (B : zB p s m args c E mX4_readByte.1.cls mX4_readByte.2.1 mX4_readByte.2.2.1) (hr : meth.sig.returnType = mX4_readByte.2.2.2) (hlk : meth.locks = false) : zLk (zG p l e (zrm d) s m args below meth c E mX4_readByte.2.2.1 0 0 (MQ below (zQc E Q) args s 0 0 (zaA E))) 69 (b_X4_readByte_69 d (zG p l e (zrm d) s m args below meth c E mX4_readByte.2.2.1 0 0 (MQ below (zQc E Q) args s 0 0 (zaA E))) Q) := by
  unfold b_X4_readByte_69
  exact lk_il B dX4_readByte_69 (lk_aln B dX4_readByte_71 rfl (lk_iln B dX4_readByte_72 rfl (lk_il B dX4_readByte_73 (lk_calls (M := mX2_partSize) B (zhR hd1 (by decide)) ⟨Nat.zero_le _, Nat.zero_le _⟩ (zw4 zw_378 zw_568 zw_377 zw_60) (by decide +kernel) dX4_readByte_75 (lk_ilt B dX4_readByte_78 (by decide) (fun _ _ _ h => h) (k_X4_readByte_81 hd1 B hr hlk))))))
set_option maxRecDepth 20000 in
theorem k_X4_readByte_57 {p : Program} {l : Launch} {e : Env} {s : State} {m : MethodId} {args : Array Value} {below : List Frame} {meth : Method} {c : Code} {E : zE} {d : Nat} {Q : zQ} (hd1 : 1 ≤ d) (B : zB p s m args c E mX4_readByte.1.cls mX4_readByte.2.1 mX4_readByte.2.2.1) (hr : meth.sig.returnType = mX4_readByte.2.2.2) (hlk : meth.locks = false) : zLk (zG p l e (zrm d) s m args below meth c E mX4_readByte.2.2.1 0 0 (MQ below (zQc E Q) args s 0 0 (zaA E))) 57 (b_X4_readByte_57 d (zG p l e (zrm d) s m args below meth c E mX4_readByte.2.2.1 0 0 (MQ below (zQc E Q) args s 0 0 (zaA E))) Q) := by
  unfold b_X4_readByte_57
  exact lk_il B dX4_readByte_57 (lk_aln B dX4_readByte_59 rfl (lk_iln B dX4_readByte_60 rfl (lk_calls (M := mX2_partCount) B (zhR hd1 (by decide)) ⟨Nat.zero_le _, Nat.zero_le _⟩ (zw4 zw_354 zw_567 zw_353 zw_60) (by decide +kernel) dX4_readByte_61 (lk_c B dX4_readByte_64 (lk_sub B dX4_readByte_65 (lk_ige B dX4_readByte_66 (by decide) (fun _ _ _ h => h) (k_X4_readByte_69 hd1 B hr hlk)))))))
set_option maxRecDepth 20000 in
theorem k_X4_readByte_133 {p : Program} {l : Launch} {e : Env} {s : State} {m : MethodId} {args : Array Value} {below : List Frame} {meth : Method} {c : Code} {E : zE} {d : Nat} {Q : zQ} (hd1 : 1 ≤ d) (B : zB p s m args c E mX4_readByte.1.cls mX4_readByte.2.1 mX4_readByte.2.2.1) (hr : meth.sig.returnType = mX4_readByte.2.2.2) (hlk : meth.locks = false) : zLk (zG p l e (zrm d) s m args below meth c E mX4_readByte.2.2.1 0 0 (MQ below (zQc E Q) args s 0 0 (zaA E))) 133 (b_X4_readByte_133 d (zG p l e (zrm d) s m args below meth c E mX4_readByte.2.2.1 0 0 (MQ below (zQc E Q) args s 0 0 (zaA E))) Q) := by
  unfold b_X4_readByte_133
  exact lk_inc B dX4_readByte_133 (by decide) (lk_goto B dX4_readByte_136 (by decide) (fun _ _ _ h => h))
set_option maxRecDepth 20000 in
theorem k_X4_readByte_130 {p : Program} {l : Launch} {e : Env} {s : State} {m : MethodId} {args : Array Value} {below : List Frame} {meth : Method} {c : Code} {E : zE} {d : Nat} {Q : zQ} (hd1 : 1 ≤ d) (B : zB p s m args c E mX4_readByte.1.cls mX4_readByte.2.1 mX4_readByte.2.2.1) (hr : meth.sig.returnType = mX4_readByte.2.2.2) (hlk : meth.locks = false) : zLk (zG p l e (zrm d) s m args below meth c E mX4_readByte.2.2.1 0 0 (MQ below (zQc E Q) args s 0 0 (zaA E))) 130 (b_X4_readByte_130 d (zG p l e (zrm d) s m args below meth c E mX4_readByte.2.2.1 0 0 (MQ below (zQc E Q) args s 0 0 (zaA E))) Q) := by
  unfold b_X4_readByte_130
  exact lk_b B dX4_readByte_130 rfl (lk_iret B hr hlk dX4_readByte_132)
set_option maxRecDepth 20000 in
theorem k_X4_readByte_99 {p : Program} {l : Launch} {e : Env} {s : State} {m : MethodId} {args : Array Value} {below : List Frame} {meth : Method} {c : Code} {E : zE} {d : Nat} {Q : zQ} (hd1 : 1 ≤ d) (B : zB p s m args c E mX4_readByte.1.cls mX4_readByte.2.1 mX4_readByte.2.2.1) (hr : meth.sig.returnType = mX4_readByte.2.2.2) (hlk : meth.locks = false) : zLk (zG p l e (zrm d) s m args below meth c E mX4_readByte.2.2.1 0 0 (MQ below (zQc E Q) args s 0 0 (zaA E))) 99 (b_X4_readByte_99 d (zG p l e (zrm d) s m args below meth c E mX4_readByte.2.2.1 0 0 (MQ below (zQc E Q) args s 0 0 (zaA E))) Q) := by
  unfold b_X4_readByte_99
  exact lk_aln B dX4_readByte_99 rfl (lk_iln B dX4_readByte_100 rfl (lk_il B dX4_readByte_101 (lk_calls (M := mX2_partSize) B (zhR hd1 (by decide)) ⟨Nat.zero_le _, Nat.zero_le _⟩ (zw4 zw_378 zw_568 zw_377 zw_60) (by decide +kernel) dX4_readByte_103 (lk_is B dX4_readByte_106 (by decide) (lk_aln B dX4_readByte_108 rfl (lk_aln B dX4_readByte_109 rfl (lk_iln B dX4_readByte_110 rfl (lk_il B dX4_readByte_111 (lk_calls (M := mX2_linkAt) B (zhR hd1 (by decide)) ⟨Nat.zero_le _, Nat.zero_le _⟩ (zw4 zw_368 zw_569 zw_367 zw_60) (by decide +kernel) dX4_readByte_113 (lk_callv (M := mX6_slotOf) (T := TX6) (N := 5) B (zhR hd1 (by decide)) ⟨Nat.zero_le _, Nat.zero_le _⟩ cl_X6 (zw5 zw_310 zw_563 zw_308 zw_309 zw_51) (by decide +kernel) dX4_readByte_116 (lk_isn B dX4_readByte_119 rfl (by decide) (lk_aln B dX4_readByte_120 rfl (lk_iln B dX4_readByte_121 rfl (lk_calls (M := mX2_lengthAt) B (zhR hd1 (by decide)) ⟨Nat.zero_le _, Nat.zero_le _⟩ (zw4 zw_552 zw_564 zw_551 zw_60) (by decide +kernel) dX4_readByte_122 (lk_il B dX4_readByte_125 (lk_ieq B dX4_readByte_127 (by decide) (k_X4_readByte_133 hd1 B hr hlk) (k_X4_readByte_130 hd1 B hr hlk)))))))))))))))))
def S_X4_readByte (d : Nat) (G : Nat → zK) (Q : zQ) : Prop := zLk G 0 (b_X4_readByte_0 d G Q) ∧ zLk G 29 (b_X4_readByte_29 d G Q) ∧ zLk G 57 (b_X4_readByte_57 d G Q) ∧ zLk G 99 (b_X4_readByte_99 d G Q)
theorem s_X4_readByte_0 {d : Nat} {G : Nat → zK} {Q : zQ} (h : S_X4_readByte d G Q) {ls st : List zV} {μ : zM} (k : b_X4_readByte_0 d G Q ls st μ) : G 0 ls st μ := h.1 ls st μ k
theorem s_X4_readByte_29 {d : Nat} {G : Nat → zK} {Q : zQ} (h : S_X4_readByte d G Q) {ls st : List zV} {μ : zM} (k : b_X4_readByte_29 d G Q ls st μ) : G 29 ls st μ := h.2.1 ls st μ k
theorem s_X4_readByte_57 {d : Nat} {G : Nat → zK} {Q : zQ} (h : S_X4_readByte d G Q) {ls st : List zV} {μ : zM} (k : b_X4_readByte_57 d G Q ls st μ) : G 57 ls st μ := h.2.2.1 ls st μ k
theorem s_X4_readByte_99 {d : Nat} {G : Nat → zK} {Q : zQ} (h : S_X4_readByte d G Q) {ls st : List zV} {μ : zM} (k : b_X4_readByte_99 d G Q ls st μ) : G 99 ls st μ := h.2.2.2 ls st μ k
theorem of_X4_readByte {d : Nat} {a0 a1 a2 : zV} {μ : zM} {Q : zQ} (hd1 : 1 ≤ d) (h : ∀ G : Nat → zK, S_X4_readByte d G Q → G 0 [a0, a1, a2, .inr none, .inr none, .inr none, .inr none, .inr none] [] μ) : zCt d mX4_readByte [a0, a1, a2] μ Q := zCt.mk (by decide) (Nat.le_of_ble_eq_true rfl) (fun p l e s m args below meth c E B hr hlk => h _ ⟨k_X4_readByte_0 hd1 B hr hlk, k_X4_readByte_29 hd1 B hr hlk, k_X4_readByte_57 hd1 B hr hlk, k_X4_readByte_99 hd1 B hr hlk⟩)
theorem dX4_findTitle_0 : decode cX4_findTitle 0 = .ok (.aload_n 0, 1) := by decide +kernel
theorem dX4_findTitle_1 : decode cX4_findTitle 1 = .ok (.iload_n 1, 1) := by decide +kernel
theorem dX4_findTitle_2 : decode cX4_findTitle 2 = .ok (.invokevirtual 9, 3) := by decide +kernel
theorem dX4_findTitle_5 : decode cX4_findTitle 5 = .ok (.istore_n 3, 1) := by decide +kernel
theorem dX4_findTitle_6 : decode cX4_findTitle 6 = .ok (.aload_n 0, 1) := by decide +kernel
theorem dX4_findTitle_7 : decode cX4_findTitle 7 = .ok (.iload_n 3, 1) := by decide +kernel
theorem dX4_findTitle_8 : decode cX4_findTitle 8 = .ok (.invokestatic 40, 3) := by decide +kernel
theorem dX4_findTitle_11 : decode cX4_findTitle 11 = .ok (.ifCond .ne 5, 3) := by decide +kernel
theorem dX4_findTitle_14 : decode cX4_findTitle 14 = .ok (.iconst (-1), 1) := by decide +kernel
theorem dX4_findTitle_15 : decode cX4_findTitle 15 = .ok (.ireturn, 1) := by decide +kernel
theorem dX4_findTitle_16 : decode cX4_findTitle 16 = .ok (.iconst 0, 1) := by decide +kernel
theorem dX4_findTitle_17 : decode cX4_findTitle 17 = .ok (.istore 4, 2) := by decide +kernel
theorem dX4_findTitle_19 : decode cX4_findTitle 19 = .ok (.iload 4, 2) := by decide +kernel
theorem dX4_findTitle_21 : decode cX4_findTitle 21 = .ok (.iconst 4, 1) := by decide +kernel
theorem dX4_findTitle_22 : decode cX4_findTitle 22 = .ok (.if_icmp .ge 72, 3) := by decide +kernel
theorem dX4_findTitle_25 : decode cX4_findTitle 25 = .ok (.aload_n 0, 1) := by decide +kernel
theorem dX4_findTitle_26 : decode cX4_findTitle 26 = .ok (.iload_n 3, 1) := by decide +kernel
theorem dX4_findTitle_27 : decode cX4_findTitle 27 = .ok (.invokevirtual 23, 3) := by decide +kernel
theorem dX4_findTitle_30 : decode cX4_findTitle 30 = .ok (.iconst 3, 1) := by decide +kernel
theorem dX4_findTitle_31 : decode cX4_findTitle 31 = .ok (.if_icmp .ne 63, 3) := by decide +kernel
theorem dX4_findTitle_34 : decode cX4_findTitle 34 = .ok (.aload_n 0, 1) := by decide +kernel
theorem dX4_findTitle_35 : decode cX4_findTitle 35 = .ok (.iload_n 3, 1) := by decide +kernel
theorem dX4_findTitle_36 : decode cX4_findTitle 36 = .ok (.iconst 1, 1) := by decide +kernel
theorem dX4_findTitle_37 : decode cX4_findTitle 37 = .ok (.invokevirtual 26, 3) := by decide +kernel
theorem dX4_findTitle_40 : decode cX4_findTitle 40 = .ok (.istore 5, 2) := by decide +kernel
theorem dX4_findTitle_42 : decode cX4_findTitle 42 = .ok (.iload_n 2, 1) := by decide +kernel
theorem dX4_findTitle_43 : decode cX4_findTitle 43 = .ok (.iload 4, 2) := by decide +kernel
theorem dX4_findTitle_45 : decode cX4_findTitle 45 = .ok (.invokestatic 44, 3) := by decide +kernel
theorem dX4_findTitle_48 : decode cX4_findTitle 48 = .ok (.istore 6, 2) := by decide +kernel
theorem dX4_findTitle_50 : decode cX4_findTitle 50 = .ok (.iload 5, 2) := by decide +kernel
theorem dX4_findTitle_52 : decode cX4_findTitle 52 = .ok (.iload 6, 2) := by decide +kernel
theorem dX4_findTitle_54 : decode cX4_findTitle 54 = .ok (.ishr, 1) := by decide +kernel
theorem dX4_findTitle_55 : decode cX4_findTitle 55 = .ok (.iconst 1, 1) := by decide +kernel
theorem dX4_findTitle_56 : decode cX4_findTitle 56 = .ok (.iand, 1) := by decide +kernel
theorem dX4_findTitle_57 : decode cX4_findTitle 57 = .ok (.ifCond .ne 5, 3) := by decide +kernel
theorem dX4_findTitle_60 : decode cX4_findTitle 60 = .ok (.iconst (-1), 1) := by decide +kernel
theorem dX4_findTitle_61 : decode cX4_findTitle 61 = .ok (.ireturn, 1) := by decide +kernel
theorem dX4_findTitle_62 : decode cX4_findTitle 62 = .ok (.iload 5, 2) := by decide +kernel
theorem dX4_findTitle_64 : decode cX4_findTitle 64 = .ok (.iconst 1, 1) := by decide +kernel
theorem dX4_findTitle_65 : decode cX4_findTitle 65 = .ok (.iload 6, 2) := by decide +kernel
theorem dX4_findTitle_67 : decode cX4_findTitle 67 = .ok (.ishl, 1) := by decide +kernel
theorem dX4_findTitle_68 : decode cX4_findTitle 68 = .ok (.iconst 1, 1) := by decide +kernel
theorem dX4_findTitle_69 : decode cX4_findTitle 69 = .ok (.isub, 1) := by decide +kernel
theorem dX4_findTitle_70 : decode cX4_findTitle 70 = .ok (.iand, 1) := by decide +kernel
theorem dX4_findTitle_71 : decode cX4_findTitle 71 = .ok (.invokestatic 47, 3) := by decide +kernel
theorem dX4_findTitle_74 : decode cX4_findTitle 74 = .ok (.istore 7, 2) := by decide +kernel
theorem dX4_findTitle_76 : decode cX4_findTitle 76 = .ok (.aload_n 0, 1) := by decide +kernel
theorem dX4_findTitle_77 : decode cX4_findTitle 77 = .ok (.aload_n 0, 1) := by decide +kernel
theorem dX4_findTitle_78 : decode cX4_findTitle 78 = .ok (.iload_n 3, 1) := by decide +kernel
theorem dX4_findTitle_79 : decode cX4_findTitle 79 = .ok (.iload 7, 2) := by decide +kernel
theorem dX4_findTitle_81 : decode cX4_findTitle 81 = .ok (.invokestatic 37, 3) := by decide +kernel
theorem dX4_findTitle_84 : decode cX4_findTitle 84 = .ok (.invokevirtual 9, 3) := by decide +kernel
theorem dX4_findTitle_87 : decode cX4_findTitle 87 = .ok (.istore_n 3, 1) := by decide +kernel
theorem dX4_findTitle_88 : decode cX4_findTitle 88 = .ok (.iinc 4 1, 3) := by decide +kernel
theorem dX4_findTitle_91 : decode cX4_findTitle 91 = .ok (.goto (-72), 3) := by decide +kernel
theorem dX4_findTitle_94 : decode cX4_findTitle 94 = .ok (.aload_n 0, 1) := by decide +kernel
theorem dX4_findTitle_95 : decode cX4_findTitle 95 = .ok (.iload_n 3, 1) := by decide +kernel
theorem dX4_findTitle_96 : decode cX4_findTitle 96 = .ok (.invokevirtual 23, 3) := by decide +kernel
theorem dX4_findTitle_99 : decode cX4_findTitle 99 = .ok (.iconst 2, 1) := by decide +kernel
theorem dX4_findTitle_100 : decode cX4_findTitle 100 = .ok (.if_icmp .ne 12, 3) := by decide +kernel
theorem dX4_findTitle_103 : decode cX4_findTitle 103 = .ok (.aload_n 0, 1) := by decide +kernel
theorem dX4_findTitle_104 : decode cX4_findTitle 104 = .ok (.iload_n 3, 1) := by decide +kernel
theorem dX4_findTitle_105 : decode cX4_findTitle 105 = .ok (.iload_n 2, 1) := by decide +kernel
theorem dX4_findTitle_106 : decode cX4_findTitle 106 = .ok (.invokestatic 52, 3) := by decide +kernel
theorem dX4_findTitle_109 : decode cX4_findTitle 109 = .ok (.goto 5, 3) := by decide +kernel
theorem dX4_findTitle_112 : decode cX4_findTitle 112 = .ok (.bipush (-2), 2) := by decide +kernel
theorem dX4_findTitle_114 : decode cX4_findTitle 114 = .ok (.ireturn, 1) := by decide +kernel
def b_X4_findTitle_16 (d : Nat) (G : Nat → zK) (Q : zQ) : zK := o_c 0 <| o_is 4 <| G 19
def b_X4_findTitle_14 (d : Nat) (G : Nat → zK) (Q : zQ) : zK := o_c (-1) <| t_iret Q
def b_X4_findTitle_0 (d : Nat) (G : Nat → zK) (Q : zQ) : zK := o_al 0 <| o_il 1 <| o_callv (zCt (d - 1) mX6_slotOf) 4 2 <| o_is 3 <| o_al 0 <| o_il 3 <| o_call (zCt (d - 1) mX2_isFolderOrShard) 2 <| t_zeq (b_X4_findTitle_14 d G Q) (b_X4_findTitle_16 d G Q)
def b_X4_findTitle_114 (d : Nat) (G : Nat → zK) (Q : zQ) : zK := t_iret Q
def b_X4_findTitle_112 (d : Nat) (G : Nat → zK) (Q : zQ) : zK := o_c (-2) <| b_X4_findTitle_114 d G Q
def b_X4_findTitle_103 (d : Nat) (G : Nat → zK) (Q : zQ) : zK := o_al 0 <| o_il 3 <| o_il 2 <| o_call (zCt (d - 1) mX4_linkOfTitle) 3 <| b_X4_findTitle_114 d G Q
def b_X4_findTitle_94 (d : Nat) (G : Nat → zK) (Q : zQ) : zK := o_al 0 <| o_il 3 <| o_callv (zCt (d - 1) mX6_kindAt) 4 2 <| o_c 2 <| t_ieq (b_X4_findTitle_103 d G Q) (b_X4_findTitle_112 d G Q)
def b_X4_findTitle_62 (d : Nat) (G : Nat → zK) (Q : zQ) : zK := o_il 5 <| o_c 1 <| o_il 6 <| o_shl <| o_c 1 <| o_sub <| o_and <| o_call (zCt (d - 1) mJ6_bitCount_0f7a4) 1 <| o_is 7 <| o_al 0 <| o_al 0 <| o_il 3 <| o_il 7 <| o_call (zCt (d - 1) mX2_linkAt) 3 <| o_callv (zCt (d - 1) mX6_slotOf) 4 2 <| o_is 3 <| o_inc 4 1 <| G 19
def b_X4_findTitle_60 (d : Nat) (G : Nat → zK) (Q : zQ) : zK := o_c (-1) <| t_iret Q
def b_X4_findTitle_34 (d : Nat) (G : Nat → zK) (Q : zQ) : zK := o_al 0 <| o_il 3 <| o_c 1 <| o_callv (zCt (d - 1) mX6_byteAt) 4 3 <| o_is 5 <| o_il 2 <| o_il 4 <| o_call (zCt (d - 1) mX2_wayOf) 2 <| o_is 6 <| o_il 5 <| o_il 6 <| o_shr <| o_c 1 <| o_and <| t_zeq (b_X4_findTitle_60 d G Q) (b_X4_findTitle_62 d G Q)
def b_X4_findTitle_25 (d : Nat) (G : Nat → zK) (Q : zQ) : zK := o_al 0 <| o_il 3 <| o_callv (zCt (d - 1) mX6_kindAt) 4 2 <| o_c 3 <| t_ieq (b_X4_findTitle_34 d G Q) (b_X4_findTitle_94 d G Q)
def b_X4_findTitle_19 (d : Nat) (G : Nat → zK) (Q : zQ) : zK := o_il 4 <| o_c 4 <| t_ilt (b_X4_findTitle_25 d G Q) (b_X4_findTitle_94 d G Q)
set_option maxRecDepth 20000 in
theorem k_X4_findTitle_16 {p : Program} {l : Launch} {e : Env} {s : State} {m : MethodId} {args : Array Value} {below : List Frame} {meth : Method} {c : Code} {E : zE} {d : Nat} {Q : zQ} (hd1 : 1 ≤ d) (B : zB p s m args c E mX4_findTitle.1.cls mX4_findTitle.2.1 mX4_findTitle.2.2.1) (hr : meth.sig.returnType = mX4_findTitle.2.2.2) (hlk : meth.locks = false) : zLk (zG p l e (zrm d) s m args below meth c E mX4_findTitle.2.2.1 0 0 (MQ below (zQc E Q) args s 0 0 (zaA E))) 16 (b_X4_findTitle_16 d (zG p l e (zrm d) s m args below meth c E mX4_findTitle.2.2.1 0 0 (MQ below (zQc E Q) args s 0 0 (zaA E))) Q) := by
  unfold b_X4_findTitle_16
  exact lk_c B dX4_findTitle_16 (lk_is B dX4_findTitle_17 (by decide) (fun _ _ _ h => h))
set_option maxRecDepth 20000 in
theorem k_X4_findTitle_14 {p : Program} {l : Launch} {e : Env} {s : State} {m : MethodId} {args : Array Value} {below : List Frame} {meth : Method} {c : Code} {E : zE} {d : Nat} {Q : zQ} (hd1 : 1 ≤ d) (B : zB p s m args c E mX4_findTitle.1.cls mX4_findTitle.2.1 mX4_findTitle.2.2.1) (hr : meth.sig.returnType = mX4_findTitle.2.2.2) (hlk : meth.locks = false) : zLk (zG p l e (zrm d) s m args below meth c E mX4_findTitle.2.2.1 0 0 (MQ below (zQc E Q) args s 0 0 (zaA E))) 14 (b_X4_findTitle_14 d (zG p l e (zrm d) s m args below meth c E mX4_findTitle.2.2.1 0 0 (MQ below (zQc E Q) args s 0 0 (zaA E))) Q) := by
  unfold b_X4_findTitle_14
  exact lk_c B dX4_findTitle_14 (lk_iret B hr hlk dX4_findTitle_15)
set_option maxRecDepth 20000 in
theorem k_X4_findTitle_0 {p : Program} {l : Launch} {e : Env} {s : State} {m : MethodId} {args : Array Value} {below : List Frame} {meth : Method} {c : Code} {E : zE} {d : Nat} {Q : zQ} (hd1 : 1 ≤ d) (B : zB p s m args c E mX4_findTitle.1.cls mX4_findTitle.2.1 mX4_findTitle.2.2.1) (hr : meth.sig.returnType = mX4_findTitle.2.2.2) (hlk : meth.locks = false) : zLk (zG p l e (zrm d) s m args below meth c E mX4_findTitle.2.2.1 0 0 (MQ below (zQc E Q) args s 0 0 (zaA E))) 0 (b_X4_findTitle_0 d (zG p l e (zrm d) s m args below meth c E mX4_findTitle.2.2.1 0 0 (MQ below (zQc E Q) args s 0 0 (zaA E))) Q) := by
  unfold b_X4_findTitle_0
  exact lk_aln B dX4_findTitle_0 rfl (lk_iln B dX4_findTitle_1 rfl (lk_callv (M := mX6_slotOf) (T := TX6) (N := 5) B (zhR hd1 (by decide)) ⟨Nat.zero_le _, Nat.zero_le _⟩ cl_X6 (zw5 zw_310 zw_563 zw_308 zw_309 zw_51) (by decide +kernel) dX4_findTitle_2 (lk_isn B dX4_findTitle_5 rfl (by decide) (lk_aln B dX4_findTitle_6 rfl (lk_iln B dX4_findTitle_7 rfl (lk_calls (M := mX2_isFolderOrShard) B (zhR hd1 (by decide)) ⟨Nat.zero_le _, Nat.zero_le _⟩ (zw4 zw_579 zw_577 zw_578 zw_60) (by decide +kernel) dX4_findTitle_8 (lk_zne B dX4_findTitle_11 (by decide) (k_X4_findTitle_16 hd1 B hr hlk) (k_X4_findTitle_14 hd1 B hr hlk))))))))
set_option maxRecDepth 20000 in
theorem k_X4_findTitle_114 {p : Program} {l : Launch} {e : Env} {s : State} {m : MethodId} {args : Array Value} {below : List Frame} {meth : Method} {c : Code} {E : zE} {d : Nat} {Q : zQ} (hd1 : 1 ≤ d) (B : zB p s m args c E mX4_findTitle.1.cls mX4_findTitle.2.1 mX4_findTitle.2.2.1) (hr : meth.sig.returnType = mX4_findTitle.2.2.2) (hlk : meth.locks = false) : zLk (zG p l e (zrm d) s m args below meth c E mX4_findTitle.2.2.1 0 0 (MQ below (zQc E Q) args s 0 0 (zaA E))) 114 (b_X4_findTitle_114 d (zG p l e (zrm d) s m args below meth c E mX4_findTitle.2.2.1 0 0 (MQ below (zQc E Q) args s 0 0 (zaA E))) Q) := by
  unfold b_X4_findTitle_114
  exact lk_iret B hr hlk dX4_findTitle_114
set_option maxRecDepth 20000 in
theorem k_X4_findTitle_112 {p : Program} {l : Launch} {e : Env} {s : State} {m : MethodId} {args : Array Value} {below : List Frame} {meth : Method} {c : Code} {E : zE} {d : Nat} {Q : zQ} (hd1 : 1 ≤ d) (B : zB p s m args c E mX4_findTitle.1.cls mX4_findTitle.2.1 mX4_findTitle.2.2.1) (hr : meth.sig.returnType = mX4_findTitle.2.2.2) (hlk : meth.locks = false) : zLk (zG p l e (zrm d) s m args below meth c E mX4_findTitle.2.2.1 0 0 (MQ below (zQc E Q) args s 0 0 (zaA E))) 112 (b_X4_findTitle_112 d (zG p l e (zrm d) s m args below meth c E mX4_findTitle.2.2.1 0 0 (MQ below (zQc E Q) args s 0 0 (zaA E))) Q) := by
  unfold b_X4_findTitle_112
  exact lk_b B dX4_findTitle_112 rfl (k_X4_findTitle_114 hd1 B hr hlk)
set_option maxRecDepth 20000 in
theorem k_X4_findTitle_103 {p : Program} {l : Launch} {e : Env} {s : State} {m : MethodId} {args : Array Value} {below : List Frame} {meth : Method} {c : Code} {E : zE} {d : Nat} {Q : zQ} (hd1 : 1 ≤ d) (B : zB p s m args c E mX4_findTitle.1.cls mX4_findTitle.2.1 mX4_findTitle.2.2.1) (hr : meth.sig.returnType = mX4_findTitle.2.2.2) (hlk : meth.locks = false) : zLk (zG p l e (zrm d) s m args below meth c E mX4_findTitle.2.2.1 0 0 (MQ below (zQc E Q) args s 0 0 (zaA E))) 103 (b_X4_findTitle_103 d (zG p l e (zrm d) s m args below meth c E mX4_findTitle.2.2.1 0 0 (MQ below (zQc E Q) args s 0 0 (zaA E))) Q) := by
  unfold b_X4_findTitle_103
  exact lk_aln B dX4_findTitle_103 rfl (lk_iln B dX4_findTitle_104 rfl (lk_iln B dX4_findTitle_105 rfl (lk_calls (M := mX4_linkOfTitle) B (zhR hd1 (by decide)) ⟨Nat.zero_le _, Nat.zero_le _⟩ (zw4 zw_584 zw_582 zw_583 zw_63) (by decide +kernel) dX4_findTitle_106 (lk_goto B dX4_findTitle_109 (by decide) (k_X4_findTitle_114 hd1 B hr hlk)))))
set_option maxRecDepth 20000 in
theorem k_X4_findTitle_94 {p : Program} {l : Launch} {e : Env} {s : State} {m : MethodId} {args : Array Value} {below : List Frame} {meth : Method} {c : Code} {E : zE} {d : Nat} {Q : zQ} (hd1 : 1 ≤ d) (B : zB p s m args c E mX4_findTitle.1.cls mX4_findTitle.2.1 mX4_findTitle.2.2.1) (hr : meth.sig.returnType = mX4_findTitle.2.2.2) (hlk : meth.locks = false) : zLk (zG p l e (zrm d) s m args below meth c E mX4_findTitle.2.2.1 0 0 (MQ below (zQc E Q) args s 0 0 (zaA E))) 94 (b_X4_findTitle_94 d (zG p l e (zrm d) s m args below meth c E mX4_findTitle.2.2.1 0 0 (MQ below (zQc E Q) args s 0 0 (zaA E))) Q) := by
  unfold b_X4_findTitle_94
  exact lk_aln B dX4_findTitle_94 rfl (lk_iln B dX4_findTitle_95 rfl (lk_callv (M := mX6_kindAt) (T := TX6) (N := 5) B (zhR hd1 (by decide)) ⟨Nat.zero_le _, Nat.zero_le _⟩ cl_X6 (zw5 zw_344 zw_565 zw_342 zw_343 zw_51) (by decide +kernel) dX4_findTitle_96 (lk_c B dX4_findTitle_99 (lk_ine B dX4_findTitle_100 (by decide) (k_X4_findTitle_112 hd1 B hr hlk) (k_X4_findTitle_103 hd1 B hr hlk)))))
set_option maxRecDepth 20000 in
theorem k_X4_findTitle_62 {p : Program} {l : Launch} {e : Env} {s : State} {m : MethodId} {args : Array Value} {below : List Frame} {meth : Method} {c : Code} {E : zE} {d : Nat} {Q : zQ} (hd1 : 1 ≤ d) (B : zB p s m args c E mX4_findTitle.1.cls mX4_findTitle.2.1 mX4_findTitle.2.2.1) (hr : meth.sig.returnType = mX4_findTitle.2.2.2) (hlk : meth.locks = false) : zLk (zG p l e (zrm d) s m args below meth c E mX4_findTitle.2.2.1 0 0 (MQ below (zQc E Q) args s 0 0 (zaA E))) 62 (b_X4_findTitle_62 d (zG p l e (zrm d) s m args below meth c E mX4_findTitle.2.2.1 0 0 (MQ below (zQc E Q) args s 0 0 (zaA E))) Q) := by
  unfold b_X4_findTitle_62
  exact lk_il B dX4_findTitle_62 (lk_c B dX4_findTitle_64 (lk_il B dX4_findTitle_65 (lk_shl B dX4_findTitle_67 (lk_c B dX4_findTitle_68 (lk_sub B dX4_findTitle_69 (lk_and B dX4_findTitle_70 (lk_calls (M := mJ6_bitCount_0f7a4) B (zhR hd1 (by decide)) ⟨Nat.zero_le _, Nat.zero_le _⟩ (zw4 zw_357 zw_581 zw_356 zw_61) (by decide +kernel) dX4_findTitle_71 (lk_is B dX4_findTitle_74 (by decide) (lk_aln B dX4_findTitle_76 rfl (lk_aln B dX4_findTitle_77 rfl (lk_iln B dX4_findTitle_78 rfl (lk_il B dX4_findTitle_79 (lk_calls (M := mX2_linkAt) B (zhR hd1 (by decide)) ⟨Nat.zero_le _, Nat.zero_le _⟩ (zw4 zw_368 zw_569 zw_367 zw_60) (by decide +kernel) dX4_findTitle_81 (lk_callv (M := mX6_slotOf) (T := TX6) (N := 5) B (zhR hd1 (by decide)) ⟨Nat.zero_le _, Nat.zero_le _⟩ cl_X6 (zw5 zw_310 zw_563 zw_308 zw_309 zw_51) (by decide +kernel) dX4_findTitle_84 (lk_isn B dX4_findTitle_87 rfl (by decide) (lk_inc B dX4_findTitle_88 (by decide) (lk_goto B dX4_findTitle_91 (by decide) (fun _ _ _ h => h))))))))))))))))))
set_option maxRecDepth 20000 in
theorem k_X4_findTitle_60 {p : Program} {l : Launch} {e : Env} {s : State} {m : MethodId} {args : Array Value} {below : List Frame} {meth : Method} {c : Code} {E : zE} {d : Nat} {Q : zQ} (hd1 : 1 ≤ d) (B : zB p s m args c E mX4_findTitle.1.cls mX4_findTitle.2.1 mX4_findTitle.2.2.1) (hr : meth.sig.returnType = mX4_findTitle.2.2.2) (hlk : meth.locks = false) : zLk (zG p l e (zrm d) s m args below meth c E mX4_findTitle.2.2.1 0 0 (MQ below (zQc E Q) args s 0 0 (zaA E))) 60 (b_X4_findTitle_60 d (zG p l e (zrm d) s m args below meth c E mX4_findTitle.2.2.1 0 0 (MQ below (zQc E Q) args s 0 0 (zaA E))) Q) := by
  unfold b_X4_findTitle_60
  exact lk_c B dX4_findTitle_60 (lk_iret B hr hlk dX4_findTitle_61)
set_option maxRecDepth 20000 in
theorem k_X4_findTitle_34 {p : Program} {l : Launch} {e : Env} {s : State} {m : MethodId} {args : Array Value} {below : List Frame} {meth : Method} {c : Code} {E : zE} {d : Nat} {Q : zQ} (hd1 : 1 ≤ d) (B : zB p s m args c E mX4_findTitle.1.cls mX4_findTitle.2.1 mX4_findTitle.2.2.1) (hr : meth.sig.returnType = mX4_findTitle.2.2.2) (hlk : meth.locks = false) : zLk (zG p l e (zrm d) s m args below meth c E mX4_findTitle.2.2.1 0 0 (MQ below (zQc E Q) args s 0 0 (zaA E))) 34 (b_X4_findTitle_34 d (zG p l e (zrm d) s m args below meth c E mX4_findTitle.2.2.1 0 0 (MQ below (zQc E Q) args s 0 0 (zaA E))) Q) := by
  unfold b_X4_findTitle_34
  exact lk_aln B dX4_findTitle_34 rfl (lk_iln B dX4_findTitle_35 rfl (lk_c B dX4_findTitle_36 (lk_callv (M := mX6_byteAt) (T := TX6) (N := 5) B (zhR hd1 (by decide)) ⟨Nat.zero_le _, Nat.zero_le _⟩ cl_X6 (zw5 zw_348 zw_566 zw_346 zw_347 zw_51) (by decide +kernel) dX4_findTitle_37 (lk_is B dX4_findTitle_40 (by decide) (lk_iln B dX4_findTitle_42 rfl (lk_il B dX4_findTitle_43 (lk_calls (M := mX2_wayOf) B (zhR hd1 (by decide)) ⟨Nat.zero_le _, Nat.zero_le _⟩ (zw4 zw_526 zw_580 zw_525 zw_60) (by decide +kernel) dX4_findTitle_45 (lk_is B dX4_findTitle_48 (by decide) (lk_il B dX4_findTitle_50 (lk_il B dX4_findTitle_52 (lk_shr B dX4_findTitle_54 (lk_c B dX4_findTitle_55 (lk_and B dX4_findTitle_56 (lk_zne B dX4_findTitle_57 (by decide) (k_X4_findTitle_62 hd1 B hr hlk) (k_X4_findTitle_60 hd1 B hr hlk)))))))))))))))
set_option maxRecDepth 20000 in
theorem k_X4_findTitle_25 {p : Program} {l : Launch} {e : Env} {s : State} {m : MethodId} {args : Array Value} {below : List Frame} {meth : Method} {c : Code} {E : zE} {d : Nat} {Q : zQ} (hd1 : 1 ≤ d) (B : zB p s m args c E mX4_findTitle.1.cls mX4_findTitle.2.1 mX4_findTitle.2.2.1) (hr : meth.sig.returnType = mX4_findTitle.2.2.2) (hlk : meth.locks = false) : zLk (zG p l e (zrm d) s m args below meth c E mX4_findTitle.2.2.1 0 0 (MQ below (zQc E Q) args s 0 0 (zaA E))) 25 (b_X4_findTitle_25 d (zG p l e (zrm d) s m args below meth c E mX4_findTitle.2.2.1 0 0 (MQ below (zQc E Q) args s 0 0 (zaA E))) Q) := by
  unfold b_X4_findTitle_25
  exact lk_aln B dX4_findTitle_25 rfl (lk_iln B dX4_findTitle_26 rfl (lk_callv (M := mX6_kindAt) (T := TX6) (N := 5) B (zhR hd1 (by decide)) ⟨Nat.zero_le _, Nat.zero_le _⟩ cl_X6 (zw5 zw_344 zw_565 zw_342 zw_343 zw_51) (by decide +kernel) dX4_findTitle_27 (lk_c B dX4_findTitle_30 (lk_ine B dX4_findTitle_31 (by decide) (k_X4_findTitle_94 hd1 B hr hlk) (k_X4_findTitle_34 hd1 B hr hlk)))))
set_option maxRecDepth 20000 in
theorem k_X4_findTitle_19 {p : Program} {l : Launch} {e : Env} {s : State} {m : MethodId} {args : Array Value} {below : List Frame} {meth : Method} {c : Code} {E : zE} {d : Nat} {Q : zQ} (hd1 : 1 ≤ d) (B : zB p s m args c E mX4_findTitle.1.cls mX4_findTitle.2.1 mX4_findTitle.2.2.1) (hr : meth.sig.returnType = mX4_findTitle.2.2.2) (hlk : meth.locks = false) : zLk (zG p l e (zrm d) s m args below meth c E mX4_findTitle.2.2.1 0 0 (MQ below (zQc E Q) args s 0 0 (zaA E))) 19 (b_X4_findTitle_19 d (zG p l e (zrm d) s m args below meth c E mX4_findTitle.2.2.1 0 0 (MQ below (zQc E Q) args s 0 0 (zaA E))) Q) := by
  unfold b_X4_findTitle_19
  exact lk_il B dX4_findTitle_19 (lk_c B dX4_findTitle_21 (lk_ige B dX4_findTitle_22 (by decide) (k_X4_findTitle_94 hd1 B hr hlk) (k_X4_findTitle_25 hd1 B hr hlk)))
def S_X4_findTitle (d : Nat) (G : Nat → zK) (Q : zQ) : Prop := zLk G 0 (b_X4_findTitle_0 d G Q) ∧ zLk G 19 (b_X4_findTitle_19 d G Q)
theorem s_X4_findTitle_0 {d : Nat} {G : Nat → zK} {Q : zQ} (h : S_X4_findTitle d G Q) {ls st : List zV} {μ : zM} (k : b_X4_findTitle_0 d G Q ls st μ) : G 0 ls st μ := h.1 ls st μ k
theorem s_X4_findTitle_19 {d : Nat} {G : Nat → zK} {Q : zQ} (h : S_X4_findTitle d G Q) {ls st : List zV} {μ : zM} (k : b_X4_findTitle_19 d G Q ls st μ) : G 19 ls st μ := h.2 ls st μ k
theorem of_X4_findTitle {d : Nat} {a0 a1 a2 : zV} {μ : zM} {Q : zQ} (hd1 : 1 ≤ d) (h : ∀ G : Nat → zK, S_X4_findTitle d G Q → G 0 [a0, a1, a2, .inr none, .inr none, .inr none, .inr none, .inr none] [] μ) : zCt d mX4_findTitle [a0, a1, a2] μ Q := zCt.mk (by decide) (Nat.le_of_ble_eq_true rfl) (fun p l e s m args below meth c E B hr hlk => h _ ⟨k_X4_findTitle_0 hd1 B hr hlk, k_X4_findTitle_19 hd1 B hr hlk⟩)
theorem dX4_linkOfTitle_0 : decode cX4_linkOfTitle 0 = .ok (.iconst 0, 1) := by decide +kernel
theorem dX4_linkOfTitle_1 : decode cX4_linkOfTitle 1 = .ok (.istore_n 3, 1) := by decide +kernel
theorem dX4_linkOfTitle_2 : decode cX4_linkOfTitle 2 = .ok (.iload_n 3, 1) := by decide +kernel
theorem dX4_linkOfTitle_3 : decode cX4_linkOfTitle 3 = .ok (.aload_n 0, 1) := by decide +kernel
theorem dX4_linkOfTitle_4 : decode cX4_linkOfTitle 4 = .ok (.iload_n 1, 1) := by decide +kernel
theorem dX4_linkOfTitle_5 : decode cX4_linkOfTitle 5 = .ok (.invokestatic 30, 3) := by decide +kernel
theorem dX4_linkOfTitle_8 : decode cX4_linkOfTitle 8 = .ok (.if_icmp .ge 26, 3) := by decide +kernel
theorem dX4_linkOfTitle_11 : decode cX4_linkOfTitle 11 = .ok (.aload_n 0, 1) := by decide +kernel
theorem dX4_linkOfTitle_12 : decode cX4_linkOfTitle 12 = .ok (.iload_n 1, 1) := by decide +kernel
theorem dX4_linkOfTitle_13 : decode cX4_linkOfTitle 13 = .ok (.iload_n 3, 1) := by decide +kernel
theorem dX4_linkOfTitle_14 : decode cX4_linkOfTitle 14 = .ok (.invokestatic 55, 3) := by decide +kernel
theorem dX4_linkOfTitle_17 : decode cX4_linkOfTitle 17 = .ok (.iload_n 2, 1) := by decide +kernel
theorem dX4_linkOfTitle_18 : decode cX4_linkOfTitle 18 = .ok (.if_icmp .ne 10, 3) := by decide +kernel
theorem dX4_linkOfTitle_21 : decode cX4_linkOfTitle 21 = .ok (.aload_n 0, 1) := by decide +kernel
theorem dX4_linkOfTitle_22 : decode cX4_linkOfTitle 22 = .ok (.iload_n 1, 1) := by decide +kernel
theorem dX4_linkOfTitle_23 : decode cX4_linkOfTitle 23 = .ok (.iload_n 3, 1) := by decide +kernel
theorem dX4_linkOfTitle_24 : decode cX4_linkOfTitle 24 = .ok (.invokestatic 37, 3) := by decide +kernel
theorem dX4_linkOfTitle_27 : decode cX4_linkOfTitle 27 = .ok (.ireturn, 1) := by decide +kernel
theorem dX4_linkOfTitle_28 : decode cX4_linkOfTitle 28 = .ok (.iinc 3 1, 3) := by decide +kernel
theorem dX4_linkOfTitle_31 : decode cX4_linkOfTitle 31 = .ok (.goto (-29), 3) := by decide +kernel
theorem dX4_linkOfTitle_34 : decode cX4_linkOfTitle 34 = .ok (.iconst (-1), 1) := by decide +kernel
theorem dX4_linkOfTitle_35 : decode cX4_linkOfTitle 35 = .ok (.ireturn, 1) := by decide +kernel
def b_X4_linkOfTitle_0 (d : Nat) (G : Nat → zK) (Q : zQ) : zK := o_c 0 <| o_is 3 <| G 2
def b_X4_linkOfTitle_34 (d : Nat) (G : Nat → zK) (Q : zQ) : zK := o_c (-1) <| t_iret Q
def b_X4_linkOfTitle_28 (d : Nat) (G : Nat → zK) (Q : zQ) : zK := o_inc 3 1 <| G 2
def b_X4_linkOfTitle_21 (d : Nat) (G : Nat → zK) (Q : zQ) : zK := o_al 0 <| o_il 1 <| o_il 3 <| o_call (zCt (d - 1) mX2_linkAt) 3 <| t_iret Q
def b_X4_linkOfTitle_11 (d : Nat) (G : Nat → zK) (Q : zQ) : zK := o_al 0 <| o_il 1 <| o_il 3 <| o_call (zCt (d - 1) mX2_partTitle) 3 <| o_il 2 <| t_ieq (b_X4_linkOfTitle_21 d G Q) (b_X4_linkOfTitle_28 d G Q)
def b_X4_linkOfTitle_2 (d : Nat) (G : Nat → zK) (Q : zQ) : zK := o_il 3 <| o_al 0 <| o_il 1 <| o_call (zCt (d - 1) mX2_partCount) 2 <| t_ilt (b_X4_linkOfTitle_11 d G Q) (b_X4_linkOfTitle_34 d G Q)
set_option maxRecDepth 20000 in
theorem k_X4_linkOfTitle_0 {p : Program} {l : Launch} {e : Env} {s : State} {m : MethodId} {args : Array Value} {below : List Frame} {meth : Method} {c : Code} {E : zE} {d : Nat} {Q : zQ} (hd1 : 1 ≤ d) (B : zB p s m args c E mX4_linkOfTitle.1.cls mX4_linkOfTitle.2.1 mX4_linkOfTitle.2.2.1) (hr : meth.sig.returnType = mX4_linkOfTitle.2.2.2) (hlk : meth.locks = false) : zLk (zG p l e (zrm d) s m args below meth c E mX4_linkOfTitle.2.2.1 0 0 (MQ below (zQc E Q) args s 0 0 (zaA E))) 0 (b_X4_linkOfTitle_0 d (zG p l e (zrm d) s m args below meth c E mX4_linkOfTitle.2.2.1 0 0 (MQ below (zQc E Q) args s 0 0 (zaA E))) Q) := by
  unfold b_X4_linkOfTitle_0
  exact lk_c B dX4_linkOfTitle_0 (lk_isn B dX4_linkOfTitle_1 rfl (by decide) (fun _ _ _ h => h))
set_option maxRecDepth 20000 in
theorem k_X4_linkOfTitle_34 {p : Program} {l : Launch} {e : Env} {s : State} {m : MethodId} {args : Array Value} {below : List Frame} {meth : Method} {c : Code} {E : zE} {d : Nat} {Q : zQ} (hd1 : 1 ≤ d) (B : zB p s m args c E mX4_linkOfTitle.1.cls mX4_linkOfTitle.2.1 mX4_linkOfTitle.2.2.1) (hr : meth.sig.returnType = mX4_linkOfTitle.2.2.2) (hlk : meth.locks = false) : zLk (zG p l e (zrm d) s m args below meth c E mX4_linkOfTitle.2.2.1 0 0 (MQ below (zQc E Q) args s 0 0 (zaA E))) 34 (b_X4_linkOfTitle_34 d (zG p l e (zrm d) s m args below meth c E mX4_linkOfTitle.2.2.1 0 0 (MQ below (zQc E Q) args s 0 0 (zaA E))) Q) := by
  unfold b_X4_linkOfTitle_34
  exact lk_c B dX4_linkOfTitle_34 (lk_iret B hr hlk dX4_linkOfTitle_35)
set_option maxRecDepth 20000 in
theorem k_X4_linkOfTitle_28 {p : Program} {l : Launch} {e : Env} {s : State} {m : MethodId} {args : Array Value} {below : List Frame} {meth : Method} {c : Code} {E : zE} {d : Nat} {Q : zQ} (hd1 : 1 ≤ d) (B : zB p s m args c E mX4_linkOfTitle.1.cls mX4_linkOfTitle.2.1 mX4_linkOfTitle.2.2.1) (hr : meth.sig.returnType = mX4_linkOfTitle.2.2.2) (hlk : meth.locks = false) : zLk (zG p l e (zrm d) s m args below meth c E mX4_linkOfTitle.2.2.1 0 0 (MQ below (zQc E Q) args s 0 0 (zaA E))) 28 (b_X4_linkOfTitle_28 d (zG p l e (zrm d) s m args below meth c E mX4_linkOfTitle.2.2.1 0 0 (MQ below (zQc E Q) args s 0 0 (zaA E))) Q) := by
  unfold b_X4_linkOfTitle_28
  exact lk_inc B dX4_linkOfTitle_28 (by decide) (lk_goto B dX4_linkOfTitle_31 (by decide) (fun _ _ _ h => h))
set_option maxRecDepth 20000 in
theorem k_X4_linkOfTitle_21 {p : Program} {l : Launch} {e : Env} {s : State} {m : MethodId} {args : Array Value} {below : List Frame} {meth : Method} {c : Code} {E : zE} {d : Nat} {Q : zQ} (hd1 : 1 ≤ d) (B : zB p s m args c E mX4_linkOfTitle.1.cls mX4_linkOfTitle.2.1 mX4_linkOfTitle.2.2.1) (hr : meth.sig.returnType = mX4_linkOfTitle.2.2.2) (hlk : meth.locks = false) : zLk (zG p l e (zrm d) s m args below meth c E mX4_linkOfTitle.2.2.1 0 0 (MQ below (zQc E Q) args s 0 0 (zaA E))) 21 (b_X4_linkOfTitle_21 d (zG p l e (zrm d) s m args below meth c E mX4_linkOfTitle.2.2.1 0 0 (MQ below (zQc E Q) args s 0 0 (zaA E))) Q) := by
  unfold b_X4_linkOfTitle_21
  exact lk_aln B dX4_linkOfTitle_21 rfl (lk_iln B dX4_linkOfTitle_22 rfl (lk_iln B dX4_linkOfTitle_23 rfl (lk_calls (M := mX2_linkAt) B (zhR hd1 (by decide)) ⟨Nat.zero_le _, Nat.zero_le _⟩ (zw4 zw_368 zw_569 zw_367 zw_60) (by decide +kernel) dX4_linkOfTitle_24 (lk_iret B hr hlk dX4_linkOfTitle_27))))
set_option maxRecDepth 20000 in
theorem k_X4_linkOfTitle_11 {p : Program} {l : Launch} {e : Env} {s : State} {m : MethodId} {args : Array Value} {below : List Frame} {meth : Method} {c : Code} {E : zE} {d : Nat} {Q : zQ} (hd1 : 1 ≤ d) (B : zB p s m args c E mX4_linkOfTitle.1.cls mX4_linkOfTitle.2.1 mX4_linkOfTitle.2.2.1) (hr : meth.sig.returnType = mX4_linkOfTitle.2.2.2) (hlk : meth.locks = false) : zLk (zG p l e (zrm d) s m args below meth c E mX4_linkOfTitle.2.2.1 0 0 (MQ below (zQc E Q) args s 0 0 (zaA E))) 11 (b_X4_linkOfTitle_11 d (zG p l e (zrm d) s m args below meth c E mX4_linkOfTitle.2.2.1 0 0 (MQ below (zQc E Q) args s 0 0 (zaA E))) Q) := by
  unfold b_X4_linkOfTitle_11
  exact lk_aln B dX4_linkOfTitle_11 rfl (lk_iln B dX4_linkOfTitle_12 rfl (lk_iln B dX4_linkOfTitle_13 rfl (lk_calls (M := mX2_partTitle) B (zhR hd1 (by decide)) ⟨Nat.zero_le _, Nat.zero_le _⟩ (zw4 zw_381 zw_585 zw_380 zw_60) (by decide +kernel) dX4_linkOfTitle_14 (lk_iln B dX4_linkOfTitle_17 rfl (lk_ine B dX4_linkOfTitle_18 (by decide) (k_X4_linkOfTitle_28 hd1 B hr hlk) (k_X4_linkOfTitle_21 hd1 B hr hlk))))))
set_option maxRecDepth 20000 in
theorem k_X4_linkOfTitle_2 {p : Program} {l : Launch} {e : Env} {s : State} {m : MethodId} {args : Array Value} {below : List Frame} {meth : Method} {c : Code} {E : zE} {d : Nat} {Q : zQ} (hd1 : 1 ≤ d) (B : zB p s m args c E mX4_linkOfTitle.1.cls mX4_linkOfTitle.2.1 mX4_linkOfTitle.2.2.1) (hr : meth.sig.returnType = mX4_linkOfTitle.2.2.2) (hlk : meth.locks = false) : zLk (zG p l e (zrm d) s m args below meth c E mX4_linkOfTitle.2.2.1 0 0 (MQ below (zQc E Q) args s 0 0 (zaA E))) 2 (b_X4_linkOfTitle_2 d (zG p l e (zrm d) s m args below meth c E mX4_linkOfTitle.2.2.1 0 0 (MQ below (zQc E Q) args s 0 0 (zaA E))) Q) := by
  unfold b_X4_linkOfTitle_2
  exact lk_iln B dX4_linkOfTitle_2 rfl (lk_aln B dX4_linkOfTitle_3 rfl (lk_iln B dX4_linkOfTitle_4 rfl (lk_calls (M := mX2_partCount) B (zhR hd1 (by decide)) ⟨Nat.zero_le _, Nat.zero_le _⟩ (zw4 zw_354 zw_567 zw_353 zw_60) (by decide +kernel) dX4_linkOfTitle_5 (lk_ige B dX4_linkOfTitle_8 (by decide) (k_X4_linkOfTitle_34 hd1 B hr hlk) (k_X4_linkOfTitle_11 hd1 B hr hlk)))))
def S_X4_linkOfTitle (d : Nat) (G : Nat → zK) (Q : zQ) : Prop := zLk G 0 (b_X4_linkOfTitle_0 d G Q) ∧ zLk G 2 (b_X4_linkOfTitle_2 d G Q)
theorem s_X4_linkOfTitle_0 {d : Nat} {G : Nat → zK} {Q : zQ} (h : S_X4_linkOfTitle d G Q) {ls st : List zV} {μ : zM} (k : b_X4_linkOfTitle_0 d G Q ls st μ) : G 0 ls st μ := h.1 ls st μ k
theorem s_X4_linkOfTitle_2 {d : Nat} {G : Nat → zK} {Q : zQ} (h : S_X4_linkOfTitle d G Q) {ls st : List zV} {μ : zM} (k : b_X4_linkOfTitle_2 d G Q ls st μ) : G 2 ls st μ := h.2 ls st μ k
theorem of_X4_linkOfTitle {d : Nat} {a0 a1 a2 : zV} {μ : zM} {Q : zQ} (hd1 : 1 ≤ d) (h : ∀ G : Nat → zK, S_X4_linkOfTitle d G Q → G 0 [a0, a1, a2, .inr none] [] μ) : zCt d mX4_linkOfTitle [a0, a1, a2] μ Q := zCt.mk (by decide) (Nat.le_of_ble_eq_true rfl) (fun p l e s m args below meth c E B hr hlk => h _ ⟨k_X4_linkOfTitle_0 hd1 B hr hlk, k_X4_linkOfTitle_2 hd1 B hr hlk⟩)
