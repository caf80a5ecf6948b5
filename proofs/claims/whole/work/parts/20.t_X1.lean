theorem dX1_makeFile_0 : decode cX1_makeFile 0 = .ok (.aload_n 0, 1) := by decide +kernel
theorem dX1_makeFile_1 : decode cX1_makeFile 1 = .ok (.aload_n 1, 1) := by decide +kernel
theorem dX1_makeFile_2 : decode cX1_makeFile 2 = .ok (.iload_n 2, 1) := by decide +kernel
theorem dX1_makeFile_3 : decode cX1_makeFile 3 = .ok (.iload_n 3, 1) := by decide +kernel
theorem dX1_makeFile_4 : decode cX1_makeFile 4 = .ok (.aload 5, 2) := by decide +kernel
theorem dX1_makeFile_6 : decode cX1_makeFile 6 = .ok (.invokevirtual 22, 3) := by decide +kernel
theorem dX1_makeFile_9 : decode cX1_makeFile 9 = .ok (.iconst 0, 1) := by decide +kernel
theorem dX1_makeFile_10 : decode cX1_makeFile 10 = .ok (.istore 6, 2) := by decide +kernel
theorem dX1_makeFile_12 : decode cX1_makeFile 12 = .ok (.iload 6, 2) := by decide +kernel
theorem dX1_makeFile_14 : decode cX1_makeFile 14 = .ok (.bipush 32, 2) := by decide +kernel
theorem dX1_makeFile_16 : decode cX1_makeFile 16 = .ok (.if_icmp .ge 25, 3) := by decide +kernel
theorem dX1_makeFile_19 : decode cX1_makeFile 19 = .ok (.aload_n 0, 1) := by decide +kernel
theorem dX1_makeFile_20 : decode cX1_makeFile 20 = .ok (.getfield 18, 3) := by decide +kernel
theorem dX1_makeFile_23 : decode cX1_makeFile 23 = .ok (.iconst 1, 1) := by decide +kernel
theorem dX1_makeFile_24 : decode cX1_makeFile 24 = .ok (.if_icmp .le 17, 3) := by decide +kernel
theorem dX1_makeFile_27 : decode cX1_makeFile 27 = .ok (.aload_n 0, 1) := by decide +kernel
theorem dX1_makeFile_28 : decode cX1_makeFile 28 = .ok (.iload 4, 2) := by decide +kernel
theorem dX1_makeFile_30 : decode cX1_makeFile 30 = .ok (.aload 5, 2) := by decide +kernel
theorem dX1_makeFile_32 : decode cX1_makeFile 32 = .ok (.invokevirtual 26, 3) := by decide +kernel
theorem dX1_makeFile_35 : decode cX1_makeFile 35 = .ok (.iinc 6 1, 3) := by decide +kernel
theorem dX1_makeFile_38 : decode cX1_makeFile 38 = .ok (.goto (-26), 3) := by decide +kernel
theorem dX1_makeFile_41 : decode cX1_makeFile 41 = .ok (.aload_n 0, 1) := by decide +kernel
theorem dX1_makeFile_42 : decode cX1_makeFile 42 = .ok (.getfield 9, 3) := by decide +kernel
theorem dX1_makeFile_45 : decode cX1_makeFile 45 = .ok (.iconst 0, 1) := by decide +kernel
theorem dX1_makeFile_46 : decode cX1_makeFile 46 = .ok (.iaload, 1) := by decide +kernel
theorem dX1_makeFile_47 : decode cX1_makeFile 47 = .ok (.ireturn, 1) := by decide +kernel
def b_X1_makeFile_0 (d : Nat) (G : Nat → zK) (Q : zQ) : zK := o_al 0 <| o_al 1 <| o_il 2 <| o_il 3 <| o_al 5 <| o_callv (zCt (d - 1) mX1_makeLeaves) 1 5 <| o_c 0 <| o_is 6 <| G 12
def b_X1_makeFile_41 (d : Nat) (G : Nat → zK) (Q : zQ) : zK := o_al 0 <| o_gf 1 0 <| o_c 0 <| o_iald <| t_iret Q
def b_X1_makeFile_27 (d : Nat) (G : Nat → zK) (Q : zQ) : zK := o_al 0 <| o_il 4 <| o_al 5 <| o_callv (zCt (d - 1) mX1_makeTrees) 1 3 <| o_inc 6 1 <| G 12
def b_X1_makeFile_19 (d : Nat) (G : Nat → zK) (Q : zQ) : zK := o_al 0 <| o_gf 1 2 <| o_c 1 <| t_igt (b_X1_makeFile_27 d G Q) (b_X1_makeFile_41 d G Q)
def b_X1_makeFile_12 (d : Nat) (G : Nat → zK) (Q : zQ) : zK := o_il 6 <| o_c 32 <| t_ilt (b_X1_makeFile_19 d G Q) (b_X1_makeFile_41 d G Q)
set_option maxRecDepth 20000 in
theorem k_X1_makeFile_0 {p : Program} {l : Launch} {e : Env} {s : State} {m : MethodId} {args : Array Value} {below : List Frame} {meth : Method} {c : Code} {E : zE} {d : Nat} {Q : zQ} (hd1 : 1 ≤ d) (B : zB p s m args c E mX1_makeFile.1.cls mX1_makeFile.2.1 mX1_makeFile.2.2.1) (hr : meth.sig.returnType = mX1_makeFile.2.2.2) (hlk : meth.locks = false) : zLk (zG p l e (zrm d) s m args below meth c E mX1_makeFile.2.2.1 0 0 (MQ below (zQc E Q) args s 0 0 (zaA E))) 0 (b_X1_makeFile_0 d (zG p l e (zrm d) s m args below meth c E mX1_makeFile.2.2.1 0 0 (MQ below (zQc E Q) args s 0 0 (zaA E))) Q) := by
  unfold b_X1_makeFile_0
  exact lk_aln B dX1_makeFile_0 rfl (lk_aln B dX1_makeFile_1 rfl (lk_iln B dX1_makeFile_2 rfl (lk_iln B dX1_makeFile_3 rfl (lk_al B dX1_makeFile_4 (lk_callv (M := mX1_makeLeaves) (T := TX1) (N := 3) B (zhR hd1 (by decide)) ⟨Nat.zero_le _, Nat.zero_le _⟩ cl_X1 (zw5 zw_472 zw_469 zw_471 zw_4 zw_53) (by decide +kernel) dX1_makeFile_6 (lk_c B dX1_makeFile_9 (lk_is B dX1_makeFile_10 (by decide) (fun _ _ _ h => h))))))))
set_option maxRecDepth 20000 in
theorem k_X1_makeFile_41 {p : Program} {l : Launch} {e : Env} {s : State} {m : MethodId} {args : Array Value} {below : List Frame} {meth : Method} {c : Code} {E : zE} {d : Nat} {Q : zQ} (hd1 : 1 ≤ d) (B : zB p s m args c E mX1_makeFile.1.cls mX1_makeFile.2.1 mX1_makeFile.2.2.1) (hr : meth.sig.returnType = mX1_makeFile.2.2.2) (hlk : meth.locks = false) : zLk (zG p l e (zrm d) s m args below meth c E mX1_makeFile.2.2.1 0 0 (MQ below (zQc E Q) args s 0 0 (zaA E))) 41 (b_X1_makeFile_41 d (zG p l e (zrm d) s m args below meth c E mX1_makeFile.2.2.1 0 0 (MQ below (zQc E Q) args s 0 0 (zaA E))) Q) := by
  unfold b_X1_makeFile_41
  exact lk_aln B dX1_makeFile_41 rfl (lk_gf (T := TX1) B cl_X1 (by decide) in_X1 zw_141 dX1_makeFile_42 (lk_c B dX1_makeFile_45 (lk_iald B dX1_makeFile_46 (lk_iret B hr hlk dX1_makeFile_47))))
set_option maxRecDepth 20000 in
theorem k_X1_makeFile_27 {p : Program} {l : Launch} {e : Env} {s : State} {m : MethodId} {args : Array Value} {below : List Frame} {meth : Method} {c : Code} {E : zE} {d : Nat} {Q : zQ} (hd1 : 1 ≤ d) (B : zB p s m args c E mX1_makeFile.1.cls mX1_makeFile.2.1 mX1_makeFile.2.2.1) (hr : meth.sig.returnType = mX1_makeFile.2.2.2) (hlk : meth.locks = false) : zLk (zG p l e (zrm d) s m args below meth c E mX1_makeFile.2.2.1 0 0 (MQ below (zQc E Q) args s 0 0 (zaA E))) 27 (b_X1_makeFile_27 d (zG p l e (zrm d) s m args below meth c E mX1_makeFile.2.2.1 0 0 (MQ below (zQc E Q) args s 0 0 (zaA E))) Q) := by
  unfold b_X1_makeFile_27
  exact lk_aln B dX1_makeFile_27 rfl (lk_il B dX1_makeFile_28 (lk_al B dX1_makeFile_30 (lk_callv (M := mX1_makeTrees) (T := TX1) (N := 3) B (zhR hd1 (by decide)) ⟨Nat.zero_le _, Nat.zero_le _⟩ cl_X1 (zw5 zw_484 zw_481 zw_483 zw_5 zw_53) (by decide +kernel) dX1_makeFile_32 (lk_inc B dX1_makeFile_35 (by decide) (lk_goto B dX1_makeFile_38 (by decide) (fun _ _ _ h => h))))))
set_option maxRecDepth 20000 in
theorem k_X1_makeFile_19 {p : Program} {l : Launch} {e : Env} {s : State} {m : MethodId} {args : Array Value} {below : List Frame} {meth : Method} {c : Code} {E : zE} {d : Nat} {Q : zQ} (hd1 : 1 ≤ d) (B : zB p s m args c E mX1_makeFile.1.cls mX1_makeFile.2.1 mX1_makeFile.2.2.1) (hr : meth.sig.returnType = mX1_makeFile.2.2.2) (hlk : meth.locks = false) : zLk (zG p l e (zrm d) s m args below meth c E mX1_makeFile.2.2.1 0 0 (MQ below (zQc E Q) args s 0 0 (zaA E))) 19 (b_X1_makeFile_19 d (zG p l e (zrm d) s m args below meth c E mX1_makeFile.2.2.1 0 0 (MQ below (zQc E Q) args s 0 0 (zaA E))) Q) := by
  unfold b_X1_makeFile_19
  exact lk_aln B dX1_makeFile_19 rfl (lk_gf (T := TX1) B cl_X1 (by decide) in_X1 zw_143 dX1_makeFile_20 (lk_c B dX1_makeFile_23 (lk_ile B dX1_makeFile_24 (by decide) (k_X1_makeFile_41 hd1 B hr hlk) (k_X1_makeFile_27 hd1 B hr hlk))))
set_option maxRecDepth 20000 in
theorem k_X1_makeFile_12 {p : Program} {l : Launch} {e : Env} {s : State} {m : MethodId} {args : Array Value} {below : List Frame} {meth : Method} {c : Code} {E : zE} {d : Nat} {Q : zQ} (hd1 : 1 ≤ d) (B : zB p s m args c E mX1_makeFile.1.cls mX1_makeFile.2.1 mX1_makeFile.2.2.1) (hr : meth.sig.returnType = mX1_makeFile.2.2.2) (hlk : meth.locks = false) : zLk (zG p l e (zrm d) s m args below meth c E mX1_makeFile.2.2.1 0 0 (MQ below (zQc E Q) args s 0 0 (zaA E))) 12 (b_X1_makeFile_12 d (zG p l e (zrm d) s m args below meth c E mX1_makeFile.2.2.1 0 0 (MQ below (zQc E Q) args s 0 0 (zaA E))) Q) := by
  unfold b_X1_makeFile_12
  exact lk_il B dX1_makeFile_12 (lk_b B dX1_makeFile_14 rfl (lk_ige B dX1_makeFile_16 (by decide) (k_X1_makeFile_41 hd1 B hr hlk) (k_X1_makeFile_19 hd1 B hr hlk)))
def S_X1_makeFile (d : Nat) (G : Nat → zK) (Q : zQ) : Prop := zLk G 0 (b_X1_makeFile_0 d G Q) ∧ zLk G 12 (b_X1_makeFile_12 d G Q)
theorem s_X1_makeFile_0 {d : Nat} {G : Nat → zK} {Q : zQ} (h : S_X1_makeFile d G Q) {ls st : List zV} {μ : zM} (k : b_X1_makeFile_0 d G Q ls st μ) : G 0 ls st μ := h.1 ls st μ k
theorem s_X1_makeFile_12 {d : Nat} {G : Nat → zK} {Q : zQ} (h : S_X1_makeFile d G Q) {ls st : List zV} {μ : zM} (k : b_X1_makeFile_12 d G Q ls st μ) : G 12 ls st μ := h.2 ls st μ k
theorem of_X1_makeFile {d : Nat} {a0 a1 a2 a3 a4 a5 : zV} {μ : zM} {Q : zQ} (hd1 : 1 ≤ d) (h : ∀ G : Nat → zK, S_X1_makeFile d G Q → G 0 [a0, a1, a2, a3, a4, a5, .inr none] [] μ) : zCt d mX1_makeFile [a0, a1, a2, a3, a4, a5] μ Q := zCt.mk (by decide) (Nat.le_of_ble_eq_true rfl) (fun p l e s m args below meth c E B hr hlk => h _ ⟨k_X1_makeFile_0 hd1 B hr hlk, k_X1_makeFile_12 hd1 B hr hlk⟩)
theorem dX1_makeLeaves_0 : decode cX1_makeLeaves 0 = .ok (.aload_n 0, 1) := by decide +kernel
theorem dX1_makeLeaves_1 : decode cX1_makeLeaves 1 = .ok (.iconst 0, 1) := by decide +kernel
theorem dX1_makeLeaves_2 : decode cX1_makeLeaves 2 = .ok (.putfield 18, 3) := by decide +kernel
theorem dX1_makeLeaves_5 : decode cX1_makeLeaves 5 = .ok (.iconst 0, 1) := by decide +kernel
theorem dX1_makeLeaves_6 : decode cX1_makeLeaves 6 = .ok (.istore 5, 2) := by decide +kernel
theorem dX1_makeLeaves_8 : decode cX1_makeLeaves 8 = .ok (.iload_n 3, 1) := by decide +kernel
theorem dX1_makeLeaves_9 : decode cX1_makeLeaves 9 = .ok (.ifCond .ne 13, 3) := by decide +kernel
theorem dX1_makeLeaves_12 : decode cX1_makeLeaves 12 = .ok (.aload_n 1, 1) := by decide +kernel
theorem dX1_makeLeaves_13 : decode cX1_makeLeaves 13 = .ok (.iload_n 2, 1) := by decide +kernel
theorem dX1_makeLeaves_14 : decode cX1_makeLeaves 14 = .ok (.iload 5, 2) := by decide +kernel
theorem dX1_makeLeaves_16 : decode cX1_makeLeaves 16 = .ok (.invokestatic 30, 3) := by decide +kernel
theorem dX1_makeLeaves_19 : decode cX1_makeLeaves 19 = .ok (.goto 11, 3) := by decide +kernel
theorem dX1_makeLeaves_22 : decode cX1_makeLeaves 22 = .ok (.iload_n 2, 1) := by decide +kernel
theorem dX1_makeLeaves_23 : decode cX1_makeLeaves 23 = .ok (.iload 5, 2) := by decide +kernel
theorem dX1_makeLeaves_25 : decode cX1_makeLeaves 25 = .ok (.iload_n 3, 1) := by decide +kernel
theorem dX1_makeLeaves_26 : decode cX1_makeLeaves 26 = .ok (.iadd, 1) := by decide +kernel
theorem dX1_makeLeaves_27 : decode cX1_makeLeaves 27 = .ok (.invokestatic 34, 3) := by decide +kernel
theorem dX1_makeLeaves_30 : decode cX1_makeLeaves 30 = .ok (.istore 6, 2) := by decide +kernel
theorem dX1_makeLeaves_32 : decode cX1_makeLeaves 32 = .ok (.aload 4, 2) := by decide +kernel
theorem dX1_makeLeaves_34 : decode cX1_makeLeaves 34 = .ok (.iconst 0, 1) := by decide +kernel
theorem dX1_makeLeaves_35 : decode cX1_makeLeaves 35 = .ok (.invokevirtual 42, 3) := by decide +kernel
theorem dX1_makeLeaves_38 : decode cX1_makeLeaves 38 = .ok (.iload 5, 2) := by decide +kernel
theorem dX1_makeLeaves_40 : decode cX1_makeLeaves 40 = .ok (.istore 7, 2) := by decide +kernel
theorem dX1_makeLeaves_42 : decode cX1_makeLeaves 42 = .ok (.iload 7, 2) := by decide +kernel
theorem dX1_makeLeaves_44 : decode cX1_makeLeaves 44 = .ok (.iload 6, 2) := by decide +kernel
theorem dX1_makeLeaves_46 : decode cX1_makeLeaves 46 = .ok (.if_icmp .ge 18, 3) := by decide +kernel
theorem dX1_makeLeaves_49 : decode cX1_makeLeaves 49 = .ok (.aload 4, 2) := by decide +kernel
theorem dX1_makeLeaves_51 : decode cX1_makeLeaves 51 = .ok (.aload_n 1, 1) := by decide +kernel
theorem dX1_makeLeaves_52 : decode cX1_makeLeaves 52 = .ok (.iload 7, 2) := by decide +kernel
theorem dX1_makeLeaves_54 : decode cX1_makeLeaves 54 = .ok (.iaload, 1) := by decide +kernel
theorem dX1_makeLeaves_55 : decode cX1_makeLeaves 55 = .ok (.invokevirtual 42, 3) := by decide +kernel
theorem dX1_makeLeaves_58 : decode cX1_makeLeaves 58 = .ok (.iinc 7 1, 3) := by decide +kernel
theorem dX1_makeLeaves_61 : decode cX1_makeLeaves 61 = .ok (.goto (-19), 3) := by decide +kernel
theorem dX1_makeLeaves_64 : decode cX1_makeLeaves 64 = .ok (.aload_n 0, 1) := by decide +kernel
theorem dX1_makeLeaves_65 : decode cX1_makeLeaves 65 = .ok (.getfield 9, 3) := by decide +kernel
theorem dX1_makeLeaves_68 : decode cX1_makeLeaves 68 = .ok (.aload_n 0, 1) := by decide +kernel
theorem dX1_makeLeaves_69 : decode cX1_makeLeaves 69 = .ok (.getfield 18, 3) := by decide +kernel
theorem dX1_makeLeaves_72 : decode cX1_makeLeaves 72 = .ok (.aload 4, 2) := by decide +kernel
theorem dX1_makeLeaves_74 : decode cX1_makeLeaves 74 = .ok (.invokevirtual 48, 3) := by decide +kernel
theorem dX1_makeLeaves_77 : decode cX1_makeLeaves 77 = .ok (.iastore, 1) := by decide +kernel
theorem dX1_makeLeaves_78 : decode cX1_makeLeaves 78 = .ok (.aload_n 0, 1) := by decide +kernel
theorem dX1_makeLeaves_79 : decode cX1_makeLeaves 79 = .ok (.getfield 15, 3) := by decide +kernel
theorem dX1_makeLeaves_82 : decode cX1_makeLeaves 82 = .ok (.aload_n 0, 1) := by decide +kernel
theorem dX1_makeLeaves_83 : decode cX1_makeLeaves 83 = .ok (.getfield 18, 3) := by decide +kernel
theorem dX1_makeLeaves_86 : decode cX1_makeLeaves 86 = .ok (.iload 6, 2) := by decide +kernel
theorem dX1_makeLeaves_88 : decode cX1_makeLeaves 88 = .ok (.iload 5, 2) := by decide +kernel
theorem dX1_makeLeaves_90 : decode cX1_makeLeaves 90 = .ok (.isub, 1) := by decide +kernel
theorem dX1_makeLeaves_91 : decode cX1_makeLeaves 91 = .ok (.iastore, 1) := by decide +kernel
theorem dX1_makeLeaves_92 : decode cX1_makeLeaves 92 = .ok (.aload_n 0, 1) := by decide +kernel
theorem dX1_makeLeaves_93 : decode cX1_makeLeaves 93 = .ok (.dup, 1) := by decide +kernel
theorem dX1_makeLeaves_94 : decode cX1_makeLeaves 94 = .ok (.getfield 18, 3) := by decide +kernel
theorem dX1_makeLeaves_97 : decode cX1_makeLeaves 97 = .ok (.iconst 1, 1) := by decide +kernel
theorem dX1_makeLeaves_98 : decode cX1_makeLeaves 98 = .ok (.iadd, 1) := by decide +kernel
theorem dX1_makeLeaves_99 : decode cX1_makeLeaves 99 = .ok (.putfield 18, 3) := by decide +kernel
theorem dX1_makeLeaves_102 : decode cX1_makeLeaves 102 = .ok (.iload 6, 2) := by decide +kernel
theorem dX1_makeLeaves_104 : decode cX1_makeLeaves 104 = .ok (.istore 5, 2) := by decide +kernel
theorem dX1_makeLeaves_106 : decode cX1_makeLeaves 106 = .ok (.iload 5, 2) := by decide +kernel
theorem dX1_makeLeaves_108 : decode cX1_makeLeaves 108 = .ok (.iload_n 2, 1) := by decide +kernel
theorem dX1_makeLeaves_109 : decode cX1_makeLeaves 109 = .ok (.if_icmp .ge 12, 3) := by decide +kernel
theorem dX1_makeLeaves_112 : decode cX1_makeLeaves 112 = .ok (.aload_n 0, 1) := by decide +kernel
theorem dX1_makeLeaves_113 : decode cX1_makeLeaves 113 = .ok (.getfield 18, 3) := by decide +kernel
theorem dX1_makeLeaves_116 : decode cX1_makeLeaves 116 = .ok (.bipush 32, 2) := by decide +kernel
theorem dX1_makeLeaves_118 : decode cX1_makeLeaves 118 = .ok (.if_icmp .lt (-110), 3) := by decide +kernel
theorem dX1_makeLeaves_121 : decode cX1_makeLeaves 121 = .ok (.return_, 1) := by decide +kernel
def b_X1_makeLeaves_0 (d : Nat) (G : Nat → zK) (Q : zQ) : zK := o_al 0 <| o_c 0 <| o_pf 1 2 <| o_c 0 <| o_is 5 <| G 8
def b_X1_makeLeaves_30 (d : Nat) (G : Nat → zK) (Q : zQ) : zK := o_is 6 <| o_al 4 <| o_c 0 <| o_callv (zCt (d - 1) mX0_write) 0 2 <| o_il 5 <| o_is 7 <| G 42
def b_X1_makeLeaves_22 (d : Nat) (G : Nat → zK) (Q : zQ) : zK := o_il 2 <| o_il 5 <| o_il 3 <| o_add <| o_min <| b_X1_makeLeaves_30 d G Q
def b_X1_makeLeaves_12 (d : Nat) (G : Nat → zK) (Q : zQ) : zK := o_al 1 <| o_il 2 <| o_il 5 <| o_call (zCt (d - 1) mX1_endByContent) 3 <| b_X1_makeLeaves_30 d G Q
def b_X1_makeLeaves_8 (d : Nat) (G : Nat → zK) (Q : zQ) : zK := o_il 3 <| t_zeq (b_X1_makeLeaves_12 d G Q) (b_X1_makeLeaves_22 d G Q)
def b_X1_makeLeaves_121 (d : Nat) (G : Nat → zK) (Q : zQ) : zK := t_vret Q
def b_X1_makeLeaves_112 (d : Nat) (G : Nat → zK) (Q : zQ) : zK := o_al 0 <| o_gf 1 2 <| o_c 32 <| t_ilt (G 8) (b_X1_makeLeaves_121 d G Q)
def b_X1_makeLeaves_64 (d : Nat) (G : Nat → zK) (Q : zQ) : zK := o_al 0 <| o_gf 1 0 <| o_al 0 <| o_gf 1 2 <| o_al 4 <| o_callv (zCt (d - 1) mX0_finishBlock) 0 1 <| o_iast <| o_al 0 <| o_gf 1 1 <| o_al 0 <| o_gf 1 2 <| o_il 6 <| o_il 5 <| o_sub <| o_iast <| o_al 0 <| o_dup <| o_gf 1 2 <| o_c 1 <| o_add <| o_pf 1 2 <| o_il 6 <| o_is 5 <| o_il 5 <| o_il 2 <| t_ilt (b_X1_makeLeaves_112 d G Q) (b_X1_makeLeaves_121 d G Q)
def b_X1_makeLeaves_49 (d : Nat) (G : Nat → zK) (Q : zQ) : zK := o_al 4 <| o_al 1 <| o_il 7 <| o_iald <| o_callv (zCt (d - 1) mX0_write) 0 2 <| o_inc 7 1 <| G 42
def b_X1_makeLeaves_42 (d : Nat) (G : Nat → zK) (Q : zQ) : zK := o_il 7 <| o_il 6 <| t_ilt (b_X1_makeLeaves_49 d G Q) (b_X1_makeLeaves_64 d G Q)
set_option maxRecDepth 20000 in
theorem k_X1_makeLeaves_0 {p : Program} {l : Launch} {e : Env} {s : State} {m : MethodId} {args : Array Value} {below : List Frame} {meth : Method} {c : Code} {E : zE} {d : Nat} {Q : zQ} (hd1 : 1 ≤ d) (B : zB p s m args c E mX1_makeLeaves.1.cls mX1_makeLeaves.2.1 mX1_makeLeaves.2.2.1) (hr : meth.sig.returnType = mX1_makeLeaves.2.2.2) (hlk : meth.locks = false) : zLk (zG p l e (zrm d) s m args below meth c E mX1_makeLeaves.2.2.1 0 0 (MQ below (zQc E Q) args s 0 0 (zaA E))) 0 (b_X1_makeLeaves_0 d (zG p l e (zrm d) s m args below meth c E mX1_makeLeaves.2.2.1 0 0 (MQ below (zQc E Q) args s 0 0 (zaA E))) Q) := by
  unfold b_X1_makeLeaves_0
  exact lk_aln B dX1_makeLeaves_0 rfl (lk_c B dX1_makeLeaves_1 (lk_pf (T := TX1) B cl_X1 (by decide) in_X1 tyX1_ok nmX1 zw_143 rfl (by decide +kernel) dX1_makeLeaves_2 (lk_c B dX1_makeLeaves_5 (lk_is B dX1_makeLeaves_6 (by decide) (fun _ _ _ h => h)))))
set_option maxRecDepth 20000 in
theorem k_X1_makeLeaves_30 {p : Program} {l : Launch} {e : Env} {s : State} {m : MethodId} {args : Array Value} {below : List Frame} {meth : Method} {c : Code} {E : zE} {d : Nat} {Q : zQ} (hd1 : 1 ≤ d) (B : zB p s m args c E mX1_makeLeaves.1.cls mX1_makeLeaves.2.1 mX1_makeLeaves.2.2.1) (hr : meth.sig.returnType = mX1_makeLeaves.2.2.2) (hlk : meth.locks = false) : zLk (zG p l e (zrm d) s m args below meth c E mX1_makeLeaves.2.2.1 0 0 (MQ below (zQc E Q) args s 0 0 (zaA E))) 30 (b_X1_makeLeaves_30 d (zG p l e (zrm d) s m args below meth c E mX1_makeLeaves.2.2.1 0 0 (MQ below (zQc E Q) args s 0 0 (zaA E))) Q) := by
  unfold b_X1_makeLeaves_30
  exact lk_is B dX1_makeLeaves_30 (by decide) (lk_al B dX1_makeLeaves_32 (lk_c B dX1_makeLeaves_34 (lk_callv (M := mX0_write) (T := TX0) (N := 4) B (zhR hd1 (by decide)) ⟨Nat.zero_le _, Nat.zero_le _⟩ cl_X0 (zw5 zw_301 zw_479 zw_299 zw_300 zw_55) (by decide +kernel) dX1_makeLeaves_35 (lk_il B dX1_makeLeaves_38 (lk_is B dX1_makeLeaves_40 (by decide) (fun _ _ _ h => h))))))
set_option maxRecDepth 20000 in
theorem k_X1_makeLeaves_22 {p : Program} {l : Launch} {e : Env} {s : State} {m : MethodId} {args : Array Value} {below : List Frame} {meth : Method} {c : Code} {E : zE} {d : Nat} {Q : zQ} (hd1 : 1 ≤ d) (B : zB p s m args c E mX1_makeLeaves.1.cls mX1_makeLeaves.2.1 mX1_makeLeaves.2.2.1) (hr : meth.sig.returnType = mX1_makeLeaves.2.2.2) (hlk : meth.locks = false) : zLk (zG p l e (zrm d) s m args below meth c E mX1_makeLeaves.2.2.1 0 0 (MQ below (zQc E Q) args s 0 0 (zaA E))) 22 (b_X1_makeLeaves_22 d (zG p l e (zrm d) s m args below meth c E mX1_makeLeaves.2.2.1 0 0 (MQ below (zQc E Q) args s 0 0 (zaA E))) Q) := by
  have hRm : 1 ≤ (zrm d).frames ∧ 21 ≤ (zrm d).locals := zhRm hd1
  unfold b_X1_makeLeaves_22
  exact lk_iln B dX1_makeLeaves_22 rfl (lk_il B dX1_makeLeaves_23 (lk_iln B dX1_makeLeaves_25 rfl (lk_add B dX1_makeLeaves_26 (lk_min B hRm ⟨Nat.zero_le _, Nat.zero_le _⟩ (zw4 zw_476 zw_477 zw_62 zw_478) dX1_makeLeaves_27 (k_X1_makeLeaves_30 hd1 B hr hlk)))))
set_option maxRecDepth 20000 in
theorem k_X1_makeLeaves_12 {p : Program} {l : Launch} {e : Env} {s : State} {m : MethodId} {args : Array Value} {below : List Frame} {meth : Method} {c : Code} {E : zE} {d : Nat} {Q : zQ} (hd1 : 1 ≤ d) (B : zB p s m args c E mX1_makeLeaves.1.cls mX1_makeLeaves.2.1 mX1_makeLeaves.2.2.1) (hr : meth.sig.returnType = mX1_makeLeaves.2.2.2) (hlk : meth.locks = false) : zLk (zG p l e (zrm d) s m args below meth c E mX1_makeLeaves.2.2.1 0 0 (MQ below (zQc E Q) args s 0 0 (zaA E))) 12 (b_X1_makeLeaves_12 d (zG p l e (zrm d) s m args below meth c E mX1_makeLeaves.2.2.1 0 0 (MQ below (zQc E Q) args s 0 0 (zaA E))) Q) := by
  unfold b_X1_makeLeaves_12
  exact lk_aln B dX1_makeLeaves_12 rfl (lk_iln B dX1_makeLeaves_13 rfl (lk_il B dX1_makeLeaves_14 (lk_calls (M := mX1_endByContent) B (zhR hd1 (by decide)) ⟨Nat.zero_le _, Nat.zero_le _⟩ (zw4 zw_475 zw_473 zw_474 zw_53) (by decide +kernel) dX1_makeLeaves_16 (lk_goto B dX1_makeLeaves_19 (by decide) (k_X1_makeLeaves_30 hd1 B hr hlk)))))
set_option maxRecDepth 20000 in
theorem k_X1_makeLeaves_8 {p : Program} {l : Launch} {e : Env} {s : State} {m : MethodId} {args : Array Value} {below : List Frame} {meth : Method} {c : Code} {E : zE} {d : Nat} {Q : zQ} (hd1 : 1 ≤ d) (B : zB p s m args c E mX1_makeLeaves.1.cls mX1_makeLeaves.2.1 mX1_makeLeaves.2.2.1) (hr : meth.sig.returnType = mX1_makeLeaves.2.2.2) (hlk : meth.locks = false) : zLk (zG p l e (zrm d) s m args below meth c E mX1_makeLeaves.2.2.1 0 0 (MQ below (zQc E Q) args s 0 0 (zaA E))) 8 (b_X1_makeLeaves_8 d (zG p l e (zrm d) s m args below meth c E mX1_makeLeaves.2.2.1 0 0 (MQ below (zQc E Q) args s 0 0 (zaA E))) Q) := by
  unfold b_X1_makeLeaves_8
  exact lk_iln B dX1_makeLeaves_8 rfl (lk_zne B dX1_makeLeaves_9 (by decide) (k_X1_makeLeaves_22 hd1 B hr hlk) (k_X1_makeLeaves_12 hd1 B hr hlk))
set_option maxRecDepth 20000 in
theorem k_X1_makeLeaves_121 {p : Program} {l : Launch} {e : Env} {s : State} {m : MethodId} {args : Array Value} {below : List Frame} {meth : Method} {c : Code} {E : zE} {d : Nat} {Q : zQ} (hd1 : 1 ≤ d) (B : zB p s m args c E mX1_makeLeaves.1.cls mX1_makeLeaves.2.1 mX1_makeLeaves.2.2.1) (hr : meth.sig.returnType = mX1_makeLeaves.2.2.2) (hlk : meth.locks = false) : zLk (zG p l e (zrm d) s m args below meth c E mX1_makeLeaves.2.2.1 0 0 (MQ below (zQc E Q) args s 0 0 (zaA E))) 121 (b_X1_makeLeaves_121 d (zG p l e (zrm d) s m args below meth c E mX1_makeLeaves.2.2.1 0 0 (MQ below (zQc E Q) args s 0 0 (zaA E))) Q) := by
  unfold b_X1_makeLeaves_121
  exact lk_vret B hr hlk dX1_makeLeaves_121
set_option maxRecDepth 20000 in
theorem k_X1_makeLeaves_112 {p : Program} {l : Launch} {e : Env} {s : State} {m : MethodId} {args : Array Value} {below : List Frame} {meth : Method} {c : Code} {E : zE} {d : Nat} {Q : zQ} (hd1 : 1 ≤ d) (B : zB p s m args c E mX1_makeLeaves.1.cls mX1_makeLeaves.2.1 mX1_makeLeaves.2.2.1) (hr : meth.sig.returnType = mX1_makeLeaves.2.2.2) (hlk : meth.locks = false) : zLk (zG p l e (zrm d) s m args below meth c E mX1_makeLeaves.2.2.1 0 0 (MQ below (zQc E Q) args s 0 0 (zaA E))) 112 (b_X1_makeLeaves_112 d (zG p l e (zrm d) s m args below meth c E mX1_makeLeaves.2.2.1 0 0 (MQ below (zQc E Q) args s 0 0 (zaA E))) Q) := by
  unfold b_X1_makeLeaves_112
  exact lk_aln B dX1_makeLeaves_112 rfl (lk_gf (T := TX1) B cl_X1 (by decide) in_X1 zw_143 dX1_makeLeaves_113 (lk_b B dX1_makeLeaves_116 rfl (lk_ilt B dX1_makeLeaves_118 (by decide) (fun _ _ _ h => h) (k_X1_makeLeaves_121 hd1 B hr hlk))))
set_option maxRecDepth 20000 in
theorem k_X1_makeLeaves_64 {p : Program} {l : Launch} {e : Env} {s : State} {m : MethodId} {args : Array Value} {below : List Frame} {meth : Method} {c : Code} {E : zE} {d : Nat} {Q : zQ} (hd1 : 1 ≤ d) (B : zB p s m args c E mX1_makeLeaves.1.cls mX1_makeLeaves.2.1 mX1_makeLeaves.2.2.1) (hr : meth.sig.returnType = mX1_makeLeaves.2.2.2) (hlk : meth.locks = false) : zLk (zG p l e (zrm d) s m args below meth c E mX1_makeLeaves.2.2.1 0 0 (MQ below (zQc E Q) args s 0 0 (zaA E))) 64 (b_X1_makeLeaves_64 d (zG p l e (zrm d) s m args below meth c E mX1_makeLeaves.2.2.1 0 0 (MQ below (zQc E Q) args s 0 0 (zaA E))) Q) := by
  unfold b_X1_makeLeaves_64
  exact lk_aln B dX1_makeLeaves_64 rfl (lk_gf (T := TX1) B cl_X1 (by decide) in_X1 zw_141 dX1_makeLeaves_65 (lk_aln B dX1_makeLeaves_68 rfl (lk_gf (T := TX1) B cl_X1 (by decide) in_X1 zw_143 dX1_makeLeaves_69 (lk_al B dX1_makeLeaves_72 (lk_callv (M := mX0_finishBlock) (T := TX0) (N := 4) B (zhR hd1 (by decide)) ⟨Nat.zero_le _, Nat.zero_le _⟩ cl_X0 (zw5 zw_305 zw_480 zw_303 zw_304 zw_55) (by decide +kernel) dX1_makeLeaves_74 (lk_iast B dX1_makeLeaves_77 (lk_aln B dX1_makeLeaves_78 rfl (lk_gf (T := TX1) B cl_X1 (by decide) in_X1 zw_142 dX1_makeLeaves_79 (lk_aln B dX1_makeLeaves_82 rfl (lk_gf (T := TX1) B cl_X1 (by decide) in_X1 zw_143 dX1_makeLeaves_83 (lk_il B dX1_makeLeaves_86 (lk_il B dX1_makeLeaves_88 (lk_sub B dX1_makeLeaves_90 (lk_iast B dX1_makeLeaves_91 (lk_aln B dX1_makeLeaves_92 rfl (lk_dup B dX1_makeLeaves_93 (lk_gf (T := TX1) B cl_X1 (by decide) in_X1 zw_143 dX1_makeLeaves_94 (lk_c B dX1_makeLeaves_97 (lk_add B dX1_makeLeaves_98 (lk_pf (T := TX1) B cl_X1 (by decide) in_X1 tyX1_ok nmX1 zw_143 rfl (by decide +kernel) dX1_makeLeaves_99 (lk_il B dX1_makeLeaves_102 (lk_is B dX1_makeLeaves_104 (by decide) (lk_il B dX1_makeLeaves_106 (lk_iln B dX1_makeLeaves_108 rfl (lk_ige B dX1_makeLeaves_109 (by decide) (k_X1_makeLeaves_121 hd1 B hr hlk) (k_X1_makeLeaves_112 hd1 B hr hlk))))))))))))))))))))))))))
set_option maxRecDepth 20000 in
theorem k_X1_makeLeaves_49 {p : Program} {l : Launch} {e : Env} {s : State} {m : MethodId} {args : Array Value} {below : List Frame} {meth : Method} {c : Code} {E : zE} {d : Nat} {Q : zQ} (hd1 : 1 ≤ d) (B : zB p s m args c E mX1_makeLeaves.1.cls mX1_makeLeaves.2.1 mX1_makeLeaves.2.2.1) (hr : meth.sig.returnType = mX1_makeLeaves.2.2.2) (hlk : meth.locks = false) : zLk (zG p l e (zrm d) s m args below meth c E mX1_makeLeaves.2.2.1 0 0 (MQ below (zQc E Q) args s 0 0 (zaA E))) 49 (b_X1_makeLeaves_49 d (zG p l e (zrm d) s m args below meth c E mX1_makeLeaves.2.2.1 0 0 (MQ below (zQc E Q) args s 0 0 (zaA E))) Q) := by
  unfold b_X1_makeLeaves_49
  exact lk_al B dX1_makeLeaves_49 (lk_aln B dX1_makeLeaves_51 rfl (lk_il B dX1_makeLeaves_52 (lk_iald B dX1_makeLeaves_54 (lk_callv (M := mX0_write) (T := TX0) (N := 4) B (zhR hd1 (by decide)) ⟨Nat.zero_le _, Nat.zero_le _⟩ cl_X0 (zw5 zw_301 zw_479 zw_299 zw_300 zw_55) (by decide +kernel) dX1_makeLeaves_55 (lk_inc B dX1_makeLeaves_58 (by decide) (lk_goto B dX1_makeLeaves_61 (by decide) (fun _ _ _ h => h)))))))
set_option maxRecDepth 20000 in
theorem k_X1_makeLeaves_42 {p : Program} {l : Launch} {e : Env} {s : State} {m : MethodId} {args : Array Value} {below : List Frame} {meth : Method} {c : Code} {E : zE} {d : Nat} {Q : zQ} (hd1 : 1 ≤ d) (B : zB p s m args c E mX1_makeLeaves.1.cls mX1_makeLeaves.2.1 mX1_makeLeaves.2.2.1) (hr : meth.sig.returnType = mX1_makeLeaves.2.2.2) (hlk : meth.locks = false) : zLk (zG p l e (zrm d) s m args below meth c E mX1_makeLeaves.2.2.1 0 0 (MQ below (zQc E Q) args s 0 0 (zaA E))) 42 (b_X1_makeLeaves_42 d (zG p l e (zrm d) s m args below meth c E mX1_makeLeaves.2.2.1 0 0 (MQ below (zQc E Q) args s 0 0 (zaA E))) Q) := by
  unfold b_X1_makeLeaves_42
  exact lk_il B dX1_makeLeaves_42 (lk_il B dX1_makeLeaves_44 (lk_ige B dX1_makeLeaves_46 (by decide) (k_X1_makeLeaves_64 hd1 B hr hlk) (k_X1_makeLeaves_49 hd1 B hr hlk)))
def S_X1_makeLeaves (d : Nat) (G : Nat → zK) (Q : zQ) : Prop := zLk G 0 (b_X1_makeLeaves_0 d G Q) ∧ zLk G 8 (b_X1_makeLeaves_8 d G Q) ∧ zLk G 42 (b_X1_makeLeaves_42 d G Q)
theorem s_X1_makeLeaves_0 {d : Nat} {G : Nat → zK} {Q : zQ} (h : S_X1_makeLeaves d G Q) {ls st : List zV} {μ : zM} (k : b_X1_makeLeaves_0 d G Q ls st μ) : G 0 ls st μ := h.1 ls st μ k
theorem s_X1_makeLeaves_8 {d : Nat} {G : Nat → zK} {Q : zQ} (h : S_X1_makeLeaves d G Q) {ls st : List zV} {μ : zM} (k : b_X1_makeLeaves_8 d G Q ls st μ) : G 8 ls st μ := h.2.1 ls st μ k
theorem s_X1_makeLeaves_42 {d : Nat} {G : Nat → zK} {Q : zQ} (h : S_X1_makeLeaves d G Q) {ls st : List zV} {μ : zM} (k : b_X1_makeLeaves_42 d G Q ls st μ) : G 42 ls st μ := h.2.2 ls st μ k
theorem of_X1_makeLeaves {d : Nat} {a0 a1 a2 a3 a4 : zV} {μ : zM} {Q : zQ} (hd1 : 1 ≤ d) (h : ∀ G : Nat → zK, S_X1_makeLeaves d G Q → G 0 [a0, a1, a2, a3, a4, .inr none, .inr none, .inr none] [] μ) : zCt d mX1_makeLeaves [a0, a1, a2, a3, a4] μ Q := zCt.mk (by decide) (Nat.le_of_ble_eq_true rfl) (fun p l e s m args below meth c E B hr hlk => h _ ⟨k_X1_makeLeaves_0 hd1 B hr hlk, k_X1_makeLeaves_8 hd1 B hr hlk, k_X1_makeLeaves_42 hd1 B hr hlk⟩)
theorem dX1_endByContent_0 : decode cX1_endByContent 0 = .ok (.iload_n 1, 1) := by decide +kernel
theorem dX1_endByContent_1 : decode cX1_endByContent 1 = .ok (.iload_n 2, 1) := by decide +kernel
theorem dX1_endByContent_2 : decode cX1_endByContent 2 = .ok (.bipush 8, 2) := by decide +kernel
theorem dX1_endByContent_4 : decode cX1_endByContent 4 = .ok (.iadd, 1) := by decide +kernel
theorem dX1_endByContent_5 : decode cX1_endByContent 5 = .ok (.invokestatic 34, 3) := by decide +kernel
theorem dX1_endByContent_8 : decode cX1_endByContent 8 = .ok (.istore_n 3, 1) := by decide +kernel
theorem dX1_endByContent_9 : decode cX1_endByContent 9 = .ok (.iload_n 2, 1) := by decide +kernel
theorem dX1_endByContent_10 : decode cX1_endByContent 10 = .ok (.iconst 2, 1) := by decide +kernel
theorem dX1_endByContent_11 : decode cX1_endByContent 11 = .ok (.iadd, 1) := by decide +kernel
theorem dX1_endByContent_12 : decode cX1_endByContent 12 = .ok (.istore 4, 2) := by decide +kernel
theorem dX1_endByContent_14 : decode cX1_endByContent 14 = .ok (.iload 4, 2) := by decide +kernel
theorem dX1_endByContent_16 : decode cX1_endByContent 16 = .ok (.iload_n 3, 1) := by decide +kernel
theorem dX1_endByContent_17 : decode cX1_endByContent 17 = .ok (.if_icmp .ge 32, 3) := by decide +kernel
theorem dX1_endByContent_20 : decode cX1_endByContent 20 = .ok (.aload_n 0, 1) := by decide +kernel
theorem dX1_endByContent_21 : decode cX1_endByContent 21 = .ok (.iload 4, 2) := by decide +kernel
theorem dX1_endByContent_23 : decode cX1_endByContent 23 = .ok (.iconst 1, 1) := by decide +kernel
theorem dX1_endByContent_24 : decode cX1_endByContent 24 = .ok (.isub, 1) := by decide +kernel
theorem dX1_endByContent_25 : decode cX1_endByContent 25 = .ok (.iaload, 1) := by decide +kernel
theorem dX1_endByContent_26 : decode cX1_endByContent 26 = .ok (.iconst 3, 1) := by decide +kernel
theorem dX1_endByContent_27 : decode cX1_endByContent 27 = .ok (.aload_n 0, 1) := by decide +kernel
theorem dX1_endByContent_28 : decode cX1_endByContent 28 = .ok (.iload 4, 2) := by decide +kernel
theorem dX1_endByContent_30 : decode cX1_endByContent 30 = .ok (.iconst 2, 1) := by decide +kernel
theorem dX1_endByContent_31 : decode cX1_endByContent 31 = .ok (.isub, 1) := by decide +kernel
theorem dX1_endByContent_32 : decode cX1_endByContent 32 = .ok (.iaload, 1) := by decide +kernel
theorem dX1_endByContent_33 : decode cX1_endByContent 33 = .ok (.imul, 1) := by decide +kernel
theorem dX1_endByContent_34 : decode cX1_endByContent 34 = .ok (.iadd, 1) := by decide +kernel
theorem dX1_endByContent_35 : decode cX1_endByContent 35 = .ok (.iconst 5, 1) := by decide +kernel
theorem dX1_endByContent_36 : decode cX1_endByContent 36 = .ok (.irem, 1) := by decide +kernel
theorem dX1_endByContent_37 : decode cX1_endByContent 37 = .ok (.ifCond .ne 6, 3) := by decide +kernel
theorem dX1_endByContent_40 : decode cX1_endByContent 40 = .ok (.iload 4, 2) := by decide +kernel
theorem dX1_endByContent_42 : decode cX1_endByContent 42 = .ok (.ireturn, 1) := by decide +kernel
theorem dX1_endByContent_43 : decode cX1_endByContent 43 = .ok (.iinc 4 1, 3) := by decide +kernel
theorem dX1_endByContent_46 : decode cX1_endByContent 46 = .ok (.goto (-32), 3) := by decide +kernel
theorem dX1_endByContent_49 : decode cX1_endByContent 49 = .ok (.iload_n 3, 1) := by decide +kernel
theorem dX1_endByContent_50 : decode cX1_endByContent 50 = .ok (.ireturn, 1) := by decide +kernel
def b_X1_endByContent_0 (d : Nat) (G : Nat → zK) (Q : zQ) : zK := o_il 1 <| o_il 2 <| o_c 8 <| o_add <| o_min <| o_is 3 <| o_il 2 <| o_c 2 <| o_add <| o_is 4 <| G 14
def b_X1_endByContent_49 (d : Nat) (G : Nat → zK) (Q : zQ) : zK := o_il 3 <| t_iret Q
def b_X1_endByContent_43 (d : Nat) (G : Nat → zK) (Q : zQ) : zK := o_inc 4 1 <| G 14
def b_X1_endByContent_40 (d : Nat) (G : Nat → zK) (Q : zQ) : zK := o_il 4 <| t_iret Q
def b_X1_endByContent_20 (d : Nat) (G : Nat → zK) (Q : zQ) : zK := o_al 0 <| o_il 4 <| o_c 1 <| o_sub <| o_iald <| o_c 3 <| o_al 0 <| o_il 4 <| o_c 2 <| o_sub <| o_iald <| o_mul <| o_add <| o_c 5 <| o_rem <| t_zeq (b_X1_endByContent_40 d G Q) (b_X1_endByContent_43 d G Q)
def b_X1_endByContent_14 (d : Nat) (G : Nat → zK) (Q : zQ) : zK := o_il 4 <| o_il 3 <| t_ilt (b_X1_endByContent_20 d G Q) (b_X1_endByContent_49 d G Q)
set_option maxRecDepth 20000 in
theorem k_X1_endByContent_0 {p : Program} {l : Launch} {e : Env} {s : State} {m : MethodId} {args : Array Value} {below : List Frame} {meth : Method} {c : Code} {E : zE} {d : Nat} {Q : zQ} (hd1 : 1 ≤ d) (B : zB p s m args c E mX1_endByContent.1.cls mX1_endByContent.2.1 mX1_endByContent.2.2.1) (hr : meth.sig.returnType = mX1_endByContent.2.2.2) (hlk : meth.locks = false) : zLk (zG p l e (zrm d) s m args below meth c E mX1_endByContent.2.2.1 0 0 (MQ below (zQc E Q) args s 0 0 (zaA E))) 0 (b_X1_endByContent_0 d (zG p l e (zrm d) s m args below meth c E mX1_endByContent.2.2.1 0 0 (MQ below (zQc E Q) args s 0 0 (zaA E))) Q) := by
  have hRm : 1 ≤ (zrm d).frames ∧ 21 ≤ (zrm d).locals := zhRm hd1
  unfold b_X1_endByContent_0
  exact lk_iln B dX1_endByContent_0 rfl (lk_iln B dX1_endByContent_1 rfl (lk_b B dX1_endByContent_2 rfl (lk_add B dX1_endByContent_4 (lk_min B hRm ⟨Nat.zero_le _, Nat.zero_le _⟩ (zw4 zw_476 zw_477 zw_62 zw_478) dX1_endByContent_5 (lk_isn B dX1_endByContent_8 rfl (by decide) (lk_iln B dX1_endByContent_9 rfl (lk_c B dX1_endByContent_10 (lk_add B dX1_endByContent_11 (lk_is B dX1_endByContent_12 (by decide) (fun _ _ _ h => h))))))))))
set_option maxRecDepth 20000 in
theorem k_X1_endByContent_49 {p : Program} {l : Launch} {e : Env} {s : State} {m : MethodId} {args : Array Value} {below : List Frame} {meth : Method} {c : Code} {E : zE} {d : Nat} {Q : zQ} (hd1 : 1 ≤ d) (B : zB p s m args c E mX1_endByContent.1.cls mX1_endByContent.2.1 mX1_endByContent.2.2.1) (hr : meth.sig.returnType = mX1_endByContent.2.2.2) (hlk : meth.locks = false) : zLk (zG p l e (zrm d) s m args below meth c E mX1_endByContent.2.2.1 0 0 (MQ below (zQc E Q) args s 0 0 (zaA E))) 49 (b_X1_endByContent_49 d (zG p l e (zrm d) s m args below meth c E mX1_endByContent.2.2.1 0 0 (MQ below (zQc E Q) args s 0 0 (zaA E))) Q) := by
  unfold b_X1_endByContent_49
  exact lk_iln B dX1_endByContent_49 rfl (lk_iret B hr hlk dX1_endByContent_50)
set_option maxRecDepth 20000 in
theorem k_X1_endByContent_43 {p : Program} {l : Launch} {e : Env} {s : State} {m : MethodId} {args : Array Value} {below : List Frame} {meth : Method} {c : Code} {E : zE} {d : Nat} {Q : zQ} (hd1 : 1 ≤ d) (B : zB p s m args c E mX1_endByContent.1.cls mX1_endByContent.2.1 mX1_endByContent.2.2.1) (hr : meth.sig.returnType = mX1_endByContent.2.2.2) (hlk : meth.locks = false) : zLk (zG p l e (zrm d) s m args below meth c E mX1_endByContent.2.2.1 0 0 (MQ below (zQc E Q) args s 0 0 (zaA E))) 43 (b_X1_endByContent_43 d (zG p l e (zrm d) s m args below meth c E mX1_endByContent.2.2.1 0 0 (MQ below (zQc E Q) args s 0 0 (zaA E))) Q) := by
  unfold b_X1_endByContent_43
  exact lk_inc B dX1_endByContent_43 (by decide) (lk_goto B dX1_endByContent_46 (by decide) (fun _ _ _ h => h))
set_option maxRecDepth 20000 in
theorem k_X1_endByContent_40 {p : Program} {l : Launch} {e : Env} {s : State} {m : MethodId} {args : Array Value} {below : List Frame} {meth : Method} {c : Code} {E : zE} {d : Nat} {Q : zQ} (hd1 : 1 ≤ d) (B : zB p s m args c E mX1_endByContent.1.cls mX1_endByContent.2.1 mX1_endByContent.2.2.1) (hr : meth.sig.returnType = mX1_endByContent.2.2.2) (hlk : meth.locks = false) : zLk (zG p l e (zrm d) s m args below meth c E mX1_endByContent.2.2.1 0 0 (MQ below (zQc E Q) args s 0 0 (zaA E))) 40 (b_X1_endByContent_40 d (zG p l e (zrm d) s m args below meth c E mX1_endByContent.2.2.1 0 0 (MQ below (zQc E Q) args s 0 0 (zaA E))) Q) := by
  unfold b_X1_endByContent_40
  exact lk_il B dX1_endByContent_40 (lk_iret B hr hlk dX1_endByContent_42)
set_option maxRecDepth 20000 in
theorem k_X1_endByContent_20 {p : Program} {l : Launch} {e : Env} {s : State} {m : MethodId} {args : Array Value} {below : List Frame} {meth : Method} {c : Code} {E : zE} {d : Nat} {Q : zQ} (hd1 : 1 ≤ d) (B : zB p s m args c E mX1_endByContent.1.cls mX1_endByContent.2.1 mX1_endByContent.2.2.1) (hr : meth.sig.returnType = mX1_endByContent.2.2.2) (hlk : meth.locks = false) : zLk (zG p l e (zrm d) s m args below meth c E mX1_endByContent.2.2.1 0 0 (MQ below (zQc E Q) args s 0 0 (zaA E))) 20 (b_X1_endByContent_20 d (zG p l e (zrm d) s m args below meth c E mX1_endByContent.2.2.1 0 0 (MQ below (zQc E Q) args s 0 0 (zaA E))) Q) := by
  unfold b_X1_endByContent_20
  exact lk_aln B dX1_endByContent_20 rfl (lk_il B dX1_endByContent_21 (lk_c B dX1_endByContent_23 (lk_sub B dX1_endByContent_24 (lk_iald B dX1_endByContent_25 (lk_c B dX1_endByContent_26 (lk_aln B dX1_endByContent_27 rfl (lk_il B dX1_endByContent_28 (lk_c B dX1_endByContent_30 (lk_sub B dX1_endByContent_31 (lk_iald B dX1_endByContent_32 (lk_mul B dX1_endByContent_33 (lk_add B dX1_endByContent_34 (lk_c B dX1_endByContent_35 (lk_rem B dX1_endByContent_36 (lk_zne B dX1_endByContent_37 (by decide) (k_X1_endByContent_43 hd1 B hr hlk) (k_X1_endByContent_40 hd1 B hr hlk))))))))))))))))
set_option maxRecDepth 20000 in
theorem k_X1_endByContent_14 {p : Program} {l : Launch} {e : Env} {s : State} {m : MethodId} {args : Array Value} {below : List Frame} {meth : Method} {c : Code} {E : zE} {d : Nat} {Q : zQ} (hd1 : 1 ≤ d) (B : zB p s m args c E mX1_endByContent.1.cls mX1_endByContent.2.1 mX1_endByContent.2.2.1) (hr : meth.sig.returnType = mX1_endByContent.2.2.2) (hlk : meth.locks = false) : zLk (zG p l e (zrm d) s m args below meth c E mX1_endByContent.2.2.1 0 0 (MQ below (zQc E Q) args s 0 0 (zaA E))) 14 (b_X1_endByContent_14 d (zG p l e (zrm d) s m args below meth c E mX1_endByContent.2.2.1 0 0 (MQ below (zQc E Q) args s 0 0 (zaA E))) Q) := by
  unfold b_X1_endByContent_14
  exact lk_il B dX1_endByContent_14 (lk_iln B dX1_endByContent_16 rfl (lk_ige B dX1_endByContent_17 (by decide) (k_X1_endByContent_49 hd1 B hr hlk) (k_X1_endByContent_20 hd1 B hr hlk)))
def S_X1_endByContent (d : Nat) (G : Nat → zK) (Q : zQ) : Prop := zLk G 0 (b_X1_endByContent_0 d G Q) ∧ zLk G 14 (b_X1_endByContent_14 d G Q)
theorem s_X1_endByContent_0 {d : Nat} {G : Nat → zK} {Q : zQ} (h : S_X1_endByContent d G Q) {ls st : List zV} {μ : zM} (k : b_X1_endByContent_0 d G Q ls st μ) : G 0 ls st μ := h.1 ls st μ k
theorem s_X1_endByContent_14 {d : Nat} {G : Nat → zK} {Q : zQ} (h : S_X1_endByContent d G Q) {ls st : List zV} {μ : zM} (k : b_X1_endByContent_14 d G Q ls st μ) : G 14 ls st μ := h.2 ls st μ k
theorem of_X1_endByContent {d : Nat} {a0 a1 a2 : zV} {μ : zM} {Q : zQ} (hd1 : 1 ≤ d) (h : ∀ G : Nat → zK, S_X1_endByContent d G Q → G 0 [a0, a1, a2, .inr none, .inr none] [] μ) : zCt d mX1_endByContent [a0, a1, a2] μ Q := zCt.mk (by decide) (Nat.le_of_ble_eq_true rfl) (fun p l e s m args below meth c E B hr hlk => h _ ⟨k_X1_endByContent_0 hd1 B hr hlk, k_X1_endByContent_14 hd1 B hr hlk⟩)
theorem dX1_makeTrees_0 : decode cX1_makeTrees 0 = .ok (.iconst 0, 1) := by decide +kernel
theorem dX1_makeTrees_1 : decode cX1_makeTrees 1 = .ok (.istore_n 3, 1) := by decide +kernel
theorem dX1_makeTrees_2 : decode cX1_makeTrees 2 = .ok (.iconst 0, 1) := by decide +kernel
theorem dX1_makeTrees_3 : decode cX1_makeTrees 3 = .ok (.istore 4, 2) := by decide +kernel
theorem dX1_makeTrees_5 : decode cX1_makeTrees 5 = .ok (.iload 4, 2) := by decide +kernel
theorem dX1_makeTrees_7 : decode cX1_makeTrees 7 = .ok (.aload_n 0, 1) := by decide +kernel
theorem dX1_makeTrees_8 : decode cX1_makeTrees 8 = .ok (.getfield 18, 3) := by decide +kernel
theorem dX1_makeTrees_11 : decode cX1_makeTrees 11 = .ok (.if_icmp .ge 120, 3) := by decide +kernel
theorem dX1_makeTrees_14 : decode cX1_makeTrees 14 = .ok (.iload_n 3, 1) := by decide +kernel
theorem dX1_makeTrees_15 : decode cX1_makeTrees 15 = .ok (.bipush 32, 2) := by decide +kernel
theorem dX1_makeTrees_17 : decode cX1_makeTrees 17 = .ok (.if_icmp .ge 114, 3) := by decide +kernel
theorem dX1_makeTrees_20 : decode cX1_makeTrees 20 = .ok (.aload_n 0, 1) := by decide +kernel
theorem dX1_makeTrees_21 : decode cX1_makeTrees 21 = .ok (.getfield 18, 3) := by decide +kernel
theorem dX1_makeTrees_24 : decode cX1_makeTrees 24 = .ok (.iload 4, 2) := by decide +kernel
theorem dX1_makeTrees_26 : decode cX1_makeTrees 26 = .ok (.iload_n 1, 1) := by decide +kernel
theorem dX1_makeTrees_27 : decode cX1_makeTrees 27 = .ok (.iadd, 1) := by decide +kernel
theorem dX1_makeTrees_28 : decode cX1_makeTrees 28 = .ok (.invokestatic 34, 3) := by decide +kernel
theorem dX1_makeTrees_31 : decode cX1_makeTrees 31 = .ok (.istore 5, 2) := by decide +kernel
theorem dX1_makeTrees_33 : decode cX1_makeTrees 33 = .ok (.iconst 0, 1) := by decide +kernel
theorem dX1_makeTrees_34 : decode cX1_makeTrees 34 = .ok (.istore 6, 2) := by decide +kernel
theorem dX1_makeTrees_36 : decode cX1_makeTrees 36 = .ok (.aload_n 2, 1) := by decide +kernel
theorem dX1_makeTrees_37 : decode cX1_makeTrees 37 = .ok (.iconst 1, 1) := by decide +kernel
theorem dX1_makeTrees_38 : decode cX1_makeTrees 38 = .ok (.invokevirtual 42, 3) := by decide +kernel
theorem dX1_makeTrees_41 : decode cX1_makeTrees 41 = .ok (.aload_n 2, 1) := by decide +kernel
theorem dX1_makeTrees_42 : decode cX1_makeTrees 42 = .ok (.iload 5, 2) := by decide +kernel
theorem dX1_makeTrees_44 : decode cX1_makeTrees 44 = .ok (.iload 4, 2) := by decide +kernel
theorem dX1_makeTrees_46 : decode cX1_makeTrees 46 = .ok (.isub, 1) := by decide +kernel
theorem dX1_makeTrees_47 : decode cX1_makeTrees 47 = .ok (.invokevirtual 42, 3) := by decide +kernel
theorem dX1_makeTrees_50 : decode cX1_makeTrees 50 = .ok (.iload 4, 2) := by decide +kernel
theorem dX1_makeTrees_52 : decode cX1_makeTrees 52 = .ok (.istore 7, 2) := by decide +kernel
theorem dX1_makeTrees_54 : decode cX1_makeTrees 54 = .ok (.iload 7, 2) := by decide +kernel
theorem dX1_makeTrees_56 : decode cX1_makeTrees 56 = .ok (.iload 5, 2) := by decide +kernel
theorem dX1_makeTrees_58 : decode cX1_makeTrees 58 = .ok (.if_icmp .ge 43, 3) := by decide +kernel
theorem dX1_makeTrees_61 : decode cX1_makeTrees 61 = .ok (.aload_n 2, 1) := by decide +kernel
theorem dX1_makeTrees_62 : decode cX1_makeTrees 62 = .ok (.aload_n 0, 1) := by decide +kernel
theorem dX1_makeTrees_63 : decode cX1_makeTrees 63 = .ok (.getfield 15, 3) := by decide +kernel
theorem dX1_makeTrees_66 : decode cX1_makeTrees 66 = .ok (.iload 7, 2) := by decide +kernel
theorem dX1_makeTrees_68 : decode cX1_makeTrees 68 = .ok (.iaload, 1) := by decide +kernel
theorem dX1_makeTrees_69 : decode cX1_makeTrees 69 = .ok (.invokevirtual 52, 3) := by decide +kernel
theorem dX1_makeTrees_72 : decode cX1_makeTrees 72 = .ok (.aload_n 2, 1) := by decide +kernel
theorem dX1_makeTrees_73 : decode cX1_makeTrees 73 = .ok (.aload_n 0, 1) := by decide +kernel
theorem dX1_makeTrees_74 : decode cX1_makeTrees 74 = .ok (.getfield 9, 3) := by decide +kernel
theorem dX1_makeTrees_77 : decode cX1_makeTrees 77 = .ok (.iload 7, 2) := by decide +kernel
theorem dX1_makeTrees_79 : decode cX1_makeTrees 79 = .ok (.iaload, 1) := by decide +kernel
theorem dX1_makeTrees_80 : decode cX1_makeTrees 80 = .ok (.invokevirtual 52, 3) := by decide +kernel
theorem dX1_makeTrees_83 : decode cX1_makeTrees 83 = .ok (.iload 6, 2) := by decide +kernel
theorem dX1_makeTrees_85 : decode cX1_makeTrees 85 = .ok (.aload_n 0, 1) := by decide +kernel
theorem dX1_makeTrees_86 : decode cX1_makeTrees 86 = .ok (.getfield 15, 3) := by decide +kernel
theorem dX1_makeTrees_89 : decode cX1_makeTrees 89 = .ok (.iload 7, 2) := by decide +kernel
theorem dX1_makeTrees_91 : decode cX1_makeTrees 91 = .ok (.iaload, 1) := by decide +kernel
theorem dX1_makeTrees_92 : decode cX1_makeTrees 92 = .ok (.iadd, 1) := by decide +kernel
theorem dX1_makeTrees_93 : decode cX1_makeTrees 93 = .ok (.istore 6, 2) := by decide +kernel
theorem dX1_makeTrees_95 : decode cX1_makeTrees 95 = .ok (.iinc 7 1, 3) := by decide +kernel
theorem dX1_makeTrees_98 : decode cX1_makeTrees 98 = .ok (.goto (-44), 3) := by decide +kernel
theorem dX1_makeTrees_101 : decode cX1_makeTrees 101 = .ok (.aload_n 0, 1) := by decide +kernel
theorem dX1_makeTrees_102 : decode cX1_makeTrees 102 = .ok (.getfield 9, 3) := by decide +kernel
theorem dX1_makeTrees_105 : decode cX1_makeTrees 105 = .ok (.iload_n 3, 1) := by decide +kernel
theorem dX1_makeTrees_106 : decode cX1_makeTrees 106 = .ok (.aload_n 2, 1) := by decide +kernel
theorem dX1_makeTrees_107 : decode cX1_makeTrees 107 = .ok (.invokevirtual 48, 3) := by decide +kernel
theorem dX1_makeTrees_110 : decode cX1_makeTrees 110 = .ok (.iastore, 1) := by decide +kernel
theorem dX1_makeTrees_111 : decode cX1_makeTrees 111 = .ok (.aload_n 0, 1) := by decide +kernel
theorem dX1_makeTrees_112 : decode cX1_makeTrees 112 = .ok (.getfield 15, 3) := by decide +kernel
theorem dX1_makeTrees_115 : decode cX1_makeTrees 115 = .ok (.iload_n 3, 1) := by decide +kernel
theorem dX1_makeTrees_116 : decode cX1_makeTrees 116 = .ok (.iload 6, 2) := by decide +kernel
theorem dX1_makeTrees_118 : decode cX1_makeTrees 118 = .ok (.iastore, 1) := by decide +kernel
theorem dX1_makeTrees_119 : decode cX1_makeTrees 119 = .ok (.iinc 3 1, 3) := by decide +kernel
theorem dX1_makeTrees_122 : decode cX1_makeTrees 122 = .ok (.iload 4, 2) := by decide +kernel
theorem dX1_makeTrees_124 : decode cX1_makeTrees 124 = .ok (.iload_n 1, 1) := by decide +kernel
theorem dX1_makeTrees_125 : decode cX1_makeTrees 125 = .ok (.iadd, 1) := by decide +kernel
theorem dX1_makeTrees_126 : decode cX1_makeTrees 126 = .ok (.istore 4, 2) := by decide +kernel
theorem dX1_makeTrees_128 : decode cX1_makeTrees 128 = .ok (.goto (-123), 3) := by decide +kernel
theorem dX1_makeTrees_131 : decode cX1_makeTrees 131 = .ok (.aload_n 0, 1) := by decide +kernel
theorem dX1_makeTrees_132 : decode cX1_makeTrees 132 = .ok (.iload_n 3, 1) := by decide +kernel
theorem dX1_makeTrees_133 : decode cX1_makeTrees 133 = .ok (.putfield 18, 3) := by decide +kernel
theorem dX1_makeTrees_136 : decode cX1_makeTrees 136 = .ok (.return_, 1) := by decide +kernel
def b_X1_makeTrees_0 (d : Nat) (G : Nat → zK) (Q : zQ) : zK := o_c 0 <| o_is 3 <| o_c 0 <| o_is 4 <| G 5
def b_X1_makeTrees_131 (d : Nat) (G : Nat → zK) (Q : zQ) : zK := o_al 0 <| o_il 3 <| o_pf 1 2 <| t_vret Q
def b_X1_makeTrees_20 (d : Nat) (G : Nat → zK) (Q : zQ) : zK := o_al 0 <| o_gf 1 2 <| o_il 4 <| o_il 1 <| o_add <| o_min <| o_is 5 <| o_c 0 <| o_is 6 <| o_al 2 <| o_c 1 <| o_callv (zCt (d - 1) mX0_write) 0 2 <| o_al 2 <| o_il 5 <| o_il 4 <| o_sub <| o_callv (zCt (d - 1) mX0_write) 0 2 <| o_il 4 <| o_is 7 <| G 54
def b_X1_makeTrees_14 (d : Nat) (G : Nat → zK) (Q : zQ) : zK := o_il 3 <| o_c 32 <| t_ilt (b_X1_makeTrees_20 d G Q) (b_X1_makeTrees_131 d G Q)
def b_X1_makeTrees_5 (d : Nat) (G : Nat → zK) (Q : zQ) : zK := o_il 4 <| o_al 0 <| o_gf 1 2 <| t_ilt (b_X1_makeTrees_14 d G Q) (b_X1_makeTrees_131 d G Q)
def b_X1_makeTrees_101 (d : Nat) (G : Nat → zK) (Q : zQ) : zK := o_al 0 <| o_gf 1 0 <| o_il 3 <| o_al 2 <| o_callv (zCt (d - 1) mX0_finishBlock) 0 1 <| o_iast <| o_al 0 <| o_gf 1 1 <| o_il 3 <| o_il 6 <| o_iast <| o_inc 3 1 <| o_il 4 <| o_il 1 <| o_add <| o_is 4 <| G 5
def b_X1_makeTrees_61 (d : Nat) (G : Nat → zK) (Q : zQ) : zK := o_al 2 <| o_al 0 <| o_gf 1 1 <| o_il 7 <| o_iald <| o_callv (zCt (d - 1) mX0_writePair) 0 2 <| o_al 2 <| o_al 0 <| o_gf 1 0 <| o_il 7 <| o_iald <| o_callv (zCt (d - 1) mX0_writePair) 0 2 <| o_il 6 <| o_al 0 <| o_gf 1 1 <| o_il 7 <| o_iald <| o_add <| o_is 6 <| o_inc 7 1 <| G 54
def b_X1_makeTrees_54 (d : Nat) (G : Nat → zK) (Q : zQ) : zK := o_il 7 <| o_il 5 <| t_ilt (b_X1_makeTrees_61 d G Q) (b_X1_makeTrees_101 d G Q)
set_option maxRecDepth 20000 in
theorem k_X1_makeTrees_0 {p : Program} {l : Launch} {e : Env} {s : State} {m : MethodId} {args : Array Value} {below : List Frame} {meth : Method} {c : Code} {E : zE} {d : Nat} {Q : zQ} (hd1 : 1 ≤ d) (B : zB p s m args c E mX1_makeTrees.1.cls mX1_makeTrees.2.1 mX1_makeTrees.2.2.1) (hr : meth.sig.returnType = mX1_makeTrees.2.2.2) (hlk : meth.locks = false) : zLk (zG p l e (zrm d) s m args below meth c E mX1_makeTrees.2.2.1 0 0 (MQ below (zQc E Q) args s 0 0 (zaA E))) 0 (b_X1_makeTrees_0 d (zG p l e (zrm d) s m args below meth c E mX1_makeTrees.2.2.1 0 0 (MQ below (zQc E Q) args s 0 0 (zaA E))) Q) := by
  unfold b_X1_makeTrees_0
  exact lk_c B dX1_makeTrees_0 (lk_isn B dX1_makeTrees_1 rfl (by decide) (lk_c B dX1_makeTrees_2 (lk_is B dX1_makeTrees_3 (by decide) (fun _ _ _ h => h))))
set_option maxRecDepth 20000 in
theorem k_X1_makeTrees_131 {p : Program} {l : Launch} {e : Env} {s : State} {m : MethodId} {args : Array Value} {below : List Frame} {meth : Method} {c : Code} {E : zE} {d : Nat} {Q : zQ} (hd1 : 1 ≤ d) (B : zB p s m args c E mX1_makeTrees.1.cls mX1_makeTrees.2.1 mX1_makeTrees.2.2.1) (hr : meth.sig.returnType = mX1_makeTrees.2.2.2) (hlk : meth.locks = false) : zLk (zG p l e (zrm d) s m args below meth c E mX1_makeTrees.2.2.1 0 0 (MQ below (zQc E Q) args s 0 0 (zaA E))) 131 (b_X1_makeTrees_131 d (zG p l e (zrm d) s m args below meth c E mX1_makeTrees.2.2.1 0 0 (MQ below (zQc E Q) args s 0 0 (zaA E))) Q) := by
  unfold b_X1_makeTrees_131
  exact lk_aln B dX1_makeTrees_131 rfl (lk_iln B dX1_makeTrees_132 rfl (lk_pf (T := TX1) B cl_X1 (by decide) in_X1 tyX1_ok nmX1 zw_143 rfl (by decide +kernel) dX1_makeTrees_133 (lk_vret B hr hlk dX1_makeTrees_136)))
set_option maxRecDepth 20000 in
theorem k_X1_makeTrees_20 {p : Program} {l : Launch} {e : Env} {s : State} {m : MethodId} {args : Array Value} {below : List Frame} {meth : Method} {c : Code} {E : zE} {d : Nat} {Q : zQ} (hd1 : 1 ≤ d) (B : zB p s m args c E mX1_makeTrees.1.cls mX1_makeTrees.2.1 mX1_makeTrees.2.2.1) (hr : meth.sig.returnType = mX1_makeTrees.2.2.2) (hlk : meth.locks = false) : zLk (zG p l e (zrm d) s m args below meth c E mX1_makeTrees.2.2.1 0 0 (MQ below (zQc E Q) args s 0 0 (zaA E))) 20 (b_X1_makeTrees_20 d (zG p l e (zrm d) s m args below meth c E mX1_makeTrees.2.2.1 0 0 (MQ below (zQc E Q) args s 0 0 (zaA E))) Q) := by
  have hRm : 1 ≤ (zrm d).frames ∧ 21 ≤ (zrm d).locals := zhRm hd1
  unfold b_X1_makeTrees_20
  exact lk_aln B dX1_makeTrees_20 rfl (lk_gf (T := TX1) B cl_X1 (by decide) in_X1 zw_143 dX1_makeTrees_21 (lk_il B dX1_makeTrees_24 (lk_iln B dX1_makeTrees_26 rfl (lk_add B dX1_makeTrees_27 (lk_min B hRm ⟨Nat.zero_le _, Nat.zero_le _⟩ (zw4 zw_476 zw_477 zw_62 zw_478) dX1_makeTrees_28 (lk_is B dX1_makeTrees_31 (by decide) (lk_c B dX1_makeTrees_33 (lk_is B dX1_makeTrees_34 (by decide) (lk_aln B dX1_makeTrees_36 rfl (lk_c B dX1_makeTrees_37 (lk_callv (M := mX0_write) (T := TX0) (N := 4) B (zhR hd1 (by decide)) ⟨Nat.zero_le _, Nat.zero_le _⟩ cl_X0 (zw5 zw_301 zw_479 zw_299 zw_300 zw_55) (by decide +kernel) dX1_makeTrees_38 (lk_aln B dX1_makeTrees_41 rfl (lk_il B dX1_makeTrees_42 (lk_il B dX1_makeTrees_44 (lk_sub B dX1_makeTrees_46 (lk_callv (M := mX0_write) (T := TX0) (N := 4) B (zhR hd1 (by decide)) ⟨Nat.zero_le _, Nat.zero_le _⟩ cl_X0 (zw5 zw_301 zw_479 zw_299 zw_300 zw_55) (by decide +kernel) dX1_makeTrees_47 (lk_il B dX1_makeTrees_50 (lk_is B dX1_makeTrees_52 (by decide) (fun _ _ _ h => h)))))))))))))))))))
set_option maxRecDepth 20000 in
theorem k_X1_makeTrees_14 {p : Program} {l : Launch} {e : Env} {s : State} {m : MethodId} {args : Array Value} {below : List Frame} {meth : Method} {c : Code} {E : zE} {d : Nat} {Q : zQ} (hd1 : 1 ≤ d) (B : zB p s m args c E mX1_makeTrees.1.cls mX1_makeTrees.2.1 mX1_makeTrees.2.2.1) (hr : meth.sig.returnType = mX1_makeTrees.2.2.2) (hlk : meth.locks = false) : zLk (zG p l e (zrm d) s m args below meth c E mX1_makeTrees.2.2.1 0 0 (MQ below (zQc E Q) args s 0 0 (zaA E))) 14 (b_X1_makeTrees_14 d (zG p l e (zrm d) s m args below meth c E mX1_makeTrees.2.2.1 0 0 (MQ below (zQc E Q) args s 0 0 (zaA E))) Q) := by
  unfold b_X1_makeTrees_14
  exact lk_iln B dX1_makeTrees_14 rfl (lk_b B dX1_makeTrees_15 rfl (lk_ige B dX1_makeTrees_17 (by decide) (k_X1_makeTrees_131 hd1 B hr hlk) (k_X1_makeTrees_20 hd1 B hr hlk)))
set_option maxRecDepth 20000 in
theorem k_X1_makeTrees_5 {p : Program} {l : Launch} {e : Env} {s : State} {m : MethodId} {args : Array Value} {below : List Frame} {meth : Method} {c : Code} {E : zE} {d : Nat} {Q : zQ} (hd1 : 1 ≤ d) (B : zB p s m args c E mX1_makeTrees.1.cls mX1_makeTrees.2.1 mX1_makeTrees.2.2.1) (hr : meth.sig.returnType = mX1_makeTrees.2.2.2) (hlk : meth.locks = false) : zLk (zG p l e (zrm d) s m args below meth c E mX1_makeTrees.2.2.1 0 0 (MQ below (zQc E Q) args s 0 0 (zaA E))) 5 (b_X1_makeTrees_5 d (zG p l e (zrm d) s m args below meth c E mX1_makeTrees.2.2.1 0 0 (MQ below (zQc E Q) args s 0 0 (zaA E))) Q) := by
  unfold b_X1_makeTrees_5
  exact lk_il B dX1_makeTrees_5 (lk_aln B dX1_makeTrees_7 rfl (lk_gf (T := TX1) B cl_X1 (by decide) in_X1 zw_143 dX1_makeTrees_8 (lk_ige B dX1_makeTrees_11 (by decide) (k_X1_makeTrees_131 hd1 B hr hlk) (k_X1_makeTrees_14 hd1 B hr hlk))))
set_option maxRecDepth 20000 in
theorem k_X1_makeTrees_101 {p : Program} {l : Launch} {e : Env} {s : State} {m : MethodId} {args : Array Value} {below : List Frame} {meth : Method} {c : Code} {E : zE} {d : Nat} {Q : zQ} (hd1 : 1 ≤ d) (B : zB p s m args c E mX1_makeTrees.1.cls mX1_makeTrees.2.1 mX1_makeTrees.2.2.1) (hr : meth.sig.returnType = mX1_makeTrees.2.2.2) (hlk : meth.locks = false) : zLk (zG p l e (zrm d) s m args below meth c E mX1_makeTrees.2.2.1 0 0 (MQ below (zQc E Q) args s 0 0 (zaA E))) 101 (b_X1_makeTrees_101 d (zG p l e (zrm d) s m args below meth c E mX1_makeTrees.2.2.1 0 0 (MQ below (zQc E Q) args s 0 0 (zaA E))) Q) := by
  unfold b_X1_makeTrees_101
  exact lk_aln B dX1_makeTrees_101 rfl (lk_gf (T := TX1) B cl_X1 (by decide) in_X1 zw_141 dX1_makeTrees_102 (lk_iln B dX1_makeTrees_105 rfl (lk_aln B dX1_makeTrees_106 rfl (lk_callv (M := mX0_finishBlock) (T := TX0) (N := 4) B (zhR hd1 (by decide)) ⟨Nat.zero_le _, Nat.zero_le _⟩ cl_X0 (zw5 zw_305 zw_480 zw_303 zw_304 zw_55) (by decide +kernel) dX1_makeTrees_107 (lk_iast B dX1_makeTrees_110 (lk_aln B dX1_makeTrees_111 rfl (lk_gf (T := TX1) B cl_X1 (by decide) in_X1 zw_142 dX1_makeTrees_112 (lk_iln B dX1_makeTrees_115 rfl (lk_il B dX1_makeTrees_116 (lk_iast B dX1_makeTrees_118 (lk_inc B dX1_makeTrees_119 (by decide) (lk_il B dX1_makeTrees_122 (lk_iln B dX1_makeTrees_124 rfl (lk_add B dX1_makeTrees_125 (lk_is B dX1_makeTrees_126 (by decide) (lk_goto B dX1_makeTrees_128 (by decide) (fun _ _ _ h => h)))))))))))))))))
set_option maxRecDepth 20000 in
theorem k_X1_makeTrees_61 {p : Program} {l : Launch} {e : Env} {s : State} {m : MethodId} {args : Array Value} {below : List Frame} {meth : Method} {c : Code} {E : zE} {d : Nat} {Q : zQ} (hd1 : 1 ≤ d) (B : zB p s m args c E mX1_makeTrees.1.cls mX1_makeTrees.2.1 mX1_makeTrees.2.2.1) (hr : meth.sig.returnType = mX1_makeTrees.2.2.2) (hlk : meth.locks = false) : zLk (zG p l e (zrm d) s m args below meth c E mX1_makeTrees.2.2.1 0 0 (MQ below (zQc E Q) args s 0 0 (zaA E))) 61 (b_X1_makeTrees_61 d (zG p l e (zrm d) s m args below meth c E mX1_makeTrees.2.2.1 0 0 (MQ below (zQc E Q) args s 0 0 (zaA E))) Q) := by
  unfold b_X1_makeTrees_61
  exact lk_aln B dX1_makeTrees_61 rfl (lk_aln B dX1_makeTrees_62 rfl (lk_gf (T := TX1) B cl_X1 (by decide) in_X1 zw_142 dX1_makeTrees_63 (lk_il B dX1_makeTrees_66 (lk_iald B dX1_makeTrees_68 (lk_callv (M := mX0_writePair) (T := TX0) (N := 4) B (zhR hd1 (by decide)) ⟨Nat.zero_le _, Nat.zero_le _⟩ cl_X0 (zw5 zw_488 zw_485 zw_486 zw_487 zw_55) (by decide +kernel) dX1_makeTrees_69 (lk_aln B dX1_makeTrees_72 rfl (lk_aln B dX1_makeTrees_73 rfl (lk_gf (T := TX1) B cl_X1 (by decide) in_X1 zw_141 dX1_makeTrees_74 (lk_il B dX1_makeTrees_77 (lk_iald B dX1_makeTrees_79 (lk_callv (M := mX0_writePair) (T := TX0) (N := 4) B (zhR hd1 (by decide)) ⟨Nat.zero_le _, Nat.zero_le _⟩ cl_X0 (zw5 zw_488 zw_485 zw_486 zw_487 zw_55) (by decide +kernel) dX1_makeTrees_80 (lk_il B dX1_makeTrees_83 (lk_aln B dX1_makeTrees_85 rfl (lk_gf (T := TX1) B cl_X1 (by decide) in_X1 zw_142 dX1_makeTrees_86 (lk_il B dX1_makeTrees_89 (lk_iald B dX1_makeTrees_91 (lk_add B dX1_makeTrees_92 (lk_is B dX1_makeTrees_93 (by decide) (lk_inc B dX1_makeTrees_95 (by decide) (lk_goto B dX1_makeTrees_98 (by decide) (fun _ _ _ h => h)))))))))))))))))))))
set_option maxRecDepth 20000 in
theorem k_X1_makeTrees_54 {p : Program} {l : Launch} {e : Env} {s : State} {m : MethodId} {args : Array Value} {below : List Frame} {meth : Method} {c : Code} {E : zE} {d : Nat} {Q : zQ} (hd1 : 1 ≤ d) (B : zB p s m args c E mX1_makeTrees.1.cls mX1_makeTrees.2.1 mX1_makeTrees.2.2.1) (hr : meth.sig.returnType = mX1_makeTrees.2.2.2) (hlk : meth.locks = false) : zLk (zG p l e (zrm d) s m args below meth c E mX1_makeTrees.2.2.1 0 0 (MQ below (zQc E Q) args s 0 0 (zaA E))) 54 (b_X1_makeTrees_54 d (zG p l e (zrm d) s m args below meth c E mX1_makeTrees.2.2.1 0 0 (MQ below (zQc E Q) args s 0 0 (zaA E))) Q) := by
  unfold b_X1_makeTrees_54
  exact lk_il B dX1_makeTrees_54 (lk_il B dX1_makeTrees_56 (lk_ige B dX1_makeTrees_58 (by decide) (k_X1_makeTrees_101 hd1 B hr hlk) (k_X1_makeTrees_61 hd1 B hr hlk)))
def S_X1_makeTrees (d : Nat) (G : Nat → zK) (Q : zQ) : Prop := zLk G 0 (b_X1_makeTrees_0 d G Q) ∧ zLk G 5 (b_X1_makeTrees_5 d G Q) ∧ zLk G 54 (b_X1_makeTrees_54 d G Q)
theorem s_X1_makeTrees_0 {d : Nat} {G : Nat → zK} {Q : zQ} (h : S_X1_makeTrees d G Q) {ls st : List zV} {μ : zM} (k : b_X1_makeTrees_0 d G Q ls st μ) : G 0 ls st μ := h.1 ls st μ k
theorem s_X1_makeTrees_5 {d : Nat} {G : Nat → zK} {Q : zQ} (h : S_X1_makeTrees d G Q) {ls st : List zV} {μ : zM} (k : b_X1_makeTrees_5 d G Q ls st μ) : G 5 ls st μ := h.2.1 ls st μ k
theorem s_X1_makeTrees_54 {d : Nat} {G : Nat → zK} {Q : zQ} (h : S_X1_makeTrees d G Q) {ls st : List zV} {μ : zM} (k : b_X1_makeTrees_54 d G Q ls st μ) : G 54 ls st μ := h.2.2 ls st μ k
theorem of_X1_makeTrees {d : Nat} {a0 a1 a2 : zV} {μ : zM} {Q : zQ} (hd1 : 1 ≤ d) (h : ∀ G : Nat → zK, S_X1_makeTrees d G Q → G 0 [a0, a1, a2, .inr none, .inr none, .inr none, .inr none, .inr none] [] μ) : zCt d mX1_makeTrees [a0, a1, a2] μ Q := zCt.mk (by decide) (Nat.le_of_ble_eq_true rfl) (fun p l e s m args below meth c E B hr hlk => h _ ⟨k_X1_makeTrees_0 hd1 B hr hlk, k_X1_makeTrees_5 hd1 B hr hlk, k_X1_makeTrees_54 hd1 B hr hlk⟩)
