theorem dX8_makeEmpty_0 : decode cX8_makeEmpty 0 = .ok (.aload_n 0, 1) := by decide +kernel
theorem dX8_makeEmpty_1 : decode cX8_makeEmpty 1 = .ok (.iconst 0, 1) := by decide +kernel
theorem dX8_makeEmpty_2 : decode cX8_makeEmpty 2 = .ok (.putfield 16, 3) := by decide +kernel
theorem dX8_makeEmpty_5 : decode cX8_makeEmpty 5 = .ok (.return_, 1) := by decide +kernel
def b_X8_makeEmpty_0 (d : Nat) (G : Nat → zK) (Q : zQ) : zK := o_al 0 <| o_c 0 <| o_pf 6 2 <| t_vret Q
set_option maxRecDepth 20000 in
theorem k_X8_makeEmpty_0 {p : Program} {l : Launch} {e : Env} {s : State} {m : MethodId} {args : Array Value} {below : List Frame} {meth : Method} {c : Code} {E : zE} {d : Nat} {Q : zQ} (B : zB p s m args c E mX8_makeEmpty.1.cls mX8_makeEmpty.2.1 mX8_makeEmpty.2.2.1) (hr : meth.sig.returnType = mX8_makeEmpty.2.2.2) (hlk : meth.locks = false) : zLk (zG p l e (zrm d) s m args below meth c E mX8_makeEmpty.2.2.1 0 0 (MQ below (zQc E Q) args s 0 0 (zaA E))) 0 (b_X8_makeEmpty_0 d (zG p l e (zrm d) s m args below meth c E mX8_makeEmpty.2.2.1 0 0 (MQ below (zQc E Q) args s 0 0 (zaA E))) Q) := by
  unfold b_X8_makeEmpty_0
  exact lk_aln B dX8_makeEmpty_0 rfl (lk_c B dX8_makeEmpty_1 (lk_pf (T := TX8) B cl_X8 (by decide) in_X8 tyX8_ok nmX8 zw_159 rfl (by decide +kernel) dX8_makeEmpty_2 (lk_vret B hr hlk dX8_makeEmpty_5)))
def S_X8_makeEmpty (d : Nat) (G : Nat → zK) (Q : zQ) : Prop := zLk G 0 (b_X8_makeEmpty_0 d G Q)
theorem s_X8_makeEmpty_0 {d : Nat} {G : Nat → zK} {Q : zQ} (h : S_X8_makeEmpty d G Q) {ls st : List zV} {μ : zM} (k : b_X8_makeEmpty_0 d G Q ls st μ) : G 0 ls st μ := h ls st μ k
theorem of_X8_makeEmpty {d : Nat} {a0 : zV} {μ : zM} {Q : zQ} (h : ∀ G : Nat → zK, S_X8_makeEmpty d G Q → G 0 [a0] [] μ) : zCt d mX8_makeEmpty [a0] μ Q := zCt.mk (by decide) (Nat.le_of_ble_eq_true rfl) (fun p l e s m args below meth c E B hr hlk => h _ (k_X8_makeEmpty_0 B hr hlk))
theorem dX8_enter_0 : decode cX8_enter 0 = .ok (.iconst 0, 1) := by decide +kernel
theorem dX8_enter_1 : decode cX8_enter 1 = .ok (.istore_n 3, 1) := by decide +kernel
theorem dX8_enter_2 : decode cX8_enter 2 = .ok (.iload_n 3, 1) := by decide +kernel
theorem dX8_enter_3 : decode cX8_enter 3 = .ok (.aload_n 0, 1) := by decide +kernel
theorem dX8_enter_4 : decode cX8_enter 4 = .ok (.getfield 16, 3) := by decide +kernel
theorem dX8_enter_7 : decode cX8_enter 7 = .ok (.if_icmp .ge 19, 3) := by decide +kernel
theorem dX8_enter_10 : decode cX8_enter 10 = .ok (.aload_n 0, 1) := by decide +kernel
theorem dX8_enter_11 : decode cX8_enter 11 = .ok (.getfield 9, 3) := by decide +kernel
theorem dX8_enter_14 : decode cX8_enter 14 = .ok (.iload_n 3, 1) := by decide +kernel
theorem dX8_enter_15 : decode cX8_enter 15 = .ok (.iaload, 1) := by decide +kernel
theorem dX8_enter_16 : decode cX8_enter 16 = .ok (.iload_n 1, 1) := by decide +kernel
theorem dX8_enter_17 : decode cX8_enter 17 = .ok (.if_icmp .ge 9, 3) := by decide +kernel
theorem dX8_enter_20 : decode cX8_enter 20 = .ok (.iinc 3 1, 3) := by decide +kernel
theorem dX8_enter_23 : decode cX8_enter 23 = .ok (.goto (-21), 3) := by decide +kernel
theorem dX8_enter_26 : decode cX8_enter 26 = .ok (.iload_n 3, 1) := by decide +kernel
theorem dX8_enter_27 : decode cX8_enter 27 = .ok (.aload_n 0, 1) := by decide +kernel
theorem dX8_enter_28 : decode cX8_enter 28 = .ok (.getfield 16, 3) := by decide +kernel
theorem dX8_enter_31 : decode cX8_enter 31 = .ok (.if_icmp .ge 13, 3) := by decide +kernel
theorem dX8_enter_34 : decode cX8_enter 34 = .ok (.aload_n 0, 1) := by decide +kernel
theorem dX8_enter_35 : decode cX8_enter 35 = .ok (.getfield 9, 3) := by decide +kernel
theorem dX8_enter_38 : decode cX8_enter 38 = .ok (.iload_n 3, 1) := by decide +kernel
theorem dX8_enter_39 : decode cX8_enter 39 = .ok (.iaload, 1) := by decide +kernel
theorem dX8_enter_40 : decode cX8_enter 40 = .ok (.iload_n 1, 1) := by decide +kernel
theorem dX8_enter_41 : decode cX8_enter 41 = .ok (.if_icmp .eq 66, 3) := by decide +kernel
theorem dX8_enter_44 : decode cX8_enter 44 = .ok (.aload_n 0, 1) := by decide +kernel
theorem dX8_enter_45 : decode cX8_enter 45 = .ok (.getfield 16, 3) := by decide +kernel
theorem dX8_enter_48 : decode cX8_enter 48 = .ok (.bipush 16, 2) := by decide +kernel
theorem dX8_enter_50 : decode cX8_enter 50 = .ok (.if_icmp .lt 5, 3) := by decide +kernel
theorem dX8_enter_53 : decode cX8_enter 53 = .ok (.iconst 0, 1) := by decide +kernel
theorem dX8_enter_54 : decode cX8_enter 54 = .ok (.ireturn, 1) := by decide +kernel
theorem dX8_enter_55 : decode cX8_enter 55 = .ok (.aload_n 0, 1) := by decide +kernel
theorem dX8_enter_56 : decode cX8_enter 56 = .ok (.getfield 9, 3) := by decide +kernel
theorem dX8_enter_59 : decode cX8_enter 59 = .ok (.iload_n 3, 1) := by decide +kernel
theorem dX8_enter_60 : decode cX8_enter 60 = .ok (.aload_n 0, 1) := by decide +kernel
theorem dX8_enter_61 : decode cX8_enter 61 = .ok (.getfield 9, 3) := by decide +kernel
theorem dX8_enter_64 : decode cX8_enter 64 = .ok (.iload_n 3, 1) := by decide +kernel
theorem dX8_enter_65 : decode cX8_enter 65 = .ok (.iconst 1, 1) := by decide +kernel
theorem dX8_enter_66 : decode cX8_enter 66 = .ok (.iadd, 1) := by decide +kernel
theorem dX8_enter_67 : decode cX8_enter 67 = .ok (.aload_n 0, 1) := by decide +kernel
theorem dX8_enter_68 : decode cX8_enter 68 = .ok (.getfield 16, 3) := by decide +kernel
theorem dX8_enter_71 : decode cX8_enter 71 = .ok (.iload_n 3, 1) := by decide +kernel
theorem dX8_enter_72 : decode cX8_enter 72 = .ok (.isub, 1) := by decide +kernel
theorem dX8_enter_73 : decode cX8_enter 73 = .ok (.invokestatic 23, 3) := by decide +kernel
theorem dX8_enter_76 : decode cX8_enter 76 = .ok (.aload_n 0, 1) := by decide +kernel
theorem dX8_enter_77 : decode cX8_enter 77 = .ok (.getfield 13, 3) := by decide +kernel
theorem dX8_enter_80 : decode cX8_enter 80 = .ok (.iload_n 3, 1) := by decide +kernel
theorem dX8_enter_81 : decode cX8_enter 81 = .ok (.aload_n 0, 1) := by decide +kernel
theorem dX8_enter_82 : decode cX8_enter 82 = .ok (.getfield 13, 3) := by decide +kernel
theorem dX8_enter_85 : decode cX8_enter 85 = .ok (.iload_n 3, 1) := by decide +kernel
theorem dX8_enter_86 : decode cX8_enter 86 = .ok (.iconst 1, 1) := by decide +kernel
theorem dX8_enter_87 : decode cX8_enter 87 = .ok (.iadd, 1) := by decide +kernel
theorem dX8_enter_88 : decode cX8_enter 88 = .ok (.aload_n 0, 1) := by decide +kernel
theorem dX8_enter_89 : decode cX8_enter 89 = .ok (.getfield 16, 3) := by decide +kernel
theorem dX8_enter_92 : decode cX8_enter 92 = .ok (.iload_n 3, 1) := by decide +kernel
theorem dX8_enter_93 : decode cX8_enter 93 = .ok (.isub, 1) := by decide +kernel
theorem dX8_enter_94 : decode cX8_enter 94 = .ok (.invokestatic 23, 3) := by decide +kernel
theorem dX8_enter_97 : decode cX8_enter 97 = .ok (.aload_n 0, 1) := by decide +kernel
theorem dX8_enter_98 : decode cX8_enter 98 = .ok (.dup, 1) := by decide +kernel
theorem dX8_enter_99 : decode cX8_enter 99 = .ok (.getfield 16, 3) := by decide +kernel
theorem dX8_enter_102 : decode cX8_enter 102 = .ok (.iconst 1, 1) := by decide +kernel
theorem dX8_enter_103 : decode cX8_enter 103 = .ok (.iadd, 1) := by decide +kernel
theorem dX8_enter_104 : decode cX8_enter 104 = .ok (.putfield 16, 3) := by decide +kernel
theorem dX8_enter_107 : decode cX8_enter 107 = .ok (.aload_n 0, 1) := by decide +kernel
theorem dX8_enter_108 : decode cX8_enter 108 = .ok (.getfield 9, 3) := by decide +kernel
theorem dX8_enter_111 : decode cX8_enter 111 = .ok (.iload_n 3, 1) := by decide +kernel
theorem dX8_enter_112 : decode cX8_enter 112 = .ok (.iload_n 1, 1) := by decide +kernel
theorem dX8_enter_113 : decode cX8_enter 113 = .ok (.iastore, 1) := by decide +kernel
theorem dX8_enter_114 : decode cX8_enter 114 = .ok (.aload_n 0, 1) := by decide +kernel
theorem dX8_enter_115 : decode cX8_enter 115 = .ok (.getfield 13, 3) := by decide +kernel
theorem dX8_enter_118 : decode cX8_enter 118 = .ok (.iload_n 3, 1) := by decide +kernel
theorem dX8_enter_119 : decode cX8_enter 119 = .ok (.iload_n 2, 1) := by decide +kernel
theorem dX8_enter_120 : decode cX8_enter 120 = .ok (.iastore, 1) := by decide +kernel
theorem dX8_enter_121 : decode cX8_enter 121 = .ok (.iconst 1, 1) := by decide +kernel
theorem dX8_enter_122 : decode cX8_enter 122 = .ok (.ireturn, 1) := by decide +kernel
def b_X8_enter_0 (d : Nat) (G : Nat → zK) (Q : zQ) : zK := o_c 0 <| o_is 3 <| G 2
def b_X8_enter_20 (d : Nat) (G : Nat → zK) (Q : zQ) : zK := o_inc 3 1 <| G 2
def b_X8_enter_10 (d : Nat) (G : Nat → zK) (Q : zQ) : zK := o_al 0 <| o_gf 6 0 <| o_il 3 <| o_iald <| o_il 1 <| t_ilt (b_X8_enter_20 d G Q) (G 26)
def b_X8_enter_2 (d : Nat) (G : Nat → zK) (Q : zQ) : zK := o_il 3 <| o_al 0 <| o_gf 6 2 <| t_ilt (b_X8_enter_10 d G Q) (G 26)
def b_X8_enter_107 (d : Nat) (G : Nat → zK) (Q : zQ) : zK := o_al 0 <| o_gf 6 0 <| o_il 3 <| o_il 1 <| o_iast <| o_al 0 <| o_gf 6 1 <| o_il 3 <| o_il 2 <| o_iast <| o_c 1 <| t_zret Q
def b_X8_enter_34 (d : Nat) (G : Nat → zK) (Q : zQ) : zK := o_al 0 <| o_gf 6 0 <| o_il 3 <| o_iald <| o_il 1 <| t_ieq (b_X8_enter_107 d G Q) (G 44)
def b_X8_enter_26 (d : Nat) (G : Nat → zK) (Q : zQ) : zK := o_il 3 <| o_al 0 <| o_gf 6 2 <| t_ilt (b_X8_enter_34 d G Q) (G 44)
def b_X8_enter_55 (d : Nat) (G : Nat → zK) (Q : zQ) : zK := o_al 0 <| o_gf 6 0 <| o_il 3 <| o_al 0 <| o_gf 6 0 <| o_il 3 <| o_c 1 <| o_add <| o_al 0 <| o_gf 6 2 <| o_il 3 <| o_sub <| o_acp <| o_al 0 <| o_gf 6 1 <| o_il 3 <| o_al 0 <| o_gf 6 1 <| o_il 3 <| o_c 1 <| o_add <| o_al 0 <| o_gf 6 2 <| o_il 3 <| o_sub <| o_acp <| o_al 0 <| o_dup <| o_gf 6 2 <| o_c 1 <| o_add <| o_pf 6 2 <| b_X8_enter_107 d G Q
def b_X8_enter_53 (d : Nat) (G : Nat → zK) (Q : zQ) : zK := o_c 0 <| t_zret Q
def b_X8_enter_44 (d : Nat) (G : Nat → zK) (Q : zQ) : zK := o_al 0 <| o_gf 6 2 <| o_c 16 <| t_ilt (b_X8_enter_55 d G Q) (b_X8_enter_53 d G Q)
set_option maxRecDepth 20000 in
theorem k_X8_enter_0 {p : Program} {l : Launch} {e : Env} {s : State} {m : MethodId} {args : Array Value} {below : List Frame} {meth : Method} {c : Code} {E : zE} {d : Nat} {Q : zQ} (hd1 : 1 ≤ d) (B : zB p s m args c E mX8_enter.1.cls mX8_enter.2.1 mX8_enter.2.2.1) (hr : meth.sig.returnType = mX8_enter.2.2.2) (hlk : meth.locks = false) : zLk (zG p l e (zrm d) s m args below meth c E mX8_enter.2.2.1 0 0 (MQ below (zQc E Q) args s 0 0 (zaA E))) 0 (b_X8_enter_0 d (zG p l e (zrm d) s m args below meth c E mX8_enter.2.2.1 0 0 (MQ below (zQc E Q) args s 0 0 (zaA E))) Q) := by
  unfold b_X8_enter_0
  exact lk_c B dX8_enter_0 (lk_isn B dX8_enter_1 rfl (by decide) (fun _ _ _ h => h))
set_option maxRecDepth 20000 in
theorem k_X8_enter_20 {p : Program} {l : Launch} {e : Env} {s : State} {m : MethodId} {args : Array Value} {below : List Frame} {meth : Method} {c : Code} {E : zE} {d : Nat} {Q : zQ} (hd1 : 1 ≤ d) (B : zB p s m args c E mX8_enter.1.cls mX8_enter.2.1 mX8_enter.2.2.1) (hr : meth.sig.returnType = mX8_enter.2.2.2) (hlk : meth.locks = false) : zLk (zG p l e (zrm d) s m args below meth c E mX8_enter.2.2.1 0 0 (MQ below (zQc E Q) args s 0 0 (zaA E))) 20 (b_X8_enter_20 d (zG p l e (zrm d) s m args below meth c E mX8_enter.2.2.1 0 0 (MQ below (zQc E Q) args s 0 0 (zaA E))) Q) := by
  unfold b_X8_enter_20
  exact lk_inc B dX8_enter_20 (by decide) (lk_goto B dX8_enter_23 (by decide) (fun _ _ _ h => h))
set_option maxRecDepth 20000 in
theorem k_X8_enter_10 {p : Program} {l : Launch} {e : Env} {s : State} {m : MethodId} {args : Array Value} {below : List Frame} {meth : Method} {c : Code} {E : zE} {d : Nat} {Q : zQ} (hd1 : 1 ≤ d) (B : zB p s m args c E mX8_enter.1.cls mX8_enter.2.1 mX8_enter.2.2.1) (hr : meth.sig.returnType = mX8_enter.2.2.2) (hlk : meth.locks = false) : zLk (zG p l e (zrm d) s m args below meth c E mX8_enter.2.2.1 0 0 (MQ below (zQc E Q) args s 0 0 (zaA E))) 10 (b_X8_enter_10 d (zG p l e (zrm d) s m args below meth c E mX8_enter.2.2.1 0 0 (MQ below (zQc E Q) args s 0 0 (zaA E))) Q) := by
  unfold b_X8_enter_10
  exact lk_aln B dX8_enter_10 rfl (lk_gf (T := TX8) B cl_X8 (by decide) in_X8 zw_157 dX8_enter_11 (lk_iln B dX8_enter_14 rfl (lk_iald B dX8_enter_15 (lk_iln B dX8_enter_16 rfl (lk_ige B dX8_enter_17 (by decide) (fun _ _ _ h => h) (k_X8_enter_20 hd1 B hr hlk))))))
set_option maxRecDepth 20000 in
theorem k_X8_enter_2 {p : Program} {l : Launch} {e : Env} {s : State} {m : MethodId} {args : Array Value} {below : List Frame} {meth : Method} {c : Code} {E : zE} {d : Nat} {Q : zQ} (hd1 : 1 ≤ d) (B : zB p s m args c E mX8_enter.1.cls mX8_enter.2.1 mX8_enter.2.2.1) (hr : meth.sig.returnType = mX8_enter.2.2.2) (hlk : meth.locks = false) : zLk (zG p l e (zrm d) s m args below meth c E mX8_enter.2.2.1 0 0 (MQ below (zQc E Q) args s 0 0 (zaA E))) 2 (b_X8_enter_2 d (zG p l e (zrm d) s m args below meth c E mX8_enter.2.2.1 0 0 (MQ below (zQc E Q) args s 0 0 (zaA E))) Q) := by
  unfold b_X8_enter_2
  exact lk_iln B dX8_enter_2 rfl (lk_aln B dX8_enter_3 rfl (lk_gf (T := TX8) B cl_X8 (by decide) in_X8 zw_159 dX8_enter_4 (lk_ige B dX8_enter_7 (by decide) (fun _ _ _ h => h) (k_X8_enter_10 hd1 B hr hlk))))
set_option maxRecDepth 20000 in
theorem k_X8_enter_107 {p : Program} {l : Launch} {e : Env} {s : State} {m : MethodId} {args : Array Value} {below : List Frame} {meth : Method} {c : Code} {E : zE} {d : Nat} {Q : zQ} (hd1 : 1 ≤ d) (B : zB p s m args c E mX8_enter.1.cls mX8_enter.2.1 mX8_enter.2.2.1) (hr : meth.sig.returnType = mX8_enter.2.2.2) (hlk : meth.locks = false) : zLk (zG p l e (zrm d) s m args below meth c E mX8_enter.2.2.1 0 0 (MQ below (zQc E Q) args s 0 0 (zaA E))) 107 (b_X8_enter_107 d (zG p l e (zrm d) s m args below meth c E mX8_enter.2.2.1 0 0 (MQ below (zQc E Q) args s 0 0 (zaA E))) Q) := by
  unfold b_X8_enter_107
  exact lk_aln B dX8_enter_107 rfl (lk_gf (T := TX8) B cl_X8 (by decide) in_X8 zw_157 dX8_enter_108 (lk_iln B dX8_enter_111 rfl (lk_iln B dX8_enter_112 rfl (lk_iast B dX8_enter_113 (lk_aln B dX8_enter_114 rfl (lk_gf (T := TX8) B cl_X8 (by decide) in_X8 zw_158 dX8_enter_115 (lk_iln B dX8_enter_118 rfl (lk_iln B dX8_enter_119 rfl (lk_iast B dX8_enter_120 (lk_c B dX8_enter_121 (lk_zret B hr hlk dX8_enter_122)))))))))))
set_option maxRecDepth 20000 in
theorem k_X8_enter_34 {p : Program} {l : Launch} {e : Env} {s : State} {m : MethodId} {args : Array Value} {below : List Frame} {meth : Method} {c : Code} {E : zE} {d : Nat} {Q : zQ} (hd1 : 1 ≤ d) (B : zB p s m args c E mX8_enter.1.cls mX8_enter.2.1 mX8_enter.2.2.1) (hr : meth.sig.returnType = mX8_enter.2.2.2) (hlk : meth.locks = false) : zLk (zG p l e (zrm d) s m args below meth c E mX8_enter.2.2.1 0 0 (MQ below (zQc E Q) args s 0 0 (zaA E))) 34 (b_X8_enter_34 d (zG p l e (zrm d) s m args below meth c E mX8_enter.2.2.1 0 0 (MQ below (zQc E Q) args s 0 0 (zaA E))) Q) := by
  unfold b_X8_enter_34
  exact lk_aln B dX8_enter_34 rfl (lk_gf (T := TX8) B cl_X8 (by decide) in_X8 zw_157 dX8_enter_35 (lk_iln B dX8_enter_38 rfl (lk_iald B dX8_enter_39 (lk_iln B dX8_enter_40 rfl (lk_ieq B dX8_enter_41 (by decide) (k_X8_enter_107 hd1 B hr hlk) (fun _ _ _ h => h))))))
set_option maxRecDepth 20000 in
theorem k_X8_enter_26 {p : Program} {l : Launch} {e : Env} {s : State} {m : MethodId} {args : Array Value} {below : List Frame} {meth : Method} {c : Code} {E : zE} {d : Nat} {Q : zQ} (hd1 : 1 ≤ d) (B : zB p s m args c E mX8_enter.1.cls mX8_enter.2.1 mX8_enter.2.2.1) (hr : meth.sig.returnType = mX8_enter.2.2.2) (hlk : meth.locks = false) : zLk (zG p l e (zrm d) s m args below meth c E mX8_enter.2.2.1 0 0 (MQ below (zQc E Q) args s 0 0 (zaA E))) 26 (b_X8_enter_26 d (zG p l e (zrm d) s m args below meth c E mX8_enter.2.2.1 0 0 (MQ below (zQc E Q) args s 0 0 (zaA E))) Q) := by
  unfold b_X8_enter_26
  exact lk_iln B dX8_enter_26 rfl (lk_aln B dX8_enter_27 rfl (lk_gf (T := TX8) B cl_X8 (by decide) in_X8 zw_159 dX8_enter_28 (lk_ige B dX8_enter_31 (by decide) (fun _ _ _ h => h) (k_X8_enter_34 hd1 B hr hlk))))
set_option maxRecDepth 20000 in
theorem k_X8_enter_55 {p : Program} {l : Launch} {e : Env} {s : State} {m : MethodId} {args : Array Value} {below : List Frame} {meth : Method} {c : Code} {E : zE} {d : Nat} {Q : zQ} (hd1 : 1 ≤ d) (B : zB p s m args c E mX8_enter.1.cls mX8_enter.2.1 mX8_enter.2.2.1) (hr : meth.sig.returnType = mX8_enter.2.2.2) (hlk : meth.locks = false) : zLk (zG p l e (zrm d) s m args below meth c E mX8_enter.2.2.1 0 0 (MQ below (zQc E Q) args s 0 0 (zaA E))) 55 (b_X8_enter_55 d (zG p l e (zrm d) s m args below meth c E mX8_enter.2.2.1 0 0 (MQ below (zQc E Q) args s 0 0 (zaA E))) Q) := by
  have hRa : 1 ≤ (zrm d).frames ∧ 8 + (nativeFrameWords "java/lang/System" "arraycopy" 5 + 11) ≤ (zrm d).locals := zhRa hd1
  unfold b_X8_enter_55
  exact lk_aln B dX8_enter_55 rfl (lk_gf (T := TX8) B cl_X8 (by decide) in_X8 zw_157 dX8_enter_56 (lk_iln B dX8_enter_59 rfl (lk_aln B dX8_enter_60 rfl (lk_gf (T := TX8) B cl_X8 (by decide) in_X8 zw_157 dX8_enter_61 (lk_iln B dX8_enter_64 rfl (lk_c B dX8_enter_65 (lk_add B dX8_enter_66 (lk_aln B dX8_enter_67 rfl (lk_gf (T := TX8) B cl_X8 (by decide) in_X8 zw_159 dX8_enter_68 (lk_iln B dX8_enter_71 rfl (lk_sub B dX8_enter_72 (lk_acp B hRa (zw4 zw_499 zw_321 zw_320 zw_59) dX8_enter_73 (lk_aln B dX8_enter_76 rfl (lk_gf (T := TX8) B cl_X8 (by decide) in_X8 zw_158 dX8_enter_77 (lk_iln B dX8_enter_80 rfl (lk_aln B dX8_enter_81 rfl (lk_gf (T := TX8) B cl_X8 (by decide) in_X8 zw_158 dX8_enter_82 (lk_iln B dX8_enter_85 rfl (lk_c B dX8_enter_86 (lk_add B dX8_enter_87 (lk_aln B dX8_enter_88 rfl (lk_gf (T := TX8) B cl_X8 (by decide) in_X8 zw_159 dX8_enter_89 (lk_iln B dX8_enter_92 rfl (lk_sub B dX8_enter_93 (lk_acp B hRa (zw4 zw_499 zw_321 zw_320 zw_59) dX8_enter_94 (lk_aln B dX8_enter_97 rfl (lk_dup B dX8_enter_98 (lk_gf (T := TX8) B cl_X8 (by decide) in_X8 zw_159 dX8_enter_99 (lk_c B dX8_enter_102 (lk_add B dX8_enter_103 (lk_pf (T := TX8) B cl_X8 (by decide) in_X8 tyX8_ok nmX8 zw_159 rfl (by decide +kernel) dX8_enter_104 (k_X8_enter_107 hd1 B hr hlk))))))))))))))))))))))))))))))))
set_option maxRecDepth 20000 in
theorem k_X8_enter_53 {p : Program} {l : Launch} {e : Env} {s : State} {m : MethodId} {args : Array Value} {below : List Frame} {meth : Method} {c : Code} {E : zE} {d : Nat} {Q : zQ} (hd1 : 1 ≤ d) (B : zB p s m args c E mX8_enter.1.cls mX8_enter.2.1 mX8_enter.2.2.1) (hr : meth.sig.returnType = mX8_enter.2.2.2) (hlk : meth.locks = false) : zLk (zG p l e (zrm d) s m args below meth c E mX8_enter.2.2.1 0 0 (MQ below (zQc E Q) args s 0 0 (zaA E))) 53 (b_X8_enter_53 d (zG p l e (zrm d) s m args below meth c E mX8_enter.2.2.1 0 0 (MQ below (zQc E Q) args s 0 0 (zaA E))) Q) := by
  unfold b_X8_enter_53
  exact lk_c B dX8_enter_53 (lk_zret B hr hlk dX8_enter_54)
set_option maxRecDepth 20000 in
theorem k_X8_enter_44 {p : Program} {l : Launch} {e : Env} {s : State} {m : MethodId} {args : Array Value} {below : List Frame} {meth : Method} {c : Code} {E : zE} {d : Nat} {Q : zQ} (hd1 : 1 ≤ d) (B : zB p s m args c E mX8_enter.1.cls mX8_enter.2.1 mX8_enter.2.2.1) (hr : meth.sig.returnType = mX8_enter.2.2.2) (hlk : meth.locks = false) : zLk (zG p l e (zrm d) s m args below meth c E mX8_enter.2.2.1 0 0 (MQ below (zQc E Q) args s 0 0 (zaA E))) 44 (b_X8_enter_44 d (zG p l e (zrm d) s m args below meth c E mX8_enter.2.2.1 0 0 (MQ below (zQc E Q) args s 0 0 (zaA E))) Q) := by
  unfold b_X8_enter_44
  exact lk_aln B dX8_enter_44 rfl (lk_gf (T := TX8) B cl_X8 (by decide) in_X8 zw_159 dX8_enter_45 (lk_b B dX8_enter_48 rfl (lk_ilt B dX8_enter_50 (by decide) (k_X8_enter_55 hd1 B hr hlk) (k_X8_enter_53 hd1 B hr hlk))))
def S_X8_enter (d : Nat) (G : Nat → zK) (Q : zQ) : Prop := zLk G 0 (b_X8_enter_0 d G Q) ∧ zLk G 2 (b_X8_enter_2 d G Q) ∧ zLk G 26 (b_X8_enter_26 d G Q) ∧ zLk G 44 (b_X8_enter_44 d G Q)
theorem s_X8_enter_0 {d : Nat} {G : Nat → zK} {Q : zQ} (h : S_X8_enter d G Q) {ls st : List zV} {μ : zM} (k : b_X8_enter_0 d G Q ls st μ) : G 0 ls st μ := h.1 ls st μ k
theorem s_X8_enter_2 {d : Nat} {G : Nat → zK} {Q : zQ} (h : S_X8_enter d G Q) {ls st : List zV} {μ : zM} (k : b_X8_enter_2 d G Q ls st μ) : G 2 ls st μ := h.2.1 ls st μ k
theorem s_X8_enter_26 {d : Nat} {G : Nat → zK} {Q : zQ} (h : S_X8_enter d G Q) {ls st : List zV} {μ : zM} (k : b_X8_enter_26 d G Q ls st μ) : G 26 ls st μ := h.2.2.1 ls st μ k
theorem s_X8_enter_44 {d : Nat} {G : Nat → zK} {Q : zQ} (h : S_X8_enter d G Q) {ls st : List zV} {μ : zM} (k : b_X8_enter_44 d G Q ls st μ) : G 44 ls st μ := h.2.2.2 ls st μ k
theorem of_X8_enter {d : Nat} {a0 a1 a2 : zV} {μ : zM} {Q : zQ} (hd1 : 1 ≤ d) (h : ∀ G : Nat → zK, S_X8_enter d G Q → G 0 [a0, a1, a2, .inr none] [] μ) : zCt d mX8_enter [a0, a1, a2] μ Q := zCt.mk (by decide) (Nat.le_of_ble_eq_true rfl) (fun p l e s m args below meth c E B hr hlk => h _ ⟨k_X8_enter_0 hd1 B hr hlk, k_X8_enter_2 hd1 B hr hlk, k_X8_enter_26 hd1 B hr hlk, k_X8_enter_44 hd1 B hr hlk⟩)
theorem dX8_makeFolder_0 : decode cX8_makeFolder 0 = .ok (.aload_n 0, 1) := by decide +kernel
theorem dX8_makeFolder_1 : decode cX8_makeFolder 1 = .ok (.iconst 1, 1) := by decide +kernel
theorem dX8_makeFolder_2 : decode cX8_makeFolder 2 = .ok (.aload_n 0, 1) := by decide +kernel
theorem dX8_makeFolder_3 : decode cX8_makeFolder 3 = .ok (.getfield 16, 3) := by decide +kernel
theorem dX8_makeFolder_6 : decode cX8_makeFolder 6 = .ok (.ishl, 1) := by decide +kernel
theorem dX8_makeFolder_7 : decode cX8_makeFolder 7 = .ok (.iconst 1, 1) := by decide +kernel
theorem dX8_makeFolder_8 : decode cX8_makeFolder 8 = .ok (.isub, 1) := by decide +kernel
theorem dX8_makeFolder_9 : decode cX8_makeFolder 9 = .ok (.iconst 0, 1) := by decide +kernel
theorem dX8_makeFolder_10 : decode cX8_makeFolder 10 = .ok (.aload_n 1, 1) := by decide +kernel
theorem dX8_makeFolder_11 : decode cX8_makeFolder 11 = .ok (.invokevirtual 29, 3) := by decide +kernel
theorem dX8_makeFolder_14 : decode cX8_makeFolder 14 = .ok (.ireturn, 1) := by decide +kernel
def b_X8_makeFolder_0 (d : Nat) (G : Nat → zK) (Q : zQ) : zK := o_al 0 <| o_c 1 <| o_al 0 <| o_gf 6 2 <| o_shl <| o_c 1 <| o_sub <| o_c 0 <| o_al 1 <| o_callv (zCt (d - 1) mX8_makeLevel) 6 4 <| t_iret Q
set_option maxRecDepth 20000 in
theorem k_X8_makeFolder_0 {p : Program} {l : Launch} {e : Env} {s : State} {m : MethodId} {args : Array Value} {below : List Frame} {meth : Method} {c : Code} {E : zE} {d : Nat} {Q : zQ} (hd1 : 1 ≤ d) (B : zB p s m args c E mX8_makeFolder.1.cls mX8_makeFolder.2.1 mX8_makeFolder.2.2.1) (hr : meth.sig.returnType = mX8_makeFolder.2.2.2) (hlk : meth.locks = false) : zLk (zG p l e (zrm d) s m args below meth c E mX8_makeFolder.2.2.1 0 0 (MQ below (zQc E Q) args s 0 0 (zaA E))) 0 (b_X8_makeFolder_0 d (zG p l e (zrm d) s m args below meth c E mX8_makeFolder.2.2.1 0 0 (MQ below (zQc E Q) args s 0 0 (zaA E))) Q) := by
  unfold b_X8_makeFolder_0
  exact lk_aln B dX8_makeFolder_0 rfl (lk_c B dX8_makeFolder_1 (lk_aln B dX8_makeFolder_2 rfl (lk_gf (T := TX8) B cl_X8 (by decide) in_X8 zw_159 dX8_makeFolder_3 (lk_shl B dX8_makeFolder_6 (lk_c B dX8_makeFolder_7 (lk_sub B dX8_makeFolder_8 (lk_c B dX8_makeFolder_9 (lk_aln B dX8_makeFolder_10 rfl (lk_callv (M := mX8_makeLevel) (T := TX8) (N := 4) B (zhR hd1 (by decide)) ⟨Nat.zero_le _, Nat.zero_le _⟩ cl_X8 (zw5 zw_511 zw_508 zw_510 zw_6 zw_54) (by decide +kernel) dX8_makeFolder_11 (lk_iret B hr hlk dX8_makeFolder_14))))))))))
def S_X8_makeFolder (d : Nat) (G : Nat → zK) (Q : zQ) : Prop := zLk G 0 (b_X8_makeFolder_0 d G Q)
theorem s_X8_makeFolder_0 {d : Nat} {G : Nat → zK} {Q : zQ} (h : S_X8_makeFolder d G Q) {ls st : List zV} {μ : zM} (k : b_X8_makeFolder_0 d G Q ls st μ) : G 0 ls st μ := h ls st μ k
theorem of_X8_makeFolder {d : Nat} {a0 a1 : zV} {μ : zM} {Q : zQ} (hd1 : 1 ≤ d) (h : ∀ G : Nat → zK, S_X8_makeFolder d G Q → G 0 [a0, a1] [] μ) : zCt d mX8_makeFolder [a0, a1] μ Q := zCt.mk (by decide) (Nat.le_of_ble_eq_true rfl) (fun p l e s m args below meth c E B hr hlk => h _ (k_X8_makeFolder_0 hd1 B hr hlk))
theorem dX8_makeLevel_0 : decode cX8_makeLevel 0 = .ok (.iload_n 1, 1) := by decide +kernel
theorem dX8_makeLevel_1 : decode cX8_makeLevel 1 = .ok (.invokestatic 33, 3) := by decide +kernel
theorem dX8_makeLevel_4 : decode cX8_makeLevel 4 = .ok (.iconst 4, 1) := by decide +kernel
theorem dX8_makeLevel_5 : decode cX8_makeLevel 5 = .ok (.if_icmp .le 8, 3) := by decide +kernel
theorem dX8_makeLevel_8 : decode cX8_makeLevel 8 = .ok (.iload_n 2, 1) := by decide +kernel
theorem dX8_makeLevel_9 : decode cX8_makeLevel 9 = .ok (.iconst 4, 1) := by decide +kernel
theorem dX8_makeLevel_10 : decode cX8_makeLevel 10 = .ok (.if_icmp .lt 10, 3) := by decide +kernel
theorem dX8_makeLevel_13 : decode cX8_makeLevel 13 = .ok (.aload_n 0, 1) := by decide +kernel
theorem dX8_makeLevel_14 : decode cX8_makeLevel 14 = .ok (.iload_n 1, 1) := by decide +kernel
theorem dX8_makeLevel_15 : decode cX8_makeLevel 15 = .ok (.aload_n 3, 1) := by decide +kernel
theorem dX8_makeLevel_16 : decode cX8_makeLevel 16 = .ok (.invokevirtual 41, 3) := by decide +kernel
theorem dX8_makeLevel_19 : decode cX8_makeLevel 19 = .ok (.ireturn, 1) := by decide +kernel
theorem dX8_makeLevel_20 : decode cX8_makeLevel 20 = .ok (.iconst 0, 1) := by decide +kernel
theorem dX8_makeLevel_21 : decode cX8_makeLevel 21 = .ok (.istore 4, 2) := by decide +kernel
theorem dX8_makeLevel_23 : decode cX8_makeLevel 23 = .ok (.iconst 0, 1) := by decide +kernel
theorem dX8_makeLevel_24 : decode cX8_makeLevel 24 = .ok (.istore 5, 2) := by decide +kernel
theorem dX8_makeLevel_26 : decode cX8_makeLevel 26 = .ok (.iload 5, 2) := by decide +kernel
theorem dX8_makeLevel_28 : decode cX8_makeLevel 28 = .ok (.iconst 4, 1) := by decide +kernel
theorem dX8_makeLevel_29 : decode cX8_makeLevel 29 = .ok (.if_icmp .ge 54, 3) := by decide +kernel
theorem dX8_makeLevel_32 : decode cX8_makeLevel 32 = .ok (.aload_n 0, 1) := by decide +kernel
theorem dX8_makeLevel_33 : decode cX8_makeLevel 33 = .ok (.iload_n 1, 1) := by decide +kernel
theorem dX8_makeLevel_34 : decode cX8_makeLevel 34 = .ok (.iload_n 2, 1) := by decide +kernel
theorem dX8_makeLevel_35 : decode cX8_makeLevel 35 = .ok (.iload 5, 2) := by decide +kernel
theorem dX8_makeLevel_37 : decode cX8_makeLevel 37 = .ok (.invokevirtual 45, 3) := by decide +kernel
theorem dX8_makeLevel_40 : decode cX8_makeLevel 40 = .ok (.istore 6, 2) := by decide +kernel
theorem dX8_makeLevel_42 : decode cX8_makeLevel 42 = .ok (.iload 6, 2) := by decide +kernel
theorem dX8_makeLevel_44 : decode cX8_makeLevel 44 = .ok (.ifCond .eq 33, 3) := by decide +kernel
theorem dX8_makeLevel_47 : decode cX8_makeLevel 47 = .ok (.iload 4, 2) := by decide +kernel
theorem dX8_makeLevel_49 : decode cX8_makeLevel 49 = .ok (.iconst 1, 1) := by decide +kernel
theorem dX8_makeLevel_50 : decode cX8_makeLevel 50 = .ok (.iload 5, 2) := by decide +kernel
theorem dX8_makeLevel_52 : decode cX8_makeLevel 52 = .ok (.ishl, 1) := by decide +kernel
theorem dX8_makeLevel_53 : decode cX8_makeLevel 53 = .ok (.ior, 1) := by decide +kernel
theorem dX8_makeLevel_54 : decode cX8_makeLevel 54 = .ok (.istore 4, 2) := by decide +kernel
theorem dX8_makeLevel_56 : decode cX8_makeLevel 56 = .ok (.aload_n 0, 1) := by decide +kernel
theorem dX8_makeLevel_57 : decode cX8_makeLevel 57 = .ok (.getfield 20, 3) := by decide +kernel
theorem dX8_makeLevel_60 : decode cX8_makeLevel 60 = .ok (.iconst 4, 1) := by decide +kernel
theorem dX8_makeLevel_61 : decode cX8_makeLevel 61 = .ok (.iload_n 2, 1) := by decide +kernel
theorem dX8_makeLevel_62 : decode cX8_makeLevel 62 = .ok (.imul, 1) := by decide +kernel
theorem dX8_makeLevel_63 : decode cX8_makeLevel 63 = .ok (.iload 5, 2) := by decide +kernel
theorem dX8_makeLevel_65 : decode cX8_makeLevel 65 = .ok (.iadd, 1) := by decide +kernel
theorem dX8_makeLevel_66 : decode cX8_makeLevel 66 = .ok (.aload_n 0, 1) := by decide +kernel
theorem dX8_makeLevel_67 : decode cX8_makeLevel 67 = .ok (.iload 6, 2) := by decide +kernel
theorem dX8_makeLevel_69 : decode cX8_makeLevel 69 = .ok (.iload_n 2, 1) := by decide +kernel
theorem dX8_makeLevel_70 : decode cX8_makeLevel 70 = .ok (.iconst 1, 1) := by decide +kernel
theorem dX8_makeLevel_71 : decode cX8_makeLevel 71 = .ok (.iadd, 1) := by decide +kernel
theorem dX8_makeLevel_72 : decode cX8_makeLevel 72 = .ok (.aload_n 3, 1) := by decide +kernel
theorem dX8_makeLevel_73 : decode cX8_makeLevel 73 = .ok (.invokevirtual 29, 3) := by decide +kernel
theorem dX8_makeLevel_76 : decode cX8_makeLevel 76 = .ok (.iastore, 1) := by decide +kernel
theorem dX8_makeLevel_77 : decode cX8_makeLevel 77 = .ok (.iinc 5 1, 3) := by decide +kernel
theorem dX8_makeLevel_80 : decode cX8_makeLevel 80 = .ok (.goto (-54), 3) := by decide +kernel
theorem dX8_makeLevel_83 : decode cX8_makeLevel 83 = .ok (.aload_n 0, 1) := by decide +kernel
theorem dX8_makeLevel_84 : decode cX8_makeLevel 84 = .ok (.iload 4, 2) := by decide +kernel
theorem dX8_makeLevel_86 : decode cX8_makeLevel 86 = .ok (.iload_n 2, 1) := by decide +kernel
theorem dX8_makeLevel_87 : decode cX8_makeLevel 87 = .ok (.aload_n 3, 1) := by decide +kernel
theorem dX8_makeLevel_88 : decode cX8_makeLevel 88 = .ok (.invokevirtual 49, 3) := by decide +kernel
theorem dX8_makeLevel_91 : decode cX8_makeLevel 91 = .ok (.ireturn, 1) := by decide +kernel
def b_X8_makeLevel_13 (d : Nat) (G : Nat → zK) (Q : zQ) : zK := o_al 0 <| o_il 1 <| o_al 3 <| o_callv (zCt (d - 1) mX8_makeOneFolder) 6 3 <| t_iret Q
def b_X8_makeLevel_20 (d : Nat) (G : Nat → zK) (Q : zQ) : zK := o_c 0 <| o_is 4 <| o_c 0 <| o_is 5 <| G 26
def b_X8_makeLevel_8 (d : Nat) (G : Nat → zK) (Q : zQ) : zK := o_il 2 <| o_c 4 <| t_ilt (b_X8_makeLevel_20 d G Q) (b_X8_makeLevel_13 d G Q)
def b_X8_makeLevel_0 (d : Nat) (G : Nat → zK) (Q : zQ) : zK := o_il 1 <| o_call (zCt (d - 1) mJ6_bitCount_0f7a4) 1 <| o_c 4 <| t_igt (b_X8_makeLevel_8 d G Q) (b_X8_makeLevel_13 d G Q)
def b_X8_makeLevel_83 (d : Nat) (G : Nat → zK) (Q : zQ) : zK := o_al 0 <| o_il 4 <| o_il 2 <| o_al 3 <| o_callv (zCt (d - 1) mX8_makeShard) 6 4 <| t_iret Q
def b_X8_makeLevel_77 (d : Nat) (G : Nat → zK) (Q : zQ) : zK := o_inc 5 1 <| G 26
def b_X8_makeLevel_47 (d : Nat) (G : Nat → zK) (Q : zQ) : zK := o_il 4 <| o_c 1 <| o_il 5 <| o_shl <| o_or <| o_is 4 <| o_al 0 <| o_gf 6 3 <| o_c 4 <| o_il 2 <| o_mul <| o_il 5 <| o_add <| o_al 0 <| o_il 6 <| o_il 2 <| o_c 1 <| o_add <| o_al 3 <| o_callv (zCt (d - 1) mX8_makeLevel) 6 4 <| o_iast <| b_X8_makeLevel_77 d G Q
def b_X8_makeLevel_32 (d : Nat) (G : Nat → zK) (Q : zQ) : zK := o_al 0 <| o_il 1 <| o_il 2 <| o_il 5 <| o_callv (zCt (d - 1) mX8_membersOnWay) 6 4 <| o_is 6 <| o_il 6 <| t_zeq (b_X8_makeLevel_77 d G Q) (b_X8_makeLevel_47 d G Q)
def b_X8_makeLevel_26 (d : Nat) (G : Nat → zK) (Q : zQ) : zK := o_il 5 <| o_c 4 <| t_ilt (b_X8_makeLevel_32 d G Q) (b_X8_makeLevel_83 d G Q)
set_option maxRecDepth 20000 in
theorem k_X8_makeLevel_13 {p : Program} {l : Launch} {e : Env} {s : State} {m : MethodId} {args : Array Value} {below : List Frame} {meth : Method} {c : Code} {E : zE} {d : Nat} {Q : zQ} (hd1 : 1 ≤ d) (B : zB p s m args c E mX8_makeLevel.1.cls mX8_makeLevel.2.1 mX8_makeLevel.2.2.1) (hr : meth.sig.returnType = mX8_makeLevel.2.2.2) (hlk : meth.locks = false) : zLk (zG p l e (zrm d) s m args below meth c E mX8_makeLevel.2.2.1 0 0 (MQ below (zQc E Q) args s 0 0 (zaA E))) 13 (b_X8_makeLevel_13 d (zG p l e (zrm d) s m args below meth c E mX8_makeLevel.2.2.1 0 0 (MQ below (zQc E Q) args s 0 0 (zaA E))) Q) := by
  unfold b_X8_makeLevel_13
  exact lk_aln B dX8_makeLevel_13 rfl (lk_iln B dX8_makeLevel_14 rfl (lk_aln B dX8_makeLevel_15 rfl (lk_callv (M := mX8_makeOneFolder) (T := TX8) (N := 4) B (zhR hd1 (by decide)) ⟨Nat.zero_le _, Nat.zero_le _⟩ cl_X8 (zw5 zw_516 zw_513 zw_515 zw_7 zw_54) (by decide +kernel) dX8_makeLevel_16 (lk_iret B hr hlk dX8_makeLevel_19))))
set_option maxRecDepth 20000 in
theorem k_X8_makeLevel_20 {p : Program} {l : Launch} {e : Env} {s : State} {m : MethodId} {args : Array Value} {below : List Frame} {meth : Method} {c : Code} {E : zE} {d : Nat} {Q : zQ} (hd1 : 1 ≤ d) (B : zB p s m args c E mX8_makeLevel.1.cls mX8_makeLevel.2.1 mX8_makeLevel.2.2.1) (hr : meth.sig.returnType = mX8_makeLevel.2.2.2) (hlk : meth.locks = false) : zLk (zG p l e (zrm d) s m args below meth c E mX8_makeLevel.2.2.1 0 0 (MQ below (zQc E Q) args s 0 0 (zaA E))) 20 (b_X8_makeLevel_20 d (zG p l e (zrm d) s m args below meth c E mX8_makeLevel.2.2.1 0 0 (MQ below (zQc E Q) args s 0 0 (zaA E))) Q) := by
  unfold b_X8_makeLevel_20
  exact lk_c B dX8_makeLevel_20 (lk_is B dX8_makeLevel_21 (by decide) (lk_c B dX8_makeLevel_23 (lk_is B dX8_makeLevel_24 (by decide) (fun _ _ _ h => h))))
set_option maxRecDepth 20000 in
theorem k_X8_makeLevel_8 {p : Program} {l : Launch} {e : Env} {s : State} {m : MethodId} {args : Array Value} {below : List Frame} {meth : Method} {c : Code} {E : zE} {d : Nat} {Q : zQ} (hd1 : 1 ≤ d) (B : zB p s m args c E mX8_makeLevel.1.cls mX8_makeLevel.2.1 mX8_makeLevel.2.2.1) (hr : meth.sig.returnType = mX8_makeLevel.2.2.2) (hlk : meth.locks = false) : zLk (zG p l e (zrm d) s m args below meth c E mX8_makeLevel.2.2.1 0 0 (MQ below (zQc E Q) args s 0 0 (zaA E))) 8 (b_X8_makeLevel_8 d (zG p l e (zrm d) s m args below meth c E mX8_makeLevel.2.2.1 0 0 (MQ below (zQc E Q) args s 0 0 (zaA E))) Q) := by
  unfold b_X8_makeLevel_8
  exact lk_iln B dX8_makeLevel_8 rfl (lk_c B dX8_makeLevel_9 (lk_ilt B dX8_makeLevel_10 (by decide) (k_X8_makeLevel_20 hd1 B hr hlk) (k_X8_makeLevel_13 hd1 B hr hlk)))
set_option maxRecDepth 20000 in
theorem k_X8_makeLevel_0 {p : Program} {l : Launch} {e : Env} {s : State} {m : MethodId} {args : Array Value} {below : List Frame} {meth : Method} {c : Code} {E : zE} {d : Nat} {Q : zQ} (hd1 : 1 ≤ d) (B : zB p s m args c E mX8_makeLevel.1.cls mX8_makeLevel.2.1 mX8_makeLevel.2.2.1) (hr : meth.sig.returnType = mX8_makeLevel.2.2.2) (hlk : meth.locks = false) : zLk (zG p l e (zrm d) s m args below meth c E mX8_makeLevel.2.2.1 0 0 (MQ below (zQc E Q) args s 0 0 (zaA E))) 0 (b_X8_makeLevel_0 d (zG p l e (zrm d) s m args below meth c E mX8_makeLevel.2.2.1 0 0 (MQ below (zQc E Q) args s 0 0 (zaA E))) Q) := by
  unfold b_X8_makeLevel_0
  exact lk_iln B dX8_makeLevel_0 rfl (lk_calls (M := mJ6_bitCount_0f7a4) B (zhR hd1 (by decide)) ⟨Nat.zero_le _, Nat.zero_le _⟩ (zw4 zw_357 zw_512 zw_356 zw_61) (by decide +kernel) dX8_makeLevel_1 (lk_c B dX8_makeLevel_4 (lk_ile B dX8_makeLevel_5 (by decide) (k_X8_makeLevel_13 hd1 B hr hlk) (k_X8_makeLevel_8 hd1 B hr hlk))))
set_option maxRecDepth 20000 in
theorem k_X8_makeLevel_83 {p : Program} {l : Launch} {e : Env} {s : State} {m : MethodId} {args : Array Value} {below : List Frame} {meth : Method} {c : Code} {E : zE} {d : Nat} {Q : zQ} (hd1 : 1 ≤ d) (B : zB p s m args c E mX8_makeLevel.1.cls mX8_makeLevel.2.1 mX8_makeLevel.2.2.1) (hr : meth.sig.returnType = mX8_makeLevel.2.2.2) (hlk : meth.locks = false) : zLk (zG p l e (zrm d) s m args below meth c E mX8_makeLevel.2.2.1 0 0 (MQ below (zQc E Q) args s 0 0 (zaA E))) 83 (b_X8_makeLevel_83 d (zG p l e (zrm d) s m args below meth c E mX8_makeLevel.2.2.1 0 0 (MQ below (zQc E Q) args s 0 0 (zaA E))) Q) := by
  unfold b_X8_makeLevel_83
  exact lk_aln B dX8_makeLevel_83 rfl (lk_il B dX8_makeLevel_84 (lk_iln B dX8_makeLevel_86 rfl (lk_aln B dX8_makeLevel_87 rfl (lk_callv (M := mX8_makeShard) (T := TX8) (N := 4) B (zhR hd1 (by decide)) ⟨Nat.zero_le _, Nat.zero_le _⟩ cl_X8 (zw5 zw_530 zw_527 zw_529 zw_9 zw_54) (by decide +kernel) dX8_makeLevel_88 (lk_iret B hr hlk dX8_makeLevel_91)))))
set_option maxRecDepth 20000 in
theorem k_X8_makeLevel_77 {p : Program} {l : Launch} {e : Env} {s : State} {m : MethodId} {args : Array Value} {below : List Frame} {meth : Method} {c : Code} {E : zE} {d : Nat} {Q : zQ} (hd1 : 1 ≤ d) (B : zB p s m args c E mX8_makeLevel.1.cls mX8_makeLevel.2.1 mX8_makeLevel.2.2.1) (hr : meth.sig.returnType = mX8_makeLevel.2.2.2) (hlk : meth.locks = false) : zLk (zG p l e (zrm d) s m args below meth c E mX8_makeLevel.2.2.1 0 0 (MQ below (zQc E Q) args s 0 0 (zaA E))) 77 (b_X8_makeLevel_77 d (zG p l e (zrm d) s m args below meth c E mX8_makeLevel.2.2.1 0 0 (MQ below (zQc E Q) args s 0 0 (zaA E))) Q) := by
  unfold b_X8_makeLevel_77
  exact lk_inc B dX8_makeLevel_77 (by decide) (lk_goto B dX8_makeLevel_80 (by decide) (fun _ _ _ h => h))
set_option maxRecDepth 20000 in
theorem k_X8_makeLevel_47 {p : Program} {l : Launch} {e : Env} {s : State} {m : MethodId} {args : Array Value} {below : List Frame} {meth : Method} {c : Code} {E : zE} {d : Nat} {Q : zQ} (hd1 : 1 ≤ d) (B : zB p s m args c E mX8_makeLevel.1.cls mX8_makeLevel.2.1 mX8_makeLevel.2.2.1) (hr : meth.sig.returnType = mX8_makeLevel.2.2.2) (hlk : meth.locks = false) : zLk (zG p l e (zrm d) s m args below meth c E mX8_makeLevel.2.2.1 0 0 (MQ below (zQc E Q) args s 0 0 (zaA E))) 47 (b_X8_makeLevel_47 d (zG p l e (zrm d) s m args below meth c E mX8_makeLevel.2.2.1 0 0 (MQ below (zQc E Q) args s 0 0 (zaA E))) Q) := by
  unfold b_X8_makeLevel_47
  exact lk_il B dX8_makeLevel_47 (lk_c B dX8_makeLevel_49 (lk_il B dX8_makeLevel_50 (lk_shl B dX8_makeLevel_52 (lk_or B dX8_makeLevel_53 (lk_is B dX8_makeLevel_54 (by decide) (lk_aln B dX8_makeLevel_56 rfl (lk_gf (T := TX8) B cl_X8 (by decide) in_X8 zw_160 dX8_makeLevel_57 (lk_c B dX8_makeLevel_60 (lk_iln B dX8_makeLevel_61 rfl (lk_mul B dX8_makeLevel_62 (lk_il B dX8_makeLevel_63 (lk_add B dX8_makeLevel_65 (lk_aln B dX8_makeLevel_66 rfl (lk_il B dX8_makeLevel_67 (lk_iln B dX8_makeLevel_69 rfl (lk_c B dX8_makeLevel_70 (lk_add B dX8_makeLevel_71 (lk_aln B dX8_makeLevel_72 rfl (lk_callv (M := mX8_makeLevel) (T := TX8) (N := 4) B (zhR hd1 (by decide)) ⟨Nat.zero_le _, Nat.zero_le _⟩ cl_X8 (zw5 zw_511 zw_508 zw_510 zw_6 zw_54) (by decide +kernel) dX8_makeLevel_73 (lk_iast B dX8_makeLevel_76 (k_X8_makeLevel_77 hd1 B hr hlk)))))))))))))))))))))
set_option maxRecDepth 20000 in
theorem k_X8_makeLevel_32 {p : Program} {l : Launch} {e : Env} {s : State} {m : MethodId} {args : Array Value} {below : List Frame} {meth : Method} {c : Code} {E : zE} {d : Nat} {Q : zQ} (hd1 : 1 ≤ d) (B : zB p s m args c E mX8_makeLevel.1.cls mX8_makeLevel.2.1 mX8_makeLevel.2.2.1) (hr : meth.sig.returnType = mX8_makeLevel.2.2.2) (hlk : meth.locks = false) : zLk (zG p l e (zrm d) s m args below meth c E mX8_makeLevel.2.2.1 0 0 (MQ below (zQc E Q) args s 0 0 (zaA E))) 32 (b_X8_makeLevel_32 d (zG p l e (zrm d) s m args below meth c E mX8_makeLevel.2.2.1 0 0 (MQ below (zQc E Q) args s 0 0 (zaA E))) Q) := by
  unfold b_X8_makeLevel_32
  exact lk_aln B dX8_makeLevel_32 rfl (lk_iln B dX8_makeLevel_33 rfl (lk_iln B dX8_makeLevel_34 rfl (lk_il B dX8_makeLevel_35 (lk_callv (M := mX8_membersOnWay) (T := TX8) (N := 4) B (zhR hd1 (by decide)) ⟨Nat.zero_le _, Nat.zero_le _⟩ cl_X8 (zw5 zw_523 zw_520 zw_522 zw_8 zw_54) (by decide +kernel) dX8_makeLevel_37 (lk_is B dX8_makeLevel_40 (by decide) (lk_il B dX8_makeLevel_42 (lk_zeq B dX8_makeLevel_44 (by decide) (k_X8_makeLevel_77 hd1 B hr hlk) (k_X8_makeLevel_47 hd1 B hr hlk))))))))
set_option maxRecDepth 20000 in
theorem k_X8_makeLevel_26 {p : Program} {l : Launch} {e : Env} {s : State} {m : MethodId} {args : Array Value} {below : List Frame} {meth : Method} {c : Code} {E : zE} {d : Nat} {Q : zQ} (hd1 : 1 ≤ d) (B : zB p s m args c E mX8_makeLevel.1.cls mX8_makeLevel.2.1 mX8_makeLevel.2.2.1) (hr : meth.sig.returnType = mX8_makeLevel.2.2.2) (hlk : meth.locks = false) : zLk (zG p l e (zrm d) s m args below meth c E mX8_makeLevel.2.2.1 0 0 (MQ below (zQc E Q) args s 0 0 (zaA E))) 26 (b_X8_makeLevel_26 d (zG p l e (zrm d) s m args below meth c E mX8_makeLevel.2.2.1 0 0 (MQ below (zQc E Q) args s 0 0 (zaA E))) Q) := by
  unfold b_X8_makeLevel_26
  exact lk_il B dX8_makeLevel_26 (lk_c B dX8_makeLevel_28 (lk_ige B dX8_makeLevel_29 (by decide) (k_X8_makeLevel_83 hd1 B hr hlk) (k_X8_makeLevel_32 hd1 B hr hlk)))
def S_X8_makeLevel (d : Nat) (G : Nat → zK) (Q : zQ) : Prop := zLk G 0 (b_X8_makeLevel_0 d G Q) ∧ zLk G 26 (b_X8_makeLevel_26 d G Q)
theorem s_X8_makeLevel_0 {d : Nat} {G : Nat → zK} {Q : zQ} (h : S_X8_makeLevel d G Q) {ls st : List zV} {μ : zM} (k : b_X8_makeLevel_0 d G Q ls st μ) : G 0 ls st μ := h.1 ls st μ k
theorem s_X8_makeLevel_26 {d : Nat} {G : Nat → zK} {Q : zQ} (h : S_X8_makeLevel d G Q) {ls st : List zV} {μ : zM} (k : b_X8_makeLevel_26 d G Q ls st μ) : G 26 ls st μ := h.2 ls st μ k
theorem of_X8_makeLevel {d : Nat} {a0 a1 a2 a3 : zV} {μ : zM} {Q : zQ} (hd1 : 1 ≤ d) (h : ∀ G : Nat → zK, S_X8_makeLevel d G Q → G 0 [a0, a1, a2, a3, .inr none, .inr none, .inr none] [] μ) : zCt d mX8_makeLevel [a0, a1, a2, a3] μ Q := zCt.mk (by decide) (Nat.le_of_ble_eq_true rfl) (fun p l e s m args below meth c E B hr hlk => h _ ⟨k_X8_makeLevel_0 hd1 B hr hlk, k_X8_makeLevel_26 hd1 B hr hlk⟩)
theorem dX8_membersOnWay_0 : decode cX8_membersOnWay 0 = .ok (.iconst 0, 1) := by decide +kernel
theorem dX8_membersOnWay_1 : decode cX8_membersOnWay 1 = .ok (.istore 4, 2) := by decide +kernel
theorem dX8_membersOnWay_3 : decode cX8_membersOnWay 3 = .ok (.iconst 0, 1) := by decide +kernel
theorem dX8_membersOnWay_4 : decode cX8_membersOnWay 4 = .ok (.istore 5, 2) := by decide +kernel
theorem dX8_membersOnWay_6 : decode cX8_membersOnWay 6 = .ok (.iload 5, 2) := by decide +kernel
theorem dX8_membersOnWay_8 : decode cX8_membersOnWay 8 = .ok (.aload_n 0, 1) := by decide +kernel
theorem dX8_membersOnWay_9 : decode cX8_membersOnWay 9 = .ok (.getfield 16, 3) := by decide +kernel
theorem dX8_membersOnWay_12 : decode cX8_membersOnWay 12 = .ok (.if_icmp .ge 43, 3) := by decide +kernel
theorem dX8_membersOnWay_15 : decode cX8_membersOnWay 15 = .ok (.iload_n 1, 1) := by decide +kernel
theorem dX8_membersOnWay_16 : decode cX8_membersOnWay 16 = .ok (.iload 5, 2) := by decide +kernel
theorem dX8_membersOnWay_18 : decode cX8_membersOnWay 18 = .ok (.ishr, 1) := by decide +kernel
theorem dX8_membersOnWay_19 : decode cX8_membersOnWay 19 = .ok (.iconst 1, 1) := by decide +kernel
theorem dX8_membersOnWay_20 : decode cX8_membersOnWay 20 = .ok (.iand, 1) := by decide +kernel
theorem dX8_membersOnWay_21 : decode cX8_membersOnWay 21 = .ok (.iconst 1, 1) := by decide +kernel
theorem dX8_membersOnWay_22 : decode cX8_membersOnWay 22 = .ok (.if_icmp .ne 27, 3) := by decide +kernel
theorem dX8_membersOnWay_25 : decode cX8_membersOnWay 25 = .ok (.aload_n 0, 1) := by decide +kernel
theorem dX8_membersOnWay_26 : decode cX8_membersOnWay 26 = .ok (.getfield 9, 3) := by decide +kernel
theorem dX8_membersOnWay_29 : decode cX8_membersOnWay 29 = .ok (.iload 5, 2) := by decide +kernel
theorem dX8_membersOnWay_31 : decode cX8_membersOnWay 31 = .ok (.iaload, 1) := by decide +kernel
theorem dX8_membersOnWay_32 : decode cX8_membersOnWay 32 = .ok (.iload_n 2, 1) := by decide +kernel
theorem dX8_membersOnWay_33 : decode cX8_membersOnWay 33 = .ok (.invokestatic 52, 3) := by decide +kernel
theorem dX8_membersOnWay_36 : decode cX8_membersOnWay 36 = .ok (.iload_n 3, 1) := by decide +kernel
theorem dX8_membersOnWay_37 : decode cX8_membersOnWay 37 = .ok (.if_icmp .ne 12, 3) := by decide +kernel
theorem dX8_membersOnWay_40 : decode cX8_membersOnWay 40 = .ok (.iload 4, 2) := by decide +kernel
theorem dX8_membersOnWay_42 : decode cX8_membersOnWay 42 = .ok (.iconst 1, 1) := by decide +kernel
theorem dX8_membersOnWay_43 : decode cX8_membersOnWay 43 = .ok (.iload 5, 2) := by decide +kernel
theorem dX8_membersOnWay_45 : decode cX8_membersOnWay 45 = .ok (.ishl, 1) := by decide +kernel
theorem dX8_membersOnWay_46 : decode cX8_membersOnWay 46 = .ok (.ior, 1) := by decide +kernel
theorem dX8_membersOnWay_47 : decode cX8_membersOnWay 47 = .ok (.istore 4, 2) := by decide +kernel
theorem dX8_membersOnWay_49 : decode cX8_membersOnWay 49 = .ok (.iinc 5 1, 3) := by decide +kernel
theorem dX8_membersOnWay_52 : decode cX8_membersOnWay 52 = .ok (.goto (-46), 3) := by decide +kernel
theorem dX8_membersOnWay_55 : decode cX8_membersOnWay 55 = .ok (.iload 4, 2) := by decide +kernel
theorem dX8_membersOnWay_57 : decode cX8_membersOnWay 57 = .ok (.ireturn, 1) := by decide +kernel
def b_X8_membersOnWay_0 (d : Nat) (G : Nat → zK) (Q : zQ) : zK := o_c 0 <| o_is 4 <| o_c 0 <| o_is 5 <| G 6
def b_X8_membersOnWay_55 (d : Nat) (G : Nat → zK) (Q : zQ) : zK := o_il 4 <| t_iret Q
def b_X8_membersOnWay_49 (d : Nat) (G : Nat → zK) (Q : zQ) : zK := o_inc 5 1 <| G 6
def b_X8_membersOnWay_40 (d : Nat) (G : Nat → zK) (Q : zQ) : zK := o_il 4 <| o_c 1 <| o_il 5 <| o_shl <| o_or <| o_is 4 <| b_X8_membersOnWay_49 d G Q
def b_X8_membersOnWay_25 (d : Nat) (G : Nat → zK) (Q : zQ) : zK := o_al 0 <| o_gf 6 0 <| o_il 5 <| o_iald <| o_il 2 <| o_call (zCt (d - 1) mX2_wayOf) 2 <| o_il 3 <| t_ieq (b_X8_membersOnWay_40 d G Q) (b_X8_membersOnWay_49 d G Q)
def b_X8_membersOnWay_15 (d : Nat) (G : Nat → zK) (Q : zQ) : zK := o_il 1 <| o_il 5 <| o_shr <| o_c 1 <| o_and <| o_c 1 <| t_ieq (b_X8_membersOnWay_25 d G Q) (b_X8_membersOnWay_49 d G Q)
def b_X8_membersOnWay_6 (d : Nat) (G : Nat → zK) (Q : zQ) : zK := o_il 5 <| o_al 0 <| o_gf 6 2 <| t_ilt (b_X8_membersOnWay_15 d G Q) (b_X8_membersOnWay_55 d G Q)
set_option maxRecDepth 20000 in
theorem k_X8_membersOnWay_0 {p : Program} {l : Launch} {e : Env} {s : State} {m : MethodId} {args : Array Value} {below : List Frame} {meth : Method} {c : Code} {E : zE} {d : Nat} {Q : zQ} (hd1 : 1 ≤ d) (B : zB p s m args c E mX8_membersOnWay.1.cls mX8_membersOnWay.2.1 mX8_membersOnWay.2.2.1) (hr : meth.sig.returnType = mX8_membersOnWay.2.2.2) (hlk : meth.locks = false) : zLk (zG p l e (zrm d) s m args below meth c E mX8_membersOnWay.2.2.1 0 0 (MQ below (zQc E Q) args s 0 0 (zaA E))) 0 (b_X8_membersOnWay_0 d (zG p l e (zrm d) s m args below meth c E mX8_membersOnWay.2.2.1 0 0 (MQ below (zQc E Q) args s 0 0 (zaA E))) Q) := by
  unfold b_X8_membersOnWay_0
  exact lk_c B dX8_membersOnWay_0 (lk_is B dX8_membersOnWay_1 (by decide) (lk_c B dX8_membersOnWay_3 (lk_is B dX8_membersOnWay_4 (by decide) (fun _ _ _ h => h))))
set_option maxRecDepth 20000 in
theorem k_X8_membersOnWay_55 {p : Program} {l : Launch} {e : Env} {s : State} {m : MethodId} {args : Array Value} {below : List Frame} {meth : Method} {c : Code} {E : zE} {d : Nat} {Q : zQ} (hd1 : 1 ≤ d) (B : zB p s m args c E mX8_membersOnWay.1.cls mX8_membersOnWay.2.1 mX8_membersOnWay.2.2.1) (hr : meth.sig.returnType = mX8_membersOnWay.2.2.2) (hlk : meth.locks = false) : zLk (zG p l e (zrm d) s m args below meth c E mX8_membersOnWay.2.2.1 0 0 (MQ below (zQc E Q) args s 0 0 (zaA E))) 55 (b_X8_membersOnWay_55 d (zG p l e (zrm d) s m args below meth c E mX8_membersOnWay.2.2.1 0 0 (MQ below (zQc E Q) args s 0 0 (zaA E))) Q) := by
  unfold b_X8_membersOnWay_55
  exact lk_il B dX8_membersOnWay_55 (lk_iret B hr hlk dX8_membersOnWay_57)
set_option maxRecDepth 20000 in
theorem k_X8_membersOnWay_49 {p : Program} {l : Launch} {e : Env} {s : State} {m : MethodId} {args : Array Value} {below : List Frame} {meth : Method} {c : Code} {E : zE} {d : Nat} {Q : zQ} (hd1 : 1 ≤ d) (B : zB p s m args c E mX8_membersOnWay.1.cls mX8_membersOnWay.2.1 mX8_membersOnWay.2.2.1) (hr : meth.sig.returnType = mX8_membersOnWay.2.2.2) (hlk : meth.locks = false) : zLk (zG p l e (zrm d) s m args below meth c E mX8_membersOnWay.2.2.1 0 0 (MQ below (zQc E Q) args s 0 0 (zaA E))) 49 (b_X8_membersOnWay_49 d (zG p l e (zrm d) s m args below meth c E mX8_membersOnWay.2.2.1 0 0 (MQ below (zQc E Q) args s 0 0 (zaA E))) Q) := by
  unfold b_X8_membersOnWay_49
  exact lk_inc B dX8_membersOnWay_49 (by decide) (lk_goto B dX8_membersOnWay_52 (by decide) (fun _ _ _ h => h))
set_option maxRecDepth 20000 in
theorem k_X8_membersOnWay_40 {p : Program} {l : Launch} {e : Env} {s : State} {m : MethodId} {args : Array Value} {below : List Frame} {meth : Method} {c : Code} {E : zE} {d : Nat} {Q : zQ} (hd1 : 1 ≤ d) (B : zB p s m args c E mX8_membersOnWay.1.cls mX8_membersOnWay.2.1 mX8_membersOnWay.2.2.1) (hr : meth.sig.returnType = mX8_membersOnWay.2.2.2) (hlk : meth.locks = false) : zLk (zG p l e (zrm d) s m args below meth c E mX8_membersOnWay.2.2.1 0 0 (MQ below (zQc E Q) args s 0 0 (zaA E))) 40 (b_X8_membersOnWay_40 d (zG p l e (zrm d) s m args below meth c E mX8_membersOnWay.2.2.1 0 0 (MQ below (zQc E Q) args s 0 0 (zaA E))) Q) := by
  unfold b_X8_membersOnWay_40
  exact lk_il B dX8_membersOnWay_40 (lk_c B dX8_membersOnWay_42 (lk_il B dX8_membersOnWay_43 (lk_shl B dX8_membersOnWay_45 (lk_or B dX8_membersOnWay_46 (lk_is B dX8_membersOnWay_47 (by decide) (k_X8_membersOnWay_49 hd1 B hr hlk))))))
set_option maxRecDepth 20000 in
theorem k_X8_membersOnWay_25 {p : Program} {l : Launch} {e : Env} {s : State} {m : MethodId} {args : Array Value} {below : List Frame} {meth : Method} {c : Code} {E : zE} {d : Nat} {Q : zQ} (hd1 : 1 ≤ d) (B : zB p s m args c E mX8_membersOnWay.1.cls mX8_membersOnWay.2.1 mX8_membersOnWay.2.2.1) (hr : meth.sig.returnType = mX8_membersOnWay.2.2.2) (hlk : meth.locks = false) : zLk (zG p l e (zrm d) s m args below meth c E mX8_membersOnWay.2.2.1 0 0 (MQ below (zQc E Q) args s 0 0 (zaA E))) 25 (b_X8_membersOnWay_25 d (zG p l e (zrm d) s m args below meth c E mX8_membersOnWay.2.2.1 0 0 (MQ below (zQc E Q) args s 0 0 (zaA E))) Q) := by
  unfold b_X8_membersOnWay_25
  exact lk_aln B dX8_membersOnWay_25 rfl (lk_gf (T := TX8) B cl_X8 (by decide) in_X8 zw_157 dX8_membersOnWay_26 (lk_il B dX8_membersOnWay_29 (lk_iald B dX8_membersOnWay_31 (lk_iln B dX8_membersOnWay_32 rfl (lk_calls (M := mX2_wayOf) B (zhR hd1 (by decide)) ⟨Nat.zero_le _, Nat.zero_le _⟩ (zw4 zw_526 zw_524 zw_525 zw_60) (by decide +kernel) dX8_membersOnWay_33 (lk_iln B dX8_membersOnWay_36 rfl (lk_ine B dX8_membersOnWay_37 (by decide) (k_X8_membersOnWay_49 hd1 B hr hlk) (k_X8_membersOnWay_40 hd1 B hr hlk))))))))
set_option maxRecDepth 20000 in
theorem k_X8_membersOnWay_15 {p : Program} {l : Launch} {e : Env} {s : State} {m : MethodId} {args : Array Value} {below : List Frame} {meth : Method} {c : Code} {E : zE} {d : Nat} {Q : zQ} (hd1 : 1 ≤ d) (B : zB p s m args c E mX8_membersOnWay.1.cls mX8_membersOnWay.2.1 mX8_membersOnWay.2.2.1) (hr : meth.sig.returnType = mX8_membersOnWay.2.2.2) (hlk : meth.locks = false) : zLk (zG p l e (zrm d) s m args below meth c E mX8_membersOnWay.2.2.1 0 0 (MQ below (zQc E Q) args s 0 0 (zaA E))) 15 (b_X8_membersOnWay_15 d (zG p l e (zrm d) s m args below meth c E mX8_membersOnWay.2.2.1 0 0 (MQ below (zQc E Q) args s 0 0 (zaA E))) Q) := by
  unfold b_X8_membersOnWay_15
  exact lk_iln B dX8_membersOnWay_15 rfl (lk_il B dX8_membersOnWay_16 (lk_shr B dX8_membersOnWay_18 (lk_c B dX8_membersOnWay_19 (lk_and B dX8_membersOnWay_20 (lk_c B dX8_membersOnWay_21 (lk_ine B dX8_membersOnWay_22 (by decide) (k_X8_membersOnWay_49 hd1 B hr hlk) (k_X8_membersOnWay_25 hd1 B hr hlk)))))))
set_option maxRecDepth 20000 in
theorem k_X8_membersOnWay_6 {p : Program} {l : Launch} {e : Env} {s : State} {m : MethodId} {args : Array Value} {below : List Frame} {meth : Method} {c : Code} {E : zE} {d : Nat} {Q : zQ} (hd1 : 1 ≤ d) (B : zB p s m args c E mX8_membersOnWay.1.cls mX8_membersOnWay.2.1 mX8_membersOnWay.2.2.1) (hr : meth.sig.returnType = mX8_membersOnWay.2.2.2) (hlk : meth.locks = false) : zLk (zG p l e (zrm d) s m args below meth c E mX8_membersOnWay.2.2.1 0 0 (MQ below (zQc E Q) args s 0 0 (zaA E))) 6 (b_X8_membersOnWay_6 d (zG p l e (zrm d) s m args below meth c E mX8_membersOnWay.2.2.1 0 0 (MQ below (zQc E Q) args s 0 0 (zaA E))) Q) := by
  unfold b_X8_membersOnWay_6
  exact lk_il B dX8_membersOnWay_6 (lk_aln B dX8_membersOnWay_8 rfl (lk_gf (T := TX8) B cl_X8 (by decide) in_X8 zw_159 dX8_membersOnWay_9 (lk_ige B dX8_membersOnWay_12 (by decide) (k_X8_membersOnWay_55 hd1 B hr hlk) (k_X8_membersOnWay_15 hd1 B hr hlk))))
def S_X8_membersOnWay (d : Nat) (G : Nat → zK) (Q : zQ) : Prop := zLk G 0 (b_X8_membersOnWay_0 d G Q) ∧ zLk G 6 (b_X8_membersOnWay_6 d G Q)
theorem s_X8_membersOnWay_0 {d : Nat} {G : Nat → zK} {Q : zQ} (h : S_X8_membersOnWay d G Q) {ls st : List zV} {μ : zM} (k : b_X8_membersOnWay_0 d G Q ls st μ) : G 0 ls st μ := h.1 ls st μ k
theorem s_X8_membersOnWay_6 {d : Nat} {G : Nat → zK} {Q : zQ} (h : S_X8_membersOnWay d G Q) {ls st : List zV} {μ : zM} (k : b_X8_membersOnWay_6 d G Q ls st μ) : G 6 ls st μ := h.2 ls st μ k
theorem of_X8_membersOnWay {d : Nat} {a0 a1 a2 a3 : zV} {μ : zM} {Q : zQ} (hd1 : 1 ≤ d) (h : ∀ G : Nat → zK, S_X8_membersOnWay d G Q → G 0 [a0, a1, a2, a3, .inr none, .inr none] [] μ) : zCt d mX8_membersOnWay [a0, a1, a2, a3] μ Q := zCt.mk (by decide) (Nat.le_of_ble_eq_true rfl) (fun p l e s m args below meth c E B hr hlk => h _ ⟨k_X8_membersOnWay_0 hd1 B hr hlk, k_X8_membersOnWay_6 hd1 B hr hlk⟩)
theorem dX8_makeOneFolder_0 : decode cX8_makeOneFolder 0 = .ok (.aload_n 2, 1) := by decide +kernel
theorem dX8_makeOneFolder_1 : decode cX8_makeOneFolder 1 = .ok (.iconst 2, 1) := by decide +kernel
theorem dX8_makeOneFolder_2 : decode cX8_makeOneFolder 2 = .ok (.invokevirtual 56, 3) := by decide +kernel
theorem dX8_makeOneFolder_5 : decode cX8_makeOneFolder 5 = .ok (.aload_n 2, 1) := by decide +kernel
theorem dX8_makeOneFolder_6 : decode cX8_makeOneFolder 6 = .ok (.iload_n 1, 1) := by decide +kernel
theorem dX8_makeOneFolder_7 : decode cX8_makeOneFolder 7 = .ok (.invokestatic 33, 3) := by decide +kernel
theorem dX8_makeOneFolder_10 : decode cX8_makeOneFolder 10 = .ok (.invokevirtual 56, 3) := by decide +kernel
theorem dX8_makeOneFolder_13 : decode cX8_makeOneFolder 13 = .ok (.iconst 0, 1) := by decide +kernel
theorem dX8_makeOneFolder_14 : decode cX8_makeOneFolder 14 = .ok (.istore_n 3, 1) := by decide +kernel
theorem dX8_makeOneFolder_15 : decode cX8_makeOneFolder 15 = .ok (.iload_n 3, 1) := by decide +kernel
theorem dX8_makeOneFolder_16 : decode cX8_makeOneFolder 16 = .ok (.aload_n 0, 1) := by decide +kernel
theorem dX8_makeOneFolder_17 : decode cX8_makeOneFolder 17 = .ok (.getfield 16, 3) := by decide +kernel
theorem dX8_makeOneFolder_20 : decode cX8_makeOneFolder 20 = .ok (.if_icmp .ge 38, 3) := by decide +kernel
theorem dX8_makeOneFolder_23 : decode cX8_makeOneFolder 23 = .ok (.iload_n 1, 1) := by decide +kernel
theorem dX8_makeOneFolder_24 : decode cX8_makeOneFolder 24 = .ok (.iload_n 3, 1) := by decide +kernel
theorem dX8_makeOneFolder_25 : decode cX8_makeOneFolder 25 = .ok (.ishr, 1) := by decide +kernel
theorem dX8_makeOneFolder_26 : decode cX8_makeOneFolder 26 = .ok (.iconst 1, 1) := by decide +kernel
theorem dX8_makeOneFolder_27 : decode cX8_makeOneFolder 27 = .ok (.iand, 1) := by decide +kernel
theorem dX8_makeOneFolder_28 : decode cX8_makeOneFolder 28 = .ok (.iconst 1, 1) := by decide +kernel
theorem dX8_makeOneFolder_29 : decode cX8_makeOneFolder 29 = .ok (.if_icmp .ne 23, 3) := by decide +kernel
theorem dX8_makeOneFolder_32 : decode cX8_makeOneFolder 32 = .ok (.aload_n 2, 1) := by decide +kernel
theorem dX8_makeOneFolder_33 : decode cX8_makeOneFolder 33 = .ok (.aload_n 0, 1) := by decide +kernel
theorem dX8_makeOneFolder_34 : decode cX8_makeOneFolder 34 = .ok (.getfield 9, 3) := by decide +kernel
theorem dX8_makeOneFolder_37 : decode cX8_makeOneFolder 37 = .ok (.iload_n 3, 1) := by decide +kernel
theorem dX8_makeOneFolder_38 : decode cX8_makeOneFolder 38 = .ok (.iaload, 1) := by decide +kernel
theorem dX8_makeOneFolder_39 : decode cX8_makeOneFolder 39 = .ok (.invokevirtual 56, 3) := by decide +kernel
theorem dX8_makeOneFolder_42 : decode cX8_makeOneFolder 42 = .ok (.aload_n 2, 1) := by decide +kernel
theorem dX8_makeOneFolder_43 : decode cX8_makeOneFolder 43 = .ok (.aload_n 0, 1) := by decide +kernel
theorem dX8_makeOneFolder_44 : decode cX8_makeOneFolder 44 = .ok (.getfield 13, 3) := by decide +kernel
theorem dX8_makeOneFolder_47 : decode cX8_makeOneFolder 47 = .ok (.iload_n 3, 1) := by decide +kernel
theorem dX8_makeOneFolder_48 : decode cX8_makeOneFolder 48 = .ok (.iaload, 1) := by decide +kernel
theorem dX8_makeOneFolder_49 : decode cX8_makeOneFolder 49 = .ok (.invokevirtual 62, 3) := by decide +kernel
theorem dX8_makeOneFolder_52 : decode cX8_makeOneFolder 52 = .ok (.iinc 3 1, 3) := by decide +kernel
theorem dX8_makeOneFolder_55 : decode cX8_makeOneFolder 55 = .ok (.goto (-40), 3) := by decide +kernel
theorem dX8_makeOneFolder_58 : decode cX8_makeOneFolder 58 = .ok (.aload_n 2, 1) := by decide +kernel
theorem dX8_makeOneFolder_59 : decode cX8_makeOneFolder 59 = .ok (.invokevirtual 65, 3) := by decide +kernel
theorem dX8_makeOneFolder_62 : decode cX8_makeOneFolder 62 = .ok (.ireturn, 1) := by decide +kernel
def b_X8_makeOneFolder_0 (d : Nat) (G : Nat → zK) (Q : zQ) : zK := o_al 2 <| o_c 2 <| o_callv (zCt (d - 1) mX0_write) 0 2 <| o_al 2 <| o_il 1 <| o_call (zCt (d - 1) mJ6_bitCount_0f7a4) 1 <| o_callv (zCt (d - 1) mX0_write) 0 2 <| o_c 0 <| o_is 3 <| G 15
def b_X8_makeOneFolder_58 (d : Nat) (G : Nat → zK) (Q : zQ) : zK := o_al 2 <| o_callv (zCt (d - 1) mX0_finishBlock) 0 1 <| t_iret Q
def b_X8_makeOneFolder_52 (d : Nat) (G : Nat → zK) (Q : zQ) : zK := o_inc 3 1 <| G 15
def b_X8_makeOneFolder_32 (d : Nat) (G : Nat → zK) (Q : zQ) : zK := o_al 2 <| o_al 0 <| o_gf 6 0 <| o_il 3 <| o_iald <| o_callv (zCt (d - 1) mX0_write) 0 2 <| o_al 2 <| o_al 0 <| o_gf 6 1 <| o_il 3 <| o_iald <| o_callv (zCt (d - 1) mX0_writePair) 0 2 <| b_X8_makeOneFolder_52 d G Q
def b_X8_makeOneFolder_23 (d : Nat) (G : Nat → zK) (Q : zQ) : zK := o_il 1 <| o_il 3 <| o_shr <| o_c 1 <| o_and <| o_c 1 <| t_ieq (b_X8_makeOneFolder_32 d G Q) (b_X8_makeOneFolder_52 d G Q)
def b_X8_makeOneFolder_15 (d : Nat) (G : Nat → zK) (Q : zQ) : zK := o_il 3 <| o_al 0 <| o_gf 6 2 <| t_ilt (b_X8_makeOneFolder_23 d G Q) (b_X8_makeOneFolder_58 d G Q)
set_option maxRecDepth 20000 in
theorem k_X8_makeOneFolder_0 {p : Program} {l : Launch} {e : Env} {s : State} {m : MethodId} {args : Array Value} {below : List Frame} {meth : Method} {c : Code} {E : zE} {d : Nat} {Q : zQ} (hd1 : 1 ≤ d) (B : zB p s m args c E mX8_makeOneFolder.1.cls mX8_makeOneFolder.2.1 mX8_makeOneFolder.2.2.1) (hr : meth.sig.returnType = mX8_makeOneFolder.2.2.2) (hlk : meth.locks = false) : zLk (zG p l e (zrm d) s m args below meth c E mX8_makeOneFolder.2.2.1 0 0 (MQ below (zQc E Q) args s 0 0 (zaA E))) 0 (b_X8_makeOneFolder_0 d (zG p l e (zrm d) s m args below meth c E mX8_makeOneFolder.2.2.1 0 0 (MQ below (zQc E Q) args s 0 0 (zaA E))) Q) := by
  unfold b_X8_makeOneFolder_0
  exact lk_aln B dX8_makeOneFolder_0 rfl (lk_c B dX8_makeOneFolder_1 (lk_callv (M := mX0_write) (T := TX0) (N := 4) B (zhR hd1 (by decide)) ⟨Nat.zero_le _, Nat.zero_le _⟩ cl_X0 (zw5 zw_301 zw_517 zw_299 zw_300 zw_55) (by decide +kernel) dX8_makeOneFolder_2 (lk_aln B dX8_makeOneFolder_5 rfl (lk_iln B dX8_makeOneFolder_6 rfl (lk_calls (M := mJ6_bitCount_0f7a4) B (zhR hd1 (by decide)) ⟨Nat.zero_le _, Nat.zero_le _⟩ (zw4 zw_357 zw_512 zw_356 zw_61) (by decide +kernel) dX8_makeOneFolder_7 (lk_callv (M := mX0_write) (T := TX0) (N := 4) B (zhR hd1 (by decide)) ⟨Nat.zero_le _, Nat.zero_le _⟩ cl_X0 (zw5 zw_301 zw_517 zw_299 zw_300 zw_55) (by decide +kernel) dX8_makeOneFolder_10 (lk_c B dX8_makeOneFolder_13 (lk_isn B dX8_makeOneFolder_14 rfl (by decide) (fun _ _ _ h => h)))))))))
set_option maxRecDepth 20000 in
theorem k_X8_makeOneFolder_58 {p : Program} {l : Launch} {e : Env} {s : State} {m : MethodId} {args : Array Value} {below : List Frame} {meth : Method} {c : Code} {E : zE} {d : Nat} {Q : zQ} (hd1 : 1 ≤ d) (B : zB p s m args c E mX8_makeOneFolder.1.cls mX8_makeOneFolder.2.1 mX8_makeOneFolder.2.2.1) (hr : meth.sig.returnType = mX8_makeOneFolder.2.2.2) (hlk : meth.locks = false) : zLk (zG p l e (zrm d) s m args below meth c E mX8_makeOneFolder.2.2.1 0 0 (MQ below (zQc E Q) args s 0 0 (zaA E))) 58 (b_X8_makeOneFolder_58 d (zG p l e (zrm d) s m args below meth c E mX8_makeOneFolder.2.2.1 0 0 (MQ below (zQc E Q) args s 0 0 (zaA E))) Q) := by
  unfold b_X8_makeOneFolder_58
  exact lk_aln B dX8_makeOneFolder_58 rfl (lk_callv (M := mX0_finishBlock) (T := TX0) (N := 4) B (zhR hd1 (by decide)) ⟨Nat.zero_le _, Nat.zero_le _⟩ cl_X0 (zw5 zw_305 zw_519 zw_303 zw_304 zw_55) (by decide +kernel) dX8_makeOneFolder_59 (lk_iret B hr hlk dX8_makeOneFolder_62))
set_option maxRecDepth 20000 in
theorem k_X8_makeOneFolder_52 {p : Program} {l : Launch} {e : Env} {s : State} {m : MethodId} {args : Array Value} {below : List Frame} {meth : Method} {c : Code} {E : zE} {d : Nat} {Q : zQ} (hd1 : 1 ≤ d) (B : zB p s m args c E mX8_makeOneFolder.1.cls mX8_makeOneFolder.2.1 mX8_makeOneFolder.2.2.1) (hr : meth.sig.returnType = mX8_makeOneFolder.2.2.2) (hlk : meth.locks = false) : zLk (zG p l e (zrm d) s m args below meth c E mX8_makeOneFolder.2.2.1 0 0 (MQ below (zQc E Q) args s 0 0 (zaA E))) 52 (b_X8_makeOneFolder_52 d (zG p l e (zrm d) s m args below meth c E mX8_makeOneFolder.2.2.1 0 0 (MQ below (zQc E Q) args s 0 0 (zaA E))) Q) := by
  unfold b_X8_makeOneFolder_52
  exact lk_inc B dX8_makeOneFolder_52 (by decide) (lk_goto B dX8_makeOneFolder_55 (by decide) (fun _ _ _ h => h))
set_option maxRecDepth 20000 in
theorem k_X8_makeOneFolder_32 {p : Program} {l : Launch} {e : Env} {s : State} {m : MethodId} {args : Array Value} {below : List Frame} {meth : Method} {c : Code} {E : zE} {d : Nat} {Q : zQ} (hd1 : 1 ≤ d) (B : zB p s m args c E mX8_makeOneFolder.1.cls mX8_makeOneFolder.2.1 mX8_makeOneFolder.2.2.1) (hr : meth.sig.returnType = mX8_makeOneFolder.2.2.2) (hlk : meth.locks = false) : zLk (zG p l e (zrm d) s m args below meth c E mX8_makeOneFolder.2.2.1 0 0 (MQ below (zQc E Q) args s 0 0 (zaA E))) 32 (b_X8_makeOneFolder_32 d (zG p l e (zrm d) s m args below meth c E mX8_makeOneFolder.2.2.1 0 0 (MQ below (zQc E Q) args s 0 0 (zaA E))) Q) := by
  unfold b_X8_makeOneFolder_32
  exact lk_aln B dX8_makeOneFolder_32 rfl (lk_aln B dX8_makeOneFolder_33 rfl (lk_gf (T := TX8) B cl_X8 (by decide) in_X8 zw_157 dX8_makeOneFolder_34 (lk_iln B dX8_makeOneFolder_37 rfl (lk_iald B dX8_makeOneFolder_38 (lk_callv (M := mX0_write) (T := TX0) (N := 4) B (zhR hd1 (by decide)) ⟨Nat.zero_le _, Nat.zero_le _⟩ cl_X0 (zw5 zw_301 zw_517 zw_299 zw_300 zw_55) (by decide +kernel) dX8_makeOneFolder_39 (lk_aln B dX8_makeOneFolder_42 rfl (lk_aln B dX8_makeOneFolder_43 rfl (lk_gf (T := TX8) B cl_X8 (by decide) in_X8 zw_158 dX8_makeOneFolder_44 (lk_iln B dX8_makeOneFolder_47 rfl (lk_iald B dX8_makeOneFolder_48 (lk_callv (M := mX0_writePair) (T := TX0) (N := 4) B (zhR hd1 (by decide)) ⟨Nat.zero_le _, Nat.zero_le _⟩ cl_X0 (zw5 zw_488 zw_518 zw_486 zw_487 zw_55) (by decide +kernel) dX8_makeOneFolder_49 (k_X8_makeOneFolder_52 hd1 B hr hlk))))))))))))
set_option maxRecDepth 20000 in
theorem k_X8_makeOneFolder_23 {p : Program} {l : Launch} {e : Env} {s : State} {m : MethodId} {args : Array Value} {below : List Frame} {meth : Method} {c : Code} {E : zE} {d : Nat} {Q : zQ} (hd1 : 1 ≤ d) (B : zB p s m args c E mX8_makeOneFolder.1.cls mX8_makeOneFolder.2.1 mX8_makeOneFolder.2.2.1) (hr : meth.sig.returnType = mX8_makeOneFolder.2.2.2) (hlk : meth.locks = false) : zLk (zG p l e (zrm d) s m args below meth c E mX8_makeOneFolder.2.2.1 0 0 (MQ below (zQc E Q) args s 0 0 (zaA E))) 23 (b_X8_makeOneFolder_23 d (zG p l e (zrm d) s m args below meth c E mX8_makeOneFolder.2.2.1 0 0 (MQ below (zQc E Q) args s 0 0 (zaA E))) Q) := by
  unfold b_X8_makeOneFolder_23
  exact lk_iln B dX8_makeOneFolder_23 rfl (lk_iln B dX8_makeOneFolder_24 rfl (lk_shr B dX8_makeOneFolder_25 (lk_c B dX8_makeOneFolder_26 (lk_and B dX8_makeOneFolder_27 (lk_c B dX8_makeOneFolder_28 (lk_ine B dX8_makeOneFolder_29 (by decide) (k_X8_makeOneFolder_52 hd1 B hr hlk) (k_X8_makeOneFolder_32 hd1 B hr hlk)))))))
set_option maxRecDepth 20000 in
theorem k_X8_makeOneFolder_15 {p : Program} {l : Launch} {e : Env} {s : State} {m : MethodId} {args : Array Value} {below : List Frame} {meth : Method} {c : Code} {E : zE} {d : Nat} {Q : zQ} (hd1 : 1 ≤ d) (B : zB p s m args c E mX8_makeOneFolder.1.cls mX8_makeOneFolder.2.1 mX8_makeOneFolder.2.2.1) (hr : meth.sig.returnType = mX8_makeOneFolder.2.2.2) (hlk : meth.locks = false) : zLk (zG p l e (zrm d) s m args below meth c E mX8_makeOneFolder.2.2.1 0 0 (MQ below (zQc E Q) args s 0 0 (zaA E))) 15 (b_X8_makeOneFolder_15 d (zG p l e (zrm d) s m args below meth c E mX8_makeOneFolder.2.2.1 0 0 (MQ below (zQc E Q) args s 0 0 (zaA E))) Q) := by
  unfold b_X8_makeOneFolder_15
  exact lk_iln B dX8_makeOneFolder_15 rfl (lk_aln B dX8_makeOneFolder_16 rfl (lk_gf (T := TX8) B cl_X8 (by decide) in_X8 zw_159 dX8_makeOneFolder_17 (lk_ige B dX8_makeOneFolder_20 (by decide) (k_X8_makeOneFolder_58 hd1 B hr hlk) (k_X8_makeOneFolder_23 hd1 B hr hlk))))
def S_X8_makeOneFolder (d : Nat) (G : Nat → zK) (Q : zQ) : Prop := zLk G 0 (b_X8_makeOneFolder_0 d G Q) ∧ zLk G 15 (b_X8_makeOneFolder_15 d G Q)
theorem s_X8_makeOneFolder_0 {d : Nat} {G : Nat → zK} {Q : zQ} (h : S_X8_makeOneFolder d G Q) {ls st : List zV} {μ : zM} (k : b_X8_makeOneFolder_0 d G Q ls st μ) : G 0 ls st μ := h.1 ls st μ k
theorem s_X8_makeOneFolder_15 {d : Nat} {G : Nat → zK} {Q : zQ} (h : S_X8_makeOneFolder d G Q) {ls st : List zV} {μ : zM} (k : b_X8_makeOneFolder_15 d G Q ls st μ) : G 15 ls st μ := h.2 ls st μ k
theorem of_X8_makeOneFolder {d : Nat} {a0 a1 a2 : zV} {μ : zM} {Q : zQ} (hd1 : 1 ≤ d) (h : ∀ G : Nat → zK, S_X8_makeOneFolder d G Q → G 0 [a0, a1, a2, .inr none] [] μ) : zCt d mX8_makeOneFolder [a0, a1, a2] μ Q := zCt.mk (by decide) (Nat.le_of_ble_eq_true rfl) (fun p l e s m args below meth c E B hr hlk => h _ ⟨k_X8_makeOneFolder_0 hd1 B hr hlk, k_X8_makeOneFolder_15 hd1 B hr hlk⟩)
theorem dX8_makeShard_0 : decode cX8_makeShard 0 = .ok (.aload_n 3, 1) := by decide +kernel
theorem dX8_makeShard_1 : decode cX8_makeShard 1 = .ok (.iconst 3, 1) := by decide +kernel
theorem dX8_makeShard_2 : decode cX8_makeShard 2 = .ok (.invokevirtual 56, 3) := by decide +kernel
theorem dX8_makeShard_5 : decode cX8_makeShard 5 = .ok (.aload_n 3, 1) := by decide +kernel
theorem dX8_makeShard_6 : decode cX8_makeShard 6 = .ok (.iload_n 1, 1) := by decide +kernel
theorem dX8_makeShard_7 : decode cX8_makeShard 7 = .ok (.invokevirtual 56, 3) := by decide +kernel
theorem dX8_makeShard_10 : decode cX8_makeShard 10 = .ok (.iconst 0, 1) := by decide +kernel
theorem dX8_makeShard_11 : decode cX8_makeShard 11 = .ok (.istore 4, 2) := by decide +kernel
theorem dX8_makeShard_13 : decode cX8_makeShard 13 = .ok (.iload 4, 2) := by decide +kernel
theorem dX8_makeShard_15 : decode cX8_makeShard 15 = .ok (.iconst 4, 1) := by decide +kernel
theorem dX8_makeShard_16 : decode cX8_makeShard 16 = .ok (.if_icmp .ge 34, 3) := by decide +kernel
theorem dX8_makeShard_19 : decode cX8_makeShard 19 = .ok (.iload_n 1, 1) := by decide +kernel
theorem dX8_makeShard_20 : decode cX8_makeShard 20 = .ok (.iload 4, 2) := by decide +kernel
theorem dX8_makeShard_22 : decode cX8_makeShard 22 = .ok (.ishr, 1) := by decide +kernel
theorem dX8_makeShard_23 : decode cX8_makeShard 23 = .ok (.iconst 1, 1) := by decide +kernel
theorem dX8_makeShard_24 : decode cX8_makeShard 24 = .ok (.iand, 1) := by decide +kernel
theorem dX8_makeShard_25 : decode cX8_makeShard 25 = .ok (.iconst 1, 1) := by decide +kernel
theorem dX8_makeShard_26 : decode cX8_makeShard 26 = .ok (.if_icmp .ne 18, 3) := by decide +kernel
theorem dX8_makeShard_29 : decode cX8_makeShard 29 = .ok (.aload_n 3, 1) := by decide +kernel
theorem dX8_makeShard_30 : decode cX8_makeShard 30 = .ok (.aload_n 0, 1) := by decide +kernel
theorem dX8_makeShard_31 : decode cX8_makeShard 31 = .ok (.getfield 20, 3) := by decide +kernel
theorem dX8_makeShard_34 : decode cX8_makeShard 34 = .ok (.iconst 4, 1) := by decide +kernel
theorem dX8_makeShard_35 : decode cX8_makeShard 35 = .ok (.iload_n 2, 1) := by decide +kernel
theorem dX8_makeShard_36 : decode cX8_makeShard 36 = .ok (.imul, 1) := by decide +kernel
theorem dX8_makeShard_37 : decode cX8_makeShard 37 = .ok (.iload 4, 2) := by decide +kernel
theorem dX8_makeShard_39 : decode cX8_makeShard 39 = .ok (.iadd, 1) := by decide +kernel
theorem dX8_makeShard_40 : decode cX8_makeShard 40 = .ok (.iaload, 1) := by decide +kernel
theorem dX8_makeShard_41 : decode cX8_makeShard 41 = .ok (.invokevirtual 62, 3) := by decide +kernel
theorem dX8_makeShard_44 : decode cX8_makeShard 44 = .ok (.iinc 4 1, 3) := by decide +kernel
theorem dX8_makeShard_47 : decode cX8_makeShard 47 = .ok (.goto (-34), 3) := by decide +kernel
theorem dX8_makeShard_50 : decode cX8_makeShard 50 = .ok (.aload_n 3, 1) := by decide +kernel
theorem dX8_makeShard_51 : decode cX8_makeShard 51 = .ok (.invokevirtual 65, 3) := by decide +kernel
theorem dX8_makeShard_54 : decode cX8_makeShard 54 = .ok (.ireturn, 1) := by decide +kernel
def b_X8_makeShard_0 (d : Nat) (G : Nat → zK) (Q : zQ) : zK := o_al 3 <| o_c 3 <| o_callv (zCt (d - 1) mX0_write) 0 2 <| o_al 3 <| o_il 1 <| o_callv (zCt (d - 1) mX0_write) 0 2 <| o_c 0 <| o_is 4 <| G 13
def b_X8_makeShard_50 (d : Nat) (G : Nat → zK) (Q : zQ) : zK := o_al 3 <| o_callv (zCt (d - 1) mX0_finishBlock) 0 1 <| t_iret Q
def b_X8_makeShard_44 (d : Nat) (G : Nat → zK) (Q : zQ) : zK := o_inc 4 1 <| G 13
def b_X8_makeShard_29 (d : Nat) (G : Nat → zK) (Q : zQ) : zK := o_al 3 <| o_al 0 <| o_gf 6 3 <| o_c 4 <| o_il 2 <| o_mul <| o_il 4 <| o_add <| o_iald <| o_callv (zCt (d - 1) mX0_writePair) 0 2 <| b_X8_makeShard_44 d G Q
def b_X8_makeShard_19 (d : Nat) (G : Nat → zK) (Q : zQ) : zK := o_il 1 <| o_il 4 <| o_shr <| o_c 1 <| o_and <| o_c 1 <| t_ieq (b_X8_makeShard_29 d G Q) (b_X8_makeShard_44 d G Q)
def b_X8_makeShard_13 (d : Nat) (G : Nat → zK) (Q : zQ) : zK := o_il 4 <| o_c 4 <| t_ilt (b_X8_makeShard_19 d G Q) (b_X8_makeShard_50 d G Q)
set_option maxRecDepth 20000 in
theorem k_X8_makeShard_0 {p : Program} {l : Launch} {e : Env} {s : State} {m : MethodId} {args : Array Value} {below : List Frame} {meth : Method} {c : Code} {E : zE} {d : Nat} {Q : zQ} (hd1 : 1 ≤ d) (B : zB p s m args c E mX8_makeShard.1.cls mX8_makeShard.2.1 mX8_makeShard.2.2.1) (hr : meth.sig.returnType = mX8_makeShard.2.2.2) (hlk : meth.locks = false) : zLk (zG p l e (zrm d) s m args below meth c E mX8_makeShard.2.2.1 0 0 (MQ below (zQc E Q) args s 0 0 (zaA E))) 0 (b_X8_makeShard_0 d (zG p l e (zrm d) s m args below meth c E mX8_makeShard.2.2.1 0 0 (MQ below (zQc E Q) args s 0 0 (zaA E))) Q) := by
  unfold b_X8_makeShard_0
  exact lk_aln B dX8_makeShard_0 rfl (lk_c B dX8_makeShard_1 (lk_callv (M := mX0_write) (T := TX0) (N := 4) B (zhR hd1 (by decide)) ⟨Nat.zero_le _, Nat.zero_le _⟩ cl_X0 (zw5 zw_301 zw_517 zw_299 zw_300 zw_55) (by decide +kernel) dX8_makeShard_2 (lk_aln B dX8_makeShard_5 rfl (lk_iln B dX8_makeShard_6 rfl (lk_callv (M := mX0_write) (T := TX0) (N := 4) B (zhR hd1 (by decide)) ⟨Nat.zero_le _, Nat.zero_le _⟩ cl_X0 (zw5 zw_301 zw_517 zw_299 zw_300 zw_55) (by decide +kernel) dX8_makeShard_7 (lk_c B dX8_makeShard_10 (lk_is B dX8_makeShard_11 (by decide) (fun _ _ _ h => h))))))))
set_option maxRecDepth 20000 in
theorem k_X8_makeShard_50 {p : Program} {l : Launch} {e : Env} {s : State} {m : MethodId} {args : Array Value} {below : List Frame} {meth : Method} {c : Code} {E : zE} {d : Nat} {Q : zQ} (hd1 : 1 ≤ d) (B : zB p s m args c E mX8_makeShard.1.cls mX8_makeShard.2.1 mX8_makeShard.2.2.1) (hr : meth.sig.returnType = mX8_makeShard.2.2.2) (hlk : meth.locks = false) : zLk (zG p l e (zrm d) s m args below meth c E mX8_makeShard.2.2.1 0 0 (MQ below (zQc E Q) args s 0 0 (zaA E))) 50 (b_X8_makeShard_50 d (zG p l e (zrm d) s m args below meth c E mX8_makeShard.2.2.1 0 0 (MQ below (zQc E Q) args s 0 0 (zaA E))) Q) := by
  unfold b_X8_makeShard_50
  exact lk_aln B dX8_makeShard_50 rfl (lk_callv (M := mX0_finishBlock) (T := TX0) (N := 4) B (zhR hd1 (by decide)) ⟨Nat.zero_le _, Nat.zero_le _⟩ cl_X0 (zw5 zw_305 zw_519 zw_303 zw_304 zw_55) (by decide +kernel) dX8_makeShard_51 (lk_iret B hr hlk dX8_makeShard_54))
set_option maxRecDepth 20000 in
theorem k_X8_makeShard_44 {p : Program} {l : Launch} {e : Env} {s : State} {m : MethodId} {args : Array Value} {below : List Frame} {meth : Method} {c : Code} {E : zE} {d : Nat} {Q : zQ} (hd1 : 1 ≤ d) (B : zB p s m args c E mX8_makeShard.1.cls mX8_makeShard.2.1 mX8_makeShard.2.2.1) (hr : meth.sig.returnType = mX8_makeShard.2.2.2) (hlk : meth.locks = false) : zLk (zG p l e (zrm d) s m args below meth c E mX8_makeShard.2.2.1 0 0 (MQ below (zQc E Q) args s 0 0 (zaA E))) 44 (b_X8_makeShard_44 d (zG p l e (zrm d) s m args below meth c E mX8_makeShard.2.2.1 0 0 (MQ below (zQc E Q) args s 0 0 (zaA E))) Q) := by
  unfold b_X8_makeShard_44
  exact lk_inc B dX8_makeShard_44 (by decide) (lk_goto B dX8_makeShard_47 (by decide) (fun _ _ _ h => h))
set_option maxRecDepth 20000 in
theorem k_X8_makeShard_29 {p : Program} {l : Launch} {e : Env} {s : State} {m : MethodId} {args : Array Value} {below : List Frame} {meth : Method} {c : Code} {E : zE} {d : Nat} {Q : zQ} (hd1 : 1 ≤ d) (B : zB p s m args c E mX8_makeShard.1.cls mX8_makeShard.2.1 mX8_makeShard.2.2.1) (hr : meth.sig.returnType = mX8_makeShard.2.2.2) (hlk : meth.locks = false) : zLk (zG p l e (zrm d) s m args below meth c E mX8_makeShard.2.2.1 0 0 (MQ below (zQc E Q) args s 0 0 (zaA E))) 29 (b_X8_makeShard_29 d (zG p l e (zrm d) s m args below meth c E mX8_makeShard.2.2.1 0 0 (MQ below (zQc E Q) args s 0 0 (zaA E))) Q) := by
  unfold b_X8_makeShard_29
  exact lk_aln B dX8_makeShard_29 rfl (lk_aln B dX8_makeShard_30 rfl (lk_gf (T := TX8) B cl_X8 (by decide) in_X8 zw_160 dX8_makeShard_31 (lk_c B dX8_makeShard_34 (lk_iln B dX8_makeShard_35 rfl (lk_mul B dX8_makeShard_36 (lk_il B dX8_makeShard_37 (lk_add B dX8_makeShard_39 (lk_iald B dX8_makeShard_40 (lk_callv (M := mX0_writePair) (T := TX0) (N := 4) B (zhR hd1 (by decide)) ⟨Nat.zero_le _, Nat.zero_le _⟩ cl_X0 (zw5 zw_488 zw_518 zw_486 zw_487 zw_55) (by decide +kernel) dX8_makeShard_41 (k_X8_makeShard_44 hd1 B hr hlk))))))))))
set_option maxRecDepth 20000 in
theorem k_X8_makeShard_19 {p : Program} {l : Launch} {e : Env} {s : State} {m : MethodId} {args : Array Value} {below : List Frame} {meth : Method} {c : Code} {E : zE} {d : Nat} {Q : zQ} (hd1 : 1 ≤ d) (B : zB p s m args c E mX8_makeShard.1.cls mX8_makeShard.2.1 mX8_makeShard.2.2.1) (hr : meth.sig.returnType = mX8_makeShard.2.2.2) (hlk : meth.locks = false) : zLk (zG p l e (zrm d) s m args below meth c E mX8_makeShard.2.2.1 0 0 (MQ below (zQc E Q) args s 0 0 (zaA E))) 19 (b_X8_makeShard_19 d (zG p l e (zrm d) s m args below meth c E mX8_makeShard.2.2.1 0 0 (MQ below (zQc E Q) args s 0 0 (zaA E))) Q) := by
  unfold b_X8_makeShard_19
  exact lk_iln B dX8_makeShard_19 rfl (lk_il B dX8_makeShard_20 (lk_shr B dX8_makeShard_22 (lk_c B dX8_makeShard_23 (lk_and B dX8_makeShard_24 (lk_c B dX8_makeShard_25 (lk_ine B dX8_makeShard_26 (by decide) (k_X8_makeShard_44 hd1 B hr hlk) (k_X8_makeShard_29 hd1 B hr hlk)))))))
set_option maxRecDepth 20000 in
theorem k_X8_makeShard_13 {p : Program} {l : Launch} {e : Env} {s : State} {m : MethodId} {args : Array Value} {below : List Frame} {meth : Method} {c : Code} {E : zE} {d : Nat} {Q : zQ} (hd1 : 1 ≤ d) (B : zB p s m args c E mX8_makeShard.1.cls mX8_makeShard.2.1 mX8_makeShard.2.2.1) (hr : meth.sig.returnType = mX8_makeShard.2.2.2) (hlk : meth.locks = false) : zLk (zG p l e (zrm d) s m args below meth c E mX8_makeShard.2.2.1 0 0 (MQ below (zQc E Q) args s 0 0 (zaA E))) 13 (b_X8_makeShard_13 d (zG p l e (zrm d) s m args below meth c E mX8_makeShard.2.2.1 0 0 (MQ below (zQc E Q) args s 0 0 (zaA E))) Q) := by
  unfold b_X8_makeShard_13
  exact lk_il B dX8_makeShard_13 (lk_c B dX8_makeShard_15 (lk_ige B dX8_makeShard_16 (by decide) (k_X8_makeShard_50 hd1 B hr hlk) (k_X8_makeShard_19 hd1 B hr hlk)))
def S_X8_makeShard (d : Nat) (G : Nat → zK) (Q : zQ) : Prop := zLk G 0 (b_X8_makeShard_0 d G Q) ∧ zLk G 13 (b_X8_makeShard_13 d G Q)
theorem s_X8_makeShard_0 {d : Nat} {G : Nat → zK} {Q : zQ} (h : S_X8_makeShard d G Q) {ls st : List zV} {μ : zM} (k : b_X8_makeShard_0 d G Q ls st μ) : G 0 ls st μ := h.1 ls st μ k
theorem s_X8_makeShard_13 {d : Nat} {G : Nat → zK} {Q : zQ} (h : S_X8_makeShard d G Q) {ls st : List zV} {μ : zM} (k : b_X8_makeShard_13 d G Q ls st μ) : G 13 ls st μ := h.2 ls st μ k
theorem of_X8_makeShard {d : Nat} {a0 a1 a2 a3 : zV} {μ : zM} {Q : zQ} (hd1 : 1 ≤ d) (h : ∀ G : Nat → zK, S_X8_makeShard d G Q → G 0 [a0, a1, a2, a3, .inr none] [] μ) : zCt d mX8_makeShard [a0, a1, a2, a3] μ Q := zCt.mk (by decide) (Nat.le_of_ble_eq_true rfl) (fun p l e s m args below meth c E B hr hlk => h _ ⟨k_X8_makeShard_0 hd1 B hr hlk, k_X8_makeShard_13 hd1 B hr hlk⟩)
